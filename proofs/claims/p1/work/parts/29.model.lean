theorem dX7_does_0 : decode cX7_does 0 = .ok (.aload_n 1, 1) := by decide +kernel
theorem dX7_does_1 : decode cX7_does 1 = .ok (.iconst 1, 1) := by decide +kernel
theorem dX7_does_2 : decode cX7_does 2 = .ok (.iaload, 1) := by decide +kernel
theorem dX7_does_3 : decode cX7_does 3 = .ok (.istore_n 2, 1) := by decide +kernel
theorem dX7_does_4 : decode cX7_does 4 = .ok (.aload_n 1, 1) := by decide +kernel
theorem dX7_does_5 : decode cX7_does 5 = .ok (.iconst 2, 1) := by decide +kernel
theorem dX7_does_6 : decode cX7_does 6 = .ok (.iaload, 1) := by decide +kernel
theorem dX7_does_7 : decode cX7_does 7 = .ok (.istore_n 3, 1) := by decide +kernel
theorem dX7_does_8 : decode cX7_does 8 = .ok (.aload_n 1, 1) := by decide +kernel
theorem dX7_does_9 : decode cX7_does 9 = .ok (.iconst 0, 1) := by decide +kernel
theorem dX7_does_10 : decode cX7_does 10 = .ok (.iaload, 1) := by decide +kernel
theorem dX7_does_11 : decode cX7_does 11 = .ok (.tableswitch 316 98 119 #[192, 101, 316, 316, 316, 152, 316, 251, 316, 162, 172, 316, 316, 316, 316, 316, 182, 219, 269, 316, 211, 227], 101) := by decide +kernel
theorem dX7_does_112 : decode cX7_does 112 = .ok (.aload_n 0, 1) := by decide +kernel
theorem dX7_does_113 : decode cX7_does 113 = .ok (.getfield 9, 3) := by decide +kernel
theorem dX7_does_116 : decode cX7_does 116 = .ok (.iload_n 2, 1) := by decide +kernel
theorem dX7_does_117 : decode cX7_does 117 = .ok (.iload_n 3, 1) := by decide +kernel
theorem dX7_does_118 : decode cX7_does 118 = .ok (.iastore, 1) := by decide +kernel
theorem dX7_does_119 : decode cX7_does 119 = .ok (.aload_n 0, 1) := by decide +kernel
theorem dX7_does_120 : decode cX7_does 120 = .ok (.getfield 15, 3) := by decide +kernel
theorem dX7_does_123 : decode cX7_does 123 = .ok (.iload_n 2, 1) := by decide +kernel
theorem dX7_does_124 : decode cX7_does 124 = .ok (.aload_n 1, 1) := by decide +kernel
theorem dX7_does_125 : decode cX7_does 125 = .ok (.iconst 3, 1) := by decide +kernel
theorem dX7_does_126 : decode cX7_does 126 = .ok (.iaload, 1) := by decide +kernel
theorem dX7_does_127 : decode cX7_does 127 = .ok (.iastore, 1) := by decide +kernel
theorem dX7_does_128 : decode cX7_does 128 = .ok (.aload_n 0, 1) := by decide +kernel
theorem dX7_does_129 : decode cX7_does 129 = .ok (.bipush 119, 2) := by decide +kernel
theorem dX7_does_131 : decode cX7_does 131 = .ok (.aload_n 1, 1) := by decide +kernel
theorem dX7_does_132 : decode cX7_does 132 = .ok (.iconst 4, 1) := by decide +kernel
theorem dX7_does_133 : decode cX7_does 133 = .ok (.iaload, 1) := by decide +kernel
theorem dX7_does_134 : decode cX7_does 134 = .ok (.aload_n 0, 1) := by decide +kernel
theorem dX7_does_135 : decode cX7_does 135 = .ok (.getfield 18, 3) := by decide +kernel
theorem dX7_does_138 : decode cX7_does 138 = .ok (.iload_n 2, 1) := by decide +kernel
theorem dX7_does_139 : decode cX7_does 139 = .ok (.iaload, 1) := by decide +kernel
theorem dX7_does_140 : decode cX7_does 140 = .ok (.isub, 1) := by decide +kernel
theorem dX7_does_141 : decode cX7_does 141 = .ok (.invokevirtual 132, 3) := by decide +kernel
theorem dX7_does_144 : decode cX7_does 144 = .ok (.aload_n 0, 1) := by decide +kernel
theorem dX7_does_145 : decode cX7_does 145 = .ok (.getfield 18, 3) := by decide +kernel
theorem dX7_does_148 : decode cX7_does 148 = .ok (.iload_n 2, 1) := by decide +kernel
theorem dX7_does_149 : decode cX7_does 149 = .ok (.aload_n 1, 1) := by decide +kernel
theorem dX7_does_150 : decode cX7_does 150 = .ok (.iconst 4, 1) := by decide +kernel
theorem dX7_does_151 : decode cX7_does 151 = .ok (.iaload, 1) := by decide +kernel
theorem dX7_does_152 : decode cX7_does 152 = .ok (.iastore, 1) := by decide +kernel
theorem dX7_does_153 : decode cX7_does 153 = .ok (.aload_n 0, 1) := by decide +kernel
theorem dX7_does_154 : decode cX7_does 154 = .ok (.getfield 21, 3) := by decide +kernel
theorem dX7_does_157 : decode cX7_does 157 = .ok (.iload_n 2, 1) := by decide +kernel
theorem dX7_does_158 : decode cX7_does 158 = .ok (.iconst 0, 1) := by decide +kernel
theorem dX7_does_159 : decode cX7_does 159 = .ok (.iastore, 1) := by decide +kernel
theorem dX7_does_160 : decode cX7_does 160 = .ok (.goto 186, 3) := by decide +kernel
theorem dX7_does_163 : decode cX7_does 163 = .ok (.aload_n 0, 1) := by decide +kernel
theorem dX7_does_164 : decode cX7_does 164 = .ok (.getfield 24, 3) := by decide +kernel
theorem dX7_does_167 : decode cX7_does 167 = .ok (.iload_n 2, 1) := by decide +kernel
theorem dX7_does_168 : decode cX7_does 168 = .ok (.iload_n 3, 1) := by decide +kernel
theorem dX7_does_169 : decode cX7_does 169 = .ok (.iastore, 1) := by decide +kernel
theorem dX7_does_170 : decode cX7_does 170 = .ok (.goto 176, 3) := by decide +kernel
theorem dX7_does_173 : decode cX7_does 173 = .ok (.aload_n 0, 1) := by decide +kernel
theorem dX7_does_174 : decode cX7_does 174 = .ok (.getfield 27, 3) := by decide +kernel
theorem dX7_does_177 : decode cX7_does 177 = .ok (.iload_n 2, 1) := by decide +kernel
theorem dX7_does_178 : decode cX7_does 178 = .ok (.iload_n 3, 1) := by decide +kernel
theorem dX7_does_179 : decode cX7_does 179 = .ok (.iastore, 1) := by decide +kernel
theorem dX7_does_180 : decode cX7_does 180 = .ok (.goto 166, 3) := by decide +kernel
theorem dX7_does_183 : decode cX7_does 183 = .ok (.aload_n 0, 1) := by decide +kernel
theorem dX7_does_184 : decode cX7_does 184 = .ok (.getfield 30, 3) := by decide +kernel
theorem dX7_does_187 : decode cX7_does 187 = .ok (.iload_n 2, 1) := by decide +kernel
theorem dX7_does_188 : decode cX7_does 188 = .ok (.iload_n 3, 1) := by decide +kernel
theorem dX7_does_189 : decode cX7_does 189 = .ok (.iastore, 1) := by decide +kernel
theorem dX7_does_190 : decode cX7_does 190 = .ok (.goto 156, 3) := by decide +kernel
theorem dX7_does_193 : decode cX7_does 193 = .ok (.aload_n 0, 1) := by decide +kernel
theorem dX7_does_194 : decode cX7_does 194 = .ok (.getfield 33, 3) := by decide +kernel
theorem dX7_does_197 : decode cX7_does 197 = .ok (.iload_n 2, 1) := by decide +kernel
theorem dX7_does_198 : decode cX7_does 198 = .ok (.iload_n 3, 1) := by decide +kernel
theorem dX7_does_199 : decode cX7_does 199 = .ok (.iastore, 1) := by decide +kernel
theorem dX7_does_200 : decode cX7_does 200 = .ok (.goto 146, 3) := by decide +kernel
theorem dX7_does_203 : decode cX7_does 203 = .ok (.aload_n 0, 1) := by decide +kernel
theorem dX7_does_204 : decode cX7_does 204 = .ok (.getfield 36, 3) := by decide +kernel
theorem dX7_does_207 : decode cX7_does 207 = .ok (.iload_n 2, 1) := by decide +kernel
theorem dX7_does_208 : decode cX7_does 208 = .ok (.iload_n 3, 1) := by decide +kernel
theorem dX7_does_209 : decode cX7_does 209 = .ok (.iastore, 1) := by decide +kernel
theorem dX7_does_210 : decode cX7_does 210 = .ok (.aload_n 0, 1) := by decide +kernel
theorem dX7_does_211 : decode cX7_does 211 = .ok (.getfield 39, 3) := by decide +kernel
theorem dX7_does_214 : decode cX7_does 214 = .ok (.iload_n 2, 1) := by decide +kernel
theorem dX7_does_215 : decode cX7_does 215 = .ok (.aload_n 1, 1) := by decide +kernel
theorem dX7_does_216 : decode cX7_does 216 = .ok (.iconst 3, 1) := by decide +kernel
theorem dX7_does_217 : decode cX7_does 217 = .ok (.iaload, 1) := by decide +kernel
theorem dX7_does_218 : decode cX7_does 218 = .ok (.iastore, 1) := by decide +kernel
theorem dX7_does_219 : decode cX7_does 219 = .ok (.goto 127, 3) := by decide +kernel
theorem dX7_does_222 : decode cX7_does 222 = .ok (.aload_n 0, 1) := by decide +kernel
theorem dX7_does_223 : decode cX7_does 223 = .ok (.iload_n 2, 1) := by decide +kernel
theorem dX7_does_224 : decode cX7_does 224 = .ok (.putfield 155, 3) := by decide +kernel
theorem dX7_does_227 : decode cX7_does 227 = .ok (.goto 119, 3) := by decide +kernel
theorem dX7_does_230 : decode cX7_does 230 = .ok (.aload_n 0, 1) := by decide +kernel
theorem dX7_does_231 : decode cX7_does 231 = .ok (.iload_n 2, 1) := by decide +kernel
theorem dX7_does_232 : decode cX7_does 232 = .ok (.putfield 158, 3) := by decide +kernel
theorem dX7_does_235 : decode cX7_does 235 = .ok (.goto 111, 3) := by decide +kernel
theorem dX7_does_238 : decode cX7_does 238 = .ok (.aload_n 0, 1) := by decide +kernel
theorem dX7_does_239 : decode cX7_does 239 = .ok (.getfield 51, 3) := by decide +kernel
theorem dX7_does_242 : decode cX7_does 242 = .ok (.new 79, 3) := by decide +kernel
theorem dX7_does_245 : decode cX7_does 245 = .ok (.dup, 1) := by decide +kernel
theorem dX7_does_246 : decode cX7_does 246 = .ok (.iload_n 2, 1) := by decide +kernel
theorem dX7_does_247 : decode cX7_does 247 = .ok (.iload_n 3, 1) := by decide +kernel
theorem dX7_does_248 : decode cX7_does 248 = .ok (.aload_n 1, 1) := by decide +kernel
theorem dX7_does_249 : decode cX7_does 249 = .ok (.iconst 3, 1) := by decide +kernel
theorem dX7_does_250 : decode cX7_does 250 = .ok (.iaload, 1) := by decide +kernel
theorem dX7_does_251 : decode cX7_does 251 = .ok (.invokespecial 199, 3) := by decide +kernel
theorem dX7_does_254 : decode cX7_does 254 = .ok (.invokevirtual 202, 3) := by decide +kernel
theorem dX7_does_257 : decode cX7_does 257 = .ok (.istore 4, 2) := by decide +kernel
theorem dX7_does_259 : decode cX7_does 259 = .ok (.goto 87, 3) := by decide +kernel
theorem dX7_does_262 : decode cX7_does 262 = .ok (.aload_n 0, 1) := by decide +kernel
theorem dX7_does_263 : decode cX7_does 263 = .ok (.getfield 51, 3) := by decide +kernel
theorem dX7_does_266 : decode cX7_does 266 = .ok (.iload_n 2, 1) := by decide +kernel
theorem dX7_does_267 : decode cX7_does 267 = .ok (.invokevirtual 70, 3) := by decide +kernel
theorem dX7_does_270 : decode cX7_does 270 = .ok (.checkcast 79, 3) := by decide +kernel
theorem dX7_does_273 : decode cX7_does 273 = .ok (.iload_n 3, 1) := by decide +kernel
theorem dX7_does_274 : decode cX7_does 274 = .ok (.putfield 104, 3) := by decide +kernel
theorem dX7_does_277 : decode cX7_does 277 = .ok (.goto 69, 3) := by decide +kernel
theorem dX7_does_280 : decode cX7_does 280 = .ok (.aload_n 0, 1) := by decide +kernel
theorem dX7_does_281 : decode cX7_does 281 = .ok (.getfield 51, 3) := by decide +kernel
theorem dX7_does_284 : decode cX7_does 284 = .ok (.iload_n 2, 1) := by decide +kernel
theorem dX7_does_285 : decode cX7_does 285 = .ok (.invokevirtual 70, 3) := by decide +kernel
theorem dX7_does_288 : decode cX7_does 288 = .ok (.checkcast 79, 3) := by decide +kernel
theorem dX7_does_291 : decode cX7_does 291 = .ok (.dup, 1) := by decide +kernel
theorem dX7_does_292 : decode cX7_does 292 = .ok (.getfield 107, 3) := by decide +kernel
theorem dX7_does_295 : decode cX7_does 295 = .ok (.aload_n 1, 1) := by decide +kernel
theorem dX7_does_296 : decode cX7_does 296 = .ok (.iconst 3, 1) := by decide +kernel
theorem dX7_does_297 : decode cX7_does 297 = .ok (.iaload, 1) := by decide +kernel
theorem dX7_does_298 : decode cX7_does 298 = .ok (.isub, 1) := by decide +kernel
theorem dX7_does_299 : decode cX7_does 299 = .ok (.putfield 107, 3) := by decide +kernel
theorem dX7_does_302 : decode cX7_does 302 = .ok (.aload_n 0, 1) := by decide +kernel
theorem dX7_does_303 : decode cX7_does 303 = .ok (.getfield 51, 3) := by decide +kernel
theorem dX7_does_306 : decode cX7_does 306 = .ok (.iload_n 3, 1) := by decide +kernel
theorem dX7_does_307 : decode cX7_does 307 = .ok (.invokevirtual 70, 3) := by decide +kernel
theorem dX7_does_310 : decode cX7_does 310 = .ok (.checkcast 79, 3) := by decide +kernel
theorem dX7_does_313 : decode cX7_does 313 = .ok (.dup, 1) := by decide +kernel
theorem dX7_does_314 : decode cX7_does 314 = .ok (.getfield 107, 3) := by decide +kernel
theorem dX7_does_317 : decode cX7_does 317 = .ok (.aload_n 1, 1) := by decide +kernel
theorem dX7_does_318 : decode cX7_does 318 = .ok (.iconst 3, 1) := by decide +kernel
theorem dX7_does_319 : decode cX7_does 319 = .ok (.iaload, 1) := by decide +kernel
theorem dX7_does_320 : decode cX7_does 320 = .ok (.iadd, 1) := by decide +kernel
theorem dX7_does_321 : decode cX7_does 321 = .ok (.putfield 107, 3) := by decide +kernel
theorem dX7_does_324 : decode cX7_does 324 = .ok (.goto 22, 3) := by decide +kernel
theorem dX7_does_327 : decode cX7_does 327 = .ok (.iconst 0, 1) := by decide +kernel
theorem dX7_does_328 : decode cX7_does 328 = .ok (.istore 5, 2) := by decide +kernel
theorem dX7_does_330 : decode cX7_does 330 = .ok (.iload 5, 2) := by decide +kernel
theorem dX7_does_332 : decode cX7_does 332 = .ok (.iload_n 2, 1) := by decide +kernel
theorem dX7_does_333 : decode cX7_does 333 = .ok (.if_icmp .ge 13, 3) := by decide +kernel
theorem dX7_does_336 : decode cX7_does 336 = .ok (.aload_n 0, 1) := by decide +kernel
theorem dX7_does_337 : decode cX7_does 337 = .ok (.invokevirtual 205, 3) := by decide +kernel
theorem dX7_does_340 : decode cX7_does 340 = .ok (.iinc 5 1, 3) := by decide +kernel
theorem dX7_does_343 : decode cX7_does 343 = .ok (.goto (-13), 3) := by decide +kernel
theorem dX7_does_346 : decode cX7_does 346 = .ok (.return_, 1) := by decide +kernel
theorem dX8_init_0 : decode cX8_init 0 = .ok (.aload_n 0, 1) := by decide +kernel
theorem dX8_init_1 : decode cX8_init 1 = .ok (.invokespecial 1, 3) := by decide +kernel
theorem dX8_init_4 : decode cX8_init 4 = .ok (.aload_n 0, 1) := by decide +kernel
theorem dX8_init_5 : decode cX8_init 5 = .ok (.iload_n 1, 1) := by decide +kernel
theorem dX8_init_6 : decode cX8_init 6 = .ok (.putfield 7, 3) := by decide +kernel
theorem dX8_init_9 : decode cX8_init 9 = .ok (.aload_n 0, 1) := by decide +kernel
theorem dX8_init_10 : decode cX8_init 10 = .ok (.iload_n 2, 1) := by decide +kernel
theorem dX8_init_11 : decode cX8_init 11 = .ok (.putfield 13, 3) := by decide +kernel
theorem dX8_init_14 : decode cX8_init 14 = .ok (.aload_n 0, 1) := by decide +kernel
theorem dX8_init_15 : decode cX8_init 15 = .ok (.iload_n 3, 1) := by decide +kernel
theorem dX8_init_16 : decode cX8_init 16 = .ok (.putfield 16, 3) := by decide +kernel
theorem dX8_init_19 : decode cX8_init 19 = .ok (.return_, 1) := by decide +kernel
theorem dX9_init_0 : decode cX9_init 0 = .ok (.aload_n 0, 1) := by decide +kernel
theorem dX9_init_1 : decode cX9_init 1 = .ok (.invokespecial 1, 3) := by decide +kernel
theorem dX9_init_4 : decode cX9_init 4 = .ok (.aload_n 0, 1) := by decide +kernel
theorem dX9_init_5 : decode cX9_init 5 = .ok (.new 7, 3) := by decide +kernel
theorem dX9_init_8 : decode cX9_init 8 = .ok (.dup, 1) := by decide +kernel
theorem dX9_init_9 : decode cX9_init 9 = .ok (.invokespecial 9, 3) := by decide +kernel
theorem dX9_init_12 : decode cX9_init 12 = .ok (.putfield 10, 3) := by decide +kernel
theorem dX9_init_15 : decode cX9_init 15 = .ok (.aload_n 0, 1) := by decide +kernel
theorem dX9_init_16 : decode cX9_init 16 = .ok (.new 16, 3) := by decide +kernel
theorem dX9_init_19 : decode cX9_init 19 = .ok (.dup, 1) := by decide +kernel
theorem dX9_init_20 : decode cX9_init 20 = .ok (.invokespecial 18, 3) := by decide +kernel
theorem dX9_init_23 : decode cX9_init 23 = .ok (.putfield 19, 3) := by decide +kernel
theorem dX9_init_26 : decode cX9_init 26 = .ok (.return_, 1) := by decide +kernel
theorem dX9_thrown_0 : decode cX9_thrown 0 = .ok (.aload_n 0, 1) := by decide +kernel
theorem dX9_thrown_1 : decode cX9_thrown 1 = .ok (.getfield 23, 3) := by decide +kernel
theorem dX9_thrown_4 : decode cX9_thrown 4 = .ok (.ireturn, 1) := by decide +kernel
theorem dX9_fails_0 : decode cX9_fails 0 = .ok (.aload_n 0, 1) := by decide +kernel
theorem dX9_fails_1 : decode cX9_fails 1 = .ok (.iload_n 1, 1) := by decide +kernel
theorem dX9_fails_2 : decode cX9_fails 2 = .ok (.putfield 23, 3) := by decide +kernel
theorem dX9_fails_5 : decode cX9_fails 5 = .ok (.iload_n 1, 1) := by decide +kernel
theorem dX9_fails_6 : decode cX9_fails 6 = .ok (.ifCond .le 7, 3) := by decide +kernel
theorem dX9_fails_9 : decode cX9_fails 9 = .ok (.iconst 1, 1) := by decide +kernel
theorem dX9_fails_10 : decode cX9_fails 10 = .ok (.goto 4, 3) := by decide +kernel
theorem dX9_fails_13 : decode cX9_fails 13 = .ok (.iconst 0, 1) := by decide +kernel
theorem dX9_fails_14 : decode cX9_fails 14 = .ok (.ireturn, 1) := by decide +kernel
theorem dX9_in_0 : decode cX9_in 0 = .ok (.iload_n 0, 1) := by decide +kernel
theorem dX9_in_1 : decode cX9_in 1 = .ok (.iload_n 1, 1) := by decide +kernel
theorem dX9_in_2 : decode cX9_in 2 = .ok (.if_icmp .lt 12, 3) := by decide +kernel
theorem dX9_in_5 : decode cX9_in 5 = .ok (.iload_n 0, 1) := by decide +kernel
theorem dX9_in_6 : decode cX9_in 6 = .ok (.iload_n 2, 1) := by decide +kernel
theorem dX9_in_7 : decode cX9_in 7 = .ok (.if_icmp .gt 7, 3) := by decide +kernel
theorem dX9_in_10 : decode cX9_in 10 = .ok (.iconst 1, 1) := by decide +kernel
theorem dX9_in_11 : decode cX9_in 11 = .ok (.goto 4, 3) := by decide +kernel
theorem dX9_in_14 : decode cX9_in 14 = .ok (.iconst 0, 1) := by decide +kernel
theorem dX9_in_15 : decode cX9_in 15 = .ok (.ireturn, 1) := by decide +kernel
theorem dX9_act_0 : decode cX9_act 0 = .ok (.iconst 5, 1) := by decide +kernel
theorem dX9_act_1 : decode cX9_act 1 = .ok (.newarray .int, 2) := by decide +kernel
theorem dX9_act_3 : decode cX9_act 3 = .ok (.dup, 1) := by decide +kernel
theorem dX9_act_4 : decode cX9_act 4 = .ok (.iconst 0, 1) := by decide +kernel
theorem dX9_act_5 : decode cX9_act 5 = .ok (.iload_n 1, 1) := by decide +kernel
theorem dX9_act_6 : decode cX9_act 6 = .ok (.iastore, 1) := by decide +kernel
theorem dX9_act_7 : decode cX9_act 7 = .ok (.dup, 1) := by decide +kernel
theorem dX9_act_8 : decode cX9_act 8 = .ok (.iconst 1, 1) := by decide +kernel
theorem dX9_act_9 : decode cX9_act 9 = .ok (.iload_n 2, 1) := by decide +kernel
theorem dX9_act_10 : decode cX9_act 10 = .ok (.iastore, 1) := by decide +kernel
theorem dX9_act_11 : decode cX9_act 11 = .ok (.dup, 1) := by decide +kernel
theorem dX9_act_12 : decode cX9_act 12 = .ok (.iconst 2, 1) := by decide +kernel
theorem dX9_act_13 : decode cX9_act 13 = .ok (.iload_n 3, 1) := by decide +kernel
theorem dX9_act_14 : decode cX9_act 14 = .ok (.iastore, 1) := by decide +kernel
theorem dX9_act_15 : decode cX9_act 15 = .ok (.dup, 1) := by decide +kernel
theorem dX9_act_16 : decode cX9_act 16 = .ok (.iconst 3, 1) := by decide +kernel
theorem dX9_act_17 : decode cX9_act 17 = .ok (.iload 4, 2) := by decide +kernel
theorem dX9_act_19 : decode cX9_act 19 = .ok (.iastore, 1) := by decide +kernel
theorem dX9_act_20 : decode cX9_act 20 = .ok (.dup, 1) := by decide +kernel
theorem dX9_act_21 : decode cX9_act 21 = .ok (.iconst 4, 1) := by decide +kernel
theorem dX9_act_22 : decode cX9_act 22 = .ok (.iload 5, 2) := by decide +kernel
theorem dX9_act_24 : decode cX9_act 24 = .ok (.iastore, 1) := by decide +kernel
theorem dX9_act_25 : decode cX9_act 25 = .ok (.astore 6, 2) := by decide +kernel
theorem dX9_act_27 : decode cX9_act 27 = .ok (.aload_n 0, 1) := by decide +kernel
theorem dX9_act_28 : decode cX9_act 28 = .ok (.getfield 19, 3) := by decide +kernel
theorem dX9_act_31 : decode cX9_act 31 = .ok (.aload 6, 2) := by decide +kernel
theorem dX9_act_33 : decode cX9_act 33 = .ok (.invokevirtual 27, 3) := by decide +kernel
theorem dX9_act_36 : decode cX9_act 36 = .ok (.istore 7, 2) := by decide +kernel
theorem dX9_act_38 : decode cX9_act 38 = .ok (.aload_n 0, 1) := by decide +kernel
theorem dX9_act_39 : decode cX9_act 39 = .ok (.getfield 10, 3) := by decide +kernel
theorem dX9_act_42 : decode cX9_act 42 = .ok (.aload 6, 2) := by decide +kernel
theorem dX9_act_44 : decode cX9_act 44 = .ok (.invokevirtual 31, 3) := by decide +kernel
theorem dX9_act_47 : decode cX9_act 47 = .ok (.return_, 1) := by decide +kernel
theorem dX9_failsSet_0 : decode cX9_failsSet 0 = .ok (.aload_n 0, 1) := by decide +kernel
theorem dX9_failsSet_1 : decode cX9_failsSet 1 = .ok (.iload_n 1, 1) := by decide +kernel
theorem dX9_failsSet_2 : decode cX9_failsSet 2 = .ok (.iconst 0, 1) := by decide +kernel
theorem dX9_failsSet_3 : decode cX9_failsSet 3 = .ok (.iload_n 2, 1) := by decide +kernel
theorem dX9_failsSet_4 : decode cX9_failsSet 4 = .ok (.invokestatic 35, 3) := by decide +kernel
theorem dX9_failsSet_7 : decode cX9_failsSet 7 = .ok (.ifCond .ne 7, 3) := by decide +kernel
theorem dX9_failsSet_10 : decode cX9_failsSet 10 = .ok (.iconst 1, 1) := by decide +kernel
theorem dX9_failsSet_11 : decode cX9_failsSet 11 = .ok (.goto 12, 3) := by decide +kernel
theorem dX9_failsSet_14 : decode cX9_failsSet 14 = .ok (.iload_n 3, 1) := by decide +kernel
theorem dX9_failsSet_15 : decode cX9_failsSet 15 = .ok (.ifCond .ne 7, 3) := by decide +kernel
theorem dX9_failsSet_18 : decode cX9_failsSet 18 = .ok (.iconst 2, 1) := by decide +kernel
theorem dX9_failsSet_19 : decode cX9_failsSet 19 = .ok (.goto 4, 3) := by decide +kernel
theorem dX9_failsSet_22 : decode cX9_failsSet 22 = .ok (.iconst 0, 1) := by decide +kernel
theorem dX9_failsSet_23 : decode cX9_failsSet 23 = .ok (.invokevirtual 39, 3) := by decide +kernel
theorem dX9_failsSet_26 : decode cX9_failsSet 26 = .ok (.ireturn, 1) := by decide +kernel
theorem dX9_isWell_0 : decode cX9_isWell 0 = .ok (.iload_n 1, 1) := by decide +kernel
theorem dX9_isWell_1 : decode cX9_isWell 1 = .ok (.iconst 0, 1) := by decide +kernel
theorem dX9_isWell_2 : decode cX9_isWell 2 = .ok (.aload_n 0, 1) := by decide +kernel
theorem dX9_isWell_3 : decode cX9_isWell 3 = .ok (.getfield 10, 3) := by decide +kernel
theorem dX9_isWell_6 : decode cX9_isWell 6 = .ok (.getfield 76, 3) := by decide +kernel
theorem dX9_isWell_9 : decode cX9_isWell 9 = .ok (.invokevirtual 79, 3) := by decide +kernel
theorem dX9_isWell_12 : decode cX9_isWell 12 = .ok (.iconst 1, 1) := by decide +kernel
theorem dX9_isWell_13 : decode cX9_isWell 13 = .ok (.isub, 1) := by decide +kernel
theorem dX9_isWell_14 : decode cX9_isWell 14 = .ok (.invokestatic 35, 3) := by decide +kernel
theorem dX9_isWell_17 : decode cX9_isWell 17 = .ok (.ireturn, 1) := by decide +kernel
theorem dX9_failsWell_0 : decode cX9_failsWell 0 = .ok (.aload_n 0, 1) := by decide +kernel
theorem dX9_failsWell_1 : decode cX9_failsWell 1 = .ok (.aload_n 0, 1) := by decide +kernel
theorem dX9_failsWell_2 : decode cX9_failsWell 2 = .ok (.iload_n 1, 1) := by decide +kernel
theorem dX9_failsWell_3 : decode cX9_failsWell 3 = .ok (.invokevirtual 83, 3) := by decide +kernel
theorem dX9_failsWell_6 : decode cX9_failsWell 6 = .ok (.ifCond .eq 7, 3) := by decide +kernel
theorem dX9_failsWell_9 : decode cX9_failsWell 9 = .ok (.iconst 0, 1) := by decide +kernel
theorem dX9_failsWell_10 : decode cX9_failsWell 10 = .ok (.goto 4, 3) := by decide +kernel
theorem dX9_failsWell_13 : decode cX9_failsWell 13 = .ok (.iconst 1, 1) := by decide +kernel
theorem dX9_failsWell_14 : decode cX9_failsWell 14 = .ok (.invokevirtual 39, 3) := by decide +kernel
theorem dX9_failsWell_17 : decode cX9_failsWell 17 = .ok (.ireturn, 1) := by decide +kernel
theorem dX9_failsCell_0 : decode cX9_failsCell 0 = .ok (.aload_n 0, 1) := by decide +kernel
theorem dX9_failsCell_1 : decode cX9_failsCell 1 = .ok (.iload_n 1, 1) := by decide +kernel
theorem dX9_failsCell_2 : decode cX9_failsCell 2 = .ok (.iconst 0, 1) := by decide +kernel
theorem dX9_failsCell_3 : decode cX9_failsCell 3 = .ok (.bipush 15, 2) := by decide +kernel
theorem dX9_failsCell_5 : decode cX9_failsCell 5 = .ok (.invokestatic 35, 3) := by decide +kernel
theorem dX9_failsCell_8 : decode cX9_failsCell 8 = .ok (.ifCond .eq 7, 3) := by decide +kernel
theorem dX9_failsCell_11 : decode cX9_failsCell 11 = .ok (.iconst 0, 1) := by decide +kernel
theorem dX9_failsCell_12 : decode cX9_failsCell 12 = .ok (.goto 4, 3) := by decide +kernel
theorem dX9_failsCell_15 : decode cX9_failsCell 15 = .ok (.iconst 1, 1) := by decide +kernel
theorem dX9_failsCell_16 : decode cX9_failsCell 16 = .ok (.invokevirtual 39, 3) := by decide +kernel
theorem dX9_failsCell_19 : decode cX9_failsCell 19 = .ok (.ireturn, 1) := by decide +kernel
set_option maxHeartbeats 4000000 in
set_option maxRecDepth 100000 in
/-- count(w, ..) -/
theorem c_ctw (l : Launch) (g : Gm) (b : Nat → Nat) (mo : Nat) (q : Int32) : MXv (S := Unit) l g yX7_count cX7_count 3 ({ frames := 0, cells := 0, slots := 0, locals := 0 } : Room) [.ref (b 0), .int 119, .int q] [((b 0), .inr (10, [.ref (b 1), .ref (b 2), .ref (b 3), .ref (b 4), .ref (b 5), .ref (b 6), .ref (b 7), .ref (b 8), .ref (b 9), .ref (b 10), .ref (b 11), .ref (b 12), .int 0, .int 0, .int (nI mo), .ref (b 13), .ref (b 14), .ref (b 16)])), ((b 16), .inl (g.2.1 1, 26, .inr (.inl (fun _ => 0))))] (fun _ => True) (fun _ => [((b 0), .inr (10, [.ref (b 1), .ref (b 2), .ref (b 3), .ref (b 4), .ref (b 5), .ref (b 6), .ref (b 7), .ref (b 8), .ref (b 9), .ref (b 10), .ref (b 11), .ref (b 12), .int 0, .int 0, .int (nI mo), .ref (b 13), .ref (b 14), .ref (b 16)]))]) (fun _ => (0, 0)) := by
  intro sz tt
  refine ofX RX7 rfl (by decide +kernel) (Nat.le_of_ble_eq_true rfl) (fun p e s m args below meth c hargs S hml hr hlk hnm hsz htt hK hA hZ E ls hl => ?_)
  have hx := S.1
  have hb := S.2.1
  have hl : lv_has ls 3 [(0, .ref (b 0)), (1, .int 119), (2, .int q)] := hl
  refine lv_aload_n hx hb dX7_count_0 rfl (lv_at hl 0 rfl) ?_
  refine wg_X7_62 (v := .ref (b 16)) S hK E 0 rfl rfl dX7_count_1 ?_
  refine lv_iload_n hx hb dX7_count_4 rfl (lv_at hl 1 rfl) ?_
  refine lv_bipush (v := 97) hx hb dX7_count_5 (by decide) ?_
  refine k_isub (v := 22) hx hb (by decide) dX7_count_7 ?_
  refine lv_dup2_11 hx hb dX7_count_8 rfl rfl ?_
  refine w_lld (v := 0) S hK E 1 1 rfl rfl (show vp_in 22 26 by unfold vp_in; decide) rfl dX7_count_9 ?_
  refine lv_iload_n hx hb dX7_count_10 rfl (lv_at hl 2 rfl) ?_
  refine lv_i2l (v := (q).toInt64) hx hb dX7_count_11 rfl ?_
  refine k_ladd (v := (0 + ((q).toInt64))) hx hb rfl dX7_count_12 ?_
  refine w_lst (w' := [((b 0), .inr (10, [.ref (b 1), .ref (b 2), .ref (b 3), .ref (b 4), .ref (b 5), .ref (b 6), .ref (b 7), .ref (b 8), .ref (b 9), .ref (b 10), .ref (b 11), .ref (b 12), .int 0, .int 0, .int (nI mo), .ref (b 13), .ref (b 14), .ref (b 16)])), ((b 16), .inl (g.2.1 1, 26, .inr (.inl (vp_updL (fun _ => 0) (22 : Int32).toNatClampNeg (0 + ((q).toInt64))))))]) S hK E 1 1 rfl rfl (show vp_in 22 26 by unfold vp_in; decide) rfl dX7_count_13 (fun H locs E => ?_)
  have E : Ev g _ s.heap H locs [((b 0), .inr (10, [.ref (b 1), .ref (b 2), .ref (b 3), .ref (b 4), .ref (b 5), .ref (b 6), .ref (b 7), .ref (b 8), .ref (b 9), .ref (b 10), .ref (b 11), .ref (b 12), .int 0, .int 0, .int (nI mo), .ref (b 13), .ref (b 14), .ref (b 16)]))] := Ev.sub E [0] rfl rfl
  exact x_vret () S hr hlk hsz htt hK E dX7_count_14 trivial rfl ⟨Nat.le_of_ble_eq_true rfl, Nat.le_of_ble_eq_true rfl⟩ ⟨Nat.le_of_ble_eq_true rfl, Nat.le_of_ble_eq_true rfl⟩

set_option maxHeartbeats 4000000 in
set_option maxRecDepth 100000 in
/-- does, c -/
theorem c_do99 (l : Launch) (g : Gm) (b : Nat → Nat) (ar : Nat) (fa : Nat → Int32) (mo : Nat) (p0 : Int32) (p1 : Int32) (p2 : Int32) (p3 : Int32) (hp0 : vp_in p0 16) (h0 : fa 0 = 99) (h1 : fa 1 = p0) (h2 : fa 2 = p1) (h3 : fa 3 = p2) (h4 : fa 4 = p3) : MXv (S := Unit) l g yX7_does cX7_does 6 ({ frames := 1, cells := 0, slots := 0, locals := 22 } : Room) [.ref (b 0), .ref ar] [((b 0), .inr (10, [.ref (b 1), .ref (b 2), .ref (b 3), .ref (b 4), .ref (b 5), .ref (b 6), .ref (b 7), .ref (b 8), .ref (b 9), .ref (b 10), .ref (b 11), .ref (b 12), .int 0, .int 0, .int (nI mo), .ref (b 13), .ref (b 14), .ref (b 16)])), (ar, .inl (g.2.1 0, 5, .inl fa)), ((b 1), .inl (g.2.1 0, 16, .inl (fun _ => 0))), ((b 2), .inl (g.2.1 0, 16, .inl (fun _ => 10))), ((b 3), .inl (g.2.1 0, 16, .inl (fun _ => 0))), ((b 4), .inl (g.2.1 0, 16, .inl (fun _ => 0))), ((b 16), .inl (g.2.1 1, 26, .inr (.inl (fun _ => 0))))] (fun _ => True) (fun _ => []) (fun _ => (0, 0)) := by
  intro sz tt
  refine ofX RX7 rfl (by decide +kernel) (Nat.le_of_ble_eq_true rfl) (fun p e s m args below meth c hargs S hml hr hlk hnm hsz htt hK hA hZ E ls hl => ?_)
  have hx := S.1
  have hb := S.2.1
  have hl : lv_has ls 6 [(0, .ref (b 0)), (1, .ref ar)] := hl
  refine lv_aload_n hx hb dX7_does_0 rfl (lv_at hl 1 rfl) ?_
  refine lv_iconst (v := 1) hx hb dX7_does_1 (by decide) ?_
  refine w_ild (v := p0) S hK E 1 0 rfl rfl (show vp_in 1 5 by unfold vp_in; decide) h1 dX7_does_2 ?_
  refine lv_istore_n (lv' := [(2, .int p0), (0, .ref (b 0)), (1, .ref ar)]) hx hb dX7_does_3 rfl hl (by decide) rfl (fun ls hl => ?_)
  refine lv_aload_n hx hb dX7_does_4 rfl (lv_at hl 2 rfl) ?_
  refine lv_iconst (v := 2) hx hb dX7_does_5 (by decide) ?_
  refine w_ild (v := p1) S hK E 1 0 rfl rfl (show vp_in 2 5 by unfold vp_in; decide) h2 dX7_does_6 ?_
  refine lv_istore_n (lv' := [(3, .int p1), (2, .int p0), (0, .ref (b 0)), (1, .ref ar)]) hx hb dX7_does_7 rfl hl (by decide) rfl (fun ls hl => ?_)
  refine lv_aload_n hx hb dX7_does_8 rfl (lv_at hl 3 rfl) ?_
  refine lv_iconst (v := 0) hx hb dX7_does_9 (by decide) ?_
  refine w_ild (v := 99) S hK E 1 0 rfl rfl (show vp_in 0 5 by unfold vp_in; decide) h0 dX7_does_10 ?_
  refine lv_tableIn (tgt := 112) hx hb dX7_does_11 (by decide) (by decide) rfl (by decide) ?_
  refine lv_aload_n hx hb dX7_does_112 rfl (lv_at hl 2 rfl) ?_
  refine wg_X7_9 (v := .ref (b 1)) S hK E 0 rfl rfl dX7_does_113 ?_
  refine lv_iload_n hx hb dX7_does_116 rfl (lv_at hl 1 rfl) ?_
  refine lv_iload_n hx hb dX7_does_117 rfl (lv_at hl 0 rfl) ?_
  refine w_ist (w' := [((b 0), .inr (10, [.ref (b 1), .ref (b 2), .ref (b 3), .ref (b 4), .ref (b 5), .ref (b 6), .ref (b 7), .ref (b 8), .ref (b 9), .ref (b 10), .ref (b 11), .ref (b 12), .int 0, .int 0, .int (nI mo), .ref (b 13), .ref (b 14), .ref (b 16)])), (ar, .inl (g.2.1 0, 5, .inl fa)), ((b 1), .inl (g.2.1 0, 16, .inl (upd (fun _ => 0) p0.toNatClampNeg p1))), ((b 2), .inl (g.2.1 0, 16, .inl (fun _ => 10))), ((b 3), .inl (g.2.1 0, 16, .inl (fun _ => 0))), ((b 4), .inl (g.2.1 0, 16, .inl (fun _ => 0))), ((b 16), .inl (g.2.1 1, 26, .inr (.inl (fun _ => 0))))]) S hK E 2 0 rfl rfl hp0 rfl dX7_does_118 (fun H locs E => ?_)
  refine lv_aload_n hx hb dX7_does_119 rfl (lv_at hl 2 rfl) ?_
  refine wg_X7_15 (v := .ref (b 2)) S hK E 0 rfl rfl dX7_does_120 ?_
  refine lv_iload_n hx hb dX7_does_123 rfl (lv_at hl 1 rfl) ?_
  refine lv_aload_n hx hb dX7_does_124 rfl (lv_at hl 3 rfl) ?_
  refine lv_iconst (v := 3) hx hb dX7_does_125 (by decide) ?_
  refine w_ild (v := p2) S hK E 1 0 rfl rfl (show vp_in 3 5 by unfold vp_in; decide) h3 dX7_does_126 ?_
  refine w_ist (w' := [((b 0), .inr (10, [.ref (b 1), .ref (b 2), .ref (b 3), .ref (b 4), .ref (b 5), .ref (b 6), .ref (b 7), .ref (b 8), .ref (b 9), .ref (b 10), .ref (b 11), .ref (b 12), .int 0, .int 0, .int (nI mo), .ref (b 13), .ref (b 14), .ref (b 16)])), (ar, .inl (g.2.1 0, 5, .inl fa)), ((b 1), .inl (g.2.1 0, 16, .inl (upd (fun _ => 0) p0.toNatClampNeg p1))), ((b 2), .inl (g.2.1 0, 16, .inl (upd (fun _ => 10) p0.toNatClampNeg p2))), ((b 3), .inl (g.2.1 0, 16, .inl (fun _ => 0))), ((b 4), .inl (g.2.1 0, 16, .inl (fun _ => 0))), ((b 16), .inl (g.2.1 1, 26, .inr (.inl (fun _ => 0))))]) S hK E 3 0 rfl rfl hp0 rfl dX7_does_127 (fun H locs E => ?_)
  refine lv_aload_n hx hb dX7_does_128 rfl (lv_at hl 2 rfl) ?_
  refine lv_bipush (v := 119) hx hb dX7_does_129 (by decide) ?_
  refine lv_aload_n hx hb dX7_does_131 rfl (lv_at hl 3 rfl) ?_
  refine lv_iconst (v := 4) hx hb dX7_does_132 (by decide) ?_
  refine w_ild (v := p3) S hK E 1 0 rfl rfl (show vp_in 4 5 by unfold vp_in; decide) h4 dX7_does_133 ?_
  refine lv_aload_n hx hb dX7_does_134 rfl (lv_at hl 2 rfl) ?_
  refine wg_X7_18 (v := .ref (b 3)) S hK E 0 rfl rfl dX7_does_135 ?_
  refine lv_iload_n hx hb dX7_does_138 rfl (lv_at hl 1 rfl) ?_
  refine w_ild (v := 0) S hK E 4 0 rfl rfl hp0 rfl dX7_does_139 ?_
  refine k_isub (v := (p3 - 0)) hx hb rfl dX7_does_140 ?_
  refine w_retv (runV_X (As := [.int 119, .int (p3 - 0)]) (rest := []) (q0 := 0) (n := 2) S hml hK (hZ.at E) (Cut.of (wc := [((b 0), .inr (10, [.ref (b 1), .ref (b 2), .ref (b 3), .ref (b 4), .ref (b 5), .ref (b 6), .ref (b 7), .ref (b 8), .ref (b 9), .ref (b 10), .ref (b 11), .ref (b 12), .int 0, .int 0, .int (nI mo), .ref (b 13), .ref (b 14), .ref (b 16)])), ((b 16), .inl (g.2.1 1, 26, .inr (.inl (fun _ => 0))))]) (wr := [(ar, .inl (g.2.1 0, 5, .inl fa)), ((b 1), .inl (g.2.1 0, 16, .inl (upd (fun _ => 0) p0.toNatClampNeg p1))), ((b 2), .inl (g.2.1 0, 16, .inl (upd (fun _ => 10) p0.toNatClampNeg p2))), ((b 3), .inl (g.2.1 0, 16, .inl (fun _ => 0))), ((b 4), .inl (g.2.1 0, 16, .inl (fun _ => 0)))]) E hA [0, 6] [1, 2, 3, 4, 5] rfl rfl rfl rfl (by decide)) (c_ctw l g b mo (p3 - 0) _ _) (gi_wsV ml_X7_132 im_X7_count sl_X7_count in_X7 co_X7_count) ⟨rfl, by decide +kernel, by decide +kernel, by decide +kernel⟩ ⟨Nat.le_of_ble_eq_true rfl, Nat.le_of_ble_eq_true rfl⟩ rfl rfl rfl hl.1 rfl (Nat.le_of_ble_eq_true rfl) dX7_does_141 ⟨Nat.le_of_ble_eq_true rfl, Nat.le_of_ble_eq_true rfl⟩) (Cut.of (wc := [((b 0), .inr (10, [.ref (b 1), .ref (b 2), .ref (b 3), .ref (b 4), .ref (b 5), .ref (b 6), .ref (b 7), .ref (b 8), .ref (b 9), .ref (b 10), .ref (b 11), .ref (b 12), .int 0, .int 0, .int (nI mo), .ref (b 13), .ref (b 14), .ref (b 16)])), ((b 16), .inl (g.2.1 1, 26, .inr (.inl (fun _ => 0))))]) (wr := [(ar, .inl (g.2.1 0, 5, .inl fa)), ((b 1), .inl (g.2.1 0, 16, .inl (upd (fun _ => 0) p0.toNatClampNeg p1))), ((b 2), .inl (g.2.1 0, 16, .inl (upd (fun _ => 10) p0.toNatClampNeg p2))), ((b 3), .inl (g.2.1 0, 16, .inl (fun _ => 0))), ((b 4), .inl (g.2.1 0, 16, .inl (fun _ => 0)))]) E hA [0, 6] [1, 2, 3, 4, 5] rfl rfl rfl rfl (by decide)) E (fun u1 H locs hp E => ?_)
  have E : Ev g _ s.heap H locs [(ar, .inl (g.2.1 0, 5, .inl fa)), ((b 1), .inl (g.2.1 0, 16, .inl (upd (fun _ => 0) p0.toNatClampNeg p1))), ((b 2), .inl (g.2.1 0, 16, .inl (upd (fun _ => 10) p0.toNatClampNeg p2))), ((b 3), .inl (g.2.1 0, 16, .inl (fun _ => 0))), ((b 4), .inl (g.2.1 0, 16, .inl (fun _ => 0))), ((b 0), .inr (10, [.ref (b 1), .ref (b 2), .ref (b 3), .ref (b 4), .ref (b 5), .ref (b 6), .ref (b 7), .ref (b 8), .ref (b 9), .ref (b 10), .ref (b 11), .ref (b 12), .int 0, .int 0, .int (nI mo), .ref (b 13), .ref (b 14), .ref (b 16)]))] := E
  refine lv_aload_n hx hb dX7_does_144 rfl (lv_at hl 2 rfl) ?_
  refine wg_X7_18 (v := .ref (b 3)) S hK E 5 rfl rfl dX7_does_145 ?_
  refine lv_iload_n hx hb dX7_does_148 rfl (lv_at hl 1 rfl) ?_
  refine lv_aload_n hx hb dX7_does_149 rfl (lv_at hl 3 rfl) ?_
  refine lv_iconst (v := 4) hx hb dX7_does_150 (by decide) ?_
  refine w_ild (v := p3) S hK E 0 0 rfl rfl (show vp_in 4 5 by unfold vp_in; decide) h4 dX7_does_151 ?_
  refine w_ist (w' := [(ar, .inl (g.2.1 0, 5, .inl fa)), ((b 1), .inl (g.2.1 0, 16, .inl (upd (fun _ => 0) p0.toNatClampNeg p1))), ((b 2), .inl (g.2.1 0, 16, .inl (upd (fun _ => 10) p0.toNatClampNeg p2))), ((b 3), .inl (g.2.1 0, 16, .inl (upd (fun _ => 0) p0.toNatClampNeg p3))), ((b 4), .inl (g.2.1 0, 16, .inl (fun _ => 0))), ((b 0), .inr (10, [.ref (b 1), .ref (b 2), .ref (b 3), .ref (b 4), .ref (b 5), .ref (b 6), .ref (b 7), .ref (b 8), .ref (b 9), .ref (b 10), .ref (b 11), .ref (b 12), .int 0, .int 0, .int (nI mo), .ref (b 13), .ref (b 14), .ref (b 16)]))]) S hK E 3 0 rfl rfl hp0 rfl dX7_does_152 (fun H locs E => ?_)
  refine lv_aload_n hx hb dX7_does_153 rfl (lv_at hl 2 rfl) ?_
  refine wg_X7_21 (v := .ref (b 4)) S hK E 5 rfl rfl dX7_does_154 ?_
  refine lv_iload_n hx hb dX7_does_157 rfl (lv_at hl 1 rfl) ?_
  refine lv_iconst (v := 0) hx hb dX7_does_158 (by decide) ?_
  refine w_ist (w' := [(ar, .inl (g.2.1 0, 5, .inl fa)), ((b 1), .inl (g.2.1 0, 16, .inl (upd (fun _ => 0) p0.toNatClampNeg p1))), ((b 2), .inl (g.2.1 0, 16, .inl (upd (fun _ => 10) p0.toNatClampNeg p2))), ((b 3), .inl (g.2.1 0, 16, .inl (upd (fun _ => 0) p0.toNatClampNeg p3))), ((b 4), .inl (g.2.1 0, 16, .inl (fun _ => 0))), ((b 0), .inr (10, [.ref (b 1), .ref (b 2), .ref (b 3), .ref (b 4), .ref (b 5), .ref (b 6), .ref (b 7), .ref (b 8), .ref (b 9), .ref (b 10), .ref (b 11), .ref (b 12), .int 0, .int 0, .int (nI mo), .ref (b 13), .ref (b 14), .ref (b 16)]))]) S hK E 4 0 rfl rfl hp0 (by rw [upd_c]; rfl) dX7_does_159 (fun H locs E => ?_)
  refine lv_goto (tgt := 346) hx hb dX7_does_160 (by decide) ?_
  have E : Ev g _ s.heap H locs [] := Ev.sub E [] rfl rfl
  exact x_vret () S hr hlk hsz htt hK E dX7_does_346 trivial rfl ⟨Nat.le_of_ble_eq_true rfl, Nat.le_of_ble_eq_true rfl⟩ ⟨Nat.le_of_ble_eq_true rfl, Nat.le_of_ble_eq_true rfl⟩

set_option maxHeartbeats 4000000 in
set_option maxRecDepth 100000 in
/-- does, g -/
theorem c_do103 (l : Launch) (g : Gm) (b : Nat → Nat) (ar : Nat) (fa : Nat → Int32) (mo : Nat) (p0 : Int32) (p1 : Int32) (hp0 : vp_in p0 8) (h0 : fa 0 = 103) (h1 : fa 1 = p0) (h2 : fa 2 = p1) (h3 : fa 3 = 0) (h4 : fa 4 = 0) : MXv (S := Unit) l g yX7_does cX7_does 6 ({ frames := 0, cells := 0, slots := 0, locals := 0 } : Room) [.ref (b 0), .ref ar] [((b 0), .inr (10, [.ref (b 1), .ref (b 2), .ref (b 3), .ref (b 4), .ref (b 5), .ref (b 6), .ref (b 7), .ref (b 8), .ref (b 9), .ref (b 10), .ref (b 11), .ref (b 12), .int 0, .int 0, .int (nI mo), .ref (b 13), .ref (b 14), .ref (b 16)])), (ar, .inl (g.2.1 0, 5, .inl fa)), ((b 5), .inl (g.2.1 0, 8, .inl (fun _ => 100)))] (fun _ => True) (fun _ => []) (fun _ => (0, 0)) := by
  intro sz tt
  refine ofX RX7 rfl (by decide +kernel) (Nat.le_of_ble_eq_true rfl) (fun p e s m args below meth c hargs S hml hr hlk hnm hsz htt hK hA hZ E ls hl => ?_)
  have hx := S.1
  have hb := S.2.1
  have hl : lv_has ls 6 [(0, .ref (b 0)), (1, .ref ar)] := hl
  refine lv_aload_n hx hb dX7_does_0 rfl (lv_at hl 1 rfl) ?_
  refine lv_iconst (v := 1) hx hb dX7_does_1 (by decide) ?_
  refine w_ild (v := p0) S hK E 1 0 rfl rfl (show vp_in 1 5 by unfold vp_in; decide) h1 dX7_does_2 ?_
  refine lv_istore_n (lv' := [(2, .int p0), (0, .ref (b 0)), (1, .ref ar)]) hx hb dX7_does_3 rfl hl (by decide) rfl (fun ls hl => ?_)
  refine lv_aload_n hx hb dX7_does_4 rfl (lv_at hl 2 rfl) ?_
  refine lv_iconst (v := 2) hx hb dX7_does_5 (by decide) ?_
  refine w_ild (v := p1) S hK E 1 0 rfl rfl (show vp_in 2 5 by unfold vp_in; decide) h2 dX7_does_6 ?_
  refine lv_istore_n (lv' := [(3, .int p1), (2, .int p0), (0, .ref (b 0)), (1, .ref ar)]) hx hb dX7_does_7 rfl hl (by decide) rfl (fun ls hl => ?_)
  refine lv_aload_n hx hb dX7_does_8 rfl (lv_at hl 3 rfl) ?_
  refine lv_iconst (v := 0) hx hb dX7_does_9 (by decide) ?_
  refine w_ild (v := 103) S hK E 1 0 rfl rfl (show vp_in 0 5 by unfold vp_in; decide) h0 dX7_does_10 ?_
  refine lv_tableIn (tgt := 163) hx hb dX7_does_11 (by decide) (by decide) rfl (by decide) ?_
  refine lv_aload_n hx hb dX7_does_163 rfl (lv_at hl 2 rfl) ?_
  refine wg_X7_24 (v := .ref (b 5)) S hK E 0 rfl rfl dX7_does_164 ?_
  refine lv_iload_n hx hb dX7_does_167 rfl (lv_at hl 1 rfl) ?_
  refine lv_iload_n hx hb dX7_does_168 rfl (lv_at hl 0 rfl) ?_
  refine w_ist (w' := [((b 0), .inr (10, [.ref (b 1), .ref (b 2), .ref (b 3), .ref (b 4), .ref (b 5), .ref (b 6), .ref (b 7), .ref (b 8), .ref (b 9), .ref (b 10), .ref (b 11), .ref (b 12), .int 0, .int 0, .int (nI mo), .ref (b 13), .ref (b 14), .ref (b 16)])), (ar, .inl (g.2.1 0, 5, .inl fa)), ((b 5), .inl (g.2.1 0, 8, .inl (upd (fun _ => 100) p0.toNatClampNeg p1)))]) S hK E 2 0 rfl rfl hp0 rfl dX7_does_169 (fun H locs E => ?_)
  refine lv_goto (tgt := 346) hx hb dX7_does_170 (by decide) ?_
  have E : Ev g _ s.heap H locs [] := Ev.sub E [] rfl rfl
  exact x_vret () S hr hlk hsz htt hK E dX7_does_346 trivial rfl ⟨Nat.le_of_ble_eq_true rfl, Nat.le_of_ble_eq_true rfl⟩ ⟨Nat.le_of_ble_eq_true rfl, Nat.le_of_ble_eq_true rfl⟩

set_option maxHeartbeats 4000000 in
set_option maxRecDepth 100000 in
/-- does, k -/
theorem c_do107 (l : Launch) (g : Gm) (b : Nat → Nat) (ar : Nat) (fa : Nat → Int32) (mo : Nat) (p0 : Int32) (p1 : Int32) (hp0 : vp_in p0 2) (h0 : fa 0 = 107) (h1 : fa 1 = p0) (h2 : fa 2 = p1) (h3 : fa 3 = 0) (h4 : fa 4 = 0) : MXv (S := Unit) l g yX7_does cX7_does 6 ({ frames := 0, cells := 0, slots := 0, locals := 0 } : Room) [.ref (b 0), .ref ar] [((b 0), .inr (10, [.ref (b 1), .ref (b 2), .ref (b 3), .ref (b 4), .ref (b 5), .ref (b 6), .ref (b 7), .ref (b 8), .ref (b 9), .ref (b 10), .ref (b 11), .ref (b 12), .int 0, .int 0, .int (nI mo), .ref (b 13), .ref (b 14), .ref (b 16)])), (ar, .inl (g.2.1 0, 5, .inl fa)), ((b 6), .inl (g.2.1 0, 2, .inl (fun _ => 4)))] (fun _ => True) (fun _ => []) (fun _ => (0, 0)) := by
  intro sz tt
  refine ofX RX7 rfl (by decide +kernel) (Nat.le_of_ble_eq_true rfl) (fun p e s m args below meth c hargs S hml hr hlk hnm hsz htt hK hA hZ E ls hl => ?_)
  have hx := S.1
  have hb := S.2.1
  have hl : lv_has ls 6 [(0, .ref (b 0)), (1, .ref ar)] := hl
  refine lv_aload_n hx hb dX7_does_0 rfl (lv_at hl 1 rfl) ?_
  refine lv_iconst (v := 1) hx hb dX7_does_1 (by decide) ?_
  refine w_ild (v := p0) S hK E 1 0 rfl rfl (show vp_in 1 5 by unfold vp_in; decide) h1 dX7_does_2 ?_
  refine lv_istore_n (lv' := [(2, .int p0), (0, .ref (b 0)), (1, .ref ar)]) hx hb dX7_does_3 rfl hl (by decide) rfl (fun ls hl => ?_)
  refine lv_aload_n hx hb dX7_does_4 rfl (lv_at hl 2 rfl) ?_
  refine lv_iconst (v := 2) hx hb dX7_does_5 (by decide) ?_
  refine w_ild (v := p1) S hK E 1 0 rfl rfl (show vp_in 2 5 by unfold vp_in; decide) h2 dX7_does_6 ?_
  refine lv_istore_n (lv' := [(3, .int p1), (2, .int p0), (0, .ref (b 0)), (1, .ref ar)]) hx hb dX7_does_7 rfl hl (by decide) rfl (fun ls hl => ?_)
  refine lv_aload_n hx hb dX7_does_8 rfl (lv_at hl 3 rfl) ?_
  refine lv_iconst (v := 0) hx hb dX7_does_9 (by decide) ?_
  refine w_ild (v := 107) S hK E 1 0 rfl rfl (show vp_in 0 5 by unfold vp_in; decide) h0 dX7_does_10 ?_
  refine lv_tableIn (tgt := 173) hx hb dX7_does_11 (by decide) (by decide) rfl (by decide) ?_
  refine lv_aload_n hx hb dX7_does_173 rfl (lv_at hl 2 rfl) ?_
  refine wg_X7_27 (v := .ref (b 6)) S hK E 0 rfl rfl dX7_does_174 ?_
  refine lv_iload_n hx hb dX7_does_177 rfl (lv_at hl 1 rfl) ?_
  refine lv_iload_n hx hb dX7_does_178 rfl (lv_at hl 0 rfl) ?_
  refine w_ist (w' := [((b 0), .inr (10, [.ref (b 1), .ref (b 2), .ref (b 3), .ref (b 4), .ref (b 5), .ref (b 6), .ref (b 7), .ref (b 8), .ref (b 9), .ref (b 10), .ref (b 11), .ref (b 12), .int 0, .int 0, .int (nI mo), .ref (b 13), .ref (b 14), .ref (b 16)])), (ar, .inl (g.2.1 0, 5, .inl fa)), ((b 6), .inl (g.2.1 0, 2, .inl (upd (fun _ => 4) p0.toNatClampNeg p1)))]) S hK E 2 0 rfl rfl hp0 rfl dX7_does_179 (fun H locs E => ?_)
  refine lv_goto (tgt := 346) hx hb dX7_does_180 (by decide) ?_
  have E : Ev g _ s.heap H locs [] := Ev.sub E [] rfl rfl
  exact x_vret () S hr hlk hsz htt hK E dX7_does_346 trivial rfl ⟨Nat.le_of_ble_eq_true rfl, Nat.le_of_ble_eq_true rfl⟩ ⟨Nat.le_of_ble_eq_true rfl, Nat.le_of_ble_eq_true rfl⟩

set_option maxHeartbeats 4000000 in
set_option maxRecDepth 100000 in
/-- does, l -/
theorem c_do108 (l : Launch) (g : Gm) (b : Nat → Nat) (ar : Nat) (fa : Nat → Int32) (mo : Nat) (p0 : Int32) (p1 : Int32) (hp0 : vp_in p0 8) (h0 : fa 0 = 108) (h1 : fa 1 = p0) (h2 : fa 2 = p1) (h3 : fa 3 = 0) (h4 : fa 4 = 0) : MXv (S := Unit) l g yX7_does cX7_does 6 ({ frames := 0, cells := 0, slots := 0, locals := 0 } : Room) [.ref (b 0), .ref ar] [((b 0), .inr (10, [.ref (b 1), .ref (b 2), .ref (b 3), .ref (b 4), .ref (b 5), .ref (b 6), .ref (b 7), .ref (b 8), .ref (b 9), .ref (b 10), .ref (b 11), .ref (b 12), .int 0, .int 0, .int (nI mo), .ref (b 13), .ref (b 14), .ref (b 16)])), (ar, .inl (g.2.1 0, 5, .inl fa)), ((b 7), .inl (g.2.1 0, 8, .inl (fun _ => 0)))] (fun _ => True) (fun _ => []) (fun _ => (0, 0)) := by
  intro sz tt
  refine ofX RX7 rfl (by decide +kernel) (Nat.le_of_ble_eq_true rfl) (fun p e s m args below meth c hargs S hml hr hlk hnm hsz htt hK hA hZ E ls hl => ?_)
  have hx := S.1
  have hb := S.2.1
  have hl : lv_has ls 6 [(0, .ref (b 0)), (1, .ref ar)] := hl
  refine lv_aload_n hx hb dX7_does_0 rfl (lv_at hl 1 rfl) ?_
  refine lv_iconst (v := 1) hx hb dX7_does_1 (by decide) ?_
  refine w_ild (v := p0) S hK E 1 0 rfl rfl (show vp_in 1 5 by unfold vp_in; decide) h1 dX7_does_2 ?_
  refine lv_istore_n (lv' := [(2, .int p0), (0, .ref (b 0)), (1, .ref ar)]) hx hb dX7_does_3 rfl hl (by decide) rfl (fun ls hl => ?_)
  refine lv_aload_n hx hb dX7_does_4 rfl (lv_at hl 2 rfl) ?_
  refine lv_iconst (v := 2) hx hb dX7_does_5 (by decide) ?_
  refine w_ild (v := p1) S hK E 1 0 rfl rfl (show vp_in 2 5 by unfold vp_in; decide) h2 dX7_does_6 ?_
  refine lv_istore_n (lv' := [(3, .int p1), (2, .int p0), (0, .ref (b 0)), (1, .ref ar)]) hx hb dX7_does_7 rfl hl (by decide) rfl (fun ls hl => ?_)
  refine lv_aload_n hx hb dX7_does_8 rfl (lv_at hl 3 rfl) ?_
  refine lv_iconst (v := 0) hx hb dX7_does_9 (by decide) ?_
  refine w_ild (v := 108) S hK E 1 0 rfl rfl (show vp_in 0 5 by unfold vp_in; decide) h0 dX7_does_10 ?_
  refine lv_tableIn (tgt := 183) hx hb dX7_does_11 (by decide) (by decide) rfl (by decide) ?_
  refine lv_aload_n hx hb dX7_does_183 rfl (lv_at hl 2 rfl) ?_
  refine wg_X7_30 (v := .ref (b 7)) S hK E 0 rfl rfl dX7_does_184 ?_
  refine lv_iload_n hx hb dX7_does_187 rfl (lv_at hl 1 rfl) ?_
  refine lv_iload_n hx hb dX7_does_188 rfl (lv_at hl 0 rfl) ?_
  refine w_ist (w' := [((b 0), .inr (10, [.ref (b 1), .ref (b 2), .ref (b 3), .ref (b 4), .ref (b 5), .ref (b 6), .ref (b 7), .ref (b 8), .ref (b 9), .ref (b 10), .ref (b 11), .ref (b 12), .int 0, .int 0, .int (nI mo), .ref (b 13), .ref (b 14), .ref (b 16)])), (ar, .inl (g.2.1 0, 5, .inl fa)), ((b 7), .inl (g.2.1 0, 8, .inl (upd (fun _ => 0) p0.toNatClampNeg p1)))]) S hK E 2 0 rfl rfl hp0 rfl dX7_does_189 (fun H locs E => ?_)
  refine lv_goto (tgt := 346) hx hb dX7_does_190 (by decide) ?_
  have E : Ev g _ s.heap H locs [] := Ev.sub E [] rfl rfl
  exact x_vret () S hr hlk hsz htt hK E dX7_does_346 trivial rfl ⟨Nat.le_of_ble_eq_true rfl, Nat.le_of_ble_eq_true rfl⟩ ⟨Nat.le_of_ble_eq_true rfl, Nat.le_of_ble_eq_true rfl⟩

set_option maxHeartbeats 4000000 in
set_option maxRecDepth 100000 in
/-- does, r -/
theorem c_do114 (l : Launch) (g : Gm) (b : Nat → Nat) (ar : Nat) (fa : Nat → Int32) (mo : Nat) (p0 : Int32) (p1 : Int32) (hp0 : vp_in p0 8) (h0 : fa 0 = 114) (h1 : fa 1 = p0) (h2 : fa 2 = p1) (h3 : fa 3 = 0) (h4 : fa 4 = 0) : MXv (S := Unit) l g yX7_does cX7_does 6 ({ frames := 0, cells := 0, slots := 0, locals := 0 } : Room) [.ref (b 0), .ref ar] [((b 0), .inr (10, [.ref (b 1), .ref (b 2), .ref (b 3), .ref (b 4), .ref (b 5), .ref (b 6), .ref (b 7), .ref (b 8), .ref (b 9), .ref (b 10), .ref (b 11), .ref (b 12), .int 0, .int 0, .int (nI mo), .ref (b 13), .ref (b 14), .ref (b 16)])), (ar, .inl (g.2.1 0, 5, .inl fa)), ((b 8), .inl (g.2.1 0, 8, .inl (fun _ => 0)))] (fun _ => True) (fun _ => []) (fun _ => (0, 0)) := by
  intro sz tt
  refine ofX RX7 rfl (by decide +kernel) (Nat.le_of_ble_eq_true rfl) (fun p e s m args below meth c hargs S hml hr hlk hnm hsz htt hK hA hZ E ls hl => ?_)
  have hx := S.1
  have hb := S.2.1
  have hl : lv_has ls 6 [(0, .ref (b 0)), (1, .ref ar)] := hl
  refine lv_aload_n hx hb dX7_does_0 rfl (lv_at hl 1 rfl) ?_
  refine lv_iconst (v := 1) hx hb dX7_does_1 (by decide) ?_
  refine w_ild (v := p0) S hK E 1 0 rfl rfl (show vp_in 1 5 by unfold vp_in; decide) h1 dX7_does_2 ?_
  refine lv_istore_n (lv' := [(2, .int p0), (0, .ref (b 0)), (1, .ref ar)]) hx hb dX7_does_3 rfl hl (by decide) rfl (fun ls hl => ?_)
  refine lv_aload_n hx hb dX7_does_4 rfl (lv_at hl 2 rfl) ?_
  refine lv_iconst (v := 2) hx hb dX7_does_5 (by decide) ?_
  refine w_ild (v := p1) S hK E 1 0 rfl rfl (show vp_in 2 5 by unfold vp_in; decide) h2 dX7_does_6 ?_
  refine lv_istore_n (lv' := [(3, .int p1), (2, .int p0), (0, .ref (b 0)), (1, .ref ar)]) hx hb dX7_does_7 rfl hl (by decide) rfl (fun ls hl => ?_)
  refine lv_aload_n hx hb dX7_does_8 rfl (lv_at hl 3 rfl) ?_
  refine lv_iconst (v := 0) hx hb dX7_does_9 (by decide) ?_
  refine w_ild (v := 114) S hK E 1 0 rfl rfl (show vp_in 0 5 by unfold vp_in; decide) h0 dX7_does_10 ?_
  refine lv_tableIn (tgt := 193) hx hb dX7_does_11 (by decide) (by decide) rfl (by decide) ?_
  refine lv_aload_n hx hb dX7_does_193 rfl (lv_at hl 2 rfl) ?_
  refine wg_X7_33 (v := .ref (b 8)) S hK E 0 rfl rfl dX7_does_194 ?_
  refine lv_iload_n hx hb dX7_does_197 rfl (lv_at hl 1 rfl) ?_
  refine lv_iload_n hx hb dX7_does_198 rfl (lv_at hl 0 rfl) ?_
  refine w_ist (w' := [((b 0), .inr (10, [.ref (b 1), .ref (b 2), .ref (b 3), .ref (b 4), .ref (b 5), .ref (b 6), .ref (b 7), .ref (b 8), .ref (b 9), .ref (b 10), .ref (b 11), .ref (b 12), .int 0, .int 0, .int (nI mo), .ref (b 13), .ref (b 14), .ref (b 16)])), (ar, .inl (g.2.1 0, 5, .inl fa)), ((b 8), .inl (g.2.1 0, 8, .inl (upd (fun _ => 0) p0.toNatClampNeg p1)))]) S hK E 2 0 rfl rfl hp0 rfl dX7_does_199 (fun H locs E => ?_)
  refine lv_goto (tgt := 346) hx hb dX7_does_200 (by decide) ?_
  have E : Ev g _ s.heap H locs [] := Ev.sub E [] rfl rfl
  exact x_vret () S hr hlk hsz htt hK E dX7_does_346 trivial rfl ⟨Nat.le_of_ble_eq_true rfl, Nat.le_of_ble_eq_true rfl⟩ ⟨Nat.le_of_ble_eq_true rfl, Nat.le_of_ble_eq_true rfl⟩

set_option maxHeartbeats 4000000 in
set_option maxRecDepth 100000 in
/-- does, b -/
theorem c_do98 (l : Launch) (g : Gm) (b : Nat → Nat) (ar : Nat) (fa : Nat → Int32) (mo : Nat) (p0 : Int32) (p1 : Int32) (p2 : Int32) (hp0 : vp_in p0 8) (h0 : fa 0 = 98) (h1 : fa 1 = p0) (h2 : fa 2 = p1) (h3 : fa 3 = p2) (h4 : fa 4 = 0) : MXv (S := Unit) l g yX7_does cX7_does 6 ({ frames := 0, cells := 0, slots := 0, locals := 0 } : Room) [.ref (b 0), .ref ar] [((b 0), .inr (10, [.ref (b 1), .ref (b 2), .ref (b 3), .ref (b 4), .ref (b 5), .ref (b 6), .ref (b 7), .ref (b 8), .ref (b 9), .ref (b 10), .ref (b 11), .ref (b 12), .int 0, .int 0, .int (nI mo), .ref (b 13), .ref (b 14), .ref (b 16)])), (ar, .inl (g.2.1 0, 5, .inl fa)), ((b 9), .inl (g.2.1 0, 8, .inl (fun _ => 0))), ((b 10), .inl (g.2.1 0, 8, .inl (fun _ => 0)))] (fun _ => True) (fun _ => []) (fun _ => (0, 0)) := by
  intro sz tt
  refine ofX RX7 rfl (by decide +kernel) (Nat.le_of_ble_eq_true rfl) (fun p e s m args below meth c hargs S hml hr hlk hnm hsz htt hK hA hZ E ls hl => ?_)
  have hx := S.1
  have hb := S.2.1
  have hl : lv_has ls 6 [(0, .ref (b 0)), (1, .ref ar)] := hl
  refine lv_aload_n hx hb dX7_does_0 rfl (lv_at hl 1 rfl) ?_
  refine lv_iconst (v := 1) hx hb dX7_does_1 (by decide) ?_
  refine w_ild (v := p0) S hK E 1 0 rfl rfl (show vp_in 1 5 by unfold vp_in; decide) h1 dX7_does_2 ?_
  refine lv_istore_n (lv' := [(2, .int p0), (0, .ref (b 0)), (1, .ref ar)]) hx hb dX7_does_3 rfl hl (by decide) rfl (fun ls hl => ?_)
  refine lv_aload_n hx hb dX7_does_4 rfl (lv_at hl 2 rfl) ?_
  refine lv_iconst (v := 2) hx hb dX7_does_5 (by decide) ?_
  refine w_ild (v := p1) S hK E 1 0 rfl rfl (show vp_in 2 5 by unfold vp_in; decide) h2 dX7_does_6 ?_
  refine lv_istore_n (lv' := [(3, .int p1), (2, .int p0), (0, .ref (b 0)), (1, .ref ar)]) hx hb dX7_does_7 rfl hl (by decide) rfl (fun ls hl => ?_)
  refine lv_aload_n hx hb dX7_does_8 rfl (lv_at hl 3 rfl) ?_
  refine lv_iconst (v := 0) hx hb dX7_does_9 (by decide) ?_
  refine w_ild (v := 98) S hK E 1 0 rfl rfl (show vp_in 0 5 by unfold vp_in; decide) h0 dX7_does_10 ?_
  refine lv_tableIn (tgt := 203) hx hb dX7_does_11 (by decide) (by decide) rfl (by decide) ?_
  refine lv_aload_n hx hb dX7_does_203 rfl (lv_at hl 2 rfl) ?_
  refine wg_X7_36 (v := .ref (b 9)) S hK E 0 rfl rfl dX7_does_204 ?_
  refine lv_iload_n hx hb dX7_does_207 rfl (lv_at hl 1 rfl) ?_
  refine lv_iload_n hx hb dX7_does_208 rfl (lv_at hl 0 rfl) ?_
  refine w_ist (w' := [((b 0), .inr (10, [.ref (b 1), .ref (b 2), .ref (b 3), .ref (b 4), .ref (b 5), .ref (b 6), .ref (b 7), .ref (b 8), .ref (b 9), .ref (b 10), .ref (b 11), .ref (b 12), .int 0, .int 0, .int (nI mo), .ref (b 13), .ref (b 14), .ref (b 16)])), (ar, .inl (g.2.1 0, 5, .inl fa)), ((b 9), .inl (g.2.1 0, 8, .inl (upd (fun _ => 0) p0.toNatClampNeg p1))), ((b 10), .inl (g.2.1 0, 8, .inl (fun _ => 0)))]) S hK E 2 0 rfl rfl hp0 rfl dX7_does_209 (fun H locs E => ?_)
  refine lv_aload_n hx hb dX7_does_210 rfl (lv_at hl 2 rfl) ?_
  refine wg_X7_39 (v := .ref (b 10)) S hK E 0 rfl rfl dX7_does_211 ?_
  refine lv_iload_n hx hb dX7_does_214 rfl (lv_at hl 1 rfl) ?_
  refine lv_aload_n hx hb dX7_does_215 rfl (lv_at hl 3 rfl) ?_
  refine lv_iconst (v := 3) hx hb dX7_does_216 (by decide) ?_
  refine w_ild (v := p2) S hK E 1 0 rfl rfl (show vp_in 3 5 by unfold vp_in; decide) h3 dX7_does_217 ?_
  refine w_ist (w' := [((b 0), .inr (10, [.ref (b 1), .ref (b 2), .ref (b 3), .ref (b 4), .ref (b 5), .ref (b 6), .ref (b 7), .ref (b 8), .ref (b 9), .ref (b 10), .ref (b 11), .ref (b 12), .int 0, .int 0, .int (nI mo), .ref (b 13), .ref (b 14), .ref (b 16)])), (ar, .inl (g.2.1 0, 5, .inl fa)), ((b 9), .inl (g.2.1 0, 8, .inl (upd (fun _ => 0) p0.toNatClampNeg p1))), ((b 10), .inl (g.2.1 0, 8, .inl (upd (fun _ => 0) p0.toNatClampNeg p2)))]) S hK E 3 0 rfl rfl hp0 rfl dX7_does_218 (fun H locs E => ?_)
  refine lv_goto (tgt := 346) hx hb dX7_does_219 (by decide) ?_
  have E : Ev g _ s.heap H locs [] := Ev.sub E [] rfl rfl
  exact x_vret () S hr hlk hsz htt hK E dX7_does_346 trivial rfl ⟨Nat.le_of_ble_eq_true rfl, Nat.le_of_ble_eq_true rfl⟩ ⟨Nat.le_of_ble_eq_true rfl, Nat.le_of_ble_eq_true rfl⟩

set_option maxHeartbeats 4000000 in
set_option maxRecDepth 100000 in
/-- does, v -/
theorem c_do118 (l : Launch) (g : Gm) (b : Nat → Nat) (ar : Nat) (fa : Nat → Int32) (mo : Nat) (p0 : Int32) (h0 : fa 0 = 118) (h1 : fa 1 = p0) (h2 : fa 2 = 0) (h3 : fa 3 = 0) (h4 : fa 4 = 0) : MXv (S := Unit) l g yX7_does cX7_does 6 ({ frames := 0, cells := 0, slots := 0, locals := 0 } : Room) [.ref (b 0), .ref ar] [((b 0), .inr (10, [.ref (b 1), .ref (b 2), .ref (b 3), .ref (b 4), .ref (b 5), .ref (b 6), .ref (b 7), .ref (b 8), .ref (b 9), .ref (b 10), .ref (b 11), .ref (b 12), .int 0, .int 0, .int (nI mo), .ref (b 13), .ref (b 14), .ref (b 16)])), (ar, .inl (g.2.1 0, 5, .inl fa))] (fun _ => True) (fun _ => []) (fun _ => (0, 0)) := by
  intro sz tt
  refine ofX RX7 rfl (by decide +kernel) (Nat.le_of_ble_eq_true rfl) (fun p e s m args below meth c hargs S hml hr hlk hnm hsz htt hK hA hZ E ls hl => ?_)
  have hx := S.1
  have hb := S.2.1
  have hl : lv_has ls 6 [(0, .ref (b 0)), (1, .ref ar)] := hl
  refine lv_aload_n hx hb dX7_does_0 rfl (lv_at hl 1 rfl) ?_
  refine lv_iconst (v := 1) hx hb dX7_does_1 (by decide) ?_
  refine w_ild (v := p0) S hK E 1 0 rfl rfl (show vp_in 1 5 by unfold vp_in; decide) h1 dX7_does_2 ?_
  refine lv_istore_n (lv' := [(2, .int p0), (0, .ref (b 0)), (1, .ref ar)]) hx hb dX7_does_3 rfl hl (by decide) rfl (fun ls hl => ?_)
  refine lv_aload_n hx hb dX7_does_4 rfl (lv_at hl 2 rfl) ?_
  refine lv_iconst (v := 2) hx hb dX7_does_5 (by decide) ?_
  refine w_ild (v := 0) S hK E 1 0 rfl rfl (show vp_in 2 5 by unfold vp_in; decide) h2 dX7_does_6 ?_
  refine lv_istore_n (lv' := [(3, .int 0), (2, .int p0), (0, .ref (b 0)), (1, .ref ar)]) hx hb dX7_does_7 rfl hl (by decide) rfl (fun ls hl => ?_)
  refine lv_aload_n hx hb dX7_does_8 rfl (lv_at hl 3 rfl) ?_
  refine lv_iconst (v := 0) hx hb dX7_does_9 (by decide) ?_
  refine w_ild (v := 118) S hK E 1 0 rfl rfl (show vp_in 0 5 by unfold vp_in; decide) h0 dX7_does_10 ?_
  refine lv_tableIn (tgt := 222) hx hb dX7_does_11 (by decide) (by decide) rfl (by decide) ?_
  refine lv_aload_n hx hb dX7_does_222 rfl (lv_at hl 2 rfl) ?_
  refine lv_iload_n hx hb dX7_does_223 rfl (lv_at hl 1 rfl) ?_
  refine wp_X7_155 (w' := [((b 0), .inr (10, [.ref (b 1), .ref (b 2), .ref (b 3), .ref (b 4), .ref (b 5), .ref (b 6), .ref (b 7), .ref (b 8), .ref (b 9), .ref (b 10), .ref (b 11), .ref (b 12), .int p0, .int 0, .int (nI mo), .ref (b 13), .ref (b 14), .ref (b 16)])), (ar, .inl (g.2.1 0, 5, .inl fa))]) S hK E 0 rfl rfl rfl (Nat.le_of_ble_eq_true rfl) rfl dX7_does_224 (fun H locs E => ?_)
  refine lv_goto (tgt := 346) hx hb dX7_does_227 (by decide) ?_
  have E : Ev g _ s.heap H locs [] := Ev.sub E [] rfl rfl
  exact x_vret () S hr hlk hsz htt hK E dX7_does_346 trivial rfl ⟨Nat.le_of_ble_eq_true rfl, Nat.le_of_ble_eq_true rfl⟩ ⟨Nat.le_of_ble_eq_true rfl, Nat.le_of_ble_eq_true rfl⟩

set_option maxHeartbeats 4000000 in
set_option maxRecDepth 100000 in
/-- does, s -/
theorem c_do115 (l : Launch) (g : Gm) (b : Nat → Nat) (ar : Nat) (fa : Nat → Int32) (mo : Nat) (p0 : Int32) (h0 : fa 0 = 115) (h1 : fa 1 = p0) (h2 : fa 2 = 0) (h3 : fa 3 = 0) (h4 : fa 4 = 0) : MXv (S := Unit) l g yX7_does cX7_does 6 ({ frames := 0, cells := 0, slots := 0, locals := 0 } : Room) [.ref (b 0), .ref ar] [((b 0), .inr (10, [.ref (b 1), .ref (b 2), .ref (b 3), .ref (b 4), .ref (b 5), .ref (b 6), .ref (b 7), .ref (b 8), .ref (b 9), .ref (b 10), .ref (b 11), .ref (b 12), .int 0, .int 0, .int (nI mo), .ref (b 13), .ref (b 14), .ref (b 16)])), (ar, .inl (g.2.1 0, 5, .inl fa))] (fun _ => True) (fun _ => []) (fun _ => (0, 0)) := by
  intro sz tt
  refine ofX RX7 rfl (by decide +kernel) (Nat.le_of_ble_eq_true rfl) (fun p e s m args below meth c hargs S hml hr hlk hnm hsz htt hK hA hZ E ls hl => ?_)
  have hx := S.1
  have hb := S.2.1
  have hl : lv_has ls 6 [(0, .ref (b 0)), (1, .ref ar)] := hl
  refine lv_aload_n hx hb dX7_does_0 rfl (lv_at hl 1 rfl) ?_
  refine lv_iconst (v := 1) hx hb dX7_does_1 (by decide) ?_
  refine w_ild (v := p0) S hK E 1 0 rfl rfl (show vp_in 1 5 by unfold vp_in; decide) h1 dX7_does_2 ?_
  refine lv_istore_n (lv' := [(2, .int p0), (0, .ref (b 0)), (1, .ref ar)]) hx hb dX7_does_3 rfl hl (by decide) rfl (fun ls hl => ?_)
  refine lv_aload_n hx hb dX7_does_4 rfl (lv_at hl 2 rfl) ?_
  refine lv_iconst (v := 2) hx hb dX7_does_5 (by decide) ?_
  refine w_ild (v := 0) S hK E 1 0 rfl rfl (show vp_in 2 5 by unfold vp_in; decide) h2 dX7_does_6 ?_
  refine lv_istore_n (lv' := [(3, .int 0), (2, .int p0), (0, .ref (b 0)), (1, .ref ar)]) hx hb dX7_does_7 rfl hl (by decide) rfl (fun ls hl => ?_)
  refine lv_aload_n hx hb dX7_does_8 rfl (lv_at hl 3 rfl) ?_
  refine lv_iconst (v := 0) hx hb dX7_does_9 (by decide) ?_
  refine w_ild (v := 115) S hK E 1 0 rfl rfl (show vp_in 0 5 by unfold vp_in; decide) h0 dX7_does_10 ?_
  refine lv_tableIn (tgt := 230) hx hb dX7_does_11 (by decide) (by decide) rfl (by decide) ?_
  refine lv_aload_n hx hb dX7_does_230 rfl (lv_at hl 2 rfl) ?_
  refine lv_iload_n hx hb dX7_does_231 rfl (lv_at hl 1 rfl) ?_
  refine wp_X7_158 (w' := [((b 0), .inr (10, [.ref (b 1), .ref (b 2), .ref (b 3), .ref (b 4), .ref (b 5), .ref (b 6), .ref (b 7), .ref (b 8), .ref (b 9), .ref (b 10), .ref (b 11), .ref (b 12), .int 0, .int p0, .int (nI mo), .ref (b 13), .ref (b 14), .ref (b 16)])), (ar, .inl (g.2.1 0, 5, .inl fa))]) S hK E 0 rfl rfl rfl (Nat.le_of_ble_eq_true rfl) rfl dX7_does_232 (fun H locs E => ?_)
  refine lv_goto (tgt := 346) hx hb dX7_does_235 (by decide) ?_
  have E : Ev g _ s.heap H locs [] := Ev.sub E [] rfl rfl
  exact x_vret () S hr hlk hsz htt hK E dX7_does_346 trivial rfl ⟨Nat.le_of_ble_eq_true rfl, Nat.le_of_ble_eq_true rfl⟩ ⟨Nat.le_of_ble_eq_true rfl, Nat.le_of_ble_eq_true rfl⟩

set_option maxHeartbeats 4000000 in
set_option maxRecDepth 100000 in
/-- new Well -/
theorem c_X8_init (l : Launch) (g : Gm) (a : Nat) (x : Int32) (y : Int32) (z : Int32) : MXv (S := Unit) l g yX8_init cX8_init 4 ({ frames := 1, cells := 0, slots := 0, locals := 12 } : Room) [.ref a, .int x, .int y, .int z] [(a, .inr (11, [.int 0, .int 0, .int 0, .int 0, .int 0, .long 0, .int 0, .int 0, .int 0]))] (fun _ => True) (fun _ => [(a, .inr (11, [.int x, .int y, .int z, .int 0, .int 0, .long 0, .int 0, .int 0, .int 0]))]) (fun _ => (0, 0)) := by
  intro sz tt
  refine ofX RX8 rfl (by decide +kernel) (Nat.le_of_ble_eq_true rfl) (fun p e s m args below meth c hargs S hml hr hlk hnm hsz htt hK hA hZ E ls hl => ?_)
  have hx := S.1
  have hb := S.2.1
  have hl : lv_has ls 4 [(0, .ref a), (1, .int x), (2, .int y), (3, .int z)] := hl
  refine lv_aload_n hx hb dX8_init_0 rfl (lv_at hl 0 rfl) ?_
  refine w_obj S hml hl ml_X8_1 (Nat.le_of_ble_eq_true rfl) (Nat.le_of_ble_eq_true rfl) dX8_init_1 ?_
  refine lv_aload_n hx hb dX8_init_4 rfl (lv_at hl 0 rfl) ?_
  refine lv_iload_n hx hb dX8_init_5 rfl (lv_at hl 1 rfl) ?_
  refine wpF_X8_7 (w' := [(a, .inr (11, [.int x, .int 0, .int 0, .int 0, .int 0, .long 0, .int 0, .int 0, .int 0]))]) S hK E 0 hnm rfl rfl rfl (Nat.le_of_ble_eq_true rfl) rfl dX8_init_6 (fun H locs E => ?_)
  refine lv_aload_n hx hb dX8_init_9 rfl (lv_at hl 0 rfl) ?_
  refine lv_iload_n hx hb dX8_init_10 rfl (lv_at hl 2 rfl) ?_
  refine wpF_X8_13 (w' := [(a, .inr (11, [.int x, .int y, .int 0, .int 0, .int 0, .long 0, .int 0, .int 0, .int 0]))]) S hK E 0 hnm rfl rfl rfl (Nat.le_of_ble_eq_true rfl) rfl dX8_init_11 (fun H locs E => ?_)
  refine lv_aload_n hx hb dX8_init_14 rfl (lv_at hl 0 rfl) ?_
  refine lv_iload_n hx hb dX8_init_15 rfl (lv_at hl 3 rfl) ?_
  refine wp_X8_16 (w' := [(a, .inr (11, [.int x, .int y, .int z, .int 0, .int 0, .long 0, .int 0, .int 0, .int 0]))]) S hK E 0 rfl rfl rfl (Nat.le_of_ble_eq_true rfl) rfl dX8_init_16 (fun H locs E => ?_)
  exact x_vret () S hr hlk hsz htt hK E dX8_init_19 trivial rfl ⟨Nat.le_of_ble_eq_true rfl, Nat.le_of_ble_eq_true rfl⟩ ⟨Nat.le_of_ble_eq_true rfl, Nat.le_of_ble_eq_true rfl⟩

set_option maxHeartbeats 4000000 in
set_option maxRecDepth 100000 in
/-- does, a well -/
theorem c_do119 (l : Launch) (g : Gm) (b : Nat → Nat) (ar : Nat) (fa : Nat → Int32) (mo : Nat) (p0 : Int32) (p1 : Int32) (p2 : Int32) (h0 : fa 0 = 119) (h1 : fa 1 = p0) (h2 : fa 2 = p1) (h3 : fa 3 = p2) (h4 : fa 4 = 0) : MXv (S := Nat) l g yX7_does cX7_does 6 ({ frames := 5, cells := 2, slots := 19, locals := 101 } : Room) [.ref (b 0), .ref ar] [((b 0), .inr (10, [.ref (b 1), .ref (b 2), .ref (b 3), .ref (b 4), .ref (b 5), .ref (b 6), .ref (b 7), .ref (b 8), .ref (b 9), .ref (b 10), .ref (b 11), .ref (b 12), .int 0, .int 0, .int (nI mo), .ref (b 13), .ref (b 14), .ref (b 16)])), (ar, .inl (g.2.1 0, 5, .inl fa)), ((b 13), .inr (8, [.int 0, .ref (g.2.2 0), .int 0]))] (fun _ => True) (fun u => [((b 0), .inr (10, [.ref (b 1), .ref (b 2), .ref (b 3), .ref (b 4), .ref (b 5), .ref (b 6), .ref (b 7), .ref (b 8), .ref (b 9), .ref (b 10), .ref (b 11), .ref (b 12), .int 0, .int 0, .int (nI mo), .ref (b 13), .ref (b 14), .ref (b 16)])), ((b 13), .inr (8, [.int 1, .ref u, .int 1]))]) (fun _ => (2, 19)) := by
  intro sz tt
  refine ofX RX7 rfl (by decide +kernel) (Nat.le_of_ble_eq_true rfl) (fun p e s m args below meth c hargs S hml hr hlk hnm hsz htt hK hA hZ E ls hl => ?_)
  have hx := S.1
  have hb := S.2.1
  have hl : lv_has ls 6 [(0, .ref (b 0)), (1, .ref ar)] := hl
  refine lv_aload_n hx hb dX7_does_0 rfl (lv_at hl 1 rfl) ?_
  refine lv_iconst (v := 1) hx hb dX7_does_1 (by decide) ?_
  refine w_ild (v := p0) S hK E 1 0 rfl rfl (show vp_in 1 5 by unfold vp_in; decide) h1 dX7_does_2 ?_
  refine lv_istore_n (lv' := [(2, .int p0), (0, .ref (b 0)), (1, .ref ar)]) hx hb dX7_does_3 rfl hl (by decide) rfl (fun ls hl => ?_)
  refine lv_aload_n hx hb dX7_does_4 rfl (lv_at hl 2 rfl) ?_
  refine lv_iconst (v := 2) hx hb dX7_does_5 (by decide) ?_
  refine w_ild (v := p1) S hK E 1 0 rfl rfl (show vp_in 2 5 by unfold vp_in; decide) h2 dX7_does_6 ?_
  refine lv_istore_n (lv' := [(3, .int p1), (2, .int p0), (0, .ref (b 0)), (1, .ref ar)]) hx hb dX7_does_7 rfl hl (by decide) rfl (fun ls hl => ?_)
  refine lv_aload_n hx hb dX7_does_8 rfl (lv_at hl 3 rfl) ?_
  refine lv_iconst (v := 0) hx hb dX7_does_9 (by decide) ?_
  refine w_ild (v := 119) S hK E 1 0 rfl rfl (show vp_in 0 5 by unfold vp_in; decide) h0 dX7_does_10 ?_
  refine lv_tableIn (tgt := 238) hx hb dX7_does_11 (by decide) (by decide) rfl (by decide) ?_
  refine lv_aload_n hx hb dX7_does_238 rfl (lv_at hl 2 rfl) ?_
  refine wg_X7_51 (v := .ref (b 13)) S hK E 0 rfl rfl dX7_does_239 ?_
  refine w_new (ci := 11) (fs := [.int 0, .int 0, .int 0, .int 0, .int 0, .long 0, .int 0, .int 0, .int 0]) (C := RX8) (T := TX8) (N := 9) S hK E hA fw_X8 tyX8 tyX8_ok cl_X7_79 ib_X8 in_X8 rfl (fun j hj => by rcases (show j = 0 ∨ j = 1 ∨ j = 2 ∨ j = 3 ∨ j = 4 ∨ j = 5 ∨ j = 6 ∨ j = 7 ∨ j = 8 by omega) with rfl | rfl | rfl | rfl | rfl | rfl | rfl | rfl | rfl <;> rfl) (Nat.le_of_ble_eq_true rfl) (Nat.le_of_ble_eq_true rfl) dX7_does_242 (fun q1 H E => ?_)
  have E : Ev g _ s.heap H _ [((b 0), .inr (10, [.ref (b 1), .ref (b 2), .ref (b 3), .ref (b 4), .ref (b 5), .ref (b 6), .ref (b 7), .ref (b 8), .ref (b 9), .ref (b 10), .ref (b 11), .ref (b 12), .int 0, .int 0, .int (nI mo), .ref (b 13), .ref (b 14), .ref (b 16)])), (ar, .inl (g.2.1 0, 5, .inl fa)), ((b 13), .inr (8, [.int 0, .ref (g.2.2 0), .int 0])), (q1, .inr (11, [.int 0, .int 0, .int 0, .int 0, .int 0, .long 0, .int 0, .int 0, .int 0]))] := E
  refine lv_dup hx hb dX7_does_245 rfl ?_
  refine lv_iload_n hx hb dX7_does_246 rfl (lv_at hl 1 rfl) ?_
  refine lv_iload_n hx hb dX7_does_247 rfl (lv_at hl 0 rfl) ?_
  refine lv_aload_n hx hb dX7_does_248 rfl (lv_at hl 3 rfl) ?_
  refine lv_iconst (v := 3) hx hb dX7_does_249 (by decide) ?_
  refine w_ild (v := p2) S hK E 1 0 rfl rfl (show vp_in 3 5 by unfold vp_in; decide) h3 dX7_does_250 ?_
  refine w_retv (runI_X (As := [.int p0, .int p1, .int p2]) (rest := [.ref q1, .ref (b 13)]) (n := 3) S hml hK (hZ.at E) (Cut.of (wc := [(q1, .inr (11, [.int 0, .int 0, .int 0, .int 0, .int 0, .long 0, .int 0, .int 0, .int 0]))]) (wr := [((b 0), .inr (10, [.ref (b 1), .ref (b 2), .ref (b 3), .ref (b 4), .ref (b 5), .ref (b 6), .ref (b 7), .ref (b 8), .ref (b 9), .ref (b 10), .ref (b 11), .ref (b 12), .int 0, .int 0, .int (nI mo), .ref (b 13), .ref (b 14), .ref (b 16)])), (ar, .inl (g.2.1 0, 5, .inl fa)), ((b 13), .inr (8, [.int 0, .ref (g.2.2 0), .int 0]))]) E hA [3] [0, 1, 2] rfl rfl rfl rfl (by decide)) (c_X8_init l g q1 p0 p1 p2 _ _) ml_X7_199 im_X8_init in_X8 co_X8_init rfl ⟨by decide +kernel, by decide +kernel, by decide +kernel⟩ ⟨Nat.le_of_ble_eq_true rfl, Nat.le_of_ble_eq_true rfl⟩ rfl hl.1 rfl (Nat.le_of_ble_eq_true rfl) dX7_does_251 ⟨Nat.le_of_ble_eq_true rfl, Nat.le_of_ble_eq_true rfl⟩) (Cut.of (wc := [(q1, .inr (11, [.int 0, .int 0, .int 0, .int 0, .int 0, .long 0, .int 0, .int 0, .int 0]))]) (wr := [((b 0), .inr (10, [.ref (b 1), .ref (b 2), .ref (b 3), .ref (b 4), .ref (b 5), .ref (b 6), .ref (b 7), .ref (b 8), .ref (b 9), .ref (b 10), .ref (b 11), .ref (b 12), .int 0, .int 0, .int (nI mo), .ref (b 13), .ref (b 14), .ref (b 16)])), (ar, .inl (g.2.1 0, 5, .inl fa)), ((b 13), .inr (8, [.int 0, .ref (g.2.2 0), .int 0]))]) E hA [3] [0, 1, 2] rfl rfl rfl rfl (by decide)) E (fun u2 H locs hp E => ?_)
  have E : Ev g _ s.heap H locs [((b 0), .inr (10, [.ref (b 1), .ref (b 2), .ref (b 3), .ref (b 4), .ref (b 5), .ref (b 6), .ref (b 7), .ref (b 8), .ref (b 9), .ref (b 10), .ref (b 11), .ref (b 12), .int 0, .int 0, .int (nI mo), .ref (b 13), .ref (b 14), .ref (b 16)])), (ar, .inl (g.2.1 0, 5, .inl fa)), ((b 13), .inr (8, [.int 0, .ref (g.2.2 0), .int 0])), (q1, .inr (11, [.int p0, .int p1, .int p2, .int 0, .int 0, .long 0, .int 0, .int 0, .int 0]))] := E
  refine w_reti (runV_X (As := [.ref q1]) (rest := []) (q0 := 0) (n := 1) S hml hK (hZ.at E) (Cut.of (wc := [((b 13), .inr (8, [.int 0, .ref (g.2.2 0), .int 0])), (q1, .inr (11, [.int p0, .int p1, .int p2, .int 0, .int 0, .long 0, .int 0, .int 0, .int 0]))]) (wr := [((b 0), .inr (10, [.ref (b 1), .ref (b 2), .ref (b 3), .ref (b 4), .ref (b 5), .ref (b 6), .ref (b 7), .ref (b 8), .ref (b 9), .ref (b 10), .ref (b 11), .ref (b 12), .int 0, .int 0, .int (nI mo), .ref (b 13), .ref (b 14), .ref (b 16)])), (ar, .inl (g.2.1 0, 5, .inl fa))]) E hA [2, 3] [0, 1] rfl rfl rfl rfl (by decide)) (c_ad1 l g (b 13) q1 (.inr (11, [.int p0, .int p1, .int p2, .int 0, .int 0, .long 0, .int 0, .int 0, .int 0])) any_X8 _ _) (gi_wsV ml_X7_202 im_Jx4a65c_add_9ea2d sl_Jx4a65c_add_9ea2d in_Jx4a65c co_Jx4a65c_add_9ea2d) ⟨rfl, by decide +kernel, by decide +kernel, by decide +kernel⟩ ⟨Nat.le_of_ble_eq_true rfl, Nat.le_of_ble_eq_true rfl⟩ rfl rfl rfl hl.1 rfl (Nat.le_of_ble_eq_true rfl) dX7_does_254 ⟨Nat.le_of_ble_eq_true rfl, Nat.le_of_ble_eq_true rfl⟩) (Cut.of (wc := [((b 13), .inr (8, [.int 0, .ref (g.2.2 0), .int 0])), (q1, .inr (11, [.int p0, .int p1, .int p2, .int 0, .int 0, .long 0, .int 0, .int 0, .int 0]))]) (wr := [((b 0), .inr (10, [.ref (b 1), .ref (b 2), .ref (b 3), .ref (b 4), .ref (b 5), .ref (b 6), .ref (b 7), .ref (b 8), .ref (b 9), .ref (b 10), .ref (b 11), .ref (b 12), .int 0, .int 0, .int (nI mo), .ref (b 13), .ref (b 14), .ref (b 16)])), (ar, .inl (g.2.1 0, 5, .inl fa))]) E hA [2, 3] [0, 1] rfl rfl rfl rfl (by decide)) E (fun r3 u3 H locs hp E => ?_)
  have E : Ev g _ s.heap H locs [((b 0), .inr (10, [.ref (b 1), .ref (b 2), .ref (b 3), .ref (b 4), .ref (b 5), .ref (b 6), .ref (b 7), .ref (b 8), .ref (b 9), .ref (b 10), .ref (b 11), .ref (b 12), .int 0, .int 0, .int (nI mo), .ref (b 13), .ref (b 14), .ref (b 16)])), (ar, .inl (g.2.1 0, 5, .inl fa)), ((b 13), .inr (8, [.int 1, .ref u3, .int 1])), (q1, .inr (11, [.int p0, .int p1, .int p2, .int 0, .int 0, .long 0, .int 0, .int 0, .int 0])), (u3, .inl (g.2.1 4, 10, .inr (.inr (.inr (.inr (va_up (fun _ => none) (0 : Int32).toNatClampNeg (some q1)))))))] := E
  subst hp
  refine lv_istore (lv' := [(4, .int 1), (3, .int p1), (2, .int p0), (0, .ref (b 0)), (1, .ref ar)]) hx hb dX7_does_257 hl (by decide) rfl (fun ls hl => ?_)
  refine lv_goto (tgt := 346) hx hb dX7_does_259 (by decide) ?_
  have E : Ev g _ s.heap H locs [((b 0), .inr (10, [.ref (b 1), .ref (b 2), .ref (b 3), .ref (b 4), .ref (b 5), .ref (b 6), .ref (b 7), .ref (b 8), .ref (b 9), .ref (b 10), .ref (b 11), .ref (b 12), .int 0, .int 0, .int (nI mo), .ref (b 13), .ref (b 14), .ref (b 16)])), ((b 13), .inr (8, [.int 1, .ref u3, .int 1]))] := Ev.sub E [0, 2] rfl rfl
  exact x_vret u3 S hr hlk hsz htt hK E dX7_does_346 trivial rfl ⟨Nat.le_of_ble_eq_true rfl, Nat.le_of_ble_eq_true rfl⟩ ⟨Nat.le_of_ble_eq_true rfl, Nat.le_of_ble_eq_true rfl⟩

set_option maxHeartbeats 4000000 in
set_option maxRecDepth 100000 in
/-- does, months -/
theorem c_do112 (l : Launch) (g : Gm) (b : Nat → Nat) (ar : Nat) (fa : Nat → Int32) (mm : Nat) (h0 : fa 0 = 112) (h1 : fa 1 = (nI mm)) (h2 : fa 2 = 0) (h3 : fa 3 = 0) (h4 : fa 4 = 0) (hm : mm ≤ 24) : MXv (S := Unit) l g yX7_does cX7_does 6 ({ frames := 7, cells := 75, slots := 575, locals := 146 } : Room) [.ref (b 0), .ref ar] [((b 0), .inr (10, [.ref (b 1), .ref (b 2), .ref (b 3), .ref (b 4), .ref (b 5), .ref (b 6), .ref (b 7), .ref (b 8), .ref (b 9), .ref (b 10), .ref (b 11), .ref (b 12), .int 0, .int 0, .int (nI 0), .ref (b 13), .ref (b 14), .ref (b 16)])), (ar, .inl (g.2.1 0, 5, .inl fa)), ((b 1), .inl (g.2.1 0, 16, .inl (fun _ => 0))), ((b 2), .inl (g.2.1 0, 16, .inl (fun _ => 10))), ((b 3), .inl (g.2.1 0, 16, .inl (fun _ => 0))), ((b 4), .inl (g.2.1 0, 16, .inl (fun _ => 0))), ((b 5), .inl (g.2.1 0, 8, .inl (fun _ => 100))), ((b 6), .inl (g.2.1 0, 2, .inl (fun _ => 4))), ((b 7), .inl (g.2.1 0, 8, .inl (fun _ => 0))), ((b 8), .inl (g.2.1 0, 8, .inl (fun _ => 0))), ((b 9), .inl (g.2.1 0, 8, .inl (fun _ => 0))), ((b 10), .inl (g.2.1 0, 8, .inl (fun _ => 0))), ((b 11), .inl (g.2.1 0, 16, .inl (fun _ => 0))), ((b 12), .inl (g.2.1 0, 16, .inl (fun _ => 0))), ((b 13), .inr (8, [.int 0, .ref (g.2.2 0), .int 0])), ((b 16), .inl (g.2.1 1, 26, .inr (.inl (fun _ => 0))))] (fun _ => True) (fun _ => [((b 0), .inr (10, [.ref (b 1), .ref (b 2), .ref (b 3), .ref (b 4), .ref (b 5), .ref (b 6), .ref (b 7), .ref (b 8), .ref (b 9), .ref (b 10), .ref (b 11), .ref (b 12), .int 0, .int 0, .int (nI mm), .ref (b 13), .ref (b 14), .ref (b 16)]))]) (fun _ => (72, 552)) := by
  intro sz tt
  refine ofX RX7 rfl (by decide +kernel) (Nat.le_of_ble_eq_true rfl) (fun p e s m args below meth c hargs S hml hr hlk hnm hsz htt hK hA hZ E ls hl => ?_)
  have hx := S.1
  have hb := S.2.1
  have hl : lv_has ls 6 [(0, .ref (b 0)), (1, .ref ar)] := hl
  refine lv_aload_n hx hb dX7_does_0 rfl (lv_at hl 1 rfl) ?_
  refine lv_iconst (v := 1) hx hb dX7_does_1 (by decide) ?_
  refine w_ild (v := (nI mm)) S hK E 1 0 rfl rfl (show vp_in 1 5 by unfold vp_in; decide) h1 dX7_does_2 ?_
  refine lv_istore_n (lv' := [(2, .int (nI mm)), (0, .ref (b 0)), (1, .ref ar)]) hx hb dX7_does_3 rfl hl (by decide) rfl (fun ls hl => ?_)
  refine lv_aload_n hx hb dX7_does_4 rfl (lv_at hl 2 rfl) ?_
  refine lv_iconst (v := 2) hx hb dX7_does_5 (by decide) ?_
  refine w_ild (v := 0) S hK E 1 0 rfl rfl (show vp_in 2 5 by unfold vp_in; decide) h2 dX7_does_6 ?_
  refine lv_istore_n (lv' := [(3, .int 0), (2, .int (nI mm)), (0, .ref (b 0)), (1, .ref ar)]) hx hb dX7_does_7 rfl hl (by decide) rfl (fun ls hl => ?_)
  refine lv_aload_n hx hb dX7_does_8 rfl (lv_at hl 3 rfl) ?_
  refine lv_iconst (v := 0) hx hb dX7_does_9 (by decide) ?_
  refine w_ild (v := 112) S hK E 1 0 rfl rfl (show vp_in 0 5 by unfold vp_in; decide) h0 dX7_does_10 ?_
  refine lv_tableIn (tgt := 327) hx hb dX7_does_11 (by decide) (by decide) rfl (by decide) ?_
  refine lv_iconst (v := 0) hx hb dX7_does_327 (by decide) ?_
  refine lv_istore (lv' := [(5, .int 0), (3, .int 0), (2, .int (nI mm)), (0, .ref (b 0)), (1, .ref ar)]) hx hb dX7_does_328 hl (by decide) rfl (fun ls hl => ?_)
  have L1 : ∀ (k1 i1 : Nat), i1 + k1 = mm → ∀ (H : Heap) (locs : List Loc), Ev g (va_A [((b 0), .inr (10, [.ref (b 1), .ref (b 2), .ref (b 3), .ref (b 4), .ref (b 5), .ref (b 6), .ref (b 7), .ref (b 8), .ref (b 9), .ref (b 10), .ref (b 11), .ref (b 12), .int 0, .int 0, .int (nI 0), .ref (b 13), .ref (b 14), .ref (b 16)])), (ar, .inl (g.2.1 0, 5, .inl fa)), ((b 1), .inl (g.2.1 0, 16, .inl (fun _ => 0))), ((b 2), .inl (g.2.1 0, 16, .inl (fun _ => 10))), ((b 3), .inl (g.2.1 0, 16, .inl (fun _ => 0))), ((b 4), .inl (g.2.1 0, 16, .inl (fun _ => 0))), ((b 5), .inl (g.2.1 0, 8, .inl (fun _ => 100))), ((b 6), .inl (g.2.1 0, 2, .inl (fun _ => 4))), ((b 7), .inl (g.2.1 0, 8, .inl (fun _ => 0))), ((b 8), .inl (g.2.1 0, 8, .inl (fun _ => 0))), ((b 9), .inl (g.2.1 0, 8, .inl (fun _ => 0))), ((b 10), .inl (g.2.1 0, 8, .inl (fun _ => 0))), ((b 11), .inl (g.2.1 0, 16, .inl (fun _ => 0))), ((b 12), .inl (g.2.1 0, 16, .inl (fun _ => 0))), ((b 13), .inr (8, [.int 0, .ref (g.2.2 0), .int 0])), ((b 16), .inl (g.2.1 1, 26, .inr (.inl (fun _ => 0))))] sz) s.heap H locs [((b 0), .inr (10, [.ref (b 1), .ref (b 2), .ref (b 3), .ref (b 4), .ref (b 5), .ref (b 6), .ref (b 7), .ref (b 8), .ref (b 9), .ref (b 10), .ref (b 11), .ref (b 12), .int 0, .int 0, .int (nI i1), .ref (b 13), .ref (b 14), .ref (b 16)])), (ar, .inl (g.2.1 0, 5, .inl fa)), ((b 1), .inl (g.2.1 0, 16, .inl (fun _ => 0))), ((b 2), .inl (g.2.1 0, 16, .inl (fun _ => 10))), ((b 3), .inl (g.2.1 0, 16, .inl (fun _ => 0))), ((b 4), .inl (g.2.1 0, 16, .inl (fun _ => 0))), ((b 5), .inl (g.2.1 0, 8, .inl (fun _ => 100))), ((b 6), .inl (g.2.1 0, 2, .inl (fun _ => 4))), ((b 7), .inl (g.2.1 0, 8, .inl (fun _ => 0))), ((b 8), .inl (g.2.1 0, 8, .inl (fun _ => 0))), ((b 9), .inl (g.2.1 0, 8, .inl (fun _ => 0))), ((b 10), .inl (g.2.1 0, 8, .inl (fun _ => 0))), ((b 11), .inl (g.2.1 0, 16, .inl (fun _ => 0))), ((b 12), .inl (g.2.1 0, 16, .inl (fun _ => 0))), ((b 13), .inr (8, [.int 0, .ref (g.2.2 0), .int 0])), ((b 16), .inl (g.2.1 1, 26, .inr (.inl (fun _ => 0))))] → ∀ ls : Array Slot, lv_has ls 6 [(5, .int (nI i1)), (2, .int (nI mm)), (0, .ref (b 0))] → W p l e ({ frames := 7, cells := 75, slots := 575, locals := 146 } : Room) s m args below meth c H locs (0 + 3 * i1) (0 + 23 * i1) (MQ below (va_Qv (S := Unit) (fun _ => True) (AtX g (va_A [((b 0), .inr (10, [.ref (b 1), .ref (b 2), .ref (b 3), .ref (b 4), .ref (b 5), .ref (b 6), .ref (b 7), .ref (b 8), .ref (b 9), .ref (b 10), .ref (b 11), .ref (b 12), .int 0, .int 0, .int (nI 0), .ref (b 13), .ref (b 14), .ref (b 16)])), (ar, .inl (g.2.1 0, 5, .inl fa)), ((b 1), .inl (g.2.1 0, 16, .inl (fun _ => 0))), ((b 2), .inl (g.2.1 0, 16, .inl (fun _ => 10))), ((b 3), .inl (g.2.1 0, 16, .inl (fun _ => 0))), ((b 4), .inl (g.2.1 0, 16, .inl (fun _ => 0))), ((b 5), .inl (g.2.1 0, 8, .inl (fun _ => 100))), ((b 6), .inl (g.2.1 0, 2, .inl (fun _ => 4))), ((b 7), .inl (g.2.1 0, 8, .inl (fun _ => 0))), ((b 8), .inl (g.2.1 0, 8, .inl (fun _ => 0))), ((b 9), .inl (g.2.1 0, 8, .inl (fun _ => 0))), ((b 10), .inl (g.2.1 0, 8, .inl (fun _ => 0))), ((b 11), .inl (g.2.1 0, 16, .inl (fun _ => 0))), ((b 12), .inl (g.2.1 0, 16, .inl (fun _ => 0))), ((b 13), .inr (8, [.int 0, .ref (g.2.2 0), .int 0])), ((b 16), .inl (g.2.1 1, 26, .inr (.inl (fun _ => 0))))] sz) (fun _ => [((b 0), .inr (10, [.ref (b 1), .ref (b 2), .ref (b 3), .ref (b 4), .ref (b 5), .ref (b 6), .ref (b 7), .ref (b 8), .ref (b 9), .ref (b 10), .ref (b 11), .ref (b 12), .int 0, .int 0, .int (nI mm), .ref (b 13), .ref (b 14), .ref (b 16)]))]) (fun _ => (72, 552)) sz tt) (va_A [((b 0), .inr (10, [.ref (b 1), .ref (b 2), .ref (b 3), .ref (b 4), .ref (b 5), .ref (b 6), .ref (b 7), .ref (b 8), .ref (b 9), .ref (b 10), .ref (b 11), .ref (b 12), .int 0, .int 0, .int (nI 0), .ref (b 13), .ref (b 14), .ref (b 16)])), (ar, .inl (g.2.1 0, 5, .inl fa)), ((b 1), .inl (g.2.1 0, 16, .inl (fun _ => 0))), ((b 2), .inl (g.2.1 0, 16, .inl (fun _ => 10))), ((b 3), .inl (g.2.1 0, 16, .inl (fun _ => 0))), ((b 4), .inl (g.2.1 0, 16, .inl (fun _ => 0))), ((b 5), .inl (g.2.1 0, 8, .inl (fun _ => 100))), ((b 6), .inl (g.2.1 0, 2, .inl (fun _ => 4))), ((b 7), .inl (g.2.1 0, 8, .inl (fun _ => 0))), ((b 8), .inl (g.2.1 0, 8, .inl (fun _ => 0))), ((b 9), .inl (g.2.1 0, 8, .inl (fun _ => 0))), ((b 10), .inl (g.2.1 0, 8, .inl (fun _ => 0))), ((b 11), .inl (g.2.1 0, 16, .inl (fun _ => 0))), ((b 12), .inl (g.2.1 0, 16, .inl (fun _ => 0))), ((b 13), .inr (8, [.int 0, .ref (g.2.2 0), .int 0])), ((b 16), .inl (g.2.1 1, 26, .inr (.inl (fun _ => 0))))] sz)) args s 75 575 (va_A [((b 0), .inr (10, [.ref (b 1), .ref (b 2), .ref (b 3), .ref (b 4), .ref (b 5), .ref (b 6), .ref (b 7), .ref (b 8), .ref (b 9), .ref (b 10), .ref (b 11), .ref (b 12), .int 0, .int 0, .int (nI 0), .ref (b 13), .ref (b 14), .ref (b 16)])), (ar, .inl (g.2.1 0, 5, .inl fa)), ((b 1), .inl (g.2.1 0, 16, .inl (fun _ => 0))), ((b 2), .inl (g.2.1 0, 16, .inl (fun _ => 10))), ((b 3), .inl (g.2.1 0, 16, .inl (fun _ => 0))), ((b 4), .inl (g.2.1 0, 16, .inl (fun _ => 0))), ((b 5), .inl (g.2.1 0, 8, .inl (fun _ => 100))), ((b 6), .inl (g.2.1 0, 2, .inl (fun _ => 4))), ((b 7), .inl (g.2.1 0, 8, .inl (fun _ => 0))), ((b 8), .inl (g.2.1 0, 8, .inl (fun _ => 0))), ((b 9), .inl (g.2.1 0, 8, .inl (fun _ => 0))), ((b 10), .inl (g.2.1 0, 8, .inl (fun _ => 0))), ((b 11), .inl (g.2.1 0, 16, .inl (fun _ => 0))), ((b 12), .inl (g.2.1 0, 16, .inl (fun _ => 0))), ((b 13), .inr (8, [.int 0, .ref (g.2.2 0), .int 0])), ((b 16), .inl (g.2.1 1, 26, .inr (.inl (fun _ => 0))))] sz)) (F0 m 330 ls []) := by
    intro k1
    induction k1 with
    | zero =>
      intro i1 hi1 H locs E ls hl
      have hiN : mm = i1 := by omega
      subst hiN
      have hl : lv_has ls 6 [(5, .int (nI mm)), (2, .int (nI mm)), (0, .ref (b 0))] := hl
      refine lv_iload hx hb dX7_does_330 (lv_at hl 0 rfl) ?_
      refine lv_iload_n hx hb dX7_does_332 rfl (lv_at hl 1 rfl) ?_
      refine lv_icmp_ge (tgt := 346) hx hb dX7_does_333 (by decide) (fun _ => ?_) (fun c_ => absurd (g_yes (a := mm) (b := mm) rfl rfl (by omega) (by omega)) c_)
      have E : Ev g _ s.heap H locs [((b 0), .inr (10, [.ref (b 1), .ref (b 2), .ref (b 3), .ref (b 4), .ref (b 5), .ref (b 6), .ref (b 7), .ref (b 8), .ref (b 9), .ref (b 10), .ref (b 11), .ref (b 12), .int 0, .int 0, .int (nI mm), .ref (b 13), .ref (b 14), .ref (b 16)]))] := Ev.sub E [0] rfl rfl
      exact x_vret () S hr hlk hsz htt hK E dX7_does_346 trivial rfl ⟨by show _ ≤ 72; omega, by show _ ≤ 552; omega⟩ ⟨by show _ ≤ 75; omega, by show _ ≤ 575; omega⟩
    | succ k1 ih1 =>
      intro i1 hi1 H locs E ls hl
      have hl : lv_has ls 6 [(5, .int (nI i1)), (2, .int (nI mm)), (0, .ref (b 0))] := hl
      refine lv_iload hx hb dX7_does_330 (lv_at hl 0 rfl) ?_
      refine lv_iload_n hx hb dX7_does_332 rfl (lv_at hl 1 rfl) ?_
      refine lv_icmp_ge (tgt := 346) hx hb dX7_does_333 (by decide) (fun c_ => absurd c_ (g_no (a := i1) (b := mm) rfl rfl (by omega) (by omega))) (fun _ => ?_)
      refine lv_aload_n hx hb dX7_does_336 rfl (lv_at hl 2 rfl) ?_
      refine w_retv (runV_X (As := []) (rest := []) (q0 := 0) (n := 0) S hml hK (hZ.at E) (Cut.of (wc := [((b 0), .inr (10, [.ref (b 1), .ref (b 2), .ref (b 3), .ref (b 4), .ref (b 5), .ref (b 6), .ref (b 7), .ref (b 8), .ref (b 9), .ref (b 10), .ref (b 11), .ref (b 12), .int 0, .int 0, .int (nI i1), .ref (b 13), .ref (b 14), .ref (b 16)])), ((b 1), .inl (g.2.1 0, 16, .inl (fun _ => 0))), ((b 2), .inl (g.2.1 0, 16, .inl (fun _ => 10))), ((b 3), .inl (g.2.1 0, 16, .inl (fun _ => 0))), ((b 4), .inl (g.2.1 0, 16, .inl (fun _ => 0))), ((b 5), .inl (g.2.1 0, 8, .inl (fun _ => 100))), ((b 6), .inl (g.2.1 0, 2, .inl (fun _ => 4))), ((b 7), .inl (g.2.1 0, 8, .inl (fun _ => 0))), ((b 8), .inl (g.2.1 0, 8, .inl (fun _ => 0))), ((b 9), .inl (g.2.1 0, 8, .inl (fun _ => 0))), ((b 10), .inl (g.2.1 0, 8, .inl (fun _ => 0))), ((b 11), .inl (g.2.1 0, 16, .inl (fun _ => 0))), ((b 12), .inl (g.2.1 0, 16, .inl (fun _ => 0))), ((b 13), .inr (8, [.int 0, .ref (g.2.2 0), .int 0])), ((b 16), .inl (g.2.1 1, 26, .inr (.inl (fun _ => 0))))]) (wr := [(ar, .inl (g.2.1 0, 5, .inl fa))]) E hA [0, 2, 3, 4, 5, 6, 7, 8, 9, 10, 11, 12, 13, 14, 15] [1] rfl rfl rfl rfl (by decide)) (c_X7_pass l g b i1 (by omega) _ _) (gi_wsV ml_X7_205 im_X7_pass sl_X7_pass in_X7 co_X7_pass) ⟨rfl, by decide +kernel, by decide +kernel, by decide +kernel⟩ ⟨Nat.le_of_ble_eq_true rfl, Nat.le_of_ble_eq_true rfl⟩ rfl rfl rfl hl.1 rfl (Nat.le_of_ble_eq_true rfl) dX7_does_337 ⟨by show _ + 3 ≤ 75; omega, by show _ + 23 ≤ 575; omega⟩) (Cut.of (wc := [((b 0), .inr (10, [.ref (b 1), .ref (b 2), .ref (b 3), .ref (b 4), .ref (b 5), .ref (b 6), .ref (b 7), .ref (b 8), .ref (b 9), .ref (b 10), .ref (b 11), .ref (b 12), .int 0, .int 0, .int (nI i1), .ref (b 13), .ref (b 14), .ref (b 16)])), ((b 1), .inl (g.2.1 0, 16, .inl (fun _ => 0))), ((b 2), .inl (g.2.1 0, 16, .inl (fun _ => 10))), ((b 3), .inl (g.2.1 0, 16, .inl (fun _ => 0))), ((b 4), .inl (g.2.1 0, 16, .inl (fun _ => 0))), ((b 5), .inl (g.2.1 0, 8, .inl (fun _ => 100))), ((b 6), .inl (g.2.1 0, 2, .inl (fun _ => 4))), ((b 7), .inl (g.2.1 0, 8, .inl (fun _ => 0))), ((b 8), .inl (g.2.1 0, 8, .inl (fun _ => 0))), ((b 9), .inl (g.2.1 0, 8, .inl (fun _ => 0))), ((b 10), .inl (g.2.1 0, 8, .inl (fun _ => 0))), ((b 11), .inl (g.2.1 0, 16, .inl (fun _ => 0))), ((b 12), .inl (g.2.1 0, 16, .inl (fun _ => 0))), ((b 13), .inr (8, [.int 0, .ref (g.2.2 0), .int 0])), ((b 16), .inl (g.2.1 1, 26, .inr (.inl (fun _ => 0))))]) (wr := [(ar, .inl (g.2.1 0, 5, .inl fa))]) E hA [0, 2, 3, 4, 5, 6, 7, 8, 9, 10, 11, 12, 13, 14, 15] [1] rfl rfl rfl rfl (by decide)) E (fun u2 H locs hp E => ?_)
      have E : Ev g _ s.heap H locs [(ar, .inl (g.2.1 0, 5, .inl fa)), ((b 0), .inr (10, [.ref (b 1), .ref (b 2), .ref (b 3), .ref (b 4), .ref (b 5), .ref (b 6), .ref (b 7), .ref (b 8), .ref (b 9), .ref (b 10), .ref (b 11), .ref (b 12), .int 0, .int 0, .int (nI (i1 + 1)), .ref (b 13), .ref (b 14), .ref (b 16)])), ((b 1), .inl (g.2.1 0, 16, .inl (fun _ => 0))), ((b 2), .inl (g.2.1 0, 16, .inl (fun _ => 10))), ((b 3), .inl (g.2.1 0, 16, .inl (fun _ => 0))), ((b 4), .inl (g.2.1 0, 16, .inl (fun _ => 0))), ((b 5), .inl (g.2.1 0, 8, .inl (fun _ => 100))), ((b 6), .inl (g.2.1 0, 2, .inl (fun _ => 4))), ((b 7), .inl (g.2.1 0, 8, .inl (fun _ => 0))), ((b 8), .inl (g.2.1 0, 8, .inl (fun _ => 0))), ((b 9), .inl (g.2.1 0, 8, .inl (fun _ => 0))), ((b 10), .inl (g.2.1 0, 8, .inl (fun _ => 0))), ((b 11), .inl (g.2.1 0, 16, .inl (fun _ => 0))), ((b 12), .inl (g.2.1 0, 16, .inl (fun _ => 0))), ((b 13), .inr (8, [.int 0, .ref (g.2.2 0), .int 0])), ((b 16), .inl (g.2.1 1, 26, .inr (.inl (fun _ => 0))))] := E
      refine lv_iinc (v := (nI (i1 + 1))) (lv' := [(5, .int (nI (i1 + 1))), (2, .int (nI mm)), (0, .ref (b 0))]) hx hb dX7_does_340 hl (k := 0) rfl (nI_1 i1) (by decide) rfl (fun ls hl => ?_)
      refine lv_goto (tgt := 330) hx hb dX7_does_343 (by decide) ?_
      have E : Ev g _ s.heap H locs [((b 0), .inr (10, [.ref (b 1), .ref (b 2), .ref (b 3), .ref (b 4), .ref (b 5), .ref (b 6), .ref (b 7), .ref (b 8), .ref (b 9), .ref (b 10), .ref (b 11), .ref (b 12), .int 0, .int 0, .int (nI (i1 + 1)), .ref (b 13), .ref (b 14), .ref (b 16)])), (ar, .inl (g.2.1 0, 5, .inl fa)), ((b 1), .inl (g.2.1 0, 16, .inl (fun _ => 0))), ((b 2), .inl (g.2.1 0, 16, .inl (fun _ => 10))), ((b 3), .inl (g.2.1 0, 16, .inl (fun _ => 0))), ((b 4), .inl (g.2.1 0, 16, .inl (fun _ => 0))), ((b 5), .inl (g.2.1 0, 8, .inl (fun _ => 100))), ((b 6), .inl (g.2.1 0, 2, .inl (fun _ => 4))), ((b 7), .inl (g.2.1 0, 8, .inl (fun _ => 0))), ((b 8), .inl (g.2.1 0, 8, .inl (fun _ => 0))), ((b 9), .inl (g.2.1 0, 8, .inl (fun _ => 0))), ((b 10), .inl (g.2.1 0, 8, .inl (fun _ => 0))), ((b 11), .inl (g.2.1 0, 16, .inl (fun _ => 0))), ((b 12), .inl (g.2.1 0, 16, .inl (fun _ => 0))), ((b 13), .inr (8, [.int 0, .ref (g.2.2 0), .int 0])), ((b 16), .inl (g.2.1 1, 26, .inr (.inl (fun _ => 0))))] := Ev.sub E [1, 0, 2, 3, 4, 5, 6, 7, 8, 9, 10, 11, 12, 13, 14, 15] rfl rfl
      refine W.widen (k := 0 + 3 * (i1 + 1)) (n := 0 + 23 * (i1 + 1)) (by show 0 + 3 * i1 + 3 ≤ _; omega) (by show 0 + 23 * i1 + 23 ≤ _; omega) ?_
      exact ih1 (i1 + 1) (by omega) _ _ E ls (lv_sub hl [0, 1, 2] rfl)
  have E : Ev g _ s.heap _ _ [((b 0), .inr (10, [.ref (b 1), .ref (b 2), .ref (b 3), .ref (b 4), .ref (b 5), .ref (b 6), .ref (b 7), .ref (b 8), .ref (b 9), .ref (b 10), .ref (b 11), .ref (b 12), .int 0, .int 0, .int (nI 0), .ref (b 13), .ref (b 14), .ref (b 16)])), (ar, .inl (g.2.1 0, 5, .inl fa)), ((b 1), .inl (g.2.1 0, 16, .inl (fun _ => 0))), ((b 2), .inl (g.2.1 0, 16, .inl (fun _ => 10))), ((b 3), .inl (g.2.1 0, 16, .inl (fun _ => 0))), ((b 4), .inl (g.2.1 0, 16, .inl (fun _ => 0))), ((b 5), .inl (g.2.1 0, 8, .inl (fun _ => 100))), ((b 6), .inl (g.2.1 0, 2, .inl (fun _ => 4))), ((b 7), .inl (g.2.1 0, 8, .inl (fun _ => 0))), ((b 8), .inl (g.2.1 0, 8, .inl (fun _ => 0))), ((b 9), .inl (g.2.1 0, 8, .inl (fun _ => 0))), ((b 10), .inl (g.2.1 0, 8, .inl (fun _ => 0))), ((b 11), .inl (g.2.1 0, 16, .inl (fun _ => 0))), ((b 12), .inl (g.2.1 0, 16, .inl (fun _ => 0))), ((b 13), .inr (8, [.int 0, .ref (g.2.2 0), .int 0])), ((b 16), .inl (g.2.1 1, 26, .inr (.inl (fun _ => 0))))] := E
  exact L1 mm 0 (by omega) _ _ E ls (lv_sub hl [0, 2, 3] rfl)

set_option maxHeartbeats 4000000 in
set_option maxRecDepth 100000 in
/-- thrown -/
theorem c_X9_thrown (l : Launch) (g : Gm) (m0 : Nat) (b : Nat → Nat) (t : Int32) : MXi (S := Unit) l g yX9_thrown cX9_thrown 1 .int ({ frames := 0, cells := 0, slots := 0, locals := 0 } : Room) [.ref m0] [(m0, .inr (9, [.int t, .ref (b 0), .ref (b 17)]))] (fun r _ => r = t) (fun _ => [(m0, .inr (9, [.int t, .ref (b 0), .ref (b 17)]))]) (fun _ => (0, 0)) := by
  intro sz tt
  refine ofX RX9 rfl (by decide +kernel) (Nat.le_of_ble_eq_true rfl) (fun p e s m args below meth c hargs S hml hr hlk hnm hsz htt hK hA hZ E ls hl => ?_)
  have hx := S.1
  have hb := S.2.1
  have hl : lv_has ls 1 [(0, .ref m0)] := hl
  refine lv_aload_n hx hb dX9_thrown_0 rfl (lv_at hl 0 rfl) ?_
  refine wg_X9_23 (v := .int t) S hK E 0 rfl rfl dX9_thrown_1 ?_
  exact x_iret () S hr hlk hsz htt hK E dX9_thrown_4 rfl rfl ⟨Nat.le_of_ble_eq_true rfl, Nat.le_of_ble_eq_true rfl⟩ ⟨Nat.le_of_ble_eq_true rfl, Nat.le_of_ble_eq_true rfl⟩

set_option maxHeartbeats 4000000 in
set_option maxRecDepth 100000 in
/-- fails -/
theorem c_X9_fails (l : Launch) (g : Gm) (m0 : Nat) (b : Nat → Nat) (t : Int32) (w : Int32) : MXi (S := Unit) l g yX9_fails cX9_fails 2 .boolean ({ frames := 0, cells := 0, slots := 0, locals := 0 } : Room) [.ref m0, .int w] [(m0, .inr (9, [.int t, .ref (b 0), .ref (b 17)]))] (fun r _ => (r = 1 ∧ ¬ w ≤ 0) ∨ (r = 0 ∧ w ≤ 0)) (fun _ => [(m0, .inr (9, [.int w, .ref (b 0), .ref (b 17)]))]) (fun _ => (0, 0)) := by
  intro sz tt
  refine ofX RX9 rfl (by decide +kernel) (Nat.le_of_ble_eq_true rfl) (fun p e s m args below meth c hargs S hml hr hlk hnm hsz htt hK hA hZ E ls hl => ?_)
  have hx := S.1
  have hb := S.2.1
  have hl : lv_has ls 2 [(0, .ref m0), (1, .int w)] := hl
  refine lv_aload_n hx hb dX9_fails_0 rfl (lv_at hl 0 rfl) ?_
  refine lv_iload_n hx hb dX9_fails_1 rfl (lv_at hl 1 rfl) ?_
  refine wp_X9_23 (w' := [(m0, .inr (9, [.int w, .ref (b 0), .ref (b 17)]))]) S hK E 0 rfl rfl rfl (Nat.le_of_ble_eq_true rfl) rfl dX9_fails_2 (fun H locs E => ?_)
  refine lv_iload_n hx hb dX9_fails_5 rfl (lv_at hl 1 rfl) ?_
  refine lv_if_le (tgt := 13) hx hb dX9_fails_6 (by decide) (fun c1 => ?_) (fun c1 => ?_)
  · have c1 : w ≤ 0 := c1
    refine lv_iconst (v := 0) hx hb dX9_fails_13 (by decide) ?_
    exact x_zret () S hr hlk hsz htt hK E dX9_fails_14 rfl (Or.inr ⟨rfl, c1⟩) rfl ⟨Nat.le_of_ble_eq_true rfl, Nat.le_of_ble_eq_true rfl⟩ ⟨Nat.le_of_ble_eq_true rfl, Nat.le_of_ble_eq_true rfl⟩
  · have c1 : ¬ (w ≤ 0) := c1
    refine lv_iconst (v := 1) hx hb dX9_fails_9 (by decide) ?_
    refine lv_goto (tgt := 14) hx hb dX9_fails_10 (by decide) ?_
    exact x_zret () S hr hlk hsz htt hK E dX9_fails_14 rfl (Or.inl ⟨rfl, c1⟩) rfl ⟨Nat.le_of_ble_eq_true rfl, Nat.le_of_ble_eq_true rfl⟩ ⟨Nat.le_of_ble_eq_true rfl, Nat.le_of_ble_eq_true rfl⟩

theorem rg0 {v : Int32} (h : rgOK v 0 (-1)) : False := by
  obtain ⟨h1, h2⟩ := h
  rw [Int32.le_iff_toInt_le] at h1 h2
  have e1 : (0 : Int32).toInt = 0 := by decide
  have e2 : (-1 : Int32).toInt = -1 := by decide
  omega
set_option maxHeartbeats 4000000 in
set_option maxRecDepth 100000 in
/-- in -/
theorem c_X9_in (l : Launch) (g : Gm) (v : Int32) (lo : Int32) (hi : Int32) : MXi (S := Unit) l g yX9_in cX9_in 3 .boolean ({ frames := 0, cells := 0, slots := 0, locals := 0 } : Room) [.int v, .int lo, .int hi] [] (fun r _ => (r = 1 ∧ rgOK v lo hi) ∨ (r = 0 ∧ ¬ rgOK v lo hi)) (fun _ => []) (fun _ => (0, 0)) := by
  intro sz tt
  refine ofX RX9 rfl (by decide +kernel) (Nat.le_of_ble_eq_true rfl) (fun p e s m args below meth c hargs S hml hr hlk hnm hsz htt hK hA hZ E ls hl => ?_)
  have hx := S.1
  have hb := S.2.1
  have hl : lv_has ls 3 [(0, .int v), (1, .int lo), (2, .int hi)] := hl
  refine lv_iload_n hx hb dX9_in_0 rfl (lv_at hl 0 rfl) ?_
  refine lv_iload_n hx hb dX9_in_1 rfl (lv_at hl 1 rfl) ?_
  refine lv_icmp_lt (tgt := 14) hx hb dX9_in_2 (by decide) (fun c1 => ?_) (fun c1 => ?_)
  · have c1 : v < lo := c1
    refine lv_iconst (v := 0) hx hb dX9_in_14 (by decide) ?_
    exact x_zret () S hr hlk hsz htt hK E dX9_in_15 rfl (Or.inr ⟨rfl, fun z => le_nlt z.1 c1⟩) rfl ⟨Nat.le_of_ble_eq_true rfl, Nat.le_of_ble_eq_true rfl⟩ ⟨Nat.le_of_ble_eq_true rfl, Nat.le_of_ble_eq_true rfl⟩
  · have c1 : ¬ (v < lo) := c1
    refine lv_iload_n hx hb dX9_in_5 rfl (lv_at hl 0 rfl) ?_
    refine lv_iload_n hx hb dX9_in_6 rfl (lv_at hl 2 rfl) ?_
    refine lv_icmp_gt (tgt := 14) hx hb dX9_in_7 (by decide) (fun c2 => ?_) (fun c2 => ?_)
    · have c2 : hi < v := c2
      refine lv_iconst (v := 0) hx hb dX9_in_14 (by decide) ?_
      exact x_zret () S hr hlk hsz htt hK E dX9_in_15 rfl (Or.inr ⟨rfl, fun z => le_nlt z.2 c2⟩) rfl ⟨Nat.le_of_ble_eq_true rfl, Nat.le_of_ble_eq_true rfl⟩ ⟨Nat.le_of_ble_eq_true rfl, Nat.le_of_ble_eq_true rfl⟩
    · have c2 : ¬ (hi < v) := c2
      refine lv_iconst (v := 1) hx hb dX9_in_10 (by decide) ?_
      refine lv_goto (tgt := 15) hx hb dX9_in_11 (by decide) ?_
      exact x_zret () S hr hlk hsz htt hK E dX9_in_15 rfl (Or.inl ⟨rfl, nlt_le c1, nlt_le c2⟩) rfl ⟨Nat.le_of_ble_eq_true rfl, Nat.le_of_ble_eq_true rfl⟩ ⟨Nat.le_of_ble_eq_true rfl, Nat.le_of_ble_eq_true rfl⟩

theorem any_arr {g : Gm} {q : Nat} {n : Nat} {f : Nat → Int32} (s : State) (H : Heap) (hK : va_K g.1 vwC (tysG g) s) (hN : NWs s) (h : va_at g.1 vwC (q, .inl (g.2.1 0, n, .inl f)) H) : va_Any "java/lang/Object" s H q := by
  have hc : s.vm.findClass "[I" = some (g.2.1 0) := (hK.2 0 (g.2.1 0, .int) rfl).2
  obtain ⟨k, hk, -⟩ := Vm.findClass_spec hc
  exact ⟨_, h, rfl, ⟨k, hk⟩, fun comp h1 => vb_asgC (hN _ nw_aI rfl) comp _ h1 hc⟩
set_option maxHeartbeats 4000000 in
set_option maxRecDepth 100000 in
/-- act, c -/
theorem c_ac99 (l : Launch) (g : Gm) (m0 : Nat) (b : Nat → Nat) (t : Int32) (mo : Nat) (p0 : Int32) (p1 : Int32) (p2 : Int32) (p3 : Int32) (hp0 : vp_in p0 16) : MXv (S := Unit) l g yX9_act cX9_act 8 ({ frames := 5, cells := 2, slots := 15, locals := 101 } : Room) [.ref m0, .int 99, .int p0, .int p1, .int p2, .int p3] [(m0, .inr (9, [.int t, .ref (b 0), .ref (b 17)])), ((b 17), .inr (8, [.int 0, .ref (g.2.2 0), .int 0])), ((b 0), .inr (10, [.ref (b 1), .ref (b 2), .ref (b 3), .ref (b 4), .ref (b 5), .ref (b 6), .ref (b 7), .ref (b 8), .ref (b 9), .ref (b 10), .ref (b 11), .ref (b 12), .int 0, .int 0, .int (nI mo), .ref (b 13), .ref (b 14), .ref (b 16)])), ((b 1), .inl (g.2.1 0, 16, .inl (fun _ => 0))), ((b 2), .inl (g.2.1 0, 16, .inl (fun _ => 10))), ((b 3), .inl (g.2.1 0, 16, .inl (fun _ => 0))), ((b 4), .inl (g.2.1 0, 16, .inl (fun _ => 0))), ((b 16), .inl (g.2.1 1, 26, .inr (.inl (fun _ => 0))))] (fun _ => True) (fun _ => [(m0, .inr (9, [.int t, .ref (b 0), .ref (b 17)]))]) (fun _ => (2, 15)) := by
  intro sz tt
  refine ofX RX9 rfl (by decide +kernel) (Nat.le_of_ble_eq_true rfl) (fun p e s m args below meth c hargs S hml hr hlk hnm hsz htt hK hA hZ E ls hl => ?_)
  have hx := S.1
  have hb := S.2.1
  have hl : lv_has ls 8 [(0, .ref m0), (1, .int 99), (2, .int p0), (3, .int p1), (4, .int p2), (5, .int p3)] := hl
  refine lv_iconst (v := 5) hx hb dX9_act_0 (by decide) ?_
  refine w_newa (atype := .int) (ty := .int) (a0 := (5, .inl (fun _ => 0))) (N' := 5) 0 S hK E hA ac_int rfl rfl (fun C h => by cases h) (fun cA => by first | rfl | (rw [vp_cell_i]; rfl)) (by decide) (by decide) (by decide) (Nat.le_of_ble_eq_true rfl) (Nat.le_of_ble_eq_true rfl) dX9_act_1 (fun q1 H E => ?_)
  have E : Ev g _ s.heap H _ [(m0, .inr (9, [.int t, .ref (b 0), .ref (b 17)])), ((b 17), .inr (8, [.int 0, .ref (g.2.2 0), .int 0])), ((b 0), .inr (10, [.ref (b 1), .ref (b 2), .ref (b 3), .ref (b 4), .ref (b 5), .ref (b 6), .ref (b 7), .ref (b 8), .ref (b 9), .ref (b 10), .ref (b 11), .ref (b 12), .int 0, .int 0, .int (nI mo), .ref (b 13), .ref (b 14), .ref (b 16)])), ((b 1), .inl (g.2.1 0, 16, .inl (fun _ => 0))), ((b 2), .inl (g.2.1 0, 16, .inl (fun _ => 10))), ((b 3), .inl (g.2.1 0, 16, .inl (fun _ => 0))), ((b 4), .inl (g.2.1 0, 16, .inl (fun _ => 0))), ((b 16), .inl (g.2.1 1, 26, .inr (.inl (fun _ => 0)))), (q1, .inl (g.2.1 0, 5, .inl (fun _ => 0)))] := E
  refine lv_dup hx hb dX9_act_3 rfl ?_
  refine lv_iconst (v := 0) hx hb dX9_act_4 (by decide) ?_
  refine lv_iload_n hx hb dX9_act_5 rfl (lv_at hl 1 rfl) ?_
  refine w_ist (w' := [(m0, .inr (9, [.int t, .ref (b 0), .ref (b 17)])), ((b 17), .inr (8, [.int 0, .ref (g.2.2 0), .int 0])), ((b 0), .inr (10, [.ref (b 1), .ref (b 2), .ref (b 3), .ref (b 4), .ref (b 5), .ref (b 6), .ref (b 7), .ref (b 8), .ref (b 9), .ref (b 10), .ref (b 11), .ref (b 12), .int 0, .int 0, .int (nI mo), .ref (b 13), .ref (b 14), .ref (b 16)])), ((b 1), .inl (g.2.1 0, 16, .inl (fun _ => 0))), ((b 2), .inl (g.2.1 0, 16, .inl (fun _ => 10))), ((b 3), .inl (g.2.1 0, 16, .inl (fun _ => 0))), ((b 4), .inl (g.2.1 0, 16, .inl (fun _ => 0))), ((b 16), .inl (g.2.1 1, 26, .inr (.inl (fun _ => 0)))), (q1, .inl (g.2.1 0, 5, .inl (upd (fun _ => 0) (0 : Int32).toNatClampNeg 99)))]) S hK E 8 0 rfl rfl (show vp_in 0 5 by unfold vp_in; decide) rfl dX9_act_6 (fun H locs E => ?_)
  refine lv_dup hx hb dX9_act_7 rfl ?_
  refine lv_iconst (v := 1) hx hb dX9_act_8 (by decide) ?_
  refine lv_iload_n hx hb dX9_act_9 rfl (lv_at hl 2 rfl) ?_
  refine w_ist (w' := [(m0, .inr (9, [.int t, .ref (b 0), .ref (b 17)])), ((b 17), .inr (8, [.int 0, .ref (g.2.2 0), .int 0])), ((b 0), .inr (10, [.ref (b 1), .ref (b 2), .ref (b 3), .ref (b 4), .ref (b 5), .ref (b 6), .ref (b 7), .ref (b 8), .ref (b 9), .ref (b 10), .ref (b 11), .ref (b 12), .int 0, .int 0, .int (nI mo), .ref (b 13), .ref (b 14), .ref (b 16)])), ((b 1), .inl (g.2.1 0, 16, .inl (fun _ => 0))), ((b 2), .inl (g.2.1 0, 16, .inl (fun _ => 10))), ((b 3), .inl (g.2.1 0, 16, .inl (fun _ => 0))), ((b 4), .inl (g.2.1 0, 16, .inl (fun _ => 0))), ((b 16), .inl (g.2.1 1, 26, .inr (.inl (fun _ => 0)))), (q1, .inl (g.2.1 0, 5, .inl (upd (upd (fun _ => 0) (0 : Int32).toNatClampNeg 99) (1 : Int32).toNatClampNeg p0)))]) S hK E 8 0 rfl rfl (show vp_in 1 5 by unfold vp_in; decide) rfl dX9_act_10 (fun H locs E => ?_)
  refine lv_dup hx hb dX9_act_11 rfl ?_
  refine lv_iconst (v := 2) hx hb dX9_act_12 (by decide) ?_
  refine lv_iload_n hx hb dX9_act_13 rfl (lv_at hl 3 rfl) ?_
  refine w_ist (w' := [(m0, .inr (9, [.int t, .ref (b 0), .ref (b 17)])), ((b 17), .inr (8, [.int 0, .ref (g.2.2 0), .int 0])), ((b 0), .inr (10, [.ref (b 1), .ref (b 2), .ref (b 3), .ref (b 4), .ref (b 5), .ref (b 6), .ref (b 7), .ref (b 8), .ref (b 9), .ref (b 10), .ref (b 11), .ref (b 12), .int 0, .int 0, .int (nI mo), .ref (b 13), .ref (b 14), .ref (b 16)])), ((b 1), .inl (g.2.1 0, 16, .inl (fun _ => 0))), ((b 2), .inl (g.2.1 0, 16, .inl (fun _ => 10))), ((b 3), .inl (g.2.1 0, 16, .inl (fun _ => 0))), ((b 4), .inl (g.2.1 0, 16, .inl (fun _ => 0))), ((b 16), .inl (g.2.1 1, 26, .inr (.inl (fun _ => 0)))), (q1, .inl (g.2.1 0, 5, .inl (upd (upd (upd (fun _ => 0) (0 : Int32).toNatClampNeg 99) (1 : Int32).toNatClampNeg p0) (2 : Int32).toNatClampNeg p1)))]) S hK E 8 0 rfl rfl (show vp_in 2 5 by unfold vp_in; decide) rfl dX9_act_14 (fun H locs E => ?_)
  refine lv_dup hx hb dX9_act_15 rfl ?_
  refine lv_iconst (v := 3) hx hb dX9_act_16 (by decide) ?_
  refine lv_iload hx hb dX9_act_17 (lv_at hl 4 rfl) ?_
  refine w_ist (w' := [(m0, .inr (9, [.int t, .ref (b 0), .ref (b 17)])), ((b 17), .inr (8, [.int 0, .ref (g.2.2 0), .int 0])), ((b 0), .inr (10, [.ref (b 1), .ref (b 2), .ref (b 3), .ref (b 4), .ref (b 5), .ref (b 6), .ref (b 7), .ref (b 8), .ref (b 9), .ref (b 10), .ref (b 11), .ref (b 12), .int 0, .int 0, .int (nI mo), .ref (b 13), .ref (b 14), .ref (b 16)])), ((b 1), .inl (g.2.1 0, 16, .inl (fun _ => 0))), ((b 2), .inl (g.2.1 0, 16, .inl (fun _ => 10))), ((b 3), .inl (g.2.1 0, 16, .inl (fun _ => 0))), ((b 4), .inl (g.2.1 0, 16, .inl (fun _ => 0))), ((b 16), .inl (g.2.1 1, 26, .inr (.inl (fun _ => 0)))), (q1, .inl (g.2.1 0, 5, .inl (upd (upd (upd (upd (fun _ => 0) (0 : Int32).toNatClampNeg 99) (1 : Int32).toNatClampNeg p0) (2 : Int32).toNatClampNeg p1) (3 : Int32).toNatClampNeg p2)))]) S hK E 8 0 rfl rfl (show vp_in 3 5 by unfold vp_in; decide) rfl dX9_act_19 (fun H locs E => ?_)
  refine lv_dup hx hb dX9_act_20 rfl ?_
  refine lv_iconst (v := 4) hx hb dX9_act_21 (by decide) ?_
  refine lv_iload hx hb dX9_act_22 (lv_at hl 5 rfl) ?_
  refine w_ist (w' := [(m0, .inr (9, [.int t, .ref (b 0), .ref (b 17)])), ((b 17), .inr (8, [.int 0, .ref (g.2.2 0), .int 0])), ((b 0), .inr (10, [.ref (b 1), .ref (b 2), .ref (b 3), .ref (b 4), .ref (b 5), .ref (b 6), .ref (b 7), .ref (b 8), .ref (b 9), .ref (b 10), .ref (b 11), .ref (b 12), .int 0, .int 0, .int (nI mo), .ref (b 13), .ref (b 14), .ref (b 16)])), ((b 1), .inl (g.2.1 0, 16, .inl (fun _ => 0))), ((b 2), .inl (g.2.1 0, 16, .inl (fun _ => 10))), ((b 3), .inl (g.2.1 0, 16, .inl (fun _ => 0))), ((b 4), .inl (g.2.1 0, 16, .inl (fun _ => 0))), ((b 16), .inl (g.2.1 1, 26, .inr (.inl (fun _ => 0)))), (q1, .inl (g.2.1 0, 5, .inl (upd (upd (upd (upd (upd (fun _ => 0) (0 : Int32).toNatClampNeg 99) (1 : Int32).toNatClampNeg p0) (2 : Int32).toNatClampNeg p1) (3 : Int32).toNatClampNeg p2) (4 : Int32).toNatClampNeg p3)))]) S hK E 8 0 rfl rfl (show vp_in 4 5 by unfold vp_in; decide) rfl dX9_act_24 (fun H locs E => ?_)
  refine lv_astore (lv' := [(6, .ref q1), (0, .ref m0), (1, .int 99), (2, .int p0), (3, .int p1), (4, .int p2), (5, .int p3)]) hx hb dX9_act_25 hl (by decide) rfl (fun ls hl => ?_)
  refine lv_aload_n hx hb dX9_act_27 rfl (lv_at hl 1 rfl) ?_
  refine wg_X9_19 (v := .ref (b 17)) S hK E 0 rfl rfl dX9_act_28 ?_
  refine lv_aload hx hb dX9_act_31 (lv_at hl 0 rfl) ?_
  refine w_reti (runV_X (As := [.ref q1]) (rest := []) (q0 := 0) (n := 1) S hml hK (hZ.at E) (Cut.of (wc := [((b 17), .inr (8, [.int 0, .ref (g.2.2 0), .int 0])), (q1, .inl (g.2.1 0, 5, .inl (upd (upd (upd (upd (upd (fun _ => 0) (0 : Int32).toNatClampNeg 99) (1 : Int32).toNatClampNeg p0) (2 : Int32).toNatClampNeg p1) (3 : Int32).toNatClampNeg p2) (4 : Int32).toNatClampNeg p3)))]) (wr := [(m0, .inr (9, [.int t, .ref (b 0), .ref (b 17)])), ((b 0), .inr (10, [.ref (b 1), .ref (b 2), .ref (b 3), .ref (b 4), .ref (b 5), .ref (b 6), .ref (b 7), .ref (b 8), .ref (b 9), .ref (b 10), .ref (b 11), .ref (b 12), .int 0, .int 0, .int (nI mo), .ref (b 13), .ref (b 14), .ref (b 16)])), ((b 1), .inl (g.2.1 0, 16, .inl (fun _ => 0))), ((b 2), .inl (g.2.1 0, 16, .inl (fun _ => 10))), ((b 3), .inl (g.2.1 0, 16, .inl (fun _ => 0))), ((b 4), .inl (g.2.1 0, 16, .inl (fun _ => 0))), ((b 16), .inl (g.2.1 1, 26, .inr (.inl (fun _ => 0))))]) E hA [1, 8] [0, 2, 3, 4, 5, 6, 7] rfl rfl rfl rfl (by decide)) (c_ad1 l g (b 17) q1 (.inl (g.2.1 0, 5, .inl (upd (upd (upd (upd (upd (fun _ => 0) (0 : Int32).toNatClampNeg 99) (1 : Int32).toNatClampNeg p0) (2 : Int32).toNatClampNeg p1) (3 : Int32).toNatClampNeg p2) (4 : Int32).toNatClampNeg p3))) any_arr _ _) (gi_wsV ml_X9_27 im_Jx4a65c_add_9ea2d sl_Jx4a65c_add_9ea2d in_Jx4a65c co_Jx4a65c_add_9ea2d) ⟨rfl, by decide +kernel, by decide +kernel, by decide +kernel⟩ ⟨Nat.le_of_ble_eq_true rfl, Nat.le_of_ble_eq_true rfl⟩ rfl rfl rfl hl.1 rfl (Nat.le_of_ble_eq_true rfl) dX9_act_33 ⟨Nat.le_of_ble_eq_true rfl, Nat.le_of_ble_eq_true rfl⟩) (Cut.of (wc := [((b 17), .inr (8, [.int 0, .ref (g.2.2 0), .int 0])), (q1, .inl (g.2.1 0, 5, .inl (upd (upd (upd (upd (upd (fun _ => 0) (0 : Int32).toNatClampNeg 99) (1 : Int32).toNatClampNeg p0) (2 : Int32).toNatClampNeg p1) (3 : Int32).toNatClampNeg p2) (4 : Int32).toNatClampNeg p3)))]) (wr := [(m0, .inr (9, [.int t, .ref (b 0), .ref (b 17)])), ((b 0), .inr (10, [.ref (b 1), .ref (b 2), .ref (b 3), .ref (b 4), .ref (b 5), .ref (b 6), .ref (b 7), .ref (b 8), .ref (b 9), .ref (b 10), .ref (b 11), .ref (b 12), .int 0, .int 0, .int (nI mo), .ref (b 13), .ref (b 14), .ref (b 16)])), ((b 1), .inl (g.2.1 0, 16, .inl (fun _ => 0))), ((b 2), .inl (g.2.1 0, 16, .inl (fun _ => 10))), ((b 3), .inl (g.2.1 0, 16, .inl (fun _ => 0))), ((b 4), .inl (g.2.1 0, 16, .inl (fun _ => 0))), ((b 16), .inl (g.2.1 1, 26, .inr (.inl (fun _ => 0))))]) E hA [1, 8] [0, 2, 3, 4, 5, 6, 7] rfl rfl rfl rfl (by decide)) E (fun r2 u2 H locs hp E => ?_)
  have E : Ev g _ s.heap H locs [(m0, .inr (9, [.int t, .ref (b 0), .ref (b 17)])), ((b 0), .inr (10, [.ref (b 1), .ref (b 2), .ref (b 3), .ref (b 4), .ref (b 5), .ref (b 6), .ref (b 7), .ref (b 8), .ref (b 9), .ref (b 10), .ref (b 11), .ref (b 12), .int 0, .int 0, .int (nI mo), .ref (b 13), .ref (b 14), .ref (b 16)])), ((b 1), .inl (g.2.1 0, 16, .inl (fun _ => 0))), ((b 2), .inl (g.2.1 0, 16, .inl (fun _ => 10))), ((b 3), .inl (g.2.1 0, 16, .inl (fun _ => 0))), ((b 4), .inl (g.2.1 0, 16, .inl (fun _ => 0))), ((b 16), .inl (g.2.1 1, 26, .inr (.inl (fun _ => 0)))), ((b 17), .inr (8, [.int 1, .ref u2, .int 1])), (q1, .inl (g.2.1 0, 5, .inl (upd (upd (upd (upd (upd (fun _ => 0) (0 : Int32).toNatClampNeg 99) (1 : Int32).toNatClampNeg p0) (2 : Int32).toNatClampNeg p1) (3 : Int32).toNatClampNeg p2) (4 : Int32).toNatClampNeg p3))), (u2, .inl (g.2.1 4, 10, .inr (.inr (.inr (.inr (va_up (fun _ => none) (0 : Int32).toNatClampNeg (some q1)))))))] := E
  subst hp
  refine lv_istore (lv' := [(7, .int 1), (6, .ref q1), (0, .ref m0), (1, .int 99), (2, .int p0), (3, .int p1), (4, .int p2), (5, .int p3)]) hx hb dX9_act_36 hl (by decide) rfl (fun ls hl => ?_)
  refine lv_aload_n hx hb dX9_act_38 rfl (lv_at hl 2 rfl) ?_
  refine wg_X9_10 (v := .ref (b 0)) S hK E 0 rfl rfl dX9_act_39 ?_
  refine lv_aload hx hb dX9_act_42 (lv_at hl 1 rfl) ?_
  refine w_retv (runV_X (As := [.ref q1]) (rest := []) (q0 := 0) (n := 1) S hml hK (hZ.at E) (Cut.of (wc := [((b 0), .inr (10, [.ref (b 1), .ref (b 2), .ref (b 3), .ref (b 4), .ref (b 5), .ref (b 6), .ref (b 7), .ref (b 8), .ref (b 9), .ref (b 10), .ref (b 11), .ref (b 12), .int 0, .int 0, .int (nI mo), .ref (b 13), .ref (b 14), .ref (b 16)])), (q1, .inl (g.2.1 0, 5, .inl (upd (upd (upd (upd (upd (fun _ => 0) (0 : Int32).toNatClampNeg 99) (1 : Int32).toNatClampNeg p0) (2 : Int32).toNatClampNeg p1) (3 : Int32).toNatClampNeg p2) (4 : Int32).toNatClampNeg p3))), ((b 1), .inl (g.2.1 0, 16, .inl (fun _ => 0))), ((b 2), .inl (g.2.1 0, 16, .inl (fun _ => 10))), ((b 3), .inl (g.2.1 0, 16, .inl (fun _ => 0))), ((b 4), .inl (g.2.1 0, 16, .inl (fun _ => 0))), ((b 16), .inl (g.2.1 1, 26, .inr (.inl (fun _ => 0))))]) (wr := [(m0, .inr (9, [.int t, .ref (b 0), .ref (b 17)])), ((b 17), .inr (8, [.int 1, .ref u2, .int 1])), (u2, .inl (g.2.1 4, 10, .inr (.inr (.inr (.inr (va_up (fun _ => none) (0 : Int32).toNatClampNeg (some q1)))))))]) E hA [1, 8, 2, 3, 4, 5, 6] [0, 7, 9] rfl rfl rfl rfl (by decide)) (c_do99 l g b q1 (upd (upd (upd (upd (upd (fun _ => 0) (0 : Int32).toNatClampNeg 99) (1 : Int32).toNatClampNeg p0) (2 : Int32).toNatClampNeg p1) (3 : Int32).toNatClampNeg p2) (4 : Int32).toNatClampNeg p3) mo p0 p1 p2 p3 hp0 rfl rfl rfl rfl rfl _ _) (gi_wsV ml_X9_31 im_X7_does sl_X7_does in_X7 co_X7_does) ⟨rfl, by decide +kernel, by decide +kernel, by decide +kernel⟩ ⟨Nat.le_of_ble_eq_true rfl, Nat.le_of_ble_eq_true rfl⟩ rfl rfl rfl hl.1 rfl (Nat.le_of_ble_eq_true rfl) dX9_act_44 ⟨Nat.le_of_ble_eq_true rfl, Nat.le_of_ble_eq_true rfl⟩) (Cut.of (wc := [((b 0), .inr (10, [.ref (b 1), .ref (b 2), .ref (b 3), .ref (b 4), .ref (b 5), .ref (b 6), .ref (b 7), .ref (b 8), .ref (b 9), .ref (b 10), .ref (b 11), .ref (b 12), .int 0, .int 0, .int (nI mo), .ref (b 13), .ref (b 14), .ref (b 16)])), (q1, .inl (g.2.1 0, 5, .inl (upd (upd (upd (upd (upd (fun _ => 0) (0 : Int32).toNatClampNeg 99) (1 : Int32).toNatClampNeg p0) (2 : Int32).toNatClampNeg p1) (3 : Int32).toNatClampNeg p2) (4 : Int32).toNatClampNeg p3))), ((b 1), .inl (g.2.1 0, 16, .inl (fun _ => 0))), ((b 2), .inl (g.2.1 0, 16, .inl (fun _ => 10))), ((b 3), .inl (g.2.1 0, 16, .inl (fun _ => 0))), ((b 4), .inl (g.2.1 0, 16, .inl (fun _ => 0))), ((b 16), .inl (g.2.1 1, 26, .inr (.inl (fun _ => 0))))]) (wr := [(m0, .inr (9, [.int t, .ref (b 0), .ref (b 17)])), ((b 17), .inr (8, [.int 1, .ref u2, .int 1])), (u2, .inl (g.2.1 4, 10, .inr (.inr (.inr (.inr (va_up (fun _ => none) (0 : Int32).toNatClampNeg (some q1)))))))]) E hA [1, 8, 2, 3, 4, 5, 6] [0, 7, 9] rfl rfl rfl rfl (by decide)) E (fun u3 H locs hp E => ?_)
  have E : Ev g _ s.heap H locs [(m0, .inr (9, [.int t, .ref (b 0), .ref (b 17)])), ((b 17), .inr (8, [.int 1, .ref u2, .int 1])), (u2, .inl (g.2.1 4, 10, .inr (.inr (.inr (.inr (va_up (fun _ => none) (0 : Int32).toNatClampNeg (some q1)))))))] := E
  have E : Ev g _ s.heap H locs [(m0, .inr (9, [.int t, .ref (b 0), .ref (b 17)]))] := Ev.sub E [0] rfl rfl
  exact x_vret () S hr hlk hsz htt hK E dX9_act_47 trivial rfl ⟨Nat.le_of_ble_eq_true rfl, Nat.le_of_ble_eq_true rfl⟩ ⟨Nat.le_of_ble_eq_true rfl, Nat.le_of_ble_eq_true rfl⟩

set_option maxHeartbeats 4000000 in
set_option maxRecDepth 100000 in
/-- act, g -/
theorem c_ac103 (l : Launch) (g : Gm) (m0 : Nat) (b : Nat → Nat) (t : Int32) (mo : Nat) (p0 : Int32) (p1 : Int32) (hp0 : vp_in p0 8) : MXv (S := Unit) l g yX9_act cX9_act 8 ({ frames := 5, cells := 2, slots := 15, locals := 101 } : Room) [.ref m0, .int 103, .int p0, .int p1, .int 0, .int 0] [(m0, .inr (9, [.int t, .ref (b 0), .ref (b 17)])), ((b 17), .inr (8, [.int 0, .ref (g.2.2 0), .int 0])), ((b 0), .inr (10, [.ref (b 1), .ref (b 2), .ref (b 3), .ref (b 4), .ref (b 5), .ref (b 6), .ref (b 7), .ref (b 8), .ref (b 9), .ref (b 10), .ref (b 11), .ref (b 12), .int 0, .int 0, .int (nI mo), .ref (b 13), .ref (b 14), .ref (b 16)])), ((b 5), .inl (g.2.1 0, 8, .inl (fun _ => 100)))] (fun _ => True) (fun _ => [(m0, .inr (9, [.int t, .ref (b 0), .ref (b 17)]))]) (fun _ => (2, 15)) := by
  intro sz tt
  refine ofX RX9 rfl (by decide +kernel) (Nat.le_of_ble_eq_true rfl) (fun p e s m args below meth c hargs S hml hr hlk hnm hsz htt hK hA hZ E ls hl => ?_)
  have hx := S.1
  have hb := S.2.1
  have hl : lv_has ls 8 [(0, .ref m0), (1, .int 103), (2, .int p0), (3, .int p1), (4, .int 0), (5, .int 0)] := hl
  refine lv_iconst (v := 5) hx hb dX9_act_0 (by decide) ?_
  refine w_newa (atype := .int) (ty := .int) (a0 := (5, .inl (fun _ => 0))) (N' := 5) 0 S hK E hA ac_int rfl rfl (fun C h => by cases h) (fun cA => by first | rfl | (rw [vp_cell_i]; rfl)) (by decide) (by decide) (by decide) (Nat.le_of_ble_eq_true rfl) (Nat.le_of_ble_eq_true rfl) dX9_act_1 (fun q1 H E => ?_)
  have E : Ev g _ s.heap H _ [(m0, .inr (9, [.int t, .ref (b 0), .ref (b 17)])), ((b 17), .inr (8, [.int 0, .ref (g.2.2 0), .int 0])), ((b 0), .inr (10, [.ref (b 1), .ref (b 2), .ref (b 3), .ref (b 4), .ref (b 5), .ref (b 6), .ref (b 7), .ref (b 8), .ref (b 9), .ref (b 10), .ref (b 11), .ref (b 12), .int 0, .int 0, .int (nI mo), .ref (b 13), .ref (b 14), .ref (b 16)])), ((b 5), .inl (g.2.1 0, 8, .inl (fun _ => 100))), (q1, .inl (g.2.1 0, 5, .inl (fun _ => 0)))] := E
  refine lv_dup hx hb dX9_act_3 rfl ?_
  refine lv_iconst (v := 0) hx hb dX9_act_4 (by decide) ?_
  refine lv_iload_n hx hb dX9_act_5 rfl (lv_at hl 1 rfl) ?_
  refine w_ist (w' := [(m0, .inr (9, [.int t, .ref (b 0), .ref (b 17)])), ((b 17), .inr (8, [.int 0, .ref (g.2.2 0), .int 0])), ((b 0), .inr (10, [.ref (b 1), .ref (b 2), .ref (b 3), .ref (b 4), .ref (b 5), .ref (b 6), .ref (b 7), .ref (b 8), .ref (b 9), .ref (b 10), .ref (b 11), .ref (b 12), .int 0, .int 0, .int (nI mo), .ref (b 13), .ref (b 14), .ref (b 16)])), ((b 5), .inl (g.2.1 0, 8, .inl (fun _ => 100))), (q1, .inl (g.2.1 0, 5, .inl (upd (fun _ => 0) (0 : Int32).toNatClampNeg 103)))]) S hK E 4 0 rfl rfl (show vp_in 0 5 by unfold vp_in; decide) rfl dX9_act_6 (fun H locs E => ?_)
  refine lv_dup hx hb dX9_act_7 rfl ?_
  refine lv_iconst (v := 1) hx hb dX9_act_8 (by decide) ?_
  refine lv_iload_n hx hb dX9_act_9 rfl (lv_at hl 2 rfl) ?_
  refine w_ist (w' := [(m0, .inr (9, [.int t, .ref (b 0), .ref (b 17)])), ((b 17), .inr (8, [.int 0, .ref (g.2.2 0), .int 0])), ((b 0), .inr (10, [.ref (b 1), .ref (b 2), .ref (b 3), .ref (b 4), .ref (b 5), .ref (b 6), .ref (b 7), .ref (b 8), .ref (b 9), .ref (b 10), .ref (b 11), .ref (b 12), .int 0, .int 0, .int (nI mo), .ref (b 13), .ref (b 14), .ref (b 16)])), ((b 5), .inl (g.2.1 0, 8, .inl (fun _ => 100))), (q1, .inl (g.2.1 0, 5, .inl (upd (upd (fun _ => 0) (0 : Int32).toNatClampNeg 103) (1 : Int32).toNatClampNeg p0)))]) S hK E 4 0 rfl rfl (show vp_in 1 5 by unfold vp_in; decide) rfl dX9_act_10 (fun H locs E => ?_)
  refine lv_dup hx hb dX9_act_11 rfl ?_
  refine lv_iconst (v := 2) hx hb dX9_act_12 (by decide) ?_
  refine lv_iload_n hx hb dX9_act_13 rfl (lv_at hl 3 rfl) ?_
  refine w_ist (w' := [(m0, .inr (9, [.int t, .ref (b 0), .ref (b 17)])), ((b 17), .inr (8, [.int 0, .ref (g.2.2 0), .int 0])), ((b 0), .inr (10, [.ref (b 1), .ref (b 2), .ref (b 3), .ref (b 4), .ref (b 5), .ref (b 6), .ref (b 7), .ref (b 8), .ref (b 9), .ref (b 10), .ref (b 11), .ref (b 12), .int 0, .int 0, .int (nI mo), .ref (b 13), .ref (b 14), .ref (b 16)])), ((b 5), .inl (g.2.1 0, 8, .inl (fun _ => 100))), (q1, .inl (g.2.1 0, 5, .inl (upd (upd (upd (fun _ => 0) (0 : Int32).toNatClampNeg 103) (1 : Int32).toNatClampNeg p0) (2 : Int32).toNatClampNeg p1)))]) S hK E 4 0 rfl rfl (show vp_in 2 5 by unfold vp_in; decide) rfl dX9_act_14 (fun H locs E => ?_)
  refine lv_dup hx hb dX9_act_15 rfl ?_
  refine lv_iconst (v := 3) hx hb dX9_act_16 (by decide) ?_
  refine lv_iload hx hb dX9_act_17 (lv_at hl 4 rfl) ?_
  refine w_ist (w' := [(m0, .inr (9, [.int t, .ref (b 0), .ref (b 17)])), ((b 17), .inr (8, [.int 0, .ref (g.2.2 0), .int 0])), ((b 0), .inr (10, [.ref (b 1), .ref (b 2), .ref (b 3), .ref (b 4), .ref (b 5), .ref (b 6), .ref (b 7), .ref (b 8), .ref (b 9), .ref (b 10), .ref (b 11), .ref (b 12), .int 0, .int 0, .int (nI mo), .ref (b 13), .ref (b 14), .ref (b 16)])), ((b 5), .inl (g.2.1 0, 8, .inl (fun _ => 100))), (q1, .inl (g.2.1 0, 5, .inl (upd (upd (upd (upd (fun _ => 0) (0 : Int32).toNatClampNeg 103) (1 : Int32).toNatClampNeg p0) (2 : Int32).toNatClampNeg p1) (3 : Int32).toNatClampNeg 0)))]) S hK E 4 0 rfl rfl (show vp_in 3 5 by unfold vp_in; decide) rfl dX9_act_19 (fun H locs E => ?_)
  refine lv_dup hx hb dX9_act_20 rfl ?_
  refine lv_iconst (v := 4) hx hb dX9_act_21 (by decide) ?_
  refine lv_iload hx hb dX9_act_22 (lv_at hl 5 rfl) ?_
  refine w_ist (w' := [(m0, .inr (9, [.int t, .ref (b 0), .ref (b 17)])), ((b 17), .inr (8, [.int 0, .ref (g.2.2 0), .int 0])), ((b 0), .inr (10, [.ref (b 1), .ref (b 2), .ref (b 3), .ref (b 4), .ref (b 5), .ref (b 6), .ref (b 7), .ref (b 8), .ref (b 9), .ref (b 10), .ref (b 11), .ref (b 12), .int 0, .int 0, .int (nI mo), .ref (b 13), .ref (b 14), .ref (b 16)])), ((b 5), .inl (g.2.1 0, 8, .inl (fun _ => 100))), (q1, .inl (g.2.1 0, 5, .inl (upd (upd (upd (upd (upd (fun _ => 0) (0 : Int32).toNatClampNeg 103) (1 : Int32).toNatClampNeg p0) (2 : Int32).toNatClampNeg p1) (3 : Int32).toNatClampNeg 0) (4 : Int32).toNatClampNeg 0)))]) S hK E 4 0 rfl rfl (show vp_in 4 5 by unfold vp_in; decide) rfl dX9_act_24 (fun H locs E => ?_)
  refine lv_astore (lv' := [(6, .ref q1), (0, .ref m0), (1, .int 103), (2, .int p0), (3, .int p1), (4, .int 0), (5, .int 0)]) hx hb dX9_act_25 hl (by decide) rfl (fun ls hl => ?_)
  refine lv_aload_n hx hb dX9_act_27 rfl (lv_at hl 1 rfl) ?_
  refine wg_X9_19 (v := .ref (b 17)) S hK E 0 rfl rfl dX9_act_28 ?_
  refine lv_aload hx hb dX9_act_31 (lv_at hl 0 rfl) ?_
  refine w_reti (runV_X (As := [.ref q1]) (rest := []) (q0 := 0) (n := 1) S hml hK (hZ.at E) (Cut.of (wc := [((b 17), .inr (8, [.int 0, .ref (g.2.2 0), .int 0])), (q1, .inl (g.2.1 0, 5, .inl (upd (upd (upd (upd (upd (fun _ => 0) (0 : Int32).toNatClampNeg 103) (1 : Int32).toNatClampNeg p0) (2 : Int32).toNatClampNeg p1) (3 : Int32).toNatClampNeg 0) (4 : Int32).toNatClampNeg 0)))]) (wr := [(m0, .inr (9, [.int t, .ref (b 0), .ref (b 17)])), ((b 0), .inr (10, [.ref (b 1), .ref (b 2), .ref (b 3), .ref (b 4), .ref (b 5), .ref (b 6), .ref (b 7), .ref (b 8), .ref (b 9), .ref (b 10), .ref (b 11), .ref (b 12), .int 0, .int 0, .int (nI mo), .ref (b 13), .ref (b 14), .ref (b 16)])), ((b 5), .inl (g.2.1 0, 8, .inl (fun _ => 100)))]) E hA [1, 4] [0, 2, 3] rfl rfl rfl rfl (by decide)) (c_ad1 l g (b 17) q1 (.inl (g.2.1 0, 5, .inl (upd (upd (upd (upd (upd (fun _ => 0) (0 : Int32).toNatClampNeg 103) (1 : Int32).toNatClampNeg p0) (2 : Int32).toNatClampNeg p1) (3 : Int32).toNatClampNeg 0) (4 : Int32).toNatClampNeg 0))) any_arr _ _) (gi_wsV ml_X9_27 im_Jx4a65c_add_9ea2d sl_Jx4a65c_add_9ea2d in_Jx4a65c co_Jx4a65c_add_9ea2d) ⟨rfl, by decide +kernel, by decide +kernel, by decide +kernel⟩ ⟨Nat.le_of_ble_eq_true rfl, Nat.le_of_ble_eq_true rfl⟩ rfl rfl rfl hl.1 rfl (Nat.le_of_ble_eq_true rfl) dX9_act_33 ⟨Nat.le_of_ble_eq_true rfl, Nat.le_of_ble_eq_true rfl⟩) (Cut.of (wc := [((b 17), .inr (8, [.int 0, .ref (g.2.2 0), .int 0])), (q1, .inl (g.2.1 0, 5, .inl (upd (upd (upd (upd (upd (fun _ => 0) (0 : Int32).toNatClampNeg 103) (1 : Int32).toNatClampNeg p0) (2 : Int32).toNatClampNeg p1) (3 : Int32).toNatClampNeg 0) (4 : Int32).toNatClampNeg 0)))]) (wr := [(m0, .inr (9, [.int t, .ref (b 0), .ref (b 17)])), ((b 0), .inr (10, [.ref (b 1), .ref (b 2), .ref (b 3), .ref (b 4), .ref (b 5), .ref (b 6), .ref (b 7), .ref (b 8), .ref (b 9), .ref (b 10), .ref (b 11), .ref (b 12), .int 0, .int 0, .int (nI mo), .ref (b 13), .ref (b 14), .ref (b 16)])), ((b 5), .inl (g.2.1 0, 8, .inl (fun _ => 100)))]) E hA [1, 4] [0, 2, 3] rfl rfl rfl rfl (by decide)) E (fun r2 u2 H locs hp E => ?_)
  have E : Ev g _ s.heap H locs [(m0, .inr (9, [.int t, .ref (b 0), .ref (b 17)])), ((b 0), .inr (10, [.ref (b 1), .ref (b 2), .ref (b 3), .ref (b 4), .ref (b 5), .ref (b 6), .ref (b 7), .ref (b 8), .ref (b 9), .ref (b 10), .ref (b 11), .ref (b 12), .int 0, .int 0, .int (nI mo), .ref (b 13), .ref (b 14), .ref (b 16)])), ((b 5), .inl (g.2.1 0, 8, .inl (fun _ => 100))), ((b 17), .inr (8, [.int 1, .ref u2, .int 1])), (q1, .inl (g.2.1 0, 5, .inl (upd (upd (upd (upd (upd (fun _ => 0) (0 : Int32).toNatClampNeg 103) (1 : Int32).toNatClampNeg p0) (2 : Int32).toNatClampNeg p1) (3 : Int32).toNatClampNeg 0) (4 : Int32).toNatClampNeg 0))), (u2, .inl (g.2.1 4, 10, .inr (.inr (.inr (.inr (va_up (fun _ => none) (0 : Int32).toNatClampNeg (some q1)))))))] := E
  subst hp
  refine lv_istore (lv' := [(7, .int 1), (6, .ref q1), (0, .ref m0), (1, .int 103), (2, .int p0), (3, .int p1), (4, .int 0), (5, .int 0)]) hx hb dX9_act_36 hl (by decide) rfl (fun ls hl => ?_)
  refine lv_aload_n hx hb dX9_act_38 rfl (lv_at hl 2 rfl) ?_
  refine wg_X9_10 (v := .ref (b 0)) S hK E 0 rfl rfl dX9_act_39 ?_
  refine lv_aload hx hb dX9_act_42 (lv_at hl 1 rfl) ?_
  refine w_retv (runV_X (As := [.ref q1]) (rest := []) (q0 := 0) (n := 1) S hml hK (hZ.at E) (Cut.of (wc := [((b 0), .inr (10, [.ref (b 1), .ref (b 2), .ref (b 3), .ref (b 4), .ref (b 5), .ref (b 6), .ref (b 7), .ref (b 8), .ref (b 9), .ref (b 10), .ref (b 11), .ref (b 12), .int 0, .int 0, .int (nI mo), .ref (b 13), .ref (b 14), .ref (b 16)])), (q1, .inl (g.2.1 0, 5, .inl (upd (upd (upd (upd (upd (fun _ => 0) (0 : Int32).toNatClampNeg 103) (1 : Int32).toNatClampNeg p0) (2 : Int32).toNatClampNeg p1) (3 : Int32).toNatClampNeg 0) (4 : Int32).toNatClampNeg 0))), ((b 5), .inl (g.2.1 0, 8, .inl (fun _ => 100)))]) (wr := [(m0, .inr (9, [.int t, .ref (b 0), .ref (b 17)])), ((b 17), .inr (8, [.int 1, .ref u2, .int 1])), (u2, .inl (g.2.1 4, 10, .inr (.inr (.inr (.inr (va_up (fun _ => none) (0 : Int32).toNatClampNeg (some q1)))))))]) E hA [1, 4, 2] [0, 3, 5] rfl rfl rfl rfl (by decide)) (c_do103 l g b q1 (upd (upd (upd (upd (upd (fun _ => 0) (0 : Int32).toNatClampNeg 103) (1 : Int32).toNatClampNeg p0) (2 : Int32).toNatClampNeg p1) (3 : Int32).toNatClampNeg 0) (4 : Int32).toNatClampNeg 0) mo p0 p1 hp0 rfl rfl rfl rfl rfl _ _) (gi_wsV ml_X9_31 im_X7_does sl_X7_does in_X7 co_X7_does) ⟨rfl, by decide +kernel, by decide +kernel, by decide +kernel⟩ ⟨Nat.le_of_ble_eq_true rfl, Nat.le_of_ble_eq_true rfl⟩ rfl rfl rfl hl.1 rfl (Nat.le_of_ble_eq_true rfl) dX9_act_44 ⟨Nat.le_of_ble_eq_true rfl, Nat.le_of_ble_eq_true rfl⟩) (Cut.of (wc := [((b 0), .inr (10, [.ref (b 1), .ref (b 2), .ref (b 3), .ref (b 4), .ref (b 5), .ref (b 6), .ref (b 7), .ref (b 8), .ref (b 9), .ref (b 10), .ref (b 11), .ref (b 12), .int 0, .int 0, .int (nI mo), .ref (b 13), .ref (b 14), .ref (b 16)])), (q1, .inl (g.2.1 0, 5, .inl (upd (upd (upd (upd (upd (fun _ => 0) (0 : Int32).toNatClampNeg 103) (1 : Int32).toNatClampNeg p0) (2 : Int32).toNatClampNeg p1) (3 : Int32).toNatClampNeg 0) (4 : Int32).toNatClampNeg 0))), ((b 5), .inl (g.2.1 0, 8, .inl (fun _ => 100)))]) (wr := [(m0, .inr (9, [.int t, .ref (b 0), .ref (b 17)])), ((b 17), .inr (8, [.int 1, .ref u2, .int 1])), (u2, .inl (g.2.1 4, 10, .inr (.inr (.inr (.inr (va_up (fun _ => none) (0 : Int32).toNatClampNeg (some q1)))))))]) E hA [1, 4, 2] [0, 3, 5] rfl rfl rfl rfl (by decide)) E (fun u3 H locs hp E => ?_)
  have E : Ev g _ s.heap H locs [(m0, .inr (9, [.int t, .ref (b 0), .ref (b 17)])), ((b 17), .inr (8, [.int 1, .ref u2, .int 1])), (u2, .inl (g.2.1 4, 10, .inr (.inr (.inr (.inr (va_up (fun _ => none) (0 : Int32).toNatClampNeg (some q1)))))))] := E
  have E : Ev g _ s.heap H locs [(m0, .inr (9, [.int t, .ref (b 0), .ref (b 17)]))] := Ev.sub E [0] rfl rfl
  exact x_vret () S hr hlk hsz htt hK E dX9_act_47 trivial rfl ⟨Nat.le_of_ble_eq_true rfl, Nat.le_of_ble_eq_true rfl⟩ ⟨Nat.le_of_ble_eq_true rfl, Nat.le_of_ble_eq_true rfl⟩

set_option maxHeartbeats 4000000 in
set_option maxRecDepth 100000 in
/-- act, k -/
theorem c_ac107 (l : Launch) (g : Gm) (m0 : Nat) (b : Nat → Nat) (t : Int32) (mo : Nat) (p0 : Int32) (p1 : Int32) (hp0 : vp_in p0 2) : MXv (S := Unit) l g yX9_act cX9_act 8 ({ frames := 5, cells := 2, slots := 15, locals := 101 } : Room) [.ref m0, .int 107, .int p0, .int p1, .int 0, .int 0] [(m0, .inr (9, [.int t, .ref (b 0), .ref (b 17)])), ((b 17), .inr (8, [.int 0, .ref (g.2.2 0), .int 0])), ((b 0), .inr (10, [.ref (b 1), .ref (b 2), .ref (b 3), .ref (b 4), .ref (b 5), .ref (b 6), .ref (b 7), .ref (b 8), .ref (b 9), .ref (b 10), .ref (b 11), .ref (b 12), .int 0, .int 0, .int (nI mo), .ref (b 13), .ref (b 14), .ref (b 16)])), ((b 6), .inl (g.2.1 0, 2, .inl (fun _ => 4)))] (fun _ => True) (fun _ => [(m0, .inr (9, [.int t, .ref (b 0), .ref (b 17)]))]) (fun _ => (2, 15)) := by
  intro sz tt
  refine ofX RX9 rfl (by decide +kernel) (Nat.le_of_ble_eq_true rfl) (fun p e s m args below meth c hargs S hml hr hlk hnm hsz htt hK hA hZ E ls hl => ?_)
  have hx := S.1
  have hb := S.2.1
  have hl : lv_has ls 8 [(0, .ref m0), (1, .int 107), (2, .int p0), (3, .int p1), (4, .int 0), (5, .int 0)] := hl
  refine lv_iconst (v := 5) hx hb dX9_act_0 (by decide) ?_
  refine w_newa (atype := .int) (ty := .int) (a0 := (5, .inl (fun _ => 0))) (N' := 5) 0 S hK E hA ac_int rfl rfl (fun C h => by cases h) (fun cA => by first | rfl | (rw [vp_cell_i]; rfl)) (by decide) (by decide) (by decide) (Nat.le_of_ble_eq_true rfl) (Nat.le_of_ble_eq_true rfl) dX9_act_1 (fun q1 H E => ?_)
  have E : Ev g _ s.heap H _ [(m0, .inr (9, [.int t, .ref (b 0), .ref (b 17)])), ((b 17), .inr (8, [.int 0, .ref (g.2.2 0), .int 0])), ((b 0), .inr (10, [.ref (b 1), .ref (b 2), .ref (b 3), .ref (b 4), .ref (b 5), .ref (b 6), .ref (b 7), .ref (b 8), .ref (b 9), .ref (b 10), .ref (b 11), .ref (b 12), .int 0, .int 0, .int (nI mo), .ref (b 13), .ref (b 14), .ref (b 16)])), ((b 6), .inl (g.2.1 0, 2, .inl (fun _ => 4))), (q1, .inl (g.2.1 0, 5, .inl (fun _ => 0)))] := E
  refine lv_dup hx hb dX9_act_3 rfl ?_
  refine lv_iconst (v := 0) hx hb dX9_act_4 (by decide) ?_
  refine lv_iload_n hx hb dX9_act_5 rfl (lv_at hl 1 rfl) ?_
  refine w_ist (w' := [(m0, .inr (9, [.int t, .ref (b 0), .ref (b 17)])), ((b 17), .inr (8, [.int 0, .ref (g.2.2 0), .int 0])), ((b 0), .inr (10, [.ref (b 1), .ref (b 2), .ref (b 3), .ref (b 4), .ref (b 5), .ref (b 6), .ref (b 7), .ref (b 8), .ref (b 9), .ref (b 10), .ref (b 11), .ref (b 12), .int 0, .int 0, .int (nI mo), .ref (b 13), .ref (b 14), .ref (b 16)])), ((b 6), .inl (g.2.1 0, 2, .inl (fun _ => 4))), (q1, .inl (g.2.1 0, 5, .inl (upd (fun _ => 0) (0 : Int32).toNatClampNeg 107)))]) S hK E 4 0 rfl rfl (show vp_in 0 5 by unfold vp_in; decide) rfl dX9_act_6 (fun H locs E => ?_)
  refine lv_dup hx hb dX9_act_7 rfl ?_
  refine lv_iconst (v := 1) hx hb dX9_act_8 (by decide) ?_
  refine lv_iload_n hx hb dX9_act_9 rfl (lv_at hl 2 rfl) ?_
  refine w_ist (w' := [(m0, .inr (9, [.int t, .ref (b 0), .ref (b 17)])), ((b 17), .inr (8, [.int 0, .ref (g.2.2 0), .int 0])), ((b 0), .inr (10, [.ref (b 1), .ref (b 2), .ref (b 3), .ref (b 4), .ref (b 5), .ref (b 6), .ref (b 7), .ref (b 8), .ref (b 9), .ref (b 10), .ref (b 11), .ref (b 12), .int 0, .int 0, .int (nI mo), .ref (b 13), .ref (b 14), .ref (b 16)])), ((b 6), .inl (g.2.1 0, 2, .inl (fun _ => 4))), (q1, .inl (g.2.1 0, 5, .inl (upd (upd (fun _ => 0) (0 : Int32).toNatClampNeg 107) (1 : Int32).toNatClampNeg p0)))]) S hK E 4 0 rfl rfl (show vp_in 1 5 by unfold vp_in; decide) rfl dX9_act_10 (fun H locs E => ?_)
  refine lv_dup hx hb dX9_act_11 rfl ?_
  refine lv_iconst (v := 2) hx hb dX9_act_12 (by decide) ?_
  refine lv_iload_n hx hb dX9_act_13 rfl (lv_at hl 3 rfl) ?_
  refine w_ist (w' := [(m0, .inr (9, [.int t, .ref (b 0), .ref (b 17)])), ((b 17), .inr (8, [.int 0, .ref (g.2.2 0), .int 0])), ((b 0), .inr (10, [.ref (b 1), .ref (b 2), .ref (b 3), .ref (b 4), .ref (b 5), .ref (b 6), .ref (b 7), .ref (b 8), .ref (b 9), .ref (b 10), .ref (b 11), .ref (b 12), .int 0, .int 0, .int (nI mo), .ref (b 13), .ref (b 14), .ref (b 16)])), ((b 6), .inl (g.2.1 0, 2, .inl (fun _ => 4))), (q1, .inl (g.2.1 0, 5, .inl (upd (upd (upd (fun _ => 0) (0 : Int32).toNatClampNeg 107) (1 : Int32).toNatClampNeg p0) (2 : Int32).toNatClampNeg p1)))]) S hK E 4 0 rfl rfl (show vp_in 2 5 by unfold vp_in; decide) rfl dX9_act_14 (fun H locs E => ?_)
  refine lv_dup hx hb dX9_act_15 rfl ?_
  refine lv_iconst (v := 3) hx hb dX9_act_16 (by decide) ?_
  refine lv_iload hx hb dX9_act_17 (lv_at hl 4 rfl) ?_
  refine w_ist (w' := [(m0, .inr (9, [.int t, .ref (b 0), .ref (b 17)])), ((b 17), .inr (8, [.int 0, .ref (g.2.2 0), .int 0])), ((b 0), .inr (10, [.ref (b 1), .ref (b 2), .ref (b 3), .ref (b 4), .ref (b 5), .ref (b 6), .ref (b 7), .ref (b 8), .ref (b 9), .ref (b 10), .ref (b 11), .ref (b 12), .int 0, .int 0, .int (nI mo), .ref (b 13), .ref (b 14), .ref (b 16)])), ((b 6), .inl (g.2.1 0, 2, .inl (fun _ => 4))), (q1, .inl (g.2.1 0, 5, .inl (upd (upd (upd (upd (fun _ => 0) (0 : Int32).toNatClampNeg 107) (1 : Int32).toNatClampNeg p0) (2 : Int32).toNatClampNeg p1) (3 : Int32).toNatClampNeg 0)))]) S hK E 4 0 rfl rfl (show vp_in 3 5 by unfold vp_in; decide) rfl dX9_act_19 (fun H locs E => ?_)
  refine lv_dup hx hb dX9_act_20 rfl ?_
  refine lv_iconst (v := 4) hx hb dX9_act_21 (by decide) ?_
  refine lv_iload hx hb dX9_act_22 (lv_at hl 5 rfl) ?_
  refine w_ist (w' := [(m0, .inr (9, [.int t, .ref (b 0), .ref (b 17)])), ((b 17), .inr (8, [.int 0, .ref (g.2.2 0), .int 0])), ((b 0), .inr (10, [.ref (b 1), .ref (b 2), .ref (b 3), .ref (b 4), .ref (b 5), .ref (b 6), .ref (b 7), .ref (b 8), .ref (b 9), .ref (b 10), .ref (b 11), .ref (b 12), .int 0, .int 0, .int (nI mo), .ref (b 13), .ref (b 14), .ref (b 16)])), ((b 6), .inl (g.2.1 0, 2, .inl (fun _ => 4))), (q1, .inl (g.2.1 0, 5, .inl (upd (upd (upd (upd (upd (fun _ => 0) (0 : Int32).toNatClampNeg 107) (1 : Int32).toNatClampNeg p0) (2 : Int32).toNatClampNeg p1) (3 : Int32).toNatClampNeg 0) (4 : Int32).toNatClampNeg 0)))]) S hK E 4 0 rfl rfl (show vp_in 4 5 by unfold vp_in; decide) rfl dX9_act_24 (fun H locs E => ?_)
  refine lv_astore (lv' := [(6, .ref q1), (0, .ref m0), (1, .int 107), (2, .int p0), (3, .int p1), (4, .int 0), (5, .int 0)]) hx hb dX9_act_25 hl (by decide) rfl (fun ls hl => ?_)
  refine lv_aload_n hx hb dX9_act_27 rfl (lv_at hl 1 rfl) ?_
  refine wg_X9_19 (v := .ref (b 17)) S hK E 0 rfl rfl dX9_act_28 ?_
  refine lv_aload hx hb dX9_act_31 (lv_at hl 0 rfl) ?_
  refine w_reti (runV_X (As := [.ref q1]) (rest := []) (q0 := 0) (n := 1) S hml hK (hZ.at E) (Cut.of (wc := [((b 17), .inr (8, [.int 0, .ref (g.2.2 0), .int 0])), (q1, .inl (g.2.1 0, 5, .inl (upd (upd (upd (upd (upd (fun _ => 0) (0 : Int32).toNatClampNeg 107) (1 : Int32).toNatClampNeg p0) (2 : Int32).toNatClampNeg p1) (3 : Int32).toNatClampNeg 0) (4 : Int32).toNatClampNeg 0)))]) (wr := [(m0, .inr (9, [.int t, .ref (b 0), .ref (b 17)])), ((b 0), .inr (10, [.ref (b 1), .ref (b 2), .ref (b 3), .ref (b 4), .ref (b 5), .ref (b 6), .ref (b 7), .ref (b 8), .ref (b 9), .ref (b 10), .ref (b 11), .ref (b 12), .int 0, .int 0, .int (nI mo), .ref (b 13), .ref (b 14), .ref (b 16)])), ((b 6), .inl (g.2.1 0, 2, .inl (fun _ => 4)))]) E hA [1, 4] [0, 2, 3] rfl rfl rfl rfl (by decide)) (c_ad1 l g (b 17) q1 (.inl (g.2.1 0, 5, .inl (upd (upd (upd (upd (upd (fun _ => 0) (0 : Int32).toNatClampNeg 107) (1 : Int32).toNatClampNeg p0) (2 : Int32).toNatClampNeg p1) (3 : Int32).toNatClampNeg 0) (4 : Int32).toNatClampNeg 0))) any_arr _ _) (gi_wsV ml_X9_27 im_Jx4a65c_add_9ea2d sl_Jx4a65c_add_9ea2d in_Jx4a65c co_Jx4a65c_add_9ea2d) ⟨rfl, by decide +kernel, by decide +kernel, by decide +kernel⟩ ⟨Nat.le_of_ble_eq_true rfl, Nat.le_of_ble_eq_true rfl⟩ rfl rfl rfl hl.1 rfl (Nat.le_of_ble_eq_true rfl) dX9_act_33 ⟨Nat.le_of_ble_eq_true rfl, Nat.le_of_ble_eq_true rfl⟩) (Cut.of (wc := [((b 17), .inr (8, [.int 0, .ref (g.2.2 0), .int 0])), (q1, .inl (g.2.1 0, 5, .inl (upd (upd (upd (upd (upd (fun _ => 0) (0 : Int32).toNatClampNeg 107) (1 : Int32).toNatClampNeg p0) (2 : Int32).toNatClampNeg p1) (3 : Int32).toNatClampNeg 0) (4 : Int32).toNatClampNeg 0)))]) (wr := [(m0, .inr (9, [.int t, .ref (b 0), .ref (b 17)])), ((b 0), .inr (10, [.ref (b 1), .ref (b 2), .ref (b 3), .ref (b 4), .ref (b 5), .ref (b 6), .ref (b 7), .ref (b 8), .ref (b 9), .ref (b 10), .ref (b 11), .ref (b 12), .int 0, .int 0, .int (nI mo), .ref (b 13), .ref (b 14), .ref (b 16)])), ((b 6), .inl (g.2.1 0, 2, .inl (fun _ => 4)))]) E hA [1, 4] [0, 2, 3] rfl rfl rfl rfl (by decide)) E (fun r2 u2 H locs hp E => ?_)
  have E : Ev g _ s.heap H locs [(m0, .inr (9, [.int t, .ref (b 0), .ref (b 17)])), ((b 0), .inr (10, [.ref (b 1), .ref (b 2), .ref (b 3), .ref (b 4), .ref (b 5), .ref (b 6), .ref (b 7), .ref (b 8), .ref (b 9), .ref (b 10), .ref (b 11), .ref (b 12), .int 0, .int 0, .int (nI mo), .ref (b 13), .ref (b 14), .ref (b 16)])), ((b 6), .inl (g.2.1 0, 2, .inl (fun _ => 4))), ((b 17), .inr (8, [.int 1, .ref u2, .int 1])), (q1, .inl (g.2.1 0, 5, .inl (upd (upd (upd (upd (upd (fun _ => 0) (0 : Int32).toNatClampNeg 107) (1 : Int32).toNatClampNeg p0) (2 : Int32).toNatClampNeg p1) (3 : Int32).toNatClampNeg 0) (4 : Int32).toNatClampNeg 0))), (u2, .inl (g.2.1 4, 10, .inr (.inr (.inr (.inr (va_up (fun _ => none) (0 : Int32).toNatClampNeg (some q1)))))))] := E
  subst hp
  refine lv_istore (lv' := [(7, .int 1), (6, .ref q1), (0, .ref m0), (1, .int 107), (2, .int p0), (3, .int p1), (4, .int 0), (5, .int 0)]) hx hb dX9_act_36 hl (by decide) rfl (fun ls hl => ?_)
  refine lv_aload_n hx hb dX9_act_38 rfl (lv_at hl 2 rfl) ?_
  refine wg_X9_10 (v := .ref (b 0)) S hK E 0 rfl rfl dX9_act_39 ?_
  refine lv_aload hx hb dX9_act_42 (lv_at hl 1 rfl) ?_
  refine w_retv (runV_X (As := [.ref q1]) (rest := []) (q0 := 0) (n := 1) S hml hK (hZ.at E) (Cut.of (wc := [((b 0), .inr (10, [.ref (b 1), .ref (b 2), .ref (b 3), .ref (b 4), .ref (b 5), .ref (b 6), .ref (b 7), .ref (b 8), .ref (b 9), .ref (b 10), .ref (b 11), .ref (b 12), .int 0, .int 0, .int (nI mo), .ref (b 13), .ref (b 14), .ref (b 16)])), (q1, .inl (g.2.1 0, 5, .inl (upd (upd (upd (upd (upd (fun _ => 0) (0 : Int32).toNatClampNeg 107) (1 : Int32).toNatClampNeg p0) (2 : Int32).toNatClampNeg p1) (3 : Int32).toNatClampNeg 0) (4 : Int32).toNatClampNeg 0))), ((b 6), .inl (g.2.1 0, 2, .inl (fun _ => 4)))]) (wr := [(m0, .inr (9, [.int t, .ref (b 0), .ref (b 17)])), ((b 17), .inr (8, [.int 1, .ref u2, .int 1])), (u2, .inl (g.2.1 4, 10, .inr (.inr (.inr (.inr (va_up (fun _ => none) (0 : Int32).toNatClampNeg (some q1)))))))]) E hA [1, 4, 2] [0, 3, 5] rfl rfl rfl rfl (by decide)) (c_do107 l g b q1 (upd (upd (upd (upd (upd (fun _ => 0) (0 : Int32).toNatClampNeg 107) (1 : Int32).toNatClampNeg p0) (2 : Int32).toNatClampNeg p1) (3 : Int32).toNatClampNeg 0) (4 : Int32).toNatClampNeg 0) mo p0 p1 hp0 rfl rfl rfl rfl rfl _ _) (gi_wsV ml_X9_31 im_X7_does sl_X7_does in_X7 co_X7_does) ⟨rfl, by decide +kernel, by decide +kernel, by decide +kernel⟩ ⟨Nat.le_of_ble_eq_true rfl, Nat.le_of_ble_eq_true rfl⟩ rfl rfl rfl hl.1 rfl (Nat.le_of_ble_eq_true rfl) dX9_act_44 ⟨Nat.le_of_ble_eq_true rfl, Nat.le_of_ble_eq_true rfl⟩) (Cut.of (wc := [((b 0), .inr (10, [.ref (b 1), .ref (b 2), .ref (b 3), .ref (b 4), .ref (b 5), .ref (b 6), .ref (b 7), .ref (b 8), .ref (b 9), .ref (b 10), .ref (b 11), .ref (b 12), .int 0, .int 0, .int (nI mo), .ref (b 13), .ref (b 14), .ref (b 16)])), (q1, .inl (g.2.1 0, 5, .inl (upd (upd (upd (upd (upd (fun _ => 0) (0 : Int32).toNatClampNeg 107) (1 : Int32).toNatClampNeg p0) (2 : Int32).toNatClampNeg p1) (3 : Int32).toNatClampNeg 0) (4 : Int32).toNatClampNeg 0))), ((b 6), .inl (g.2.1 0, 2, .inl (fun _ => 4)))]) (wr := [(m0, .inr (9, [.int t, .ref (b 0), .ref (b 17)])), ((b 17), .inr (8, [.int 1, .ref u2, .int 1])), (u2, .inl (g.2.1 4, 10, .inr (.inr (.inr (.inr (va_up (fun _ => none) (0 : Int32).toNatClampNeg (some q1)))))))]) E hA [1, 4, 2] [0, 3, 5] rfl rfl rfl rfl (by decide)) E (fun u3 H locs hp E => ?_)
  have E : Ev g _ s.heap H locs [(m0, .inr (9, [.int t, .ref (b 0), .ref (b 17)])), ((b 17), .inr (8, [.int 1, .ref u2, .int 1])), (u2, .inl (g.2.1 4, 10, .inr (.inr (.inr (.inr (va_up (fun _ => none) (0 : Int32).toNatClampNeg (some q1)))))))] := E
  have E : Ev g _ s.heap H locs [(m0, .inr (9, [.int t, .ref (b 0), .ref (b 17)]))] := Ev.sub E [0] rfl rfl
  exact x_vret () S hr hlk hsz htt hK E dX9_act_47 trivial rfl ⟨Nat.le_of_ble_eq_true rfl, Nat.le_of_ble_eq_true rfl⟩ ⟨Nat.le_of_ble_eq_true rfl, Nat.le_of_ble_eq_true rfl⟩

set_option maxHeartbeats 4000000 in
set_option maxRecDepth 100000 in
/-- act, l -/
theorem c_ac108 (l : Launch) (g : Gm) (m0 : Nat) (b : Nat → Nat) (t : Int32) (mo : Nat) (p0 : Int32) (p1 : Int32) (hp0 : vp_in p0 8) : MXv (S := Unit) l g yX9_act cX9_act 8 ({ frames := 5, cells := 2, slots := 15, locals := 101 } : Room) [.ref m0, .int 108, .int p0, .int p1, .int 0, .int 0] [(m0, .inr (9, [.int t, .ref (b 0), .ref (b 17)])), ((b 17), .inr (8, [.int 0, .ref (g.2.2 0), .int 0])), ((b 0), .inr (10, [.ref (b 1), .ref (b 2), .ref (b 3), .ref (b 4), .ref (b 5), .ref (b 6), .ref (b 7), .ref (b 8), .ref (b 9), .ref (b 10), .ref (b 11), .ref (b 12), .int 0, .int 0, .int (nI mo), .ref (b 13), .ref (b 14), .ref (b 16)])), ((b 7), .inl (g.2.1 0, 8, .inl (fun _ => 0)))] (fun _ => True) (fun _ => [(m0, .inr (9, [.int t, .ref (b 0), .ref (b 17)]))]) (fun _ => (2, 15)) := by
  intro sz tt
  refine ofX RX9 rfl (by decide +kernel) (Nat.le_of_ble_eq_true rfl) (fun p e s m args below meth c hargs S hml hr hlk hnm hsz htt hK hA hZ E ls hl => ?_)
  have hx := S.1
  have hb := S.2.1
  have hl : lv_has ls 8 [(0, .ref m0), (1, .int 108), (2, .int p0), (3, .int p1), (4, .int 0), (5, .int 0)] := hl
  refine lv_iconst (v := 5) hx hb dX9_act_0 (by decide) ?_
  refine w_newa (atype := .int) (ty := .int) (a0 := (5, .inl (fun _ => 0))) (N' := 5) 0 S hK E hA ac_int rfl rfl (fun C h => by cases h) (fun cA => by first | rfl | (rw [vp_cell_i]; rfl)) (by decide) (by decide) (by decide) (Nat.le_of_ble_eq_true rfl) (Nat.le_of_ble_eq_true rfl) dX9_act_1 (fun q1 H E => ?_)
  have E : Ev g _ s.heap H _ [(m0, .inr (9, [.int t, .ref (b 0), .ref (b 17)])), ((b 17), .inr (8, [.int 0, .ref (g.2.2 0), .int 0])), ((b 0), .inr (10, [.ref (b 1), .ref (b 2), .ref (b 3), .ref (b 4), .ref (b 5), .ref (b 6), .ref (b 7), .ref (b 8), .ref (b 9), .ref (b 10), .ref (b 11), .ref (b 12), .int 0, .int 0, .int (nI mo), .ref (b 13), .ref (b 14), .ref (b 16)])), ((b 7), .inl (g.2.1 0, 8, .inl (fun _ => 0))), (q1, .inl (g.2.1 0, 5, .inl (fun _ => 0)))] := E
  refine lv_dup hx hb dX9_act_3 rfl ?_
  refine lv_iconst (v := 0) hx hb dX9_act_4 (by decide) ?_
  refine lv_iload_n hx hb dX9_act_5 rfl (lv_at hl 1 rfl) ?_
  refine w_ist (w' := [(m0, .inr (9, [.int t, .ref (b 0), .ref (b 17)])), ((b 17), .inr (8, [.int 0, .ref (g.2.2 0), .int 0])), ((b 0), .inr (10, [.ref (b 1), .ref (b 2), .ref (b 3), .ref (b 4), .ref (b 5), .ref (b 6), .ref (b 7), .ref (b 8), .ref (b 9), .ref (b 10), .ref (b 11), .ref (b 12), .int 0, .int 0, .int (nI mo), .ref (b 13), .ref (b 14), .ref (b 16)])), ((b 7), .inl (g.2.1 0, 8, .inl (fun _ => 0))), (q1, .inl (g.2.1 0, 5, .inl (upd (fun _ => 0) (0 : Int32).toNatClampNeg 108)))]) S hK E 4 0 rfl rfl (show vp_in 0 5 by unfold vp_in; decide) rfl dX9_act_6 (fun H locs E => ?_)
  refine lv_dup hx hb dX9_act_7 rfl ?_
  refine lv_iconst (v := 1) hx hb dX9_act_8 (by decide) ?_
  refine lv_iload_n hx hb dX9_act_9 rfl (lv_at hl 2 rfl) ?_
  refine w_ist (w' := [(m0, .inr (9, [.int t, .ref (b 0), .ref (b 17)])), ((b 17), .inr (8, [.int 0, .ref (g.2.2 0), .int 0])), ((b 0), .inr (10, [.ref (b 1), .ref (b 2), .ref (b 3), .ref (b 4), .ref (b 5), .ref (b 6), .ref (b 7), .ref (b 8), .ref (b 9), .ref (b 10), .ref (b 11), .ref (b 12), .int 0, .int 0, .int (nI mo), .ref (b 13), .ref (b 14), .ref (b 16)])), ((b 7), .inl (g.2.1 0, 8, .inl (fun _ => 0))), (q1, .inl (g.2.1 0, 5, .inl (upd (upd (fun _ => 0) (0 : Int32).toNatClampNeg 108) (1 : Int32).toNatClampNeg p0)))]) S hK E 4 0 rfl rfl (show vp_in 1 5 by unfold vp_in; decide) rfl dX9_act_10 (fun H locs E => ?_)
  refine lv_dup hx hb dX9_act_11 rfl ?_
  refine lv_iconst (v := 2) hx hb dX9_act_12 (by decide) ?_
  refine lv_iload_n hx hb dX9_act_13 rfl (lv_at hl 3 rfl) ?_
  refine w_ist (w' := [(m0, .inr (9, [.int t, .ref (b 0), .ref (b 17)])), ((b 17), .inr (8, [.int 0, .ref (g.2.2 0), .int 0])), ((b 0), .inr (10, [.ref (b 1), .ref (b 2), .ref (b 3), .ref (b 4), .ref (b 5), .ref (b 6), .ref (b 7), .ref (b 8), .ref (b 9), .ref (b 10), .ref (b 11), .ref (b 12), .int 0, .int 0, .int (nI mo), .ref (b 13), .ref (b 14), .ref (b 16)])), ((b 7), .inl (g.2.1 0, 8, .inl (fun _ => 0))), (q1, .inl (g.2.1 0, 5, .inl (upd (upd (upd (fun _ => 0) (0 : Int32).toNatClampNeg 108) (1 : Int32).toNatClampNeg p0) (2 : Int32).toNatClampNeg p1)))]) S hK E 4 0 rfl rfl (show vp_in 2 5 by unfold vp_in; decide) rfl dX9_act_14 (fun H locs E => ?_)
  refine lv_dup hx hb dX9_act_15 rfl ?_
  refine lv_iconst (v := 3) hx hb dX9_act_16 (by decide) ?_
  refine lv_iload hx hb dX9_act_17 (lv_at hl 4 rfl) ?_
  refine w_ist (w' := [(m0, .inr (9, [.int t, .ref (b 0), .ref (b 17)])), ((b 17), .inr (8, [.int 0, .ref (g.2.2 0), .int 0])), ((b 0), .inr (10, [.ref (b 1), .ref (b 2), .ref (b 3), .ref (b 4), .ref (b 5), .ref (b 6), .ref (b 7), .ref (b 8), .ref (b 9), .ref (b 10), .ref (b 11), .ref (b 12), .int 0, .int 0, .int (nI mo), .ref (b 13), .ref (b 14), .ref (b 16)])), ((b 7), .inl (g.2.1 0, 8, .inl (fun _ => 0))), (q1, .inl (g.2.1 0, 5, .inl (upd (upd (upd (upd (fun _ => 0) (0 : Int32).toNatClampNeg 108) (1 : Int32).toNatClampNeg p0) (2 : Int32).toNatClampNeg p1) (3 : Int32).toNatClampNeg 0)))]) S hK E 4 0 rfl rfl (show vp_in 3 5 by unfold vp_in; decide) rfl dX9_act_19 (fun H locs E => ?_)
  refine lv_dup hx hb dX9_act_20 rfl ?_
  refine lv_iconst (v := 4) hx hb dX9_act_21 (by decide) ?_
  refine lv_iload hx hb dX9_act_22 (lv_at hl 5 rfl) ?_
  refine w_ist (w' := [(m0, .inr (9, [.int t, .ref (b 0), .ref (b 17)])), ((b 17), .inr (8, [.int 0, .ref (g.2.2 0), .int 0])), ((b 0), .inr (10, [.ref (b 1), .ref (b 2), .ref (b 3), .ref (b 4), .ref (b 5), .ref (b 6), .ref (b 7), .ref (b 8), .ref (b 9), .ref (b 10), .ref (b 11), .ref (b 12), .int 0, .int 0, .int (nI mo), .ref (b 13), .ref (b 14), .ref (b 16)])), ((b 7), .inl (g.2.1 0, 8, .inl (fun _ => 0))), (q1, .inl (g.2.1 0, 5, .inl (upd (upd (upd (upd (upd (fun _ => 0) (0 : Int32).toNatClampNeg 108) (1 : Int32).toNatClampNeg p0) (2 : Int32).toNatClampNeg p1) (3 : Int32).toNatClampNeg 0) (4 : Int32).toNatClampNeg 0)))]) S hK E 4 0 rfl rfl (show vp_in 4 5 by unfold vp_in; decide) rfl dX9_act_24 (fun H locs E => ?_)
  refine lv_astore (lv' := [(6, .ref q1), (0, .ref m0), (1, .int 108), (2, .int p0), (3, .int p1), (4, .int 0), (5, .int 0)]) hx hb dX9_act_25 hl (by decide) rfl (fun ls hl => ?_)
  refine lv_aload_n hx hb dX9_act_27 rfl (lv_at hl 1 rfl) ?_
  refine wg_X9_19 (v := .ref (b 17)) S hK E 0 rfl rfl dX9_act_28 ?_
  refine lv_aload hx hb dX9_act_31 (lv_at hl 0 rfl) ?_
  refine w_reti (runV_X (As := [.ref q1]) (rest := []) (q0 := 0) (n := 1) S hml hK (hZ.at E) (Cut.of (wc := [((b 17), .inr (8, [.int 0, .ref (g.2.2 0), .int 0])), (q1, .inl (g.2.1 0, 5, .inl (upd (upd (upd (upd (upd (fun _ => 0) (0 : Int32).toNatClampNeg 108) (1 : Int32).toNatClampNeg p0) (2 : Int32).toNatClampNeg p1) (3 : Int32).toNatClampNeg 0) (4 : Int32).toNatClampNeg 0)))]) (wr := [(m0, .inr (9, [.int t, .ref (b 0), .ref (b 17)])), ((b 0), .inr (10, [.ref (b 1), .ref (b 2), .ref (b 3), .ref (b 4), .ref (b 5), .ref (b 6), .ref (b 7), .ref (b 8), .ref (b 9), .ref (b 10), .ref (b 11), .ref (b 12), .int 0, .int 0, .int (nI mo), .ref (b 13), .ref (b 14), .ref (b 16)])), ((b 7), .inl (g.2.1 0, 8, .inl (fun _ => 0)))]) E hA [1, 4] [0, 2, 3] rfl rfl rfl rfl (by decide)) (c_ad1 l g (b 17) q1 (.inl (g.2.1 0, 5, .inl (upd (upd (upd (upd (upd (fun _ => 0) (0 : Int32).toNatClampNeg 108) (1 : Int32).toNatClampNeg p0) (2 : Int32).toNatClampNeg p1) (3 : Int32).toNatClampNeg 0) (4 : Int32).toNatClampNeg 0))) any_arr _ _) (gi_wsV ml_X9_27 im_Jx4a65c_add_9ea2d sl_Jx4a65c_add_9ea2d in_Jx4a65c co_Jx4a65c_add_9ea2d) ⟨rfl, by decide +kernel, by decide +kernel, by decide +kernel⟩ ⟨Nat.le_of_ble_eq_true rfl, Nat.le_of_ble_eq_true rfl⟩ rfl rfl rfl hl.1 rfl (Nat.le_of_ble_eq_true rfl) dX9_act_33 ⟨Nat.le_of_ble_eq_true rfl, Nat.le_of_ble_eq_true rfl⟩) (Cut.of (wc := [((b 17), .inr (8, [.int 0, .ref (g.2.2 0), .int 0])), (q1, .inl (g.2.1 0, 5, .inl (upd (upd (upd (upd (upd (fun _ => 0) (0 : Int32).toNatClampNeg 108) (1 : Int32).toNatClampNeg p0) (2 : Int32).toNatClampNeg p1) (3 : Int32).toNatClampNeg 0) (4 : Int32).toNatClampNeg 0)))]) (wr := [(m0, .inr (9, [.int t, .ref (b 0), .ref (b 17)])), ((b 0), .inr (10, [.ref (b 1), .ref (b 2), .ref (b 3), .ref (b 4), .ref (b 5), .ref (b 6), .ref (b 7), .ref (b 8), .ref (b 9), .ref (b 10), .ref (b 11), .ref (b 12), .int 0, .int 0, .int (nI mo), .ref (b 13), .ref (b 14), .ref (b 16)])), ((b 7), .inl (g.2.1 0, 8, .inl (fun _ => 0)))]) E hA [1, 4] [0, 2, 3] rfl rfl rfl rfl (by decide)) E (fun r2 u2 H locs hp E => ?_)
  have E : Ev g _ s.heap H locs [(m0, .inr (9, [.int t, .ref (b 0), .ref (b 17)])), ((b 0), .inr (10, [.ref (b 1), .ref (b 2), .ref (b 3), .ref (b 4), .ref (b 5), .ref (b 6), .ref (b 7), .ref (b 8), .ref (b 9), .ref (b 10), .ref (b 11), .ref (b 12), .int 0, .int 0, .int (nI mo), .ref (b 13), .ref (b 14), .ref (b 16)])), ((b 7), .inl (g.2.1 0, 8, .inl (fun _ => 0))), ((b 17), .inr (8, [.int 1, .ref u2, .int 1])), (q1, .inl (g.2.1 0, 5, .inl (upd (upd (upd (upd (upd (fun _ => 0) (0 : Int32).toNatClampNeg 108) (1 : Int32).toNatClampNeg p0) (2 : Int32).toNatClampNeg p1) (3 : Int32).toNatClampNeg 0) (4 : Int32).toNatClampNeg 0))), (u2, .inl (g.2.1 4, 10, .inr (.inr (.inr (.inr (va_up (fun _ => none) (0 : Int32).toNatClampNeg (some q1)))))))] := E
  subst hp
  refine lv_istore (lv' := [(7, .int 1), (6, .ref q1), (0, .ref m0), (1, .int 108), (2, .int p0), (3, .int p1), (4, .int 0), (5, .int 0)]) hx hb dX9_act_36 hl (by decide) rfl (fun ls hl => ?_)
  refine lv_aload_n hx hb dX9_act_38 rfl (lv_at hl 2 rfl) ?_
  refine wg_X9_10 (v := .ref (b 0)) S hK E 0 rfl rfl dX9_act_39 ?_
  refine lv_aload hx hb dX9_act_42 (lv_at hl 1 rfl) ?_
  refine w_retv (runV_X (As := [.ref q1]) (rest := []) (q0 := 0) (n := 1) S hml hK (hZ.at E) (Cut.of (wc := [((b 0), .inr (10, [.ref (b 1), .ref (b 2), .ref (b 3), .ref (b 4), .ref (b 5), .ref (b 6), .ref (b 7), .ref (b 8), .ref (b 9), .ref (b 10), .ref (b 11), .ref (b 12), .int 0, .int 0, .int (nI mo), .ref (b 13), .ref (b 14), .ref (b 16)])), (q1, .inl (g.2.1 0, 5, .inl (upd (upd (upd (upd (upd (fun _ => 0) (0 : Int32).toNatClampNeg 108) (1 : Int32).toNatClampNeg p0) (2 : Int32).toNatClampNeg p1) (3 : Int32).toNatClampNeg 0) (4 : Int32).toNatClampNeg 0))), ((b 7), .inl (g.2.1 0, 8, .inl (fun _ => 0)))]) (wr := [(m0, .inr (9, [.int t, .ref (b 0), .ref (b 17)])), ((b 17), .inr (8, [.int 1, .ref u2, .int 1])), (u2, .inl (g.2.1 4, 10, .inr (.inr (.inr (.inr (va_up (fun _ => none) (0 : Int32).toNatClampNeg (some q1)))))))]) E hA [1, 4, 2] [0, 3, 5] rfl rfl rfl rfl (by decide)) (c_do108 l g b q1 (upd (upd (upd (upd (upd (fun _ => 0) (0 : Int32).toNatClampNeg 108) (1 : Int32).toNatClampNeg p0) (2 : Int32).toNatClampNeg p1) (3 : Int32).toNatClampNeg 0) (4 : Int32).toNatClampNeg 0) mo p0 p1 hp0 rfl rfl rfl rfl rfl _ _) (gi_wsV ml_X9_31 im_X7_does sl_X7_does in_X7 co_X7_does) ⟨rfl, by decide +kernel, by decide +kernel, by decide +kernel⟩ ⟨Nat.le_of_ble_eq_true rfl, Nat.le_of_ble_eq_true rfl⟩ rfl rfl rfl hl.1 rfl (Nat.le_of_ble_eq_true rfl) dX9_act_44 ⟨Nat.le_of_ble_eq_true rfl, Nat.le_of_ble_eq_true rfl⟩) (Cut.of (wc := [((b 0), .inr (10, [.ref (b 1), .ref (b 2), .ref (b 3), .ref (b 4), .ref (b 5), .ref (b 6), .ref (b 7), .ref (b 8), .ref (b 9), .ref (b 10), .ref (b 11), .ref (b 12), .int 0, .int 0, .int (nI mo), .ref (b 13), .ref (b 14), .ref (b 16)])), (q1, .inl (g.2.1 0, 5, .inl (upd (upd (upd (upd (upd (fun _ => 0) (0 : Int32).toNatClampNeg 108) (1 : Int32).toNatClampNeg p0) (2 : Int32).toNatClampNeg p1) (3 : Int32).toNatClampNeg 0) (4 : Int32).toNatClampNeg 0))), ((b 7), .inl (g.2.1 0, 8, .inl (fun _ => 0)))]) (wr := [(m0, .inr (9, [.int t, .ref (b 0), .ref (b 17)])), ((b 17), .inr (8, [.int 1, .ref u2, .int 1])), (u2, .inl (g.2.1 4, 10, .inr (.inr (.inr (.inr (va_up (fun _ => none) (0 : Int32).toNatClampNeg (some q1)))))))]) E hA [1, 4, 2] [0, 3, 5] rfl rfl rfl rfl (by decide)) E (fun u3 H locs hp E => ?_)
  have E : Ev g _ s.heap H locs [(m0, .inr (9, [.int t, .ref (b 0), .ref (b 17)])), ((b 17), .inr (8, [.int 1, .ref u2, .int 1])), (u2, .inl (g.2.1 4, 10, .inr (.inr (.inr (.inr (va_up (fun _ => none) (0 : Int32).toNatClampNeg (some q1)))))))] := E
  have E : Ev g _ s.heap H locs [(m0, .inr (9, [.int t, .ref (b 0), .ref (b 17)]))] := Ev.sub E [0] rfl rfl
  exact x_vret () S hr hlk hsz htt hK E dX9_act_47 trivial rfl ⟨Nat.le_of_ble_eq_true rfl, Nat.le_of_ble_eq_true rfl⟩ ⟨Nat.le_of_ble_eq_true rfl, Nat.le_of_ble_eq_true rfl⟩

set_option maxHeartbeats 4000000 in
set_option maxRecDepth 100000 in
/-- act, r -/
theorem c_ac114 (l : Launch) (g : Gm) (m0 : Nat) (b : Nat → Nat) (t : Int32) (mo : Nat) (p0 : Int32) (p1 : Int32) (hp0 : vp_in p0 8) : MXv (S := Unit) l g yX9_act cX9_act 8 ({ frames := 5, cells := 2, slots := 15, locals := 101 } : Room) [.ref m0, .int 114, .int p0, .int p1, .int 0, .int 0] [(m0, .inr (9, [.int t, .ref (b 0), .ref (b 17)])), ((b 17), .inr (8, [.int 0, .ref (g.2.2 0), .int 0])), ((b 0), .inr (10, [.ref (b 1), .ref (b 2), .ref (b 3), .ref (b 4), .ref (b 5), .ref (b 6), .ref (b 7), .ref (b 8), .ref (b 9), .ref (b 10), .ref (b 11), .ref (b 12), .int 0, .int 0, .int (nI mo), .ref (b 13), .ref (b 14), .ref (b 16)])), ((b 8), .inl (g.2.1 0, 8, .inl (fun _ => 0)))] (fun _ => True) (fun _ => [(m0, .inr (9, [.int t, .ref (b 0), .ref (b 17)]))]) (fun _ => (2, 15)) := by
  intro sz tt
  refine ofX RX9 rfl (by decide +kernel) (Nat.le_of_ble_eq_true rfl) (fun p e s m args below meth c hargs S hml hr hlk hnm hsz htt hK hA hZ E ls hl => ?_)
  have hx := S.1
  have hb := S.2.1
  have hl : lv_has ls 8 [(0, .ref m0), (1, .int 114), (2, .int p0), (3, .int p1), (4, .int 0), (5, .int 0)] := hl
  refine lv_iconst (v := 5) hx hb dX9_act_0 (by decide) ?_
  refine w_newa (atype := .int) (ty := .int) (a0 := (5, .inl (fun _ => 0))) (N' := 5) 0 S hK E hA ac_int rfl rfl (fun C h => by cases h) (fun cA => by first | rfl | (rw [vp_cell_i]; rfl)) (by decide) (by decide) (by decide) (Nat.le_of_ble_eq_true rfl) (Nat.le_of_ble_eq_true rfl) dX9_act_1 (fun q1 H E => ?_)
  have E : Ev g _ s.heap H _ [(m0, .inr (9, [.int t, .ref (b 0), .ref (b 17)])), ((b 17), .inr (8, [.int 0, .ref (g.2.2 0), .int 0])), ((b 0), .inr (10, [.ref (b 1), .ref (b 2), .ref (b 3), .ref (b 4), .ref (b 5), .ref (b 6), .ref (b 7), .ref (b 8), .ref (b 9), .ref (b 10), .ref (b 11), .ref (b 12), .int 0, .int 0, .int (nI mo), .ref (b 13), .ref (b 14), .ref (b 16)])), ((b 8), .inl (g.2.1 0, 8, .inl (fun _ => 0))), (q1, .inl (g.2.1 0, 5, .inl (fun _ => 0)))] := E
  refine lv_dup hx hb dX9_act_3 rfl ?_
  refine lv_iconst (v := 0) hx hb dX9_act_4 (by decide) ?_
  refine lv_iload_n hx hb dX9_act_5 rfl (lv_at hl 1 rfl) ?_
  refine w_ist (w' := [(m0, .inr (9, [.int t, .ref (b 0), .ref (b 17)])), ((b 17), .inr (8, [.int 0, .ref (g.2.2 0), .int 0])), ((b 0), .inr (10, [.ref (b 1), .ref (b 2), .ref (b 3), .ref (b 4), .ref (b 5), .ref (b 6), .ref (b 7), .ref (b 8), .ref (b 9), .ref (b 10), .ref (b 11), .ref (b 12), .int 0, .int 0, .int (nI mo), .ref (b 13), .ref (b 14), .ref (b 16)])), ((b 8), .inl (g.2.1 0, 8, .inl (fun _ => 0))), (q1, .inl (g.2.1 0, 5, .inl (upd (fun _ => 0) (0 : Int32).toNatClampNeg 114)))]) S hK E 4 0 rfl rfl (show vp_in 0 5 by unfold vp_in; decide) rfl dX9_act_6 (fun H locs E => ?_)
  refine lv_dup hx hb dX9_act_7 rfl ?_
  refine lv_iconst (v := 1) hx hb dX9_act_8 (by decide) ?_
  refine lv_iload_n hx hb dX9_act_9 rfl (lv_at hl 2 rfl) ?_
  refine w_ist (w' := [(m0, .inr (9, [.int t, .ref (b 0), .ref (b 17)])), ((b 17), .inr (8, [.int 0, .ref (g.2.2 0), .int 0])), ((b 0), .inr (10, [.ref (b 1), .ref (b 2), .ref (b 3), .ref (b 4), .ref (b 5), .ref (b 6), .ref (b 7), .ref (b 8), .ref (b 9), .ref (b 10), .ref (b 11), .ref (b 12), .int 0, .int 0, .int (nI mo), .ref (b 13), .ref (b 14), .ref (b 16)])), ((b 8), .inl (g.2.1 0, 8, .inl (fun _ => 0))), (q1, .inl (g.2.1 0, 5, .inl (upd (upd (fun _ => 0) (0 : Int32).toNatClampNeg 114) (1 : Int32).toNatClampNeg p0)))]) S hK E 4 0 rfl rfl (show vp_in 1 5 by unfold vp_in; decide) rfl dX9_act_10 (fun H locs E => ?_)
  refine lv_dup hx hb dX9_act_11 rfl ?_
  refine lv_iconst (v := 2) hx hb dX9_act_12 (by decide) ?_
  refine lv_iload_n hx hb dX9_act_13 rfl (lv_at hl 3 rfl) ?_
  refine w_ist (w' := [(m0, .inr (9, [.int t, .ref (b 0), .ref (b 17)])), ((b 17), .inr (8, [.int 0, .ref (g.2.2 0), .int 0])), ((b 0), .inr (10, [.ref (b 1), .ref (b 2), .ref (b 3), .ref (b 4), .ref (b 5), .ref (b 6), .ref (b 7), .ref (b 8), .ref (b 9), .ref (b 10), .ref (b 11), .ref (b 12), .int 0, .int 0, .int (nI mo), .ref (b 13), .ref (b 14), .ref (b 16)])), ((b 8), .inl (g.2.1 0, 8, .inl (fun _ => 0))), (q1, .inl (g.2.1 0, 5, .inl (upd (upd (upd (fun _ => 0) (0 : Int32).toNatClampNeg 114) (1 : Int32).toNatClampNeg p0) (2 : Int32).toNatClampNeg p1)))]) S hK E 4 0 rfl rfl (show vp_in 2 5 by unfold vp_in; decide) rfl dX9_act_14 (fun H locs E => ?_)
  refine lv_dup hx hb dX9_act_15 rfl ?_
  refine lv_iconst (v := 3) hx hb dX9_act_16 (by decide) ?_
  refine lv_iload hx hb dX9_act_17 (lv_at hl 4 rfl) ?_
  refine w_ist (w' := [(m0, .inr (9, [.int t, .ref (b 0), .ref (b 17)])), ((b 17), .inr (8, [.int 0, .ref (g.2.2 0), .int 0])), ((b 0), .inr (10, [.ref (b 1), .ref (b 2), .ref (b 3), .ref (b 4), .ref (b 5), .ref (b 6), .ref (b 7), .ref (b 8), .ref (b 9), .ref (b 10), .ref (b 11), .ref (b 12), .int 0, .int 0, .int (nI mo), .ref (b 13), .ref (b 14), .ref (b 16)])), ((b 8), .inl (g.2.1 0, 8, .inl (fun _ => 0))), (q1, .inl (g.2.1 0, 5, .inl (upd (upd (upd (upd (fun _ => 0) (0 : Int32).toNatClampNeg 114) (1 : Int32).toNatClampNeg p0) (2 : Int32).toNatClampNeg p1) (3 : Int32).toNatClampNeg 0)))]) S hK E 4 0 rfl rfl (show vp_in 3 5 by unfold vp_in; decide) rfl dX9_act_19 (fun H locs E => ?_)
  refine lv_dup hx hb dX9_act_20 rfl ?_
  refine lv_iconst (v := 4) hx hb dX9_act_21 (by decide) ?_
  refine lv_iload hx hb dX9_act_22 (lv_at hl 5 rfl) ?_
  refine w_ist (w' := [(m0, .inr (9, [.int t, .ref (b 0), .ref (b 17)])), ((b 17), .inr (8, [.int 0, .ref (g.2.2 0), .int 0])), ((b 0), .inr (10, [.ref (b 1), .ref (b 2), .ref (b 3), .ref (b 4), .ref (b 5), .ref (b 6), .ref (b 7), .ref (b 8), .ref (b 9), .ref (b 10), .ref (b 11), .ref (b 12), .int 0, .int 0, .int (nI mo), .ref (b 13), .ref (b 14), .ref (b 16)])), ((b 8), .inl (g.2.1 0, 8, .inl (fun _ => 0))), (q1, .inl (g.2.1 0, 5, .inl (upd (upd (upd (upd (upd (fun _ => 0) (0 : Int32).toNatClampNeg 114) (1 : Int32).toNatClampNeg p0) (2 : Int32).toNatClampNeg p1) (3 : Int32).toNatClampNeg 0) (4 : Int32).toNatClampNeg 0)))]) S hK E 4 0 rfl rfl (show vp_in 4 5 by unfold vp_in; decide) rfl dX9_act_24 (fun H locs E => ?_)
  refine lv_astore (lv' := [(6, .ref q1), (0, .ref m0), (1, .int 114), (2, .int p0), (3, .int p1), (4, .int 0), (5, .int 0)]) hx hb dX9_act_25 hl (by decide) rfl (fun ls hl => ?_)
  refine lv_aload_n hx hb dX9_act_27 rfl (lv_at hl 1 rfl) ?_
  refine wg_X9_19 (v := .ref (b 17)) S hK E 0 rfl rfl dX9_act_28 ?_
  refine lv_aload hx hb dX9_act_31 (lv_at hl 0 rfl) ?_
  refine w_reti (runV_X (As := [.ref q1]) (rest := []) (q0 := 0) (n := 1) S hml hK (hZ.at E) (Cut.of (wc := [((b 17), .inr (8, [.int 0, .ref (g.2.2 0), .int 0])), (q1, .inl (g.2.1 0, 5, .inl (upd (upd (upd (upd (upd (fun _ => 0) (0 : Int32).toNatClampNeg 114) (1 : Int32).toNatClampNeg p0) (2 : Int32).toNatClampNeg p1) (3 : Int32).toNatClampNeg 0) (4 : Int32).toNatClampNeg 0)))]) (wr := [(m0, .inr (9, [.int t, .ref (b 0), .ref (b 17)])), ((b 0), .inr (10, [.ref (b 1), .ref (b 2), .ref (b 3), .ref (b 4), .ref (b 5), .ref (b 6), .ref (b 7), .ref (b 8), .ref (b 9), .ref (b 10), .ref (b 11), .ref (b 12), .int 0, .int 0, .int (nI mo), .ref (b 13), .ref (b 14), .ref (b 16)])), ((b 8), .inl (g.2.1 0, 8, .inl (fun _ => 0)))]) E hA [1, 4] [0, 2, 3] rfl rfl rfl rfl (by decide)) (c_ad1 l g (b 17) q1 (.inl (g.2.1 0, 5, .inl (upd (upd (upd (upd (upd (fun _ => 0) (0 : Int32).toNatClampNeg 114) (1 : Int32).toNatClampNeg p0) (2 : Int32).toNatClampNeg p1) (3 : Int32).toNatClampNeg 0) (4 : Int32).toNatClampNeg 0))) any_arr _ _) (gi_wsV ml_X9_27 im_Jx4a65c_add_9ea2d sl_Jx4a65c_add_9ea2d in_Jx4a65c co_Jx4a65c_add_9ea2d) ⟨rfl, by decide +kernel, by decide +kernel, by decide +kernel⟩ ⟨Nat.le_of_ble_eq_true rfl, Nat.le_of_ble_eq_true rfl⟩ rfl rfl rfl hl.1 rfl (Nat.le_of_ble_eq_true rfl) dX9_act_33 ⟨Nat.le_of_ble_eq_true rfl, Nat.le_of_ble_eq_true rfl⟩) (Cut.of (wc := [((b 17), .inr (8, [.int 0, .ref (g.2.2 0), .int 0])), (q1, .inl (g.2.1 0, 5, .inl (upd (upd (upd (upd (upd (fun _ => 0) (0 : Int32).toNatClampNeg 114) (1 : Int32).toNatClampNeg p0) (2 : Int32).toNatClampNeg p1) (3 : Int32).toNatClampNeg 0) (4 : Int32).toNatClampNeg 0)))]) (wr := [(m0, .inr (9, [.int t, .ref (b 0), .ref (b 17)])), ((b 0), .inr (10, [.ref (b 1), .ref (b 2), .ref (b 3), .ref (b 4), .ref (b 5), .ref (b 6), .ref (b 7), .ref (b 8), .ref (b 9), .ref (b 10), .ref (b 11), .ref (b 12), .int 0, .int 0, .int (nI mo), .ref (b 13), .ref (b 14), .ref (b 16)])), ((b 8), .inl (g.2.1 0, 8, .inl (fun _ => 0)))]) E hA [1, 4] [0, 2, 3] rfl rfl rfl rfl (by decide)) E (fun r2 u2 H locs hp E => ?_)
  have E : Ev g _ s.heap H locs [(m0, .inr (9, [.int t, .ref (b 0), .ref (b 17)])), ((b 0), .inr (10, [.ref (b 1), .ref (b 2), .ref (b 3), .ref (b 4), .ref (b 5), .ref (b 6), .ref (b 7), .ref (b 8), .ref (b 9), .ref (b 10), .ref (b 11), .ref (b 12), .int 0, .int 0, .int (nI mo), .ref (b 13), .ref (b 14), .ref (b 16)])), ((b 8), .inl (g.2.1 0, 8, .inl (fun _ => 0))), ((b 17), .inr (8, [.int 1, .ref u2, .int 1])), (q1, .inl (g.2.1 0, 5, .inl (upd (upd (upd (upd (upd (fun _ => 0) (0 : Int32).toNatClampNeg 114) (1 : Int32).toNatClampNeg p0) (2 : Int32).toNatClampNeg p1) (3 : Int32).toNatClampNeg 0) (4 : Int32).toNatClampNeg 0))), (u2, .inl (g.2.1 4, 10, .inr (.inr (.inr (.inr (va_up (fun _ => none) (0 : Int32).toNatClampNeg (some q1)))))))] := E
  subst hp
  refine lv_istore (lv' := [(7, .int 1), (6, .ref q1), (0, .ref m0), (1, .int 114), (2, .int p0), (3, .int p1), (4, .int 0), (5, .int 0)]) hx hb dX9_act_36 hl (by decide) rfl (fun ls hl => ?_)
  refine lv_aload_n hx hb dX9_act_38 rfl (lv_at hl 2 rfl) ?_
  refine wg_X9_10 (v := .ref (b 0)) S hK E 0 rfl rfl dX9_act_39 ?_
  refine lv_aload hx hb dX9_act_42 (lv_at hl 1 rfl) ?_
  refine w_retv (runV_X (As := [.ref q1]) (rest := []) (q0 := 0) (n := 1) S hml hK (hZ.at E) (Cut.of (wc := [((b 0), .inr (10, [.ref (b 1), .ref (b 2), .ref (b 3), .ref (b 4), .ref (b 5), .ref (b 6), .ref (b 7), .ref (b 8), .ref (b 9), .ref (b 10), .ref (b 11), .ref (b 12), .int 0, .int 0, .int (nI mo), .ref (b 13), .ref (b 14), .ref (b 16)])), (q1, .inl (g.2.1 0, 5, .inl (upd (upd (upd (upd (upd (fun _ => 0) (0 : Int32).toNatClampNeg 114) (1 : Int32).toNatClampNeg p0) (2 : Int32).toNatClampNeg p1) (3 : Int32).toNatClampNeg 0) (4 : Int32).toNatClampNeg 0))), ((b 8), .inl (g.2.1 0, 8, .inl (fun _ => 0)))]) (wr := [(m0, .inr (9, [.int t, .ref (b 0), .ref (b 17)])), ((b 17), .inr (8, [.int 1, .ref u2, .int 1])), (u2, .inl (g.2.1 4, 10, .inr (.inr (.inr (.inr (va_up (fun _ => none) (0 : Int32).toNatClampNeg (some q1)))))))]) E hA [1, 4, 2] [0, 3, 5] rfl rfl rfl rfl (by decide)) (c_do114 l g b q1 (upd (upd (upd (upd (upd (fun _ => 0) (0 : Int32).toNatClampNeg 114) (1 : Int32).toNatClampNeg p0) (2 : Int32).toNatClampNeg p1) (3 : Int32).toNatClampNeg 0) (4 : Int32).toNatClampNeg 0) mo p0 p1 hp0 rfl rfl rfl rfl rfl _ _) (gi_wsV ml_X9_31 im_X7_does sl_X7_does in_X7 co_X7_does) ⟨rfl, by decide +kernel, by decide +kernel, by decide +kernel⟩ ⟨Nat.le_of_ble_eq_true rfl, Nat.le_of_ble_eq_true rfl⟩ rfl rfl rfl hl.1 rfl (Nat.le_of_ble_eq_true rfl) dX9_act_44 ⟨Nat.le_of_ble_eq_true rfl, Nat.le_of_ble_eq_true rfl⟩) (Cut.of (wc := [((b 0), .inr (10, [.ref (b 1), .ref (b 2), .ref (b 3), .ref (b 4), .ref (b 5), .ref (b 6), .ref (b 7), .ref (b 8), .ref (b 9), .ref (b 10), .ref (b 11), .ref (b 12), .int 0, .int 0, .int (nI mo), .ref (b 13), .ref (b 14), .ref (b 16)])), (q1, .inl (g.2.1 0, 5, .inl (upd (upd (upd (upd (upd (fun _ => 0) (0 : Int32).toNatClampNeg 114) (1 : Int32).toNatClampNeg p0) (2 : Int32).toNatClampNeg p1) (3 : Int32).toNatClampNeg 0) (4 : Int32).toNatClampNeg 0))), ((b 8), .inl (g.2.1 0, 8, .inl (fun _ => 0)))]) (wr := [(m0, .inr (9, [.int t, .ref (b 0), .ref (b 17)])), ((b 17), .inr (8, [.int 1, .ref u2, .int 1])), (u2, .inl (g.2.1 4, 10, .inr (.inr (.inr (.inr (va_up (fun _ => none) (0 : Int32).toNatClampNeg (some q1)))))))]) E hA [1, 4, 2] [0, 3, 5] rfl rfl rfl rfl (by decide)) E (fun u3 H locs hp E => ?_)
  have E : Ev g _ s.heap H locs [(m0, .inr (9, [.int t, .ref (b 0), .ref (b 17)])), ((b 17), .inr (8, [.int 1, .ref u2, .int 1])), (u2, .inl (g.2.1 4, 10, .inr (.inr (.inr (.inr (va_up (fun _ => none) (0 : Int32).toNatClampNeg (some q1)))))))] := E
  have E : Ev g _ s.heap H locs [(m0, .inr (9, [.int t, .ref (b 0), .ref (b 17)]))] := Ev.sub E [0] rfl rfl
  exact x_vret () S hr hlk hsz htt hK E dX9_act_47 trivial rfl ⟨Nat.le_of_ble_eq_true rfl, Nat.le_of_ble_eq_true rfl⟩ ⟨Nat.le_of_ble_eq_true rfl, Nat.le_of_ble_eq_true rfl⟩

set_option maxHeartbeats 4000000 in
set_option maxRecDepth 100000 in
/-- act, b -/
theorem c_ac98 (l : Launch) (g : Gm) (m0 : Nat) (b : Nat → Nat) (t : Int32) (mo : Nat) (p0 : Int32) (p1 : Int32) (p2 : Int32) (hp0 : vp_in p0 8) : MXv (S := Unit) l g yX9_act cX9_act 8 ({ frames := 5, cells := 2, slots := 15, locals := 101 } : Room) [.ref m0, .int 98, .int p0, .int p1, .int p2, .int 0] [(m0, .inr (9, [.int t, .ref (b 0), .ref (b 17)])), ((b 17), .inr (8, [.int 0, .ref (g.2.2 0), .int 0])), ((b 0), .inr (10, [.ref (b 1), .ref (b 2), .ref (b 3), .ref (b 4), .ref (b 5), .ref (b 6), .ref (b 7), .ref (b 8), .ref (b 9), .ref (b 10), .ref (b 11), .ref (b 12), .int 0, .int 0, .int (nI mo), .ref (b 13), .ref (b 14), .ref (b 16)])), ((b 9), .inl (g.2.1 0, 8, .inl (fun _ => 0))), ((b 10), .inl (g.2.1 0, 8, .inl (fun _ => 0)))] (fun _ => True) (fun _ => [(m0, .inr (9, [.int t, .ref (b 0), .ref (b 17)]))]) (fun _ => (2, 15)) := by
  intro sz tt
  refine ofX RX9 rfl (by decide +kernel) (Nat.le_of_ble_eq_true rfl) (fun p e s m args below meth c hargs S hml hr hlk hnm hsz htt hK hA hZ E ls hl => ?_)
  have hx := S.1
  have hb := S.2.1
  have hl : lv_has ls 8 [(0, .ref m0), (1, .int 98), (2, .int p0), (3, .int p1), (4, .int p2), (5, .int 0)] := hl
  refine lv_iconst (v := 5) hx hb dX9_act_0 (by decide) ?_
  refine w_newa (atype := .int) (ty := .int) (a0 := (5, .inl (fun _ => 0))) (N' := 5) 0 S hK E hA ac_int rfl rfl (fun C h => by cases h) (fun cA => by first | rfl | (rw [vp_cell_i]; rfl)) (by decide) (by decide) (by decide) (Nat.le_of_ble_eq_true rfl) (Nat.le_of_ble_eq_true rfl) dX9_act_1 (fun q1 H E => ?_)
  have E : Ev g _ s.heap H _ [(m0, .inr (9, [.int t, .ref (b 0), .ref (b 17)])), ((b 17), .inr (8, [.int 0, .ref (g.2.2 0), .int 0])), ((b 0), .inr (10, [.ref (b 1), .ref (b 2), .ref (b 3), .ref (b 4), .ref (b 5), .ref (b 6), .ref (b 7), .ref (b 8), .ref (b 9), .ref (b 10), .ref (b 11), .ref (b 12), .int 0, .int 0, .int (nI mo), .ref (b 13), .ref (b 14), .ref (b 16)])), ((b 9), .inl (g.2.1 0, 8, .inl (fun _ => 0))), ((b 10), .inl (g.2.1 0, 8, .inl (fun _ => 0))), (q1, .inl (g.2.1 0, 5, .inl (fun _ => 0)))] := E
  refine lv_dup hx hb dX9_act_3 rfl ?_
  refine lv_iconst (v := 0) hx hb dX9_act_4 (by decide) ?_
  refine lv_iload_n hx hb dX9_act_5 rfl (lv_at hl 1 rfl) ?_
  refine w_ist (w' := [(m0, .inr (9, [.int t, .ref (b 0), .ref (b 17)])), ((b 17), .inr (8, [.int 0, .ref (g.2.2 0), .int 0])), ((b 0), .inr (10, [.ref (b 1), .ref (b 2), .ref (b 3), .ref (b 4), .ref (b 5), .ref (b 6), .ref (b 7), .ref (b 8), .ref (b 9), .ref (b 10), .ref (b 11), .ref (b 12), .int 0, .int 0, .int (nI mo), .ref (b 13), .ref (b 14), .ref (b 16)])), ((b 9), .inl (g.2.1 0, 8, .inl (fun _ => 0))), ((b 10), .inl (g.2.1 0, 8, .inl (fun _ => 0))), (q1, .inl (g.2.1 0, 5, .inl (upd (fun _ => 0) (0 : Int32).toNatClampNeg 98)))]) S hK E 5 0 rfl rfl (show vp_in 0 5 by unfold vp_in; decide) rfl dX9_act_6 (fun H locs E => ?_)
  refine lv_dup hx hb dX9_act_7 rfl ?_
  refine lv_iconst (v := 1) hx hb dX9_act_8 (by decide) ?_
  refine lv_iload_n hx hb dX9_act_9 rfl (lv_at hl 2 rfl) ?_
  refine w_ist (w' := [(m0, .inr (9, [.int t, .ref (b 0), .ref (b 17)])), ((b 17), .inr (8, [.int 0, .ref (g.2.2 0), .int 0])), ((b 0), .inr (10, [.ref (b 1), .ref (b 2), .ref (b 3), .ref (b 4), .ref (b 5), .ref (b 6), .ref (b 7), .ref (b 8), .ref (b 9), .ref (b 10), .ref (b 11), .ref (b 12), .int 0, .int 0, .int (nI mo), .ref (b 13), .ref (b 14), .ref (b 16)])), ((b 9), .inl (g.2.1 0, 8, .inl (fun _ => 0))), ((b 10), .inl (g.2.1 0, 8, .inl (fun _ => 0))), (q1, .inl (g.2.1 0, 5, .inl (upd (upd (fun _ => 0) (0 : Int32).toNatClampNeg 98) (1 : Int32).toNatClampNeg p0)))]) S hK E 5 0 rfl rfl (show vp_in 1 5 by unfold vp_in; decide) rfl dX9_act_10 (fun H locs E => ?_)
  refine lv_dup hx hb dX9_act_11 rfl ?_
  refine lv_iconst (v := 2) hx hb dX9_act_12 (by decide) ?_
  refine lv_iload_n hx hb dX9_act_13 rfl (lv_at hl 3 rfl) ?_
  refine w_ist (w' := [(m0, .inr (9, [.int t, .ref (b 0), .ref (b 17)])), ((b 17), .inr (8, [.int 0, .ref (g.2.2 0), .int 0])), ((b 0), .inr (10, [.ref (b 1), .ref (b 2), .ref (b 3), .ref (b 4), .ref (b 5), .ref (b 6), .ref (b 7), .ref (b 8), .ref (b 9), .ref (b 10), .ref (b 11), .ref (b 12), .int 0, .int 0, .int (nI mo), .ref (b 13), .ref (b 14), .ref (b 16)])), ((b 9), .inl (g.2.1 0, 8, .inl (fun _ => 0))), ((b 10), .inl (g.2.1 0, 8, .inl (fun _ => 0))), (q1, .inl (g.2.1 0, 5, .inl (upd (upd (upd (fun _ => 0) (0 : Int32).toNatClampNeg 98) (1 : Int32).toNatClampNeg p0) (2 : Int32).toNatClampNeg p1)))]) S hK E 5 0 rfl rfl (show vp_in 2 5 by unfold vp_in; decide) rfl dX9_act_14 (fun H locs E => ?_)
  refine lv_dup hx hb dX9_act_15 rfl ?_
  refine lv_iconst (v := 3) hx hb dX9_act_16 (by decide) ?_
  refine lv_iload hx hb dX9_act_17 (lv_at hl 4 rfl) ?_
  refine w_ist (w' := [(m0, .inr (9, [.int t, .ref (b 0), .ref (b 17)])), ((b 17), .inr (8, [.int 0, .ref (g.2.2 0), .int 0])), ((b 0), .inr (10, [.ref (b 1), .ref (b 2), .ref (b 3), .ref (b 4), .ref (b 5), .ref (b 6), .ref (b 7), .ref (b 8), .ref (b 9), .ref (b 10), .ref (b 11), .ref (b 12), .int 0, .int 0, .int (nI mo), .ref (b 13), .ref (b 14), .ref (b 16)])), ((b 9), .inl (g.2.1 0, 8, .inl (fun _ => 0))), ((b 10), .inl (g.2.1 0, 8, .inl (fun _ => 0))), (q1, .inl (g.2.1 0, 5, .inl (upd (upd (upd (upd (fun _ => 0) (0 : Int32).toNatClampNeg 98) (1 : Int32).toNatClampNeg p0) (2 : Int32).toNatClampNeg p1) (3 : Int32).toNatClampNeg p2)))]) S hK E 5 0 rfl rfl (show vp_in 3 5 by unfold vp_in; decide) rfl dX9_act_19 (fun H locs E => ?_)
  refine lv_dup hx hb dX9_act_20 rfl ?_
  refine lv_iconst (v := 4) hx hb dX9_act_21 (by decide) ?_
  refine lv_iload hx hb dX9_act_22 (lv_at hl 5 rfl) ?_
  refine w_ist (w' := [(m0, .inr (9, [.int t, .ref (b 0), .ref (b 17)])), ((b 17), .inr (8, [.int 0, .ref (g.2.2 0), .int 0])), ((b 0), .inr (10, [.ref (b 1), .ref (b 2), .ref (b 3), .ref (b 4), .ref (b 5), .ref (b 6), .ref (b 7), .ref (b 8), .ref (b 9), .ref (b 10), .ref (b 11), .ref (b 12), .int 0, .int 0, .int (nI mo), .ref (b 13), .ref (b 14), .ref (b 16)])), ((b 9), .inl (g.2.1 0, 8, .inl (fun _ => 0))), ((b 10), .inl (g.2.1 0, 8, .inl (fun _ => 0))), (q1, .inl (g.2.1 0, 5, .inl (upd (upd (upd (upd (upd (fun _ => 0) (0 : Int32).toNatClampNeg 98) (1 : Int32).toNatClampNeg p0) (2 : Int32).toNatClampNeg p1) (3 : Int32).toNatClampNeg p2) (4 : Int32).toNatClampNeg 0)))]) S hK E 5 0 rfl rfl (show vp_in 4 5 by unfold vp_in; decide) rfl dX9_act_24 (fun H locs E => ?_)
  refine lv_astore (lv' := [(6, .ref q1), (0, .ref m0), (1, .int 98), (2, .int p0), (3, .int p1), (4, .int p2), (5, .int 0)]) hx hb dX9_act_25 hl (by decide) rfl (fun ls hl => ?_)
  refine lv_aload_n hx hb dX9_act_27 rfl (lv_at hl 1 rfl) ?_
  refine wg_X9_19 (v := .ref (b 17)) S hK E 0 rfl rfl dX9_act_28 ?_
  refine lv_aload hx hb dX9_act_31 (lv_at hl 0 rfl) ?_
  refine w_reti (runV_X (As := [.ref q1]) (rest := []) (q0 := 0) (n := 1) S hml hK (hZ.at E) (Cut.of (wc := [((b 17), .inr (8, [.int 0, .ref (g.2.2 0), .int 0])), (q1, .inl (g.2.1 0, 5, .inl (upd (upd (upd (upd (upd (fun _ => 0) (0 : Int32).toNatClampNeg 98) (1 : Int32).toNatClampNeg p0) (2 : Int32).toNatClampNeg p1) (3 : Int32).toNatClampNeg p2) (4 : Int32).toNatClampNeg 0)))]) (wr := [(m0, .inr (9, [.int t, .ref (b 0), .ref (b 17)])), ((b 0), .inr (10, [.ref (b 1), .ref (b 2), .ref (b 3), .ref (b 4), .ref (b 5), .ref (b 6), .ref (b 7), .ref (b 8), .ref (b 9), .ref (b 10), .ref (b 11), .ref (b 12), .int 0, .int 0, .int (nI mo), .ref (b 13), .ref (b 14), .ref (b 16)])), ((b 9), .inl (g.2.1 0, 8, .inl (fun _ => 0))), ((b 10), .inl (g.2.1 0, 8, .inl (fun _ => 0)))]) E hA [1, 5] [0, 2, 3, 4] rfl rfl rfl rfl (by decide)) (c_ad1 l g (b 17) q1 (.inl (g.2.1 0, 5, .inl (upd (upd (upd (upd (upd (fun _ => 0) (0 : Int32).toNatClampNeg 98) (1 : Int32).toNatClampNeg p0) (2 : Int32).toNatClampNeg p1) (3 : Int32).toNatClampNeg p2) (4 : Int32).toNatClampNeg 0))) any_arr _ _) (gi_wsV ml_X9_27 im_Jx4a65c_add_9ea2d sl_Jx4a65c_add_9ea2d in_Jx4a65c co_Jx4a65c_add_9ea2d) ⟨rfl, by decide +kernel, by decide +kernel, by decide +kernel⟩ ⟨Nat.le_of_ble_eq_true rfl, Nat.le_of_ble_eq_true rfl⟩ rfl rfl rfl hl.1 rfl (Nat.le_of_ble_eq_true rfl) dX9_act_33 ⟨Nat.le_of_ble_eq_true rfl, Nat.le_of_ble_eq_true rfl⟩) (Cut.of (wc := [((b 17), .inr (8, [.int 0, .ref (g.2.2 0), .int 0])), (q1, .inl (g.2.1 0, 5, .inl (upd (upd (upd (upd (upd (fun _ => 0) (0 : Int32).toNatClampNeg 98) (1 : Int32).toNatClampNeg p0) (2 : Int32).toNatClampNeg p1) (3 : Int32).toNatClampNeg p2) (4 : Int32).toNatClampNeg 0)))]) (wr := [(m0, .inr (9, [.int t, .ref (b 0), .ref (b 17)])), ((b 0), .inr (10, [.ref (b 1), .ref (b 2), .ref (b 3), .ref (b 4), .ref (b 5), .ref (b 6), .ref (b 7), .ref (b 8), .ref (b 9), .ref (b 10), .ref (b 11), .ref (b 12), .int 0, .int 0, .int (nI mo), .ref (b 13), .ref (b 14), .ref (b 16)])), ((b 9), .inl (g.2.1 0, 8, .inl (fun _ => 0))), ((b 10), .inl (g.2.1 0, 8, .inl (fun _ => 0)))]) E hA [1, 5] [0, 2, 3, 4] rfl rfl rfl rfl (by decide)) E (fun r2 u2 H locs hp E => ?_)
  have E : Ev g _ s.heap H locs [(m0, .inr (9, [.int t, .ref (b 0), .ref (b 17)])), ((b 0), .inr (10, [.ref (b 1), .ref (b 2), .ref (b 3), .ref (b 4), .ref (b 5), .ref (b 6), .ref (b 7), .ref (b 8), .ref (b 9), .ref (b 10), .ref (b 11), .ref (b 12), .int 0, .int 0, .int (nI mo), .ref (b 13), .ref (b 14), .ref (b 16)])), ((b 9), .inl (g.2.1 0, 8, .inl (fun _ => 0))), ((b 10), .inl (g.2.1 0, 8, .inl (fun _ => 0))), ((b 17), .inr (8, [.int 1, .ref u2, .int 1])), (q1, .inl (g.2.1 0, 5, .inl (upd (upd (upd (upd (upd (fun _ => 0) (0 : Int32).toNatClampNeg 98) (1 : Int32).toNatClampNeg p0) (2 : Int32).toNatClampNeg p1) (3 : Int32).toNatClampNeg p2) (4 : Int32).toNatClampNeg 0))), (u2, .inl (g.2.1 4, 10, .inr (.inr (.inr (.inr (va_up (fun _ => none) (0 : Int32).toNatClampNeg (some q1)))))))] := E
  subst hp
  refine lv_istore (lv' := [(7, .int 1), (6, .ref q1), (0, .ref m0), (1, .int 98), (2, .int p0), (3, .int p1), (4, .int p2), (5, .int 0)]) hx hb dX9_act_36 hl (by decide) rfl (fun ls hl => ?_)
  refine lv_aload_n hx hb dX9_act_38 rfl (lv_at hl 2 rfl) ?_
  refine wg_X9_10 (v := .ref (b 0)) S hK E 0 rfl rfl dX9_act_39 ?_
  refine lv_aload hx hb dX9_act_42 (lv_at hl 1 rfl) ?_
  refine w_retv (runV_X (As := [.ref q1]) (rest := []) (q0 := 0) (n := 1) S hml hK (hZ.at E) (Cut.of (wc := [((b 0), .inr (10, [.ref (b 1), .ref (b 2), .ref (b 3), .ref (b 4), .ref (b 5), .ref (b 6), .ref (b 7), .ref (b 8), .ref (b 9), .ref (b 10), .ref (b 11), .ref (b 12), .int 0, .int 0, .int (nI mo), .ref (b 13), .ref (b 14), .ref (b 16)])), (q1, .inl (g.2.1 0, 5, .inl (upd (upd (upd (upd (upd (fun _ => 0) (0 : Int32).toNatClampNeg 98) (1 : Int32).toNatClampNeg p0) (2 : Int32).toNatClampNeg p1) (3 : Int32).toNatClampNeg p2) (4 : Int32).toNatClampNeg 0))), ((b 9), .inl (g.2.1 0, 8, .inl (fun _ => 0))), ((b 10), .inl (g.2.1 0, 8, .inl (fun _ => 0)))]) (wr := [(m0, .inr (9, [.int t, .ref (b 0), .ref (b 17)])), ((b 17), .inr (8, [.int 1, .ref u2, .int 1])), (u2, .inl (g.2.1 4, 10, .inr (.inr (.inr (.inr (va_up (fun _ => none) (0 : Int32).toNatClampNeg (some q1)))))))]) E hA [1, 5, 2, 3] [0, 4, 6] rfl rfl rfl rfl (by decide)) (c_do98 l g b q1 (upd (upd (upd (upd (upd (fun _ => 0) (0 : Int32).toNatClampNeg 98) (1 : Int32).toNatClampNeg p0) (2 : Int32).toNatClampNeg p1) (3 : Int32).toNatClampNeg p2) (4 : Int32).toNatClampNeg 0) mo p0 p1 p2 hp0 rfl rfl rfl rfl rfl _ _) (gi_wsV ml_X9_31 im_X7_does sl_X7_does in_X7 co_X7_does) ⟨rfl, by decide +kernel, by decide +kernel, by decide +kernel⟩ ⟨Nat.le_of_ble_eq_true rfl, Nat.le_of_ble_eq_true rfl⟩ rfl rfl rfl hl.1 rfl (Nat.le_of_ble_eq_true rfl) dX9_act_44 ⟨Nat.le_of_ble_eq_true rfl, Nat.le_of_ble_eq_true rfl⟩) (Cut.of (wc := [((b 0), .inr (10, [.ref (b 1), .ref (b 2), .ref (b 3), .ref (b 4), .ref (b 5), .ref (b 6), .ref (b 7), .ref (b 8), .ref (b 9), .ref (b 10), .ref (b 11), .ref (b 12), .int 0, .int 0, .int (nI mo), .ref (b 13), .ref (b 14), .ref (b 16)])), (q1, .inl (g.2.1 0, 5, .inl (upd (upd (upd (upd (upd (fun _ => 0) (0 : Int32).toNatClampNeg 98) (1 : Int32).toNatClampNeg p0) (2 : Int32).toNatClampNeg p1) (3 : Int32).toNatClampNeg p2) (4 : Int32).toNatClampNeg 0))), ((b 9), .inl (g.2.1 0, 8, .inl (fun _ => 0))), ((b 10), .inl (g.2.1 0, 8, .inl (fun _ => 0)))]) (wr := [(m0, .inr (9, [.int t, .ref (b 0), .ref (b 17)])), ((b 17), .inr (8, [.int 1, .ref u2, .int 1])), (u2, .inl (g.2.1 4, 10, .inr (.inr (.inr (.inr (va_up (fun _ => none) (0 : Int32).toNatClampNeg (some q1)))))))]) E hA [1, 5, 2, 3] [0, 4, 6] rfl rfl rfl rfl (by decide)) E (fun u3 H locs hp E => ?_)
  have E : Ev g _ s.heap H locs [(m0, .inr (9, [.int t, .ref (b 0), .ref (b 17)])), ((b 17), .inr (8, [.int 1, .ref u2, .int 1])), (u2, .inl (g.2.1 4, 10, .inr (.inr (.inr (.inr (va_up (fun _ => none) (0 : Int32).toNatClampNeg (some q1)))))))] := E
  have E : Ev g _ s.heap H locs [(m0, .inr (9, [.int t, .ref (b 0), .ref (b 17)]))] := Ev.sub E [0] rfl rfl
  exact x_vret () S hr hlk hsz htt hK E dX9_act_47 trivial rfl ⟨Nat.le_of_ble_eq_true rfl, Nat.le_of_ble_eq_true rfl⟩ ⟨Nat.le_of_ble_eq_true rfl, Nat.le_of_ble_eq_true rfl⟩

set_option maxHeartbeats 4000000 in
set_option maxRecDepth 100000 in
/-- act, v -/
theorem c_ac118 (l : Launch) (g : Gm) (m0 : Nat) (b : Nat → Nat) (t : Int32) (mo : Nat) (p0 : Int32) : MXv (S := Unit) l g yX9_act cX9_act 8 ({ frames := 5, cells := 2, slots := 15, locals := 101 } : Room) [.ref m0, .int 118, .int p0, .int 0, .int 0, .int 0] [(m0, .inr (9, [.int t, .ref (b 0), .ref (b 17)])), ((b 17), .inr (8, [.int 0, .ref (g.2.2 0), .int 0])), ((b 0), .inr (10, [.ref (b 1), .ref (b 2), .ref (b 3), .ref (b 4), .ref (b 5), .ref (b 6), .ref (b 7), .ref (b 8), .ref (b 9), .ref (b 10), .ref (b 11), .ref (b 12), .int 0, .int 0, .int (nI mo), .ref (b 13), .ref (b 14), .ref (b 16)]))] (fun _ => True) (fun _ => [(m0, .inr (9, [.int t, .ref (b 0), .ref (b 17)]))]) (fun _ => (2, 15)) := by
  intro sz tt
  refine ofX RX9 rfl (by decide +kernel) (Nat.le_of_ble_eq_true rfl) (fun p e s m args below meth c hargs S hml hr hlk hnm hsz htt hK hA hZ E ls hl => ?_)
  have hx := S.1
  have hb := S.2.1
  have hl : lv_has ls 8 [(0, .ref m0), (1, .int 118), (2, .int p0), (3, .int 0), (4, .int 0), (5, .int 0)] := hl
  refine lv_iconst (v := 5) hx hb dX9_act_0 (by decide) ?_
  refine w_newa (atype := .int) (ty := .int) (a0 := (5, .inl (fun _ => 0))) (N' := 5) 0 S hK E hA ac_int rfl rfl (fun C h => by cases h) (fun cA => by first | rfl | (rw [vp_cell_i]; rfl)) (by decide) (by decide) (by decide) (Nat.le_of_ble_eq_true rfl) (Nat.le_of_ble_eq_true rfl) dX9_act_1 (fun q1 H E => ?_)
  have E : Ev g _ s.heap H _ [(m0, .inr (9, [.int t, .ref (b 0), .ref (b 17)])), ((b 17), .inr (8, [.int 0, .ref (g.2.2 0), .int 0])), ((b 0), .inr (10, [.ref (b 1), .ref (b 2), .ref (b 3), .ref (b 4), .ref (b 5), .ref (b 6), .ref (b 7), .ref (b 8), .ref (b 9), .ref (b 10), .ref (b 11), .ref (b 12), .int 0, .int 0, .int (nI mo), .ref (b 13), .ref (b 14), .ref (b 16)])), (q1, .inl (g.2.1 0, 5, .inl (fun _ => 0)))] := E
  refine lv_dup hx hb dX9_act_3 rfl ?_
  refine lv_iconst (v := 0) hx hb dX9_act_4 (by decide) ?_
  refine lv_iload_n hx hb dX9_act_5 rfl (lv_at hl 1 rfl) ?_
  refine w_ist (w' := [(m0, .inr (9, [.int t, .ref (b 0), .ref (b 17)])), ((b 17), .inr (8, [.int 0, .ref (g.2.2 0), .int 0])), ((b 0), .inr (10, [.ref (b 1), .ref (b 2), .ref (b 3), .ref (b 4), .ref (b 5), .ref (b 6), .ref (b 7), .ref (b 8), .ref (b 9), .ref (b 10), .ref (b 11), .ref (b 12), .int 0, .int 0, .int (nI mo), .ref (b 13), .ref (b 14), .ref (b 16)])), (q1, .inl (g.2.1 0, 5, .inl (upd (fun _ => 0) (0 : Int32).toNatClampNeg 118)))]) S hK E 3 0 rfl rfl (show vp_in 0 5 by unfold vp_in; decide) rfl dX9_act_6 (fun H locs E => ?_)
  refine lv_dup hx hb dX9_act_7 rfl ?_
  refine lv_iconst (v := 1) hx hb dX9_act_8 (by decide) ?_
  refine lv_iload_n hx hb dX9_act_9 rfl (lv_at hl 2 rfl) ?_
  refine w_ist (w' := [(m0, .inr (9, [.int t, .ref (b 0), .ref (b 17)])), ((b 17), .inr (8, [.int 0, .ref (g.2.2 0), .int 0])), ((b 0), .inr (10, [.ref (b 1), .ref (b 2), .ref (b 3), .ref (b 4), .ref (b 5), .ref (b 6), .ref (b 7), .ref (b 8), .ref (b 9), .ref (b 10), .ref (b 11), .ref (b 12), .int 0, .int 0, .int (nI mo), .ref (b 13), .ref (b 14), .ref (b 16)])), (q1, .inl (g.2.1 0, 5, .inl (upd (upd (fun _ => 0) (0 : Int32).toNatClampNeg 118) (1 : Int32).toNatClampNeg p0)))]) S hK E 3 0 rfl rfl (show vp_in 1 5 by unfold vp_in; decide) rfl dX9_act_10 (fun H locs E => ?_)
  refine lv_dup hx hb dX9_act_11 rfl ?_
  refine lv_iconst (v := 2) hx hb dX9_act_12 (by decide) ?_
  refine lv_iload_n hx hb dX9_act_13 rfl (lv_at hl 3 rfl) ?_
  refine w_ist (w' := [(m0, .inr (9, [.int t, .ref (b 0), .ref (b 17)])), ((b 17), .inr (8, [.int 0, .ref (g.2.2 0), .int 0])), ((b 0), .inr (10, [.ref (b 1), .ref (b 2), .ref (b 3), .ref (b 4), .ref (b 5), .ref (b 6), .ref (b 7), .ref (b 8), .ref (b 9), .ref (b 10), .ref (b 11), .ref (b 12), .int 0, .int 0, .int (nI mo), .ref (b 13), .ref (b 14), .ref (b 16)])), (q1, .inl (g.2.1 0, 5, .inl (upd (upd (upd (fun _ => 0) (0 : Int32).toNatClampNeg 118) (1 : Int32).toNatClampNeg p0) (2 : Int32).toNatClampNeg 0)))]) S hK E 3 0 rfl rfl (show vp_in 2 5 by unfold vp_in; decide) rfl dX9_act_14 (fun H locs E => ?_)
  refine lv_dup hx hb dX9_act_15 rfl ?_
  refine lv_iconst (v := 3) hx hb dX9_act_16 (by decide) ?_
  refine lv_iload hx hb dX9_act_17 (lv_at hl 4 rfl) ?_
  refine w_ist (w' := [(m0, .inr (9, [.int t, .ref (b 0), .ref (b 17)])), ((b 17), .inr (8, [.int 0, .ref (g.2.2 0), .int 0])), ((b 0), .inr (10, [.ref (b 1), .ref (b 2), .ref (b 3), .ref (b 4), .ref (b 5), .ref (b 6), .ref (b 7), .ref (b 8), .ref (b 9), .ref (b 10), .ref (b 11), .ref (b 12), .int 0, .int 0, .int (nI mo), .ref (b 13), .ref (b 14), .ref (b 16)])), (q1, .inl (g.2.1 0, 5, .inl (upd (upd (upd (upd (fun _ => 0) (0 : Int32).toNatClampNeg 118) (1 : Int32).toNatClampNeg p0) (2 : Int32).toNatClampNeg 0) (3 : Int32).toNatClampNeg 0)))]) S hK E 3 0 rfl rfl (show vp_in 3 5 by unfold vp_in; decide) rfl dX9_act_19 (fun H locs E => ?_)
  refine lv_dup hx hb dX9_act_20 rfl ?_
  refine lv_iconst (v := 4) hx hb dX9_act_21 (by decide) ?_
  refine lv_iload hx hb dX9_act_22 (lv_at hl 5 rfl) ?_
  refine w_ist (w' := [(m0, .inr (9, [.int t, .ref (b 0), .ref (b 17)])), ((b 17), .inr (8, [.int 0, .ref (g.2.2 0), .int 0])), ((b 0), .inr (10, [.ref (b 1), .ref (b 2), .ref (b 3), .ref (b 4), .ref (b 5), .ref (b 6), .ref (b 7), .ref (b 8), .ref (b 9), .ref (b 10), .ref (b 11), .ref (b 12), .int 0, .int 0, .int (nI mo), .ref (b 13), .ref (b 14), .ref (b 16)])), (q1, .inl (g.2.1 0, 5, .inl (upd (upd (upd (upd (upd (fun _ => 0) (0 : Int32).toNatClampNeg 118) (1 : Int32).toNatClampNeg p0) (2 : Int32).toNatClampNeg 0) (3 : Int32).toNatClampNeg 0) (4 : Int32).toNatClampNeg 0)))]) S hK E 3 0 rfl rfl (show vp_in 4 5 by unfold vp_in; decide) rfl dX9_act_24 (fun H locs E => ?_)
  refine lv_astore (lv' := [(6, .ref q1), (0, .ref m0), (1, .int 118), (2, .int p0), (3, .int 0), (4, .int 0), (5, .int 0)]) hx hb dX9_act_25 hl (by decide) rfl (fun ls hl => ?_)
  refine lv_aload_n hx hb dX9_act_27 rfl (lv_at hl 1 rfl) ?_
  refine wg_X9_19 (v := .ref (b 17)) S hK E 0 rfl rfl dX9_act_28 ?_
  refine lv_aload hx hb dX9_act_31 (lv_at hl 0 rfl) ?_
  refine w_reti (runV_X (As := [.ref q1]) (rest := []) (q0 := 0) (n := 1) S hml hK (hZ.at E) (Cut.of (wc := [((b 17), .inr (8, [.int 0, .ref (g.2.2 0), .int 0])), (q1, .inl (g.2.1 0, 5, .inl (upd (upd (upd (upd (upd (fun _ => 0) (0 : Int32).toNatClampNeg 118) (1 : Int32).toNatClampNeg p0) (2 : Int32).toNatClampNeg 0) (3 : Int32).toNatClampNeg 0) (4 : Int32).toNatClampNeg 0)))]) (wr := [(m0, .inr (9, [.int t, .ref (b 0), .ref (b 17)])), ((b 0), .inr (10, [.ref (b 1), .ref (b 2), .ref (b 3), .ref (b 4), .ref (b 5), .ref (b 6), .ref (b 7), .ref (b 8), .ref (b 9), .ref (b 10), .ref (b 11), .ref (b 12), .int 0, .int 0, .int (nI mo), .ref (b 13), .ref (b 14), .ref (b 16)]))]) E hA [1, 3] [0, 2] rfl rfl rfl rfl (by decide)) (c_ad1 l g (b 17) q1 (.inl (g.2.1 0, 5, .inl (upd (upd (upd (upd (upd (fun _ => 0) (0 : Int32).toNatClampNeg 118) (1 : Int32).toNatClampNeg p0) (2 : Int32).toNatClampNeg 0) (3 : Int32).toNatClampNeg 0) (4 : Int32).toNatClampNeg 0))) any_arr _ _) (gi_wsV ml_X9_27 im_Jx4a65c_add_9ea2d sl_Jx4a65c_add_9ea2d in_Jx4a65c co_Jx4a65c_add_9ea2d) ⟨rfl, by decide +kernel, by decide +kernel, by decide +kernel⟩ ⟨Nat.le_of_ble_eq_true rfl, Nat.le_of_ble_eq_true rfl⟩ rfl rfl rfl hl.1 rfl (Nat.le_of_ble_eq_true rfl) dX9_act_33 ⟨Nat.le_of_ble_eq_true rfl, Nat.le_of_ble_eq_true rfl⟩) (Cut.of (wc := [((b 17), .inr (8, [.int 0, .ref (g.2.2 0), .int 0])), (q1, .inl (g.2.1 0, 5, .inl (upd (upd (upd (upd (upd (fun _ => 0) (0 : Int32).toNatClampNeg 118) (1 : Int32).toNatClampNeg p0) (2 : Int32).toNatClampNeg 0) (3 : Int32).toNatClampNeg 0) (4 : Int32).toNatClampNeg 0)))]) (wr := [(m0, .inr (9, [.int t, .ref (b 0), .ref (b 17)])), ((b 0), .inr (10, [.ref (b 1), .ref (b 2), .ref (b 3), .ref (b 4), .ref (b 5), .ref (b 6), .ref (b 7), .ref (b 8), .ref (b 9), .ref (b 10), .ref (b 11), .ref (b 12), .int 0, .int 0, .int (nI mo), .ref (b 13), .ref (b 14), .ref (b 16)]))]) E hA [1, 3] [0, 2] rfl rfl rfl rfl (by decide)) E (fun r2 u2 H locs hp E => ?_)
  have E : Ev g _ s.heap H locs [(m0, .inr (9, [.int t, .ref (b 0), .ref (b 17)])), ((b 0), .inr (10, [.ref (b 1), .ref (b 2), .ref (b 3), .ref (b 4), .ref (b 5), .ref (b 6), .ref (b 7), .ref (b 8), .ref (b 9), .ref (b 10), .ref (b 11), .ref (b 12), .int 0, .int 0, .int (nI mo), .ref (b 13), .ref (b 14), .ref (b 16)])), ((b 17), .inr (8, [.int 1, .ref u2, .int 1])), (q1, .inl (g.2.1 0, 5, .inl (upd (upd (upd (upd (upd (fun _ => 0) (0 : Int32).toNatClampNeg 118) (1 : Int32).toNatClampNeg p0) (2 : Int32).toNatClampNeg 0) (3 : Int32).toNatClampNeg 0) (4 : Int32).toNatClampNeg 0))), (u2, .inl (g.2.1 4, 10, .inr (.inr (.inr (.inr (va_up (fun _ => none) (0 : Int32).toNatClampNeg (some q1)))))))] := E
  subst hp
  refine lv_istore (lv' := [(7, .int 1), (6, .ref q1), (0, .ref m0), (1, .int 118), (2, .int p0), (3, .int 0), (4, .int 0), (5, .int 0)]) hx hb dX9_act_36 hl (by decide) rfl (fun ls hl => ?_)
  refine lv_aload_n hx hb dX9_act_38 rfl (lv_at hl 2 rfl) ?_
  refine wg_X9_10 (v := .ref (b 0)) S hK E 0 rfl rfl dX9_act_39 ?_
  refine lv_aload hx hb dX9_act_42 (lv_at hl 1 rfl) ?_
  refine w_retv (runV_X (As := [.ref q1]) (rest := []) (q0 := 0) (n := 1) S hml hK (hZ.at E) (Cut.of (wc := [((b 0), .inr (10, [.ref (b 1), .ref (b 2), .ref (b 3), .ref (b 4), .ref (b 5), .ref (b 6), .ref (b 7), .ref (b 8), .ref (b 9), .ref (b 10), .ref (b 11), .ref (b 12), .int 0, .int 0, .int (nI mo), .ref (b 13), .ref (b 14), .ref (b 16)])), (q1, .inl (g.2.1 0, 5, .inl (upd (upd (upd (upd (upd (fun _ => 0) (0 : Int32).toNatClampNeg 118) (1 : Int32).toNatClampNeg p0) (2 : Int32).toNatClampNeg 0) (3 : Int32).toNatClampNeg 0) (4 : Int32).toNatClampNeg 0)))]) (wr := [(m0, .inr (9, [.int t, .ref (b 0), .ref (b 17)])), ((b 17), .inr (8, [.int 1, .ref u2, .int 1])), (u2, .inl (g.2.1 4, 10, .inr (.inr (.inr (.inr (va_up (fun _ => none) (0 : Int32).toNatClampNeg (some q1)))))))]) E hA [1, 3] [0, 2, 4] rfl rfl rfl rfl (by decide)) (c_do118 l g b q1 (upd (upd (upd (upd (upd (fun _ => 0) (0 : Int32).toNatClampNeg 118) (1 : Int32).toNatClampNeg p0) (2 : Int32).toNatClampNeg 0) (3 : Int32).toNatClampNeg 0) (4 : Int32).toNatClampNeg 0) mo p0 rfl rfl rfl rfl rfl _ _) (gi_wsV ml_X9_31 im_X7_does sl_X7_does in_X7 co_X7_does) ⟨rfl, by decide +kernel, by decide +kernel, by decide +kernel⟩ ⟨Nat.le_of_ble_eq_true rfl, Nat.le_of_ble_eq_true rfl⟩ rfl rfl rfl hl.1 rfl (Nat.le_of_ble_eq_true rfl) dX9_act_44 ⟨Nat.le_of_ble_eq_true rfl, Nat.le_of_ble_eq_true rfl⟩) (Cut.of (wc := [((b 0), .inr (10, [.ref (b 1), .ref (b 2), .ref (b 3), .ref (b 4), .ref (b 5), .ref (b 6), .ref (b 7), .ref (b 8), .ref (b 9), .ref (b 10), .ref (b 11), .ref (b 12), .int 0, .int 0, .int (nI mo), .ref (b 13), .ref (b 14), .ref (b 16)])), (q1, .inl (g.2.1 0, 5, .inl (upd (upd (upd (upd (upd (fun _ => 0) (0 : Int32).toNatClampNeg 118) (1 : Int32).toNatClampNeg p0) (2 : Int32).toNatClampNeg 0) (3 : Int32).toNatClampNeg 0) (4 : Int32).toNatClampNeg 0)))]) (wr := [(m0, .inr (9, [.int t, .ref (b 0), .ref (b 17)])), ((b 17), .inr (8, [.int 1, .ref u2, .int 1])), (u2, .inl (g.2.1 4, 10, .inr (.inr (.inr (.inr (va_up (fun _ => none) (0 : Int32).toNatClampNeg (some q1)))))))]) E hA [1, 3] [0, 2, 4] rfl rfl rfl rfl (by decide)) E (fun u3 H locs hp E => ?_)
  have E : Ev g _ s.heap H locs [(m0, .inr (9, [.int t, .ref (b 0), .ref (b 17)])), ((b 17), .inr (8, [.int 1, .ref u2, .int 1])), (u2, .inl (g.2.1 4, 10, .inr (.inr (.inr (.inr (va_up (fun _ => none) (0 : Int32).toNatClampNeg (some q1)))))))] := E
  have E : Ev g _ s.heap H locs [(m0, .inr (9, [.int t, .ref (b 0), .ref (b 17)]))] := Ev.sub E [0] rfl rfl
  exact x_vret () S hr hlk hsz htt hK E dX9_act_47 trivial rfl ⟨Nat.le_of_ble_eq_true rfl, Nat.le_of_ble_eq_true rfl⟩ ⟨Nat.le_of_ble_eq_true rfl, Nat.le_of_ble_eq_true rfl⟩

set_option maxHeartbeats 4000000 in
set_option maxRecDepth 100000 in
/-- act, s -/
theorem c_ac115 (l : Launch) (g : Gm) (m0 : Nat) (b : Nat → Nat) (t : Int32) (mo : Nat) (p0 : Int32) : MXv (S := Unit) l g yX9_act cX9_act 8 ({ frames := 5, cells := 2, slots := 15, locals := 101 } : Room) [.ref m0, .int 115, .int p0, .int 0, .int 0, .int 0] [(m0, .inr (9, [.int t, .ref (b 0), .ref (b 17)])), ((b 17), .inr (8, [.int 0, .ref (g.2.2 0), .int 0])), ((b 0), .inr (10, [.ref (b 1), .ref (b 2), .ref (b 3), .ref (b 4), .ref (b 5), .ref (b 6), .ref (b 7), .ref (b 8), .ref (b 9), .ref (b 10), .ref (b 11), .ref (b 12), .int 0, .int 0, .int (nI mo), .ref (b 13), .ref (b 14), .ref (b 16)]))] (fun _ => True) (fun _ => [(m0, .inr (9, [.int t, .ref (b 0), .ref (b 17)]))]) (fun _ => (2, 15)) := by
  intro sz tt
  refine ofX RX9 rfl (by decide +kernel) (Nat.le_of_ble_eq_true rfl) (fun p e s m args below meth c hargs S hml hr hlk hnm hsz htt hK hA hZ E ls hl => ?_)
  have hx := S.1
  have hb := S.2.1
  have hl : lv_has ls 8 [(0, .ref m0), (1, .int 115), (2, .int p0), (3, .int 0), (4, .int 0), (5, .int 0)] := hl
  refine lv_iconst (v := 5) hx hb dX9_act_0 (by decide) ?_
  refine w_newa (atype := .int) (ty := .int) (a0 := (5, .inl (fun _ => 0))) (N' := 5) 0 S hK E hA ac_int rfl rfl (fun C h => by cases h) (fun cA => by first | rfl | (rw [vp_cell_i]; rfl)) (by decide) (by decide) (by decide) (Nat.le_of_ble_eq_true rfl) (Nat.le_of_ble_eq_true rfl) dX9_act_1 (fun q1 H E => ?_)
  have E : Ev g _ s.heap H _ [(m0, .inr (9, [.int t, .ref (b 0), .ref (b 17)])), ((b 17), .inr (8, [.int 0, .ref (g.2.2 0), .int 0])), ((b 0), .inr (10, [.ref (b 1), .ref (b 2), .ref (b 3), .ref (b 4), .ref (b 5), .ref (b 6), .ref (b 7), .ref (b 8), .ref (b 9), .ref (b 10), .ref (b 11), .ref (b 12), .int 0, .int 0, .int (nI mo), .ref (b 13), .ref (b 14), .ref (b 16)])), (q1, .inl (g.2.1 0, 5, .inl (fun _ => 0)))] := E
  refine lv_dup hx hb dX9_act_3 rfl ?_
  refine lv_iconst (v := 0) hx hb dX9_act_4 (by decide) ?_
  refine lv_iload_n hx hb dX9_act_5 rfl (lv_at hl 1 rfl) ?_
  refine w_ist (w' := [(m0, .inr (9, [.int t, .ref (b 0), .ref (b 17)])), ((b 17), .inr (8, [.int 0, .ref (g.2.2 0), .int 0])), ((b 0), .inr (10, [.ref (b 1), .ref (b 2), .ref (b 3), .ref (b 4), .ref (b 5), .ref (b 6), .ref (b 7), .ref (b 8), .ref (b 9), .ref (b 10), .ref (b 11), .ref (b 12), .int 0, .int 0, .int (nI mo), .ref (b 13), .ref (b 14), .ref (b 16)])), (q1, .inl (g.2.1 0, 5, .inl (upd (fun _ => 0) (0 : Int32).toNatClampNeg 115)))]) S hK E 3 0 rfl rfl (show vp_in 0 5 by unfold vp_in; decide) rfl dX9_act_6 (fun H locs E => ?_)
  refine lv_dup hx hb dX9_act_7 rfl ?_
  refine lv_iconst (v := 1) hx hb dX9_act_8 (by decide) ?_
  refine lv_iload_n hx hb dX9_act_9 rfl (lv_at hl 2 rfl) ?_
  refine w_ist (w' := [(m0, .inr (9, [.int t, .ref (b 0), .ref (b 17)])), ((b 17), .inr (8, [.int 0, .ref (g.2.2 0), .int 0])), ((b 0), .inr (10, [.ref (b 1), .ref (b 2), .ref (b 3), .ref (b 4), .ref (b 5), .ref (b 6), .ref (b 7), .ref (b 8), .ref (b 9), .ref (b 10), .ref (b 11), .ref (b 12), .int 0, .int 0, .int (nI mo), .ref (b 13), .ref (b 14), .ref (b 16)])), (q1, .inl (g.2.1 0, 5, .inl (upd (upd (fun _ => 0) (0 : Int32).toNatClampNeg 115) (1 : Int32).toNatClampNeg p0)))]) S hK E 3 0 rfl rfl (show vp_in 1 5 by unfold vp_in; decide) rfl dX9_act_10 (fun H locs E => ?_)
  refine lv_dup hx hb dX9_act_11 rfl ?_
  refine lv_iconst (v := 2) hx hb dX9_act_12 (by decide) ?_
  refine lv_iload_n hx hb dX9_act_13 rfl (lv_at hl 3 rfl) ?_
  refine w_ist (w' := [(m0, .inr (9, [.int t, .ref (b 0), .ref (b 17)])), ((b 17), .inr (8, [.int 0, .ref (g.2.2 0), .int 0])), ((b 0), .inr (10, [.ref (b 1), .ref (b 2), .ref (b 3), .ref (b 4), .ref (b 5), .ref (b 6), .ref (b 7), .ref (b 8), .ref (b 9), .ref (b 10), .ref (b 11), .ref (b 12), .int 0, .int 0, .int (nI mo), .ref (b 13), .ref (b 14), .ref (b 16)])), (q1, .inl (g.2.1 0, 5, .inl (upd (upd (upd (fun _ => 0) (0 : Int32).toNatClampNeg 115) (1 : Int32).toNatClampNeg p0) (2 : Int32).toNatClampNeg 0)))]) S hK E 3 0 rfl rfl (show vp_in 2 5 by unfold vp_in; decide) rfl dX9_act_14 (fun H locs E => ?_)
  refine lv_dup hx hb dX9_act_15 rfl ?_
  refine lv_iconst (v := 3) hx hb dX9_act_16 (by decide) ?_
  refine lv_iload hx hb dX9_act_17 (lv_at hl 4 rfl) ?_
  refine w_ist (w' := [(m0, .inr (9, [.int t, .ref (b 0), .ref (b 17)])), ((b 17), .inr (8, [.int 0, .ref (g.2.2 0), .int 0])), ((b 0), .inr (10, [.ref (b 1), .ref (b 2), .ref (b 3), .ref (b 4), .ref (b 5), .ref (b 6), .ref (b 7), .ref (b 8), .ref (b 9), .ref (b 10), .ref (b 11), .ref (b 12), .int 0, .int 0, .int (nI mo), .ref (b 13), .ref (b 14), .ref (b 16)])), (q1, .inl (g.2.1 0, 5, .inl (upd (upd (upd (upd (fun _ => 0) (0 : Int32).toNatClampNeg 115) (1 : Int32).toNatClampNeg p0) (2 : Int32).toNatClampNeg 0) (3 : Int32).toNatClampNeg 0)))]) S hK E 3 0 rfl rfl (show vp_in 3 5 by unfold vp_in; decide) rfl dX9_act_19 (fun H locs E => ?_)
  refine lv_dup hx hb dX9_act_20 rfl ?_
  refine lv_iconst (v := 4) hx hb dX9_act_21 (by decide) ?_
  refine lv_iload hx hb dX9_act_22 (lv_at hl 5 rfl) ?_
  refine w_ist (w' := [(m0, .inr (9, [.int t, .ref (b 0), .ref (b 17)])), ((b 17), .inr (8, [.int 0, .ref (g.2.2 0), .int 0])), ((b 0), .inr (10, [.ref (b 1), .ref (b 2), .ref (b 3), .ref (b 4), .ref (b 5), .ref (b 6), .ref (b 7), .ref (b 8), .ref (b 9), .ref (b 10), .ref (b 11), .ref (b 12), .int 0, .int 0, .int (nI mo), .ref (b 13), .ref (b 14), .ref (b 16)])), (q1, .inl (g.2.1 0, 5, .inl (upd (upd (upd (upd (upd (fun _ => 0) (0 : Int32).toNatClampNeg 115) (1 : Int32).toNatClampNeg p0) (2 : Int32).toNatClampNeg 0) (3 : Int32).toNatClampNeg 0) (4 : Int32).toNatClampNeg 0)))]) S hK E 3 0 rfl rfl (show vp_in 4 5 by unfold vp_in; decide) rfl dX9_act_24 (fun H locs E => ?_)
  refine lv_astore (lv' := [(6, .ref q1), (0, .ref m0), (1, .int 115), (2, .int p0), (3, .int 0), (4, .int 0), (5, .int 0)]) hx hb dX9_act_25 hl (by decide) rfl (fun ls hl => ?_)
  refine lv_aload_n hx hb dX9_act_27 rfl (lv_at hl 1 rfl) ?_
  refine wg_X9_19 (v := .ref (b 17)) S hK E 0 rfl rfl dX9_act_28 ?_
  refine lv_aload hx hb dX9_act_31 (lv_at hl 0 rfl) ?_
  refine w_reti (runV_X (As := [.ref q1]) (rest := []) (q0 := 0) (n := 1) S hml hK (hZ.at E) (Cut.of (wc := [((b 17), .inr (8, [.int 0, .ref (g.2.2 0), .int 0])), (q1, .inl (g.2.1 0, 5, .inl (upd (upd (upd (upd (upd (fun _ => 0) (0 : Int32).toNatClampNeg 115) (1 : Int32).toNatClampNeg p0) (2 : Int32).toNatClampNeg 0) (3 : Int32).toNatClampNeg 0) (4 : Int32).toNatClampNeg 0)))]) (wr := [(m0, .inr (9, [.int t, .ref (b 0), .ref (b 17)])), ((b 0), .inr (10, [.ref (b 1), .ref (b 2), .ref (b 3), .ref (b 4), .ref (b 5), .ref (b 6), .ref (b 7), .ref (b 8), .ref (b 9), .ref (b 10), .ref (b 11), .ref (b 12), .int 0, .int 0, .int (nI mo), .ref (b 13), .ref (b 14), .ref (b 16)]))]) E hA [1, 3] [0, 2] rfl rfl rfl rfl (by decide)) (c_ad1 l g (b 17) q1 (.inl (g.2.1 0, 5, .inl (upd (upd (upd (upd (upd (fun _ => 0) (0 : Int32).toNatClampNeg 115) (1 : Int32).toNatClampNeg p0) (2 : Int32).toNatClampNeg 0) (3 : Int32).toNatClampNeg 0) (4 : Int32).toNatClampNeg 0))) any_arr _ _) (gi_wsV ml_X9_27 im_Jx4a65c_add_9ea2d sl_Jx4a65c_add_9ea2d in_Jx4a65c co_Jx4a65c_add_9ea2d) ⟨rfl, by decide +kernel, by decide +kernel, by decide +kernel⟩ ⟨Nat.le_of_ble_eq_true rfl, Nat.le_of_ble_eq_true rfl⟩ rfl rfl rfl hl.1 rfl (Nat.le_of_ble_eq_true rfl) dX9_act_33 ⟨Nat.le_of_ble_eq_true rfl, Nat.le_of_ble_eq_true rfl⟩) (Cut.of (wc := [((b 17), .inr (8, [.int 0, .ref (g.2.2 0), .int 0])), (q1, .inl (g.2.1 0, 5, .inl (upd (upd (upd (upd (upd (fun _ => 0) (0 : Int32).toNatClampNeg 115) (1 : Int32).toNatClampNeg p0) (2 : Int32).toNatClampNeg 0) (3 : Int32).toNatClampNeg 0) (4 : Int32).toNatClampNeg 0)))]) (wr := [(m0, .inr (9, [.int t, .ref (b 0), .ref (b 17)])), ((b 0), .inr (10, [.ref (b 1), .ref (b 2), .ref (b 3), .ref (b 4), .ref (b 5), .ref (b 6), .ref (b 7), .ref (b 8), .ref (b 9), .ref (b 10), .ref (b 11), .ref (b 12), .int 0, .int 0, .int (nI mo), .ref (b 13), .ref (b 14), .ref (b 16)]))]) E hA [1, 3] [0, 2] rfl rfl rfl rfl (by decide)) E (fun r2 u2 H locs hp E => ?_)
  have E : Ev g _ s.heap H locs [(m0, .inr (9, [.int t, .ref (b 0), .ref (b 17)])), ((b 0), .inr (10, [.ref (b 1), .ref (b 2), .ref (b 3), .ref (b 4), .ref (b 5), .ref (b 6), .ref (b 7), .ref (b 8), .ref (b 9), .ref (b 10), .ref (b 11), .ref (b 12), .int 0, .int 0, .int (nI mo), .ref (b 13), .ref (b 14), .ref (b 16)])), ((b 17), .inr (8, [.int 1, .ref u2, .int 1])), (q1, .inl (g.2.1 0, 5, .inl (upd (upd (upd (upd (upd (fun _ => 0) (0 : Int32).toNatClampNeg 115) (1 : Int32).toNatClampNeg p0) (2 : Int32).toNatClampNeg 0) (3 : Int32).toNatClampNeg 0) (4 : Int32).toNatClampNeg 0))), (u2, .inl (g.2.1 4, 10, .inr (.inr (.inr (.inr (va_up (fun _ => none) (0 : Int32).toNatClampNeg (some q1)))))))] := E
  subst hp
  refine lv_istore (lv' := [(7, .int 1), (6, .ref q1), (0, .ref m0), (1, .int 115), (2, .int p0), (3, .int 0), (4, .int 0), (5, .int 0)]) hx hb dX9_act_36 hl (by decide) rfl (fun ls hl => ?_)
  refine lv_aload_n hx hb dX9_act_38 rfl (lv_at hl 2 rfl) ?_
  refine wg_X9_10 (v := .ref (b 0)) S hK E 0 rfl rfl dX9_act_39 ?_
  refine lv_aload hx hb dX9_act_42 (lv_at hl 1 rfl) ?_
  refine w_retv (runV_X (As := [.ref q1]) (rest := []) (q0 := 0) (n := 1) S hml hK (hZ.at E) (Cut.of (wc := [((b 0), .inr (10, [.ref (b 1), .ref (b 2), .ref (b 3), .ref (b 4), .ref (b 5), .ref (b 6), .ref (b 7), .ref (b 8), .ref (b 9), .ref (b 10), .ref (b 11), .ref (b 12), .int 0, .int 0, .int (nI mo), .ref (b 13), .ref (b 14), .ref (b 16)])), (q1, .inl (g.2.1 0, 5, .inl (upd (upd (upd (upd (upd (fun _ => 0) (0 : Int32).toNatClampNeg 115) (1 : Int32).toNatClampNeg p0) (2 : Int32).toNatClampNeg 0) (3 : Int32).toNatClampNeg 0) (4 : Int32).toNatClampNeg 0)))]) (wr := [(m0, .inr (9, [.int t, .ref (b 0), .ref (b 17)])), ((b 17), .inr (8, [.int 1, .ref u2, .int 1])), (u2, .inl (g.2.1 4, 10, .inr (.inr (.inr (.inr (va_up (fun _ => none) (0 : Int32).toNatClampNeg (some q1)))))))]) E hA [1, 3] [0, 2, 4] rfl rfl rfl rfl (by decide)) (c_do115 l g b q1 (upd (upd (upd (upd (upd (fun _ => 0) (0 : Int32).toNatClampNeg 115) (1 : Int32).toNatClampNeg p0) (2 : Int32).toNatClampNeg 0) (3 : Int32).toNatClampNeg 0) (4 : Int32).toNatClampNeg 0) mo p0 rfl rfl rfl rfl rfl _ _) (gi_wsV ml_X9_31 im_X7_does sl_X7_does in_X7 co_X7_does) ⟨rfl, by decide +kernel, by decide +kernel, by decide +kernel⟩ ⟨Nat.le_of_ble_eq_true rfl, Nat.le_of_ble_eq_true rfl⟩ rfl rfl rfl hl.1 rfl (Nat.le_of_ble_eq_true rfl) dX9_act_44 ⟨Nat.le_of_ble_eq_true rfl, Nat.le_of_ble_eq_true rfl⟩) (Cut.of (wc := [((b 0), .inr (10, [.ref (b 1), .ref (b 2), .ref (b 3), .ref (b 4), .ref (b 5), .ref (b 6), .ref (b 7), .ref (b 8), .ref (b 9), .ref (b 10), .ref (b 11), .ref (b 12), .int 0, .int 0, .int (nI mo), .ref (b 13), .ref (b 14), .ref (b 16)])), (q1, .inl (g.2.1 0, 5, .inl (upd (upd (upd (upd (upd (fun _ => 0) (0 : Int32).toNatClampNeg 115) (1 : Int32).toNatClampNeg p0) (2 : Int32).toNatClampNeg 0) (3 : Int32).toNatClampNeg 0) (4 : Int32).toNatClampNeg 0)))]) (wr := [(m0, .inr (9, [.int t, .ref (b 0), .ref (b 17)])), ((b 17), .inr (8, [.int 1, .ref u2, .int 1])), (u2, .inl (g.2.1 4, 10, .inr (.inr (.inr (.inr (va_up (fun _ => none) (0 : Int32).toNatClampNeg (some q1)))))))]) E hA [1, 3] [0, 2, 4] rfl rfl rfl rfl (by decide)) E (fun u3 H locs hp E => ?_)
  have E : Ev g _ s.heap H locs [(m0, .inr (9, [.int t, .ref (b 0), .ref (b 17)])), ((b 17), .inr (8, [.int 1, .ref u2, .int 1])), (u2, .inl (g.2.1 4, 10, .inr (.inr (.inr (.inr (va_up (fun _ => none) (0 : Int32).toNatClampNeg (some q1)))))))] := E
  have E : Ev g _ s.heap H locs [(m0, .inr (9, [.int t, .ref (b 0), .ref (b 17)]))] := Ev.sub E [0] rfl rfl
  exact x_vret () S hr hlk hsz htt hK E dX9_act_47 trivial rfl ⟨Nat.le_of_ble_eq_true rfl, Nat.le_of_ble_eq_true rfl⟩ ⟨Nat.le_of_ble_eq_true rfl, Nat.le_of_ble_eq_true rfl⟩

set_option maxHeartbeats 4000000 in
set_option maxRecDepth 100000 in
/-- act, w -/
theorem c_ac119 (l : Launch) (g : Gm) (m0 : Nat) (b : Nat → Nat) (t : Int32) (mo : Nat) (p0 : Int32) (p1 : Int32) (p2 : Int32) : MXv (S := Nat) l g yX9_act cX9_act 8 ({ frames := 6, cells := 4, slots := 34, locals := 126 } : Room) [.ref m0, .int 119, .int p0, .int p1, .int p2, .int 0] [(m0, .inr (9, [.int t, .ref (b 0), .ref (b 17)])), ((b 17), .inr (8, [.int 0, .ref (g.2.2 0), .int 0])), ((b 0), .inr (10, [.ref (b 1), .ref (b 2), .ref (b 3), .ref (b 4), .ref (b 5), .ref (b 6), .ref (b 7), .ref (b 8), .ref (b 9), .ref (b 10), .ref (b 11), .ref (b 12), .int 0, .int 0, .int (nI mo), .ref (b 13), .ref (b 14), .ref (b 16)])), ((b 13), .inr (8, [.int 0, .ref (g.2.2 0), .int 0]))] (fun _ => True) (fun u => [(m0, .inr (9, [.int t, .ref (b 0), .ref (b 17)])), ((b 0), .inr (10, [.ref (b 1), .ref (b 2), .ref (b 3), .ref (b 4), .ref (b 5), .ref (b 6), .ref (b 7), .ref (b 8), .ref (b 9), .ref (b 10), .ref (b 11), .ref (b 12), .int 0, .int 0, .int (nI mo), .ref (b 13), .ref (b 14), .ref (b 16)])), ((b 13), .inr (8, [.int 1, .ref u, .int 1]))]) (fun _ => (4, 34)) := by
  intro sz tt
  refine ofX RX9 rfl (by decide +kernel) (Nat.le_of_ble_eq_true rfl) (fun p e s m args below meth c hargs S hml hr hlk hnm hsz htt hK hA hZ E ls hl => ?_)
  have hx := S.1
  have hb := S.2.1
  have hl : lv_has ls 8 [(0, .ref m0), (1, .int 119), (2, .int p0), (3, .int p1), (4, .int p2), (5, .int 0)] := hl
  refine lv_iconst (v := 5) hx hb dX9_act_0 (by decide) ?_
  refine w_newa (atype := .int) (ty := .int) (a0 := (5, .inl (fun _ => 0))) (N' := 5) 0 S hK E hA ac_int rfl rfl (fun C h => by cases h) (fun cA => by first | rfl | (rw [vp_cell_i]; rfl)) (by decide) (by decide) (by decide) (Nat.le_of_ble_eq_true rfl) (Nat.le_of_ble_eq_true rfl) dX9_act_1 (fun q1 H E => ?_)
  have E : Ev g _ s.heap H _ [(m0, .inr (9, [.int t, .ref (b 0), .ref (b 17)])), ((b 17), .inr (8, [.int 0, .ref (g.2.2 0), .int 0])), ((b 0), .inr (10, [.ref (b 1), .ref (b 2), .ref (b 3), .ref (b 4), .ref (b 5), .ref (b 6), .ref (b 7), .ref (b 8), .ref (b 9), .ref (b 10), .ref (b 11), .ref (b 12), .int 0, .int 0, .int (nI mo), .ref (b 13), .ref (b 14), .ref (b 16)])), ((b 13), .inr (8, [.int 0, .ref (g.2.2 0), .int 0])), (q1, .inl (g.2.1 0, 5, .inl (fun _ => 0)))] := E
  refine lv_dup hx hb dX9_act_3 rfl ?_
  refine lv_iconst (v := 0) hx hb dX9_act_4 (by decide) ?_
  refine lv_iload_n hx hb dX9_act_5 rfl (lv_at hl 1 rfl) ?_
  refine w_ist (w' := [(m0, .inr (9, [.int t, .ref (b 0), .ref (b 17)])), ((b 17), .inr (8, [.int 0, .ref (g.2.2 0), .int 0])), ((b 0), .inr (10, [.ref (b 1), .ref (b 2), .ref (b 3), .ref (b 4), .ref (b 5), .ref (b 6), .ref (b 7), .ref (b 8), .ref (b 9), .ref (b 10), .ref (b 11), .ref (b 12), .int 0, .int 0, .int (nI mo), .ref (b 13), .ref (b 14), .ref (b 16)])), ((b 13), .inr (8, [.int 0, .ref (g.2.2 0), .int 0])), (q1, .inl (g.2.1 0, 5, .inl (upd (fun _ => 0) (0 : Int32).toNatClampNeg 119)))]) S hK E 4 0 rfl rfl (show vp_in 0 5 by unfold vp_in; decide) rfl dX9_act_6 (fun H locs E => ?_)
  refine lv_dup hx hb dX9_act_7 rfl ?_
  refine lv_iconst (v := 1) hx hb dX9_act_8 (by decide) ?_
  refine lv_iload_n hx hb dX9_act_9 rfl (lv_at hl 2 rfl) ?_
  refine w_ist (w' := [(m0, .inr (9, [.int t, .ref (b 0), .ref (b 17)])), ((b 17), .inr (8, [.int 0, .ref (g.2.2 0), .int 0])), ((b 0), .inr (10, [.ref (b 1), .ref (b 2), .ref (b 3), .ref (b 4), .ref (b 5), .ref (b 6), .ref (b 7), .ref (b 8), .ref (b 9), .ref (b 10), .ref (b 11), .ref (b 12), .int 0, .int 0, .int (nI mo), .ref (b 13), .ref (b 14), .ref (b 16)])), ((b 13), .inr (8, [.int 0, .ref (g.2.2 0), .int 0])), (q1, .inl (g.2.1 0, 5, .inl (upd (upd (fun _ => 0) (0 : Int32).toNatClampNeg 119) (1 : Int32).toNatClampNeg p0)))]) S hK E 4 0 rfl rfl (show vp_in 1 5 by unfold vp_in; decide) rfl dX9_act_10 (fun H locs E => ?_)
  refine lv_dup hx hb dX9_act_11 rfl ?_
  refine lv_iconst (v := 2) hx hb dX9_act_12 (by decide) ?_
  refine lv_iload_n hx hb dX9_act_13 rfl (lv_at hl 3 rfl) ?_
  refine w_ist (w' := [(m0, .inr (9, [.int t, .ref (b 0), .ref (b 17)])), ((b 17), .inr (8, [.int 0, .ref (g.2.2 0), .int 0])), ((b 0), .inr (10, [.ref (b 1), .ref (b 2), .ref (b 3), .ref (b 4), .ref (b 5), .ref (b 6), .ref (b 7), .ref (b 8), .ref (b 9), .ref (b 10), .ref (b 11), .ref (b 12), .int 0, .int 0, .int (nI mo), .ref (b 13), .ref (b 14), .ref (b 16)])), ((b 13), .inr (8, [.int 0, .ref (g.2.2 0), .int 0])), (q1, .inl (g.2.1 0, 5, .inl (upd (upd (upd (fun _ => 0) (0 : Int32).toNatClampNeg 119) (1 : Int32).toNatClampNeg p0) (2 : Int32).toNatClampNeg p1)))]) S hK E 4 0 rfl rfl (show vp_in 2 5 by unfold vp_in; decide) rfl dX9_act_14 (fun H locs E => ?_)
  refine lv_dup hx hb dX9_act_15 rfl ?_
  refine lv_iconst (v := 3) hx hb dX9_act_16 (by decide) ?_
  refine lv_iload hx hb dX9_act_17 (lv_at hl 4 rfl) ?_
  refine w_ist (w' := [(m0, .inr (9, [.int t, .ref (b 0), .ref (b 17)])), ((b 17), .inr (8, [.int 0, .ref (g.2.2 0), .int 0])), ((b 0), .inr (10, [.ref (b 1), .ref (b 2), .ref (b 3), .ref (b 4), .ref (b 5), .ref (b 6), .ref (b 7), .ref (b 8), .ref (b 9), .ref (b 10), .ref (b 11), .ref (b 12), .int 0, .int 0, .int (nI mo), .ref (b 13), .ref (b 14), .ref (b 16)])), ((b 13), .inr (8, [.int 0, .ref (g.2.2 0), .int 0])), (q1, .inl (g.2.1 0, 5, .inl (upd (upd (upd (upd (fun _ => 0) (0 : Int32).toNatClampNeg 119) (1 : Int32).toNatClampNeg p0) (2 : Int32).toNatClampNeg p1) (3 : Int32).toNatClampNeg p2)))]) S hK E 4 0 rfl rfl (show vp_in 3 5 by unfold vp_in; decide) rfl dX9_act_19 (fun H locs E => ?_)
  refine lv_dup hx hb dX9_act_20 rfl ?_
  refine lv_iconst (v := 4) hx hb dX9_act_21 (by decide) ?_
  refine lv_iload hx hb dX9_act_22 (lv_at hl 5 rfl) ?_
  refine w_ist (w' := [(m0, .inr (9, [.int t, .ref (b 0), .ref (b 17)])), ((b 17), .inr (8, [.int 0, .ref (g.2.2 0), .int 0])), ((b 0), .inr (10, [.ref (b 1), .ref (b 2), .ref (b 3), .ref (b 4), .ref (b 5), .ref (b 6), .ref (b 7), .ref (b 8), .ref (b 9), .ref (b 10), .ref (b 11), .ref (b 12), .int 0, .int 0, .int (nI mo), .ref (b 13), .ref (b 14), .ref (b 16)])), ((b 13), .inr (8, [.int 0, .ref (g.2.2 0), .int 0])), (q1, .inl (g.2.1 0, 5, .inl (upd (upd (upd (upd (upd (fun _ => 0) (0 : Int32).toNatClampNeg 119) (1 : Int32).toNatClampNeg p0) (2 : Int32).toNatClampNeg p1) (3 : Int32).toNatClampNeg p2) (4 : Int32).toNatClampNeg 0)))]) S hK E 4 0 rfl rfl (show vp_in 4 5 by unfold vp_in; decide) rfl dX9_act_24 (fun H locs E => ?_)
  refine lv_astore (lv' := [(6, .ref q1), (0, .ref m0), (1, .int 119), (2, .int p0), (3, .int p1), (4, .int p2), (5, .int 0)]) hx hb dX9_act_25 hl (by decide) rfl (fun ls hl => ?_)
  refine lv_aload_n hx hb dX9_act_27 rfl (lv_at hl 1 rfl) ?_
  refine wg_X9_19 (v := .ref (b 17)) S hK E 0 rfl rfl dX9_act_28 ?_
  refine lv_aload hx hb dX9_act_31 (lv_at hl 0 rfl) ?_
  refine w_reti (runV_X (As := [.ref q1]) (rest := []) (q0 := 0) (n := 1) S hml hK (hZ.at E) (Cut.of (wc := [((b 17), .inr (8, [.int 0, .ref (g.2.2 0), .int 0])), (q1, .inl (g.2.1 0, 5, .inl (upd (upd (upd (upd (upd (fun _ => 0) (0 : Int32).toNatClampNeg 119) (1 : Int32).toNatClampNeg p0) (2 : Int32).toNatClampNeg p1) (3 : Int32).toNatClampNeg p2) (4 : Int32).toNatClampNeg 0)))]) (wr := [(m0, .inr (9, [.int t, .ref (b 0), .ref (b 17)])), ((b 0), .inr (10, [.ref (b 1), .ref (b 2), .ref (b 3), .ref (b 4), .ref (b 5), .ref (b 6), .ref (b 7), .ref (b 8), .ref (b 9), .ref (b 10), .ref (b 11), .ref (b 12), .int 0, .int 0, .int (nI mo), .ref (b 13), .ref (b 14), .ref (b 16)])), ((b 13), .inr (8, [.int 0, .ref (g.2.2 0), .int 0]))]) E hA [1, 4] [0, 2, 3] rfl rfl rfl rfl (by decide)) (c_ad1 l g (b 17) q1 (.inl (g.2.1 0, 5, .inl (upd (upd (upd (upd (upd (fun _ => 0) (0 : Int32).toNatClampNeg 119) (1 : Int32).toNatClampNeg p0) (2 : Int32).toNatClampNeg p1) (3 : Int32).toNatClampNeg p2) (4 : Int32).toNatClampNeg 0))) any_arr _ _) (gi_wsV ml_X9_27 im_Jx4a65c_add_9ea2d sl_Jx4a65c_add_9ea2d in_Jx4a65c co_Jx4a65c_add_9ea2d) ⟨rfl, by decide +kernel, by decide +kernel, by decide +kernel⟩ ⟨Nat.le_of_ble_eq_true rfl, Nat.le_of_ble_eq_true rfl⟩ rfl rfl rfl hl.1 rfl (Nat.le_of_ble_eq_true rfl) dX9_act_33 ⟨Nat.le_of_ble_eq_true rfl, Nat.le_of_ble_eq_true rfl⟩) (Cut.of (wc := [((b 17), .inr (8, [.int 0, .ref (g.2.2 0), .int 0])), (q1, .inl (g.2.1 0, 5, .inl (upd (upd (upd (upd (upd (fun _ => 0) (0 : Int32).toNatClampNeg 119) (1 : Int32).toNatClampNeg p0) (2 : Int32).toNatClampNeg p1) (3 : Int32).toNatClampNeg p2) (4 : Int32).toNatClampNeg 0)))]) (wr := [(m0, .inr (9, [.int t, .ref (b 0), .ref (b 17)])), ((b 0), .inr (10, [.ref (b 1), .ref (b 2), .ref (b 3), .ref (b 4), .ref (b 5), .ref (b 6), .ref (b 7), .ref (b 8), .ref (b 9), .ref (b 10), .ref (b 11), .ref (b 12), .int 0, .int 0, .int (nI mo), .ref (b 13), .ref (b 14), .ref (b 16)])), ((b 13), .inr (8, [.int 0, .ref (g.2.2 0), .int 0]))]) E hA [1, 4] [0, 2, 3] rfl rfl rfl rfl (by decide)) E (fun r2 u2 H locs hp E => ?_)
  have E : Ev g _ s.heap H locs [(m0, .inr (9, [.int t, .ref (b 0), .ref (b 17)])), ((b 0), .inr (10, [.ref (b 1), .ref (b 2), .ref (b 3), .ref (b 4), .ref (b 5), .ref (b 6), .ref (b 7), .ref (b 8), .ref (b 9), .ref (b 10), .ref (b 11), .ref (b 12), .int 0, .int 0, .int (nI mo), .ref (b 13), .ref (b 14), .ref (b 16)])), ((b 13), .inr (8, [.int 0, .ref (g.2.2 0), .int 0])), ((b 17), .inr (8, [.int 1, .ref u2, .int 1])), (q1, .inl (g.2.1 0, 5, .inl (upd (upd (upd (upd (upd (fun _ => 0) (0 : Int32).toNatClampNeg 119) (1 : Int32).toNatClampNeg p0) (2 : Int32).toNatClampNeg p1) (3 : Int32).toNatClampNeg p2) (4 : Int32).toNatClampNeg 0))), (u2, .inl (g.2.1 4, 10, .inr (.inr (.inr (.inr (va_up (fun _ => none) (0 : Int32).toNatClampNeg (some q1)))))))] := E
  subst hp
  refine lv_istore (lv' := [(7, .int 1), (6, .ref q1), (0, .ref m0), (1, .int 119), (2, .int p0), (3, .int p1), (4, .int p2), (5, .int 0)]) hx hb dX9_act_36 hl (by decide) rfl (fun ls hl => ?_)
  refine lv_aload_n hx hb dX9_act_38 rfl (lv_at hl 2 rfl) ?_
  refine wg_X9_10 (v := .ref (b 0)) S hK E 0 rfl rfl dX9_act_39 ?_
  refine lv_aload hx hb dX9_act_42 (lv_at hl 1 rfl) ?_
  refine w_retv (runV_X (As := [.ref q1]) (rest := []) (q0 := 0) (n := 1) S hml hK (hZ.at E) (Cut.of (wc := [((b 0), .inr (10, [.ref (b 1), .ref (b 2), .ref (b 3), .ref (b 4), .ref (b 5), .ref (b 6), .ref (b 7), .ref (b 8), .ref (b 9), .ref (b 10), .ref (b 11), .ref (b 12), .int 0, .int 0, .int (nI mo), .ref (b 13), .ref (b 14), .ref (b 16)])), (q1, .inl (g.2.1 0, 5, .inl (upd (upd (upd (upd (upd (fun _ => 0) (0 : Int32).toNatClampNeg 119) (1 : Int32).toNatClampNeg p0) (2 : Int32).toNatClampNeg p1) (3 : Int32).toNatClampNeg p2) (4 : Int32).toNatClampNeg 0))), ((b 13), .inr (8, [.int 0, .ref (g.2.2 0), .int 0]))]) (wr := [(m0, .inr (9, [.int t, .ref (b 0), .ref (b 17)])), ((b 17), .inr (8, [.int 1, .ref u2, .int 1])), (u2, .inl (g.2.1 4, 10, .inr (.inr (.inr (.inr (va_up (fun _ => none) (0 : Int32).toNatClampNeg (some q1)))))))]) E hA [1, 4, 2] [0, 3, 5] rfl rfl rfl rfl (by decide)) (c_do119 l g b q1 (upd (upd (upd (upd (upd (fun _ => 0) (0 : Int32).toNatClampNeg 119) (1 : Int32).toNatClampNeg p0) (2 : Int32).toNatClampNeg p1) (3 : Int32).toNatClampNeg p2) (4 : Int32).toNatClampNeg 0) mo p0 p1 p2 rfl rfl rfl rfl rfl _ _) (gi_wsV ml_X9_31 im_X7_does sl_X7_does in_X7 co_X7_does) ⟨rfl, by decide +kernel, by decide +kernel, by decide +kernel⟩ ⟨Nat.le_of_ble_eq_true rfl, Nat.le_of_ble_eq_true rfl⟩ rfl rfl rfl hl.1 rfl (Nat.le_of_ble_eq_true rfl) dX9_act_44 ⟨Nat.le_of_ble_eq_true rfl, Nat.le_of_ble_eq_true rfl⟩) (Cut.of (wc := [((b 0), .inr (10, [.ref (b 1), .ref (b 2), .ref (b 3), .ref (b 4), .ref (b 5), .ref (b 6), .ref (b 7), .ref (b 8), .ref (b 9), .ref (b 10), .ref (b 11), .ref (b 12), .int 0, .int 0, .int (nI mo), .ref (b 13), .ref (b 14), .ref (b 16)])), (q1, .inl (g.2.1 0, 5, .inl (upd (upd (upd (upd (upd (fun _ => 0) (0 : Int32).toNatClampNeg 119) (1 : Int32).toNatClampNeg p0) (2 : Int32).toNatClampNeg p1) (3 : Int32).toNatClampNeg p2) (4 : Int32).toNatClampNeg 0))), ((b 13), .inr (8, [.int 0, .ref (g.2.2 0), .int 0]))]) (wr := [(m0, .inr (9, [.int t, .ref (b 0), .ref (b 17)])), ((b 17), .inr (8, [.int 1, .ref u2, .int 1])), (u2, .inl (g.2.1 4, 10, .inr (.inr (.inr (.inr (va_up (fun _ => none) (0 : Int32).toNatClampNeg (some q1)))))))]) E hA [1, 4, 2] [0, 3, 5] rfl rfl rfl rfl (by decide)) E (fun u3 H locs hp E => ?_)
  have E : Ev g _ s.heap H locs [(m0, .inr (9, [.int t, .ref (b 0), .ref (b 17)])), ((b 17), .inr (8, [.int 1, .ref u2, .int 1])), (u2, .inl (g.2.1 4, 10, .inr (.inr (.inr (.inr (va_up (fun _ => none) (0 : Int32).toNatClampNeg (some q1))))))), ((b 0), .inr (10, [.ref (b 1), .ref (b 2), .ref (b 3), .ref (b 4), .ref (b 5), .ref (b 6), .ref (b 7), .ref (b 8), .ref (b 9), .ref (b 10), .ref (b 11), .ref (b 12), .int 0, .int 0, .int (nI mo), .ref (b 13), .ref (b 14), .ref (b 16)])), ((b 13), .inr (8, [.int 1, .ref u3, .int 1]))] := E
  have E : Ev g _ s.heap H locs [(m0, .inr (9, [.int t, .ref (b 0), .ref (b 17)])), ((b 0), .inr (10, [.ref (b 1), .ref (b 2), .ref (b 3), .ref (b 4), .ref (b 5), .ref (b 6), .ref (b 7), .ref (b 8), .ref (b 9), .ref (b 10), .ref (b 11), .ref (b 12), .int 0, .int 0, .int (nI mo), .ref (b 13), .ref (b 14), .ref (b 16)])), ((b 13), .inr (8, [.int 1, .ref u3, .int 1]))] := Ev.sub E [0, 3, 4] rfl rfl
  exact x_vret u3 S hr hlk hsz htt hK E dX9_act_47 trivial rfl ⟨Nat.le_of_ble_eq_true rfl, Nat.le_of_ble_eq_true rfl⟩ ⟨Nat.le_of_ble_eq_true rfl, Nat.le_of_ble_eq_true rfl⟩

set_option maxHeartbeats 4000000 in
set_option maxRecDepth 100000 in
/-- act, months -/
theorem c_ac112 (l : Launch) (g : Gm) (m0 : Nat) (b : Nat → Nat) (t : Int32) (mm : Nat) (hm : mm ≤ 24) : MXv (S := Unit) l g yX9_act cX9_act 8 ({ frames := 8, cells := 77, slots := 590, locals := 171 } : Room) [.ref m0, .int 112, .int (nI mm), .int 0, .int 0, .int 0] [(m0, .inr (9, [.int t, .ref (b 0), .ref (b 17)])), ((b 17), .inr (8, [.int 0, .ref (g.2.2 0), .int 0])), ((b 0), .inr (10, [.ref (b 1), .ref (b 2), .ref (b 3), .ref (b 4), .ref (b 5), .ref (b 6), .ref (b 7), .ref (b 8), .ref (b 9), .ref (b 10), .ref (b 11), .ref (b 12), .int 0, .int 0, .int (nI 0), .ref (b 13), .ref (b 14), .ref (b 16)])), ((b 1), .inl (g.2.1 0, 16, .inl (fun _ => 0))), ((b 2), .inl (g.2.1 0, 16, .inl (fun _ => 10))), ((b 3), .inl (g.2.1 0, 16, .inl (fun _ => 0))), ((b 4), .inl (g.2.1 0, 16, .inl (fun _ => 0))), ((b 5), .inl (g.2.1 0, 8, .inl (fun _ => 100))), ((b 6), .inl (g.2.1 0, 2, .inl (fun _ => 4))), ((b 7), .inl (g.2.1 0, 8, .inl (fun _ => 0))), ((b 8), .inl (g.2.1 0, 8, .inl (fun _ => 0))), ((b 9), .inl (g.2.1 0, 8, .inl (fun _ => 0))), ((b 10), .inl (g.2.1 0, 8, .inl (fun _ => 0))), ((b 11), .inl (g.2.1 0, 16, .inl (fun _ => 0))), ((b 12), .inl (g.2.1 0, 16, .inl (fun _ => 0))), ((b 13), .inr (8, [.int 0, .ref (g.2.2 0), .int 0])), ((b 16), .inl (g.2.1 1, 26, .inr (.inl (fun _ => 0))))] (fun _ => True) (fun _ => [(m0, .inr (9, [.int t, .ref (b 0), .ref (b 17)])), ((b 0), .inr (10, [.ref (b 1), .ref (b 2), .ref (b 3), .ref (b 4), .ref (b 5), .ref (b 6), .ref (b 7), .ref (b 8), .ref (b 9), .ref (b 10), .ref (b 11), .ref (b 12), .int 0, .int 0, .int (nI mm), .ref (b 13), .ref (b 14), .ref (b 16)]))]) (fun _ => (74, 567)) := by
  intro sz tt
  refine ofX RX9 rfl (by decide +kernel) (Nat.le_of_ble_eq_true rfl) (fun p e s m args below meth c hargs S hml hr hlk hnm hsz htt hK hA hZ E ls hl => ?_)
  have hx := S.1
  have hb := S.2.1
  have hl : lv_has ls 8 [(0, .ref m0), (1, .int 112), (2, .int (nI mm)), (3, .int 0), (4, .int 0), (5, .int 0)] := hl
  refine lv_iconst (v := 5) hx hb dX9_act_0 (by decide) ?_
  refine w_newa (atype := .int) (ty := .int) (a0 := (5, .inl (fun _ => 0))) (N' := 5) 0 S hK E hA ac_int rfl rfl (fun C h => by cases h) (fun cA => by first | rfl | (rw [vp_cell_i]; rfl)) (by decide) (by decide) (by decide) (Nat.le_of_ble_eq_true rfl) (Nat.le_of_ble_eq_true rfl) dX9_act_1 (fun q1 H E => ?_)
  have E : Ev g _ s.heap H _ [(m0, .inr (9, [.int t, .ref (b 0), .ref (b 17)])), ((b 17), .inr (8, [.int 0, .ref (g.2.2 0), .int 0])), ((b 0), .inr (10, [.ref (b 1), .ref (b 2), .ref (b 3), .ref (b 4), .ref (b 5), .ref (b 6), .ref (b 7), .ref (b 8), .ref (b 9), .ref (b 10), .ref (b 11), .ref (b 12), .int 0, .int 0, .int (nI 0), .ref (b 13), .ref (b 14), .ref (b 16)])), ((b 1), .inl (g.2.1 0, 16, .inl (fun _ => 0))), ((b 2), .inl (g.2.1 0, 16, .inl (fun _ => 10))), ((b 3), .inl (g.2.1 0, 16, .inl (fun _ => 0))), ((b 4), .inl (g.2.1 0, 16, .inl (fun _ => 0))), ((b 5), .inl (g.2.1 0, 8, .inl (fun _ => 100))), ((b 6), .inl (g.2.1 0, 2, .inl (fun _ => 4))), ((b 7), .inl (g.2.1 0, 8, .inl (fun _ => 0))), ((b 8), .inl (g.2.1 0, 8, .inl (fun _ => 0))), ((b 9), .inl (g.2.1 0, 8, .inl (fun _ => 0))), ((b 10), .inl (g.2.1 0, 8, .inl (fun _ => 0))), ((b 11), .inl (g.2.1 0, 16, .inl (fun _ => 0))), ((b 12), .inl (g.2.1 0, 16, .inl (fun _ => 0))), ((b 13), .inr (8, [.int 0, .ref (g.2.2 0), .int 0])), ((b 16), .inl (g.2.1 1, 26, .inr (.inl (fun _ => 0)))), (q1, .inl (g.2.1 0, 5, .inl (fun _ => 0)))] := E
  refine lv_dup hx hb dX9_act_3 rfl ?_
  refine lv_iconst (v := 0) hx hb dX9_act_4 (by decide) ?_
  refine lv_iload_n hx hb dX9_act_5 rfl (lv_at hl 1 rfl) ?_
  refine w_ist (w' := [(m0, .inr (9, [.int t, .ref (b 0), .ref (b 17)])), ((b 17), .inr (8, [.int 0, .ref (g.2.2 0), .int 0])), ((b 0), .inr (10, [.ref (b 1), .ref (b 2), .ref (b 3), .ref (b 4), .ref (b 5), .ref (b 6), .ref (b 7), .ref (b 8), .ref (b 9), .ref (b 10), .ref (b 11), .ref (b 12), .int 0, .int 0, .int (nI 0), .ref (b 13), .ref (b 14), .ref (b 16)])), ((b 1), .inl (g.2.1 0, 16, .inl (fun _ => 0))), ((b 2), .inl (g.2.1 0, 16, .inl (fun _ => 10))), ((b 3), .inl (g.2.1 0, 16, .inl (fun _ => 0))), ((b 4), .inl (g.2.1 0, 16, .inl (fun _ => 0))), ((b 5), .inl (g.2.1 0, 8, .inl (fun _ => 100))), ((b 6), .inl (g.2.1 0, 2, .inl (fun _ => 4))), ((b 7), .inl (g.2.1 0, 8, .inl (fun _ => 0))), ((b 8), .inl (g.2.1 0, 8, .inl (fun _ => 0))), ((b 9), .inl (g.2.1 0, 8, .inl (fun _ => 0))), ((b 10), .inl (g.2.1 0, 8, .inl (fun _ => 0))), ((b 11), .inl (g.2.1 0, 16, .inl (fun _ => 0))), ((b 12), .inl (g.2.1 0, 16, .inl (fun _ => 0))), ((b 13), .inr (8, [.int 0, .ref (g.2.2 0), .int 0])), ((b 16), .inl (g.2.1 1, 26, .inr (.inl (fun _ => 0)))), (q1, .inl (g.2.1 0, 5, .inl (upd (fun _ => 0) (0 : Int32).toNatClampNeg 112)))]) S hK E 17 0 rfl rfl (show vp_in 0 5 by unfold vp_in; decide) rfl dX9_act_6 (fun H locs E => ?_)
  refine lv_dup hx hb dX9_act_7 rfl ?_
  refine lv_iconst (v := 1) hx hb dX9_act_8 (by decide) ?_
  refine lv_iload_n hx hb dX9_act_9 rfl (lv_at hl 2 rfl) ?_
  refine w_ist (w' := [(m0, .inr (9, [.int t, .ref (b 0), .ref (b 17)])), ((b 17), .inr (8, [.int 0, .ref (g.2.2 0), .int 0])), ((b 0), .inr (10, [.ref (b 1), .ref (b 2), .ref (b 3), .ref (b 4), .ref (b 5), .ref (b 6), .ref (b 7), .ref (b 8), .ref (b 9), .ref (b 10), .ref (b 11), .ref (b 12), .int 0, .int 0, .int (nI 0), .ref (b 13), .ref (b 14), .ref (b 16)])), ((b 1), .inl (g.2.1 0, 16, .inl (fun _ => 0))), ((b 2), .inl (g.2.1 0, 16, .inl (fun _ => 10))), ((b 3), .inl (g.2.1 0, 16, .inl (fun _ => 0))), ((b 4), .inl (g.2.1 0, 16, .inl (fun _ => 0))), ((b 5), .inl (g.2.1 0, 8, .inl (fun _ => 100))), ((b 6), .inl (g.2.1 0, 2, .inl (fun _ => 4))), ((b 7), .inl (g.2.1 0, 8, .inl (fun _ => 0))), ((b 8), .inl (g.2.1 0, 8, .inl (fun _ => 0))), ((b 9), .inl (g.2.1 0, 8, .inl (fun _ => 0))), ((b 10), .inl (g.2.1 0, 8, .inl (fun _ => 0))), ((b 11), .inl (g.2.1 0, 16, .inl (fun _ => 0))), ((b 12), .inl (g.2.1 0, 16, .inl (fun _ => 0))), ((b 13), .inr (8, [.int 0, .ref (g.2.2 0), .int 0])), ((b 16), .inl (g.2.1 1, 26, .inr (.inl (fun _ => 0)))), (q1, .inl (g.2.1 0, 5, .inl (upd (upd (fun _ => 0) (0 : Int32).toNatClampNeg 112) (1 : Int32).toNatClampNeg (nI mm))))]) S hK E 17 0 rfl rfl (show vp_in 1 5 by unfold vp_in; decide) rfl dX9_act_10 (fun H locs E => ?_)
  refine lv_dup hx hb dX9_act_11 rfl ?_
  refine lv_iconst (v := 2) hx hb dX9_act_12 (by decide) ?_
  refine lv_iload_n hx hb dX9_act_13 rfl (lv_at hl 3 rfl) ?_
  refine w_ist (w' := [(m0, .inr (9, [.int t, .ref (b 0), .ref (b 17)])), ((b 17), .inr (8, [.int 0, .ref (g.2.2 0), .int 0])), ((b 0), .inr (10, [.ref (b 1), .ref (b 2), .ref (b 3), .ref (b 4), .ref (b 5), .ref (b 6), .ref (b 7), .ref (b 8), .ref (b 9), .ref (b 10), .ref (b 11), .ref (b 12), .int 0, .int 0, .int (nI 0), .ref (b 13), .ref (b 14), .ref (b 16)])), ((b 1), .inl (g.2.1 0, 16, .inl (fun _ => 0))), ((b 2), .inl (g.2.1 0, 16, .inl (fun _ => 10))), ((b 3), .inl (g.2.1 0, 16, .inl (fun _ => 0))), ((b 4), .inl (g.2.1 0, 16, .inl (fun _ => 0))), ((b 5), .inl (g.2.1 0, 8, .inl (fun _ => 100))), ((b 6), .inl (g.2.1 0, 2, .inl (fun _ => 4))), ((b 7), .inl (g.2.1 0, 8, .inl (fun _ => 0))), ((b 8), .inl (g.2.1 0, 8, .inl (fun _ => 0))), ((b 9), .inl (g.2.1 0, 8, .inl (fun _ => 0))), ((b 10), .inl (g.2.1 0, 8, .inl (fun _ => 0))), ((b 11), .inl (g.2.1 0, 16, .inl (fun _ => 0))), ((b 12), .inl (g.2.1 0, 16, .inl (fun _ => 0))), ((b 13), .inr (8, [.int 0, .ref (g.2.2 0), .int 0])), ((b 16), .inl (g.2.1 1, 26, .inr (.inl (fun _ => 0)))), (q1, .inl (g.2.1 0, 5, .inl (upd (upd (upd (fun _ => 0) (0 : Int32).toNatClampNeg 112) (1 : Int32).toNatClampNeg (nI mm)) (2 : Int32).toNatClampNeg 0)))]) S hK E 17 0 rfl rfl (show vp_in 2 5 by unfold vp_in; decide) rfl dX9_act_14 (fun H locs E => ?_)
  refine lv_dup hx hb dX9_act_15 rfl ?_
  refine lv_iconst (v := 3) hx hb dX9_act_16 (by decide) ?_
  refine lv_iload hx hb dX9_act_17 (lv_at hl 4 rfl) ?_
  refine w_ist (w' := [(m0, .inr (9, [.int t, .ref (b 0), .ref (b 17)])), ((b 17), .inr (8, [.int 0, .ref (g.2.2 0), .int 0])), ((b 0), .inr (10, [.ref (b 1), .ref (b 2), .ref (b 3), .ref (b 4), .ref (b 5), .ref (b 6), .ref (b 7), .ref (b 8), .ref (b 9), .ref (b 10), .ref (b 11), .ref (b 12), .int 0, .int 0, .int (nI 0), .ref (b 13), .ref (b 14), .ref (b 16)])), ((b 1), .inl (g.2.1 0, 16, .inl (fun _ => 0))), ((b 2), .inl (g.2.1 0, 16, .inl (fun _ => 10))), ((b 3), .inl (g.2.1 0, 16, .inl (fun _ => 0))), ((b 4), .inl (g.2.1 0, 16, .inl (fun _ => 0))), ((b 5), .inl (g.2.1 0, 8, .inl (fun _ => 100))), ((b 6), .inl (g.2.1 0, 2, .inl (fun _ => 4))), ((b 7), .inl (g.2.1 0, 8, .inl (fun _ => 0))), ((b 8), .inl (g.2.1 0, 8, .inl (fun _ => 0))), ((b 9), .inl (g.2.1 0, 8, .inl (fun _ => 0))), ((b 10), .inl (g.2.1 0, 8, .inl (fun _ => 0))), ((b 11), .inl (g.2.1 0, 16, .inl (fun _ => 0))), ((b 12), .inl (g.2.1 0, 16, .inl (fun _ => 0))), ((b 13), .inr (8, [.int 0, .ref (g.2.2 0), .int 0])), ((b 16), .inl (g.2.1 1, 26, .inr (.inl (fun _ => 0)))), (q1, .inl (g.2.1 0, 5, .inl (upd (upd (upd (upd (fun _ => 0) (0 : Int32).toNatClampNeg 112) (1 : Int32).toNatClampNeg (nI mm)) (2 : Int32).toNatClampNeg 0) (3 : Int32).toNatClampNeg 0)))]) S hK E 17 0 rfl rfl (show vp_in 3 5 by unfold vp_in; decide) rfl dX9_act_19 (fun H locs E => ?_)
  refine lv_dup hx hb dX9_act_20 rfl ?_
  refine lv_iconst (v := 4) hx hb dX9_act_21 (by decide) ?_
  refine lv_iload hx hb dX9_act_22 (lv_at hl 5 rfl) ?_
  refine w_ist (w' := [(m0, .inr (9, [.int t, .ref (b 0), .ref (b 17)])), ((b 17), .inr (8, [.int 0, .ref (g.2.2 0), .int 0])), ((b 0), .inr (10, [.ref (b 1), .ref (b 2), .ref (b 3), .ref (b 4), .ref (b 5), .ref (b 6), .ref (b 7), .ref (b 8), .ref (b 9), .ref (b 10), .ref (b 11), .ref (b 12), .int 0, .int 0, .int (nI 0), .ref (b 13), .ref (b 14), .ref (b 16)])), ((b 1), .inl (g.2.1 0, 16, .inl (fun _ => 0))), ((b 2), .inl (g.2.1 0, 16, .inl (fun _ => 10))), ((b 3), .inl (g.2.1 0, 16, .inl (fun _ => 0))), ((b 4), .inl (g.2.1 0, 16, .inl (fun _ => 0))), ((b 5), .inl (g.2.1 0, 8, .inl (fun _ => 100))), ((b 6), .inl (g.2.1 0, 2, .inl (fun _ => 4))), ((b 7), .inl (g.2.1 0, 8, .inl (fun _ => 0))), ((b 8), .inl (g.2.1 0, 8, .inl (fun _ => 0))), ((b 9), .inl (g.2.1 0, 8, .inl (fun _ => 0))), ((b 10), .inl (g.2.1 0, 8, .inl (fun _ => 0))), ((b 11), .inl (g.2.1 0, 16, .inl (fun _ => 0))), ((b 12), .inl (g.2.1 0, 16, .inl (fun _ => 0))), ((b 13), .inr (8, [.int 0, .ref (g.2.2 0), .int 0])), ((b 16), .inl (g.2.1 1, 26, .inr (.inl (fun _ => 0)))), (q1, .inl (g.2.1 0, 5, .inl (upd (upd (upd (upd (upd (fun _ => 0) (0 : Int32).toNatClampNeg 112) (1 : Int32).toNatClampNeg (nI mm)) (2 : Int32).toNatClampNeg 0) (3 : Int32).toNatClampNeg 0) (4 : Int32).toNatClampNeg 0)))]) S hK E 17 0 rfl rfl (show vp_in 4 5 by unfold vp_in; decide) rfl dX9_act_24 (fun H locs E => ?_)
  refine lv_astore (lv' := [(6, .ref q1), (0, .ref m0), (1, .int 112), (2, .int (nI mm)), (3, .int 0), (4, .int 0), (5, .int 0)]) hx hb dX9_act_25 hl (by decide) rfl (fun ls hl => ?_)
  refine lv_aload_n hx hb dX9_act_27 rfl (lv_at hl 1 rfl) ?_
  refine wg_X9_19 (v := .ref (b 17)) S hK E 0 rfl rfl dX9_act_28 ?_
  refine lv_aload hx hb dX9_act_31 (lv_at hl 0 rfl) ?_
  refine w_reti (runV_X (As := [.ref q1]) (rest := []) (q0 := 0) (n := 1) S hml hK (hZ.at E) (Cut.of (wc := [((b 17), .inr (8, [.int 0, .ref (g.2.2 0), .int 0])), (q1, .inl (g.2.1 0, 5, .inl (upd (upd (upd (upd (upd (fun _ => 0) (0 : Int32).toNatClampNeg 112) (1 : Int32).toNatClampNeg (nI mm)) (2 : Int32).toNatClampNeg 0) (3 : Int32).toNatClampNeg 0) (4 : Int32).toNatClampNeg 0)))]) (wr := [(m0, .inr (9, [.int t, .ref (b 0), .ref (b 17)])), ((b 0), .inr (10, [.ref (b 1), .ref (b 2), .ref (b 3), .ref (b 4), .ref (b 5), .ref (b 6), .ref (b 7), .ref (b 8), .ref (b 9), .ref (b 10), .ref (b 11), .ref (b 12), .int 0, .int 0, .int (nI 0), .ref (b 13), .ref (b 14), .ref (b 16)])), ((b 1), .inl (g.2.1 0, 16, .inl (fun _ => 0))), ((b 2), .inl (g.2.1 0, 16, .inl (fun _ => 10))), ((b 3), .inl (g.2.1 0, 16, .inl (fun _ => 0))), ((b 4), .inl (g.2.1 0, 16, .inl (fun _ => 0))), ((b 5), .inl (g.2.1 0, 8, .inl (fun _ => 100))), ((b 6), .inl (g.2.1 0, 2, .inl (fun _ => 4))), ((b 7), .inl (g.2.1 0, 8, .inl (fun _ => 0))), ((b 8), .inl (g.2.1 0, 8, .inl (fun _ => 0))), ((b 9), .inl (g.2.1 0, 8, .inl (fun _ => 0))), ((b 10), .inl (g.2.1 0, 8, .inl (fun _ => 0))), ((b 11), .inl (g.2.1 0, 16, .inl (fun _ => 0))), ((b 12), .inl (g.2.1 0, 16, .inl (fun _ => 0))), ((b 13), .inr (8, [.int 0, .ref (g.2.2 0), .int 0])), ((b 16), .inl (g.2.1 1, 26, .inr (.inl (fun _ => 0))))]) E hA [1, 17] [0, 2, 3, 4, 5, 6, 7, 8, 9, 10, 11, 12, 13, 14, 15, 16] rfl rfl rfl rfl (by decide)) (c_ad1 l g (b 17) q1 (.inl (g.2.1 0, 5, .inl (upd (upd (upd (upd (upd (fun _ => 0) (0 : Int32).toNatClampNeg 112) (1 : Int32).toNatClampNeg (nI mm)) (2 : Int32).toNatClampNeg 0) (3 : Int32).toNatClampNeg 0) (4 : Int32).toNatClampNeg 0))) any_arr _ _) (gi_wsV ml_X9_27 im_Jx4a65c_add_9ea2d sl_Jx4a65c_add_9ea2d in_Jx4a65c co_Jx4a65c_add_9ea2d) ⟨rfl, by decide +kernel, by decide +kernel, by decide +kernel⟩ ⟨Nat.le_of_ble_eq_true rfl, Nat.le_of_ble_eq_true rfl⟩ rfl rfl rfl hl.1 rfl (Nat.le_of_ble_eq_true rfl) dX9_act_33 ⟨Nat.le_of_ble_eq_true rfl, Nat.le_of_ble_eq_true rfl⟩) (Cut.of (wc := [((b 17), .inr (8, [.int 0, .ref (g.2.2 0), .int 0])), (q1, .inl (g.2.1 0, 5, .inl (upd (upd (upd (upd (upd (fun _ => 0) (0 : Int32).toNatClampNeg 112) (1 : Int32).toNatClampNeg (nI mm)) (2 : Int32).toNatClampNeg 0) (3 : Int32).toNatClampNeg 0) (4 : Int32).toNatClampNeg 0)))]) (wr := [(m0, .inr (9, [.int t, .ref (b 0), .ref (b 17)])), ((b 0), .inr (10, [.ref (b 1), .ref (b 2), .ref (b 3), .ref (b 4), .ref (b 5), .ref (b 6), .ref (b 7), .ref (b 8), .ref (b 9), .ref (b 10), .ref (b 11), .ref (b 12), .int 0, .int 0, .int (nI 0), .ref (b 13), .ref (b 14), .ref (b 16)])), ((b 1), .inl (g.2.1 0, 16, .inl (fun _ => 0))), ((b 2), .inl (g.2.1 0, 16, .inl (fun _ => 10))), ((b 3), .inl (g.2.1 0, 16, .inl (fun _ => 0))), ((b 4), .inl (g.2.1 0, 16, .inl (fun _ => 0))), ((b 5), .inl (g.2.1 0, 8, .inl (fun _ => 100))), ((b 6), .inl (g.2.1 0, 2, .inl (fun _ => 4))), ((b 7), .inl (g.2.1 0, 8, .inl (fun _ => 0))), ((b 8), .inl (g.2.1 0, 8, .inl (fun _ => 0))), ((b 9), .inl (g.2.1 0, 8, .inl (fun _ => 0))), ((b 10), .inl (g.2.1 0, 8, .inl (fun _ => 0))), ((b 11), .inl (g.2.1 0, 16, .inl (fun _ => 0))), ((b 12), .inl (g.2.1 0, 16, .inl (fun _ => 0))), ((b 13), .inr (8, [.int 0, .ref (g.2.2 0), .int 0])), ((b 16), .inl (g.2.1 1, 26, .inr (.inl (fun _ => 0))))]) E hA [1, 17] [0, 2, 3, 4, 5, 6, 7, 8, 9, 10, 11, 12, 13, 14, 15, 16] rfl rfl rfl rfl (by decide)) E (fun r2 u2 H locs hp E => ?_)
  have E : Ev g _ s.heap H locs [(m0, .inr (9, [.int t, .ref (b 0), .ref (b 17)])), ((b 0), .inr (10, [.ref (b 1), .ref (b 2), .ref (b 3), .ref (b 4), .ref (b 5), .ref (b 6), .ref (b 7), .ref (b 8), .ref (b 9), .ref (b 10), .ref (b 11), .ref (b 12), .int 0, .int 0, .int (nI 0), .ref (b 13), .ref (b 14), .ref (b 16)])), ((b 1), .inl (g.2.1 0, 16, .inl (fun _ => 0))), ((b 2), .inl (g.2.1 0, 16, .inl (fun _ => 10))), ((b 3), .inl (g.2.1 0, 16, .inl (fun _ => 0))), ((b 4), .inl (g.2.1 0, 16, .inl (fun _ => 0))), ((b 5), .inl (g.2.1 0, 8, .inl (fun _ => 100))), ((b 6), .inl (g.2.1 0, 2, .inl (fun _ => 4))), ((b 7), .inl (g.2.1 0, 8, .inl (fun _ => 0))), ((b 8), .inl (g.2.1 0, 8, .inl (fun _ => 0))), ((b 9), .inl (g.2.1 0, 8, .inl (fun _ => 0))), ((b 10), .inl (g.2.1 0, 8, .inl (fun _ => 0))), ((b 11), .inl (g.2.1 0, 16, .inl (fun _ => 0))), ((b 12), .inl (g.2.1 0, 16, .inl (fun _ => 0))), ((b 13), .inr (8, [.int 0, .ref (g.2.2 0), .int 0])), ((b 16), .inl (g.2.1 1, 26, .inr (.inl (fun _ => 0)))), ((b 17), .inr (8, [.int 1, .ref u2, .int 1])), (q1, .inl (g.2.1 0, 5, .inl (upd (upd (upd (upd (upd (fun _ => 0) (0 : Int32).toNatClampNeg 112) (1 : Int32).toNatClampNeg (nI mm)) (2 : Int32).toNatClampNeg 0) (3 : Int32).toNatClampNeg 0) (4 : Int32).toNatClampNeg 0))), (u2, .inl (g.2.1 4, 10, .inr (.inr (.inr (.inr (va_up (fun _ => none) (0 : Int32).toNatClampNeg (some q1)))))))] := E
  subst hp
  refine lv_istore (lv' := [(7, .int 1), (6, .ref q1), (0, .ref m0), (1, .int 112), (2, .int (nI mm)), (3, .int 0), (4, .int 0), (5, .int 0)]) hx hb dX9_act_36 hl (by decide) rfl (fun ls hl => ?_)
  refine lv_aload_n hx hb dX9_act_38 rfl (lv_at hl 2 rfl) ?_
  refine wg_X9_10 (v := .ref (b 0)) S hK E 0 rfl rfl dX9_act_39 ?_
  refine lv_aload hx hb dX9_act_42 (lv_at hl 1 rfl) ?_
  refine w_retv (runV_X (As := [.ref q1]) (rest := []) (q0 := 0) (n := 1) S hml hK (hZ.at E) (Cut.of (wc := [((b 0), .inr (10, [.ref (b 1), .ref (b 2), .ref (b 3), .ref (b 4), .ref (b 5), .ref (b 6), .ref (b 7), .ref (b 8), .ref (b 9), .ref (b 10), .ref (b 11), .ref (b 12), .int 0, .int 0, .int (nI 0), .ref (b 13), .ref (b 14), .ref (b 16)])), (q1, .inl (g.2.1 0, 5, .inl (upd (upd (upd (upd (upd (fun _ => 0) (0 : Int32).toNatClampNeg 112) (1 : Int32).toNatClampNeg (nI mm)) (2 : Int32).toNatClampNeg 0) (3 : Int32).toNatClampNeg 0) (4 : Int32).toNatClampNeg 0))), ((b 1), .inl (g.2.1 0, 16, .inl (fun _ => 0))), ((b 2), .inl (g.2.1 0, 16, .inl (fun _ => 10))), ((b 3), .inl (g.2.1 0, 16, .inl (fun _ => 0))), ((b 4), .inl (g.2.1 0, 16, .inl (fun _ => 0))), ((b 5), .inl (g.2.1 0, 8, .inl (fun _ => 100))), ((b 6), .inl (g.2.1 0, 2, .inl (fun _ => 4))), ((b 7), .inl (g.2.1 0, 8, .inl (fun _ => 0))), ((b 8), .inl (g.2.1 0, 8, .inl (fun _ => 0))), ((b 9), .inl (g.2.1 0, 8, .inl (fun _ => 0))), ((b 10), .inl (g.2.1 0, 8, .inl (fun _ => 0))), ((b 11), .inl (g.2.1 0, 16, .inl (fun _ => 0))), ((b 12), .inl (g.2.1 0, 16, .inl (fun _ => 0))), ((b 13), .inr (8, [.int 0, .ref (g.2.2 0), .int 0])), ((b 16), .inl (g.2.1 1, 26, .inr (.inl (fun _ => 0))))]) (wr := [(m0, .inr (9, [.int t, .ref (b 0), .ref (b 17)])), ((b 17), .inr (8, [.int 1, .ref u2, .int 1])), (u2, .inl (g.2.1 4, 10, .inr (.inr (.inr (.inr (va_up (fun _ => none) (0 : Int32).toNatClampNeg (some q1)))))))]) E hA [1, 17, 2, 3, 4, 5, 6, 7, 8, 9, 10, 11, 12, 13, 14, 15] [0, 16, 18] rfl rfl rfl rfl (by decide)) (c_do112 l g b q1 (upd (upd (upd (upd (upd (fun _ => 0) (0 : Int32).toNatClampNeg 112) (1 : Int32).toNatClampNeg (nI mm)) (2 : Int32).toNatClampNeg 0) (3 : Int32).toNatClampNeg 0) (4 : Int32).toNatClampNeg 0) mm rfl rfl rfl rfl rfl (by omega) _ _) (gi_wsV ml_X9_31 im_X7_does sl_X7_does in_X7 co_X7_does) ⟨rfl, by decide +kernel, by decide +kernel, by decide +kernel⟩ ⟨Nat.le_of_ble_eq_true rfl, Nat.le_of_ble_eq_true rfl⟩ rfl rfl rfl hl.1 rfl (Nat.le_of_ble_eq_true rfl) dX9_act_44 ⟨Nat.le_of_ble_eq_true rfl, Nat.le_of_ble_eq_true rfl⟩) (Cut.of (wc := [((b 0), .inr (10, [.ref (b 1), .ref (b 2), .ref (b 3), .ref (b 4), .ref (b 5), .ref (b 6), .ref (b 7), .ref (b 8), .ref (b 9), .ref (b 10), .ref (b 11), .ref (b 12), .int 0, .int 0, .int (nI 0), .ref (b 13), .ref (b 14), .ref (b 16)])), (q1, .inl (g.2.1 0, 5, .inl (upd (upd (upd (upd (upd (fun _ => 0) (0 : Int32).toNatClampNeg 112) (1 : Int32).toNatClampNeg (nI mm)) (2 : Int32).toNatClampNeg 0) (3 : Int32).toNatClampNeg 0) (4 : Int32).toNatClampNeg 0))), ((b 1), .inl (g.2.1 0, 16, .inl (fun _ => 0))), ((b 2), .inl (g.2.1 0, 16, .inl (fun _ => 10))), ((b 3), .inl (g.2.1 0, 16, .inl (fun _ => 0))), ((b 4), .inl (g.2.1 0, 16, .inl (fun _ => 0))), ((b 5), .inl (g.2.1 0, 8, .inl (fun _ => 100))), ((b 6), .inl (g.2.1 0, 2, .inl (fun _ => 4))), ((b 7), .inl (g.2.1 0, 8, .inl (fun _ => 0))), ((b 8), .inl (g.2.1 0, 8, .inl (fun _ => 0))), ((b 9), .inl (g.2.1 0, 8, .inl (fun _ => 0))), ((b 10), .inl (g.2.1 0, 8, .inl (fun _ => 0))), ((b 11), .inl (g.2.1 0, 16, .inl (fun _ => 0))), ((b 12), .inl (g.2.1 0, 16, .inl (fun _ => 0))), ((b 13), .inr (8, [.int 0, .ref (g.2.2 0), .int 0])), ((b 16), .inl (g.2.1 1, 26, .inr (.inl (fun _ => 0))))]) (wr := [(m0, .inr (9, [.int t, .ref (b 0), .ref (b 17)])), ((b 17), .inr (8, [.int 1, .ref u2, .int 1])), (u2, .inl (g.2.1 4, 10, .inr (.inr (.inr (.inr (va_up (fun _ => none) (0 : Int32).toNatClampNeg (some q1)))))))]) E hA [1, 17, 2, 3, 4, 5, 6, 7, 8, 9, 10, 11, 12, 13, 14, 15] [0, 16, 18] rfl rfl rfl rfl (by decide)) E (fun u3 H locs hp E => ?_)
  have E : Ev g _ s.heap H locs [(m0, .inr (9, [.int t, .ref (b 0), .ref (b 17)])), ((b 17), .inr (8, [.int 1, .ref u2, .int 1])), (u2, .inl (g.2.1 4, 10, .inr (.inr (.inr (.inr (va_up (fun _ => none) (0 : Int32).toNatClampNeg (some q1))))))), ((b 0), .inr (10, [.ref (b 1), .ref (b 2), .ref (b 3), .ref (b 4), .ref (b 5), .ref (b 6), .ref (b 7), .ref (b 8), .ref (b 9), .ref (b 10), .ref (b 11), .ref (b 12), .int 0, .int 0, .int (nI mm), .ref (b 13), .ref (b 14), .ref (b 16)]))] := E
  have E : Ev g _ s.heap H locs [(m0, .inr (9, [.int t, .ref (b 0), .ref (b 17)])), ((b 0), .inr (10, [.ref (b 1), .ref (b 2), .ref (b 3), .ref (b 4), .ref (b 5), .ref (b 6), .ref (b 7), .ref (b 8), .ref (b 9), .ref (b 10), .ref (b 11), .ref (b 12), .int 0, .int 0, .int (nI mm), .ref (b 13), .ref (b 14), .ref (b 16)]))] := Ev.sub E [0, 3] rfl rfl
  exact x_vret () S hr hlk hsz htt hK E dX9_act_47 trivial rfl ⟨Nat.le_of_ble_eq_true rfl, Nat.le_of_ble_eq_true rfl⟩ ⟨Nat.le_of_ble_eq_true rfl, Nat.le_of_ble_eq_true rfl⟩

set_option maxHeartbeats 4000000 in
set_option maxRecDepth 100000 in
/-- new AquiferwardModel -/
theorem c_X9_init (l : Launch) (g : Gm) (m0 : Nat) : MXv (S := Nat → Nat) l g yX9_init cX9_init 1 ({ frames := 5, cells := 18, slots := 208, locals := 93 } : Room) [.ref m0] [(m0, .inr (9, [.int 0, .null, .null]))] (fun _ => True) (fun u => [(m0, .inr (9, [.int 0, .ref (u 0), .ref (u 17)])), ((u 0), .inr (10, [.ref (u 1), .ref (u 2), .ref (u 3), .ref (u 4), .ref (u 5), .ref (u 6), .ref (u 7), .ref (u 8), .ref (u 9), .ref (u 10), .ref (u 11), .ref (u 12), .int 0, .int 0, .int 0, .ref (u 13), .ref (u 14), .ref (u 16)])), ((u 1), .inl (g.2.1 0, 16, .inl (fun _ => 0))), ((u 2), .inl (g.2.1 0, 16, .inl (fun _ => 10))), ((u 3), .inl (g.2.1 0, 16, .inl (fun _ => 0))), ((u 4), .inl (g.2.1 0, 16, .inl (fun _ => 0))), ((u 5), .inl (g.2.1 0, 8, .inl (fun _ => 100))), ((u 6), .inl (g.2.1 0, 2, .inl (fun _ => 4))), ((u 7), .inl (g.2.1 0, 8, .inl (fun _ => 0))), ((u 8), .inl (g.2.1 0, 8, .inl (fun _ => 0))), ((u 9), .inl (g.2.1 0, 8, .inl (fun _ => 0))), ((u 10), .inl (g.2.1 0, 8, .inl (fun _ => 0))), ((u 11), .inl (g.2.1 0, 16, .inl (fun _ => 0))), ((u 12), .inl (g.2.1 0, 16, .inl (fun _ => 0))), ((u 13), .inr (8, [.int 0, .ref (g.2.2 0), .int 0])), ((u 14), .inr (7, [.ref (u 15), .int 0, .int 0, .int 0])), ((u 15), .inl (g.2.1 3, 16, .inl (fun _ => 0))), ((u 16), .inl (g.2.1 1, 26, .inr (.inl (fun _ => 0)))), ((u 17), .inr (8, [.int 0, .ref (g.2.2 0), .int 0]))]) (fun _ => (18, 208)) := by
  intro sz tt
  refine ofX RX9 rfl (by decide +kernel) (Nat.le_of_ble_eq_true rfl) (fun p e s m args below meth c hargs S hml hr hlk hnm hsz htt hK hA hZ E ls hl => ?_)
  have hx := S.1
  have hb := S.2.1
  have hl : lv_has ls 1 [(0, .ref m0)] := hl
  refine lv_aload_n hx hb dX9_init_0 rfl (lv_at hl 0 rfl) ?_
  refine w_obj S hml hl ml_X9_1 (Nat.le_of_ble_eq_true rfl) (Nat.le_of_ble_eq_true rfl) dX9_init_1 ?_
  refine lv_aload_n hx hb dX9_init_4 rfl (lv_at hl 0 rfl) ?_
  refine w_new (ci := 10) (fs := [.null, .null, .null, .null, .null, .null, .null, .null, .null, .null, .null, .null, .int 0, .int 0, .int 0, .null, .null, .null]) (C := RX7) (T := TX7) (N := 18) S hK E hA fw_X7 tyX7 tyX7_ok cl_X9_7 ib_X7 in_X7 rfl (fun j hj => by rcases (show j = 0 ∨ j = 1 ∨ j = 2 ∨ j = 3 ∨ j = 4 ∨ j = 5 ∨ j = 6 ∨ j = 7 ∨ j = 8 ∨ j = 9 ∨ j = 10 ∨ j = 11 ∨ j = 12 ∨ j = 13 ∨ j = 14 ∨ j = 15 ∨ j = 16 ∨ j = 17 by omega) with rfl | rfl | rfl | rfl | rfl | rfl | rfl | rfl | rfl | rfl | rfl | rfl | rfl | rfl | rfl | rfl | rfl | rfl <;> rfl) (Nat.le_of_ble_eq_true rfl) (Nat.le_of_ble_eq_true rfl) dX9_init_5 (fun q1 H E => ?_)
  have E : Ev g _ s.heap H _ [(m0, .inr (9, [.int 0, .null, .null])), (q1, .inr (10, [.null, .null, .null, .null, .null, .null, .null, .null, .null, .null, .null, .null, .int 0, .int 0, .int 0, .null, .null, .null]))] := E
  refine lv_dup hx hb dX9_init_8 rfl ?_
  refine w_retv (runI_X (As := []) (rest := [.ref q1, .ref m0]) (n := 0) S hml hK (hZ.at E) (Cut.of (wc := [(q1, .inr (10, [.null, .null, .null, .null, .null, .null, .null, .null, .null, .null, .null, .null, .int 0, .int 0, .int 0, .null, .null, .null]))]) (wr := [(m0, .inr (9, [.int 0, .null, .null]))]) E hA [1] [0] rfl rfl rfl rfl (by decide)) (c_X7_init l g q1 _ _) ml_X9_9 im_X7_init in_X7 co_X7_init rfl ⟨by decide +kernel, by decide +kernel, by decide +kernel⟩ ⟨Nat.le_of_ble_eq_true rfl, Nat.le_of_ble_eq_true rfl⟩ rfl hl.1 rfl (Nat.le_of_ble_eq_true rfl) dX9_init_9 ⟨Nat.le_of_ble_eq_true rfl, Nat.le_of_ble_eq_true rfl⟩) (Cut.of (wc := [(q1, .inr (10, [.null, .null, .null, .null, .null, .null, .null, .null, .null, .null, .null, .null, .int 0, .int 0, .int 0, .null, .null, .null]))]) (wr := [(m0, .inr (9, [.int 0, .null, .null]))]) E hA [1] [0] rfl rfl rfl rfl (by decide)) E (fun u2 H locs hp E => ?_)
  have E : Ev g _ s.heap H locs [(m0, .inr (9, [.int 0, .null, .null])), (q1, .inr (10, [.ref (u2 1), .ref (u2 2), .ref (u2 3), .ref (u2 4), .ref (u2 5), .ref (u2 6), .ref (u2 7), .ref (u2 8), .ref (u2 9), .ref (u2 10), .ref (u2 11), .ref (u2 12), .int 0, .int 0, .int 0, .ref (u2 13), .ref (u2 14), .ref (u2 16)])), ((u2 1), .inl (g.2.1 0, 16, .inl (fun _ => 0))), ((u2 2), .inl (g.2.1 0, 16, .inl (fun _ => 10))), ((u2 3), .inl (g.2.1 0, 16, .inl (fun _ => 0))), ((u2 4), .inl (g.2.1 0, 16, .inl (fun _ => 0))), ((u2 5), .inl (g.2.1 0, 8, .inl (fun _ => 100))), ((u2 6), .inl (g.2.1 0, 2, .inl (fun _ => 4))), ((u2 7), .inl (g.2.1 0, 8, .inl (fun _ => 0))), ((u2 8), .inl (g.2.1 0, 8, .inl (fun _ => 0))), ((u2 9), .inl (g.2.1 0, 8, .inl (fun _ => 0))), ((u2 10), .inl (g.2.1 0, 8, .inl (fun _ => 0))), ((u2 11), .inl (g.2.1 0, 16, .inl (fun _ => 0))), ((u2 12), .inl (g.2.1 0, 16, .inl (fun _ => 0))), ((u2 13), .inr (8, [.int 0, .ref (g.2.2 0), .int 0])), ((u2 14), .inr (7, [.ref (u2 15), .int 0, .int 0, .int 0])), ((u2 15), .inl (g.2.1 3, 16, .inl (fun _ => 0))), ((u2 16), .inl (g.2.1 1, 26, .inr (.inl (fun _ => 0))))] := E
  refine wpF_X9_10 (w' := [(m0, .inr (9, [.int 0, .ref q1, .null])), (q1, .inr (10, [.ref (u2 1), .ref (u2 2), .ref (u2 3), .ref (u2 4), .ref (u2 5), .ref (u2 6), .ref (u2 7), .ref (u2 8), .ref (u2 9), .ref (u2 10), .ref (u2 11), .ref (u2 12), .int 0, .int 0, .int 0, .ref (u2 13), .ref (u2 14), .ref (u2 16)])), ((u2 1), .inl (g.2.1 0, 16, .inl (fun _ => 0))), ((u2 2), .inl (g.2.1 0, 16, .inl (fun _ => 10))), ((u2 3), .inl (g.2.1 0, 16, .inl (fun _ => 0))), ((u2 4), .inl (g.2.1 0, 16, .inl (fun _ => 0))), ((u2 5), .inl (g.2.1 0, 8, .inl (fun _ => 100))), ((u2 6), .inl (g.2.1 0, 2, .inl (fun _ => 4))), ((u2 7), .inl (g.2.1 0, 8, .inl (fun _ => 0))), ((u2 8), .inl (g.2.1 0, 8, .inl (fun _ => 0))), ((u2 9), .inl (g.2.1 0, 8, .inl (fun _ => 0))), ((u2 10), .inl (g.2.1 0, 8, .inl (fun _ => 0))), ((u2 11), .inl (g.2.1 0, 16, .inl (fun _ => 0))), ((u2 12), .inl (g.2.1 0, 16, .inl (fun _ => 0))), ((u2 13), .inr (8, [.int 0, .ref (g.2.2 0), .int 0])), ((u2 14), .inr (7, [.ref (u2 15), .int 0, .int 0, .int 0])), ((u2 15), .inl (g.2.1 3, 16, .inl (fun _ => 0))), ((u2 16), .inl (g.2.1 1, 26, .inr (.inl (fun _ => 0))))]) S hK E 0 hnm rfl rfl rfl (Nat.le_of_ble_eq_true rfl) rfl dX9_init_12 (fun H locs E => ?_)
  refine lv_aload_n hx hb dX9_init_15 rfl (lv_at hl 0 rfl) ?_
  refine w_new (ci := 8) (fs := [.int 0, .null, .int 0]) (C := RJx4a65c) (T := TJx4a65c) (N := 3) S hK E hA fw_Jx4a65c tyJx4a65c tyJx4a65c_ok cl_X9_16 ib_Jx4a65c in_Jx4a65c rfl (fun j hj => by rcases (show j = 0 ∨ j = 1 ∨ j = 2 by omega) with rfl | rfl | rfl <;> rfl) (Nat.le_of_ble_eq_true rfl) (Nat.le_of_ble_eq_true rfl) dX9_init_16 (fun q3 H E => ?_)
  have E : Ev g _ s.heap H _ [(m0, .inr (9, [.int 0, .ref q1, .null])), (q1, .inr (10, [.ref (u2 1), .ref (u2 2), .ref (u2 3), .ref (u2 4), .ref (u2 5), .ref (u2 6), .ref (u2 7), .ref (u2 8), .ref (u2 9), .ref (u2 10), .ref (u2 11), .ref (u2 12), .int 0, .int 0, .int 0, .ref (u2 13), .ref (u2 14), .ref (u2 16)])), ((u2 1), .inl (g.2.1 0, 16, .inl (fun _ => 0))), ((u2 2), .inl (g.2.1 0, 16, .inl (fun _ => 10))), ((u2 3), .inl (g.2.1 0, 16, .inl (fun _ => 0))), ((u2 4), .inl (g.2.1 0, 16, .inl (fun _ => 0))), ((u2 5), .inl (g.2.1 0, 8, .inl (fun _ => 100))), ((u2 6), .inl (g.2.1 0, 2, .inl (fun _ => 4))), ((u2 7), .inl (g.2.1 0, 8, .inl (fun _ => 0))), ((u2 8), .inl (g.2.1 0, 8, .inl (fun _ => 0))), ((u2 9), .inl (g.2.1 0, 8, .inl (fun _ => 0))), ((u2 10), .inl (g.2.1 0, 8, .inl (fun _ => 0))), ((u2 11), .inl (g.2.1 0, 16, .inl (fun _ => 0))), ((u2 12), .inl (g.2.1 0, 16, .inl (fun _ => 0))), ((u2 13), .inr (8, [.int 0, .ref (g.2.2 0), .int 0])), ((u2 14), .inr (7, [.ref (u2 15), .int 0, .int 0, .int 0])), ((u2 15), .inl (g.2.1 3, 16, .inl (fun _ => 0))), ((u2 16), .inl (g.2.1 1, 26, .inr (.inl (fun _ => 0)))), (q3, .inr (8, [.int 0, .null, .int 0]))] := E
  refine lv_dup hx hb dX9_init_19 rfl ?_
  refine w_retv (runI_X (As := []) (rest := [.ref q3, .ref m0]) (n := 0) S hml hK (hZ.at E) (Cut.of (wc := [(q3, .inr (8, [.int 0, .null, .int 0]))]) (wr := [(m0, .inr (9, [.int 0, .ref q1, .null])), (q1, .inr (10, [.ref (u2 1), .ref (u2 2), .ref (u2 3), .ref (u2 4), .ref (u2 5), .ref (u2 6), .ref (u2 7), .ref (u2 8), .ref (u2 9), .ref (u2 10), .ref (u2 11), .ref (u2 12), .int 0, .int 0, .int 0, .ref (u2 13), .ref (u2 14), .ref (u2 16)])), ((u2 1), .inl (g.2.1 0, 16, .inl (fun _ => 0))), ((u2 2), .inl (g.2.1 0, 16, .inl (fun _ => 10))), ((u2 3), .inl (g.2.1 0, 16, .inl (fun _ => 0))), ((u2 4), .inl (g.2.1 0, 16, .inl (fun _ => 0))), ((u2 5), .inl (g.2.1 0, 8, .inl (fun _ => 100))), ((u2 6), .inl (g.2.1 0, 2, .inl (fun _ => 4))), ((u2 7), .inl (g.2.1 0, 8, .inl (fun _ => 0))), ((u2 8), .inl (g.2.1 0, 8, .inl (fun _ => 0))), ((u2 9), .inl (g.2.1 0, 8, .inl (fun _ => 0))), ((u2 10), .inl (g.2.1 0, 8, .inl (fun _ => 0))), ((u2 11), .inl (g.2.1 0, 16, .inl (fun _ => 0))), ((u2 12), .inl (g.2.1 0, 16, .inl (fun _ => 0))), ((u2 13), .inr (8, [.int 0, .ref (g.2.2 0), .int 0])), ((u2 14), .inr (7, [.ref (u2 15), .int 0, .int 0, .int 0])), ((u2 15), .inl (g.2.1 3, 16, .inl (fun _ => 0))), ((u2 16), .inl (g.2.1 1, 26, .inr (.inl (fun _ => 0))))]) E hA [18] [0, 1, 2, 3, 4, 5, 6, 7, 8, 9, 10, 11, 12, 13, 14, 15, 16, 17] rfl rfl rfl rfl (by decide)) (c_Jx4a65c_init_da8c8 l g q3 _ _) ml_X9_18 im_Jx4a65c_init_da8c8 in_Jx4a65c co_Jx4a65c_init_da8c8 rfl ⟨by decide +kernel, by decide +kernel, by decide +kernel⟩ ⟨Nat.le_of_ble_eq_true rfl, Nat.le_of_ble_eq_true rfl⟩ rfl hl.1 rfl (Nat.le_of_ble_eq_true rfl) dX9_init_20 ⟨Nat.le_of_ble_eq_true rfl, Nat.le_of_ble_eq_true rfl⟩) (Cut.of (wc := [(q3, .inr (8, [.int 0, .null, .int 0]))]) (wr := [(m0, .inr (9, [.int 0, .ref q1, .null])), (q1, .inr (10, [.ref (u2 1), .ref (u2 2), .ref (u2 3), .ref (u2 4), .ref (u2 5), .ref (u2 6), .ref (u2 7), .ref (u2 8), .ref (u2 9), .ref (u2 10), .ref (u2 11), .ref (u2 12), .int 0, .int 0, .int 0, .ref (u2 13), .ref (u2 14), .ref (u2 16)])), ((u2 1), .inl (g.2.1 0, 16, .inl (fun _ => 0))), ((u2 2), .inl (g.2.1 0, 16, .inl (fun _ => 10))), ((u2 3), .inl (g.2.1 0, 16, .inl (fun _ => 0))), ((u2 4), .inl (g.2.1 0, 16, .inl (fun _ => 0))), ((u2 5), .inl (g.2.1 0, 8, .inl (fun _ => 100))), ((u2 6), .inl (g.2.1 0, 2, .inl (fun _ => 4))), ((u2 7), .inl (g.2.1 0, 8, .inl (fun _ => 0))), ((u2 8), .inl (g.2.1 0, 8, .inl (fun _ => 0))), ((u2 9), .inl (g.2.1 0, 8, .inl (fun _ => 0))), ((u2 10), .inl (g.2.1 0, 8, .inl (fun _ => 0))), ((u2 11), .inl (g.2.1 0, 16, .inl (fun _ => 0))), ((u2 12), .inl (g.2.1 0, 16, .inl (fun _ => 0))), ((u2 13), .inr (8, [.int 0, .ref (g.2.2 0), .int 0])), ((u2 14), .inr (7, [.ref (u2 15), .int 0, .int 0, .int 0])), ((u2 15), .inl (g.2.1 3, 16, .inl (fun _ => 0))), ((u2 16), .inl (g.2.1 1, 26, .inr (.inl (fun _ => 0))))]) E hA [18] [0, 1, 2, 3, 4, 5, 6, 7, 8, 9, 10, 11, 12, 13, 14, 15, 16, 17] rfl rfl rfl rfl (by decide)) E (fun u4 H locs hp E => ?_)
  have E : Ev g _ s.heap H locs [(m0, .inr (9, [.int 0, .ref q1, .null])), (q1, .inr (10, [.ref (u2 1), .ref (u2 2), .ref (u2 3), .ref (u2 4), .ref (u2 5), .ref (u2 6), .ref (u2 7), .ref (u2 8), .ref (u2 9), .ref (u2 10), .ref (u2 11), .ref (u2 12), .int 0, .int 0, .int 0, .ref (u2 13), .ref (u2 14), .ref (u2 16)])), ((u2 1), .inl (g.2.1 0, 16, .inl (fun _ => 0))), ((u2 2), .inl (g.2.1 0, 16, .inl (fun _ => 10))), ((u2 3), .inl (g.2.1 0, 16, .inl (fun _ => 0))), ((u2 4), .inl (g.2.1 0, 16, .inl (fun _ => 0))), ((u2 5), .inl (g.2.1 0, 8, .inl (fun _ => 100))), ((u2 6), .inl (g.2.1 0, 2, .inl (fun _ => 4))), ((u2 7), .inl (g.2.1 0, 8, .inl (fun _ => 0))), ((u2 8), .inl (g.2.1 0, 8, .inl (fun _ => 0))), ((u2 9), .inl (g.2.1 0, 8, .inl (fun _ => 0))), ((u2 10), .inl (g.2.1 0, 8, .inl (fun _ => 0))), ((u2 11), .inl (g.2.1 0, 16, .inl (fun _ => 0))), ((u2 12), .inl (g.2.1 0, 16, .inl (fun _ => 0))), ((u2 13), .inr (8, [.int 0, .ref (g.2.2 0), .int 0])), ((u2 14), .inr (7, [.ref (u2 15), .int 0, .int 0, .int 0])), ((u2 15), .inl (g.2.1 3, 16, .inl (fun _ => 0))), ((u2 16), .inl (g.2.1 1, 26, .inr (.inl (fun _ => 0)))), (q3, .inr (8, [.int 0, .ref (g.2.2 0), .int 0]))] := E
  refine wpF_X9_19 (w' := [(m0, .inr (9, [.int 0, .ref q1, .ref q3])), (q1, .inr (10, [.ref (u2 1), .ref (u2 2), .ref (u2 3), .ref (u2 4), .ref (u2 5), .ref (u2 6), .ref (u2 7), .ref (u2 8), .ref (u2 9), .ref (u2 10), .ref (u2 11), .ref (u2 12), .int 0, .int 0, .int 0, .ref (u2 13), .ref (u2 14), .ref (u2 16)])), ((u2 1), .inl (g.2.1 0, 16, .inl (fun _ => 0))), ((u2 2), .inl (g.2.1 0, 16, .inl (fun _ => 10))), ((u2 3), .inl (g.2.1 0, 16, .inl (fun _ => 0))), ((u2 4), .inl (g.2.1 0, 16, .inl (fun _ => 0))), ((u2 5), .inl (g.2.1 0, 8, .inl (fun _ => 100))), ((u2 6), .inl (g.2.1 0, 2, .inl (fun _ => 4))), ((u2 7), .inl (g.2.1 0, 8, .inl (fun _ => 0))), ((u2 8), .inl (g.2.1 0, 8, .inl (fun _ => 0))), ((u2 9), .inl (g.2.1 0, 8, .inl (fun _ => 0))), ((u2 10), .inl (g.2.1 0, 8, .inl (fun _ => 0))), ((u2 11), .inl (g.2.1 0, 16, .inl (fun _ => 0))), ((u2 12), .inl (g.2.1 0, 16, .inl (fun _ => 0))), ((u2 13), .inr (8, [.int 0, .ref (g.2.2 0), .int 0])), ((u2 14), .inr (7, [.ref (u2 15), .int 0, .int 0, .int 0])), ((u2 15), .inl (g.2.1 3, 16, .inl (fun _ => 0))), ((u2 16), .inl (g.2.1 1, 26, .inr (.inl (fun _ => 0)))), (q3, .inr (8, [.int 0, .ref (g.2.2 0), .int 0]))]) S hK E 0 hnm rfl rfl rfl (Nat.le_of_ble_eq_true rfl) rfl dX9_init_23 (fun H locs E => ?_)
  exact x_vret (fun k => match k with | 0 => q1 | 1 => (u2 1) | 2 => (u2 2) | 3 => (u2 3) | 4 => (u2 4) | 5 => (u2 5) | 6 => (u2 6) | 7 => (u2 7) | 8 => (u2 8) | 9 => (u2 9) | 10 => (u2 10) | 11 => (u2 11) | 12 => (u2 12) | 13 => (u2 13) | 14 => (u2 14) | 15 => (u2 15) | 16 => (u2 16) | _ => q3) S hr hlk hsz htt hK E dX9_init_26 trivial rfl ⟨Nat.le_of_ble_eq_true rfl, Nat.le_of_ble_eq_true rfl⟩ ⟨Nat.le_of_ble_eq_true rfl, Nat.le_of_ble_eq_true rfl⟩

