theorem d_L_law_0 : decode b_L_law 0 = .ok (.new 8, 3) := by decide +kernel
theorem d_L_law_3 : decode b_L_law 3 = .ok (.dup, 1) := by decide +kernel
theorem d_L_law_4 : decode b_L_law 4 = .ok (.invokespecial 41, 3) := by decide +kernel
theorem d_L_law_7 : decode b_L_law 7 = .ok (.astore_n 1, 1) := by decide +kernel
theorem d_L_law_8 : decode b_L_law 8 = .ok (.new 42, 3) := by decide +kernel
theorem d_L_law_11 : decode b_L_law 11 = .ok (.dup, 1) := by decide +kernel
theorem d_L_law_12 : decode b_L_law 12 = .ok (.invokespecial 44, 3) := by decide +kernel
theorem d_L_law_15 : decode b_L_law 15 = .ok (.astore_n 2, 1) := by decide +kernel
theorem d_L_law_16 : decode b_L_law 16 = .ok (.iconst 1, 1) := by decide +kernel
theorem d_L_law_17 : decode b_L_law 17 = .ok (.newarray .long, 2) := by decide +kernel
theorem d_L_law_19 : decode b_L_law 19 = .ok (.astore_n 3, 1) := by decide +kernel
theorem d_L_law_20 : decode b_L_law 20 = .ok (.iconst 0, 1) := by decide +kernel
theorem d_L_law_21 : decode b_L_law 21 = .ok (.istore 4, 2) := by decide +kernel
theorem d_L_law_23 : decode b_L_law 23 = .ok (.iload 4, 2) := by decide +kernel
theorem d_L_law_25 : decode b_L_law 25 = .ok (.aload_n 0, 1) := by decide +kernel
theorem d_L_law_26 : decode b_L_law 26 = .ok (.arraylength, 1) := by decide +kernel
theorem d_L_law_27 : decode b_L_law 27 = .ok (.iconst 5, 1) := by decide +kernel
theorem d_L_law_28 : decode b_L_law 28 = .ok (.isub, 1) := by decide +kernel
theorem d_L_law_29 : decode b_L_law 29 = .ok (.if_icmp .gt 766, 3) := by decide +kernel
theorem d_L_law_32 : decode b_L_law 32 = .ok (.aload_n 0, 1) := by decide +kernel
theorem d_L_law_33 : decode b_L_law 33 = .ok (.iload 4, 2) := by decide +kernel
theorem d_L_law_35 : decode b_L_law 35 = .ok (.iaload, 1) := by decide +kernel
theorem d_L_law_36 : decode b_L_law 36 = .ok (.bipush 15, 2) := by decide +kernel
theorem d_L_law_38 : decode b_L_law 38 = .ok (.iand, 1) := by decide +kernel
theorem d_L_law_39 : decode b_L_law 39 = .ok (.tableswitch 750 0 10 #[57, 113, 169, 280, 391, 510, 577, 590, 657, 724, 737], 57) := by decide +kernel
theorem d_L_law_96 : decode b_L_law 96 = .ok (.aload_n 1, 1) := by decide +kernel
theorem d_L_law_97 : decode b_L_law 97 = .ok (.aload_n 0, 1) := by decide +kernel
theorem d_L_law_98 : decode b_L_law 98 = .ok (.iload 4, 2) := by decide +kernel
theorem d_L_law_100 : decode b_L_law 100 = .ok (.iconst 1, 1) := by decide +kernel
theorem d_L_law_101 : decode b_L_law 101 = .ok (.iadd, 1) := by decide +kernel
theorem d_L_law_102 : decode b_L_law 102 = .ok (.iaload, 1) := by decide +kernel
theorem d_L_law_103 : decode b_L_law 103 = .ok (.aload_n 3, 1) := by decide +kernel
theorem d_L_law_104 : decode b_L_law 104 = .ok (.invokestatic 45, 3) := by decide +kernel
theorem d_L_law_107 : decode b_L_law 107 = .ok (.istore 5, 2) := by decide +kernel
theorem d_L_law_109 : decode b_L_law 109 = .ok (.aload_n 2, 1) := by decide +kernel
theorem d_L_law_110 : decode b_L_law 110 = .ok (.aload_n 0, 1) := by decide +kernel
theorem d_L_law_111 : decode b_L_law 111 = .ok (.iload 4, 2) := by decide +kernel
theorem d_L_law_113 : decode b_L_law 113 = .ok (.iconst 1, 1) := by decide +kernel
theorem d_L_law_114 : decode b_L_law 114 = .ok (.iadd, 1) := by decide +kernel
theorem d_L_law_115 : decode b_L_law 115 = .ok (.iaload, 1) := by decide +kernel
theorem d_L_law_116 : decode b_L_law 116 = .ok (.invokevirtual 50, 3) := by decide +kernel
theorem d_L_law_119 : decode b_L_law 119 = .ok (.istore 6, 2) := by decide +kernel
theorem d_L_law_121 : decode b_L_law 121 = .ok (.aload_n 2, 1) := by decide +kernel
theorem d_L_law_122 : decode b_L_law 122 = .ok (.invokevirtual 51, 3) := by decide +kernel
theorem d_L_law_125 : decode b_L_law 125 = .ok (.iload 5, 2) := by decide +kernel
theorem d_L_law_127 : decode b_L_law 127 = .ok (.if_icmp .eq 5, 3) := by decide +kernel
theorem d_L_law_130 : decode b_L_law 130 = .ok (.iconst 0, 1) := by decide +kernel
theorem d_L_law_131 : decode b_L_law 131 = .ok (.ireturn, 1) := by decide +kernel
theorem d_L_law_132 : decode b_L_law 132 = .ok (.iload 5, 2) := by decide +kernel
theorem d_L_law_134 : decode b_L_law 134 = .ok (.ifCond .ne 15, 3) := by decide +kernel
theorem d_L_law_137 : decode b_L_law 137 = .ok (.aload_n 3, 1) := by decide +kernel
theorem d_L_law_138 : decode b_L_law 138 = .ok (.iconst 0, 1) := by decide +kernel
theorem d_L_law_139 : decode b_L_law 139 = .ok (.laload, 1) := by decide +kernel
theorem d_L_law_140 : decode b_L_law 140 = .ok (.iload 6, 2) := by decide +kernel
theorem d_L_law_142 : decode b_L_law 142 = .ok (.i2l, 1) := by decide +kernel
theorem d_L_law_143 : decode b_L_law 143 = .ok (.lcmp, 1) := by decide +kernel
theorem d_L_law_144 : decode b_L_law 144 = .ok (.ifCond .eq 5, 3) := by decide +kernel
theorem d_L_law_147 : decode b_L_law 147 = .ok (.iconst 0, 1) := by decide +kernel
theorem d_L_law_148 : decode b_L_law 148 = .ok (.ireturn, 1) := by decide +kernel
theorem d_L_law_149 : decode b_L_law 149 = .ok (.goto 640, 3) := by decide +kernel
theorem d_L_law_152 : decode b_L_law 152 = .ok (.aload_n 1, 1) := by decide +kernel
theorem d_L_law_153 : decode b_L_law 153 = .ok (.aload_n 0, 1) := by decide +kernel
theorem d_L_law_154 : decode b_L_law 154 = .ok (.iload 4, 2) := by decide +kernel
theorem d_L_law_156 : decode b_L_law 156 = .ok (.iconst 1, 1) := by decide +kernel
theorem d_L_law_157 : decode b_L_law 157 = .ok (.iadd, 1) := by decide +kernel
theorem d_L_law_158 : decode b_L_law 158 = .ok (.iaload, 1) := by decide +kernel
theorem d_L_law_159 : decode b_L_law 159 = .ok (.aload_n 3, 1) := by decide +kernel
theorem d_L_law_160 : decode b_L_law 160 = .ok (.invokestatic 55, 3) := by decide +kernel
theorem d_L_law_163 : decode b_L_law 163 = .ok (.istore 5, 2) := by decide +kernel
theorem d_L_law_165 : decode b_L_law 165 = .ok (.aload_n 2, 1) := by decide +kernel
theorem d_L_law_166 : decode b_L_law 166 = .ok (.aload_n 0, 1) := by decide +kernel
theorem d_L_law_167 : decode b_L_law 167 = .ok (.iload 4, 2) := by decide +kernel
theorem d_L_law_169 : decode b_L_law 169 = .ok (.iconst 1, 1) := by decide +kernel
theorem d_L_law_170 : decode b_L_law 170 = .ok (.iadd, 1) := by decide +kernel
theorem d_L_law_171 : decode b_L_law 171 = .ok (.iaload, 1) := by decide +kernel
theorem d_L_law_172 : decode b_L_law 172 = .ok (.invokevirtual 57, 3) := by decide +kernel
theorem d_L_law_175 : decode b_L_law 175 = .ok (.istore 6, 2) := by decide +kernel
theorem d_L_law_177 : decode b_L_law 177 = .ok (.aload_n 2, 1) := by decide +kernel
theorem d_L_law_178 : decode b_L_law 178 = .ok (.invokevirtual 51, 3) := by decide +kernel
theorem d_L_law_181 : decode b_L_law 181 = .ok (.iload 5, 2) := by decide +kernel
theorem d_L_law_183 : decode b_L_law 183 = .ok (.if_icmp .eq 5, 3) := by decide +kernel
theorem d_L_law_186 : decode b_L_law 186 = .ok (.iconst 0, 1) := by decide +kernel
theorem d_L_law_187 : decode b_L_law 187 = .ok (.ireturn, 1) := by decide +kernel
theorem d_L_law_188 : decode b_L_law 188 = .ok (.iload 5, 2) := by decide +kernel
theorem d_L_law_190 : decode b_L_law 190 = .ok (.ifCond .ne 15, 3) := by decide +kernel
theorem d_L_law_193 : decode b_L_law 193 = .ok (.aload_n 3, 1) := by decide +kernel
theorem d_L_law_194 : decode b_L_law 194 = .ok (.iconst 0, 1) := by decide +kernel
theorem d_L_law_195 : decode b_L_law 195 = .ok (.laload, 1) := by decide +kernel
theorem d_L_law_196 : decode b_L_law 196 = .ok (.iload 6, 2) := by decide +kernel
theorem d_L_law_198 : decode b_L_law 198 = .ok (.i2l, 1) := by decide +kernel
theorem d_L_law_199 : decode b_L_law 199 = .ok (.lcmp, 1) := by decide +kernel
theorem d_L_law_200 : decode b_L_law 200 = .ok (.ifCond .eq 5, 3) := by decide +kernel
theorem d_L_law_203 : decode b_L_law 203 = .ok (.iconst 0, 1) := by decide +kernel
theorem d_L_law_204 : decode b_L_law 204 = .ok (.ireturn, 1) := by decide +kernel
theorem d_L_law_205 : decode b_L_law 205 = .ok (.goto 584, 3) := by decide +kernel
theorem d_L_law_208 : decode b_L_law 208 = .ok (.aload_n 1, 1) := by decide +kernel
theorem d_L_law_209 : decode b_L_law 209 = .ok (.aload_n 0, 1) := by decide +kernel
theorem d_L_law_210 : decode b_L_law 210 = .ok (.iload 4, 2) := by decide +kernel
theorem d_L_law_212 : decode b_L_law 212 = .ok (.iconst 1, 1) := by decide +kernel
theorem d_L_law_213 : decode b_L_law 213 = .ok (.iadd, 1) := by decide +kernel
theorem d_L_law_214 : decode b_L_law 214 = .ok (.iaload, 1) := by decide +kernel
theorem d_L_law_215 : decode b_L_law 215 = .ok (.aload_n 0, 1) := by decide +kernel
theorem d_L_law_216 : decode b_L_law 216 = .ok (.iload 4, 2) := by decide +kernel
theorem d_L_law_218 : decode b_L_law 218 = .ok (.iconst 2, 1) := by decide +kernel
theorem d_L_law_219 : decode b_L_law 219 = .ok (.iadd, 1) := by decide +kernel
theorem d_L_law_220 : decode b_L_law 220 = .ok (.iaload, 1) := by decide +kernel
theorem d_L_law_221 : decode b_L_law 221 = .ok (.aload_n 0, 1) := by decide +kernel
theorem d_L_law_222 : decode b_L_law 222 = .ok (.iload 4, 2) := by decide +kernel
theorem d_L_law_224 : decode b_L_law 224 = .ok (.iconst 3, 1) := by decide +kernel
theorem d_L_law_225 : decode b_L_law 225 = .ok (.iadd, 1) := by decide +kernel
theorem d_L_law_226 : decode b_L_law 226 = .ok (.iaload, 1) := by decide +kernel
theorem d_L_law_227 : decode b_L_law 227 = .ok (.i2l, 1) := by decide +kernel
theorem d_L_law_228 : decode b_L_law 228 = .ok (.bipush 32, 2) := by decide +kernel
theorem d_L_law_230 : decode b_L_law 230 = .ok (.lshl, 1) := by decide +kernel
theorem d_L_law_231 : decode b_L_law 231 = .ok (.aload_n 0, 1) := by decide +kernel
theorem d_L_law_232 : decode b_L_law 232 = .ok (.iload 4, 2) := by decide +kernel
theorem d_L_law_234 : decode b_L_law 234 = .ok (.iconst 4, 1) := by decide +kernel
theorem d_L_law_235 : decode b_L_law 235 = .ok (.iadd, 1) := by decide +kernel
theorem d_L_law_236 : decode b_L_law 236 = .ok (.iaload, 1) := by decide +kernel
theorem d_L_law_237 : decode b_L_law 237 = .ok (.i2l, 1) := by decide +kernel
theorem d_L_law_238 : decode b_L_law 238 = .ok (.ldc2_w 58, 3) := by decide +kernel
theorem d_L_law_241 : decode b_L_law 241 = .ok (.land, 1) := by decide +kernel
theorem d_L_law_242 : decode b_L_law 242 = .ok (.lor, 1) := by decide +kernel
theorem d_L_law_243 : decode b_L_law 243 = .ok (.aload_n 3, 1) := by decide +kernel
theorem d_L_law_244 : decode b_L_law 244 = .ok (.invokestatic 60, 3) := by decide +kernel
theorem d_L_law_247 : decode b_L_law 247 = .ok (.istore 5, 2) := by decide +kernel
theorem d_L_law_249 : decode b_L_law 249 = .ok (.aload_n 2, 1) := by decide +kernel
theorem d_L_law_250 : decode b_L_law 250 = .ok (.aload_n 0, 1) := by decide +kernel
theorem d_L_law_251 : decode b_L_law 251 = .ok (.iload 4, 2) := by decide +kernel
theorem d_L_law_253 : decode b_L_law 253 = .ok (.iconst 1, 1) := by decide +kernel
theorem d_L_law_254 : decode b_L_law 254 = .ok (.iadd, 1) := by decide +kernel
theorem d_L_law_255 : decode b_L_law 255 = .ok (.iaload, 1) := by decide +kernel
theorem d_L_law_256 : decode b_L_law 256 = .ok (.aload_n 0, 1) := by decide +kernel
theorem d_L_law_257 : decode b_L_law 257 = .ok (.iload 4, 2) := by decide +kernel
theorem d_L_law_259 : decode b_L_law 259 = .ok (.iconst 2, 1) := by decide +kernel
theorem d_L_law_260 : decode b_L_law 260 = .ok (.iadd, 1) := by decide +kernel
theorem d_L_law_261 : decode b_L_law 261 = .ok (.iaload, 1) := by decide +kernel
theorem d_L_law_262 : decode b_L_law 262 = .ok (.aload_n 0, 1) := by decide +kernel
theorem d_L_law_263 : decode b_L_law 263 = .ok (.iload 4, 2) := by decide +kernel
theorem d_L_law_265 : decode b_L_law 265 = .ok (.iconst 3, 1) := by decide +kernel
theorem d_L_law_266 : decode b_L_law 266 = .ok (.iadd, 1) := by decide +kernel
theorem d_L_law_267 : decode b_L_law 267 = .ok (.iaload, 1) := by decide +kernel
theorem d_L_law_268 : decode b_L_law 268 = .ok (.i2l, 1) := by decide +kernel
theorem d_L_law_269 : decode b_L_law 269 = .ok (.bipush 32, 2) := by decide +kernel
theorem d_L_law_271 : decode b_L_law 271 = .ok (.lshl, 1) := by decide +kernel
theorem d_L_law_272 : decode b_L_law 272 = .ok (.aload_n 0, 1) := by decide +kernel
theorem d_L_law_273 : decode b_L_law 273 = .ok (.iload 4, 2) := by decide +kernel
theorem d_L_law_275 : decode b_L_law 275 = .ok (.iconst 4, 1) := by decide +kernel
theorem d_L_law_276 : decode b_L_law 276 = .ok (.iadd, 1) := by decide +kernel
theorem d_L_law_277 : decode b_L_law 277 = .ok (.iaload, 1) := by decide +kernel
theorem d_L_law_278 : decode b_L_law 278 = .ok (.i2l, 1) := by decide +kernel
theorem d_L_law_279 : decode b_L_law 279 = .ok (.ldc2_w 58, 3) := by decide +kernel
theorem d_L_law_282 : decode b_L_law 282 = .ok (.land, 1) := by decide +kernel
theorem d_L_law_283 : decode b_L_law 283 = .ok (.lor, 1) := by decide +kernel
theorem d_L_law_284 : decode b_L_law 284 = .ok (.invokevirtual 63, 3) := by decide +kernel
theorem d_L_law_287 : decode b_L_law 287 = .ok (.lstore 6, 2) := by decide +kernel
theorem d_L_law_289 : decode b_L_law 289 = .ok (.aload_n 2, 1) := by decide +kernel
theorem d_L_law_290 : decode b_L_law 290 = .ok (.invokevirtual 51, 3) := by decide +kernel
theorem d_L_law_293 : decode b_L_law 293 = .ok (.iload 5, 2) := by decide +kernel
theorem d_L_law_295 : decode b_L_law 295 = .ok (.if_icmp .eq 5, 3) := by decide +kernel
theorem d_L_law_298 : decode b_L_law 298 = .ok (.iconst 0, 1) := by decide +kernel
theorem d_L_law_299 : decode b_L_law 299 = .ok (.ireturn, 1) := by decide +kernel
theorem d_L_law_300 : decode b_L_law 300 = .ok (.iload 5, 2) := by decide +kernel
theorem d_L_law_302 : decode b_L_law 302 = .ok (.ifCond .ne 14, 3) := by decide +kernel
theorem d_L_law_305 : decode b_L_law 305 = .ok (.aload_n 3, 1) := by decide +kernel
theorem d_L_law_306 : decode b_L_law 306 = .ok (.iconst 0, 1) := by decide +kernel
theorem d_L_law_307 : decode b_L_law 307 = .ok (.laload, 1) := by decide +kernel
theorem d_L_law_308 : decode b_L_law 308 = .ok (.lload 6, 2) := by decide +kernel
theorem d_L_law_310 : decode b_L_law 310 = .ok (.lcmp, 1) := by decide +kernel
theorem d_L_law_311 : decode b_L_law 311 = .ok (.ifCond .eq 5, 3) := by decide +kernel
theorem d_L_law_314 : decode b_L_law 314 = .ok (.iconst 0, 1) := by decide +kernel
theorem d_L_law_315 : decode b_L_law 315 = .ok (.ireturn, 1) := by decide +kernel
theorem d_L_law_316 : decode b_L_law 316 = .ok (.goto 473, 3) := by decide +kernel
theorem d_L_law_319 : decode b_L_law 319 = .ok (.aload_n 1, 1) := by decide +kernel
theorem d_L_law_320 : decode b_L_law 320 = .ok (.aload_n 0, 1) := by decide +kernel
theorem d_L_law_321 : decode b_L_law 321 = .ok (.iload 4, 2) := by decide +kernel
theorem d_L_law_323 : decode b_L_law 323 = .ok (.iconst 1, 1) := by decide +kernel
theorem d_L_law_324 : decode b_L_law 324 = .ok (.iadd, 1) := by decide +kernel
theorem d_L_law_325 : decode b_L_law 325 = .ok (.iaload, 1) := by decide +kernel
theorem d_L_law_326 : decode b_L_law 326 = .ok (.aload_n 0, 1) := by decide +kernel
theorem d_L_law_327 : decode b_L_law 327 = .ok (.iload 4, 2) := by decide +kernel
theorem d_L_law_329 : decode b_L_law 329 = .ok (.iconst 2, 1) := by decide +kernel
theorem d_L_law_330 : decode b_L_law 330 = .ok (.iadd, 1) := by decide +kernel
theorem d_L_law_331 : decode b_L_law 331 = .ok (.iaload, 1) := by decide +kernel
theorem d_L_law_332 : decode b_L_law 332 = .ok (.aload_n 0, 1) := by decide +kernel
theorem d_L_law_333 : decode b_L_law 333 = .ok (.iload 4, 2) := by decide +kernel
theorem d_L_law_335 : decode b_L_law 335 = .ok (.iconst 3, 1) := by decide +kernel
theorem d_L_law_336 : decode b_L_law 336 = .ok (.iadd, 1) := by decide +kernel
theorem d_L_law_337 : decode b_L_law 337 = .ok (.iaload, 1) := by decide +kernel
theorem d_L_law_338 : decode b_L_law 338 = .ok (.i2l, 1) := by decide +kernel
theorem d_L_law_339 : decode b_L_law 339 = .ok (.bipush 32, 2) := by decide +kernel
theorem d_L_law_341 : decode b_L_law 341 = .ok (.lshl, 1) := by decide +kernel
theorem d_L_law_342 : decode b_L_law 342 = .ok (.aload_n 0, 1) := by decide +kernel
theorem d_L_law_343 : decode b_L_law 343 = .ok (.iload 4, 2) := by decide +kernel
theorem d_L_law_345 : decode b_L_law 345 = .ok (.iconst 4, 1) := by decide +kernel
theorem d_L_law_346 : decode b_L_law 346 = .ok (.iadd, 1) := by decide +kernel
theorem d_L_law_347 : decode b_L_law 347 = .ok (.iaload, 1) := by decide +kernel
theorem d_L_law_348 : decode b_L_law 348 = .ok (.i2l, 1) := by decide +kernel
theorem d_L_law_349 : decode b_L_law 349 = .ok (.ldc2_w 58, 3) := by decide +kernel
theorem d_L_law_352 : decode b_L_law 352 = .ok (.land, 1) := by decide +kernel
theorem d_L_law_353 : decode b_L_law 353 = .ok (.lor, 1) := by decide +kernel
theorem d_L_law_354 : decode b_L_law 354 = .ok (.aload_n 3, 1) := by decide +kernel
theorem d_L_law_355 : decode b_L_law 355 = .ok (.invokestatic 64, 3) := by decide +kernel
theorem d_L_law_358 : decode b_L_law 358 = .ok (.istore 5, 2) := by decide +kernel
theorem d_L_law_360 : decode b_L_law 360 = .ok (.aload_n 2, 1) := by decide +kernel
theorem d_L_law_361 : decode b_L_law 361 = .ok (.aload_n 0, 1) := by decide +kernel
theorem d_L_law_362 : decode b_L_law 362 = .ok (.iload 4, 2) := by decide +kernel
theorem d_L_law_364 : decode b_L_law 364 = .ok (.iconst 1, 1) := by decide +kernel
theorem d_L_law_365 : decode b_L_law 365 = .ok (.iadd, 1) := by decide +kernel
theorem d_L_law_366 : decode b_L_law 366 = .ok (.iaload, 1) := by decide +kernel
theorem d_L_law_367 : decode b_L_law 367 = .ok (.aload_n 0, 1) := by decide +kernel
theorem d_L_law_368 : decode b_L_law 368 = .ok (.iload 4, 2) := by decide +kernel
theorem d_L_law_370 : decode b_L_law 370 = .ok (.iconst 2, 1) := by decide +kernel
theorem d_L_law_371 : decode b_L_law 371 = .ok (.iadd, 1) := by decide +kernel
theorem d_L_law_372 : decode b_L_law 372 = .ok (.iaload, 1) := by decide +kernel
theorem d_L_law_373 : decode b_L_law 373 = .ok (.aload_n 0, 1) := by decide +kernel
theorem d_L_law_374 : decode b_L_law 374 = .ok (.iload 4, 2) := by decide +kernel
theorem d_L_law_376 : decode b_L_law 376 = .ok (.iconst 3, 1) := by decide +kernel
theorem d_L_law_377 : decode b_L_law 377 = .ok (.iadd, 1) := by decide +kernel
theorem d_L_law_378 : decode b_L_law 378 = .ok (.iaload, 1) := by decide +kernel
theorem d_L_law_379 : decode b_L_law 379 = .ok (.i2l, 1) := by decide +kernel
theorem d_L_law_380 : decode b_L_law 380 = .ok (.bipush 32, 2) := by decide +kernel
theorem d_L_law_382 : decode b_L_law 382 = .ok (.lshl, 1) := by decide +kernel
theorem d_L_law_383 : decode b_L_law 383 = .ok (.aload_n 0, 1) := by decide +kernel
theorem d_L_law_384 : decode b_L_law 384 = .ok (.iload 4, 2) := by decide +kernel
theorem d_L_law_386 : decode b_L_law 386 = .ok (.iconst 4, 1) := by decide +kernel
theorem d_L_law_387 : decode b_L_law 387 = .ok (.iadd, 1) := by decide +kernel
theorem d_L_law_388 : decode b_L_law 388 = .ok (.iaload, 1) := by decide +kernel
theorem d_L_law_389 : decode b_L_law 389 = .ok (.i2l, 1) := by decide +kernel
theorem d_L_law_390 : decode b_L_law 390 = .ok (.ldc2_w 58, 3) := by decide +kernel
theorem d_L_law_393 : decode b_L_law 393 = .ok (.land, 1) := by decide +kernel
theorem d_L_law_394 : decode b_L_law 394 = .ok (.lor, 1) := by decide +kernel
theorem d_L_law_395 : decode b_L_law 395 = .ok (.invokevirtual 66, 3) := by decide +kernel
theorem d_L_law_398 : decode b_L_law 398 = .ok (.lstore 6, 2) := by decide +kernel
theorem d_L_law_400 : decode b_L_law 400 = .ok (.aload_n 2, 1) := by decide +kernel
theorem d_L_law_401 : decode b_L_law 401 = .ok (.invokevirtual 51, 3) := by decide +kernel
theorem d_L_law_404 : decode b_L_law 404 = .ok (.iload 5, 2) := by decide +kernel
theorem d_L_law_406 : decode b_L_law 406 = .ok (.if_icmp .eq 5, 3) := by decide +kernel
theorem d_L_law_409 : decode b_L_law 409 = .ok (.iconst 0, 1) := by decide +kernel
theorem d_L_law_410 : decode b_L_law 410 = .ok (.ireturn, 1) := by decide +kernel
theorem d_L_law_411 : decode b_L_law 411 = .ok (.iload 5, 2) := by decide +kernel
theorem d_L_law_413 : decode b_L_law 413 = .ok (.ifCond .ne 14, 3) := by decide +kernel
theorem d_L_law_416 : decode b_L_law 416 = .ok (.aload_n 3, 1) := by decide +kernel
theorem d_L_law_417 : decode b_L_law 417 = .ok (.iconst 0, 1) := by decide +kernel
theorem d_L_law_418 : decode b_L_law 418 = .ok (.laload, 1) := by decide +kernel
theorem d_L_law_419 : decode b_L_law 419 = .ok (.lload 6, 2) := by decide +kernel
theorem d_L_law_421 : decode b_L_law 421 = .ok (.lcmp, 1) := by decide +kernel
theorem d_L_law_422 : decode b_L_law 422 = .ok (.ifCond .eq 5, 3) := by decide +kernel
theorem d_L_law_425 : decode b_L_law 425 = .ok (.iconst 0, 1) := by decide +kernel
theorem d_L_law_426 : decode b_L_law 426 = .ok (.ireturn, 1) := by decide +kernel
theorem d_L_law_427 : decode b_L_law 427 = .ok (.goto 362, 3) := by decide +kernel
theorem d_L_law_430 : decode b_L_law 430 = .ok (.aload_n 1, 1) := by decide +kernel
theorem d_L_law_431 : decode b_L_law 431 = .ok (.aload_n 0, 1) := by decide +kernel
theorem d_L_law_432 : decode b_L_law 432 = .ok (.iload 4, 2) := by decide +kernel
theorem d_L_law_434 : decode b_L_law 434 = .ok (.iconst 1, 1) := by decide +kernel
theorem d_L_law_435 : decode b_L_law 435 = .ok (.iadd, 1) := by decide +kernel
theorem d_L_law_436 : decode b_L_law 436 = .ok (.iaload, 1) := by decide +kernel
theorem d_L_law_437 : decode b_L_law 437 = .ok (.aload_n 0, 1) := by decide +kernel
theorem d_L_law_438 : decode b_L_law 438 = .ok (.iload 4, 2) := by decide +kernel
theorem d_L_law_440 : decode b_L_law 440 = .ok (.iconst 2, 1) := by decide +kernel
theorem d_L_law_441 : decode b_L_law 441 = .ok (.iadd, 1) := by decide +kernel
theorem d_L_law_442 : decode b_L_law 442 = .ok (.iaload, 1) := by decide +kernel
theorem d_L_law_443 : decode b_L_law 443 = .ok (.aload_n 0, 1) := by decide +kernel
theorem d_L_law_444 : decode b_L_law 444 = .ok (.iload 4, 2) := by decide +kernel
theorem d_L_law_446 : decode b_L_law 446 = .ok (.iconst 3, 1) := by decide +kernel
theorem d_L_law_447 : decode b_L_law 447 = .ok (.iadd, 1) := by decide +kernel
theorem d_L_law_448 : decode b_L_law 448 = .ok (.iaload, 1) := by decide +kernel
theorem d_L_law_449 : decode b_L_law 449 = .ok (.i2l, 1) := by decide +kernel
theorem d_L_law_450 : decode b_L_law 450 = .ok (.bipush 32, 2) := by decide +kernel
theorem d_L_law_452 : decode b_L_law 452 = .ok (.lshl, 1) := by decide +kernel
theorem d_L_law_453 : decode b_L_law 453 = .ok (.aload_n 0, 1) := by decide +kernel
theorem d_L_law_454 : decode b_L_law 454 = .ok (.iload 4, 2) := by decide +kernel
theorem d_L_law_456 : decode b_L_law 456 = .ok (.iconst 4, 1) := by decide +kernel
theorem d_L_law_457 : decode b_L_law 457 = .ok (.iadd, 1) := by decide +kernel
theorem d_L_law_458 : decode b_L_law 458 = .ok (.iaload, 1) := by decide +kernel
theorem d_L_law_459 : decode b_L_law 459 = .ok (.i2l, 1) := by decide +kernel
theorem d_L_law_460 : decode b_L_law 460 = .ok (.ldc2_w 58, 3) := by decide +kernel
theorem d_L_law_463 : decode b_L_law 463 = .ok (.land, 1) := by decide +kernel
theorem d_L_law_464 : decode b_L_law 464 = .ok (.lor, 1) := by decide +kernel
theorem d_L_law_465 : decode b_L_law 465 = .ok (.aload_n 3, 1) := by decide +kernel
theorem d_L_law_466 : decode b_L_law 466 = .ok (.invokestatic 67, 3) := by decide +kernel
theorem d_L_law_469 : decode b_L_law 469 = .ok (.istore 5, 2) := by decide +kernel
theorem d_L_law_471 : decode b_L_law 471 = .ok (.aload_n 2, 1) := by decide +kernel
theorem d_L_law_472 : decode b_L_law 472 = .ok (.aload_n 0, 1) := by decide +kernel
theorem d_L_law_473 : decode b_L_law 473 = .ok (.iload 4, 2) := by decide +kernel
theorem d_L_law_475 : decode b_L_law 475 = .ok (.iconst 1, 1) := by decide +kernel
theorem d_L_law_476 : decode b_L_law 476 = .ok (.iadd, 1) := by decide +kernel
theorem d_L_law_477 : decode b_L_law 477 = .ok (.iaload, 1) := by decide +kernel
theorem d_L_law_478 : decode b_L_law 478 = .ok (.aload_n 0, 1) := by decide +kernel
theorem d_L_law_479 : decode b_L_law 479 = .ok (.iload 4, 2) := by decide +kernel
theorem d_L_law_481 : decode b_L_law 481 = .ok (.iconst 2, 1) := by decide +kernel
theorem d_L_law_482 : decode b_L_law 482 = .ok (.iadd, 1) := by decide +kernel
theorem d_L_law_483 : decode b_L_law 483 = .ok (.iaload, 1) := by decide +kernel
theorem d_L_law_484 : decode b_L_law 484 = .ok (.aload_n 0, 1) := by decide +kernel
theorem d_L_law_485 : decode b_L_law 485 = .ok (.iload 4, 2) := by decide +kernel
theorem d_L_law_487 : decode b_L_law 487 = .ok (.iconst 3, 1) := by decide +kernel
theorem d_L_law_488 : decode b_L_law 488 = .ok (.iadd, 1) := by decide +kernel
theorem d_L_law_489 : decode b_L_law 489 = .ok (.iaload, 1) := by decide +kernel
theorem d_L_law_490 : decode b_L_law 490 = .ok (.i2l, 1) := by decide +kernel
theorem d_L_law_491 : decode b_L_law 491 = .ok (.bipush 32, 2) := by decide +kernel
theorem d_L_law_493 : decode b_L_law 493 = .ok (.lshl, 1) := by decide +kernel
theorem d_L_law_494 : decode b_L_law 494 = .ok (.aload_n 0, 1) := by decide +kernel
theorem d_L_law_495 : decode b_L_law 495 = .ok (.iload 4, 2) := by decide +kernel
theorem d_L_law_497 : decode b_L_law 497 = .ok (.iconst 4, 1) := by decide +kernel
theorem d_L_law_498 : decode b_L_law 498 = .ok (.iadd, 1) := by decide +kernel
theorem d_L_law_499 : decode b_L_law 499 = .ok (.iaload, 1) := by decide +kernel
theorem d_L_law_500 : decode b_L_law 500 = .ok (.i2l, 1) := by decide +kernel
theorem d_L_law_501 : decode b_L_law 501 = .ok (.ldc2_w 58, 3) := by decide +kernel
theorem d_L_law_504 : decode b_L_law 504 = .ok (.land, 1) := by decide +kernel
theorem d_L_law_505 : decode b_L_law 505 = .ok (.lor, 1) := by decide +kernel
theorem d_L_law_506 : decode b_L_law 506 = .ok (.invokevirtual 69, 3) := by decide +kernel
theorem d_L_law_509 : decode b_L_law 509 = .ok (.istore 6, 2) := by decide +kernel
theorem d_L_law_511 : decode b_L_law 511 = .ok (.aload_n 2, 1) := by decide +kernel
theorem d_L_law_512 : decode b_L_law 512 = .ok (.invokevirtual 51, 3) := by decide +kernel
theorem d_L_law_515 : decode b_L_law 515 = .ok (.iload 5, 2) := by decide +kernel
theorem d_L_law_517 : decode b_L_law 517 = .ok (.if_icmp .eq 5, 3) := by decide +kernel
theorem d_L_law_520 : decode b_L_law 520 = .ok (.iconst 0, 1) := by decide +kernel
theorem d_L_law_521 : decode b_L_law 521 = .ok (.ireturn, 1) := by decide +kernel
theorem d_L_law_522 : decode b_L_law 522 = .ok (.iload 5, 2) := by decide +kernel
theorem d_L_law_524 : decode b_L_law 524 = .ok (.ifCond .ne 22, 3) := by decide +kernel
theorem d_L_law_527 : decode b_L_law 527 = .ok (.aload_n 3, 1) := by decide +kernel
theorem d_L_law_528 : decode b_L_law 528 = .ok (.iconst 0, 1) := by decide +kernel
theorem d_L_law_529 : decode b_L_law 529 = .ok (.laload, 1) := by decide +kernel
theorem d_L_law_530 : decode b_L_law 530 = .ok (.iload 6, 2) := by decide +kernel
theorem d_L_law_532 : decode b_L_law 532 = .ok (.ifCond .eq 7, 3) := by decide +kernel
theorem d_L_law_535 : decode b_L_law 535 = .ok (.lconst 1, 1) := by decide +kernel
theorem d_L_law_536 : decode b_L_law 536 = .ok (.goto 4, 3) := by decide +kernel
theorem d_L_law_539 : decode b_L_law 539 = .ok (.lconst 0, 1) := by decide +kernel
theorem d_L_law_540 : decode b_L_law 540 = .ok (.lcmp, 1) := by decide +kernel
theorem d_L_law_541 : decode b_L_law 541 = .ok (.ifCond .eq 5, 3) := by decide +kernel
theorem d_L_law_544 : decode b_L_law 544 = .ok (.iconst 0, 1) := by decide +kernel
theorem d_L_law_545 : decode b_L_law 545 = .ok (.ireturn, 1) := by decide +kernel
theorem d_L_law_546 : decode b_L_law 546 = .ok (.goto 243, 3) := by decide +kernel
theorem d_L_law_549 : decode b_L_law 549 = .ok (.aload_n 1, 1) := by decide +kernel
theorem d_L_law_550 : decode b_L_law 550 = .ok (.aload_n 0, 1) := by decide +kernel
theorem d_L_law_551 : decode b_L_law 551 = .ok (.iload 4, 2) := by decide +kernel
theorem d_L_law_553 : decode b_L_law 553 = .ok (.iconst 1, 1) := by decide +kernel
theorem d_L_law_554 : decode b_L_law 554 = .ok (.iadd, 1) := by decide +kernel
theorem d_L_law_555 : decode b_L_law 555 = .ok (.iaload, 1) := by decide +kernel
theorem d_L_law_556 : decode b_L_law 556 = .ok (.aload_n 0, 1) := by decide +kernel
theorem d_L_law_557 : decode b_L_law 557 = .ok (.iload 4, 2) := by decide +kernel
theorem d_L_law_559 : decode b_L_law 559 = .ok (.iconst 2, 1) := by decide +kernel
theorem d_L_law_560 : decode b_L_law 560 = .ok (.iadd, 1) := by decide +kernel
theorem d_L_law_561 : decode b_L_law 561 = .ok (.iaload, 1) := by decide +kernel
theorem d_L_law_562 : decode b_L_law 562 = .ok (.aload_n 3, 1) := by decide +kernel
theorem d_L_law_563 : decode b_L_law 563 = .ok (.invokestatic 70, 3) := by decide +kernel
theorem d_L_law_566 : decode b_L_law 566 = .ok (.istore 5, 2) := by decide +kernel
theorem d_L_law_568 : decode b_L_law 568 = .ok (.aload_n 2, 1) := by decide +kernel
theorem d_L_law_569 : decode b_L_law 569 = .ok (.aload_n 0, 1) := by decide +kernel
theorem d_L_law_570 : decode b_L_law 570 = .ok (.iload 4, 2) := by decide +kernel
theorem d_L_law_572 : decode b_L_law 572 = .ok (.iconst 1, 1) := by decide +kernel
theorem d_L_law_573 : decode b_L_law 573 = .ok (.iadd, 1) := by decide +kernel
theorem d_L_law_574 : decode b_L_law 574 = .ok (.iaload, 1) := by decide +kernel
theorem d_L_law_575 : decode b_L_law 575 = .ok (.aload_n 0, 1) := by decide +kernel
theorem d_L_law_576 : decode b_L_law 576 = .ok (.iload 4, 2) := by decide +kernel
theorem d_L_law_578 : decode b_L_law 578 = .ok (.iconst 2, 1) := by decide +kernel
theorem d_L_law_579 : decode b_L_law 579 = .ok (.iadd, 1) := by decide +kernel
theorem d_L_law_580 : decode b_L_law 580 = .ok (.iaload, 1) := by decide +kernel
theorem d_L_law_581 : decode b_L_law 581 = .ok (.invokevirtual 73, 3) := by decide +kernel
theorem d_L_law_584 : decode b_L_law 584 = .ok (.lstore 6, 2) := by decide +kernel
theorem d_L_law_586 : decode b_L_law 586 = .ok (.aload_n 2, 1) := by decide +kernel
theorem d_L_law_587 : decode b_L_law 587 = .ok (.invokevirtual 51, 3) := by decide +kernel
theorem d_L_law_590 : decode b_L_law 590 = .ok (.iload 5, 2) := by decide +kernel
theorem d_L_law_592 : decode b_L_law 592 = .ok (.if_icmp .eq 5, 3) := by decide +kernel
theorem d_L_law_595 : decode b_L_law 595 = .ok (.iconst 0, 1) := by decide +kernel
theorem d_L_law_596 : decode b_L_law 596 = .ok (.ireturn, 1) := by decide +kernel
theorem d_L_law_597 : decode b_L_law 597 = .ok (.iload 5, 2) := by decide +kernel
theorem d_L_law_599 : decode b_L_law 599 = .ok (.ifCond .ne 14, 3) := by decide +kernel
theorem d_L_law_602 : decode b_L_law 602 = .ok (.aload_n 3, 1) := by decide +kernel
theorem d_L_law_603 : decode b_L_law 603 = .ok (.iconst 0, 1) := by decide +kernel
theorem d_L_law_604 : decode b_L_law 604 = .ok (.laload, 1) := by decide +kernel
theorem d_L_law_605 : decode b_L_law 605 = .ok (.lload 6, 2) := by decide +kernel
theorem d_L_law_607 : decode b_L_law 607 = .ok (.lcmp, 1) := by decide +kernel
theorem d_L_law_608 : decode b_L_law 608 = .ok (.ifCond .eq 5, 3) := by decide +kernel
theorem d_L_law_611 : decode b_L_law 611 = .ok (.iconst 0, 1) := by decide +kernel
theorem d_L_law_612 : decode b_L_law 612 = .ok (.ireturn, 1) := by decide +kernel
theorem d_L_law_613 : decode b_L_law 613 = .ok (.goto 176, 3) := by decide +kernel
theorem d_L_law_616 : decode b_L_law 616 = .ok (.aload_n 1, 1) := by decide +kernel
theorem d_L_law_617 : decode b_L_law 617 = .ok (.invokevirtual 74, 3) := by decide +kernel
theorem d_L_law_620 : decode b_L_law 620 = .ok (.aload_n 2, 1) := by decide +kernel
theorem d_L_law_621 : decode b_L_law 621 = .ok (.invokevirtual 77, 3) := by decide +kernel
theorem d_L_law_624 : decode b_L_law 624 = .ok (.if_icmp .eq 165, 3) := by decide +kernel
theorem d_L_law_627 : decode b_L_law 627 = .ok (.iconst 0, 1) := by decide +kernel
theorem d_L_law_628 : decode b_L_law 628 = .ok (.ireturn, 1) := by decide +kernel
theorem d_L_law_629 : decode b_L_law 629 = .ok (.aload_n 1, 1) := by decide +kernel
theorem d_L_law_630 : decode b_L_law 630 = .ok (.aload_n 0, 1) := by decide +kernel
theorem d_L_law_631 : decode b_L_law 631 = .ok (.iload 4, 2) := by decide +kernel
theorem d_L_law_633 : decode b_L_law 633 = .ok (.iconst 1, 1) := by decide +kernel
theorem d_L_law_634 : decode b_L_law 634 = .ok (.iadd, 1) := by decide +kernel
theorem d_L_law_635 : decode b_L_law 635 = .ok (.iaload, 1) := by decide +kernel
theorem d_L_law_636 : decode b_L_law 636 = .ok (.aload_n 0, 1) := by decide +kernel
theorem d_L_law_637 : decode b_L_law 637 = .ok (.iload 4, 2) := by decide +kernel
theorem d_L_law_639 : decode b_L_law 639 = .ok (.iconst 2, 1) := by decide +kernel
theorem d_L_law_640 : decode b_L_law 640 = .ok (.iadd, 1) := by decide +kernel
theorem d_L_law_641 : decode b_L_law 641 = .ok (.iaload, 1) := by decide +kernel
theorem d_L_law_642 : decode b_L_law 642 = .ok (.aload_n 3, 1) := by decide +kernel
theorem d_L_law_643 : decode b_L_law 643 = .ok (.invokestatic 78, 3) := by decide +kernel
theorem d_L_law_646 : decode b_L_law 646 = .ok (.istore 5, 2) := by decide +kernel
theorem d_L_law_648 : decode b_L_law 648 = .ok (.aload_n 2, 1) := by decide +kernel
theorem d_L_law_649 : decode b_L_law 649 = .ok (.aload_n 0, 1) := by decide +kernel
theorem d_L_law_650 : decode b_L_law 650 = .ok (.iload 4, 2) := by decide +kernel
theorem d_L_law_652 : decode b_L_law 652 = .ok (.iconst 1, 1) := by decide +kernel
theorem d_L_law_653 : decode b_L_law 653 = .ok (.iadd, 1) := by decide +kernel
theorem d_L_law_654 : decode b_L_law 654 = .ok (.iaload, 1) := by decide +kernel
theorem d_L_law_655 : decode b_L_law 655 = .ok (.aload_n 0, 1) := by decide +kernel
theorem d_L_law_656 : decode b_L_law 656 = .ok (.iload 4, 2) := by decide +kernel
theorem d_L_law_658 : decode b_L_law 658 = .ok (.iconst 2, 1) := by decide +kernel
theorem d_L_law_659 : decode b_L_law 659 = .ok (.iadd, 1) := by decide +kernel
theorem d_L_law_660 : decode b_L_law 660 = .ok (.iaload, 1) := by decide +kernel
theorem d_L_law_661 : decode b_L_law 661 = .ok (.invokevirtual 80, 3) := by decide +kernel
theorem d_L_law_664 : decode b_L_law 664 = .ok (.lstore 6, 2) := by decide +kernel
theorem d_L_law_666 : decode b_L_law 666 = .ok (.aload_n 2, 1) := by decide +kernel
theorem d_L_law_667 : decode b_L_law 667 = .ok (.invokevirtual 51, 3) := by decide +kernel
theorem d_L_law_670 : decode b_L_law 670 = .ok (.iload 5, 2) := by decide +kernel
theorem d_L_law_672 : decode b_L_law 672 = .ok (.if_icmp .eq 5, 3) := by decide +kernel
theorem d_L_law_675 : decode b_L_law 675 = .ok (.iconst 0, 1) := by decide +kernel
theorem d_L_law_676 : decode b_L_law 676 = .ok (.ireturn, 1) := by decide +kernel
theorem d_L_law_677 : decode b_L_law 677 = .ok (.iload 5, 2) := by decide +kernel
theorem d_L_law_679 : decode b_L_law 679 = .ok (.ifCond .ne 14, 3) := by decide +kernel
theorem d_L_law_682 : decode b_L_law 682 = .ok (.aload_n 3, 1) := by decide +kernel
theorem d_L_law_683 : decode b_L_law 683 = .ok (.iconst 0, 1) := by decide +kernel
theorem d_L_law_684 : decode b_L_law 684 = .ok (.laload, 1) := by decide +kernel
theorem d_L_law_685 : decode b_L_law 685 = .ok (.lload 6, 2) := by decide +kernel
theorem d_L_law_687 : decode b_L_law 687 = .ok (.lcmp, 1) := by decide +kernel
theorem d_L_law_688 : decode b_L_law 688 = .ok (.ifCond .eq 5, 3) := by decide +kernel
theorem d_L_law_691 : decode b_L_law 691 = .ok (.iconst 0, 1) := by decide +kernel
theorem d_L_law_692 : decode b_L_law 692 = .ok (.ireturn, 1) := by decide +kernel
theorem d_L_law_693 : decode b_L_law 693 = .ok (.goto 96, 3) := by decide +kernel
theorem d_L_law_696 : decode b_L_law 696 = .ok (.aload_n 1, 1) := by decide +kernel
theorem d_L_law_697 : decode b_L_law 697 = .ok (.aload_n 0, 1) := by decide +kernel
theorem d_L_law_698 : decode b_L_law 698 = .ok (.iload 4, 2) := by decide +kernel
theorem d_L_law_700 : decode b_L_law 700 = .ok (.iconst 1, 1) := by decide +kernel
theorem d_L_law_701 : decode b_L_law 701 = .ok (.iadd, 1) := by decide +kernel
theorem d_L_law_702 : decode b_L_law 702 = .ok (.iaload, 1) := by decide +kernel
theorem d_L_law_703 : decode b_L_law 703 = .ok (.aload_n 0, 1) := by decide +kernel
theorem d_L_law_704 : decode b_L_law 704 = .ok (.iload 4, 2) := by decide +kernel
theorem d_L_law_706 : decode b_L_law 706 = .ok (.iconst 2, 1) := by decide +kernel
theorem d_L_law_707 : decode b_L_law 707 = .ok (.iadd, 1) := by decide +kernel
theorem d_L_law_708 : decode b_L_law 708 = .ok (.iaload, 1) := by decide +kernel
theorem d_L_law_709 : decode b_L_law 709 = .ok (.aload_n 3, 1) := by decide +kernel
theorem d_L_law_710 : decode b_L_law 710 = .ok (.invokestatic 81, 3) := by decide +kernel
theorem d_L_law_713 : decode b_L_law 713 = .ok (.istore 5, 2) := by decide +kernel
theorem d_L_law_715 : decode b_L_law 715 = .ok (.aload_n 2, 1) := by decide +kernel
theorem d_L_law_716 : decode b_L_law 716 = .ok (.aload_n 0, 1) := by decide +kernel
theorem d_L_law_717 : decode b_L_law 717 = .ok (.iload 4, 2) := by decide +kernel
theorem d_L_law_719 : decode b_L_law 719 = .ok (.iconst 1, 1) := by decide +kernel
theorem d_L_law_720 : decode b_L_law 720 = .ok (.iadd, 1) := by decide +kernel
theorem d_L_law_721 : decode b_L_law 721 = .ok (.iaload, 1) := by decide +kernel
theorem d_L_law_722 : decode b_L_law 722 = .ok (.aload_n 0, 1) := by decide +kernel
theorem d_L_law_723 : decode b_L_law 723 = .ok (.iload 4, 2) := by decide +kernel
theorem d_L_law_725 : decode b_L_law 725 = .ok (.iconst 2, 1) := by decide +kernel
theorem d_L_law_726 : decode b_L_law 726 = .ok (.iadd, 1) := by decide +kernel
theorem d_L_law_727 : decode b_L_law 727 = .ok (.iaload, 1) := by decide +kernel
theorem d_L_law_728 : decode b_L_law 728 = .ok (.invokevirtual 83, 3) := by decide +kernel
theorem d_L_law_731 : decode b_L_law 731 = .ok (.lstore 6, 2) := by decide +kernel
theorem d_L_law_733 : decode b_L_law 733 = .ok (.aload_n 2, 1) := by decide +kernel
theorem d_L_law_734 : decode b_L_law 734 = .ok (.invokevirtual 51, 3) := by decide +kernel
theorem d_L_law_737 : decode b_L_law 737 = .ok (.iload 5, 2) := by decide +kernel
theorem d_L_law_739 : decode b_L_law 739 = .ok (.if_icmp .eq 5, 3) := by decide +kernel
theorem d_L_law_742 : decode b_L_law 742 = .ok (.iconst 0, 1) := by decide +kernel
theorem d_L_law_743 : decode b_L_law 743 = .ok (.ireturn, 1) := by decide +kernel
theorem d_L_law_744 : decode b_L_law 744 = .ok (.iload 5, 2) := by decide +kernel
theorem d_L_law_746 : decode b_L_law 746 = .ok (.ifCond .ne 14, 3) := by decide +kernel
theorem d_L_law_749 : decode b_L_law 749 = .ok (.aload_n 3, 1) := by decide +kernel
theorem d_L_law_750 : decode b_L_law 750 = .ok (.iconst 0, 1) := by decide +kernel
theorem d_L_law_751 : decode b_L_law 751 = .ok (.laload, 1) := by decide +kernel
theorem d_L_law_752 : decode b_L_law 752 = .ok (.lload 6, 2) := by decide +kernel
theorem d_L_law_754 : decode b_L_law 754 = .ok (.lcmp, 1) := by decide +kernel
theorem d_L_law_755 : decode b_L_law 755 = .ok (.ifCond .eq 5, 3) := by decide +kernel
theorem d_L_law_758 : decode b_L_law 758 = .ok (.iconst 0, 1) := by decide +kernel
theorem d_L_law_759 : decode b_L_law 759 = .ok (.ireturn, 1) := by decide +kernel
theorem d_L_law_760 : decode b_L_law 760 = .ok (.goto 29, 3) := by decide +kernel
theorem d_L_law_763 : decode b_L_law 763 = .ok (.aload_n 1, 1) := by decide +kernel
theorem d_L_law_764 : decode b_L_law 764 = .ok (.invokevirtual 84, 3) := by decide +kernel
theorem d_L_law_767 : decode b_L_law 767 = .ok (.aload_n 2, 1) := by decide +kernel
theorem d_L_law_768 : decode b_L_law 768 = .ok (.invokevirtual 87, 3) := by decide +kernel
theorem d_L_law_771 : decode b_L_law 771 = .ok (.if_icmp .eq 18, 3) := by decide +kernel
theorem d_L_law_774 : decode b_L_law 774 = .ok (.iconst 0, 1) := by decide +kernel
theorem d_L_law_775 : decode b_L_law 775 = .ok (.ireturn, 1) := by decide +kernel
theorem d_L_law_776 : decode b_L_law 776 = .ok (.aload_n 1, 1) := by decide +kernel
theorem d_L_law_777 : decode b_L_law 777 = .ok (.invokevirtual 88, 3) := by decide +kernel
theorem d_L_law_780 : decode b_L_law 780 = .ok (.aload_n 2, 1) := by decide +kernel
theorem d_L_law_781 : decode b_L_law 781 = .ok (.invokevirtual 91, 3) := by decide +kernel
theorem d_L_law_784 : decode b_L_law 784 = .ok (.if_icmp .eq 5, 3) := by decide +kernel
theorem d_L_law_787 : decode b_L_law 787 = .ok (.iconst 0, 1) := by decide +kernel
theorem d_L_law_788 : decode b_L_law 788 = .ok (.ireturn, 1) := by decide +kernel
theorem d_L_law_789 : decode b_L_law 789 = .ok (.iinc 4 5, 3) := by decide +kernel
theorem d_L_law_792 : decode b_L_law 792 = .ok (.goto (-769), 3) := by decide +kernel
theorem d_L_law_795 : decode b_L_law 795 = .ok (.iconst 1, 1) := by decide +kernel
theorem d_L_law_796 : decode b_L_law 796 = .ok (.ireturn, 1) := by decide +kernel
