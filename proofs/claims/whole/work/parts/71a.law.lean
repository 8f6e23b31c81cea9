theorem d_Lw_law_0 : decode b_Lw_law 0 = .ok (.new 8, 3) := by decide +kernel
theorem d_Lw_law_3 : decode b_Lw_law 3 = .ok (.dup, 1) := by decide +kernel
theorem d_Lw_law_4 : decode b_Lw_law 4 = .ok (.invokespecial 64, 3) := by decide +kernel
theorem d_Lw_law_7 : decode b_Lw_law 7 = .ok (.astore_n 1, 1) := by decide +kernel
theorem d_Lw_law_8 : decode b_Lw_law 8 = .ok (.new 65, 3) := by decide +kernel
theorem d_Lw_law_11 : decode b_Lw_law 11 = .ok (.dup, 1) := by decide +kernel
theorem d_Lw_law_12 : decode b_Lw_law 12 = .ok (.invokespecial 67, 3) := by decide +kernel
theorem d_Lw_law_15 : decode b_Lw_law 15 = .ok (.astore_n 2, 1) := by decide +kernel
theorem d_Lw_law_16 : decode b_Lw_law 16 = .ok (.iconst 1, 1) := by decide +kernel
theorem d_Lw_law_17 : decode b_Lw_law 17 = .ok (.newarray .long, 2) := by decide +kernel
theorem d_Lw_law_19 : decode b_Lw_law 19 = .ok (.astore_n 3, 1) := by decide +kernel
theorem d_Lw_law_20 : decode b_Lw_law 20 = .ok (.iconst 0, 1) := by decide +kernel
theorem d_Lw_law_21 : decode b_Lw_law 21 = .ok (.istore 4, 2) := by decide +kernel
theorem d_Lw_law_23 : decode b_Lw_law 23 = .ok (.iload 4, 2) := by decide +kernel
theorem d_Lw_law_25 : decode b_Lw_law 25 = .ok (.aload_n 0, 1) := by decide +kernel
theorem d_Lw_law_26 : decode b_Lw_law 26 = .ok (.arraylength, 1) := by decide +kernel
theorem d_Lw_law_27 : decode b_Lw_law 27 = .ok (.iconst 5, 1) := by decide +kernel
theorem d_Lw_law_28 : decode b_Lw_law 28 = .ok (.isub, 1) := by decide +kernel
theorem d_Lw_law_29 : decode b_Lw_law 29 = .ok (.if_icmp .gt 855, 3) := by decide +kernel
theorem d_Lw_law_32 : decode b_Lw_law 32 = .ok (.aload_n 0, 1) := by decide +kernel
theorem d_Lw_law_33 : decode b_Lw_law 33 = .ok (.iload 4, 2) := by decide +kernel
theorem d_Lw_law_35 : decode b_Lw_law 35 = .ok (.iaload, 1) := by decide +kernel
theorem d_Lw_law_36 : decode b_Lw_law 36 = .ok (.bipush 31, 2) := by decide +kernel
theorem d_Lw_law_38 : decode b_Lw_law 38 = .ok (.iand, 1) := by decide +kernel
theorem d_Lw_law_39 : decode b_Lw_law 39 = .ok (.tableswitch 839 0 16 #[81, 129, 221, 269, 293, 306, 350, 422, 446, 459, 527, 578, 602, 646, 702, 715, 783], 81) := by decide +kernel
theorem d_Lw_law_120 : decode b_Lw_law 120 = .ok (.aload_n 1, 1) := by decide +kernel
theorem d_Lw_law_121 : decode b_Lw_law 121 = .ok (.aload_n 0, 1) := by decide +kernel
theorem d_Lw_law_122 : decode b_Lw_law 122 = .ok (.iload 4, 2) := by decide +kernel
theorem d_Lw_law_124 : decode b_Lw_law 124 = .ok (.iconst 1, 1) := by decide +kernel
theorem d_Lw_law_125 : decode b_Lw_law 125 = .ok (.iadd, 1) := by decide +kernel
theorem d_Lw_law_126 : decode b_Lw_law 126 = .ok (.iaload, 1) := by decide +kernel
theorem d_Lw_law_127 : decode b_Lw_law 127 = .ok (.aload_n 0, 1) := by decide +kernel
theorem d_Lw_law_128 : decode b_Lw_law 128 = .ok (.iload 4, 2) := by decide +kernel
theorem d_Lw_law_130 : decode b_Lw_law 130 = .ok (.iconst 2, 1) := by decide +kernel
theorem d_Lw_law_131 : decode b_Lw_law 131 = .ok (.iadd, 1) := by decide +kernel
theorem d_Lw_law_132 : decode b_Lw_law 132 = .ok (.iaload, 1) := by decide +kernel
theorem d_Lw_law_133 : decode b_Lw_law 133 = .ok (.invokestatic 68, 3) := by decide +kernel
theorem d_Lw_law_136 : decode b_Lw_law 136 = .ok (.istore 5, 2) := by decide +kernel
theorem d_Lw_law_138 : decode b_Lw_law 138 = .ok (.aload_n 2, 1) := by decide +kernel
theorem d_Lw_law_139 : decode b_Lw_law 139 = .ok (.aload_n 0, 1) := by decide +kernel
theorem d_Lw_law_140 : decode b_Lw_law 140 = .ok (.iload 4, 2) := by decide +kernel
theorem d_Lw_law_142 : decode b_Lw_law 142 = .ok (.iconst 1, 1) := by decide +kernel
theorem d_Lw_law_143 : decode b_Lw_law 143 = .ok (.iadd, 1) := by decide +kernel
theorem d_Lw_law_144 : decode b_Lw_law 144 = .ok (.iaload, 1) := by decide +kernel
theorem d_Lw_law_145 : decode b_Lw_law 145 = .ok (.aload_n 0, 1) := by decide +kernel
theorem d_Lw_law_146 : decode b_Lw_law 146 = .ok (.iload 4, 2) := by decide +kernel
theorem d_Lw_law_148 : decode b_Lw_law 148 = .ok (.iconst 2, 1) := by decide +kernel
theorem d_Lw_law_149 : decode b_Lw_law 149 = .ok (.iadd, 1) := by decide +kernel
theorem d_Lw_law_150 : decode b_Lw_law 150 = .ok (.iaload, 1) := by decide +kernel
theorem d_Lw_law_151 : decode b_Lw_law 151 = .ok (.invokevirtual 73, 3) := by decide +kernel
theorem d_Lw_law_154 : decode b_Lw_law 154 = .ok (.aload_n 2, 1) := by decide +kernel
theorem d_Lw_law_155 : decode b_Lw_law 155 = .ok (.invokevirtual 74, 3) := by decide +kernel
theorem d_Lw_law_158 : decode b_Lw_law 158 = .ok (.iload 5, 2) := by decide +kernel
theorem d_Lw_law_160 : decode b_Lw_law 160 = .ok (.if_icmp .eq 5, 3) := by decide +kernel
theorem d_Lw_law_163 : decode b_Lw_law 163 = .ok (.iconst 0, 1) := by decide +kernel
theorem d_Lw_law_164 : decode b_Lw_law 164 = .ok (.ireturn, 1) := by decide +kernel
theorem d_Lw_law_165 : decode b_Lw_law 165 = .ok (.goto 713, 3) := by decide +kernel
theorem d_Lw_law_168 : decode b_Lw_law 168 = .ok (.aload_n 1, 1) := by decide +kernel
theorem d_Lw_law_169 : decode b_Lw_law 169 = .ok (.aload_n 0, 1) := by decide +kernel
theorem d_Lw_law_170 : decode b_Lw_law 170 = .ok (.iload 4, 2) := by decide +kernel
theorem d_Lw_law_172 : decode b_Lw_law 172 = .ok (.iconst 1, 1) := by decide +kernel
theorem d_Lw_law_173 : decode b_Lw_law 173 = .ok (.iadd, 1) := by decide +kernel
theorem d_Lw_law_174 : decode b_Lw_law 174 = .ok (.iaload, 1) := by decide +kernel
theorem d_Lw_law_175 : decode b_Lw_law 175 = .ok (.aload_n 0, 1) := by decide +kernel
theorem d_Lw_law_176 : decode b_Lw_law 176 = .ok (.iload 4, 2) := by decide +kernel
theorem d_Lw_law_178 : decode b_Lw_law 178 = .ok (.iconst 2, 1) := by decide +kernel
theorem d_Lw_law_179 : decode b_Lw_law 179 = .ok (.iadd, 1) := by decide +kernel
theorem d_Lw_law_180 : decode b_Lw_law 180 = .ok (.iaload, 1) := by decide +kernel
theorem d_Lw_law_181 : decode b_Lw_law 181 = .ok (.aload_n 0, 1) := by decide +kernel
theorem d_Lw_law_182 : decode b_Lw_law 182 = .ok (.iload 4, 2) := by decide +kernel
theorem d_Lw_law_184 : decode b_Lw_law 184 = .ok (.iconst 3, 1) := by decide +kernel
theorem d_Lw_law_185 : decode b_Lw_law 185 = .ok (.iadd, 1) := by decide +kernel
theorem d_Lw_law_186 : decode b_Lw_law 186 = .ok (.iaload, 1) := by decide +kernel
theorem d_Lw_law_187 : decode b_Lw_law 187 = .ok (.aload_n 0, 1) := by decide +kernel
theorem d_Lw_law_188 : decode b_Lw_law 188 = .ok (.iload 4, 2) := by decide +kernel
theorem d_Lw_law_190 : decode b_Lw_law 190 = .ok (.iconst 4, 1) := by decide +kernel
theorem d_Lw_law_191 : decode b_Lw_law 191 = .ok (.iadd, 1) := by decide +kernel
theorem d_Lw_law_192 : decode b_Lw_law 192 = .ok (.iaload, 1) := by decide +kernel
theorem d_Lw_law_193 : decode b_Lw_law 193 = .ok (.aload_n 3, 1) := by decide +kernel
theorem d_Lw_law_194 : decode b_Lw_law 194 = .ok (.invokestatic 77, 3) := by decide +kernel
theorem d_Lw_law_197 : decode b_Lw_law 197 = .ok (.istore 5, 2) := by decide +kernel
theorem d_Lw_law_199 : decode b_Lw_law 199 = .ok (.aload_n 2, 1) := by decide +kernel
theorem d_Lw_law_200 : decode b_Lw_law 200 = .ok (.aload_n 0, 1) := by decide +kernel
theorem d_Lw_law_201 : decode b_Lw_law 201 = .ok (.iload 4, 2) := by decide +kernel
theorem d_Lw_law_203 : decode b_Lw_law 203 = .ok (.iconst 1, 1) := by decide +kernel
theorem d_Lw_law_204 : decode b_Lw_law 204 = .ok (.iadd, 1) := by decide +kernel
theorem d_Lw_law_205 : decode b_Lw_law 205 = .ok (.iaload, 1) := by decide +kernel
theorem d_Lw_law_206 : decode b_Lw_law 206 = .ok (.aload_n 0, 1) := by decide +kernel
theorem d_Lw_law_207 : decode b_Lw_law 207 = .ok (.iload 4, 2) := by decide +kernel
theorem d_Lw_law_209 : decode b_Lw_law 209 = .ok (.iconst 2, 1) := by decide +kernel
theorem d_Lw_law_210 : decode b_Lw_law 210 = .ok (.iadd, 1) := by decide +kernel
theorem d_Lw_law_211 : decode b_Lw_law 211 = .ok (.iaload, 1) := by decide +kernel
theorem d_Lw_law_212 : decode b_Lw_law 212 = .ok (.aload_n 0, 1) := by decide +kernel
theorem d_Lw_law_213 : decode b_Lw_law 213 = .ok (.iload 4, 2) := by decide +kernel
theorem d_Lw_law_215 : decode b_Lw_law 215 = .ok (.iconst 3, 1) := by decide +kernel
theorem d_Lw_law_216 : decode b_Lw_law 216 = .ok (.iadd, 1) := by decide +kernel
theorem d_Lw_law_217 : decode b_Lw_law 217 = .ok (.iaload, 1) := by decide +kernel
theorem d_Lw_law_218 : decode b_Lw_law 218 = .ok (.aload_n 0, 1) := by decide +kernel
theorem d_Lw_law_219 : decode b_Lw_law 219 = .ok (.iload 4, 2) := by decide +kernel
theorem d_Lw_law_221 : decode b_Lw_law 221 = .ok (.iconst 4, 1) := by decide +kernel
theorem d_Lw_law_222 : decode b_Lw_law 222 = .ok (.iadd, 1) := by decide +kernel
theorem d_Lw_law_223 : decode b_Lw_law 223 = .ok (.iaload, 1) := by decide +kernel
theorem d_Lw_law_224 : decode b_Lw_law 224 = .ok (.invokevirtual 80, 3) := by decide +kernel
theorem d_Lw_law_227 : decode b_Lw_law 227 = .ok (.istore 6, 2) := by decide +kernel
theorem d_Lw_law_229 : decode b_Lw_law 229 = .ok (.aload_n 2, 1) := by decide +kernel
theorem d_Lw_law_230 : decode b_Lw_law 230 = .ok (.invokevirtual 74, 3) := by decide +kernel
theorem d_Lw_law_233 : decode b_Lw_law 233 = .ok (.iload 5, 2) := by decide +kernel
theorem d_Lw_law_235 : decode b_Lw_law 235 = .ok (.if_icmp .eq 5, 3) := by decide +kernel
theorem d_Lw_law_238 : decode b_Lw_law 238 = .ok (.iconst 0, 1) := by decide +kernel
theorem d_Lw_law_239 : decode b_Lw_law 239 = .ok (.ireturn, 1) := by decide +kernel
theorem d_Lw_law_240 : decode b_Lw_law 240 = .ok (.iload 5, 2) := by decide +kernel
theorem d_Lw_law_242 : decode b_Lw_law 242 = .ok (.ifCond .ne 15, 3) := by decide +kernel
theorem d_Lw_law_245 : decode b_Lw_law 245 = .ok (.aload_n 3, 1) := by decide +kernel
theorem d_Lw_law_246 : decode b_Lw_law 246 = .ok (.iconst 0, 1) := by decide +kernel
theorem d_Lw_law_247 : decode b_Lw_law 247 = .ok (.laload, 1) := by decide +kernel
theorem d_Lw_law_248 : decode b_Lw_law 248 = .ok (.iload 6, 2) := by decide +kernel
theorem d_Lw_law_250 : decode b_Lw_law 250 = .ok (.i2l, 1) := by decide +kernel
theorem d_Lw_law_251 : decode b_Lw_law 251 = .ok (.lcmp, 1) := by decide +kernel
theorem d_Lw_law_252 : decode b_Lw_law 252 = .ok (.ifCond .eq 5, 3) := by decide +kernel
theorem d_Lw_law_255 : decode b_Lw_law 255 = .ok (.iconst 0, 1) := by decide +kernel
theorem d_Lw_law_256 : decode b_Lw_law 256 = .ok (.ireturn, 1) := by decide +kernel
theorem d_Lw_law_257 : decode b_Lw_law 257 = .ok (.goto 621, 3) := by decide +kernel
theorem d_Lw_law_260 : decode b_Lw_law 260 = .ok (.aload_n 1, 1) := by decide +kernel
theorem d_Lw_law_261 : decode b_Lw_law 261 = .ok (.aload_n 0, 1) := by decide +kernel
theorem d_Lw_law_262 : decode b_Lw_law 262 = .ok (.iload 4, 2) := by decide +kernel
theorem d_Lw_law_264 : decode b_Lw_law 264 = .ok (.iconst 1, 1) := by decide +kernel
theorem d_Lw_law_265 : decode b_Lw_law 265 = .ok (.iadd, 1) := by decide +kernel
theorem d_Lw_law_266 : decode b_Lw_law 266 = .ok (.iaload, 1) := by decide +kernel
theorem d_Lw_law_267 : decode b_Lw_law 267 = .ok (.aload_n 0, 1) := by decide +kernel
theorem d_Lw_law_268 : decode b_Lw_law 268 = .ok (.iload 4, 2) := by decide +kernel
theorem d_Lw_law_270 : decode b_Lw_law 270 = .ok (.iconst 2, 1) := by decide +kernel
theorem d_Lw_law_271 : decode b_Lw_law 271 = .ok (.iadd, 1) := by decide +kernel
theorem d_Lw_law_272 : decode b_Lw_law 272 = .ok (.iaload, 1) := by decide +kernel
theorem d_Lw_law_273 : decode b_Lw_law 273 = .ok (.invokestatic 81, 3) := by decide +kernel
theorem d_Lw_law_276 : decode b_Lw_law 276 = .ok (.istore 5, 2) := by decide +kernel
theorem d_Lw_law_278 : decode b_Lw_law 278 = .ok (.aload_n 2, 1) := by decide +kernel
theorem d_Lw_law_279 : decode b_Lw_law 279 = .ok (.aload_n 0, 1) := by decide +kernel
theorem d_Lw_law_280 : decode b_Lw_law 280 = .ok (.iload 4, 2) := by decide +kernel
theorem d_Lw_law_282 : decode b_Lw_law 282 = .ok (.iconst 1, 1) := by decide +kernel
theorem d_Lw_law_283 : decode b_Lw_law 283 = .ok (.iadd, 1) := by decide +kernel
theorem d_Lw_law_284 : decode b_Lw_law 284 = .ok (.iaload, 1) := by decide +kernel
theorem d_Lw_law_285 : decode b_Lw_law 285 = .ok (.aload_n 0, 1) := by decide +kernel
theorem d_Lw_law_286 : decode b_Lw_law 286 = .ok (.iload 4, 2) := by decide +kernel
theorem d_Lw_law_288 : decode b_Lw_law 288 = .ok (.iconst 2, 1) := by decide +kernel
theorem d_Lw_law_289 : decode b_Lw_law 289 = .ok (.iadd, 1) := by decide +kernel
theorem d_Lw_law_290 : decode b_Lw_law 290 = .ok (.iaload, 1) := by decide +kernel
theorem d_Lw_law_291 : decode b_Lw_law 291 = .ok (.invokevirtual 83, 3) := by decide +kernel
theorem d_Lw_law_294 : decode b_Lw_law 294 = .ok (.aload_n 2, 1) := by decide +kernel
theorem d_Lw_law_295 : decode b_Lw_law 295 = .ok (.invokevirtual 74, 3) := by decide +kernel
theorem d_Lw_law_298 : decode b_Lw_law 298 = .ok (.iload 5, 2) := by decide +kernel
theorem d_Lw_law_300 : decode b_Lw_law 300 = .ok (.if_icmp .eq 5, 3) := by decide +kernel
theorem d_Lw_law_303 : decode b_Lw_law 303 = .ok (.iconst 0, 1) := by decide +kernel
theorem d_Lw_law_304 : decode b_Lw_law 304 = .ok (.ireturn, 1) := by decide +kernel
theorem d_Lw_law_305 : decode b_Lw_law 305 = .ok (.goto 573, 3) := by decide +kernel
theorem d_Lw_law_308 : decode b_Lw_law 308 = .ok (.aload_n 1, 1) := by decide +kernel
theorem d_Lw_law_309 : decode b_Lw_law 309 = .ok (.invokestatic 84, 3) := by decide +kernel
theorem d_Lw_law_312 : decode b_Lw_law 312 = .ok (.istore 5, 2) := by decide +kernel
theorem d_Lw_law_314 : decode b_Lw_law 314 = .ok (.aload_n 2, 1) := by decide +kernel
theorem d_Lw_law_315 : decode b_Lw_law 315 = .ok (.invokevirtual 87, 3) := by decide +kernel
theorem d_Lw_law_318 : decode b_Lw_law 318 = .ok (.aload_n 2, 1) := by decide +kernel
theorem d_Lw_law_319 : decode b_Lw_law 319 = .ok (.invokevirtual 74, 3) := by decide +kernel
theorem d_Lw_law_322 : decode b_Lw_law 322 = .ok (.iload 5, 2) := by decide +kernel
theorem d_Lw_law_324 : decode b_Lw_law 324 = .ok (.if_icmp .eq 5, 3) := by decide +kernel
theorem d_Lw_law_327 : decode b_Lw_law 327 = .ok (.iconst 0, 1) := by decide +kernel
theorem d_Lw_law_328 : decode b_Lw_law 328 = .ok (.ireturn, 1) := by decide +kernel
theorem d_Lw_law_329 : decode b_Lw_law 329 = .ok (.goto 549, 3) := by decide +kernel
theorem d_Lw_law_332 : decode b_Lw_law 332 = .ok (.aload_n 1, 1) := by decide +kernel
theorem d_Lw_law_333 : decode b_Lw_law 333 = .ok (.invokevirtual 88, 3) := by decide +kernel
theorem d_Lw_law_336 : decode b_Lw_law 336 = .ok (.aload_n 2, 1) := by decide +kernel
theorem d_Lw_law_337 : decode b_Lw_law 337 = .ok (.invokevirtual 91, 3) := by decide +kernel
theorem d_Lw_law_340 : decode b_Lw_law 340 = .ok (.if_icmp .eq 538, 3) := by decide +kernel
theorem d_Lw_law_343 : decode b_Lw_law 343 = .ok (.iconst 0, 1) := by decide +kernel
theorem d_Lw_law_344 : decode b_Lw_law 344 = .ok (.ireturn, 1) := by decide +kernel
theorem d_Lw_law_345 : decode b_Lw_law 345 = .ok (.aload_n 1, 1) := by decide +kernel
theorem d_Lw_law_346 : decode b_Lw_law 346 = .ok (.aload_n 3, 1) := by decide +kernel
theorem d_Lw_law_347 : decode b_Lw_law 347 = .ok (.invokestatic 92, 3) := by decide +kernel
theorem d_Lw_law_350 : decode b_Lw_law 350 = .ok (.istore 5, 2) := by decide +kernel
theorem d_Lw_law_352 : decode b_Lw_law 352 = .ok (.aload_n 2, 1) := by decide +kernel
theorem d_Lw_law_353 : decode b_Lw_law 353 = .ok (.invokevirtual 95, 3) := by decide +kernel
theorem d_Lw_law_356 : decode b_Lw_law 356 = .ok (.istore 6, 2) := by decide +kernel
theorem d_Lw_law_358 : decode b_Lw_law 358 = .ok (.aload_n 2, 1) := by decide +kernel
theorem d_Lw_law_359 : decode b_Lw_law 359 = .ok (.invokevirtual 74, 3) := by decide +kernel
theorem d_Lw_law_362 : decode b_Lw_law 362 = .ok (.iload 5, 2) := by decide +kernel
theorem d_Lw_law_364 : decode b_Lw_law 364 = .ok (.if_icmp .eq 5, 3) := by decide +kernel
theorem d_Lw_law_367 : decode b_Lw_law 367 = .ok (.iconst 0, 1) := by decide +kernel
theorem d_Lw_law_368 : decode b_Lw_law 368 = .ok (.ireturn, 1) := by decide +kernel
theorem d_Lw_law_369 : decode b_Lw_law 369 = .ok (.iload 5, 2) := by decide +kernel
theorem d_Lw_law_371 : decode b_Lw_law 371 = .ok (.ifCond .ne 15, 3) := by decide +kernel
theorem d_Lw_law_374 : decode b_Lw_law 374 = .ok (.aload_n 3, 1) := by decide +kernel
theorem d_Lw_law_375 : decode b_Lw_law 375 = .ok (.iconst 0, 1) := by decide +kernel
theorem d_Lw_law_376 : decode b_Lw_law 376 = .ok (.laload, 1) := by decide +kernel
theorem d_Lw_law_377 : decode b_Lw_law 377 = .ok (.iload 6, 2) := by decide +kernel
theorem d_Lw_law_379 : decode b_Lw_law 379 = .ok (.i2l, 1) := by decide +kernel
theorem d_Lw_law_380 : decode b_Lw_law 380 = .ok (.lcmp, 1) := by decide +kernel
theorem d_Lw_law_381 : decode b_Lw_law 381 = .ok (.ifCond .eq 5, 3) := by decide +kernel
theorem d_Lw_law_384 : decode b_Lw_law 384 = .ok (.iconst 0, 1) := by decide +kernel
theorem d_Lw_law_385 : decode b_Lw_law 385 = .ok (.ireturn, 1) := by decide +kernel
theorem d_Lw_law_386 : decode b_Lw_law 386 = .ok (.goto 492, 3) := by decide +kernel
theorem d_Lw_law_389 : decode b_Lw_law 389 = .ok (.aload_n 1, 1) := by decide +kernel
theorem d_Lw_law_390 : decode b_Lw_law 390 = .ok (.aload_n 0, 1) := by decide +kernel
theorem d_Lw_law_391 : decode b_Lw_law 391 = .ok (.iload 4, 2) := by decide +kernel
theorem d_Lw_law_393 : decode b_Lw_law 393 = .ok (.iconst 1, 1) := by decide +kernel
theorem d_Lw_law_394 : decode b_Lw_law 394 = .ok (.iadd, 1) := by decide +kernel
theorem d_Lw_law_395 : decode b_Lw_law 395 = .ok (.iaload, 1) := by decide +kernel
theorem d_Lw_law_396 : decode b_Lw_law 396 = .ok (.aload_n 0, 1) := by decide +kernel
theorem d_Lw_law_397 : decode b_Lw_law 397 = .ok (.iload 4, 2) := by decide +kernel
theorem d_Lw_law_399 : decode b_Lw_law 399 = .ok (.iconst 2, 1) := by decide +kernel
theorem d_Lw_law_400 : decode b_Lw_law 400 = .ok (.iadd, 1) := by decide +kernel
theorem d_Lw_law_401 : decode b_Lw_law 401 = .ok (.iaload, 1) := by decide +kernel
theorem d_Lw_law_402 : decode b_Lw_law 402 = .ok (.aload_n 0, 1) := by decide +kernel
theorem d_Lw_law_403 : decode b_Lw_law 403 = .ok (.iload 4, 2) := by decide +kernel
theorem d_Lw_law_405 : decode b_Lw_law 405 = .ok (.iconst 3, 1) := by decide +kernel
theorem d_Lw_law_406 : decode b_Lw_law 406 = .ok (.iadd, 1) := by decide +kernel
theorem d_Lw_law_407 : decode b_Lw_law 407 = .ok (.iaload, 1) := by decide +kernel
theorem d_Lw_law_408 : decode b_Lw_law 408 = .ok (.aload_n 0, 1) := by decide +kernel
theorem d_Lw_law_409 : decode b_Lw_law 409 = .ok (.iload 4, 2) := by decide +kernel
theorem d_Lw_law_411 : decode b_Lw_law 411 = .ok (.iconst 4, 1) := by decide +kernel
theorem d_Lw_law_412 : decode b_Lw_law 412 = .ok (.iadd, 1) := by decide +kernel
theorem d_Lw_law_413 : decode b_Lw_law 413 = .ok (.iaload, 1) := by decide +kernel
theorem d_Lw_law_414 : decode b_Lw_law 414 = .ok (.invokestatic 96, 3) := by decide +kernel
theorem d_Lw_law_417 : decode b_Lw_law 417 = .ok (.istore 5, 2) := by decide +kernel
theorem d_Lw_law_419 : decode b_Lw_law 419 = .ok (.aload_n 2, 1) := by decide +kernel
theorem d_Lw_law_420 : decode b_Lw_law 420 = .ok (.aload_n 0, 1) := by decide +kernel
theorem d_Lw_law_421 : decode b_Lw_law 421 = .ok (.iload 4, 2) := by decide +kernel
theorem d_Lw_law_423 : decode b_Lw_law 423 = .ok (.iconst 1, 1) := by decide +kernel
theorem d_Lw_law_424 : decode b_Lw_law 424 = .ok (.iadd, 1) := by decide +kernel
theorem d_Lw_law_425 : decode b_Lw_law 425 = .ok (.iaload, 1) := by decide +kernel
theorem d_Lw_law_426 : decode b_Lw_law 426 = .ok (.aload_n 0, 1) := by decide +kernel
theorem d_Lw_law_427 : decode b_Lw_law 427 = .ok (.iload 4, 2) := by decide +kernel
theorem d_Lw_law_429 : decode b_Lw_law 429 = .ok (.iconst 2, 1) := by decide +kernel
theorem d_Lw_law_430 : decode b_Lw_law 430 = .ok (.iadd, 1) := by decide +kernel
theorem d_Lw_law_431 : decode b_Lw_law 431 = .ok (.iaload, 1) := by decide +kernel
theorem d_Lw_law_432 : decode b_Lw_law 432 = .ok (.aload_n 0, 1) := by decide +kernel
theorem d_Lw_law_433 : decode b_Lw_law 433 = .ok (.iload 4, 2) := by decide +kernel
theorem d_Lw_law_435 : decode b_Lw_law 435 = .ok (.iconst 3, 1) := by decide +kernel
theorem d_Lw_law_436 : decode b_Lw_law 436 = .ok (.iadd, 1) := by decide +kernel
theorem d_Lw_law_437 : decode b_Lw_law 437 = .ok (.iaload, 1) := by decide +kernel
theorem d_Lw_law_438 : decode b_Lw_law 438 = .ok (.aload_n 0, 1) := by decide +kernel
theorem d_Lw_law_439 : decode b_Lw_law 439 = .ok (.iload 4, 2) := by decide +kernel
theorem d_Lw_law_441 : decode b_Lw_law 441 = .ok (.iconst 4, 1) := by decide +kernel
theorem d_Lw_law_442 : decode b_Lw_law 442 = .ok (.iadd, 1) := by decide +kernel
theorem d_Lw_law_443 : decode b_Lw_law 443 = .ok (.iaload, 1) := by decide +kernel
theorem d_Lw_law_444 : decode b_Lw_law 444 = .ok (.invokevirtual 99, 3) := by decide +kernel
theorem d_Lw_law_447 : decode b_Lw_law 447 = .ok (.aload_n 2, 1) := by decide +kernel
theorem d_Lw_law_448 : decode b_Lw_law 448 = .ok (.invokevirtual 74, 3) := by decide +kernel
theorem d_Lw_law_451 : decode b_Lw_law 451 = .ok (.iload 5, 2) := by decide +kernel
theorem d_Lw_law_453 : decode b_Lw_law 453 = .ok (.if_icmp .eq 5, 3) := by decide +kernel
theorem d_Lw_law_456 : decode b_Lw_law 456 = .ok (.iconst 0, 1) := by decide +kernel
theorem d_Lw_law_457 : decode b_Lw_law 457 = .ok (.ireturn, 1) := by decide +kernel
theorem d_Lw_law_458 : decode b_Lw_law 458 = .ok (.goto 420, 3) := by decide +kernel
theorem d_Lw_law_461 : decode b_Lw_law 461 = .ok (.aload_n 1, 1) := by decide +kernel
theorem d_Lw_law_462 : decode b_Lw_law 462 = .ok (.invokestatic 100, 3) := by decide +kernel
