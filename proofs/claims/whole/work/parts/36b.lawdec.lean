theorem d_Law_law_0 : decode code 0 = .ok (.new 8, 3) := by decide +kernel
theorem d_Law_law_3 : decode code 3 = .ok (.dup, 1) := by decide +kernel
theorem d_Law_law_4 : decode code 4 = .ok (.invokespecial 19, 3) := by decide +kernel
theorem d_Law_law_7 : decode code 7 = .ok (.astore_n 1, 1) := by decide +kernel
theorem d_Law_law_8 : decode code 8 = .ok (.new 20, 3) := by decide +kernel
theorem d_Law_law_11 : decode code 11 = .ok (.dup, 1) := by decide +kernel
theorem d_Law_law_12 : decode code 12 = .ok (.invokespecial 22, 3) := by decide +kernel
theorem d_Law_law_15 : decode code 15 = .ok (.astore_n 2, 1) := by decide +kernel
theorem d_Law_law_16 : decode code 16 = .ok (.iconst 1, 1) := by decide +kernel
theorem d_Law_law_17 : decode code 17 = .ok (.newarray .long, 2) := by decide +kernel
theorem d_Law_law_19 : decode code 19 = .ok (.astore_n 3, 1) := by decide +kernel
theorem d_Law_law_20 : decode code 20 = .ok (.iconst 0, 1) := by decide +kernel
theorem d_Law_law_21 : decode code 21 = .ok (.istore 4, 2) := by decide +kernel
theorem d_Law_law_23 : decode code 23 = .ok (.iload 4, 2) := by decide +kernel
theorem d_Law_law_25 : decode code 25 = .ok (.aload_n 0, 1) := by decide +kernel
theorem d_Law_law_26 : decode code 26 = .ok (.arraylength, 1) := by decide +kernel
theorem d_Law_law_27 : decode code 27 = .ok (.bipush 8, 2) := by decide +kernel
theorem d_Law_law_29 : decode code 29 = .ok (.isub, 1) := by decide +kernel
theorem d_Law_law_30 : decode code 30 = .ok (.if_icmp .gt 820, 3) := by decide +kernel
theorem d_Law_law_33 : decode code 33 = .ok (.aload_n 0, 1) := by decide +kernel
theorem d_Law_law_34 : decode code 34 = .ok (.iload 4, 2) := by decide +kernel
theorem d_Law_law_36 : decode code 36 = .ok (.iaload, 1) := by decide +kernel
theorem d_Law_law_37 : decode code 37 = .ok (.bipush 15, 2) := by decide +kernel
theorem d_Law_law_39 : decode code 39 = .ok (.iand, 1) := by decide +kernel
theorem d_Law_law_40 : decode code 40 = .ok (.tableswitch 804 0 11 #[64, 89, 150, 259, 400, 437, 506, 575, 600, 625, 680, 779], 64) := by decide +kernel
theorem d_Law_law_104 : decode code 104 = .ok (.aload_n 1, 1) := by decide +kernel
theorem d_Law_law_105 : decode code 105 = .ok (.aload_n 0, 1) := by decide +kernel
theorem d_Law_law_106 : decode code 106 = .ok (.iload 4, 2) := by decide +kernel
theorem d_Law_law_108 : decode code 108 = .ok (.iconst 1, 1) := by decide +kernel
theorem d_Law_law_109 : decode code 109 = .ok (.iadd, 1) := by decide +kernel
theorem d_Law_law_110 : decode code 110 = .ok (.iaload, 1) := by decide +kernel
theorem d_Law_law_111 : decode code 111 = .ok (.invokevirtual 23, 3) := by decide +kernel
theorem d_Law_law_114 : decode code 114 = .ok (.aload_n 2, 1) := by decide +kernel
theorem d_Law_law_115 : decode code 115 = .ok (.aload_n 0, 1) := by decide +kernel
theorem d_Law_law_116 : decode code 116 = .ok (.iload 4, 2) := by decide +kernel
theorem d_Law_law_118 : decode code 118 = .ok (.iconst 1, 1) := by decide +kernel
theorem d_Law_law_119 : decode code 119 = .ok (.iadd, 1) := by decide +kernel
theorem d_Law_law_120 : decode code 120 = .ok (.iaload, 1) := by decide +kernel
theorem d_Law_law_121 : decode code 121 = .ok (.invokevirtual 27, 3) := by decide +kernel
theorem d_Law_law_124 : decode code 124 = .ok (.if_icmp .eq 720, 3) := by decide +kernel
theorem d_Law_law_127 : decode code 127 = .ok (.iconst 0, 1) := by decide +kernel
theorem d_Law_law_128 : decode code 128 = .ok (.ireturn, 1) := by decide +kernel
theorem d_Law_law_129 : decode code 129 = .ok (.aload_n 1, 1) := by decide +kernel
theorem d_Law_law_130 : decode code 130 = .ok (.aload_n 0, 1) := by decide +kernel
theorem d_Law_law_131 : decode code 131 = .ok (.iload 4, 2) := by decide +kernel
theorem d_Law_law_133 : decode code 133 = .ok (.iconst 1, 1) := by decide +kernel
theorem d_Law_law_134 : decode code 134 = .ok (.iadd, 1) := by decide +kernel
theorem d_Law_law_135 : decode code 135 = .ok (.iaload, 1) := by decide +kernel
theorem d_Law_law_136 : decode code 136 = .ok (.aload_n 0, 1) := by decide +kernel
theorem d_Law_law_137 : decode code 137 = .ok (.iload 4, 2) := by decide +kernel
theorem d_Law_law_139 : decode code 139 = .ok (.iconst 2, 1) := by decide +kernel
theorem d_Law_law_140 : decode code 140 = .ok (.iadd, 1) := by decide +kernel
theorem d_Law_law_141 : decode code 141 = .ok (.iaload, 1) := by decide +kernel
theorem d_Law_law_142 : decode code 142 = .ok (.aload_n 0, 1) := by decide +kernel
theorem d_Law_law_143 : decode code 143 = .ok (.iload 4, 2) := by decide +kernel
theorem d_Law_law_145 : decode code 145 = .ok (.iconst 3, 1) := by decide +kernel
theorem d_Law_law_146 : decode code 146 = .ok (.iadd, 1) := by decide +kernel
theorem d_Law_law_147 : decode code 147 = .ok (.iaload, 1) := by decide +kernel
theorem d_Law_law_148 : decode code 148 = .ok (.aload_n 0, 1) := by decide +kernel
theorem d_Law_law_149 : decode code 149 = .ok (.iload 4, 2) := by decide +kernel
theorem d_Law_law_151 : decode code 151 = .ok (.iconst 4, 1) := by decide +kernel
theorem d_Law_law_152 : decode code 152 = .ok (.iadd, 1) := by decide +kernel
theorem d_Law_law_153 : decode code 153 = .ok (.iaload, 1) := by decide +kernel
theorem d_Law_law_154 : decode code 154 = .ok (.invokevirtual 28, 3) := by decide +kernel
theorem d_Law_law_157 : decode code 157 = .ok (.aload_n 2, 1) := by decide +kernel
theorem d_Law_law_158 : decode code 158 = .ok (.aload_n 0, 1) := by decide +kernel
theorem d_Law_law_159 : decode code 159 = .ok (.iload 4, 2) := by decide +kernel
theorem d_Law_law_161 : decode code 161 = .ok (.iconst 1, 1) := by decide +kernel
theorem d_Law_law_162 : decode code 162 = .ok (.iadd, 1) := by decide +kernel
theorem d_Law_law_163 : decode code 163 = .ok (.iaload, 1) := by decide +kernel
theorem d_Law_law_164 : decode code 164 = .ok (.aload_n 0, 1) := by decide +kernel
theorem d_Law_law_165 : decode code 165 = .ok (.iload 4, 2) := by decide +kernel
theorem d_Law_law_167 : decode code 167 = .ok (.iconst 2, 1) := by decide +kernel
theorem d_Law_law_168 : decode code 168 = .ok (.iadd, 1) := by decide +kernel
theorem d_Law_law_169 : decode code 169 = .ok (.iaload, 1) := by decide +kernel
theorem d_Law_law_170 : decode code 170 = .ok (.aload_n 0, 1) := by decide +kernel
theorem d_Law_law_171 : decode code 171 = .ok (.iload 4, 2) := by decide +kernel
theorem d_Law_law_173 : decode code 173 = .ok (.iconst 3, 1) := by decide +kernel
theorem d_Law_law_174 : decode code 174 = .ok (.iadd, 1) := by decide +kernel
theorem d_Law_law_175 : decode code 175 = .ok (.iaload, 1) := by decide +kernel
theorem d_Law_law_176 : decode code 176 = .ok (.aload_n 0, 1) := by decide +kernel
theorem d_Law_law_177 : decode code 177 = .ok (.iload 4, 2) := by decide +kernel
theorem d_Law_law_179 : decode code 179 = .ok (.iconst 4, 1) := by decide +kernel
theorem d_Law_law_180 : decode code 180 = .ok (.iadd, 1) := by decide +kernel
theorem d_Law_law_181 : decode code 181 = .ok (.iaload, 1) := by decide +kernel
theorem d_Law_law_182 : decode code 182 = .ok (.invokevirtual 32, 3) := by decide +kernel
theorem d_Law_law_185 : decode code 185 = .ok (.if_icmp .eq 659, 3) := by decide +kernel
theorem d_Law_law_188 : decode code 188 = .ok (.iconst 0, 1) := by decide +kernel
theorem d_Law_law_189 : decode code 189 = .ok (.ireturn, 1) := by decide +kernel
theorem d_Law_law_190 : decode code 190 = .ok (.aload_n 1, 1) := by decide +kernel
theorem d_Law_law_191 : decode code 191 = .ok (.aload_n 0, 1) := by decide +kernel
theorem d_Law_law_192 : decode code 192 = .ok (.iload 4, 2) := by decide +kernel
theorem d_Law_law_194 : decode code 194 = .ok (.iconst 1, 1) := by decide +kernel
theorem d_Law_law_195 : decode code 195 = .ok (.iadd, 1) := by decide +kernel
theorem d_Law_law_196 : decode code 196 = .ok (.iaload, 1) := by decide +kernel
theorem d_Law_law_197 : decode code 197 = .ok (.aload_n 0, 1) := by decide +kernel
theorem d_Law_law_198 : decode code 198 = .ok (.iload 4, 2) := by decide +kernel
theorem d_Law_law_200 : decode code 200 = .ok (.iconst 2, 1) := by decide +kernel
theorem d_Law_law_201 : decode code 201 = .ok (.iadd, 1) := by decide +kernel
theorem d_Law_law_202 : decode code 202 = .ok (.iaload, 1) := by decide +kernel
theorem d_Law_law_203 : decode code 203 = .ok (.aload_n 0, 1) := by decide +kernel
theorem d_Law_law_204 : decode code 204 = .ok (.iload 4, 2) := by decide +kernel
theorem d_Law_law_206 : decode code 206 = .ok (.iconst 3, 1) := by decide +kernel
theorem d_Law_law_207 : decode code 207 = .ok (.iadd, 1) := by decide +kernel
theorem d_Law_law_208 : decode code 208 = .ok (.iaload, 1) := by decide +kernel
theorem d_Law_law_209 : decode code 209 = .ok (.i2l, 1) := by decide +kernel
theorem d_Law_law_210 : decode code 210 = .ok (.bipush 32, 2) := by decide +kernel
theorem d_Law_law_212 : decode code 212 = .ok (.lshl, 1) := by decide +kernel
theorem d_Law_law_213 : decode code 213 = .ok (.aload_n 0, 1) := by decide +kernel
theorem d_Law_law_214 : decode code 214 = .ok (.iload 4, 2) := by decide +kernel
theorem d_Law_law_216 : decode code 216 = .ok (.iconst 4, 1) := by decide +kernel
theorem d_Law_law_217 : decode code 217 = .ok (.iadd, 1) := by decide +kernel
theorem d_Law_law_218 : decode code 218 = .ok (.iaload, 1) := by decide +kernel
theorem d_Law_law_219 : decode code 219 = .ok (.i2l, 1) := by decide +kernel
theorem d_Law_law_220 : decode code 220 = .ok (.ldc2_w 33, 3) := by decide +kernel
theorem d_Law_law_223 : decode code 223 = .ok (.land, 1) := by decide +kernel
theorem d_Law_law_224 : decode code 224 = .ok (.lor, 1) := by decide +kernel
theorem d_Law_law_225 : decode code 225 = .ok (.aload_n 0, 1) := by decide +kernel
theorem d_Law_law_226 : decode code 226 = .ok (.iload 4, 2) := by decide +kernel
theorem d_Law_law_228 : decode code 228 = .ok (.iconst 5, 1) := by decide +kernel
theorem d_Law_law_229 : decode code 229 = .ok (.iadd, 1) := by decide +kernel
theorem d_Law_law_230 : decode code 230 = .ok (.iaload, 1) := by decide +kernel
theorem d_Law_law_231 : decode code 231 = .ok (.ifCond .eq 7, 3) := by decide +kernel
theorem d_Law_law_234 : decode code 234 = .ok (.iconst 1, 1) := by decide +kernel
theorem d_Law_law_235 : decode code 235 = .ok (.goto 4, 3) := by decide +kernel
theorem d_Law_law_238 : decode code 238 = .ok (.iconst 0, 1) := by decide +kernel
theorem d_Law_law_239 : decode code 239 = .ok (.invokevirtual 35, 3) := by decide +kernel
theorem d_Law_law_242 : decode code 242 = .ok (.aload_n 2, 1) := by decide +kernel
theorem d_Law_law_243 : decode code 243 = .ok (.aload_n 0, 1) := by decide +kernel
theorem d_Law_law_244 : decode code 244 = .ok (.iload 4, 2) := by decide +kernel
theorem d_Law_law_246 : decode code 246 = .ok (.iconst 1, 1) := by decide +kernel
theorem d_Law_law_247 : decode code 247 = .ok (.iadd, 1) := by decide +kernel
theorem d_Law_law_248 : decode code 248 = .ok (.iaload, 1) := by decide +kernel
theorem d_Law_law_249 : decode code 249 = .ok (.aload_n 0, 1) := by decide +kernel
theorem d_Law_law_250 : decode code 250 = .ok (.iload 4, 2) := by decide +kernel
theorem d_Law_law_252 : decode code 252 = .ok (.iconst 2, 1) := by decide +kernel
theorem d_Law_law_253 : decode code 253 = .ok (.iadd, 1) := by decide +kernel
theorem d_Law_law_254 : decode code 254 = .ok (.iaload, 1) := by decide +kernel
theorem d_Law_law_255 : decode code 255 = .ok (.aload_n 0, 1) := by decide +kernel
theorem d_Law_law_256 : decode code 256 = .ok (.iload 4, 2) := by decide +kernel
theorem d_Law_law_258 : decode code 258 = .ok (.iconst 3, 1) := by decide +kernel
theorem d_Law_law_259 : decode code 259 = .ok (.iadd, 1) := by decide +kernel
theorem d_Law_law_260 : decode code 260 = .ok (.iaload, 1) := by decide +kernel
theorem d_Law_law_261 : decode code 261 = .ok (.i2l, 1) := by decide +kernel
theorem d_Law_law_262 : decode code 262 = .ok (.bipush 32, 2) := by decide +kernel
theorem d_Law_law_264 : decode code 264 = .ok (.lshl, 1) := by decide +kernel
theorem d_Law_law_265 : decode code 265 = .ok (.aload_n 0, 1) := by decide +kernel
theorem d_Law_law_266 : decode code 266 = .ok (.iload 4, 2) := by decide +kernel
theorem d_Law_law_268 : decode code 268 = .ok (.iconst 4, 1) := by decide +kernel
theorem d_Law_law_269 : decode code 269 = .ok (.iadd, 1) := by decide +kernel
theorem d_Law_law_270 : decode code 270 = .ok (.iaload, 1) := by decide +kernel
theorem d_Law_law_271 : decode code 271 = .ok (.i2l, 1) := by decide +kernel
theorem d_Law_law_272 : decode code 272 = .ok (.ldc2_w 33, 3) := by decide +kernel
theorem d_Law_law_275 : decode code 275 = .ok (.land, 1) := by decide +kernel
theorem d_Law_law_276 : decode code 276 = .ok (.lor, 1) := by decide +kernel
theorem d_Law_law_277 : decode code 277 = .ok (.aload_n 0, 1) := by decide +kernel
theorem d_Law_law_278 : decode code 278 = .ok (.iload 4, 2) := by decide +kernel
theorem d_Law_law_280 : decode code 280 = .ok (.iconst 5, 1) := by decide +kernel
theorem d_Law_law_281 : decode code 281 = .ok (.iadd, 1) := by decide +kernel
theorem d_Law_law_282 : decode code 282 = .ok (.iaload, 1) := by decide +kernel
theorem d_Law_law_283 : decode code 283 = .ok (.ifCond .eq 7, 3) := by decide +kernel
theorem d_Law_law_286 : decode code 286 = .ok (.iconst 1, 1) := by decide +kernel
theorem d_Law_law_287 : decode code 287 = .ok (.goto 4, 3) := by decide +kernel
theorem d_Law_law_290 : decode code 290 = .ok (.iconst 0, 1) := by decide +kernel
theorem d_Law_law_291 : decode code 291 = .ok (.invokevirtual 39, 3) := by decide +kernel
theorem d_Law_law_294 : decode code 294 = .ok (.if_icmp .eq 550, 3) := by decide +kernel
theorem d_Law_law_297 : decode code 297 = .ok (.iconst 0, 1) := by decide +kernel
theorem d_Law_law_298 : decode code 298 = .ok (.ireturn, 1) := by decide +kernel
theorem d_Law_law_299 : decode code 299 = .ok (.aload_n 1, 1) := by decide +kernel
theorem d_Law_law_300 : decode code 300 = .ok (.aload_n 0, 1) := by decide +kernel
theorem d_Law_law_301 : decode code 301 = .ok (.iload 4, 2) := by decide +kernel
theorem d_Law_law_303 : decode code 303 = .ok (.iconst 1, 1) := by decide +kernel
theorem d_Law_law_304 : decode code 304 = .ok (.iadd, 1) := by decide +kernel
theorem d_Law_law_305 : decode code 305 = .ok (.iaload, 1) := by decide +kernel
theorem d_Law_law_306 : decode code 306 = .ok (.aload_n 0, 1) := by decide +kernel
theorem d_Law_law_307 : decode code 307 = .ok (.iload 4, 2) := by decide +kernel
theorem d_Law_law_309 : decode code 309 = .ok (.iconst 2, 1) := by decide +kernel
theorem d_Law_law_310 : decode code 310 = .ok (.iadd, 1) := by decide +kernel
theorem d_Law_law_311 : decode code 311 = .ok (.iaload, 1) := by decide +kernel
theorem d_Law_law_312 : decode code 312 = .ok (.aload_n 0, 1) := by decide +kernel
theorem d_Law_law_313 : decode code 313 = .ok (.iload 4, 2) := by decide +kernel
theorem d_Law_law_315 : decode code 315 = .ok (.iconst 3, 1) := by decide +kernel
theorem d_Law_law_316 : decode code 316 = .ok (.iadd, 1) := by decide +kernel
theorem d_Law_law_317 : decode code 317 = .ok (.iaload, 1) := by decide +kernel
theorem d_Law_law_318 : decode code 318 = .ok (.aload_n 0, 1) := by decide +kernel
theorem d_Law_law_319 : decode code 319 = .ok (.iload 4, 2) := by decide +kernel
theorem d_Law_law_321 : decode code 321 = .ok (.iconst 4, 1) := by decide +kernel
theorem d_Law_law_322 : decode code 322 = .ok (.iadd, 1) := by decide +kernel
theorem d_Law_law_323 : decode code 323 = .ok (.iaload, 1) := by decide +kernel
theorem d_Law_law_324 : decode code 324 = .ok (.i2l, 1) := by decide +kernel
theorem d_Law_law_325 : decode code 325 = .ok (.bipush 32, 2) := by decide +kernel
theorem d_Law_law_327 : decode code 327 = .ok (.lshl, 1) := by decide +kernel
theorem d_Law_law_328 : decode code 328 = .ok (.aload_n 0, 1) := by decide +kernel
theorem d_Law_law_329 : decode code 329 = .ok (.iload 4, 2) := by decide +kernel
theorem d_Law_law_331 : decode code 331 = .ok (.iconst 5, 1) := by decide +kernel
theorem d_Law_law_332 : decode code 332 = .ok (.iadd, 1) := by decide +kernel
theorem d_Law_law_333 : decode code 333 = .ok (.iaload, 1) := by decide +kernel
theorem d_Law_law_334 : decode code 334 = .ok (.i2l, 1) := by decide +kernel
theorem d_Law_law_335 : decode code 335 = .ok (.ldc2_w 33, 3) := by decide +kernel
theorem d_Law_law_338 : decode code 338 = .ok (.land, 1) := by decide +kernel
theorem d_Law_law_339 : decode code 339 = .ok (.lor, 1) := by decide +kernel
theorem d_Law_law_340 : decode code 340 = .ok (.aload_n 0, 1) := by decide +kernel
theorem d_Law_law_341 : decode code 341 = .ok (.iload 4, 2) := by decide +kernel
theorem d_Law_law_343 : decode code 343 = .ok (.bipush 6, 2) := by decide +kernel
theorem d_Law_law_345 : decode code 345 = .ok (.iadd, 1) := by decide +kernel
theorem d_Law_law_346 : decode code 346 = .ok (.iaload, 1) := by decide +kernel
theorem d_Law_law_347 : decode code 347 = .ok (.i2l, 1) := by decide +kernel
theorem d_Law_law_348 : decode code 348 = .ok (.bipush 32, 2) := by decide +kernel
theorem d_Law_law_350 : decode code 350 = .ok (.lshl, 1) := by decide +kernel
theorem d_Law_law_351 : decode code 351 = .ok (.aload_n 0, 1) := by decide +kernel
theorem d_Law_law_352 : decode code 352 = .ok (.iload 4, 2) := by decide +kernel
theorem d_Law_law_354 : decode code 354 = .ok (.bipush 7, 2) := by decide +kernel
theorem d_Law_law_356 : decode code 356 = .ok (.iadd, 1) := by decide +kernel
theorem d_Law_law_357 : decode code 357 = .ok (.iaload, 1) := by decide +kernel
theorem d_Law_law_358 : decode code 358 = .ok (.i2l, 1) := by decide +kernel
theorem d_Law_law_359 : decode code 359 = .ok (.ldc2_w 33, 3) := by decide +kernel
theorem d_Law_law_362 : decode code 362 = .ok (.land, 1) := by decide +kernel
theorem d_Law_law_363 : decode code 363 = .ok (.lor, 1) := by decide +kernel
theorem d_Law_law_364 : decode code 364 = .ok (.invokevirtual 40, 3) := by decide +kernel
theorem d_Law_law_367 : decode code 367 = .ok (.aload_n 2, 1) := by decide +kernel
theorem d_Law_law_368 : decode code 368 = .ok (.aload_n 0, 1) := by decide +kernel
theorem d_Law_law_369 : decode code 369 = .ok (.iload 4, 2) := by decide +kernel
theorem d_Law_law_371 : decode code 371 = .ok (.iconst 1, 1) := by decide +kernel
theorem d_Law_law_372 : decode code 372 = .ok (.iadd, 1) := by decide +kernel
theorem d_Law_law_373 : decode code 373 = .ok (.iaload, 1) := by decide +kernel
theorem d_Law_law_374 : decode code 374 = .ok (.aload_n 0, 1) := by decide +kernel
theorem d_Law_law_375 : decode code 375 = .ok (.iload 4, 2) := by decide +kernel
theorem d_Law_law_377 : decode code 377 = .ok (.iconst 2, 1) := by decide +kernel
theorem d_Law_law_378 : decode code 378 = .ok (.iadd, 1) := by decide +kernel
theorem d_Law_law_379 : decode code 379 = .ok (.iaload, 1) := by decide +kernel
theorem d_Law_law_380 : decode code 380 = .ok (.aload_n 0, 1) := by decide +kernel
theorem d_Law_law_381 : decode code 381 = .ok (.iload 4, 2) := by decide +kernel
theorem d_Law_law_383 : decode code 383 = .ok (.iconst 3, 1) := by decide +kernel
theorem d_Law_law_384 : decode code 384 = .ok (.iadd, 1) := by decide +kernel
theorem d_Law_law_385 : decode code 385 = .ok (.iaload, 1) := by decide +kernel
theorem d_Law_law_386 : decode code 386 = .ok (.aload_n 0, 1) := by decide +kernel
theorem d_Law_law_387 : decode code 387 = .ok (.iload 4, 2) := by decide +kernel
theorem d_Law_law_389 : decode code 389 = .ok (.iconst 4, 1) := by decide +kernel
theorem d_Law_law_390 : decode code 390 = .ok (.iadd, 1) := by decide +kernel
theorem d_Law_law_391 : decode code 391 = .ok (.iaload, 1) := by decide +kernel
theorem d_Law_law_392 : decode code 392 = .ok (.i2l, 1) := by decide +kernel
theorem d_Law_law_393 : decode code 393 = .ok (.bipush 32, 2) := by decide +kernel
theorem d_Law_law_395 : decode code 395 = .ok (.lshl, 1) := by decide +kernel
theorem d_Law_law_396 : decode code 396 = .ok (.aload_n 0, 1) := by decide +kernel
theorem d_Law_law_397 : decode code 397 = .ok (.iload 4, 2) := by decide +kernel
theorem d_Law_law_399 : decode code 399 = .ok (.iconst 5, 1) := by decide +kernel
theorem d_Law_law_400 : decode code 400 = .ok (.iadd, 1) := by decide +kernel
theorem d_Law_law_401 : decode code 401 = .ok (.iaload, 1) := by decide +kernel
theorem d_Law_law_402 : decode code 402 = .ok (.i2l, 1) := by decide +kernel
theorem d_Law_law_403 : decode code 403 = .ok (.ldc2_w 33, 3) := by decide +kernel
theorem d_Law_law_406 : decode code 406 = .ok (.land, 1) := by decide +kernel
theorem d_Law_law_407 : decode code 407 = .ok (.lor, 1) := by decide +kernel
theorem d_Law_law_408 : decode code 408 = .ok (.aload_n 0, 1) := by decide +kernel
theorem d_Law_law_409 : decode code 409 = .ok (.iload 4, 2) := by decide +kernel
theorem d_Law_law_411 : decode code 411 = .ok (.bipush 6, 2) := by decide +kernel
theorem d_Law_law_413 : decode code 413 = .ok (.iadd, 1) := by decide +kernel
theorem d_Law_law_414 : decode code 414 = .ok (.iaload, 1) := by decide +kernel
theorem d_Law_law_415 : decode code 415 = .ok (.i2l, 1) := by decide +kernel
theorem d_Law_law_416 : decode code 416 = .ok (.bipush 32, 2) := by decide +kernel
theorem d_Law_law_418 : decode code 418 = .ok (.lshl, 1) := by decide +kernel
theorem d_Law_law_419 : decode code 419 = .ok (.aload_n 0, 1) := by decide +kernel
theorem d_Law_law_420 : decode code 420 = .ok (.iload 4, 2) := by decide +kernel
theorem d_Law_law_422 : decode code 422 = .ok (.bipush 7, 2) := by decide +kernel
theorem d_Law_law_424 : decode code 424 = .ok (.iadd, 1) := by decide +kernel
theorem d_Law_law_425 : decode code 425 = .ok (.iaload, 1) := by decide +kernel
theorem d_Law_law_426 : decode code 426 = .ok (.i2l, 1) := by decide +kernel
theorem d_Law_law_427 : decode code 427 = .ok (.ldc2_w 33, 3) := by decide +kernel
theorem d_Law_law_430 : decode code 430 = .ok (.land, 1) := by decide +kernel
theorem d_Law_law_431 : decode code 431 = .ok (.lor, 1) := by decide +kernel
theorem d_Law_law_432 : decode code 432 = .ok (.invokevirtual 44, 3) := by decide +kernel
theorem d_Law_law_435 : decode code 435 = .ok (.if_icmp .eq 409, 3) := by decide +kernel
theorem d_Law_law_438 : decode code 438 = .ok (.iconst 0, 1) := by decide +kernel
theorem d_Law_law_439 : decode code 439 = .ok (.ireturn, 1) := by decide +kernel
theorem d_Law_law_440 : decode code 440 = .ok (.aload_n 1, 1) := by decide +kernel
theorem d_Law_law_441 : decode code 441 = .ok (.aload_n 0, 1) := by decide +kernel
theorem d_Law_law_442 : decode code 442 = .ok (.iload 4, 2) := by decide +kernel
theorem d_Law_law_444 : decode code 444 = .ok (.iconst 1, 1) := by decide +kernel
theorem d_Law_law_445 : decode code 445 = .ok (.iadd, 1) := by decide +kernel
theorem d_Law_law_446 : decode code 446 = .ok (.iaload, 1) := by decide +kernel
theorem d_Law_law_447 : decode code 447 = .ok (.aload_n 0, 1) := by decide +kernel
theorem d_Law_law_448 : decode code 448 = .ok (.iload 4, 2) := by decide +kernel
theorem d_Law_law_450 : decode code 450 = .ok (.iconst 2, 1) := by decide +kernel
theorem d_Law_law_451 : decode code 451 = .ok (.iadd, 1) := by decide +kernel
theorem d_Law_law_452 : decode code 452 = .ok (.iaload, 1) := by decide +kernel
theorem d_Law_law_453 : decode code 453 = .ok (.invokevirtual 45, 3) := by decide +kernel
theorem d_Law_law_456 : decode code 456 = .ok (.aload_n 2, 1) := by decide +kernel
theorem d_Law_law_457 : decode code 457 = .ok (.aload_n 0, 1) := by decide +kernel
theorem d_Law_law_458 : decode code 458 = .ok (.iload 4, 2) := by decide +kernel
theorem d_Law_law_460 : decode code 460 = .ok (.iconst 1, 1) := by decide +kernel
theorem d_Law_law_461 : decode code 461 = .ok (.iadd, 1) := by decide +kernel
theorem d_Law_law_462 : decode code 462 = .ok (.iaload, 1) := by decide +kernel
theorem d_Law_law_463 : decode code 463 = .ok (.aload_n 0, 1) := by decide +kernel
theorem d_Law_law_464 : decode code 464 = .ok (.iload 4, 2) := by decide +kernel
theorem d_Law_law_466 : decode code 466 = .ok (.iconst 2, 1) := by decide +kernel
theorem d_Law_law_467 : decode code 467 = .ok (.iadd, 1) := by decide +kernel
theorem d_Law_law_468 : decode code 468 = .ok (.iaload, 1) := by decide +kernel
theorem d_Law_law_469 : decode code 469 = .ok (.invokevirtual 49, 3) := by decide +kernel
theorem d_Law_law_472 : decode code 472 = .ok (.if_icmp .eq 372, 3) := by decide +kernel
theorem d_Law_law_475 : decode code 475 = .ok (.iconst 0, 1) := by decide +kernel
theorem d_Law_law_476 : decode code 476 = .ok (.ireturn, 1) := by decide +kernel
theorem d_Law_law_477 : decode code 477 = .ok (.aload_n 1, 1) := by decide +kernel
theorem d_Law_law_478 : decode code 478 = .ok (.aload_n 0, 1) := by decide +kernel
theorem d_Law_law_479 : decode code 479 = .ok (.iload 4, 2) := by decide +kernel
theorem d_Law_law_481 : decode code 481 = .ok (.iconst 1, 1) := by decide +kernel
theorem d_Law_law_482 : decode code 482 = .ok (.iadd, 1) := by decide +kernel
theorem d_Law_law_483 : decode code 483 = .ok (.iaload, 1) := by decide +kernel
theorem d_Law_law_484 : decode code 484 = .ok (.aload_n 0, 1) := by decide +kernel
theorem d_Law_law_485 : decode code 485 = .ok (.iload 4, 2) := by decide +kernel
theorem d_Law_law_487 : decode code 487 = .ok (.iconst 2, 1) := by decide +kernel
theorem d_Law_law_488 : decode code 488 = .ok (.iadd, 1) := by decide +kernel
theorem d_Law_law_489 : decode code 489 = .ok (.iaload, 1) := by decide +kernel
theorem d_Law_law_490 : decode code 490 = .ok (.i2l, 1) := by decide +kernel
theorem d_Law_law_491 : decode code 491 = .ok (.bipush 32, 2) := by decide +kernel
theorem d_Law_law_493 : decode code 493 = .ok (.lshl, 1) := by decide +kernel
theorem d_Law_law_494 : decode code 494 = .ok (.aload_n 0, 1) := by decide +kernel
theorem d_Law_law_495 : decode code 495 = .ok (.iload 4, 2) := by decide +kernel
theorem d_Law_law_497 : decode code 497 = .ok (.iconst 3, 1) := by decide +kernel
theorem d_Law_law_498 : decode code 498 = .ok (.iadd, 1) := by decide +kernel
theorem d_Law_law_499 : decode code 499 = .ok (.iaload, 1) := by decide +kernel
theorem d_Law_law_500 : decode code 500 = .ok (.i2l, 1) := by decide +kernel
theorem d_Law_law_501 : decode code 501 = .ok (.ldc2_w 33, 3) := by decide +kernel
theorem d_Law_law_504 : decode code 504 = .ok (.land, 1) := by decide +kernel
theorem d_Law_law_505 : decode code 505 = .ok (.lor, 1) := by decide +kernel
theorem d_Law_law_506 : decode code 506 = .ok (.invokevirtual 50, 3) := by decide +kernel
theorem d_Law_law_509 : decode code 509 = .ok (.aload_n 2, 1) := by decide +kernel
theorem d_Law_law_510 : decode code 510 = .ok (.aload_n 0, 1) := by decide +kernel
theorem d_Law_law_511 : decode code 511 = .ok (.iload 4, 2) := by decide +kernel
theorem d_Law_law_513 : decode code 513 = .ok (.iconst 1, 1) := by decide +kernel
theorem d_Law_law_514 : decode code 514 = .ok (.iadd, 1) := by decide +kernel
theorem d_Law_law_515 : decode code 515 = .ok (.iaload, 1) := by decide +kernel
theorem d_Law_law_516 : decode code 516 = .ok (.aload_n 0, 1) := by decide +kernel
theorem d_Law_law_517 : decode code 517 = .ok (.iload 4, 2) := by decide +kernel
theorem d_Law_law_519 : decode code 519 = .ok (.iconst 2, 1) := by decide +kernel
theorem d_Law_law_520 : decode code 520 = .ok (.iadd, 1) := by decide +kernel
theorem d_Law_law_521 : decode code 521 = .ok (.iaload, 1) := by decide +kernel
theorem d_Law_law_522 : decode code 522 = .ok (.i2l, 1) := by decide +kernel
theorem d_Law_law_523 : decode code 523 = .ok (.bipush 32, 2) := by decide +kernel
theorem d_Law_law_525 : decode code 525 = .ok (.lshl, 1) := by decide +kernel
theorem d_Law_law_526 : decode code 526 = .ok (.aload_n 0, 1) := by decide +kernel
theorem d_Law_law_527 : decode code 527 = .ok (.iload 4, 2) := by decide +kernel
theorem d_Law_law_529 : decode code 529 = .ok (.iconst 3, 1) := by decide +kernel
theorem d_Law_law_530 : decode code 530 = .ok (.iadd, 1) := by decide +kernel
theorem d_Law_law_531 : decode code 531 = .ok (.iaload, 1) := by decide +kernel
theorem d_Law_law_532 : decode code 532 = .ok (.i2l, 1) := by decide +kernel
theorem d_Law_law_533 : decode code 533 = .ok (.ldc2_w 33, 3) := by decide +kernel
theorem d_Law_law_536 : decode code 536 = .ok (.land, 1) := by decide +kernel
theorem d_Law_law_537 : decode code 537 = .ok (.lor, 1) := by decide +kernel
theorem d_Law_law_538 : decode code 538 = .ok (.invokevirtual 54, 3) := by decide +kernel
theorem d_Law_law_541 : decode code 541 = .ok (.if_icmp .eq 303, 3) := by decide +kernel
theorem d_Law_law_544 : decode code 544 = .ok (.iconst 0, 1) := by decide +kernel
theorem d_Law_law_545 : decode code 545 = .ok (.ireturn, 1) := by decide +kernel
theorem d_Law_law_546 : decode code 546 = .ok (.aload_n 1, 1) := by decide +kernel
theorem d_Law_law_547 : decode code 547 = .ok (.aload_n 0, 1) := by decide +kernel
theorem d_Law_law_548 : decode code 548 = .ok (.iload 4, 2) := by decide +kernel
theorem d_Law_law_550 : decode code 550 = .ok (.iconst 1, 1) := by decide +kernel
theorem d_Law_law_551 : decode code 551 = .ok (.iadd, 1) := by decide +kernel
theorem d_Law_law_552 : decode code 552 = .ok (.iaload, 1) := by decide +kernel
theorem d_Law_law_553 : decode code 553 = .ok (.aload_n 0, 1) := by decide +kernel
theorem d_Law_law_554 : decode code 554 = .ok (.iload 4, 2) := by decide +kernel
theorem d_Law_law_556 : decode code 556 = .ok (.iconst 2, 1) := by decide +kernel
theorem d_Law_law_557 : decode code 557 = .ok (.iadd, 1) := by decide +kernel
theorem d_Law_law_558 : decode code 558 = .ok (.iaload, 1) := by decide +kernel
theorem d_Law_law_559 : decode code 559 = .ok (.i2l, 1) := by decide +kernel
theorem d_Law_law_560 : decode code 560 = .ok (.bipush 32, 2) := by decide +kernel
theorem d_Law_law_562 : decode code 562 = .ok (.lshl, 1) := by decide +kernel
theorem d_Law_law_563 : decode code 563 = .ok (.aload_n 0, 1) := by decide +kernel
theorem d_Law_law_564 : decode code 564 = .ok (.iload 4, 2) := by decide +kernel
theorem d_Law_law_566 : decode code 566 = .ok (.iconst 3, 1) := by decide +kernel
theorem d_Law_law_567 : decode code 567 = .ok (.iadd, 1) := by decide +kernel
theorem d_Law_law_568 : decode code 568 = .ok (.iaload, 1) := by decide +kernel
theorem d_Law_law_569 : decode code 569 = .ok (.i2l, 1) := by decide +kernel
theorem d_Law_law_570 : decode code 570 = .ok (.ldc2_w 33, 3) := by decide +kernel
theorem d_Law_law_573 : decode code 573 = .ok (.land, 1) := by decide +kernel
theorem d_Law_law_574 : decode code 574 = .ok (.lor, 1) := by decide +kernel
theorem d_Law_law_575 : decode code 575 = .ok (.invokevirtual 55, 3) := by decide +kernel
theorem d_Law_law_578 : decode code 578 = .ok (.aload_n 2, 1) := by decide +kernel
theorem d_Law_law_579 : decode code 579 = .ok (.aload_n 0, 1) := by decide +kernel
theorem d_Law_law_580 : decode code 580 = .ok (.iload 4, 2) := by decide +kernel
theorem d_Law_law_582 : decode code 582 = .ok (.iconst 1, 1) := by decide +kernel
theorem d_Law_law_583 : decode code 583 = .ok (.iadd, 1) := by decide +kernel
theorem d_Law_law_584 : decode code 584 = .ok (.iaload, 1) := by decide +kernel
theorem d_Law_law_585 : decode code 585 = .ok (.aload_n 0, 1) := by decide +kernel
theorem d_Law_law_586 : decode code 586 = .ok (.iload 4, 2) := by decide +kernel
theorem d_Law_law_588 : decode code 588 = .ok (.iconst 2, 1) := by decide +kernel
theorem d_Law_law_589 : decode code 589 = .ok (.iadd, 1) := by decide +kernel
theorem d_Law_law_590 : decode code 590 = .ok (.iaload, 1) := by decide +kernel
theorem d_Law_law_591 : decode code 591 = .ok (.i2l, 1) := by decide +kernel
theorem d_Law_law_592 : decode code 592 = .ok (.bipush 32, 2) := by decide +kernel
theorem d_Law_law_594 : decode code 594 = .ok (.lshl, 1) := by decide +kernel
theorem d_Law_law_595 : decode code 595 = .ok (.aload_n 0, 1) := by decide +kernel
theorem d_Law_law_596 : decode code 596 = .ok (.iload 4, 2) := by decide +kernel
theorem d_Law_law_598 : decode code 598 = .ok (.iconst 3, 1) := by decide +kernel
theorem d_Law_law_599 : decode code 599 = .ok (.iadd, 1) := by decide +kernel
theorem d_Law_law_600 : decode code 600 = .ok (.iaload, 1) := by decide +kernel
theorem d_Law_law_601 : decode code 601 = .ok (.i2l, 1) := by decide +kernel
theorem d_Law_law_602 : decode code 602 = .ok (.ldc2_w 33, 3) := by decide +kernel
theorem d_Law_law_605 : decode code 605 = .ok (.land, 1) := by decide +kernel
theorem d_Law_law_606 : decode code 606 = .ok (.lor, 1) := by decide +kernel
theorem d_Law_law_607 : decode code 607 = .ok (.invokevirtual 58, 3) := by decide +kernel
theorem d_Law_law_610 : decode code 610 = .ok (.if_icmp .eq 234, 3) := by decide +kernel
theorem d_Law_law_613 : decode code 613 = .ok (.iconst 0, 1) := by decide +kernel
theorem d_Law_law_614 : decode code 614 = .ok (.ireturn, 1) := by decide +kernel
theorem d_Law_law_615 : decode code 615 = .ok (.aload_n 1, 1) := by decide +kernel
theorem d_Law_law_616 : decode code 616 = .ok (.aload_n 0, 1) := by decide +kernel
theorem d_Law_law_617 : decode code 617 = .ok (.iload 4, 2) := by decide +kernel
theorem d_Law_law_619 : decode code 619 = .ok (.iconst 1, 1) := by decide +kernel
theorem d_Law_law_620 : decode code 620 = .ok (.iadd, 1) := by decide +kernel
theorem d_Law_law_621 : decode code 621 = .ok (.iaload, 1) := by decide +kernel
theorem d_Law_law_622 : decode code 622 = .ok (.invokevirtual 59, 3) := by decide +kernel
theorem d_Law_law_625 : decode code 625 = .ok (.aload_n 2, 1) := by decide +kernel
theorem d_Law_law_626 : decode code 626 = .ok (.aload_n 0, 1) := by decide +kernel
theorem d_Law_law_627 : decode code 627 = .ok (.iload 4, 2) := by decide +kernel
theorem d_Law_law_629 : decode code 629 = .ok (.iconst 1, 1) := by decide +kernel
theorem d_Law_law_630 : decode code 630 = .ok (.iadd, 1) := by decide +kernel
theorem d_Law_law_631 : decode code 631 = .ok (.iaload, 1) := by decide +kernel
theorem d_Law_law_632 : decode code 632 = .ok (.invokevirtual 62, 3) := by decide +kernel
theorem d_Law_law_635 : decode code 635 = .ok (.if_icmp .eq 209, 3) := by decide +kernel
theorem d_Law_law_638 : decode code 638 = .ok (.iconst 0, 1) := by decide +kernel
theorem d_Law_law_639 : decode code 639 = .ok (.ireturn, 1) := by decide +kernel
theorem d_Law_law_640 : decode code 640 = .ok (.aload_n 1, 1) := by decide +kernel
theorem d_Law_law_641 : decode code 641 = .ok (.aload_n 0, 1) := by decide +kernel
theorem d_Law_law_642 : decode code 642 = .ok (.iload 4, 2) := by decide +kernel
theorem d_Law_law_644 : decode code 644 = .ok (.iconst 1, 1) := by decide +kernel
theorem d_Law_law_645 : decode code 645 = .ok (.iadd, 1) := by decide +kernel
theorem d_Law_law_646 : decode code 646 = .ok (.iaload, 1) := by decide +kernel
theorem d_Law_law_647 : decode code 647 = .ok (.invokevirtual 63, 3) := by decide +kernel
theorem d_Law_law_650 : decode code 650 = .ok (.aload_n 2, 1) := by decide +kernel
theorem d_Law_law_651 : decode code 651 = .ok (.aload_n 0, 1) := by decide +kernel
theorem d_Law_law_652 : decode code 652 = .ok (.iload 4, 2) := by decide +kernel
theorem d_Law_law_654 : decode code 654 = .ok (.iconst 1, 1) := by decide +kernel
theorem d_Law_law_655 : decode code 655 = .ok (.iadd, 1) := by decide +kernel
theorem d_Law_law_656 : decode code 656 = .ok (.iaload, 1) := by decide +kernel
theorem d_Law_law_657 : decode code 657 = .ok (.invokevirtual 66, 3) := by decide +kernel
theorem d_Law_law_660 : decode code 660 = .ok (.if_icmp .eq 184, 3) := by decide +kernel
theorem d_Law_law_663 : decode code 663 = .ok (.iconst 0, 1) := by decide +kernel
theorem d_Law_law_664 : decode code 664 = .ok (.ireturn, 1) := by decide +kernel
theorem d_Law_law_665 : decode code 665 = .ok (.aload_n 1, 1) := by decide +kernel
theorem d_Law_law_666 : decode code 666 = .ok (.aload_n 0, 1) := by decide +kernel
theorem d_Law_law_667 : decode code 667 = .ok (.iload 4, 2) := by decide +kernel
theorem d_Law_law_669 : decode code 669 = .ok (.iconst 1, 1) := by decide +kernel
theorem d_Law_law_670 : decode code 670 = .ok (.iadd, 1) := by decide +kernel
theorem d_Law_law_671 : decode code 671 = .ok (.iaload, 1) := by decide +kernel
theorem d_Law_law_672 : decode code 672 = .ok (.aload_n 3, 1) := by decide +kernel
theorem d_Law_law_673 : decode code 673 = .ok (.invokestatic 67, 3) := by decide +kernel
theorem d_Law_law_676 : decode code 676 = .ok (.istore 5, 2) := by decide +kernel
theorem d_Law_law_678 : decode code 678 = .ok (.aload_n 2, 1) := by decide +kernel
theorem d_Law_law_679 : decode code 679 = .ok (.aload_n 0, 1) := by decide +kernel
theorem d_Law_law_680 : decode code 680 = .ok (.iload 4, 2) := by decide +kernel
theorem d_Law_law_682 : decode code 682 = .ok (.iconst 1, 1) := by decide +kernel
theorem d_Law_law_683 : decode code 683 = .ok (.iadd, 1) := by decide +kernel
theorem d_Law_law_684 : decode code 684 = .ok (.iaload, 1) := by decide +kernel
theorem d_Law_law_685 : decode code 685 = .ok (.invokevirtual 72, 3) := by decide +kernel
theorem d_Law_law_688 : decode code 688 = .ok (.lstore 6, 2) := by decide +kernel
theorem d_Law_law_690 : decode code 690 = .ok (.aload_n 2, 1) := by decide +kernel
theorem d_Law_law_691 : decode code 691 = .ok (.invokevirtual 73, 3) := by decide +kernel
theorem d_Law_law_694 : decode code 694 = .ok (.iload 5, 2) := by decide +kernel
theorem d_Law_law_696 : decode code 696 = .ok (.if_icmp .eq 5, 3) := by decide +kernel
theorem d_Law_law_699 : decode code 699 = .ok (.iconst 0, 1) := by decide +kernel
theorem d_Law_law_700 : decode code 700 = .ok (.ireturn, 1) := by decide +kernel
theorem d_Law_law_701 : decode code 701 = .ok (.iload 5, 2) := by decide +kernel
theorem d_Law_law_703 : decode code 703 = .ok (.ifCond .ne 14, 3) := by decide +kernel
theorem d_Law_law_706 : decode code 706 = .ok (.aload_n 3, 1) := by decide +kernel
theorem d_Law_law_707 : decode code 707 = .ok (.iconst 0, 1) := by decide +kernel
theorem d_Law_law_708 : decode code 708 = .ok (.laload, 1) := by decide +kernel
theorem d_Law_law_709 : decode code 709 = .ok (.lload 6, 2) := by decide +kernel
theorem d_Law_law_711 : decode code 711 = .ok (.lcmp, 1) := by decide +kernel
theorem d_Law_law_712 : decode code 712 = .ok (.ifCond .eq 5, 3) := by decide +kernel
theorem d_Law_law_715 : decode code 715 = .ok (.iconst 0, 1) := by decide +kernel
theorem d_Law_law_716 : decode code 716 = .ok (.ireturn, 1) := by decide +kernel
theorem d_Law_law_717 : decode code 717 = .ok (.goto 127, 3) := by decide +kernel
theorem d_Law_law_720 : decode code 720 = .ok (.aload_n 1, 1) := by decide +kernel
theorem d_Law_law_721 : decode code 721 = .ok (.aload_n 0, 1) := by decide +kernel
theorem d_Law_law_722 : decode code 722 = .ok (.iload 4, 2) := by decide +kernel
theorem d_Law_law_724 : decode code 724 = .ok (.iconst 1, 1) := by decide +kernel
theorem d_Law_law_725 : decode code 725 = .ok (.iadd, 1) := by decide +kernel
theorem d_Law_law_726 : decode code 726 = .ok (.iaload, 1) := by decide +kernel
theorem d_Law_law_727 : decode code 727 = .ok (.aload_n 0, 1) := by decide +kernel
theorem d_Law_law_728 : decode code 728 = .ok (.iload 4, 2) := by decide +kernel
theorem d_Law_law_730 : decode code 730 = .ok (.iconst 2, 1) := by decide +kernel
theorem d_Law_law_731 : decode code 731 = .ok (.iadd, 1) := by decide +kernel
theorem d_Law_law_732 : decode code 732 = .ok (.iaload, 1) := by decide +kernel
theorem d_Law_law_733 : decode code 733 = .ok (.i2l, 1) := by decide +kernel
theorem d_Law_law_734 : decode code 734 = .ok (.bipush 32, 2) := by decide +kernel
theorem d_Law_law_736 : decode code 736 = .ok (.lshl, 1) := by decide +kernel
theorem d_Law_law_737 : decode code 737 = .ok (.aload_n 0, 1) := by decide +kernel
theorem d_Law_law_738 : decode code 738 = .ok (.iload 4, 2) := by decide +kernel
theorem d_Law_law_740 : decode code 740 = .ok (.iconst 3, 1) := by decide +kernel
theorem d_Law_law_741 : decode code 741 = .ok (.iadd, 1) := by decide +kernel
theorem d_Law_law_742 : decode code 742 = .ok (.iaload, 1) := by decide +kernel
theorem d_Law_law_743 : decode code 743 = .ok (.i2l, 1) := by decide +kernel
theorem d_Law_law_744 : decode code 744 = .ok (.ldc2_w 33, 3) := by decide +kernel
theorem d_Law_law_747 : decode code 747 = .ok (.land, 1) := by decide +kernel
theorem d_Law_law_748 : decode code 748 = .ok (.lor, 1) := by decide +kernel
theorem d_Law_law_749 : decode code 749 = .ok (.aload_n 3, 1) := by decide +kernel
theorem d_Law_law_750 : decode code 750 = .ok (.invokestatic 77, 3) := by decide +kernel
theorem d_Law_law_753 : decode code 753 = .ok (.istore 5, 2) := by decide +kernel
theorem d_Law_law_755 : decode code 755 = .ok (.aload_n 2, 1) := by decide +kernel
theorem d_Law_law_756 : decode code 756 = .ok (.aload_n 0, 1) := by decide +kernel
theorem d_Law_law_757 : decode code 757 = .ok (.iload 4, 2) := by decide +kernel
theorem d_Law_law_759 : decode code 759 = .ok (.iconst 1, 1) := by decide +kernel
theorem d_Law_law_760 : decode code 760 = .ok (.iadd, 1) := by decide +kernel
theorem d_Law_law_761 : decode code 761 = .ok (.iaload, 1) := by decide +kernel
theorem d_Law_law_762 : decode code 762 = .ok (.aload_n 0, 1) := by decide +kernel
theorem d_Law_law_763 : decode code 763 = .ok (.iload 4, 2) := by decide +kernel
theorem d_Law_law_765 : decode code 765 = .ok (.iconst 2, 1) := by decide +kernel
theorem d_Law_law_766 : decode code 766 = .ok (.iadd, 1) := by decide +kernel
theorem d_Law_law_767 : decode code 767 = .ok (.iaload, 1) := by decide +kernel
theorem d_Law_law_768 : decode code 768 = .ok (.i2l, 1) := by decide +kernel
theorem d_Law_law_769 : decode code 769 = .ok (.bipush 32, 2) := by decide +kernel
theorem d_Law_law_771 : decode code 771 = .ok (.lshl, 1) := by decide +kernel
theorem d_Law_law_772 : decode code 772 = .ok (.aload_n 0, 1) := by decide +kernel
theorem d_Law_law_773 : decode code 773 = .ok (.iload 4, 2) := by decide +kernel
theorem d_Law_law_775 : decode code 775 = .ok (.iconst 3, 1) := by decide +kernel
theorem d_Law_law_776 : decode code 776 = .ok (.iadd, 1) := by decide +kernel
theorem d_Law_law_777 : decode code 777 = .ok (.iaload, 1) := by decide +kernel
theorem d_Law_law_778 : decode code 778 = .ok (.i2l, 1) := by decide +kernel
theorem d_Law_law_779 : decode code 779 = .ok (.ldc2_w 33, 3) := by decide +kernel
theorem d_Law_law_782 : decode code 782 = .ok (.land, 1) := by decide +kernel
theorem d_Law_law_783 : decode code 783 = .ok (.lor, 1) := by decide +kernel
theorem d_Law_law_784 : decode code 784 = .ok (.invokevirtual 80, 3) := by decide +kernel
theorem d_Law_law_787 : decode code 787 = .ok (.lstore 6, 2) := by decide +kernel
theorem d_Law_law_789 : decode code 789 = .ok (.aload_n 2, 1) := by decide +kernel
theorem d_Law_law_790 : decode code 790 = .ok (.invokevirtual 73, 3) := by decide +kernel
theorem d_Law_law_793 : decode code 793 = .ok (.iload 5, 2) := by decide +kernel
theorem d_Law_law_795 : decode code 795 = .ok (.if_icmp .eq 5, 3) := by decide +kernel
theorem d_Law_law_798 : decode code 798 = .ok (.iconst 0, 1) := by decide +kernel
theorem d_Law_law_799 : decode code 799 = .ok (.ireturn, 1) := by decide +kernel
theorem d_Law_law_800 : decode code 800 = .ok (.iload 5, 2) := by decide +kernel
theorem d_Law_law_802 : decode code 802 = .ok (.ifCond .ne 14, 3) := by decide +kernel
theorem d_Law_law_805 : decode code 805 = .ok (.aload_n 3, 1) := by decide +kernel
theorem d_Law_law_806 : decode code 806 = .ok (.iconst 0, 1) := by decide +kernel
theorem d_Law_law_807 : decode code 807 = .ok (.laload, 1) := by decide +kernel
theorem d_Law_law_808 : decode code 808 = .ok (.lload 6, 2) := by decide +kernel
theorem d_Law_law_810 : decode code 810 = .ok (.lcmp, 1) := by decide +kernel
theorem d_Law_law_811 : decode code 811 = .ok (.ifCond .eq 5, 3) := by decide +kernel
theorem d_Law_law_814 : decode code 814 = .ok (.iconst 0, 1) := by decide +kernel
theorem d_Law_law_815 : decode code 815 = .ok (.ireturn, 1) := by decide +kernel
theorem d_Law_law_816 : decode code 816 = .ok (.goto 28, 3) := by decide +kernel
theorem d_Law_law_819 : decode code 819 = .ok (.aload_n 1, 1) := by decide +kernel
theorem d_Law_law_820 : decode code 820 = .ok (.aload_n 0, 1) := by decide +kernel
theorem d_Law_law_821 : decode code 821 = .ok (.iload 4, 2) := by decide +kernel
theorem d_Law_law_823 : decode code 823 = .ok (.iconst 1, 1) := by decide +kernel
theorem d_Law_law_824 : decode code 824 = .ok (.iadd, 1) := by decide +kernel
theorem d_Law_law_825 : decode code 825 = .ok (.iaload, 1) := by decide +kernel
theorem d_Law_law_826 : decode code 826 = .ok (.invokevirtual 81, 3) := by decide +kernel
theorem d_Law_law_829 : decode code 829 = .ok (.aload_n 2, 1) := by decide +kernel
theorem d_Law_law_830 : decode code 830 = .ok (.aload_n 0, 1) := by decide +kernel
theorem d_Law_law_831 : decode code 831 = .ok (.iload 4, 2) := by decide +kernel
theorem d_Law_law_833 : decode code 833 = .ok (.iconst 1, 1) := by decide +kernel
theorem d_Law_law_834 : decode code 834 = .ok (.iadd, 1) := by decide +kernel
theorem d_Law_law_835 : decode code 835 = .ok (.iaload, 1) := by decide +kernel
theorem d_Law_law_836 : decode code 836 = .ok (.invokevirtual 84, 3) := by decide +kernel
theorem d_Law_law_839 : decode code 839 = .ok (.if_icmp .eq 5, 3) := by decide +kernel
theorem d_Law_law_842 : decode code 842 = .ok (.iconst 0, 1) := by decide +kernel
theorem d_Law_law_843 : decode code 843 = .ok (.ireturn, 1) := by decide +kernel
theorem d_Law_law_844 : decode code 844 = .ok (.iinc 4 8, 3) := by decide +kernel
theorem d_Law_law_847 : decode code 847 = .ok (.goto (-824), 3) := by decide +kernel
theorem d_Law_law_850 : decode code 850 = .ok (.iconst 1, 1) := by decide +kernel
theorem d_Law_law_851 : decode code 851 = .ok (.ireturn, 1) := by decide +kernel
