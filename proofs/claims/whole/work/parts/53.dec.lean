abbrev bL_law : ByteArray := code
theorem dL_law_0 : decode bL_law 0 = .ok (.new 8, 3) := by decide +kernel
theorem dL_law_3 : decode bL_law 3 = .ok (.dup, 1) := by decide +kernel
theorem dL_law_4 : decode bL_law 4 = .ok (.invokespecial 73, 3) := by decide +kernel
theorem dL_law_7 : decode bL_law 7 = .ok (.astore_n 1, 1) := by decide +kernel
theorem dL_law_8 : decode bL_law 8 = .ok (.new 74, 3) := by decide +kernel
theorem dL_law_11 : decode bL_law 11 = .ok (.dup, 1) := by decide +kernel
theorem dL_law_12 : decode bL_law 12 = .ok (.invokespecial 76, 3) := by decide +kernel
theorem dL_law_15 : decode bL_law 15 = .ok (.astore_n 2, 1) := by decide +kernel
theorem dL_law_16 : decode bL_law 16 = .ok (.iconst 1, 1) := by decide +kernel
theorem dL_law_17 : decode bL_law 17 = .ok (.newarray .long, 2) := by decide +kernel
theorem dL_law_19 : decode bL_law 19 = .ok (.astore_n 3, 1) := by decide +kernel
theorem dL_law_20 : decode bL_law 20 = .ok (.iconst 0, 1) := by decide +kernel
theorem dL_law_21 : decode bL_law 21 = .ok (.istore 4, 2) := by decide +kernel
theorem dL_law_23 : decode bL_law 23 = .ok (.iload 4, 2) := by decide +kernel
theorem dL_law_25 : decode bL_law 25 = .ok (.aload_n 0, 1) := by decide +kernel
theorem dL_law_26 : decode bL_law 26 = .ok (.arraylength, 1) := by decide +kernel
theorem dL_law_27 : decode bL_law 27 = .ok (.iconst 4, 1) := by decide +kernel
theorem dL_law_28 : decode bL_law 28 = .ok (.isub, 1) := by decide +kernel
theorem dL_law_29 : decode bL_law 29 = .ok (.if_icmp .gt 1177, 3) := by decide +kernel
theorem dL_law_32 : decode bL_law 32 = .ok (.aload_n 0, 1) := by decide +kernel
theorem dL_law_33 : decode bL_law 33 = .ok (.iload 4, 2) := by decide +kernel
theorem dL_law_35 : decode bL_law 35 = .ok (.iaload, 1) := by decide +kernel
theorem dL_law_36 : decode bL_law 36 = .ok (.bipush 31, 2) := by decide +kernel
theorem dL_law_38 : decode bL_law 38 = .ok (.iand, 1) := by decide +kernel
theorem dL_law_39 : decode bL_law 39 = .ok (.tableswitch 1161 0 18 #[89, 157, 225, 305, 361, 429, 497, 508, 521, 565, 633, 701, 769, 793, 837, 881, 965, 1049, 1105], 89) := by decide +kernel
theorem dL_law_128 : decode bL_law 128 = .ok (.aload_n 1, 1) := by decide +kernel
theorem dL_law_129 : decode bL_law 129 = .ok (.aload_n 0, 1) := by decide +kernel
theorem dL_law_130 : decode bL_law 130 = .ok (.iload 4, 2) := by decide +kernel
theorem dL_law_132 : decode bL_law 132 = .ok (.iconst 1, 1) := by decide +kernel
theorem dL_law_133 : decode bL_law 133 = .ok (.iadd, 1) := by decide +kernel
theorem dL_law_134 : decode bL_law 134 = .ok (.iaload, 1) := by decide +kernel
theorem dL_law_135 : decode bL_law 135 = .ok (.aload_n 0, 1) := by decide +kernel
theorem dL_law_136 : decode bL_law 136 = .ok (.iload 4, 2) := by decide +kernel
theorem dL_law_138 : decode bL_law 138 = .ok (.iconst 2, 1) := by decide +kernel
theorem dL_law_139 : decode bL_law 139 = .ok (.iadd, 1) := by decide +kernel
theorem dL_law_140 : decode bL_law 140 = .ok (.iaload, 1) := by decide +kernel
theorem dL_law_141 : decode bL_law 141 = .ok (.aload_n 3, 1) := by decide +kernel
theorem dL_law_142 : decode bL_law 142 = .ok (.invokestatic 77, 3) := by decide +kernel
theorem dL_law_145 : decode bL_law 145 = .ok (.istore 5, 2) := by decide +kernel
theorem dL_law_147 : decode bL_law 147 = .ok (.aload_n 2, 1) := by decide +kernel
theorem dL_law_148 : decode bL_law 148 = .ok (.aload_n 0, 1) := by decide +kernel
theorem dL_law_149 : decode bL_law 149 = .ok (.iload 4, 2) := by decide +kernel
theorem dL_law_151 : decode bL_law 151 = .ok (.iconst 1, 1) := by decide +kernel
theorem dL_law_152 : decode bL_law 152 = .ok (.iadd, 1) := by decide +kernel
theorem dL_law_153 : decode bL_law 153 = .ok (.iaload, 1) := by decide +kernel
theorem dL_law_154 : decode bL_law 154 = .ok (.aload_n 0, 1) := by decide +kernel
theorem dL_law_155 : decode bL_law 155 = .ok (.iload 4, 2) := by decide +kernel
theorem dL_law_157 : decode bL_law 157 = .ok (.iconst 2, 1) := by decide +kernel
theorem dL_law_158 : decode bL_law 158 = .ok (.iadd, 1) := by decide +kernel
theorem dL_law_159 : decode bL_law 159 = .ok (.iaload, 1) := by decide +kernel
theorem dL_law_160 : decode bL_law 160 = .ok (.invokevirtual 82, 3) := by decide +kernel
theorem dL_law_163 : decode bL_law 163 = .ok (.istore 6, 2) := by decide +kernel
theorem dL_law_165 : decode bL_law 165 = .ok (.aload_n 2, 1) := by decide +kernel
theorem dL_law_166 : decode bL_law 166 = .ok (.invokevirtual 83, 3) := by decide +kernel
theorem dL_law_169 : decode bL_law 169 = .ok (.iload 5, 2) := by decide +kernel
theorem dL_law_171 : decode bL_law 171 = .ok (.if_icmp .eq 5, 3) := by decide +kernel
theorem dL_law_174 : decode bL_law 174 = .ok (.iconst 0, 1) := by decide +kernel
theorem dL_law_175 : decode bL_law 175 = .ok (.ireturn, 1) := by decide +kernel
theorem dL_law_176 : decode bL_law 176 = .ok (.iload 5, 2) := by decide +kernel
theorem dL_law_178 : decode bL_law 178 = .ok (.ifCond .ne 15, 3) := by decide +kernel
theorem dL_law_181 : decode bL_law 181 = .ok (.aload_n 3, 1) := by decide +kernel
theorem dL_law_182 : decode bL_law 182 = .ok (.iconst 0, 1) := by decide +kernel
theorem dL_law_183 : decode bL_law 183 = .ok (.laload, 1) := by decide +kernel
theorem dL_law_184 : decode bL_law 184 = .ok (.iload 6, 2) := by decide +kernel
theorem dL_law_186 : decode bL_law 186 = .ok (.i2l, 1) := by decide +kernel
theorem dL_law_187 : decode bL_law 187 = .ok (.lcmp, 1) := by decide +kernel
theorem dL_law_188 : decode bL_law 188 = .ok (.ifCond .eq 5, 3) := by decide +kernel
theorem dL_law_191 : decode bL_law 191 = .ok (.iconst 0, 1) := by decide +kernel
theorem dL_law_192 : decode bL_law 192 = .ok (.ireturn, 1) := by decide +kernel
theorem dL_law_193 : decode bL_law 193 = .ok (.goto 1007, 3) := by decide +kernel
theorem dL_law_196 : decode bL_law 196 = .ok (.aload_n 1, 1) := by decide +kernel
theorem dL_law_197 : decode bL_law 197 = .ok (.aload_n 0, 1) := by decide +kernel
theorem dL_law_198 : decode bL_law 198 = .ok (.iload 4, 2) := by decide +kernel
theorem dL_law_200 : decode bL_law 200 = .ok (.iconst 1, 1) := by decide +kernel
theorem dL_law_201 : decode bL_law 201 = .ok (.iadd, 1) := by decide +kernel
theorem dL_law_202 : decode bL_law 202 = .ok (.iaload, 1) := by decide +kernel
theorem dL_law_203 : decode bL_law 203 = .ok (.aload_n 0, 1) := by decide +kernel
theorem dL_law_204 : decode bL_law 204 = .ok (.iload 4, 2) := by decide +kernel
theorem dL_law_206 : decode bL_law 206 = .ok (.iconst 2, 1) := by decide +kernel
theorem dL_law_207 : decode bL_law 207 = .ok (.iadd, 1) := by decide +kernel
theorem dL_law_208 : decode bL_law 208 = .ok (.iaload, 1) := by decide +kernel
theorem dL_law_209 : decode bL_law 209 = .ok (.aload_n 3, 1) := by decide +kernel
theorem dL_law_210 : decode bL_law 210 = .ok (.invokestatic 86, 3) := by decide +kernel
theorem dL_law_213 : decode bL_law 213 = .ok (.istore 5, 2) := by decide +kernel
theorem dL_law_215 : decode bL_law 215 = .ok (.aload_n 2, 1) := by decide +kernel
theorem dL_law_216 : decode bL_law 216 = .ok (.aload_n 0, 1) := by decide +kernel
theorem dL_law_217 : decode bL_law 217 = .ok (.iload 4, 2) := by decide +kernel
theorem dL_law_219 : decode bL_law 219 = .ok (.iconst 1, 1) := by decide +kernel
theorem dL_law_220 : decode bL_law 220 = .ok (.iadd, 1) := by decide +kernel
theorem dL_law_221 : decode bL_law 221 = .ok (.iaload, 1) := by decide +kernel
theorem dL_law_222 : decode bL_law 222 = .ok (.aload_n 0, 1) := by decide +kernel
theorem dL_law_223 : decode bL_law 223 = .ok (.iload 4, 2) := by decide +kernel
theorem dL_law_225 : decode bL_law 225 = .ok (.iconst 2, 1) := by decide +kernel
theorem dL_law_226 : decode bL_law 226 = .ok (.iadd, 1) := by decide +kernel
theorem dL_law_227 : decode bL_law 227 = .ok (.iaload, 1) := by decide +kernel
theorem dL_law_228 : decode bL_law 228 = .ok (.invokevirtual 88, 3) := by decide +kernel
theorem dL_law_231 : decode bL_law 231 = .ok (.istore 6, 2) := by decide +kernel
theorem dL_law_233 : decode bL_law 233 = .ok (.aload_n 2, 1) := by decide +kernel
theorem dL_law_234 : decode bL_law 234 = .ok (.invokevirtual 83, 3) := by decide +kernel
theorem dL_law_237 : decode bL_law 237 = .ok (.iload 5, 2) := by decide +kernel
theorem dL_law_239 : decode bL_law 239 = .ok (.if_icmp .eq 5, 3) := by decide +kernel
theorem dL_law_242 : decode bL_law 242 = .ok (.iconst 0, 1) := by decide +kernel
theorem dL_law_243 : decode bL_law 243 = .ok (.ireturn, 1) := by decide +kernel
theorem dL_law_244 : decode bL_law 244 = .ok (.iload 5, 2) := by decide +kernel
theorem dL_law_246 : decode bL_law 246 = .ok (.ifCond .ne 15, 3) := by decide +kernel
theorem dL_law_249 : decode bL_law 249 = .ok (.aload_n 3, 1) := by decide +kernel
theorem dL_law_250 : decode bL_law 250 = .ok (.iconst 0, 1) := by decide +kernel
theorem dL_law_251 : decode bL_law 251 = .ok (.laload, 1) := by decide +kernel
theorem dL_law_252 : decode bL_law 252 = .ok (.iload 6, 2) := by decide +kernel
theorem dL_law_254 : decode bL_law 254 = .ok (.i2l, 1) := by decide +kernel
theorem dL_law_255 : decode bL_law 255 = .ok (.lcmp, 1) := by decide +kernel
theorem dL_law_256 : decode bL_law 256 = .ok (.ifCond .eq 5, 3) := by decide +kernel
theorem dL_law_259 : decode bL_law 259 = .ok (.iconst 0, 1) := by decide +kernel
theorem dL_law_260 : decode bL_law 260 = .ok (.ireturn, 1) := by decide +kernel
theorem dL_law_261 : decode bL_law 261 = .ok (.goto 939, 3) := by decide +kernel
theorem dL_law_264 : decode bL_law 264 = .ok (.aload_n 1, 1) := by decide +kernel
theorem dL_law_265 : decode bL_law 265 = .ok (.aload_n 0, 1) := by decide +kernel
theorem dL_law_266 : decode bL_law 266 = .ok (.iload 4, 2) := by decide +kernel
theorem dL_law_268 : decode bL_law 268 = .ok (.iconst 1, 1) := by decide +kernel
theorem dL_law_269 : decode bL_law 269 = .ok (.iadd, 1) := by decide +kernel
theorem dL_law_270 : decode bL_law 270 = .ok (.iaload, 1) := by decide +kernel
theorem dL_law_271 : decode bL_law 271 = .ok (.aload_n 0, 1) := by decide +kernel
theorem dL_law_272 : decode bL_law 272 = .ok (.iload 4, 2) := by decide +kernel
theorem dL_law_274 : decode bL_law 274 = .ok (.iconst 2, 1) := by decide +kernel
theorem dL_law_275 : decode bL_law 275 = .ok (.iadd, 1) := by decide +kernel
theorem dL_law_276 : decode bL_law 276 = .ok (.iaload, 1) := by decide +kernel
theorem dL_law_277 : decode bL_law 277 = .ok (.aload_n 0, 1) := by decide +kernel
theorem dL_law_278 : decode bL_law 278 = .ok (.iload 4, 2) := by decide +kernel
theorem dL_law_280 : decode bL_law 280 = .ok (.iconst 3, 1) := by decide +kernel
theorem dL_law_281 : decode bL_law 281 = .ok (.iadd, 1) := by decide +kernel
theorem dL_law_282 : decode bL_law 282 = .ok (.iaload, 1) := by decide +kernel
theorem dL_law_283 : decode bL_law 283 = .ok (.aload_n 3, 1) := by decide +kernel
theorem dL_law_284 : decode bL_law 284 = .ok (.invokestatic 89, 3) := by decide +kernel
theorem dL_law_287 : decode bL_law 287 = .ok (.istore 5, 2) := by decide +kernel
theorem dL_law_289 : decode bL_law 289 = .ok (.aload_n 2, 1) := by decide +kernel
theorem dL_law_290 : decode bL_law 290 = .ok (.aload_n 0, 1) := by decide +kernel
theorem dL_law_291 : decode bL_law 291 = .ok (.iload 4, 2) := by decide +kernel
theorem dL_law_293 : decode bL_law 293 = .ok (.iconst 1, 1) := by decide +kernel
theorem dL_law_294 : decode bL_law 294 = .ok (.iadd, 1) := by decide +kernel
theorem dL_law_295 : decode bL_law 295 = .ok (.iaload, 1) := by decide +kernel
theorem dL_law_296 : decode bL_law 296 = .ok (.aload_n 0, 1) := by decide +kernel
theorem dL_law_297 : decode bL_law 297 = .ok (.iload 4, 2) := by decide +kernel
theorem dL_law_299 : decode bL_law 299 = .ok (.iconst 2, 1) := by decide +kernel
theorem dL_law_300 : decode bL_law 300 = .ok (.iadd, 1) := by decide +kernel
theorem dL_law_301 : decode bL_law 301 = .ok (.iaload, 1) := by decide +kernel
theorem dL_law_302 : decode bL_law 302 = .ok (.aload_n 0, 1) := by decide +kernel
theorem dL_law_303 : decode bL_law 303 = .ok (.iload 4, 2) := by decide +kernel
theorem dL_law_305 : decode bL_law 305 = .ok (.iconst 3, 1) := by decide +kernel
theorem dL_law_306 : decode bL_law 306 = .ok (.iadd, 1) := by decide +kernel
theorem dL_law_307 : decode bL_law 307 = .ok (.iaload, 1) := by decide +kernel
theorem dL_law_308 : decode bL_law 308 = .ok (.invokevirtual 92, 3) := by decide +kernel
theorem dL_law_311 : decode bL_law 311 = .ok (.istore 6, 2) := by decide +kernel
theorem dL_law_313 : decode bL_law 313 = .ok (.aload_n 2, 1) := by decide +kernel
theorem dL_law_314 : decode bL_law 314 = .ok (.invokevirtual 83, 3) := by decide +kernel
theorem dL_law_317 : decode bL_law 317 = .ok (.iload 5, 2) := by decide +kernel
theorem dL_law_319 : decode bL_law 319 = .ok (.if_icmp .eq 5, 3) := by decide +kernel
theorem dL_law_322 : decode bL_law 322 = .ok (.iconst 0, 1) := by decide +kernel
theorem dL_law_323 : decode bL_law 323 = .ok (.ireturn, 1) := by decide +kernel
theorem dL_law_324 : decode bL_law 324 = .ok (.iload 5, 2) := by decide +kernel
theorem dL_law_326 : decode bL_law 326 = .ok (.ifCond .ne 15, 3) := by decide +kernel
theorem dL_law_329 : decode bL_law 329 = .ok (.aload_n 3, 1) := by decide +kernel
theorem dL_law_330 : decode bL_law 330 = .ok (.iconst 0, 1) := by decide +kernel
theorem dL_law_331 : decode bL_law 331 = .ok (.laload, 1) := by decide +kernel
theorem dL_law_332 : decode bL_law 332 = .ok (.iload 6, 2) := by decide +kernel
theorem dL_law_334 : decode bL_law 334 = .ok (.i2l, 1) := by decide +kernel
theorem dL_law_335 : decode bL_law 335 = .ok (.lcmp, 1) := by decide +kernel
theorem dL_law_336 : decode bL_law 336 = .ok (.ifCond .eq 5, 3) := by decide +kernel
theorem dL_law_339 : decode bL_law 339 = .ok (.iconst 0, 1) := by decide +kernel
theorem dL_law_340 : decode bL_law 340 = .ok (.ireturn, 1) := by decide +kernel
theorem dL_law_341 : decode bL_law 341 = .ok (.goto 859, 3) := by decide +kernel
theorem dL_law_344 : decode bL_law 344 = .ok (.aload_n 1, 1) := by decide +kernel
theorem dL_law_345 : decode bL_law 345 = .ok (.aload_n 0, 1) := by decide +kernel
theorem dL_law_346 : decode bL_law 346 = .ok (.iload 4, 2) := by decide +kernel
theorem dL_law_348 : decode bL_law 348 = .ok (.iconst 1, 1) := by decide +kernel
theorem dL_law_349 : decode bL_law 349 = .ok (.iadd, 1) := by decide +kernel
theorem dL_law_350 : decode bL_law 350 = .ok (.iaload, 1) := by decide +kernel
theorem dL_law_351 : decode bL_law 351 = .ok (.aload_n 3, 1) := by decide +kernel
theorem dL_law_352 : decode bL_law 352 = .ok (.invokestatic 93, 3) := by decide +kernel
theorem dL_law_355 : decode bL_law 355 = .ok (.istore 5, 2) := by decide +kernel
theorem dL_law_357 : decode bL_law 357 = .ok (.aload_n 2, 1) := by decide +kernel
theorem dL_law_358 : decode bL_law 358 = .ok (.aload_n 0, 1) := by decide +kernel
theorem dL_law_359 : decode bL_law 359 = .ok (.iload 4, 2) := by decide +kernel
theorem dL_law_361 : decode bL_law 361 = .ok (.iconst 1, 1) := by decide +kernel
theorem dL_law_362 : decode bL_law 362 = .ok (.iadd, 1) := by decide +kernel
theorem dL_law_363 : decode bL_law 363 = .ok (.iaload, 1) := by decide +kernel
theorem dL_law_364 : decode bL_law 364 = .ok (.invokevirtual 96, 3) := by decide +kernel
theorem dL_law_367 : decode bL_law 367 = .ok (.istore 6, 2) := by decide +kernel
theorem dL_law_369 : decode bL_law 369 = .ok (.aload_n 2, 1) := by decide +kernel
theorem dL_law_370 : decode bL_law 370 = .ok (.invokevirtual 83, 3) := by decide +kernel
theorem dL_law_373 : decode bL_law 373 = .ok (.iload 5, 2) := by decide +kernel
theorem dL_law_375 : decode bL_law 375 = .ok (.if_icmp .eq 5, 3) := by decide +kernel
theorem dL_law_378 : decode bL_law 378 = .ok (.iconst 0, 1) := by decide +kernel
theorem dL_law_379 : decode bL_law 379 = .ok (.ireturn, 1) := by decide +kernel
theorem dL_law_380 : decode bL_law 380 = .ok (.iload 5, 2) := by decide +kernel
theorem dL_law_382 : decode bL_law 382 = .ok (.ifCond .ne 15, 3) := by decide +kernel
theorem dL_law_385 : decode bL_law 385 = .ok (.aload_n 3, 1) := by decide +kernel
theorem dL_law_386 : decode bL_law 386 = .ok (.iconst 0, 1) := by decide +kernel
theorem dL_law_387 : decode bL_law 387 = .ok (.laload, 1) := by decide +kernel
theorem dL_law_388 : decode bL_law 388 = .ok (.iload 6, 2) := by decide +kernel
theorem dL_law_390 : decode bL_law 390 = .ok (.i2l, 1) := by decide +kernel
theorem dL_law_391 : decode bL_law 391 = .ok (.lcmp, 1) := by decide +kernel
theorem dL_law_392 : decode bL_law 392 = .ok (.ifCond .eq 5, 3) := by decide +kernel
theorem dL_law_395 : decode bL_law 395 = .ok (.iconst 0, 1) := by decide +kernel
theorem dL_law_396 : decode bL_law 396 = .ok (.ireturn, 1) := by decide +kernel
theorem dL_law_397 : decode bL_law 397 = .ok (.goto 803, 3) := by decide +kernel
theorem dL_law_400 : decode bL_law 400 = .ok (.aload_n 1, 1) := by decide +kernel
theorem dL_law_401 : decode bL_law 401 = .ok (.aload_n 0, 1) := by decide +kernel
theorem dL_law_402 : decode bL_law 402 = .ok (.iload 4, 2) := by decide +kernel
theorem dL_law_404 : decode bL_law 404 = .ok (.iconst 1, 1) := by decide +kernel
theorem dL_law_405 : decode bL_law 405 = .ok (.iadd, 1) := by decide +kernel
theorem dL_law_406 : decode bL_law 406 = .ok (.iaload, 1) := by decide +kernel
theorem dL_law_407 : decode bL_law 407 = .ok (.aload_n 0, 1) := by decide +kernel
theorem dL_law_408 : decode bL_law 408 = .ok (.iload 4, 2) := by decide +kernel
theorem dL_law_410 : decode bL_law 410 = .ok (.iconst 2, 1) := by decide +kernel
theorem dL_law_411 : decode bL_law 411 = .ok (.iadd, 1) := by decide +kernel
theorem dL_law_412 : decode bL_law 412 = .ok (.iaload, 1) := by decide +kernel
theorem dL_law_413 : decode bL_law 413 = .ok (.aload_n 3, 1) := by decide +kernel
theorem dL_law_414 : decode bL_law 414 = .ok (.invokestatic 97, 3) := by decide +kernel
theorem dL_law_417 : decode bL_law 417 = .ok (.istore 5, 2) := by decide +kernel
theorem dL_law_419 : decode bL_law 419 = .ok (.aload_n 2, 1) := by decide +kernel
theorem dL_law_420 : decode bL_law 420 = .ok (.aload_n 0, 1) := by decide +kernel
theorem dL_law_421 : decode bL_law 421 = .ok (.iload 4, 2) := by decide +kernel
theorem dL_law_423 : decode bL_law 423 = .ok (.iconst 1, 1) := by decide +kernel
theorem dL_law_424 : decode bL_law 424 = .ok (.iadd, 1) := by decide +kernel
theorem dL_law_425 : decode bL_law 425 = .ok (.iaload, 1) := by decide +kernel
theorem dL_law_426 : decode bL_law 426 = .ok (.aload_n 0, 1) := by decide +kernel
theorem dL_law_427 : decode bL_law 427 = .ok (.iload 4, 2) := by decide +kernel
theorem dL_law_429 : decode bL_law 429 = .ok (.iconst 2, 1) := by decide +kernel
theorem dL_law_430 : decode bL_law 430 = .ok (.iadd, 1) := by decide +kernel
theorem dL_law_431 : decode bL_law 431 = .ok (.iaload, 1) := by decide +kernel
theorem dL_law_432 : decode bL_law 432 = .ok (.invokevirtual 99, 3) := by decide +kernel
theorem dL_law_435 : decode bL_law 435 = .ok (.istore 6, 2) := by decide +kernel
theorem dL_law_437 : decode bL_law 437 = .ok (.aload_n 2, 1) := by decide +kernel
theorem dL_law_438 : decode bL_law 438 = .ok (.invokevirtual 83, 3) := by decide +kernel
theorem dL_law_441 : decode bL_law 441 = .ok (.iload 5, 2) := by decide +kernel
theorem dL_law_443 : decode bL_law 443 = .ok (.if_icmp .eq 5, 3) := by decide +kernel
theorem dL_law_446 : decode bL_law 446 = .ok (.iconst 0, 1) := by decide +kernel
theorem dL_law_447 : decode bL_law 447 = .ok (.ireturn, 1) := by decide +kernel
theorem dL_law_448 : decode bL_law 448 = .ok (.iload 5, 2) := by decide +kernel
theorem dL_law_450 : decode bL_law 450 = .ok (.ifCond .ne 15, 3) := by decide +kernel
theorem dL_law_453 : decode bL_law 453 = .ok (.aload_n 3, 1) := by decide +kernel
theorem dL_law_454 : decode bL_law 454 = .ok (.iconst 0, 1) := by decide +kernel
theorem dL_law_455 : decode bL_law 455 = .ok (.laload, 1) := by decide +kernel
theorem dL_law_456 : decode bL_law 456 = .ok (.iload 6, 2) := by decide +kernel
theorem dL_law_458 : decode bL_law 458 = .ok (.i2l, 1) := by decide +kernel
theorem dL_law_459 : decode bL_law 459 = .ok (.lcmp, 1) := by decide +kernel
theorem dL_law_460 : decode bL_law 460 = .ok (.ifCond .eq 5, 3) := by decide +kernel
theorem dL_law_463 : decode bL_law 463 = .ok (.iconst 0, 1) := by decide +kernel
theorem dL_law_464 : decode bL_law 464 = .ok (.ireturn, 1) := by decide +kernel
theorem dL_law_465 : decode bL_law 465 = .ok (.goto 735, 3) := by decide +kernel
theorem dL_law_468 : decode bL_law 468 = .ok (.aload_n 1, 1) := by decide +kernel
theorem dL_law_469 : decode bL_law 469 = .ok (.aload_n 0, 1) := by decide +kernel
theorem dL_law_470 : decode bL_law 470 = .ok (.iload 4, 2) := by decide +kernel
theorem dL_law_472 : decode bL_law 472 = .ok (.iconst 1, 1) := by decide +kernel
theorem dL_law_473 : decode bL_law 473 = .ok (.iadd, 1) := by decide +kernel
theorem dL_law_474 : decode bL_law 474 = .ok (.iaload, 1) := by decide +kernel
theorem dL_law_475 : decode bL_law 475 = .ok (.aload_n 0, 1) := by decide +kernel
theorem dL_law_476 : decode bL_law 476 = .ok (.iload 4, 2) := by decide +kernel
theorem dL_law_478 : decode bL_law 478 = .ok (.iconst 2, 1) := by decide +kernel
theorem dL_law_479 : decode bL_law 479 = .ok (.iadd, 1) := by decide +kernel
theorem dL_law_480 : decode bL_law 480 = .ok (.iaload, 1) := by decide +kernel
theorem dL_law_481 : decode bL_law 481 = .ok (.aload_n 3, 1) := by decide +kernel
theorem dL_law_482 : decode bL_law 482 = .ok (.invokestatic 100, 3) := by decide +kernel
theorem dL_law_485 : decode bL_law 485 = .ok (.istore 5, 2) := by decide +kernel
theorem dL_law_487 : decode bL_law 487 = .ok (.aload_n 2, 1) := by decide +kernel
theorem dL_law_488 : decode bL_law 488 = .ok (.aload_n 0, 1) := by decide +kernel
theorem dL_law_489 : decode bL_law 489 = .ok (.iload 4, 2) := by decide +kernel
theorem dL_law_491 : decode bL_law 491 = .ok (.iconst 1, 1) := by decide +kernel
theorem dL_law_492 : decode bL_law 492 = .ok (.iadd, 1) := by decide +kernel
theorem dL_law_493 : decode bL_law 493 = .ok (.iaload, 1) := by decide +kernel
theorem dL_law_494 : decode bL_law 494 = .ok (.aload_n 0, 1) := by decide +kernel
theorem dL_law_495 : decode bL_law 495 = .ok (.iload 4, 2) := by decide +kernel
theorem dL_law_497 : decode bL_law 497 = .ok (.iconst 2, 1) := by decide +kernel
theorem dL_law_498 : decode bL_law 498 = .ok (.iadd, 1) := by decide +kernel
theorem dL_law_499 : decode bL_law 499 = .ok (.iaload, 1) := by decide +kernel
theorem dL_law_500 : decode bL_law 500 = .ok (.invokevirtual 102, 3) := by decide +kernel
theorem dL_law_503 : decode bL_law 503 = .ok (.istore 6, 2) := by decide +kernel
theorem dL_law_505 : decode bL_law 505 = .ok (.aload_n 2, 1) := by decide +kernel
theorem dL_law_506 : decode bL_law 506 = .ok (.invokevirtual 83, 3) := by decide +kernel
theorem dL_law_509 : decode bL_law 509 = .ok (.iload 5, 2) := by decide +kernel
theorem dL_law_511 : decode bL_law 511 = .ok (.if_icmp .eq 5, 3) := by decide +kernel
theorem dL_law_514 : decode bL_law 514 = .ok (.iconst 0, 1) := by decide +kernel
theorem dL_law_515 : decode bL_law 515 = .ok (.ireturn, 1) := by decide +kernel
theorem dL_law_516 : decode bL_law 516 = .ok (.iload 5, 2) := by decide +kernel
theorem dL_law_518 : decode bL_law 518 = .ok (.ifCond .ne 15, 3) := by decide +kernel
theorem dL_law_521 : decode bL_law 521 = .ok (.aload_n 3, 1) := by decide +kernel
theorem dL_law_522 : decode bL_law 522 = .ok (.iconst 0, 1) := by decide +kernel
theorem dL_law_523 : decode bL_law 523 = .ok (.laload, 1) := by decide +kernel
theorem dL_law_524 : decode bL_law 524 = .ok (.iload 6, 2) := by decide +kernel
theorem dL_law_526 : decode bL_law 526 = .ok (.i2l, 1) := by decide +kernel
theorem dL_law_527 : decode bL_law 527 = .ok (.lcmp, 1) := by decide +kernel
theorem dL_law_528 : decode bL_law 528 = .ok (.ifCond .eq 5, 3) := by decide +kernel
theorem dL_law_531 : decode bL_law 531 = .ok (.iconst 0, 1) := by decide +kernel
theorem dL_law_532 : decode bL_law 532 = .ok (.ireturn, 1) := by decide +kernel
theorem dL_law_533 : decode bL_law 533 = .ok (.goto 667, 3) := by decide +kernel
theorem dL_law_536 : decode bL_law 536 = .ok (.aload_n 1, 1) := by decide +kernel
theorem dL_law_537 : decode bL_law 537 = .ok (.invokevirtual 103, 3) := by decide +kernel
theorem dL_law_540 : decode bL_law 540 = .ok (.aload_n 2, 1) := by decide +kernel
theorem dL_law_541 : decode bL_law 541 = .ok (.invokevirtual 106, 3) := by decide +kernel
theorem dL_law_544 : decode bL_law 544 = .ok (.goto 656, 3) := by decide +kernel
theorem dL_law_547 : decode bL_law 547 = .ok (.aload_n 1, 1) := by decide +kernel
theorem dL_law_548 : decode bL_law 548 = .ok (.invokevirtual 107, 3) := by decide +kernel
theorem dL_law_551 : decode bL_law 551 = .ok (.aload_n 2, 1) := by decide +kernel
theorem dL_law_552 : decode bL_law 552 = .ok (.invokevirtual 110, 3) := by decide +kernel
theorem dL_law_555 : decode bL_law 555 = .ok (.if_icmp .eq 645, 3) := by decide +kernel
theorem dL_law_558 : decode bL_law 558 = .ok (.iconst 0, 1) := by decide +kernel
theorem dL_law_559 : decode bL_law 559 = .ok (.ireturn, 1) := by decide +kernel
theorem dL_law_560 : decode bL_law 560 = .ok (.aload_n 1, 1) := by decide +kernel
theorem dL_law_561 : decode bL_law 561 = .ok (.aload_n 3, 1) := by decide +kernel
theorem dL_law_562 : decode bL_law 562 = .ok (.invokestatic 111, 3) := by decide +kernel
theorem dL_law_565 : decode bL_law 565 = .ok (.istore 5, 2) := by decide +kernel
theorem dL_law_567 : decode bL_law 567 = .ok (.aload_n 2, 1) := by decide +kernel
theorem dL_law_568 : decode bL_law 568 = .ok (.invokevirtual 114, 3) := by decide +kernel
theorem dL_law_571 : decode bL_law 571 = .ok (.istore 6, 2) := by decide +kernel
theorem dL_law_573 : decode bL_law 573 = .ok (.aload_n 2, 1) := by decide +kernel
theorem dL_law_574 : decode bL_law 574 = .ok (.invokevirtual 83, 3) := by decide +kernel
theorem dL_law_577 : decode bL_law 577 = .ok (.iload 5, 2) := by decide +kernel
theorem dL_law_579 : decode bL_law 579 = .ok (.if_icmp .eq 5, 3) := by decide +kernel
theorem dL_law_582 : decode bL_law 582 = .ok (.iconst 0, 1) := by decide +kernel
theorem dL_law_583 : decode bL_law 583 = .ok (.ireturn, 1) := by decide +kernel
theorem dL_law_584 : decode bL_law 584 = .ok (.iload 5, 2) := by decide +kernel
theorem dL_law_586 : decode bL_law 586 = .ok (.ifCond .ne 15, 3) := by decide +kernel
theorem dL_law_589 : decode bL_law 589 = .ok (.aload_n 3, 1) := by decide +kernel
theorem dL_law_590 : decode bL_law 590 = .ok (.iconst 0, 1) := by decide +kernel
theorem dL_law_591 : decode bL_law 591 = .ok (.laload, 1) := by decide +kernel
theorem dL_law_592 : decode bL_law 592 = .ok (.iload 6, 2) := by decide +kernel
theorem dL_law_594 : decode bL_law 594 = .ok (.i2l, 1) := by decide +kernel
theorem dL_law_595 : decode bL_law 595 = .ok (.lcmp, 1) := by decide +kernel
theorem dL_law_596 : decode bL_law 596 = .ok (.ifCond .eq 5, 3) := by decide +kernel
theorem dL_law_599 : decode bL_law 599 = .ok (.iconst 0, 1) := by decide +kernel
theorem dL_law_600 : decode bL_law 600 = .ok (.ireturn, 1) := by decide +kernel
theorem dL_law_601 : decode bL_law 601 = .ok (.goto 599, 3) := by decide +kernel
theorem dL_law_604 : decode bL_law 604 = .ok (.aload_n 1, 1) := by decide +kernel
theorem dL_law_605 : decode bL_law 605 = .ok (.aload_n 0, 1) := by decide +kernel
theorem dL_law_606 : decode bL_law 606 = .ok (.iload 4, 2) := by decide +kernel
theorem dL_law_608 : decode bL_law 608 = .ok (.iconst 1, 1) := by decide +kernel
theorem dL_law_609 : decode bL_law 609 = .ok (.iadd, 1) := by decide +kernel
theorem dL_law_610 : decode bL_law 610 = .ok (.iaload, 1) := by decide +kernel
theorem dL_law_611 : decode bL_law 611 = .ok (.aload_n 0, 1) := by decide +kernel
theorem dL_law_612 : decode bL_law 612 = .ok (.iload 4, 2) := by decide +kernel
theorem dL_law_614 : decode bL_law 614 = .ok (.iconst 2, 1) := by decide +kernel
theorem dL_law_615 : decode bL_law 615 = .ok (.iadd, 1) := by decide +kernel
theorem dL_law_616 : decode bL_law 616 = .ok (.iaload, 1) := by decide +kernel
theorem dL_law_617 : decode bL_law 617 = .ok (.aload_n 3, 1) := by decide +kernel
theorem dL_law_618 : decode bL_law 618 = .ok (.invokestatic 115, 3) := by decide +kernel
theorem dL_law_621 : decode bL_law 621 = .ok (.istore 5, 2) := by decide +kernel
theorem dL_law_623 : decode bL_law 623 = .ok (.aload_n 2, 1) := by decide +kernel
theorem dL_law_624 : decode bL_law 624 = .ok (.aload_n 0, 1) := by decide +kernel
theorem dL_law_625 : decode bL_law 625 = .ok (.iload 4, 2) := by decide +kernel
theorem dL_law_627 : decode bL_law 627 = .ok (.iconst 1, 1) := by decide +kernel
theorem dL_law_628 : decode bL_law 628 = .ok (.iadd, 1) := by decide +kernel
theorem dL_law_629 : decode bL_law 629 = .ok (.iaload, 1) := by decide +kernel
theorem dL_law_630 : decode bL_law 630 = .ok (.aload_n 0, 1) := by decide +kernel
theorem dL_law_631 : decode bL_law 631 = .ok (.iload 4, 2) := by decide +kernel
theorem dL_law_633 : decode bL_law 633 = .ok (.iconst 2, 1) := by decide +kernel
theorem dL_law_634 : decode bL_law 634 = .ok (.iadd, 1) := by decide +kernel
theorem dL_law_635 : decode bL_law 635 = .ok (.iaload, 1) := by decide +kernel
theorem dL_law_636 : decode bL_law 636 = .ok (.invokevirtual 117, 3) := by decide +kernel
theorem dL_law_639 : decode bL_law 639 = .ok (.istore 6, 2) := by decide +kernel
theorem dL_law_641 : decode bL_law 641 = .ok (.aload_n 2, 1) := by decide +kernel
theorem dL_law_642 : decode bL_law 642 = .ok (.invokevirtual 83, 3) := by decide +kernel
theorem dL_law_645 : decode bL_law 645 = .ok (.iload 5, 2) := by decide +kernel
theorem dL_law_647 : decode bL_law 647 = .ok (.if_icmp .eq 5, 3) := by decide +kernel
theorem dL_law_650 : decode bL_law 650 = .ok (.iconst 0, 1) := by decide +kernel
theorem dL_law_651 : decode bL_law 651 = .ok (.ireturn, 1) := by decide +kernel
theorem dL_law_652 : decode bL_law 652 = .ok (.iload 5, 2) := by decide +kernel
theorem dL_law_654 : decode bL_law 654 = .ok (.ifCond .ne 15, 3) := by decide +kernel
theorem dL_law_657 : decode bL_law 657 = .ok (.aload_n 3, 1) := by decide +kernel
theorem dL_law_658 : decode bL_law 658 = .ok (.iconst 0, 1) := by decide +kernel
theorem dL_law_659 : decode bL_law 659 = .ok (.laload, 1) := by decide +kernel
theorem dL_law_660 : decode bL_law 660 = .ok (.iload 6, 2) := by decide +kernel
theorem dL_law_662 : decode bL_law 662 = .ok (.i2l, 1) := by decide +kernel
theorem dL_law_663 : decode bL_law 663 = .ok (.lcmp, 1) := by decide +kernel
theorem dL_law_664 : decode bL_law 664 = .ok (.ifCond .eq 5, 3) := by decide +kernel
theorem dL_law_667 : decode bL_law 667 = .ok (.iconst 0, 1) := by decide +kernel
theorem dL_law_668 : decode bL_law 668 = .ok (.ireturn, 1) := by decide +kernel
theorem dL_law_669 : decode bL_law 669 = .ok (.goto 531, 3) := by decide +kernel
theorem dL_law_672 : decode bL_law 672 = .ok (.aload_n 1, 1) := by decide +kernel
theorem dL_law_673 : decode bL_law 673 = .ok (.aload_n 0, 1) := by decide +kernel
theorem dL_law_674 : decode bL_law 674 = .ok (.iload 4, 2) := by decide +kernel
theorem dL_law_676 : decode bL_law 676 = .ok (.iconst 1, 1) := by decide +kernel
theorem dL_law_677 : decode bL_law 677 = .ok (.iadd, 1) := by decide +kernel
theorem dL_law_678 : decode bL_law 678 = .ok (.iaload, 1) := by decide +kernel
theorem dL_law_679 : decode bL_law 679 = .ok (.aload_n 0, 1) := by decide +kernel
theorem dL_law_680 : decode bL_law 680 = .ok (.iload 4, 2) := by decide +kernel
theorem dL_law_682 : decode bL_law 682 = .ok (.iconst 2, 1) := by decide +kernel
theorem dL_law_683 : decode bL_law 683 = .ok (.iadd, 1) := by decide +kernel
theorem dL_law_684 : decode bL_law 684 = .ok (.iaload, 1) := by decide +kernel
theorem dL_law_685 : decode bL_law 685 = .ok (.aload_n 3, 1) := by decide +kernel
theorem dL_law_686 : decode bL_law 686 = .ok (.invokestatic 118, 3) := by decide +kernel
theorem dL_law_689 : decode bL_law 689 = .ok (.istore 5, 2) := by decide +kernel
theorem dL_law_691 : decode bL_law 691 = .ok (.aload_n 2, 1) := by decide +kernel
theorem dL_law_692 : decode bL_law 692 = .ok (.aload_n 0, 1) := by decide +kernel
theorem dL_law_693 : decode bL_law 693 = .ok (.iload 4, 2) := by decide +kernel
theorem dL_law_695 : decode bL_law 695 = .ok (.iconst 1, 1) := by decide +kernel
theorem dL_law_696 : decode bL_law 696 = .ok (.iadd, 1) := by decide +kernel
theorem dL_law_697 : decode bL_law 697 = .ok (.iaload, 1) := by decide +kernel
theorem dL_law_698 : decode bL_law 698 = .ok (.aload_n 0, 1) := by decide +kernel
theorem dL_law_699 : decode bL_law 699 = .ok (.iload 4, 2) := by decide +kernel
theorem dL_law_701 : decode bL_law 701 = .ok (.iconst 2, 1) := by decide +kernel
theorem dL_law_702 : decode bL_law 702 = .ok (.iadd, 1) := by decide +kernel
theorem dL_law_703 : decode bL_law 703 = .ok (.iaload, 1) := by decide +kernel
theorem dL_law_704 : decode bL_law 704 = .ok (.invokevirtual 120, 3) := by decide +kernel
theorem dL_law_707 : decode bL_law 707 = .ok (.istore 6, 2) := by decide +kernel
theorem dL_law_709 : decode bL_law 709 = .ok (.aload_n 2, 1) := by decide +kernel
theorem dL_law_710 : decode bL_law 710 = .ok (.invokevirtual 83, 3) := by decide +kernel
theorem dL_law_713 : decode bL_law 713 = .ok (.iload 5, 2) := by decide +kernel
theorem dL_law_715 : decode bL_law 715 = .ok (.if_icmp .eq 5, 3) := by decide +kernel
theorem dL_law_718 : decode bL_law 718 = .ok (.iconst 0, 1) := by decide +kernel
theorem dL_law_719 : decode bL_law 719 = .ok (.ireturn, 1) := by decide +kernel
theorem dL_law_720 : decode bL_law 720 = .ok (.iload 5, 2) := by decide +kernel
theorem dL_law_722 : decode bL_law 722 = .ok (.ifCond .ne 15, 3) := by decide +kernel
theorem dL_law_725 : decode bL_law 725 = .ok (.aload_n 3, 1) := by decide +kernel
theorem dL_law_726 : decode bL_law 726 = .ok (.iconst 0, 1) := by decide +kernel
theorem dL_law_727 : decode bL_law 727 = .ok (.laload, 1) := by decide +kernel
theorem dL_law_728 : decode bL_law 728 = .ok (.iload 6, 2) := by decide +kernel
theorem dL_law_730 : decode bL_law 730 = .ok (.i2l, 1) := by decide +kernel
theorem dL_law_731 : decode bL_law 731 = .ok (.lcmp, 1) := by decide +kernel
theorem dL_law_732 : decode bL_law 732 = .ok (.ifCond .eq 5, 3) := by decide +kernel
theorem dL_law_735 : decode bL_law 735 = .ok (.iconst 0, 1) := by decide +kernel
theorem dL_law_736 : decode bL_law 736 = .ok (.ireturn, 1) := by decide +kernel
theorem dL_law_737 : decode bL_law 737 = .ok (.goto 463, 3) := by decide +kernel
theorem dL_law_740 : decode bL_law 740 = .ok (.aload_n 1, 1) := by decide +kernel
theorem dL_law_741 : decode bL_law 741 = .ok (.aload_n 0, 1) := by decide +kernel
theorem dL_law_742 : decode bL_law 742 = .ok (.iload 4, 2) := by decide +kernel
theorem dL_law_744 : decode bL_law 744 = .ok (.iconst 1, 1) := by decide +kernel
theorem dL_law_745 : decode bL_law 745 = .ok (.iadd, 1) := by decide +kernel
theorem dL_law_746 : decode bL_law 746 = .ok (.iaload, 1) := by decide +kernel
theorem dL_law_747 : decode bL_law 747 = .ok (.aload_n 0, 1) := by decide +kernel
theorem dL_law_748 : decode bL_law 748 = .ok (.iload 4, 2) := by decide +kernel
theorem dL_law_750 : decode bL_law 750 = .ok (.iconst 2, 1) := by decide +kernel
theorem dL_law_751 : decode bL_law 751 = .ok (.iadd, 1) := by decide +kernel
theorem dL_law_752 : decode bL_law 752 = .ok (.iaload, 1) := by decide +kernel
theorem dL_law_753 : decode bL_law 753 = .ok (.aload_n 3, 1) := by decide +kernel
theorem dL_law_754 : decode bL_law 754 = .ok (.invokestatic 121, 3) := by decide +kernel
theorem dL_law_757 : decode bL_law 757 = .ok (.istore 5, 2) := by decide +kernel
theorem dL_law_759 : decode bL_law 759 = .ok (.aload_n 2, 1) := by decide +kernel
theorem dL_law_760 : decode bL_law 760 = .ok (.aload_n 0, 1) := by decide +kernel
theorem dL_law_761 : decode bL_law 761 = .ok (.iload 4, 2) := by decide +kernel
theorem dL_law_763 : decode bL_law 763 = .ok (.iconst 1, 1) := by decide +kernel
theorem dL_law_764 : decode bL_law 764 = .ok (.iadd, 1) := by decide +kernel
theorem dL_law_765 : decode bL_law 765 = .ok (.iaload, 1) := by decide +kernel
theorem dL_law_766 : decode bL_law 766 = .ok (.aload_n 0, 1) := by decide +kernel
theorem dL_law_767 : decode bL_law 767 = .ok (.iload 4, 2) := by decide +kernel
theorem dL_law_769 : decode bL_law 769 = .ok (.iconst 2, 1) := by decide +kernel
theorem dL_law_770 : decode bL_law 770 = .ok (.iadd, 1) := by decide +kernel
theorem dL_law_771 : decode bL_law 771 = .ok (.iaload, 1) := by decide +kernel
theorem dL_law_772 : decode bL_law 772 = .ok (.invokevirtual 123, 3) := by decide +kernel
theorem dL_law_775 : decode bL_law 775 = .ok (.istore 6, 2) := by decide +kernel
theorem dL_law_777 : decode bL_law 777 = .ok (.aload_n 2, 1) := by decide +kernel
theorem dL_law_778 : decode bL_law 778 = .ok (.invokevirtual 83, 3) := by decide +kernel
theorem dL_law_781 : decode bL_law 781 = .ok (.iload 5, 2) := by decide +kernel
theorem dL_law_783 : decode bL_law 783 = .ok (.if_icmp .eq 5, 3) := by decide +kernel
theorem dL_law_786 : decode bL_law 786 = .ok (.iconst 0, 1) := by decide +kernel
theorem dL_law_787 : decode bL_law 787 = .ok (.ireturn, 1) := by decide +kernel
theorem dL_law_788 : decode bL_law 788 = .ok (.iload 5, 2) := by decide +kernel
theorem dL_law_790 : decode bL_law 790 = .ok (.ifCond .ne 15, 3) := by decide +kernel
theorem dL_law_793 : decode bL_law 793 = .ok (.aload_n 3, 1) := by decide +kernel
theorem dL_law_794 : decode bL_law 794 = .ok (.iconst 0, 1) := by decide +kernel
theorem dL_law_795 : decode bL_law 795 = .ok (.laload, 1) := by decide +kernel
theorem dL_law_796 : decode bL_law 796 = .ok (.iload 6, 2) := by decide +kernel
theorem dL_law_798 : decode bL_law 798 = .ok (.i2l, 1) := by decide +kernel
theorem dL_law_799 : decode bL_law 799 = .ok (.lcmp, 1) := by decide +kernel
theorem dL_law_800 : decode bL_law 800 = .ok (.ifCond .eq 5, 3) := by decide +kernel
theorem dL_law_803 : decode bL_law 803 = .ok (.iconst 0, 1) := by decide +kernel
theorem dL_law_804 : decode bL_law 804 = .ok (.ireturn, 1) := by decide +kernel
theorem dL_law_805 : decode bL_law 805 = .ok (.goto 395, 3) := by decide +kernel
theorem dL_law_808 : decode bL_law 808 = .ok (.aload_n 1, 1) := by decide +kernel
theorem dL_law_809 : decode bL_law 809 = .ok (.invokestatic 124, 3) := by decide +kernel
theorem dL_law_812 : decode bL_law 812 = .ok (.istore 5, 2) := by decide +kernel
theorem dL_law_814 : decode bL_law 814 = .ok (.aload_n 2, 1) := by decide +kernel
theorem dL_law_815 : decode bL_law 815 = .ok (.invokevirtual 127, 3) := by decide +kernel
theorem dL_law_818 : decode bL_law 818 = .ok (.aload_n 2, 1) := by decide +kernel
theorem dL_law_819 : decode bL_law 819 = .ok (.invokevirtual 83, 3) := by decide +kernel
theorem dL_law_822 : decode bL_law 822 = .ok (.iload 5, 2) := by decide +kernel
theorem dL_law_824 : decode bL_law 824 = .ok (.if_icmp .eq 5, 3) := by decide +kernel
theorem dL_law_827 : decode bL_law 827 = .ok (.iconst 0, 1) := by decide +kernel
theorem dL_law_828 : decode bL_law 828 = .ok (.ireturn, 1) := by decide +kernel
theorem dL_law_829 : decode bL_law 829 = .ok (.goto 371, 3) := by decide +kernel
theorem dL_law_832 : decode bL_law 832 = .ok (.aload_n 1, 1) := by decide +kernel
theorem dL_law_833 : decode bL_law 833 = .ok (.aload_n 3, 1) := by decide +kernel
theorem dL_law_834 : decode bL_law 834 = .ok (.invokestatic 128, 3) := by decide +kernel
theorem dL_law_837 : decode bL_law 837 = .ok (.istore 5, 2) := by decide +kernel
theorem dL_law_839 : decode bL_law 839 = .ok (.aload_n 2, 1) := by decide +kernel
theorem dL_law_840 : decode bL_law 840 = .ok (.invokevirtual 130, 3) := by decide +kernel
theorem dL_law_843 : decode bL_law 843 = .ok (.istore 6, 2) := by decide +kernel
theorem dL_law_845 : decode bL_law 845 = .ok (.aload_n 2, 1) := by decide +kernel
theorem dL_law_846 : decode bL_law 846 = .ok (.invokevirtual 83, 3) := by decide +kernel
theorem dL_law_849 : decode bL_law 849 = .ok (.iload 5, 2) := by decide +kernel
theorem dL_law_851 : decode bL_law 851 = .ok (.if_icmp .eq 5, 3) := by decide +kernel
theorem dL_law_854 : decode bL_law 854 = .ok (.iconst 0, 1) := by decide +kernel
theorem dL_law_855 : decode bL_law 855 = .ok (.ireturn, 1) := by decide +kernel
theorem dL_law_856 : decode bL_law 856 = .ok (.iload 5, 2) := by decide +kernel
theorem dL_law_858 : decode bL_law 858 = .ok (.ifCond .ne 15, 3) := by decide +kernel
theorem dL_law_861 : decode bL_law 861 = .ok (.aload_n 3, 1) := by decide +kernel
theorem dL_law_862 : decode bL_law 862 = .ok (.iconst 0, 1) := by decide +kernel
theorem dL_law_863 : decode bL_law 863 = .ok (.laload, 1) := by decide +kernel
theorem dL_law_864 : decode bL_law 864 = .ok (.iload 6, 2) := by decide +kernel
theorem dL_law_866 : decode bL_law 866 = .ok (.i2l, 1) := by decide +kernel
theorem dL_law_867 : decode bL_law 867 = .ok (.lcmp, 1) := by decide +kernel
theorem dL_law_868 : decode bL_law 868 = .ok (.ifCond .eq 5, 3) := by decide +kernel
theorem dL_law_871 : decode bL_law 871 = .ok (.iconst 0, 1) := by decide +kernel
theorem dL_law_872 : decode bL_law 872 = .ok (.ireturn, 1) := by decide +kernel
theorem dL_law_873 : decode bL_law 873 = .ok (.goto 327, 3) := by decide +kernel
theorem dL_law_876 : decode bL_law 876 = .ok (.aload_n 1, 1) := by decide +kernel
theorem dL_law_877 : decode bL_law 877 = .ok (.aload_n 3, 1) := by decide +kernel
theorem dL_law_878 : decode bL_law 878 = .ok (.invokestatic 131, 3) := by decide +kernel
theorem dL_law_881 : decode bL_law 881 = .ok (.istore 5, 2) := by decide +kernel
theorem dL_law_883 : decode bL_law 883 = .ok (.aload_n 2, 1) := by decide +kernel
theorem dL_law_884 : decode bL_law 884 = .ok (.invokevirtual 133, 3) := by decide +kernel
theorem dL_law_887 : decode bL_law 887 = .ok (.istore 6, 2) := by decide +kernel
theorem dL_law_889 : decode bL_law 889 = .ok (.aload_n 2, 1) := by decide +kernel
theorem dL_law_890 : decode bL_law 890 = .ok (.invokevirtual 83, 3) := by decide +kernel
theorem dL_law_893 : decode bL_law 893 = .ok (.iload 5, 2) := by decide +kernel
theorem dL_law_895 : decode bL_law 895 = .ok (.if_icmp .eq 5, 3) := by decide +kernel
theorem dL_law_898 : decode bL_law 898 = .ok (.iconst 0, 1) := by decide +kernel
theorem dL_law_899 : decode bL_law 899 = .ok (.ireturn, 1) := by decide +kernel
theorem dL_law_900 : decode bL_law 900 = .ok (.iload 5, 2) := by decide +kernel
theorem dL_law_902 : decode bL_law 902 = .ok (.ifCond .ne 15, 3) := by decide +kernel
theorem dL_law_905 : decode bL_law 905 = .ok (.aload_n 3, 1) := by decide +kernel
theorem dL_law_906 : decode bL_law 906 = .ok (.iconst 0, 1) := by decide +kernel
theorem dL_law_907 : decode bL_law 907 = .ok (.laload, 1) := by decide +kernel
theorem dL_law_908 : decode bL_law 908 = .ok (.iload 6, 2) := by decide +kernel
theorem dL_law_910 : decode bL_law 910 = .ok (.i2l, 1) := by decide +kernel
theorem dL_law_911 : decode bL_law 911 = .ok (.lcmp, 1) := by decide +kernel
theorem dL_law_912 : decode bL_law 912 = .ok (.ifCond .eq 5, 3) := by decide +kernel
theorem dL_law_915 : decode bL_law 915 = .ok (.iconst 0, 1) := by decide +kernel
theorem dL_law_916 : decode bL_law 916 = .ok (.ireturn, 1) := by decide +kernel
theorem dL_law_917 : decode bL_law 917 = .ok (.goto 283, 3) := by decide +kernel
theorem dL_law_920 : decode bL_law 920 = .ok (.aload_n 1, 1) := by decide +kernel
theorem dL_law_921 : decode bL_law 921 = .ok (.aload_n 0, 1) := by decide +kernel
theorem dL_law_922 : decode bL_law 922 = .ok (.iload 4, 2) := by decide +kernel
theorem dL_law_924 : decode bL_law 924 = .ok (.iconst 1, 1) := by decide +kernel
theorem dL_law_925 : decode bL_law 925 = .ok (.iadd, 1) := by decide +kernel
theorem dL_law_926 : decode bL_law 926 = .ok (.iaload, 1) := by decide +kernel
theorem dL_law_927 : decode bL_law 927 = .ok (.aload_n 0, 1) := by decide +kernel
theorem dL_law_928 : decode bL_law 928 = .ok (.iload 4, 2) := by decide +kernel
theorem dL_law_930 : decode bL_law 930 = .ok (.iconst 2, 1) := by decide +kernel
theorem dL_law_931 : decode bL_law 931 = .ok (.iadd, 1) := by decide +kernel
theorem dL_law_932 : decode bL_law 932 = .ok (.iaload, 1) := by decide +kernel
theorem dL_law_933 : decode bL_law 933 = .ok (.ifCond .eq 7, 3) := by decide +kernel
theorem dL_law_936 : decode bL_law 936 = .ok (.iconst 1, 1) := by decide +kernel
theorem dL_law_937 : decode bL_law 937 = .ok (.goto 4, 3) := by decide +kernel
theorem dL_law_940 : decode bL_law 940 = .ok (.iconst 0, 1) := by decide +kernel
theorem dL_law_941 : decode bL_law 941 = .ok (.aload_n 3, 1) := by decide +kernel
theorem dL_law_942 : decode bL_law 942 = .ok (.invokestatic 134, 3) := by decide +kernel
theorem dL_law_945 : decode bL_law 945 = .ok (.istore 5, 2) := by decide +kernel
theorem dL_law_947 : decode bL_law 947 = .ok (.aload_n 2, 1) := by decide +kernel
theorem dL_law_948 : decode bL_law 948 = .ok (.aload_n 0, 1) := by decide +kernel
theorem dL_law_949 : decode bL_law 949 = .ok (.iload 4, 2) := by decide +kernel
theorem dL_law_951 : decode bL_law 951 = .ok (.iconst 1, 1) := by decide +kernel
theorem dL_law_952 : decode bL_law 952 = .ok (.iadd, 1) := by decide +kernel
theorem dL_law_953 : decode bL_law 953 = .ok (.iaload, 1) := by decide +kernel
theorem dL_law_954 : decode bL_law 954 = .ok (.aload_n 0, 1) := by decide +kernel
theorem dL_law_955 : decode bL_law 955 = .ok (.iload 4, 2) := by decide +kernel
theorem dL_law_957 : decode bL_law 957 = .ok (.iconst 2, 1) := by decide +kernel
theorem dL_law_958 : decode bL_law 958 = .ok (.iadd, 1) := by decide +kernel
theorem dL_law_959 : decode bL_law 959 = .ok (.iaload, 1) := by decide +kernel
theorem dL_law_960 : decode bL_law 960 = .ok (.ifCond .eq 7, 3) := by decide +kernel
theorem dL_law_963 : decode bL_law 963 = .ok (.iconst 1, 1) := by decide +kernel
theorem dL_law_964 : decode bL_law 964 = .ok (.goto 4, 3) := by decide +kernel
theorem dL_law_967 : decode bL_law 967 = .ok (.iconst 0, 1) := by decide +kernel
theorem dL_law_968 : decode bL_law 968 = .ok (.invokevirtual 137, 3) := by decide +kernel
theorem dL_law_971 : decode bL_law 971 = .ok (.istore 6, 2) := by decide +kernel
theorem dL_law_973 : decode bL_law 973 = .ok (.aload_n 2, 1) := by decide +kernel
theorem dL_law_974 : decode bL_law 974 = .ok (.invokevirtual 83, 3) := by decide +kernel
theorem dL_law_977 : decode bL_law 977 = .ok (.iload 5, 2) := by decide +kernel
theorem dL_law_979 : decode bL_law 979 = .ok (.if_icmp .eq 5, 3) := by decide +kernel
theorem dL_law_982 : decode bL_law 982 = .ok (.iconst 0, 1) := by decide +kernel
theorem dL_law_983 : decode bL_law 983 = .ok (.ireturn, 1) := by decide +kernel
theorem dL_law_984 : decode bL_law 984 = .ok (.iload 5, 2) := by decide +kernel
theorem dL_law_986 : decode bL_law 986 = .ok (.ifCond .ne 15, 3) := by decide +kernel
theorem dL_law_989 : decode bL_law 989 = .ok (.aload_n 3, 1) := by decide +kernel
theorem dL_law_990 : decode bL_law 990 = .ok (.iconst 0, 1) := by decide +kernel
theorem dL_law_991 : decode bL_law 991 = .ok (.laload, 1) := by decide +kernel
theorem dL_law_992 : decode bL_law 992 = .ok (.iload 6, 2) := by decide +kernel
theorem dL_law_994 : decode bL_law 994 = .ok (.i2l, 1) := by decide +kernel
theorem dL_law_995 : decode bL_law 995 = .ok (.lcmp, 1) := by decide +kernel
theorem dL_law_996 : decode bL_law 996 = .ok (.ifCond .eq 5, 3) := by decide +kernel
theorem dL_law_999 : decode bL_law 999 = .ok (.iconst 0, 1) := by decide +kernel
theorem dL_law_1000 : decode bL_law 1000 = .ok (.ireturn, 1) := by decide +kernel
theorem dL_law_1001 : decode bL_law 1001 = .ok (.goto 199, 3) := by decide +kernel
theorem dL_law_1004 : decode bL_law 1004 = .ok (.aload_n 1, 1) := by decide +kernel
theorem dL_law_1005 : decode bL_law 1005 = .ok (.aload_n 0, 1) := by decide +kernel
theorem dL_law_1006 : decode bL_law 1006 = .ok (.iload 4, 2) := by decide +kernel
theorem dL_law_1008 : decode bL_law 1008 = .ok (.iconst 1, 1) := by decide +kernel
theorem dL_law_1009 : decode bL_law 1009 = .ok (.iadd, 1) := by decide +kernel
theorem dL_law_1010 : decode bL_law 1010 = .ok (.iaload, 1) := by decide +kernel
theorem dL_law_1011 : decode bL_law 1011 = .ok (.aload_n 0, 1) := by decide +kernel
theorem dL_law_1012 : decode bL_law 1012 = .ok (.iload 4, 2) := by decide +kernel
theorem dL_law_1014 : decode bL_law 1014 = .ok (.iconst 2, 1) := by decide +kernel
theorem dL_law_1015 : decode bL_law 1015 = .ok (.iadd, 1) := by decide +kernel
theorem dL_law_1016 : decode bL_law 1016 = .ok (.iaload, 1) := by decide +kernel
theorem dL_law_1017 : decode bL_law 1017 = .ok (.ifCond .eq 7, 3) := by decide +kernel
theorem dL_law_1020 : decode bL_law 1020 = .ok (.iconst 1, 1) := by decide +kernel
theorem dL_law_1021 : decode bL_law 1021 = .ok (.goto 4, 3) := by decide +kernel
theorem dL_law_1024 : decode bL_law 1024 = .ok (.iconst 0, 1) := by decide +kernel
theorem dL_law_1025 : decode bL_law 1025 = .ok (.aload_n 3, 1) := by decide +kernel
theorem dL_law_1026 : decode bL_law 1026 = .ok (.invokestatic 138, 3) := by decide +kernel
theorem dL_law_1029 : decode bL_law 1029 = .ok (.istore 5, 2) := by decide +kernel
theorem dL_law_1031 : decode bL_law 1031 = .ok (.aload_n 2, 1) := by decide +kernel
theorem dL_law_1032 : decode bL_law 1032 = .ok (.aload_n 0, 1) := by decide +kernel
theorem dL_law_1033 : decode bL_law 1033 = .ok (.iload 4, 2) := by decide +kernel
theorem dL_law_1035 : decode bL_law 1035 = .ok (.iconst 1, 1) := by decide +kernel
theorem dL_law_1036 : decode bL_law 1036 = .ok (.iadd, 1) := by decide +kernel
theorem dL_law_1037 : decode bL_law 1037 = .ok (.iaload, 1) := by decide +kernel
theorem dL_law_1038 : decode bL_law 1038 = .ok (.aload_n 0, 1) := by decide +kernel
theorem dL_law_1039 : decode bL_law 1039 = .ok (.iload 4, 2) := by decide +kernel
theorem dL_law_1041 : decode bL_law 1041 = .ok (.iconst 2, 1) := by decide +kernel
theorem dL_law_1042 : decode bL_law 1042 = .ok (.iadd, 1) := by decide +kernel
theorem dL_law_1043 : decode bL_law 1043 = .ok (.iaload, 1) := by decide +kernel
theorem dL_law_1044 : decode bL_law 1044 = .ok (.ifCond .eq 7, 3) := by decide +kernel
theorem dL_law_1047 : decode bL_law 1047 = .ok (.iconst 1, 1) := by decide +kernel
theorem dL_law_1048 : decode bL_law 1048 = .ok (.goto 4, 3) := by decide +kernel
theorem dL_law_1051 : decode bL_law 1051 = .ok (.iconst 0, 1) := by decide +kernel
theorem dL_law_1052 : decode bL_law 1052 = .ok (.invokevirtual 140, 3) := by decide +kernel
theorem dL_law_1055 : decode bL_law 1055 = .ok (.istore 6, 2) := by decide +kernel
theorem dL_law_1057 : decode bL_law 1057 = .ok (.aload_n 2, 1) := by decide +kernel
theorem dL_law_1058 : decode bL_law 1058 = .ok (.invokevirtual 83, 3) := by decide +kernel
theorem dL_law_1061 : decode bL_law 1061 = .ok (.iload 5, 2) := by decide +kernel
theorem dL_law_1063 : decode bL_law 1063 = .ok (.if_icmp .eq 5, 3) := by decide +kernel
theorem dL_law_1066 : decode bL_law 1066 = .ok (.iconst 0, 1) := by decide +kernel
theorem dL_law_1067 : decode bL_law 1067 = .ok (.ireturn, 1) := by decide +kernel
theorem dL_law_1068 : decode bL_law 1068 = .ok (.iload 5, 2) := by decide +kernel
theorem dL_law_1070 : decode bL_law 1070 = .ok (.ifCond .ne 15, 3) := by decide +kernel
theorem dL_law_1073 : decode bL_law 1073 = .ok (.aload_n 3, 1) := by decide +kernel
theorem dL_law_1074 : decode bL_law 1074 = .ok (.iconst 0, 1) := by decide +kernel
theorem dL_law_1075 : decode bL_law 1075 = .ok (.laload, 1) := by decide +kernel
theorem dL_law_1076 : decode bL_law 1076 = .ok (.iload 6, 2) := by decide +kernel
theorem dL_law_1078 : decode bL_law 1078 = .ok (.i2l, 1) := by decide +kernel
theorem dL_law_1079 : decode bL_law 1079 = .ok (.lcmp, 1) := by decide +kernel
theorem dL_law_1080 : decode bL_law 1080 = .ok (.ifCond .eq 5, 3) := by decide +kernel
theorem dL_law_1083 : decode bL_law 1083 = .ok (.iconst 0, 1) := by decide +kernel
theorem dL_law_1084 : decode bL_law 1084 = .ok (.ireturn, 1) := by decide +kernel
theorem dL_law_1085 : decode bL_law 1085 = .ok (.goto 115, 3) := by decide +kernel
theorem dL_law_1088 : decode bL_law 1088 = .ok (.aload_n 1, 1) := by decide +kernel
theorem dL_law_1089 : decode bL_law 1089 = .ok (.aload_n 0, 1) := by decide +kernel
theorem dL_law_1090 : decode bL_law 1090 = .ok (.iload 4, 2) := by decide +kernel
theorem dL_law_1092 : decode bL_law 1092 = .ok (.iconst 1, 1) := by decide +kernel
theorem dL_law_1093 : decode bL_law 1093 = .ok (.iadd, 1) := by decide +kernel
theorem dL_law_1094 : decode bL_law 1094 = .ok (.iaload, 1) := by decide +kernel
theorem dL_law_1095 : decode bL_law 1095 = .ok (.aload_n 3, 1) := by decide +kernel
theorem dL_law_1096 : decode bL_law 1096 = .ok (.invokestatic 141, 3) := by decide +kernel
theorem dL_law_1099 : decode bL_law 1099 = .ok (.istore 5, 2) := by decide +kernel
theorem dL_law_1101 : decode bL_law 1101 = .ok (.aload_n 2, 1) := by decide +kernel
theorem dL_law_1102 : decode bL_law 1102 = .ok (.aload_n 0, 1) := by decide +kernel
theorem dL_law_1103 : decode bL_law 1103 = .ok (.iload 4, 2) := by decide +kernel
theorem dL_law_1105 : decode bL_law 1105 = .ok (.iconst 1, 1) := by decide +kernel
theorem dL_law_1106 : decode bL_law 1106 = .ok (.iadd, 1) := by decide +kernel
theorem dL_law_1107 : decode bL_law 1107 = .ok (.iaload, 1) := by decide +kernel
theorem dL_law_1108 : decode bL_law 1108 = .ok (.invokevirtual 143, 3) := by decide +kernel
theorem dL_law_1111 : decode bL_law 1111 = .ok (.istore 6, 2) := by decide +kernel
theorem dL_law_1113 : decode bL_law 1113 = .ok (.aload_n 2, 1) := by decide +kernel
theorem dL_law_1114 : decode bL_law 1114 = .ok (.invokevirtual 83, 3) := by decide +kernel
theorem dL_law_1117 : decode bL_law 1117 = .ok (.iload 5, 2) := by decide +kernel
theorem dL_law_1119 : decode bL_law 1119 = .ok (.if_icmp .eq 5, 3) := by decide +kernel
theorem dL_law_1122 : decode bL_law 1122 = .ok (.iconst 0, 1) := by decide +kernel
theorem dL_law_1123 : decode bL_law 1123 = .ok (.ireturn, 1) := by decide +kernel
theorem dL_law_1124 : decode bL_law 1124 = .ok (.iload 5, 2) := by decide +kernel
theorem dL_law_1126 : decode bL_law 1126 = .ok (.ifCond .ne 15, 3) := by decide +kernel
theorem dL_law_1129 : decode bL_law 1129 = .ok (.aload_n 3, 1) := by decide +kernel
theorem dL_law_1130 : decode bL_law 1130 = .ok (.iconst 0, 1) := by decide +kernel
theorem dL_law_1131 : decode bL_law 1131 = .ok (.laload, 1) := by decide +kernel
theorem dL_law_1132 : decode bL_law 1132 = .ok (.iload 6, 2) := by decide +kernel
theorem dL_law_1134 : decode bL_law 1134 = .ok (.i2l, 1) := by decide +kernel
theorem dL_law_1135 : decode bL_law 1135 = .ok (.lcmp, 1) := by decide +kernel
theorem dL_law_1136 : decode bL_law 1136 = .ok (.ifCond .eq 5, 3) := by decide +kernel
theorem dL_law_1139 : decode bL_law 1139 = .ok (.iconst 0, 1) := by decide +kernel
theorem dL_law_1140 : decode bL_law 1140 = .ok (.ireturn, 1) := by decide +kernel
theorem dL_law_1141 : decode bL_law 1141 = .ok (.goto 59, 3) := by decide +kernel
theorem dL_law_1144 : decode bL_law 1144 = .ok (.aload_n 1, 1) := by decide +kernel
theorem dL_law_1145 : decode bL_law 1145 = .ok (.aload_n 0, 1) := by decide +kernel
theorem dL_law_1146 : decode bL_law 1146 = .ok (.iload 4, 2) := by decide +kernel
theorem dL_law_1148 : decode bL_law 1148 = .ok (.iconst 1, 1) := by decide +kernel
theorem dL_law_1149 : decode bL_law 1149 = .ok (.iadd, 1) := by decide +kernel
theorem dL_law_1150 : decode bL_law 1150 = .ok (.iaload, 1) := by decide +kernel
theorem dL_law_1151 : decode bL_law 1151 = .ok (.aload_n 3, 1) := by decide +kernel
theorem dL_law_1152 : decode bL_law 1152 = .ok (.invokestatic 144, 3) := by decide +kernel
theorem dL_law_1155 : decode bL_law 1155 = .ok (.istore 5, 2) := by decide +kernel
theorem dL_law_1157 : decode bL_law 1157 = .ok (.aload_n 2, 1) := by decide +kernel
theorem dL_law_1158 : decode bL_law 1158 = .ok (.aload_n 0, 1) := by decide +kernel
theorem dL_law_1159 : decode bL_law 1159 = .ok (.iload 4, 2) := by decide +kernel
theorem dL_law_1161 : decode bL_law 1161 = .ok (.iconst 1, 1) := by decide +kernel
theorem dL_law_1162 : decode bL_law 1162 = .ok (.iadd, 1) := by decide +kernel
theorem dL_law_1163 : decode bL_law 1163 = .ok (.iaload, 1) := by decide +kernel
theorem dL_law_1164 : decode bL_law 1164 = .ok (.invokevirtual 146, 3) := by decide +kernel
theorem dL_law_1167 : decode bL_law 1167 = .ok (.istore 6, 2) := by decide +kernel
theorem dL_law_1169 : decode bL_law 1169 = .ok (.aload_n 2, 1) := by decide +kernel
theorem dL_law_1170 : decode bL_law 1170 = .ok (.invokevirtual 83, 3) := by decide +kernel
theorem dL_law_1173 : decode bL_law 1173 = .ok (.iload 5, 2) := by decide +kernel
theorem dL_law_1175 : decode bL_law 1175 = .ok (.if_icmp .eq 5, 3) := by decide +kernel
theorem dL_law_1178 : decode bL_law 1178 = .ok (.iconst 0, 1) := by decide +kernel
theorem dL_law_1179 : decode bL_law 1179 = .ok (.ireturn, 1) := by decide +kernel
theorem dL_law_1180 : decode bL_law 1180 = .ok (.iload 5, 2) := by decide +kernel
theorem dL_law_1182 : decode bL_law 1182 = .ok (.ifCond .ne 15, 3) := by decide +kernel
theorem dL_law_1185 : decode bL_law 1185 = .ok (.aload_n 3, 1) := by decide +kernel
theorem dL_law_1186 : decode bL_law 1186 = .ok (.iconst 0, 1) := by decide +kernel
theorem dL_law_1187 : decode bL_law 1187 = .ok (.laload, 1) := by decide +kernel
theorem dL_law_1188 : decode bL_law 1188 = .ok (.iload 6, 2) := by decide +kernel
theorem dL_law_1190 : decode bL_law 1190 = .ok (.i2l, 1) := by decide +kernel
theorem dL_law_1191 : decode bL_law 1191 = .ok (.lcmp, 1) := by decide +kernel
theorem dL_law_1192 : decode bL_law 1192 = .ok (.ifCond .eq 5, 3) := by decide +kernel
theorem dL_law_1195 : decode bL_law 1195 = .ok (.iconst 0, 1) := by decide +kernel
theorem dL_law_1196 : decode bL_law 1196 = .ok (.ireturn, 1) := by decide +kernel
theorem dL_law_1197 : decode bL_law 1197 = .ok (.goto 3, 3) := by decide +kernel
theorem dL_law_1200 : decode bL_law 1200 = .ok (.iinc 4 4, 3) := by decide +kernel
theorem dL_law_1203 : decode bL_law 1203 = .ok (.goto (-1180), 3) := by decide +kernel
theorem dL_law_1206 : decode bL_law 1206 = .ok (.iconst 1, 1) := by decide +kernel
theorem dL_law_1207 : decode bL_law 1207 = .ok (.ireturn, 1) := by decide +kernel
