theorem dd_L_law_0 : decode code 0 = .ok (.new 8, 3) := by decide +kernel
theorem dd_L_law_3 : decode code 3 = .ok (.dup, 1) := by decide +kernel
theorem dd_L_law_4 : decode code 4 = .ok (.aload_n 0, 1) := by decide +kernel
theorem dd_L_law_5 : decode code 5 = .ok (.iconst 0, 1) := by decide +kernel
theorem dd_L_law_6 : decode code 6 = .ok (.invokestatic 86, 3) := by decide +kernel
theorem dd_L_law_9 : decode code 9 = .ok (.aload_n 0, 1) := by decide +kernel
theorem dd_L_law_10 : decode code 10 = .ok (.iconst 1, 1) := by decide +kernel
theorem dd_L_law_11 : decode code 11 = .ok (.invokestatic 86, 3) := by decide +kernel
theorem dd_L_law_14 : decode code 14 = .ok (.invokespecial 92, 3) := by decide +kernel
theorem dd_L_law_17 : decode code 17 = .ok (.astore_n 1, 1) := by decide +kernel
theorem dd_L_law_18 : decode code 18 = .ok (.new 94, 3) := by decide +kernel
theorem dd_L_law_21 : decode code 21 = .ok (.dup, 1) := by decide +kernel
theorem dd_L_law_22 : decode code 22 = .ok (.aload_n 0, 1) := by decide +kernel
theorem dd_L_law_23 : decode code 23 = .ok (.iconst 0, 1) := by decide +kernel
theorem dd_L_law_24 : decode code 24 = .ok (.invokestatic 86, 3) := by decide +kernel
theorem dd_L_law_27 : decode code 27 = .ok (.aload_n 0, 1) := by decide +kernel
theorem dd_L_law_28 : decode code 28 = .ok (.iconst 1, 1) := by decide +kernel
theorem dd_L_law_29 : decode code 29 = .ok (.invokestatic 86, 3) := by decide +kernel
theorem dd_L_law_32 : decode code 32 = .ok (.invokespecial 96, 3) := by decide +kernel
theorem dd_L_law_35 : decode code 35 = .ok (.astore_n 2, 1) := by decide +kernel
theorem dd_L_law_36 : decode code 36 = .ok (.iconst 1, 1) := by decide +kernel
theorem dd_L_law_37 : decode code 37 = .ok (.newarray .long, 2) := by decide +kernel
theorem dd_L_law_39 : decode code 39 = .ok (.astore_n 3, 1) := by decide +kernel
theorem dd_L_law_40 : decode code 40 = .ok (.iconst 2, 1) := by decide +kernel
theorem dd_L_law_41 : decode code 41 = .ok (.istore 4, 2) := by decide +kernel
theorem dd_L_law_43 : decode code 43 = .ok (.iload 4, 2) := by decide +kernel
theorem dd_L_law_45 : decode code 45 = .ok (.aload_n 0, 1) := by decide +kernel
theorem dd_L_law_46 : decode code 46 = .ok (.arraylength, 1) := by decide +kernel
theorem dd_L_law_47 : decode code 47 = .ok (.iconst 4, 1) := by decide +kernel
theorem dd_L_law_48 : decode code 48 = .ok (.isub, 1) := by decide +kernel
theorem dd_L_law_49 : decode code 49 = .ok (.if_icmp .gt 1603, 3) := by decide +kernel
theorem dd_L_law_52 : decode code 52 = .ok (.aload_n 0, 1) := by decide +kernel
theorem dd_L_law_53 : decode code 53 = .ok (.iload 4, 2) := by decide +kernel
theorem dd_L_law_55 : decode code 55 = .ok (.iaload, 1) := by decide +kernel
theorem dd_L_law_56 : decode code 56 = .ok (.bipush 31, 2) := by decide +kernel
theorem dd_L_law_58 : decode code 58 = .ok (.iand, 1) := by decide +kernel
theorem dd_L_law_59 : decode code 59 = .ok (.tableswitch 1587 0 21 #[101, 188, 244, 312, 368, 464, 512, 568, 648, 728, 784, 864, 924, 999, 1079, 1159, 1239, 1295, 1351, 1407, 1487, 1562], 101) := by decide +kernel
theorem dd_L_law_160 : decode code 160 = .ok (.aload_n 1, 1) := by decide +kernel
theorem dd_L_law_161 : decode code 161 = .ok (.aload_n 0, 1) := by decide +kernel
theorem dd_L_law_162 : decode code 162 = .ok (.iload 4, 2) := by decide +kernel
theorem dd_L_law_164 : decode code 164 = .ok (.iconst 1, 1) := by decide +kernel
theorem dd_L_law_165 : decode code 165 = .ok (.iadd, 1) := by decide +kernel
theorem dd_L_law_166 : decode code 166 = .ok (.iaload, 1) := by decide +kernel
theorem dd_L_law_167 : decode code 167 = .ok (.aload_n 0, 1) := by decide +kernel
theorem dd_L_law_168 : decode code 168 = .ok (.iload 4, 2) := by decide +kernel
theorem dd_L_law_170 : decode code 170 = .ok (.iconst 2, 1) := by decide +kernel
theorem dd_L_law_171 : decode code 171 = .ok (.iadd, 1) := by decide +kernel
theorem dd_L_law_172 : decode code 172 = .ok (.iaload, 1) := by decide +kernel
theorem dd_L_law_173 : decode code 173 = .ok (.aload_n 0, 1) := by decide +kernel
theorem dd_L_law_174 : decode code 174 = .ok (.iload 4, 2) := by decide +kernel
theorem dd_L_law_176 : decode code 176 = .ok (.iconst 3, 1) := by decide +kernel
theorem dd_L_law_177 : decode code 177 = .ok (.iadd, 1) := by decide +kernel
theorem dd_L_law_178 : decode code 178 = .ok (.iaload, 1) := by decide +kernel
theorem dd_L_law_179 : decode code 179 = .ok (.aload_n 3, 1) := by decide +kernel
theorem dd_L_law_180 : decode code 180 = .ok (.invokestatic 97, 3) := by decide +kernel
theorem dd_L_law_183 : decode code 183 = .ok (.istore 5, 2) := by decide +kernel
theorem dd_L_law_185 : decode code 185 = .ok (.aload_n 2, 1) := by decide +kernel
theorem dd_L_law_186 : decode code 186 = .ok (.aload_n 0, 1) := by decide +kernel
theorem dd_L_law_187 : decode code 187 = .ok (.iload 4, 2) := by decide +kernel
theorem dd_L_law_189 : decode code 189 = .ok (.iconst 1, 1) := by decide +kernel
theorem dd_L_law_190 : decode code 190 = .ok (.iadd, 1) := by decide +kernel
theorem dd_L_law_191 : decode code 191 = .ok (.iaload, 1) := by decide +kernel
theorem dd_L_law_192 : decode code 192 = .ok (.aload_n 0, 1) := by decide +kernel
theorem dd_L_law_193 : decode code 193 = .ok (.iload 4, 2) := by decide +kernel
theorem dd_L_law_195 : decode code 195 = .ok (.iconst 2, 1) := by decide +kernel
theorem dd_L_law_196 : decode code 196 = .ok (.iadd, 1) := by decide +kernel
theorem dd_L_law_197 : decode code 197 = .ok (.iaload, 1) := by decide +kernel
theorem dd_L_law_198 : decode code 198 = .ok (.aload_n 0, 1) := by decide +kernel
theorem dd_L_law_199 : decode code 199 = .ok (.iload 4, 2) := by decide +kernel
theorem dd_L_law_201 : decode code 201 = .ok (.iconst 3, 1) := by decide +kernel
theorem dd_L_law_202 : decode code 202 = .ok (.iadd, 1) := by decide +kernel
theorem dd_L_law_203 : decode code 203 = .ok (.iaload, 1) := by decide +kernel
theorem dd_L_law_204 : decode code 204 = .ok (.invokevirtual 100, 3) := by decide +kernel
theorem dd_L_law_207 : decode code 207 = .ok (.istore 6, 2) := by decide +kernel
theorem dd_L_law_209 : decode code 209 = .ok (.aload_n 2, 1) := by decide +kernel
theorem dd_L_law_210 : decode code 210 = .ok (.invokevirtual 101, 3) := by decide +kernel
theorem dd_L_law_213 : decode code 213 = .ok (.iload 5, 2) := by decide +kernel
theorem dd_L_law_215 : decode code 215 = .ok (.if_icmp .eq 5, 3) := by decide +kernel
theorem dd_L_law_218 : decode code 218 = .ok (.iconst 0, 1) := by decide +kernel
theorem dd_L_law_219 : decode code 219 = .ok (.ireturn, 1) := by decide +kernel
theorem dd_L_law_220 : decode code 220 = .ok (.iload 5, 2) := by decide +kernel
theorem dd_L_law_222 : decode code 222 = .ok (.ifCond .ne 22, 3) := by decide +kernel
theorem dd_L_law_225 : decode code 225 = .ok (.aload_n 3, 1) := by decide +kernel
theorem dd_L_law_226 : decode code 226 = .ok (.iconst 0, 1) := by decide +kernel
theorem dd_L_law_227 : decode code 227 = .ok (.laload, 1) := by decide +kernel
theorem dd_L_law_228 : decode code 228 = .ok (.iload 6, 2) := by decide +kernel
theorem dd_L_law_230 : decode code 230 = .ok (.ifCond .eq 7, 3) := by decide +kernel
theorem dd_L_law_233 : decode code 233 = .ok (.lconst 1, 1) := by decide +kernel
theorem dd_L_law_234 : decode code 234 = .ok (.goto 4, 3) := by decide +kernel
theorem dd_L_law_237 : decode code 237 = .ok (.lconst 0, 1) := by decide +kernel
theorem dd_L_law_238 : decode code 238 = .ok (.lcmp, 1) := by decide +kernel
theorem dd_L_law_239 : decode code 239 = .ok (.ifCond .eq 5, 3) := by decide +kernel
theorem dd_L_law_242 : decode code 242 = .ok (.iconst 0, 1) := by decide +kernel
theorem dd_L_law_243 : decode code 243 = .ok (.ireturn, 1) := by decide +kernel
theorem dd_L_law_244 : decode code 244 = .ok (.goto 1402, 3) := by decide +kernel
theorem dd_L_law_247 : decode code 247 = .ok (.aload_n 1, 1) := by decide +kernel
theorem dd_L_law_248 : decode code 248 = .ok (.aload_n 0, 1) := by decide +kernel
theorem dd_L_law_249 : decode code 249 = .ok (.iload 4, 2) := by decide +kernel
theorem dd_L_law_251 : decode code 251 = .ok (.iconst 1, 1) := by decide +kernel
theorem dd_L_law_252 : decode code 252 = .ok (.iadd, 1) := by decide +kernel
theorem dd_L_law_253 : decode code 253 = .ok (.iaload, 1) := by decide +kernel
theorem dd_L_law_254 : decode code 254 = .ok (.aload_n 3, 1) := by decide +kernel
theorem dd_L_law_255 : decode code 255 = .ok (.invokestatic 105, 3) := by decide +kernel
theorem dd_L_law_258 : decode code 258 = .ok (.istore 5, 2) := by decide +kernel
theorem dd_L_law_260 : decode code 260 = .ok (.aload_n 2, 1) := by decide +kernel
theorem dd_L_law_261 : decode code 261 = .ok (.aload_n 0, 1) := by decide +kernel
theorem dd_L_law_262 : decode code 262 = .ok (.iload 4, 2) := by decide +kernel
theorem dd_L_law_264 : decode code 264 = .ok (.iconst 1, 1) := by decide +kernel
theorem dd_L_law_265 : decode code 265 = .ok (.iadd, 1) := by decide +kernel
theorem dd_L_law_266 : decode code 266 = .ok (.iaload, 1) := by decide +kernel
theorem dd_L_law_267 : decode code 267 = .ok (.invokevirtual 108, 3) := by decide +kernel
theorem dd_L_law_270 : decode code 270 = .ok (.istore 6, 2) := by decide +kernel
theorem dd_L_law_272 : decode code 272 = .ok (.aload_n 2, 1) := by decide +kernel
theorem dd_L_law_273 : decode code 273 = .ok (.invokevirtual 101, 3) := by decide +kernel
theorem dd_L_law_276 : decode code 276 = .ok (.iload 5, 2) := by decide +kernel
theorem dd_L_law_278 : decode code 278 = .ok (.if_icmp .eq 5, 3) := by decide +kernel
theorem dd_L_law_281 : decode code 281 = .ok (.iconst 0, 1) := by decide +kernel
theorem dd_L_law_282 : decode code 282 = .ok (.ireturn, 1) := by decide +kernel
theorem dd_L_law_283 : decode code 283 = .ok (.iload 5, 2) := by decide +kernel
theorem dd_L_law_285 : decode code 285 = .ok (.ifCond .ne 15, 3) := by decide +kernel
theorem dd_L_law_288 : decode code 288 = .ok (.aload_n 3, 1) := by decide +kernel
theorem dd_L_law_289 : decode code 289 = .ok (.iconst 0, 1) := by decide +kernel
theorem dd_L_law_290 : decode code 290 = .ok (.laload, 1) := by decide +kernel
theorem dd_L_law_291 : decode code 291 = .ok (.iload 6, 2) := by decide +kernel
theorem dd_L_law_293 : decode code 293 = .ok (.i2l, 1) := by decide +kernel
theorem dd_L_law_294 : decode code 294 = .ok (.lcmp, 1) := by decide +kernel
theorem dd_L_law_295 : decode code 295 = .ok (.ifCond .eq 5, 3) := by decide +kernel
theorem dd_L_law_298 : decode code 298 = .ok (.iconst 0, 1) := by decide +kernel
theorem dd_L_law_299 : decode code 299 = .ok (.ireturn, 1) := by decide +kernel
theorem dd_L_law_300 : decode code 300 = .ok (.goto 1346, 3) := by decide +kernel
theorem dd_L_law_303 : decode code 303 = .ok (.aload_n 1, 1) := by decide +kernel
theorem dd_L_law_304 : decode code 304 = .ok (.aload_n 0, 1) := by decide +kernel
theorem dd_L_law_305 : decode code 305 = .ok (.iload 4, 2) := by decide +kernel
theorem dd_L_law_307 : decode code 307 = .ok (.iconst 1, 1) := by decide +kernel
theorem dd_L_law_308 : decode code 308 = .ok (.iadd, 1) := by decide +kernel
theorem dd_L_law_309 : decode code 309 = .ok (.iaload, 1) := by decide +kernel
theorem dd_L_law_310 : decode code 310 = .ok (.aload_n 0, 1) := by decide +kernel
theorem dd_L_law_311 : decode code 311 = .ok (.iload 4, 2) := by decide +kernel
theorem dd_L_law_313 : decode code 313 = .ok (.iconst 2, 1) := by decide +kernel
theorem dd_L_law_314 : decode code 314 = .ok (.iadd, 1) := by decide +kernel
theorem dd_L_law_315 : decode code 315 = .ok (.iaload, 1) := by decide +kernel
theorem dd_L_law_316 : decode code 316 = .ok (.aload_n 3, 1) := by decide +kernel
theorem dd_L_law_317 : decode code 317 = .ok (.invokestatic 109, 3) := by decide +kernel
theorem dd_L_law_320 : decode code 320 = .ok (.istore 5, 2) := by decide +kernel
theorem dd_L_law_322 : decode code 322 = .ok (.aload_n 2, 1) := by decide +kernel
theorem dd_L_law_323 : decode code 323 = .ok (.aload_n 0, 1) := by decide +kernel
theorem dd_L_law_324 : decode code 324 = .ok (.iload 4, 2) := by decide +kernel
theorem dd_L_law_326 : decode code 326 = .ok (.iconst 1, 1) := by decide +kernel
theorem dd_L_law_327 : decode code 327 = .ok (.iadd, 1) := by decide +kernel
theorem dd_L_law_328 : decode code 328 = .ok (.iaload, 1) := by decide +kernel
theorem dd_L_law_329 : decode code 329 = .ok (.aload_n 0, 1) := by decide +kernel
theorem dd_L_law_330 : decode code 330 = .ok (.iload 4, 2) := by decide +kernel
theorem dd_L_law_332 : decode code 332 = .ok (.iconst 2, 1) := by decide +kernel
theorem dd_L_law_333 : decode code 333 = .ok (.iadd, 1) := by decide +kernel
theorem dd_L_law_334 : decode code 334 = .ok (.iaload, 1) := by decide +kernel
theorem dd_L_law_335 : decode code 335 = .ok (.invokevirtual 112, 3) := by decide +kernel
theorem dd_L_law_338 : decode code 338 = .ok (.istore 6, 2) := by decide +kernel
theorem dd_L_law_340 : decode code 340 = .ok (.aload_n 2, 1) := by decide +kernel
theorem dd_L_law_341 : decode code 341 = .ok (.invokevirtual 101, 3) := by decide +kernel
theorem dd_L_law_344 : decode code 344 = .ok (.iload 5, 2) := by decide +kernel
theorem dd_L_law_346 : decode code 346 = .ok (.if_icmp .eq 5, 3) := by decide +kernel
theorem dd_L_law_349 : decode code 349 = .ok (.iconst 0, 1) := by decide +kernel
theorem dd_L_law_350 : decode code 350 = .ok (.ireturn, 1) := by decide +kernel
theorem dd_L_law_351 : decode code 351 = .ok (.iload 5, 2) := by decide +kernel
theorem dd_L_law_353 : decode code 353 = .ok (.ifCond .ne 15, 3) := by decide +kernel
theorem dd_L_law_356 : decode code 356 = .ok (.aload_n 3, 1) := by decide +kernel
theorem dd_L_law_357 : decode code 357 = .ok (.iconst 0, 1) := by decide +kernel
theorem dd_L_law_358 : decode code 358 = .ok (.laload, 1) := by decide +kernel
theorem dd_L_law_359 : decode code 359 = .ok (.iload 6, 2) := by decide +kernel
theorem dd_L_law_361 : decode code 361 = .ok (.i2l, 1) := by decide +kernel
theorem dd_L_law_362 : decode code 362 = .ok (.lcmp, 1) := by decide +kernel
theorem dd_L_law_363 : decode code 363 = .ok (.ifCond .eq 5, 3) := by decide +kernel
theorem dd_L_law_366 : decode code 366 = .ok (.iconst 0, 1) := by decide +kernel
theorem dd_L_law_367 : decode code 367 = .ok (.ireturn, 1) := by decide +kernel
theorem dd_L_law_368 : decode code 368 = .ok (.goto 1278, 3) := by decide +kernel
theorem dd_L_law_371 : decode code 371 = .ok (.aload_n 1, 1) := by decide +kernel
theorem dd_L_law_372 : decode code 372 = .ok (.aload_n 0, 1) := by decide +kernel
theorem dd_L_law_373 : decode code 373 = .ok (.iload 4, 2) := by decide +kernel
theorem dd_L_law_375 : decode code 375 = .ok (.iconst 1, 1) := by decide +kernel
theorem dd_L_law_376 : decode code 376 = .ok (.iadd, 1) := by decide +kernel
theorem dd_L_law_377 : decode code 377 = .ok (.iaload, 1) := by decide +kernel
theorem dd_L_law_378 : decode code 378 = .ok (.aload_n 3, 1) := by decide +kernel
theorem dd_L_law_379 : decode code 379 = .ok (.invokestatic 113, 3) := by decide +kernel
theorem dd_L_law_382 : decode code 382 = .ok (.istore 5, 2) := by decide +kernel
theorem dd_L_law_384 : decode code 384 = .ok (.aload_n 2, 1) := by decide +kernel
theorem dd_L_law_385 : decode code 385 = .ok (.aload_n 0, 1) := by decide +kernel
theorem dd_L_law_386 : decode code 386 = .ok (.iload 4, 2) := by decide +kernel
theorem dd_L_law_388 : decode code 388 = .ok (.iconst 1, 1) := by decide +kernel
theorem dd_L_law_389 : decode code 389 = .ok (.iadd, 1) := by decide +kernel
theorem dd_L_law_390 : decode code 390 = .ok (.iaload, 1) := by decide +kernel
theorem dd_L_law_391 : decode code 391 = .ok (.invokevirtual 115, 3) := by decide +kernel
theorem dd_L_law_394 : decode code 394 = .ok (.istore 6, 2) := by decide +kernel
theorem dd_L_law_396 : decode code 396 = .ok (.aload_n 2, 1) := by decide +kernel
theorem dd_L_law_397 : decode code 397 = .ok (.invokevirtual 101, 3) := by decide +kernel
theorem dd_L_law_400 : decode code 400 = .ok (.iload 5, 2) := by decide +kernel
theorem dd_L_law_402 : decode code 402 = .ok (.if_icmp .eq 5, 3) := by decide +kernel
theorem dd_L_law_405 : decode code 405 = .ok (.iconst 0, 1) := by decide +kernel
theorem dd_L_law_406 : decode code 406 = .ok (.ireturn, 1) := by decide +kernel
theorem dd_L_law_407 : decode code 407 = .ok (.iload 5, 2) := by decide +kernel
theorem dd_L_law_409 : decode code 409 = .ok (.ifCond .ne 15, 3) := by decide +kernel
