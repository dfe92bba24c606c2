/-! The law's own instructions, 110 on -/
theorem d_W_230 : decode code 230 = .ok (.aload_n 0, 1) := by decide +kernel
theorem d_W_231 : decode code 231 = .ok (.iload 4, 2) := by decide +kernel
theorem d_W_233 : decode code 233 = .ok (.iconst 4, 1) := by decide +kernel
theorem d_W_234 : decode code 234 = .ok (.iadd, 1) := by decide +kernel
theorem d_W_235 : decode code 235 = .ok (.iaload, 1) := by decide +kernel
theorem d_W_236 : decode code 236 = .ok (.invokevirtual 79, 3) := by decide +kernel
theorem d_W_239 : decode code 239 = .ok (.istore 6, 2) := by decide +kernel
theorem d_W_241 : decode code 241 = .ok (.aload_n 2, 1) := by decide +kernel
theorem d_W_242 : decode code 242 = .ok (.invokevirtual 72, 3) := by decide +kernel
theorem d_W_245 : decode code 245 = .ok (.iload 5, 2) := by decide +kernel
theorem d_W_247 : decode code 247 = .ok (.if_icmp .eq 5, 3) := by decide +kernel
theorem d_W_250 : decode code 250 = .ok (.iconst 0, 1) := by decide +kernel
theorem d_W_251 : decode code 251 = .ok (.ireturn, 1) := by decide +kernel
theorem d_W_252 : decode code 252 = .ok (.iload 5, 2) := by decide +kernel
theorem d_W_254 : decode code 254 = .ok (.ifCond .ne 15, 3) := by decide +kernel
theorem d_W_257 : decode code 257 = .ok (.aload_n 3, 1) := by decide +kernel
theorem d_W_258 : decode code 258 = .ok (.iconst 0, 1) := by decide +kernel
theorem d_W_259 : decode code 259 = .ok (.laload, 1) := by decide +kernel
theorem d_W_260 : decode code 260 = .ok (.iload 6, 2) := by decide +kernel
theorem d_W_262 : decode code 262 = .ok (.i2l, 1) := by decide +kernel
theorem d_W_263 : decode code 263 = .ok (.lcmp, 1) := by decide +kernel
theorem d_W_264 : decode code 264 = .ok (.ifCond .eq 5, 3) := by decide +kernel
theorem d_W_267 : decode code 267 = .ok (.iconst 0, 1) := by decide +kernel
theorem d_W_268 : decode code 268 = .ok (.ireturn, 1) := by decide +kernel
theorem d_W_269 : decode code 269 = .ok (.goto 836, 3) := by decide +kernel
theorem d_W_272 : decode code 272 = .ok (.aload_n 1, 1) := by decide +kernel
theorem d_W_273 : decode code 273 = .ok (.aload_n 0, 1) := by decide +kernel
theorem d_W_274 : decode code 274 = .ok (.iload 4, 2) := by decide +kernel
theorem d_W_276 : decode code 276 = .ok (.iconst 1, 1) := by decide +kernel
theorem d_W_277 : decode code 277 = .ok (.iadd, 1) := by decide +kernel
theorem d_W_278 : decode code 278 = .ok (.iaload, 1) := by decide +kernel
theorem d_W_279 : decode code 279 = .ok (.aload_n 0, 1) := by decide +kernel
theorem d_W_280 : decode code 280 = .ok (.iload 4, 2) := by decide +kernel
theorem d_W_282 : decode code 282 = .ok (.iconst 2, 1) := by decide +kernel
theorem d_W_283 : decode code 283 = .ok (.iadd, 1) := by decide +kernel
theorem d_W_284 : decode code 284 = .ok (.iaload, 1) := by decide +kernel
theorem d_W_285 : decode code 285 = .ok (.aload_n 3, 1) := by decide +kernel
theorem d_W_286 : decode code 286 = .ok (.invokestatic 80, 3) := by decide +kernel
theorem d_W_289 : decode code 289 = .ok (.istore 5, 2) := by decide +kernel
theorem d_W_291 : decode code 291 = .ok (.aload_n 2, 1) := by decide +kernel
theorem d_W_292 : decode code 292 = .ok (.aload_n 0, 1) := by decide +kernel
theorem d_W_293 : decode code 293 = .ok (.iload 4, 2) := by decide +kernel
theorem d_W_295 : decode code 295 = .ok (.iconst 1, 1) := by decide +kernel
theorem d_W_296 : decode code 296 = .ok (.iadd, 1) := by decide +kernel
theorem d_W_297 : decode code 297 = .ok (.iaload, 1) := by decide +kernel
theorem d_W_298 : decode code 298 = .ok (.aload_n 0, 1) := by decide +kernel
theorem d_W_299 : decode code 299 = .ok (.iload 4, 2) := by decide +kernel
theorem d_W_301 : decode code 301 = .ok (.iconst 2, 1) := by decide +kernel
theorem d_W_302 : decode code 302 = .ok (.iadd, 1) := by decide +kernel
theorem d_W_303 : decode code 303 = .ok (.iaload, 1) := by decide +kernel
theorem d_W_304 : decode code 304 = .ok (.invokevirtual 82, 3) := by decide +kernel
theorem d_W_307 : decode code 307 = .ok (.istore 6, 2) := by decide +kernel
theorem d_W_309 : decode code 309 = .ok (.aload_n 2, 1) := by decide +kernel
theorem d_W_310 : decode code 310 = .ok (.invokevirtual 72, 3) := by decide +kernel
theorem d_W_313 : decode code 313 = .ok (.iload 5, 2) := by decide +kernel
theorem d_W_315 : decode code 315 = .ok (.if_icmp .eq 5, 3) := by decide +kernel
theorem d_W_318 : decode code 318 = .ok (.iconst 0, 1) := by decide +kernel
theorem d_W_319 : decode code 319 = .ok (.ireturn, 1) := by decide +kernel
theorem d_W_320 : decode code 320 = .ok (.iload 5, 2) := by decide +kernel
theorem d_W_322 : decode code 322 = .ok (.ifCond .ne 15, 3) := by decide +kernel
theorem d_W_325 : decode code 325 = .ok (.aload_n 3, 1) := by decide +kernel
theorem d_W_326 : decode code 326 = .ok (.iconst 0, 1) := by decide +kernel
theorem d_W_327 : decode code 327 = .ok (.laload, 1) := by decide +kernel
theorem d_W_328 : decode code 328 = .ok (.iload 6, 2) := by decide +kernel
theorem d_W_330 : decode code 330 = .ok (.i2l, 1) := by decide +kernel
theorem d_W_331 : decode code 331 = .ok (.lcmp, 1) := by decide +kernel
theorem d_W_332 : decode code 332 = .ok (.ifCond .eq 5, 3) := by decide +kernel
theorem d_W_335 : decode code 335 = .ok (.iconst 0, 1) := by decide +kernel
theorem d_W_336 : decode code 336 = .ok (.ireturn, 1) := by decide +kernel
theorem d_W_337 : decode code 337 = .ok (.goto 768, 3) := by decide +kernel
theorem d_W_340 : decode code 340 = .ok (.aload_n 1, 1) := by decide +kernel
theorem d_W_341 : decode code 341 = .ok (.aload_n 0, 1) := by decide +kernel
theorem d_W_342 : decode code 342 = .ok (.iload 4, 2) := by decide +kernel
theorem d_W_344 : decode code 344 = .ok (.iconst 1, 1) := by decide +kernel
theorem d_W_345 : decode code 345 = .ok (.iadd, 1) := by decide +kernel
theorem d_W_346 : decode code 346 = .ok (.iaload, 1) := by decide +kernel
theorem d_W_347 : decode code 347 = .ok (.invokestatic 83, 3) := by decide +kernel
theorem d_W_350 : decode code 350 = .ok (.istore 5, 2) := by decide +kernel
theorem d_W_352 : decode code 352 = .ok (.aload_n 2, 1) := by decide +kernel
theorem d_W_353 : decode code 353 = .ok (.aload_n 0, 1) := by decide +kernel
theorem d_W_354 : decode code 354 = .ok (.iload 4, 2) := by decide +kernel
theorem d_W_356 : decode code 356 = .ok (.iconst 1, 1) := by decide +kernel
theorem d_W_357 : decode code 357 = .ok (.iadd, 1) := by decide +kernel
theorem d_W_358 : decode code 358 = .ok (.iaload, 1) := by decide +kernel
theorem d_W_359 : decode code 359 = .ok (.invokevirtual 86, 3) := by decide +kernel
theorem d_W_362 : decode code 362 = .ok (.aload_n 2, 1) := by decide +kernel
theorem d_W_363 : decode code 363 = .ok (.invokevirtual 72, 3) := by decide +kernel
theorem d_W_366 : decode code 366 = .ok (.iload 5, 2) := by decide +kernel
theorem d_W_368 : decode code 368 = .ok (.if_icmp .eq 5, 3) := by decide +kernel
theorem d_W_371 : decode code 371 = .ok (.iconst 0, 1) := by decide +kernel
theorem d_W_372 : decode code 372 = .ok (.ireturn, 1) := by decide +kernel
theorem d_W_373 : decode code 373 = .ok (.goto 732, 3) := by decide +kernel
theorem d_W_376 : decode code 376 = .ok (.aload_n 1, 1) := by decide +kernel
theorem d_W_377 : decode code 377 = .ok (.aload_n 0, 1) := by decide +kernel
theorem d_W_378 : decode code 378 = .ok (.iload 4, 2) := by decide +kernel
theorem d_W_380 : decode code 380 = .ok (.iconst 1, 1) := by decide +kernel
theorem d_W_381 : decode code 381 = .ok (.iadd, 1) := by decide +kernel
theorem d_W_382 : decode code 382 = .ok (.iaload, 1) := by decide +kernel
theorem d_W_383 : decode code 383 = .ok (.aload_n 0, 1) := by decide +kernel
theorem d_W_384 : decode code 384 = .ok (.iload 4, 2) := by decide +kernel
theorem d_W_386 : decode code 386 = .ok (.iconst 2, 1) := by decide +kernel
theorem d_W_387 : decode code 387 = .ok (.iadd, 1) := by decide +kernel
theorem d_W_388 : decode code 388 = .ok (.iaload, 1) := by decide +kernel
theorem d_W_389 : decode code 389 = .ok (.aload_n 3, 1) := by decide +kernel
theorem d_W_390 : decode code 390 = .ok (.invokestatic 87, 3) := by decide +kernel
theorem d_W_393 : decode code 393 = .ok (.istore 5, 2) := by decide +kernel
theorem d_W_395 : decode code 395 = .ok (.aload_n 2, 1) := by decide +kernel
theorem d_W_396 : decode code 396 = .ok (.aload_n 0, 1) := by decide +kernel
theorem d_W_397 : decode code 397 = .ok (.iload 4, 2) := by decide +kernel
theorem d_W_399 : decode code 399 = .ok (.iconst 1, 1) := by decide +kernel
