/-! ===== the law, instruction by instruction; its thirty roads ===== -/
theorem dw_0 : decode code 0 = .ok (.new 7, 3) := by decide +kernel
theorem dw_3 : decode code 3 = .ok (.dup, 1) := by decide +kernel
theorem dw_4 : decode code 4 = .ok (.invokespecial 9, 3) := by decide +kernel
theorem dw_7 : decode code 7 = .ok (.astore_n 1, 1) := by decide +kernel
theorem dw_8 : decode code 8 = .ok (.new 10, 3) := by decide +kernel
theorem dw_11 : decode code 11 = .ok (.dup, 1) := by decide +kernel
theorem dw_12 : decode code 12 = .ok (.invokespecial 12, 3) := by decide +kernel
theorem dw_15 : decode code 15 = .ok (.astore_n 2, 1) := by decide +kernel
theorem dw_16 : decode code 16 = .ok (.iconst 0, 1) := by decide +kernel
theorem dw_17 : decode code 17 = .ok (.istore_n 3, 1) := by decide +kernel
theorem dw_18 : decode code 18 = .ok (.iload_n 3, 1) := by decide +kernel
theorem dw_19 : decode code 19 = .ok (.aload_n 0, 1) := by decide +kernel
theorem dw_20 : decode code 20 = .ok (.arraylength, 1) := by decide +kernel
theorem dw_21 : decode code 21 = .ok (.iconst 4, 1) := by decide +kernel
theorem dw_22 : decode code 22 = .ok (.isub, 1) := by decide +kernel
theorem dw_23 : decode code 23 = .ok (.if_icmp .gt 902, 3) := by decide +kernel
theorem dw_26 : decode code 26 = .ok (.aload_n 0, 1) := by decide +kernel
theorem dw_27 : decode code 27 = .ok (.iload_n 3, 1) := by decide +kernel
theorem dw_28 : decode code 28 = .ok (.iaload, 1) := by decide +kernel
theorem dw_29 : decode code 29 = .ok (.bipush 31, 2) := by decide +kernel
theorem dw_31 : decode code 31 = .ok (.iand, 1) := by decide +kernel
theorem dw_32 : decode code 32 = .ok (.tableswitch 887 0 29 #[136, 169, 202, 215, 228, 261, 284, 297, 340, 373, 396, 419, 452, 475, 498, 511, 544, 577, 610, 643, 686, 719, 752, 775, 798, 811, 824, 837, 860, 873], 136) := by decide +kernel
theorem dw_168 : decode code 168 = .ok (.aload_n 1, 1) := by decide +kernel
theorem dw_169 : decode code 169 = .ok (.aload_n 0, 1) := by decide +kernel
theorem dw_170 : decode code 170 = .ok (.iload_n 3, 1) := by decide +kernel
theorem dw_171 : decode code 171 = .ok (.iconst 1, 1) := by decide +kernel
theorem dw_172 : decode code 172 = .ok (.iadd, 1) := by decide +kernel
theorem dw_173 : decode code 173 = .ok (.iaload, 1) := by decide +kernel
theorem dw_174 : decode code 174 = .ok (.aload_n 0, 1) := by decide +kernel
theorem dw_175 : decode code 175 = .ok (.iload_n 3, 1) := by decide +kernel
theorem dw_176 : decode code 176 = .ok (.iconst 2, 1) := by decide +kernel
theorem dw_177 : decode code 177 = .ok (.iadd, 1) := by decide +kernel
theorem dw_178 : decode code 178 = .ok (.iaload, 1) := by decide +kernel
theorem dw_179 : decode code 179 = .ok (.invokevirtual 13, 3) := by decide +kernel
theorem dw_182 : decode code 182 = .ok (.aload_n 2, 1) := by decide +kernel
theorem dw_183 : decode code 183 = .ok (.aload_n 0, 1) := by decide +kernel
theorem dw_184 : decode code 184 = .ok (.iload_n 3, 1) := by decide +kernel
theorem dw_185 : decode code 185 = .ok (.iconst 1, 1) := by decide +kernel
theorem dw_186 : decode code 186 = .ok (.iadd, 1) := by decide +kernel
theorem dw_187 : decode code 187 = .ok (.iaload, 1) := by decide +kernel
theorem dw_188 : decode code 188 = .ok (.aload_n 0, 1) := by decide +kernel
theorem dw_189 : decode code 189 = .ok (.iload_n 3, 1) := by decide +kernel
theorem dw_190 : decode code 190 = .ok (.iconst 2, 1) := by decide +kernel
theorem dw_191 : decode code 191 = .ok (.iadd, 1) := by decide +kernel
theorem dw_192 : decode code 192 = .ok (.iaload, 1) := by decide +kernel
theorem dw_193 : decode code 193 = .ok (.invokevirtual 17, 3) := by decide +kernel
theorem dw_196 : decode code 196 = .ok (.if_icmp .eq 723, 3) := by decide +kernel
theorem dw_199 : decode code 199 = .ok (.iconst 0, 1) := by decide +kernel
theorem dw_200 : decode code 200 = .ok (.ireturn, 1) := by decide +kernel
theorem dw_201 : decode code 201 = .ok (.aload_n 1, 1) := by decide +kernel
theorem dw_202 : decode code 202 = .ok (.aload_n 0, 1) := by decide +kernel
theorem dw_203 : decode code 203 = .ok (.iload_n 3, 1) := by decide +kernel
theorem dw_204 : decode code 204 = .ok (.iconst 1, 1) := by decide +kernel
theorem dw_205 : decode code 205 = .ok (.iadd, 1) := by decide +kernel
theorem dw_206 : decode code 206 = .ok (.iaload, 1) := by decide +kernel
theorem dw_207 : decode code 207 = .ok (.aload_n 0, 1) := by decide +kernel
theorem dw_208 : decode code 208 = .ok (.iload_n 3, 1) := by decide +kernel
theorem dw_209 : decode code 209 = .ok (.iconst 2, 1) := by decide +kernel
theorem dw_210 : decode code 210 = .ok (.iadd, 1) := by decide +kernel
theorem dw_211 : decode code 211 = .ok (.iaload, 1) := by decide +kernel
theorem dw_212 : decode code 212 = .ok (.invokevirtual 18, 3) := by decide +kernel
theorem dw_215 : decode code 215 = .ok (.aload_n 2, 1) := by decide +kernel
theorem dw_216 : decode code 216 = .ok (.aload_n 0, 1) := by decide +kernel
theorem dw_217 : decode code 217 = .ok (.iload_n 3, 1) := by decide +kernel
theorem dw_218 : decode code 218 = .ok (.iconst 1, 1) := by decide +kernel
theorem dw_219 : decode code 219 = .ok (.iadd, 1) := by decide +kernel
theorem dw_220 : decode code 220 = .ok (.iaload, 1) := by decide +kernel
theorem dw_221 : decode code 221 = .ok (.aload_n 0, 1) := by decide +kernel
theorem dw_222 : decode code 222 = .ok (.iload_n 3, 1) := by decide +kernel
theorem dw_223 : decode code 223 = .ok (.iconst 2, 1) := by decide +kernel
theorem dw_224 : decode code 224 = .ok (.iadd, 1) := by decide +kernel
theorem dw_225 : decode code 225 = .ok (.iaload, 1) := by decide +kernel
theorem dw_226 : decode code 226 = .ok (.invokevirtual 21, 3) := by decide +kernel
theorem dw_229 : decode code 229 = .ok (.if_icmp .eq 690, 3) := by decide +kernel
theorem dw_232 : decode code 232 = .ok (.iconst 0, 1) := by decide +kernel
theorem dw_233 : decode code 233 = .ok (.ireturn, 1) := by decide +kernel
theorem dw_234 : decode code 234 = .ok (.aload_n 1, 1) := by decide +kernel
theorem dw_235 : decode code 235 = .ok (.invokevirtual 22, 3) := by decide +kernel
theorem dw_238 : decode code 238 = .ok (.aload_n 2, 1) := by decide +kernel
theorem dw_239 : decode code 239 = .ok (.invokevirtual 26, 3) := by decide +kernel
theorem dw_242 : decode code 242 = .ok (.if_icmp .eq 677, 3) := by decide +kernel
theorem dw_245 : decode code 245 = .ok (.iconst 0, 1) := by decide +kernel
theorem dw_246 : decode code 246 = .ok (.ireturn, 1) := by decide +kernel
theorem dw_247 : decode code 247 = .ok (.aload_n 1, 1) := by decide +kernel
theorem dw_248 : decode code 248 = .ok (.invokevirtual 27, 3) := by decide +kernel
theorem dw_251 : decode code 251 = .ok (.aload_n 2, 1) := by decide +kernel
theorem dw_252 : decode code 252 = .ok (.invokevirtual 30, 3) := by decide +kernel
theorem dw_255 : decode code 255 = .ok (.if_icmp .eq 664, 3) := by decide +kernel
theorem dw_258 : decode code 258 = .ok (.iconst 0, 1) := by decide +kernel
theorem dw_259 : decode code 259 = .ok (.ireturn, 1) := by decide +kernel
theorem dw_260 : decode code 260 = .ok (.aload_n 1, 1) := by decide +kernel
theorem dw_261 : decode code 261 = .ok (.aload_n 0, 1) := by decide +kernel
theorem dw_262 : decode code 262 = .ok (.iload_n 3, 1) := by decide +kernel
theorem dw_263 : decode code 263 = .ok (.iconst 1, 1) := by decide +kernel
theorem dw_264 : decode code 264 = .ok (.iadd, 1) := by decide +kernel
theorem dw_265 : decode code 265 = .ok (.iaload, 1) := by decide +kernel
theorem dw_266 : decode code 266 = .ok (.aload_n 0, 1) := by decide +kernel
theorem dw_267 : decode code 267 = .ok (.iload_n 3, 1) := by decide +kernel
theorem dw_268 : decode code 268 = .ok (.iconst 2, 1) := by decide +kernel
theorem dw_269 : decode code 269 = .ok (.iadd, 1) := by decide +kernel
theorem dw_270 : decode code 270 = .ok (.iaload, 1) := by decide +kernel
theorem dw_271 : decode code 271 = .ok (.invokevirtual 31, 3) := by decide +kernel
theorem dw_274 : decode code 274 = .ok (.aload_n 2, 1) := by decide +kernel
theorem dw_275 : decode code 275 = .ok (.aload_n 0, 1) := by decide +kernel
theorem dw_276 : decode code 276 = .ok (.iload_n 3, 1) := by decide +kernel
theorem dw_277 : decode code 277 = .ok (.iconst 1, 1) := by decide +kernel
theorem dw_278 : decode code 278 = .ok (.iadd, 1) := by decide +kernel
theorem dw_279 : decode code 279 = .ok (.iaload, 1) := by decide +kernel
theorem dw_280 : decode code 280 = .ok (.aload_n 0, 1) := by decide +kernel
theorem dw_281 : decode code 281 = .ok (.iload_n 3, 1) := by decide +kernel
theorem dw_282 : decode code 282 = .ok (.iconst 2, 1) := by decide +kernel
theorem dw_283 : decode code 283 = .ok (.iadd, 1) := by decide +kernel
theorem dw_284 : decode code 284 = .ok (.iaload, 1) := by decide +kernel
theorem dw_285 : decode code 285 = .ok (.invokevirtual 34, 3) := by decide +kernel
theorem dw_288 : decode code 288 = .ok (.if_icmp .eq 631, 3) := by decide +kernel
theorem dw_291 : decode code 291 = .ok (.iconst 0, 1) := by decide +kernel
theorem dw_292 : decode code 292 = .ok (.ireturn, 1) := by decide +kernel
theorem dw_293 : decode code 293 = .ok (.aload_n 1, 1) := by decide +kernel
theorem dw_294 : decode code 294 = .ok (.aload_n 0, 1) := by decide +kernel
theorem dw_295 : decode code 295 = .ok (.iload_n 3, 1) := by decide +kernel
theorem dw_296 : decode code 296 = .ok (.iconst 1, 1) := by decide +kernel
theorem dw_297 : decode code 297 = .ok (.iadd, 1) := by decide +kernel
theorem dw_298 : decode code 298 = .ok (.iaload, 1) := by decide +kernel
theorem dw_299 : decode code 299 = .ok (.invokevirtual 35, 3) := by decide +kernel
theorem dw_302 : decode code 302 = .ok (.aload_n 2, 1) := by decide +kernel
theorem dw_303 : decode code 303 = .ok (.aload_n 0, 1) := by decide +kernel
theorem dw_304 : decode code 304 = .ok (.iload_n 3, 1) := by decide +kernel
theorem dw_305 : decode code 305 = .ok (.iconst 1, 1) := by decide +kernel
theorem dw_306 : decode code 306 = .ok (.iadd, 1) := by decide +kernel
theorem dw_307 : decode code 307 = .ok (.iaload, 1) := by decide +kernel
theorem dw_308 : decode code 308 = .ok (.invokevirtual 39, 3) := by decide +kernel
theorem dw_311 : decode code 311 = .ok (.if_icmp .eq 608, 3) := by decide +kernel
theorem dw_314 : decode code 314 = .ok (.iconst 0, 1) := by decide +kernel
theorem dw_315 : decode code 315 = .ok (.ireturn, 1) := by decide +kernel
theorem dw_316 : decode code 316 = .ok (.aload_n 1, 1) := by decide +kernel
theorem dw_317 : decode code 317 = .ok (.invokevirtual 40, 3) := by decide +kernel
theorem dw_320 : decode code 320 = .ok (.aload_n 2, 1) := by decide +kernel
theorem dw_321 : decode code 321 = .ok (.invokevirtual 43, 3) := by decide +kernel
theorem dw_324 : decode code 324 = .ok (.if_icmp .eq 595, 3) := by decide +kernel
theorem dw_327 : decode code 327 = .ok (.iconst 0, 1) := by decide +kernel
theorem dw_328 : decode code 328 = .ok (.ireturn, 1) := by decide +kernel
theorem dw_329 : decode code 329 = .ok (.aload_n 1, 1) := by decide +kernel
theorem dw_330 : decode code 330 = .ok (.aload_n 0, 1) := by decide +kernel
theorem dw_331 : decode code 331 = .ok (.iload_n 3, 1) := by decide +kernel
theorem dw_332 : decode code 332 = .ok (.iconst 1, 1) := by decide +kernel
theorem dw_333 : decode code 333 = .ok (.iadd, 1) := by decide +kernel
theorem dw_334 : decode code 334 = .ok (.iaload, 1) := by decide +kernel
theorem dw_335 : decode code 335 = .ok (.aload_n 0, 1) := by decide +kernel
theorem dw_336 : decode code 336 = .ok (.iload_n 3, 1) := by decide +kernel
theorem dw_337 : decode code 337 = .ok (.iconst 2, 1) := by decide +kernel
theorem dw_338 : decode code 338 = .ok (.iadd, 1) := by decide +kernel
theorem dw_339 : decode code 339 = .ok (.iaload, 1) := by decide +kernel
theorem dw_340 : decode code 340 = .ok (.aload_n 0, 1) := by decide +kernel
theorem dw_341 : decode code 341 = .ok (.iload_n 3, 1) := by decide +kernel
theorem dw_342 : decode code 342 = .ok (.iconst 3, 1) := by decide +kernel
theorem dw_343 : decode code 343 = .ok (.iadd, 1) := by decide +kernel
theorem dw_344 : decode code 344 = .ok (.iaload, 1) := by decide +kernel
theorem dw_345 : decode code 345 = .ok (.invokevirtual 44, 3) := by decide +kernel
theorem dw_348 : decode code 348 = .ok (.aload_n 2, 1) := by decide +kernel
theorem dw_349 : decode code 349 = .ok (.aload_n 0, 1) := by decide +kernel
theorem dw_350 : decode code 350 = .ok (.iload_n 3, 1) := by decide +kernel
theorem dw_351 : decode code 351 = .ok (.iconst 1, 1) := by decide +kernel
theorem dw_352 : decode code 352 = .ok (.iadd, 1) := by decide +kernel
theorem dw_353 : decode code 353 = .ok (.iaload, 1) := by decide +kernel
theorem dw_354 : decode code 354 = .ok (.aload_n 0, 1) := by decide +kernel
theorem dw_355 : decode code 355 = .ok (.iload_n 3, 1) := by decide +kernel
theorem dw_356 : decode code 356 = .ok (.iconst 2, 1) := by decide +kernel
theorem dw_357 : decode code 357 = .ok (.iadd, 1) := by decide +kernel
theorem dw_358 : decode code 358 = .ok (.iaload, 1) := by decide +kernel
theorem dw_359 : decode code 359 = .ok (.aload_n 0, 1) := by decide +kernel
theorem dw_360 : decode code 360 = .ok (.iload_n 3, 1) := by decide +kernel
theorem dw_361 : decode code 361 = .ok (.iconst 3, 1) := by decide +kernel
theorem dw_362 : decode code 362 = .ok (.iadd, 1) := by decide +kernel
theorem dw_363 : decode code 363 = .ok (.iaload, 1) := by decide +kernel
theorem dw_364 : decode code 364 = .ok (.invokevirtual 48, 3) := by decide +kernel
theorem dw_367 : decode code 367 = .ok (.if_icmp .eq 552, 3) := by decide +kernel
theorem dw_370 : decode code 370 = .ok (.iconst 0, 1) := by decide +kernel
theorem dw_371 : decode code 371 = .ok (.ireturn, 1) := by decide +kernel
theorem dw_372 : decode code 372 = .ok (.aload_n 1, 1) := by decide +kernel
theorem dw_373 : decode code 373 = .ok (.aload_n 0, 1) := by decide +kernel
theorem dw_374 : decode code 374 = .ok (.iload_n 3, 1) := by decide +kernel
theorem dw_375 : decode code 375 = .ok (.iconst 1, 1) := by decide +kernel
theorem dw_376 : decode code 376 = .ok (.iadd, 1) := by decide +kernel
theorem dw_377 : decode code 377 = .ok (.iaload, 1) := by decide +kernel
theorem dw_378 : decode code 378 = .ok (.aload_n 0, 1) := by decide +kernel
theorem dw_379 : decode code 379 = .ok (.iload_n 3, 1) := by decide +kernel
theorem dw_380 : decode code 380 = .ok (.iconst 2, 1) := by decide +kernel
theorem dw_381 : decode code 381 = .ok (.iadd, 1) := by decide +kernel
theorem dw_382 : decode code 382 = .ok (.iaload, 1) := by decide +kernel
theorem dw_383 : decode code 383 = .ok (.invokevirtual 49, 3) := by decide +kernel
theorem dw_386 : decode code 386 = .ok (.aload_n 2, 1) := by decide +kernel
theorem dw_387 : decode code 387 = .ok (.aload_n 0, 1) := by decide +kernel
theorem dw_388 : decode code 388 = .ok (.iload_n 3, 1) := by decide +kernel
theorem dw_389 : decode code 389 = .ok (.iconst 1, 1) := by decide +kernel
theorem dw_390 : decode code 390 = .ok (.iadd, 1) := by decide +kernel
theorem dw_391 : decode code 391 = .ok (.iaload, 1) := by decide +kernel
theorem dw_392 : decode code 392 = .ok (.aload_n 0, 1) := by decide +kernel
theorem dw_393 : decode code 393 = .ok (.iload_n 3, 1) := by decide +kernel
theorem dw_394 : decode code 394 = .ok (.iconst 2, 1) := by decide +kernel
theorem dw_395 : decode code 395 = .ok (.iadd, 1) := by decide +kernel
theorem dw_396 : decode code 396 = .ok (.iaload, 1) := by decide +kernel
theorem dw_397 : decode code 397 = .ok (.invokevirtual 52, 3) := by decide +kernel
theorem dw_400 : decode code 400 = .ok (.if_icmp .eq 519, 3) := by decide +kernel
theorem dw_403 : decode code 403 = .ok (.iconst 0, 1) := by decide +kernel
theorem dw_404 : decode code 404 = .ok (.ireturn, 1) := by decide +kernel
theorem dw_405 : decode code 405 = .ok (.aload_n 1, 1) := by decide +kernel
theorem dw_406 : decode code 406 = .ok (.aload_n 0, 1) := by decide +kernel
theorem dw_407 : decode code 407 = .ok (.iload_n 3, 1) := by decide +kernel
theorem dw_408 : decode code 408 = .ok (.iconst 1, 1) := by decide +kernel
theorem dw_409 : decode code 409 = .ok (.iadd, 1) := by decide +kernel
theorem dw_410 : decode code 410 = .ok (.iaload, 1) := by decide +kernel
theorem dw_411 : decode code 411 = .ok (.invokevirtual 53, 3) := by decide +kernel
theorem dw_414 : decode code 414 = .ok (.aload_n 2, 1) := by decide +kernel
theorem dw_415 : decode code 415 = .ok (.aload_n 0, 1) := by decide +kernel
theorem dw_416 : decode code 416 = .ok (.iload_n 3, 1) := by decide +kernel
theorem dw_417 : decode code 417 = .ok (.iconst 1, 1) := by decide +kernel
theorem dw_418 : decode code 418 = .ok (.iadd, 1) := by decide +kernel
theorem dw_419 : decode code 419 = .ok (.iaload, 1) := by decide +kernel
theorem dw_420 : decode code 420 = .ok (.invokevirtual 56, 3) := by decide +kernel
theorem dw_423 : decode code 423 = .ok (.if_icmp .eq 496, 3) := by decide +kernel
theorem dw_426 : decode code 426 = .ok (.iconst 0, 1) := by decide +kernel
theorem dw_427 : decode code 427 = .ok (.ireturn, 1) := by decide +kernel
theorem dw_428 : decode code 428 = .ok (.aload_n 1, 1) := by decide +kernel
theorem dw_429 : decode code 429 = .ok (.aload_n 0, 1) := by decide +kernel
theorem dw_430 : decode code 430 = .ok (.iload_n 3, 1) := by decide +kernel
theorem dw_431 : decode code 431 = .ok (.iconst 1, 1) := by decide +kernel
theorem dw_432 : decode code 432 = .ok (.iadd, 1) := by decide +kernel
theorem dw_433 : decode code 433 = .ok (.iaload, 1) := by decide +kernel
theorem dw_434 : decode code 434 = .ok (.invokevirtual 57, 3) := by decide +kernel
theorem dw_437 : decode code 437 = .ok (.aload_n 2, 1) := by decide +kernel
theorem dw_438 : decode code 438 = .ok (.aload_n 0, 1) := by decide +kernel
theorem dw_439 : decode code 439 = .ok (.iload_n 3, 1) := by decide +kernel
theorem dw_440 : decode code 440 = .ok (.iconst 1, 1) := by decide +kernel
theorem dw_441 : decode code 441 = .ok (.iadd, 1) := by decide +kernel
theorem dw_442 : decode code 442 = .ok (.iaload, 1) := by decide +kernel
theorem dw_443 : decode code 443 = .ok (.invokevirtual 60, 3) := by decide +kernel
theorem dw_446 : decode code 446 = .ok (.if_icmp .eq 473, 3) := by decide +kernel
theorem dw_449 : decode code 449 = .ok (.iconst 0, 1) := by decide +kernel
theorem dw_450 : decode code 450 = .ok (.ireturn, 1) := by decide +kernel
theorem dw_451 : decode code 451 = .ok (.aload_n 1, 1) := by decide +kernel
theorem dw_452 : decode code 452 = .ok (.aload_n 0, 1) := by decide +kernel
theorem dw_453 : decode code 453 = .ok (.iload_n 3, 1) := by decide +kernel
theorem dw_454 : decode code 454 = .ok (.iconst 1, 1) := by decide +kernel
theorem dw_455 : decode code 455 = .ok (.iadd, 1) := by decide +kernel
theorem dw_456 : decode code 456 = .ok (.iaload, 1) := by decide +kernel
theorem dw_457 : decode code 457 = .ok (.aload_n 0, 1) := by decide +kernel
theorem dw_458 : decode code 458 = .ok (.iload_n 3, 1) := by decide +kernel
theorem dw_459 : decode code 459 = .ok (.iconst 2, 1) := by decide +kernel
theorem dw_460 : decode code 460 = .ok (.iadd, 1) := by decide +kernel
theorem dw_461 : decode code 461 = .ok (.iaload, 1) := by decide +kernel
theorem dw_462 : decode code 462 = .ok (.invokevirtual 61, 3) := by decide +kernel
theorem dw_465 : decode code 465 = .ok (.aload_n 2, 1) := by decide +kernel
theorem dw_466 : decode code 466 = .ok (.aload_n 0, 1) := by decide +kernel
theorem dw_467 : decode code 467 = .ok (.iload_n 3, 1) := by decide +kernel
theorem dw_468 : decode code 468 = .ok (.iconst 1, 1) := by decide +kernel
theorem dw_469 : decode code 469 = .ok (.iadd, 1) := by decide +kernel
theorem dw_470 : decode code 470 = .ok (.iaload, 1) := by decide +kernel
theorem dw_471 : decode code 471 = .ok (.aload_n 0, 1) := by decide +kernel
theorem dw_472 : decode code 472 = .ok (.iload_n 3, 1) := by decide +kernel
theorem dw_473 : decode code 473 = .ok (.iconst 2, 1) := by decide +kernel
theorem dw_474 : decode code 474 = .ok (.iadd, 1) := by decide +kernel
theorem dw_475 : decode code 475 = .ok (.iaload, 1) := by decide +kernel
theorem dw_476 : decode code 476 = .ok (.invokevirtual 64, 3) := by decide +kernel
theorem dw_479 : decode code 479 = .ok (.if_icmp .eq 440, 3) := by decide +kernel
theorem dw_482 : decode code 482 = .ok (.iconst 0, 1) := by decide +kernel
theorem dw_483 : decode code 483 = .ok (.ireturn, 1) := by decide +kernel
theorem dw_484 : decode code 484 = .ok (.aload_n 1, 1) := by decide +kernel
theorem dw_485 : decode code 485 = .ok (.aload_n 0, 1) := by decide +kernel
theorem dw_486 : decode code 486 = .ok (.iload_n 3, 1) := by decide +kernel
theorem dw_487 : decode code 487 = .ok (.iconst 1, 1) := by decide +kernel
theorem dw_488 : decode code 488 = .ok (.iadd, 1) := by decide +kernel
theorem dw_489 : decode code 489 = .ok (.iaload, 1) := by decide +kernel
theorem dw_490 : decode code 490 = .ok (.invokevirtual 65, 3) := by decide +kernel
theorem dw_493 : decode code 493 = .ok (.aload_n 2, 1) := by decide +kernel
theorem dw_494 : decode code 494 = .ok (.aload_n 0, 1) := by decide +kernel
theorem dw_495 : decode code 495 = .ok (.iload_n 3, 1) := by decide +kernel
theorem dw_496 : decode code 496 = .ok (.iconst 1, 1) := by decide +kernel
theorem dw_497 : decode code 497 = .ok (.iadd, 1) := by decide +kernel
theorem dw_498 : decode code 498 = .ok (.iaload, 1) := by decide +kernel
theorem dw_499 : decode code 499 = .ok (.invokevirtual 68, 3) := by decide +kernel
theorem dw_502 : decode code 502 = .ok (.if_icmp .eq 417, 3) := by decide +kernel
theorem dw_505 : decode code 505 = .ok (.iconst 0, 1) := by decide +kernel
theorem dw_506 : decode code 506 = .ok (.ireturn, 1) := by decide +kernel
theorem dw_507 : decode code 507 = .ok (.aload_n 1, 1) := by decide +kernel
theorem dw_508 : decode code 508 = .ok (.aload_n 0, 1) := by decide +kernel
theorem dw_509 : decode code 509 = .ok (.iload_n 3, 1) := by decide +kernel
theorem dw_510 : decode code 510 = .ok (.iconst 1, 1) := by decide +kernel
theorem dw_511 : decode code 511 = .ok (.iadd, 1) := by decide +kernel
theorem dw_512 : decode code 512 = .ok (.iaload, 1) := by decide +kernel
theorem dw_513 : decode code 513 = .ok (.invokevirtual 69, 3) := by decide +kernel
theorem dw_516 : decode code 516 = .ok (.aload_n 2, 1) := by decide +kernel
theorem dw_517 : decode code 517 = .ok (.aload_n 0, 1) := by decide +kernel
theorem dw_518 : decode code 518 = .ok (.iload_n 3, 1) := by decide +kernel
theorem dw_519 : decode code 519 = .ok (.iconst 1, 1) := by decide +kernel
theorem dw_520 : decode code 520 = .ok (.iadd, 1) := by decide +kernel
theorem dw_521 : decode code 521 = .ok (.iaload, 1) := by decide +kernel
theorem dw_522 : decode code 522 = .ok (.invokevirtual 72, 3) := by decide +kernel
theorem dw_525 : decode code 525 = .ok (.if_icmp .eq 394, 3) := by decide +kernel
theorem dw_528 : decode code 528 = .ok (.iconst 0, 1) := by decide +kernel
theorem dw_529 : decode code 529 = .ok (.ireturn, 1) := by decide +kernel
theorem dw_530 : decode code 530 = .ok (.aload_n 1, 1) := by decide +kernel
theorem dw_531 : decode code 531 = .ok (.invokevirtual 73, 3) := by decide +kernel
theorem dw_534 : decode code 534 = .ok (.aload_n 2, 1) := by decide +kernel
theorem dw_535 : decode code 535 = .ok (.invokevirtual 76, 3) := by decide +kernel
theorem dw_538 : decode code 538 = .ok (.if_icmp .eq 381, 3) := by decide +kernel
theorem dw_541 : decode code 541 = .ok (.iconst 0, 1) := by decide +kernel
theorem dw_542 : decode code 542 = .ok (.ireturn, 1) := by decide +kernel
theorem dw_543 : decode code 543 = .ok (.aload_n 1, 1) := by decide +kernel
theorem dw_544 : decode code 544 = .ok (.aload_n 0, 1) := by decide +kernel
theorem dw_545 : decode code 545 = .ok (.iload_n 3, 1) := by decide +kernel
theorem dw_546 : decode code 546 = .ok (.iconst 1, 1) := by decide +kernel
theorem dw_547 : decode code 547 = .ok (.iadd, 1) := by decide +kernel
theorem dw_548 : decode code 548 = .ok (.iaload, 1) := by decide +kernel
theorem dw_549 : decode code 549 = .ok (.aload_n 0, 1) := by decide +kernel
theorem dw_550 : decode code 550 = .ok (.iload_n 3, 1) := by decide +kernel
theorem dw_551 : decode code 551 = .ok (.iconst 2, 1) := by decide +kernel
theorem dw_552 : decode code 552 = .ok (.iadd, 1) := by decide +kernel
theorem dw_553 : decode code 553 = .ok (.iaload, 1) := by decide +kernel
theorem dw_554 : decode code 554 = .ok (.invokevirtual 77, 3) := by decide +kernel
theorem dw_557 : decode code 557 = .ok (.aload_n 2, 1) := by decide +kernel
theorem dw_558 : decode code 558 = .ok (.aload_n 0, 1) := by decide +kernel
theorem dw_559 : decode code 559 = .ok (.iload_n 3, 1) := by decide +kernel
theorem dw_560 : decode code 560 = .ok (.iconst 1, 1) := by decide +kernel
theorem dw_561 : decode code 561 = .ok (.iadd, 1) := by decide +kernel
theorem dw_562 : decode code 562 = .ok (.iaload, 1) := by decide +kernel
theorem dw_563 : decode code 563 = .ok (.aload_n 0, 1) := by decide +kernel
theorem dw_564 : decode code 564 = .ok (.iload_n 3, 1) := by decide +kernel
theorem dw_565 : decode code 565 = .ok (.iconst 2, 1) := by decide +kernel
theorem dw_566 : decode code 566 = .ok (.iadd, 1) := by decide +kernel
theorem dw_567 : decode code 567 = .ok (.iaload, 1) := by decide +kernel
theorem dw_568 : decode code 568 = .ok (.invokevirtual 80, 3) := by decide +kernel
theorem dw_571 : decode code 571 = .ok (.if_icmp .eq 348, 3) := by decide +kernel
theorem dw_574 : decode code 574 = .ok (.iconst 0, 1) := by decide +kernel
theorem dw_575 : decode code 575 = .ok (.ireturn, 1) := by decide +kernel
theorem dw_576 : decode code 576 = .ok (.aload_n 1, 1) := by decide +kernel
theorem dw_577 : decode code 577 = .ok (.aload_n 0, 1) := by decide +kernel
theorem dw_578 : decode code 578 = .ok (.iload_n 3, 1) := by decide +kernel
theorem dw_579 : decode code 579 = .ok (.iconst 1, 1) := by decide +kernel
theorem dw_580 : decode code 580 = .ok (.iadd, 1) := by decide +kernel
theorem dw_581 : decode code 581 = .ok (.iaload, 1) := by decide +kernel
theorem dw_582 : decode code 582 = .ok (.aload_n 0, 1) := by decide +kernel
theorem dw_583 : decode code 583 = .ok (.iload_n 3, 1) := by decide +kernel
theorem dw_584 : decode code 584 = .ok (.iconst 2, 1) := by decide +kernel
theorem dw_585 : decode code 585 = .ok (.iadd, 1) := by decide +kernel
theorem dw_586 : decode code 586 = .ok (.iaload, 1) := by decide +kernel
theorem dw_587 : decode code 587 = .ok (.invokevirtual 81, 3) := by decide +kernel
theorem dw_590 : decode code 590 = .ok (.aload_n 2, 1) := by decide +kernel
theorem dw_591 : decode code 591 = .ok (.aload_n 0, 1) := by decide +kernel
theorem dw_592 : decode code 592 = .ok (.iload_n 3, 1) := by decide +kernel
theorem dw_593 : decode code 593 = .ok (.iconst 1, 1) := by decide +kernel
theorem dw_594 : decode code 594 = .ok (.iadd, 1) := by decide +kernel
theorem dw_595 : decode code 595 = .ok (.iaload, 1) := by decide +kernel
theorem dw_596 : decode code 596 = .ok (.aload_n 0, 1) := by decide +kernel
theorem dw_597 : decode code 597 = .ok (.iload_n 3, 1) := by decide +kernel
theorem dw_598 : decode code 598 = .ok (.iconst 2, 1) := by decide +kernel
theorem dw_599 : decode code 599 = .ok (.iadd, 1) := by decide +kernel
theorem dw_600 : decode code 600 = .ok (.iaload, 1) := by decide +kernel
theorem dw_601 : decode code 601 = .ok (.invokevirtual 84, 3) := by decide +kernel
theorem dw_604 : decode code 604 = .ok (.if_icmp .eq 315, 3) := by decide +kernel
theorem dw_607 : decode code 607 = .ok (.iconst 0, 1) := by decide +kernel
theorem dw_608 : decode code 608 = .ok (.ireturn, 1) := by decide +kernel
theorem dw_609 : decode code 609 = .ok (.aload_n 1, 1) := by decide +kernel
theorem dw_610 : decode code 610 = .ok (.aload_n 0, 1) := by decide +kernel
theorem dw_611 : decode code 611 = .ok (.iload_n 3, 1) := by decide +kernel
theorem dw_612 : decode code 612 = .ok (.iconst 1, 1) := by decide +kernel
theorem dw_613 : decode code 613 = .ok (.iadd, 1) := by decide +kernel
theorem dw_614 : decode code 614 = .ok (.iaload, 1) := by decide +kernel
theorem dw_615 : decode code 615 = .ok (.aload_n 0, 1) := by decide +kernel
theorem dw_616 : decode code 616 = .ok (.iload_n 3, 1) := by decide +kernel
theorem dw_617 : decode code 617 = .ok (.iconst 2, 1) := by decide +kernel
theorem dw_618 : decode code 618 = .ok (.iadd, 1) := by decide +kernel
theorem dw_619 : decode code 619 = .ok (.iaload, 1) := by decide +kernel
theorem dw_620 : decode code 620 = .ok (.invokevirtual 85, 3) := by decide +kernel
theorem dw_623 : decode code 623 = .ok (.aload_n 2, 1) := by decide +kernel
theorem dw_624 : decode code 624 = .ok (.aload_n 0, 1) := by decide +kernel
theorem dw_625 : decode code 625 = .ok (.iload_n 3, 1) := by decide +kernel
theorem dw_626 : decode code 626 = .ok (.iconst 1, 1) := by decide +kernel
theorem dw_627 : decode code 627 = .ok (.iadd, 1) := by decide +kernel
theorem dw_628 : decode code 628 = .ok (.iaload, 1) := by decide +kernel
theorem dw_629 : decode code 629 = .ok (.aload_n 0, 1) := by decide +kernel
theorem dw_630 : decode code 630 = .ok (.iload_n 3, 1) := by decide +kernel
theorem dw_631 : decode code 631 = .ok (.iconst 2, 1) := by decide +kernel
theorem dw_632 : decode code 632 = .ok (.iadd, 1) := by decide +kernel
theorem dw_633 : decode code 633 = .ok (.iaload, 1) := by decide +kernel
theorem dw_634 : decode code 634 = .ok (.invokevirtual 88, 3) := by decide +kernel
theorem dw_637 : decode code 637 = .ok (.if_icmp .eq 282, 3) := by decide +kernel
theorem dw_640 : decode code 640 = .ok (.iconst 0, 1) := by decide +kernel
theorem dw_641 : decode code 641 = .ok (.ireturn, 1) := by decide +kernel
theorem dw_642 : decode code 642 = .ok (.aload_n 1, 1) := by decide +kernel
theorem dw_643 : decode code 643 = .ok (.aload_n 0, 1) := by decide +kernel
theorem dw_644 : decode code 644 = .ok (.iload_n 3, 1) := by decide +kernel
theorem dw_645 : decode code 645 = .ok (.iconst 1, 1) := by decide +kernel
theorem dw_646 : decode code 646 = .ok (.iadd, 1) := by decide +kernel
theorem dw_647 : decode code 647 = .ok (.iaload, 1) := by decide +kernel
theorem dw_648 : decode code 648 = .ok (.aload_n 0, 1) := by decide +kernel
theorem dw_649 : decode code 649 = .ok (.iload_n 3, 1) := by decide +kernel
theorem dw_650 : decode code 650 = .ok (.iconst 2, 1) := by decide +kernel
theorem dw_651 : decode code 651 = .ok (.iadd, 1) := by decide +kernel
theorem dw_652 : decode code 652 = .ok (.iaload, 1) := by decide +kernel
theorem dw_653 : decode code 653 = .ok (.invokevirtual 89, 3) := by decide +kernel
theorem dw_656 : decode code 656 = .ok (.aload_n 2, 1) := by decide +kernel
theorem dw_657 : decode code 657 = .ok (.aload_n 0, 1) := by decide +kernel
theorem dw_658 : decode code 658 = .ok (.iload_n 3, 1) := by decide +kernel
theorem dw_659 : decode code 659 = .ok (.iconst 1, 1) := by decide +kernel
theorem dw_660 : decode code 660 = .ok (.iadd, 1) := by decide +kernel
theorem dw_661 : decode code 661 = .ok (.iaload, 1) := by decide +kernel
theorem dw_662 : decode code 662 = .ok (.aload_n 0, 1) := by decide +kernel
theorem dw_663 : decode code 663 = .ok (.iload_n 3, 1) := by decide +kernel
theorem dw_664 : decode code 664 = .ok (.iconst 2, 1) := by decide +kernel
theorem dw_665 : decode code 665 = .ok (.iadd, 1) := by decide +kernel
theorem dw_666 : decode code 666 = .ok (.iaload, 1) := by decide +kernel
theorem dw_667 : decode code 667 = .ok (.invokevirtual 92, 3) := by decide +kernel
theorem dw_670 : decode code 670 = .ok (.if_icmp .eq 249, 3) := by decide +kernel
theorem dw_673 : decode code 673 = .ok (.iconst 0, 1) := by decide +kernel
theorem dw_674 : decode code 674 = .ok (.ireturn, 1) := by decide +kernel
theorem dw_675 : decode code 675 = .ok (.aload_n 1, 1) := by decide +kernel
theorem dw_676 : decode code 676 = .ok (.aload_n 0, 1) := by decide +kernel
theorem dw_677 : decode code 677 = .ok (.iload_n 3, 1) := by decide +kernel
theorem dw_678 : decode code 678 = .ok (.iconst 1, 1) := by decide +kernel
theorem dw_679 : decode code 679 = .ok (.iadd, 1) := by decide +kernel
theorem dw_680 : decode code 680 = .ok (.iaload, 1) := by decide +kernel
theorem dw_681 : decode code 681 = .ok (.aload_n 0, 1) := by decide +kernel
theorem dw_682 : decode code 682 = .ok (.iload_n 3, 1) := by decide +kernel
theorem dw_683 : decode code 683 = .ok (.iconst 2, 1) := by decide +kernel
theorem dw_684 : decode code 684 = .ok (.iadd, 1) := by decide +kernel
theorem dw_685 : decode code 685 = .ok (.iaload, 1) := by decide +kernel
theorem dw_686 : decode code 686 = .ok (.aload_n 0, 1) := by decide +kernel
theorem dw_687 : decode code 687 = .ok (.iload_n 3, 1) := by decide +kernel
theorem dw_688 : decode code 688 = .ok (.iconst 3, 1) := by decide +kernel
theorem dw_689 : decode code 689 = .ok (.iadd, 1) := by decide +kernel
theorem dw_690 : decode code 690 = .ok (.iaload, 1) := by decide +kernel
theorem dw_691 : decode code 691 = .ok (.invokevirtual 93, 3) := by decide +kernel
theorem dw_694 : decode code 694 = .ok (.aload_n 2, 1) := by decide +kernel
theorem dw_695 : decode code 695 = .ok (.aload_n 0, 1) := by decide +kernel
theorem dw_696 : decode code 696 = .ok (.iload_n 3, 1) := by decide +kernel
theorem dw_697 : decode code 697 = .ok (.iconst 1, 1) := by decide +kernel
theorem dw_698 : decode code 698 = .ok (.iadd, 1) := by decide +kernel
theorem dw_699 : decode code 699 = .ok (.iaload, 1) := by decide +kernel
theorem dw_700 : decode code 700 = .ok (.aload_n 0, 1) := by decide +kernel
theorem dw_701 : decode code 701 = .ok (.iload_n 3, 1) := by decide +kernel
theorem dw_702 : decode code 702 = .ok (.iconst 2, 1) := by decide +kernel
theorem dw_703 : decode code 703 = .ok (.iadd, 1) := by decide +kernel
theorem dw_704 : decode code 704 = .ok (.iaload, 1) := by decide +kernel
theorem dw_705 : decode code 705 = .ok (.aload_n 0, 1) := by decide +kernel
theorem dw_706 : decode code 706 = .ok (.iload_n 3, 1) := by decide +kernel
theorem dw_707 : decode code 707 = .ok (.iconst 3, 1) := by decide +kernel
theorem dw_708 : decode code 708 = .ok (.iadd, 1) := by decide +kernel
theorem dw_709 : decode code 709 = .ok (.iaload, 1) := by decide +kernel
theorem dw_710 : decode code 710 = .ok (.invokevirtual 96, 3) := by decide +kernel
theorem dw_713 : decode code 713 = .ok (.if_icmp .eq 206, 3) := by decide +kernel
theorem dw_716 : decode code 716 = .ok (.iconst 0, 1) := by decide +kernel
theorem dw_717 : decode code 717 = .ok (.ireturn, 1) := by decide +kernel
theorem dw_718 : decode code 718 = .ok (.aload_n 1, 1) := by decide +kernel
theorem dw_719 : decode code 719 = .ok (.aload_n 0, 1) := by decide +kernel
theorem dw_720 : decode code 720 = .ok (.iload_n 3, 1) := by decide +kernel
theorem dw_721 : decode code 721 = .ok (.iconst 1, 1) := by decide +kernel
theorem dw_722 : decode code 722 = .ok (.iadd, 1) := by decide +kernel
theorem dw_723 : decode code 723 = .ok (.iaload, 1) := by decide +kernel
theorem dw_724 : decode code 724 = .ok (.aload_n 0, 1) := by decide +kernel
theorem dw_725 : decode code 725 = .ok (.iload_n 3, 1) := by decide +kernel
theorem dw_726 : decode code 726 = .ok (.iconst 2, 1) := by decide +kernel
theorem dw_727 : decode code 727 = .ok (.iadd, 1) := by decide +kernel
theorem dw_728 : decode code 728 = .ok (.iaload, 1) := by decide +kernel
theorem dw_729 : decode code 729 = .ok (.invokevirtual 97, 3) := by decide +kernel
theorem dw_732 : decode code 732 = .ok (.aload_n 2, 1) := by decide +kernel
theorem dw_733 : decode code 733 = .ok (.aload_n 0, 1) := by decide +kernel
theorem dw_734 : decode code 734 = .ok (.iload_n 3, 1) := by decide +kernel
theorem dw_735 : decode code 735 = .ok (.iconst 1, 1) := by decide +kernel
theorem dw_736 : decode code 736 = .ok (.iadd, 1) := by decide +kernel
theorem dw_737 : decode code 737 = .ok (.iaload, 1) := by decide +kernel
theorem dw_738 : decode code 738 = .ok (.aload_n 0, 1) := by decide +kernel
theorem dw_739 : decode code 739 = .ok (.iload_n 3, 1) := by decide +kernel
theorem dw_740 : decode code 740 = .ok (.iconst 2, 1) := by decide +kernel
theorem dw_741 : decode code 741 = .ok (.iadd, 1) := by decide +kernel
theorem dw_742 : decode code 742 = .ok (.iaload, 1) := by decide +kernel
theorem dw_743 : decode code 743 = .ok (.invokevirtual 100, 3) := by decide +kernel
theorem dw_746 : decode code 746 = .ok (.if_icmp .eq 173, 3) := by decide +kernel
theorem dw_749 : decode code 749 = .ok (.iconst 0, 1) := by decide +kernel
theorem dw_750 : decode code 750 = .ok (.ireturn, 1) := by decide +kernel
theorem dw_751 : decode code 751 = .ok (.aload_n 1, 1) := by decide +kernel
theorem dw_752 : decode code 752 = .ok (.aload_n 0, 1) := by decide +kernel
theorem dw_753 : decode code 753 = .ok (.iload_n 3, 1) := by decide +kernel
theorem dw_754 : decode code 754 = .ok (.iconst 1, 1) := by decide +kernel
theorem dw_755 : decode code 755 = .ok (.iadd, 1) := by decide +kernel
theorem dw_756 : decode code 756 = .ok (.iaload, 1) := by decide +kernel
theorem dw_757 : decode code 757 = .ok (.aload_n 0, 1) := by decide +kernel
theorem dw_758 : decode code 758 = .ok (.iload_n 3, 1) := by decide +kernel
theorem dw_759 : decode code 759 = .ok (.iconst 2, 1) := by decide +kernel
theorem dw_760 : decode code 760 = .ok (.iadd, 1) := by decide +kernel
theorem dw_761 : decode code 761 = .ok (.iaload, 1) := by decide +kernel
theorem dw_762 : decode code 762 = .ok (.invokevirtual 101, 3) := by decide +kernel
theorem dw_765 : decode code 765 = .ok (.aload_n 2, 1) := by decide +kernel
theorem dw_766 : decode code 766 = .ok (.aload_n 0, 1) := by decide +kernel
theorem dw_767 : decode code 767 = .ok (.iload_n 3, 1) := by decide +kernel
theorem dw_768 : decode code 768 = .ok (.iconst 1, 1) := by decide +kernel
theorem dw_769 : decode code 769 = .ok (.iadd, 1) := by decide +kernel
theorem dw_770 : decode code 770 = .ok (.iaload, 1) := by decide +kernel
theorem dw_771 : decode code 771 = .ok (.aload_n 0, 1) := by decide +kernel
theorem dw_772 : decode code 772 = .ok (.iload_n 3, 1) := by decide +kernel
theorem dw_773 : decode code 773 = .ok (.iconst 2, 1) := by decide +kernel
theorem dw_774 : decode code 774 = .ok (.iadd, 1) := by decide +kernel
theorem dw_775 : decode code 775 = .ok (.iaload, 1) := by decide +kernel
theorem dw_776 : decode code 776 = .ok (.invokevirtual 104, 3) := by decide +kernel
theorem dw_779 : decode code 779 = .ok (.if_icmp .eq 140, 3) := by decide +kernel
theorem dw_782 : decode code 782 = .ok (.iconst 0, 1) := by decide +kernel
theorem dw_783 : decode code 783 = .ok (.ireturn, 1) := by decide +kernel
theorem dw_784 : decode code 784 = .ok (.aload_n 1, 1) := by decide +kernel
theorem dw_785 : decode code 785 = .ok (.aload_n 0, 1) := by decide +kernel
theorem dw_786 : decode code 786 = .ok (.iload_n 3, 1) := by decide +kernel
theorem dw_787 : decode code 787 = .ok (.iconst 1, 1) := by decide +kernel
theorem dw_788 : decode code 788 = .ok (.iadd, 1) := by decide +kernel
theorem dw_789 : decode code 789 = .ok (.iaload, 1) := by decide +kernel
theorem dw_790 : decode code 790 = .ok (.invokevirtual 105, 3) := by decide +kernel
theorem dw_793 : decode code 793 = .ok (.aload_n 2, 1) := by decide +kernel
theorem dw_794 : decode code 794 = .ok (.aload_n 0, 1) := by decide +kernel
theorem dw_795 : decode code 795 = .ok (.iload_n 3, 1) := by decide +kernel
theorem dw_796 : decode code 796 = .ok (.iconst 1, 1) := by decide +kernel
theorem dw_797 : decode code 797 = .ok (.iadd, 1) := by decide +kernel
theorem dw_798 : decode code 798 = .ok (.iaload, 1) := by decide +kernel
theorem dw_799 : decode code 799 = .ok (.invokevirtual 108, 3) := by decide +kernel
theorem dw_802 : decode code 802 = .ok (.if_icmp .eq 117, 3) := by decide +kernel
theorem dw_805 : decode code 805 = .ok (.iconst 0, 1) := by decide +kernel
theorem dw_806 : decode code 806 = .ok (.ireturn, 1) := by decide +kernel
theorem dw_807 : decode code 807 = .ok (.aload_n 1, 1) := by decide +kernel
theorem dw_808 : decode code 808 = .ok (.aload_n 0, 1) := by decide +kernel
theorem dw_809 : decode code 809 = .ok (.iload_n 3, 1) := by decide +kernel
theorem dw_810 : decode code 810 = .ok (.iconst 1, 1) := by decide +kernel
theorem dw_811 : decode code 811 = .ok (.iadd, 1) := by decide +kernel
theorem dw_812 : decode code 812 = .ok (.iaload, 1) := by decide +kernel
theorem dw_813 : decode code 813 = .ok (.invokevirtual 109, 3) := by decide +kernel
theorem dw_816 : decode code 816 = .ok (.aload_n 2, 1) := by decide +kernel
theorem dw_817 : decode code 817 = .ok (.aload_n 0, 1) := by decide +kernel
theorem dw_818 : decode code 818 = .ok (.iload_n 3, 1) := by decide +kernel
theorem dw_819 : decode code 819 = .ok (.iconst 1, 1) := by decide +kernel
theorem dw_820 : decode code 820 = .ok (.iadd, 1) := by decide +kernel
theorem dw_821 : decode code 821 = .ok (.iaload, 1) := by decide +kernel
theorem dw_822 : decode code 822 = .ok (.invokevirtual 112, 3) := by decide +kernel
theorem dw_825 : decode code 825 = .ok (.if_icmp .eq 94, 3) := by decide +kernel
theorem dw_828 : decode code 828 = .ok (.iconst 0, 1) := by decide +kernel
theorem dw_829 : decode code 829 = .ok (.ireturn, 1) := by decide +kernel
theorem dw_830 : decode code 830 = .ok (.aload_n 1, 1) := by decide +kernel
theorem dw_831 : decode code 831 = .ok (.invokevirtual 113, 3) := by decide +kernel
theorem dw_834 : decode code 834 = .ok (.aload_n 2, 1) := by decide +kernel
theorem dw_835 : decode code 835 = .ok (.invokevirtual 116, 3) := by decide +kernel
theorem dw_838 : decode code 838 = .ok (.if_icmp .eq 81, 3) := by decide +kernel
theorem dw_841 : decode code 841 = .ok (.iconst 0, 1) := by decide +kernel
theorem dw_842 : decode code 842 = .ok (.ireturn, 1) := by decide +kernel
theorem dw_843 : decode code 843 = .ok (.aload_n 1, 1) := by decide +kernel
theorem dw_844 : decode code 844 = .ok (.invokevirtual 117, 3) := by decide +kernel
theorem dw_847 : decode code 847 = .ok (.aload_n 2, 1) := by decide +kernel
theorem dw_848 : decode code 848 = .ok (.invokevirtual 120, 3) := by decide +kernel
theorem dw_851 : decode code 851 = .ok (.if_icmp .eq 68, 3) := by decide +kernel
theorem dw_854 : decode code 854 = .ok (.iconst 0, 1) := by decide +kernel
theorem dw_855 : decode code 855 = .ok (.ireturn, 1) := by decide +kernel
theorem dw_856 : decode code 856 = .ok (.aload_n 1, 1) := by decide +kernel
theorem dw_857 : decode code 857 = .ok (.invokevirtual 121, 3) := by decide +kernel
theorem dw_860 : decode code 860 = .ok (.aload_n 2, 1) := by decide +kernel
theorem dw_861 : decode code 861 = .ok (.invokevirtual 124, 3) := by decide +kernel
theorem dw_864 : decode code 864 = .ok (.if_icmp .eq 55, 3) := by decide +kernel
theorem dw_867 : decode code 867 = .ok (.iconst 0, 1) := by decide +kernel
theorem dw_868 : decode code 868 = .ok (.ireturn, 1) := by decide +kernel
theorem dw_869 : decode code 869 = .ok (.aload_n 1, 1) := by decide +kernel
theorem dw_870 : decode code 870 = .ok (.aload_n 0, 1) := by decide +kernel
theorem dw_871 : decode code 871 = .ok (.iload_n 3, 1) := by decide +kernel
theorem dw_872 : decode code 872 = .ok (.iconst 1, 1) := by decide +kernel
theorem dw_873 : decode code 873 = .ok (.iadd, 1) := by decide +kernel
theorem dw_874 : decode code 874 = .ok (.iaload, 1) := by decide +kernel
theorem dw_875 : decode code 875 = .ok (.invokevirtual 125, 3) := by decide +kernel
theorem dw_878 : decode code 878 = .ok (.aload_n 2, 1) := by decide +kernel
theorem dw_879 : decode code 879 = .ok (.aload_n 0, 1) := by decide +kernel
theorem dw_880 : decode code 880 = .ok (.iload_n 3, 1) := by decide +kernel
theorem dw_881 : decode code 881 = .ok (.iconst 1, 1) := by decide +kernel
theorem dw_882 : decode code 882 = .ok (.iadd, 1) := by decide +kernel
theorem dw_883 : decode code 883 = .ok (.iaload, 1) := by decide +kernel
theorem dw_884 : decode code 884 = .ok (.invokevirtual 128, 3) := by decide +kernel
theorem dw_887 : decode code 887 = .ok (.if_icmp .eq 32, 3) := by decide +kernel
theorem dw_890 : decode code 890 = .ok (.iconst 0, 1) := by decide +kernel
theorem dw_891 : decode code 891 = .ok (.ireturn, 1) := by decide +kernel
theorem dw_892 : decode code 892 = .ok (.aload_n 1, 1) := by decide +kernel
theorem dw_893 : decode code 893 = .ok (.invokevirtual 129, 3) := by decide +kernel
theorem dw_896 : decode code 896 = .ok (.aload_n 2, 1) := by decide +kernel
theorem dw_897 : decode code 897 = .ok (.invokevirtual 132, 3) := by decide +kernel
theorem dw_900 : decode code 900 = .ok (.if_icmp .eq 19, 3) := by decide +kernel
theorem dw_903 : decode code 903 = .ok (.iconst 0, 1) := by decide +kernel
theorem dw_904 : decode code 904 = .ok (.ireturn, 1) := by decide +kernel
theorem dw_905 : decode code 905 = .ok (.aload_n 1, 1) := by decide +kernel
theorem dw_906 : decode code 906 = .ok (.invokevirtual 133, 3) := by decide +kernel
theorem dw_909 : decode code 909 = .ok (.aload_n 2, 1) := by decide +kernel
theorem dw_910 : decode code 910 = .ok (.invokevirtual 137, 3) := by decide +kernel
theorem dw_913 : decode code 913 = .ok (.lcmp, 1) := by decide +kernel
theorem dw_914 : decode code 914 = .ok (.ifCond .eq 5, 3) := by decide +kernel
theorem dw_917 : decode code 917 = .ok (.iconst 0, 1) := by decide +kernel
theorem dw_918 : decode code 918 = .ok (.ireturn, 1) := by decide +kernel
theorem dw_919 : decode code 919 = .ok (.iinc 3 4, 3) := by decide +kernel
theorem dw_922 : decode code 922 = .ok (.goto (-904), 3) := by decide +kernel
theorem dw_925 : decode code 925 = .ok (.iconst 1, 1) := by decide +kernel
theorem dw_926 : decode code 926 = .ok (.ireturn, 1) := by decide +kernel
theorem pens.cl {h : g_H} {P : Nat} {W : Wd} (q : pens h P W) : ∃ fs, h[P]? = some (ob 6 fs) := by
  obtain ⟨σ, q⟩ := q
  exact ⟨_, q.1⟩
theorem mrep.cl {h : g_H} {M : Nat} {W : Wd} (q : mrep h M W) : ∃ fs, h[M]? = some (ob 7 fs) := by
  obtain ⟨r, A, q, -⟩ := q
  exact ⟨_, q.1⟩
section LWC
variable {p : Program} {l : Launch} {e : Env} {s : State} {m : MethodId} {below : List Frame} {meth : Method} {c : Code} {H : Heap} {locs : List Loc} {ls : Array Slot} {b L i : Nat} {xs : Nat → Int32} {D : va_G} {cA : Nat → ClassId} {h : g_H} {Wo : Wd}
set_option maxHeartbeats 4000000 in
set_option maxRecDepth 100000 in
theorem law_c0 (C0 : lw_At p s m meth c b L xs) (hts : ∀ w ∈ lw_gd, w.before #[Value.ref b] s = true) (hKk : g_KK D cA s) (hL : L ≤ 2048) (hi : i + 4 ≤ L) (w : wfW Wo) (hp : pens h 0 Wo) (hm : mrep h 208 Wo) (hH : g_RH s.heap.size D cA h H) (hS : va_S (g_A s.heap.size) s.heap H locs) (hl : lv_has ls 4 [(0, .ref b), (1, .ref (s.heap.size + 0)), (2, .ref (s.heap.size + 208)), (3, .int (nI i))])
    (K : ∀ (W' : Wd) (h' : g_H) (H' : Heap) (locs' : List Loc), wfW W' → pens h' 0 W' → mrep h' 208 W' → g_RH s.heap.size D cA h' H' → va_S (g_A s.heap.size) s.heap H' locs' → W p l e room_1 s m #[Value.ref b] below meth c H' locs' 218 6435 (lw_Z below #[Value.ref b] s) (F0 m 919 ls [])) : W p l e room_1 s m #[Value.ref b] below meth c H locs 218 6435 (lw_Z below #[Value.ref b] s) (F0 m 168 ls []) := by
  obtain ⟨hx, hb, hr, hml, hown, ht0, hX, hbl, hlk, hgv⟩ := id C0
  obtain ⟨fsx, hcx⟩ := hp.cl
  refine lv_aload_n hx hb dw_168 rfl (lv_at hl 1 rfl) ?_
  refine lw_rd hx hb hX hbl hL hS hl 1 (by omega) rfl dw_169 dw_170 dw_171 dw_172 dw_173 ?_
  refine lw_rd hx hb hX hbl hL hS hl 2 (by omega) rfl dw_174 dw_175 dw_176 dw_177 dw_178 ?_
  refine lw_virt (k' := Pens_down) (ci := 6) (a3 := 1174) (a := 0) (v := 2) (As := [.int (I (xs (i + 1)).toInt), .int (I (xs (i + 2)).toInt)]) (r := []) hx hb hml hts hown hKk hH hS hl.1 (by decide) (by decide) (by decide +kernel) rfl (Nat.le_of_ble_eq_true rfl) hcx dw_179 ?_
  refine Pens_down_c (by omega) w hp (lw_i32 _) (lw_i32 _) (fun h1 c1 p1 H1 l1 hH1 hS1 => ?_)
  have m1 := hm.kp c1 (by omega)
  obtain ⟨fs1, hcm1⟩ := m1.cl
  refine lv_aload_n hx hb dw_182 rfl (lv_at hl 2 rfl) ?_
  refine lw_rd hx hb hX hbl hL hS1 hl 1 (by omega) rfl dw_183 dw_184 dw_185 dw_186 dw_187 ?_
  refine lw_rd hx hb hX hbl hL hS1 hl 2 (by omega) rfl dw_188 dw_189 dw_190 dw_191 dw_192 ?_
  refine lw_virt (k' := Model_down) (ci := 7) (a3 := 3209) (a := 208) (v := 2) (As := [.int (I (xs (i + 1)).toInt), .int (I (xs (i + 2)).toInt)]) (r := [.int (I (sp_down Wo (xs (i + 1)).toInt (xs (i + 2)).toInt).1)]) hx hb hml hts hown hKk hH1 hS1 hl.1 (by decide) (by decide) (by decide +kernel) rfl (Nat.le_of_ble_eq_true rfl) hcm1 dw_193 ?_
  refine Mdl_down_c (by omega) w m1 (lw_i32 _) (lw_i32 _) (fun h2 c2 m2 H2 l2 hH2 hS2 => ?_)
  refine lv_icmp_eq (tgt := 919) hx hb dw_196 (by decide) (fun _ => ?_) (fun q => absurd rfl q)
  exact K (sp_down Wo (xs (i + 1)).toInt (xs (i + 2)).toInt).2 h2 H2 l2 (kp_down w _ _) (p1.kp c2 (by omega)) m2 hH2 hS2
set_option maxHeartbeats 4000000 in
set_option maxRecDepth 100000 in
theorem law_c1 (C0 : lw_At p s m meth c b L xs) (hts : ∀ w ∈ lw_gd, w.before #[Value.ref b] s = true) (hKk : g_KK D cA s) (hL : L ≤ 2048) (hi : i + 4 ≤ L) (w : wfW Wo) (hp : pens h 0 Wo) (hm : mrep h 208 Wo) (hH : g_RH s.heap.size D cA h H) (hS : va_S (g_A s.heap.size) s.heap H locs) (hl : lv_has ls 4 [(0, .ref b), (1, .ref (s.heap.size + 0)), (2, .ref (s.heap.size + 208)), (3, .int (nI i))])
    (K : ∀ (W' : Wd) (h' : g_H) (H' : Heap) (locs' : List Loc), wfW W' → pens h' 0 W' → mrep h' 208 W' → g_RH s.heap.size D cA h' H' → va_S (g_A s.heap.size) s.heap H' locs' → W p l e room_1 s m #[Value.ref b] below meth c H' locs' 218 6435 (lw_Z below #[Value.ref b] s) (F0 m 919 ls [])) : W p l e room_1 s m #[Value.ref b] below meth c H locs 218 6435 (lw_Z below #[Value.ref b] s) (F0 m 201 ls []) := by
  obtain ⟨hx, hb, hr, hml, hown, ht0, hX, hbl, hlk, hgv⟩ := id C0
  obtain ⟨fsx, hcx⟩ := hp.cl
  refine lv_aload_n hx hb dw_201 rfl (lv_at hl 1 rfl) ?_
  refine lw_rd hx hb hX hbl hL hS hl 1 (by omega) rfl dw_202 dw_203 dw_204 dw_205 dw_206 ?_
  refine lw_rd hx hb hX hbl hL hS hl 2 (by omega) rfl dw_207 dw_208 dw_209 dw_210 dw_211 ?_
  refine lw_virt (k' := Pens_draw) (ci := 6) (a3 := 1220) (a := 0) (v := 2) (As := [.int (I (xs (i + 1)).toInt), .int (I (xs (i + 2)).toInt)]) (r := []) hx hb hml hts hown hKk hH hS hl.1 (by decide) (by decide) (by decide +kernel) rfl (Nat.le_of_ble_eq_true rfl) hcx dw_212 ?_
  refine Pens_draw_c (by omega) w hp (lw_i32 _) (lw_i32 _) (fun h1 c1 p1 H1 l1 hH1 hS1 => ?_)
  have m1 := hm.kp c1 (by omega)
  obtain ⟨fs1, hcm1⟩ := m1.cl
  refine lv_aload_n hx hb dw_215 rfl (lv_at hl 2 rfl) ?_
  refine lw_rd hx hb hX hbl hL hS1 hl 1 (by omega) rfl dw_216 dw_217 dw_218 dw_219 dw_220 ?_
  refine lw_rd hx hb hX hbl hL hS1 hl 2 (by omega) rfl dw_221 dw_222 dw_223 dw_224 dw_225 ?_
  refine lw_virt (k' := Model_draw) (ci := 7) (a3 := 3232) (a := 208) (v := 2) (As := [.int (I (xs (i + 1)).toInt), .int (I (xs (i + 2)).toInt)]) (r := [.int (I (sp_draw Wo (xs (i + 1)).toInt (xs (i + 2)).toInt).1)]) hx hb hml hts hown hKk hH1 hS1 hl.1 (by decide) (by decide) (by decide +kernel) rfl (Nat.le_of_ble_eq_true rfl) hcm1 dw_226 ?_
  refine Mdl_draw_c (by omega) w m1 (lw_i32 _) (lw_i32 _) (fun h2 c2 m2 H2 l2 hH2 hS2 => ?_)
  refine lv_icmp_eq (tgt := 919) hx hb dw_229 (by decide) (fun _ => ?_) (fun q => absurd rfl q)
  exact K (sp_draw Wo (xs (i + 1)).toInt (xs (i + 2)).toInt).2 h2 H2 l2 (kp_draw w _ _) (p1.kp c2 (by omega)) m2 hH2 hS2
set_option maxHeartbeats 4000000 in
set_option maxRecDepth 100000 in
theorem law_c2 (C0 : lw_At p s m meth c b L xs) (hts : ∀ w ∈ lw_gd, w.before #[Value.ref b] s = true) (hKk : g_KK D cA s) (hL : L ≤ 2048) (hi : i + 4 ≤ L) (w : wfW Wo) (hp : pens h 0 Wo) (hm : mrep h 208 Wo) (hH : g_RH s.heap.size D cA h H) (hS : va_S (g_A s.heap.size) s.heap H locs) (hl : lv_has ls 4 [(0, .ref b), (1, .ref (s.heap.size + 0)), (2, .ref (s.heap.size + 208)), (3, .int (nI i))])
    (K : ∀ (W' : Wd) (h' : g_H) (H' : Heap) (locs' : List Loc), wfW W' → pens h' 0 W' → mrep h' 208 W' → g_RH s.heap.size D cA h' H' → va_S (g_A s.heap.size) s.heap H' locs' → W p l e room_1 s m #[Value.ref b] below meth c H' locs' 218 6435 (lw_Z below #[Value.ref b] s) (F0 m 919 ls [])) : W p l e room_1 s m #[Value.ref b] below meth c H locs 218 6435 (lw_Z below #[Value.ref b] s) (F0 m 234 ls []) := by
  obtain ⟨hx, hb, hr, hml, hown, ht0, hX, hbl, hlk, hgv⟩ := id C0
  obtain ⟨fsx, hcx⟩ := hp.cl
  refine lv_aload_n hx hb dw_234 rfl (lv_at hl 1 rfl) ?_
  refine lw_virt (k' := Pens_lift) (ci := 6) (a3 := 1228) (a := 0) (v := 0) (As := []) (r := []) hx hb hml hts hown hKk hH hS hl.1 (by decide) (by decide) (by decide +kernel) rfl (Nat.le_of_ble_eq_true rfl) hcx dw_235 ?_
  refine Pens_lift_c (by omega) w hp  (fun h1 c1 p1 H1 l1 hH1 hS1 => ?_)
  have m1 := hm.kp c1 (by omega)
  obtain ⟨fs1, hcm1⟩ := m1.cl
  refine lv_aload_n hx hb dw_238 rfl (lv_at hl 2 rfl) ?_
  refine lw_virt (k' := Model_lift) (ci := 7) (a3 := 3236) (a := 208) (v := 0) (As := []) (r := [.int (I (sp_lift Wo).1)]) hx hb hml hts hown hKk hH1 hS1 hl.1 (by decide) (by decide) (by decide +kernel) rfl (Nat.le_of_ble_eq_true rfl) hcm1 dw_239 ?_
  refine Mdl_lift_c (by omega) w m1  (fun h2 c2 m2 H2 l2 hH2 hS2 => ?_)
  refine lv_icmp_eq (tgt := 919) hx hb dw_242 (by decide) (fun _ => ?_) (fun q => absurd rfl q)
  exact K (sp_lift Wo).2 h2 H2 l2 (kp_lift w) (p1.kp c2 (by omega)) m2 hH2 hS2
set_option maxHeartbeats 4000000 in
set_option maxRecDepth 100000 in
theorem law_c3 (C0 : lw_At p s m meth c b L xs) (hts : ∀ w ∈ lw_gd, w.before #[Value.ref b] s = true) (hKk : g_KK D cA s) (hL : L ≤ 2048) (hi : i + 4 ≤ L) (w : wfW Wo) (hp : pens h 0 Wo) (hm : mrep h 208 Wo) (hH : g_RH s.heap.size D cA h H) (hS : va_S (g_A s.heap.size) s.heap H locs) (hl : lv_has ls 4 [(0, .ref b), (1, .ref (s.heap.size + 0)), (2, .ref (s.heap.size + 208)), (3, .int (nI i))])
    (K : ∀ (W' : Wd) (h' : g_H) (H' : Heap) (locs' : List Loc), wfW W' → pens h' 0 W' → mrep h' 208 W' → g_RH s.heap.size D cA h' H' → va_S (g_A s.heap.size) s.heap H' locs' → W p l e room_1 s m #[Value.ref b] below meth c H' locs' 218 6435 (lw_Z below #[Value.ref b] s) (F0 m 919 ls [])) : W p l e room_1 s m #[Value.ref b] below meth c H locs 218 6435 (lw_Z below #[Value.ref b] s) (F0 m 247 ls []) := by
  obtain ⟨hx, hb, hr, hml, hown, ht0, hX, hbl, hlk, hgv⟩ := id C0
  obtain ⟨fsx, hcx⟩ := hp.cl
  refine lv_aload_n hx hb dw_247 rfl (lv_at hl 1 rfl) ?_
  refine lw_virt (k' := Pens_line) (ci := 6) (a3 := 1237) (a := 0) (v := 0) (As := []) (r := []) hx hb hml hts hown hKk hH hS hl.1 (by decide) (by decide) (by decide +kernel) rfl (Nat.le_of_ble_eq_true rfl) hcx dw_248 ?_
  refine Pens_line_c hp  (fun h1 c1 p1 H1 l1 hH1 hS1 => ?_)
  have m1 := hm.kp c1 (by omega)
  obtain ⟨fs1, hcm1⟩ := m1.cl
  refine lv_aload_n hx hb dw_251 rfl (lv_at hl 2 rfl) ?_
  refine lw_virt (k' := Model_line) (ci := 7) (a3 := 4012) (a := 208) (v := 0) (As := []) (r := [.int (I (sp_line Wo).1)]) hx hb hml hts hown hKk hH1 hS1 hl.1 (by decide) (by decide) (by decide +kernel) rfl (Nat.le_of_ble_eq_true rfl) hcm1 dw_252 ?_
  refine Mdl_line_c m1  (fun h2 c2 m2 H2 l2 hH2 hS2 => ?_)
  refine lv_icmp_eq (tgt := 919) hx hb dw_255 (by decide) (fun _ => ?_) (fun q => absurd rfl q)
  exact K (sp_line Wo).2 h2 H2 l2 w (p1.kp c2 (by omega)) m2 hH2 hS2
set_option maxHeartbeats 4000000 in
set_option maxRecDepth 100000 in
theorem law_c4 (C0 : lw_At p s m meth c b L xs) (hts : ∀ w ∈ lw_gd, w.before #[Value.ref b] s = true) (hKk : g_KK D cA s) (hL : L ≤ 2048) (hi : i + 4 ≤ L) (w : wfW Wo) (hp : pens h 0 Wo) (hm : mrep h 208 Wo) (hH : g_RH s.heap.size D cA h H) (hS : va_S (g_A s.heap.size) s.heap H locs) (hl : lv_has ls 4 [(0, .ref b), (1, .ref (s.heap.size + 0)), (2, .ref (s.heap.size + 208)), (3, .int (nI i))])
    (K : ∀ (W' : Wd) (h' : g_H) (H' : Heap) (locs' : List Loc), wfW W' → pens h' 0 W' → mrep h' 208 W' → g_RH s.heap.size D cA h' H' → va_S (g_A s.heap.size) s.heap H' locs' → W p l e room_1 s m #[Value.ref b] below meth c H' locs' 218 6435 (lw_Z below #[Value.ref b] s) (F0 m 919 ls [])) : W p l e room_1 s m #[Value.ref b] below meth c H locs 218 6435 (lw_Z below #[Value.ref b] s) (F0 m 260 ls []) := by
  obtain ⟨hx, hb, hr, hml, hown, ht0, hX, hbl, hlk, hgv⟩ := id C0
  obtain ⟨fsx, hcx⟩ := hp.cl
  refine lv_aload_n hx hb dw_260 rfl (lv_at hl 1 rfl) ?_
  refine lw_rd hx hb hX hbl hL hS hl 1 (by omega) rfl dw_261 dw_262 dw_263 dw_264 dw_265 ?_
  refine lw_rd hx hb hX hbl hL hS hl 2 (by omega) rfl dw_266 dw_267 dw_268 dw_269 dw_270 ?_
  refine lw_virt (k' := Pens_simplify) (ci := 6) (a3 := 2001) (a := 0) (v := 2) (As := [.int (I (xs (i + 1)).toInt), .int (I (xs (i + 2)).toInt)]) (r := []) hx hb hml hts hown hKk hH hS hl.1 (by decide) (by decide) (by decide +kernel) rfl (Nat.le_of_ble_eq_true rfl) hcx dw_271 ?_
  refine Pens_simp_c (by omega) w hp (lw_i32 _) (lw_i32 _) (fun h1 c1 p1 H1 l1 hH1 hS1 => ?_)
  have m1 := hm.kp c1 (by omega)
  obtain ⟨fs1, hcm1⟩ := m1.cl
  refine lv_aload_n hx hb dw_274 rfl (lv_at hl 2 rfl) ?_
  refine lw_rd hx hb hX hbl hL hS1 hl 1 (by omega) rfl dw_275 dw_276 dw_277 dw_278 dw_279 ?_
  refine lw_rd hx hb hX hbl hL hS1 hl 2 (by omega) rfl dw_280 dw_281 dw_282 dw_283 dw_284 ?_
  refine lw_virt (k' := Model_simplify) (ci := 7) (a3 := 4016) (a := 208) (v := 2) (As := [.int (I (xs (i + 1)).toInt), .int (I (xs (i + 2)).toInt)]) (r := [.int (I (sp_simp Wo (xs (i + 1)).toInt (xs (i + 2)).toInt).1)]) hx hb hml hts hown hKk hH1 hS1 hl.1 (by decide) (by decide) (by decide +kernel) rfl (Nat.le_of_ble_eq_true rfl) hcm1 dw_285 ?_
  refine Mdl_simp_c (by omega) w m1 (lw_i32 _) (lw_i32 _) (fun h2 c2 m2 H2 l2 hH2 hS2 => ?_)
  refine lv_icmp_eq (tgt := 919) hx hb dw_288 (by decide) (fun _ => ?_) (fun q => absurd rfl q)
  exact K (sp_simp Wo (xs (i + 1)).toInt (xs (i + 2)).toInt).2 h2 H2 l2 (kp_simp w _ _) (p1.kp c2 (by omega)) m2 hH2 hS2
set_option maxHeartbeats 4000000 in
set_option maxRecDepth 100000 in
theorem law_c5 (C0 : lw_At p s m meth c b L xs) (hts : ∀ w ∈ lw_gd, w.before #[Value.ref b] s = true) (hKk : g_KK D cA s) (hL : L ≤ 2048) (hi : i + 4 ≤ L) (w : wfW Wo) (hp : pens h 0 Wo) (hm : mrep h 208 Wo) (hH : g_RH s.heap.size D cA h H) (hS : va_S (g_A s.heap.size) s.heap H locs) (hl : lv_has ls 4 [(0, .ref b), (1, .ref (s.heap.size + 0)), (2, .ref (s.heap.size + 208)), (3, .int (nI i))])
    (K : ∀ (W' : Wd) (h' : g_H) (H' : Heap) (locs' : List Loc), wfW W' → pens h' 0 W' → mrep h' 208 W' → g_RH s.heap.size D cA h' H' → va_S (g_A s.heap.size) s.heap H' locs' → W p l e room_1 s m #[Value.ref b] below meth c H' locs' 218 6435 (lw_Z below #[Value.ref b] s) (F0 m 919 ls [])) : W p l e room_1 s m #[Value.ref b] below meth c H locs 218 6435 (lw_Z below #[Value.ref b] s) (F0 m 293 ls []) := by
  obtain ⟨hx, hb, hr, hml, hown, ht0, hX, hbl, hlk, hgv⟩ := id C0
  obtain ⟨fsx, hcx⟩ := hp.cl
  refine lv_aload_n hx hb dw_293 rfl (lv_at hl 1 rfl) ?_
  refine lw_rd hx hb hX hbl hL hS hl 1 (by omega) rfl dw_294 dw_295 dw_296 dw_297 dw_298 ?_
  refine lw_virt (k' := Pens_weld) (ci := 6) (a3 := 2084) (a := 0) (v := 1) (As := [.int (I (xs (i + 1)).toInt)]) (r := []) hx hb hml hts hown hKk hH hS hl.1 (by decide) (by decide) (by decide +kernel) rfl (Nat.le_of_ble_eq_true rfl) hcx dw_299 ?_
  refine Pens_weld_c (by omega) w hp (lw_i32 _) (fun h1 c1 p1 H1 l1 hH1 hS1 => ?_)
  have m1 := hm.kp c1 (by omega)
  obtain ⟨fs1, hcm1⟩ := m1.cl
  refine lv_aload_n hx hb dw_302 rfl (lv_at hl 2 rfl) ?_
  refine lw_rd hx hb hX hbl hL hS1 hl 1 (by omega) rfl dw_303 dw_304 dw_305 dw_306 dw_307 ?_
  refine lw_virt (k' := Model_weld) (ci := 7) (a3 := 4082) (a := 208) (v := 1) (As := [.int (I (xs (i + 1)).toInt)]) (r := [.int (I (sp_weld Wo (xs (i + 1)).toInt).1)]) hx hb hml hts hown hKk hH1 hS1 hl.1 (by decide) (by decide) (by decide +kernel) rfl (Nat.le_of_ble_eq_true rfl) hcm1 dw_308 ?_
  refine Mdl_weld_c (by omega) w m1 (lw_i32 _) (fun h2 c2 m2 H2 l2 hH2 hS2 => ?_)
  refine lv_icmp_eq (tgt := 919) hx hb dw_311 (by decide) (fun _ => ?_) (fun q => absurd rfl q)
  exact K (sp_weld Wo (xs (i + 1)).toInt).2 h2 H2 l2 (kp_weld w _) (p1.kp c2 (by omega)) m2 hH2 hS2
set_option maxHeartbeats 4000000 in
set_option maxRecDepth 100000 in
theorem law_c6 (C0 : lw_At p s m meth c b L xs) (hts : ∀ w ∈ lw_gd, w.before #[Value.ref b] s = true) (hKk : g_KK D cA s) (hL : L ≤ 2048) (hi : i + 4 ≤ L) (w : wfW Wo) (hp : pens h 0 Wo) (hm : mrep h 208 Wo) (hH : g_RH s.heap.size D cA h H) (hS : va_S (g_A s.heap.size) s.heap H locs) (hl : lv_has ls 4 [(0, .ref b), (1, .ref (s.heap.size + 0)), (2, .ref (s.heap.size + 208)), (3, .int (nI i))])
    (K : ∀ (W' : Wd) (h' : g_H) (H' : Heap) (locs' : List Loc), wfW W' → pens h' 0 W' → mrep h' 208 W' → g_RH s.heap.size D cA h' H' → va_S (g_A s.heap.size) s.heap H' locs' → W p l e room_1 s m #[Value.ref b] below meth c H' locs' 218 6435 (lw_Z below #[Value.ref b] s) (F0 m 919 ls [])) : W p l e room_1 s m #[Value.ref b] below meth c H locs 218 6435 (lw_Z below #[Value.ref b] s) (F0 m 316 ls []) := by
  obtain ⟨hx, hb, hr, hml, hown, ht0, hX, hbl, hlk, hgv⟩ := id C0
  obtain ⟨fsx, hcx⟩ := hp.cl
  refine lv_aload_n hx hb dw_316 rfl (lv_at hl 1 rfl) ?_
  refine lw_virt (k' := Pens_joinAll) (ci := 6) (a3 := 2129) (a := 0) (v := 0) (As := []) (r := []) hx hb hml hts hown hKk hH hS hl.1 (by decide) (by decide) (by decide +kernel) rfl (Nat.le_of_ble_eq_true rfl) hcx dw_317 ?_
  refine Pens_join_c (by omega) w hp  (fun h1 c1 p1 H1 l1 hH1 hS1 => ?_)
  have m1 := hm.kp c1 (by omega)
  obtain ⟨fs1, hcm1⟩ := m1.cl
  refine lv_aload_n hx hb dw_320 rfl (lv_at hl 2 rfl) ?_
  refine lw_virt (k' := Model_joinAll) (ci := 7) (a3 := 4124) (a := 208) (v := 0) (As := []) (r := [.int (I (sp_join Wo).1)]) hx hb hml hts hown hKk hH1 hS1 hl.1 (by decide) (by decide) (by decide +kernel) rfl (Nat.le_of_ble_eq_true rfl) hcm1 dw_321 ?_
  refine Mdl_join_c (by omega) w m1  (fun h2 c2 m2 H2 l2 hH2 hS2 => ?_)
  refine lv_icmp_eq (tgt := 919) hx hb dw_324 (by decide) (fun _ => ?_) (fun q => absurd rfl q)
  exact K (sp_join Wo).2 h2 H2 l2 (kp_join w) (p1.kp c2 (by omega)) m2 hH2 hS2
set_option maxHeartbeats 4000000 in
set_option maxRecDepth 100000 in
theorem law_c7 (C0 : lw_At p s m meth c b L xs) (hts : ∀ w ∈ lw_gd, w.before #[Value.ref b] s = true) (hKk : g_KK D cA s) (hL : L ≤ 2048) (hi : i + 4 ≤ L) (w : wfW Wo) (hp : pens h 0 Wo) (hm : mrep h 208 Wo) (hH : g_RH s.heap.size D cA h H) (hS : va_S (g_A s.heap.size) s.heap H locs) (hl : lv_has ls 4 [(0, .ref b), (1, .ref (s.heap.size + 0)), (2, .ref (s.heap.size + 208)), (3, .int (nI i))])
    (K : ∀ (W' : Wd) (h' : g_H) (H' : Heap) (locs' : List Loc), wfW W' → pens h' 0 W' → mrep h' 208 W' → g_RH s.heap.size D cA h' H' → va_S (g_A s.heap.size) s.heap H' locs' → W p l e room_1 s m #[Value.ref b] below meth c H' locs' 218 6435 (lw_Z below #[Value.ref b] s) (F0 m 919 ls [])) : W p l e room_1 s m #[Value.ref b] below meth c H locs 218 6435 (lw_Z below #[Value.ref b] s) (F0 m 329 ls []) := by
  obtain ⟨hx, hb, hr, hml, hown, ht0, hX, hbl, hlk, hgv⟩ := id C0
  obtain ⟨fsx, hcx⟩ := hp.cl
  refine lv_aload_n hx hb dw_329 rfl (lv_at hl 1 rfl) ?_
  refine lw_rd hx hb hX hbl hL hS hl 1 (by omega) rfl dw_330 dw_331 dw_332 dw_333 dw_334 ?_
  refine lw_rd hx hb hX hbl hL hS hl 2 (by omega) rfl dw_335 dw_336 dw_337 dw_338 dw_339 ?_
  refine lw_rd hx hb hX hbl hL hS hl 3 (by omega) rfl dw_340 dw_341 dw_342 dw_343 dw_344 ?_
  refine lw_virt (k' := Pens_move) (ci := 6) (a3 := 2177) (a := 0) (v := 3) (As := [.int (I (xs (i + 1)).toInt), .int (I (xs (i + 2)).toInt), .int (I (xs (i + 3)).toInt)]) (r := []) hx hb hml hts hown hKk hH hS hl.1 (by decide) (by decide) (by decide +kernel) rfl (Nat.le_of_ble_eq_true rfl) hcx dw_345 ?_
  refine Pens_move_c (by omega) w hp (lw_i32 _) (lw_i32 _) (lw_i32 _) (fun h1 c1 p1 H1 l1 hH1 hS1 => ?_)
  have m1 := hm.kp c1 (by omega)
  obtain ⟨fs1, hcm1⟩ := m1.cl
  refine lv_aload_n hx hb dw_348 rfl (lv_at hl 2 rfl) ?_
  refine lw_rd hx hb hX hbl hL hS1 hl 1 (by omega) rfl dw_349 dw_350 dw_351 dw_352 dw_353 ?_
  refine lw_rd hx hb hX hbl hL hS1 hl 2 (by omega) rfl dw_354 dw_355 dw_356 dw_357 dw_358 ?_
  refine lw_rd hx hb hX hbl hL hS1 hl 3 (by omega) rfl dw_359 dw_360 dw_361 dw_362 dw_363 ?_
  refine lw_virt (k' := Model_move) (ci := 7) (a3 := 4144) (a := 208) (v := 3) (As := [.int (I (xs (i + 1)).toInt), .int (I (xs (i + 2)).toInt), .int (I (xs (i + 3)).toInt)]) (r := [.int (I (sp_move Wo (xs (i + 1)).toInt (xs (i + 2)).toInt (xs (i + 3)).toInt).1)]) hx hb hml hts hown hKk hH1 hS1 hl.1 (by decide) (by decide) (by decide +kernel) rfl (Nat.le_of_ble_eq_true rfl) hcm1 dw_364 ?_
  refine Mdl_move_c (by omega) w m1 (lw_i32 _) (lw_i32 _) (lw_i32 _) (fun h2 c2 m2 H2 l2 hH2 hS2 => ?_)
  refine lv_icmp_eq (tgt := 919) hx hb dw_367 (by decide) (fun _ => ?_) (fun q => absurd rfl q)
  exact K (sp_move Wo (xs (i + 1)).toInt (xs (i + 2)).toInt (xs (i + 3)).toInt).2 h2 H2 l2 (kp_move w _ _ _) (p1.kp c2 (by omega)) m2 hH2 hS2
set_option maxHeartbeats 4000000 in
set_option maxRecDepth 100000 in
theorem law_c8 (C0 : lw_At p s m meth c b L xs) (hts : ∀ w ∈ lw_gd, w.before #[Value.ref b] s = true) (hKk : g_KK D cA s) (hL : L ≤ 2048) (hi : i + 4 ≤ L) (w : wfW Wo) (hp : pens h 0 Wo) (hm : mrep h 208 Wo) (hH : g_RH s.heap.size D cA h H) (hS : va_S (g_A s.heap.size) s.heap H locs) (hl : lv_has ls 4 [(0, .ref b), (1, .ref (s.heap.size + 0)), (2, .ref (s.heap.size + 208)), (3, .int (nI i))])
    (K : ∀ (W' : Wd) (h' : g_H) (H' : Heap) (locs' : List Loc), wfW W' → pens h' 0 W' → mrep h' 208 W' → g_RH s.heap.size D cA h' H' → va_S (g_A s.heap.size) s.heap H' locs' → W p l e room_1 s m #[Value.ref b] below meth c H' locs' 218 6435 (lw_Z below #[Value.ref b] s) (F0 m 919 ls [])) : W p l e room_1 s m #[Value.ref b] below meth c H locs 218 6435 (lw_Z below #[Value.ref b] s) (F0 m 372 ls []) := by
  obtain ⟨hx, hb, hr, hml, hown, ht0, hX, hbl, hlk, hgv⟩ := id C0
  obtain ⟨fsx, hcx⟩ := hp.cl
  refine lv_aload_n hx hb dw_372 rfl (lv_at hl 1 rfl) ?_
  refine lw_rd hx hb hX hbl hL hS hl 1 (by omega) rfl dw_373 dw_374 dw_375 dw_376 dw_377 ?_
  refine lw_rd hx hb hX hbl hL hS hl 2 (by omega) rfl dw_378 dw_379 dw_380 dw_381 dw_382 ?_
  refine lw_virt (k' := Pens_turn) (ci := 6) (a3 := 2190) (a := 0) (v := 2) (As := [.int (I (xs (i + 1)).toInt), .int (I (xs (i + 2)).toInt)]) (r := []) hx hb hml hts hown hKk hH hS hl.1 (by decide) (by decide) (by decide +kernel) rfl (Nat.le_of_ble_eq_true rfl) hcx dw_383 ?_
  refine Pens_turn_c (by omega) w hp (lw_i32 _) (lw_i32 _) (fun h1 c1 p1 H1 l1 hH1 hS1 => ?_)
  have m1 := hm.kp c1 (by omega)
  obtain ⟨fs1, hcm1⟩ := m1.cl
  refine lv_aload_n hx hb dw_386 rfl (lv_at hl 2 rfl) ?_
  refine lw_rd hx hb hX hbl hL hS1 hl 1 (by omega) rfl dw_387 dw_388 dw_389 dw_390 dw_391 ?_
  refine lw_rd hx hb hX hbl hL hS1 hl 2 (by omega) rfl dw_392 dw_393 dw_394 dw_395 dw_396 ?_
  refine lw_virt (k' := Model_turn) (ci := 7) (a3 := 4152) (a := 208) (v := 2) (As := [.int (I (xs (i + 1)).toInt), .int (I (xs (i + 2)).toInt)]) (r := [.int (I (sp_turn Wo (xs (i + 1)).toInt (xs (i + 2)).toInt).1)]) hx hb hml hts hown hKk hH1 hS1 hl.1 (by decide) (by decide) (by decide +kernel) rfl (Nat.le_of_ble_eq_true rfl) hcm1 dw_397 ?_
  refine Mdl_turn_c (by omega) w m1 (lw_i32 _) (lw_i32 _) (fun h2 c2 m2 H2 l2 hH2 hS2 => ?_)
  refine lv_icmp_eq (tgt := 919) hx hb dw_400 (by decide) (fun _ => ?_) (fun q => absurd rfl q)
  exact K (sp_turn Wo (xs (i + 1)).toInt (xs (i + 2)).toInt).2 h2 H2 l2 (kp_turn w _ _) (p1.kp c2 (by omega)) m2 hH2 hS2
set_option maxHeartbeats 4000000 in
set_option maxRecDepth 100000 in
theorem law_c9 (C0 : lw_At p s m meth c b L xs) (hts : ∀ w ∈ lw_gd, w.before #[Value.ref b] s = true) (hKk : g_KK D cA s) (hL : L ≤ 2048) (hi : i + 4 ≤ L) (w : wfW Wo) (hp : pens h 0 Wo) (hm : mrep h 208 Wo) (hH : g_RH s.heap.size D cA h H) (hS : va_S (g_A s.heap.size) s.heap H locs) (hl : lv_has ls 4 [(0, .ref b), (1, .ref (s.heap.size + 0)), (2, .ref (s.heap.size + 208)), (3, .int (nI i))])
    (K : ∀ (W' : Wd) (h' : g_H) (H' : Heap) (locs' : List Loc), wfW W' → pens h' 0 W' → mrep h' 208 W' → g_RH s.heap.size D cA h' H' → va_S (g_A s.heap.size) s.heap H' locs' → W p l e room_1 s m #[Value.ref b] below meth c H' locs' 218 6435 (lw_Z below #[Value.ref b] s) (F0 m 919 ls [])) : W p l e room_1 s m #[Value.ref b] below meth c H locs 218 6435 (lw_Z below #[Value.ref b] s) (F0 m 405 ls []) := by
  obtain ⟨hx, hb, hr, hml, hown, ht0, hX, hbl, hlk, hgv⟩ := id C0
  obtain ⟨fsx, hcx⟩ := hp.cl
  refine lv_aload_n hx hb dw_405 rfl (lv_at hl 1 rfl) ?_
  refine lw_rd hx hb hX hbl hL hS hl 1 (by omega) rfl dw_406 dw_407 dw_408 dw_409 dw_410 ?_
  refine lw_virt (k' := Pens_reverse) (ci := 6) (a3 := 2194) (a := 0) (v := 1) (As := [.int (I (xs (i + 1)).toInt)]) (r := []) hx hb hml hts hown hKk hH hS hl.1 (by decide) (by decide) (by decide +kernel) rfl (Nat.le_of_ble_eq_true rfl) hcx dw_411 ?_
  refine Pens_rev_c (by omega) w hp (lw_i32 _) (fun h1 c1 p1 H1 l1 hH1 hS1 => ?_)
  have m1 := hm.kp c1 (by omega)
  obtain ⟨fs1, hcm1⟩ := m1.cl
  refine lv_aload_n hx hb dw_414 rfl (lv_at hl 2 rfl) ?_
  refine lw_rd hx hb hX hbl hL hS1 hl 1 (by omega) rfl dw_415 dw_416 dw_417 dw_418 dw_419 ?_
  refine lw_virt (k' := Model_reverse) (ci := 7) (a3 := 4159) (a := 208) (v := 1) (As := [.int (I (xs (i + 1)).toInt)]) (r := [.int (I (sp_rev Wo (xs (i + 1)).toInt).1)]) hx hb hml hts hown hKk hH1 hS1 hl.1 (by decide) (by decide) (by decide +kernel) rfl (Nat.le_of_ble_eq_true rfl) hcm1 dw_420 ?_
  refine Mdl_rev_c (by omega) w m1 (lw_i32 _) (fun h2 c2 m2 H2 l2 hH2 hS2 => ?_)
  refine lv_icmp_eq (tgt := 919) hx hb dw_423 (by decide) (fun _ => ?_) (fun q => absurd rfl q)
  exact K (sp_rev Wo (xs (i + 1)).toInt).2 h2 H2 l2 (kp_rev w _) (p1.kp c2 (by omega)) m2 hH2 hS2
set_option maxHeartbeats 4000000 in
set_option maxRecDepth 100000 in
theorem law_c10 (C0 : lw_At p s m meth c b L xs) (hts : ∀ w ∈ lw_gd, w.before #[Value.ref b] s = true) (hKk : g_KK D cA s) (hL : L ≤ 2048) (hi : i + 4 ≤ L) (w : wfW Wo) (hp : pens h 0 Wo) (hm : mrep h 208 Wo) (hH : g_RH s.heap.size D cA h H) (hS : va_S (g_A s.heap.size) s.heap H locs) (hl : lv_has ls 4 [(0, .ref b), (1, .ref (s.heap.size + 0)), (2, .ref (s.heap.size + 208)), (3, .int (nI i))])
    (K : ∀ (W' : Wd) (h' : g_H) (H' : Heap) (locs' : List Loc), wfW W' → pens h' 0 W' → mrep h' 208 W' → g_RH s.heap.size D cA h' H' → va_S (g_A s.heap.size) s.heap H' locs' → W p l e room_1 s m #[Value.ref b] below meth c H' locs' 218 6435 (lw_Z below #[Value.ref b] s) (F0 m 919 ls [])) : W p l e room_1 s m #[Value.ref b] below meth c H locs 218 6435 (lw_Z below #[Value.ref b] s) (F0 m 428 ls []) := by
  obtain ⟨hx, hb, hr, hml, hown, ht0, hX, hbl, hlk, hgv⟩ := id C0
  obtain ⟨fsx, hcx⟩ := hp.cl
  refine lv_aload_n hx hb dw_428 rfl (lv_at hl 1 rfl) ?_
  refine lw_rd hx hb hX hbl hL hS hl 1 (by omega) rfl dw_429 dw_430 dw_431 dw_432 dw_433 ?_
  refine lw_virt (k' := Pens_close) (ci := 6) (a3 := 2199) (a := 0) (v := 1) (As := [.int (I (xs (i + 1)).toInt)]) (r := []) hx hb hml hts hown hKk hH hS hl.1 (by decide) (by decide) (by decide +kernel) rfl (Nat.le_of_ble_eq_true rfl) hcx dw_434 ?_
  refine Pens_close_c (by omega) w hp (lw_i32 _) (fun h1 c1 p1 H1 l1 hH1 hS1 => ?_)
  have m1 := hm.kp c1 (by omega)
  obtain ⟨fs1, hcm1⟩ := m1.cl
  refine lv_aload_n hx hb dw_437 rfl (lv_at hl 2 rfl) ?_
  refine lw_rd hx hb hX hbl hL hS1 hl 1 (by omega) rfl dw_438 dw_439 dw_440 dw_441 dw_442 ?_
  refine lw_virt (k' := Model_close) (ci := 7) (a3 := 4163) (a := 208) (v := 1) (As := [.int (I (xs (i + 1)).toInt)]) (r := [.int (I (sp_close Wo (xs (i + 1)).toInt).1)]) hx hb hml hts hown hKk hH1 hS1 hl.1 (by decide) (by decide) (by decide +kernel) rfl (Nat.le_of_ble_eq_true rfl) hcm1 dw_443 ?_
  refine Mdl_close_c (by omega) w m1 (lw_i32 _) (fun h2 c2 m2 H2 l2 hH2 hS2 => ?_)
  refine lv_icmp_eq (tgt := 919) hx hb dw_446 (by decide) (fun _ => ?_) (fun q => absurd rfl q)
  exact K (sp_close Wo (xs (i + 1)).toInt).2 h2 H2 l2 (kp_close w _) (p1.kp c2 (by omega)) m2 hH2 hS2
set_option maxHeartbeats 4000000 in
set_option maxRecDepth 100000 in
theorem law_c11 (C0 : lw_At p s m meth c b L xs) (hts : ∀ w ∈ lw_gd, w.before #[Value.ref b] s = true) (hKk : g_KK D cA s) (hL : L ≤ 2048) (hi : i + 4 ≤ L) (w : wfW Wo) (hp : pens h 0 Wo) (hm : mrep h 208 Wo) (hH : g_RH s.heap.size D cA h H) (hS : va_S (g_A s.heap.size) s.heap H locs) (hl : lv_has ls 4 [(0, .ref b), (1, .ref (s.heap.size + 0)), (2, .ref (s.heap.size + 208)), (3, .int (nI i))])
    (K : ∀ (W' : Wd) (h' : g_H) (H' : Heap) (locs' : List Loc), wfW W' → pens h' 0 W' → mrep h' 208 W' → g_RH s.heap.size D cA h' H' → va_S (g_A s.heap.size) s.heap H' locs' → W p l e room_1 s m #[Value.ref b] below meth c H' locs' 218 6435 (lw_Z below #[Value.ref b] s) (F0 m 919 ls [])) : W p l e room_1 s m #[Value.ref b] below meth c H locs 218 6435 (lw_Z below #[Value.ref b] s) (F0 m 451 ls []) := by
  obtain ⟨hx, hb, hr, hml, hown, ht0, hX, hbl, hlk, hgv⟩ := id C0
  obtain ⟨fsx, hcx⟩ := hp.cl
  refine lv_aload_n hx hb dw_451 rfl (lv_at hl 1 rfl) ?_
  refine lw_rd hx hb hX hbl hL hS hl 1 (by omega) rfl dw_452 dw_453 dw_454 dw_455 dw_456 ?_
  refine lw_rd hx hb hX hbl hL hS hl 2 (by omega) rfl dw_457 dw_458 dw_459 dw_460 dw_461 ?_
  refine lw_virt (k' := Pens_split) (ci := 6) (a3 := 2203) (a := 0) (v := 2) (As := [.int (I (xs (i + 1)).toInt), .int (I (xs (i + 2)).toInt)]) (r := []) hx hb hml hts hown hKk hH hS hl.1 (by decide) (by decide) (by decide +kernel) rfl (Nat.le_of_ble_eq_true rfl) hcx dw_462 ?_
  refine Pens_split_c (by omega) w hp (lw_i32 _) (lw_i32 _) (fun h1 c1 p1 H1 l1 hH1 hS1 => ?_)
  have m1 := hm.kp c1 (by omega)
  obtain ⟨fs1, hcm1⟩ := m1.cl
  refine lv_aload_n hx hb dw_465 rfl (lv_at hl 2 rfl) ?_
  refine lw_rd hx hb hX hbl hL hS1 hl 1 (by omega) rfl dw_466 dw_467 dw_468 dw_469 dw_470 ?_
  refine lw_rd hx hb hX hbl hL hS1 hl 2 (by omega) rfl dw_471 dw_472 dw_473 dw_474 dw_475 ?_
  refine lw_virt (k' := Model_split) (ci := 7) (a3 := 4167) (a := 208) (v := 2) (As := [.int (I (xs (i + 1)).toInt), .int (I (xs (i + 2)).toInt)]) (r := [.int (I (sp_split Wo (xs (i + 1)).toInt (xs (i + 2)).toInt).1)]) hx hb hml hts hown hKk hH1 hS1 hl.1 (by decide) (by decide) (by decide +kernel) rfl (Nat.le_of_ble_eq_true rfl) hcm1 dw_476 ?_
  refine Mdl_split_c (by omega) w m1 (lw_i32 _) (lw_i32 _) (fun h2 c2 m2 H2 l2 hH2 hS2 => ?_)
  refine lv_icmp_eq (tgt := 919) hx hb dw_479 (by decide) (fun _ => ?_) (fun q => absurd rfl q)
  exact K (sp_split Wo (xs (i + 1)).toInt (xs (i + 2)).toInt).2 h2 H2 l2 (kp_split w _ _) (p1.kp c2 (by omega)) m2 hH2 hS2
set_option maxHeartbeats 4000000 in
set_option maxRecDepth 100000 in
theorem law_c12 (C0 : lw_At p s m meth c b L xs) (hts : ∀ w ∈ lw_gd, w.before #[Value.ref b] s = true) (hKk : g_KK D cA s) (hL : L ≤ 2048) (hi : i + 4 ≤ L) (w : wfW Wo) (hp : pens h 0 Wo) (hm : mrep h 208 Wo) (hH : g_RH s.heap.size D cA h H) (hS : va_S (g_A s.heap.size) s.heap H locs) (hl : lv_has ls 4 [(0, .ref b), (1, .ref (s.heap.size + 0)), (2, .ref (s.heap.size + 208)), (3, .int (nI i))])
    (K : ∀ (W' : Wd) (h' : g_H) (H' : Heap) (locs' : List Loc), wfW W' → pens h' 0 W' → mrep h' 208 W' → g_RH s.heap.size D cA h' H' → va_S (g_A s.heap.size) s.heap H' locs' → W p l e room_1 s m #[Value.ref b] below meth c H' locs' 218 6435 (lw_Z below #[Value.ref b] s) (F0 m 919 ls [])) : W p l e room_1 s m #[Value.ref b] below meth c H locs 218 6435 (lw_Z below #[Value.ref b] s) (F0 m 484 ls []) := by
  obtain ⟨hx, hb, hr, hml, hown, ht0, hX, hbl, hlk, hgv⟩ := id C0
  obtain ⟨fsx, hcx⟩ := hp.cl
  refine lv_aload_n hx hb dw_484 rfl (lv_at hl 1 rfl) ?_
  refine lw_rd hx hb hX hbl hL hS hl 1 (by omega) rfl dw_485 dw_486 dw_487 dw_488 dw_489 ?_
  refine lw_virt (k' := Pens_remove) (ci := 6) (a3 := 2216) (a := 0) (v := 1) (As := [.int (I (xs (i + 1)).toInt)]) (r := []) hx hb hml hts hown hKk hH hS hl.1 (by decide) (by decide) (by decide +kernel) rfl (Nat.le_of_ble_eq_true rfl) hcx dw_490 ?_
  refine Pens_rem_c (by omega) w hp (lw_i32 _) (fun h1 c1 p1 H1 l1 hH1 hS1 => ?_)
  have m1 := hm.kp c1 (by omega)
  obtain ⟨fs1, hcm1⟩ := m1.cl
  refine lv_aload_n hx hb dw_493 rfl (lv_at hl 2 rfl) ?_
  refine lw_rd hx hb hX hbl hL hS1 hl 1 (by omega) rfl dw_494 dw_495 dw_496 dw_497 dw_498 ?_
  refine lw_virt (k' := Model_remove) (ci := 7) (a3 := 4179) (a := 208) (v := 1) (As := [.int (I (xs (i + 1)).toInt)]) (r := [.int (I (sp_rem Wo (xs (i + 1)).toInt).1)]) hx hb hml hts hown hKk hH1 hS1 hl.1 (by decide) (by decide) (by decide +kernel) rfl (Nat.le_of_ble_eq_true rfl) hcm1 dw_499 ?_
  refine Mdl_rem_c (by omega) w m1 (lw_i32 _) (fun h2 c2 m2 H2 l2 hH2 hS2 => ?_)
  refine lv_icmp_eq (tgt := 919) hx hb dw_502 (by decide) (fun _ => ?_) (fun q => absurd rfl q)
  exact K (sp_rem Wo (xs (i + 1)).toInt).2 h2 H2 l2 (kp_rem w _) (p1.kp c2 (by omega)) m2 hH2 hS2
set_option maxHeartbeats 4000000 in
set_option maxRecDepth 100000 in
theorem law_c13 (C0 : lw_At p s m meth c b L xs) (hts : ∀ w ∈ lw_gd, w.before #[Value.ref b] s = true) (hKk : g_KK D cA s) (hL : L ≤ 2048) (hi : i + 4 ≤ L) (w : wfW Wo) (hp : pens h 0 Wo) (hm : mrep h 208 Wo) (hH : g_RH s.heap.size D cA h H) (hS : va_S (g_A s.heap.size) s.heap H locs) (hl : lv_has ls 4 [(0, .ref b), (1, .ref (s.heap.size + 0)), (2, .ref (s.heap.size + 208)), (3, .int (nI i))])
    (K : ∀ (W' : Wd) (h' : g_H) (H' : Heap) (locs' : List Loc), wfW W' → pens h' 0 W' → mrep h' 208 W' → g_RH s.heap.size D cA h' H' → va_S (g_A s.heap.size) s.heap H' locs' → W p l e room_1 s m #[Value.ref b] below meth c H' locs' 218 6435 (lw_Z below #[Value.ref b] s) (F0 m 919 ls [])) : W p l e room_1 s m #[Value.ref b] below meth c H locs 218 6435 (lw_Z below #[Value.ref b] s) (F0 m 507 ls []) := by
  obtain ⟨hx, hb, hr, hml, hown, ht0, hX, hbl, hlk, hgv⟩ := id C0
  obtain ⟨fsx, hcx⟩ := hp.cl
  refine lv_aload_n hx hb dw_507 rfl (lv_at hl 1 rfl) ?_
  refine lw_rd hx hb hX hbl hL hS hl 1 (by omega) rfl dw_508 dw_509 dw_510 dw_511 dw_512 ?_
  refine lw_virt (k' := Pens_toTop) (ci := 6) (a3 := 2221) (a := 0) (v := 1) (As := [.int (I (xs (i + 1)).toInt)]) (r := []) hx hb hml hts hown hKk hH hS hl.1 (by decide) (by decide) (by decide +kernel) rfl (Nat.le_of_ble_eq_true rfl) hcx dw_513 ?_
  refine Pens_top_c (by omega) w hp (lw_i32 _) (fun h1 c1 p1 H1 l1 hH1 hS1 => ?_)
  have m1 := hm.kp c1 (by omega)
  obtain ⟨fs1, hcm1⟩ := m1.cl
  refine lv_aload_n hx hb dw_516 rfl (lv_at hl 2 rfl) ?_
  refine lw_rd hx hb hX hbl hL hS1 hl 1 (by omega) rfl dw_517 dw_518 dw_519 dw_520 dw_521 ?_
  refine lw_virt (k' := Model_toTop) (ci := 7) (a3 := 4183) (a := 208) (v := 1) (As := [.int (I (xs (i + 1)).toInt)]) (r := [.int (I (sp_top Wo (xs (i + 1)).toInt).1)]) hx hb hml hts hown hKk hH1 hS1 hl.1 (by decide) (by decide) (by decide +kernel) rfl (Nat.le_of_ble_eq_true rfl) hcm1 dw_522 ?_
  refine Mdl_top_c (by omega) w m1 (lw_i32 _) (fun h2 c2 m2 H2 l2 hH2 hS2 => ?_)
  refine lv_icmp_eq (tgt := 919) hx hb dw_525 (by decide) (fun _ => ?_) (fun q => absurd rfl q)
  exact K (sp_top Wo (xs (i + 1)).toInt).2 h2 H2 l2 (kp_top w _) (p1.kp c2 (by omega)) m2 hH2 hS2
set_option maxHeartbeats 4000000 in
set_option maxRecDepth 100000 in
theorem law_c14 (C0 : lw_At p s m meth c b L xs) (hts : ∀ w ∈ lw_gd, w.before #[Value.ref b] s = true) (hKk : g_KK D cA s) (hL : L ≤ 2048) (hi : i + 4 ≤ L) (w : wfW Wo) (hp : pens h 0 Wo) (hm : mrep h 208 Wo) (hH : g_RH s.heap.size D cA h H) (hS : va_S (g_A s.heap.size) s.heap H locs) (hl : lv_has ls 4 [(0, .ref b), (1, .ref (s.heap.size + 0)), (2, .ref (s.heap.size + 208)), (3, .int (nI i))])
    (K : ∀ (W' : Wd) (h' : g_H) (H' : Heap) (locs' : List Loc), wfW W' → pens h' 0 W' → mrep h' 208 W' → g_RH s.heap.size D cA h' H' → va_S (g_A s.heap.size) s.heap H' locs' → W p l e room_1 s m #[Value.ref b] below meth c H' locs' 218 6435 (lw_Z below #[Value.ref b] s) (F0 m 919 ls [])) : W p l e room_1 s m #[Value.ref b] below meth c H locs 218 6435 (lw_Z below #[Value.ref b] s) (F0 m 530 ls []) := by
  obtain ⟨hx, hb, hr, hml, hown, ht0, hX, hbl, hlk, hgv⟩ := id C0
  obtain ⟨fsx, hcx⟩ := hp.cl
  refine lv_aload_n hx hb dw_530 rfl (lv_at hl 1 rfl) ?_
  refine lw_virt (k' := Pens_strokes) (ci := 6) (a3 := 2226) (a := 0) (v := 0) (As := []) (r := []) hx hb hml hts hown hKk hH hS hl.1 (by decide) (by decide) (by decide +kernel) rfl (Nat.le_of_ble_eq_true rfl) hcx dw_531 ?_
  refine Pens_strokes_c hp  (fun h1 c1 p1 H1 l1 hH1 hS1 => ?_)
  have m1 := hm.kp c1 (by omega)
  obtain ⟨fs1, hcm1⟩ := m1.cl
  refine lv_aload_n hx hb dw_534 rfl (lv_at hl 2 rfl) ?_
  refine lw_virt (k' := Model_strokes) (ci := 7) (a3 := 4187) (a := 208) (v := 0) (As := []) (r := [.int (I (sp_strokes Wo).1)]) hx hb hml hts hown hKk hH1 hS1 hl.1 (by decide) (by decide) (by decide +kernel) rfl (Nat.le_of_ble_eq_true rfl) hcm1 dw_535 ?_
  refine Mdl_strokes_c m1  (fun h2 c2 m2 H2 l2 hH2 hS2 => ?_)
  refine lv_icmp_eq (tgt := 919) hx hb dw_538 (by decide) (fun _ => ?_) (fun q => absurd rfl q)
  exact K (sp_strokes Wo).2 h2 H2 l2 w (p1.kp c2 (by omega)) m2 hH2 hS2
set_option maxHeartbeats 4000000 in
set_option maxRecDepth 100000 in
theorem law_c15 (C0 : lw_At p s m meth c b L xs) (hts : ∀ w ∈ lw_gd, w.before #[Value.ref b] s = true) (hKk : g_KK D cA s) (hL : L ≤ 2048) (hi : i + 4 ≤ L) (w : wfW Wo) (hp : pens h 0 Wo) (hm : mrep h 208 Wo) (hH : g_RH s.heap.size D cA h H) (hS : va_S (g_A s.heap.size) s.heap H locs) (hl : lv_has ls 4 [(0, .ref b), (1, .ref (s.heap.size + 0)), (2, .ref (s.heap.size + 208)), (3, .int (nI i))])
    (K : ∀ (W' : Wd) (h' : g_H) (H' : Heap) (locs' : List Loc), wfW W' → pens h' 0 W' → mrep h' 208 W' → g_RH s.heap.size D cA h' H' → va_S (g_A s.heap.size) s.heap H' locs' → W p l e room_1 s m #[Value.ref b] below meth c H' locs' 218 6435 (lw_Z below #[Value.ref b] s) (F0 m 919 ls [])) : W p l e room_1 s m #[Value.ref b] below meth c H locs 218 6435 (lw_Z below #[Value.ref b] s) (F0 m 543 ls []) := by
  obtain ⟨hx, hb, hr, hml, hown, ht0, hX, hbl, hlk, hgv⟩ := id C0
  obtain ⟨fsx, hcx⟩ := hp.cl
  refine lv_aload_n hx hb dw_543 rfl (lv_at hl 1 rfl) ?_
  refine lw_rd hx hb hX hbl hL hS hl 1 (by omega) rfl dw_544 dw_545 dw_546 dw_547 dw_548 ?_
  refine lw_rd hx hb hX hbl hL hS hl 2 (by omega) rfl dw_549 dw_550 dw_551 dw_552 dw_553 ?_
  refine lw_virt (k' := Pens_of) (ci := 6) (a3 := 2230) (a := 0) (v := 2) (As := [.int (I (xs (i + 1)).toInt), .int (I (xs (i + 2)).toInt)]) (r := []) hx hb hml hts hown hKk hH hS hl.1 (by decide) (by decide) (by decide +kernel) rfl (Nat.le_of_ble_eq_true rfl) hcx dw_554 ?_
  refine Pens_of_c (by omega) w hp (lw_i32 _) (lw_i32 _) (fun h1 c1 p1 H1 l1 hH1 hS1 => ?_)
  have m1 := hm.kp c1 (by omega)
  obtain ⟨fs1, hcm1⟩ := m1.cl
  refine lv_aload_n hx hb dw_557 rfl (lv_at hl 2 rfl) ?_
  refine lw_rd hx hb hX hbl hL hS1 hl 1 (by omega) rfl dw_558 dw_559 dw_560 dw_561 dw_562 ?_
  refine lw_rd hx hb hX hbl hL hS1 hl 2 (by omega) rfl dw_563 dw_564 dw_565 dw_566 dw_567 ?_
  refine lw_virt (k' := Model_of) (ci := 7) (a3 := 4191) (a := 208) (v := 2) (As := [.int (I (xs (i + 1)).toInt), .int (I (xs (i + 2)).toInt)]) (r := [.int (I (sp_of Wo (xs (i + 1)).toInt (xs (i + 2)).toInt).1)]) hx hb hml hts hown hKk hH1 hS1 hl.1 (by decide) (by decide) (by decide +kernel) rfl (Nat.le_of_ble_eq_true rfl) hcm1 dw_568 ?_
  refine Mdl_of_c (by omega) w m1 (lw_i32 _) (lw_i32 _) (fun h2 c2 m2 H2 l2 hH2 hS2 => ?_)
  refine lv_icmp_eq (tgt := 919) hx hb dw_571 (by decide) (fun _ => ?_) (fun q => absurd rfl q)
  exact K (sp_of Wo (xs (i + 1)).toInt (xs (i + 2)).toInt).2 h2 H2 l2 w (p1.kp c2 (by omega)) m2 hH2 hS2
set_option maxHeartbeats 4000000 in
set_option maxRecDepth 100000 in
theorem law_c16 (C0 : lw_At p s m meth c b L xs) (hts : ∀ w ∈ lw_gd, w.before #[Value.ref b] s = true) (hKk : g_KK D cA s) (hL : L ≤ 2048) (hi : i + 4 ≤ L) (w : wfW Wo) (hp : pens h 0 Wo) (hm : mrep h 208 Wo) (hH : g_RH s.heap.size D cA h H) (hS : va_S (g_A s.heap.size) s.heap H locs) (hl : lv_has ls 4 [(0, .ref b), (1, .ref (s.heap.size + 0)), (2, .ref (s.heap.size + 208)), (3, .int (nI i))])
    (K : ∀ (W' : Wd) (h' : g_H) (H' : Heap) (locs' : List Loc), wfW W' → pens h' 0 W' → mrep h' 208 W' → g_RH s.heap.size D cA h' H' → va_S (g_A s.heap.size) s.heap H' locs' → W p l e room_1 s m #[Value.ref b] below meth c H' locs' 218 6435 (lw_Z below #[Value.ref b] s) (F0 m 919 ls [])) : W p l e room_1 s m #[Value.ref b] below meth c H locs 218 6435 (lw_Z below #[Value.ref b] s) (F0 m 576 ls []) := by
  obtain ⟨hx, hb, hr, hml, hown, ht0, hX, hbl, hlk, hgv⟩ := id C0
  obtain ⟨fsx, hcx⟩ := hp.cl
  refine lv_aload_n hx hb dw_576 rfl (lv_at hl 1 rfl) ?_
  refine lw_rd hx hb hX hbl hL hS hl 1 (by omega) rfl dw_577 dw_578 dw_579 dw_580 dw_581 ?_
  refine lw_rd hx hb hX hbl hL hS hl 2 (by omega) rfl dw_582 dw_583 dw_584 dw_585 dw_586 ?_
  refine lw_virt (k' := Pens_point) (ci := 6) (a3 := 3033) (a := 0) (v := 2) (As := [.int (I (xs (i + 1)).toInt), .int (I (xs (i + 2)).toInt)]) (r := []) hx hb hml hts hown hKk hH hS hl.1 (by decide) (by decide) (by decide +kernel) rfl (Nat.le_of_ble_eq_true rfl) hcx dw_587 ?_
  refine Pens_point_c (by omega) w hp (lw_i32 _) (lw_i32 _) (fun h1 c1 p1 H1 l1 hH1 hS1 => ?_)
  have m1 := hm.kp c1 (by omega)
  obtain ⟨fs1, hcm1⟩ := m1.cl
  refine lv_aload_n hx hb dw_590 rfl (lv_at hl 2 rfl) ?_
  refine lw_rd hx hb hX hbl hL hS1 hl 1 (by omega) rfl dw_591 dw_592 dw_593 dw_594 dw_595 ?_
  refine lw_rd hx hb hX hbl hL hS1 hl 2 (by omega) rfl dw_596 dw_597 dw_598 dw_599 dw_600 ?_
  refine lw_virt (k' := Model_point) (ci := 7) (a3 := 4232) (a := 208) (v := 2) (As := [.int (I (xs (i + 1)).toInt), .int (I (xs (i + 2)).toInt)]) (r := [.int (I (sp_point Wo (xs (i + 1)).toInt (xs (i + 2)).toInt).1)]) hx hb hml hts hown hKk hH1 hS1 hl.1 (by decide) (by decide) (by decide +kernel) rfl (Nat.le_of_ble_eq_true rfl) hcm1 dw_601 ?_
  refine Mdl_point_c (by omega) w m1 (lw_i32 _) (lw_i32 _) (fun h2 c2 m2 H2 l2 hH2 hS2 => ?_)
  refine lv_icmp_eq (tgt := 919) hx hb dw_604 (by decide) (fun _ => ?_) (fun q => absurd rfl q)
  exact K (sp_point Wo (xs (i + 1)).toInt (xs (i + 2)).toInt).2 h2 H2 l2 w (p1.kp c2 (by omega)) m2 hH2 hS2
set_option maxHeartbeats 4000000 in
set_option maxRecDepth 100000 in
theorem law_c17 (C0 : lw_At p s m meth c b L xs) (hts : ∀ w ∈ lw_gd, w.before #[Value.ref b] s = true) (hKk : g_KK D cA s) (hL : L ≤ 2048) (hi : i + 4 ≤ L) (w : wfW Wo) (hp : pens h 0 Wo) (hm : mrep h 208 Wo) (hH : g_RH s.heap.size D cA h H) (hS : va_S (g_A s.heap.size) s.heap H locs) (hl : lv_has ls 4 [(0, .ref b), (1, .ref (s.heap.size + 0)), (2, .ref (s.heap.size + 208)), (3, .int (nI i))])
    (K : ∀ (W' : Wd) (h' : g_H) (H' : Heap) (locs' : List Loc), wfW W' → pens h' 0 W' → mrep h' 208 W' → g_RH s.heap.size D cA h' H' → va_S (g_A s.heap.size) s.heap H' locs' → W p l e room_1 s m #[Value.ref b] below meth c H' locs' 218 6435 (lw_Z below #[Value.ref b] s) (F0 m 919 ls [])) : W p l e room_1 s m #[Value.ref b] below meth c H locs 218 6435 (lw_Z below #[Value.ref b] s) (F0 m 609 ls []) := by
  obtain ⟨hx, hb, hr, hml, hown, ht0, hX, hbl, hlk, hgv⟩ := id C0
  obtain ⟨fsx, hcx⟩ := hp.cl
  refine lv_aload_n hx hb dw_609 rfl (lv_at hl 1 rfl) ?_
  refine lw_rd hx hb hX hbl hL hS hl 1 (by omega) rfl dw_610 dw_611 dw_612 dw_613 dw_614 ?_
  refine lw_rd hx hb hX hbl hL hS hl 2 (by omega) rfl dw_615 dw_616 dw_617 dw_618 dw_619 ?_
  refine lw_virt (k' := Pens_crossings) (ci := 6) (a3 := 3037) (a := 0) (v := 2) (As := [.int (I (xs (i + 1)).toInt), .int (I (xs (i + 2)).toInt)]) (r := []) hx hb hml hts hown hKk hH hS hl.1 (by decide) (by decide) (by decide +kernel) rfl (Nat.le_of_ble_eq_true rfl) hcx dw_620 ?_
  refine Pens_cross_c (by omega) w hp (lw_i32 _) (lw_i32 _) (fun h1 c1 p1 H1 l1 hH1 hS1 => ?_)
  have m1 := hm.kp c1 (by omega)
  obtain ⟨fs1, hcm1⟩ := m1.cl
  refine lv_aload_n hx hb dw_623 rfl (lv_at hl 2 rfl) ?_
  refine lw_rd hx hb hX hbl hL hS1 hl 1 (by omega) rfl dw_624 dw_625 dw_626 dw_627 dw_628 ?_
  refine lw_rd hx hb hX hbl hL hS1 hl 2 (by omega) rfl dw_629 dw_630 dw_631 dw_632 dw_633 ?_
  refine lw_virt (k' := Model_crossings) (ci := 7) (a3 := 4236) (a := 208) (v := 2) (As := [.int (I (xs (i + 1)).toInt), .int (I (xs (i + 2)).toInt)]) (r := [.int (I (sp_cross Wo (xs (i + 1)).toInt (xs (i + 2)).toInt).1)]) hx hb hml hts hown hKk hH1 hS1 hl.1 (by decide) (by decide) (by decide +kernel) rfl (Nat.le_of_ble_eq_true rfl) hcm1 dw_634 ?_
  refine Mdl_cross_c (by omega) w m1 (lw_i32 _) (lw_i32 _) (fun h2 c2 m2 H2 l2 hH2 hS2 => ?_)
  refine lv_icmp_eq (tgt := 919) hx hb dw_637 (by decide) (fun _ => ?_) (fun q => absurd rfl q)
  exact K (sp_cross Wo (xs (i + 1)).toInt (xs (i + 2)).toInt).2 h2 H2 l2 w (p1.kp c2 (by omega)) m2 hH2 hS2
set_option maxHeartbeats 4000000 in
set_option maxRecDepth 100000 in
theorem law_c18 (C0 : lw_At p s m meth c b L xs) (hts : ∀ w ∈ lw_gd, w.before #[Value.ref b] s = true) (hKk : g_KK D cA s) (hL : L ≤ 2048) (hi : i + 4 ≤ L) (w : wfW Wo) (hp : pens h 0 Wo) (hm : mrep h 208 Wo) (hH : g_RH s.heap.size D cA h H) (hS : va_S (g_A s.heap.size) s.heap H locs) (hl : lv_has ls 4 [(0, .ref b), (1, .ref (s.heap.size + 0)), (2, .ref (s.heap.size + 208)), (3, .int (nI i))])
    (K : ∀ (W' : Wd) (h' : g_H) (H' : Heap) (locs' : List Loc), wfW W' → pens h' 0 W' → mrep h' 208 W' → g_RH s.heap.size D cA h' H' → va_S (g_A s.heap.size) s.heap H' locs' → W p l e room_1 s m #[Value.ref b] below meth c H' locs' 218 6435 (lw_Z below #[Value.ref b] s) (F0 m 919 ls [])) : W p l e room_1 s m #[Value.ref b] below meth c H locs 218 6435 (lw_Z below #[Value.ref b] s) (F0 m 642 ls []) := by
  obtain ⟨hx, hb, hr, hml, hown, ht0, hX, hbl, hlk, hgv⟩ := id C0
  obtain ⟨fsx, hcx⟩ := hp.cl
  refine lv_aload_n hx hb dw_642 rfl (lv_at hl 1 rfl) ?_
  refine lw_rd hx hb hX hbl hL hS hl 1 (by omega) rfl dw_643 dw_644 dw_645 dw_646 dw_647 ?_
  refine lw_rd hx hb hX hbl hL hS hl 2 (by omega) rfl dw_648 dw_649 dw_650 dw_651 dw_652 ?_
  refine lw_virt (k' := Pens_nearest) (ci := 6) (a3 := 3044) (a := 0) (v := 2) (As := [.int (I (xs (i + 1)).toInt), .int (I (xs (i + 2)).toInt)]) (r := []) hx hb hml hts hown hKk hH hS hl.1 (by decide) (by decide) (by decide +kernel) rfl (Nat.le_of_ble_eq_true rfl) hcx dw_653 ?_
  refine Pens_near_c (by omega) w hp (lw_i32 _) (lw_i32 _) (fun h1 c1 p1 H1 l1 hH1 hS1 => ?_)
  have m1 := hm.kp c1 (by omega)
  obtain ⟨fs1, hcm1⟩ := m1.cl
  refine lv_aload_n hx hb dw_656 rfl (lv_at hl 2 rfl) ?_
  refine lw_rd hx hb hX hbl hL hS1 hl 1 (by omega) rfl dw_657 dw_658 dw_659 dw_660 dw_661 ?_
  refine lw_rd hx hb hX hbl hL hS1 hl 2 (by omega) rfl dw_662 dw_663 dw_664 dw_665 dw_666 ?_
  refine lw_virt (k' := Model_nearest) (ci := 7) (a3 := 5004) (a := 208) (v := 2) (As := [.int (I (xs (i + 1)).toInt), .int (I (xs (i + 2)).toInt)]) (r := [.int (I (sp_near Wo (xs (i + 1)).toInt (xs (i + 2)).toInt).1)]) hx hb hml hts hown hKk hH1 hS1 hl.1 (by decide) (by decide) (by decide +kernel) rfl (Nat.le_of_ble_eq_true rfl) hcm1 dw_667 ?_
  refine Mdl_near_c (by omega) w m1 (lw_i32 _) (lw_i32 _) (fun h2 c2 m2 H2 l2 hH2 hS2 => ?_)
  refine lv_icmp_eq (tgt := 919) hx hb dw_670 (by decide) (fun _ => ?_) (fun q => absurd rfl q)
  exact K (sp_near Wo (xs (i + 1)).toInt (xs (i + 2)).toInt).2 h2 H2 l2 w (p1.kp c2 (by omega)) m2 hH2 hS2
set_option maxHeartbeats 4000000 in
set_option maxRecDepth 100000 in
theorem law_c19 (C0 : lw_At p s m meth c b L xs) (hts : ∀ w ∈ lw_gd, w.before #[Value.ref b] s = true) (hKk : g_KK D cA s) (hL : L ≤ 2048) (hi : i + 4 ≤ L) (w : wfW Wo) (hp : pens h 0 Wo) (hm : mrep h 208 Wo) (hH : g_RH s.heap.size D cA h H) (hS : va_S (g_A s.heap.size) s.heap H locs) (hl : lv_has ls 4 [(0, .ref b), (1, .ref (s.heap.size + 0)), (2, .ref (s.heap.size + 208)), (3, .int (nI i))])
    (K : ∀ (W' : Wd) (h' : g_H) (H' : Heap) (locs' : List Loc), wfW W' → pens h' 0 W' → mrep h' 208 W' → g_RH s.heap.size D cA h' H' → va_S (g_A s.heap.size) s.heap H' locs' → W p l e room_1 s m #[Value.ref b] below meth c H' locs' 218 6435 (lw_Z below #[Value.ref b] s) (F0 m 919 ls [])) : W p l e room_1 s m #[Value.ref b] below meth c H locs 218 6435 (lw_Z below #[Value.ref b] s) (F0 m 675 ls []) := by
  obtain ⟨hx, hb, hr, hml, hown, ht0, hX, hbl, hlk, hgv⟩ := id C0
  obtain ⟨fsx, hcx⟩ := hp.cl
  refine lv_aload_n hx hb dw_675 rfl (lv_at hl 1 rfl) ?_
  refine lw_rd hx hb hX hbl hL hS hl 1 (by omega) rfl dw_676 dw_677 dw_678 dw_679 dw_680 ?_
  refine lw_rd hx hb hX hbl hL hS hl 2 (by omega) rfl dw_681 dw_682 dw_683 dw_684 dw_685 ?_
  refine lw_rd hx hb hX hbl hL hS hl 3 (by omega) rfl dw_686 dw_687 dw_688 dw_689 dw_690 ?_
  refine lw_virt (k' := Pens_isInside) (ci := 6) (a3 := 3049) (a := 0) (v := 3) (As := [.int (I (xs (i + 1)).toInt), .int (I (xs (i + 2)).toInt), .int (I (xs (i + 3)).toInt)]) (r := []) hx hb hml hts hown hKk hH hS hl.1 (by decide) (by decide) (by decide +kernel) rfl (Nat.le_of_ble_eq_true rfl) hcx dw_691 ?_
  refine Pens_ins_c (by omega) w hp (lw_i32 _) (lw_i32 _) (lw_i32 _) (fun h1 c1 p1 H1 l1 hH1 hS1 => ?_)
  have m1 := hm.kp c1 (by omega)
  obtain ⟨fs1, hcm1⟩ := m1.cl
  refine lv_aload_n hx hb dw_694 rfl (lv_at hl 2 rfl) ?_
  refine lw_rd hx hb hX hbl hL hS1 hl 1 (by omega) rfl dw_695 dw_696 dw_697 dw_698 dw_699 ?_
  refine lw_rd hx hb hX hbl hL hS1 hl 2 (by omega) rfl dw_700 dw_701 dw_702 dw_703 dw_704 ?_
  refine lw_rd hx hb hX hbl hL hS1 hl 3 (by omega) rfl dw_705 dw_706 dw_707 dw_708 dw_709 ?_
  refine lw_virt (k' := Model_isInside) (ci := 7) (a3 := 5008) (a := 208) (v := 3) (As := [.int (I (xs (i + 1)).toInt), .int (I (xs (i + 2)).toInt), .int (I (xs (i + 3)).toInt)]) (r := [.int (I (sp_ins Wo (xs (i + 1)).toInt (xs (i + 2)).toInt (xs (i + 3)).toInt).1)]) hx hb hml hts hown hKk hH1 hS1 hl.1 (by decide) (by decide) (by decide +kernel) rfl (Nat.le_of_ble_eq_true rfl) hcm1 dw_710 ?_
  refine Mdl_ins_c (by omega) w m1 (lw_i32 _) (lw_i32 _) (lw_i32 _) (fun h2 c2 m2 H2 l2 hH2 hS2 => ?_)
  refine lv_icmp_eq (tgt := 919) hx hb dw_713 (by decide) (fun _ => ?_) (fun q => absurd rfl q)
  exact K (sp_ins Wo (xs (i + 1)).toInt (xs (i + 2)).toInt (xs (i + 3)).toInt).2 h2 H2 l2 w (p1.kp c2 (by omega)) m2 hH2 hS2
set_option maxHeartbeats 4000000 in
set_option maxRecDepth 100000 in
theorem law_c20 (C0 : lw_At p s m meth c b L xs) (hts : ∀ w ∈ lw_gd, w.before #[Value.ref b] s = true) (hKk : g_KK D cA s) (hL : L ≤ 2048) (hi : i + 4 ≤ L) (w : wfW Wo) (hp : pens h 0 Wo) (hm : mrep h 208 Wo) (hH : g_RH s.heap.size D cA h H) (hS : va_S (g_A s.heap.size) s.heap H locs) (hl : lv_has ls 4 [(0, .ref b), (1, .ref (s.heap.size + 0)), (2, .ref (s.heap.size + 208)), (3, .int (nI i))])
    (K : ∀ (W' : Wd) (h' : g_H) (H' : Heap) (locs' : List Loc), wfW W' → pens h' 0 W' → mrep h' 208 W' → g_RH s.heap.size D cA h' H' → va_S (g_A s.heap.size) s.heap H' locs' → W p l e room_1 s m #[Value.ref b] below meth c H' locs' 218 6435 (lw_Z below #[Value.ref b] s) (F0 m 919 ls [])) : W p l e room_1 s m #[Value.ref b] below meth c H locs 218 6435 (lw_Z below #[Value.ref b] s) (F0 m 718 ls []) := by
  obtain ⟨hx, hb, hr, hml, hown, ht0, hX, hbl, hlk, hgv⟩ := id C0
  obtain ⟨fsx, hcx⟩ := hp.cl
  refine lv_aload_n hx hb dw_718 rfl (lv_at hl 1 rfl) ?_
  refine lw_rd hx hb hX hbl hL hS hl 1 (by omega) rfl dw_719 dw_720 dw_721 dw_722 dw_723 ?_
  refine lw_rd hx hb hX hbl hL hS hl 2 (by omega) rfl dw_724 dw_725 dw_726 dw_727 dw_728 ?_
  refine lw_virt (k' := Pens_ifSimplified) (ci := 6) (a3 := 3061) (a := 0) (v := 2) (As := [.int (I (xs (i + 1)).toInt), .int (I (xs (i + 2)).toInt)]) (r := []) hx hb hml hts hown hKk hH hS hl.1 (by decide) (by decide) (by decide +kernel) rfl (Nat.le_of_ble_eq_true rfl) hcx dw_729 ?_
  refine Pens_ifs_c (by omega) w hp (lw_i32 _) (lw_i32 _) (fun h1 c1 p1 H1 l1 hH1 hS1 => ?_)
  have m1 := hm.kp c1 (by omega)
  obtain ⟨fs1, hcm1⟩ := m1.cl
  refine lv_aload_n hx hb dw_732 rfl (lv_at hl 2 rfl) ?_
  refine lw_rd hx hb hX hbl hL hS1 hl 1 (by omega) rfl dw_733 dw_734 dw_735 dw_736 dw_737 ?_
  refine lw_rd hx hb hX hbl hL hS1 hl 2 (by omega) rfl dw_738 dw_739 dw_740 dw_741 dw_742 ?_
  refine lw_virt (k' := Model_ifSimplified) (ci := 7) (a3 := 5015) (a := 208) (v := 2) (As := [.int (I (xs (i + 1)).toInt), .int (I (xs (i + 2)).toInt)]) (r := [.int (I (sp_ifs Wo (xs (i + 1)).toInt (xs (i + 2)).toInt).1)]) hx hb hml hts hown hKk hH1 hS1 hl.1 (by decide) (by decide) (by decide +kernel) rfl (Nat.le_of_ble_eq_true rfl) hcm1 dw_743 ?_
  refine Mdl_ifs_c (by omega) w m1 (lw_i32 _) (lw_i32 _) (fun h2 c2 m2 H2 l2 hH2 hS2 => ?_)
  refine lv_icmp_eq (tgt := 919) hx hb dw_746 (by decide) (fun _ => ?_) (fun q => absurd rfl q)
  exact K (sp_ifs Wo (xs (i + 1)).toInt (xs (i + 2)).toInt).2 h2 H2 l2 w (p1.kp c2 (by omega)) m2 hH2 hS2
set_option maxHeartbeats 4000000 in
set_option maxRecDepth 100000 in
theorem law_c21 (C0 : lw_At p s m meth c b L xs) (hts : ∀ w ∈ lw_gd, w.before #[Value.ref b] s = true) (hKk : g_KK D cA s) (hL : L ≤ 2048) (hi : i + 4 ≤ L) (w : wfW Wo) (hp : pens h 0 Wo) (hm : mrep h 208 Wo) (hH : g_RH s.heap.size D cA h H) (hS : va_S (g_A s.heap.size) s.heap H locs) (hl : lv_has ls 4 [(0, .ref b), (1, .ref (s.heap.size + 0)), (2, .ref (s.heap.size + 208)), (3, .int (nI i))])
    (K : ∀ (W' : Wd) (h' : g_H) (H' : Heap) (locs' : List Loc), wfW W' → pens h' 0 W' → mrep h' 208 W' → g_RH s.heap.size D cA h' H' → va_S (g_A s.heap.size) s.heap H' locs' → W p l e room_1 s m #[Value.ref b] below meth c H' locs' 218 6435 (lw_Z below #[Value.ref b] s) (F0 m 919 ls [])) : W p l e room_1 s m #[Value.ref b] below meth c H locs 218 6435 (lw_Z below #[Value.ref b] s) (F0 m 751 ls []) := by
  obtain ⟨hx, hb, hr, hml, hown, ht0, hX, hbl, hlk, hgv⟩ := id C0
  obtain ⟨fsx, hcx⟩ := hp.cl
  refine lv_aload_n hx hb dw_751 rfl (lv_at hl 1 rfl) ?_
  refine lw_rd hx hb hX hbl hL hS hl 1 (by omega) rfl dw_752 dw_753 dw_754 dw_755 dw_756 ?_
  refine lw_rd hx hb hX hbl hL hS hl 2 (by omega) rfl dw_757 dw_758 dw_759 dw_760 dw_761 ?_
  refine lw_virt (k' := Pens_toleranceFor) (ci := 6) (a3 := 3065) (a := 0) (v := 2) (As := [.int (I (xs (i + 1)).toInt), .int (I (xs (i + 2)).toInt)]) (r := []) hx hb hml hts hown hKk hH hS hl.1 (by decide) (by decide) (by decide +kernel) rfl (Nat.le_of_ble_eq_true rfl) hcx dw_762 ?_
  refine Pens_tol_c (by omega) w hp (lw_i32 _) (lw_i32 _) (fun h1 c1 p1 H1 l1 hH1 hS1 => ?_)
  have m1 := hm.kp c1 (by omega)
  obtain ⟨fs1, hcm1⟩ := m1.cl
  refine lv_aload_n hx hb dw_765 rfl (lv_at hl 2 rfl) ?_
  refine lw_rd hx hb hX hbl hL hS1 hl 1 (by omega) rfl dw_766 dw_767 dw_768 dw_769 dw_770 ?_
  refine lw_rd hx hb hX hbl hL hS1 hl 2 (by omega) rfl dw_771 dw_772 dw_773 dw_774 dw_775 ?_
  refine lw_virt (k' := Model_toleranceFor) (ci := 7) (a3 := 5019) (a := 208) (v := 2) (As := [.int (I (xs (i + 1)).toInt), .int (I (xs (i + 2)).toInt)]) (r := [.int (I (sp_tol Wo (xs (i + 1)).toInt (xs (i + 2)).toInt).1)]) hx hb hml hts hown hKk hH1 hS1 hl.1 (by decide) (by decide) (by decide +kernel) rfl (Nat.le_of_ble_eq_true rfl) hcm1 dw_776 ?_
  refine Mdl_tol_c (by omega) w m1 (lw_i32 _) (lw_i32 _) (fun h2 c2 m2 H2 l2 hH2 hS2 => ?_)
  refine lv_icmp_eq (tgt := 919) hx hb dw_779 (by decide) (fun _ => ?_) (fun q => absurd rfl q)
  exact K (sp_tol Wo (xs (i + 1)).toInt (xs (i + 2)).toInt).2 h2 H2 l2 w (p1.kp c2 (by omega)) m2 hH2 hS2
set_option maxHeartbeats 4000000 in
set_option maxRecDepth 100000 in
theorem law_c22 (C0 : lw_At p s m meth c b L xs) (hts : ∀ w ∈ lw_gd, w.before #[Value.ref b] s = true) (hKk : g_KK D cA s) (hL : L ≤ 2048) (hi : i + 4 ≤ L) (w : wfW Wo) (hp : pens h 0 Wo) (hm : mrep h 208 Wo) (hH : g_RH s.heap.size D cA h H) (hS : va_S (g_A s.heap.size) s.heap H locs) (hl : lv_has ls 4 [(0, .ref b), (1, .ref (s.heap.size + 0)), (2, .ref (s.heap.size + 208)), (3, .int (nI i))])
    (K : ∀ (W' : Wd) (h' : g_H) (H' : Heap) (locs' : List Loc), wfW W' → pens h' 0 W' → mrep h' 208 W' → g_RH s.heap.size D cA h' H' → va_S (g_A s.heap.size) s.heap H' locs' → W p l e room_1 s m #[Value.ref b] below meth c H' locs' 218 6435 (lw_Z below #[Value.ref b] s) (F0 m 919 ls [])) : W p l e room_1 s m #[Value.ref b] below meth c H locs 218 6435 (lw_Z below #[Value.ref b] s) (F0 m 784 ls []) := by
  obtain ⟨hx, hb, hr, hml, hown, ht0, hX, hbl, hlk, hgv⟩ := id C0
  obtain ⟨fsx, hcx⟩ := hp.cl
  refine lv_aload_n hx hb dw_784 rfl (lv_at hl 1 rfl) ?_
  refine lw_rd hx hb hX hbl hL hS hl 1 (by omega) rfl dw_785 dw_786 dw_787 dw_788 dw_789 ?_
  refine lw_virt (k' := Pens_ifWelded) (ci := 6) (a3 := 3069) (a := 0) (v := 1) (As := [.int (I (xs (i + 1)).toInt)]) (r := []) hx hb hml hts hown hKk hH hS hl.1 (by decide) (by decide) (by decide +kernel) rfl (Nat.le_of_ble_eq_true rfl) hcx dw_790 ?_
  refine Pens_ifw_c (by omega) w hp (lw_i32 _) (fun h1 c1 p1 H1 l1 hH1 hS1 => ?_)
  have m1 := hm.kp c1 (by omega)
  obtain ⟨fs1, hcm1⟩ := m1.cl
  refine lv_aload_n hx hb dw_793 rfl (lv_at hl 2 rfl) ?_
  refine lw_rd hx hb hX hbl hL hS1 hl 1 (by omega) rfl dw_794 dw_795 dw_796 dw_797 dw_798 ?_
  refine lw_virt (k' := Model_ifWelded) (ci := 7) (a3 := 5023) (a := 208) (v := 1) (As := [.int (I (xs (i + 1)).toInt)]) (r := [.int (I (sp_ifw Wo (xs (i + 1)).toInt).1)]) hx hb hml hts hown hKk hH1 hS1 hl.1 (by decide) (by decide) (by decide +kernel) rfl (Nat.le_of_ble_eq_true rfl) hcm1 dw_799 ?_
  refine Mdl_ifw_c (by omega) w m1 (lw_i32 _) (fun h2 c2 m2 H2 l2 hH2 hS2 => ?_)
  refine lv_icmp_eq (tgt := 919) hx hb dw_802 (by decide) (fun _ => ?_) (fun q => absurd rfl q)
  exact K (sp_ifw Wo (xs (i + 1)).toInt).2 h2 H2 l2 w (p1.kp c2 (by omega)) m2 hH2 hS2
set_option maxHeartbeats 4000000 in
set_option maxRecDepth 100000 in
theorem law_c23 (C0 : lw_At p s m meth c b L xs) (hts : ∀ w ∈ lw_gd, w.before #[Value.ref b] s = true) (hKk : g_KK D cA s) (hL : L ≤ 2048) (hi : i + 4 ≤ L) (w : wfW Wo) (hp : pens h 0 Wo) (hm : mrep h 208 Wo) (hH : g_RH s.heap.size D cA h H) (hS : va_S (g_A s.heap.size) s.heap H locs) (hl : lv_has ls 4 [(0, .ref b), (1, .ref (s.heap.size + 0)), (2, .ref (s.heap.size + 208)), (3, .int (nI i))])
    (K : ∀ (W' : Wd) (h' : g_H) (H' : Heap) (locs' : List Loc), wfW W' → pens h' 0 W' → mrep h' 208 W' → g_RH s.heap.size D cA h' H' → va_S (g_A s.heap.size) s.heap H' locs' → W p l e room_1 s m #[Value.ref b] below meth c H' locs' 218 6435 (lw_Z below #[Value.ref b] s) (F0 m 919 ls [])) : W p l e room_1 s m #[Value.ref b] below meth c H locs 218 6435 (lw_Z below #[Value.ref b] s) (F0 m 807 ls []) := by
  obtain ⟨hx, hb, hr, hml, hown, ht0, hX, hbl, hlk, hgv⟩ := id C0
  obtain ⟨fsx, hcx⟩ := hp.cl
  refine lv_aload_n hx hb dw_807 rfl (lv_at hl 1 rfl) ?_
  refine lw_rd hx hb hX hbl hL hS hl 1 (by omega) rfl dw_808 dw_809 dw_810 dw_811 dw_812 ?_
  refine lw_virt (k' := Pens_type) (ci := 6) (a3 := 3074) (a := 0) (v := 1) (As := [.int (I (xs (i + 1)).toInt)]) (r := []) hx hb hml hts hown hKk hH hS hl.1 (by decide) (by decide) (by decide +kernel) rfl (Nat.le_of_ble_eq_true rfl) hcx dw_813 ?_
  refine Pens_type_c (by omega) hp (lw_i32 _) (fun h1 c1 p1 H1 l1 hH1 hS1 => ?_)
  have m1 := hm.kp c1 (by omega)
  obtain ⟨fs1, hcm1⟩ := m1.cl
  refine lv_aload_n hx hb dw_816 rfl (lv_at hl 2 rfl) ?_
  refine lw_rd hx hb hX hbl hL hS1 hl 1 (by omega) rfl dw_817 dw_818 dw_819 dw_820 dw_821 ?_
  refine lw_virt (k' := Model_type) (ci := 7) (a3 := 5027) (a := 208) (v := 1) (As := [.int (I (xs (i + 1)).toInt)]) (r := [.int (I (sp_type Wo (xs (i + 1)).toInt).1)]) hx hb hml hts hown hKk hH1 hS1 hl.1 (by decide) (by decide) (by decide +kernel) rfl (Nat.le_of_ble_eq_true rfl) hcm1 dw_822 ?_
  refine Mdl_type_c (by omega) w m1 (lw_i32 _) (fun h2 c2 m2 H2 l2 hH2 hS2 => ?_)
  refine lv_icmp_eq (tgt := 919) hx hb dw_825 (by decide) (fun _ => ?_) (fun q => absurd rfl q)
  exact K (sp_type Wo (xs (i + 1)).toInt).2 h2 H2 l2 (kp_type w _) (p1.kp c2 (by omega)) m2 hH2 hS2
set_option maxHeartbeats 4000000 in
set_option maxRecDepth 100000 in
theorem law_c24 (C0 : lw_At p s m meth c b L xs) (hts : ∀ w ∈ lw_gd, w.before #[Value.ref b] s = true) (hKk : g_KK D cA s) (hL : L ≤ 2048) (hi : i + 4 ≤ L) (w : wfW Wo) (hp : pens h 0 Wo) (hm : mrep h 208 Wo) (hH : g_RH s.heap.size D cA h H) (hS : va_S (g_A s.heap.size) s.heap H locs) (hl : lv_has ls 4 [(0, .ref b), (1, .ref (s.heap.size + 0)), (2, .ref (s.heap.size + 208)), (3, .int (nI i))])
    (K : ∀ (W' : Wd) (h' : g_H) (H' : Heap) (locs' : List Loc), wfW W' → pens h' 0 W' → mrep h' 208 W' → g_RH s.heap.size D cA h' H' → va_S (g_A s.heap.size) s.heap H' locs' → W p l e room_1 s m #[Value.ref b] below meth c H' locs' 218 6435 (lw_Z below #[Value.ref b] s) (F0 m 919 ls [])) : W p l e room_1 s m #[Value.ref b] below meth c H locs 218 6435 (lw_Z below #[Value.ref b] s) (F0 m 830 ls []) := by
  obtain ⟨hx, hb, hr, hml, hown, ht0, hX, hbl, hlk, hgv⟩ := id C0
  obtain ⟨fsx, hcx⟩ := hp.cl
  refine lv_aload_n hx hb dw_830 rfl (lv_at hl 1 rfl) ?_
  refine lw_virt (k' := Pens_clearText) (ci := 6) (a3 := 3082) (a := 0) (v := 0) (As := []) (r := []) hx hb hml hts hown hKk hH hS hl.1 (by decide) (by decide) (by decide +kernel) rfl (Nat.le_of_ble_eq_true rfl) hcx dw_831 ?_
  refine Pens_clear_c hp  (fun h1 c1 p1 H1 l1 hH1 hS1 => ?_)
  have m1 := hm.kp c1 (by omega)
  obtain ⟨fs1, hcm1⟩ := m1.cl
  refine lv_aload_n hx hb dw_834 rfl (lv_at hl 2 rfl) ?_
  refine lw_virt (k' := Model_clearText) (ci := 7) (a3 := 5031) (a := 208) (v := 0) (As := []) (r := [.int (I (sp_clear Wo).1)]) hx hb hml hts hown hKk hH1 hS1 hl.1 (by decide) (by decide) (by decide +kernel) rfl (Nat.le_of_ble_eq_true rfl) hcm1 dw_835 ?_
  refine Mdl_clear_c (by omega) w m1  (fun h2 c2 m2 H2 l2 hH2 hS2 => ?_)
  refine lv_icmp_eq (tgt := 919) hx hb dw_838 (by decide) (fun _ => ?_) (fun q => absurd rfl q)
  exact K (sp_clear Wo).2 h2 H2 l2 (kp_clear w) (p1.kp c2 (by omega)) m2 hH2 hS2
set_option maxHeartbeats 4000000 in
set_option maxRecDepth 100000 in
theorem law_c25 (C0 : lw_At p s m meth c b L xs) (hts : ∀ w ∈ lw_gd, w.before #[Value.ref b] s = true) (hKk : g_KK D cA s) (hL : L ≤ 2048) (hi : i + 4 ≤ L) (w : wfW Wo) (hp : pens h 0 Wo) (hm : mrep h 208 Wo) (hH : g_RH s.heap.size D cA h H) (hS : va_S (g_A s.heap.size) s.heap H locs) (hl : lv_has ls 4 [(0, .ref b), (1, .ref (s.heap.size + 0)), (2, .ref (s.heap.size + 208)), (3, .int (nI i))])
    (K : ∀ (W' : Wd) (h' : g_H) (H' : Heap) (locs' : List Loc), wfW W' → pens h' 0 W' → mrep h' 208 W' → g_RH s.heap.size D cA h' H' → va_S (g_A s.heap.size) s.heap H' locs' → W p l e room_1 s m #[Value.ref b] below meth c H' locs' 218 6435 (lw_Z below #[Value.ref b] s) (F0 m 919 ls [])) : W p l e room_1 s m #[Value.ref b] below meth c H locs 218 6435 (lw_Z below #[Value.ref b] s) (F0 m 843 ls []) := by
  obtain ⟨hx, hb, hr, hml, hown, ht0, hX, hbl, hlk, hgv⟩ := id C0
  obtain ⟨fsx, hcx⟩ := hp.cl
  refine lv_aload_n hx hb dw_843 rfl (lv_at hl 1 rfl) ?_
  refine lw_virt (k' := Pens_syntaxError) (ci := 6) (a3 := 3086) (a := 0) (v := 0) (As := []) (r := []) hx hb hml hts hown hKk hH hS hl.1 (by decide) (by decide) (by decide +kernel) rfl (Nat.le_of_ble_eq_true rfl) hcx dw_844 ?_
  refine Pens_syn_c (by omega) w hp  (fun h1 c1 p1 H1 l1 hH1 hS1 => ?_)
  have m1 := hm.kp c1 (by omega)
  obtain ⟨fs1, hcm1⟩ := m1.cl
  refine lv_aload_n hx hb dw_847 rfl (lv_at hl 2 rfl) ?_
  refine lw_virt (k' := Model_syntaxError) (ci := 7) (a3 := 5035) (a := 208) (v := 0) (As := []) (r := [.int (I (sp_syn Wo).1)]) hx hb hml hts hown hKk hH1 hS1 hl.1 (by decide) (by decide) (by decide +kernel) rfl (Nat.le_of_ble_eq_true rfl) hcm1 dw_848 ?_
  refine Mdl_syn_c (by omega) w m1  (fun h2 c2 m2 H2 l2 hH2 hS2 => ?_)
  refine lv_icmp_eq (tgt := 919) hx hb dw_851 (by decide) (fun _ => ?_) (fun q => absurd rfl q)
  exact K (sp_syn Wo).2 h2 H2 l2 w (p1.kp c2 (by omega)) m2 hH2 hS2
set_option maxHeartbeats 4000000 in
set_option maxRecDepth 100000 in
theorem law_c26 (C0 : lw_At p s m meth c b L xs) (hts : ∀ w ∈ lw_gd, w.before #[Value.ref b] s = true) (hKk : g_KK D cA s) (hL : L ≤ 2048) (hi : i + 4 ≤ L) (w : wfW Wo) (hp : pens h 0 Wo) (hm : mrep h 208 Wo) (hH : g_RH s.heap.size D cA h H) (hS : va_S (g_A s.heap.size) s.heap H locs) (hl : lv_has ls 4 [(0, .ref b), (1, .ref (s.heap.size + 0)), (2, .ref (s.heap.size + 208)), (3, .int (nI i))])
    (K : ∀ (W' : Wd) (h' : g_H) (H' : Heap) (locs' : List Loc), wfW W' → pens h' 0 W' → mrep h' 208 W' → g_RH s.heap.size D cA h' H' → va_S (g_A s.heap.size) s.heap H' locs' → W p l e room_1 s m #[Value.ref b] below meth c H' locs' 218 6435 (lw_Z below #[Value.ref b] s) (F0 m 919 ls [])) : W p l e room_1 s m #[Value.ref b] below meth c H locs 218 6435 (lw_Z below #[Value.ref b] s) (F0 m 856 ls []) := by
  obtain ⟨hx, hb, hr, hml, hown, ht0, hX, hbl, hlk, hgv⟩ := id C0
  obtain ⟨fsx, hcx⟩ := hp.cl
  refine lv_aload_n hx hb dw_856 rfl (lv_at hl 1 rfl) ?_
  refine lw_virt (k' := Pens_read) (ci := 6) (a3 := 3104) (a := 0) (v := 0) (As := []) (r := []) hx hb hml hts hown hKk hH hS hl.1 (by decide) (by decide) (by decide +kernel) rfl (Nat.le_of_ble_eq_true rfl) hcx dw_857 ?_
  refine Pens_read_c (by omega) w hp  (fun h1 c1 p1 H1 l1 hH1 hS1 => ?_)
  have m1 := hm.kp c1 (by omega)
  obtain ⟨fs1, hcm1⟩ := m1.cl
  refine lv_aload_n hx hb dw_860 rfl (lv_at hl 2 rfl) ?_
  refine lw_virt (k' := Model_read) (ci := 7) (a3 := 5071) (a := 208) (v := 0) (As := []) (r := [.int (I (sp_read Wo).1)]) hx hb hml hts hown hKk hH1 hS1 hl.1 (by decide) (by decide) (by decide +kernel) rfl (Nat.le_of_ble_eq_true rfl) hcm1 dw_861 ?_
  refine Mdl_read_c (by omega) w m1  (fun h2 c2 m2 H2 l2 hH2 hS2 => ?_)
  refine lv_icmp_eq (tgt := 919) hx hb dw_864 (by decide) (fun _ => ?_) (fun q => absurd rfl q)
  exact K (sp_read Wo).2 h2 H2 l2 (kp_read w) (p1.kp c2 (by omega)) m2 hH2 hS2
set_option maxHeartbeats 4000000 in
set_option maxRecDepth 100000 in
theorem law_c27 (C0 : lw_At p s m meth c b L xs) (hts : ∀ w ∈ lw_gd, w.before #[Value.ref b] s = true) (hKk : g_KK D cA s) (hL : L ≤ 2048) (hi : i + 4 ≤ L) (w : wfW Wo) (hp : pens h 0 Wo) (hm : mrep h 208 Wo) (hH : g_RH s.heap.size D cA h H) (hS : va_S (g_A s.heap.size) s.heap H locs) (hl : lv_has ls 4 [(0, .ref b), (1, .ref (s.heap.size + 0)), (2, .ref (s.heap.size + 208)), (3, .int (nI i))])
    (K : ∀ (W' : Wd) (h' : g_H) (H' : Heap) (locs' : List Loc), wfW W' → pens h' 0 W' → mrep h' 208 W' → g_RH s.heap.size D cA h' H' → va_S (g_A s.heap.size) s.heap H' locs' → W p l e room_1 s m #[Value.ref b] below meth c H' locs' 218 6435 (lw_Z below #[Value.ref b] s) (F0 m 919 ls [])) : W p l e room_1 s m #[Value.ref b] below meth c H locs 218 6435 (lw_Z below #[Value.ref b] s) (F0 m 869 ls []) := by
  obtain ⟨hx, hb, hr, hml, hown, ht0, hX, hbl, hlk, hgv⟩ := id C0
  obtain ⟨fsx, hcx⟩ := hp.cl
  refine lv_aload_n hx hb dw_869 rfl (lv_at hl 1 rfl) ?_
  refine lw_rd hx hb hX hbl hL hS hl 1 (by omega) rfl dw_870 dw_871 dw_872 dw_873 dw_874 ?_
  refine lw_virt (k' := Pens_problem) (ci := 6) (a3 := 3121) (a := 0) (v := 1) (As := [.int (I (xs (i + 1)).toInt)]) (r := []) hx hb hml hts hown hKk hH hS hl.1 (by decide) (by decide) (by decide +kernel) rfl (Nat.le_of_ble_eq_true rfl) hcx dw_875 ?_
  refine Pens_prob_c hp (lw_i32 _) (fun h1 c1 p1 H1 l1 hH1 hS1 => ?_)
  have m1 := hm.kp c1 (by omega)
  obtain ⟨fs1, hcm1⟩ := m1.cl
  refine lv_aload_n hx hb dw_878 rfl (lv_at hl 2 rfl) ?_
  refine lw_rd hx hb hX hbl hL hS1 hl 1 (by omega) rfl dw_879 dw_880 dw_881 dw_882 dw_883 ?_
  refine lw_virt (k' := Model_problem) (ci := 7) (a3 := 5079) (a := 208) (v := 1) (As := [.int (I (xs (i + 1)).toInt)]) (r := [.int (I (sp_prob Wo (xs (i + 1)).toInt).1)]) hx hb hml hts hown hKk hH1 hS1 hl.1 (by decide) (by decide) (by decide +kernel) rfl (Nat.le_of_ble_eq_true rfl) hcm1 dw_884 ?_
  refine Mdl_prob_c (by omega) w m1 (lw_i32 _) (fun h2 c2 m2 H2 l2 hH2 hS2 => ?_)
  refine lv_icmp_eq (tgt := 919) hx hb dw_887 (by decide) (fun _ => ?_) (fun q => absurd rfl q)
  exact K (sp_prob Wo (xs (i + 1)).toInt).2 h2 H2 l2 w (p1.kp c2 (by omega)) m2 hH2 hS2
set_option maxHeartbeats 4000000 in
set_option maxRecDepth 100000 in
theorem law_c28 (C0 : lw_At p s m meth c b L xs) (hts : ∀ w ∈ lw_gd, w.before #[Value.ref b] s = true) (hKk : g_KK D cA s) (hL : L ≤ 2048) (hi : i + 4 ≤ L) (w : wfW Wo) (hp : pens h 0 Wo) (hm : mrep h 208 Wo) (hH : g_RH s.heap.size D cA h H) (hS : va_S (g_A s.heap.size) s.heap H locs) (hl : lv_has ls 4 [(0, .ref b), (1, .ref (s.heap.size + 0)), (2, .ref (s.heap.size + 208)), (3, .int (nI i))])
    (K : ∀ (W' : Wd) (h' : g_H) (H' : Heap) (locs' : List Loc), wfW W' → pens h' 0 W' → mrep h' 208 W' → g_RH s.heap.size D cA h' H' → va_S (g_A s.heap.size) s.heap H' locs' → W p l e room_1 s m #[Value.ref b] below meth c H' locs' 218 6435 (lw_Z below #[Value.ref b] s) (F0 m 919 ls [])) : W p l e room_1 s m #[Value.ref b] below meth c H locs 218 6435 (lw_Z below #[Value.ref b] s) (F0 m 892 ls []) := by
  obtain ⟨hx, hb, hr, hml, hown, ht0, hX, hbl, hlk, hgv⟩ := id C0
  obtain ⟨fsx, hcx⟩ := hp.cl
  refine lv_aload_n hx hb dw_892 rfl (lv_at hl 1 rfl) ?_
  refine lw_virt (k' := Pens_undo) (ci := 6) (a3 := 3125) (a := 0) (v := 0) (As := []) (r := []) hx hb hml hts hown hKk hH hS hl.1 (by decide) (by decide) (by decide +kernel) rfl (Nat.le_of_ble_eq_true rfl) hcx dw_893 ?_
  refine Pens_undo_c (by omega) w hp  (fun h1 c1 p1 H1 l1 hH1 hS1 => ?_)
  have m1 := hm.kp c1 (by omega)
  obtain ⟨fs1, hcm1⟩ := m1.cl
  refine lv_aload_n hx hb dw_896 rfl (lv_at hl 2 rfl) ?_
  refine lw_virt (k' := Model_undo) (ci := 7) (a3 := 5083) (a := 208) (v := 0) (As := []) (r := [.int (I (sp_undo Wo).1)]) hx hb hml hts hown hKk hH1 hS1 hl.1 (by decide) (by decide) (by decide +kernel) rfl (Nat.le_of_ble_eq_true rfl) hcm1 dw_897 ?_
  refine Mdl_undo_c (by omega) w m1  (fun h2 c2 m2 H2 l2 hH2 hS2 => ?_)
  refine lv_icmp_eq (tgt := 919) hx hb dw_900 (by decide) (fun _ => ?_) (fun q => absurd rfl q)
  exact K (sp_undo Wo).2 h2 H2 l2 (kp_undo w) (p1.kp c2 (by omega)) m2 hH2 hS2
set_option maxHeartbeats 4000000 in
set_option maxRecDepth 100000 in
theorem law_c29 (C0 : lw_At p s m meth c b L xs) (hts : ∀ w ∈ lw_gd, w.before #[Value.ref b] s = true) (hKk : g_KK D cA s) (hL : L ≤ 2048) (hi : i + 4 ≤ L) (w : wfW Wo) (hp : pens h 0 Wo) (hm : mrep h 208 Wo) (hH : g_RH s.heap.size D cA h H) (hS : va_S (g_A s.heap.size) s.heap H locs) (hl : lv_has ls 4 [(0, .ref b), (1, .ref (s.heap.size + 0)), (2, .ref (s.heap.size + 208)), (3, .int (nI i))])
    (K : ∀ (W' : Wd) (h' : g_H) (H' : Heap) (locs' : List Loc), wfW W' → pens h' 0 W' → mrep h' 208 W' → g_RH s.heap.size D cA h' H' → va_S (g_A s.heap.size) s.heap H' locs' → W p l e room_1 s m #[Value.ref b] below meth c H' locs' 218 6435 (lw_Z below #[Value.ref b] s) (F0 m 919 ls [])) : W p l e room_1 s m #[Value.ref b] below meth c H locs 218 6435 (lw_Z below #[Value.ref b] s) (F0 m 905 ls []) := by
  obtain ⟨hx, hb, hr, hml, hown, ht0, hX, hbl, hlk, hgv⟩ := id C0
  obtain ⟨fsx, hcx⟩ := hp.cl
  refine lv_aload_n hx hb dw_905 rfl (lv_at hl 1 rfl) ?_
  refine lw_virt (k' := Pens_digest) (ci := 6) (a3 := 3133) (a := 0) (v := 0) (As := []) (r := []) hx hb hml hts hown hKk hH hS hl.1 (by decide) (by decide) (by decide +kernel) rfl (Nat.le_of_ble_eq_true rfl) hcx dw_906 ?_
  refine Pens_dig_c (by omega) w hp (fun H1 l1 hH1 hS1 => ?_)
  have m1 := hm
  have p1 := hp
  obtain ⟨fs1, hcm1⟩ := m1.cl
  refine lv_aload_n hx hb dw_909 rfl (lv_at hl 2 rfl) ?_
  refine lw_virt (k' := Model_digest) (ci := 7) (a3 := 5087) (a := 208) (v := 0) (As := []) (r := [.long (J (sp_dig Wo).1)]) hx hb hml hts hown hKk hH1 hS1 hl.1 (by decide) (by decide) (by decide +kernel) rfl (Nat.le_of_ble_eq_true rfl) hcm1 dw_910 ?_
  refine Mdl_dig_c (by omega) w m1 (fun H2 l2 hH2 hS2 => ?_)
  refine W.lcmp hx hb dw_913 ?_
  rw [lw_cmp]
  refine lv_if_eq (tgt := 919) hx hb dw_914 (by decide) (fun _ => ?_) (fun q => absurd rfl q)
  exact K Wo _ H2 l2 w p1 m1 hH2 hS2
end LWC
