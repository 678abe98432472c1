theorem dL_law_0 : decode cL_law 0 = .ok (.new 7, 3) := by decide +kernel
theorem dL_law_3 : decode cL_law 3 = .ok (.dup, 1) := by decide +kernel
theorem dL_law_4 : decode cL_law 4 = .ok (.invokespecial 9, 3) := by decide +kernel
theorem dL_law_7 : decode cL_law 7 = .ok (.astore_n 1, 1) := by decide +kernel
theorem dL_law_8 : decode cL_law 8 = .ok (.new 10, 3) := by decide +kernel
theorem dL_law_11 : decode cL_law 11 = .ok (.dup, 1) := by decide +kernel
theorem dL_law_12 : decode cL_law 12 = .ok (.invokespecial 12, 3) := by decide +kernel
theorem dL_law_15 : decode cL_law 15 = .ok (.astore_n 2, 1) := by decide +kernel
theorem dL_law_16 : decode cL_law 16 = .ok (.iconst 0, 1) := by decide +kernel
theorem dL_law_17 : decode cL_law 17 = .ok (.istore_n 3, 1) := by decide +kernel
theorem dL_law_18 : decode cL_law 18 = .ok (.iload_n 3, 1) := by decide +kernel
theorem dL_law_19 : decode cL_law 19 = .ok (.aload_n 0, 1) := by decide +kernel
theorem dL_law_20 : decode cL_law 20 = .ok (.arraylength, 1) := by decide +kernel
theorem dL_law_21 : decode cL_law 21 = .ok (.bipush 6, 2) := by decide +kernel
theorem dL_law_23 : decode cL_law 23 = .ok (.isub, 1) := by decide +kernel
theorem dL_law_24 : decode cL_law 24 = .ok (.if_icmp .gt 1470, 3) := by decide +kernel
theorem dL_law_27 : decode cL_law 27 = .ok (.aload_n 0, 1) := by decide +kernel
theorem dL_law_28 : decode cL_law 28 = .ok (.iload_n 3, 1) := by decide +kernel
theorem dL_law_29 : decode cL_law 29 = .ok (.iaload, 1) := by decide +kernel
theorem dL_law_30 : decode cL_law 30 = .ok (.bipush 63, 2) := by decide +kernel
theorem dL_law_32 : decode cL_law 32 = .ok (.iand, 1) := by decide +kernel
theorem dL_law_33 : decode cL_law 33 = .ok (.tableswitch 1455 0 39 #[175, 218, 241, 314, 357, 420, 463, 496, 519, 552, 595, 628, 651, 684, 707, 740, 763, 816, 849, 872, 895, 928, 961, 984, 1007, 1050, 1093, 1136, 1169, 1192, 1225, 1258, 1291, 1314, 1337, 1360, 1383, 1406, 1419, 1432], 175) := by decide +kernel
theorem dL_law_208 : decode cL_law 208 = .ok (.aload_n 1, 1) := by decide +kernel
theorem dL_law_209 : decode cL_law 209 = .ok (.aload_n 0, 1) := by decide +kernel
theorem dL_law_210 : decode cL_law 210 = .ok (.iload_n 3, 1) := by decide +kernel
theorem dL_law_211 : decode cL_law 211 = .ok (.iconst 1, 1) := by decide +kernel
theorem dL_law_212 : decode cL_law 212 = .ok (.iadd, 1) := by decide +kernel
theorem dL_law_213 : decode cL_law 213 = .ok (.iaload, 1) := by decide +kernel
theorem dL_law_214 : decode cL_law 214 = .ok (.aload_n 0, 1) := by decide +kernel
theorem dL_law_215 : decode cL_law 215 = .ok (.iload_n 3, 1) := by decide +kernel
theorem dL_law_216 : decode cL_law 216 = .ok (.iconst 2, 1) := by decide +kernel
theorem dL_law_217 : decode cL_law 217 = .ok (.iadd, 1) := by decide +kernel
theorem dL_law_218 : decode cL_law 218 = .ok (.iaload, 1) := by decide +kernel
theorem dL_law_219 : decode cL_law 219 = .ok (.aload_n 0, 1) := by decide +kernel
theorem dL_law_220 : decode cL_law 220 = .ok (.iload_n 3, 1) := by decide +kernel
theorem dL_law_221 : decode cL_law 221 = .ok (.iconst 3, 1) := by decide +kernel
theorem dL_law_222 : decode cL_law 222 = .ok (.iadd, 1) := by decide +kernel
theorem dL_law_223 : decode cL_law 223 = .ok (.iaload, 1) := by decide +kernel
theorem dL_law_224 : decode cL_law 224 = .ok (.invokevirtual 13, 3) := by decide +kernel
theorem dL_law_227 : decode cL_law 227 = .ok (.aload_n 2, 1) := by decide +kernel
theorem dL_law_228 : decode cL_law 228 = .ok (.aload_n 0, 1) := by decide +kernel
theorem dL_law_229 : decode cL_law 229 = .ok (.iload_n 3, 1) := by decide +kernel
theorem dL_law_230 : decode cL_law 230 = .ok (.iconst 1, 1) := by decide +kernel
theorem dL_law_231 : decode cL_law 231 = .ok (.iadd, 1) := by decide +kernel
theorem dL_law_232 : decode cL_law 232 = .ok (.iaload, 1) := by decide +kernel
theorem dL_law_233 : decode cL_law 233 = .ok (.aload_n 0, 1) := by decide +kernel
theorem dL_law_234 : decode cL_law 234 = .ok (.iload_n 3, 1) := by decide +kernel
theorem dL_law_235 : decode cL_law 235 = .ok (.iconst 2, 1) := by decide +kernel
theorem dL_law_236 : decode cL_law 236 = .ok (.iadd, 1) := by decide +kernel
theorem dL_law_237 : decode cL_law 237 = .ok (.iaload, 1) := by decide +kernel
theorem dL_law_238 : decode cL_law 238 = .ok (.aload_n 0, 1) := by decide +kernel
theorem dL_law_239 : decode cL_law 239 = .ok (.iload_n 3, 1) := by decide +kernel
theorem dL_law_240 : decode cL_law 240 = .ok (.iconst 3, 1) := by decide +kernel
theorem dL_law_241 : decode cL_law 241 = .ok (.iadd, 1) := by decide +kernel
theorem dL_law_242 : decode cL_law 242 = .ok (.iaload, 1) := by decide +kernel
theorem dL_law_243 : decode cL_law 243 = .ok (.invokevirtual 17, 3) := by decide +kernel
theorem dL_law_246 : decode cL_law 246 = .ok (.if_icmp .eq 1242, 3) := by decide +kernel
theorem dL_law_249 : decode cL_law 249 = .ok (.iconst 0, 1) := by decide +kernel
theorem dL_law_250 : decode cL_law 250 = .ok (.ireturn, 1) := by decide +kernel
theorem dL_law_251 : decode cL_law 251 = .ok (.aload_n 1, 1) := by decide +kernel
theorem dL_law_252 : decode cL_law 252 = .ok (.aload_n 0, 1) := by decide +kernel
theorem dL_law_253 : decode cL_law 253 = .ok (.iload_n 3, 1) := by decide +kernel
theorem dL_law_254 : decode cL_law 254 = .ok (.iconst 1, 1) := by decide +kernel
theorem dL_law_255 : decode cL_law 255 = .ok (.iadd, 1) := by decide +kernel
theorem dL_law_256 : decode cL_law 256 = .ok (.iaload, 1) := by decide +kernel
theorem dL_law_257 : decode cL_law 257 = .ok (.invokevirtual 18, 3) := by decide +kernel
theorem dL_law_260 : decode cL_law 260 = .ok (.aload_n 2, 1) := by decide +kernel
theorem dL_law_261 : decode cL_law 261 = .ok (.aload_n 0, 1) := by decide +kernel
theorem dL_law_262 : decode cL_law 262 = .ok (.iload_n 3, 1) := by decide +kernel
theorem dL_law_263 : decode cL_law 263 = .ok (.iconst 1, 1) := by decide +kernel
theorem dL_law_264 : decode cL_law 264 = .ok (.iadd, 1) := by decide +kernel
theorem dL_law_265 : decode cL_law 265 = .ok (.iaload, 1) := by decide +kernel
theorem dL_law_266 : decode cL_law 266 = .ok (.invokevirtual 22, 3) := by decide +kernel
theorem dL_law_269 : decode cL_law 269 = .ok (.if_icmp .eq 1219, 3) := by decide +kernel
theorem dL_law_272 : decode cL_law 272 = .ok (.iconst 0, 1) := by decide +kernel
theorem dL_law_273 : decode cL_law 273 = .ok (.ireturn, 1) := by decide +kernel
theorem dL_law_274 : decode cL_law 274 = .ok (.aload_n 1, 1) := by decide +kernel
theorem dL_law_275 : decode cL_law 275 = .ok (.aload_n 0, 1) := by decide +kernel
theorem dL_law_276 : decode cL_law 276 = .ok (.iload_n 3, 1) := by decide +kernel
theorem dL_law_277 : decode cL_law 277 = .ok (.iconst 1, 1) := by decide +kernel
theorem dL_law_278 : decode cL_law 278 = .ok (.iadd, 1) := by decide +kernel
theorem dL_law_279 : decode cL_law 279 = .ok (.iaload, 1) := by decide +kernel
theorem dL_law_280 : decode cL_law 280 = .ok (.aload_n 0, 1) := by decide +kernel
theorem dL_law_281 : decode cL_law 281 = .ok (.iload_n 3, 1) := by decide +kernel
theorem dL_law_282 : decode cL_law 282 = .ok (.iconst 2, 1) := by decide +kernel
theorem dL_law_283 : decode cL_law 283 = .ok (.iadd, 1) := by decide +kernel
theorem dL_law_284 : decode cL_law 284 = .ok (.iaload, 1) := by decide +kernel
theorem dL_law_285 : decode cL_law 285 = .ok (.aload_n 0, 1) := by decide +kernel
theorem dL_law_286 : decode cL_law 286 = .ok (.iload_n 3, 1) := by decide +kernel
theorem dL_law_287 : decode cL_law 287 = .ok (.iconst 3, 1) := by decide +kernel
theorem dL_law_288 : decode cL_law 288 = .ok (.iadd, 1) := by decide +kernel
theorem dL_law_289 : decode cL_law 289 = .ok (.iaload, 1) := by decide +kernel
theorem dL_law_290 : decode cL_law 290 = .ok (.i2l, 1) := by decide +kernel
theorem dL_law_291 : decode cL_law 291 = .ok (.bipush 32, 2) := by decide +kernel
theorem dL_law_293 : decode cL_law 293 = .ok (.lshl, 1) := by decide +kernel
theorem dL_law_294 : decode cL_law 294 = .ok (.aload_n 0, 1) := by decide +kernel
theorem dL_law_295 : decode cL_law 295 = .ok (.iload_n 3, 1) := by decide +kernel
theorem dL_law_296 : decode cL_law 296 = .ok (.iconst 4, 1) := by decide +kernel
theorem dL_law_297 : decode cL_law 297 = .ok (.iadd, 1) := by decide +kernel
theorem dL_law_298 : decode cL_law 298 = .ok (.iaload, 1) := by decide +kernel
theorem dL_law_299 : decode cL_law 299 = .ok (.i2l, 1) := by decide +kernel
theorem dL_law_300 : decode cL_law 300 = .ok (.ldc2_w 23, 3) := by decide +kernel
theorem dL_law_303 : decode cL_law 303 = .ok (.land, 1) := by decide +kernel
theorem dL_law_304 : decode cL_law 304 = .ok (.lor, 1) := by decide +kernel
theorem dL_law_305 : decode cL_law 305 = .ok (.invokevirtual 25, 3) := by decide +kernel
theorem dL_law_308 : decode cL_law 308 = .ok (.aload_n 2, 1) := by decide +kernel
theorem dL_law_309 : decode cL_law 309 = .ok (.aload_n 0, 1) := by decide +kernel
theorem dL_law_310 : decode cL_law 310 = .ok (.iload_n 3, 1) := by decide +kernel
theorem dL_law_311 : decode cL_law 311 = .ok (.iconst 1, 1) := by decide +kernel
theorem dL_law_312 : decode cL_law 312 = .ok (.iadd, 1) := by decide +kernel
theorem dL_law_313 : decode cL_law 313 = .ok (.iaload, 1) := by decide +kernel
theorem dL_law_314 : decode cL_law 314 = .ok (.aload_n 0, 1) := by decide +kernel
theorem dL_law_315 : decode cL_law 315 = .ok (.iload_n 3, 1) := by decide +kernel
theorem dL_law_316 : decode cL_law 316 = .ok (.iconst 2, 1) := by decide +kernel
theorem dL_law_317 : decode cL_law 317 = .ok (.iadd, 1) := by decide +kernel
theorem dL_law_318 : decode cL_law 318 = .ok (.iaload, 1) := by decide +kernel
theorem dL_law_319 : decode cL_law 319 = .ok (.aload_n 0, 1) := by decide +kernel
theorem dL_law_320 : decode cL_law 320 = .ok (.iload_n 3, 1) := by decide +kernel
theorem dL_law_321 : decode cL_law 321 = .ok (.iconst 3, 1) := by decide +kernel
theorem dL_law_322 : decode cL_law 322 = .ok (.iadd, 1) := by decide +kernel
theorem dL_law_323 : decode cL_law 323 = .ok (.iaload, 1) := by decide +kernel
theorem dL_law_324 : decode cL_law 324 = .ok (.i2l, 1) := by decide +kernel
theorem dL_law_325 : decode cL_law 325 = .ok (.bipush 32, 2) := by decide +kernel
theorem dL_law_327 : decode cL_law 327 = .ok (.lshl, 1) := by decide +kernel
theorem dL_law_328 : decode cL_law 328 = .ok (.aload_n 0, 1) := by decide +kernel
theorem dL_law_329 : decode cL_law 329 = .ok (.iload_n 3, 1) := by decide +kernel
theorem dL_law_330 : decode cL_law 330 = .ok (.iconst 4, 1) := by decide +kernel
theorem dL_law_331 : decode cL_law 331 = .ok (.iadd, 1) := by decide +kernel
theorem dL_law_332 : decode cL_law 332 = .ok (.iaload, 1) := by decide +kernel
theorem dL_law_333 : decode cL_law 333 = .ok (.i2l, 1) := by decide +kernel
theorem dL_law_334 : decode cL_law 334 = .ok (.ldc2_w 23, 3) := by decide +kernel
theorem dL_law_337 : decode cL_law 337 = .ok (.land, 1) := by decide +kernel
theorem dL_law_338 : decode cL_law 338 = .ok (.lor, 1) := by decide +kernel
theorem dL_law_339 : decode cL_law 339 = .ok (.invokevirtual 29, 3) := by decide +kernel
theorem dL_law_342 : decode cL_law 342 = .ok (.if_icmp .eq 1146, 3) := by decide +kernel
theorem dL_law_345 : decode cL_law 345 = .ok (.iconst 0, 1) := by decide +kernel
theorem dL_law_346 : decode cL_law 346 = .ok (.ireturn, 1) := by decide +kernel
theorem dL_law_347 : decode cL_law 347 = .ok (.aload_n 1, 1) := by decide +kernel
theorem dL_law_348 : decode cL_law 348 = .ok (.aload_n 0, 1) := by decide +kernel
theorem dL_law_349 : decode cL_law 349 = .ok (.iload_n 3, 1) := by decide +kernel
theorem dL_law_350 : decode cL_law 350 = .ok (.iconst 1, 1) := by decide +kernel
theorem dL_law_351 : decode cL_law 351 = .ok (.iadd, 1) := by decide +kernel
theorem dL_law_352 : decode cL_law 352 = .ok (.iaload, 1) := by decide +kernel
theorem dL_law_353 : decode cL_law 353 = .ok (.aload_n 0, 1) := by decide +kernel
theorem dL_law_354 : decode cL_law 354 = .ok (.iload_n 3, 1) := by decide +kernel
theorem dL_law_355 : decode cL_law 355 = .ok (.iconst 2, 1) := by decide +kernel
theorem dL_law_356 : decode cL_law 356 = .ok (.iadd, 1) := by decide +kernel
theorem dL_law_357 : decode cL_law 357 = .ok (.iaload, 1) := by decide +kernel
theorem dL_law_358 : decode cL_law 358 = .ok (.aload_n 0, 1) := by decide +kernel
theorem dL_law_359 : decode cL_law 359 = .ok (.iload_n 3, 1) := by decide +kernel
theorem dL_law_360 : decode cL_law 360 = .ok (.iconst 3, 1) := by decide +kernel
theorem dL_law_361 : decode cL_law 361 = .ok (.iadd, 1) := by decide +kernel
theorem dL_law_362 : decode cL_law 362 = .ok (.iaload, 1) := by decide +kernel
theorem dL_law_363 : decode cL_law 363 = .ok (.invokevirtual 30, 3) := by decide +kernel
theorem dL_law_366 : decode cL_law 366 = .ok (.aload_n 2, 1) := by decide +kernel
theorem dL_law_367 : decode cL_law 367 = .ok (.aload_n 0, 1) := by decide +kernel
theorem dL_law_368 : decode cL_law 368 = .ok (.iload_n 3, 1) := by decide +kernel
theorem dL_law_369 : decode cL_law 369 = .ok (.iconst 1, 1) := by decide +kernel
theorem dL_law_370 : decode cL_law 370 = .ok (.iadd, 1) := by decide +kernel
theorem dL_law_371 : decode cL_law 371 = .ok (.iaload, 1) := by decide +kernel
theorem dL_law_372 : decode cL_law 372 = .ok (.aload_n 0, 1) := by decide +kernel
theorem dL_law_373 : decode cL_law 373 = .ok (.iload_n 3, 1) := by decide +kernel
theorem dL_law_374 : decode cL_law 374 = .ok (.iconst 2, 1) := by decide +kernel
theorem dL_law_375 : decode cL_law 375 = .ok (.iadd, 1) := by decide +kernel
theorem dL_law_376 : decode cL_law 376 = .ok (.iaload, 1) := by decide +kernel
theorem dL_law_377 : decode cL_law 377 = .ok (.aload_n 0, 1) := by decide +kernel
theorem dL_law_378 : decode cL_law 378 = .ok (.iload_n 3, 1) := by decide +kernel
theorem dL_law_379 : decode cL_law 379 = .ok (.iconst 3, 1) := by decide +kernel
theorem dL_law_380 : decode cL_law 380 = .ok (.iadd, 1) := by decide +kernel
theorem dL_law_381 : decode cL_law 381 = .ok (.iaload, 1) := by decide +kernel
theorem dL_law_382 : decode cL_law 382 = .ok (.invokevirtual 33, 3) := by decide +kernel
theorem dL_law_385 : decode cL_law 385 = .ok (.if_icmp .eq 1103, 3) := by decide +kernel
theorem dL_law_388 : decode cL_law 388 = .ok (.iconst 0, 1) := by decide +kernel
theorem dL_law_389 : decode cL_law 389 = .ok (.ireturn, 1) := by decide +kernel
theorem dL_law_390 : decode cL_law 390 = .ok (.aload_n 1, 1) := by decide +kernel
theorem dL_law_391 : decode cL_law 391 = .ok (.aload_n 0, 1) := by decide +kernel
theorem dL_law_392 : decode cL_law 392 = .ok (.iload_n 3, 1) := by decide +kernel
theorem dL_law_393 : decode cL_law 393 = .ok (.iconst 1, 1) := by decide +kernel
theorem dL_law_394 : decode cL_law 394 = .ok (.iadd, 1) := by decide +kernel
theorem dL_law_395 : decode cL_law 395 = .ok (.iaload, 1) := by decide +kernel
theorem dL_law_396 : decode cL_law 396 = .ok (.aload_n 0, 1) := by decide +kernel
theorem dL_law_397 : decode cL_law 397 = .ok (.iload_n 3, 1) := by decide +kernel
theorem dL_law_398 : decode cL_law 398 = .ok (.iconst 2, 1) := by decide +kernel
theorem dL_law_399 : decode cL_law 399 = .ok (.iadd, 1) := by decide +kernel
theorem dL_law_400 : decode cL_law 400 = .ok (.iaload, 1) := by decide +kernel
theorem dL_law_401 : decode cL_law 401 = .ok (.aload_n 0, 1) := by decide +kernel
theorem dL_law_402 : decode cL_law 402 = .ok (.iload_n 3, 1) := by decide +kernel
theorem dL_law_403 : decode cL_law 403 = .ok (.iconst 3, 1) := by decide +kernel
theorem dL_law_404 : decode cL_law 404 = .ok (.iadd, 1) := by decide +kernel
theorem dL_law_405 : decode cL_law 405 = .ok (.iaload, 1) := by decide +kernel
theorem dL_law_406 : decode cL_law 406 = .ok (.aload_n 0, 1) := by decide +kernel
theorem dL_law_407 : decode cL_law 407 = .ok (.iload_n 3, 1) := by decide +kernel
theorem dL_law_408 : decode cL_law 408 = .ok (.iconst 4, 1) := by decide +kernel
theorem dL_law_409 : decode cL_law 409 = .ok (.iadd, 1) := by decide +kernel
theorem dL_law_410 : decode cL_law 410 = .ok (.iaload, 1) := by decide +kernel
theorem dL_law_411 : decode cL_law 411 = .ok (.aload_n 0, 1) := by decide +kernel
theorem dL_law_412 : decode cL_law 412 = .ok (.iload_n 3, 1) := by decide +kernel
theorem dL_law_413 : decode cL_law 413 = .ok (.iconst 5, 1) := by decide +kernel
theorem dL_law_414 : decode cL_law 414 = .ok (.iadd, 1) := by decide +kernel
theorem dL_law_415 : decode cL_law 415 = .ok (.iaload, 1) := by decide +kernel
theorem dL_law_416 : decode cL_law 416 = .ok (.invokevirtual 34, 3) := by decide +kernel
theorem dL_law_419 : decode cL_law 419 = .ok (.aload_n 2, 1) := by decide +kernel
theorem dL_law_420 : decode cL_law 420 = .ok (.aload_n 0, 1) := by decide +kernel
theorem dL_law_421 : decode cL_law 421 = .ok (.iload_n 3, 1) := by decide +kernel
theorem dL_law_422 : decode cL_law 422 = .ok (.iconst 1, 1) := by decide +kernel
theorem dL_law_423 : decode cL_law 423 = .ok (.iadd, 1) := by decide +kernel
theorem dL_law_424 : decode cL_law 424 = .ok (.iaload, 1) := by decide +kernel
theorem dL_law_425 : decode cL_law 425 = .ok (.aload_n 0, 1) := by decide +kernel
theorem dL_law_426 : decode cL_law 426 = .ok (.iload_n 3, 1) := by decide +kernel
theorem dL_law_427 : decode cL_law 427 = .ok (.iconst 2, 1) := by decide +kernel
theorem dL_law_428 : decode cL_law 428 = .ok (.iadd, 1) := by decide +kernel
theorem dL_law_429 : decode cL_law 429 = .ok (.iaload, 1) := by decide +kernel
theorem dL_law_430 : decode cL_law 430 = .ok (.aload_n 0, 1) := by decide +kernel
theorem dL_law_431 : decode cL_law 431 = .ok (.iload_n 3, 1) := by decide +kernel
theorem dL_law_432 : decode cL_law 432 = .ok (.iconst 3, 1) := by decide +kernel
theorem dL_law_433 : decode cL_law 433 = .ok (.iadd, 1) := by decide +kernel
theorem dL_law_434 : decode cL_law 434 = .ok (.iaload, 1) := by decide +kernel
theorem dL_law_435 : decode cL_law 435 = .ok (.aload_n 0, 1) := by decide +kernel
theorem dL_law_436 : decode cL_law 436 = .ok (.iload_n 3, 1) := by decide +kernel
theorem dL_law_437 : decode cL_law 437 = .ok (.iconst 4, 1) := by decide +kernel
theorem dL_law_438 : decode cL_law 438 = .ok (.iadd, 1) := by decide +kernel
theorem dL_law_439 : decode cL_law 439 = .ok (.iaload, 1) := by decide +kernel
theorem dL_law_440 : decode cL_law 440 = .ok (.aload_n 0, 1) := by decide +kernel
theorem dL_law_441 : decode cL_law 441 = .ok (.iload_n 3, 1) := by decide +kernel
theorem dL_law_442 : decode cL_law 442 = .ok (.iconst 5, 1) := by decide +kernel
theorem dL_law_443 : decode cL_law 443 = .ok (.iadd, 1) := by decide +kernel
theorem dL_law_444 : decode cL_law 444 = .ok (.iaload, 1) := by decide +kernel
theorem dL_law_445 : decode cL_law 445 = .ok (.invokevirtual 38, 3) := by decide +kernel
theorem dL_law_448 : decode cL_law 448 = .ok (.if_icmp .eq 1040, 3) := by decide +kernel
theorem dL_law_451 : decode cL_law 451 = .ok (.iconst 0, 1) := by decide +kernel
theorem dL_law_452 : decode cL_law 452 = .ok (.ireturn, 1) := by decide +kernel
theorem dL_law_453 : decode cL_law 453 = .ok (.aload_n 1, 1) := by decide +kernel
theorem dL_law_454 : decode cL_law 454 = .ok (.aload_n 0, 1) := by decide +kernel
theorem dL_law_455 : decode cL_law 455 = .ok (.iload_n 3, 1) := by decide +kernel
theorem dL_law_456 : decode cL_law 456 = .ok (.iconst 1, 1) := by decide +kernel
theorem dL_law_457 : decode cL_law 457 = .ok (.iadd, 1) := by decide +kernel
theorem dL_law_458 : decode cL_law 458 = .ok (.iaload, 1) := by decide +kernel
theorem dL_law_459 : decode cL_law 459 = .ok (.aload_n 0, 1) := by decide +kernel
theorem dL_law_460 : decode cL_law 460 = .ok (.iload_n 3, 1) := by decide +kernel
theorem dL_law_461 : decode cL_law 461 = .ok (.iconst 2, 1) := by decide +kernel
theorem dL_law_462 : decode cL_law 462 = .ok (.iadd, 1) := by decide +kernel
theorem dL_law_463 : decode cL_law 463 = .ok (.iaload, 1) := by decide +kernel
theorem dL_law_464 : decode cL_law 464 = .ok (.aload_n 0, 1) := by decide +kernel
theorem dL_law_465 : decode cL_law 465 = .ok (.iload_n 3, 1) := by decide +kernel
theorem dL_law_466 : decode cL_law 466 = .ok (.iconst 3, 1) := by decide +kernel
theorem dL_law_467 : decode cL_law 467 = .ok (.iadd, 1) := by decide +kernel
theorem dL_law_468 : decode cL_law 468 = .ok (.iaload, 1) := by decide +kernel
theorem dL_law_469 : decode cL_law 469 = .ok (.invokevirtual 39, 3) := by decide +kernel
theorem dL_law_472 : decode cL_law 472 = .ok (.aload_n 2, 1) := by decide +kernel
theorem dL_law_473 : decode cL_law 473 = .ok (.aload_n 0, 1) := by decide +kernel
theorem dL_law_474 : decode cL_law 474 = .ok (.iload_n 3, 1) := by decide +kernel
theorem dL_law_475 : decode cL_law 475 = .ok (.iconst 1, 1) := by decide +kernel
theorem dL_law_476 : decode cL_law 476 = .ok (.iadd, 1) := by decide +kernel
theorem dL_law_477 : decode cL_law 477 = .ok (.iaload, 1) := by decide +kernel
theorem dL_law_478 : decode cL_law 478 = .ok (.aload_n 0, 1) := by decide +kernel
theorem dL_law_479 : decode cL_law 479 = .ok (.iload_n 3, 1) := by decide +kernel
theorem dL_law_480 : decode cL_law 480 = .ok (.iconst 2, 1) := by decide +kernel
theorem dL_law_481 : decode cL_law 481 = .ok (.iadd, 1) := by decide +kernel
theorem dL_law_482 : decode cL_law 482 = .ok (.iaload, 1) := by decide +kernel
theorem dL_law_483 : decode cL_law 483 = .ok (.aload_n 0, 1) := by decide +kernel
theorem dL_law_484 : decode cL_law 484 = .ok (.iload_n 3, 1) := by decide +kernel
theorem dL_law_485 : decode cL_law 485 = .ok (.iconst 3, 1) := by decide +kernel
theorem dL_law_486 : decode cL_law 486 = .ok (.iadd, 1) := by decide +kernel
theorem dL_law_487 : decode cL_law 487 = .ok (.iaload, 1) := by decide +kernel
theorem dL_law_488 : decode cL_law 488 = .ok (.invokevirtual 42, 3) := by decide +kernel
theorem dL_law_491 : decode cL_law 491 = .ok (.if_icmp .eq 997, 3) := by decide +kernel
theorem dL_law_494 : decode cL_law 494 = .ok (.iconst 0, 1) := by decide +kernel
theorem dL_law_495 : decode cL_law 495 = .ok (.ireturn, 1) := by decide +kernel
theorem dL_law_496 : decode cL_law 496 = .ok (.aload_n 1, 1) := by decide +kernel
theorem dL_law_497 : decode cL_law 497 = .ok (.aload_n 0, 1) := by decide +kernel
theorem dL_law_498 : decode cL_law 498 = .ok (.iload_n 3, 1) := by decide +kernel
theorem dL_law_499 : decode cL_law 499 = .ok (.iconst 1, 1) := by decide +kernel
theorem dL_law_500 : decode cL_law 500 = .ok (.iadd, 1) := by decide +kernel
theorem dL_law_501 : decode cL_law 501 = .ok (.iaload, 1) := by decide +kernel
theorem dL_law_502 : decode cL_law 502 = .ok (.aload_n 0, 1) := by decide +kernel
theorem dL_law_503 : decode cL_law 503 = .ok (.iload_n 3, 1) := by decide +kernel
theorem dL_law_504 : decode cL_law 504 = .ok (.iconst 2, 1) := by decide +kernel
theorem dL_law_505 : decode cL_law 505 = .ok (.iadd, 1) := by decide +kernel
theorem dL_law_506 : decode cL_law 506 = .ok (.iaload, 1) := by decide +kernel
theorem dL_law_507 : decode cL_law 507 = .ok (.invokevirtual 43, 3) := by decide +kernel
theorem dL_law_510 : decode cL_law 510 = .ok (.aload_n 2, 1) := by decide +kernel
theorem dL_law_511 : decode cL_law 511 = .ok (.aload_n 0, 1) := by decide +kernel
theorem dL_law_512 : decode cL_law 512 = .ok (.iload_n 3, 1) := by decide +kernel
theorem dL_law_513 : decode cL_law 513 = .ok (.iconst 1, 1) := by decide +kernel
theorem dL_law_514 : decode cL_law 514 = .ok (.iadd, 1) := by decide +kernel
theorem dL_law_515 : decode cL_law 515 = .ok (.iaload, 1) := by decide +kernel
theorem dL_law_516 : decode cL_law 516 = .ok (.aload_n 0, 1) := by decide +kernel
theorem dL_law_517 : decode cL_law 517 = .ok (.iload_n 3, 1) := by decide +kernel
theorem dL_law_518 : decode cL_law 518 = .ok (.iconst 2, 1) := by decide +kernel
theorem dL_law_519 : decode cL_law 519 = .ok (.iadd, 1) := by decide +kernel
theorem dL_law_520 : decode cL_law 520 = .ok (.iaload, 1) := by decide +kernel
theorem dL_law_521 : decode cL_law 521 = .ok (.invokevirtual 47, 3) := by decide +kernel
theorem dL_law_524 : decode cL_law 524 = .ok (.if_icmp .eq 964, 3) := by decide +kernel
theorem dL_law_527 : decode cL_law 527 = .ok (.iconst 0, 1) := by decide +kernel
theorem dL_law_528 : decode cL_law 528 = .ok (.ireturn, 1) := by decide +kernel
theorem dL_law_529 : decode cL_law 529 = .ok (.aload_n 1, 1) := by decide +kernel
theorem dL_law_530 : decode cL_law 530 = .ok (.aload_n 0, 1) := by decide +kernel
theorem dL_law_531 : decode cL_law 531 = .ok (.iload_n 3, 1) := by decide +kernel
theorem dL_law_532 : decode cL_law 532 = .ok (.iconst 1, 1) := by decide +kernel
theorem dL_law_533 : decode cL_law 533 = .ok (.iadd, 1) := by decide +kernel
theorem dL_law_534 : decode cL_law 534 = .ok (.iaload, 1) := by decide +kernel
theorem dL_law_535 : decode cL_law 535 = .ok (.invokevirtual 48, 3) := by decide +kernel
theorem dL_law_538 : decode cL_law 538 = .ok (.aload_n 2, 1) := by decide +kernel
theorem dL_law_539 : decode cL_law 539 = .ok (.aload_n 0, 1) := by decide +kernel
theorem dL_law_540 : decode cL_law 540 = .ok (.iload_n 3, 1) := by decide +kernel
theorem dL_law_541 : decode cL_law 541 = .ok (.iconst 1, 1) := by decide +kernel
theorem dL_law_542 : decode cL_law 542 = .ok (.iadd, 1) := by decide +kernel
theorem dL_law_543 : decode cL_law 543 = .ok (.iaload, 1) := by decide +kernel
theorem dL_law_544 : decode cL_law 544 = .ok (.invokevirtual 51, 3) := by decide +kernel
theorem dL_law_547 : decode cL_law 547 = .ok (.if_icmp .eq 941, 3) := by decide +kernel
theorem dL_law_550 : decode cL_law 550 = .ok (.iconst 0, 1) := by decide +kernel
theorem dL_law_551 : decode cL_law 551 = .ok (.ireturn, 1) := by decide +kernel
theorem dL_law_552 : decode cL_law 552 = .ok (.aload_n 1, 1) := by decide +kernel
theorem dL_law_553 : decode cL_law 553 = .ok (.aload_n 0, 1) := by decide +kernel
theorem dL_law_554 : decode cL_law 554 = .ok (.iload_n 3, 1) := by decide +kernel
theorem dL_law_555 : decode cL_law 555 = .ok (.iconst 1, 1) := by decide +kernel
theorem dL_law_556 : decode cL_law 556 = .ok (.iadd, 1) := by decide +kernel
theorem dL_law_557 : decode cL_law 557 = .ok (.iaload, 1) := by decide +kernel
theorem dL_law_558 : decode cL_law 558 = .ok (.aload_n 0, 1) := by decide +kernel
theorem dL_law_559 : decode cL_law 559 = .ok (.iload_n 3, 1) := by decide +kernel
theorem dL_law_560 : decode cL_law 560 = .ok (.iconst 2, 1) := by decide +kernel
theorem dL_law_561 : decode cL_law 561 = .ok (.iadd, 1) := by decide +kernel
theorem dL_law_562 : decode cL_law 562 = .ok (.iaload, 1) := by decide +kernel
theorem dL_law_563 : decode cL_law 563 = .ok (.invokevirtual 52, 3) := by decide +kernel
theorem dL_law_566 : decode cL_law 566 = .ok (.aload_n 2, 1) := by decide +kernel
theorem dL_law_567 : decode cL_law 567 = .ok (.aload_n 0, 1) := by decide +kernel
theorem dL_law_568 : decode cL_law 568 = .ok (.iload_n 3, 1) := by decide +kernel
theorem dL_law_569 : decode cL_law 569 = .ok (.iconst 1, 1) := by decide +kernel
theorem dL_law_570 : decode cL_law 570 = .ok (.iadd, 1) := by decide +kernel
theorem dL_law_571 : decode cL_law 571 = .ok (.iaload, 1) := by decide +kernel
theorem dL_law_572 : decode cL_law 572 = .ok (.aload_n 0, 1) := by decide +kernel
theorem dL_law_573 : decode cL_law 573 = .ok (.iload_n 3, 1) := by decide +kernel
theorem dL_law_574 : decode cL_law 574 = .ok (.iconst 2, 1) := by decide +kernel
theorem dL_law_575 : decode cL_law 575 = .ok (.iadd, 1) := by decide +kernel
theorem dL_law_576 : decode cL_law 576 = .ok (.iaload, 1) := by decide +kernel
theorem dL_law_577 : decode cL_law 577 = .ok (.invokevirtual 55, 3) := by decide +kernel
theorem dL_law_580 : decode cL_law 580 = .ok (.if_icmp .eq 908, 3) := by decide +kernel
theorem dL_law_583 : decode cL_law 583 = .ok (.iconst 0, 1) := by decide +kernel
theorem dL_law_584 : decode cL_law 584 = .ok (.ireturn, 1) := by decide +kernel
theorem dL_law_585 : decode cL_law 585 = .ok (.aload_n 1, 1) := by decide +kernel
theorem dL_law_586 : decode cL_law 586 = .ok (.aload_n 0, 1) := by decide +kernel
theorem dL_law_587 : decode cL_law 587 = .ok (.iload_n 3, 1) := by decide +kernel
theorem dL_law_588 : decode cL_law 588 = .ok (.iconst 1, 1) := by decide +kernel
theorem dL_law_589 : decode cL_law 589 = .ok (.iadd, 1) := by decide +kernel
theorem dL_law_590 : decode cL_law 590 = .ok (.iaload, 1) := by decide +kernel
theorem dL_law_591 : decode cL_law 591 = .ok (.aload_n 0, 1) := by decide +kernel
theorem dL_law_592 : decode cL_law 592 = .ok (.iload_n 3, 1) := by decide +kernel
theorem dL_law_593 : decode cL_law 593 = .ok (.iconst 2, 1) := by decide +kernel
theorem dL_law_594 : decode cL_law 594 = .ok (.iadd, 1) := by decide +kernel
theorem dL_law_595 : decode cL_law 595 = .ok (.iaload, 1) := by decide +kernel
theorem dL_law_596 : decode cL_law 596 = .ok (.aload_n 0, 1) := by decide +kernel
theorem dL_law_597 : decode cL_law 597 = .ok (.iload_n 3, 1) := by decide +kernel
theorem dL_law_598 : decode cL_law 598 = .ok (.iconst 3, 1) := by decide +kernel
theorem dL_law_599 : decode cL_law 599 = .ok (.iadd, 1) := by decide +kernel
theorem dL_law_600 : decode cL_law 600 = .ok (.iaload, 1) := by decide +kernel
theorem dL_law_601 : decode cL_law 601 = .ok (.invokevirtual 56, 3) := by decide +kernel
theorem dL_law_604 : decode cL_law 604 = .ok (.aload_n 2, 1) := by decide +kernel
theorem dL_law_605 : decode cL_law 605 = .ok (.aload_n 0, 1) := by decide +kernel
theorem dL_law_606 : decode cL_law 606 = .ok (.iload_n 3, 1) := by decide +kernel
theorem dL_law_607 : decode cL_law 607 = .ok (.iconst 1, 1) := by decide +kernel
theorem dL_law_608 : decode cL_law 608 = .ok (.iadd, 1) := by decide +kernel
theorem dL_law_609 : decode cL_law 609 = .ok (.iaload, 1) := by decide +kernel
theorem dL_law_610 : decode cL_law 610 = .ok (.aload_n 0, 1) := by decide +kernel
theorem dL_law_611 : decode cL_law 611 = .ok (.iload_n 3, 1) := by decide +kernel
theorem dL_law_612 : decode cL_law 612 = .ok (.iconst 2, 1) := by decide +kernel
theorem dL_law_613 : decode cL_law 613 = .ok (.iadd, 1) := by decide +kernel
theorem dL_law_614 : decode cL_law 614 = .ok (.iaload, 1) := by decide +kernel
theorem dL_law_615 : decode cL_law 615 = .ok (.aload_n 0, 1) := by decide +kernel
theorem dL_law_616 : decode cL_law 616 = .ok (.iload_n 3, 1) := by decide +kernel
theorem dL_law_617 : decode cL_law 617 = .ok (.iconst 3, 1) := by decide +kernel
theorem dL_law_618 : decode cL_law 618 = .ok (.iadd, 1) := by decide +kernel
theorem dL_law_619 : decode cL_law 619 = .ok (.iaload, 1) := by decide +kernel
theorem dL_law_620 : decode cL_law 620 = .ok (.invokevirtual 59, 3) := by decide +kernel
theorem dL_law_623 : decode cL_law 623 = .ok (.if_icmp .eq 865, 3) := by decide +kernel
theorem dL_law_626 : decode cL_law 626 = .ok (.iconst 0, 1) := by decide +kernel
theorem dL_law_627 : decode cL_law 627 = .ok (.ireturn, 1) := by decide +kernel
theorem dL_law_628 : decode cL_law 628 = .ok (.aload_n 1, 1) := by decide +kernel
theorem dL_law_629 : decode cL_law 629 = .ok (.aload_n 0, 1) := by decide +kernel
theorem dL_law_630 : decode cL_law 630 = .ok (.iload_n 3, 1) := by decide +kernel
theorem dL_law_631 : decode cL_law 631 = .ok (.iconst 1, 1) := by decide +kernel
theorem dL_law_632 : decode cL_law 632 = .ok (.iadd, 1) := by decide +kernel
theorem dL_law_633 : decode cL_law 633 = .ok (.iaload, 1) := by decide +kernel
theorem dL_law_634 : decode cL_law 634 = .ok (.aload_n 0, 1) := by decide +kernel
theorem dL_law_635 : decode cL_law 635 = .ok (.iload_n 3, 1) := by decide +kernel
theorem dL_law_636 : decode cL_law 636 = .ok (.iconst 2, 1) := by decide +kernel
theorem dL_law_637 : decode cL_law 637 = .ok (.iadd, 1) := by decide +kernel
theorem dL_law_638 : decode cL_law 638 = .ok (.iaload, 1) := by decide +kernel
theorem dL_law_639 : decode cL_law 639 = .ok (.invokevirtual 60, 3) := by decide +kernel
theorem dL_law_642 : decode cL_law 642 = .ok (.aload_n 2, 1) := by decide +kernel
theorem dL_law_643 : decode cL_law 643 = .ok (.aload_n 0, 1) := by decide +kernel
theorem dL_law_644 : decode cL_law 644 = .ok (.iload_n 3, 1) := by decide +kernel
theorem dL_law_645 : decode cL_law 645 = .ok (.iconst 1, 1) := by decide +kernel
theorem dL_law_646 : decode cL_law 646 = .ok (.iadd, 1) := by decide +kernel
theorem dL_law_647 : decode cL_law 647 = .ok (.iaload, 1) := by decide +kernel
theorem dL_law_648 : decode cL_law 648 = .ok (.aload_n 0, 1) := by decide +kernel
theorem dL_law_649 : decode cL_law 649 = .ok (.iload_n 3, 1) := by decide +kernel
theorem dL_law_650 : decode cL_law 650 = .ok (.iconst 2, 1) := by decide +kernel
theorem dL_law_651 : decode cL_law 651 = .ok (.iadd, 1) := by decide +kernel
theorem dL_law_652 : decode cL_law 652 = .ok (.iaload, 1) := by decide +kernel
theorem dL_law_653 : decode cL_law 653 = .ok (.invokevirtual 63, 3) := by decide +kernel
theorem dL_law_656 : decode cL_law 656 = .ok (.if_icmp .eq 832, 3) := by decide +kernel
theorem dL_law_659 : decode cL_law 659 = .ok (.iconst 0, 1) := by decide +kernel
theorem dL_law_660 : decode cL_law 660 = .ok (.ireturn, 1) := by decide +kernel
theorem dL_law_661 : decode cL_law 661 = .ok (.aload_n 1, 1) := by decide +kernel
theorem dL_law_662 : decode cL_law 662 = .ok (.aload_n 0, 1) := by decide +kernel
theorem dL_law_663 : decode cL_law 663 = .ok (.iload_n 3, 1) := by decide +kernel
theorem dL_law_664 : decode cL_law 664 = .ok (.iconst 1, 1) := by decide +kernel
theorem dL_law_665 : decode cL_law 665 = .ok (.iadd, 1) := by decide +kernel
theorem dL_law_666 : decode cL_law 666 = .ok (.iaload, 1) := by decide +kernel
theorem dL_law_667 : decode cL_law 667 = .ok (.invokevirtual 64, 3) := by decide +kernel
theorem dL_law_670 : decode cL_law 670 = .ok (.aload_n 2, 1) := by decide +kernel
theorem dL_law_671 : decode cL_law 671 = .ok (.aload_n 0, 1) := by decide +kernel
theorem dL_law_672 : decode cL_law 672 = .ok (.iload_n 3, 1) := by decide +kernel
theorem dL_law_673 : decode cL_law 673 = .ok (.iconst 1, 1) := by decide +kernel
theorem dL_law_674 : decode cL_law 674 = .ok (.iadd, 1) := by decide +kernel
theorem dL_law_675 : decode cL_law 675 = .ok (.iaload, 1) := by decide +kernel
theorem dL_law_676 : decode cL_law 676 = .ok (.invokevirtual 67, 3) := by decide +kernel
theorem dL_law_679 : decode cL_law 679 = .ok (.if_icmp .eq 809, 3) := by decide +kernel
theorem dL_law_682 : decode cL_law 682 = .ok (.iconst 0, 1) := by decide +kernel
theorem dL_law_683 : decode cL_law 683 = .ok (.ireturn, 1) := by decide +kernel
theorem dL_law_684 : decode cL_law 684 = .ok (.aload_n 1, 1) := by decide +kernel
theorem dL_law_685 : decode cL_law 685 = .ok (.aload_n 0, 1) := by decide +kernel
theorem dL_law_686 : decode cL_law 686 = .ok (.iload_n 3, 1) := by decide +kernel
theorem dL_law_687 : decode cL_law 687 = .ok (.iconst 1, 1) := by decide +kernel
theorem dL_law_688 : decode cL_law 688 = .ok (.iadd, 1) := by decide +kernel
theorem dL_law_689 : decode cL_law 689 = .ok (.iaload, 1) := by decide +kernel
theorem dL_law_690 : decode cL_law 690 = .ok (.aload_n 0, 1) := by decide +kernel
theorem dL_law_691 : decode cL_law 691 = .ok (.iload_n 3, 1) := by decide +kernel
theorem dL_law_692 : decode cL_law 692 = .ok (.iconst 2, 1) := by decide +kernel
theorem dL_law_693 : decode cL_law 693 = .ok (.iadd, 1) := by decide +kernel
theorem dL_law_694 : decode cL_law 694 = .ok (.iaload, 1) := by decide +kernel
theorem dL_law_695 : decode cL_law 695 = .ok (.invokevirtual 68, 3) := by decide +kernel
theorem dL_law_698 : decode cL_law 698 = .ok (.aload_n 2, 1) := by decide +kernel
theorem dL_law_699 : decode cL_law 699 = .ok (.aload_n 0, 1) := by decide +kernel
theorem dL_law_700 : decode cL_law 700 = .ok (.iload_n 3, 1) := by decide +kernel
theorem dL_law_701 : decode cL_law 701 = .ok (.iconst 1, 1) := by decide +kernel
theorem dL_law_702 : decode cL_law 702 = .ok (.iadd, 1) := by decide +kernel
theorem dL_law_703 : decode cL_law 703 = .ok (.iaload, 1) := by decide +kernel
theorem dL_law_704 : decode cL_law 704 = .ok (.aload_n 0, 1) := by decide +kernel
theorem dL_law_705 : decode cL_law 705 = .ok (.iload_n 3, 1) := by decide +kernel
theorem dL_law_706 : decode cL_law 706 = .ok (.iconst 2, 1) := by decide +kernel
theorem dL_law_707 : decode cL_law 707 = .ok (.iadd, 1) := by decide +kernel
theorem dL_law_708 : decode cL_law 708 = .ok (.iaload, 1) := by decide +kernel
theorem dL_law_709 : decode cL_law 709 = .ok (.invokevirtual 71, 3) := by decide +kernel
theorem dL_law_712 : decode cL_law 712 = .ok (.if_icmp .eq 776, 3) := by decide +kernel
theorem dL_law_715 : decode cL_law 715 = .ok (.iconst 0, 1) := by decide +kernel
theorem dL_law_716 : decode cL_law 716 = .ok (.ireturn, 1) := by decide +kernel
theorem dL_law_717 : decode cL_law 717 = .ok (.aload_n 1, 1) := by decide +kernel
theorem dL_law_718 : decode cL_law 718 = .ok (.aload_n 0, 1) := by decide +kernel
theorem dL_law_719 : decode cL_law 719 = .ok (.iload_n 3, 1) := by decide +kernel
theorem dL_law_720 : decode cL_law 720 = .ok (.iconst 1, 1) := by decide +kernel
theorem dL_law_721 : decode cL_law 721 = .ok (.iadd, 1) := by decide +kernel
theorem dL_law_722 : decode cL_law 722 = .ok (.iaload, 1) := by decide +kernel
theorem dL_law_723 : decode cL_law 723 = .ok (.invokevirtual 72, 3) := by decide +kernel
theorem dL_law_726 : decode cL_law 726 = .ok (.aload_n 2, 1) := by decide +kernel
theorem dL_law_727 : decode cL_law 727 = .ok (.aload_n 0, 1) := by decide +kernel
theorem dL_law_728 : decode cL_law 728 = .ok (.iload_n 3, 1) := by decide +kernel
theorem dL_law_729 : decode cL_law 729 = .ok (.iconst 1, 1) := by decide +kernel
theorem dL_law_730 : decode cL_law 730 = .ok (.iadd, 1) := by decide +kernel
theorem dL_law_731 : decode cL_law 731 = .ok (.iaload, 1) := by decide +kernel
theorem dL_law_732 : decode cL_law 732 = .ok (.invokevirtual 75, 3) := by decide +kernel
theorem dL_law_735 : decode cL_law 735 = .ok (.if_icmp .eq 753, 3) := by decide +kernel
theorem dL_law_738 : decode cL_law 738 = .ok (.iconst 0, 1) := by decide +kernel
theorem dL_law_739 : decode cL_law 739 = .ok (.ireturn, 1) := by decide +kernel
theorem dL_law_740 : decode cL_law 740 = .ok (.aload_n 1, 1) := by decide +kernel
theorem dL_law_741 : decode cL_law 741 = .ok (.aload_n 0, 1) := by decide +kernel
theorem dL_law_742 : decode cL_law 742 = .ok (.iload_n 3, 1) := by decide +kernel
theorem dL_law_743 : decode cL_law 743 = .ok (.iconst 1, 1) := by decide +kernel
theorem dL_law_744 : decode cL_law 744 = .ok (.iadd, 1) := by decide +kernel
theorem dL_law_745 : decode cL_law 745 = .ok (.iaload, 1) := by decide +kernel
theorem dL_law_746 : decode cL_law 746 = .ok (.aload_n 0, 1) := by decide +kernel
theorem dL_law_747 : decode cL_law 747 = .ok (.iload_n 3, 1) := by decide +kernel
theorem dL_law_748 : decode cL_law 748 = .ok (.iconst 2, 1) := by decide +kernel
theorem dL_law_749 : decode cL_law 749 = .ok (.iadd, 1) := by decide +kernel
theorem dL_law_750 : decode cL_law 750 = .ok (.iaload, 1) := by decide +kernel
theorem dL_law_751 : decode cL_law 751 = .ok (.invokevirtual 76, 3) := by decide +kernel
theorem dL_law_754 : decode cL_law 754 = .ok (.aload_n 2, 1) := by decide +kernel
theorem dL_law_755 : decode cL_law 755 = .ok (.aload_n 0, 1) := by decide +kernel
theorem dL_law_756 : decode cL_law 756 = .ok (.iload_n 3, 1) := by decide +kernel
theorem dL_law_757 : decode cL_law 757 = .ok (.iconst 1, 1) := by decide +kernel
theorem dL_law_758 : decode cL_law 758 = .ok (.iadd, 1) := by decide +kernel
theorem dL_law_759 : decode cL_law 759 = .ok (.iaload, 1) := by decide +kernel
theorem dL_law_760 : decode cL_law 760 = .ok (.aload_n 0, 1) := by decide +kernel
theorem dL_law_761 : decode cL_law 761 = .ok (.iload_n 3, 1) := by decide +kernel
theorem dL_law_762 : decode cL_law 762 = .ok (.iconst 2, 1) := by decide +kernel
theorem dL_law_763 : decode cL_law 763 = .ok (.iadd, 1) := by decide +kernel
theorem dL_law_764 : decode cL_law 764 = .ok (.iaload, 1) := by decide +kernel
theorem dL_law_765 : decode cL_law 765 = .ok (.invokevirtual 79, 3) := by decide +kernel
theorem dL_law_768 : decode cL_law 768 = .ok (.if_icmp .eq 720, 3) := by decide +kernel
theorem dL_law_771 : decode cL_law 771 = .ok (.iconst 0, 1) := by decide +kernel
theorem dL_law_772 : decode cL_law 772 = .ok (.ireturn, 1) := by decide +kernel
theorem dL_law_773 : decode cL_law 773 = .ok (.aload_n 1, 1) := by decide +kernel
theorem dL_law_774 : decode cL_law 774 = .ok (.aload_n 0, 1) := by decide +kernel
theorem dL_law_775 : decode cL_law 775 = .ok (.iload_n 3, 1) := by decide +kernel
theorem dL_law_776 : decode cL_law 776 = .ok (.iconst 1, 1) := by decide +kernel
theorem dL_law_777 : decode cL_law 777 = .ok (.iadd, 1) := by decide +kernel
theorem dL_law_778 : decode cL_law 778 = .ok (.iaload, 1) := by decide +kernel
theorem dL_law_779 : decode cL_law 779 = .ok (.invokevirtual 80, 3) := by decide +kernel
theorem dL_law_782 : decode cL_law 782 = .ok (.aload_n 2, 1) := by decide +kernel
theorem dL_law_783 : decode cL_law 783 = .ok (.aload_n 0, 1) := by decide +kernel
theorem dL_law_784 : decode cL_law 784 = .ok (.iload_n 3, 1) := by decide +kernel
theorem dL_law_785 : decode cL_law 785 = .ok (.iconst 1, 1) := by decide +kernel
theorem dL_law_786 : decode cL_law 786 = .ok (.iadd, 1) := by decide +kernel
theorem dL_law_787 : decode cL_law 787 = .ok (.iaload, 1) := by decide +kernel
theorem dL_law_788 : decode cL_law 788 = .ok (.invokevirtual 83, 3) := by decide +kernel
theorem dL_law_791 : decode cL_law 791 = .ok (.if_icmp .eq 697, 3) := by decide +kernel
theorem dL_law_794 : decode cL_law 794 = .ok (.iconst 0, 1) := by decide +kernel
theorem dL_law_795 : decode cL_law 795 = .ok (.ireturn, 1) := by decide +kernel
theorem dL_law_796 : decode cL_law 796 = .ok (.aload_n 1, 1) := by decide +kernel
theorem dL_law_797 : decode cL_law 797 = .ok (.aload_n 0, 1) := by decide +kernel
theorem dL_law_798 : decode cL_law 798 = .ok (.iload_n 3, 1) := by decide +kernel
theorem dL_law_799 : decode cL_law 799 = .ok (.iconst 1, 1) := by decide +kernel
theorem dL_law_800 : decode cL_law 800 = .ok (.iadd, 1) := by decide +kernel
theorem dL_law_801 : decode cL_law 801 = .ok (.iaload, 1) := by decide +kernel
theorem dL_law_802 : decode cL_law 802 = .ok (.aload_n 0, 1) := by decide +kernel
theorem dL_law_803 : decode cL_law 803 = .ok (.iload_n 3, 1) := by decide +kernel
theorem dL_law_804 : decode cL_law 804 = .ok (.iconst 2, 1) := by decide +kernel
theorem dL_law_805 : decode cL_law 805 = .ok (.iadd, 1) := by decide +kernel
theorem dL_law_806 : decode cL_law 806 = .ok (.iaload, 1) := by decide +kernel
theorem dL_law_807 : decode cL_law 807 = .ok (.aload_n 0, 1) := by decide +kernel
theorem dL_law_808 : decode cL_law 808 = .ok (.iload_n 3, 1) := by decide +kernel
theorem dL_law_809 : decode cL_law 809 = .ok (.iconst 3, 1) := by decide +kernel
theorem dL_law_810 : decode cL_law 810 = .ok (.iadd, 1) := by decide +kernel
theorem dL_law_811 : decode cL_law 811 = .ok (.iaload, 1) := by decide +kernel
theorem dL_law_812 : decode cL_law 812 = .ok (.aload_n 0, 1) := by decide +kernel
theorem dL_law_813 : decode cL_law 813 = .ok (.iload_n 3, 1) := by decide +kernel
theorem dL_law_814 : decode cL_law 814 = .ok (.iconst 4, 1) := by decide +kernel
theorem dL_law_815 : decode cL_law 815 = .ok (.iadd, 1) := by decide +kernel
theorem dL_law_816 : decode cL_law 816 = .ok (.iaload, 1) := by decide +kernel
theorem dL_law_817 : decode cL_law 817 = .ok (.invokevirtual 84, 3) := by decide +kernel
theorem dL_law_820 : decode cL_law 820 = .ok (.aload_n 2, 1) := by decide +kernel
theorem dL_law_821 : decode cL_law 821 = .ok (.aload_n 0, 1) := by decide +kernel
theorem dL_law_822 : decode cL_law 822 = .ok (.iload_n 3, 1) := by decide +kernel
theorem dL_law_823 : decode cL_law 823 = .ok (.iconst 1, 1) := by decide +kernel
theorem dL_law_824 : decode cL_law 824 = .ok (.iadd, 1) := by decide +kernel
theorem dL_law_825 : decode cL_law 825 = .ok (.iaload, 1) := by decide +kernel
theorem dL_law_826 : decode cL_law 826 = .ok (.aload_n 0, 1) := by decide +kernel
theorem dL_law_827 : decode cL_law 827 = .ok (.iload_n 3, 1) := by decide +kernel
theorem dL_law_828 : decode cL_law 828 = .ok (.iconst 2, 1) := by decide +kernel
theorem dL_law_829 : decode cL_law 829 = .ok (.iadd, 1) := by decide +kernel
theorem dL_law_830 : decode cL_law 830 = .ok (.iaload, 1) := by decide +kernel
theorem dL_law_831 : decode cL_law 831 = .ok (.aload_n 0, 1) := by decide +kernel
theorem dL_law_832 : decode cL_law 832 = .ok (.iload_n 3, 1) := by decide +kernel
theorem dL_law_833 : decode cL_law 833 = .ok (.iconst 3, 1) := by decide +kernel
theorem dL_law_834 : decode cL_law 834 = .ok (.iadd, 1) := by decide +kernel
theorem dL_law_835 : decode cL_law 835 = .ok (.iaload, 1) := by decide +kernel
theorem dL_law_836 : decode cL_law 836 = .ok (.aload_n 0, 1) := by decide +kernel
theorem dL_law_837 : decode cL_law 837 = .ok (.iload_n 3, 1) := by decide +kernel
theorem dL_law_838 : decode cL_law 838 = .ok (.iconst 4, 1) := by decide +kernel
theorem dL_law_839 : decode cL_law 839 = .ok (.iadd, 1) := by decide +kernel
theorem dL_law_840 : decode cL_law 840 = .ok (.iaload, 1) := by decide +kernel
theorem dL_law_841 : decode cL_law 841 = .ok (.invokevirtual 88, 3) := by decide +kernel
theorem dL_law_844 : decode cL_law 844 = .ok (.if_icmp .eq 644, 3) := by decide +kernel
theorem dL_law_847 : decode cL_law 847 = .ok (.iconst 0, 1) := by decide +kernel
theorem dL_law_848 : decode cL_law 848 = .ok (.ireturn, 1) := by decide +kernel
theorem dL_law_849 : decode cL_law 849 = .ok (.aload_n 1, 1) := by decide +kernel
theorem dL_law_850 : decode cL_law 850 = .ok (.aload_n 0, 1) := by decide +kernel
theorem dL_law_851 : decode cL_law 851 = .ok (.iload_n 3, 1) := by decide +kernel
theorem dL_law_852 : decode cL_law 852 = .ok (.iconst 1, 1) := by decide +kernel
theorem dL_law_853 : decode cL_law 853 = .ok (.iadd, 1) := by decide +kernel
theorem dL_law_854 : decode cL_law 854 = .ok (.iaload, 1) := by decide +kernel
theorem dL_law_855 : decode cL_law 855 = .ok (.aload_n 0, 1) := by decide +kernel
theorem dL_law_856 : decode cL_law 856 = .ok (.iload_n 3, 1) := by decide +kernel
theorem dL_law_857 : decode cL_law 857 = .ok (.iconst 2, 1) := by decide +kernel
theorem dL_law_858 : decode cL_law 858 = .ok (.iadd, 1) := by decide +kernel
theorem dL_law_859 : decode cL_law 859 = .ok (.iaload, 1) := by decide +kernel
theorem dL_law_860 : decode cL_law 860 = .ok (.invokevirtual 89, 3) := by decide +kernel
theorem dL_law_863 : decode cL_law 863 = .ok (.aload_n 2, 1) := by decide +kernel
theorem dL_law_864 : decode cL_law 864 = .ok (.aload_n 0, 1) := by decide +kernel
theorem dL_law_865 : decode cL_law 865 = .ok (.iload_n 3, 1) := by decide +kernel
theorem dL_law_866 : decode cL_law 866 = .ok (.iconst 1, 1) := by decide +kernel
theorem dL_law_867 : decode cL_law 867 = .ok (.iadd, 1) := by decide +kernel
theorem dL_law_868 : decode cL_law 868 = .ok (.iaload, 1) := by decide +kernel
theorem dL_law_869 : decode cL_law 869 = .ok (.aload_n 0, 1) := by decide +kernel
theorem dL_law_870 : decode cL_law 870 = .ok (.iload_n 3, 1) := by decide +kernel
theorem dL_law_871 : decode cL_law 871 = .ok (.iconst 2, 1) := by decide +kernel
theorem dL_law_872 : decode cL_law 872 = .ok (.iadd, 1) := by decide +kernel
theorem dL_law_873 : decode cL_law 873 = .ok (.iaload, 1) := by decide +kernel
theorem dL_law_874 : decode cL_law 874 = .ok (.invokevirtual 92, 3) := by decide +kernel
theorem dL_law_877 : decode cL_law 877 = .ok (.if_icmp .eq 611, 3) := by decide +kernel
theorem dL_law_880 : decode cL_law 880 = .ok (.iconst 0, 1) := by decide +kernel
theorem dL_law_881 : decode cL_law 881 = .ok (.ireturn, 1) := by decide +kernel
theorem dL_law_882 : decode cL_law 882 = .ok (.aload_n 1, 1) := by decide +kernel
theorem dL_law_883 : decode cL_law 883 = .ok (.aload_n 0, 1) := by decide +kernel
theorem dL_law_884 : decode cL_law 884 = .ok (.iload_n 3, 1) := by decide +kernel
theorem dL_law_885 : decode cL_law 885 = .ok (.iconst 1, 1) := by decide +kernel
theorem dL_law_886 : decode cL_law 886 = .ok (.iadd, 1) := by decide +kernel
theorem dL_law_887 : decode cL_law 887 = .ok (.iaload, 1) := by decide +kernel
theorem dL_law_888 : decode cL_law 888 = .ok (.invokevirtual 93, 3) := by decide +kernel
theorem dL_law_891 : decode cL_law 891 = .ok (.aload_n 2, 1) := by decide +kernel
theorem dL_law_892 : decode cL_law 892 = .ok (.aload_n 0, 1) := by decide +kernel
theorem dL_law_893 : decode cL_law 893 = .ok (.iload_n 3, 1) := by decide +kernel
theorem dL_law_894 : decode cL_law 894 = .ok (.iconst 1, 1) := by decide +kernel
theorem dL_law_895 : decode cL_law 895 = .ok (.iadd, 1) := by decide +kernel
theorem dL_law_896 : decode cL_law 896 = .ok (.iaload, 1) := by decide +kernel
theorem dL_law_897 : decode cL_law 897 = .ok (.invokevirtual 96, 3) := by decide +kernel
theorem dL_law_900 : decode cL_law 900 = .ok (.if_icmp .eq 588, 3) := by decide +kernel
theorem dL_law_903 : decode cL_law 903 = .ok (.iconst 0, 1) := by decide +kernel
theorem dL_law_904 : decode cL_law 904 = .ok (.ireturn, 1) := by decide +kernel
theorem dL_law_905 : decode cL_law 905 = .ok (.aload_n 1, 1) := by decide +kernel
theorem dL_law_906 : decode cL_law 906 = .ok (.aload_n 0, 1) := by decide +kernel
theorem dL_law_907 : decode cL_law 907 = .ok (.iload_n 3, 1) := by decide +kernel
theorem dL_law_908 : decode cL_law 908 = .ok (.iconst 1, 1) := by decide +kernel
theorem dL_law_909 : decode cL_law 909 = .ok (.iadd, 1) := by decide +kernel
theorem dL_law_910 : decode cL_law 910 = .ok (.iaload, 1) := by decide +kernel
theorem dL_law_911 : decode cL_law 911 = .ok (.invokevirtual 97, 3) := by decide +kernel
theorem dL_law_914 : decode cL_law 914 = .ok (.aload_n 2, 1) := by decide +kernel
theorem dL_law_915 : decode cL_law 915 = .ok (.aload_n 0, 1) := by decide +kernel
theorem dL_law_916 : decode cL_law 916 = .ok (.iload_n 3, 1) := by decide +kernel
theorem dL_law_917 : decode cL_law 917 = .ok (.iconst 1, 1) := by decide +kernel
theorem dL_law_918 : decode cL_law 918 = .ok (.iadd, 1) := by decide +kernel
theorem dL_law_919 : decode cL_law 919 = .ok (.iaload, 1) := by decide +kernel
theorem dL_law_920 : decode cL_law 920 = .ok (.invokevirtual 100, 3) := by decide +kernel
theorem dL_law_923 : decode cL_law 923 = .ok (.if_icmp .eq 565, 3) := by decide +kernel
theorem dL_law_926 : decode cL_law 926 = .ok (.iconst 0, 1) := by decide +kernel
theorem dL_law_927 : decode cL_law 927 = .ok (.ireturn, 1) := by decide +kernel
theorem dL_law_928 : decode cL_law 928 = .ok (.aload_n 1, 1) := by decide +kernel
theorem dL_law_929 : decode cL_law 929 = .ok (.aload_n 0, 1) := by decide +kernel
theorem dL_law_930 : decode cL_law 930 = .ok (.iload_n 3, 1) := by decide +kernel
theorem dL_law_931 : decode cL_law 931 = .ok (.iconst 1, 1) := by decide +kernel
theorem dL_law_932 : decode cL_law 932 = .ok (.iadd, 1) := by decide +kernel
theorem dL_law_933 : decode cL_law 933 = .ok (.iaload, 1) := by decide +kernel
theorem dL_law_934 : decode cL_law 934 = .ok (.aload_n 0, 1) := by decide +kernel
theorem dL_law_935 : decode cL_law 935 = .ok (.iload_n 3, 1) := by decide +kernel
theorem dL_law_936 : decode cL_law 936 = .ok (.iconst 2, 1) := by decide +kernel
theorem dL_law_937 : decode cL_law 937 = .ok (.iadd, 1) := by decide +kernel
theorem dL_law_938 : decode cL_law 938 = .ok (.iaload, 1) := by decide +kernel
theorem dL_law_939 : decode cL_law 939 = .ok (.invokevirtual 101, 3) := by decide +kernel
theorem dL_law_942 : decode cL_law 942 = .ok (.aload_n 2, 1) := by decide +kernel
theorem dL_law_943 : decode cL_law 943 = .ok (.aload_n 0, 1) := by decide +kernel
theorem dL_law_944 : decode cL_law 944 = .ok (.iload_n 3, 1) := by decide +kernel
theorem dL_law_945 : decode cL_law 945 = .ok (.iconst 1, 1) := by decide +kernel
theorem dL_law_946 : decode cL_law 946 = .ok (.iadd, 1) := by decide +kernel
theorem dL_law_947 : decode cL_law 947 = .ok (.iaload, 1) := by decide +kernel
theorem dL_law_948 : decode cL_law 948 = .ok (.aload_n 0, 1) := by decide +kernel
theorem dL_law_949 : decode cL_law 949 = .ok (.iload_n 3, 1) := by decide +kernel
theorem dL_law_950 : decode cL_law 950 = .ok (.iconst 2, 1) := by decide +kernel
theorem dL_law_951 : decode cL_law 951 = .ok (.iadd, 1) := by decide +kernel
theorem dL_law_952 : decode cL_law 952 = .ok (.iaload, 1) := by decide +kernel
theorem dL_law_953 : decode cL_law 953 = .ok (.invokevirtual 104, 3) := by decide +kernel
theorem dL_law_956 : decode cL_law 956 = .ok (.if_icmp .eq 532, 3) := by decide +kernel
theorem dL_law_959 : decode cL_law 959 = .ok (.iconst 0, 1) := by decide +kernel
theorem dL_law_960 : decode cL_law 960 = .ok (.ireturn, 1) := by decide +kernel
theorem dL_law_961 : decode cL_law 961 = .ok (.aload_n 1, 1) := by decide +kernel
theorem dL_law_962 : decode cL_law 962 = .ok (.aload_n 0, 1) := by decide +kernel
theorem dL_law_963 : decode cL_law 963 = .ok (.iload_n 3, 1) := by decide +kernel
theorem dL_law_964 : decode cL_law 964 = .ok (.iconst 1, 1) := by decide +kernel
theorem dL_law_965 : decode cL_law 965 = .ok (.iadd, 1) := by decide +kernel
theorem dL_law_966 : decode cL_law 966 = .ok (.iaload, 1) := by decide +kernel
theorem dL_law_967 : decode cL_law 967 = .ok (.aload_n 0, 1) := by decide +kernel
theorem dL_law_968 : decode cL_law 968 = .ok (.iload_n 3, 1) := by decide +kernel
theorem dL_law_969 : decode cL_law 969 = .ok (.iconst 2, 1) := by decide +kernel
theorem dL_law_970 : decode cL_law 970 = .ok (.iadd, 1) := by decide +kernel
theorem dL_law_971 : decode cL_law 971 = .ok (.iaload, 1) := by decide +kernel
theorem dL_law_972 : decode cL_law 972 = .ok (.invokevirtual 105, 3) := by decide +kernel
theorem dL_law_975 : decode cL_law 975 = .ok (.aload_n 2, 1) := by decide +kernel
theorem dL_law_976 : decode cL_law 976 = .ok (.aload_n 0, 1) := by decide +kernel
theorem dL_law_977 : decode cL_law 977 = .ok (.iload_n 3, 1) := by decide +kernel
theorem dL_law_978 : decode cL_law 978 = .ok (.iconst 1, 1) := by decide +kernel
theorem dL_law_979 : decode cL_law 979 = .ok (.iadd, 1) := by decide +kernel
theorem dL_law_980 : decode cL_law 980 = .ok (.iaload, 1) := by decide +kernel
theorem dL_law_981 : decode cL_law 981 = .ok (.aload_n 0, 1) := by decide +kernel
theorem dL_law_982 : decode cL_law 982 = .ok (.iload_n 3, 1) := by decide +kernel
theorem dL_law_983 : decode cL_law 983 = .ok (.iconst 2, 1) := by decide +kernel
theorem dL_law_984 : decode cL_law 984 = .ok (.iadd, 1) := by decide +kernel
theorem dL_law_985 : decode cL_law 985 = .ok (.iaload, 1) := by decide +kernel
theorem dL_law_986 : decode cL_law 986 = .ok (.invokevirtual 108, 3) := by decide +kernel
theorem dL_law_989 : decode cL_law 989 = .ok (.if_icmp .eq 499, 3) := by decide +kernel
theorem dL_law_992 : decode cL_law 992 = .ok (.iconst 0, 1) := by decide +kernel
theorem dL_law_993 : decode cL_law 993 = .ok (.ireturn, 1) := by decide +kernel
theorem dL_law_994 : decode cL_law 994 = .ok (.aload_n 1, 1) := by decide +kernel
theorem dL_law_995 : decode cL_law 995 = .ok (.aload_n 0, 1) := by decide +kernel
theorem dL_law_996 : decode cL_law 996 = .ok (.iload_n 3, 1) := by decide +kernel
theorem dL_law_997 : decode cL_law 997 = .ok (.iconst 1, 1) := by decide +kernel
theorem dL_law_998 : decode cL_law 998 = .ok (.iadd, 1) := by decide +kernel
theorem dL_law_999 : decode cL_law 999 = .ok (.iaload, 1) := by decide +kernel
theorem dL_law_1000 : decode cL_law 1000 = .ok (.invokevirtual 109, 3) := by decide +kernel
theorem dL_law_1003 : decode cL_law 1003 = .ok (.aload_n 2, 1) := by decide +kernel
theorem dL_law_1004 : decode cL_law 1004 = .ok (.aload_n 0, 1) := by decide +kernel
theorem dL_law_1005 : decode cL_law 1005 = .ok (.iload_n 3, 1) := by decide +kernel
theorem dL_law_1006 : decode cL_law 1006 = .ok (.iconst 1, 1) := by decide +kernel
theorem dL_law_1007 : decode cL_law 1007 = .ok (.iadd, 1) := by decide +kernel
theorem dL_law_1008 : decode cL_law 1008 = .ok (.iaload, 1) := by decide +kernel
theorem dL_law_1009 : decode cL_law 1009 = .ok (.invokevirtual 112, 3) := by decide +kernel
theorem dL_law_1012 : decode cL_law 1012 = .ok (.if_icmp .eq 476, 3) := by decide +kernel
theorem dL_law_1015 : decode cL_law 1015 = .ok (.iconst 0, 1) := by decide +kernel
theorem dL_law_1016 : decode cL_law 1016 = .ok (.ireturn, 1) := by decide +kernel
theorem dL_law_1017 : decode cL_law 1017 = .ok (.aload_n 1, 1) := by decide +kernel
theorem dL_law_1018 : decode cL_law 1018 = .ok (.aload_n 0, 1) := by decide +kernel
theorem dL_law_1019 : decode cL_law 1019 = .ok (.iload_n 3, 1) := by decide +kernel
theorem dL_law_1020 : decode cL_law 1020 = .ok (.iconst 1, 1) := by decide +kernel
theorem dL_law_1021 : decode cL_law 1021 = .ok (.iadd, 1) := by decide +kernel
theorem dL_law_1022 : decode cL_law 1022 = .ok (.iaload, 1) := by decide +kernel
theorem dL_law_1023 : decode cL_law 1023 = .ok (.invokevirtual 113, 3) := by decide +kernel
theorem dL_law_1026 : decode cL_law 1026 = .ok (.aload_n 2, 1) := by decide +kernel
theorem dL_law_1027 : decode cL_law 1027 = .ok (.aload_n 0, 1) := by decide +kernel
theorem dL_law_1028 : decode cL_law 1028 = .ok (.iload_n 3, 1) := by decide +kernel
theorem dL_law_1029 : decode cL_law 1029 = .ok (.iconst 1, 1) := by decide +kernel
theorem dL_law_1030 : decode cL_law 1030 = .ok (.iadd, 1) := by decide +kernel
theorem dL_law_1031 : decode cL_law 1031 = .ok (.iaload, 1) := by decide +kernel
theorem dL_law_1032 : decode cL_law 1032 = .ok (.invokevirtual 116, 3) := by decide +kernel
theorem dL_law_1035 : decode cL_law 1035 = .ok (.if_icmp .eq 453, 3) := by decide +kernel
theorem dL_law_1038 : decode cL_law 1038 = .ok (.iconst 0, 1) := by decide +kernel
theorem dL_law_1039 : decode cL_law 1039 = .ok (.ireturn, 1) := by decide +kernel
theorem dL_law_1040 : decode cL_law 1040 = .ok (.aload_n 1, 1) := by decide +kernel
theorem dL_law_1041 : decode cL_law 1041 = .ok (.aload_n 0, 1) := by decide +kernel
theorem dL_law_1042 : decode cL_law 1042 = .ok (.iload_n 3, 1) := by decide +kernel
theorem dL_law_1043 : decode cL_law 1043 = .ok (.iconst 1, 1) := by decide +kernel
theorem dL_law_1044 : decode cL_law 1044 = .ok (.iadd, 1) := by decide +kernel
theorem dL_law_1045 : decode cL_law 1045 = .ok (.iaload, 1) := by decide +kernel
theorem dL_law_1046 : decode cL_law 1046 = .ok (.aload_n 0, 1) := by decide +kernel
theorem dL_law_1047 : decode cL_law 1047 = .ok (.iload_n 3, 1) := by decide +kernel
theorem dL_law_1048 : decode cL_law 1048 = .ok (.iconst 2, 1) := by decide +kernel
theorem dL_law_1049 : decode cL_law 1049 = .ok (.iadd, 1) := by decide +kernel
theorem dL_law_1050 : decode cL_law 1050 = .ok (.iaload, 1) := by decide +kernel
theorem dL_law_1051 : decode cL_law 1051 = .ok (.aload_n 0, 1) := by decide +kernel
theorem dL_law_1052 : decode cL_law 1052 = .ok (.iload_n 3, 1) := by decide +kernel
theorem dL_law_1053 : decode cL_law 1053 = .ok (.iconst 3, 1) := by decide +kernel
theorem dL_law_1054 : decode cL_law 1054 = .ok (.iadd, 1) := by decide +kernel
theorem dL_law_1055 : decode cL_law 1055 = .ok (.iaload, 1) := by decide +kernel
theorem dL_law_1056 : decode cL_law 1056 = .ok (.invokevirtual 117, 3) := by decide +kernel
theorem dL_law_1059 : decode cL_law 1059 = .ok (.aload_n 2, 1) := by decide +kernel
theorem dL_law_1060 : decode cL_law 1060 = .ok (.aload_n 0, 1) := by decide +kernel
theorem dL_law_1061 : decode cL_law 1061 = .ok (.iload_n 3, 1) := by decide +kernel
theorem dL_law_1062 : decode cL_law 1062 = .ok (.iconst 1, 1) := by decide +kernel
theorem dL_law_1063 : decode cL_law 1063 = .ok (.iadd, 1) := by decide +kernel
theorem dL_law_1064 : decode cL_law 1064 = .ok (.iaload, 1) := by decide +kernel
theorem dL_law_1065 : decode cL_law 1065 = .ok (.aload_n 0, 1) := by decide +kernel
theorem dL_law_1066 : decode cL_law 1066 = .ok (.iload_n 3, 1) := by decide +kernel
theorem dL_law_1067 : decode cL_law 1067 = .ok (.iconst 2, 1) := by decide +kernel
theorem dL_law_1068 : decode cL_law 1068 = .ok (.iadd, 1) := by decide +kernel
theorem dL_law_1069 : decode cL_law 1069 = .ok (.iaload, 1) := by decide +kernel
theorem dL_law_1070 : decode cL_law 1070 = .ok (.aload_n 0, 1) := by decide +kernel
theorem dL_law_1071 : decode cL_law 1071 = .ok (.iload_n 3, 1) := by decide +kernel
theorem dL_law_1072 : decode cL_law 1072 = .ok (.iconst 3, 1) := by decide +kernel
theorem dL_law_1073 : decode cL_law 1073 = .ok (.iadd, 1) := by decide +kernel
theorem dL_law_1074 : decode cL_law 1074 = .ok (.iaload, 1) := by decide +kernel
theorem dL_law_1075 : decode cL_law 1075 = .ok (.invokevirtual 120, 3) := by decide +kernel
theorem dL_law_1078 : decode cL_law 1078 = .ok (.if_icmp .eq 410, 3) := by decide +kernel
theorem dL_law_1081 : decode cL_law 1081 = .ok (.iconst 0, 1) := by decide +kernel
theorem dL_law_1082 : decode cL_law 1082 = .ok (.ireturn, 1) := by decide +kernel
theorem dL_law_1083 : decode cL_law 1083 = .ok (.aload_n 1, 1) := by decide +kernel
theorem dL_law_1084 : decode cL_law 1084 = .ok (.aload_n 0, 1) := by decide +kernel
theorem dL_law_1085 : decode cL_law 1085 = .ok (.iload_n 3, 1) := by decide +kernel
theorem dL_law_1086 : decode cL_law 1086 = .ok (.iconst 1, 1) := by decide +kernel
theorem dL_law_1087 : decode cL_law 1087 = .ok (.iadd, 1) := by decide +kernel
theorem dL_law_1088 : decode cL_law 1088 = .ok (.iaload, 1) := by decide +kernel
theorem dL_law_1089 : decode cL_law 1089 = .ok (.aload_n 0, 1) := by decide +kernel
theorem dL_law_1090 : decode cL_law 1090 = .ok (.iload_n 3, 1) := by decide +kernel
theorem dL_law_1091 : decode cL_law 1091 = .ok (.iconst 2, 1) := by decide +kernel
theorem dL_law_1092 : decode cL_law 1092 = .ok (.iadd, 1) := by decide +kernel
theorem dL_law_1093 : decode cL_law 1093 = .ok (.iaload, 1) := by decide +kernel
theorem dL_law_1094 : decode cL_law 1094 = .ok (.aload_n 0, 1) := by decide +kernel
theorem dL_law_1095 : decode cL_law 1095 = .ok (.iload_n 3, 1) := by decide +kernel
theorem dL_law_1096 : decode cL_law 1096 = .ok (.iconst 3, 1) := by decide +kernel
theorem dL_law_1097 : decode cL_law 1097 = .ok (.iadd, 1) := by decide +kernel
theorem dL_law_1098 : decode cL_law 1098 = .ok (.iaload, 1) := by decide +kernel
theorem dL_law_1099 : decode cL_law 1099 = .ok (.invokevirtual 121, 3) := by decide +kernel
theorem dL_law_1102 : decode cL_law 1102 = .ok (.aload_n 2, 1) := by decide +kernel
theorem dL_law_1103 : decode cL_law 1103 = .ok (.aload_n 0, 1) := by decide +kernel
theorem dL_law_1104 : decode cL_law 1104 = .ok (.iload_n 3, 1) := by decide +kernel
theorem dL_law_1105 : decode cL_law 1105 = .ok (.iconst 1, 1) := by decide +kernel
theorem dL_law_1106 : decode cL_law 1106 = .ok (.iadd, 1) := by decide +kernel
theorem dL_law_1107 : decode cL_law 1107 = .ok (.iaload, 1) := by decide +kernel
theorem dL_law_1108 : decode cL_law 1108 = .ok (.aload_n 0, 1) := by decide +kernel
theorem dL_law_1109 : decode cL_law 1109 = .ok (.iload_n 3, 1) := by decide +kernel
theorem dL_law_1110 : decode cL_law 1110 = .ok (.iconst 2, 1) := by decide +kernel
theorem dL_law_1111 : decode cL_law 1111 = .ok (.iadd, 1) := by decide +kernel
theorem dL_law_1112 : decode cL_law 1112 = .ok (.iaload, 1) := by decide +kernel
theorem dL_law_1113 : decode cL_law 1113 = .ok (.aload_n 0, 1) := by decide +kernel
theorem dL_law_1114 : decode cL_law 1114 = .ok (.iload_n 3, 1) := by decide +kernel
theorem dL_law_1115 : decode cL_law 1115 = .ok (.iconst 3, 1) := by decide +kernel
theorem dL_law_1116 : decode cL_law 1116 = .ok (.iadd, 1) := by decide +kernel
theorem dL_law_1117 : decode cL_law 1117 = .ok (.iaload, 1) := by decide +kernel
theorem dL_law_1118 : decode cL_law 1118 = .ok (.invokevirtual 124, 3) := by decide +kernel
theorem dL_law_1121 : decode cL_law 1121 = .ok (.if_icmp .eq 367, 3) := by decide +kernel
theorem dL_law_1124 : decode cL_law 1124 = .ok (.iconst 0, 1) := by decide +kernel
theorem dL_law_1125 : decode cL_law 1125 = .ok (.ireturn, 1) := by decide +kernel
theorem dL_law_1126 : decode cL_law 1126 = .ok (.aload_n 1, 1) := by decide +kernel
theorem dL_law_1127 : decode cL_law 1127 = .ok (.aload_n 0, 1) := by decide +kernel
theorem dL_law_1128 : decode cL_law 1128 = .ok (.iload_n 3, 1) := by decide +kernel
theorem dL_law_1129 : decode cL_law 1129 = .ok (.iconst 1, 1) := by decide +kernel
theorem dL_law_1130 : decode cL_law 1130 = .ok (.iadd, 1) := by decide +kernel
theorem dL_law_1131 : decode cL_law 1131 = .ok (.iaload, 1) := by decide +kernel
theorem dL_law_1132 : decode cL_law 1132 = .ok (.aload_n 0, 1) := by decide +kernel
theorem dL_law_1133 : decode cL_law 1133 = .ok (.iload_n 3, 1) := by decide +kernel
theorem dL_law_1134 : decode cL_law 1134 = .ok (.iconst 2, 1) := by decide +kernel
theorem dL_law_1135 : decode cL_law 1135 = .ok (.iadd, 1) := by decide +kernel
theorem dL_law_1136 : decode cL_law 1136 = .ok (.iaload, 1) := by decide +kernel
theorem dL_law_1137 : decode cL_law 1137 = .ok (.aload_n 0, 1) := by decide +kernel
theorem dL_law_1138 : decode cL_law 1138 = .ok (.iload_n 3, 1) := by decide +kernel
theorem dL_law_1139 : decode cL_law 1139 = .ok (.iconst 3, 1) := by decide +kernel
theorem dL_law_1140 : decode cL_law 1140 = .ok (.iadd, 1) := by decide +kernel
theorem dL_law_1141 : decode cL_law 1141 = .ok (.iaload, 1) := by decide +kernel
theorem dL_law_1142 : decode cL_law 1142 = .ok (.invokevirtual 125, 3) := by decide +kernel
theorem dL_law_1145 : decode cL_law 1145 = .ok (.aload_n 2, 1) := by decide +kernel
theorem dL_law_1146 : decode cL_law 1146 = .ok (.aload_n 0, 1) := by decide +kernel
theorem dL_law_1147 : decode cL_law 1147 = .ok (.iload_n 3, 1) := by decide +kernel
theorem dL_law_1148 : decode cL_law 1148 = .ok (.iconst 1, 1) := by decide +kernel
theorem dL_law_1149 : decode cL_law 1149 = .ok (.iadd, 1) := by decide +kernel
theorem dL_law_1150 : decode cL_law 1150 = .ok (.iaload, 1) := by decide +kernel
theorem dL_law_1151 : decode cL_law 1151 = .ok (.aload_n 0, 1) := by decide +kernel
theorem dL_law_1152 : decode cL_law 1152 = .ok (.iload_n 3, 1) := by decide +kernel
theorem dL_law_1153 : decode cL_law 1153 = .ok (.iconst 2, 1) := by decide +kernel
theorem dL_law_1154 : decode cL_law 1154 = .ok (.iadd, 1) := by decide +kernel
theorem dL_law_1155 : decode cL_law 1155 = .ok (.iaload, 1) := by decide +kernel
theorem dL_law_1156 : decode cL_law 1156 = .ok (.aload_n 0, 1) := by decide +kernel
theorem dL_law_1157 : decode cL_law 1157 = .ok (.iload_n 3, 1) := by decide +kernel
theorem dL_law_1158 : decode cL_law 1158 = .ok (.iconst 3, 1) := by decide +kernel
theorem dL_law_1159 : decode cL_law 1159 = .ok (.iadd, 1) := by decide +kernel
theorem dL_law_1160 : decode cL_law 1160 = .ok (.iaload, 1) := by decide +kernel
theorem dL_law_1161 : decode cL_law 1161 = .ok (.invokevirtual 128, 3) := by decide +kernel
theorem dL_law_1164 : decode cL_law 1164 = .ok (.if_icmp .eq 324, 3) := by decide +kernel
theorem dL_law_1167 : decode cL_law 1167 = .ok (.iconst 0, 1) := by decide +kernel
theorem dL_law_1168 : decode cL_law 1168 = .ok (.ireturn, 1) := by decide +kernel
theorem dL_law_1169 : decode cL_law 1169 = .ok (.aload_n 1, 1) := by decide +kernel
theorem dL_law_1170 : decode cL_law 1170 = .ok (.aload_n 0, 1) := by decide +kernel
theorem dL_law_1171 : decode cL_law 1171 = .ok (.iload_n 3, 1) := by decide +kernel
theorem dL_law_1172 : decode cL_law 1172 = .ok (.iconst 1, 1) := by decide +kernel
theorem dL_law_1173 : decode cL_law 1173 = .ok (.iadd, 1) := by decide +kernel
theorem dL_law_1174 : decode cL_law 1174 = .ok (.iaload, 1) := by decide +kernel
theorem dL_law_1175 : decode cL_law 1175 = .ok (.aload_n 0, 1) := by decide +kernel
theorem dL_law_1176 : decode cL_law 1176 = .ok (.iload_n 3, 1) := by decide +kernel
theorem dL_law_1177 : decode cL_law 1177 = .ok (.iconst 2, 1) := by decide +kernel
theorem dL_law_1178 : decode cL_law 1178 = .ok (.iadd, 1) := by decide +kernel
theorem dL_law_1179 : decode cL_law 1179 = .ok (.iaload, 1) := by decide +kernel
theorem dL_law_1180 : decode cL_law 1180 = .ok (.invokevirtual 129, 3) := by decide +kernel
theorem dL_law_1183 : decode cL_law 1183 = .ok (.aload_n 2, 1) := by decide +kernel
theorem dL_law_1184 : decode cL_law 1184 = .ok (.aload_n 0, 1) := by decide +kernel
theorem dL_law_1185 : decode cL_law 1185 = .ok (.iload_n 3, 1) := by decide +kernel
theorem dL_law_1186 : decode cL_law 1186 = .ok (.iconst 1, 1) := by decide +kernel
theorem dL_law_1187 : decode cL_law 1187 = .ok (.iadd, 1) := by decide +kernel
theorem dL_law_1188 : decode cL_law 1188 = .ok (.iaload, 1) := by decide +kernel
theorem dL_law_1189 : decode cL_law 1189 = .ok (.aload_n 0, 1) := by decide +kernel
theorem dL_law_1190 : decode cL_law 1190 = .ok (.iload_n 3, 1) := by decide +kernel
theorem dL_law_1191 : decode cL_law 1191 = .ok (.iconst 2, 1) := by decide +kernel
theorem dL_law_1192 : decode cL_law 1192 = .ok (.iadd, 1) := by decide +kernel
theorem dL_law_1193 : decode cL_law 1193 = .ok (.iaload, 1) := by decide +kernel
theorem dL_law_1194 : decode cL_law 1194 = .ok (.invokevirtual 132, 3) := by decide +kernel
theorem dL_law_1197 : decode cL_law 1197 = .ok (.if_icmp .eq 291, 3) := by decide +kernel
theorem dL_law_1200 : decode cL_law 1200 = .ok (.iconst 0, 1) := by decide +kernel
theorem dL_law_1201 : decode cL_law 1201 = .ok (.ireturn, 1) := by decide +kernel
theorem dL_law_1202 : decode cL_law 1202 = .ok (.aload_n 1, 1) := by decide +kernel
theorem dL_law_1203 : decode cL_law 1203 = .ok (.aload_n 0, 1) := by decide +kernel
theorem dL_law_1204 : decode cL_law 1204 = .ok (.iload_n 3, 1) := by decide +kernel
theorem dL_law_1205 : decode cL_law 1205 = .ok (.iconst 1, 1) := by decide +kernel
theorem dL_law_1206 : decode cL_law 1206 = .ok (.iadd, 1) := by decide +kernel
theorem dL_law_1207 : decode cL_law 1207 = .ok (.iaload, 1) := by decide +kernel
theorem dL_law_1208 : decode cL_law 1208 = .ok (.invokevirtual 133, 3) := by decide +kernel
theorem dL_law_1211 : decode cL_law 1211 = .ok (.aload_n 2, 1) := by decide +kernel
theorem dL_law_1212 : decode cL_law 1212 = .ok (.aload_n 0, 1) := by decide +kernel
theorem dL_law_1213 : decode cL_law 1213 = .ok (.iload_n 3, 1) := by decide +kernel
theorem dL_law_1214 : decode cL_law 1214 = .ok (.iconst 1, 1) := by decide +kernel
theorem dL_law_1215 : decode cL_law 1215 = .ok (.iadd, 1) := by decide +kernel
theorem dL_law_1216 : decode cL_law 1216 = .ok (.iaload, 1) := by decide +kernel
theorem dL_law_1217 : decode cL_law 1217 = .ok (.invokevirtual 136, 3) := by decide +kernel
theorem dL_law_1220 : decode cL_law 1220 = .ok (.if_icmp .eq 268, 3) := by decide +kernel
theorem dL_law_1223 : decode cL_law 1223 = .ok (.iconst 0, 1) := by decide +kernel
theorem dL_law_1224 : decode cL_law 1224 = .ok (.ireturn, 1) := by decide +kernel
theorem dL_law_1225 : decode cL_law 1225 = .ok (.aload_n 1, 1) := by decide +kernel
theorem dL_law_1226 : decode cL_law 1226 = .ok (.aload_n 0, 1) := by decide +kernel
theorem dL_law_1227 : decode cL_law 1227 = .ok (.iload_n 3, 1) := by decide +kernel
theorem dL_law_1228 : decode cL_law 1228 = .ok (.iconst 1, 1) := by decide +kernel
theorem dL_law_1229 : decode cL_law 1229 = .ok (.iadd, 1) := by decide +kernel
theorem dL_law_1230 : decode cL_law 1230 = .ok (.iaload, 1) := by decide +kernel
theorem dL_law_1231 : decode cL_law 1231 = .ok (.aload_n 0, 1) := by decide +kernel
theorem dL_law_1232 : decode cL_law 1232 = .ok (.iload_n 3, 1) := by decide +kernel
theorem dL_law_1233 : decode cL_law 1233 = .ok (.iconst 2, 1) := by decide +kernel
theorem dL_law_1234 : decode cL_law 1234 = .ok (.iadd, 1) := by decide +kernel
theorem dL_law_1235 : decode cL_law 1235 = .ok (.iaload, 1) := by decide +kernel
theorem dL_law_1236 : decode cL_law 1236 = .ok (.invokevirtual 137, 3) := by decide +kernel
theorem dL_law_1239 : decode cL_law 1239 = .ok (.aload_n 2, 1) := by decide +kernel
theorem dL_law_1240 : decode cL_law 1240 = .ok (.aload_n 0, 1) := by decide +kernel
theorem dL_law_1241 : decode cL_law 1241 = .ok (.iload_n 3, 1) := by decide +kernel
theorem dL_law_1242 : decode cL_law 1242 = .ok (.iconst 1, 1) := by decide +kernel
theorem dL_law_1243 : decode cL_law 1243 = .ok (.iadd, 1) := by decide +kernel
theorem dL_law_1244 : decode cL_law 1244 = .ok (.iaload, 1) := by decide +kernel
theorem dL_law_1245 : decode cL_law 1245 = .ok (.aload_n 0, 1) := by decide +kernel
theorem dL_law_1246 : decode cL_law 1246 = .ok (.iload_n 3, 1) := by decide +kernel
theorem dL_law_1247 : decode cL_law 1247 = .ok (.iconst 2, 1) := by decide +kernel
theorem dL_law_1248 : decode cL_law 1248 = .ok (.iadd, 1) := by decide +kernel
theorem dL_law_1249 : decode cL_law 1249 = .ok (.iaload, 1) := by decide +kernel
theorem dL_law_1250 : decode cL_law 1250 = .ok (.invokevirtual 140, 3) := by decide +kernel
theorem dL_law_1253 : decode cL_law 1253 = .ok (.if_icmp .eq 235, 3) := by decide +kernel
theorem dL_law_1256 : decode cL_law 1256 = .ok (.iconst 0, 1) := by decide +kernel
theorem dL_law_1257 : decode cL_law 1257 = .ok (.ireturn, 1) := by decide +kernel
theorem dL_law_1258 : decode cL_law 1258 = .ok (.aload_n 1, 1) := by decide +kernel
theorem dL_law_1259 : decode cL_law 1259 = .ok (.aload_n 0, 1) := by decide +kernel
theorem dL_law_1260 : decode cL_law 1260 = .ok (.iload_n 3, 1) := by decide +kernel
theorem dL_law_1261 : decode cL_law 1261 = .ok (.iconst 1, 1) := by decide +kernel
theorem dL_law_1262 : decode cL_law 1262 = .ok (.iadd, 1) := by decide +kernel
theorem dL_law_1263 : decode cL_law 1263 = .ok (.iaload, 1) := by decide +kernel
theorem dL_law_1264 : decode cL_law 1264 = .ok (.aload_n 0, 1) := by decide +kernel
theorem dL_law_1265 : decode cL_law 1265 = .ok (.iload_n 3, 1) := by decide +kernel
theorem dL_law_1266 : decode cL_law 1266 = .ok (.iconst 2, 1) := by decide +kernel
theorem dL_law_1267 : decode cL_law 1267 = .ok (.iadd, 1) := by decide +kernel
theorem dL_law_1268 : decode cL_law 1268 = .ok (.iaload, 1) := by decide +kernel
theorem dL_law_1269 : decode cL_law 1269 = .ok (.invokevirtual 141, 3) := by decide +kernel
theorem dL_law_1272 : decode cL_law 1272 = .ok (.aload_n 2, 1) := by decide +kernel
theorem dL_law_1273 : decode cL_law 1273 = .ok (.aload_n 0, 1) := by decide +kernel
theorem dL_law_1274 : decode cL_law 1274 = .ok (.iload_n 3, 1) := by decide +kernel
theorem dL_law_1275 : decode cL_law 1275 = .ok (.iconst 1, 1) := by decide +kernel
theorem dL_law_1276 : decode cL_law 1276 = .ok (.iadd, 1) := by decide +kernel
theorem dL_law_1277 : decode cL_law 1277 = .ok (.iaload, 1) := by decide +kernel
theorem dL_law_1278 : decode cL_law 1278 = .ok (.aload_n 0, 1) := by decide +kernel
theorem dL_law_1279 : decode cL_law 1279 = .ok (.iload_n 3, 1) := by decide +kernel
theorem dL_law_1280 : decode cL_law 1280 = .ok (.iconst 2, 1) := by decide +kernel
theorem dL_law_1281 : decode cL_law 1281 = .ok (.iadd, 1) := by decide +kernel
theorem dL_law_1282 : decode cL_law 1282 = .ok (.iaload, 1) := by decide +kernel
theorem dL_law_1283 : decode cL_law 1283 = .ok (.invokevirtual 144, 3) := by decide +kernel
theorem dL_law_1286 : decode cL_law 1286 = .ok (.if_icmp .eq 202, 3) := by decide +kernel
theorem dL_law_1289 : decode cL_law 1289 = .ok (.iconst 0, 1) := by decide +kernel
theorem dL_law_1290 : decode cL_law 1290 = .ok (.ireturn, 1) := by decide +kernel
theorem dL_law_1291 : decode cL_law 1291 = .ok (.aload_n 1, 1) := by decide +kernel
theorem dL_law_1292 : decode cL_law 1292 = .ok (.aload_n 0, 1) := by decide +kernel
theorem dL_law_1293 : decode cL_law 1293 = .ok (.iload_n 3, 1) := by decide +kernel
theorem dL_law_1294 : decode cL_law 1294 = .ok (.iconst 1, 1) := by decide +kernel
theorem dL_law_1295 : decode cL_law 1295 = .ok (.iadd, 1) := by decide +kernel
theorem dL_law_1296 : decode cL_law 1296 = .ok (.iaload, 1) := by decide +kernel
theorem dL_law_1297 : decode cL_law 1297 = .ok (.aload_n 0, 1) := by decide +kernel
theorem dL_law_1298 : decode cL_law 1298 = .ok (.iload_n 3, 1) := by decide +kernel
theorem dL_law_1299 : decode cL_law 1299 = .ok (.iconst 2, 1) := by decide +kernel
theorem dL_law_1300 : decode cL_law 1300 = .ok (.iadd, 1) := by decide +kernel
theorem dL_law_1301 : decode cL_law 1301 = .ok (.iaload, 1) := by decide +kernel
theorem dL_law_1302 : decode cL_law 1302 = .ok (.invokevirtual 145, 3) := by decide +kernel
theorem dL_law_1305 : decode cL_law 1305 = .ok (.aload_n 2, 1) := by decide +kernel
theorem dL_law_1306 : decode cL_law 1306 = .ok (.aload_n 0, 1) := by decide +kernel
theorem dL_law_1307 : decode cL_law 1307 = .ok (.iload_n 3, 1) := by decide +kernel
theorem dL_law_1308 : decode cL_law 1308 = .ok (.iconst 1, 1) := by decide +kernel
theorem dL_law_1309 : decode cL_law 1309 = .ok (.iadd, 1) := by decide +kernel
theorem dL_law_1310 : decode cL_law 1310 = .ok (.iaload, 1) := by decide +kernel
theorem dL_law_1311 : decode cL_law 1311 = .ok (.aload_n 0, 1) := by decide +kernel
theorem dL_law_1312 : decode cL_law 1312 = .ok (.iload_n 3, 1) := by decide +kernel
theorem dL_law_1313 : decode cL_law 1313 = .ok (.iconst 2, 1) := by decide +kernel
theorem dL_law_1314 : decode cL_law 1314 = .ok (.iadd, 1) := by decide +kernel
theorem dL_law_1315 : decode cL_law 1315 = .ok (.iaload, 1) := by decide +kernel
theorem dL_law_1316 : decode cL_law 1316 = .ok (.invokevirtual 148, 3) := by decide +kernel
theorem dL_law_1319 : decode cL_law 1319 = .ok (.if_icmp .eq 169, 3) := by decide +kernel
theorem dL_law_1322 : decode cL_law 1322 = .ok (.iconst 0, 1) := by decide +kernel
theorem dL_law_1323 : decode cL_law 1323 = .ok (.ireturn, 1) := by decide +kernel
theorem dL_law_1324 : decode cL_law 1324 = .ok (.aload_n 1, 1) := by decide +kernel
theorem dL_law_1325 : decode cL_law 1325 = .ok (.aload_n 0, 1) := by decide +kernel
theorem dL_law_1326 : decode cL_law 1326 = .ok (.iload_n 3, 1) := by decide +kernel
theorem dL_law_1327 : decode cL_law 1327 = .ok (.iconst 1, 1) := by decide +kernel
theorem dL_law_1328 : decode cL_law 1328 = .ok (.iadd, 1) := by decide +kernel
theorem dL_law_1329 : decode cL_law 1329 = .ok (.iaload, 1) := by decide +kernel
theorem dL_law_1330 : decode cL_law 1330 = .ok (.invokevirtual 149, 3) := by decide +kernel
theorem dL_law_1333 : decode cL_law 1333 = .ok (.aload_n 2, 1) := by decide +kernel
theorem dL_law_1334 : decode cL_law 1334 = .ok (.aload_n 0, 1) := by decide +kernel
theorem dL_law_1335 : decode cL_law 1335 = .ok (.iload_n 3, 1) := by decide +kernel
theorem dL_law_1336 : decode cL_law 1336 = .ok (.iconst 1, 1) := by decide +kernel
theorem dL_law_1337 : decode cL_law 1337 = .ok (.iadd, 1) := by decide +kernel
theorem dL_law_1338 : decode cL_law 1338 = .ok (.iaload, 1) := by decide +kernel
theorem dL_law_1339 : decode cL_law 1339 = .ok (.invokevirtual 152, 3) := by decide +kernel
theorem dL_law_1342 : decode cL_law 1342 = .ok (.if_icmp .eq 146, 3) := by decide +kernel
theorem dL_law_1345 : decode cL_law 1345 = .ok (.iconst 0, 1) := by decide +kernel
theorem dL_law_1346 : decode cL_law 1346 = .ok (.ireturn, 1) := by decide +kernel
theorem dL_law_1347 : decode cL_law 1347 = .ok (.aload_n 1, 1) := by decide +kernel
theorem dL_law_1348 : decode cL_law 1348 = .ok (.aload_n 0, 1) := by decide +kernel
theorem dL_law_1349 : decode cL_law 1349 = .ok (.iload_n 3, 1) := by decide +kernel
theorem dL_law_1350 : decode cL_law 1350 = .ok (.iconst 1, 1) := by decide +kernel
theorem dL_law_1351 : decode cL_law 1351 = .ok (.iadd, 1) := by decide +kernel
theorem dL_law_1352 : decode cL_law 1352 = .ok (.iaload, 1) := by decide +kernel
theorem dL_law_1353 : decode cL_law 1353 = .ok (.invokevirtual 153, 3) := by decide +kernel
theorem dL_law_1356 : decode cL_law 1356 = .ok (.aload_n 2, 1) := by decide +kernel
theorem dL_law_1357 : decode cL_law 1357 = .ok (.aload_n 0, 1) := by decide +kernel
theorem dL_law_1358 : decode cL_law 1358 = .ok (.iload_n 3, 1) := by decide +kernel
theorem dL_law_1359 : decode cL_law 1359 = .ok (.iconst 1, 1) := by decide +kernel
theorem dL_law_1360 : decode cL_law 1360 = .ok (.iadd, 1) := by decide +kernel
theorem dL_law_1361 : decode cL_law 1361 = .ok (.iaload, 1) := by decide +kernel
theorem dL_law_1362 : decode cL_law 1362 = .ok (.invokevirtual 156, 3) := by decide +kernel
theorem dL_law_1365 : decode cL_law 1365 = .ok (.if_icmp .eq 123, 3) := by decide +kernel
theorem dL_law_1368 : decode cL_law 1368 = .ok (.iconst 0, 1) := by decide +kernel
theorem dL_law_1369 : decode cL_law 1369 = .ok (.ireturn, 1) := by decide +kernel
theorem dL_law_1370 : decode cL_law 1370 = .ok (.aload_n 1, 1) := by decide +kernel
theorem dL_law_1371 : decode cL_law 1371 = .ok (.aload_n 0, 1) := by decide +kernel
theorem dL_law_1372 : decode cL_law 1372 = .ok (.iload_n 3, 1) := by decide +kernel
theorem dL_law_1373 : decode cL_law 1373 = .ok (.iconst 1, 1) := by decide +kernel
theorem dL_law_1374 : decode cL_law 1374 = .ok (.iadd, 1) := by decide +kernel
theorem dL_law_1375 : decode cL_law 1375 = .ok (.iaload, 1) := by decide +kernel
theorem dL_law_1376 : decode cL_law 1376 = .ok (.invokevirtual 157, 3) := by decide +kernel
theorem dL_law_1379 : decode cL_law 1379 = .ok (.aload_n 2, 1) := by decide +kernel
theorem dL_law_1380 : decode cL_law 1380 = .ok (.aload_n 0, 1) := by decide +kernel
theorem dL_law_1381 : decode cL_law 1381 = .ok (.iload_n 3, 1) := by decide +kernel
theorem dL_law_1382 : decode cL_law 1382 = .ok (.iconst 1, 1) := by decide +kernel
theorem dL_law_1383 : decode cL_law 1383 = .ok (.iadd, 1) := by decide +kernel
theorem dL_law_1384 : decode cL_law 1384 = .ok (.iaload, 1) := by decide +kernel
theorem dL_law_1385 : decode cL_law 1385 = .ok (.invokevirtual 160, 3) := by decide +kernel
theorem dL_law_1388 : decode cL_law 1388 = .ok (.if_icmp .eq 100, 3) := by decide +kernel
theorem dL_law_1391 : decode cL_law 1391 = .ok (.iconst 0, 1) := by decide +kernel
theorem dL_law_1392 : decode cL_law 1392 = .ok (.ireturn, 1) := by decide +kernel
theorem dL_law_1393 : decode cL_law 1393 = .ok (.aload_n 1, 1) := by decide +kernel
theorem dL_law_1394 : decode cL_law 1394 = .ok (.aload_n 0, 1) := by decide +kernel
theorem dL_law_1395 : decode cL_law 1395 = .ok (.iload_n 3, 1) := by decide +kernel
theorem dL_law_1396 : decode cL_law 1396 = .ok (.iconst 1, 1) := by decide +kernel
theorem dL_law_1397 : decode cL_law 1397 = .ok (.iadd, 1) := by decide +kernel
theorem dL_law_1398 : decode cL_law 1398 = .ok (.iaload, 1) := by decide +kernel
theorem dL_law_1399 : decode cL_law 1399 = .ok (.invokevirtual 161, 3) := by decide +kernel
theorem dL_law_1402 : decode cL_law 1402 = .ok (.aload_n 2, 1) := by decide +kernel
theorem dL_law_1403 : decode cL_law 1403 = .ok (.aload_n 0, 1) := by decide +kernel
theorem dL_law_1404 : decode cL_law 1404 = .ok (.iload_n 3, 1) := by decide +kernel
theorem dL_law_1405 : decode cL_law 1405 = .ok (.iconst 1, 1) := by decide +kernel
theorem dL_law_1406 : decode cL_law 1406 = .ok (.iadd, 1) := by decide +kernel
theorem dL_law_1407 : decode cL_law 1407 = .ok (.iaload, 1) := by decide +kernel
theorem dL_law_1408 : decode cL_law 1408 = .ok (.invokevirtual 164, 3) := by decide +kernel
theorem dL_law_1411 : decode cL_law 1411 = .ok (.if_icmp .eq 77, 3) := by decide +kernel
theorem dL_law_1414 : decode cL_law 1414 = .ok (.iconst 0, 1) := by decide +kernel
theorem dL_law_1415 : decode cL_law 1415 = .ok (.ireturn, 1) := by decide +kernel
theorem dL_law_1416 : decode cL_law 1416 = .ok (.aload_n 1, 1) := by decide +kernel
theorem dL_law_1417 : decode cL_law 1417 = .ok (.aload_n 0, 1) := by decide +kernel
theorem dL_law_1418 : decode cL_law 1418 = .ok (.iload_n 3, 1) := by decide +kernel
theorem dL_law_1419 : decode cL_law 1419 = .ok (.iconst 1, 1) := by decide +kernel
theorem dL_law_1420 : decode cL_law 1420 = .ok (.iadd, 1) := by decide +kernel
theorem dL_law_1421 : decode cL_law 1421 = .ok (.iaload, 1) := by decide +kernel
theorem dL_law_1422 : decode cL_law 1422 = .ok (.invokevirtual 165, 3) := by decide +kernel
theorem dL_law_1425 : decode cL_law 1425 = .ok (.aload_n 2, 1) := by decide +kernel
theorem dL_law_1426 : decode cL_law 1426 = .ok (.aload_n 0, 1) := by decide +kernel
theorem dL_law_1427 : decode cL_law 1427 = .ok (.iload_n 3, 1) := by decide +kernel
theorem dL_law_1428 : decode cL_law 1428 = .ok (.iconst 1, 1) := by decide +kernel
theorem dL_law_1429 : decode cL_law 1429 = .ok (.iadd, 1) := by decide +kernel
theorem dL_law_1430 : decode cL_law 1430 = .ok (.iaload, 1) := by decide +kernel
theorem dL_law_1431 : decode cL_law 1431 = .ok (.invokevirtual 168, 3) := by decide +kernel
theorem dL_law_1434 : decode cL_law 1434 = .ok (.if_icmp .eq 54, 3) := by decide +kernel
theorem dL_law_1437 : decode cL_law 1437 = .ok (.iconst 0, 1) := by decide +kernel
theorem dL_law_1438 : decode cL_law 1438 = .ok (.ireturn, 1) := by decide +kernel
theorem dL_law_1439 : decode cL_law 1439 = .ok (.aload_n 1, 1) := by decide +kernel
theorem dL_law_1440 : decode cL_law 1440 = .ok (.invokevirtual 169, 3) := by decide +kernel
theorem dL_law_1443 : decode cL_law 1443 = .ok (.aload_n 2, 1) := by decide +kernel
theorem dL_law_1444 : decode cL_law 1444 = .ok (.invokevirtual 173, 3) := by decide +kernel
theorem dL_law_1447 : decode cL_law 1447 = .ok (.if_icmp .eq 41, 3) := by decide +kernel
theorem dL_law_1450 : decode cL_law 1450 = .ok (.iconst 0, 1) := by decide +kernel
theorem dL_law_1451 : decode cL_law 1451 = .ok (.ireturn, 1) := by decide +kernel
theorem dL_law_1452 : decode cL_law 1452 = .ok (.aload_n 1, 1) := by decide +kernel
theorem dL_law_1453 : decode cL_law 1453 = .ok (.invokevirtual 174, 3) := by decide +kernel
theorem dL_law_1456 : decode cL_law 1456 = .ok (.aload_n 2, 1) := by decide +kernel
theorem dL_law_1457 : decode cL_law 1457 = .ok (.invokevirtual 177, 3) := by decide +kernel
theorem dL_law_1460 : decode cL_law 1460 = .ok (.if_icmp .eq 28, 3) := by decide +kernel
theorem dL_law_1463 : decode cL_law 1463 = .ok (.iconst 0, 1) := by decide +kernel
theorem dL_law_1464 : decode cL_law 1464 = .ok (.ireturn, 1) := by decide +kernel
theorem dL_law_1465 : decode cL_law 1465 = .ok (.aload_n 1, 1) := by decide +kernel
theorem dL_law_1466 : decode cL_law 1466 = .ok (.aload_n 0, 1) := by decide +kernel
theorem dL_law_1467 : decode cL_law 1467 = .ok (.iload_n 3, 1) := by decide +kernel
theorem dL_law_1468 : decode cL_law 1468 = .ok (.iconst 1, 1) := by decide +kernel
theorem dL_law_1469 : decode cL_law 1469 = .ok (.iadd, 1) := by decide +kernel
theorem dL_law_1470 : decode cL_law 1470 = .ok (.iaload, 1) := by decide +kernel
theorem dL_law_1471 : decode cL_law 1471 = .ok (.invokevirtual 178, 3) := by decide +kernel
theorem dL_law_1474 : decode cL_law 1474 = .ok (.aload_n 2, 1) := by decide +kernel
theorem dL_law_1475 : decode cL_law 1475 = .ok (.aload_n 0, 1) := by decide +kernel
theorem dL_law_1476 : decode cL_law 1476 = .ok (.iload_n 3, 1) := by decide +kernel
theorem dL_law_1477 : decode cL_law 1477 = .ok (.iconst 1, 1) := by decide +kernel
theorem dL_law_1478 : decode cL_law 1478 = .ok (.iadd, 1) := by decide +kernel
theorem dL_law_1479 : decode cL_law 1479 = .ok (.iaload, 1) := by decide +kernel
theorem dL_law_1480 : decode cL_law 1480 = .ok (.invokevirtual 181, 3) := by decide +kernel
theorem dL_law_1483 : decode cL_law 1483 = .ok (.if_icmp .eq 5, 3) := by decide +kernel
theorem dL_law_1486 : decode cL_law 1486 = .ok (.iconst 0, 1) := by decide +kernel
theorem dL_law_1487 : decode cL_law 1487 = .ok (.ireturn, 1) := by decide +kernel
theorem dL_law_1488 : decode cL_law 1488 = .ok (.iinc 3 6, 3) := by decide +kernel
theorem dL_law_1491 : decode cL_law 1491 = .ok (.goto (-1473), 3) := by decide +kernel
theorem dL_law_1494 : decode cL_law 1494 = .ok (.iconst 1, 1) := by decide +kernel
theorem dL_law_1495 : decode cL_law 1495 = .ok (.ireturn, 1) := by decide +kernel
theorem z_inL {i j L : Nat} (h : i + 6 ≤ L) (hL : L ≤ 3072) (hj : j < 6) : vp_in (nI i + nI j) L := by
  rw [nI_add]
  exact vp_in_nI (by omega) (by omega)
def St_sheet (Sim : Nat → CS → RS → Prop) : Prop := ∀ (o : Nat) (z : CS) (r : RS) (a1 : Int32) (a2 : Int32) (a3 : Int32), Sim o z r → ∃ (q1 : Int32 × CS) (q2 : Int32 × RS), fX9_sheet o z a1 a2 a3 = some q1 ∧ fX10_sheet r a1 a2 a3 = some q2 ∧ q1.1 = q2.1 ∧ Sim o q1.2 q2.2
set_option maxHeartbeats 4000000 in
set_option maxRecDepth 100000 in
theorem lc_sheet {κ : KK} {p : Program} {l : Launch} {e : Env} {s : State} {m : MethodId} {below : List Frame} {meth : Method} {c : Code} {b L : Nat} {xs : Nat → Int32} (C : Cx κ p s m #[Value.ref b] meth c cL_law 4 RL ret) (hX : va_X b L xs s s.heap) (hbl : b < s.heap.size) (hL : L ≤ 3072) {Sim : Nat → CS → RS → Prop} (hst : St_sheet Sim) {i : Nat} {z : CS} {r : RS} (hsim : Sim s.heap.size z r) (hi : i + 6 ≤ L) {cells slots : Nat} (hc : cells + 2 ≤ 600000) (hs : slots + 260 ≤ 7302250) (kk : ∀ (z' : CS) (r' : RS), Sim s.heap.size z' r' → GG p l e room_1 s m #[Value.ref b] below meth c (lw_Z below #[Value.ref b] s) (LA s.heap.size) 4 (cells + 2) (slots + 260) (LWB κ s.heap.size z' r') 1488 [(0, .ref b), (1, .ref s.heap.size), (2, .ref (s.heap.size + 32)), (3, .int (nI i))] []) : GG p l e room_1 s m #[Value.ref b] below meth c (lw_Z below #[Value.ref b] s) (LA s.heap.size) 4 cells slots (LWB κ s.heap.size z r) 208 [(0, .ref b), (1, .ref s.heap.size), (2, .ref (s.heap.size + 32)), (3, .int (nI i))] [] := by
  obtain ⟨w1, hw1⟩ : ∃ w, xs (nI i + (1 : Int32)).toNatClampNeg = w := ⟨_, rfl⟩
  obtain ⟨w2, hw2⟩ : ∃ w, xs (nI i + (2 : Int32)).toNatClampNeg = w := ⟨_, rfl⟩
  obtain ⟨w3, hw3⟩ : ∃ w, xs (nI i + (3 : Int32)).toNatClampNeg = w := ⟨_, rfl⟩
  refine G_aload_n (pc' := 209) C dL_law_208 1 rfl rfl ?_
  refine G_aload_n (pc' := 210) C dL_law_209 0 rfl rfl ?_
  refine G_iload_n (pc' := 211) C dL_law_210 3 rfl rfl ?_
  refine G_iconst (pc' := 212) (v := (1 : Int32)) C dL_law_211 (by decide) rfl ?_
  refine G_iadd (pc' := 213) C dL_law_212 rfl ?_
  refine G_sldV (pc' := 214) C hX hbl (Nat.not_le.mpr hbl) dL_law_213 (z_inL (j := 1) hi hL (by decide)) hw1 rfl ?_
  refine G_aload_n (pc' := 215) C dL_law_214 0 rfl rfl ?_
  refine G_iload_n (pc' := 216) C dL_law_215 3 rfl rfl ?_
  refine G_iconst (pc' := 217) (v := (2 : Int32)) C dL_law_216 (by decide) rfl ?_
  refine G_iadd (pc' := 218) C dL_law_217 rfl ?_
  refine G_sldV (pc' := 219) C hX hbl (Nat.not_le.mpr hbl) dL_law_218 (z_inL (j := 2) hi hL (by decide)) hw2 rfl ?_
  refine G_aload_n (pc' := 220) C dL_law_219 0 rfl rfl ?_
  refine G_iload_n (pc' := 221) C dL_law_220 3 rfl rfl ?_
  refine G_iconst (pc' := 222) (v := (3 : Int32)) C dL_law_221 (by decide) rfl ?_
  refine G_iadd (pc' := 223) C dL_law_222 rfl ?_
  refine G_sldV (pc' := 224) C hX hbl (Nat.not_le.mpr hbl) dL_law_223 (z_inL (j := 3) hi hL (by decide)) hw3 rfl ?_
  obtain ⟨q1, q2, h1, h2, h3, h4⟩ := hst s.heap.size z r w1 w2 w3 hsim
  refine G_callV (F := RB κ (s.heap.size + 32) r) (pc' := 227) C dL_law_224 (tX9_sheet κ l s.heap.size z w1 w2 w3 q1 h1) (wV tw_ml_L_13 tw_im_X9_sheet tw_se_X9_X9_sheet tw_in_X9 tw_co_X9_sheet) yd_X9_sheet rfl fi_X9 (LW_c rfl) ⟨⟨by decide, by decide⟩, Nat.le_trans (Nat.add_le_add_left (show rmX9_sheet.cells ≤ 2 by decide) _) hc, Nat.le_trans (Nat.add_le_add_left (show rmX9_sheet.slots ≤ 260 by decide) _) hs⟩ (fun w hw => by rcases hw with h | h; exact h.1; exact Nat.le_trans (Nat.le_add_right _ _) h) (fun _ h => h) (fun _ _ _ _ hk hf => RB_fr hk hf) rfl (Nat.le_of_ble_eq_true rfl) rfl rfl ?_
  refine G_widen (k := cells + 2) (n := slots + 260) (Nat.add_le_add_left (show rmX9_sheet.cells ≤ 2 by decide) _) (Nat.add_le_add_left (show rmX9_sheet.slots ≤ 260 by decide) _) ?_
  refine G_world (B' := LWB κ s.heap.size q1.2 r) (fun _ h => h) ?_
  refine G_aload_n (pc' := 228) C dL_law_227 2 rfl rfl ?_
  refine G_aload_n (pc' := 229) C dL_law_228 0 rfl rfl ?_
  refine G_iload_n (pc' := 230) C dL_law_229 3 rfl rfl ?_
  refine G_iconst (pc' := 231) (v := (1 : Int32)) C dL_law_230 (by decide) rfl ?_
  refine G_iadd (pc' := 232) C dL_law_231 rfl ?_
  refine G_sldV (pc' := 233) C hX hbl (Nat.not_le.mpr hbl) dL_law_232 (z_inL (j := 1) hi hL (by decide)) hw1 rfl ?_
  refine G_aload_n (pc' := 234) C dL_law_233 0 rfl rfl ?_
  refine G_iload_n (pc' := 235) C dL_law_234 3 rfl rfl ?_
  refine G_iconst (pc' := 236) (v := (2 : Int32)) C dL_law_235 (by decide) rfl ?_
  refine G_iadd (pc' := 237) C dL_law_236 rfl ?_
  refine G_sldV (pc' := 238) C hX hbl (Nat.not_le.mpr hbl) dL_law_237 (z_inL (j := 2) hi hL (by decide)) hw2 rfl ?_
  refine G_aload_n (pc' := 239) C dL_law_238 0 rfl rfl ?_
  refine G_iload_n (pc' := 240) C dL_law_239 3 rfl rfl ?_
  refine G_iconst (pc' := 241) (v := (3 : Int32)) C dL_law_240 (by decide) rfl ?_
  refine G_iadd (pc' := 242) C dL_law_241 rfl ?_
  refine G_sldV (pc' := 243) C hX hbl (Nat.not_le.mpr hbl) dL_law_242 (z_inL (j := 3) hi hL (by decide)) hw3 rfl ?_
  refine G_callV (F := CBf κ s.heap.size q1.2) (pc' := 246) C dL_law_243 ((tX10_sheet κ l (s.heap.size + 32) r w1 w2 w3 q2 h2).sized rfl (cn q1.2)) (wV tw_ml_L_17 tw_im_X10_sheet tw_se_X10_X10_sheet tw_in_X10 tw_co_X10_sheet) yd_X10_sheet rfl fi_X10 (LW_r rfl) ⟨⟨by decide, by decide⟩, hc, hs⟩ (fun w hw => Nat.le_trans (Nat.le_add_right _ 32) hw.1) (fun _ h => LW_toR h) (fun _ _ _ _ hk hf => CBf_fr hk hf) rfl (Nat.le_of_ble_eq_true rfl) rfl rfl ?_
  refine G_world (B' := LWB κ s.heap.size q1.2 q2.2) (fun _ h => LW_ofR h) ?_
  refine G_icmp_eq (tgt := 1488) (pc' := 249) C dL_law_246 (by decide) rfl (fun _ => ?_) (fun hne => absurd h3 hne)
  exact kk _ _ h4
def St_lose (Sim : Nat → CS → RS → Prop) : Prop := ∀ (o : Nat) (z : CS) (r : RS) (a1 : Int32), Sim o z r → ∃ (q1 : Int32 × CS) (q2 : Int32 × RS), fX9_lose o z a1 = some q1 ∧ fX10_lose r a1 = some q2 ∧ q1.1 = q2.1 ∧ Sim o q1.2 q2.2
set_option maxHeartbeats 4000000 in
set_option maxRecDepth 100000 in
theorem lc_lose {κ : KK} {p : Program} {l : Launch} {e : Env} {s : State} {m : MethodId} {below : List Frame} {meth : Method} {c : Code} {b L : Nat} {xs : Nat → Int32} (C : Cx κ p s m #[Value.ref b] meth c cL_law 4 RL ret) (hX : va_X b L xs s s.heap) (hbl : b < s.heap.size) (hL : L ≤ 3072) {Sim : Nat → CS → RS → Prop} (hst : St_lose Sim) {i : Nat} {z : CS} {r : RS} (hsim : Sim s.heap.size z r) (hi : i + 6 ≤ L) {cells slots : Nat} (hc : cells + 2 ≤ 600000) (hs : slots + 260 ≤ 7302250) (kk : ∀ (z' : CS) (r' : RS), Sim s.heap.size z' r' → GG p l e room_1 s m #[Value.ref b] below meth c (lw_Z below #[Value.ref b] s) (LA s.heap.size) 4 (cells + 2) (slots + 260) (LWB κ s.heap.size z' r') 1488 [(0, .ref b), (1, .ref s.heap.size), (2, .ref (s.heap.size + 32)), (3, .int (nI i))] []) : GG p l e room_1 s m #[Value.ref b] below meth c (lw_Z below #[Value.ref b] s) (LA s.heap.size) 4 cells slots (LWB κ s.heap.size z r) 251 [(0, .ref b), (1, .ref s.heap.size), (2, .ref (s.heap.size + 32)), (3, .int (nI i))] [] := by
  obtain ⟨w1, hw1⟩ : ∃ w, xs (nI i + (1 : Int32)).toNatClampNeg = w := ⟨_, rfl⟩
  refine G_aload_n (pc' := 252) C dL_law_251 1 rfl rfl ?_
  refine G_aload_n (pc' := 253) C dL_law_252 0 rfl rfl ?_
  refine G_iload_n (pc' := 254) C dL_law_253 3 rfl rfl ?_
  refine G_iconst (pc' := 255) (v := (1 : Int32)) C dL_law_254 (by decide) rfl ?_
  refine G_iadd (pc' := 256) C dL_law_255 rfl ?_
  refine G_sldV (pc' := 257) C hX hbl (Nat.not_le.mpr hbl) dL_law_256 (z_inL (j := 1) hi hL (by decide)) hw1 rfl ?_
  obtain ⟨q1, q2, h1, h2, h3, h4⟩ := hst s.heap.size z r w1 hsim
  refine G_callV (F := RB κ (s.heap.size + 32) r) (pc' := 260) C dL_law_257 (tX9_lose κ l s.heap.size z w1 q1 h1) (wV tw_ml_L_18 tw_im_X9_lose tw_se_X9_X9_lose tw_in_X9 tw_co_X9_lose) yd_X9_lose rfl fi_X9 (LW_c rfl) ⟨⟨by decide, by decide⟩, Nat.le_trans (Nat.add_le_add_left (show rmX9_lose.cells ≤ 2 by decide) _) hc, Nat.le_trans (Nat.add_le_add_left (show rmX9_lose.slots ≤ 260 by decide) _) hs⟩ (fun w hw => by rcases hw with h | h; exact h.1; exact Nat.le_trans (Nat.le_add_right _ _) h) (fun _ h => h) (fun _ _ _ _ hk hf => RB_fr hk hf) rfl (Nat.le_of_ble_eq_true rfl) rfl rfl ?_
  refine G_widen (k := cells + 2) (n := slots + 260) (Nat.add_le_add_left (show rmX9_lose.cells ≤ 2 by decide) _) (Nat.add_le_add_left (show rmX9_lose.slots ≤ 260 by decide) _) ?_
  refine G_world (B' := LWB κ s.heap.size q1.2 r) (fun _ h => h) ?_
  refine G_aload_n (pc' := 261) C dL_law_260 2 rfl rfl ?_
  refine G_aload_n (pc' := 262) C dL_law_261 0 rfl rfl ?_
  refine G_iload_n (pc' := 263) C dL_law_262 3 rfl rfl ?_
  refine G_iconst (pc' := 264) (v := (1 : Int32)) C dL_law_263 (by decide) rfl ?_
  refine G_iadd (pc' := 265) C dL_law_264 rfl ?_
  refine G_sldV (pc' := 266) C hX hbl (Nat.not_le.mpr hbl) dL_law_265 (z_inL (j := 1) hi hL (by decide)) hw1 rfl ?_
  refine G_callV (F := CBf κ s.heap.size q1.2) (pc' := 269) C dL_law_266 ((tX10_lose κ l (s.heap.size + 32) r w1 q2 h2).sized rfl (cn q1.2)) (wV tw_ml_L_22 tw_im_X10_lose tw_se_X10_X10_lose tw_in_X10 tw_co_X10_lose) yd_X10_lose rfl fi_X10 (LW_r rfl) ⟨⟨by decide, by decide⟩, hc, hs⟩ (fun w hw => Nat.le_trans (Nat.le_add_right _ 32) hw.1) (fun _ h => LW_toR h) (fun _ _ _ _ hk hf => CBf_fr hk hf) rfl (Nat.le_of_ble_eq_true rfl) rfl rfl ?_
  refine G_world (B' := LWB κ s.heap.size q1.2 q2.2) (fun _ h => LW_ofR h) ?_
  refine G_icmp_eq (tgt := 1488) (pc' := 272) C dL_law_269 (by decide) rfl (fun _ => ?_) (fun hne => absurd h3 hne)
  exact kk _ _ h4
def St_write (Sim : Nat → CS → RS → Prop) : Prop := ∀ (o : Nat) (z : CS) (r : RS) (a1 : Int32) (a2 : Int32) (a3 : Int64), Sim o z r → ∃ (q1 : Int32 × CS) (q2 : Int32 × RS), fX9_write o z a1 a2 a3 = some q1 ∧ fX10_write r a1 a2 a3 = some q2 ∧ q1.1 = q2.1 ∧ Sim o q1.2 q2.2
set_option maxHeartbeats 4000000 in
set_option maxRecDepth 100000 in
theorem lc_write {κ : KK} {p : Program} {l : Launch} {e : Env} {s : State} {m : MethodId} {below : List Frame} {meth : Method} {c : Code} {b L : Nat} {xs : Nat → Int32} (C : Cx κ p s m #[Value.ref b] meth c cL_law 4 RL ret) (hX : va_X b L xs s s.heap) (hbl : b < s.heap.size) (hL : L ≤ 3072) {Sim : Nat → CS → RS → Prop} (hst : St_write Sim) {i : Nat} {z : CS} {r : RS} (hsim : Sim s.heap.size z r) (hi : i + 6 ≤ L) {cells slots : Nat} (hc : cells + 2 ≤ 600000) (hs : slots + 260 ≤ 7302250) (kk : ∀ (z' : CS) (r' : RS), Sim s.heap.size z' r' → GG p l e room_1 s m #[Value.ref b] below meth c (lw_Z below #[Value.ref b] s) (LA s.heap.size) 4 (cells + 2) (slots + 260) (LWB κ s.heap.size z' r') 1488 [(0, .ref b), (1, .ref s.heap.size), (2, .ref (s.heap.size + 32)), (3, .int (nI i))] []) : GG p l e room_1 s m #[Value.ref b] below meth c (lw_Z below #[Value.ref b] s) (LA s.heap.size) 4 cells slots (LWB κ s.heap.size z r) 274 [(0, .ref b), (1, .ref s.heap.size), (2, .ref (s.heap.size + 32)), (3, .int (nI i))] [] := by
  obtain ⟨w1, hw1⟩ : ∃ w, xs (nI i + (1 : Int32)).toNatClampNeg = w := ⟨_, rfl⟩
  obtain ⟨w2, hw2⟩ : ∃ w, xs (nI i + (2 : Int32)).toNatClampNeg = w := ⟨_, rfl⟩
  obtain ⟨w3, hw3⟩ : ∃ w, xs (nI i + (3 : Int32)).toNatClampNeg = w := ⟨_, rfl⟩
  obtain ⟨w4, hw4⟩ : ∃ w, xs (nI i + (4 : Int32)).toNatClampNeg = w := ⟨_, rfl⟩
  refine G_aload_n (pc' := 275) C dL_law_274 1 rfl rfl ?_
  refine G_aload_n (pc' := 276) C dL_law_275 0 rfl rfl ?_
  refine G_iload_n (pc' := 277) C dL_law_276 3 rfl rfl ?_
  refine G_iconst (pc' := 278) (v := (1 : Int32)) C dL_law_277 (by decide) rfl ?_
  refine G_iadd (pc' := 279) C dL_law_278 rfl ?_
  refine G_sldV (pc' := 280) C hX hbl (Nat.not_le.mpr hbl) dL_law_279 (z_inL (j := 1) hi hL (by decide)) hw1 rfl ?_
  refine G_aload_n (pc' := 281) C dL_law_280 0 rfl rfl ?_
  refine G_iload_n (pc' := 282) C dL_law_281 3 rfl rfl ?_
  refine G_iconst (pc' := 283) (v := (2 : Int32)) C dL_law_282 (by decide) rfl ?_
  refine G_iadd (pc' := 284) C dL_law_283 rfl ?_
  refine G_sldV (pc' := 285) C hX hbl (Nat.not_le.mpr hbl) dL_law_284 (z_inL (j := 2) hi hL (by decide)) hw2 rfl ?_
  refine G_aload_n (pc' := 286) C dL_law_285 0 rfl rfl ?_
  refine G_iload_n (pc' := 287) C dL_law_286 3 rfl rfl ?_
  refine G_iconst (pc' := 288) (v := (3 : Int32)) C dL_law_287 (by decide) rfl ?_
  refine G_iadd (pc' := 289) C dL_law_288 rfl ?_
  refine G_sldV (pc' := 290) C hX hbl (Nat.not_le.mpr hbl) dL_law_289 (z_inL (j := 3) hi hL (by decide)) hw3 rfl ?_
  refine G_i2l (pc' := 291) C dL_law_290 rfl ?_
  refine G_bipush (pc' := 293) (v := (32 : Int32)) C dL_law_291 (by decide) rfl ?_
  refine G_lshl (pc' := 294) C dL_law_293 rfl ?_
  refine G_aload_n (pc' := 295) C dL_law_294 0 rfl rfl ?_
  refine G_iload_n (pc' := 296) C dL_law_295 3 rfl rfl ?_
  refine G_iconst (pc' := 297) (v := (4 : Int32)) C dL_law_296 (by decide) rfl ?_
  refine G_iadd (pc' := 298) C dL_law_297 rfl ?_
  refine G_sldV (pc' := 299) C hX hbl (Nat.not_le.mpr hbl) dL_law_298 (z_inL (j := 4) hi hL (by decide)) hw4 rfl ?_
  refine G_i2l (pc' := 300) C dL_law_299 rfl ?_
  refine G_ldc2 (pc' := 303) C dL_law_300 tw_k_L_23 rfl ?_
  refine G_land (pc' := 304) C dL_law_303 rfl ?_
  refine G_lor (pc' := 305) C dL_law_304 rfl ?_
  obtain ⟨q1, q2, h1, h2, h3, h4⟩ := hst s.heap.size z r w1 w2 (((Int32.toInt64 w3) <<< (Int32.toInt64 (32 : Int32) &&& 63)) ||| ((Int32.toInt64 w4) &&& (4294967295 : Int64))) hsim
  refine G_callV (F := RB κ (s.heap.size + 32) r) (pc' := 308) C dL_law_305 (tX9_write κ l s.heap.size z w1 w2 (((Int32.toInt64 w3) <<< (Int32.toInt64 (32 : Int32) &&& 63)) ||| ((Int32.toInt64 w4) &&& (4294967295 : Int64))) q1 h1) (wV tw_ml_L_25 tw_im_X9_write tw_se_X9_X9_write tw_in_X9 tw_co_X9_write) yd_X9_write rfl fi_X9 (LW_c rfl) ⟨⟨by decide, by decide⟩, Nat.le_trans (Nat.add_le_add_left (show rmX9_write.cells ≤ 2 by decide) _) hc, Nat.le_trans (Nat.add_le_add_left (show rmX9_write.slots ≤ 260 by decide) _) hs⟩ (fun w hw => by rcases hw with h | h; exact h.1; exact Nat.le_trans (Nat.le_add_right _ _) h) (fun _ h => h) (fun _ _ _ _ hk hf => RB_fr hk hf) rfl (Nat.le_of_ble_eq_true rfl) rfl rfl ?_
  refine G_widen (k := cells + 2) (n := slots + 260) (Nat.add_le_add_left (show rmX9_write.cells ≤ 2 by decide) _) (Nat.add_le_add_left (show rmX9_write.slots ≤ 260 by decide) _) ?_
  refine G_world (B' := LWB κ s.heap.size q1.2 r) (fun _ h => h) ?_
  refine G_aload_n (pc' := 309) C dL_law_308 2 rfl rfl ?_
  refine G_aload_n (pc' := 310) C dL_law_309 0 rfl rfl ?_
  refine G_iload_n (pc' := 311) C dL_law_310 3 rfl rfl ?_
  refine G_iconst (pc' := 312) (v := (1 : Int32)) C dL_law_311 (by decide) rfl ?_
  refine G_iadd (pc' := 313) C dL_law_312 rfl ?_
  refine G_sldV (pc' := 314) C hX hbl (Nat.not_le.mpr hbl) dL_law_313 (z_inL (j := 1) hi hL (by decide)) hw1 rfl ?_
  refine G_aload_n (pc' := 315) C dL_law_314 0 rfl rfl ?_
  refine G_iload_n (pc' := 316) C dL_law_315 3 rfl rfl ?_
  refine G_iconst (pc' := 317) (v := (2 : Int32)) C dL_law_316 (by decide) rfl ?_
  refine G_iadd (pc' := 318) C dL_law_317 rfl ?_
  refine G_sldV (pc' := 319) C hX hbl (Nat.not_le.mpr hbl) dL_law_318 (z_inL (j := 2) hi hL (by decide)) hw2 rfl ?_
  refine G_aload_n (pc' := 320) C dL_law_319 0 rfl rfl ?_
  refine G_iload_n (pc' := 321) C dL_law_320 3 rfl rfl ?_
  refine G_iconst (pc' := 322) (v := (3 : Int32)) C dL_law_321 (by decide) rfl ?_
  refine G_iadd (pc' := 323) C dL_law_322 rfl ?_
  refine G_sldV (pc' := 324) C hX hbl (Nat.not_le.mpr hbl) dL_law_323 (z_inL (j := 3) hi hL (by decide)) hw3 rfl ?_
  refine G_i2l (pc' := 325) C dL_law_324 rfl ?_
  refine G_bipush (pc' := 327) (v := (32 : Int32)) C dL_law_325 (by decide) rfl ?_
  refine G_lshl (pc' := 328) C dL_law_327 rfl ?_
  refine G_aload_n (pc' := 329) C dL_law_328 0 rfl rfl ?_
  refine G_iload_n (pc' := 330) C dL_law_329 3 rfl rfl ?_
  refine G_iconst (pc' := 331) (v := (4 : Int32)) C dL_law_330 (by decide) rfl ?_
  refine G_iadd (pc' := 332) C dL_law_331 rfl ?_
  refine G_sldV (pc' := 333) C hX hbl (Nat.not_le.mpr hbl) dL_law_332 (z_inL (j := 4) hi hL (by decide)) hw4 rfl ?_
  refine G_i2l (pc' := 334) C dL_law_333 rfl ?_
  refine G_ldc2 (pc' := 337) C dL_law_334 tw_k_L_23 rfl ?_
  refine G_land (pc' := 338) C dL_law_337 rfl ?_
  refine G_lor (pc' := 339) C dL_law_338 rfl ?_
  refine G_callV (F := CBf κ s.heap.size q1.2) (pc' := 342) C dL_law_339 ((tX10_write κ l (s.heap.size + 32) r w1 w2 (((Int32.toInt64 w3) <<< (Int32.toInt64 (32 : Int32) &&& 63)) ||| ((Int32.toInt64 w4) &&& (4294967295 : Int64))) q2 h2).sized rfl (cn q1.2)) (wV tw_ml_L_29 tw_im_X10_write tw_se_X10_X10_write tw_in_X10 tw_co_X10_write) yd_X10_write rfl fi_X10 (LW_r rfl) ⟨⟨by decide, by decide⟩, hc, hs⟩ (fun w hw => Nat.le_trans (Nat.le_add_right _ 32) hw.1) (fun _ h => LW_toR h) (fun _ _ _ _ hk hf => CBf_fr hk hf) rfl (Nat.le_of_ble_eq_true rfl) rfl rfl ?_
  refine G_world (B' := LWB κ s.heap.size q1.2 q2.2) (fun _ h => LW_ofR h) ?_
  refine G_icmp_eq (tgt := 1488) (pc' := 345) C dL_law_342 (by decide) rfl (fun _ => ?_) (fun hne => absurd h3 hne)
  exact kk _ _ h4
def St_look (Sim : Nat → CS → RS → Prop) : Prop := ∀ (o : Nat) (z : CS) (r : RS) (a1 : Int32) (a2 : Int32) (a3 : Int32), Sim o z r → ∃ (q1 : Int32 × CS) (q2 : Int32 × RS), fX9_look o z a1 a2 a3 = some q1 ∧ fX10_look r a1 a2 a3 = some q2 ∧ q1.1 = q2.1 ∧ Sim o q1.2 q2.2
set_option maxHeartbeats 4000000 in
set_option maxRecDepth 100000 in
theorem lc_look {κ : KK} {p : Program} {l : Launch} {e : Env} {s : State} {m : MethodId} {below : List Frame} {meth : Method} {c : Code} {b L : Nat} {xs : Nat → Int32} (C : Cx κ p s m #[Value.ref b] meth c cL_law 4 RL ret) (hX : va_X b L xs s s.heap) (hbl : b < s.heap.size) (hL : L ≤ 3072) {Sim : Nat → CS → RS → Prop} (hst : St_look Sim) {i : Nat} {z : CS} {r : RS} (hsim : Sim s.heap.size z r) (hi : i + 6 ≤ L) {cells slots : Nat} (hc : cells + 2 ≤ 600000) (hs : slots + 260 ≤ 7302250) (kk : ∀ (z' : CS) (r' : RS), Sim s.heap.size z' r' → GG p l e room_1 s m #[Value.ref b] below meth c (lw_Z below #[Value.ref b] s) (LA s.heap.size) 4 (cells + 2) (slots + 260) (LWB κ s.heap.size z' r') 1488 [(0, .ref b), (1, .ref s.heap.size), (2, .ref (s.heap.size + 32)), (3, .int (nI i))] []) : GG p l e room_1 s m #[Value.ref b] below meth c (lw_Z below #[Value.ref b] s) (LA s.heap.size) 4 cells slots (LWB κ s.heap.size z r) 347 [(0, .ref b), (1, .ref s.heap.size), (2, .ref (s.heap.size + 32)), (3, .int (nI i))] [] := by
  obtain ⟨w1, hw1⟩ : ∃ w, xs (nI i + (1 : Int32)).toNatClampNeg = w := ⟨_, rfl⟩
  obtain ⟨w2, hw2⟩ : ∃ w, xs (nI i + (2 : Int32)).toNatClampNeg = w := ⟨_, rfl⟩
  obtain ⟨w3, hw3⟩ : ∃ w, xs (nI i + (3 : Int32)).toNatClampNeg = w := ⟨_, rfl⟩
  refine G_aload_n (pc' := 348) C dL_law_347 1 rfl rfl ?_
  refine G_aload_n (pc' := 349) C dL_law_348 0 rfl rfl ?_
  refine G_iload_n (pc' := 350) C dL_law_349 3 rfl rfl ?_
  refine G_iconst (pc' := 351) (v := (1 : Int32)) C dL_law_350 (by decide) rfl ?_
  refine G_iadd (pc' := 352) C dL_law_351 rfl ?_
  refine G_sldV (pc' := 353) C hX hbl (Nat.not_le.mpr hbl) dL_law_352 (z_inL (j := 1) hi hL (by decide)) hw1 rfl ?_
  refine G_aload_n (pc' := 354) C dL_law_353 0 rfl rfl ?_
  refine G_iload_n (pc' := 355) C dL_law_354 3 rfl rfl ?_
  refine G_iconst (pc' := 356) (v := (2 : Int32)) C dL_law_355 (by decide) rfl ?_
  refine G_iadd (pc' := 357) C dL_law_356 rfl ?_
  refine G_sldV (pc' := 358) C hX hbl (Nat.not_le.mpr hbl) dL_law_357 (z_inL (j := 2) hi hL (by decide)) hw2 rfl ?_
  refine G_aload_n (pc' := 359) C dL_law_358 0 rfl rfl ?_
  refine G_iload_n (pc' := 360) C dL_law_359 3 rfl rfl ?_
  refine G_iconst (pc' := 361) (v := (3 : Int32)) C dL_law_360 (by decide) rfl ?_
  refine G_iadd (pc' := 362) C dL_law_361 rfl ?_
  refine G_sldV (pc' := 363) C hX hbl (Nat.not_le.mpr hbl) dL_law_362 (z_inL (j := 3) hi hL (by decide)) hw3 rfl ?_
  obtain ⟨q1, q2, h1, h2, h3, h4⟩ := hst s.heap.size z r w1 w2 w3 hsim
  refine G_callV (F := RB κ (s.heap.size + 32) r) (pc' := 366) C dL_law_363 (tX9_look κ l s.heap.size z w1 w2 w3 q1 h1) (wV tw_ml_L_30 tw_im_X9_look tw_se_X9_X9_look tw_in_X9 tw_co_X9_look) yd_X9_look rfl fi_X9 (LW_c rfl) ⟨⟨by decide, by decide⟩, Nat.le_trans (Nat.add_le_add_left (show rmX9_look.cells ≤ 2 by decide) _) hc, Nat.le_trans (Nat.add_le_add_left (show rmX9_look.slots ≤ 260 by decide) _) hs⟩ (fun w hw => by rcases hw with h | h; exact h.1; exact Nat.le_trans (Nat.le_add_right _ _) h) (fun _ h => h) (fun _ _ _ _ hk hf => RB_fr hk hf) rfl (Nat.le_of_ble_eq_true rfl) rfl rfl ?_
  refine G_widen (k := cells + 2) (n := slots + 260) (Nat.add_le_add_left (show rmX9_look.cells ≤ 2 by decide) _) (Nat.add_le_add_left (show rmX9_look.slots ≤ 260 by decide) _) ?_
  refine G_world (B' := LWB κ s.heap.size q1.2 r) (fun _ h => h) ?_
  refine G_aload_n (pc' := 367) C dL_law_366 2 rfl rfl ?_
  refine G_aload_n (pc' := 368) C dL_law_367 0 rfl rfl ?_
  refine G_iload_n (pc' := 369) C dL_law_368 3 rfl rfl ?_
  refine G_iconst (pc' := 370) (v := (1 : Int32)) C dL_law_369 (by decide) rfl ?_
  refine G_iadd (pc' := 371) C dL_law_370 rfl ?_
  refine G_sldV (pc' := 372) C hX hbl (Nat.not_le.mpr hbl) dL_law_371 (z_inL (j := 1) hi hL (by decide)) hw1 rfl ?_
  refine G_aload_n (pc' := 373) C dL_law_372 0 rfl rfl ?_
  refine G_iload_n (pc' := 374) C dL_law_373 3 rfl rfl ?_
  refine G_iconst (pc' := 375) (v := (2 : Int32)) C dL_law_374 (by decide) rfl ?_
  refine G_iadd (pc' := 376) C dL_law_375 rfl ?_
  refine G_sldV (pc' := 377) C hX hbl (Nat.not_le.mpr hbl) dL_law_376 (z_inL (j := 2) hi hL (by decide)) hw2 rfl ?_
  refine G_aload_n (pc' := 378) C dL_law_377 0 rfl rfl ?_
  refine G_iload_n (pc' := 379) C dL_law_378 3 rfl rfl ?_
  refine G_iconst (pc' := 380) (v := (3 : Int32)) C dL_law_379 (by decide) rfl ?_
  refine G_iadd (pc' := 381) C dL_law_380 rfl ?_
  refine G_sldV (pc' := 382) C hX hbl (Nat.not_le.mpr hbl) dL_law_381 (z_inL (j := 3) hi hL (by decide)) hw3 rfl ?_
  refine G_callV (F := CBf κ s.heap.size q1.2) (pc' := 385) C dL_law_382 ((tX10_look κ l (s.heap.size + 32) r w1 w2 w3 q2 h2).sized rfl (cn q1.2)) (wV tw_ml_L_33 tw_im_X10_look tw_se_X10_X10_look tw_in_X10 tw_co_X10_look) yd_X10_look rfl fi_X10 (LW_r rfl) ⟨⟨by decide, by decide⟩, hc, hs⟩ (fun w hw => Nat.le_trans (Nat.le_add_right _ 32) hw.1) (fun _ h => LW_toR h) (fun _ _ _ _ hk hf => CBf_fr hk hf) rfl (Nat.le_of_ble_eq_true rfl) rfl rfl ?_
  refine G_world (B' := LWB κ s.heap.size q1.2 q2.2) (fun _ h => LW_ofR h) ?_
  refine G_icmp_eq (tgt := 1488) (pc' := 388) C dL_law_385 (by decide) rfl (fun _ => ?_) (fun hne => absurd h3 hne)
  exact kk _ _ h4
def St_copy (Sim : Nat → CS → RS → Prop) : Prop := ∀ (o : Nat) (z : CS) (r : RS) (a1 : Int32) (a2 : Int32) (a3 : Int32) (a4 : Int32) (a5 : Int32), Sim o z r → ∃ (q1 : Int32 × CS) (q2 : Int32 × RS), fX9_copy o z a1 a2 a3 a4 a5 = some q1 ∧ fX10_copy r a1 a2 a3 a4 a5 = some q2 ∧ q1.1 = q2.1 ∧ Sim o q1.2 q2.2
set_option maxHeartbeats 4000000 in
set_option maxRecDepth 100000 in
theorem lc_copy {κ : KK} {p : Program} {l : Launch} {e : Env} {s : State} {m : MethodId} {below : List Frame} {meth : Method} {c : Code} {b L : Nat} {xs : Nat → Int32} (C : Cx κ p s m #[Value.ref b] meth c cL_law 4 RL ret) (hX : va_X b L xs s s.heap) (hbl : b < s.heap.size) (hL : L ≤ 3072) {Sim : Nat → CS → RS → Prop} (hst : St_copy Sim) {i : Nat} {z : CS} {r : RS} (hsim : Sim s.heap.size z r) (hi : i + 6 ≤ L) {cells slots : Nat} (hc : cells + 2 ≤ 600000) (hs : slots + 260 ≤ 7302250) (kk : ∀ (z' : CS) (r' : RS), Sim s.heap.size z' r' → GG p l e room_1 s m #[Value.ref b] below meth c (lw_Z below #[Value.ref b] s) (LA s.heap.size) 4 (cells + 2) (slots + 260) (LWB κ s.heap.size z' r') 1488 [(0, .ref b), (1, .ref s.heap.size), (2, .ref (s.heap.size + 32)), (3, .int (nI i))] []) : GG p l e room_1 s m #[Value.ref b] below meth c (lw_Z below #[Value.ref b] s) (LA s.heap.size) 4 cells slots (LWB κ s.heap.size z r) 390 [(0, .ref b), (1, .ref s.heap.size), (2, .ref (s.heap.size + 32)), (3, .int (nI i))] [] := by
  obtain ⟨w1, hw1⟩ : ∃ w, xs (nI i + (1 : Int32)).toNatClampNeg = w := ⟨_, rfl⟩
  obtain ⟨w2, hw2⟩ : ∃ w, xs (nI i + (2 : Int32)).toNatClampNeg = w := ⟨_, rfl⟩
  obtain ⟨w3, hw3⟩ : ∃ w, xs (nI i + (3 : Int32)).toNatClampNeg = w := ⟨_, rfl⟩
  obtain ⟨w4, hw4⟩ : ∃ w, xs (nI i + (4 : Int32)).toNatClampNeg = w := ⟨_, rfl⟩
  obtain ⟨w5, hw5⟩ : ∃ w, xs (nI i + (5 : Int32)).toNatClampNeg = w := ⟨_, rfl⟩
  refine G_aload_n (pc' := 391) C dL_law_390 1 rfl rfl ?_
  refine G_aload_n (pc' := 392) C dL_law_391 0 rfl rfl ?_
  refine G_iload_n (pc' := 393) C dL_law_392 3 rfl rfl ?_
  refine G_iconst (pc' := 394) (v := (1 : Int32)) C dL_law_393 (by decide) rfl ?_
  refine G_iadd (pc' := 395) C dL_law_394 rfl ?_
  refine G_sldV (pc' := 396) C hX hbl (Nat.not_le.mpr hbl) dL_law_395 (z_inL (j := 1) hi hL (by decide)) hw1 rfl ?_
  refine G_aload_n (pc' := 397) C dL_law_396 0 rfl rfl ?_
  refine G_iload_n (pc' := 398) C dL_law_397 3 rfl rfl ?_
  refine G_iconst (pc' := 399) (v := (2 : Int32)) C dL_law_398 (by decide) rfl ?_
  refine G_iadd (pc' := 400) C dL_law_399 rfl ?_
  refine G_sldV (pc' := 401) C hX hbl (Nat.not_le.mpr hbl) dL_law_400 (z_inL (j := 2) hi hL (by decide)) hw2 rfl ?_
  refine G_aload_n (pc' := 402) C dL_law_401 0 rfl rfl ?_
  refine G_iload_n (pc' := 403) C dL_law_402 3 rfl rfl ?_
  refine G_iconst (pc' := 404) (v := (3 : Int32)) C dL_law_403 (by decide) rfl ?_
  refine G_iadd (pc' := 405) C dL_law_404 rfl ?_
  refine G_sldV (pc' := 406) C hX hbl (Nat.not_le.mpr hbl) dL_law_405 (z_inL (j := 3) hi hL (by decide)) hw3 rfl ?_
  refine G_aload_n (pc' := 407) C dL_law_406 0 rfl rfl ?_
  refine G_iload_n (pc' := 408) C dL_law_407 3 rfl rfl ?_
  refine G_iconst (pc' := 409) (v := (4 : Int32)) C dL_law_408 (by decide) rfl ?_
  refine G_iadd (pc' := 410) C dL_law_409 rfl ?_
  refine G_sldV (pc' := 411) C hX hbl (Nat.not_le.mpr hbl) dL_law_410 (z_inL (j := 4) hi hL (by decide)) hw4 rfl ?_
  refine G_aload_n (pc' := 412) C dL_law_411 0 rfl rfl ?_
  refine G_iload_n (pc' := 413) C dL_law_412 3 rfl rfl ?_
  refine G_iconst (pc' := 414) (v := (5 : Int32)) C dL_law_413 (by decide) rfl ?_
  refine G_iadd (pc' := 415) C dL_law_414 rfl ?_
  refine G_sldV (pc' := 416) C hX hbl (Nat.not_le.mpr hbl) dL_law_415 (z_inL (j := 5) hi hL (by decide)) hw5 rfl ?_
  obtain ⟨q1, q2, h1, h2, h3, h4⟩ := hst s.heap.size z r w1 w2 w3 w4 w5 hsim
  refine G_callV (F := RB κ (s.heap.size + 32) r) (pc' := 419) C dL_law_416 (tX9_copy κ l s.heap.size z w1 w2 w3 w4 w5 q1 h1) (wV tw_ml_L_34 tw_im_X9_copy tw_se_X9_X9_copy tw_in_X9 tw_co_X9_copy) yd_X9_copy rfl fi_X9 (LW_c rfl) ⟨⟨by decide, by decide⟩, Nat.le_trans (Nat.add_le_add_left (show rmX9_copy.cells ≤ 2 by decide) _) hc, Nat.le_trans (Nat.add_le_add_left (show rmX9_copy.slots ≤ 260 by decide) _) hs⟩ (fun w hw => by rcases hw with h | h; exact h.1; exact Nat.le_trans (Nat.le_add_right _ _) h) (fun _ h => h) (fun _ _ _ _ hk hf => RB_fr hk hf) rfl (Nat.le_of_ble_eq_true rfl) rfl rfl ?_
  refine G_widen (k := cells + 2) (n := slots + 260) (Nat.add_le_add_left (show rmX9_copy.cells ≤ 2 by decide) _) (Nat.add_le_add_left (show rmX9_copy.slots ≤ 260 by decide) _) ?_
  refine G_world (B' := LWB κ s.heap.size q1.2 r) (fun _ h => h) ?_
  refine G_aload_n (pc' := 420) C dL_law_419 2 rfl rfl ?_
  refine G_aload_n (pc' := 421) C dL_law_420 0 rfl rfl ?_
  refine G_iload_n (pc' := 422) C dL_law_421 3 rfl rfl ?_
  refine G_iconst (pc' := 423) (v := (1 : Int32)) C dL_law_422 (by decide) rfl ?_
  refine G_iadd (pc' := 424) C dL_law_423 rfl ?_
  refine G_sldV (pc' := 425) C hX hbl (Nat.not_le.mpr hbl) dL_law_424 (z_inL (j := 1) hi hL (by decide)) hw1 rfl ?_
  refine G_aload_n (pc' := 426) C dL_law_425 0 rfl rfl ?_
  refine G_iload_n (pc' := 427) C dL_law_426 3 rfl rfl ?_
  refine G_iconst (pc' := 428) (v := (2 : Int32)) C dL_law_427 (by decide) rfl ?_
  refine G_iadd (pc' := 429) C dL_law_428 rfl ?_
  refine G_sldV (pc' := 430) C hX hbl (Nat.not_le.mpr hbl) dL_law_429 (z_inL (j := 2) hi hL (by decide)) hw2 rfl ?_
  refine G_aload_n (pc' := 431) C dL_law_430 0 rfl rfl ?_
  refine G_iload_n (pc' := 432) C dL_law_431 3 rfl rfl ?_
  refine G_iconst (pc' := 433) (v := (3 : Int32)) C dL_law_432 (by decide) rfl ?_
  refine G_iadd (pc' := 434) C dL_law_433 rfl ?_
  refine G_sldV (pc' := 435) C hX hbl (Nat.not_le.mpr hbl) dL_law_434 (z_inL (j := 3) hi hL (by decide)) hw3 rfl ?_
  refine G_aload_n (pc' := 436) C dL_law_435 0 rfl rfl ?_
  refine G_iload_n (pc' := 437) C dL_law_436 3 rfl rfl ?_
  refine G_iconst (pc' := 438) (v := (4 : Int32)) C dL_law_437 (by decide) rfl ?_
  refine G_iadd (pc' := 439) C dL_law_438 rfl ?_
  refine G_sldV (pc' := 440) C hX hbl (Nat.not_le.mpr hbl) dL_law_439 (z_inL (j := 4) hi hL (by decide)) hw4 rfl ?_
  refine G_aload_n (pc' := 441) C dL_law_440 0 rfl rfl ?_
  refine G_iload_n (pc' := 442) C dL_law_441 3 rfl rfl ?_
  refine G_iconst (pc' := 443) (v := (5 : Int32)) C dL_law_442 (by decide) rfl ?_
  refine G_iadd (pc' := 444) C dL_law_443 rfl ?_
  refine G_sldV (pc' := 445) C hX hbl (Nat.not_le.mpr hbl) dL_law_444 (z_inL (j := 5) hi hL (by decide)) hw5 rfl ?_
  refine G_callV (F := CBf κ s.heap.size q1.2) (pc' := 448) C dL_law_445 ((tX10_copy κ l (s.heap.size + 32) r w1 w2 w3 w4 w5 q2 h2).sized rfl (cn q1.2)) (wV tw_ml_L_38 tw_im_X10_copy tw_se_X10_X10_copy tw_in_X10 tw_co_X10_copy) yd_X10_copy rfl fi_X10 (LW_r rfl) ⟨⟨by decide, by decide⟩, hc, hs⟩ (fun w hw => Nat.le_trans (Nat.le_add_right _ 32) hw.1) (fun _ h => LW_toR h) (fun _ _ _ _ hk hf => CBf_fr hk hf) rfl (Nat.le_of_ble_eq_true rfl) rfl rfl ?_
  refine G_world (B' := LWB κ s.heap.size q1.2 q2.2) (fun _ h => LW_ofR h) ?_
  refine G_icmp_eq (tgt := 1488) (pc' := 451) C dL_law_448 (by decide) rfl (fun _ => ?_) (fun hne => absurd h3 hne)
  exact kk _ _ h4
def St_task (Sim : Nat → CS → RS → Prop) : Prop := ∀ (o : Nat) (z : CS) (r : RS) (a1 : Int32) (a2 : Int32) (a3 : Int32), Sim o z r → ∃ (q1 : Int32 × CS) (q2 : Int32 × RS), fX9_task o z a1 a2 a3 = some q1 ∧ fX10_task r a1 a2 a3 = some q2 ∧ q1.1 = q2.1 ∧ Sim o q1.2 q2.2
set_option maxHeartbeats 4000000 in
set_option maxRecDepth 100000 in
theorem lc_task {κ : KK} {p : Program} {l : Launch} {e : Env} {s : State} {m : MethodId} {below : List Frame} {meth : Method} {c : Code} {b L : Nat} {xs : Nat → Int32} (C : Cx κ p s m #[Value.ref b] meth c cL_law 4 RL ret) (hX : va_X b L xs s s.heap) (hbl : b < s.heap.size) (hL : L ≤ 3072) {Sim : Nat → CS → RS → Prop} (hst : St_task Sim) {i : Nat} {z : CS} {r : RS} (hsim : Sim s.heap.size z r) (hi : i + 6 ≤ L) {cells slots : Nat} (hc : cells + 2 ≤ 600000) (hs : slots + 260 ≤ 7302250) (kk : ∀ (z' : CS) (r' : RS), Sim s.heap.size z' r' → GG p l e room_1 s m #[Value.ref b] below meth c (lw_Z below #[Value.ref b] s) (LA s.heap.size) 4 (cells + 2) (slots + 260) (LWB κ s.heap.size z' r') 1488 [(0, .ref b), (1, .ref s.heap.size), (2, .ref (s.heap.size + 32)), (3, .int (nI i))] []) : GG p l e room_1 s m #[Value.ref b] below meth c (lw_Z below #[Value.ref b] s) (LA s.heap.size) 4 cells slots (LWB κ s.heap.size z r) 453 [(0, .ref b), (1, .ref s.heap.size), (2, .ref (s.heap.size + 32)), (3, .int (nI i))] [] := by
  obtain ⟨w1, hw1⟩ : ∃ w, xs (nI i + (1 : Int32)).toNatClampNeg = w := ⟨_, rfl⟩
  obtain ⟨w2, hw2⟩ : ∃ w, xs (nI i + (2 : Int32)).toNatClampNeg = w := ⟨_, rfl⟩
  obtain ⟨w3, hw3⟩ : ∃ w, xs (nI i + (3 : Int32)).toNatClampNeg = w := ⟨_, rfl⟩
  refine G_aload_n (pc' := 454) C dL_law_453 1 rfl rfl ?_
  refine G_aload_n (pc' := 455) C dL_law_454 0 rfl rfl ?_
  refine G_iload_n (pc' := 456) C dL_law_455 3 rfl rfl ?_
  refine G_iconst (pc' := 457) (v := (1 : Int32)) C dL_law_456 (by decide) rfl ?_
  refine G_iadd (pc' := 458) C dL_law_457 rfl ?_
  refine G_sldV (pc' := 459) C hX hbl (Nat.not_le.mpr hbl) dL_law_458 (z_inL (j := 1) hi hL (by decide)) hw1 rfl ?_
  refine G_aload_n (pc' := 460) C dL_law_459 0 rfl rfl ?_
  refine G_iload_n (pc' := 461) C dL_law_460 3 rfl rfl ?_
  refine G_iconst (pc' := 462) (v := (2 : Int32)) C dL_law_461 (by decide) rfl ?_
  refine G_iadd (pc' := 463) C dL_law_462 rfl ?_
  refine G_sldV (pc' := 464) C hX hbl (Nat.not_le.mpr hbl) dL_law_463 (z_inL (j := 2) hi hL (by decide)) hw2 rfl ?_
  refine G_aload_n (pc' := 465) C dL_law_464 0 rfl rfl ?_
  refine G_iload_n (pc' := 466) C dL_law_465 3 rfl rfl ?_
  refine G_iconst (pc' := 467) (v := (3 : Int32)) C dL_law_466 (by decide) rfl ?_
  refine G_iadd (pc' := 468) C dL_law_467 rfl ?_
  refine G_sldV (pc' := 469) C hX hbl (Nat.not_le.mpr hbl) dL_law_468 (z_inL (j := 3) hi hL (by decide)) hw3 rfl ?_
  obtain ⟨q1, q2, h1, h2, h3, h4⟩ := hst s.heap.size z r w1 w2 w3 hsim
  refine G_callV (F := RB κ (s.heap.size + 32) r) (pc' := 472) C dL_law_469 (tX9_task κ l s.heap.size z w1 w2 w3 q1 h1) (wV tw_ml_L_39 tw_im_X9_task tw_se_X9_X9_task tw_in_X9 tw_co_X9_task) yd_X9_task rfl fi_X9 (LW_c rfl) ⟨⟨by decide, by decide⟩, Nat.le_trans (Nat.add_le_add_left (show rmX9_task.cells ≤ 2 by decide) _) hc, Nat.le_trans (Nat.add_le_add_left (show rmX9_task.slots ≤ 260 by decide) _) hs⟩ (fun w hw => by rcases hw with h | h; exact h.1; exact Nat.le_trans (Nat.le_add_right _ _) h) (fun _ h => h) (fun _ _ _ _ hk hf => RB_fr hk hf) rfl (Nat.le_of_ble_eq_true rfl) rfl rfl ?_
  refine G_widen (k := cells + 2) (n := slots + 260) (Nat.add_le_add_left (show rmX9_task.cells ≤ 2 by decide) _) (Nat.add_le_add_left (show rmX9_task.slots ≤ 260 by decide) _) ?_
  refine G_world (B' := LWB κ s.heap.size q1.2 r) (fun _ h => h) ?_
  refine G_aload_n (pc' := 473) C dL_law_472 2 rfl rfl ?_
  refine G_aload_n (pc' := 474) C dL_law_473 0 rfl rfl ?_
  refine G_iload_n (pc' := 475) C dL_law_474 3 rfl rfl ?_
  refine G_iconst (pc' := 476) (v := (1 : Int32)) C dL_law_475 (by decide) rfl ?_
  refine G_iadd (pc' := 477) C dL_law_476 rfl ?_
  refine G_sldV (pc' := 478) C hX hbl (Nat.not_le.mpr hbl) dL_law_477 (z_inL (j := 1) hi hL (by decide)) hw1 rfl ?_
  refine G_aload_n (pc' := 479) C dL_law_478 0 rfl rfl ?_
  refine G_iload_n (pc' := 480) C dL_law_479 3 rfl rfl ?_
  refine G_iconst (pc' := 481) (v := (2 : Int32)) C dL_law_480 (by decide) rfl ?_
  refine G_iadd (pc' := 482) C dL_law_481 rfl ?_
  refine G_sldV (pc' := 483) C hX hbl (Nat.not_le.mpr hbl) dL_law_482 (z_inL (j := 2) hi hL (by decide)) hw2 rfl ?_
  refine G_aload_n (pc' := 484) C dL_law_483 0 rfl rfl ?_
  refine G_iload_n (pc' := 485) C dL_law_484 3 rfl rfl ?_
  refine G_iconst (pc' := 486) (v := (3 : Int32)) C dL_law_485 (by decide) rfl ?_
  refine G_iadd (pc' := 487) C dL_law_486 rfl ?_
  refine G_sldV (pc' := 488) C hX hbl (Nat.not_le.mpr hbl) dL_law_487 (z_inL (j := 3) hi hL (by decide)) hw3 rfl ?_
  refine G_callV (F := CBf κ s.heap.size q1.2) (pc' := 491) C dL_law_488 ((tX10_task κ l (s.heap.size + 32) r w1 w2 w3 q2 h2).sized rfl (cn q1.2)) (wV tw_ml_L_42 tw_im_X10_task tw_se_X10_X10_task tw_in_X10 tw_co_X10_task) yd_X10_task rfl fi_X10 (LW_r rfl) ⟨⟨by decide, by decide⟩, hc, hs⟩ (fun w hw => Nat.le_trans (Nat.le_add_right _ 32) hw.1) (fun _ h => LW_toR h) (fun _ _ _ _ hk hf => CBf_fr hk hf) rfl (Nat.le_of_ble_eq_true rfl) rfl rfl ?_
  refine G_world (B' := LWB κ s.heap.size q1.2 q2.2) (fun _ h => LW_ofR h) ?_
  refine G_icmp_eq (tgt := 1488) (pc' := 494) C dL_law_491 (by decide) rfl (fun _ => ?_) (fun hne => absurd h3 hne)
  exact kk _ _ h4
def St_kind (Sim : Nat → CS → RS → Prop) : Prop := ∀ (o : Nat) (z : CS) (r : RS) (a1 : Int32) (a2 : Int32), Sim o z r → ∃ (q1 : Int32 × CS) (q2 : Int32 × RS), fX9_kind o z a1 a2 = some q1 ∧ fX10_kind r a1 a2 = some q2 ∧ q1.1 = q2.1 ∧ Sim o q1.2 q2.2
set_option maxHeartbeats 4000000 in
set_option maxRecDepth 100000 in
theorem lc_kind {κ : KK} {p : Program} {l : Launch} {e : Env} {s : State} {m : MethodId} {below : List Frame} {meth : Method} {c : Code} {b L : Nat} {xs : Nat → Int32} (C : Cx κ p s m #[Value.ref b] meth c cL_law 4 RL ret) (hX : va_X b L xs s s.heap) (hbl : b < s.heap.size) (hL : L ≤ 3072) {Sim : Nat → CS → RS → Prop} (hst : St_kind Sim) {i : Nat} {z : CS} {r : RS} (hsim : Sim s.heap.size z r) (hi : i + 6 ≤ L) {cells slots : Nat} (hc : cells + 2 ≤ 600000) (hs : slots + 260 ≤ 7302250) (kk : ∀ (z' : CS) (r' : RS), Sim s.heap.size z' r' → GG p l e room_1 s m #[Value.ref b] below meth c (lw_Z below #[Value.ref b] s) (LA s.heap.size) 4 (cells + 2) (slots + 260) (LWB κ s.heap.size z' r') 1488 [(0, .ref b), (1, .ref s.heap.size), (2, .ref (s.heap.size + 32)), (3, .int (nI i))] []) : GG p l e room_1 s m #[Value.ref b] below meth c (lw_Z below #[Value.ref b] s) (LA s.heap.size) 4 cells slots (LWB κ s.heap.size z r) 496 [(0, .ref b), (1, .ref s.heap.size), (2, .ref (s.heap.size + 32)), (3, .int (nI i))] [] := by
  obtain ⟨w1, hw1⟩ : ∃ w, xs (nI i + (1 : Int32)).toNatClampNeg = w := ⟨_, rfl⟩
  obtain ⟨w2, hw2⟩ : ∃ w, xs (nI i + (2 : Int32)).toNatClampNeg = w := ⟨_, rfl⟩
  refine G_aload_n (pc' := 497) C dL_law_496 1 rfl rfl ?_
  refine G_aload_n (pc' := 498) C dL_law_497 0 rfl rfl ?_
  refine G_iload_n (pc' := 499) C dL_law_498 3 rfl rfl ?_
  refine G_iconst (pc' := 500) (v := (1 : Int32)) C dL_law_499 (by decide) rfl ?_
  refine G_iadd (pc' := 501) C dL_law_500 rfl ?_
  refine G_sldV (pc' := 502) C hX hbl (Nat.not_le.mpr hbl) dL_law_501 (z_inL (j := 1) hi hL (by decide)) hw1 rfl ?_
  refine G_aload_n (pc' := 503) C dL_law_502 0 rfl rfl ?_
  refine G_iload_n (pc' := 504) C dL_law_503 3 rfl rfl ?_
  refine G_iconst (pc' := 505) (v := (2 : Int32)) C dL_law_504 (by decide) rfl ?_
  refine G_iadd (pc' := 506) C dL_law_505 rfl ?_
  refine G_sldV (pc' := 507) C hX hbl (Nat.not_le.mpr hbl) dL_law_506 (z_inL (j := 2) hi hL (by decide)) hw2 rfl ?_
  obtain ⟨q1, q2, h1, h2, h3, h4⟩ := hst s.heap.size z r w1 w2 hsim
  refine G_callV (F := RB κ (s.heap.size + 32) r) (pc' := 510) C dL_law_507 (tX9_kind κ l s.heap.size z w1 w2 q1 h1) (wV tw_ml_L_43 tw_im_X9_kind tw_se_X9_X9_kind tw_in_X9 tw_co_X9_kind) yd_X9_kind rfl fi_X9 (LW_c rfl) ⟨⟨by decide, by decide⟩, Nat.le_trans (Nat.add_le_add_left (show rmX9_kind.cells ≤ 2 by decide) _) hc, Nat.le_trans (Nat.add_le_add_left (show rmX9_kind.slots ≤ 260 by decide) _) hs⟩ (fun w hw => by rcases hw with h | h; exact h.1; exact Nat.le_trans (Nat.le_add_right _ _) h) (fun _ h => h) (fun _ _ _ _ hk hf => RB_fr hk hf) rfl (Nat.le_of_ble_eq_true rfl) rfl rfl ?_
  refine G_widen (k := cells + 2) (n := slots + 260) (Nat.add_le_add_left (show rmX9_kind.cells ≤ 2 by decide) _) (Nat.add_le_add_left (show rmX9_kind.slots ≤ 260 by decide) _) ?_
  refine G_world (B' := LWB κ s.heap.size q1.2 r) (fun _ h => h) ?_
  refine G_aload_n (pc' := 511) C dL_law_510 2 rfl rfl ?_
  refine G_aload_n (pc' := 512) C dL_law_511 0 rfl rfl ?_
  refine G_iload_n (pc' := 513) C dL_law_512 3 rfl rfl ?_
  refine G_iconst (pc' := 514) (v := (1 : Int32)) C dL_law_513 (by decide) rfl ?_
  refine G_iadd (pc' := 515) C dL_law_514 rfl ?_
  refine G_sldV (pc' := 516) C hX hbl (Nat.not_le.mpr hbl) dL_law_515 (z_inL (j := 1) hi hL (by decide)) hw1 rfl ?_
  refine G_aload_n (pc' := 517) C dL_law_516 0 rfl rfl ?_
  refine G_iload_n (pc' := 518) C dL_law_517 3 rfl rfl ?_
  refine G_iconst (pc' := 519) (v := (2 : Int32)) C dL_law_518 (by decide) rfl ?_
  refine G_iadd (pc' := 520) C dL_law_519 rfl ?_
  refine G_sldV (pc' := 521) C hX hbl (Nat.not_le.mpr hbl) dL_law_520 (z_inL (j := 2) hi hL (by decide)) hw2 rfl ?_
  refine G_callV (F := CBf κ s.heap.size q1.2) (pc' := 524) C dL_law_521 ((tX10_kind κ l (s.heap.size + 32) r w1 w2 q2 h2).sized rfl (cn q1.2)) (wV tw_ml_L_47 tw_im_X10_kind tw_se_X10_X10_kind tw_in_X10 tw_co_X10_kind) yd_X10_kind rfl fi_X10 (LW_r rfl) ⟨⟨by decide, by decide⟩, hc, hs⟩ (fun w hw => Nat.le_trans (Nat.le_add_right _ 32) hw.1) (fun _ h => LW_toR h) (fun _ _ _ _ hk hf => CBf_fr hk hf) rfl (Nat.le_of_ble_eq_true rfl) rfl rfl ?_
  refine G_world (B' := LWB κ s.heap.size q1.2 q2.2) (fun _ h => LW_ofR h) ?_
  refine G_icmp_eq (tgt := 1488) (pc' := 527) C dL_law_524 (by decide) rfl (fun _ => ?_) (fun hne => absurd h3 hne)
  exact kk _ _ h4
def St_shown (Sim : Nat → CS → RS → Prop) : Prop := ∀ (o : Nat) (z : CS) (r : RS) (a1 : Int32), Sim o z r → ∃ (q1 : Int32) (q2 : Int32), fX9_shown o z a1 = some q1 ∧ fX10_shown r a1 = some q2 ∧ q1 = q2 ∧ Sim o z r
set_option maxHeartbeats 4000000 in
set_option maxRecDepth 100000 in
theorem lc_shown {κ : KK} {p : Program} {l : Launch} {e : Env} {s : State} {m : MethodId} {below : List Frame} {meth : Method} {c : Code} {b L : Nat} {xs : Nat → Int32} (C : Cx κ p s m #[Value.ref b] meth c cL_law 4 RL ret) (hX : va_X b L xs s s.heap) (hbl : b < s.heap.size) (hL : L ≤ 3072) {Sim : Nat → CS → RS → Prop} (hst : St_shown Sim) {i : Nat} {z : CS} {r : RS} (hsim : Sim s.heap.size z r) (hi : i + 6 ≤ L) {cells slots : Nat} (hc : cells + 2 ≤ 600000) (hs : slots + 260 ≤ 7302250) (kk : ∀ (z' : CS) (r' : RS), Sim s.heap.size z' r' → GG p l e room_1 s m #[Value.ref b] below meth c (lw_Z below #[Value.ref b] s) (LA s.heap.size) 4 (cells + 2) (slots + 260) (LWB κ s.heap.size z' r') 1488 [(0, .ref b), (1, .ref s.heap.size), (2, .ref (s.heap.size + 32)), (3, .int (nI i))] []) : GG p l e room_1 s m #[Value.ref b] below meth c (lw_Z below #[Value.ref b] s) (LA s.heap.size) 4 cells slots (LWB κ s.heap.size z r) 529 [(0, .ref b), (1, .ref s.heap.size), (2, .ref (s.heap.size + 32)), (3, .int (nI i))] [] := by
  obtain ⟨w1, hw1⟩ : ∃ w, xs (nI i + (1 : Int32)).toNatClampNeg = w := ⟨_, rfl⟩
  refine G_aload_n (pc' := 530) C dL_law_529 1 rfl rfl ?_
  refine G_aload_n (pc' := 531) C dL_law_530 0 rfl rfl ?_
  refine G_iload_n (pc' := 532) C dL_law_531 3 rfl rfl ?_
  refine G_iconst (pc' := 533) (v := (1 : Int32)) C dL_law_532 (by decide) rfl ?_
  refine G_iadd (pc' := 534) C dL_law_533 rfl ?_
  refine G_sldV (pc' := 535) C hX hbl (Nat.not_le.mpr hbl) dL_law_534 (z_inL (j := 1) hi hL (by decide)) hw1 rfl ?_
  obtain ⟨q1, q2, h1, h2, h3, h4⟩ := hst s.heap.size z r w1 hsim
  refine G_callV (F := RB κ (s.heap.size + 32) r) (pc' := 538) C dL_law_535 (tX9_shown κ l s.heap.size z w1 q1 h1) (wV tw_ml_L_48 tw_im_X9_shown tw_se_X9_X9_shown tw_in_X9 tw_co_X9_shown) yd_X9_shown rfl fi_X9 (LW_c rfl) ⟨⟨by decide, by decide⟩, Nat.le_trans (Nat.add_le_add_left (show rmX9_shown.cells ≤ 2 by decide) _) hc, Nat.le_trans (Nat.add_le_add_left (show rmX9_shown.slots ≤ 260 by decide) _) hs⟩ (fun w hw => by rcases hw with h | h; exact h.1; exact Nat.le_trans (Nat.le_add_right _ _) h) (fun _ h => h) (fun _ _ _ _ hk hf => RB_fr hk hf) rfl (Nat.le_of_ble_eq_true rfl) rfl rfl ?_
  refine G_widen (k := cells + 2) (n := slots + 260) (Nat.add_le_add_left (show rmX9_shown.cells ≤ 2 by decide) _) (Nat.add_le_add_left (show rmX9_shown.slots ≤ 260 by decide) _) ?_
  refine G_world (B' := LWB κ s.heap.size z r) (fun _ h => h) ?_
  refine G_aload_n (pc' := 539) C dL_law_538 2 rfl rfl ?_
  refine G_aload_n (pc' := 540) C dL_law_539 0 rfl rfl ?_
  refine G_iload_n (pc' := 541) C dL_law_540 3 rfl rfl ?_
  refine G_iconst (pc' := 542) (v := (1 : Int32)) C dL_law_541 (by decide) rfl ?_
  refine G_iadd (pc' := 543) C dL_law_542 rfl ?_
  refine G_sldV (pc' := 544) C hX hbl (Nat.not_le.mpr hbl) dL_law_543 (z_inL (j := 1) hi hL (by decide)) hw1 rfl ?_
  refine G_callV (F := CBf κ s.heap.size z) (pc' := 547) C dL_law_544 ((tX10_shown κ l (s.heap.size + 32) r w1 q2 h2).sized rfl (cn z)) (wV tw_ml_L_51 tw_im_X10_shown tw_se_X10_X10_shown tw_in_X10 tw_co_X10_shown) yd_X10_shown rfl fi_X10 (LW_r rfl) ⟨⟨by decide, by decide⟩, hc, hs⟩ (fun w hw => Nat.le_trans (Nat.le_add_right _ 32) hw.1) (fun _ h => LW_toR h) (fun _ _ _ _ hk hf => CBf_fr hk hf) rfl (Nat.le_of_ble_eq_true rfl) rfl rfl ?_
  refine G_world (B' := LWB κ s.heap.size z r) (fun _ h => LW_ofR h) ?_
  refine G_icmp_eq (tgt := 1488) (pc' := 550) C dL_law_547 (by decide) rfl (fun _ => ?_) (fun hne => absurd h3 hne)
  exact kk _ _ h4
def St_say (Sim : Nat → CS → RS → Prop) : Prop := ∀ (o : Nat) (z : CS) (r : RS) (a1 : Int32) (a2 : Int32), Sim o z r → ∃ (q1 : Int32 × CS) (q2 : Int32 × RS), fX9_say o z a1 a2 = some q1 ∧ fX10_say r a1 a2 = some q2 ∧ q1.1 = q2.1 ∧ Sim o q1.2 q2.2
set_option maxHeartbeats 4000000 in
set_option maxRecDepth 100000 in
theorem lc_say {κ : KK} {p : Program} {l : Launch} {e : Env} {s : State} {m : MethodId} {below : List Frame} {meth : Method} {c : Code} {b L : Nat} {xs : Nat → Int32} (C : Cx κ p s m #[Value.ref b] meth c cL_law 4 RL ret) (hX : va_X b L xs s s.heap) (hbl : b < s.heap.size) (hL : L ≤ 3072) {Sim : Nat → CS → RS → Prop} (hst : St_say Sim) {i : Nat} {z : CS} {r : RS} (hsim : Sim s.heap.size z r) (hi : i + 6 ≤ L) {cells slots : Nat} (hc : cells + 2 ≤ 600000) (hs : slots + 260 ≤ 7302250) (kk : ∀ (z' : CS) (r' : RS), Sim s.heap.size z' r' → GG p l e room_1 s m #[Value.ref b] below meth c (lw_Z below #[Value.ref b] s) (LA s.heap.size) 4 (cells + 2) (slots + 260) (LWB κ s.heap.size z' r') 1488 [(0, .ref b), (1, .ref s.heap.size), (2, .ref (s.heap.size + 32)), (3, .int (nI i))] []) : GG p l e room_1 s m #[Value.ref b] below meth c (lw_Z below #[Value.ref b] s) (LA s.heap.size) 4 cells slots (LWB κ s.heap.size z r) 552 [(0, .ref b), (1, .ref s.heap.size), (2, .ref (s.heap.size + 32)), (3, .int (nI i))] [] := by
  obtain ⟨w1, hw1⟩ : ∃ w, xs (nI i + (1 : Int32)).toNatClampNeg = w := ⟨_, rfl⟩
  obtain ⟨w2, hw2⟩ : ∃ w, xs (nI i + (2 : Int32)).toNatClampNeg = w := ⟨_, rfl⟩
  refine G_aload_n (pc' := 553) C dL_law_552 1 rfl rfl ?_
  refine G_aload_n (pc' := 554) C dL_law_553 0 rfl rfl ?_
  refine G_iload_n (pc' := 555) C dL_law_554 3 rfl rfl ?_
  refine G_iconst (pc' := 556) (v := (1 : Int32)) C dL_law_555 (by decide) rfl ?_
  refine G_iadd (pc' := 557) C dL_law_556 rfl ?_
  refine G_sldV (pc' := 558) C hX hbl (Nat.not_le.mpr hbl) dL_law_557 (z_inL (j := 1) hi hL (by decide)) hw1 rfl ?_
  refine G_aload_n (pc' := 559) C dL_law_558 0 rfl rfl ?_
  refine G_iload_n (pc' := 560) C dL_law_559 3 rfl rfl ?_
  refine G_iconst (pc' := 561) (v := (2 : Int32)) C dL_law_560 (by decide) rfl ?_
  refine G_iadd (pc' := 562) C dL_law_561 rfl ?_
  refine G_sldV (pc' := 563) C hX hbl (Nat.not_le.mpr hbl) dL_law_562 (z_inL (j := 2) hi hL (by decide)) hw2 rfl ?_
  obtain ⟨q1, q2, h1, h2, h3, h4⟩ := hst s.heap.size z r w1 w2 hsim
  refine G_callV (F := RB κ (s.heap.size + 32) r) (pc' := 566) C dL_law_563 (tX9_say κ l s.heap.size z w1 w2 q1 h1) (wV tw_ml_L_52 tw_im_X9_say tw_se_X9_X9_say tw_in_X9 tw_co_X9_say) yd_X9_say rfl fi_X9 (LW_c rfl) ⟨⟨by decide, by decide⟩, Nat.le_trans (Nat.add_le_add_left (show rmX9_say.cells ≤ 2 by decide) _) hc, Nat.le_trans (Nat.add_le_add_left (show rmX9_say.slots ≤ 260 by decide) _) hs⟩ (fun w hw => by rcases hw with h | h; exact h.1; exact Nat.le_trans (Nat.le_add_right _ _) h) (fun _ h => h) (fun _ _ _ _ hk hf => RB_fr hk hf) rfl (Nat.le_of_ble_eq_true rfl) rfl rfl ?_
  refine G_widen (k := cells + 2) (n := slots + 260) (Nat.add_le_add_left (show rmX9_say.cells ≤ 2 by decide) _) (Nat.add_le_add_left (show rmX9_say.slots ≤ 260 by decide) _) ?_
  refine G_world (B' := LWB κ s.heap.size q1.2 r) (fun _ h => h) ?_
  refine G_aload_n (pc' := 567) C dL_law_566 2 rfl rfl ?_
  refine G_aload_n (pc' := 568) C dL_law_567 0 rfl rfl ?_
  refine G_iload_n (pc' := 569) C dL_law_568 3 rfl rfl ?_
  refine G_iconst (pc' := 570) (v := (1 : Int32)) C dL_law_569 (by decide) rfl ?_
  refine G_iadd (pc' := 571) C dL_law_570 rfl ?_
  refine G_sldV (pc' := 572) C hX hbl (Nat.not_le.mpr hbl) dL_law_571 (z_inL (j := 1) hi hL (by decide)) hw1 rfl ?_
  refine G_aload_n (pc' := 573) C dL_law_572 0 rfl rfl ?_
  refine G_iload_n (pc' := 574) C dL_law_573 3 rfl rfl ?_
  refine G_iconst (pc' := 575) (v := (2 : Int32)) C dL_law_574 (by decide) rfl ?_
  refine G_iadd (pc' := 576) C dL_law_575 rfl ?_
  refine G_sldV (pc' := 577) C hX hbl (Nat.not_le.mpr hbl) dL_law_576 (z_inL (j := 2) hi hL (by decide)) hw2 rfl ?_
  refine G_callV (F := CBf κ s.heap.size q1.2) (pc' := 580) C dL_law_577 ((tX10_say κ l (s.heap.size + 32) r w1 w2 q2 h2).sized rfl (cn q1.2)) (wV tw_ml_L_55 tw_im_X10_say tw_se_X10_X10_say tw_in_X10 tw_co_X10_say) yd_X10_say rfl fi_X10 (LW_r rfl) ⟨⟨by decide, by decide⟩, hc, hs⟩ (fun w hw => Nat.le_trans (Nat.le_add_right _ 32) hw.1) (fun _ h => LW_toR h) (fun _ _ _ _ hk hf => CBf_fr hk hf) rfl (Nat.le_of_ble_eq_true rfl) rfl rfl ?_
  refine G_world (B' := LWB κ s.heap.size q1.2 q2.2) (fun _ h => LW_ofR h) ?_
  refine G_icmp_eq (tgt := 1488) (pc' := 583) C dL_law_580 (by decide) rfl (fun _ => ?_) (fun hne => absurd h3 hne)
  exact kk _ _ h4
def St_set (Sim : Nat → CS → RS → Prop) : Prop := ∀ (o : Nat) (z : CS) (r : RS) (a1 : Int32) (a2 : Int32) (a3 : Int32), Sim o z r → ∃ (q1 : Int32 × CS) (q2 : Int32 × RS), fX9_set o z a1 a2 a3 = some q1 ∧ fX10_set r a1 a2 a3 = some q2 ∧ q1.1 = q2.1 ∧ Sim o q1.2 q2.2
set_option maxHeartbeats 4000000 in
set_option maxRecDepth 100000 in
theorem lc_set {κ : KK} {p : Program} {l : Launch} {e : Env} {s : State} {m : MethodId} {below : List Frame} {meth : Method} {c : Code} {b L : Nat} {xs : Nat → Int32} (C : Cx κ p s m #[Value.ref b] meth c cL_law 4 RL ret) (hX : va_X b L xs s s.heap) (hbl : b < s.heap.size) (hL : L ≤ 3072) {Sim : Nat → CS → RS → Prop} (hst : St_set Sim) {i : Nat} {z : CS} {r : RS} (hsim : Sim s.heap.size z r) (hi : i + 6 ≤ L) {cells slots : Nat} (hc : cells + 2 ≤ 600000) (hs : slots + 260 ≤ 7302250) (kk : ∀ (z' : CS) (r' : RS), Sim s.heap.size z' r' → GG p l e room_1 s m #[Value.ref b] below meth c (lw_Z below #[Value.ref b] s) (LA s.heap.size) 4 (cells + 2) (slots + 260) (LWB κ s.heap.size z' r') 1488 [(0, .ref b), (1, .ref s.heap.size), (2, .ref (s.heap.size + 32)), (3, .int (nI i))] []) : GG p l e room_1 s m #[Value.ref b] below meth c (lw_Z below #[Value.ref b] s) (LA s.heap.size) 4 cells slots (LWB κ s.heap.size z r) 585 [(0, .ref b), (1, .ref s.heap.size), (2, .ref (s.heap.size + 32)), (3, .int (nI i))] [] := by
  obtain ⟨w1, hw1⟩ : ∃ w, xs (nI i + (1 : Int32)).toNatClampNeg = w := ⟨_, rfl⟩
  obtain ⟨w2, hw2⟩ : ∃ w, xs (nI i + (2 : Int32)).toNatClampNeg = w := ⟨_, rfl⟩
  obtain ⟨w3, hw3⟩ : ∃ w, xs (nI i + (3 : Int32)).toNatClampNeg = w := ⟨_, rfl⟩
  refine G_aload_n (pc' := 586) C dL_law_585 1 rfl rfl ?_
  refine G_aload_n (pc' := 587) C dL_law_586 0 rfl rfl ?_
  refine G_iload_n (pc' := 588) C dL_law_587 3 rfl rfl ?_
  refine G_iconst (pc' := 589) (v := (1 : Int32)) C dL_law_588 (by decide) rfl ?_
  refine G_iadd (pc' := 590) C dL_law_589 rfl ?_
  refine G_sldV (pc' := 591) C hX hbl (Nat.not_le.mpr hbl) dL_law_590 (z_inL (j := 1) hi hL (by decide)) hw1 rfl ?_
  refine G_aload_n (pc' := 592) C dL_law_591 0 rfl rfl ?_
  refine G_iload_n (pc' := 593) C dL_law_592 3 rfl rfl ?_
  refine G_iconst (pc' := 594) (v := (2 : Int32)) C dL_law_593 (by decide) rfl ?_
  refine G_iadd (pc' := 595) C dL_law_594 rfl ?_
  refine G_sldV (pc' := 596) C hX hbl (Nat.not_le.mpr hbl) dL_law_595 (z_inL (j := 2) hi hL (by decide)) hw2 rfl ?_
  refine G_aload_n (pc' := 597) C dL_law_596 0 rfl rfl ?_
  refine G_iload_n (pc' := 598) C dL_law_597 3 rfl rfl ?_
  refine G_iconst (pc' := 599) (v := (3 : Int32)) C dL_law_598 (by decide) rfl ?_
  refine G_iadd (pc' := 600) C dL_law_599 rfl ?_
  refine G_sldV (pc' := 601) C hX hbl (Nat.not_le.mpr hbl) dL_law_600 (z_inL (j := 3) hi hL (by decide)) hw3 rfl ?_
  obtain ⟨q1, q2, h1, h2, h3, h4⟩ := hst s.heap.size z r w1 w2 w3 hsim
  refine G_callV (F := RB κ (s.heap.size + 32) r) (pc' := 604) C dL_law_601 (tX9_set κ l s.heap.size z w1 w2 w3 q1 h1) (wV tw_ml_L_56 tw_im_X9_set tw_se_X9_X9_set tw_in_X9 tw_co_X9_set) yd_X9_set rfl fi_X9 (LW_c rfl) ⟨⟨by decide, by decide⟩, Nat.le_trans (Nat.add_le_add_left (show rmX9_set.cells ≤ 2 by decide) _) hc, Nat.le_trans (Nat.add_le_add_left (show rmX9_set.slots ≤ 260 by decide) _) hs⟩ (fun w hw => by rcases hw with h | h; exact h.1; exact Nat.le_trans (Nat.le_add_right _ _) h) (fun _ h => h) (fun _ _ _ _ hk hf => RB_fr hk hf) rfl (Nat.le_of_ble_eq_true rfl) rfl rfl ?_
  refine G_widen (k := cells + 2) (n := slots + 260) (Nat.add_le_add_left (show rmX9_set.cells ≤ 2 by decide) _) (Nat.add_le_add_left (show rmX9_set.slots ≤ 260 by decide) _) ?_
  refine G_world (B' := LWB κ s.heap.size q1.2 r) (fun _ h => h) ?_
  refine G_aload_n (pc' := 605) C dL_law_604 2 rfl rfl ?_
  refine G_aload_n (pc' := 606) C dL_law_605 0 rfl rfl ?_
  refine G_iload_n (pc' := 607) C dL_law_606 3 rfl rfl ?_
  refine G_iconst (pc' := 608) (v := (1 : Int32)) C dL_law_607 (by decide) rfl ?_
  refine G_iadd (pc' := 609) C dL_law_608 rfl ?_
  refine G_sldV (pc' := 610) C hX hbl (Nat.not_le.mpr hbl) dL_law_609 (z_inL (j := 1) hi hL (by decide)) hw1 rfl ?_
  refine G_aload_n (pc' := 611) C dL_law_610 0 rfl rfl ?_
  refine G_iload_n (pc' := 612) C dL_law_611 3 rfl rfl ?_
  refine G_iconst (pc' := 613) (v := (2 : Int32)) C dL_law_612 (by decide) rfl ?_
  refine G_iadd (pc' := 614) C dL_law_613 rfl ?_
  refine G_sldV (pc' := 615) C hX hbl (Nat.not_le.mpr hbl) dL_law_614 (z_inL (j := 2) hi hL (by decide)) hw2 rfl ?_
  refine G_aload_n (pc' := 616) C dL_law_615 0 rfl rfl ?_
  refine G_iload_n (pc' := 617) C dL_law_616 3 rfl rfl ?_
  refine G_iconst (pc' := 618) (v := (3 : Int32)) C dL_law_617 (by decide) rfl ?_
  refine G_iadd (pc' := 619) C dL_law_618 rfl ?_
  refine G_sldV (pc' := 620) C hX hbl (Nat.not_le.mpr hbl) dL_law_619 (z_inL (j := 3) hi hL (by decide)) hw3 rfl ?_
  refine G_callV (F := CBf κ s.heap.size q1.2) (pc' := 623) C dL_law_620 ((tX10_set κ l (s.heap.size + 32) r w1 w2 w3 q2 h2).sized rfl (cn q1.2)) (wV tw_ml_L_59 tw_im_X10_set tw_se_X10_X10_set tw_in_X10 tw_co_X10_set) yd_X10_set rfl fi_X10 (LW_r rfl) ⟨⟨by decide, by decide⟩, hc, hs⟩ (fun w hw => Nat.le_trans (Nat.le_add_right _ 32) hw.1) (fun _ h => LW_toR h) (fun _ _ _ _ hk hf => CBf_fr hk hf) rfl (Nat.le_of_ble_eq_true rfl) rfl rfl ?_
  refine G_world (B' := LWB κ s.heap.size q1.2 q2.2) (fun _ h => LW_ofR h) ?_
  refine G_icmp_eq (tgt := 1488) (pc' := 626) C dL_law_623 (by decide) rfl (fun _ => ?_) (fun hne => absurd h3 hne)
  exact kk _ _ h4
def St_of (Sim : Nat → CS → RS → Prop) : Prop := ∀ (o : Nat) (z : CS) (r : RS) (a1 : Int32) (a2 : Int32), Sim o z r → ∃ (q1 : Int32 × CS) (q2 : Int32 × RS), fX9_of o z a1 a2 = some q1 ∧ fX10_of r a1 a2 = some q2 ∧ q1.1 = q2.1 ∧ Sim o q1.2 q2.2
set_option maxHeartbeats 4000000 in
set_option maxRecDepth 100000 in
theorem lc_of {κ : KK} {p : Program} {l : Launch} {e : Env} {s : State} {m : MethodId} {below : List Frame} {meth : Method} {c : Code} {b L : Nat} {xs : Nat → Int32} (C : Cx κ p s m #[Value.ref b] meth c cL_law 4 RL ret) (hX : va_X b L xs s s.heap) (hbl : b < s.heap.size) (hL : L ≤ 3072) {Sim : Nat → CS → RS → Prop} (hst : St_of Sim) {i : Nat} {z : CS} {r : RS} (hsim : Sim s.heap.size z r) (hi : i + 6 ≤ L) {cells slots : Nat} (hc : cells + 2 ≤ 600000) (hs : slots + 260 ≤ 7302250) (kk : ∀ (z' : CS) (r' : RS), Sim s.heap.size z' r' → GG p l e room_1 s m #[Value.ref b] below meth c (lw_Z below #[Value.ref b] s) (LA s.heap.size) 4 (cells + 2) (slots + 260) (LWB κ s.heap.size z' r') 1488 [(0, .ref b), (1, .ref s.heap.size), (2, .ref (s.heap.size + 32)), (3, .int (nI i))] []) : GG p l e room_1 s m #[Value.ref b] below meth c (lw_Z below #[Value.ref b] s) (LA s.heap.size) 4 cells slots (LWB κ s.heap.size z r) 628 [(0, .ref b), (1, .ref s.heap.size), (2, .ref (s.heap.size + 32)), (3, .int (nI i))] [] := by
  obtain ⟨w1, hw1⟩ : ∃ w, xs (nI i + (1 : Int32)).toNatClampNeg = w := ⟨_, rfl⟩
  obtain ⟨w2, hw2⟩ : ∃ w, xs (nI i + (2 : Int32)).toNatClampNeg = w := ⟨_, rfl⟩
  refine G_aload_n (pc' := 629) C dL_law_628 1 rfl rfl ?_
  refine G_aload_n (pc' := 630) C dL_law_629 0 rfl rfl ?_
  refine G_iload_n (pc' := 631) C dL_law_630 3 rfl rfl ?_
  refine G_iconst (pc' := 632) (v := (1 : Int32)) C dL_law_631 (by decide) rfl ?_
  refine G_iadd (pc' := 633) C dL_law_632 rfl ?_
  refine G_sldV (pc' := 634) C hX hbl (Nat.not_le.mpr hbl) dL_law_633 (z_inL (j := 1) hi hL (by decide)) hw1 rfl ?_
  refine G_aload_n (pc' := 635) C dL_law_634 0 rfl rfl ?_
  refine G_iload_n (pc' := 636) C dL_law_635 3 rfl rfl ?_
  refine G_iconst (pc' := 637) (v := (2 : Int32)) C dL_law_636 (by decide) rfl ?_
  refine G_iadd (pc' := 638) C dL_law_637 rfl ?_
  refine G_sldV (pc' := 639) C hX hbl (Nat.not_le.mpr hbl) dL_law_638 (z_inL (j := 2) hi hL (by decide)) hw2 rfl ?_
  obtain ⟨q1, q2, h1, h2, h3, h4⟩ := hst s.heap.size z r w1 w2 hsim
  refine G_callV (F := RB κ (s.heap.size + 32) r) (pc' := 642) C dL_law_639 (tX9_of κ l s.heap.size z w1 w2 q1 h1) (wV tw_ml_L_60 tw_im_X9_of tw_se_X9_X9_of tw_in_X9 tw_co_X9_of) yd_X9_of rfl fi_X9 (LW_c rfl) ⟨⟨by decide, by decide⟩, Nat.le_trans (Nat.add_le_add_left (show rmX9_of.cells ≤ 2 by decide) _) hc, Nat.le_trans (Nat.add_le_add_left (show rmX9_of.slots ≤ 260 by decide) _) hs⟩ (fun w hw => by rcases hw with h | h; exact h.1; exact Nat.le_trans (Nat.le_add_right _ _) h) (fun _ h => h) (fun _ _ _ _ hk hf => RB_fr hk hf) rfl (Nat.le_of_ble_eq_true rfl) rfl rfl ?_
  refine G_widen (k := cells + 2) (n := slots + 260) (Nat.add_le_add_left (show rmX9_of.cells ≤ 2 by decide) _) (Nat.add_le_add_left (show rmX9_of.slots ≤ 260 by decide) _) ?_
  refine G_world (B' := LWB κ s.heap.size q1.2 r) (fun _ h => h) ?_
  refine G_aload_n (pc' := 643) C dL_law_642 2 rfl rfl ?_
  refine G_aload_n (pc' := 644) C dL_law_643 0 rfl rfl ?_
  refine G_iload_n (pc' := 645) C dL_law_644 3 rfl rfl ?_
  refine G_iconst (pc' := 646) (v := (1 : Int32)) C dL_law_645 (by decide) rfl ?_
  refine G_iadd (pc' := 647) C dL_law_646 rfl ?_
  refine G_sldV (pc' := 648) C hX hbl (Nat.not_le.mpr hbl) dL_law_647 (z_inL (j := 1) hi hL (by decide)) hw1 rfl ?_
  refine G_aload_n (pc' := 649) C dL_law_648 0 rfl rfl ?_
  refine G_iload_n (pc' := 650) C dL_law_649 3 rfl rfl ?_
  refine G_iconst (pc' := 651) (v := (2 : Int32)) C dL_law_650 (by decide) rfl ?_
  refine G_iadd (pc' := 652) C dL_law_651 rfl ?_
  refine G_sldV (pc' := 653) C hX hbl (Nat.not_le.mpr hbl) dL_law_652 (z_inL (j := 2) hi hL (by decide)) hw2 rfl ?_
  refine G_callV (F := CBf κ s.heap.size q1.2) (pc' := 656) C dL_law_653 ((tX10_of κ l (s.heap.size + 32) r w1 w2 q2 h2).sized rfl (cn q1.2)) (wV tw_ml_L_63 tw_im_X10_of tw_se_X10_X10_of tw_in_X10 tw_co_X10_of) yd_X10_of rfl fi_X10 (LW_r rfl) ⟨⟨by decide, by decide⟩, hc, hs⟩ (fun w hw => Nat.le_trans (Nat.le_add_right _ 32) hw.1) (fun _ h => LW_toR h) (fun _ _ _ _ hk hf => CBf_fr hk hf) rfl (Nat.le_of_ble_eq_true rfl) rfl rfl ?_
  refine G_world (B' := LWB κ s.heap.size q1.2 q2.2) (fun _ h => LW_ofR h) ?_
  refine G_icmp_eq (tgt := 1488) (pc' := 659) C dL_law_656 (by decide) rfl (fun _ => ?_) (fun hne => absurd h3 hne)
  exact kk _ _ h4
def St_clear (Sim : Nat → CS → RS → Prop) : Prop := ∀ (o : Nat) (z : CS) (r : RS) (a1 : Int32), Sim o z r → ∃ (q1 : Int32 × CS) (q2 : Int32 × RS), fX9_clear o z a1 = some q1 ∧ fX10_clear r a1 = some q2 ∧ q1.1 = q2.1 ∧ Sim o q1.2 q2.2
set_option maxHeartbeats 4000000 in
set_option maxRecDepth 100000 in
theorem lc_clear {κ : KK} {p : Program} {l : Launch} {e : Env} {s : State} {m : MethodId} {below : List Frame} {meth : Method} {c : Code} {b L : Nat} {xs : Nat → Int32} (C : Cx κ p s m #[Value.ref b] meth c cL_law 4 RL ret) (hX : va_X b L xs s s.heap) (hbl : b < s.heap.size) (hL : L ≤ 3072) {Sim : Nat → CS → RS → Prop} (hst : St_clear Sim) {i : Nat} {z : CS} {r : RS} (hsim : Sim s.heap.size z r) (hi : i + 6 ≤ L) {cells slots : Nat} (hc : cells + 2 ≤ 600000) (hs : slots + 260 ≤ 7302250) (kk : ∀ (z' : CS) (r' : RS), Sim s.heap.size z' r' → GG p l e room_1 s m #[Value.ref b] below meth c (lw_Z below #[Value.ref b] s) (LA s.heap.size) 4 (cells + 2) (slots + 260) (LWB κ s.heap.size z' r') 1488 [(0, .ref b), (1, .ref s.heap.size), (2, .ref (s.heap.size + 32)), (3, .int (nI i))] []) : GG p l e room_1 s m #[Value.ref b] below meth c (lw_Z below #[Value.ref b] s) (LA s.heap.size) 4 cells slots (LWB κ s.heap.size z r) 661 [(0, .ref b), (1, .ref s.heap.size), (2, .ref (s.heap.size + 32)), (3, .int (nI i))] [] := by
  obtain ⟨w1, hw1⟩ : ∃ w, xs (nI i + (1 : Int32)).toNatClampNeg = w := ⟨_, rfl⟩
  refine G_aload_n (pc' := 662) C dL_law_661 1 rfl rfl ?_
  refine G_aload_n (pc' := 663) C dL_law_662 0 rfl rfl ?_
  refine G_iload_n (pc' := 664) C dL_law_663 3 rfl rfl ?_
  refine G_iconst (pc' := 665) (v := (1 : Int32)) C dL_law_664 (by decide) rfl ?_
  refine G_iadd (pc' := 666) C dL_law_665 rfl ?_
  refine G_sldV (pc' := 667) C hX hbl (Nat.not_le.mpr hbl) dL_law_666 (z_inL (j := 1) hi hL (by decide)) hw1 rfl ?_
  obtain ⟨q1, q2, h1, h2, h3, h4⟩ := hst s.heap.size z r w1 hsim
  refine G_callV (F := RB κ (s.heap.size + 32) r) (pc' := 670) C dL_law_667 (tX9_clear κ l s.heap.size z w1 q1 h1) (wV tw_ml_L_64 tw_im_X9_clear tw_se_X9_X9_clear tw_in_X9 tw_co_X9_clear) yd_X9_clear rfl fi_X9 (LW_c rfl) ⟨⟨by decide, by decide⟩, Nat.le_trans (Nat.add_le_add_left (show rmX9_clear.cells ≤ 2 by decide) _) hc, Nat.le_trans (Nat.add_le_add_left (show rmX9_clear.slots ≤ 260 by decide) _) hs⟩ (fun w hw => by rcases hw with h | h; exact h.1; exact Nat.le_trans (Nat.le_add_right _ _) h) (fun _ h => h) (fun _ _ _ _ hk hf => RB_fr hk hf) rfl (Nat.le_of_ble_eq_true rfl) rfl rfl ?_
  refine G_widen (k := cells + 2) (n := slots + 260) (Nat.add_le_add_left (show rmX9_clear.cells ≤ 2 by decide) _) (Nat.add_le_add_left (show rmX9_clear.slots ≤ 260 by decide) _) ?_
  refine G_world (B' := LWB κ s.heap.size q1.2 r) (fun _ h => h) ?_
  refine G_aload_n (pc' := 671) C dL_law_670 2 rfl rfl ?_
  refine G_aload_n (pc' := 672) C dL_law_671 0 rfl rfl ?_
  refine G_iload_n (pc' := 673) C dL_law_672 3 rfl rfl ?_
  refine G_iconst (pc' := 674) (v := (1 : Int32)) C dL_law_673 (by decide) rfl ?_
  refine G_iadd (pc' := 675) C dL_law_674 rfl ?_
  refine G_sldV (pc' := 676) C hX hbl (Nat.not_le.mpr hbl) dL_law_675 (z_inL (j := 1) hi hL (by decide)) hw1 rfl ?_
  refine G_callV (F := CBf κ s.heap.size q1.2) (pc' := 679) C dL_law_676 ((tX10_clear κ l (s.heap.size + 32) r w1 q2 h2).sized rfl (cn q1.2)) (wV tw_ml_L_67 tw_im_X10_clear tw_se_X10_X10_clear tw_in_X10 tw_co_X10_clear) yd_X10_clear rfl fi_X10 (LW_r rfl) ⟨⟨by decide, by decide⟩, hc, hs⟩ (fun w hw => Nat.le_trans (Nat.le_add_right _ 32) hw.1) (fun _ h => LW_toR h) (fun _ _ _ _ hk hf => CBf_fr hk hf) rfl (Nat.le_of_ble_eq_true rfl) rfl rfl ?_
  refine G_world (B' := LWB κ s.heap.size q1.2 q2.2) (fun _ h => LW_ofR h) ?_
  refine G_icmp_eq (tgt := 1488) (pc' := 682) C dL_law_679 (by decide) rfl (fun _ => ?_) (fun hne => absurd h3 hne)
  exact kk _ _ h4
def St_move (Sim : Nat → CS → RS → Prop) : Prop := ∀ (o : Nat) (z : CS) (r : RS) (a1 : Int32) (a2 : Int32), Sim o z r → ∃ (q1 : Int32 × CS) (q2 : Int32 × RS), fX9_move o z a1 a2 = some q1 ∧ fX10_move r a1 a2 = some q2 ∧ q1.1 = q2.1 ∧ Sim o q1.2 q2.2
set_option maxHeartbeats 4000000 in
set_option maxRecDepth 100000 in
theorem lc_move {κ : KK} {p : Program} {l : Launch} {e : Env} {s : State} {m : MethodId} {below : List Frame} {meth : Method} {c : Code} {b L : Nat} {xs : Nat → Int32} (C : Cx κ p s m #[Value.ref b] meth c cL_law 4 RL ret) (hX : va_X b L xs s s.heap) (hbl : b < s.heap.size) (hL : L ≤ 3072) {Sim : Nat → CS → RS → Prop} (hst : St_move Sim) {i : Nat} {z : CS} {r : RS} (hsim : Sim s.heap.size z r) (hi : i + 6 ≤ L) {cells slots : Nat} (hc : cells + 2 ≤ 600000) (hs : slots + 260 ≤ 7302250) (kk : ∀ (z' : CS) (r' : RS), Sim s.heap.size z' r' → GG p l e room_1 s m #[Value.ref b] below meth c (lw_Z below #[Value.ref b] s) (LA s.heap.size) 4 (cells + 2) (slots + 260) (LWB κ s.heap.size z' r') 1488 [(0, .ref b), (1, .ref s.heap.size), (2, .ref (s.heap.size + 32)), (3, .int (nI i))] []) : GG p l e room_1 s m #[Value.ref b] below meth c (lw_Z below #[Value.ref b] s) (LA s.heap.size) 4 cells slots (LWB κ s.heap.size z r) 684 [(0, .ref b), (1, .ref s.heap.size), (2, .ref (s.heap.size + 32)), (3, .int (nI i))] [] := by
  obtain ⟨w1, hw1⟩ : ∃ w, xs (nI i + (1 : Int32)).toNatClampNeg = w := ⟨_, rfl⟩
  obtain ⟨w2, hw2⟩ : ∃ w, xs (nI i + (2 : Int32)).toNatClampNeg = w := ⟨_, rfl⟩
  refine G_aload_n (pc' := 685) C dL_law_684 1 rfl rfl ?_
  refine G_aload_n (pc' := 686) C dL_law_685 0 rfl rfl ?_
  refine G_iload_n (pc' := 687) C dL_law_686 3 rfl rfl ?_
  refine G_iconst (pc' := 688) (v := (1 : Int32)) C dL_law_687 (by decide) rfl ?_
  refine G_iadd (pc' := 689) C dL_law_688 rfl ?_
  refine G_sldV (pc' := 690) C hX hbl (Nat.not_le.mpr hbl) dL_law_689 (z_inL (j := 1) hi hL (by decide)) hw1 rfl ?_
  refine G_aload_n (pc' := 691) C dL_law_690 0 rfl rfl ?_
  refine G_iload_n (pc' := 692) C dL_law_691 3 rfl rfl ?_
  refine G_iconst (pc' := 693) (v := (2 : Int32)) C dL_law_692 (by decide) rfl ?_
  refine G_iadd (pc' := 694) C dL_law_693 rfl ?_
  refine G_sldV (pc' := 695) C hX hbl (Nat.not_le.mpr hbl) dL_law_694 (z_inL (j := 2) hi hL (by decide)) hw2 rfl ?_
  obtain ⟨q1, q2, h1, h2, h3, h4⟩ := hst s.heap.size z r w1 w2 hsim
  refine G_callV (F := RB κ (s.heap.size + 32) r) (pc' := 698) C dL_law_695 (tX9_move κ l s.heap.size z w1 w2 q1 h1) (wV tw_ml_L_68 tw_im_X9_move tw_se_X9_X9_move tw_in_X9 tw_co_X9_move) yd_X9_move rfl fi_X9 (LW_c rfl) ⟨⟨by decide, by decide⟩, Nat.le_trans (Nat.add_le_add_left (show rmX9_move.cells ≤ 2 by decide) _) hc, Nat.le_trans (Nat.add_le_add_left (show rmX9_move.slots ≤ 260 by decide) _) hs⟩ (fun w hw => by rcases hw with h | h; exact h.1; exact Nat.le_trans (Nat.le_add_right _ _) h) (fun _ h => h) (fun _ _ _ _ hk hf => RB_fr hk hf) rfl (Nat.le_of_ble_eq_true rfl) rfl rfl ?_
  refine G_widen (k := cells + 2) (n := slots + 260) (Nat.add_le_add_left (show rmX9_move.cells ≤ 2 by decide) _) (Nat.add_le_add_left (show rmX9_move.slots ≤ 260 by decide) _) ?_
  refine G_world (B' := LWB κ s.heap.size q1.2 r) (fun _ h => h) ?_
  refine G_aload_n (pc' := 699) C dL_law_698 2 rfl rfl ?_
  refine G_aload_n (pc' := 700) C dL_law_699 0 rfl rfl ?_
  refine G_iload_n (pc' := 701) C dL_law_700 3 rfl rfl ?_
  refine G_iconst (pc' := 702) (v := (1 : Int32)) C dL_law_701 (by decide) rfl ?_
  refine G_iadd (pc' := 703) C dL_law_702 rfl ?_
  refine G_sldV (pc' := 704) C hX hbl (Nat.not_le.mpr hbl) dL_law_703 (z_inL (j := 1) hi hL (by decide)) hw1 rfl ?_
  refine G_aload_n (pc' := 705) C dL_law_704 0 rfl rfl ?_
  refine G_iload_n (pc' := 706) C dL_law_705 3 rfl rfl ?_
  refine G_iconst (pc' := 707) (v := (2 : Int32)) C dL_law_706 (by decide) rfl ?_
  refine G_iadd (pc' := 708) C dL_law_707 rfl ?_
  refine G_sldV (pc' := 709) C hX hbl (Nat.not_le.mpr hbl) dL_law_708 (z_inL (j := 2) hi hL (by decide)) hw2 rfl ?_
  refine G_callV (F := CBf κ s.heap.size q1.2) (pc' := 712) C dL_law_709 ((tX10_move κ l (s.heap.size + 32) r w1 w2 q2 h2).sized rfl (cn q1.2)) (wV tw_ml_L_71 tw_im_X10_move tw_se_X10_X10_move tw_in_X10 tw_co_X10_move) yd_X10_move rfl fi_X10 (LW_r rfl) ⟨⟨by decide, by decide⟩, hc, hs⟩ (fun w hw => Nat.le_trans (Nat.le_add_right _ 32) hw.1) (fun _ h => LW_toR h) (fun _ _ _ _ hk hf => CBf_fr hk hf) rfl (Nat.le_of_ble_eq_true rfl) rfl rfl ?_
  refine G_world (B' := LWB κ s.heap.size q1.2 q2.2) (fun _ h => LW_ofR h) ?_
  refine G_icmp_eq (tgt := 1488) (pc' := 715) C dL_law_712 (by decide) rfl (fun _ => ?_) (fun hne => absurd h3 hne)
  exact kk _ _ h4
def St_tell (Sim : Nat → CS → RS → Prop) : Prop := ∀ (o : Nat) (z : CS) (r : RS) (a1 : Int32), Sim o z r → ∃ (q1 : Int32 × CS) (q2 : Int32 × RS), fX9_tell o z a1 = some q1 ∧ fX10_tell r a1 = some q2 ∧ q1.1 = q2.1 ∧ Sim o q1.2 q2.2
set_option maxHeartbeats 4000000 in
set_option maxRecDepth 100000 in
theorem lc_tell {κ : KK} {p : Program} {l : Launch} {e : Env} {s : State} {m : MethodId} {below : List Frame} {meth : Method} {c : Code} {b L : Nat} {xs : Nat → Int32} (C : Cx κ p s m #[Value.ref b] meth c cL_law 4 RL ret) (hX : va_X b L xs s s.heap) (hbl : b < s.heap.size) (hL : L ≤ 3072) {Sim : Nat → CS → RS → Prop} (hst : St_tell Sim) {i : Nat} {z : CS} {r : RS} (hsim : Sim s.heap.size z r) (hi : i + 6 ≤ L) {cells slots : Nat} (hc : cells + 2 ≤ 600000) (hs : slots + 260 ≤ 7302250) (kk : ∀ (z' : CS) (r' : RS), Sim s.heap.size z' r' → GG p l e room_1 s m #[Value.ref b] below meth c (lw_Z below #[Value.ref b] s) (LA s.heap.size) 4 (cells + 2) (slots + 260) (LWB κ s.heap.size z' r') 1488 [(0, .ref b), (1, .ref s.heap.size), (2, .ref (s.heap.size + 32)), (3, .int (nI i))] []) : GG p l e room_1 s m #[Value.ref b] below meth c (lw_Z below #[Value.ref b] s) (LA s.heap.size) 4 cells slots (LWB κ s.heap.size z r) 717 [(0, .ref b), (1, .ref s.heap.size), (2, .ref (s.heap.size + 32)), (3, .int (nI i))] [] := by
  obtain ⟨w1, hw1⟩ : ∃ w, xs (nI i + (1 : Int32)).toNatClampNeg = w := ⟨_, rfl⟩
  refine G_aload_n (pc' := 718) C dL_law_717 1 rfl rfl ?_
  refine G_aload_n (pc' := 719) C dL_law_718 0 rfl rfl ?_
  refine G_iload_n (pc' := 720) C dL_law_719 3 rfl rfl ?_
  refine G_iconst (pc' := 721) (v := (1 : Int32)) C dL_law_720 (by decide) rfl ?_
  refine G_iadd (pc' := 722) C dL_law_721 rfl ?_
  refine G_sldV (pc' := 723) C hX hbl (Nat.not_le.mpr hbl) dL_law_722 (z_inL (j := 1) hi hL (by decide)) hw1 rfl ?_
  obtain ⟨q1, q2, h1, h2, h3, h4⟩ := hst s.heap.size z r w1 hsim
  refine G_callV (F := RB κ (s.heap.size + 32) r) (pc' := 726) C dL_law_723 (tX9_tell κ l s.heap.size z w1 q1 h1) (wV tw_ml_L_72 tw_im_X9_tell tw_se_X9_X9_tell tw_in_X9 tw_co_X9_tell) yd_X9_tell rfl fi_X9 (LW_c rfl) ⟨⟨by decide, by decide⟩, Nat.le_trans (Nat.add_le_add_left (show rmX9_tell.cells ≤ 2 by decide) _) hc, Nat.le_trans (Nat.add_le_add_left (show rmX9_tell.slots ≤ 260 by decide) _) hs⟩ (fun w hw => by rcases hw with h | h; exact h.1; exact Nat.le_trans (Nat.le_add_right _ _) h) (fun _ h => h) (fun _ _ _ _ hk hf => RB_fr hk hf) rfl (Nat.le_of_ble_eq_true rfl) rfl rfl ?_
  refine G_widen (k := cells + 2) (n := slots + 260) (Nat.add_le_add_left (show rmX9_tell.cells ≤ 2 by decide) _) (Nat.add_le_add_left (show rmX9_tell.slots ≤ 260 by decide) _) ?_
  refine G_world (B' := LWB κ s.heap.size q1.2 r) (fun _ h => h) ?_
  refine G_aload_n (pc' := 727) C dL_law_726 2 rfl rfl ?_
  refine G_aload_n (pc' := 728) C dL_law_727 0 rfl rfl ?_
  refine G_iload_n (pc' := 729) C dL_law_728 3 rfl rfl ?_
  refine G_iconst (pc' := 730) (v := (1 : Int32)) C dL_law_729 (by decide) rfl ?_
  refine G_iadd (pc' := 731) C dL_law_730 rfl ?_
  refine G_sldV (pc' := 732) C hX hbl (Nat.not_le.mpr hbl) dL_law_731 (z_inL (j := 1) hi hL (by decide)) hw1 rfl ?_
  refine G_callV (F := CBf κ s.heap.size q1.2) (pc' := 735) C dL_law_732 ((tX10_tell κ l (s.heap.size + 32) r w1 q2 h2).sized rfl (cn q1.2)) (wV tw_ml_L_75 tw_im_X10_tell tw_se_X10_X10_tell tw_in_X10 tw_co_X10_tell) yd_X10_tell rfl fi_X10 (LW_r rfl) ⟨⟨by decide, by decide⟩, hc, hs⟩ (fun w hw => Nat.le_trans (Nat.le_add_right _ 32) hw.1) (fun _ h => LW_toR h) (fun _ _ _ _ hk hf => CBf_fr hk hf) rfl (Nat.le_of_ble_eq_true rfl) rfl rfl ?_
  refine G_world (B' := LWB κ s.heap.size q1.2 q2.2) (fun _ h => LW_ofR h) ?_
  refine G_icmp_eq (tgt := 1488) (pc' := 738) C dL_law_735 (by decide) rfl (fun _ => ?_) (fun hne => absurd h3 hne)
  exact kk _ _ h4
def St_put (Sim : Nat → CS → RS → Prop) : Prop := ∀ (o : Nat) (z : CS) (r : RS) (a1 : Int32) (a2 : Int32), Sim o z r → ∃ (q1 : Int32 × CS) (q2 : Int32 × RS), fX9_put o z a1 a2 = some q1 ∧ fX10_put r a1 a2 = some q2 ∧ q1.1 = q2.1 ∧ Sim o q1.2 q2.2
set_option maxHeartbeats 4000000 in
set_option maxRecDepth 100000 in
theorem lc_put {κ : KK} {p : Program} {l : Launch} {e : Env} {s : State} {m : MethodId} {below : List Frame} {meth : Method} {c : Code} {b L : Nat} {xs : Nat → Int32} (C : Cx κ p s m #[Value.ref b] meth c cL_law 4 RL ret) (hX : va_X b L xs s s.heap) (hbl : b < s.heap.size) (hL : L ≤ 3072) {Sim : Nat → CS → RS → Prop} (hst : St_put Sim) {i : Nat} {z : CS} {r : RS} (hsim : Sim s.heap.size z r) (hi : i + 6 ≤ L) {cells slots : Nat} (hc : cells + 2 ≤ 600000) (hs : slots + 260 ≤ 7302250) (kk : ∀ (z' : CS) (r' : RS), Sim s.heap.size z' r' → GG p l e room_1 s m #[Value.ref b] below meth c (lw_Z below #[Value.ref b] s) (LA s.heap.size) 4 (cells + 2) (slots + 260) (LWB κ s.heap.size z' r') 1488 [(0, .ref b), (1, .ref s.heap.size), (2, .ref (s.heap.size + 32)), (3, .int (nI i))] []) : GG p l e room_1 s m #[Value.ref b] below meth c (lw_Z below #[Value.ref b] s) (LA s.heap.size) 4 cells slots (LWB κ s.heap.size z r) 740 [(0, .ref b), (1, .ref s.heap.size), (2, .ref (s.heap.size + 32)), (3, .int (nI i))] [] := by
  obtain ⟨w1, hw1⟩ : ∃ w, xs (nI i + (1 : Int32)).toNatClampNeg = w := ⟨_, rfl⟩
  obtain ⟨w2, hw2⟩ : ∃ w, xs (nI i + (2 : Int32)).toNatClampNeg = w := ⟨_, rfl⟩
  refine G_aload_n (pc' := 741) C dL_law_740 1 rfl rfl ?_
  refine G_aload_n (pc' := 742) C dL_law_741 0 rfl rfl ?_
  refine G_iload_n (pc' := 743) C dL_law_742 3 rfl rfl ?_
  refine G_iconst (pc' := 744) (v := (1 : Int32)) C dL_law_743 (by decide) rfl ?_
  refine G_iadd (pc' := 745) C dL_law_744 rfl ?_
  refine G_sldV (pc' := 746) C hX hbl (Nat.not_le.mpr hbl) dL_law_745 (z_inL (j := 1) hi hL (by decide)) hw1 rfl ?_
  refine G_aload_n (pc' := 747) C dL_law_746 0 rfl rfl ?_
  refine G_iload_n (pc' := 748) C dL_law_747 3 rfl rfl ?_
  refine G_iconst (pc' := 749) (v := (2 : Int32)) C dL_law_748 (by decide) rfl ?_
  refine G_iadd (pc' := 750) C dL_law_749 rfl ?_
  refine G_sldV (pc' := 751) C hX hbl (Nat.not_le.mpr hbl) dL_law_750 (z_inL (j := 2) hi hL (by decide)) hw2 rfl ?_
  obtain ⟨q1, q2, h1, h2, h3, h4⟩ := hst s.heap.size z r w1 w2 hsim
  refine G_callV (F := RB κ (s.heap.size + 32) r) (pc' := 754) C dL_law_751 (tX9_put κ l s.heap.size z w1 w2 q1 h1) (wV tw_ml_L_76 tw_im_X9_put tw_se_X9_X9_put tw_in_X9 tw_co_X9_put) yd_X9_put rfl fi_X9 (LW_c rfl) ⟨⟨by decide, by decide⟩, Nat.le_trans (Nat.add_le_add_left (show rmX9_put.cells ≤ 2 by decide) _) hc, Nat.le_trans (Nat.add_le_add_left (show rmX9_put.slots ≤ 260 by decide) _) hs⟩ (fun w hw => by rcases hw with h | h; exact h.1; exact Nat.le_trans (Nat.le_add_right _ _) h) (fun _ h => h) (fun _ _ _ _ hk hf => RB_fr hk hf) rfl (Nat.le_of_ble_eq_true rfl) rfl rfl ?_
  refine G_widen (k := cells + 2) (n := slots + 260) (Nat.add_le_add_left (show rmX9_put.cells ≤ 2 by decide) _) (Nat.add_le_add_left (show rmX9_put.slots ≤ 260 by decide) _) ?_
  refine G_world (B' := LWB κ s.heap.size q1.2 r) (fun _ h => h) ?_
  refine G_aload_n (pc' := 755) C dL_law_754 2 rfl rfl ?_
  refine G_aload_n (pc' := 756) C dL_law_755 0 rfl rfl ?_
  refine G_iload_n (pc' := 757) C dL_law_756 3 rfl rfl ?_
  refine G_iconst (pc' := 758) (v := (1 : Int32)) C dL_law_757 (by decide) rfl ?_
  refine G_iadd (pc' := 759) C dL_law_758 rfl ?_
  refine G_sldV (pc' := 760) C hX hbl (Nat.not_le.mpr hbl) dL_law_759 (z_inL (j := 1) hi hL (by decide)) hw1 rfl ?_
  refine G_aload_n (pc' := 761) C dL_law_760 0 rfl rfl ?_
  refine G_iload_n (pc' := 762) C dL_law_761 3 rfl rfl ?_
  refine G_iconst (pc' := 763) (v := (2 : Int32)) C dL_law_762 (by decide) rfl ?_
  refine G_iadd (pc' := 764) C dL_law_763 rfl ?_
  refine G_sldV (pc' := 765) C hX hbl (Nat.not_le.mpr hbl) dL_law_764 (z_inL (j := 2) hi hL (by decide)) hw2 rfl ?_
  refine G_callV (F := CBf κ s.heap.size q1.2) (pc' := 768) C dL_law_765 ((tX10_put κ l (s.heap.size + 32) r w1 w2 q2 h2).sized rfl (cn q1.2)) (wV tw_ml_L_79 tw_im_X10_put tw_se_X10_X10_put tw_in_X10 tw_co_X10_put) yd_X10_put rfl fi_X10 (LW_r rfl) ⟨⟨by decide, by decide⟩, hc, hs⟩ (fun w hw => Nat.le_trans (Nat.le_add_right _ 32) hw.1) (fun _ h => LW_toR h) (fun _ _ _ _ hk hf => CBf_fr hk hf) rfl (Nat.le_of_ble_eq_true rfl) rfl rfl ?_
  refine G_world (B' := LWB κ s.heap.size q1.2 q2.2) (fun _ h => LW_ofR h) ?_
  refine G_icmp_eq (tgt := 1488) (pc' := 771) C dL_law_768 (by decide) rfl (fun _ => ?_) (fun hne => absurd h3 hne)
  exact kk _ _ h4
def St_read (Sim : Nat → CS → RS → Prop) : Prop := ∀ (o : Nat) (z : CS) (r : RS) (a1 : Int32), Sim o z r → ∃ (q1 : Int32 × CS) (q2 : Int32 × RS), fX9_read o z a1 = some q1 ∧ fX10_read r a1 = some q2 ∧ q1.1 = q2.1 ∧ Sim o q1.2 q2.2
set_option maxHeartbeats 4000000 in
set_option maxRecDepth 100000 in
theorem lc_read {κ : KK} {p : Program} {l : Launch} {e : Env} {s : State} {m : MethodId} {below : List Frame} {meth : Method} {c : Code} {b L : Nat} {xs : Nat → Int32} (C : Cx κ p s m #[Value.ref b] meth c cL_law 4 RL ret) (hX : va_X b L xs s s.heap) (hbl : b < s.heap.size) (hL : L ≤ 3072) {Sim : Nat → CS → RS → Prop} (hst : St_read Sim) {i : Nat} {z : CS} {r : RS} (hsim : Sim s.heap.size z r) (hi : i + 6 ≤ L) {cells slots : Nat} (hc : cells + 2 ≤ 600000) (hs : slots + 260 ≤ 7302250) (kk : ∀ (z' : CS) (r' : RS), Sim s.heap.size z' r' → GG p l e room_1 s m #[Value.ref b] below meth c (lw_Z below #[Value.ref b] s) (LA s.heap.size) 4 (cells + 2) (slots + 260) (LWB κ s.heap.size z' r') 1488 [(0, .ref b), (1, .ref s.heap.size), (2, .ref (s.heap.size + 32)), (3, .int (nI i))] []) : GG p l e room_1 s m #[Value.ref b] below meth c (lw_Z below #[Value.ref b] s) (LA s.heap.size) 4 cells slots (LWB κ s.heap.size z r) 773 [(0, .ref b), (1, .ref s.heap.size), (2, .ref (s.heap.size + 32)), (3, .int (nI i))] [] := by
  obtain ⟨w1, hw1⟩ : ∃ w, xs (nI i + (1 : Int32)).toNatClampNeg = w := ⟨_, rfl⟩
  refine G_aload_n (pc' := 774) C dL_law_773 1 rfl rfl ?_
  refine G_aload_n (pc' := 775) C dL_law_774 0 rfl rfl ?_
  refine G_iload_n (pc' := 776) C dL_law_775 3 rfl rfl ?_
  refine G_iconst (pc' := 777) (v := (1 : Int32)) C dL_law_776 (by decide) rfl ?_
  refine G_iadd (pc' := 778) C dL_law_777 rfl ?_
  refine G_sldV (pc' := 779) C hX hbl (Nat.not_le.mpr hbl) dL_law_778 (z_inL (j := 1) hi hL (by decide)) hw1 rfl ?_
  obtain ⟨q1, q2, h1, h2, h3, h4⟩ := hst s.heap.size z r w1 hsim
  refine G_callV (F := RB κ (s.heap.size + 32) r) (pc' := 782) C dL_law_779 (tX9_read κ l s.heap.size z w1 q1 h1) (wV tw_ml_L_80 tw_im_X9_read tw_se_X9_X9_read tw_in_X9 tw_co_X9_read) yd_X9_read rfl fi_X9 (LW_c rfl) ⟨⟨by decide, by decide⟩, Nat.le_trans (Nat.add_le_add_left (show rmX9_read.cells ≤ 2 by decide) _) hc, Nat.le_trans (Nat.add_le_add_left (show rmX9_read.slots ≤ 260 by decide) _) hs⟩ (fun w hw => by rcases hw with h | h; exact h.1; exact Nat.le_trans (Nat.le_add_right _ _) h) (fun _ h => h) (fun _ _ _ _ hk hf => RB_fr hk hf) rfl (Nat.le_of_ble_eq_true rfl) rfl rfl ?_
  refine G_widen (k := cells + 2) (n := slots + 260) (Nat.add_le_add_left (show rmX9_read.cells ≤ 2 by decide) _) (Nat.add_le_add_left (show rmX9_read.slots ≤ 260 by decide) _) ?_
  refine G_world (B' := LWB κ s.heap.size q1.2 r) (fun _ h => h) ?_
  refine G_aload_n (pc' := 783) C dL_law_782 2 rfl rfl ?_
  refine G_aload_n (pc' := 784) C dL_law_783 0 rfl rfl ?_
  refine G_iload_n (pc' := 785) C dL_law_784 3 rfl rfl ?_
  refine G_iconst (pc' := 786) (v := (1 : Int32)) C dL_law_785 (by decide) rfl ?_
  refine G_iadd (pc' := 787) C dL_law_786 rfl ?_
  refine G_sldV (pc' := 788) C hX hbl (Nat.not_le.mpr hbl) dL_law_787 (z_inL (j := 1) hi hL (by decide)) hw1 rfl ?_
  refine G_callV (F := CBf κ s.heap.size q1.2) (pc' := 791) C dL_law_788 ((tX10_read κ l (s.heap.size + 32) r w1 q2 h2).sized rfl (cn q1.2)) (wV tw_ml_L_83 tw_im_X10_read tw_se_X10_X10_read tw_in_X10 tw_co_X10_read) yd_X10_read rfl fi_X10 (LW_r rfl) ⟨⟨by decide, by decide⟩, hc, hs⟩ (fun w hw => Nat.le_trans (Nat.le_add_right _ 32) hw.1) (fun _ h => LW_toR h) (fun _ _ _ _ hk hf => CBf_fr hk hf) rfl (Nat.le_of_ble_eq_true rfl) rfl rfl ?_
  refine G_world (B' := LWB κ s.heap.size q1.2 q2.2) (fun _ h => LW_ofR h) ?_
  refine G_icmp_eq (tgt := 1488) (pc' := 794) C dL_law_791 (by decide) rfl (fun _ => ?_) (fun hne => absurd h3 hne)
  exact kk _ _ h4
def St_made (Sim : Nat → CS → RS → Prop) : Prop := ∀ (o : Nat) (z : CS) (r : RS) (a1 : Int32) (a2 : Int32) (a3 : Int32) (a4 : Int32), Sim o z r → ∃ (q1 : Int32 × CS) (q2 : Int32 × RS), fX9_made o z a1 a2 a3 a4 = some q1 ∧ fX10_made r a1 a2 a3 a4 = some q2 ∧ q1.1 = q2.1 ∧ Sim o q1.2 q2.2
set_option maxHeartbeats 4000000 in
set_option maxRecDepth 100000 in
theorem lc_made {κ : KK} {p : Program} {l : Launch} {e : Env} {s : State} {m : MethodId} {below : List Frame} {meth : Method} {c : Code} {b L : Nat} {xs : Nat → Int32} (C : Cx κ p s m #[Value.ref b] meth c cL_law 4 RL ret) (hX : va_X b L xs s s.heap) (hbl : b < s.heap.size) (hL : L ≤ 3072) {Sim : Nat → CS → RS → Prop} (hst : St_made Sim) {i : Nat} {z : CS} {r : RS} (hsim : Sim s.heap.size z r) (hi : i + 6 ≤ L) {cells slots : Nat} (hc : cells + 2 ≤ 600000) (hs : slots + 260 ≤ 7302250) (kk : ∀ (z' : CS) (r' : RS), Sim s.heap.size z' r' → GG p l e room_1 s m #[Value.ref b] below meth c (lw_Z below #[Value.ref b] s) (LA s.heap.size) 4 (cells + 2) (slots + 260) (LWB κ s.heap.size z' r') 1488 [(0, .ref b), (1, .ref s.heap.size), (2, .ref (s.heap.size + 32)), (3, .int (nI i))] []) : GG p l e room_1 s m #[Value.ref b] below meth c (lw_Z below #[Value.ref b] s) (LA s.heap.size) 4 cells slots (LWB κ s.heap.size z r) 796 [(0, .ref b), (1, .ref s.heap.size), (2, .ref (s.heap.size + 32)), (3, .int (nI i))] [] := by
  obtain ⟨w1, hw1⟩ : ∃ w, xs (nI i + (1 : Int32)).toNatClampNeg = w := ⟨_, rfl⟩
  obtain ⟨w2, hw2⟩ : ∃ w, xs (nI i + (2 : Int32)).toNatClampNeg = w := ⟨_, rfl⟩
  obtain ⟨w3, hw3⟩ : ∃ w, xs (nI i + (3 : Int32)).toNatClampNeg = w := ⟨_, rfl⟩
  obtain ⟨w4, hw4⟩ : ∃ w, xs (nI i + (4 : Int32)).toNatClampNeg = w := ⟨_, rfl⟩
  refine G_aload_n (pc' := 797) C dL_law_796 1 rfl rfl ?_
  refine G_aload_n (pc' := 798) C dL_law_797 0 rfl rfl ?_
  refine G_iload_n (pc' := 799) C dL_law_798 3 rfl rfl ?_
  refine G_iconst (pc' := 800) (v := (1 : Int32)) C dL_law_799 (by decide) rfl ?_
  refine G_iadd (pc' := 801) C dL_law_800 rfl ?_
  refine G_sldV (pc' := 802) C hX hbl (Nat.not_le.mpr hbl) dL_law_801 (z_inL (j := 1) hi hL (by decide)) hw1 rfl ?_
  refine G_aload_n (pc' := 803) C dL_law_802 0 rfl rfl ?_
  refine G_iload_n (pc' := 804) C dL_law_803 3 rfl rfl ?_
  refine G_iconst (pc' := 805) (v := (2 : Int32)) C dL_law_804 (by decide) rfl ?_
  refine G_iadd (pc' := 806) C dL_law_805 rfl ?_
  refine G_sldV (pc' := 807) C hX hbl (Nat.not_le.mpr hbl) dL_law_806 (z_inL (j := 2) hi hL (by decide)) hw2 rfl ?_
  refine G_aload_n (pc' := 808) C dL_law_807 0 rfl rfl ?_
  refine G_iload_n (pc' := 809) C dL_law_808 3 rfl rfl ?_
  refine G_iconst (pc' := 810) (v := (3 : Int32)) C dL_law_809 (by decide) rfl ?_
  refine G_iadd (pc' := 811) C dL_law_810 rfl ?_
  refine G_sldV (pc' := 812) C hX hbl (Nat.not_le.mpr hbl) dL_law_811 (z_inL (j := 3) hi hL (by decide)) hw3 rfl ?_
  refine G_aload_n (pc' := 813) C dL_law_812 0 rfl rfl ?_
  refine G_iload_n (pc' := 814) C dL_law_813 3 rfl rfl ?_
  refine G_iconst (pc' := 815) (v := (4 : Int32)) C dL_law_814 (by decide) rfl ?_
  refine G_iadd (pc' := 816) C dL_law_815 rfl ?_
  refine G_sldV (pc' := 817) C hX hbl (Nat.not_le.mpr hbl) dL_law_816 (z_inL (j := 4) hi hL (by decide)) hw4 rfl ?_
  obtain ⟨q1, q2, h1, h2, h3, h4⟩ := hst s.heap.size z r w1 w2 w3 w4 hsim
  refine G_callV (F := RB κ (s.heap.size + 32) r) (pc' := 820) C dL_law_817 (tX9_made κ l s.heap.size z w1 w2 w3 w4 q1 h1) (wV tw_ml_L_84 tw_im_X9_made tw_se_X9_X9_made tw_in_X9 tw_co_X9_made) yd_X9_made rfl fi_X9 (LW_c rfl) ⟨⟨by decide, by decide⟩, Nat.le_trans (Nat.add_le_add_left (show rmX9_made.cells ≤ 2 by decide) _) hc, Nat.le_trans (Nat.add_le_add_left (show rmX9_made.slots ≤ 260 by decide) _) hs⟩ (fun w hw => by rcases hw with h | h; exact h.1; exact Nat.le_trans (Nat.le_add_right _ _) h) (fun _ h => h) (fun _ _ _ _ hk hf => RB_fr hk hf) rfl (Nat.le_of_ble_eq_true rfl) rfl rfl ?_
  refine G_widen (k := cells + 2) (n := slots + 260) (Nat.add_le_add_left (show rmX9_made.cells ≤ 2 by decide) _) (Nat.add_le_add_left (show rmX9_made.slots ≤ 260 by decide) _) ?_
  refine G_world (B' := LWB κ s.heap.size q1.2 r) (fun _ h => h) ?_
  refine G_aload_n (pc' := 821) C dL_law_820 2 rfl rfl ?_
  refine G_aload_n (pc' := 822) C dL_law_821 0 rfl rfl ?_
  refine G_iload_n (pc' := 823) C dL_law_822 3 rfl rfl ?_
  refine G_iconst (pc' := 824) (v := (1 : Int32)) C dL_law_823 (by decide) rfl ?_
  refine G_iadd (pc' := 825) C dL_law_824 rfl ?_
  refine G_sldV (pc' := 826) C hX hbl (Nat.not_le.mpr hbl) dL_law_825 (z_inL (j := 1) hi hL (by decide)) hw1 rfl ?_
  refine G_aload_n (pc' := 827) C dL_law_826 0 rfl rfl ?_
  refine G_iload_n (pc' := 828) C dL_law_827 3 rfl rfl ?_
  refine G_iconst (pc' := 829) (v := (2 : Int32)) C dL_law_828 (by decide) rfl ?_
  refine G_iadd (pc' := 830) C dL_law_829 rfl ?_
  refine G_sldV (pc' := 831) C hX hbl (Nat.not_le.mpr hbl) dL_law_830 (z_inL (j := 2) hi hL (by decide)) hw2 rfl ?_
  refine G_aload_n (pc' := 832) C dL_law_831 0 rfl rfl ?_
  refine G_iload_n (pc' := 833) C dL_law_832 3 rfl rfl ?_
  refine G_iconst (pc' := 834) (v := (3 : Int32)) C dL_law_833 (by decide) rfl ?_
  refine G_iadd (pc' := 835) C dL_law_834 rfl ?_
  refine G_sldV (pc' := 836) C hX hbl (Nat.not_le.mpr hbl) dL_law_835 (z_inL (j := 3) hi hL (by decide)) hw3 rfl ?_
  refine G_aload_n (pc' := 837) C dL_law_836 0 rfl rfl ?_
  refine G_iload_n (pc' := 838) C dL_law_837 3 rfl rfl ?_
  refine G_iconst (pc' := 839) (v := (4 : Int32)) C dL_law_838 (by decide) rfl ?_
  refine G_iadd (pc' := 840) C dL_law_839 rfl ?_
  refine G_sldV (pc' := 841) C hX hbl (Nat.not_le.mpr hbl) dL_law_840 (z_inL (j := 4) hi hL (by decide)) hw4 rfl ?_
  refine G_callV (F := CBf κ s.heap.size q1.2) (pc' := 844) C dL_law_841 ((tX10_made κ l (s.heap.size + 32) r w1 w2 w3 w4 q2 h2).sized rfl (cn q1.2)) (wV tw_ml_L_88 tw_im_X10_made tw_se_X10_X10_made tw_in_X10 tw_co_X10_made) yd_X10_made rfl fi_X10 (LW_r rfl) ⟨⟨by decide, by decide⟩, hc, hs⟩ (fun w hw => Nat.le_trans (Nat.le_add_right _ 32) hw.1) (fun _ h => LW_toR h) (fun _ _ _ _ hk hf => CBf_fr hk hf) rfl (Nat.le_of_ble_eq_true rfl) rfl rfl ?_
  refine G_world (B' := LWB κ s.heap.size q1.2 q2.2) (fun _ h => LW_ofR h) ?_
  refine G_icmp_eq (tgt := 1488) (pc' := 847) C dL_law_844 (by decide) rfl (fun _ => ?_) (fun hne => absurd h3 hne)
  exact kk _ _ h4
def St_same (Sim : Nat → CS → RS → Prop) : Prop := ∀ (o : Nat) (z : CS) (r : RS) (a1 : Int32) (a2 : Int32), Sim o z r → ∃ (q1 : Int32 × CS) (q2 : Int32 × RS), fX9_same o z a1 a2 = some q1 ∧ fX10_same r a1 a2 = some q2 ∧ q1.1 = q2.1 ∧ Sim o q1.2 q2.2
set_option maxHeartbeats 4000000 in
set_option maxRecDepth 100000 in
theorem lc_same {κ : KK} {p : Program} {l : Launch} {e : Env} {s : State} {m : MethodId} {below : List Frame} {meth : Method} {c : Code} {b L : Nat} {xs : Nat → Int32} (C : Cx κ p s m #[Value.ref b] meth c cL_law 4 RL ret) (hX : va_X b L xs s s.heap) (hbl : b < s.heap.size) (hL : L ≤ 3072) {Sim : Nat → CS → RS → Prop} (hst : St_same Sim) {i : Nat} {z : CS} {r : RS} (hsim : Sim s.heap.size z r) (hi : i + 6 ≤ L) {cells slots : Nat} (hc : cells + 2 ≤ 600000) (hs : slots + 260 ≤ 7302250) (kk : ∀ (z' : CS) (r' : RS), Sim s.heap.size z' r' → GG p l e room_1 s m #[Value.ref b] below meth c (lw_Z below #[Value.ref b] s) (LA s.heap.size) 4 (cells + 2) (slots + 260) (LWB κ s.heap.size z' r') 1488 [(0, .ref b), (1, .ref s.heap.size), (2, .ref (s.heap.size + 32)), (3, .int (nI i))] []) : GG p l e room_1 s m #[Value.ref b] below meth c (lw_Z below #[Value.ref b] s) (LA s.heap.size) 4 cells slots (LWB κ s.heap.size z r) 849 [(0, .ref b), (1, .ref s.heap.size), (2, .ref (s.heap.size + 32)), (3, .int (nI i))] [] := by
  obtain ⟨w1, hw1⟩ : ∃ w, xs (nI i + (1 : Int32)).toNatClampNeg = w := ⟨_, rfl⟩
  obtain ⟨w2, hw2⟩ : ∃ w, xs (nI i + (2 : Int32)).toNatClampNeg = w := ⟨_, rfl⟩
  refine G_aload_n (pc' := 850) C dL_law_849 1 rfl rfl ?_
  refine G_aload_n (pc' := 851) C dL_law_850 0 rfl rfl ?_
  refine G_iload_n (pc' := 852) C dL_law_851 3 rfl rfl ?_
  refine G_iconst (pc' := 853) (v := (1 : Int32)) C dL_law_852 (by decide) rfl ?_
  refine G_iadd (pc' := 854) C dL_law_853 rfl ?_
  refine G_sldV (pc' := 855) C hX hbl (Nat.not_le.mpr hbl) dL_law_854 (z_inL (j := 1) hi hL (by decide)) hw1 rfl ?_
  refine G_aload_n (pc' := 856) C dL_law_855 0 rfl rfl ?_
  refine G_iload_n (pc' := 857) C dL_law_856 3 rfl rfl ?_
  refine G_iconst (pc' := 858) (v := (2 : Int32)) C dL_law_857 (by decide) rfl ?_
  refine G_iadd (pc' := 859) C dL_law_858 rfl ?_
  refine G_sldV (pc' := 860) C hX hbl (Nat.not_le.mpr hbl) dL_law_859 (z_inL (j := 2) hi hL (by decide)) hw2 rfl ?_
  obtain ⟨q1, q2, h1, h2, h3, h4⟩ := hst s.heap.size z r w1 w2 hsim
  refine G_callV (F := RB κ (s.heap.size + 32) r) (pc' := 863) C dL_law_860 (tX9_same κ l s.heap.size z w1 w2 q1 h1) (wV tw_ml_L_89 tw_im_X9_same tw_se_X9_X9_same tw_in_X9 tw_co_X9_same) yd_X9_same rfl fi_X9 (LW_c rfl) ⟨⟨by decide, by decide⟩, Nat.le_trans (Nat.add_le_add_left (show rmX9_same.cells ≤ 2 by decide) _) hc, Nat.le_trans (Nat.add_le_add_left (show rmX9_same.slots ≤ 260 by decide) _) hs⟩ (fun w hw => by rcases hw with h | h; exact h.1; exact Nat.le_trans (Nat.le_add_right _ _) h) (fun _ h => h) (fun _ _ _ _ hk hf => RB_fr hk hf) rfl (Nat.le_of_ble_eq_true rfl) rfl rfl ?_
  refine G_widen (k := cells + 2) (n := slots + 260) (Nat.add_le_add_left (show rmX9_same.cells ≤ 2 by decide) _) (Nat.add_le_add_left (show rmX9_same.slots ≤ 260 by decide) _) ?_
  refine G_world (B' := LWB κ s.heap.size q1.2 r) (fun _ h => h) ?_
  refine G_aload_n (pc' := 864) C dL_law_863 2 rfl rfl ?_
  refine G_aload_n (pc' := 865) C dL_law_864 0 rfl rfl ?_
  refine G_iload_n (pc' := 866) C dL_law_865 3 rfl rfl ?_
  refine G_iconst (pc' := 867) (v := (1 : Int32)) C dL_law_866 (by decide) rfl ?_
  refine G_iadd (pc' := 868) C dL_law_867 rfl ?_
  refine G_sldV (pc' := 869) C hX hbl (Nat.not_le.mpr hbl) dL_law_868 (z_inL (j := 1) hi hL (by decide)) hw1 rfl ?_
  refine G_aload_n (pc' := 870) C dL_law_869 0 rfl rfl ?_
  refine G_iload_n (pc' := 871) C dL_law_870 3 rfl rfl ?_
  refine G_iconst (pc' := 872) (v := (2 : Int32)) C dL_law_871 (by decide) rfl ?_
  refine G_iadd (pc' := 873) C dL_law_872 rfl ?_
  refine G_sldV (pc' := 874) C hX hbl (Nat.not_le.mpr hbl) dL_law_873 (z_inL (j := 2) hi hL (by decide)) hw2 rfl ?_
  refine G_callV (F := CBf κ s.heap.size q1.2) (pc' := 877) C dL_law_874 ((tX10_same κ l (s.heap.size + 32) r w1 w2 q2 h2).sized rfl (cn q1.2)) (wV tw_ml_L_92 tw_im_X10_same tw_se_X10_X10_same tw_in_X10 tw_co_X10_same) yd_X10_same rfl fi_X10 (LW_r rfl) ⟨⟨by decide, by decide⟩, hc, hs⟩ (fun w hw => Nat.le_trans (Nat.le_add_right _ 32) hw.1) (fun _ h => LW_toR h) (fun _ _ _ _ hk hf => CBf_fr hk hf) rfl (Nat.le_of_ble_eq_true rfl) rfl rfl ?_
  refine G_world (B' := LWB κ s.heap.size q1.2 q2.2) (fun _ h => LW_ofR h) ?_
  refine G_icmp_eq (tgt := 1488) (pc' := 880) C dL_law_877 (by decide) rfl (fun _ => ?_) (fun hne => absurd h3 hne)
  exact kk _ _ h4
def St_depth (Sim : Nat → CS → RS → Prop) : Prop := ∀ (o : Nat) (z : CS) (r : RS) (a1 : Int32), Sim o z r → ∃ (q1 : Int32 × CS) (q2 : Int32 × RS), fX9_depth o z a1 = some q1 ∧ fX10_depth r a1 = some q2 ∧ q1.1 = q2.1 ∧ Sim o q1.2 q2.2
set_option maxHeartbeats 4000000 in
set_option maxRecDepth 100000 in
theorem lc_depth {κ : KK} {p : Program} {l : Launch} {e : Env} {s : State} {m : MethodId} {below : List Frame} {meth : Method} {c : Code} {b L : Nat} {xs : Nat → Int32} (C : Cx κ p s m #[Value.ref b] meth c cL_law 4 RL ret) (hX : va_X b L xs s s.heap) (hbl : b < s.heap.size) (hL : L ≤ 3072) {Sim : Nat → CS → RS → Prop} (hst : St_depth Sim) {i : Nat} {z : CS} {r : RS} (hsim : Sim s.heap.size z r) (hi : i + 6 ≤ L) {cells slots : Nat} (hc : cells + 2 ≤ 600000) (hs : slots + 260 ≤ 7302250) (kk : ∀ (z' : CS) (r' : RS), Sim s.heap.size z' r' → GG p l e room_1 s m #[Value.ref b] below meth c (lw_Z below #[Value.ref b] s) (LA s.heap.size) 4 (cells + 2) (slots + 260) (LWB κ s.heap.size z' r') 1488 [(0, .ref b), (1, .ref s.heap.size), (2, .ref (s.heap.size + 32)), (3, .int (nI i))] []) : GG p l e room_1 s m #[Value.ref b] below meth c (lw_Z below #[Value.ref b] s) (LA s.heap.size) 4 cells slots (LWB κ s.heap.size z r) 882 [(0, .ref b), (1, .ref s.heap.size), (2, .ref (s.heap.size + 32)), (3, .int (nI i))] [] := by
  obtain ⟨w1, hw1⟩ : ∃ w, xs (nI i + (1 : Int32)).toNatClampNeg = w := ⟨_, rfl⟩
  refine G_aload_n (pc' := 883) C dL_law_882 1 rfl rfl ?_
  refine G_aload_n (pc' := 884) C dL_law_883 0 rfl rfl ?_
  refine G_iload_n (pc' := 885) C dL_law_884 3 rfl rfl ?_
  refine G_iconst (pc' := 886) (v := (1 : Int32)) C dL_law_885 (by decide) rfl ?_
  refine G_iadd (pc' := 887) C dL_law_886 rfl ?_
  refine G_sldV (pc' := 888) C hX hbl (Nat.not_le.mpr hbl) dL_law_887 (z_inL (j := 1) hi hL (by decide)) hw1 rfl ?_
  obtain ⟨q1, q2, h1, h2, h3, h4⟩ := hst s.heap.size z r w1 hsim
  refine G_callV (F := RB κ (s.heap.size + 32) r) (pc' := 891) C dL_law_888 (tX9_depth κ l s.heap.size z w1 q1 h1) (wV tw_ml_L_93 tw_im_X9_depth tw_se_X9_X9_depth tw_in_X9 tw_co_X9_depth) yd_X9_depth rfl fi_X9 (LW_c rfl) ⟨⟨by decide, by decide⟩, Nat.le_trans (Nat.add_le_add_left (show rmX9_depth.cells ≤ 2 by decide) _) hc, Nat.le_trans (Nat.add_le_add_left (show rmX9_depth.slots ≤ 260 by decide) _) hs⟩ (fun w hw => by rcases hw with h | h; exact h.1; exact Nat.le_trans (Nat.le_add_right _ _) h) (fun _ h => h) (fun _ _ _ _ hk hf => RB_fr hk hf) rfl (Nat.le_of_ble_eq_true rfl) rfl rfl ?_
  refine G_widen (k := cells + 2) (n := slots + 260) (Nat.add_le_add_left (show rmX9_depth.cells ≤ 2 by decide) _) (Nat.add_le_add_left (show rmX9_depth.slots ≤ 260 by decide) _) ?_
  refine G_world (B' := LWB κ s.heap.size q1.2 r) (fun _ h => h) ?_
  refine G_aload_n (pc' := 892) C dL_law_891 2 rfl rfl ?_
  refine G_aload_n (pc' := 893) C dL_law_892 0 rfl rfl ?_
  refine G_iload_n (pc' := 894) C dL_law_893 3 rfl rfl ?_
  refine G_iconst (pc' := 895) (v := (1 : Int32)) C dL_law_894 (by decide) rfl ?_
  refine G_iadd (pc' := 896) C dL_law_895 rfl ?_
  refine G_sldV (pc' := 897) C hX hbl (Nat.not_le.mpr hbl) dL_law_896 (z_inL (j := 1) hi hL (by decide)) hw1 rfl ?_
  refine G_callV (F := CBf κ s.heap.size q1.2) (pc' := 900) C dL_law_897 ((tX10_depth κ l (s.heap.size + 32) r w1 q2 h2).sized rfl (cn q1.2)) (wV tw_ml_L_96 tw_im_X10_depth tw_se_X10_X10_depth tw_in_X10 tw_co_X10_depth) yd_X10_depth rfl fi_X10 (LW_r rfl) ⟨⟨by decide, by decide⟩, hc, hs⟩ (fun w hw => Nat.le_trans (Nat.le_add_right _ 32) hw.1) (fun _ h => LW_toR h) (fun _ _ _ _ hk hf => CBf_fr hk hf) rfl (Nat.le_of_ble_eq_true rfl) rfl rfl ?_
  refine G_world (B' := LWB κ s.heap.size q1.2 q2.2) (fun _ h => LW_ofR h) ?_
  refine G_icmp_eq (tgt := 1488) (pc' := 903) C dL_law_900 (by decide) rfl (fun _ => ?_) (fun hne => absurd h3 hne)
  exact kk _ _ h4
def St_sum (Sim : Nat → CS → RS → Prop) : Prop := ∀ (o : Nat) (z : CS) (r : RS) (a1 : Int32), Sim o z r → ∃ (q1 : Int32 × CS) (q2 : Int32 × RS), fX9_sum o z a1 = some q1 ∧ fX10_sum r a1 = some q2 ∧ q1.1 = q2.1 ∧ Sim o q1.2 q2.2
set_option maxHeartbeats 4000000 in
set_option maxRecDepth 100000 in
theorem lc_sum {κ : KK} {p : Program} {l : Launch} {e : Env} {s : State} {m : MethodId} {below : List Frame} {meth : Method} {c : Code} {b L : Nat} {xs : Nat → Int32} (C : Cx κ p s m #[Value.ref b] meth c cL_law 4 RL ret) (hX : va_X b L xs s s.heap) (hbl : b < s.heap.size) (hL : L ≤ 3072) {Sim : Nat → CS → RS → Prop} (hst : St_sum Sim) {i : Nat} {z : CS} {r : RS} (hsim : Sim s.heap.size z r) (hi : i + 6 ≤ L) {cells slots : Nat} (hc : cells + 2 ≤ 600000) (hs : slots + 260 ≤ 7302250) (kk : ∀ (z' : CS) (r' : RS), Sim s.heap.size z' r' → GG p l e room_1 s m #[Value.ref b] below meth c (lw_Z below #[Value.ref b] s) (LA s.heap.size) 4 (cells + 2) (slots + 260) (LWB κ s.heap.size z' r') 1488 [(0, .ref b), (1, .ref s.heap.size), (2, .ref (s.heap.size + 32)), (3, .int (nI i))] []) : GG p l e room_1 s m #[Value.ref b] below meth c (lw_Z below #[Value.ref b] s) (LA s.heap.size) 4 cells slots (LWB κ s.heap.size z r) 905 [(0, .ref b), (1, .ref s.heap.size), (2, .ref (s.heap.size + 32)), (3, .int (nI i))] [] := by
  obtain ⟨w1, hw1⟩ : ∃ w, xs (nI i + (1 : Int32)).toNatClampNeg = w := ⟨_, rfl⟩
  refine G_aload_n (pc' := 906) C dL_law_905 1 rfl rfl ?_
  refine G_aload_n (pc' := 907) C dL_law_906 0 rfl rfl ?_
  refine G_iload_n (pc' := 908) C dL_law_907 3 rfl rfl ?_
  refine G_iconst (pc' := 909) (v := (1 : Int32)) C dL_law_908 (by decide) rfl ?_
  refine G_iadd (pc' := 910) C dL_law_909 rfl ?_
  refine G_sldV (pc' := 911) C hX hbl (Nat.not_le.mpr hbl) dL_law_910 (z_inL (j := 1) hi hL (by decide)) hw1 rfl ?_
  obtain ⟨q1, q2, h1, h2, h3, h4⟩ := hst s.heap.size z r w1 hsim
  refine G_callV (F := RB κ (s.heap.size + 32) r) (pc' := 914) C dL_law_911 (tX9_sum κ l s.heap.size z w1 q1 h1) (wV tw_ml_L_97 tw_im_X9_sum tw_se_X9_X9_sum tw_in_X9 tw_co_X9_sum) yd_X9_sum rfl fi_X9 (LW_c rfl) ⟨⟨by decide, by decide⟩, Nat.le_trans (Nat.add_le_add_left (show rmX9_sum.cells ≤ 2 by decide) _) hc, Nat.le_trans (Nat.add_le_add_left (show rmX9_sum.slots ≤ 260 by decide) _) hs⟩ (fun w hw => by rcases hw with h | h; exact h.1; exact Nat.le_trans (Nat.le_add_right _ _) h) (fun _ h => h) (fun _ _ _ _ hk hf => RB_fr hk hf) rfl (Nat.le_of_ble_eq_true rfl) rfl rfl ?_
  refine G_widen (k := cells + 2) (n := slots + 260) (Nat.add_le_add_left (show rmX9_sum.cells ≤ 2 by decide) _) (Nat.add_le_add_left (show rmX9_sum.slots ≤ 260 by decide) _) ?_
  refine G_world (B' := LWB κ s.heap.size q1.2 r) (fun _ h => h) ?_
  refine G_aload_n (pc' := 915) C dL_law_914 2 rfl rfl ?_
  refine G_aload_n (pc' := 916) C dL_law_915 0 rfl rfl ?_
  refine G_iload_n (pc' := 917) C dL_law_916 3 rfl rfl ?_
  refine G_iconst (pc' := 918) (v := (1 : Int32)) C dL_law_917 (by decide) rfl ?_
  refine G_iadd (pc' := 919) C dL_law_918 rfl ?_
  refine G_sldV (pc' := 920) C hX hbl (Nat.not_le.mpr hbl) dL_law_919 (z_inL (j := 1) hi hL (by decide)) hw1 rfl ?_
  refine G_callV (F := CBf κ s.heap.size q1.2) (pc' := 923) C dL_law_920 ((tX10_sum κ l (s.heap.size + 32) r w1 q2 h2).sized rfl (cn q1.2)) (wV tw_ml_L_100 tw_im_X10_sum tw_se_X10_X10_sum tw_in_X10 tw_co_X10_sum) yd_X10_sum rfl fi_X10 (LW_r rfl) ⟨⟨by decide, by decide⟩, hc, hs⟩ (fun w hw => Nat.le_trans (Nat.le_add_right _ 32) hw.1) (fun _ h => LW_toR h) (fun _ _ _ _ hk hf => CBf_fr hk hf) rfl (Nat.le_of_ble_eq_true rfl) rfl rfl ?_
  refine G_world (B' := LWB κ s.heap.size q1.2 q2.2) (fun _ h => LW_ofR h) ?_
  refine G_icmp_eq (tgt := 1488) (pc' := 926) C dL_law_923 (by decide) rfl (fun _ => ?_) (fun hne => absurd h3 hne)
  exact kk _ _ h4
def St_tree (Sim : Nat → CS → RS → Prop) : Prop := ∀ (o : Nat) (z : CS) (r : RS) (a1 : Int32) (a2 : Int32), Sim o z r → ∃ (q1 : Int32 × CS) (q2 : Int32 × RS), fX9_tree o z a1 a2 = some q1 ∧ fX10_tree r a1 a2 = some q2 ∧ q1.1 = q2.1 ∧ Sim o q1.2 q2.2
set_option maxHeartbeats 4000000 in
set_option maxRecDepth 100000 in
theorem lc_tree {κ : KK} {p : Program} {l : Launch} {e : Env} {s : State} {m : MethodId} {below : List Frame} {meth : Method} {c : Code} {b L : Nat} {xs : Nat → Int32} (C : Cx κ p s m #[Value.ref b] meth c cL_law 4 RL ret) (hX : va_X b L xs s s.heap) (hbl : b < s.heap.size) (hL : L ≤ 3072) {Sim : Nat → CS → RS → Prop} (hst : St_tree Sim) {i : Nat} {z : CS} {r : RS} (hsim : Sim s.heap.size z r) (hi : i + 6 ≤ L) {cells slots : Nat} (hc : cells + 2 ≤ 600000) (hs : slots + 260 ≤ 7302250) (kk : ∀ (z' : CS) (r' : RS), Sim s.heap.size z' r' → GG p l e room_1 s m #[Value.ref b] below meth c (lw_Z below #[Value.ref b] s) (LA s.heap.size) 4 (cells + 2) (slots + 260) (LWB κ s.heap.size z' r') 1488 [(0, .ref b), (1, .ref s.heap.size), (2, .ref (s.heap.size + 32)), (3, .int (nI i))] []) : GG p l e room_1 s m #[Value.ref b] below meth c (lw_Z below #[Value.ref b] s) (LA s.heap.size) 4 cells slots (LWB κ s.heap.size z r) 928 [(0, .ref b), (1, .ref s.heap.size), (2, .ref (s.heap.size + 32)), (3, .int (nI i))] [] := by
  obtain ⟨w1, hw1⟩ : ∃ w, xs (nI i + (1 : Int32)).toNatClampNeg = w := ⟨_, rfl⟩
  obtain ⟨w2, hw2⟩ : ∃ w, xs (nI i + (2 : Int32)).toNatClampNeg = w := ⟨_, rfl⟩
  refine G_aload_n (pc' := 929) C dL_law_928 1 rfl rfl ?_
  refine G_aload_n (pc' := 930) C dL_law_929 0 rfl rfl ?_
  refine G_iload_n (pc' := 931) C dL_law_930 3 rfl rfl ?_
  refine G_iconst (pc' := 932) (v := (1 : Int32)) C dL_law_931 (by decide) rfl ?_
  refine G_iadd (pc' := 933) C dL_law_932 rfl ?_
  refine G_sldV (pc' := 934) C hX hbl (Nat.not_le.mpr hbl) dL_law_933 (z_inL (j := 1) hi hL (by decide)) hw1 rfl ?_
  refine G_aload_n (pc' := 935) C dL_law_934 0 rfl rfl ?_
  refine G_iload_n (pc' := 936) C dL_law_935 3 rfl rfl ?_
  refine G_iconst (pc' := 937) (v := (2 : Int32)) C dL_law_936 (by decide) rfl ?_
  refine G_iadd (pc' := 938) C dL_law_937 rfl ?_
  refine G_sldV (pc' := 939) C hX hbl (Nat.not_le.mpr hbl) dL_law_938 (z_inL (j := 2) hi hL (by decide)) hw2 rfl ?_
  obtain ⟨q1, q2, h1, h2, h3, h4⟩ := hst s.heap.size z r w1 w2 hsim
  refine G_callV (F := RB κ (s.heap.size + 32) r) (pc' := 942) C dL_law_939 (tX9_tree κ l s.heap.size z w1 w2 q1 h1) (wV tw_ml_L_101 tw_im_X9_tree tw_se_X9_X9_tree tw_in_X9 tw_co_X9_tree) yd_X9_tree rfl fi_X9 (LW_c rfl) ⟨⟨by decide, by decide⟩, Nat.le_trans (Nat.add_le_add_left (show rmX9_tree.cells ≤ 2 by decide) _) hc, Nat.le_trans (Nat.add_le_add_left (show rmX9_tree.slots ≤ 260 by decide) _) hs⟩ (fun w hw => by rcases hw with h | h; exact h.1; exact Nat.le_trans (Nat.le_add_right _ _) h) (fun _ h => h) (fun _ _ _ _ hk hf => RB_fr hk hf) rfl (Nat.le_of_ble_eq_true rfl) rfl rfl ?_
  refine G_widen (k := cells + 2) (n := slots + 260) (Nat.add_le_add_left (show rmX9_tree.cells ≤ 2 by decide) _) (Nat.add_le_add_left (show rmX9_tree.slots ≤ 260 by decide) _) ?_
  refine G_world (B' := LWB κ s.heap.size q1.2 r) (fun _ h => h) ?_
  refine G_aload_n (pc' := 943) C dL_law_942 2 rfl rfl ?_
  refine G_aload_n (pc' := 944) C dL_law_943 0 rfl rfl ?_
  refine G_iload_n (pc' := 945) C dL_law_944 3 rfl rfl ?_
  refine G_iconst (pc' := 946) (v := (1 : Int32)) C dL_law_945 (by decide) rfl ?_
  refine G_iadd (pc' := 947) C dL_law_946 rfl ?_
  refine G_sldV (pc' := 948) C hX hbl (Nat.not_le.mpr hbl) dL_law_947 (z_inL (j := 1) hi hL (by decide)) hw1 rfl ?_
  refine G_aload_n (pc' := 949) C dL_law_948 0 rfl rfl ?_
  refine G_iload_n (pc' := 950) C dL_law_949 3 rfl rfl ?_
  refine G_iconst (pc' := 951) (v := (2 : Int32)) C dL_law_950 (by decide) rfl ?_
  refine G_iadd (pc' := 952) C dL_law_951 rfl ?_
  refine G_sldV (pc' := 953) C hX hbl (Nat.not_le.mpr hbl) dL_law_952 (z_inL (j := 2) hi hL (by decide)) hw2 rfl ?_
  refine G_callV (F := CBf κ s.heap.size q1.2) (pc' := 956) C dL_law_953 ((tX10_tree κ l (s.heap.size + 32) r w1 w2 q2 h2).sized rfl (cn q1.2)) (wV tw_ml_L_104 tw_im_X10_tree tw_se_X10_X10_tree tw_in_X10 tw_co_X10_tree) yd_X10_tree rfl fi_X10 (LW_r rfl) ⟨⟨by decide, by decide⟩, hc, hs⟩ (fun w hw => Nat.le_trans (Nat.le_add_right _ 32) hw.1) (fun _ h => LW_toR h) (fun _ _ _ _ hk hf => CBf_fr hk hf) rfl (Nat.le_of_ble_eq_true rfl) rfl rfl ?_
  refine G_world (B' := LWB κ s.heap.size q1.2 q2.2) (fun _ h => LW_ofR h) ?_
  refine G_icmp_eq (tgt := 1488) (pc' := 959) C dL_law_956 (by decide) rfl (fun _ => ?_) (fun hne => absurd h3 hne)
  exact kk _ _ h4
def St_node (Sim : Nat → CS → RS → Prop) : Prop := ∀ (o : Nat) (z : CS) (r : RS) (a1 : Int32) (a2 : Int32), Sim o z r → ∃ (q1 : Int32) (q2 : Int32), fX9_node o z a1 a2 = some q1 ∧ fX10_node r a1 a2 = some q2 ∧ q1 = q2 ∧ Sim o z r
set_option maxHeartbeats 4000000 in
set_option maxRecDepth 100000 in
theorem lc_node {κ : KK} {p : Program} {l : Launch} {e : Env} {s : State} {m : MethodId} {below : List Frame} {meth : Method} {c : Code} {b L : Nat} {xs : Nat → Int32} (C : Cx κ p s m #[Value.ref b] meth c cL_law 4 RL ret) (hX : va_X b L xs s s.heap) (hbl : b < s.heap.size) (hL : L ≤ 3072) {Sim : Nat → CS → RS → Prop} (hst : St_node Sim) {i : Nat} {z : CS} {r : RS} (hsim : Sim s.heap.size z r) (hi : i + 6 ≤ L) {cells slots : Nat} (hc : cells + 2 ≤ 600000) (hs : slots + 260 ≤ 7302250) (kk : ∀ (z' : CS) (r' : RS), Sim s.heap.size z' r' → GG p l e room_1 s m #[Value.ref b] below meth c (lw_Z below #[Value.ref b] s) (LA s.heap.size) 4 (cells + 2) (slots + 260) (LWB κ s.heap.size z' r') 1488 [(0, .ref b), (1, .ref s.heap.size), (2, .ref (s.heap.size + 32)), (3, .int (nI i))] []) : GG p l e room_1 s m #[Value.ref b] below meth c (lw_Z below #[Value.ref b] s) (LA s.heap.size) 4 cells slots (LWB κ s.heap.size z r) 961 [(0, .ref b), (1, .ref s.heap.size), (2, .ref (s.heap.size + 32)), (3, .int (nI i))] [] := by
  obtain ⟨w1, hw1⟩ : ∃ w, xs (nI i + (1 : Int32)).toNatClampNeg = w := ⟨_, rfl⟩
  obtain ⟨w2, hw2⟩ : ∃ w, xs (nI i + (2 : Int32)).toNatClampNeg = w := ⟨_, rfl⟩
  refine G_aload_n (pc' := 962) C dL_law_961 1 rfl rfl ?_
  refine G_aload_n (pc' := 963) C dL_law_962 0 rfl rfl ?_
  refine G_iload_n (pc' := 964) C dL_law_963 3 rfl rfl ?_
  refine G_iconst (pc' := 965) (v := (1 : Int32)) C dL_law_964 (by decide) rfl ?_
  refine G_iadd (pc' := 966) C dL_law_965 rfl ?_
  refine G_sldV (pc' := 967) C hX hbl (Nat.not_le.mpr hbl) dL_law_966 (z_inL (j := 1) hi hL (by decide)) hw1 rfl ?_
  refine G_aload_n (pc' := 968) C dL_law_967 0 rfl rfl ?_
  refine G_iload_n (pc' := 969) C dL_law_968 3 rfl rfl ?_
  refine G_iconst (pc' := 970) (v := (2 : Int32)) C dL_law_969 (by decide) rfl ?_
  refine G_iadd (pc' := 971) C dL_law_970 rfl ?_
  refine G_sldV (pc' := 972) C hX hbl (Nat.not_le.mpr hbl) dL_law_971 (z_inL (j := 2) hi hL (by decide)) hw2 rfl ?_
  obtain ⟨q1, q2, h1, h2, h3, h4⟩ := hst s.heap.size z r w1 w2 hsim
  refine G_callV (F := RB κ (s.heap.size + 32) r) (pc' := 975) C dL_law_972 (tX9_node κ l s.heap.size z w1 w2 q1 h1) (wV tw_ml_L_105 tw_im_X9_node tw_se_X9_X9_node tw_in_X9 tw_co_X9_node) yd_X9_node rfl fi_X9 (LW_c rfl) ⟨⟨by decide, by decide⟩, Nat.le_trans (Nat.add_le_add_left (show rmX9_node.cells ≤ 2 by decide) _) hc, Nat.le_trans (Nat.add_le_add_left (show rmX9_node.slots ≤ 260 by decide) _) hs⟩ (fun w hw => by rcases hw with h | h; exact h.1; exact Nat.le_trans (Nat.le_add_right _ _) h) (fun _ h => h) (fun _ _ _ _ hk hf => RB_fr hk hf) rfl (Nat.le_of_ble_eq_true rfl) rfl rfl ?_
  refine G_widen (k := cells + 2) (n := slots + 260) (Nat.add_le_add_left (show rmX9_node.cells ≤ 2 by decide) _) (Nat.add_le_add_left (show rmX9_node.slots ≤ 260 by decide) _) ?_
  refine G_world (B' := LWB κ s.heap.size z r) (fun _ h => h) ?_
  refine G_aload_n (pc' := 976) C dL_law_975 2 rfl rfl ?_
  refine G_aload_n (pc' := 977) C dL_law_976 0 rfl rfl ?_
  refine G_iload_n (pc' := 978) C dL_law_977 3 rfl rfl ?_
  refine G_iconst (pc' := 979) (v := (1 : Int32)) C dL_law_978 (by decide) rfl ?_
  refine G_iadd (pc' := 980) C dL_law_979 rfl ?_
  refine G_sldV (pc' := 981) C hX hbl (Nat.not_le.mpr hbl) dL_law_980 (z_inL (j := 1) hi hL (by decide)) hw1 rfl ?_
  refine G_aload_n (pc' := 982) C dL_law_981 0 rfl rfl ?_
  refine G_iload_n (pc' := 983) C dL_law_982 3 rfl rfl ?_
  refine G_iconst (pc' := 984) (v := (2 : Int32)) C dL_law_983 (by decide) rfl ?_
  refine G_iadd (pc' := 985) C dL_law_984 rfl ?_
  refine G_sldV (pc' := 986) C hX hbl (Nat.not_le.mpr hbl) dL_law_985 (z_inL (j := 2) hi hL (by decide)) hw2 rfl ?_
  refine G_callV (F := CBf κ s.heap.size z) (pc' := 989) C dL_law_986 ((tX10_node κ l (s.heap.size + 32) r w1 w2 q2 h2).sized rfl (cn z)) (wV tw_ml_L_108 tw_im_X10_node tw_se_X10_X10_node tw_in_X10 tw_co_X10_node) yd_X10_node rfl fi_X10 (LW_r rfl) ⟨⟨by decide, by decide⟩, hc, hs⟩ (fun w hw => Nat.le_trans (Nat.le_add_right _ 32) hw.1) (fun _ h => LW_toR h) (fun _ _ _ _ hk hf => CBf_fr hk hf) rfl (Nat.le_of_ble_eq_true rfl) rfl rfl ?_
  refine G_world (B' := LWB κ s.heap.size z r) (fun _ h => LW_ofR h) ?_
  refine G_icmp_eq (tgt := 1488) (pc' := 992) C dL_law_989 (by decide) rfl (fun _ => ?_) (fun hne => absurd h3 hne)
  exact kk _ _ h4
def St_run (Sim : Nat → CS → RS → Prop) : Prop := ∀ (o : Nat) (z : CS) (r : RS) (a1 : Int32), Sim o z r → ∃ (q1 : Int32) (q2 : Int32), fX9_run o z a1 = some q1 ∧ fX10_run r a1 = some q2 ∧ q1 = q2 ∧ Sim o z r
set_option maxHeartbeats 4000000 in
set_option maxRecDepth 100000 in
theorem lc_run {κ : KK} {p : Program} {l : Launch} {e : Env} {s : State} {m : MethodId} {below : List Frame} {meth : Method} {c : Code} {b L : Nat} {xs : Nat → Int32} (C : Cx κ p s m #[Value.ref b] meth c cL_law 4 RL ret) (hX : va_X b L xs s s.heap) (hbl : b < s.heap.size) (hL : L ≤ 3072) {Sim : Nat → CS → RS → Prop} (hst : St_run Sim) {i : Nat} {z : CS} {r : RS} (hsim : Sim s.heap.size z r) (hi : i + 6 ≤ L) {cells slots : Nat} (hc : cells + 2 ≤ 600000) (hs : slots + 260 ≤ 7302250) (kk : ∀ (z' : CS) (r' : RS), Sim s.heap.size z' r' → GG p l e room_1 s m #[Value.ref b] below meth c (lw_Z below #[Value.ref b] s) (LA s.heap.size) 4 (cells + 2) (slots + 260) (LWB κ s.heap.size z' r') 1488 [(0, .ref b), (1, .ref s.heap.size), (2, .ref (s.heap.size + 32)), (3, .int (nI i))] []) : GG p l e room_1 s m #[Value.ref b] below meth c (lw_Z below #[Value.ref b] s) (LA s.heap.size) 4 cells slots (LWB κ s.heap.size z r) 994 [(0, .ref b), (1, .ref s.heap.size), (2, .ref (s.heap.size + 32)), (3, .int (nI i))] [] := by
  obtain ⟨w1, hw1⟩ : ∃ w, xs (nI i + (1 : Int32)).toNatClampNeg = w := ⟨_, rfl⟩
  refine G_aload_n (pc' := 995) C dL_law_994 1 rfl rfl ?_
  refine G_aload_n (pc' := 996) C dL_law_995 0 rfl rfl ?_
  refine G_iload_n (pc' := 997) C dL_law_996 3 rfl rfl ?_
  refine G_iconst (pc' := 998) (v := (1 : Int32)) C dL_law_997 (by decide) rfl ?_
  refine G_iadd (pc' := 999) C dL_law_998 rfl ?_
  refine G_sldV (pc' := 1000) C hX hbl (Nat.not_le.mpr hbl) dL_law_999 (z_inL (j := 1) hi hL (by decide)) hw1 rfl ?_
  obtain ⟨q1, q2, h1, h2, h3, h4⟩ := hst s.heap.size z r w1 hsim
  refine G_callV (F := RB κ (s.heap.size + 32) r) (pc' := 1003) C dL_law_1000 (tX9_run κ l s.heap.size z w1 q1 h1) (wV tw_ml_L_109 tw_im_X9_run tw_se_X9_X9_run tw_in_X9 tw_co_X9_run) yd_X9_run rfl fi_X9 (LW_c rfl) ⟨⟨by decide, by decide⟩, Nat.le_trans (Nat.add_le_add_left (show rmX9_run.cells ≤ 2 by decide) _) hc, Nat.le_trans (Nat.add_le_add_left (show rmX9_run.slots ≤ 260 by decide) _) hs⟩ (fun w hw => by rcases hw with h | h; exact h.1; exact Nat.le_trans (Nat.le_add_right _ _) h) (fun _ h => h) (fun _ _ _ _ hk hf => RB_fr hk hf) rfl (Nat.le_of_ble_eq_true rfl) rfl rfl ?_
  refine G_widen (k := cells + 2) (n := slots + 260) (Nat.add_le_add_left (show rmX9_run.cells ≤ 2 by decide) _) (Nat.add_le_add_left (show rmX9_run.slots ≤ 260 by decide) _) ?_
  refine G_world (B' := LWB κ s.heap.size z r) (fun _ h => h) ?_
  refine G_aload_n (pc' := 1004) C dL_law_1003 2 rfl rfl ?_
  refine G_aload_n (pc' := 1005) C dL_law_1004 0 rfl rfl ?_
  refine G_iload_n (pc' := 1006) C dL_law_1005 3 rfl rfl ?_
  refine G_iconst (pc' := 1007) (v := (1 : Int32)) C dL_law_1006 (by decide) rfl ?_
  refine G_iadd (pc' := 1008) C dL_law_1007 rfl ?_
  refine G_sldV (pc' := 1009) C hX hbl (Nat.not_le.mpr hbl) dL_law_1008 (z_inL (j := 1) hi hL (by decide)) hw1 rfl ?_
  refine G_callV (F := CBf κ s.heap.size z) (pc' := 1012) C dL_law_1009 ((tX10_run κ l (s.heap.size + 32) r w1 q2 h2).sized rfl (cn z)) (wV tw_ml_L_112 tw_im_X10_run tw_se_X10_X10_run tw_in_X10 tw_co_X10_run) yd_X10_run rfl fi_X10 (LW_r rfl) ⟨⟨by decide, by decide⟩, hc, hs⟩ (fun w hw => Nat.le_trans (Nat.le_add_right _ 32) hw.1) (fun _ h => LW_toR h) (fun _ _ _ _ hk hf => CBf_fr hk hf) rfl (Nat.le_of_ble_eq_true rfl) rfl rfl ?_
  refine G_world (B' := LWB κ s.heap.size z r) (fun _ h => LW_ofR h) ?_
  refine G_icmp_eq (tgt := 1488) (pc' := 1015) C dL_law_1012 (by decide) rfl (fun _ => ?_) (fun hne => absurd h3 hne)
  exact kk _ _ h4
def St_check (Sim : Nat → CS → RS → Prop) : Prop := ∀ (o : Nat) (z : CS) (r : RS) (a1 : Int32), Sim o z r → ∃ (q1 : Int32 × CS) (q2 : Int32 × RS), fX9_check o z a1 = some q1 ∧ fX10_check r a1 = some q2 ∧ q1.1 = q2.1 ∧ Sim o q1.2 q2.2
set_option maxHeartbeats 4000000 in
set_option maxRecDepth 100000 in
theorem lc_check {κ : KK} {p : Program} {l : Launch} {e : Env} {s : State} {m : MethodId} {below : List Frame} {meth : Method} {c : Code} {b L : Nat} {xs : Nat → Int32} (C : Cx κ p s m #[Value.ref b] meth c cL_law 4 RL ret) (hX : va_X b L xs s s.heap) (hbl : b < s.heap.size) (hL : L ≤ 3072) {Sim : Nat → CS → RS → Prop} (hst : St_check Sim) {i : Nat} {z : CS} {r : RS} (hsim : Sim s.heap.size z r) (hi : i + 6 ≤ L) {cells slots : Nat} (hc : cells + 2 ≤ 600000) (hs : slots + 260 ≤ 7302250) (kk : ∀ (z' : CS) (r' : RS), Sim s.heap.size z' r' → GG p l e room_1 s m #[Value.ref b] below meth c (lw_Z below #[Value.ref b] s) (LA s.heap.size) 4 (cells + 2) (slots + 260) (LWB κ s.heap.size z' r') 1488 [(0, .ref b), (1, .ref s.heap.size), (2, .ref (s.heap.size + 32)), (3, .int (nI i))] []) : GG p l e room_1 s m #[Value.ref b] below meth c (lw_Z below #[Value.ref b] s) (LA s.heap.size) 4 cells slots (LWB κ s.heap.size z r) 1017 [(0, .ref b), (1, .ref s.heap.size), (2, .ref (s.heap.size + 32)), (3, .int (nI i))] [] := by
  obtain ⟨w1, hw1⟩ : ∃ w, xs (nI i + (1 : Int32)).toNatClampNeg = w := ⟨_, rfl⟩
  refine G_aload_n (pc' := 1018) C dL_law_1017 1 rfl rfl ?_
  refine G_aload_n (pc' := 1019) C dL_law_1018 0 rfl rfl ?_
  refine G_iload_n (pc' := 1020) C dL_law_1019 3 rfl rfl ?_
  refine G_iconst (pc' := 1021) (v := (1 : Int32)) C dL_law_1020 (by decide) rfl ?_
  refine G_iadd (pc' := 1022) C dL_law_1021 rfl ?_
  refine G_sldV (pc' := 1023) C hX hbl (Nat.not_le.mpr hbl) dL_law_1022 (z_inL (j := 1) hi hL (by decide)) hw1 rfl ?_
  obtain ⟨q1, q2, h1, h2, h3, h4⟩ := hst s.heap.size z r w1 hsim
  refine G_callV (F := RB κ (s.heap.size + 32) r) (pc' := 1026) C dL_law_1023 (tX9_check κ l s.heap.size z w1 q1 h1) (wV tw_ml_L_113 tw_im_X9_check tw_se_X9_X9_check tw_in_X9 tw_co_X9_check) yd_X9_check rfl fi_X9 (LW_c rfl) ⟨⟨by decide, by decide⟩, Nat.le_trans (Nat.add_le_add_left (show rmX9_check.cells ≤ 2 by decide) _) hc, Nat.le_trans (Nat.add_le_add_left (show rmX9_check.slots ≤ 260 by decide) _) hs⟩ (fun w hw => by rcases hw with h | h; exact h.1; exact Nat.le_trans (Nat.le_add_right _ _) h) (fun _ h => h) (fun _ _ _ _ hk hf => RB_fr hk hf) rfl (Nat.le_of_ble_eq_true rfl) rfl rfl ?_
  refine G_widen (k := cells + 2) (n := slots + 260) (Nat.add_le_add_left (show rmX9_check.cells ≤ 2 by decide) _) (Nat.add_le_add_left (show rmX9_check.slots ≤ 260 by decide) _) ?_
  refine G_world (B' := LWB κ s.heap.size q1.2 r) (fun _ h => h) ?_
  refine G_aload_n (pc' := 1027) C dL_law_1026 2 rfl rfl ?_
  refine G_aload_n (pc' := 1028) C dL_law_1027 0 rfl rfl ?_
  refine G_iload_n (pc' := 1029) C dL_law_1028 3 rfl rfl ?_
  refine G_iconst (pc' := 1030) (v := (1 : Int32)) C dL_law_1029 (by decide) rfl ?_
  refine G_iadd (pc' := 1031) C dL_law_1030 rfl ?_
  refine G_sldV (pc' := 1032) C hX hbl (Nat.not_le.mpr hbl) dL_law_1031 (z_inL (j := 1) hi hL (by decide)) hw1 rfl ?_
  refine G_callV (F := CBf κ s.heap.size q1.2) (pc' := 1035) C dL_law_1032 ((tX10_check κ l (s.heap.size + 32) r w1 q2 h2).sized rfl (cn q1.2)) (wV tw_ml_L_116 tw_im_X10_check tw_se_X10_X10_check tw_in_X10 tw_co_X10_check) yd_X10_check rfl fi_X10 (LW_r rfl) ⟨⟨by decide, by decide⟩, hc, hs⟩ (fun w hw => Nat.le_trans (Nat.le_add_right _ 32) hw.1) (fun _ h => LW_toR h) (fun _ _ _ _ hk hf => CBf_fr hk hf) rfl (Nat.le_of_ble_eq_true rfl) rfl rfl ?_
  refine G_world (B' := LWB κ s.heap.size q1.2 q2.2) (fun _ h => LW_ofR h) ?_
  refine G_icmp_eq (tgt := 1488) (pc' := 1038) C dL_law_1035 (by decide) rfl (fun _ => ?_) (fun hne => absurd h3 hne)
  exact kk _ _ h4
def St_at (Sim : Nat → CS → RS → Prop) : Prop := ∀ (o : Nat) (z : CS) (r : RS) (a1 : Int32) (a2 : Int32) (a3 : Int32), Sim o z r → ∃ (q1 : Int32 × CS) (q2 : Int32 × RS), fX9_at o z a1 a2 a3 = some q1 ∧ fX10_at r a1 a2 a3 = some q2 ∧ q1.1 = q2.1 ∧ Sim o q1.2 q2.2
set_option maxHeartbeats 4000000 in
set_option maxRecDepth 100000 in
theorem lc_at {κ : KK} {p : Program} {l : Launch} {e : Env} {s : State} {m : MethodId} {below : List Frame} {meth : Method} {c : Code} {b L : Nat} {xs : Nat → Int32} (C : Cx κ p s m #[Value.ref b] meth c cL_law 4 RL ret) (hX : va_X b L xs s s.heap) (hbl : b < s.heap.size) (hL : L ≤ 3072) {Sim : Nat → CS → RS → Prop} (hst : St_at Sim) {i : Nat} {z : CS} {r : RS} (hsim : Sim s.heap.size z r) (hi : i + 6 ≤ L) {cells slots : Nat} (hc : cells + 2 ≤ 600000) (hs : slots + 260 ≤ 7302250) (kk : ∀ (z' : CS) (r' : RS), Sim s.heap.size z' r' → GG p l e room_1 s m #[Value.ref b] below meth c (lw_Z below #[Value.ref b] s) (LA s.heap.size) 4 (cells + 2) (slots + 260) (LWB κ s.heap.size z' r') 1488 [(0, .ref b), (1, .ref s.heap.size), (2, .ref (s.heap.size + 32)), (3, .int (nI i))] []) : GG p l e room_1 s m #[Value.ref b] below meth c (lw_Z below #[Value.ref b] s) (LA s.heap.size) 4 cells slots (LWB κ s.heap.size z r) 1040 [(0, .ref b), (1, .ref s.heap.size), (2, .ref (s.heap.size + 32)), (3, .int (nI i))] [] := by
  obtain ⟨w1, hw1⟩ : ∃ w, xs (nI i + (1 : Int32)).toNatClampNeg = w := ⟨_, rfl⟩
  obtain ⟨w2, hw2⟩ : ∃ w, xs (nI i + (2 : Int32)).toNatClampNeg = w := ⟨_, rfl⟩
  obtain ⟨w3, hw3⟩ : ∃ w, xs (nI i + (3 : Int32)).toNatClampNeg = w := ⟨_, rfl⟩
  refine G_aload_n (pc' := 1041) C dL_law_1040 1 rfl rfl ?_
  refine G_aload_n (pc' := 1042) C dL_law_1041 0 rfl rfl ?_
  refine G_iload_n (pc' := 1043) C dL_law_1042 3 rfl rfl ?_
  refine G_iconst (pc' := 1044) (v := (1 : Int32)) C dL_law_1043 (by decide) rfl ?_
  refine G_iadd (pc' := 1045) C dL_law_1044 rfl ?_
  refine G_sldV (pc' := 1046) C hX hbl (Nat.not_le.mpr hbl) dL_law_1045 (z_inL (j := 1) hi hL (by decide)) hw1 rfl ?_
  refine G_aload_n (pc' := 1047) C dL_law_1046 0 rfl rfl ?_
  refine G_iload_n (pc' := 1048) C dL_law_1047 3 rfl rfl ?_
  refine G_iconst (pc' := 1049) (v := (2 : Int32)) C dL_law_1048 (by decide) rfl ?_
  refine G_iadd (pc' := 1050) C dL_law_1049 rfl ?_
  refine G_sldV (pc' := 1051) C hX hbl (Nat.not_le.mpr hbl) dL_law_1050 (z_inL (j := 2) hi hL (by decide)) hw2 rfl ?_
  refine G_aload_n (pc' := 1052) C dL_law_1051 0 rfl rfl ?_
  refine G_iload_n (pc' := 1053) C dL_law_1052 3 rfl rfl ?_
  refine G_iconst (pc' := 1054) (v := (3 : Int32)) C dL_law_1053 (by decide) rfl ?_
  refine G_iadd (pc' := 1055) C dL_law_1054 rfl ?_
  refine G_sldV (pc' := 1056) C hX hbl (Nat.not_le.mpr hbl) dL_law_1055 (z_inL (j := 3) hi hL (by decide)) hw3 rfl ?_
  obtain ⟨q1, q2, h1, h2, h3, h4⟩ := hst s.heap.size z r w1 w2 w3 hsim
  refine G_callV (F := RB κ (s.heap.size + 32) r) (pc' := 1059) C dL_law_1056 (tX9_at κ l s.heap.size z w1 w2 w3 q1 h1) (wV tw_ml_L_117 tw_im_X9_at tw_se_X9_X9_at tw_in_X9 tw_co_X9_at) yd_X9_at rfl fi_X9 (LW_c rfl) ⟨⟨by decide, by decide⟩, Nat.le_trans (Nat.add_le_add_left (show rmX9_at.cells ≤ 2 by decide) _) hc, Nat.le_trans (Nat.add_le_add_left (show rmX9_at.slots ≤ 260 by decide) _) hs⟩ (fun w hw => by rcases hw with h | h; exact h.1; exact Nat.le_trans (Nat.le_add_right _ _) h) (fun _ h => h) (fun _ _ _ _ hk hf => RB_fr hk hf) rfl (Nat.le_of_ble_eq_true rfl) rfl rfl ?_
  refine G_widen (k := cells + 2) (n := slots + 260) (Nat.add_le_add_left (show rmX9_at.cells ≤ 2 by decide) _) (Nat.add_le_add_left (show rmX9_at.slots ≤ 260 by decide) _) ?_
  refine G_world (B' := LWB κ s.heap.size q1.2 r) (fun _ h => h) ?_
  refine G_aload_n (pc' := 1060) C dL_law_1059 2 rfl rfl ?_
  refine G_aload_n (pc' := 1061) C dL_law_1060 0 rfl rfl ?_
  refine G_iload_n (pc' := 1062) C dL_law_1061 3 rfl rfl ?_
  refine G_iconst (pc' := 1063) (v := (1 : Int32)) C dL_law_1062 (by decide) rfl ?_
  refine G_iadd (pc' := 1064) C dL_law_1063 rfl ?_
  refine G_sldV (pc' := 1065) C hX hbl (Nat.not_le.mpr hbl) dL_law_1064 (z_inL (j := 1) hi hL (by decide)) hw1 rfl ?_
  refine G_aload_n (pc' := 1066) C dL_law_1065 0 rfl rfl ?_
  refine G_iload_n (pc' := 1067) C dL_law_1066 3 rfl rfl ?_
  refine G_iconst (pc' := 1068) (v := (2 : Int32)) C dL_law_1067 (by decide) rfl ?_
  refine G_iadd (pc' := 1069) C dL_law_1068 rfl ?_
  refine G_sldV (pc' := 1070) C hX hbl (Nat.not_le.mpr hbl) dL_law_1069 (z_inL (j := 2) hi hL (by decide)) hw2 rfl ?_
  refine G_aload_n (pc' := 1071) C dL_law_1070 0 rfl rfl ?_
  refine G_iload_n (pc' := 1072) C dL_law_1071 3 rfl rfl ?_
  refine G_iconst (pc' := 1073) (v := (3 : Int32)) C dL_law_1072 (by decide) rfl ?_
  refine G_iadd (pc' := 1074) C dL_law_1073 rfl ?_
  refine G_sldV (pc' := 1075) C hX hbl (Nat.not_le.mpr hbl) dL_law_1074 (z_inL (j := 3) hi hL (by decide)) hw3 rfl ?_
  refine G_callV (F := CBf κ s.heap.size q1.2) (pc' := 1078) C dL_law_1075 ((tX10_at κ l (s.heap.size + 32) r w1 w2 w3 q2 h2).sized rfl (cn q1.2)) (wV tw_ml_L_120 tw_im_X10_at tw_se_X10_X10_at tw_in_X10 tw_co_X10_at) yd_X10_at rfl fi_X10 (LW_r rfl) ⟨⟨by decide, by decide⟩, hc, hs⟩ (fun w hw => Nat.le_trans (Nat.le_add_right _ 32) hw.1) (fun _ h => LW_toR h) (fun _ _ _ _ hk hf => CBf_fr hk hf) rfl (Nat.le_of_ble_eq_true rfl) rfl rfl ?_
  refine G_world (B' := LWB κ s.heap.size q1.2 q2.2) (fun _ h => LW_ofR h) ?_
  refine G_icmp_eq (tgt := 1488) (pc' := 1081) C dL_law_1078 (by decide) rfl (fun _ => ?_) (fun hne => absurd h3 hne)
  exact kk _ _ h4
def St_most (Sim : Nat → CS → RS → Prop) : Prop := ∀ (o : Nat) (z : CS) (r : RS) (a1 : Int32) (a2 : Int32) (a3 : Int32), Sim o z r → ∃ (q1 : Int32 × CS) (q2 : Int32 × RS), fX9_most o z a1 a2 a3 = some q1 ∧ fX10_most r a1 a2 a3 = some q2 ∧ q1.1 = q2.1 ∧ Sim o q1.2 q2.2
set_option maxHeartbeats 4000000 in
set_option maxRecDepth 100000 in
theorem lc_most {κ : KK} {p : Program} {l : Launch} {e : Env} {s : State} {m : MethodId} {below : List Frame} {meth : Method} {c : Code} {b L : Nat} {xs : Nat → Int32} (C : Cx κ p s m #[Value.ref b] meth c cL_law 4 RL ret) (hX : va_X b L xs s s.heap) (hbl : b < s.heap.size) (hL : L ≤ 3072) {Sim : Nat → CS → RS → Prop} (hst : St_most Sim) {i : Nat} {z : CS} {r : RS} (hsim : Sim s.heap.size z r) (hi : i + 6 ≤ L) {cells slots : Nat} (hc : cells + 2 ≤ 600000) (hs : slots + 260 ≤ 7302250) (kk : ∀ (z' : CS) (r' : RS), Sim s.heap.size z' r' → GG p l e room_1 s m #[Value.ref b] below meth c (lw_Z below #[Value.ref b] s) (LA s.heap.size) 4 (cells + 2) (slots + 260) (LWB κ s.heap.size z' r') 1488 [(0, .ref b), (1, .ref s.heap.size), (2, .ref (s.heap.size + 32)), (3, .int (nI i))] []) : GG p l e room_1 s m #[Value.ref b] below meth c (lw_Z below #[Value.ref b] s) (LA s.heap.size) 4 cells slots (LWB κ s.heap.size z r) 1083 [(0, .ref b), (1, .ref s.heap.size), (2, .ref (s.heap.size + 32)), (3, .int (nI i))] [] := by
  obtain ⟨w1, hw1⟩ : ∃ w, xs (nI i + (1 : Int32)).toNatClampNeg = w := ⟨_, rfl⟩
  obtain ⟨w2, hw2⟩ : ∃ w, xs (nI i + (2 : Int32)).toNatClampNeg = w := ⟨_, rfl⟩
  obtain ⟨w3, hw3⟩ : ∃ w, xs (nI i + (3 : Int32)).toNatClampNeg = w := ⟨_, rfl⟩
  refine G_aload_n (pc' := 1084) C dL_law_1083 1 rfl rfl ?_
  refine G_aload_n (pc' := 1085) C dL_law_1084 0 rfl rfl ?_
  refine G_iload_n (pc' := 1086) C dL_law_1085 3 rfl rfl ?_
  refine G_iconst (pc' := 1087) (v := (1 : Int32)) C dL_law_1086 (by decide) rfl ?_
  refine G_iadd (pc' := 1088) C dL_law_1087 rfl ?_
  refine G_sldV (pc' := 1089) C hX hbl (Nat.not_le.mpr hbl) dL_law_1088 (z_inL (j := 1) hi hL (by decide)) hw1 rfl ?_
  refine G_aload_n (pc' := 1090) C dL_law_1089 0 rfl rfl ?_
  refine G_iload_n (pc' := 1091) C dL_law_1090 3 rfl rfl ?_
  refine G_iconst (pc' := 1092) (v := (2 : Int32)) C dL_law_1091 (by decide) rfl ?_
  refine G_iadd (pc' := 1093) C dL_law_1092 rfl ?_
  refine G_sldV (pc' := 1094) C hX hbl (Nat.not_le.mpr hbl) dL_law_1093 (z_inL (j := 2) hi hL (by decide)) hw2 rfl ?_
  refine G_aload_n (pc' := 1095) C dL_law_1094 0 rfl rfl ?_
  refine G_iload_n (pc' := 1096) C dL_law_1095 3 rfl rfl ?_
  refine G_iconst (pc' := 1097) (v := (3 : Int32)) C dL_law_1096 (by decide) rfl ?_
  refine G_iadd (pc' := 1098) C dL_law_1097 rfl ?_
  refine G_sldV (pc' := 1099) C hX hbl (Nat.not_le.mpr hbl) dL_law_1098 (z_inL (j := 3) hi hL (by decide)) hw3 rfl ?_
  obtain ⟨q1, q2, h1, h2, h3, h4⟩ := hst s.heap.size z r w1 w2 w3 hsim
  refine G_callV (F := RB κ (s.heap.size + 32) r) (pc' := 1102) C dL_law_1099 (tX9_most κ l s.heap.size z w1 w2 w3 q1 h1) (wV tw_ml_L_121 tw_im_X9_most tw_se_X9_X9_most tw_in_X9 tw_co_X9_most) yd_X9_most rfl fi_X9 (LW_c rfl) ⟨⟨by decide, by decide⟩, Nat.le_trans (Nat.add_le_add_left (show rmX9_most.cells ≤ 2 by decide) _) hc, Nat.le_trans (Nat.add_le_add_left (show rmX9_most.slots ≤ 260 by decide) _) hs⟩ (fun w hw => by rcases hw with h | h; exact h.1; exact Nat.le_trans (Nat.le_add_right _ _) h) (fun _ h => h) (fun _ _ _ _ hk hf => RB_fr hk hf) rfl (Nat.le_of_ble_eq_true rfl) rfl rfl ?_
  refine G_widen (k := cells + 2) (n := slots + 260) (Nat.add_le_add_left (show rmX9_most.cells ≤ 2 by decide) _) (Nat.add_le_add_left (show rmX9_most.slots ≤ 260 by decide) _) ?_
  refine G_world (B' := LWB κ s.heap.size q1.2 r) (fun _ h => h) ?_
  refine G_aload_n (pc' := 1103) C dL_law_1102 2 rfl rfl ?_
  refine G_aload_n (pc' := 1104) C dL_law_1103 0 rfl rfl ?_
  refine G_iload_n (pc' := 1105) C dL_law_1104 3 rfl rfl ?_
  refine G_iconst (pc' := 1106) (v := (1 : Int32)) C dL_law_1105 (by decide) rfl ?_
  refine G_iadd (pc' := 1107) C dL_law_1106 rfl ?_
  refine G_sldV (pc' := 1108) C hX hbl (Nat.not_le.mpr hbl) dL_law_1107 (z_inL (j := 1) hi hL (by decide)) hw1 rfl ?_
  refine G_aload_n (pc' := 1109) C dL_law_1108 0 rfl rfl ?_
  refine G_iload_n (pc' := 1110) C dL_law_1109 3 rfl rfl ?_
  refine G_iconst (pc' := 1111) (v := (2 : Int32)) C dL_law_1110 (by decide) rfl ?_
  refine G_iadd (pc' := 1112) C dL_law_1111 rfl ?_
  refine G_sldV (pc' := 1113) C hX hbl (Nat.not_le.mpr hbl) dL_law_1112 (z_inL (j := 2) hi hL (by decide)) hw2 rfl ?_
  refine G_aload_n (pc' := 1114) C dL_law_1113 0 rfl rfl ?_
  refine G_iload_n (pc' := 1115) C dL_law_1114 3 rfl rfl ?_
  refine G_iconst (pc' := 1116) (v := (3 : Int32)) C dL_law_1115 (by decide) rfl ?_
  refine G_iadd (pc' := 1117) C dL_law_1116 rfl ?_
  refine G_sldV (pc' := 1118) C hX hbl (Nat.not_le.mpr hbl) dL_law_1117 (z_inL (j := 3) hi hL (by decide)) hw3 rfl ?_
  refine G_callV (F := CBf κ s.heap.size q1.2) (pc' := 1121) C dL_law_1118 ((tX10_most κ l (s.heap.size + 32) r w1 w2 w3 q2 h2).sized rfl (cn q1.2)) (wV tw_ml_L_124 tw_im_X10_most tw_se_X10_X10_most tw_in_X10 tw_co_X10_most) yd_X10_most rfl fi_X10 (LW_r rfl) ⟨⟨by decide, by decide⟩, hc, hs⟩ (fun w hw => Nat.le_trans (Nat.le_add_right _ 32) hw.1) (fun _ h => LW_toR h) (fun _ _ _ _ hk hf => CBf_fr hk hf) rfl (Nat.le_of_ble_eq_true rfl) rfl rfl ?_
  refine G_world (B' := LWB κ s.heap.size q1.2 q2.2) (fun _ h => LW_ofR h) ?_
  refine G_icmp_eq (tgt := 1488) (pc' := 1124) C dL_law_1121 (by decide) rfl (fun _ => ?_) (fun hne => absurd h3 hne)
  exact kk _ _ h4
def St_where (Sim : Nat → CS → RS → Prop) : Prop := ∀ (o : Nat) (z : CS) (r : RS) (a1 : Int32) (a2 : Int32) (a3 : Int32), Sim o z r → ∃ (q1 : Int32 × CS) (q2 : Int32 × RS), fX9_where o z a1 a2 a3 = some q1 ∧ fX10_where r a1 a2 a3 = some q2 ∧ q1.1 = q2.1 ∧ Sim o q1.2 q2.2
set_option maxHeartbeats 4000000 in
set_option maxRecDepth 100000 in
theorem lc_where {κ : KK} {p : Program} {l : Launch} {e : Env} {s : State} {m : MethodId} {below : List Frame} {meth : Method} {c : Code} {b L : Nat} {xs : Nat → Int32} (C : Cx κ p s m #[Value.ref b] meth c cL_law 4 RL ret) (hX : va_X b L xs s s.heap) (hbl : b < s.heap.size) (hL : L ≤ 3072) {Sim : Nat → CS → RS → Prop} (hst : St_where Sim) {i : Nat} {z : CS} {r : RS} (hsim : Sim s.heap.size z r) (hi : i + 6 ≤ L) {cells slots : Nat} (hc : cells + 2 ≤ 600000) (hs : slots + 260 ≤ 7302250) (kk : ∀ (z' : CS) (r' : RS), Sim s.heap.size z' r' → GG p l e room_1 s m #[Value.ref b] below meth c (lw_Z below #[Value.ref b] s) (LA s.heap.size) 4 (cells + 2) (slots + 260) (LWB κ s.heap.size z' r') 1488 [(0, .ref b), (1, .ref s.heap.size), (2, .ref (s.heap.size + 32)), (3, .int (nI i))] []) : GG p l e room_1 s m #[Value.ref b] below meth c (lw_Z below #[Value.ref b] s) (LA s.heap.size) 4 cells slots (LWB κ s.heap.size z r) 1126 [(0, .ref b), (1, .ref s.heap.size), (2, .ref (s.heap.size + 32)), (3, .int (nI i))] [] := by
  obtain ⟨w1, hw1⟩ : ∃ w, xs (nI i + (1 : Int32)).toNatClampNeg = w := ⟨_, rfl⟩
  obtain ⟨w2, hw2⟩ : ∃ w, xs (nI i + (2 : Int32)).toNatClampNeg = w := ⟨_, rfl⟩
  obtain ⟨w3, hw3⟩ : ∃ w, xs (nI i + (3 : Int32)).toNatClampNeg = w := ⟨_, rfl⟩
  refine G_aload_n (pc' := 1127) C dL_law_1126 1 rfl rfl ?_
  refine G_aload_n (pc' := 1128) C dL_law_1127 0 rfl rfl ?_
  refine G_iload_n (pc' := 1129) C dL_law_1128 3 rfl rfl ?_
  refine G_iconst (pc' := 1130) (v := (1 : Int32)) C dL_law_1129 (by decide) rfl ?_
  refine G_iadd (pc' := 1131) C dL_law_1130 rfl ?_
  refine G_sldV (pc' := 1132) C hX hbl (Nat.not_le.mpr hbl) dL_law_1131 (z_inL (j := 1) hi hL (by decide)) hw1 rfl ?_
  refine G_aload_n (pc' := 1133) C dL_law_1132 0 rfl rfl ?_
  refine G_iload_n (pc' := 1134) C dL_law_1133 3 rfl rfl ?_
  refine G_iconst (pc' := 1135) (v := (2 : Int32)) C dL_law_1134 (by decide) rfl ?_
  refine G_iadd (pc' := 1136) C dL_law_1135 rfl ?_
  refine G_sldV (pc' := 1137) C hX hbl (Nat.not_le.mpr hbl) dL_law_1136 (z_inL (j := 2) hi hL (by decide)) hw2 rfl ?_
  refine G_aload_n (pc' := 1138) C dL_law_1137 0 rfl rfl ?_
  refine G_iload_n (pc' := 1139) C dL_law_1138 3 rfl rfl ?_
  refine G_iconst (pc' := 1140) (v := (3 : Int32)) C dL_law_1139 (by decide) rfl ?_
  refine G_iadd (pc' := 1141) C dL_law_1140 rfl ?_
  refine G_sldV (pc' := 1142) C hX hbl (Nat.not_le.mpr hbl) dL_law_1141 (z_inL (j := 3) hi hL (by decide)) hw3 rfl ?_
  obtain ⟨q1, q2, h1, h2, h3, h4⟩ := hst s.heap.size z r w1 w2 w3 hsim
  refine G_callV (F := RB κ (s.heap.size + 32) r) (pc' := 1145) C dL_law_1142 (tX9_where κ l s.heap.size z w1 w2 w3 q1 h1) (wV tw_ml_L_125 tw_im_X9_where tw_se_X9_X9_where tw_in_X9 tw_co_X9_where) yd_X9_where rfl fi_X9 (LW_c rfl) ⟨⟨by decide, by decide⟩, Nat.le_trans (Nat.add_le_add_left (show rmX9_where.cells ≤ 2 by decide) _) hc, Nat.le_trans (Nat.add_le_add_left (show rmX9_where.slots ≤ 260 by decide) _) hs⟩ (fun w hw => by rcases hw with h | h; exact h.1; exact Nat.le_trans (Nat.le_add_right _ _) h) (fun _ h => h) (fun _ _ _ _ hk hf => RB_fr hk hf) rfl (Nat.le_of_ble_eq_true rfl) rfl rfl ?_
  refine G_widen (k := cells + 2) (n := slots + 260) (Nat.add_le_add_left (show rmX9_where.cells ≤ 2 by decide) _) (Nat.add_le_add_left (show rmX9_where.slots ≤ 260 by decide) _) ?_
  refine G_world (B' := LWB κ s.heap.size q1.2 r) (fun _ h => h) ?_
  refine G_aload_n (pc' := 1146) C dL_law_1145 2 rfl rfl ?_
  refine G_aload_n (pc' := 1147) C dL_law_1146 0 rfl rfl ?_
  refine G_iload_n (pc' := 1148) C dL_law_1147 3 rfl rfl ?_
  refine G_iconst (pc' := 1149) (v := (1 : Int32)) C dL_law_1148 (by decide) rfl ?_
  refine G_iadd (pc' := 1150) C dL_law_1149 rfl ?_
  refine G_sldV (pc' := 1151) C hX hbl (Nat.not_le.mpr hbl) dL_law_1150 (z_inL (j := 1) hi hL (by decide)) hw1 rfl ?_
  refine G_aload_n (pc' := 1152) C dL_law_1151 0 rfl rfl ?_
  refine G_iload_n (pc' := 1153) C dL_law_1152 3 rfl rfl ?_
  refine G_iconst (pc' := 1154) (v := (2 : Int32)) C dL_law_1153 (by decide) rfl ?_
  refine G_iadd (pc' := 1155) C dL_law_1154 rfl ?_
  refine G_sldV (pc' := 1156) C hX hbl (Nat.not_le.mpr hbl) dL_law_1155 (z_inL (j := 2) hi hL (by decide)) hw2 rfl ?_
  refine G_aload_n (pc' := 1157) C dL_law_1156 0 rfl rfl ?_
  refine G_iload_n (pc' := 1158) C dL_law_1157 3 rfl rfl ?_
  refine G_iconst (pc' := 1159) (v := (3 : Int32)) C dL_law_1158 (by decide) rfl ?_
  refine G_iadd (pc' := 1160) C dL_law_1159 rfl ?_
  refine G_sldV (pc' := 1161) C hX hbl (Nat.not_le.mpr hbl) dL_law_1160 (z_inL (j := 3) hi hL (by decide)) hw3 rfl ?_
  refine G_callV (F := CBf κ s.heap.size q1.2) (pc' := 1164) C dL_law_1161 ((tX10_where κ l (s.heap.size + 32) r w1 w2 w3 q2 h2).sized rfl (cn q1.2)) (wV tw_ml_L_128 tw_im_X10_where tw_se_X10_X10_where tw_in_X10 tw_co_X10_where) yd_X10_where rfl fi_X10 (LW_r rfl) ⟨⟨by decide, by decide⟩, hc, hs⟩ (fun w hw => Nat.le_trans (Nat.le_add_right _ 32) hw.1) (fun _ h => LW_toR h) (fun _ _ _ _ hk hf => CBf_fr hk hf) rfl (Nat.le_of_ble_eq_true rfl) rfl rfl ?_
  refine G_world (B' := LWB κ s.heap.size q1.2 q2.2) (fun _ h => LW_ofR h) ?_
  refine G_icmp_eq (tgt := 1488) (pc' := 1167) C dL_law_1164 (by decide) rfl (fun _ => ?_) (fun hne => absurd h3 hne)
  exact kk _ _ h4
def St_poly (Sim : Nat → CS → RS → Prop) : Prop := ∀ (o : Nat) (z : CS) (r : RS) (a1 : Int32) (a2 : Int32), Sim o z r → ∃ (q1 : Int32 × CS) (q2 : Int32 × RS), fX9_poly o z a1 a2 = some q1 ∧ fX10_poly r a1 a2 = some q2 ∧ q1.1 = q2.1 ∧ Sim o q1.2 q2.2
set_option maxHeartbeats 4000000 in
set_option maxRecDepth 100000 in
theorem lc_poly {κ : KK} {p : Program} {l : Launch} {e : Env} {s : State} {m : MethodId} {below : List Frame} {meth : Method} {c : Code} {b L : Nat} {xs : Nat → Int32} (C : Cx κ p s m #[Value.ref b] meth c cL_law 4 RL ret) (hX : va_X b L xs s s.heap) (hbl : b < s.heap.size) (hL : L ≤ 3072) {Sim : Nat → CS → RS → Prop} (hst : St_poly Sim) {i : Nat} {z : CS} {r : RS} (hsim : Sim s.heap.size z r) (hi : i + 6 ≤ L) {cells slots : Nat} (hc : cells + 2 ≤ 600000) (hs : slots + 260 ≤ 7302250) (kk : ∀ (z' : CS) (r' : RS), Sim s.heap.size z' r' → GG p l e room_1 s m #[Value.ref b] below meth c (lw_Z below #[Value.ref b] s) (LA s.heap.size) 4 (cells + 2) (slots + 260) (LWB κ s.heap.size z' r') 1488 [(0, .ref b), (1, .ref s.heap.size), (2, .ref (s.heap.size + 32)), (3, .int (nI i))] []) : GG p l e room_1 s m #[Value.ref b] below meth c (lw_Z below #[Value.ref b] s) (LA s.heap.size) 4 cells slots (LWB κ s.heap.size z r) 1169 [(0, .ref b), (1, .ref s.heap.size), (2, .ref (s.heap.size + 32)), (3, .int (nI i))] [] := by
  obtain ⟨w1, hw1⟩ : ∃ w, xs (nI i + (1 : Int32)).toNatClampNeg = w := ⟨_, rfl⟩
  obtain ⟨w2, hw2⟩ : ∃ w, xs (nI i + (2 : Int32)).toNatClampNeg = w := ⟨_, rfl⟩
  refine G_aload_n (pc' := 1170) C dL_law_1169 1 rfl rfl ?_
  refine G_aload_n (pc' := 1171) C dL_law_1170 0 rfl rfl ?_
  refine G_iload_n (pc' := 1172) C dL_law_1171 3 rfl rfl ?_
  refine G_iconst (pc' := 1173) (v := (1 : Int32)) C dL_law_1172 (by decide) rfl ?_
  refine G_iadd (pc' := 1174) C dL_law_1173 rfl ?_
  refine G_sldV (pc' := 1175) C hX hbl (Nat.not_le.mpr hbl) dL_law_1174 (z_inL (j := 1) hi hL (by decide)) hw1 rfl ?_
  refine G_aload_n (pc' := 1176) C dL_law_1175 0 rfl rfl ?_
  refine G_iload_n (pc' := 1177) C dL_law_1176 3 rfl rfl ?_
  refine G_iconst (pc' := 1178) (v := (2 : Int32)) C dL_law_1177 (by decide) rfl ?_
  refine G_iadd (pc' := 1179) C dL_law_1178 rfl ?_
  refine G_sldV (pc' := 1180) C hX hbl (Nat.not_le.mpr hbl) dL_law_1179 (z_inL (j := 2) hi hL (by decide)) hw2 rfl ?_
  obtain ⟨q1, q2, h1, h2, h3, h4⟩ := hst s.heap.size z r w1 w2 hsim
  refine G_callV (F := RB κ (s.heap.size + 32) r) (pc' := 1183) C dL_law_1180 (tX9_poly κ l s.heap.size z w1 w2 q1 h1) (wV tw_ml_L_129 tw_im_X9_poly tw_se_X9_X9_poly tw_in_X9 tw_co_X9_poly) yd_X9_poly rfl fi_X9 (LW_c rfl) ⟨⟨by decide, by decide⟩, Nat.le_trans (Nat.add_le_add_left (show rmX9_poly.cells ≤ 2 by decide) _) hc, Nat.le_trans (Nat.add_le_add_left (show rmX9_poly.slots ≤ 260 by decide) _) hs⟩ (fun w hw => by rcases hw with h | h; exact h.1; exact Nat.le_trans (Nat.le_add_right _ _) h) (fun _ h => h) (fun _ _ _ _ hk hf => RB_fr hk hf) rfl (Nat.le_of_ble_eq_true rfl) rfl rfl ?_
  refine G_widen (k := cells + 2) (n := slots + 260) (Nat.add_le_add_left (show rmX9_poly.cells ≤ 2 by decide) _) (Nat.add_le_add_left (show rmX9_poly.slots ≤ 260 by decide) _) ?_
  refine G_world (B' := LWB κ s.heap.size q1.2 r) (fun _ h => h) ?_
  refine G_aload_n (pc' := 1184) C dL_law_1183 2 rfl rfl ?_
  refine G_aload_n (pc' := 1185) C dL_law_1184 0 rfl rfl ?_
  refine G_iload_n (pc' := 1186) C dL_law_1185 3 rfl rfl ?_
  refine G_iconst (pc' := 1187) (v := (1 : Int32)) C dL_law_1186 (by decide) rfl ?_
  refine G_iadd (pc' := 1188) C dL_law_1187 rfl ?_
  refine G_sldV (pc' := 1189) C hX hbl (Nat.not_le.mpr hbl) dL_law_1188 (z_inL (j := 1) hi hL (by decide)) hw1 rfl ?_
  refine G_aload_n (pc' := 1190) C dL_law_1189 0 rfl rfl ?_
  refine G_iload_n (pc' := 1191) C dL_law_1190 3 rfl rfl ?_
  refine G_iconst (pc' := 1192) (v := (2 : Int32)) C dL_law_1191 (by decide) rfl ?_
  refine G_iadd (pc' := 1193) C dL_law_1192 rfl ?_
  refine G_sldV (pc' := 1194) C hX hbl (Nat.not_le.mpr hbl) dL_law_1193 (z_inL (j := 2) hi hL (by decide)) hw2 rfl ?_
  refine G_callV (F := CBf κ s.heap.size q1.2) (pc' := 1197) C dL_law_1194 ((tX10_poly κ l (s.heap.size + 32) r w1 w2 q2 h2).sized rfl (cn q1.2)) (wV tw_ml_L_132 tw_im_X10_poly tw_se_X10_X10_poly tw_in_X10 tw_co_X10_poly) yd_X10_poly rfl fi_X10 (LW_r rfl) ⟨⟨by decide, by decide⟩, hc, hs⟩ (fun w hw => Nat.le_trans (Nat.le_add_right _ 32) hw.1) (fun _ h => LW_toR h) (fun _ _ _ _ hk hf => CBf_fr hk hf) rfl (Nat.le_of_ble_eq_true rfl) rfl rfl ?_
  refine G_world (B' := LWB κ s.heap.size q1.2 q2.2) (fun _ h => LW_ofR h) ?_
  refine G_icmp_eq (tgt := 1488) (pc' := 1200) C dL_law_1197 (by decide) rfl (fun _ => ?_) (fun hne => absurd h3 hne)
  exact kk _ _ h4
def St_degree (Sim : Nat → CS → RS → Prop) : Prop := ∀ (o : Nat) (z : CS) (r : RS) (a1 : Int32), Sim o z r → ∃ (q1 : Int32 × CS) (q2 : Int32 × RS), fX9_degree o z a1 = some q1 ∧ fX10_degree r a1 = some q2 ∧ q1.1 = q2.1 ∧ Sim o q1.2 q2.2
set_option maxHeartbeats 4000000 in
set_option maxRecDepth 100000 in
theorem lc_degree {κ : KK} {p : Program} {l : Launch} {e : Env} {s : State} {m : MethodId} {below : List Frame} {meth : Method} {c : Code} {b L : Nat} {xs : Nat → Int32} (C : Cx κ p s m #[Value.ref b] meth c cL_law 4 RL ret) (hX : va_X b L xs s s.heap) (hbl : b < s.heap.size) (hL : L ≤ 3072) {Sim : Nat → CS → RS → Prop} (hst : St_degree Sim) {i : Nat} {z : CS} {r : RS} (hsim : Sim s.heap.size z r) (hi : i + 6 ≤ L) {cells slots : Nat} (hc : cells + 2 ≤ 600000) (hs : slots + 260 ≤ 7302250) (kk : ∀ (z' : CS) (r' : RS), Sim s.heap.size z' r' → GG p l e room_1 s m #[Value.ref b] below meth c (lw_Z below #[Value.ref b] s) (LA s.heap.size) 4 (cells + 2) (slots + 260) (LWB κ s.heap.size z' r') 1488 [(0, .ref b), (1, .ref s.heap.size), (2, .ref (s.heap.size + 32)), (3, .int (nI i))] []) : GG p l e room_1 s m #[Value.ref b] below meth c (lw_Z below #[Value.ref b] s) (LA s.heap.size) 4 cells slots (LWB κ s.heap.size z r) 1202 [(0, .ref b), (1, .ref s.heap.size), (2, .ref (s.heap.size + 32)), (3, .int (nI i))] [] := by
  obtain ⟨w1, hw1⟩ : ∃ w, xs (nI i + (1 : Int32)).toNatClampNeg = w := ⟨_, rfl⟩
  refine G_aload_n (pc' := 1203) C dL_law_1202 1 rfl rfl ?_
  refine G_aload_n (pc' := 1204) C dL_law_1203 0 rfl rfl ?_
  refine G_iload_n (pc' := 1205) C dL_law_1204 3 rfl rfl ?_
  refine G_iconst (pc' := 1206) (v := (1 : Int32)) C dL_law_1205 (by decide) rfl ?_
  refine G_iadd (pc' := 1207) C dL_law_1206 rfl ?_
  refine G_sldV (pc' := 1208) C hX hbl (Nat.not_le.mpr hbl) dL_law_1207 (z_inL (j := 1) hi hL (by decide)) hw1 rfl ?_
  obtain ⟨q1, q2, h1, h2, h3, h4⟩ := hst s.heap.size z r w1 hsim
  refine G_callV (F := RB κ (s.heap.size + 32) r) (pc' := 1211) C dL_law_1208 (tX9_degree κ l s.heap.size z w1 q1 h1) (wV tw_ml_L_133 tw_im_X9_degree tw_se_X9_X9_degree tw_in_X9 tw_co_X9_degree) yd_X9_degree rfl fi_X9 (LW_c rfl) ⟨⟨by decide, by decide⟩, Nat.le_trans (Nat.add_le_add_left (show rmX9_degree.cells ≤ 2 by decide) _) hc, Nat.le_trans (Nat.add_le_add_left (show rmX9_degree.slots ≤ 260 by decide) _) hs⟩ (fun w hw => by rcases hw with h | h; exact h.1; exact Nat.le_trans (Nat.le_add_right _ _) h) (fun _ h => h) (fun _ _ _ _ hk hf => RB_fr hk hf) rfl (Nat.le_of_ble_eq_true rfl) rfl rfl ?_
  refine G_widen (k := cells + 2) (n := slots + 260) (Nat.add_le_add_left (show rmX9_degree.cells ≤ 2 by decide) _) (Nat.add_le_add_left (show rmX9_degree.slots ≤ 260 by decide) _) ?_
  refine G_world (B' := LWB κ s.heap.size q1.2 r) (fun _ h => h) ?_
  refine G_aload_n (pc' := 1212) C dL_law_1211 2 rfl rfl ?_
  refine G_aload_n (pc' := 1213) C dL_law_1212 0 rfl rfl ?_
  refine G_iload_n (pc' := 1214) C dL_law_1213 3 rfl rfl ?_
  refine G_iconst (pc' := 1215) (v := (1 : Int32)) C dL_law_1214 (by decide) rfl ?_
  refine G_iadd (pc' := 1216) C dL_law_1215 rfl ?_
  refine G_sldV (pc' := 1217) C hX hbl (Nat.not_le.mpr hbl) dL_law_1216 (z_inL (j := 1) hi hL (by decide)) hw1 rfl ?_
  refine G_callV (F := CBf κ s.heap.size q1.2) (pc' := 1220) C dL_law_1217 ((tX10_degree κ l (s.heap.size + 32) r w1 q2 h2).sized rfl (cn q1.2)) (wV tw_ml_L_136 tw_im_X10_degree tw_se_X10_X10_degree tw_in_X10 tw_co_X10_degree) yd_X10_degree rfl fi_X10 (LW_r rfl) ⟨⟨by decide, by decide⟩, hc, hs⟩ (fun w hw => Nat.le_trans (Nat.le_add_right _ 32) hw.1) (fun _ h => LW_toR h) (fun _ _ _ _ hk hf => CBf_fr hk hf) rfl (Nat.le_of_ble_eq_true rfl) rfl rfl ?_
  refine G_world (B' := LWB κ s.heap.size q1.2 q2.2) (fun _ h => LW_ofR h) ?_
  refine G_icmp_eq (tgt := 1488) (pc' := 1223) C dL_law_1220 (by decide) rfl (fun _ => ?_) (fun hne => absurd h3 hne)
  exact kk _ _ h4
def St_sign (Sim : Nat → CS → RS → Prop) : Prop := ∀ (o : Nat) (z : CS) (r : RS) (a1 : Int32) (a2 : Int32), Sim o z r → ∃ (q1 : Int32 × CS) (q2 : Int32 × RS), fX9_sign o z a1 a2 = some q1 ∧ fX10_sign r a1 a2 = some q2 ∧ q1.1 = q2.1 ∧ Sim o q1.2 q2.2
set_option maxHeartbeats 4000000 in
set_option maxRecDepth 100000 in
theorem lc_sign {κ : KK} {p : Program} {l : Launch} {e : Env} {s : State} {m : MethodId} {below : List Frame} {meth : Method} {c : Code} {b L : Nat} {xs : Nat → Int32} (C : Cx κ p s m #[Value.ref b] meth c cL_law 4 RL ret) (hX : va_X b L xs s s.heap) (hbl : b < s.heap.size) (hL : L ≤ 3072) {Sim : Nat → CS → RS → Prop} (hst : St_sign Sim) {i : Nat} {z : CS} {r : RS} (hsim : Sim s.heap.size z r) (hi : i + 6 ≤ L) {cells slots : Nat} (hc : cells + 2 ≤ 600000) (hs : slots + 260 ≤ 7302250) (kk : ∀ (z' : CS) (r' : RS), Sim s.heap.size z' r' → GG p l e room_1 s m #[Value.ref b] below meth c (lw_Z below #[Value.ref b] s) (LA s.heap.size) 4 (cells + 2) (slots + 260) (LWB κ s.heap.size z' r') 1488 [(0, .ref b), (1, .ref s.heap.size), (2, .ref (s.heap.size + 32)), (3, .int (nI i))] []) : GG p l e room_1 s m #[Value.ref b] below meth c (lw_Z below #[Value.ref b] s) (LA s.heap.size) 4 cells slots (LWB κ s.heap.size z r) 1225 [(0, .ref b), (1, .ref s.heap.size), (2, .ref (s.heap.size + 32)), (3, .int (nI i))] [] := by
  obtain ⟨w1, hw1⟩ : ∃ w, xs (nI i + (1 : Int32)).toNatClampNeg = w := ⟨_, rfl⟩
  obtain ⟨w2, hw2⟩ : ∃ w, xs (nI i + (2 : Int32)).toNatClampNeg = w := ⟨_, rfl⟩
  refine G_aload_n (pc' := 1226) C dL_law_1225 1 rfl rfl ?_
  refine G_aload_n (pc' := 1227) C dL_law_1226 0 rfl rfl ?_
  refine G_iload_n (pc' := 1228) C dL_law_1227 3 rfl rfl ?_
  refine G_iconst (pc' := 1229) (v := (1 : Int32)) C dL_law_1228 (by decide) rfl ?_
  refine G_iadd (pc' := 1230) C dL_law_1229 rfl ?_
  refine G_sldV (pc' := 1231) C hX hbl (Nat.not_le.mpr hbl) dL_law_1230 (z_inL (j := 1) hi hL (by decide)) hw1 rfl ?_
  refine G_aload_n (pc' := 1232) C dL_law_1231 0 rfl rfl ?_
  refine G_iload_n (pc' := 1233) C dL_law_1232 3 rfl rfl ?_
  refine G_iconst (pc' := 1234) (v := (2 : Int32)) C dL_law_1233 (by decide) rfl ?_
  refine G_iadd (pc' := 1235) C dL_law_1234 rfl ?_
  refine G_sldV (pc' := 1236) C hX hbl (Nat.not_le.mpr hbl) dL_law_1235 (z_inL (j := 2) hi hL (by decide)) hw2 rfl ?_
  obtain ⟨q1, q2, h1, h2, h3, h4⟩ := hst s.heap.size z r w1 w2 hsim
  refine G_callV (F := RB κ (s.heap.size + 32) r) (pc' := 1239) C dL_law_1236 (tX9_sign κ l s.heap.size z w1 w2 q1 h1) (wV tw_ml_L_137 tw_im_X9_sign tw_se_X9_X9_sign tw_in_X9 tw_co_X9_sign) yd_X9_sign rfl fi_X9 (LW_c rfl) ⟨⟨by decide, by decide⟩, Nat.le_trans (Nat.add_le_add_left (show rmX9_sign.cells ≤ 2 by decide) _) hc, Nat.le_trans (Nat.add_le_add_left (show rmX9_sign.slots ≤ 260 by decide) _) hs⟩ (fun w hw => by rcases hw with h | h; exact h.1; exact Nat.le_trans (Nat.le_add_right _ _) h) (fun _ h => h) (fun _ _ _ _ hk hf => RB_fr hk hf) rfl (Nat.le_of_ble_eq_true rfl) rfl rfl ?_
  refine G_widen (k := cells + 2) (n := slots + 260) (Nat.add_le_add_left (show rmX9_sign.cells ≤ 2 by decide) _) (Nat.add_le_add_left (show rmX9_sign.slots ≤ 260 by decide) _) ?_
  refine G_world (B' := LWB κ s.heap.size q1.2 r) (fun _ h => h) ?_
  refine G_aload_n (pc' := 1240) C dL_law_1239 2 rfl rfl ?_
  refine G_aload_n (pc' := 1241) C dL_law_1240 0 rfl rfl ?_
  refine G_iload_n (pc' := 1242) C dL_law_1241 3 rfl rfl ?_
  refine G_iconst (pc' := 1243) (v := (1 : Int32)) C dL_law_1242 (by decide) rfl ?_
  refine G_iadd (pc' := 1244) C dL_law_1243 rfl ?_
  refine G_sldV (pc' := 1245) C hX hbl (Nat.not_le.mpr hbl) dL_law_1244 (z_inL (j := 1) hi hL (by decide)) hw1 rfl ?_
  refine G_aload_n (pc' := 1246) C dL_law_1245 0 rfl rfl ?_
  refine G_iload_n (pc' := 1247) C dL_law_1246 3 rfl rfl ?_
  refine G_iconst (pc' := 1248) (v := (2 : Int32)) C dL_law_1247 (by decide) rfl ?_
  refine G_iadd (pc' := 1249) C dL_law_1248 rfl ?_
  refine G_sldV (pc' := 1250) C hX hbl (Nat.not_le.mpr hbl) dL_law_1249 (z_inL (j := 2) hi hL (by decide)) hw2 rfl ?_
  refine G_callV (F := CBf κ s.heap.size q1.2) (pc' := 1253) C dL_law_1250 ((tX10_sign κ l (s.heap.size + 32) r w1 w2 q2 h2).sized rfl (cn q1.2)) (wV tw_ml_L_140 tw_im_X10_sign tw_se_X10_X10_sign tw_in_X10 tw_co_X10_sign) yd_X10_sign rfl fi_X10 (LW_r rfl) ⟨⟨by decide, by decide⟩, hc, hs⟩ (fun w hw => Nat.le_trans (Nat.le_add_right _ 32) hw.1) (fun _ h => LW_toR h) (fun _ _ _ _ hk hf => CBf_fr hk hf) rfl (Nat.le_of_ble_eq_true rfl) rfl rfl ?_
  refine G_world (B' := LWB κ s.heap.size q1.2 q2.2) (fun _ h => LW_ofR h) ?_
  refine G_icmp_eq (tgt := 1488) (pc' := 1256) C dL_law_1253 (by decide) rfl (fun _ => ?_) (fun hne => absurd h3 hne)
  exact kk _ _ h4
def St_energy (Sim : Nat → CS → RS → Prop) : Prop := ∀ (o : Nat) (z : CS) (r : RS) (a1 : Int32) (a2 : Int32), Sim o z r → ∃ (q1 : Int32 × CS) (q2 : Int32 × RS), fX9_energy o z a1 a2 = some q1 ∧ fX10_energy r a1 a2 = some q2 ∧ q1.1 = q2.1 ∧ Sim o q1.2 q2.2
set_option maxHeartbeats 4000000 in
set_option maxRecDepth 100000 in
theorem lc_energy {κ : KK} {p : Program} {l : Launch} {e : Env} {s : State} {m : MethodId} {below : List Frame} {meth : Method} {c : Code} {b L : Nat} {xs : Nat → Int32} (C : Cx κ p s m #[Value.ref b] meth c cL_law 4 RL ret) (hX : va_X b L xs s s.heap) (hbl : b < s.heap.size) (hL : L ≤ 3072) {Sim : Nat → CS → RS → Prop} (hst : St_energy Sim) {i : Nat} {z : CS} {r : RS} (hsim : Sim s.heap.size z r) (hi : i + 6 ≤ L) {cells slots : Nat} (hc : cells + 2 ≤ 600000) (hs : slots + 260 ≤ 7302250) (kk : ∀ (z' : CS) (r' : RS), Sim s.heap.size z' r' → GG p l e room_1 s m #[Value.ref b] below meth c (lw_Z below #[Value.ref b] s) (LA s.heap.size) 4 (cells + 2) (slots + 260) (LWB κ s.heap.size z' r') 1488 [(0, .ref b), (1, .ref s.heap.size), (2, .ref (s.heap.size + 32)), (3, .int (nI i))] []) : GG p l e room_1 s m #[Value.ref b] below meth c (lw_Z below #[Value.ref b] s) (LA s.heap.size) 4 cells slots (LWB κ s.heap.size z r) 1258 [(0, .ref b), (1, .ref s.heap.size), (2, .ref (s.heap.size + 32)), (3, .int (nI i))] [] := by
  obtain ⟨w1, hw1⟩ : ∃ w, xs (nI i + (1 : Int32)).toNatClampNeg = w := ⟨_, rfl⟩
  obtain ⟨w2, hw2⟩ : ∃ w, xs (nI i + (2 : Int32)).toNatClampNeg = w := ⟨_, rfl⟩
  refine G_aload_n (pc' := 1259) C dL_law_1258 1 rfl rfl ?_
  refine G_aload_n (pc' := 1260) C dL_law_1259 0 rfl rfl ?_
  refine G_iload_n (pc' := 1261) C dL_law_1260 3 rfl rfl ?_
  refine G_iconst (pc' := 1262) (v := (1 : Int32)) C dL_law_1261 (by decide) rfl ?_
  refine G_iadd (pc' := 1263) C dL_law_1262 rfl ?_
  refine G_sldV (pc' := 1264) C hX hbl (Nat.not_le.mpr hbl) dL_law_1263 (z_inL (j := 1) hi hL (by decide)) hw1 rfl ?_
  refine G_aload_n (pc' := 1265) C dL_law_1264 0 rfl rfl ?_
  refine G_iload_n (pc' := 1266) C dL_law_1265 3 rfl rfl ?_
  refine G_iconst (pc' := 1267) (v := (2 : Int32)) C dL_law_1266 (by decide) rfl ?_
  refine G_iadd (pc' := 1268) C dL_law_1267 rfl ?_
  refine G_sldV (pc' := 1269) C hX hbl (Nat.not_le.mpr hbl) dL_law_1268 (z_inL (j := 2) hi hL (by decide)) hw2 rfl ?_
  obtain ⟨q1, q2, h1, h2, h3, h4⟩ := hst s.heap.size z r w1 w2 hsim
  refine G_callV (F := RB κ (s.heap.size + 32) r) (pc' := 1272) C dL_law_1269 (tX9_energy κ l s.heap.size z w1 w2 q1 h1) (wV tw_ml_L_141 tw_im_X9_energy tw_se_X9_X9_energy tw_in_X9 tw_co_X9_energy) yd_X9_energy rfl fi_X9 (LW_c rfl) ⟨⟨by decide, by decide⟩, Nat.le_trans (Nat.add_le_add_left (show rmX9_energy.cells ≤ 2 by decide) _) hc, Nat.le_trans (Nat.add_le_add_left (show rmX9_energy.slots ≤ 260 by decide) _) hs⟩ (fun w hw => by rcases hw with h | h; exact h.1; exact Nat.le_trans (Nat.le_add_right _ _) h) (fun _ h => h) (fun _ _ _ _ hk hf => RB_fr hk hf) rfl (Nat.le_of_ble_eq_true rfl) rfl rfl ?_
  refine G_widen (k := cells + 2) (n := slots + 260) (Nat.add_le_add_left (show rmX9_energy.cells ≤ 2 by decide) _) (Nat.add_le_add_left (show rmX9_energy.slots ≤ 260 by decide) _) ?_
  refine G_world (B' := LWB κ s.heap.size q1.2 r) (fun _ h => h) ?_
  refine G_aload_n (pc' := 1273) C dL_law_1272 2 rfl rfl ?_
  refine G_aload_n (pc' := 1274) C dL_law_1273 0 rfl rfl ?_
  refine G_iload_n (pc' := 1275) C dL_law_1274 3 rfl rfl ?_
  refine G_iconst (pc' := 1276) (v := (1 : Int32)) C dL_law_1275 (by decide) rfl ?_
  refine G_iadd (pc' := 1277) C dL_law_1276 rfl ?_
  refine G_sldV (pc' := 1278) C hX hbl (Nat.not_le.mpr hbl) dL_law_1277 (z_inL (j := 1) hi hL (by decide)) hw1 rfl ?_
  refine G_aload_n (pc' := 1279) C dL_law_1278 0 rfl rfl ?_
  refine G_iload_n (pc' := 1280) C dL_law_1279 3 rfl rfl ?_
  refine G_iconst (pc' := 1281) (v := (2 : Int32)) C dL_law_1280 (by decide) rfl ?_
  refine G_iadd (pc' := 1282) C dL_law_1281 rfl ?_
  refine G_sldV (pc' := 1283) C hX hbl (Nat.not_le.mpr hbl) dL_law_1282 (z_inL (j := 2) hi hL (by decide)) hw2 rfl ?_
  refine G_callV (F := CBf κ s.heap.size q1.2) (pc' := 1286) C dL_law_1283 ((tX10_energy κ l (s.heap.size + 32) r w1 w2 q2 h2).sized rfl (cn q1.2)) (wV tw_ml_L_144 tw_im_X10_energy tw_se_X10_X10_energy tw_in_X10 tw_co_X10_energy) yd_X10_energy rfl fi_X10 (LW_r rfl) ⟨⟨by decide, by decide⟩, hc, hs⟩ (fun w hw => Nat.le_trans (Nat.le_add_right _ 32) hw.1) (fun _ h => LW_toR h) (fun _ _ _ _ hk hf => CBf_fr hk hf) rfl (Nat.le_of_ble_eq_true rfl) rfl rfl ?_
  refine G_world (B' := LWB κ s.heap.size q1.2 q2.2) (fun _ h => LW_ofR h) ?_
  refine G_icmp_eq (tgt := 1488) (pc' := 1289) C dL_law_1286 (by decide) rfl (fun _ => ?_) (fun hne => absurd h3 hne)
  exact kk _ _ h4
def St_pull (Sim : Nat → CS → RS → Prop) : Prop := ∀ (o : Nat) (z : CS) (r : RS) (a1 : Int32) (a2 : Int32), Sim o z r → ∃ (q1 : Int32 × CS) (q2 : Int32 × RS), fX9_pull o z a1 a2 = some q1 ∧ fX10_pull r a1 a2 = some q2 ∧ q1.1 = q2.1 ∧ Sim o q1.2 q2.2
set_option maxHeartbeats 4000000 in
set_option maxRecDepth 100000 in
theorem lc_pull {κ : KK} {p : Program} {l : Launch} {e : Env} {s : State} {m : MethodId} {below : List Frame} {meth : Method} {c : Code} {b L : Nat} {xs : Nat → Int32} (C : Cx κ p s m #[Value.ref b] meth c cL_law 4 RL ret) (hX : va_X b L xs s s.heap) (hbl : b < s.heap.size) (hL : L ≤ 3072) {Sim : Nat → CS → RS → Prop} (hst : St_pull Sim) {i : Nat} {z : CS} {r : RS} (hsim : Sim s.heap.size z r) (hi : i + 6 ≤ L) {cells slots : Nat} (hc : cells + 2 ≤ 600000) (hs : slots + 260 ≤ 7302250) (kk : ∀ (z' : CS) (r' : RS), Sim s.heap.size z' r' → GG p l e room_1 s m #[Value.ref b] below meth c (lw_Z below #[Value.ref b] s) (LA s.heap.size) 4 (cells + 2) (slots + 260) (LWB κ s.heap.size z' r') 1488 [(0, .ref b), (1, .ref s.heap.size), (2, .ref (s.heap.size + 32)), (3, .int (nI i))] []) : GG p l e room_1 s m #[Value.ref b] below meth c (lw_Z below #[Value.ref b] s) (LA s.heap.size) 4 cells slots (LWB κ s.heap.size z r) 1291 [(0, .ref b), (1, .ref s.heap.size), (2, .ref (s.heap.size + 32)), (3, .int (nI i))] [] := by
  obtain ⟨w1, hw1⟩ : ∃ w, xs (nI i + (1 : Int32)).toNatClampNeg = w := ⟨_, rfl⟩
  obtain ⟨w2, hw2⟩ : ∃ w, xs (nI i + (2 : Int32)).toNatClampNeg = w := ⟨_, rfl⟩
  refine G_aload_n (pc' := 1292) C dL_law_1291 1 rfl rfl ?_
  refine G_aload_n (pc' := 1293) C dL_law_1292 0 rfl rfl ?_
  refine G_iload_n (pc' := 1294) C dL_law_1293 3 rfl rfl ?_
  refine G_iconst (pc' := 1295) (v := (1 : Int32)) C dL_law_1294 (by decide) rfl ?_
  refine G_iadd (pc' := 1296) C dL_law_1295 rfl ?_
  refine G_sldV (pc' := 1297) C hX hbl (Nat.not_le.mpr hbl) dL_law_1296 (z_inL (j := 1) hi hL (by decide)) hw1 rfl ?_
  refine G_aload_n (pc' := 1298) C dL_law_1297 0 rfl rfl ?_
  refine G_iload_n (pc' := 1299) C dL_law_1298 3 rfl rfl ?_
  refine G_iconst (pc' := 1300) (v := (2 : Int32)) C dL_law_1299 (by decide) rfl ?_
  refine G_iadd (pc' := 1301) C dL_law_1300 rfl ?_
  refine G_sldV (pc' := 1302) C hX hbl (Nat.not_le.mpr hbl) dL_law_1301 (z_inL (j := 2) hi hL (by decide)) hw2 rfl ?_
  obtain ⟨q1, q2, h1, h2, h3, h4⟩ := hst s.heap.size z r w1 w2 hsim
  refine G_callV (F := RB κ (s.heap.size + 32) r) (pc' := 1305) C dL_law_1302 (tX9_pull κ l s.heap.size z w1 w2 q1 h1) (wV tw_ml_L_145 tw_im_X9_pull tw_se_X9_X9_pull tw_in_X9 tw_co_X9_pull) yd_X9_pull rfl fi_X9 (LW_c rfl) ⟨⟨by decide, by decide⟩, Nat.le_trans (Nat.add_le_add_left (show rmX9_pull.cells ≤ 2 by decide) _) hc, Nat.le_trans (Nat.add_le_add_left (show rmX9_pull.slots ≤ 260 by decide) _) hs⟩ (fun w hw => by rcases hw with h | h; exact h.1; exact Nat.le_trans (Nat.le_add_right _ _) h) (fun _ h => h) (fun _ _ _ _ hk hf => RB_fr hk hf) rfl (Nat.le_of_ble_eq_true rfl) rfl rfl ?_
  refine G_widen (k := cells + 2) (n := slots + 260) (Nat.add_le_add_left (show rmX9_pull.cells ≤ 2 by decide) _) (Nat.add_le_add_left (show rmX9_pull.slots ≤ 260 by decide) _) ?_
  refine G_world (B' := LWB κ s.heap.size q1.2 r) (fun _ h => h) ?_
  refine G_aload_n (pc' := 1306) C dL_law_1305 2 rfl rfl ?_
  refine G_aload_n (pc' := 1307) C dL_law_1306 0 rfl rfl ?_
  refine G_iload_n (pc' := 1308) C dL_law_1307 3 rfl rfl ?_
  refine G_iconst (pc' := 1309) (v := (1 : Int32)) C dL_law_1308 (by decide) rfl ?_
  refine G_iadd (pc' := 1310) C dL_law_1309 rfl ?_
  refine G_sldV (pc' := 1311) C hX hbl (Nat.not_le.mpr hbl) dL_law_1310 (z_inL (j := 1) hi hL (by decide)) hw1 rfl ?_
  refine G_aload_n (pc' := 1312) C dL_law_1311 0 rfl rfl ?_
  refine G_iload_n (pc' := 1313) C dL_law_1312 3 rfl rfl ?_
  refine G_iconst (pc' := 1314) (v := (2 : Int32)) C dL_law_1313 (by decide) rfl ?_
  refine G_iadd (pc' := 1315) C dL_law_1314 rfl ?_
  refine G_sldV (pc' := 1316) C hX hbl (Nat.not_le.mpr hbl) dL_law_1315 (z_inL (j := 2) hi hL (by decide)) hw2 rfl ?_
  refine G_callV (F := CBf κ s.heap.size q1.2) (pc' := 1319) C dL_law_1316 ((tX10_pull κ l (s.heap.size + 32) r w1 w2 q2 h2).sized rfl (cn q1.2)) (wV tw_ml_L_148 tw_im_X10_pull tw_se_X10_X10_pull tw_in_X10 tw_co_X10_pull) yd_X10_pull rfl fi_X10 (LW_r rfl) ⟨⟨by decide, by decide⟩, hc, hs⟩ (fun w hw => Nat.le_trans (Nat.le_add_right _ 32) hw.1) (fun _ h => LW_toR h) (fun _ _ _ _ hk hf => CBf_fr hk hf) rfl (Nat.le_of_ble_eq_true rfl) rfl rfl ?_
  refine G_world (B' := LWB κ s.heap.size q1.2 q2.2) (fun _ h => LW_ofR h) ?_
  refine G_icmp_eq (tgt := 1488) (pc' := 1322) C dL_law_1319 (by decide) rfl (fun _ => ?_) (fun hne => absurd h3 hne)
  exact kk _ _ h4
def St_form (Sim : Nat → CS → RS → Prop) : Prop := ∀ (o : Nat) (z : CS) (r : RS) (a1 : Int32), Sim o z r → ∃ (q1 : Int32 × CS) (q2 : Int32 × RS), fX9_form o z a1 = some q1 ∧ fX10_form r a1 = some q2 ∧ q1.1 = q2.1 ∧ Sim o q1.2 q2.2
set_option maxHeartbeats 4000000 in
set_option maxRecDepth 100000 in
theorem lc_form {κ : KK} {p : Program} {l : Launch} {e : Env} {s : State} {m : MethodId} {below : List Frame} {meth : Method} {c : Code} {b L : Nat} {xs : Nat → Int32} (C : Cx κ p s m #[Value.ref b] meth c cL_law 4 RL ret) (hX : va_X b L xs s s.heap) (hbl : b < s.heap.size) (hL : L ≤ 3072) {Sim : Nat → CS → RS → Prop} (hst : St_form Sim) {i : Nat} {z : CS} {r : RS} (hsim : Sim s.heap.size z r) (hi : i + 6 ≤ L) {cells slots : Nat} (hc : cells + 2 ≤ 600000) (hs : slots + 260 ≤ 7302250) (kk : ∀ (z' : CS) (r' : RS), Sim s.heap.size z' r' → GG p l e room_1 s m #[Value.ref b] below meth c (lw_Z below #[Value.ref b] s) (LA s.heap.size) 4 (cells + 2) (slots + 260) (LWB κ s.heap.size z' r') 1488 [(0, .ref b), (1, .ref s.heap.size), (2, .ref (s.heap.size + 32)), (3, .int (nI i))] []) : GG p l e room_1 s m #[Value.ref b] below meth c (lw_Z below #[Value.ref b] s) (LA s.heap.size) 4 cells slots (LWB κ s.heap.size z r) 1324 [(0, .ref b), (1, .ref s.heap.size), (2, .ref (s.heap.size + 32)), (3, .int (nI i))] [] := by
  obtain ⟨w1, hw1⟩ : ∃ w, xs (nI i + (1 : Int32)).toNatClampNeg = w := ⟨_, rfl⟩
  refine G_aload_n (pc' := 1325) C dL_law_1324 1 rfl rfl ?_
  refine G_aload_n (pc' := 1326) C dL_law_1325 0 rfl rfl ?_
  refine G_iload_n (pc' := 1327) C dL_law_1326 3 rfl rfl ?_
  refine G_iconst (pc' := 1328) (v := (1 : Int32)) C dL_law_1327 (by decide) rfl ?_
  refine G_iadd (pc' := 1329) C dL_law_1328 rfl ?_
  refine G_sldV (pc' := 1330) C hX hbl (Nat.not_le.mpr hbl) dL_law_1329 (z_inL (j := 1) hi hL (by decide)) hw1 rfl ?_
  obtain ⟨q1, q2, h1, h2, h3, h4⟩ := hst s.heap.size z r w1 hsim
  refine G_callV (F := RB κ (s.heap.size + 32) r) (pc' := 1333) C dL_law_1330 (tX9_form κ l s.heap.size z w1 q1 h1) (wV tw_ml_L_149 tw_im_X9_form tw_se_X9_X9_form tw_in_X9 tw_co_X9_form) yd_X9_form rfl fi_X9 (LW_c rfl) ⟨⟨by decide, by decide⟩, Nat.le_trans (Nat.add_le_add_left (show rmX9_form.cells ≤ 2 by decide) _) hc, Nat.le_trans (Nat.add_le_add_left (show rmX9_form.slots ≤ 260 by decide) _) hs⟩ (fun w hw => by rcases hw with h | h; exact h.1; exact Nat.le_trans (Nat.le_add_right _ _) h) (fun _ h => h) (fun _ _ _ _ hk hf => RB_fr hk hf) rfl (Nat.le_of_ble_eq_true rfl) rfl rfl ?_
  refine G_widen (k := cells + 2) (n := slots + 260) (Nat.add_le_add_left (show rmX9_form.cells ≤ 2 by decide) _) (Nat.add_le_add_left (show rmX9_form.slots ≤ 260 by decide) _) ?_
  refine G_world (B' := LWB κ s.heap.size q1.2 r) (fun _ h => h) ?_
  refine G_aload_n (pc' := 1334) C dL_law_1333 2 rfl rfl ?_
  refine G_aload_n (pc' := 1335) C dL_law_1334 0 rfl rfl ?_
  refine G_iload_n (pc' := 1336) C dL_law_1335 3 rfl rfl ?_
  refine G_iconst (pc' := 1337) (v := (1 : Int32)) C dL_law_1336 (by decide) rfl ?_
  refine G_iadd (pc' := 1338) C dL_law_1337 rfl ?_
  refine G_sldV (pc' := 1339) C hX hbl (Nat.not_le.mpr hbl) dL_law_1338 (z_inL (j := 1) hi hL (by decide)) hw1 rfl ?_
  refine G_callV (F := CBf κ s.heap.size q1.2) (pc' := 1342) C dL_law_1339 ((tX10_form κ l (s.heap.size + 32) r w1 q2 h2).sized rfl (cn q1.2)) (wV tw_ml_L_152 tw_im_X10_form tw_se_X10_X10_form tw_in_X10 tw_co_X10_form) yd_X10_form rfl fi_X10 (LW_r rfl) ⟨⟨by decide, by decide⟩, hc, hs⟩ (fun w hw => Nat.le_trans (Nat.le_add_right _ 32) hw.1) (fun _ h => LW_toR h) (fun _ _ _ _ hk hf => CBf_fr hk hf) rfl (Nat.le_of_ble_eq_true rfl) rfl rfl ?_
  refine G_world (B' := LWB κ s.heap.size q1.2 q2.2) (fun _ h => LW_ofR h) ?_
  refine G_icmp_eq (tgt := 1488) (pc' := 1345) C dL_law_1342 (by decide) rfl (fun _ => ?_) (fun hne => absurd h3 hne)
  exact kk _ _ h4
def St_cube (Sim : Nat → CS → RS → Prop) : Prop := ∀ (o : Nat) (z : CS) (r : RS) (a1 : Int32), Sim o z r → ∃ (q1 : Int32) (q2 : Int32), fX9_cube o z a1 = some q1 ∧ fX10_cube r a1 = some q2 ∧ q1 = q2 ∧ Sim o z r
set_option maxHeartbeats 4000000 in
set_option maxRecDepth 100000 in
theorem lc_cube {κ : KK} {p : Program} {l : Launch} {e : Env} {s : State} {m : MethodId} {below : List Frame} {meth : Method} {c : Code} {b L : Nat} {xs : Nat → Int32} (C : Cx κ p s m #[Value.ref b] meth c cL_law 4 RL ret) (hX : va_X b L xs s s.heap) (hbl : b < s.heap.size) (hL : L ≤ 3072) {Sim : Nat → CS → RS → Prop} (hst : St_cube Sim) {i : Nat} {z : CS} {r : RS} (hsim : Sim s.heap.size z r) (hi : i + 6 ≤ L) {cells slots : Nat} (hc : cells + 2 ≤ 600000) (hs : slots + 260 ≤ 7302250) (kk : ∀ (z' : CS) (r' : RS), Sim s.heap.size z' r' → GG p l e room_1 s m #[Value.ref b] below meth c (lw_Z below #[Value.ref b] s) (LA s.heap.size) 4 (cells + 2) (slots + 260) (LWB κ s.heap.size z' r') 1488 [(0, .ref b), (1, .ref s.heap.size), (2, .ref (s.heap.size + 32)), (3, .int (nI i))] []) : GG p l e room_1 s m #[Value.ref b] below meth c (lw_Z below #[Value.ref b] s) (LA s.heap.size) 4 cells slots (LWB κ s.heap.size z r) 1347 [(0, .ref b), (1, .ref s.heap.size), (2, .ref (s.heap.size + 32)), (3, .int (nI i))] [] := by
  obtain ⟨w1, hw1⟩ : ∃ w, xs (nI i + (1 : Int32)).toNatClampNeg = w := ⟨_, rfl⟩
  refine G_aload_n (pc' := 1348) C dL_law_1347 1 rfl rfl ?_
  refine G_aload_n (pc' := 1349) C dL_law_1348 0 rfl rfl ?_
  refine G_iload_n (pc' := 1350) C dL_law_1349 3 rfl rfl ?_
  refine G_iconst (pc' := 1351) (v := (1 : Int32)) C dL_law_1350 (by decide) rfl ?_
  refine G_iadd (pc' := 1352) C dL_law_1351 rfl ?_
  refine G_sldV (pc' := 1353) C hX hbl (Nat.not_le.mpr hbl) dL_law_1352 (z_inL (j := 1) hi hL (by decide)) hw1 rfl ?_
  obtain ⟨q1, q2, h1, h2, h3, h4⟩ := hst s.heap.size z r w1 hsim
  refine G_callV (F := RB κ (s.heap.size + 32) r) (pc' := 1356) C dL_law_1353 (tX9_cube κ l s.heap.size z w1 q1 h1) (wV tw_ml_L_153 tw_im_X9_cube tw_se_X9_X9_cube tw_in_X9 tw_co_X9_cube) yd_X9_cube rfl fi_X9 (LW_c rfl) ⟨⟨by decide, by decide⟩, Nat.le_trans (Nat.add_le_add_left (show rmX9_cube.cells ≤ 2 by decide) _) hc, Nat.le_trans (Nat.add_le_add_left (show rmX9_cube.slots ≤ 260 by decide) _) hs⟩ (fun w hw => by rcases hw with h | h; exact h.1; exact Nat.le_trans (Nat.le_add_right _ _) h) (fun _ h => h) (fun _ _ _ _ hk hf => RB_fr hk hf) rfl (Nat.le_of_ble_eq_true rfl) rfl rfl ?_
  refine G_widen (k := cells + 2) (n := slots + 260) (Nat.add_le_add_left (show rmX9_cube.cells ≤ 2 by decide) _) (Nat.add_le_add_left (show rmX9_cube.slots ≤ 260 by decide) _) ?_
  refine G_world (B' := LWB κ s.heap.size z r) (fun _ h => h) ?_
  refine G_aload_n (pc' := 1357) C dL_law_1356 2 rfl rfl ?_
  refine G_aload_n (pc' := 1358) C dL_law_1357 0 rfl rfl ?_
  refine G_iload_n (pc' := 1359) C dL_law_1358 3 rfl rfl ?_
  refine G_iconst (pc' := 1360) (v := (1 : Int32)) C dL_law_1359 (by decide) rfl ?_
  refine G_iadd (pc' := 1361) C dL_law_1360 rfl ?_
  refine G_sldV (pc' := 1362) C hX hbl (Nat.not_le.mpr hbl) dL_law_1361 (z_inL (j := 1) hi hL (by decide)) hw1 rfl ?_
  refine G_callV (F := CBf κ s.heap.size z) (pc' := 1365) C dL_law_1362 ((tX10_cube κ l (s.heap.size + 32) r w1 q2 h2).sized rfl (cn z)) (wV tw_ml_L_156 tw_im_X10_cube tw_se_X10_X10_cube tw_in_X10 tw_co_X10_cube) yd_X10_cube rfl fi_X10 (LW_r rfl) ⟨⟨by decide, by decide⟩, hc, hs⟩ (fun w hw => Nat.le_trans (Nat.le_add_right _ 32) hw.1) (fun _ h => LW_toR h) (fun _ _ _ _ hk hf => CBf_fr hk hf) rfl (Nat.le_of_ble_eq_true rfl) rfl rfl ?_
  refine G_world (B' := LWB κ s.heap.size z r) (fun _ h => LW_ofR h) ?_
  refine G_icmp_eq (tgt := 1488) (pc' := 1368) C dL_law_1365 (by decide) rfl (fun _ => ?_) (fun hne => absurd h3 hne)
  exact kk _ _ h4
def St_letters (Sim : Nat → CS → RS → Prop) : Prop := ∀ (o : Nat) (z : CS) (r : RS) (a1 : Int32), Sim o z r → ∃ (q1 : Int32 × CS) (q2 : Int32 × RS), fX9_letters o z a1 = some q1 ∧ fX10_letters r a1 = some q2 ∧ q1.1 = q2.1 ∧ Sim o q1.2 q2.2
set_option maxHeartbeats 4000000 in
set_option maxRecDepth 100000 in
theorem lc_letters {κ : KK} {p : Program} {l : Launch} {e : Env} {s : State} {m : MethodId} {below : List Frame} {meth : Method} {c : Code} {b L : Nat} {xs : Nat → Int32} (C : Cx κ p s m #[Value.ref b] meth c cL_law 4 RL ret) (hX : va_X b L xs s s.heap) (hbl : b < s.heap.size) (hL : L ≤ 3072) {Sim : Nat → CS → RS → Prop} (hst : St_letters Sim) {i : Nat} {z : CS} {r : RS} (hsim : Sim s.heap.size z r) (hi : i + 6 ≤ L) {cells slots : Nat} (hc : cells + 2 ≤ 600000) (hs : slots + 260 ≤ 7302250) (kk : ∀ (z' : CS) (r' : RS), Sim s.heap.size z' r' → GG p l e room_1 s m #[Value.ref b] below meth c (lw_Z below #[Value.ref b] s) (LA s.heap.size) 4 (cells + 2) (slots + 260) (LWB κ s.heap.size z' r') 1488 [(0, .ref b), (1, .ref s.heap.size), (2, .ref (s.heap.size + 32)), (3, .int (nI i))] []) : GG p l e room_1 s m #[Value.ref b] below meth c (lw_Z below #[Value.ref b] s) (LA s.heap.size) 4 cells slots (LWB κ s.heap.size z r) 1370 [(0, .ref b), (1, .ref s.heap.size), (2, .ref (s.heap.size + 32)), (3, .int (nI i))] [] := by
  obtain ⟨w1, hw1⟩ : ∃ w, xs (nI i + (1 : Int32)).toNatClampNeg = w := ⟨_, rfl⟩
  refine G_aload_n (pc' := 1371) C dL_law_1370 1 rfl rfl ?_
  refine G_aload_n (pc' := 1372) C dL_law_1371 0 rfl rfl ?_
  refine G_iload_n (pc' := 1373) C dL_law_1372 3 rfl rfl ?_
  refine G_iconst (pc' := 1374) (v := (1 : Int32)) C dL_law_1373 (by decide) rfl ?_
  refine G_iadd (pc' := 1375) C dL_law_1374 rfl ?_
  refine G_sldV (pc' := 1376) C hX hbl (Nat.not_le.mpr hbl) dL_law_1375 (z_inL (j := 1) hi hL (by decide)) hw1 rfl ?_
  obtain ⟨q1, q2, h1, h2, h3, h4⟩ := hst s.heap.size z r w1 hsim
  refine G_callV (F := RB κ (s.heap.size + 32) r) (pc' := 1379) C dL_law_1376 (tX9_letters κ l s.heap.size z w1 q1 h1) (wV tw_ml_L_157 tw_im_X9_letters tw_se_X9_X9_letters tw_in_X9 tw_co_X9_letters) yd_X9_letters rfl fi_X9 (LW_c rfl) ⟨⟨by decide, by decide⟩, Nat.le_trans (Nat.add_le_add_left (show rmX9_letters.cells ≤ 2 by decide) _) hc, Nat.le_trans (Nat.add_le_add_left (show rmX9_letters.slots ≤ 260 by decide) _) hs⟩ (fun w hw => by rcases hw with h | h; exact h.1; exact Nat.le_trans (Nat.le_add_right _ _) h) (fun _ h => h) (fun _ _ _ _ hk hf => RB_fr hk hf) rfl (Nat.le_of_ble_eq_true rfl) rfl rfl ?_
  refine G_widen (k := cells + 2) (n := slots + 260) (Nat.add_le_add_left (show rmX9_letters.cells ≤ 2 by decide) _) (Nat.add_le_add_left (show rmX9_letters.slots ≤ 260 by decide) _) ?_
  refine G_world (B' := LWB κ s.heap.size q1.2 r) (fun _ h => h) ?_
  refine G_aload_n (pc' := 1380) C dL_law_1379 2 rfl rfl ?_
  refine G_aload_n (pc' := 1381) C dL_law_1380 0 rfl rfl ?_
  refine G_iload_n (pc' := 1382) C dL_law_1381 3 rfl rfl ?_
  refine G_iconst (pc' := 1383) (v := (1 : Int32)) C dL_law_1382 (by decide) rfl ?_
  refine G_iadd (pc' := 1384) C dL_law_1383 rfl ?_
  refine G_sldV (pc' := 1385) C hX hbl (Nat.not_le.mpr hbl) dL_law_1384 (z_inL (j := 1) hi hL (by decide)) hw1 rfl ?_
  refine G_callV (F := CBf κ s.heap.size q1.2) (pc' := 1388) C dL_law_1385 ((tX10_letters κ l (s.heap.size + 32) r w1 q2 h2).sized rfl (cn q1.2)) (wV tw_ml_L_160 tw_im_X10_letters tw_se_X10_X10_letters tw_in_X10 tw_co_X10_letters) yd_X10_letters rfl fi_X10 (LW_r rfl) ⟨⟨by decide, by decide⟩, hc, hs⟩ (fun w hw => Nat.le_trans (Nat.le_add_right _ 32) hw.1) (fun _ h => LW_toR h) (fun _ _ _ _ hk hf => CBf_fr hk hf) rfl (Nat.le_of_ble_eq_true rfl) rfl rfl ?_
  refine G_world (B' := LWB κ s.heap.size q1.2 q2.2) (fun _ h => LW_ofR h) ?_
  refine G_icmp_eq (tgt := 1488) (pc' := 1391) C dL_law_1388 (by decide) rfl (fun _ => ?_) (fun hne => absurd h3 hne)
  exact kk _ _ h4
def St_game (Sim : Nat → CS → RS → Prop) : Prop := ∀ (o : Nat) (z : CS) (r : RS) (a1 : Int32), Sim o z r → ∃ (q1 : Int32 × CS) (q2 : Int32 × RS), fX9_game o z a1 = some q1 ∧ fX10_game r a1 = some q2 ∧ q1.1 = q2.1 ∧ Sim o q1.2 q2.2
set_option maxHeartbeats 4000000 in
set_option maxRecDepth 100000 in
theorem lc_game {κ : KK} {p : Program} {l : Launch} {e : Env} {s : State} {m : MethodId} {below : List Frame} {meth : Method} {c : Code} {b L : Nat} {xs : Nat → Int32} (C : Cx κ p s m #[Value.ref b] meth c cL_law 4 RL ret) (hX : va_X b L xs s s.heap) (hbl : b < s.heap.size) (hL : L ≤ 3072) {Sim : Nat → CS → RS → Prop} (hst : St_game Sim) {i : Nat} {z : CS} {r : RS} (hsim : Sim s.heap.size z r) (hi : i + 6 ≤ L) {cells slots : Nat} (hc : cells + 2 ≤ 600000) (hs : slots + 260 ≤ 7302250) (kk : ∀ (z' : CS) (r' : RS), Sim s.heap.size z' r' → GG p l e room_1 s m #[Value.ref b] below meth c (lw_Z below #[Value.ref b] s) (LA s.heap.size) 4 (cells + 2) (slots + 260) (LWB κ s.heap.size z' r') 1488 [(0, .ref b), (1, .ref s.heap.size), (2, .ref (s.heap.size + 32)), (3, .int (nI i))] []) : GG p l e room_1 s m #[Value.ref b] below meth c (lw_Z below #[Value.ref b] s) (LA s.heap.size) 4 cells slots (LWB κ s.heap.size z r) 1393 [(0, .ref b), (1, .ref s.heap.size), (2, .ref (s.heap.size + 32)), (3, .int (nI i))] [] := by
  obtain ⟨w1, hw1⟩ : ∃ w, xs (nI i + (1 : Int32)).toNatClampNeg = w := ⟨_, rfl⟩
  refine G_aload_n (pc' := 1394) C dL_law_1393 1 rfl rfl ?_
  refine G_aload_n (pc' := 1395) C dL_law_1394 0 rfl rfl ?_
  refine G_iload_n (pc' := 1396) C dL_law_1395 3 rfl rfl ?_
  refine G_iconst (pc' := 1397) (v := (1 : Int32)) C dL_law_1396 (by decide) rfl ?_
  refine G_iadd (pc' := 1398) C dL_law_1397 rfl ?_
  refine G_sldV (pc' := 1399) C hX hbl (Nat.not_le.mpr hbl) dL_law_1398 (z_inL (j := 1) hi hL (by decide)) hw1 rfl ?_
  obtain ⟨q1, q2, h1, h2, h3, h4⟩ := hst s.heap.size z r w1 hsim
  refine G_callV (F := RB κ (s.heap.size + 32) r) (pc' := 1402) C dL_law_1399 (tX9_game κ l s.heap.size z w1 q1 h1) (wV tw_ml_L_161 tw_im_X9_game tw_se_X9_X9_game tw_in_X9 tw_co_X9_game) yd_X9_game rfl fi_X9 (LW_c rfl) ⟨⟨by decide, by decide⟩, Nat.le_trans (Nat.add_le_add_left (show rmX9_game.cells ≤ 2 by decide) _) hc, Nat.le_trans (Nat.add_le_add_left (show rmX9_game.slots ≤ 260 by decide) _) hs⟩ (fun w hw => by rcases hw with h | h; exact h.1; exact Nat.le_trans (Nat.le_add_right _ _) h) (fun _ h => h) (fun _ _ _ _ hk hf => RB_fr hk hf) rfl (Nat.le_of_ble_eq_true rfl) rfl rfl ?_
  refine G_widen (k := cells + 2) (n := slots + 260) (Nat.add_le_add_left (show rmX9_game.cells ≤ 2 by decide) _) (Nat.add_le_add_left (show rmX9_game.slots ≤ 260 by decide) _) ?_
  refine G_world (B' := LWB κ s.heap.size q1.2 r) (fun _ h => h) ?_
  refine G_aload_n (pc' := 1403) C dL_law_1402 2 rfl rfl ?_
  refine G_aload_n (pc' := 1404) C dL_law_1403 0 rfl rfl ?_
  refine G_iload_n (pc' := 1405) C dL_law_1404 3 rfl rfl ?_
  refine G_iconst (pc' := 1406) (v := (1 : Int32)) C dL_law_1405 (by decide) rfl ?_
  refine G_iadd (pc' := 1407) C dL_law_1406 rfl ?_
  refine G_sldV (pc' := 1408) C hX hbl (Nat.not_le.mpr hbl) dL_law_1407 (z_inL (j := 1) hi hL (by decide)) hw1 rfl ?_
  refine G_callV (F := CBf κ s.heap.size q1.2) (pc' := 1411) C dL_law_1408 ((tX10_game κ l (s.heap.size + 32) r w1 q2 h2).sized rfl (cn q1.2)) (wV tw_ml_L_164 tw_im_X10_game tw_se_X10_X10_game tw_in_X10 tw_co_X10_game) yd_X10_game rfl fi_X10 (LW_r rfl) ⟨⟨by decide, by decide⟩, hc, hs⟩ (fun w hw => Nat.le_trans (Nat.le_add_right _ 32) hw.1) (fun _ h => LW_toR h) (fun _ _ _ _ hk hf => CBf_fr hk hf) rfl (Nat.le_of_ble_eq_true rfl) rfl rfl ?_
  refine G_world (B' := LWB κ s.heap.size q1.2 q2.2) (fun _ h => LW_ofR h) ?_
  refine G_icmp_eq (tgt := 1488) (pc' := 1414) C dL_law_1411 (by decide) rfl (fun _ => ?_) (fun hne => absurd h3 hne)
  exact kk _ _ h4
def St_ask (Sim : Nat → CS → RS → Prop) : Prop := ∀ (o : Nat) (z : CS) (r : RS) (a1 : Int32), Sim o z r → ∃ (q1 : Int32 × CS) (q2 : Int32 × RS), fX9_ask o z a1 = some q1 ∧ fX10_ask r a1 = some q2 ∧ q1.1 = q2.1 ∧ Sim o q1.2 q2.2
set_option maxHeartbeats 4000000 in
set_option maxRecDepth 100000 in
theorem lc_ask {κ : KK} {p : Program} {l : Launch} {e : Env} {s : State} {m : MethodId} {below : List Frame} {meth : Method} {c : Code} {b L : Nat} {xs : Nat → Int32} (C : Cx κ p s m #[Value.ref b] meth c cL_law 4 RL ret) (hX : va_X b L xs s s.heap) (hbl : b < s.heap.size) (hL : L ≤ 3072) {Sim : Nat → CS → RS → Prop} (hst : St_ask Sim) {i : Nat} {z : CS} {r : RS} (hsim : Sim s.heap.size z r) (hi : i + 6 ≤ L) {cells slots : Nat} (hc : cells + 2 ≤ 600000) (hs : slots + 260 ≤ 7302250) (kk : ∀ (z' : CS) (r' : RS), Sim s.heap.size z' r' → GG p l e room_1 s m #[Value.ref b] below meth c (lw_Z below #[Value.ref b] s) (LA s.heap.size) 4 (cells + 2) (slots + 260) (LWB κ s.heap.size z' r') 1488 [(0, .ref b), (1, .ref s.heap.size), (2, .ref (s.heap.size + 32)), (3, .int (nI i))] []) : GG p l e room_1 s m #[Value.ref b] below meth c (lw_Z below #[Value.ref b] s) (LA s.heap.size) 4 cells slots (LWB κ s.heap.size z r) 1416 [(0, .ref b), (1, .ref s.heap.size), (2, .ref (s.heap.size + 32)), (3, .int (nI i))] [] := by
  obtain ⟨w1, hw1⟩ : ∃ w, xs (nI i + (1 : Int32)).toNatClampNeg = w := ⟨_, rfl⟩
  refine G_aload_n (pc' := 1417) C dL_law_1416 1 rfl rfl ?_
  refine G_aload_n (pc' := 1418) C dL_law_1417 0 rfl rfl ?_
  refine G_iload_n (pc' := 1419) C dL_law_1418 3 rfl rfl ?_
  refine G_iconst (pc' := 1420) (v := (1 : Int32)) C dL_law_1419 (by decide) rfl ?_
  refine G_iadd (pc' := 1421) C dL_law_1420 rfl ?_
  refine G_sldV (pc' := 1422) C hX hbl (Nat.not_le.mpr hbl) dL_law_1421 (z_inL (j := 1) hi hL (by decide)) hw1 rfl ?_
  obtain ⟨q1, q2, h1, h2, h3, h4⟩ := hst s.heap.size z r w1 hsim
  refine G_callV (F := RB κ (s.heap.size + 32) r) (pc' := 1425) C dL_law_1422 (tX9_ask κ l s.heap.size z w1 q1 h1) (wV tw_ml_L_165 tw_im_X9_ask tw_se_X9_X9_ask tw_in_X9 tw_co_X9_ask) yd_X9_ask rfl fi_X9 (LW_c rfl) ⟨⟨by decide, by decide⟩, Nat.le_trans (Nat.add_le_add_left (show rmX9_ask.cells ≤ 2 by decide) _) hc, Nat.le_trans (Nat.add_le_add_left (show rmX9_ask.slots ≤ 260 by decide) _) hs⟩ (fun w hw => by rcases hw with h | h; exact h.1; exact Nat.le_trans (Nat.le_add_right _ _) h) (fun _ h => h) (fun _ _ _ _ hk hf => RB_fr hk hf) rfl (Nat.le_of_ble_eq_true rfl) rfl rfl ?_
  refine G_widen (k := cells + 2) (n := slots + 260) (Nat.add_le_add_left (show rmX9_ask.cells ≤ 2 by decide) _) (Nat.add_le_add_left (show rmX9_ask.slots ≤ 260 by decide) _) ?_
  refine G_world (B' := LWB κ s.heap.size q1.2 r) (fun _ h => h) ?_
  refine G_aload_n (pc' := 1426) C dL_law_1425 2 rfl rfl ?_
  refine G_aload_n (pc' := 1427) C dL_law_1426 0 rfl rfl ?_
  refine G_iload_n (pc' := 1428) C dL_law_1427 3 rfl rfl ?_
  refine G_iconst (pc' := 1429) (v := (1 : Int32)) C dL_law_1428 (by decide) rfl ?_
  refine G_iadd (pc' := 1430) C dL_law_1429 rfl ?_
  refine G_sldV (pc' := 1431) C hX hbl (Nat.not_le.mpr hbl) dL_law_1430 (z_inL (j := 1) hi hL (by decide)) hw1 rfl ?_
  refine G_callV (F := CBf κ s.heap.size q1.2) (pc' := 1434) C dL_law_1431 ((tX10_ask κ l (s.heap.size + 32) r w1 q2 h2).sized rfl (cn q1.2)) (wV tw_ml_L_168 tw_im_X10_ask tw_se_X10_X10_ask tw_in_X10 tw_co_X10_ask) yd_X10_ask rfl fi_X10 (LW_r rfl) ⟨⟨by decide, by decide⟩, hc, hs⟩ (fun w hw => Nat.le_trans (Nat.le_add_right _ 32) hw.1) (fun _ h => LW_toR h) (fun _ _ _ _ hk hf => CBf_fr hk hf) rfl (Nat.le_of_ble_eq_true rfl) rfl rfl ?_
  refine G_world (B' := LWB κ s.heap.size q1.2 q2.2) (fun _ h => LW_ofR h) ?_
  refine G_icmp_eq (tgt := 1488) (pc' := 1437) C dL_law_1434 (by decide) rfl (fun _ => ?_) (fun hne => absurd h3 hne)
  exact kk _ _ h4
def St_keep (Sim : Nat → CS → RS → Prop) : Prop := ∀ (o : Nat) (z : CS) (r : RS) , Sim o z r → ∃ (q1 : Int32 × CS) (q2 : Int32 × RS), fX9_keep o z  = some q1 ∧ fX10_keep r  = some q2 ∧ q1.1 = q2.1 ∧ Sim o q1.2 q2.2
set_option maxHeartbeats 4000000 in
set_option maxRecDepth 100000 in
theorem lc_keep {κ : KK} {p : Program} {l : Launch} {e : Env} {s : State} {m : MethodId} {below : List Frame} {meth : Method} {c : Code} {b L : Nat} {xs : Nat → Int32} (C : Cx κ p s m #[Value.ref b] meth c cL_law 4 RL ret) (hX : va_X b L xs s s.heap) (hbl : b < s.heap.size) (hL : L ≤ 3072) {Sim : Nat → CS → RS → Prop} (hst : St_keep Sim) {i : Nat} {z : CS} {r : RS} (hsim : Sim s.heap.size z r) (hi : i + 6 ≤ L) {cells slots : Nat} (hc : cells + 2 ≤ 600000) (hs : slots + 260 ≤ 7302250) (kk : ∀ (z' : CS) (r' : RS), Sim s.heap.size z' r' → GG p l e room_1 s m #[Value.ref b] below meth c (lw_Z below #[Value.ref b] s) (LA s.heap.size) 4 (cells + 2) (slots + 260) (LWB κ s.heap.size z' r') 1488 [(0, .ref b), (1, .ref s.heap.size), (2, .ref (s.heap.size + 32)), (3, .int (nI i))] []) : GG p l e room_1 s m #[Value.ref b] below meth c (lw_Z below #[Value.ref b] s) (LA s.heap.size) 4 cells slots (LWB κ s.heap.size z r) 1439 [(0, .ref b), (1, .ref s.heap.size), (2, .ref (s.heap.size + 32)), (3, .int (nI i))] [] := by
  refine G_aload_n (pc' := 1440) C dL_law_1439 1 rfl rfl ?_
  obtain ⟨q1, q2, h1, h2, h3, h4⟩ := hst s.heap.size z r  hsim
  refine G_callV (F := RB κ (s.heap.size + 32) r) (pc' := 1443) C dL_law_1440 (tX9_keep κ l s.heap.size z  q1 h1) (wV tw_ml_L_169 tw_im_X9_keep tw_se_X9_X9_keep tw_in_X9 tw_co_X9_keep) yd_X9_keep rfl fi_X9 (LW_c rfl) ⟨⟨by decide, by decide⟩, Nat.le_trans (Nat.add_le_add_left (show rmX9_keep.cells ≤ 2 by decide) _) hc, Nat.le_trans (Nat.add_le_add_left (show rmX9_keep.slots ≤ 260 by decide) _) hs⟩ (fun w hw => by rcases hw with h | h; exact h.1; exact Nat.le_trans (Nat.le_add_right _ _) h) (fun _ h => h) (fun _ _ _ _ hk hf => RB_fr hk hf) rfl (Nat.le_of_ble_eq_true rfl) rfl rfl ?_
  refine G_widen (k := cells + 2) (n := slots + 260) (Nat.add_le_add_left (show rmX9_keep.cells ≤ 2 by decide) _) (Nat.add_le_add_left (show rmX9_keep.slots ≤ 260 by decide) _) ?_
  refine G_world (B' := LWB κ s.heap.size q1.2 r) (fun _ h => h) ?_
  refine G_aload_n (pc' := 1444) C dL_law_1443 2 rfl rfl ?_
  refine G_callV (F := CBf κ s.heap.size q1.2) (pc' := 1447) C dL_law_1444 ((tX10_keep κ l (s.heap.size + 32) r  q2 h2).sized rfl (cn q1.2)) (wV tw_ml_L_173 tw_im_X10_keep tw_se_X10_X10_keep tw_in_X10 tw_co_X10_keep) yd_X10_keep rfl fi_X10 (LW_r rfl) ⟨⟨by decide, by decide⟩, hc, hs⟩ (fun w hw => Nat.le_trans (Nat.le_add_right _ 32) hw.1) (fun _ h => LW_toR h) (fun _ _ _ _ hk hf => CBf_fr hk hf) rfl (Nat.le_of_ble_eq_true rfl) rfl rfl ?_
  refine G_world (B' := LWB κ s.heap.size q1.2 q2.2) (fun _ h => LW_ofR h) ?_
  refine G_icmp_eq (tgt := 1488) (pc' := 1450) C dL_law_1447 (by decide) rfl (fun _ => ?_) (fun hne => absurd h3 hne)
  exact kk _ _ h4
def St_back (Sim : Nat → CS → RS → Prop) : Prop := ∀ (o : Nat) (z : CS) (r : RS) , Sim o z r → ∃ (q1 : Int32 × CS) (q2 : Int32 × RS), fX9_back o z  = some q1 ∧ fX10_back r  = some q2 ∧ q1.1 = q2.1 ∧ Sim o q1.2 q2.2
set_option maxHeartbeats 4000000 in
set_option maxRecDepth 100000 in
theorem lc_back {κ : KK} {p : Program} {l : Launch} {e : Env} {s : State} {m : MethodId} {below : List Frame} {meth : Method} {c : Code} {b L : Nat} {xs : Nat → Int32} (C : Cx κ p s m #[Value.ref b] meth c cL_law 4 RL ret) (hX : va_X b L xs s s.heap) (hbl : b < s.heap.size) (hL : L ≤ 3072) {Sim : Nat → CS → RS → Prop} (hst : St_back Sim) {i : Nat} {z : CS} {r : RS} (hsim : Sim s.heap.size z r) (hi : i + 6 ≤ L) {cells slots : Nat} (hc : cells + 2 ≤ 600000) (hs : slots + 260 ≤ 7302250) (kk : ∀ (z' : CS) (r' : RS), Sim s.heap.size z' r' → GG p l e room_1 s m #[Value.ref b] below meth c (lw_Z below #[Value.ref b] s) (LA s.heap.size) 4 (cells + 2) (slots + 260) (LWB κ s.heap.size z' r') 1488 [(0, .ref b), (1, .ref s.heap.size), (2, .ref (s.heap.size + 32)), (3, .int (nI i))] []) : GG p l e room_1 s m #[Value.ref b] below meth c (lw_Z below #[Value.ref b] s) (LA s.heap.size) 4 cells slots (LWB κ s.heap.size z r) 1452 [(0, .ref b), (1, .ref s.heap.size), (2, .ref (s.heap.size + 32)), (3, .int (nI i))] [] := by
  refine G_aload_n (pc' := 1453) C dL_law_1452 1 rfl rfl ?_
  obtain ⟨q1, q2, h1, h2, h3, h4⟩ := hst s.heap.size z r  hsim
  refine G_callV (F := RB κ (s.heap.size + 32) r) (pc' := 1456) C dL_law_1453 (tX9_back κ l s.heap.size z  q1 h1) (wV tw_ml_L_174 tw_im_X9_back tw_se_X9_X9_back tw_in_X9 tw_co_X9_back) yd_X9_back rfl fi_X9 (LW_c rfl) ⟨⟨by decide, by decide⟩, Nat.le_trans (Nat.add_le_add_left (show rmX9_back.cells ≤ 2 by decide) _) hc, Nat.le_trans (Nat.add_le_add_left (show rmX9_back.slots ≤ 260 by decide) _) hs⟩ (fun w hw => by rcases hw with h | h; exact h.1; exact Nat.le_trans (Nat.le_add_right _ _) h) (fun _ h => h) (fun _ _ _ _ hk hf => RB_fr hk hf) rfl (Nat.le_of_ble_eq_true rfl) rfl rfl ?_
  refine G_widen (k := cells + 2) (n := slots + 260) (Nat.add_le_add_left (show rmX9_back.cells ≤ 2 by decide) _) (Nat.add_le_add_left (show rmX9_back.slots ≤ 260 by decide) _) ?_
  refine G_world (B' := LWB κ s.heap.size q1.2 r) (fun _ h => h) ?_
  refine G_aload_n (pc' := 1457) C dL_law_1456 2 rfl rfl ?_
  refine G_callV (F := CBf κ s.heap.size q1.2) (pc' := 1460) C dL_law_1457 ((tX10_back κ l (s.heap.size + 32) r  q2 h2).sized rfl (cn q1.2)) (wV tw_ml_L_177 tw_im_X10_back tw_se_X10_X10_back tw_in_X10 tw_co_X10_back) yd_X10_back rfl fi_X10 (LW_r rfl) ⟨⟨by decide, by decide⟩, hc, hs⟩ (fun w hw => Nat.le_trans (Nat.le_add_right _ 32) hw.1) (fun _ h => LW_toR h) (fun _ _ _ _ hk hf => CBf_fr hk hf) rfl (Nat.le_of_ble_eq_true rfl) rfl rfl ?_
  refine G_world (B' := LWB κ s.heap.size q1.2 q2.2) (fun _ h => LW_ofR h) ?_
  refine G_icmp_eq (tgt := 1488) (pc' := 1463) C dL_law_1460 (by decide) rfl (fun _ => ?_) (fun hne => absurd h3 hne)
  exact kk _ _ h4
def St_count (Sim : Nat → CS → RS → Prop) : Prop := ∀ (o : Nat) (z : CS) (r : RS) (a1 : Int32), Sim o z r → ∃ (q1 : Int32) (q2 : Int32), fX9_count o z a1 = some q1 ∧ fX10_count r a1 = some q2 ∧ q1 = q2 ∧ Sim o z r
set_option maxHeartbeats 4000000 in
set_option maxRecDepth 100000 in
theorem lc_count {κ : KK} {p : Program} {l : Launch} {e : Env} {s : State} {m : MethodId} {below : List Frame} {meth : Method} {c : Code} {b L : Nat} {xs : Nat → Int32} (C : Cx κ p s m #[Value.ref b] meth c cL_law 4 RL ret) (hX : va_X b L xs s s.heap) (hbl : b < s.heap.size) (hL : L ≤ 3072) {Sim : Nat → CS → RS → Prop} (hst : St_count Sim) {i : Nat} {z : CS} {r : RS} (hsim : Sim s.heap.size z r) (hi : i + 6 ≤ L) {cells slots : Nat} (hc : cells + 2 ≤ 600000) (hs : slots + 260 ≤ 7302250) (kk : ∀ (z' : CS) (r' : RS), Sim s.heap.size z' r' → GG p l e room_1 s m #[Value.ref b] below meth c (lw_Z below #[Value.ref b] s) (LA s.heap.size) 4 (cells + 2) (slots + 260) (LWB κ s.heap.size z' r') 1488 [(0, .ref b), (1, .ref s.heap.size), (2, .ref (s.heap.size + 32)), (3, .int (nI i))] []) : GG p l e room_1 s m #[Value.ref b] below meth c (lw_Z below #[Value.ref b] s) (LA s.heap.size) 4 cells slots (LWB κ s.heap.size z r) 1465 [(0, .ref b), (1, .ref s.heap.size), (2, .ref (s.heap.size + 32)), (3, .int (nI i))] [] := by
  obtain ⟨w1, hw1⟩ : ∃ w, xs (nI i + (1 : Int32)).toNatClampNeg = w := ⟨_, rfl⟩
  refine G_aload_n (pc' := 1466) C dL_law_1465 1 rfl rfl ?_
  refine G_aload_n (pc' := 1467) C dL_law_1466 0 rfl rfl ?_
  refine G_iload_n (pc' := 1468) C dL_law_1467 3 rfl rfl ?_
  refine G_iconst (pc' := 1469) (v := (1 : Int32)) C dL_law_1468 (by decide) rfl ?_
  refine G_iadd (pc' := 1470) C dL_law_1469 rfl ?_
  refine G_sldV (pc' := 1471) C hX hbl (Nat.not_le.mpr hbl) dL_law_1470 (z_inL (j := 1) hi hL (by decide)) hw1 rfl ?_
  obtain ⟨q1, q2, h1, h2, h3, h4⟩ := hst s.heap.size z r w1 hsim
  refine G_callV (F := RB κ (s.heap.size + 32) r) (pc' := 1474) C dL_law_1471 (tX9_count κ l s.heap.size z w1 q1 h1) (wV tw_ml_L_178 tw_im_X9_count tw_se_X9_X9_count tw_in_X9 tw_co_X9_count) yd_X9_count rfl fi_X9 (LW_c rfl) ⟨⟨by decide, by decide⟩, Nat.le_trans (Nat.add_le_add_left (show rmX9_count.cells ≤ 2 by decide) _) hc, Nat.le_trans (Nat.add_le_add_left (show rmX9_count.slots ≤ 260 by decide) _) hs⟩ (fun w hw => by rcases hw with h | h; exact h.1; exact Nat.le_trans (Nat.le_add_right _ _) h) (fun _ h => h) (fun _ _ _ _ hk hf => RB_fr hk hf) rfl (Nat.le_of_ble_eq_true rfl) rfl rfl ?_
  refine G_widen (k := cells + 2) (n := slots + 260) (Nat.add_le_add_left (show rmX9_count.cells ≤ 2 by decide) _) (Nat.add_le_add_left (show rmX9_count.slots ≤ 260 by decide) _) ?_
  refine G_world (B' := LWB κ s.heap.size z r) (fun _ h => h) ?_
  refine G_aload_n (pc' := 1475) C dL_law_1474 2 rfl rfl ?_
  refine G_aload_n (pc' := 1476) C dL_law_1475 0 rfl rfl ?_
  refine G_iload_n (pc' := 1477) C dL_law_1476 3 rfl rfl ?_
  refine G_iconst (pc' := 1478) (v := (1 : Int32)) C dL_law_1477 (by decide) rfl ?_
  refine G_iadd (pc' := 1479) C dL_law_1478 rfl ?_
  refine G_sldV (pc' := 1480) C hX hbl (Nat.not_le.mpr hbl) dL_law_1479 (z_inL (j := 1) hi hL (by decide)) hw1 rfl ?_
  refine G_callV (F := CBf κ s.heap.size z) (pc' := 1483) C dL_law_1480 ((tX10_count κ l (s.heap.size + 32) r w1 q2 h2).sized rfl (cn z)) (wV tw_ml_L_181 tw_im_X10_count tw_se_X10_X10_count tw_in_X10 tw_co_X10_count) yd_X10_count rfl fi_X10 (LW_r rfl) ⟨⟨by decide, by decide⟩, hc, hs⟩ (fun w hw => Nat.le_trans (Nat.le_add_right _ 32) hw.1) (fun _ h => LW_toR h) (fun _ _ _ _ hk hf => CBf_fr hk hf) rfl (Nat.le_of_ble_eq_true rfl) rfl rfl ?_
  refine G_world (B' := LWB κ s.heap.size z r) (fun _ h => LW_ofR h) ?_
  refine G_icmp_eq (tgt := 1488) (pc' := 1486) C dL_law_1483 (by decide) rfl (fun _ => ?_) (fun hne => absurd h3 hne)
  exact kk _ _ h4
