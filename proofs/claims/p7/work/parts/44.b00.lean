theorem d_0_0 : decode code 0 = .ok (.new 7, 3) := by decide +kernel
theorem d_0_3 : decode code 3 = .ok (.dup, 1) := by decide +kernel
theorem d_0_4 : decode code 4 = .ok (.invokespecial 9, 3) := by decide +kernel
theorem d_0_7 : decode code 7 = .ok (.astore_n 1, 1) := by decide +kernel
theorem d_0_8 : decode code 8 = .ok (.new 10, 3) := by decide +kernel
theorem d_0_11 : decode code 11 = .ok (.dup, 1) := by decide +kernel
theorem d_0_12 : decode code 12 = .ok (.invokespecial 12, 3) := by decide +kernel
theorem d_0_15 : decode code 15 = .ok (.astore_n 2, 1) := by decide +kernel
theorem d_0_16 : decode code 16 = .ok (.iconst 0, 1) := by decide +kernel
theorem d_0_17 : decode code 17 = .ok (.istore_n 3, 1) := by decide +kernel
theorem d_0_18 : decode code 18 = .ok (.iload_n 3, 1) := by decide +kernel
theorem d_0_19 : decode code 19 = .ok (.aload_n 0, 1) := by decide +kernel
theorem d_0_20 : decode code 20 = .ok (.arraylength, 1) := by decide +kernel
theorem d_0_21 : decode code 21 = .ok (.bipush 6, 2) := by decide +kernel
theorem d_0_23 : decode code 23 = .ok (.isub, 1) := by decide +kernel
theorem d_0_24 : decode code 24 = .ok (.if_icmp .gt 1114, 3) := by decide +kernel
theorem d_0_27 : decode code 27 = .ok (.aload_n 0, 1) := by decide +kernel
theorem d_0_28 : decode code 28 = .ok (.iload_n 3, 1) := by decide +kernel
theorem d_0_29 : decode code 29 = .ok (.iaload, 1) := by decide +kernel
theorem d_0_30 : decode code 30 = .ok (.bipush 31, 2) := by decide +kernel
theorem d_0_32 : decode code 32 = .ok (.iand, 1) := by decide +kernel
theorem d_0_33 : decode code 33 = .ok (.tableswitch 1099 0 31 #[143, 176, 219, 262, 295, 328, 371, 394, 407, 430, 443, 476, 509, 532, 555, 588, 611, 634, 667, 690, 703, 726, 749, 782, 815, 828, 841, 864, 907, 950, 1013, 1066], 143) := by decide +kernel
theorem d_0_176 : decode code 176 = .ok (.aload_n 1, 1) := by decide +kernel
theorem d_0_177 : decode code 177 = .ok (.aload_n 0, 1) := by decide +kernel
theorem d_0_178 : decode code 178 = .ok (.iload_n 3, 1) := by decide +kernel
theorem d_0_179 : decode code 179 = .ok (.iconst 1, 1) := by decide +kernel
theorem d_0_180 : decode code 180 = .ok (.iadd, 1) := by decide +kernel
theorem d_0_181 : decode code 181 = .ok (.iaload, 1) := by decide +kernel
theorem d_0_182 : decode code 182 = .ok (.aload_n 0, 1) := by decide +kernel
theorem d_0_183 : decode code 183 = .ok (.iload_n 3, 1) := by decide +kernel
theorem d_0_184 : decode code 184 = .ok (.iconst 2, 1) := by decide +kernel
theorem d_0_185 : decode code 185 = .ok (.iadd, 1) := by decide +kernel
theorem d_0_186 : decode code 186 = .ok (.iaload, 1) := by decide +kernel
theorem d_0_187 : decode code 187 = .ok (.invokevirtual 13, 3) := by decide +kernel
theorem d_0_190 : decode code 190 = .ok (.pop, 1) := by decide +kernel
theorem d_0_191 : decode code 191 = .ok (.aload_n 2, 1) := by decide +kernel
theorem d_0_192 : decode code 192 = .ok (.aload_n 0, 1) := by decide +kernel
theorem d_0_193 : decode code 193 = .ok (.iload_n 3, 1) := by decide +kernel
theorem d_0_194 : decode code 194 = .ok (.iconst 1, 1) := by decide +kernel
theorem d_0_195 : decode code 195 = .ok (.iadd, 1) := by decide +kernel
theorem d_0_196 : decode code 196 = .ok (.iaload, 1) := by decide +kernel
theorem d_0_197 : decode code 197 = .ok (.aload_n 0, 1) := by decide +kernel
theorem d_0_198 : decode code 198 = .ok (.iload_n 3, 1) := by decide +kernel
theorem d_0_199 : decode code 199 = .ok (.iconst 2, 1) := by decide +kernel
theorem d_0_200 : decode code 200 = .ok (.iadd, 1) := by decide +kernel
theorem d_0_201 : decode code 201 = .ok (.iaload, 1) := by decide +kernel
theorem d_0_202 : decode code 202 = .ok (.invokevirtual 17, 3) := by decide +kernel
theorem d_0_205 : decode code 205 = .ok (.pop, 1) := by decide +kernel
theorem d_0_206 : decode code 206 = .ok (.goto 926, 3) := by decide +kernel
theorem d_0_209 : decode code 209 = .ok (.aload_n 1, 1) := by decide +kernel
theorem d_0_210 : decode code 210 = .ok (.aload_n 0, 1) := by decide +kernel
theorem d_0_211 : decode code 211 = .ok (.iload_n 3, 1) := by decide +kernel
theorem d_0_212 : decode code 212 = .ok (.iconst 1, 1) := by decide +kernel
theorem d_0_213 : decode code 213 = .ok (.iadd, 1) := by decide +kernel
theorem d_0_214 : decode code 214 = .ok (.iaload, 1) := by decide +kernel
theorem d_0_215 : decode code 215 = .ok (.aload_n 0, 1) := by decide +kernel
theorem d_0_216 : decode code 216 = .ok (.iload_n 3, 1) := by decide +kernel
theorem d_0_217 : decode code 217 = .ok (.iconst 2, 1) := by decide +kernel
theorem d_0_218 : decode code 218 = .ok (.iadd, 1) := by decide +kernel
theorem d_0_219 : decode code 219 = .ok (.iaload, 1) := by decide +kernel
theorem d_0_220 : decode code 220 = .ok (.aload_n 0, 1) := by decide +kernel
theorem d_0_221 : decode code 221 = .ok (.iload_n 3, 1) := by decide +kernel
theorem d_0_222 : decode code 222 = .ok (.iconst 3, 1) := by decide +kernel
theorem d_0_223 : decode code 223 = .ok (.iadd, 1) := by decide +kernel
theorem d_0_224 : decode code 224 = .ok (.iaload, 1) := by decide +kernel
theorem d_0_225 : decode code 225 = .ok (.invokevirtual 18, 3) := by decide +kernel
theorem d_0_228 : decode code 228 = .ok (.pop, 1) := by decide +kernel
theorem d_0_229 : decode code 229 = .ok (.aload_n 2, 1) := by decide +kernel
theorem d_0_230 : decode code 230 = .ok (.aload_n 0, 1) := by decide +kernel
theorem d_0_231 : decode code 231 = .ok (.iload_n 3, 1) := by decide +kernel
theorem d_0_232 : decode code 232 = .ok (.iconst 1, 1) := by decide +kernel
theorem d_0_233 : decode code 233 = .ok (.iadd, 1) := by decide +kernel
theorem d_0_234 : decode code 234 = .ok (.iaload, 1) := by decide +kernel
theorem d_0_235 : decode code 235 = .ok (.aload_n 0, 1) := by decide +kernel
theorem d_0_236 : decode code 236 = .ok (.iload_n 3, 1) := by decide +kernel
theorem d_0_237 : decode code 237 = .ok (.iconst 2, 1) := by decide +kernel
theorem d_0_238 : decode code 238 = .ok (.iadd, 1) := by decide +kernel
theorem d_0_239 : decode code 239 = .ok (.iaload, 1) := by decide +kernel
theorem d_0_240 : decode code 240 = .ok (.aload_n 0, 1) := by decide +kernel
theorem d_0_241 : decode code 241 = .ok (.iload_n 3, 1) := by decide +kernel
theorem d_0_242 : decode code 242 = .ok (.iconst 3, 1) := by decide +kernel
theorem d_0_243 : decode code 243 = .ok (.iadd, 1) := by decide +kernel
theorem d_0_244 : decode code 244 = .ok (.iaload, 1) := by decide +kernel
theorem d_0_245 : decode code 245 = .ok (.invokevirtual 22, 3) := by decide +kernel
theorem d_0_248 : decode code 248 = .ok (.pop, 1) := by decide +kernel
theorem d_0_249 : decode code 249 = .ok (.goto 883, 3) := by decide +kernel
theorem d_0_252 : decode code 252 = .ok (.aload_n 1, 1) := by decide +kernel
theorem d_0_253 : decode code 253 = .ok (.aload_n 0, 1) := by decide +kernel
theorem d_0_254 : decode code 254 = .ok (.iload_n 3, 1) := by decide +kernel
theorem d_0_255 : decode code 255 = .ok (.iconst 1, 1) := by decide +kernel
theorem d_0_256 : decode code 256 = .ok (.iadd, 1) := by decide +kernel
theorem d_0_257 : decode code 257 = .ok (.iaload, 1) := by decide +kernel
theorem d_0_258 : decode code 258 = .ok (.aload_n 0, 1) := by decide +kernel
theorem d_0_259 : decode code 259 = .ok (.iload_n 3, 1) := by decide +kernel
theorem d_0_260 : decode code 260 = .ok (.iconst 2, 1) := by decide +kernel
theorem d_0_261 : decode code 261 = .ok (.iadd, 1) := by decide +kernel
theorem d_0_262 : decode code 262 = .ok (.iaload, 1) := by decide +kernel
theorem d_0_263 : decode code 263 = .ok (.aload_n 0, 1) := by decide +kernel
theorem d_0_264 : decode code 264 = .ok (.iload_n 3, 1) := by decide +kernel
theorem d_0_265 : decode code 265 = .ok (.iconst 3, 1) := by decide +kernel
theorem d_0_266 : decode code 266 = .ok (.iadd, 1) := by decide +kernel
theorem d_0_267 : decode code 267 = .ok (.iaload, 1) := by decide +kernel
theorem d_0_268 : decode code 268 = .ok (.invokevirtual 23, 3) := by decide +kernel
theorem d_0_271 : decode code 271 = .ok (.pop, 1) := by decide +kernel
theorem d_0_272 : decode code 272 = .ok (.aload_n 2, 1) := by decide +kernel
theorem d_0_273 : decode code 273 = .ok (.aload_n 0, 1) := by decide +kernel
theorem d_0_274 : decode code 274 = .ok (.iload_n 3, 1) := by decide +kernel
theorem d_0_275 : decode code 275 = .ok (.iconst 1, 1) := by decide +kernel
theorem d_0_276 : decode code 276 = .ok (.iadd, 1) := by decide +kernel
theorem d_0_277 : decode code 277 = .ok (.iaload, 1) := by decide +kernel
theorem d_0_278 : decode code 278 = .ok (.aload_n 0, 1) := by decide +kernel
theorem d_0_279 : decode code 279 = .ok (.iload_n 3, 1) := by decide +kernel
theorem d_0_280 : decode code 280 = .ok (.iconst 2, 1) := by decide +kernel
theorem d_0_281 : decode code 281 = .ok (.iadd, 1) := by decide +kernel
theorem d_0_282 : decode code 282 = .ok (.iaload, 1) := by decide +kernel
theorem d_0_283 : decode code 283 = .ok (.aload_n 0, 1) := by decide +kernel
theorem d_0_284 : decode code 284 = .ok (.iload_n 3, 1) := by decide +kernel
theorem d_0_285 : decode code 285 = .ok (.iconst 3, 1) := by decide +kernel
theorem d_0_286 : decode code 286 = .ok (.iadd, 1) := by decide +kernel
theorem d_0_287 : decode code 287 = .ok (.iaload, 1) := by decide +kernel
theorem d_0_288 : decode code 288 = .ok (.invokevirtual 26, 3) := by decide +kernel
theorem d_0_291 : decode code 291 = .ok (.pop, 1) := by decide +kernel
theorem d_0_292 : decode code 292 = .ok (.goto 840, 3) := by decide +kernel
theorem d_0_295 : decode code 295 = .ok (.aload_n 1, 1) := by decide +kernel
theorem d_0_296 : decode code 296 = .ok (.aload_n 0, 1) := by decide +kernel
theorem d_0_297 : decode code 297 = .ok (.iload_n 3, 1) := by decide +kernel
theorem d_0_298 : decode code 298 = .ok (.iconst 1, 1) := by decide +kernel
theorem d_0_299 : decode code 299 = .ok (.iadd, 1) := by decide +kernel
theorem d_0_300 : decode code 300 = .ok (.iaload, 1) := by decide +kernel
theorem d_0_301 : decode code 301 = .ok (.aload_n 0, 1) := by decide +kernel
theorem d_0_302 : decode code 302 = .ok (.iload_n 3, 1) := by decide +kernel
theorem d_0_303 : decode code 303 = .ok (.iconst 2, 1) := by decide +kernel
theorem d_0_304 : decode code 304 = .ok (.iadd, 1) := by decide +kernel
theorem d_0_305 : decode code 305 = .ok (.iaload, 1) := by decide +kernel
theorem d_0_306 : decode code 306 = .ok (.invokevirtual 27, 3) := by decide +kernel
theorem d_0_309 : decode code 309 = .ok (.pop, 1) := by decide +kernel
theorem d_0_310 : decode code 310 = .ok (.aload_n 2, 1) := by decide +kernel
theorem d_0_311 : decode code 311 = .ok (.aload_n 0, 1) := by decide +kernel
theorem d_0_312 : decode code 312 = .ok (.iload_n 3, 1) := by decide +kernel
theorem d_0_313 : decode code 313 = .ok (.iconst 1, 1) := by decide +kernel
theorem d_0_314 : decode code 314 = .ok (.iadd, 1) := by decide +kernel
theorem d_0_315 : decode code 315 = .ok (.iaload, 1) := by decide +kernel
theorem d_0_316 : decode code 316 = .ok (.aload_n 0, 1) := by decide +kernel
theorem d_0_317 : decode code 317 = .ok (.iload_n 3, 1) := by decide +kernel
theorem d_0_318 : decode code 318 = .ok (.iconst 2, 1) := by decide +kernel
theorem d_0_319 : decode code 319 = .ok (.iadd, 1) := by decide +kernel
theorem d_0_320 : decode code 320 = .ok (.iaload, 1) := by decide +kernel
theorem d_0_321 : decode code 321 = .ok (.invokevirtual 30, 3) := by decide +kernel
theorem d_0_324 : decode code 324 = .ok (.pop, 1) := by decide +kernel
theorem d_0_325 : decode code 325 = .ok (.goto 807, 3) := by decide +kernel
theorem d_0_328 : decode code 328 = .ok (.aload_n 1, 1) := by decide +kernel
theorem d_0_329 : decode code 329 = .ok (.aload_n 0, 1) := by decide +kernel
theorem d_0_330 : decode code 330 = .ok (.iload_n 3, 1) := by decide +kernel
theorem d_0_331 : decode code 331 = .ok (.iconst 1, 1) := by decide +kernel
theorem d_0_332 : decode code 332 = .ok (.iadd, 1) := by decide +kernel
theorem d_0_333 : decode code 333 = .ok (.iaload, 1) := by decide +kernel
theorem d_0_334 : decode code 334 = .ok (.aload_n 0, 1) := by decide +kernel
theorem d_0_335 : decode code 335 = .ok (.iload_n 3, 1) := by decide +kernel
theorem d_0_336 : decode code 336 = .ok (.iconst 2, 1) := by decide +kernel
theorem d_0_337 : decode code 337 = .ok (.iadd, 1) := by decide +kernel
theorem d_0_338 : decode code 338 = .ok (.iaload, 1) := by decide +kernel
theorem d_0_339 : decode code 339 = .ok (.invokevirtual 31, 3) := by decide +kernel
theorem d_0_342 : decode code 342 = .ok (.pop, 1) := by decide +kernel
theorem d_0_343 : decode code 343 = .ok (.aload_n 2, 1) := by decide +kernel
theorem d_0_344 : decode code 344 = .ok (.aload_n 0, 1) := by decide +kernel
theorem d_0_345 : decode code 345 = .ok (.iload_n 3, 1) := by decide +kernel
theorem d_0_346 : decode code 346 = .ok (.iconst 1, 1) := by decide +kernel
theorem d_0_347 : decode code 347 = .ok (.iadd, 1) := by decide +kernel
theorem d_0_348 : decode code 348 = .ok (.iaload, 1) := by decide +kernel
theorem d_0_349 : decode code 349 = .ok (.aload_n 0, 1) := by decide +kernel
theorem d_0_350 : decode code 350 = .ok (.iload_n 3, 1) := by decide +kernel
theorem d_0_351 : decode code 351 = .ok (.iconst 2, 1) := by decide +kernel
theorem d_0_352 : decode code 352 = .ok (.iadd, 1) := by decide +kernel
theorem d_0_353 : decode code 353 = .ok (.iaload, 1) := by decide +kernel
theorem d_0_354 : decode code 354 = .ok (.invokevirtual 34, 3) := by decide +kernel
theorem d_0_357 : decode code 357 = .ok (.pop, 1) := by decide +kernel
theorem d_0_358 : decode code 358 = .ok (.goto 774, 3) := by decide +kernel
theorem d_0_361 : decode code 361 = .ok (.aload_n 1, 1) := by decide +kernel
theorem d_0_362 : decode code 362 = .ok (.aload_n 0, 1) := by decide +kernel
theorem d_0_363 : decode code 363 = .ok (.iload_n 3, 1) := by decide +kernel
theorem d_0_364 : decode code 364 = .ok (.iconst 1, 1) := by decide +kernel
theorem d_0_365 : decode code 365 = .ok (.iadd, 1) := by decide +kernel
theorem d_0_366 : decode code 366 = .ok (.iaload, 1) := by decide +kernel
theorem d_0_367 : decode code 367 = .ok (.aload_n 0, 1) := by decide +kernel
theorem d_0_368 : decode code 368 = .ok (.iload_n 3, 1) := by decide +kernel
theorem d_0_369 : decode code 369 = .ok (.iconst 2, 1) := by decide +kernel
theorem d_0_370 : decode code 370 = .ok (.iadd, 1) := by decide +kernel
theorem d_0_371 : decode code 371 = .ok (.iaload, 1) := by decide +kernel
theorem d_0_372 : decode code 372 = .ok (.aload_n 0, 1) := by decide +kernel
theorem d_0_373 : decode code 373 = .ok (.iload_n 3, 1) := by decide +kernel
theorem d_0_374 : decode code 374 = .ok (.iconst 3, 1) := by decide +kernel
theorem d_0_375 : decode code 375 = .ok (.iadd, 1) := by decide +kernel
theorem d_0_376 : decode code 376 = .ok (.iaload, 1) := by decide +kernel
theorem d_0_377 : decode code 377 = .ok (.invokevirtual 35, 3) := by decide +kernel
theorem d_0_380 : decode code 380 = .ok (.aload_n 2, 1) := by decide +kernel
theorem d_0_381 : decode code 381 = .ok (.aload_n 0, 1) := by decide +kernel
theorem d_0_382 : decode code 382 = .ok (.iload_n 3, 1) := by decide +kernel
theorem d_0_383 : decode code 383 = .ok (.iconst 1, 1) := by decide +kernel
theorem d_0_384 : decode code 384 = .ok (.iadd, 1) := by decide +kernel
theorem d_0_385 : decode code 385 = .ok (.iaload, 1) := by decide +kernel
theorem d_0_386 : decode code 386 = .ok (.aload_n 0, 1) := by decide +kernel
theorem d_0_387 : decode code 387 = .ok (.iload_n 3, 1) := by decide +kernel
theorem d_0_388 : decode code 388 = .ok (.iconst 2, 1) := by decide +kernel
theorem d_0_389 : decode code 389 = .ok (.iadd, 1) := by decide +kernel
theorem d_0_390 : decode code 390 = .ok (.iaload, 1) := by decide +kernel
theorem d_0_391 : decode code 391 = .ok (.aload_n 0, 1) := by decide +kernel
theorem d_0_392 : decode code 392 = .ok (.iload_n 3, 1) := by decide +kernel
theorem d_0_393 : decode code 393 = .ok (.iconst 3, 1) := by decide +kernel
theorem d_0_394 : decode code 394 = .ok (.iadd, 1) := by decide +kernel
theorem d_0_395 : decode code 395 = .ok (.iaload, 1) := by decide +kernel
theorem d_0_396 : decode code 396 = .ok (.invokevirtual 38, 3) := by decide +kernel
theorem d_0_399 : decode code 399 = .ok (.if_icmp .eq 733, 3) := by decide +kernel
theorem d_0_402 : decode code 402 = .ok (.iconst 0, 1) := by decide +kernel
theorem d_0_403 : decode code 403 = .ok (.ireturn, 1) := by decide +kernel
theorem d_0_404 : decode code 404 = .ok (.aload_n 1, 1) := by decide +kernel
theorem d_0_405 : decode code 405 = .ok (.aload_n 0, 1) := by decide +kernel
theorem d_0_406 : decode code 406 = .ok (.iload_n 3, 1) := by decide +kernel
theorem d_0_407 : decode code 407 = .ok (.iconst 1, 1) := by decide +kernel
theorem d_0_408 : decode code 408 = .ok (.iadd, 1) := by decide +kernel
theorem d_0_409 : decode code 409 = .ok (.iaload, 1) := by decide +kernel
theorem d_0_410 : decode code 410 = .ok (.invokevirtual 39, 3) := by decide +kernel
theorem d_0_413 : decode code 413 = .ok (.pop, 1) := by decide +kernel
theorem d_0_414 : decode code 414 = .ok (.aload_n 2, 1) := by decide +kernel
theorem d_0_415 : decode code 415 = .ok (.aload_n 0, 1) := by decide +kernel
theorem d_0_416 : decode code 416 = .ok (.iload_n 3, 1) := by decide +kernel
theorem d_0_417 : decode code 417 = .ok (.iconst 1, 1) := by decide +kernel
theorem d_0_418 : decode code 418 = .ok (.iadd, 1) := by decide +kernel
theorem d_0_419 : decode code 419 = .ok (.iaload, 1) := by decide +kernel
theorem d_0_420 : decode code 420 = .ok (.invokevirtual 43, 3) := by decide +kernel
theorem d_0_423 : decode code 423 = .ok (.pop, 1) := by decide +kernel
theorem d_0_424 : decode code 424 = .ok (.goto 708, 3) := by decide +kernel
theorem d_0_427 : decode code 427 = .ok (.aload_n 1, 1) := by decide +kernel
theorem d_0_428 : decode code 428 = .ok (.invokevirtual 44, 3) := by decide +kernel
theorem d_0_431 : decode code 431 = .ok (.pop, 1) := by decide +kernel
theorem d_0_432 : decode code 432 = .ok (.aload_n 2, 1) := by decide +kernel
theorem d_0_433 : decode code 433 = .ok (.invokevirtual 48, 3) := by decide +kernel
theorem d_0_436 : decode code 436 = .ok (.pop, 1) := by decide +kernel
theorem d_0_437 : decode code 437 = .ok (.goto 695, 3) := by decide +kernel
theorem d_0_440 : decode code 440 = .ok (.aload_n 1, 1) := by decide +kernel
theorem d_0_441 : decode code 441 = .ok (.aload_n 0, 1) := by decide +kernel
theorem d_0_442 : decode code 442 = .ok (.iload_n 3, 1) := by decide +kernel
theorem d_0_443 : decode code 443 = .ok (.iconst 1, 1) := by decide +kernel
theorem d_0_444 : decode code 444 = .ok (.iadd, 1) := by decide +kernel
theorem d_0_445 : decode code 445 = .ok (.iaload, 1) := by decide +kernel
theorem d_0_446 : decode code 446 = .ok (.invokevirtual 49, 3) := by decide +kernel
theorem d_0_449 : decode code 449 = .ok (.pop, 1) := by decide +kernel
theorem d_0_450 : decode code 450 = .ok (.aload_n 2, 1) := by decide +kernel
theorem d_0_451 : decode code 451 = .ok (.aload_n 0, 1) := by decide +kernel
theorem d_0_452 : decode code 452 = .ok (.iload_n 3, 1) := by decide +kernel
theorem d_0_453 : decode code 453 = .ok (.iconst 1, 1) := by decide +kernel
theorem d_0_454 : decode code 454 = .ok (.iadd, 1) := by decide +kernel
theorem d_0_455 : decode code 455 = .ok (.iaload, 1) := by decide +kernel
theorem d_0_456 : decode code 456 = .ok (.invokevirtual 52, 3) := by decide +kernel
theorem d_0_459 : decode code 459 = .ok (.pop, 1) := by decide +kernel
theorem d_0_460 : decode code 460 = .ok (.goto 672, 3) := by decide +kernel
theorem d_0_463 : decode code 463 = .ok (.aload_n 1, 1) := by decide +kernel
theorem d_0_464 : decode code 464 = .ok (.invokevirtual 53, 3) := by decide +kernel
theorem d_0_467 : decode code 467 = .ok (.pop, 1) := by decide +kernel
theorem d_0_468 : decode code 468 = .ok (.aload_n 2, 1) := by decide +kernel
theorem d_0_469 : decode code 469 = .ok (.invokevirtual 56, 3) := by decide +kernel
theorem d_0_472 : decode code 472 = .ok (.pop, 1) := by decide +kernel
theorem d_0_473 : decode code 473 = .ok (.goto 659, 3) := by decide +kernel
theorem d_0_476 : decode code 476 = .ok (.aload_n 1, 1) := by decide +kernel
theorem d_0_477 : decode code 477 = .ok (.aload_n 0, 1) := by decide +kernel
theorem d_0_478 : decode code 478 = .ok (.iload_n 3, 1) := by decide +kernel
theorem d_0_479 : decode code 479 = .ok (.iconst 1, 1) := by decide +kernel
theorem d_0_480 : decode code 480 = .ok (.iadd, 1) := by decide +kernel
theorem d_0_481 : decode code 481 = .ok (.iaload, 1) := by decide +kernel
theorem d_0_482 : decode code 482 = .ok (.aload_n 0, 1) := by decide +kernel
theorem d_0_483 : decode code 483 = .ok (.iload_n 3, 1) := by decide +kernel
theorem d_0_484 : decode code 484 = .ok (.iconst 2, 1) := by decide +kernel
theorem d_0_485 : decode code 485 = .ok (.iadd, 1) := by decide +kernel
theorem d_0_486 : decode code 486 = .ok (.iaload, 1) := by decide +kernel
theorem d_0_487 : decode code 487 = .ok (.invokevirtual 57, 3) := by decide +kernel
theorem d_0_490 : decode code 490 = .ok (.pop, 1) := by decide +kernel
theorem d_0_491 : decode code 491 = .ok (.aload_n 2, 1) := by decide +kernel
theorem d_0_492 : decode code 492 = .ok (.aload_n 0, 1) := by decide +kernel
theorem d_0_493 : decode code 493 = .ok (.iload_n 3, 1) := by decide +kernel
theorem d_0_494 : decode code 494 = .ok (.iconst 1, 1) := by decide +kernel
theorem d_0_495 : decode code 495 = .ok (.iadd, 1) := by decide +kernel
theorem d_0_496 : decode code 496 = .ok (.iaload, 1) := by decide +kernel
theorem d_0_497 : decode code 497 = .ok (.aload_n 0, 1) := by decide +kernel
theorem d_0_498 : decode code 498 = .ok (.iload_n 3, 1) := by decide +kernel
theorem d_0_499 : decode code 499 = .ok (.iconst 2, 1) := by decide +kernel
theorem d_0_500 : decode code 500 = .ok (.iadd, 1) := by decide +kernel
theorem d_0_501 : decode code 501 = .ok (.iaload, 1) := by decide +kernel
theorem d_0_502 : decode code 502 = .ok (.invokevirtual 60, 3) := by decide +kernel
theorem d_0_505 : decode code 505 = .ok (.pop, 1) := by decide +kernel
theorem d_0_506 : decode code 506 = .ok (.goto 626, 3) := by decide +kernel
theorem d_0_509 : decode code 509 = .ok (.aload_n 1, 1) := by decide +kernel
theorem d_0_510 : decode code 510 = .ok (.aload_n 0, 1) := by decide +kernel
theorem d_0_511 : decode code 511 = .ok (.iload_n 3, 1) := by decide +kernel
theorem d_0_512 : decode code 512 = .ok (.iconst 1, 1) := by decide +kernel
theorem d_0_513 : decode code 513 = .ok (.iadd, 1) := by decide +kernel
theorem d_0_514 : decode code 514 = .ok (.iaload, 1) := by decide +kernel
theorem d_0_515 : decode code 515 = .ok (.aload_n 0, 1) := by decide +kernel
theorem d_0_516 : decode code 516 = .ok (.iload_n 3, 1) := by decide +kernel
theorem d_0_517 : decode code 517 = .ok (.iconst 2, 1) := by decide +kernel
theorem d_0_518 : decode code 518 = .ok (.iadd, 1) := by decide +kernel
theorem d_0_519 : decode code 519 = .ok (.iaload, 1) := by decide +kernel
theorem d_0_520 : decode code 520 = .ok (.invokevirtual 61, 3) := by decide +kernel
theorem d_0_523 : decode code 523 = .ok (.pop, 1) := by decide +kernel
theorem d_0_524 : decode code 524 = .ok (.aload_n 2, 1) := by decide +kernel
theorem d_0_525 : decode code 525 = .ok (.aload_n 0, 1) := by decide +kernel
theorem d_0_526 : decode code 526 = .ok (.iload_n 3, 1) := by decide +kernel
theorem d_0_527 : decode code 527 = .ok (.iconst 1, 1) := by decide +kernel
theorem d_0_528 : decode code 528 = .ok (.iadd, 1) := by decide +kernel
theorem d_0_529 : decode code 529 = .ok (.iaload, 1) := by decide +kernel
theorem d_0_530 : decode code 530 = .ok (.aload_n 0, 1) := by decide +kernel
theorem d_0_531 : decode code 531 = .ok (.iload_n 3, 1) := by decide +kernel
theorem d_0_532 : decode code 532 = .ok (.iconst 2, 1) := by decide +kernel
theorem d_0_533 : decode code 533 = .ok (.iadd, 1) := by decide +kernel
theorem d_0_534 : decode code 534 = .ok (.iaload, 1) := by decide +kernel
theorem d_0_535 : decode code 535 = .ok (.invokevirtual 64, 3) := by decide +kernel
theorem d_0_538 : decode code 538 = .ok (.pop, 1) := by decide +kernel
theorem d_0_539 : decode code 539 = .ok (.goto 593, 3) := by decide +kernel
theorem d_0_542 : decode code 542 = .ok (.aload_n 1, 1) := by decide +kernel
theorem d_0_543 : decode code 543 = .ok (.aload_n 0, 1) := by decide +kernel
theorem d_0_544 : decode code 544 = .ok (.iload_n 3, 1) := by decide +kernel
theorem d_0_545 : decode code 545 = .ok (.iconst 1, 1) := by decide +kernel
theorem d_0_546 : decode code 546 = .ok (.iadd, 1) := by decide +kernel
theorem d_0_547 : decode code 547 = .ok (.iaload, 1) := by decide +kernel
theorem d_0_548 : decode code 548 = .ok (.invokevirtual 65, 3) := by decide +kernel
theorem d_0_551 : decode code 551 = .ok (.pop, 1) := by decide +kernel
theorem d_0_552 : decode code 552 = .ok (.aload_n 2, 1) := by decide +kernel
theorem d_0_553 : decode code 553 = .ok (.aload_n 0, 1) := by decide +kernel
theorem d_0_554 : decode code 554 = .ok (.iload_n 3, 1) := by decide +kernel
theorem d_0_555 : decode code 555 = .ok (.iconst 1, 1) := by decide +kernel
theorem d_0_556 : decode code 556 = .ok (.iadd, 1) := by decide +kernel
theorem d_0_557 : decode code 557 = .ok (.iaload, 1) := by decide +kernel
theorem d_0_558 : decode code 558 = .ok (.invokevirtual 68, 3) := by decide +kernel
theorem d_0_561 : decode code 561 = .ok (.pop, 1) := by decide +kernel
theorem d_0_562 : decode code 562 = .ok (.goto 570, 3) := by decide +kernel
theorem d_0_565 : decode code 565 = .ok (.aload_n 1, 1) := by decide +kernel
theorem d_0_566 : decode code 566 = .ok (.aload_n 0, 1) := by decide +kernel
theorem d_0_567 : decode code 567 = .ok (.iload_n 3, 1) := by decide +kernel
theorem d_0_568 : decode code 568 = .ok (.iconst 1, 1) := by decide +kernel
theorem d_0_569 : decode code 569 = .ok (.iadd, 1) := by decide +kernel
theorem d_0_570 : decode code 570 = .ok (.iaload, 1) := by decide +kernel
theorem d_0_571 : decode code 571 = .ok (.invokevirtual 69, 3) := by decide +kernel
theorem d_0_574 : decode code 574 = .ok (.pop, 1) := by decide +kernel
theorem d_0_575 : decode code 575 = .ok (.aload_n 2, 1) := by decide +kernel
theorem d_0_576 : decode code 576 = .ok (.aload_n 0, 1) := by decide +kernel
theorem d_0_577 : decode code 577 = .ok (.iload_n 3, 1) := by decide +kernel
theorem d_0_578 : decode code 578 = .ok (.iconst 1, 1) := by decide +kernel
theorem d_0_579 : decode code 579 = .ok (.iadd, 1) := by decide +kernel
theorem d_0_580 : decode code 580 = .ok (.iaload, 1) := by decide +kernel
theorem d_0_581 : decode code 581 = .ok (.invokevirtual 72, 3) := by decide +kernel
theorem d_0_584 : decode code 584 = .ok (.pop, 1) := by decide +kernel
theorem d_0_585 : decode code 585 = .ok (.goto 547, 3) := by decide +kernel
theorem d_0_588 : decode code 588 = .ok (.aload_n 1, 1) := by decide +kernel
theorem d_0_589 : decode code 589 = .ok (.aload_n 0, 1) := by decide +kernel
theorem d_0_590 : decode code 590 = .ok (.iload_n 3, 1) := by decide +kernel
theorem d_0_591 : decode code 591 = .ok (.iconst 1, 1) := by decide +kernel
theorem d_0_592 : decode code 592 = .ok (.iadd, 1) := by decide +kernel
theorem d_0_593 : decode code 593 = .ok (.iaload, 1) := by decide +kernel
theorem d_0_594 : decode code 594 = .ok (.aload_n 0, 1) := by decide +kernel
theorem d_0_595 : decode code 595 = .ok (.iload_n 3, 1) := by decide +kernel
theorem d_0_596 : decode code 596 = .ok (.iconst 2, 1) := by decide +kernel
theorem d_0_597 : decode code 597 = .ok (.iadd, 1) := by decide +kernel
theorem d_0_598 : decode code 598 = .ok (.iaload, 1) := by decide +kernel
theorem d_0_599 : decode code 599 = .ok (.invokevirtual 73, 3) := by decide +kernel
theorem d_0_602 : decode code 602 = .ok (.pop, 1) := by decide +kernel
theorem d_0_603 : decode code 603 = .ok (.aload_n 2, 1) := by decide +kernel
theorem d_0_604 : decode code 604 = .ok (.aload_n 0, 1) := by decide +kernel
theorem d_0_605 : decode code 605 = .ok (.iload_n 3, 1) := by decide +kernel
theorem d_0_606 : decode code 606 = .ok (.iconst 1, 1) := by decide +kernel
theorem d_0_607 : decode code 607 = .ok (.iadd, 1) := by decide +kernel
theorem d_0_608 : decode code 608 = .ok (.iaload, 1) := by decide +kernel
theorem d_0_609 : decode code 609 = .ok (.aload_n 0, 1) := by decide +kernel
theorem d_0_610 : decode code 610 = .ok (.iload_n 3, 1) := by decide +kernel
theorem d_0_611 : decode code 611 = .ok (.iconst 2, 1) := by decide +kernel
theorem d_0_612 : decode code 612 = .ok (.iadd, 1) := by decide +kernel
theorem d_0_613 : decode code 613 = .ok (.iaload, 1) := by decide +kernel
theorem d_0_614 : decode code 614 = .ok (.invokevirtual 76, 3) := by decide +kernel
theorem d_0_617 : decode code 617 = .ok (.pop, 1) := by decide +kernel
theorem d_0_618 : decode code 618 = .ok (.goto 514, 3) := by decide +kernel
theorem d_0_621 : decode code 621 = .ok (.aload_n 1, 1) := by decide +kernel
theorem d_0_622 : decode code 622 = .ok (.aload_n 0, 1) := by decide +kernel
theorem d_0_623 : decode code 623 = .ok (.iload_n 3, 1) := by decide +kernel
theorem d_0_624 : decode code 624 = .ok (.iconst 1, 1) := by decide +kernel
theorem d_0_625 : decode code 625 = .ok (.iadd, 1) := by decide +kernel
theorem d_0_626 : decode code 626 = .ok (.iaload, 1) := by decide +kernel
theorem d_0_627 : decode code 627 = .ok (.invokevirtual 77, 3) := by decide +kernel
theorem d_0_630 : decode code 630 = .ok (.pop, 1) := by decide +kernel
theorem d_0_631 : decode code 631 = .ok (.aload_n 2, 1) := by decide +kernel
theorem d_0_632 : decode code 632 = .ok (.aload_n 0, 1) := by decide +kernel
theorem d_0_633 : decode code 633 = .ok (.iload_n 3, 1) := by decide +kernel
theorem d_0_634 : decode code 634 = .ok (.iconst 1, 1) := by decide +kernel
theorem d_0_635 : decode code 635 = .ok (.iadd, 1) := by decide +kernel
theorem d_0_636 : decode code 636 = .ok (.iaload, 1) := by decide +kernel
theorem d_0_637 : decode code 637 = .ok (.invokevirtual 80, 3) := by decide +kernel
theorem d_0_640 : decode code 640 = .ok (.pop, 1) := by decide +kernel
theorem d_0_641 : decode code 641 = .ok (.goto 491, 3) := by decide +kernel
theorem d_0_644 : decode code 644 = .ok (.aload_n 1, 1) := by decide +kernel
theorem d_0_645 : decode code 645 = .ok (.aload_n 0, 1) := by decide +kernel
theorem d_0_646 : decode code 646 = .ok (.iload_n 3, 1) := by decide +kernel
theorem d_0_647 : decode code 647 = .ok (.iconst 1, 1) := by decide +kernel
theorem d_0_648 : decode code 648 = .ok (.iadd, 1) := by decide +kernel
theorem d_0_649 : decode code 649 = .ok (.iaload, 1) := by decide +kernel
theorem d_0_650 : decode code 650 = .ok (.invokevirtual 81, 3) := by decide +kernel
theorem d_0_653 : decode code 653 = .ok (.pop, 1) := by decide +kernel
theorem d_0_654 : decode code 654 = .ok (.aload_n 2, 1) := by decide +kernel
theorem d_0_655 : decode code 655 = .ok (.aload_n 0, 1) := by decide +kernel
theorem d_0_656 : decode code 656 = .ok (.iload_n 3, 1) := by decide +kernel
theorem d_0_657 : decode code 657 = .ok (.iconst 1, 1) := by decide +kernel
theorem d_0_658 : decode code 658 = .ok (.iadd, 1) := by decide +kernel
theorem d_0_659 : decode code 659 = .ok (.iaload, 1) := by decide +kernel
theorem d_0_660 : decode code 660 = .ok (.invokevirtual 84, 3) := by decide +kernel
theorem d_0_663 : decode code 663 = .ok (.pop, 1) := by decide +kernel
theorem d_0_664 : decode code 664 = .ok (.goto 468, 3) := by decide +kernel
theorem d_0_667 : decode code 667 = .ok (.aload_n 1, 1) := by decide +kernel
theorem d_0_668 : decode code 668 = .ok (.aload_n 0, 1) := by decide +kernel
theorem d_0_669 : decode code 669 = .ok (.iload_n 3, 1) := by decide +kernel
theorem d_0_670 : decode code 670 = .ok (.iconst 1, 1) := by decide +kernel
theorem d_0_671 : decode code 671 = .ok (.iadd, 1) := by decide +kernel
theorem d_0_672 : decode code 672 = .ok (.iaload, 1) := by decide +kernel
theorem d_0_673 : decode code 673 = .ok (.aload_n 0, 1) := by decide +kernel
theorem d_0_674 : decode code 674 = .ok (.iload_n 3, 1) := by decide +kernel
theorem d_0_675 : decode code 675 = .ok (.iconst 2, 1) := by decide +kernel
theorem d_0_676 : decode code 676 = .ok (.iadd, 1) := by decide +kernel
theorem d_0_677 : decode code 677 = .ok (.iaload, 1) := by decide +kernel
theorem d_0_678 : decode code 678 = .ok (.invokevirtual 85, 3) := by decide +kernel
theorem d_0_681 : decode code 681 = .ok (.pop, 1) := by decide +kernel
theorem d_0_682 : decode code 682 = .ok (.aload_n 2, 1) := by decide +kernel
theorem d_0_683 : decode code 683 = .ok (.aload_n 0, 1) := by decide +kernel
theorem d_0_684 : decode code 684 = .ok (.iload_n 3, 1) := by decide +kernel
theorem d_0_685 : decode code 685 = .ok (.iconst 1, 1) := by decide +kernel
theorem d_0_686 : decode code 686 = .ok (.iadd, 1) := by decide +kernel
theorem d_0_687 : decode code 687 = .ok (.iaload, 1) := by decide +kernel
theorem d_0_688 : decode code 688 = .ok (.aload_n 0, 1) := by decide +kernel
theorem d_0_689 : decode code 689 = .ok (.iload_n 3, 1) := by decide +kernel
theorem d_0_690 : decode code 690 = .ok (.iconst 2, 1) := by decide +kernel
theorem d_0_691 : decode code 691 = .ok (.iadd, 1) := by decide +kernel
theorem d_0_692 : decode code 692 = .ok (.iaload, 1) := by decide +kernel
theorem d_0_693 : decode code 693 = .ok (.invokevirtual 88, 3) := by decide +kernel
theorem d_0_696 : decode code 696 = .ok (.pop, 1) := by decide +kernel
theorem d_0_697 : decode code 697 = .ok (.goto 435, 3) := by decide +kernel
theorem d_0_700 : decode code 700 = .ok (.aload_n 1, 1) := by decide +kernel
theorem d_0_701 : decode code 701 = .ok (.aload_n 0, 1) := by decide +kernel
theorem d_0_702 : decode code 702 = .ok (.iload_n 3, 1) := by decide +kernel
theorem d_0_703 : decode code 703 = .ok (.iconst 1, 1) := by decide +kernel
theorem d_0_704 : decode code 704 = .ok (.iadd, 1) := by decide +kernel
theorem d_0_705 : decode code 705 = .ok (.iaload, 1) := by decide +kernel
theorem d_0_706 : decode code 706 = .ok (.invokevirtual 89, 3) := by decide +kernel
theorem d_0_709 : decode code 709 = .ok (.pop, 1) := by decide +kernel
theorem d_0_710 : decode code 710 = .ok (.aload_n 2, 1) := by decide +kernel
theorem d_0_711 : decode code 711 = .ok (.aload_n 0, 1) := by decide +kernel
theorem d_0_712 : decode code 712 = .ok (.iload_n 3, 1) := by decide +kernel
theorem d_0_713 : decode code 713 = .ok (.iconst 1, 1) := by decide +kernel
theorem d_0_714 : decode code 714 = .ok (.iadd, 1) := by decide +kernel
theorem d_0_715 : decode code 715 = .ok (.iaload, 1) := by decide +kernel
theorem d_0_716 : decode code 716 = .ok (.invokevirtual 92, 3) := by decide +kernel
theorem d_0_719 : decode code 719 = .ok (.pop, 1) := by decide +kernel
theorem d_0_720 : decode code 720 = .ok (.goto 412, 3) := by decide +kernel
theorem d_0_723 : decode code 723 = .ok (.aload_n 1, 1) := by decide +kernel
theorem d_0_724 : decode code 724 = .ok (.invokevirtual 93, 3) := by decide +kernel
theorem d_0_727 : decode code 727 = .ok (.pop, 1) := by decide +kernel
theorem d_0_728 : decode code 728 = .ok (.aload_n 2, 1) := by decide +kernel
theorem d_0_729 : decode code 729 = .ok (.invokevirtual 96, 3) := by decide +kernel
theorem d_0_732 : decode code 732 = .ok (.pop, 1) := by decide +kernel
theorem d_0_733 : decode code 733 = .ok (.goto 399, 3) := by decide +kernel
theorem d_0_736 : decode code 736 = .ok (.aload_n 1, 1) := by decide +kernel
theorem d_0_737 : decode code 737 = .ok (.aload_n 0, 1) := by decide +kernel
theorem d_0_738 : decode code 738 = .ok (.iload_n 3, 1) := by decide +kernel
theorem d_0_739 : decode code 739 = .ok (.iconst 1, 1) := by decide +kernel
theorem d_0_740 : decode code 740 = .ok (.iadd, 1) := by decide +kernel
theorem d_0_741 : decode code 741 = .ok (.iaload, 1) := by decide +kernel
theorem d_0_742 : decode code 742 = .ok (.invokevirtual 97, 3) := by decide +kernel
theorem d_0_745 : decode code 745 = .ok (.pop, 1) := by decide +kernel
theorem d_0_746 : decode code 746 = .ok (.aload_n 2, 1) := by decide +kernel
theorem d_0_747 : decode code 747 = .ok (.aload_n 0, 1) := by decide +kernel
theorem d_0_748 : decode code 748 = .ok (.iload_n 3, 1) := by decide +kernel
theorem d_0_749 : decode code 749 = .ok (.iconst 1, 1) := by decide +kernel
theorem d_0_750 : decode code 750 = .ok (.iadd, 1) := by decide +kernel
theorem d_0_751 : decode code 751 = .ok (.iaload, 1) := by decide +kernel
theorem d_0_752 : decode code 752 = .ok (.invokevirtual 100, 3) := by decide +kernel
theorem d_0_755 : decode code 755 = .ok (.pop, 1) := by decide +kernel
theorem d_0_756 : decode code 756 = .ok (.goto 376, 3) := by decide +kernel
theorem d_0_759 : decode code 759 = .ok (.aload_n 1, 1) := by decide +kernel
theorem d_0_760 : decode code 760 = .ok (.aload_n 0, 1) := by decide +kernel
theorem d_0_761 : decode code 761 = .ok (.iload_n 3, 1) := by decide +kernel
theorem d_0_762 : decode code 762 = .ok (.iconst 1, 1) := by decide +kernel
theorem d_0_763 : decode code 763 = .ok (.iadd, 1) := by decide +kernel
theorem d_0_764 : decode code 764 = .ok (.iaload, 1) := by decide +kernel
theorem d_0_765 : decode code 765 = .ok (.invokevirtual 101, 3) := by decide +kernel
theorem d_0_768 : decode code 768 = .ok (.pop2, 1) := by decide +kernel
theorem d_0_769 : decode code 769 = .ok (.aload_n 2, 1) := by decide +kernel
theorem d_0_770 : decode code 770 = .ok (.aload_n 0, 1) := by decide +kernel
theorem d_0_771 : decode code 771 = .ok (.iload_n 3, 1) := by decide +kernel
theorem d_0_772 : decode code 772 = .ok (.iconst 1, 1) := by decide +kernel
theorem d_0_773 : decode code 773 = .ok (.iadd, 1) := by decide +kernel
theorem d_0_774 : decode code 774 = .ok (.iaload, 1) := by decide +kernel
theorem d_0_775 : decode code 775 = .ok (.invokevirtual 105, 3) := by decide +kernel
theorem d_0_778 : decode code 778 = .ok (.pop2, 1) := by decide +kernel
theorem d_0_779 : decode code 779 = .ok (.goto 353, 3) := by decide +kernel
theorem d_0_782 : decode code 782 = .ok (.aload_n 1, 1) := by decide +kernel
theorem d_0_783 : decode code 783 = .ok (.aload_n 0, 1) := by decide +kernel
theorem d_0_784 : decode code 784 = .ok (.iload_n 3, 1) := by decide +kernel
theorem d_0_785 : decode code 785 = .ok (.iconst 1, 1) := by decide +kernel
theorem d_0_786 : decode code 786 = .ok (.iadd, 1) := by decide +kernel
theorem d_0_787 : decode code 787 = .ok (.iaload, 1) := by decide +kernel
theorem d_0_788 : decode code 788 = .ok (.aload_n 0, 1) := by decide +kernel
theorem d_0_789 : decode code 789 = .ok (.iload_n 3, 1) := by decide +kernel
theorem d_0_790 : decode code 790 = .ok (.iconst 2, 1) := by decide +kernel
theorem d_0_791 : decode code 791 = .ok (.iadd, 1) := by decide +kernel
theorem d_0_792 : decode code 792 = .ok (.iaload, 1) := by decide +kernel
theorem d_0_793 : decode code 793 = .ok (.invokevirtual 106, 3) := by decide +kernel
theorem d_0_796 : decode code 796 = .ok (.pop, 1) := by decide +kernel
theorem d_0_797 : decode code 797 = .ok (.aload_n 2, 1) := by decide +kernel
theorem d_0_798 : decode code 798 = .ok (.aload_n 0, 1) := by decide +kernel
theorem d_0_799 : decode code 799 = .ok (.iload_n 3, 1) := by decide +kernel
theorem d_0_800 : decode code 800 = .ok (.iconst 1, 1) := by decide +kernel
theorem d_0_801 : decode code 801 = .ok (.iadd, 1) := by decide +kernel
theorem d_0_802 : decode code 802 = .ok (.iaload, 1) := by decide +kernel
theorem d_0_803 : decode code 803 = .ok (.aload_n 0, 1) := by decide +kernel
theorem d_0_804 : decode code 804 = .ok (.iload_n 3, 1) := by decide +kernel
theorem d_0_805 : decode code 805 = .ok (.iconst 2, 1) := by decide +kernel
theorem d_0_806 : decode code 806 = .ok (.iadd, 1) := by decide +kernel
theorem d_0_807 : decode code 807 = .ok (.iaload, 1) := by decide +kernel
theorem d_0_808 : decode code 808 = .ok (.invokevirtual 109, 3) := by decide +kernel
theorem d_0_811 : decode code 811 = .ok (.pop, 1) := by decide +kernel
theorem d_0_812 : decode code 812 = .ok (.goto 320, 3) := by decide +kernel
theorem d_0_815 : decode code 815 = .ok (.aload_n 1, 1) := by decide +kernel
theorem d_0_816 : decode code 816 = .ok (.aload_n 0, 1) := by decide +kernel
theorem d_0_817 : decode code 817 = .ok (.iload_n 3, 1) := by decide +kernel
theorem d_0_818 : decode code 818 = .ok (.iconst 1, 1) := by decide +kernel
theorem d_0_819 : decode code 819 = .ok (.iadd, 1) := by decide +kernel
theorem d_0_820 : decode code 820 = .ok (.iaload, 1) := by decide +kernel
theorem d_0_821 : decode code 821 = .ok (.aload_n 0, 1) := by decide +kernel
theorem d_0_822 : decode code 822 = .ok (.iload_n 3, 1) := by decide +kernel
theorem d_0_823 : decode code 823 = .ok (.iconst 2, 1) := by decide +kernel
theorem d_0_824 : decode code 824 = .ok (.iadd, 1) := by decide +kernel
theorem d_0_825 : decode code 825 = .ok (.iaload, 1) := by decide +kernel
theorem d_0_826 : decode code 826 = .ok (.invokevirtual 110, 3) := by decide +kernel
theorem d_0_829 : decode code 829 = .ok (.pop, 1) := by decide +kernel
theorem d_0_830 : decode code 830 = .ok (.aload_n 2, 1) := by decide +kernel
theorem d_0_831 : decode code 831 = .ok (.aload_n 0, 1) := by decide +kernel
theorem d_0_832 : decode code 832 = .ok (.iload_n 3, 1) := by decide +kernel
theorem d_0_833 : decode code 833 = .ok (.iconst 1, 1) := by decide +kernel
theorem d_0_834 : decode code 834 = .ok (.iadd, 1) := by decide +kernel
theorem d_0_835 : decode code 835 = .ok (.iaload, 1) := by decide +kernel
theorem d_0_836 : decode code 836 = .ok (.aload_n 0, 1) := by decide +kernel
theorem d_0_837 : decode code 837 = .ok (.iload_n 3, 1) := by decide +kernel
theorem d_0_838 : decode code 838 = .ok (.iconst 2, 1) := by decide +kernel
theorem d_0_839 : decode code 839 = .ok (.iadd, 1) := by decide +kernel
theorem d_0_840 : decode code 840 = .ok (.iaload, 1) := by decide +kernel
theorem d_0_841 : decode code 841 = .ok (.invokevirtual 113, 3) := by decide +kernel
theorem d_0_844 : decode code 844 = .ok (.pop, 1) := by decide +kernel
theorem d_0_845 : decode code 845 = .ok (.goto 287, 3) := by decide +kernel
theorem d_0_848 : decode code 848 = .ok (.aload_n 1, 1) := by decide +kernel
theorem d_0_849 : decode code 849 = .ok (.invokevirtual 114, 3) := by decide +kernel
theorem d_0_852 : decode code 852 = .ok (.pop, 1) := by decide +kernel
theorem d_0_853 : decode code 853 = .ok (.aload_n 2, 1) := by decide +kernel
theorem d_0_854 : decode code 854 = .ok (.invokevirtual 117, 3) := by decide +kernel
theorem d_0_857 : decode code 857 = .ok (.pop, 1) := by decide +kernel
theorem d_0_858 : decode code 858 = .ok (.goto 274, 3) := by decide +kernel
theorem d_0_861 : decode code 861 = .ok (.aload_n 1, 1) := by decide +kernel
theorem d_0_862 : decode code 862 = .ok (.invokevirtual 118, 3) := by decide +kernel
theorem d_0_865 : decode code 865 = .ok (.pop, 1) := by decide +kernel
theorem d_0_866 : decode code 866 = .ok (.aload_n 2, 1) := by decide +kernel
theorem d_0_867 : decode code 867 = .ok (.invokevirtual 121, 3) := by decide +kernel
theorem d_0_870 : decode code 870 = .ok (.pop, 1) := by decide +kernel
theorem d_0_871 : decode code 871 = .ok (.goto 261, 3) := by decide +kernel
theorem d_0_874 : decode code 874 = .ok (.aload_n 1, 1) := by decide +kernel
theorem d_0_875 : decode code 875 = .ok (.aload_n 0, 1) := by decide +kernel
theorem d_0_876 : decode code 876 = .ok (.iload_n 3, 1) := by decide +kernel
theorem d_0_877 : decode code 877 = .ok (.iconst 1, 1) := by decide +kernel
theorem d_0_878 : decode code 878 = .ok (.iadd, 1) := by decide +kernel
theorem d_0_879 : decode code 879 = .ok (.iaload, 1) := by decide +kernel
theorem d_0_880 : decode code 880 = .ok (.invokevirtual 122, 3) := by decide +kernel
theorem d_0_883 : decode code 883 = .ok (.pop, 1) := by decide +kernel
theorem d_0_884 : decode code 884 = .ok (.aload_n 2, 1) := by decide +kernel
theorem d_0_885 : decode code 885 = .ok (.aload_n 0, 1) := by decide +kernel
theorem d_0_886 : decode code 886 = .ok (.iload_n 3, 1) := by decide +kernel
theorem d_0_887 : decode code 887 = .ok (.iconst 1, 1) := by decide +kernel
theorem d_0_888 : decode code 888 = .ok (.iadd, 1) := by decide +kernel
theorem d_0_889 : decode code 889 = .ok (.iaload, 1) := by decide +kernel
theorem d_0_890 : decode code 890 = .ok (.invokevirtual 125, 3) := by decide +kernel
theorem d_0_893 : decode code 893 = .ok (.pop, 1) := by decide +kernel
theorem d_0_894 : decode code 894 = .ok (.goto 238, 3) := by decide +kernel
theorem d_0_897 : decode code 897 = .ok (.aload_n 1, 1) := by decide +kernel
theorem d_0_898 : decode code 898 = .ok (.aload_n 0, 1) := by decide +kernel
theorem d_0_899 : decode code 899 = .ok (.iload_n 3, 1) := by decide +kernel
theorem d_0_900 : decode code 900 = .ok (.iconst 1, 1) := by decide +kernel
theorem d_0_901 : decode code 901 = .ok (.iadd, 1) := by decide +kernel
theorem d_0_902 : decode code 902 = .ok (.iaload, 1) := by decide +kernel
theorem d_0_903 : decode code 903 = .ok (.aload_n 0, 1) := by decide +kernel
theorem d_0_904 : decode code 904 = .ok (.iload_n 3, 1) := by decide +kernel
theorem d_0_905 : decode code 905 = .ok (.iconst 2, 1) := by decide +kernel
theorem d_0_906 : decode code 906 = .ok (.iadd, 1) := by decide +kernel
theorem d_0_907 : decode code 907 = .ok (.iaload, 1) := by decide +kernel
theorem d_0_908 : decode code 908 = .ok (.aload_n 0, 1) := by decide +kernel
theorem d_0_909 : decode code 909 = .ok (.iload_n 3, 1) := by decide +kernel
theorem d_0_910 : decode code 910 = .ok (.iconst 3, 1) := by decide +kernel
theorem d_0_911 : decode code 911 = .ok (.iadd, 1) := by decide +kernel
theorem d_0_912 : decode code 912 = .ok (.iaload, 1) := by decide +kernel
theorem d_0_913 : decode code 913 = .ok (.invokevirtual 126, 3) := by decide +kernel
theorem d_0_916 : decode code 916 = .ok (.pop, 1) := by decide +kernel
theorem d_0_917 : decode code 917 = .ok (.aload_n 2, 1) := by decide +kernel
theorem d_0_918 : decode code 918 = .ok (.aload_n 0, 1) := by decide +kernel
theorem d_0_919 : decode code 919 = .ok (.iload_n 3, 1) := by decide +kernel
theorem d_0_920 : decode code 920 = .ok (.iconst 1, 1) := by decide +kernel
theorem d_0_921 : decode code 921 = .ok (.iadd, 1) := by decide +kernel
theorem d_0_922 : decode code 922 = .ok (.iaload, 1) := by decide +kernel
theorem d_0_923 : decode code 923 = .ok (.aload_n 0, 1) := by decide +kernel
theorem d_0_924 : decode code 924 = .ok (.iload_n 3, 1) := by decide +kernel
theorem d_0_925 : decode code 925 = .ok (.iconst 2, 1) := by decide +kernel
theorem d_0_926 : decode code 926 = .ok (.iadd, 1) := by decide +kernel
theorem d_0_927 : decode code 927 = .ok (.iaload, 1) := by decide +kernel
theorem d_0_928 : decode code 928 = .ok (.aload_n 0, 1) := by decide +kernel
theorem d_0_929 : decode code 929 = .ok (.iload_n 3, 1) := by decide +kernel
theorem d_0_930 : decode code 930 = .ok (.iconst 3, 1) := by decide +kernel
theorem d_0_931 : decode code 931 = .ok (.iadd, 1) := by decide +kernel
theorem d_0_932 : decode code 932 = .ok (.iaload, 1) := by decide +kernel
theorem d_0_933 : decode code 933 = .ok (.invokevirtual 129, 3) := by decide +kernel
theorem d_0_936 : decode code 936 = .ok (.pop, 1) := by decide +kernel
theorem d_0_937 : decode code 937 = .ok (.goto 195, 3) := by decide +kernel
theorem d_0_940 : decode code 940 = .ok (.aload_n 1, 1) := by decide +kernel
theorem d_0_941 : decode code 941 = .ok (.aload_n 0, 1) := by decide +kernel
theorem d_0_942 : decode code 942 = .ok (.iload_n 3, 1) := by decide +kernel
theorem d_0_943 : decode code 943 = .ok (.iconst 1, 1) := by decide +kernel
theorem d_0_944 : decode code 944 = .ok (.iadd, 1) := by decide +kernel
theorem d_0_945 : decode code 945 = .ok (.iaload, 1) := by decide +kernel
theorem d_0_946 : decode code 946 = .ok (.aload_n 0, 1) := by decide +kernel
theorem d_0_947 : decode code 947 = .ok (.iload_n 3, 1) := by decide +kernel
theorem d_0_948 : decode code 948 = .ok (.iconst 2, 1) := by decide +kernel
theorem d_0_949 : decode code 949 = .ok (.iadd, 1) := by decide +kernel
theorem d_0_950 : decode code 950 = .ok (.iaload, 1) := by decide +kernel
theorem d_0_951 : decode code 951 = .ok (.aload_n 0, 1) := by decide +kernel
theorem d_0_952 : decode code 952 = .ok (.iload_n 3, 1) := by decide +kernel
theorem d_0_953 : decode code 953 = .ok (.iconst 3, 1) := by decide +kernel
theorem d_0_954 : decode code 954 = .ok (.iadd, 1) := by decide +kernel
theorem d_0_955 : decode code 955 = .ok (.iaload, 1) := by decide +kernel
theorem d_0_956 : decode code 956 = .ok (.invokevirtual 130, 3) := by decide +kernel
theorem d_0_959 : decode code 959 = .ok (.pop, 1) := by decide +kernel
theorem d_0_960 : decode code 960 = .ok (.aload_n 2, 1) := by decide +kernel
theorem d_0_961 : decode code 961 = .ok (.aload_n 0, 1) := by decide +kernel
theorem d_0_962 : decode code 962 = .ok (.iload_n 3, 1) := by decide +kernel
theorem d_0_963 : decode code 963 = .ok (.iconst 1, 1) := by decide +kernel
theorem d_0_964 : decode code 964 = .ok (.iadd, 1) := by decide +kernel
theorem d_0_965 : decode code 965 = .ok (.iaload, 1) := by decide +kernel
theorem d_0_966 : decode code 966 = .ok (.aload_n 0, 1) := by decide +kernel
theorem d_0_967 : decode code 967 = .ok (.iload_n 3, 1) := by decide +kernel
theorem d_0_968 : decode code 968 = .ok (.iconst 2, 1) := by decide +kernel
theorem d_0_969 : decode code 969 = .ok (.iadd, 1) := by decide +kernel
theorem d_0_970 : decode code 970 = .ok (.iaload, 1) := by decide +kernel
theorem d_0_971 : decode code 971 = .ok (.aload_n 0, 1) := by decide +kernel
theorem d_0_972 : decode code 972 = .ok (.iload_n 3, 1) := by decide +kernel
theorem d_0_973 : decode code 973 = .ok (.iconst 3, 1) := by decide +kernel
theorem d_0_974 : decode code 974 = .ok (.iadd, 1) := by decide +kernel
theorem d_0_975 : decode code 975 = .ok (.iaload, 1) := by decide +kernel
theorem d_0_976 : decode code 976 = .ok (.invokevirtual 133, 3) := by decide +kernel
theorem d_0_979 : decode code 979 = .ok (.pop, 1) := by decide +kernel
theorem d_0_980 : decode code 980 = .ok (.goto 152, 3) := by decide +kernel
theorem d_0_983 : decode code 983 = .ok (.aload_n 1, 1) := by decide +kernel
theorem d_0_984 : decode code 984 = .ok (.aload_n 0, 1) := by decide +kernel
theorem d_0_985 : decode code 985 = .ok (.iload_n 3, 1) := by decide +kernel
theorem d_0_986 : decode code 986 = .ok (.iconst 1, 1) := by decide +kernel
theorem d_0_987 : decode code 987 = .ok (.iadd, 1) := by decide +kernel
theorem d_0_988 : decode code 988 = .ok (.iaload, 1) := by decide +kernel
theorem d_0_989 : decode code 989 = .ok (.aload_n 0, 1) := by decide +kernel
theorem d_0_990 : decode code 990 = .ok (.iload_n 3, 1) := by decide +kernel
theorem d_0_991 : decode code 991 = .ok (.iconst 2, 1) := by decide +kernel
theorem d_0_992 : decode code 992 = .ok (.iadd, 1) := by decide +kernel
theorem d_0_993 : decode code 993 = .ok (.iaload, 1) := by decide +kernel
theorem d_0_994 : decode code 994 = .ok (.aload_n 0, 1) := by decide +kernel
theorem d_0_995 : decode code 995 = .ok (.iload_n 3, 1) := by decide +kernel
theorem d_0_996 : decode code 996 = .ok (.iconst 3, 1) := by decide +kernel
theorem d_0_997 : decode code 997 = .ok (.iadd, 1) := by decide +kernel
theorem d_0_998 : decode code 998 = .ok (.iaload, 1) := by decide +kernel
theorem d_0_999 : decode code 999 = .ok (.aload_n 0, 1) := by decide +kernel
theorem d_0_1000 : decode code 1000 = .ok (.iload_n 3, 1) := by decide +kernel
theorem d_0_1001 : decode code 1001 = .ok (.iconst 4, 1) := by decide +kernel
theorem d_0_1002 : decode code 1002 = .ok (.iadd, 1) := by decide +kernel
theorem d_0_1003 : decode code 1003 = .ok (.iaload, 1) := by decide +kernel
theorem d_0_1004 : decode code 1004 = .ok (.aload_n 0, 1) := by decide +kernel
theorem d_0_1005 : decode code 1005 = .ok (.iload_n 3, 1) := by decide +kernel
theorem d_0_1006 : decode code 1006 = .ok (.iconst 5, 1) := by decide +kernel
theorem d_0_1007 : decode code 1007 = .ok (.iadd, 1) := by decide +kernel
theorem d_0_1008 : decode code 1008 = .ok (.iaload, 1) := by decide +kernel
theorem d_0_1009 : decode code 1009 = .ok (.invokevirtual 134, 3) := by decide +kernel
theorem d_0_1012 : decode code 1012 = .ok (.pop, 1) := by decide +kernel
theorem d_0_1013 : decode code 1013 = .ok (.aload_n 2, 1) := by decide +kernel
theorem d_0_1014 : decode code 1014 = .ok (.aload_n 0, 1) := by decide +kernel
theorem d_0_1015 : decode code 1015 = .ok (.iload_n 3, 1) := by decide +kernel
theorem d_0_1016 : decode code 1016 = .ok (.iconst 1, 1) := by decide +kernel
theorem d_0_1017 : decode code 1017 = .ok (.iadd, 1) := by decide +kernel
theorem d_0_1018 : decode code 1018 = .ok (.iaload, 1) := by decide +kernel
theorem d_0_1019 : decode code 1019 = .ok (.aload_n 0, 1) := by decide +kernel
theorem d_0_1020 : decode code 1020 = .ok (.iload_n 3, 1) := by decide +kernel
theorem d_0_1021 : decode code 1021 = .ok (.iconst 2, 1) := by decide +kernel
theorem d_0_1022 : decode code 1022 = .ok (.iadd, 1) := by decide +kernel
theorem d_0_1023 : decode code 1023 = .ok (.iaload, 1) := by decide +kernel
theorem d_0_1024 : decode code 1024 = .ok (.aload_n 0, 1) := by decide +kernel
theorem d_0_1025 : decode code 1025 = .ok (.iload_n 3, 1) := by decide +kernel
theorem d_0_1026 : decode code 1026 = .ok (.iconst 3, 1) := by decide +kernel
theorem d_0_1027 : decode code 1027 = .ok (.iadd, 1) := by decide +kernel
theorem d_0_1028 : decode code 1028 = .ok (.iaload, 1) := by decide +kernel
theorem d_0_1029 : decode code 1029 = .ok (.aload_n 0, 1) := by decide +kernel
theorem d_0_1030 : decode code 1030 = .ok (.iload_n 3, 1) := by decide +kernel
theorem d_0_1031 : decode code 1031 = .ok (.iconst 4, 1) := by decide +kernel
theorem d_0_1032 : decode code 1032 = .ok (.iadd, 1) := by decide +kernel
theorem d_0_1033 : decode code 1033 = .ok (.iaload, 1) := by decide +kernel
theorem d_0_1034 : decode code 1034 = .ok (.aload_n 0, 1) := by decide +kernel
theorem d_0_1035 : decode code 1035 = .ok (.iload_n 3, 1) := by decide +kernel
theorem d_0_1036 : decode code 1036 = .ok (.iconst 5, 1) := by decide +kernel
theorem d_0_1037 : decode code 1037 = .ok (.iadd, 1) := by decide +kernel
theorem d_0_1038 : decode code 1038 = .ok (.iaload, 1) := by decide +kernel
theorem d_0_1039 : decode code 1039 = .ok (.invokevirtual 138, 3) := by decide +kernel
theorem d_0_1042 : decode code 1042 = .ok (.pop, 1) := by decide +kernel
theorem d_0_1043 : decode code 1043 = .ok (.goto 89, 3) := by decide +kernel
theorem d_0_1046 : decode code 1046 = .ok (.aload_n 1, 1) := by decide +kernel
theorem d_0_1047 : decode code 1047 = .ok (.aload_n 0, 1) := by decide +kernel
theorem d_0_1048 : decode code 1048 = .ok (.iload_n 3, 1) := by decide +kernel
theorem d_0_1049 : decode code 1049 = .ok (.iconst 1, 1) := by decide +kernel
theorem d_0_1050 : decode code 1050 = .ok (.iadd, 1) := by decide +kernel
theorem d_0_1051 : decode code 1051 = .ok (.iaload, 1) := by decide +kernel
theorem d_0_1052 : decode code 1052 = .ok (.aload_n 0, 1) := by decide +kernel
theorem d_0_1053 : decode code 1053 = .ok (.iload_n 3, 1) := by decide +kernel
theorem d_0_1054 : decode code 1054 = .ok (.iconst 2, 1) := by decide +kernel
theorem d_0_1055 : decode code 1055 = .ok (.iadd, 1) := by decide +kernel
theorem d_0_1056 : decode code 1056 = .ok (.iaload, 1) := by decide +kernel
theorem d_0_1057 : decode code 1057 = .ok (.aload_n 0, 1) := by decide +kernel
theorem d_0_1058 : decode code 1058 = .ok (.iload_n 3, 1) := by decide +kernel
theorem d_0_1059 : decode code 1059 = .ok (.iconst 3, 1) := by decide +kernel
theorem d_0_1060 : decode code 1060 = .ok (.iadd, 1) := by decide +kernel
theorem d_0_1061 : decode code 1061 = .ok (.iaload, 1) := by decide +kernel
theorem d_0_1062 : decode code 1062 = .ok (.aload_n 0, 1) := by decide +kernel
theorem d_0_1063 : decode code 1063 = .ok (.iload_n 3, 1) := by decide +kernel
theorem d_0_1064 : decode code 1064 = .ok (.iconst 4, 1) := by decide +kernel
theorem d_0_1065 : decode code 1065 = .ok (.iadd, 1) := by decide +kernel
theorem d_0_1066 : decode code 1066 = .ok (.iaload, 1) := by decide +kernel
theorem d_0_1067 : decode code 1067 = .ok (.invokevirtual 139, 3) := by decide +kernel
theorem d_0_1070 : decode code 1070 = .ok (.pop, 1) := by decide +kernel
theorem d_0_1071 : decode code 1071 = .ok (.aload_n 2, 1) := by decide +kernel
theorem d_0_1072 : decode code 1072 = .ok (.aload_n 0, 1) := by decide +kernel
theorem d_0_1073 : decode code 1073 = .ok (.iload_n 3, 1) := by decide +kernel
theorem d_0_1074 : decode code 1074 = .ok (.iconst 1, 1) := by decide +kernel
theorem d_0_1075 : decode code 1075 = .ok (.iadd, 1) := by decide +kernel
theorem d_0_1076 : decode code 1076 = .ok (.iaload, 1) := by decide +kernel
theorem d_0_1077 : decode code 1077 = .ok (.aload_n 0, 1) := by decide +kernel
theorem d_0_1078 : decode code 1078 = .ok (.iload_n 3, 1) := by decide +kernel
theorem d_0_1079 : decode code 1079 = .ok (.iconst 2, 1) := by decide +kernel
theorem d_0_1080 : decode code 1080 = .ok (.iadd, 1) := by decide +kernel
theorem d_0_1081 : decode code 1081 = .ok (.iaload, 1) := by decide +kernel
theorem d_0_1082 : decode code 1082 = .ok (.aload_n 0, 1) := by decide +kernel
theorem d_0_1083 : decode code 1083 = .ok (.iload_n 3, 1) := by decide +kernel
theorem d_0_1084 : decode code 1084 = .ok (.iconst 3, 1) := by decide +kernel
theorem d_0_1085 : decode code 1085 = .ok (.iadd, 1) := by decide +kernel
theorem d_0_1086 : decode code 1086 = .ok (.iaload, 1) := by decide +kernel
theorem d_0_1087 : decode code 1087 = .ok (.aload_n 0, 1) := by decide +kernel
theorem d_0_1088 : decode code 1088 = .ok (.iload_n 3, 1) := by decide +kernel
theorem d_0_1089 : decode code 1089 = .ok (.iconst 4, 1) := by decide +kernel
theorem d_0_1090 : decode code 1090 = .ok (.iadd, 1) := by decide +kernel
theorem d_0_1091 : decode code 1091 = .ok (.iaload, 1) := by decide +kernel
theorem d_0_1092 : decode code 1092 = .ok (.invokevirtual 143, 3) := by decide +kernel
theorem d_0_1095 : decode code 1095 = .ok (.pop, 1) := by decide +kernel
theorem d_0_1096 : decode code 1096 = .ok (.goto 36, 3) := by decide +kernel
theorem d_0_1099 : decode code 1099 = .ok (.aload_n 1, 1) := by decide +kernel
theorem d_0_1100 : decode code 1100 = .ok (.aload_n 0, 1) := by decide +kernel
theorem d_0_1101 : decode code 1101 = .ok (.iload_n 3, 1) := by decide +kernel
theorem d_0_1102 : decode code 1102 = .ok (.iconst 1, 1) := by decide +kernel
theorem d_0_1103 : decode code 1103 = .ok (.iadd, 1) := by decide +kernel
theorem d_0_1104 : decode code 1104 = .ok (.iaload, 1) := by decide +kernel
theorem d_0_1105 : decode code 1105 = .ok (.aload_n 0, 1) := by decide +kernel
theorem d_0_1106 : decode code 1106 = .ok (.iload_n 3, 1) := by decide +kernel
theorem d_0_1107 : decode code 1107 = .ok (.iconst 2, 1) := by decide +kernel
theorem d_0_1108 : decode code 1108 = .ok (.iadd, 1) := by decide +kernel
theorem d_0_1109 : decode code 1109 = .ok (.iaload, 1) := by decide +kernel
theorem d_0_1110 : decode code 1110 = .ok (.invokevirtual 144, 3) := by decide +kernel
theorem d_0_1113 : decode code 1113 = .ok (.pop, 1) := by decide +kernel
theorem d_0_1114 : decode code 1114 = .ok (.aload_n 2, 1) := by decide +kernel
theorem d_0_1115 : decode code 1115 = .ok (.aload_n 0, 1) := by decide +kernel
theorem d_0_1116 : decode code 1116 = .ok (.iload_n 3, 1) := by decide +kernel
theorem d_0_1117 : decode code 1117 = .ok (.iconst 1, 1) := by decide +kernel
theorem d_0_1118 : decode code 1118 = .ok (.iadd, 1) := by decide +kernel
theorem d_0_1119 : decode code 1119 = .ok (.iaload, 1) := by decide +kernel
theorem d_0_1120 : decode code 1120 = .ok (.aload_n 0, 1) := by decide +kernel
theorem d_0_1121 : decode code 1121 = .ok (.iload_n 3, 1) := by decide +kernel
theorem d_0_1122 : decode code 1122 = .ok (.iconst 2, 1) := by decide +kernel
theorem d_0_1123 : decode code 1123 = .ok (.iadd, 1) := by decide +kernel
theorem d_0_1124 : decode code 1124 = .ok (.iaload, 1) := by decide +kernel
theorem d_0_1125 : decode code 1125 = .ok (.invokevirtual 147, 3) := by decide +kernel
theorem d_0_1128 : decode code 1128 = .ok (.pop, 1) := by decide +kernel
theorem d_0_1129 : decode code 1129 = .ok (.goto 3, 3) := by decide +kernel
theorem d_0_1132 : decode code 1132 = .ok (.iinc 3 6, 3) := by decide +kernel
theorem d_0_1135 : decode code 1135 = .ok (.goto (-1117), 3) := by decide +kernel
theorem d_0_1138 : decode code 1138 = .ok (.iconst 1, 1) := by decide +kernel
theorem d_0_1139 : decode code 1139 = .ok (.ireturn, 1) := by decide +kernel
theorem s_0_1138 {Γ : m_G} : m_ok Γ m_tab 0 M_0 1138 (g_0_1138 Γ.2.2.2.2) := ok_ic (pc := 1138) d_0_1138 rfl (ok_rz (pc := 1139) d_0_1139 rfl)
theorem s_0_1132 {Γ : m_G} : m_ok Γ m_tab 0 M_0 1132 (g_0_1132 Γ.2.2.2.2) := ok_inc (pc := 1132) d_0_1132 rfl (by decide) (ok_go (pc := 1135) (t := 18) d_0_1135 rfl (by decide) rfl)
theorem s_0_1099 {Γ : m_G} : m_ok Γ m_tab 0 M_0 1099 (g_0_1099 Γ.2.2.2.2) := ok_al_n (pc := 1099) d_0_1099 rfl (ok_al_n (pc := 1100) d_0_1100 rfl (ok_il_n (pc := 1101) d_0_1101 rfl (ok_ic (pc := 1102) d_0_1102 rfl (ok_add (pc := 1103) d_0_1103 (ok_sld rfl (pc := 1104) d_0_1104 (ok_al_n (pc := 1105) d_0_1105 rfl (ok_il_n (pc := 1106) d_0_1106 rfl (ok_ic (pc := 1107) d_0_1107 rfl (ok_add (pc := 1108) d_0_1108 (ok_sld rfl (pc := 1109) d_0_1109 (ok_cai (pc := 1110) (k2 := 120) rfl rfl tb_120 (by decide) (by decide) rfl (go_V d_0_1110 w_886 w_887 w_888 w_1 w_889 nn_120 (by decide) cl_11 rfl) (ok_pop (pc := 1113) d_0_1113 (ok_al_n (pc := 1114) d_0_1114 rfl (ok_al_n (pc := 1115) d_0_1115 rfl (ok_il_n (pc := 1116) d_0_1116 rfl (ok_ic (pc := 1117) d_0_1117 rfl (ok_add (pc := 1118) d_0_1118 (ok_sld rfl (pc := 1119) d_0_1119 (ok_al_n (pc := 1120) d_0_1120 rfl (ok_il_n (pc := 1121) d_0_1121 rfl (ok_ic (pc := 1122) d_0_1122 rfl (ok_add (pc := 1123) d_0_1123 (ok_sld rfl (pc := 1124) d_0_1124 (ok_cai (pc := 1125) (k2 := 157) rfl rfl tb_157 (by decide) (by decide) rfl (go_V d_0_1125 w_1090 w_1091 w_1092 w_11 w_1093 nn_157 (by decide) cl_12 rfl) (ok_pop (pc := 1128) d_0_1128 (ok_go (pc := 1129) (t := 1132) d_0_1129 rfl (by decide) rfl))))))))))))))))))))))))))
theorem s_0_1088 {Γ : m_G} : m_ok Γ m_tab 0 M_0 1088 (g_0_1088 Γ.2.2.2.2) := ok_il_n (pc := 1088) d_0_1088 rfl (ok_ic (pc := 1089) d_0_1089 rfl (ok_add (pc := 1090) d_0_1090 (ok_sld rfl (pc := 1091) d_0_1091 (ok_cai (pc := 1092) (k2 := 224) rfl rfl tb_224 (by decide) (by decide) rfl (go_V d_0_1092 w_1357 w_1358 w_1359 w_11 w_1360 nn_224 (by decide) cl_12 rfl) (ok_pop (pc := 1095) d_0_1095 (ok_go (pc := 1096) (t := 1132) d_0_1096 rfl (by decide) rfl))))))
theorem s_0_1046 {Γ : m_G} : m_ok Γ m_tab 0 M_0 1046 (g_0_1046 Γ.2.2.2.2) := ok_al_n (pc := 1046) d_0_1046 rfl (ok_al_n (pc := 1047) d_0_1047 rfl (ok_il_n (pc := 1048) d_0_1048 rfl (ok_ic (pc := 1049) d_0_1049 rfl (ok_add (pc := 1050) d_0_1050 (ok_sld rfl (pc := 1051) d_0_1051 (ok_al_n (pc := 1052) d_0_1052 rfl (ok_il_n (pc := 1053) d_0_1053 rfl (ok_ic (pc := 1054) d_0_1054 rfl (ok_add (pc := 1055) d_0_1055 (ok_sld rfl (pc := 1056) d_0_1056 (ok_al_n (pc := 1057) d_0_1057 rfl (ok_il_n (pc := 1058) d_0_1058 rfl (ok_ic (pc := 1059) d_0_1059 rfl (ok_add (pc := 1060) d_0_1060 (ok_sld rfl (pc := 1061) d_0_1061 (ok_al_n (pc := 1062) d_0_1062 rfl (ok_il_n (pc := 1063) d_0_1063 rfl (ok_ic (pc := 1064) d_0_1064 rfl (ok_add (pc := 1065) d_0_1065 (ok_sld rfl (pc := 1066) d_0_1066 (ok_cai (pc := 1067) (k2 := 119) rfl rfl tb_119 (by decide) (by decide) rfl (go_V d_0_1067 w_881 w_882 w_883 w_1 w_884 nn_119 (by decide) cl_11 rfl) (ok_pop (pc := 1070) d_0_1070 (ok_al_n (pc := 1071) d_0_1071 rfl (ok_al_n (pc := 1072) d_0_1072 rfl (ok_il_n (pc := 1073) d_0_1073 rfl (ok_ic (pc := 1074) d_0_1074 rfl (ok_add (pc := 1075) d_0_1075 (ok_sld rfl (pc := 1076) d_0_1076 (ok_al_n (pc := 1077) d_0_1077 rfl (ok_il_n (pc := 1078) d_0_1078 rfl (ok_ic (pc := 1079) d_0_1079 rfl (ok_add (pc := 1080) d_0_1080 (ok_sld rfl (pc := 1081) d_0_1081 (ok_al_n (pc := 1082) d_0_1082 rfl (ok_il_n (pc := 1083) d_0_1083 rfl (ok_ic (pc := 1084) d_0_1084 rfl (ok_add (pc := 1085) d_0_1085 (ok_sld rfl (pc := 1086) d_0_1086 (ok_al_n (pc := 1087) d_0_1087 rfl (s_0_1088))))))))))))))))))))))))))))))))))))))))
theorem s_0_1025 {Γ : m_G} : m_ok Γ m_tab 0 M_0 1025 (g_0_1025 Γ.2.2.2.2) := ok_il_n (pc := 1025) d_0_1025 rfl (ok_ic (pc := 1026) d_0_1026 rfl (ok_add (pc := 1027) d_0_1027 (ok_sld rfl (pc := 1028) d_0_1028 (ok_al_n (pc := 1029) d_0_1029 rfl (ok_il_n (pc := 1030) d_0_1030 rfl (ok_ic (pc := 1031) d_0_1031 rfl (ok_add (pc := 1032) d_0_1032 (ok_sld rfl (pc := 1033) d_0_1033 (ok_al_n (pc := 1034) d_0_1034 rfl (ok_il_n (pc := 1035) d_0_1035 rfl (ok_ic (pc := 1036) d_0_1036 rfl (ok_add (pc := 1037) d_0_1037 (ok_sld rfl (pc := 1038) d_0_1038 (ok_cai (pc := 1039) (k2 := 223) rfl rfl tb_223 (by decide) (by decide) rfl (go_V d_0_1039 w_1349 w_1350 w_1351 w_11 w_1352 nn_223 (by decide) cl_12 rfl) (ok_pop (pc := 1042) d_0_1042 (ok_go (pc := 1043) (t := 1132) d_0_1043 rfl (by decide) rfl))))))))))))))))
theorem s_0_983 {Γ : m_G} : m_ok Γ m_tab 0 M_0 983 (g_0_983 Γ.2.2.2.2) := ok_al_n (pc := 983) d_0_983 rfl (ok_al_n (pc := 984) d_0_984 rfl (ok_il_n (pc := 985) d_0_985 rfl (ok_ic (pc := 986) d_0_986 rfl (ok_add (pc := 987) d_0_987 (ok_sld rfl (pc := 988) d_0_988 (ok_al_n (pc := 989) d_0_989 rfl (ok_il_n (pc := 990) d_0_990 rfl (ok_ic (pc := 991) d_0_991 rfl (ok_add (pc := 992) d_0_992 (ok_sld rfl (pc := 993) d_0_993 (ok_al_n (pc := 994) d_0_994 rfl (ok_il_n (pc := 995) d_0_995 rfl (ok_ic (pc := 996) d_0_996 rfl (ok_add (pc := 997) d_0_997 (ok_sld rfl (pc := 998) d_0_998 (ok_al_n (pc := 999) d_0_999 rfl (ok_il_n (pc := 1000) d_0_1000 rfl (ok_ic (pc := 1001) d_0_1001 rfl (ok_add (pc := 1002) d_0_1002 (ok_sld rfl (pc := 1003) d_0_1003 (ok_al_n (pc := 1004) d_0_1004 rfl (ok_il_n (pc := 1005) d_0_1005 rfl (ok_ic (pc := 1006) d_0_1006 rfl (ok_add (pc := 1007) d_0_1007 (ok_sld rfl (pc := 1008) d_0_1008 (ok_cai (pc := 1009) (k2 := 118) rfl rfl tb_118 (by decide) (by decide) rfl (go_V d_0_1009 w_873 w_874 w_875 w_1 w_876 nn_118 (by decide) cl_11 rfl) (ok_pop (pc := 1012) d_0_1012 (ok_al_n (pc := 1013) d_0_1013 rfl (ok_al_n (pc := 1014) d_0_1014 rfl (ok_il_n (pc := 1015) d_0_1015 rfl (ok_ic (pc := 1016) d_0_1016 rfl (ok_add (pc := 1017) d_0_1017 (ok_sld rfl (pc := 1018) d_0_1018 (ok_al_n (pc := 1019) d_0_1019 rfl (ok_il_n (pc := 1020) d_0_1020 rfl (ok_ic (pc := 1021) d_0_1021 rfl (ok_add (pc := 1022) d_0_1022 (ok_sld rfl (pc := 1023) d_0_1023 (ok_al_n (pc := 1024) d_0_1024 rfl (s_0_1025))))))))))))))))))))))))))))))))))))))))
theorem s_0_940 {Γ : m_G} : m_ok Γ m_tab 0 M_0 940 (g_0_940 Γ.2.2.2.2) := ok_al_n (pc := 940) d_0_940 rfl (ok_al_n (pc := 941) d_0_941 rfl (ok_il_n (pc := 942) d_0_942 rfl (ok_ic (pc := 943) d_0_943 rfl (ok_add (pc := 944) d_0_944 (ok_sld rfl (pc := 945) d_0_945 (ok_al_n (pc := 946) d_0_946 rfl (ok_il_n (pc := 947) d_0_947 rfl (ok_ic (pc := 948) d_0_948 rfl (ok_add (pc := 949) d_0_949 (ok_sld rfl (pc := 950) d_0_950 (ok_al_n (pc := 951) d_0_951 rfl (ok_il_n (pc := 952) d_0_952 rfl (ok_ic (pc := 953) d_0_953 rfl (ok_add (pc := 954) d_0_954 (ok_sld rfl (pc := 955) d_0_955 (ok_cai (pc := 956) (k2 := 117) rfl rfl tb_117 (by decide) (by decide) rfl (go_V d_0_956 w_861 w_862 w_863 w_1 w_864 nn_117 (by decide) cl_11 rfl) (ok_pop (pc := 959) d_0_959 (ok_al_n (pc := 960) d_0_960 rfl (ok_al_n (pc := 961) d_0_961 rfl (ok_il_n (pc := 962) d_0_962 rfl (ok_ic (pc := 963) d_0_963 rfl (ok_add (pc := 964) d_0_964 (ok_sld rfl (pc := 965) d_0_965 (ok_al_n (pc := 966) d_0_966 rfl (ok_il_n (pc := 967) d_0_967 rfl (ok_ic (pc := 968) d_0_968 rfl (ok_add (pc := 969) d_0_969 (ok_sld rfl (pc := 970) d_0_970 (ok_al_n (pc := 971) d_0_971 rfl (ok_il_n (pc := 972) d_0_972 rfl (ok_ic (pc := 973) d_0_973 rfl (ok_add (pc := 974) d_0_974 (ok_sld rfl (pc := 975) d_0_975 (ok_cai (pc := 976) (k2 := 221) rfl rfl tb_221 (by decide) (by decide) rfl (go_V d_0_976 w_1345 w_1346 w_1347 w_11 w_1348 nn_221 (by decide) cl_12 rfl) (ok_pop (pc := 979) d_0_979 (ok_go (pc := 980) (t := 1132) d_0_980 rfl (by decide) rfl))))))))))))))))))))))))))))))))))))
theorem s_0_897 {Γ : m_G} : m_ok Γ m_tab 0 M_0 897 (g_0_897 Γ.2.2.2.2) := ok_al_n (pc := 897) d_0_897 rfl (ok_al_n (pc := 898) d_0_898 rfl (ok_il_n (pc := 899) d_0_899 rfl (ok_ic (pc := 900) d_0_900 rfl (ok_add (pc := 901) d_0_901 (ok_sld rfl (pc := 902) d_0_902 (ok_al_n (pc := 903) d_0_903 rfl (ok_il_n (pc := 904) d_0_904 rfl (ok_ic (pc := 905) d_0_905 rfl (ok_add (pc := 906) d_0_906 (ok_sld rfl (pc := 907) d_0_907 (ok_al_n (pc := 908) d_0_908 rfl (ok_il_n (pc := 909) d_0_909 rfl (ok_ic (pc := 910) d_0_910 rfl (ok_add (pc := 911) d_0_911 (ok_sld rfl (pc := 912) d_0_912 (ok_cai (pc := 913) (k2 := 116) rfl rfl tb_116 (by decide) (by decide) rfl (go_V d_0_913 w_843 w_844 w_845 w_1 w_846 nn_116 (by decide) cl_11 rfl) (ok_pop (pc := 916) d_0_916 (ok_al_n (pc := 917) d_0_917 rfl (ok_al_n (pc := 918) d_0_918 rfl (ok_il_n (pc := 919) d_0_919 rfl (ok_ic (pc := 920) d_0_920 rfl (ok_add (pc := 921) d_0_921 (ok_sld rfl (pc := 922) d_0_922 (ok_al_n (pc := 923) d_0_923 rfl (ok_il_n (pc := 924) d_0_924 rfl (ok_ic (pc := 925) d_0_925 rfl (ok_add (pc := 926) d_0_926 (ok_sld rfl (pc := 927) d_0_927 (ok_al_n (pc := 928) d_0_928 rfl (ok_il_n (pc := 929) d_0_929 rfl (ok_ic (pc := 930) d_0_930 rfl (ok_add (pc := 931) d_0_931 (ok_sld rfl (pc := 932) d_0_932 (ok_cai (pc := 933) (k2 := 220) rfl rfl tb_220 (by decide) (by decide) rfl (go_V d_0_933 w_1341 w_1342 w_1343 w_11 w_1344 nn_220 (by decide) cl_12 rfl) (ok_pop (pc := 936) d_0_936 (ok_go (pc := 937) (t := 1132) d_0_937 rfl (by decide) rfl))))))))))))))))))))))))))))))))))))
theorem s_0_874 {Γ : m_G} : m_ok Γ m_tab 0 M_0 874 (g_0_874 Γ.2.2.2.2) := ok_al_n (pc := 874) d_0_874 rfl (ok_al_n (pc := 875) d_0_875 rfl (ok_il_n (pc := 876) d_0_876 rfl (ok_ic (pc := 877) d_0_877 rfl (ok_add (pc := 878) d_0_878 (ok_sld rfl (pc := 879) d_0_879 (ok_cai (pc := 880) (k2 := 115) rfl rfl tb_115 (by decide) (by decide) rfl (go_V d_0_880 w_839 w_840 w_841 w_1 w_842 nn_115 (by decide) cl_11 rfl) (ok_pop (pc := 883) d_0_883 (ok_al_n (pc := 884) d_0_884 rfl (ok_al_n (pc := 885) d_0_885 rfl (ok_il_n (pc := 886) d_0_886 rfl (ok_ic (pc := 887) d_0_887 rfl (ok_add (pc := 888) d_0_888 (ok_sld rfl (pc := 889) d_0_889 (ok_cai (pc := 890) (k2 := 218) rfl rfl tb_218 (by decide) (by decide) rfl (go_V d_0_890 w_1337 w_1338 w_1339 w_11 w_1340 nn_218 (by decide) cl_12 rfl) (ok_pop (pc := 893) d_0_893 (ok_go (pc := 894) (t := 1132) d_0_894 rfl (by decide) rfl))))))))))))))))
theorem s_0_861 {Γ : m_G} : m_ok Γ m_tab 0 M_0 861 (g_0_861 Γ.2.2.2.2) := ok_al_n (pc := 861) d_0_861 rfl (ok_cai (pc := 862) (k2 := 114) rfl rfl tb_114 (by decide) (by decide) rfl (go_V d_0_862 w_835 w_836 w_837 w_1 w_838 nn_114 (by decide) cl_11 rfl) (ok_pop (pc := 865) d_0_865 (ok_al_n (pc := 866) d_0_866 rfl (ok_cai (pc := 867) (k2 := 217) rfl rfl tb_217 (by decide) (by decide) rfl (go_V d_0_867 w_1333 w_1334 w_1335 w_11 w_1336 nn_217 (by decide) cl_12 rfl) (ok_pop (pc := 870) d_0_870 (ok_go (pc := 871) (t := 1132) d_0_871 rfl (by decide) rfl))))))
theorem s_0_848 {Γ : m_G} : m_ok Γ m_tab 0 M_0 848 (g_0_848 Γ.2.2.2.2) := ok_al_n (pc := 848) d_0_848 rfl (ok_cai (pc := 849) (k2 := 113) rfl rfl tb_113 (by decide) (by decide) rfl (go_V d_0_849 w_826 w_827 w_828 w_1 w_829 nn_113 (by decide) cl_11 rfl) (ok_pop (pc := 852) d_0_852 (ok_al_n (pc := 853) d_0_853 rfl (ok_cai (pc := 854) (k2 := 216) rfl rfl tb_216 (by decide) (by decide) rfl (go_V d_0_854 w_1329 w_1330 w_1331 w_11 w_1332 nn_216 (by decide) cl_12 rfl) (ok_pop (pc := 857) d_0_857 (ok_go (pc := 858) (t := 1132) d_0_858 rfl (by decide) rfl))))))
theorem s_0_815 {Γ : m_G} : m_ok Γ m_tab 0 M_0 815 (g_0_815 Γ.2.2.2.2) := ok_al_n (pc := 815) d_0_815 rfl (ok_al_n (pc := 816) d_0_816 rfl (ok_il_n (pc := 817) d_0_817 rfl (ok_ic (pc := 818) d_0_818 rfl (ok_add (pc := 819) d_0_819 (ok_sld rfl (pc := 820) d_0_820 (ok_al_n (pc := 821) d_0_821 rfl (ok_il_n (pc := 822) d_0_822 rfl (ok_ic (pc := 823) d_0_823 rfl (ok_add (pc := 824) d_0_824 (ok_sld rfl (pc := 825) d_0_825 (ok_cai (pc := 826) (k2 := 112) rfl rfl tb_112 (by decide) (by decide) rfl (go_V d_0_826 w_821 w_822 w_823 w_1 w_824 nn_112 (by decide) cl_11 rfl) (ok_pop (pc := 829) d_0_829 (ok_al_n (pc := 830) d_0_830 rfl (ok_al_n (pc := 831) d_0_831 rfl (ok_il_n (pc := 832) d_0_832 rfl (ok_ic (pc := 833) d_0_833 rfl (ok_add (pc := 834) d_0_834 (ok_sld rfl (pc := 835) d_0_835 (ok_al_n (pc := 836) d_0_836 rfl (ok_il_n (pc := 837) d_0_837 rfl (ok_ic (pc := 838) d_0_838 rfl (ok_add (pc := 839) d_0_839 (ok_sld rfl (pc := 840) d_0_840 (ok_cai (pc := 841) (k2 := 215) rfl rfl tb_215 (by decide) (by decide) rfl (go_V d_0_841 w_1324 w_1325 w_1326 w_11 w_1327 nn_215 (by decide) cl_12 rfl) (ok_pop (pc := 844) d_0_844 (ok_go (pc := 845) (t := 1132) d_0_845 rfl (by decide) rfl))))))))))))))))))))))))))
theorem s_0_782 {Γ : m_G} : m_ok Γ m_tab 0 M_0 782 (g_0_782 Γ.2.2.2.2) := ok_al_n (pc := 782) d_0_782 rfl (ok_al_n (pc := 783) d_0_783 rfl (ok_il_n (pc := 784) d_0_784 rfl (ok_ic (pc := 785) d_0_785 rfl (ok_add (pc := 786) d_0_786 (ok_sld rfl (pc := 787) d_0_787 (ok_al_n (pc := 788) d_0_788 rfl (ok_il_n (pc := 789) d_0_789 rfl (ok_ic (pc := 790) d_0_790 rfl (ok_add (pc := 791) d_0_791 (ok_sld rfl (pc := 792) d_0_792 (ok_cai (pc := 793) (k2 := 111) rfl rfl tb_111 (by decide) (by decide) rfl (go_V d_0_793 w_810 w_811 w_812 w_1 w_813 nn_111 (by decide) cl_11 rfl) (ok_pop (pc := 796) d_0_796 (ok_al_n (pc := 797) d_0_797 rfl (ok_al_n (pc := 798) d_0_798 rfl (ok_il_n (pc := 799) d_0_799 rfl (ok_ic (pc := 800) d_0_800 rfl (ok_add (pc := 801) d_0_801 (ok_sld rfl (pc := 802) d_0_802 (ok_al_n (pc := 803) d_0_803 rfl (ok_il_n (pc := 804) d_0_804 rfl (ok_ic (pc := 805) d_0_805 rfl (ok_add (pc := 806) d_0_806 (ok_sld rfl (pc := 807) d_0_807 (ok_cai (pc := 808) (k2 := 214) rfl rfl tb_214 (by decide) (by decide) rfl (go_V d_0_808 w_1317 w_1318 w_1319 w_11 w_1320 nn_214 (by decide) cl_12 rfl) (ok_pop (pc := 811) d_0_811 (ok_go (pc := 812) (t := 1132) d_0_812 rfl (by decide) rfl))))))))))))))))))))))))))
theorem s_0_759 {Γ : m_G} : m_ok Γ m_tab 0 M_0 759 (g_0_759 Γ.2.2.2.2) := ok_al_n (pc := 759) d_0_759 rfl (ok_al_n (pc := 760) d_0_760 rfl (ok_il_n (pc := 761) d_0_761 rfl (ok_ic (pc := 762) d_0_762 rfl (ok_add (pc := 763) d_0_763 (ok_sld rfl (pc := 764) d_0_764 (ok_cai (pc := 765) (k2 := 110) rfl rfl tb_110 (by decide) (by decide) rfl (go_V d_0_765 w_788 w_789 w_790 w_1 w_791 nn_110 (by decide) cl_11 rfl) (ok_pl2 (pc := 768) d_0_768 (ok_al_n (pc := 769) d_0_769 rfl (ok_al_n (pc := 770) d_0_770 rfl (ok_il_n (pc := 771) d_0_771 rfl (ok_ic (pc := 772) d_0_772 rfl (ok_add (pc := 773) d_0_773 (ok_sld rfl (pc := 774) d_0_774 (ok_cai (pc := 775) (k2 := 213) rfl rfl tb_213 (by decide) (by decide) rfl (go_V d_0_775 w_1308 w_1309 w_1310 w_11 w_1311 nn_213 (by decide) cl_12 rfl) (ok_pl2 (pc := 778) d_0_778 (ok_go (pc := 779) (t := 1132) d_0_779 rfl (by decide) rfl))))))))))))))))
theorem s_0_736 {Γ : m_G} : m_ok Γ m_tab 0 M_0 736 (g_0_736 Γ.2.2.2.2) := ok_al_n (pc := 736) d_0_736 rfl (ok_al_n (pc := 737) d_0_737 rfl (ok_il_n (pc := 738) d_0_738 rfl (ok_ic (pc := 739) d_0_739 rfl (ok_add (pc := 740) d_0_740 (ok_sld rfl (pc := 741) d_0_741 (ok_cai (pc := 742) (k2 := 109) rfl rfl tb_109 (by decide) (by decide) rfl (go_V d_0_742 w_780 w_781 w_782 w_1 w_783 nn_109 (by decide) cl_11 rfl) (ok_pop (pc := 745) d_0_745 (ok_al_n (pc := 746) d_0_746 rfl (ok_al_n (pc := 747) d_0_747 rfl (ok_il_n (pc := 748) d_0_748 rfl (ok_ic (pc := 749) d_0_749 rfl (ok_add (pc := 750) d_0_750 (ok_sld rfl (pc := 751) d_0_751 (ok_cai (pc := 752) (k2 := 211) rfl rfl tb_211 (by decide) (by decide) rfl (go_V d_0_752 w_1304 w_1305 w_1306 w_11 w_1307 nn_211 (by decide) cl_12 rfl) (ok_pop (pc := 755) d_0_755 (ok_go (pc := 756) (t := 1132) d_0_756 rfl (by decide) rfl))))))))))))))))
theorem s_0_723 {Γ : m_G} : m_ok Γ m_tab 0 M_0 723 (g_0_723 Γ.2.2.2.2) := ok_al_n (pc := 723) d_0_723 rfl (ok_cai (pc := 724) (k2 := 108) rfl rfl tb_108 (by decide) (by decide) rfl (go_V d_0_724 w_776 w_777 w_778 w_1 w_779 nn_108 (by decide) cl_11 rfl) (ok_pop (pc := 727) d_0_727 (ok_al_n (pc := 728) d_0_728 rfl (ok_cai (pc := 729) (k2 := 210) rfl rfl tb_210 (by decide) (by decide) rfl (go_V d_0_729 w_1300 w_1301 w_1302 w_11 w_1303 nn_210 (by decide) cl_12 rfl) (ok_pop (pc := 732) d_0_732 (ok_go (pc := 733) (t := 1132) d_0_733 rfl (by decide) rfl))))))
theorem s_0_700 {Γ : m_G} : m_ok Γ m_tab 0 M_0 700 (g_0_700 Γ.2.2.2.2) := ok_al_n (pc := 700) d_0_700 rfl (ok_al_n (pc := 701) d_0_701 rfl (ok_il_n (pc := 702) d_0_702 rfl (ok_ic (pc := 703) d_0_703 rfl (ok_add (pc := 704) d_0_704 (ok_sld rfl (pc := 705) d_0_705 (ok_cai (pc := 706) (k2 := 107) rfl rfl tb_107 (by decide) (by decide) rfl (go_V d_0_706 w_772 w_773 w_774 w_1 w_775 nn_107 (by decide) cl_11 rfl) (ok_pop (pc := 709) d_0_709 (ok_al_n (pc := 710) d_0_710 rfl (ok_al_n (pc := 711) d_0_711 rfl (ok_il_n (pc := 712) d_0_712 rfl (ok_ic (pc := 713) d_0_713 rfl (ok_add (pc := 714) d_0_714 (ok_sld rfl (pc := 715) d_0_715 (ok_cai (pc := 716) (k2 := 209) rfl rfl tb_209 (by decide) (by decide) rfl (go_V d_0_716 w_1296 w_1297 w_1298 w_11 w_1299 nn_209 (by decide) cl_12 rfl) (ok_pop (pc := 719) d_0_719 (ok_go (pc := 720) (t := 1132) d_0_720 rfl (by decide) rfl))))))))))))))))
theorem s_0_667 {Γ : m_G} : m_ok Γ m_tab 0 M_0 667 (g_0_667 Γ.2.2.2.2) := ok_al_n (pc := 667) d_0_667 rfl (ok_al_n (pc := 668) d_0_668 rfl (ok_il_n (pc := 669) d_0_669 rfl (ok_ic (pc := 670) d_0_670 rfl (ok_add (pc := 671) d_0_671 (ok_sld rfl (pc := 672) d_0_672 (ok_al_n (pc := 673) d_0_673 rfl (ok_il_n (pc := 674) d_0_674 rfl (ok_ic (pc := 675) d_0_675 rfl (ok_add (pc := 676) d_0_676 (ok_sld rfl (pc := 677) d_0_677 (ok_cai (pc := 678) (k2 := 106) rfl rfl tb_106 (by decide) (by decide) rfl (go_V d_0_678 w_767 w_768 w_769 w_1 w_770 nn_106 (by decide) cl_11 rfl) (ok_pop (pc := 681) d_0_681 (ok_al_n (pc := 682) d_0_682 rfl (ok_al_n (pc := 683) d_0_683 rfl (ok_il_n (pc := 684) d_0_684 rfl (ok_ic (pc := 685) d_0_685 rfl (ok_add (pc := 686) d_0_686 (ok_sld rfl (pc := 687) d_0_687 (ok_al_n (pc := 688) d_0_688 rfl (ok_il_n (pc := 689) d_0_689 rfl (ok_ic (pc := 690) d_0_690 rfl (ok_add (pc := 691) d_0_691 (ok_sld rfl (pc := 692) d_0_692 (ok_cai (pc := 693) (k2 := 208) rfl rfl tb_208 (by decide) (by decide) rfl (go_V d_0_693 w_1292 w_1293 w_1294 w_11 w_1295 nn_208 (by decide) cl_12 rfl) (ok_pop (pc := 696) d_0_696 (ok_go (pc := 697) (t := 1132) d_0_697 rfl (by decide) rfl))))))))))))))))))))))))))
theorem s_0_644 {Γ : m_G} : m_ok Γ m_tab 0 M_0 644 (g_0_644 Γ.2.2.2.2) := ok_al_n (pc := 644) d_0_644 rfl (ok_al_n (pc := 645) d_0_645 rfl (ok_il_n (pc := 646) d_0_646 rfl (ok_ic (pc := 647) d_0_647 rfl (ok_add (pc := 648) d_0_648 (ok_sld rfl (pc := 649) d_0_649 (ok_cai (pc := 650) (k2 := 105) rfl rfl tb_105 (by decide) (by decide) rfl (go_V d_0_650 w_754 w_755 w_756 w_1 w_757 nn_105 (by decide) cl_11 rfl) (ok_pop (pc := 653) d_0_653 (ok_al_n (pc := 654) d_0_654 rfl (ok_al_n (pc := 655) d_0_655 rfl (ok_il_n (pc := 656) d_0_656 rfl (ok_ic (pc := 657) d_0_657 rfl (ok_add (pc := 658) d_0_658 (ok_sld rfl (pc := 659) d_0_659 (ok_cai (pc := 660) (k2 := 207) rfl rfl tb_207 (by decide) (by decide) rfl (go_V d_0_660 w_1284 w_1285 w_1286 w_11 w_1287 nn_207 (by decide) cl_12 rfl) (ok_pop (pc := 663) d_0_663 (ok_go (pc := 664) (t := 1132) d_0_664 rfl (by decide) rfl))))))))))))))))
theorem s_0_621 {Γ : m_G} : m_ok Γ m_tab 0 M_0 621 (g_0_621 Γ.2.2.2.2) := ok_al_n (pc := 621) d_0_621 rfl (ok_al_n (pc := 622) d_0_622 rfl (ok_il_n (pc := 623) d_0_623 rfl (ok_ic (pc := 624) d_0_624 rfl (ok_add (pc := 625) d_0_625 (ok_sld rfl (pc := 626) d_0_626 (ok_cai (pc := 627) (k2 := 104) rfl rfl tb_104 (by decide) (by decide) rfl (go_V d_0_627 w_738 w_739 w_740 w_1 w_741 nn_104 (by decide) cl_11 rfl) (ok_pop (pc := 630) d_0_630 (ok_al_n (pc := 631) d_0_631 rfl (ok_al_n (pc := 632) d_0_632 rfl (ok_il_n (pc := 633) d_0_633 rfl (ok_ic (pc := 634) d_0_634 rfl (ok_add (pc := 635) d_0_635 (ok_sld rfl (pc := 636) d_0_636 (ok_cai (pc := 637) (k2 := 205) rfl rfl tb_205 (by decide) (by decide) rfl (go_V d_0_637 w_1275 w_1276 w_1277 w_11 w_1278 nn_205 (by decide) cl_12 rfl) (ok_pop (pc := 640) d_0_640 (ok_go (pc := 641) (t := 1132) d_0_641 rfl (by decide) rfl))))))))))))))))
theorem s_0_588 {Γ : m_G} : m_ok Γ m_tab 0 M_0 588 (g_0_588 Γ.2.2.2.2) := ok_al_n (pc := 588) d_0_588 rfl (ok_al_n (pc := 589) d_0_589 rfl (ok_il_n (pc := 590) d_0_590 rfl (ok_ic (pc := 591) d_0_591 rfl (ok_add (pc := 592) d_0_592 (ok_sld rfl (pc := 593) d_0_593 (ok_al_n (pc := 594) d_0_594 rfl (ok_il_n (pc := 595) d_0_595 rfl (ok_ic (pc := 596) d_0_596 rfl (ok_add (pc := 597) d_0_597 (ok_sld rfl (pc := 598) d_0_598 (ok_cai (pc := 599) (k2 := 103) rfl rfl tb_103 (by decide) (by decide) rfl (go_V d_0_599 w_725 w_726 w_727 w_1 w_728 nn_103 (by decide) cl_11 rfl) (ok_pop (pc := 602) d_0_602 (ok_al_n (pc := 603) d_0_603 rfl (ok_al_n (pc := 604) d_0_604 rfl (ok_il_n (pc := 605) d_0_605 rfl (ok_ic (pc := 606) d_0_606 rfl (ok_add (pc := 607) d_0_607 (ok_sld rfl (pc := 608) d_0_608 (ok_al_n (pc := 609) d_0_609 rfl (ok_il_n (pc := 610) d_0_610 rfl (ok_ic (pc := 611) d_0_611 rfl (ok_add (pc := 612) d_0_612 (ok_sld rfl (pc := 613) d_0_613 (ok_cai (pc := 614) (k2 := 203) rfl rfl tb_203 (by decide) (by decide) rfl (go_V d_0_614 w_1267 w_1268 w_1269 w_11 w_1270 nn_203 (by decide) cl_12 rfl) (ok_pop (pc := 617) d_0_617 (ok_go (pc := 618) (t := 1132) d_0_618 rfl (by decide) rfl))))))))))))))))))))))))))
theorem s_0_565 {Γ : m_G} : m_ok Γ m_tab 0 M_0 565 (g_0_565 Γ.2.2.2.2) := ok_al_n (pc := 565) d_0_565 rfl (ok_al_n (pc := 566) d_0_566 rfl (ok_il_n (pc := 567) d_0_567 rfl (ok_ic (pc := 568) d_0_568 rfl (ok_add (pc := 569) d_0_569 (ok_sld rfl (pc := 570) d_0_570 (ok_cai (pc := 571) (k2 := 102) rfl rfl tb_102 (by decide) (by decide) rfl (go_V d_0_571 w_716 w_717 w_718 w_1 w_719 nn_102 (by decide) cl_11 rfl) (ok_pop (pc := 574) d_0_574 (ok_al_n (pc := 575) d_0_575 rfl (ok_al_n (pc := 576) d_0_576 rfl (ok_il_n (pc := 577) d_0_577 rfl (ok_ic (pc := 578) d_0_578 rfl (ok_add (pc := 579) d_0_579 (ok_sld rfl (pc := 580) d_0_580 (ok_cai (pc := 581) (k2 := 201) rfl rfl tb_201 (by decide) (by decide) rfl (go_V d_0_581 w_1259 w_1260 w_1261 w_11 w_1262 nn_201 (by decide) cl_12 rfl) (ok_pop (pc := 584) d_0_584 (ok_go (pc := 585) (t := 1132) d_0_585 rfl (by decide) rfl))))))))))))))))
theorem s_0_542 {Γ : m_G} : m_ok Γ m_tab 0 M_0 542 (g_0_542 Γ.2.2.2.2) := ok_al_n (pc := 542) d_0_542 rfl (ok_al_n (pc := 543) d_0_543 rfl (ok_il_n (pc := 544) d_0_544 rfl (ok_ic (pc := 545) d_0_545 rfl (ok_add (pc := 546) d_0_546 (ok_sld rfl (pc := 547) d_0_547 (ok_cai (pc := 548) (k2 := 101) rfl rfl tb_101 (by decide) (by decide) rfl (go_V d_0_548 w_647 w_648 w_649 w_1 w_650 nn_101 (by decide) cl_11 rfl) (ok_pop (pc := 551) d_0_551 (ok_al_n (pc := 552) d_0_552 rfl (ok_al_n (pc := 553) d_0_553 rfl (ok_il_n (pc := 554) d_0_554 rfl (ok_ic (pc := 555) d_0_555 rfl (ok_add (pc := 556) d_0_556 (ok_sld rfl (pc := 557) d_0_557 (ok_cai (pc := 558) (k2 := 200) rfl rfl tb_200 (by decide) (by decide) rfl (go_V d_0_558 w_1231 w_1232 w_1233 w_11 w_1234 nn_200 (by decide) cl_12 rfl) (ok_pop (pc := 561) d_0_561 (ok_go (pc := 562) (t := 1132) d_0_562 rfl (by decide) rfl))))))))))))))))
theorem s_0_509 {Γ : m_G} : m_ok Γ m_tab 0 M_0 509 (g_0_509 Γ.2.2.2.2) := ok_al_n (pc := 509) d_0_509 rfl (ok_al_n (pc := 510) d_0_510 rfl (ok_il_n (pc := 511) d_0_511 rfl (ok_ic (pc := 512) d_0_512 rfl (ok_add (pc := 513) d_0_513 (ok_sld rfl (pc := 514) d_0_514 (ok_al_n (pc := 515) d_0_515 rfl (ok_il_n (pc := 516) d_0_516 rfl (ok_ic (pc := 517) d_0_517 rfl (ok_add (pc := 518) d_0_518 (ok_sld rfl (pc := 519) d_0_519 (ok_cai (pc := 520) (k2 := 100) rfl rfl tb_100 (by decide) (by decide) rfl (go_V d_0_520 w_643 w_644 w_645 w_1 w_646 nn_100 (by decide) cl_11 rfl) (ok_pop (pc := 523) d_0_523 (ok_al_n (pc := 524) d_0_524 rfl (ok_al_n (pc := 525) d_0_525 rfl (ok_il_n (pc := 526) d_0_526 rfl (ok_ic (pc := 527) d_0_527 rfl (ok_add (pc := 528) d_0_528 (ok_sld rfl (pc := 529) d_0_529 (ok_al_n (pc := 530) d_0_530 rfl (ok_il_n (pc := 531) d_0_531 rfl (ok_ic (pc := 532) d_0_532 rfl (ok_add (pc := 533) d_0_533 (ok_sld rfl (pc := 534) d_0_534 (ok_cai (pc := 535) (k2 := 194) rfl rfl tb_194 (by decide) (by decide) rfl (go_V d_0_535 w_1223 w_1224 w_1225 w_11 w_1226 nn_194 (by decide) cl_12 rfl) (ok_pop (pc := 538) d_0_538 (ok_go (pc := 539) (t := 1132) d_0_539 rfl (by decide) rfl))))))))))))))))))))))))))
theorem s_0_476 {Γ : m_G} : m_ok Γ m_tab 0 M_0 476 (g_0_476 Γ.2.2.2.2) := ok_al_n (pc := 476) d_0_476 rfl (ok_al_n (pc := 477) d_0_477 rfl (ok_il_n (pc := 478) d_0_478 rfl (ok_ic (pc := 479) d_0_479 rfl (ok_add (pc := 480) d_0_480 (ok_sld rfl (pc := 481) d_0_481 (ok_al_n (pc := 482) d_0_482 rfl (ok_il_n (pc := 483) d_0_483 rfl (ok_ic (pc := 484) d_0_484 rfl (ok_add (pc := 485) d_0_485 (ok_sld rfl (pc := 486) d_0_486 (ok_cai (pc := 487) (k2 := 99) rfl rfl tb_99 (by decide) (by decide) rfl (go_V d_0_487 w_591 w_592 w_593 w_1 w_594 nn_99 (by decide) cl_11 rfl) (ok_pop (pc := 490) d_0_490 (ok_al_n (pc := 491) d_0_491 rfl (ok_al_n (pc := 492) d_0_492 rfl (ok_il_n (pc := 493) d_0_493 rfl (ok_ic (pc := 494) d_0_494 rfl (ok_add (pc := 495) d_0_495 (ok_sld rfl (pc := 496) d_0_496 (ok_al_n (pc := 497) d_0_497 rfl (ok_il_n (pc := 498) d_0_498 rfl (ok_ic (pc := 499) d_0_499 rfl (ok_add (pc := 500) d_0_500 (ok_sld rfl (pc := 501) d_0_501 (ok_cai (pc := 502) (k2 := 192) rfl rfl tb_192 (by decide) (by decide) rfl (go_V d_0_502 w_1182 w_1183 w_1184 w_11 w_1185 nn_192 (by decide) cl_12 rfl) (ok_pop (pc := 505) d_0_505 (ok_go (pc := 506) (t := 1132) d_0_506 rfl (by decide) rfl))))))))))))))))))))))))))
theorem s_0_463 {Γ : m_G} : m_ok Γ m_tab 0 M_0 463 (g_0_463 Γ.2.2.2.2) := ok_al_n (pc := 463) d_0_463 rfl (ok_cai (pc := 464) (k2 := 98) rfl rfl tb_98 (by decide) (by decide) rfl (go_V d_0_464 w_579 w_580 w_581 w_1 w_582 nn_98 (by decide) cl_11 rfl) (ok_pop (pc := 467) d_0_467 (ok_al_n (pc := 468) d_0_468 rfl (ok_cai (pc := 469) (k2 := 189) rfl rfl tb_189 (by decide) (by decide) rfl (go_V d_0_469 w_1162 w_1163 w_1164 w_11 w_1165 nn_189 (by decide) cl_12 rfl) (ok_pop (pc := 472) d_0_472 (ok_go (pc := 473) (t := 1132) d_0_473 rfl (by decide) rfl))))))
theorem s_0_440 {Γ : m_G} : m_ok Γ m_tab 0 M_0 440 (g_0_440 Γ.2.2.2.2) := ok_al_n (pc := 440) d_0_440 rfl (ok_al_n (pc := 441) d_0_441 rfl (ok_il_n (pc := 442) d_0_442 rfl (ok_ic (pc := 443) d_0_443 rfl (ok_add (pc := 444) d_0_444 (ok_sld rfl (pc := 445) d_0_445 (ok_cai (pc := 446) (k2 := 97) rfl rfl tb_97 (by decide) (by decide) rfl (go_V d_0_446 w_575 w_576 w_577 w_1 w_578 nn_97 (by decide) cl_11 rfl) (ok_pop (pc := 449) d_0_449 (ok_al_n (pc := 450) d_0_450 rfl (ok_al_n (pc := 451) d_0_451 rfl (ok_il_n (pc := 452) d_0_452 rfl (ok_ic (pc := 453) d_0_453 rfl (ok_add (pc := 454) d_0_454 (ok_sld rfl (pc := 455) d_0_455 (ok_cai (pc := 456) (k2 := 176) rfl rfl tb_176 (by decide) (by decide) rfl (go_V d_0_456 w_1158 w_1159 w_1160 w_11 w_1161 nn_176 (by decide) cl_12 rfl) (ok_pop (pc := 459) d_0_459 (ok_go (pc := 460) (t := 1132) d_0_460 rfl (by decide) rfl))))))))))))))))
theorem s_0_427 {Γ : m_G} : m_ok Γ m_tab 0 M_0 427 (g_0_427 Γ.2.2.2.2) := ok_al_n (pc := 427) d_0_427 rfl (ok_cai (pc := 428) (k2 := 96) rfl rfl tb_96 (by decide) (by decide) rfl (go_V d_0_428 w_571 w_572 w_573 w_1 w_574 nn_96 (by decide) cl_11 rfl) (ok_pop (pc := 431) d_0_431 (ok_al_n (pc := 432) d_0_432 rfl (ok_cai (pc := 433) (k2 := 175) rfl rfl tb_175 (by decide) (by decide) rfl (go_V d_0_433 w_1101 w_1102 w_1103 w_11 w_1104 nn_175 (by decide) cl_12 rfl) (ok_pop (pc := 436) d_0_436 (ok_go (pc := 437) (t := 1132) d_0_437 rfl (by decide) rfl))))))
theorem s_0_404 {Γ : m_G} : m_ok Γ m_tab 0 M_0 404 (g_0_404 Γ.2.2.2.2) := ok_al_n (pc := 404) d_0_404 rfl (ok_al_n (pc := 405) d_0_405 rfl (ok_il_n (pc := 406) d_0_406 rfl (ok_ic (pc := 407) d_0_407 rfl (ok_add (pc := 408) d_0_408 (ok_sld rfl (pc := 409) d_0_409 (ok_cai (pc := 410) (k2 := 95) rfl rfl tb_95 (by decide) (by decide) rfl (go_V d_0_410 w_567 w_568 w_569 w_1 w_570 nn_95 (by decide) cl_11 rfl) (ok_pop (pc := 413) d_0_413 (ok_al_n (pc := 414) d_0_414 rfl (ok_al_n (pc := 415) d_0_415 rfl (ok_il_n (pc := 416) d_0_416 rfl (ok_ic (pc := 417) d_0_417 rfl (ok_add (pc := 418) d_0_418 (ok_sld rfl (pc := 419) d_0_419 (ok_cai (pc := 420) (k2 := 160) rfl rfl tb_160 (by decide) (by decide) rfl (go_V d_0_420 w_1097 w_1098 w_1099 w_11 w_1100 nn_160 (by decide) cl_12 rfl) (ok_pop (pc := 423) d_0_423 (ok_go (pc := 424) (t := 1132) d_0_424 rfl (by decide) rfl))))))))))))))))
theorem s_0_361 {Γ : m_G} : m_ok Γ m_tab 0 M_0 361 (g_0_361 Γ.2.2.2.2) := ok_al_n (pc := 361) d_0_361 rfl (ok_al_n (pc := 362) d_0_362 rfl (ok_il_n (pc := 363) d_0_363 rfl (ok_ic (pc := 364) d_0_364 rfl (ok_add (pc := 365) d_0_365 (ok_sld rfl (pc := 366) d_0_366 (ok_al_n (pc := 367) d_0_367 rfl (ok_il_n (pc := 368) d_0_368 rfl (ok_ic (pc := 369) d_0_369 rfl (ok_add (pc := 370) d_0_370 (ok_sld rfl (pc := 371) d_0_371 (ok_al_n (pc := 372) d_0_372 rfl (ok_il_n (pc := 373) d_0_373 rfl (ok_ic (pc := 374) d_0_374 rfl (ok_add (pc := 375) d_0_375 (ok_sld rfl (pc := 376) d_0_376 (ok_cai (pc := 377) (k2 := 94) rfl rfl tb_94 (by decide) (by decide) rfl (go_V d_0_377 w_516 w_517 w_518 w_1 w_519 nn_94 (by decide) cl_11 rfl) (ok_al_n (pc := 380) d_0_380 rfl (ok_al_n (pc := 381) d_0_381 rfl (ok_il_n (pc := 382) d_0_382 rfl (ok_ic (pc := 383) d_0_383 rfl (ok_add (pc := 384) d_0_384 (ok_sld rfl (pc := 385) d_0_385 (ok_al_n (pc := 386) d_0_386 rfl (ok_il_n (pc := 387) d_0_387 rfl (ok_ic (pc := 388) d_0_388 rfl (ok_add (pc := 389) d_0_389 (ok_sld rfl (pc := 390) d_0_390 (ok_al_n (pc := 391) d_0_391 rfl (ok_il_n (pc := 392) d_0_392 rfl (ok_ic (pc := 393) d_0_393 rfl (ok_add (pc := 394) d_0_394 (ok_sld rfl (pc := 395) d_0_395 (ok_cai (pc := 396) (k2 := 155) rfl rfl tb_155 (by decide) (by decide) rfl (go_V d_0_396 w_1078 w_1079 w_1080 w_11 w_1081 nn_155 (by decide) cl_12 rfl) (ok_cieq (pc := 399) (t := 1132) d_0_399 rfl (by decide) rfl (ok_ic (pc := 402) d_0_402 rfl (ok_rz (pc := 403) d_0_403 rfl))))))))))))))))))))))))))))))))))))
theorem s_0_328 {Γ : m_G} : m_ok Γ m_tab 0 M_0 328 (g_0_328 Γ.2.2.2.2) := ok_al_n (pc := 328) d_0_328 rfl (ok_al_n (pc := 329) d_0_329 rfl (ok_il_n (pc := 330) d_0_330 rfl (ok_ic (pc := 331) d_0_331 rfl (ok_add (pc := 332) d_0_332 (ok_sld rfl (pc := 333) d_0_333 (ok_al_n (pc := 334) d_0_334 rfl (ok_il_n (pc := 335) d_0_335 rfl (ok_ic (pc := 336) d_0_336 rfl (ok_add (pc := 337) d_0_337 (ok_sld rfl (pc := 338) d_0_338 (ok_cai (pc := 339) (k2 := 93) rfl rfl tb_93 (by decide) (by decide) rfl (go_V d_0_339 w_443 w_444 w_445 w_1 w_446 nn_93 (by decide) cl_11 rfl) (ok_pop (pc := 342) d_0_342 (ok_al_n (pc := 343) d_0_343 rfl (ok_al_n (pc := 344) d_0_344 rfl (ok_il_n (pc := 345) d_0_345 rfl (ok_ic (pc := 346) d_0_346 rfl (ok_add (pc := 347) d_0_347 (ok_sld rfl (pc := 348) d_0_348 (ok_al_n (pc := 349) d_0_349 rfl (ok_il_n (pc := 350) d_0_350 rfl (ok_ic (pc := 351) d_0_351 rfl (ok_add (pc := 352) d_0_352 (ok_sld rfl (pc := 353) d_0_353 (ok_cai (pc := 354) (k2 := 152) rfl rfl tb_152 (by decide) (by decide) rfl (go_V d_0_354 w_1074 w_1075 w_1076 w_11 w_1077 nn_152 (by decide) cl_12 rfl) (ok_pop (pc := 357) d_0_357 (ok_go (pc := 358) (t := 1132) d_0_358 rfl (by decide) rfl))))))))))))))))))))))))))
theorem s_0_295 {Γ : m_G} : m_ok Γ m_tab 0 M_0 295 (g_0_295 Γ.2.2.2.2) := ok_al_n (pc := 295) d_0_295 rfl (ok_al_n (pc := 296) d_0_296 rfl (ok_il_n (pc := 297) d_0_297 rfl (ok_ic (pc := 298) d_0_298 rfl (ok_add (pc := 299) d_0_299 (ok_sld rfl (pc := 300) d_0_300 (ok_al_n (pc := 301) d_0_301 rfl (ok_il_n (pc := 302) d_0_302 rfl (ok_ic (pc := 303) d_0_303 rfl (ok_add (pc := 304) d_0_304 (ok_sld rfl (pc := 305) d_0_305 (ok_cai (pc := 306) (k2 := 92) rfl rfl tb_92 (by decide) (by decide) rfl (go_V d_0_306 w_439 w_440 w_441 w_1 w_442 nn_92 (by decide) cl_11 rfl) (ok_pop (pc := 309) d_0_309 (ok_al_n (pc := 310) d_0_310 rfl (ok_al_n (pc := 311) d_0_311 rfl (ok_il_n (pc := 312) d_0_312 rfl (ok_ic (pc := 313) d_0_313 rfl (ok_add (pc := 314) d_0_314 (ok_sld rfl (pc := 315) d_0_315 (ok_al_n (pc := 316) d_0_316 rfl (ok_il_n (pc := 317) d_0_317 rfl (ok_ic (pc := 318) d_0_318 rfl (ok_add (pc := 319) d_0_319 (ok_sld rfl (pc := 320) d_0_320 (ok_cai (pc := 321) (k2 := 151) rfl rfl tb_151 (by decide) (by decide) rfl (go_V d_0_321 w_1070 w_1071 w_1072 w_11 w_1073 nn_151 (by decide) cl_12 rfl) (ok_pop (pc := 324) d_0_324 (ok_go (pc := 325) (t := 1132) d_0_325 rfl (by decide) rfl))))))))))))))))))))))))))
theorem s_0_252 {Γ : m_G} : m_ok Γ m_tab 0 M_0 252 (g_0_252 Γ.2.2.2.2) := ok_al_n (pc := 252) d_0_252 rfl (ok_al_n (pc := 253) d_0_253 rfl (ok_il_n (pc := 254) d_0_254 rfl (ok_ic (pc := 255) d_0_255 rfl (ok_add (pc := 256) d_0_256 (ok_sld rfl (pc := 257) d_0_257 (ok_al_n (pc := 258) d_0_258 rfl (ok_il_n (pc := 259) d_0_259 rfl (ok_ic (pc := 260) d_0_260 rfl (ok_add (pc := 261) d_0_261 (ok_sld rfl (pc := 262) d_0_262 (ok_al_n (pc := 263) d_0_263 rfl (ok_il_n (pc := 264) d_0_264 rfl (ok_ic (pc := 265) d_0_265 rfl (ok_add (pc := 266) d_0_266 (ok_sld rfl (pc := 267) d_0_267 (ok_cai (pc := 268) (k2 := 91) rfl rfl tb_91 (by decide) (by decide) rfl (go_V d_0_268 w_419 w_420 w_421 w_1 w_422 nn_91 (by decide) cl_11 rfl) (ok_pop (pc := 271) d_0_271 (ok_al_n (pc := 272) d_0_272 rfl (ok_al_n (pc := 273) d_0_273 rfl (ok_il_n (pc := 274) d_0_274 rfl (ok_ic (pc := 275) d_0_275 rfl (ok_add (pc := 276) d_0_276 (ok_sld rfl (pc := 277) d_0_277 (ok_al_n (pc := 278) d_0_278 rfl (ok_il_n (pc := 279) d_0_279 rfl (ok_ic (pc := 280) d_0_280 rfl (ok_add (pc := 281) d_0_281 (ok_sld rfl (pc := 282) d_0_282 (ok_al_n (pc := 283) d_0_283 rfl (ok_il_n (pc := 284) d_0_284 rfl (ok_ic (pc := 285) d_0_285 rfl (ok_add (pc := 286) d_0_286 (ok_sld rfl (pc := 287) d_0_287 (ok_cai (pc := 288) (k2 := 150) rfl rfl tb_150 (by decide) (by decide) rfl (go_V d_0_288 w_1062 w_1063 w_1064 w_11 w_1065 nn_150 (by decide) cl_12 rfl) (ok_pop (pc := 291) d_0_291 (ok_go (pc := 292) (t := 1132) d_0_292 rfl (by decide) rfl))))))))))))))))))))))))))))))))))))
theorem s_0_209 {Γ : m_G} : m_ok Γ m_tab 0 M_0 209 (g_0_209 Γ.2.2.2.2) := ok_al_n (pc := 209) d_0_209 rfl (ok_al_n (pc := 210) d_0_210 rfl (ok_il_n (pc := 211) d_0_211 rfl (ok_ic (pc := 212) d_0_212 rfl (ok_add (pc := 213) d_0_213 (ok_sld rfl (pc := 214) d_0_214 (ok_al_n (pc := 215) d_0_215 rfl (ok_il_n (pc := 216) d_0_216 rfl (ok_ic (pc := 217) d_0_217 rfl (ok_add (pc := 218) d_0_218 (ok_sld rfl (pc := 219) d_0_219 (ok_al_n (pc := 220) d_0_220 rfl (ok_il_n (pc := 221) d_0_221 rfl (ok_ic (pc := 222) d_0_222 rfl (ok_add (pc := 223) d_0_223 (ok_sld rfl (pc := 224) d_0_224 (ok_cai (pc := 225) (k2 := 90) rfl rfl tb_90 (by decide) (by decide) rfl (go_V d_0_225 w_403 w_404 w_405 w_1 w_406 nn_90 (by decide) cl_11 rfl) (ok_pop (pc := 228) d_0_228 (ok_al_n (pc := 229) d_0_229 rfl (ok_al_n (pc := 230) d_0_230 rfl (ok_il_n (pc := 231) d_0_231 rfl (ok_ic (pc := 232) d_0_232 rfl (ok_add (pc := 233) d_0_233 (ok_sld rfl (pc := 234) d_0_234 (ok_al_n (pc := 235) d_0_235 rfl (ok_il_n (pc := 236) d_0_236 rfl (ok_ic (pc := 237) d_0_237 rfl (ok_add (pc := 238) d_0_238 (ok_sld rfl (pc := 239) d_0_239 (ok_al_n (pc := 240) d_0_240 rfl (ok_il_n (pc := 241) d_0_241 rfl (ok_ic (pc := 242) d_0_242 rfl (ok_add (pc := 243) d_0_243 (ok_sld rfl (pc := 244) d_0_244 (ok_cai (pc := 245) (k2 := 149) rfl rfl tb_149 (by decide) (by decide) rfl (go_V d_0_245 w_1050 w_1051 w_1052 w_11 w_1053 nn_149 (by decide) cl_12 rfl) (ok_pop (pc := 248) d_0_248 (ok_go (pc := 249) (t := 1132) d_0_249 rfl (by decide) rfl))))))))))))))))))))))))))))))))))))
theorem s_0_176 {Γ : m_G} : m_ok Γ m_tab 0 M_0 176 (g_0_176 Γ.2.2.2.2) := ok_al_n (pc := 176) d_0_176 rfl (ok_al_n (pc := 177) d_0_177 rfl (ok_il_n (pc := 178) d_0_178 rfl (ok_ic (pc := 179) d_0_179 rfl (ok_add (pc := 180) d_0_180 (ok_sld rfl (pc := 181) d_0_181 (ok_al_n (pc := 182) d_0_182 rfl (ok_il_n (pc := 183) d_0_183 rfl (ok_ic (pc := 184) d_0_184 rfl (ok_add (pc := 185) d_0_185 (ok_sld rfl (pc := 186) d_0_186 (ok_cai (pc := 187) (k2 := 89) rfl rfl tb_89 (by decide) (by decide) rfl (go_V d_0_187 w_392 w_393 w_394 w_1 w_395 nn_89 (by decide) cl_11 rfl) (ok_pop (pc := 190) d_0_190 (ok_al_n (pc := 191) d_0_191 rfl (ok_al_n (pc := 192) d_0_192 rfl (ok_il_n (pc := 193) d_0_193 rfl (ok_ic (pc := 194) d_0_194 rfl (ok_add (pc := 195) d_0_195 (ok_sld rfl (pc := 196) d_0_196 (ok_al_n (pc := 197) d_0_197 rfl (ok_il_n (pc := 198) d_0_198 rfl (ok_ic (pc := 199) d_0_199 rfl (ok_add (pc := 200) d_0_200 (ok_sld rfl (pc := 201) d_0_201 (ok_cai (pc := 202) (k2 := 147) rfl rfl tb_147 (by decide) (by decide) rfl (go_V d_0_202 w_1040 w_1041 w_1042 w_11 w_1043 nn_147 (by decide) cl_12 rfl) (ok_pop (pc := 205) d_0_205 (ok_go (pc := 206) (t := 1132) d_0_206 rfl (by decide) rfl))))))))))))))))))))))))))
theorem s_0_18 {Γ : m_G} : m_ok Γ m_tab 0 M_0 18 (g_0_18 Γ.2.2.2.2) := ok_il_n (pc := 18) d_0_18 rfl (ok_al_n (pc := 19) d_0_19 rfl (ok_sln rfl (pc := 20) d_0_20 (ok_bi (pc := 21) d_0_21 rfl (ok_sub (pc := 23) d_0_23 (ok_cigt (pc := 24) (t := 1138) d_0_24 rfl (by decide) rfl (ok_al_n (pc := 27) d_0_27 rfl (ok_il_n (pc := 28) d_0_28 rfl (ok_sld rfl (pc := 29) d_0_29 (ok_bi (pc := 30) d_0_30 rfl (ok_and (pc := 32) d_0_32 (ok_tsw (pc := 33) d_0_33 rfl rfl (by decide +kernel) (by decide +kernel) (by decide) (by decide) (by decide +kernel) (by decide))))))))))))
theorem s_0_0 {Γ : m_G} : m_ok Γ m_tab 0 M_0 0 (g_0_0 Γ.2.2.2.2) := ok_new (pc := 0) d_0_0 w_21 w_22 w_1 cl_11 in_11 tyX11_ok df_11 dd_11 (ok_dup (pc := 3) d_0_3 (ok_cvr (pc := 4) (k2 := 88) rfl rfl tb_88 (by decide) (by decide) rfl (go_I d_0_4 w_23 w_24 w_1 w_25 rfl rfl nn_88 (by decide)) (ok_as_n (pc := 7) d_0_7 rfl (by decide) (ok_new (pc := 8) d_0_8 w_893 w_894 w_11 cl_12 in_12 tyX12_ok df_12 dd_12 (ok_dup (pc := 11) d_0_11 (ok_cvr (pc := 12) (k2 := 139) rfl rfl tb_139 (by decide) (by decide) rfl (go_I d_0_12 w_895 w_896 w_11 w_897 rfl rfl nn_139 (by decide)) (ok_as_n (pc := 15) d_0_15 rfl (by decide) (ok_ic (pc := 16) d_0_16 rfl (ok_is_n (pc := 17) d_0_17 rfl (by decide) (s_0_18))))))))))
theorem tst_0ll {Γ : m_G} (q : Nat) : m_ts Γ (t_0ll Γ.2.2.2.2 q) q := ts_n (ts_n (ts_n (ts_l (k := 0) (pc := 0) tb_0 rfl (by decide) s_0_0) (ts_l (k := 0) (pc := 18) tb_0 rfl (by decide) s_0_18)) (ts_n (ts_l (k := 0) (pc := 176) tb_0 rfl (by decide) s_0_176) (ts_l (k := 0) (pc := 209) tb_0 rfl (by decide) s_0_209))) (ts_n (ts_n (ts_l (k := 0) (pc := 252) tb_0 rfl (by decide) s_0_252) (ts_l (k := 0) (pc := 295) tb_0 rfl (by decide) s_0_295)) (ts_n (ts_l (k := 0) (pc := 328) tb_0 rfl (by decide) s_0_328) (ts_n (ts_l (k := 0) (pc := 361) tb_0 rfl (by decide) s_0_361) (ts_l (k := 0) (pc := 404) tb_0 rfl (by decide) s_0_404))))
theorem tst_0lr {Γ : m_G} (q : Nat) : m_ts Γ (t_0lr Γ.2.2.2.2 q) q := ts_n (ts_n (ts_n (ts_l (k := 0) (pc := 427) tb_0 rfl (by decide) s_0_427) (ts_l (k := 0) (pc := 440) tb_0 rfl (by decide) s_0_440)) (ts_n (ts_l (k := 0) (pc := 463) tb_0 rfl (by decide) s_0_463) (ts_l (k := 0) (pc := 476) tb_0 rfl (by decide) s_0_476))) (ts_n (ts_n (ts_l (k := 0) (pc := 509) tb_0 rfl (by decide) s_0_509) (ts_l (k := 0) (pc := 542) tb_0 rfl (by decide) s_0_542)) (ts_n (ts_l (k := 0) (pc := 565) tb_0 rfl (by decide) s_0_565) (ts_n (ts_l (k := 0) (pc := 588) tb_0 rfl (by decide) s_0_588) (ts_l (k := 0) (pc := 621) tb_0 rfl (by decide) s_0_621))))
theorem tst_0l {Γ : m_G} (q : Nat) : m_ts Γ (t_0l Γ.2.2.2.2 q) q := ts_n (tst_0ll q) (tst_0lr q)
theorem tst_0rl {Γ : m_G} (q : Nat) : m_ts Γ (t_0rl Γ.2.2.2.2 q) q := ts_n (ts_n (ts_n (ts_l (k := 0) (pc := 644) tb_0 rfl (by decide) s_0_644) (ts_l (k := 0) (pc := 667) tb_0 rfl (by decide) s_0_667)) (ts_n (ts_l (k := 0) (pc := 700) tb_0 rfl (by decide) s_0_700) (ts_l (k := 0) (pc := 723) tb_0 rfl (by decide) s_0_723))) (ts_n (ts_n (ts_l (k := 0) (pc := 736) tb_0 rfl (by decide) s_0_736) (ts_l (k := 0) (pc := 759) tb_0 rfl (by decide) s_0_759)) (ts_n (ts_l (k := 0) (pc := 782) tb_0 rfl (by decide) s_0_782) (ts_n (ts_l (k := 0) (pc := 815) tb_0 rfl (by decide) s_0_815) (ts_l (k := 0) (pc := 848) tb_0 rfl (by decide) s_0_848))))
theorem tst_0rr {Γ : m_G} (q : Nat) : m_ts Γ (t_0rr Γ.2.2.2.2 q) q := ts_n (ts_n (ts_n (ts_l (k := 0) (pc := 861) tb_0 rfl (by decide) s_0_861) (ts_l (k := 0) (pc := 874) tb_0 rfl (by decide) s_0_874)) (ts_n (ts_l (k := 0) (pc := 897) tb_0 rfl (by decide) s_0_897) (ts_l (k := 0) (pc := 940) tb_0 rfl (by decide) s_0_940))) (ts_n (ts_n (ts_l (k := 0) (pc := 983) tb_0 rfl (by decide) s_0_983) (ts_l (k := 0) (pc := 1046) tb_0 rfl (by decide) s_0_1046)) (ts_n (ts_l (k := 0) (pc := 1099) tb_0 rfl (by decide) s_0_1099) (ts_n (ts_l (k := 0) (pc := 1132) tb_0 rfl (by decide) s_0_1132) (ts_l (k := 0) (pc := 1138) tb_0 rfl (by decide) s_0_1138))))
theorem tst_0r {Γ : m_G} (q : Nat) : m_ts Γ (t_0r Γ.2.2.2.2 q) q := ts_n (tst_0rl q) (tst_0rr q)
theorem tst_0 {Γ : m_G} (q : Nat) : m_ts Γ (t_0 Γ.2.2.2.2 q) q := ts_n (tst_0l q) (tst_0r q)
theorem d_1_0 : decode prog_2_method_1_code 0 = .ok (.aload_n 0, 1) := by decide +kernel
theorem d_1_1 : decode prog_2_method_1_code 1 = .ok (.iload_n 1, 1) := by decide +kernel
theorem d_1_2 : decode prog_2_method_1_code 2 = .ok (.invokespecial 1, 3) := by decide +kernel
theorem d_1_5 : decode prog_2_method_1_code 5 = .ok (.return_, 1) := by decide +kernel
theorem s_1_0 {Γ : m_G} : m_ok Γ m_tab 1 M_1 0 (g_1_0) := ok_al_n (pc := 0) d_1_0 rfl (ok_il_n (pc := 1) d_1_1 rfl (ok_cvr (pc := 2) (k2 := 65) rfl rfl tb_65 (by decide) (by decide) rfl (go_I d_1_2 w_507 w_478 w_14 w_479 rfl rfl nn_65 (by decide)) (ok_rv (pc := 5) d_1_5 rfl)))
theorem tst_1 {Γ : m_G} (q : Nat) : m_ts Γ (t_1 q) q := ts_l (k := 1) (pc := 0) tb_1 rfl (by decide) s_1_0
theorem d_2_0 : decode prog_2_method_2_code 0 = .ok (.aload_n 0, 1) := by decide +kernel
theorem d_2_1 : decode prog_2_method_2_code 1 = .ok (.iload_n 1, 1) := by decide +kernel
theorem d_2_2 : decode prog_2_method_2_code 2 = .ok (.iload_n 2, 1) := by decide +kernel
theorem d_2_3 : decode prog_2_method_2_code 3 = .ok (.iload_n 3, 1) := by decide +kernel
theorem d_2_4 : decode prog_2_method_2_code 4 = .ok (.invokespecial 7, 3) := by decide +kernel
theorem d_2_7 : decode prog_2_method_2_code 7 = .ok (.iload_n 2, 1) := by decide +kernel
theorem d_2_8 : decode prog_2_method_2_code 8 = .ok (.iadd, 1) := by decide +kernel
theorem d_2_9 : decode prog_2_method_2_code 9 = .ok (.ireturn, 1) := by decide +kernel
theorem s_2_0 {Γ : m_G} : m_ok Γ m_tab 2 M_2 0 (g_2_0) := ok_al_n (pc := 0) d_2_0 rfl (ok_il_n (pc := 1) d_2_1 rfl (ok_il_n (pc := 2) d_2_2 rfl (ok_il_n (pc := 3) d_2_3 rfl (ok_cai (pc := 4) (k2 := 66) rfl rfl tb_66 (by decide) (by decide) rfl (go_SU d_2_4 w_548 w_1362 w_510 w_549 w_14 w_550 (by decide) nn_66 (by decide) cl_0) (ok_il_n (pc := 7) d_2_7 rfl (ok_add (pc := 8) d_2_8 (ok_ri (pc := 9) d_2_9 rfl)))))))
theorem tst_2 {Γ : m_G} (q : Nat) : m_ts Γ (t_2 q) q := ts_l (k := 2) (pc := 0) tb_2 rfl (by decide) s_2_0
theorem d_3_0 : decode prog_2_method_3_code 0 = .ok (.aload_n 0, 1) := by decide +kernel
theorem d_3_1 : decode prog_2_method_3_code 1 = .ok (.iload_n 1, 1) := by decide +kernel
theorem d_3_2 : decode prog_2_method_3_code 2 = .ok (.iload_n 2, 1) := by decide +kernel
theorem d_3_3 : decode prog_2_method_3_code 3 = .ok (.iload_n 3, 1) := by decide +kernel
theorem d_3_4 : decode prog_2_method_3_code 4 = .ok (.invokespecial 11, 3) := by decide +kernel
theorem d_3_7 : decode prog_2_method_3_code 7 = .ok (.ifCond .eq 14, 3) := by decide +kernel
theorem d_3_10 : decode prog_2_method_3_code 10 = .ok (.iload_n 3, 1) := by decide +kernel
theorem d_3_11 : decode prog_2_method_3_code 11 = .ok (.iload_n 2, 1) := by decide +kernel
theorem d_3_12 : decode prog_2_method_3_code 12 = .ok (.iconst 1, 1) := by decide +kernel
theorem d_3_13 : decode prog_2_method_3_code 13 = .ok (.isub, 1) := by decide +kernel
theorem d_3_14 : decode prog_2_method_3_code 14 = .ok (.if_icmp .eq 7, 3) := by decide +kernel
theorem d_3_17 : decode prog_2_method_3_code 17 = .ok (.iconst 1, 1) := by decide +kernel
theorem d_3_18 : decode prog_2_method_3_code 18 = .ok (.goto 4, 3) := by decide +kernel
theorem d_3_21 : decode prog_2_method_3_code 21 = .ok (.iconst 0, 1) := by decide +kernel
theorem d_3_22 : decode prog_2_method_3_code 22 = .ok (.ireturn, 1) := by decide +kernel
theorem s_3_22 {Γ : m_G} : m_ok Γ m_tab 3 M_3 22 (g_3_22) := ok_rz (pc := 22) d_3_22 rfl
theorem s_3_21 {Γ : m_G} : m_ok Γ m_tab 3 M_3 21 (g_3_21) := ok_ic (pc := 21) d_3_21 rfl (s_3_22)
theorem s_3_0 {Γ : m_G} : m_ok Γ m_tab 3 M_3 0 (g_3_0) := ok_al_n (pc := 0) d_3_0 rfl (ok_il_n (pc := 1) d_3_1 rfl (ok_il_n (pc := 2) d_3_2 rfl (ok_il_n (pc := 3) d_3_3 rfl (ok_cai (pc := 4) (k2 := 67) rfl rfl tb_67 (by decide) (by decide) rfl (go_SU d_3_4 w_531 w_1361 w_510 w_532 w_14 w_533 (by decide) nn_67 (by decide) cl_0) (ok_czeq (pc := 7) (t := 21) d_3_7 rfl (by decide) rfl (ok_il_n (pc := 10) d_3_10 rfl (ok_il_n (pc := 11) d_3_11 rfl (ok_ic (pc := 12) d_3_12 rfl (ok_sub (pc := 13) d_3_13 (ok_cieq (pc := 14) (t := 21) d_3_14 rfl (by decide) rfl (ok_ic (pc := 17) d_3_17 rfl (ok_go (pc := 18) (t := 22) d_3_18 rfl (by decide) rfl))))))))))))
theorem tst_3 {Γ : m_G} (q : Nat) : m_ts Γ (t_3 q) q := ts_n (ts_l (k := 3) (pc := 0) tb_3 rfl (by decide) s_3_0) (ts_n (ts_l (k := 3) (pc := 21) tb_3 rfl (by decide) s_3_21) (ts_l (k := 3) (pc := 22) tb_3 rfl (by decide) s_3_22))
theorem d_4_0 : decode prog_3_method_1_code 0 = .ok (.aload_n 0, 1) := by decide +kernel
theorem d_4_1 : decode prog_3_method_1_code 1 = .ok (.iload_n 1, 1) := by decide +kernel
theorem d_4_2 : decode prog_3_method_1_code 2 = .ok (.invokespecial 1, 3) := by decide +kernel
theorem d_4_5 : decode prog_3_method_1_code 5 = .ok (.return_, 1) := by decide +kernel
theorem s_4_0 {Γ : m_G} : m_ok Γ m_tab 4 M_4 0 (g_4_0) := ok_al_n (pc := 0) d_4_0 rfl (ok_il_n (pc := 1) d_4_1 rfl (ok_cvr (pc := 2) (k2 := 68) rfl rfl tb_68 (by decide) (by decide) rfl (go_I d_4_2 w_489 w_453 w_13 w_454 rfl rfl nn_68 (by decide)) (ok_rv (pc := 5) d_4_5 rfl)))
theorem tst_4 {Γ : m_G} (q : Nat) : m_ts Γ (t_4 q) q := ts_l (k := 4) (pc := 0) tb_4 rfl (by decide) s_4_0
theorem d_5_0 : decode prog_3_method_2_code 0 = .ok (.aload_n 0, 1) := by decide +kernel
theorem d_5_1 : decode prog_3_method_2_code 1 = .ok (.iload_n 1, 1) := by decide +kernel
theorem d_5_2 : decode prog_3_method_2_code 2 = .ok (.iload_n 2, 1) := by decide +kernel
theorem d_5_3 : decode prog_3_method_2_code 3 = .ok (.iload_n 3, 1) := by decide +kernel
theorem d_5_4 : decode prog_3_method_2_code 4 = .ok (.invokespecial 7, 3) := by decide +kernel
theorem d_5_7 : decode prog_3_method_2_code 7 = .ok (.iload_n 3, 1) := by decide +kernel
theorem d_5_8 : decode prog_3_method_2_code 8 = .ok (.aload_n 0, 1) := by decide +kernel
theorem d_5_9 : decode prog_3_method_2_code 9 = .ok (.getfield 11, 3) := by decide +kernel
theorem d_5_12 : decode prog_3_method_2_code 12 = .ok (.imul, 1) := by decide +kernel
theorem d_5_13 : decode prog_3_method_2_code 13 = .ok (.isub, 1) := by decide +kernel
theorem d_5_14 : decode prog_3_method_2_code 14 = .ok (.ireturn, 1) := by decide +kernel
theorem s_5_0 {Γ : m_G} : m_ok Γ m_tab 5 M_5 0 (g_5_0) := ok_al_n (pc := 0) d_5_0 rfl (ok_il_n (pc := 1) d_5_1 rfl (ok_il_n (pc := 2) d_5_2 rfl (ok_il_n (pc := 3) d_5_3 rfl (ok_cai (pc := 4) (k2 := 69) rfl rfl tb_69 (by decide) (by decide) rfl (go_SU d_5_4 w_554 w_1363 w_492 w_555 w_13 w_556 (by decide) nn_69 (by decide) cl_1) (ok_il_n (pc := 7) d_5_7 rfl (ok_al_n (pc := 8) d_5_8 rfl (ok_getf (pc := 9) d_5_9 w_460 (hc1 fo_0) (ok_mul (pc := 12) d_5_12 (ok_sub (pc := 13) d_5_13 (ok_ri (pc := 14) d_5_14 rfl))))))))))
theorem tst_5 {Γ : m_G} (q : Nat) : m_ts Γ (t_5 q) q := ts_l (k := 5) (pc := 0) tb_5 rfl (by decide) s_5_0
theorem d_6_0 : decode prog_3_method_3_code 0 = .ok (.iload_n 3, 1) := by decide +kernel
theorem d_6_1 : decode prog_3_method_3_code 1 = .ok (.aload_n 0, 1) := by decide +kernel
theorem d_6_2 : decode prog_3_method_3_code 2 = .ok (.getfield 11, 3) := by decide +kernel
theorem d_6_5 : decode prog_3_method_3_code 5 = .ok (.iconst 5, 1) := by decide +kernel
theorem d_6_6 : decode prog_3_method_3_code 6 = .ok (.irem, 1) := by decide +kernel
theorem d_6_7 : decode prog_3_method_3_code 7 = .ok (.if_icmp .eq 7, 3) := by decide +kernel
theorem d_6_10 : decode prog_3_method_3_code 10 = .ok (.iconst 1, 1) := by decide +kernel
theorem d_6_11 : decode prog_3_method_3_code 11 = .ok (.goto 4, 3) := by decide +kernel
theorem d_6_14 : decode prog_3_method_3_code 14 = .ok (.iconst 0, 1) := by decide +kernel
theorem d_6_15 : decode prog_3_method_3_code 15 = .ok (.ireturn, 1) := by decide +kernel
theorem s_6_15 {Γ : m_G} : m_ok Γ m_tab 6 M_6 15 (g_6_15) := ok_rz (pc := 15) d_6_15 rfl
theorem s_6_14 {Γ : m_G} : m_ok Γ m_tab 6 M_6 14 (g_6_14) := ok_ic (pc := 14) d_6_14 rfl (s_6_15)
theorem s_6_0 {Γ : m_G} : m_ok Γ m_tab 6 M_6 0 (g_6_0) := ok_il_n (pc := 0) d_6_0 rfl (ok_al_n (pc := 1) d_6_1 rfl (ok_getf (pc := 2) d_6_2 w_460 (hc1 fo_0) (ok_ic (pc := 5) d_6_5 rfl (ok_rem (pc := 6) d_6_6 (ok_cieq (pc := 7) (t := 14) d_6_7 rfl (by decide) rfl (ok_ic (pc := 10) d_6_10 rfl (ok_go (pc := 11) (t := 15) d_6_11 rfl (by decide) rfl)))))))
theorem tst_6 {Γ : m_G} (q : Nat) : m_ts Γ (t_6 q) q := ts_n (ts_l (k := 6) (pc := 0) tb_6 rfl (by decide) s_6_0) (ts_n (ts_l (k := 6) (pc := 14) tb_6 rfl (by decide) s_6_14) (ts_l (k := 6) (pc := 15) tb_6 rfl (by decide) s_6_15))
theorem d_7_0 : decode prog_4_method_1_code 0 = .ok (.aload_n 0, 1) := by decide +kernel
theorem d_7_1 : decode prog_4_method_1_code 1 = .ok (.iload_n 1, 1) := by decide +kernel
theorem d_7_2 : decode prog_4_method_1_code 2 = .ok (.invokespecial 1, 3) := by decide +kernel
theorem d_7_5 : decode prog_4_method_1_code 5 = .ok (.return_, 1) := by decide +kernel
theorem s_7_0 {Γ : m_G} : m_ok Γ m_tab 7 M_7 0 (g_7_0) := ok_al_n (pc := 0) d_7_0 rfl (ok_il_n (pc := 1) d_7_1 rfl (ok_cvr (pc := 2) (k2 := 65) rfl rfl tb_65 (by decide) (by decide) rfl (go_I d_7_2 w_498 w_478 w_14 w_479 rfl rfl nn_65 (by decide)) (ok_rv (pc := 5) d_7_5 rfl)))
theorem tst_7 {Γ : m_G} (q : Nat) : m_ts Γ (t_7 q) q := ts_l (k := 7) (pc := 0) tb_7 rfl (by decide) s_7_0
theorem d_8_0 : decode prog_4_method_2_code 0 = .ok (.aload_n 0, 1) := by decide +kernel
theorem d_8_1 : decode prog_4_method_2_code 1 = .ok (.iload_n 1, 1) := by decide +kernel
theorem d_8_2 : decode prog_4_method_2_code 2 = .ok (.iload_n 2, 1) := by decide +kernel
theorem d_8_3 : decode prog_4_method_2_code 3 = .ok (.iload_n 3, 1) := by decide +kernel
theorem d_8_4 : decode prog_4_method_2_code 4 = .ok (.invokespecial 7, 3) := by decide +kernel
theorem d_8_7 : decode prog_4_method_2_code 7 = .ok (.iconst 2, 1) := by decide +kernel
theorem d_8_8 : decode prog_4_method_2_code 8 = .ok (.idiv, 1) := by decide +kernel
theorem d_8_9 : decode prog_4_method_2_code 9 = .ok (.ireturn, 1) := by decide +kernel
theorem s_8_0 {Γ : m_G} : m_ok Γ m_tab 8 M_8 0 (g_8_0) := ok_al_n (pc := 0) d_8_0 rfl (ok_il_n (pc := 1) d_8_1 rfl (ok_il_n (pc := 2) d_8_2 rfl (ok_il_n (pc := 3) d_8_3 rfl (ok_cai (pc := 4) (k2 := 66) rfl rfl tb_66 (by decide) (by decide) rfl (go_SU d_8_4 w_560 w_1362 w_501 w_549 w_14 w_550 (by decide) nn_66 (by decide) cl_2) (ok_ic (pc := 7) d_8_7 rfl (ok_div (pc := 8) d_8_8 (ok_ri (pc := 9) d_8_9 rfl)))))))
theorem tst_8 {Γ : m_G} (q : Nat) : m_ts Γ (t_8 q) q := ts_l (k := 8) (pc := 0) tb_8 rfl (by decide) s_8_0
theorem d_9_0 : decode prog_5_method_1_code 0 = .ok (.aload_n 0, 1) := by decide +kernel
theorem d_9_1 : decode prog_5_method_1_code 1 = .ok (.invokespecial 1, 3) := by decide +kernel
theorem d_9_4 : decode prog_5_method_1_code 4 = .ok (.aload_n 0, 1) := by decide +kernel
theorem d_9_5 : decode prog_5_method_1_code 5 = .ok (.iload_n 1, 1) := by decide +kernel
theorem d_9_6 : decode prog_5_method_1_code 6 = .ok (.putfield 7, 3) := by decide +kernel
theorem d_9_9 : decode prog_5_method_1_code 9 = .ok (.aload_n 0, 1) := by decide +kernel
theorem d_9_10 : decode prog_5_method_1_code 10 = .ok (.iconst 1, 1) := by decide +kernel
theorem d_9_11 : decode prog_5_method_1_code 11 = .ok (.iload_n 1, 1) := by decide +kernel
theorem d_9_12 : decode prog_5_method_1_code 12 = .ok (.iadd, 1) := by decide +kernel
theorem d_9_13 : decode prog_5_method_1_code 13 = .ok (.putfield 13, 3) := by decide +kernel
theorem d_9_16 : decode prog_5_method_1_code 16 = .ok (.return_, 1) := by decide +kernel
theorem s_9_0 {Γ : m_G} : m_ok Γ m_tab 9 M_9 0 (g_9_0) := ok_al_n (pc := 0) d_9_0 rfl (ok_oi (pc := 1) d_9_1 w_458 w_27 w_28 (ok_al_n (pc := 4) d_9_4 rfl (ok_il_n (pc := 5) d_9_5 rfl (ok_putf (pc := 6) d_9_6 w_459 (hcf (List.forall_mem_cons.mpr ⟨⟨_, _, _, tyX0, cl_0, in_0, by decide, rfl, rfl, rfl, tyX0_ok, nmX0, Or.inr ⟨rfl, rfl, rfl⟩⟩, List.forall_mem_cons.mpr ⟨⟨_, _, _, tyX1, cl_1, in_1, by decide, rfl, rfl, rfl, tyX1_ok, nmX1, Or.inr ⟨rfl, rfl, rfl⟩⟩, List.forall_mem_cons.mpr ⟨⟨_, _, _, tyX2, cl_2, in_2, by decide, rfl, rfl, rfl, tyX2_ok, nmX2, Or.inr ⟨rfl, rfl, rfl⟩⟩, List.forall_mem_cons.mpr ⟨⟨_, _, _, tyX3, cl_3, in_3, by decide, rfl, rfl, rfl, tyX3_ok, nmX3, Or.inr ⟨rfl, rfl, rfl⟩⟩, List.forall_mem_cons.mpr ⟨⟨_, _, _, tyX7, cl_7, in_7, by decide, rfl, rfl, rfl, tyX7_ok, nmX7, Or.inr ⟨rfl, rfl, rfl⟩⟩, List.forall_mem_cons.mpr ⟨⟨_, _, _, tyX8, cl_8, in_8, by decide, rfl, rfl, rfl, tyX8_ok, nmX8, Or.inr ⟨rfl, rfl, rfl⟩⟩, fun _ h => absurd h List.not_mem_nil⟩⟩⟩⟩⟩⟩)) pd_0 vt_I (ok_al_n (pc := 9) d_9_9 rfl (ok_ic (pc := 10) d_9_10 rfl (ok_il_n (pc := 11) d_9_11 rfl (ok_add (pc := 12) d_9_12 (ok_putf (pc := 13) d_9_13 w_465 (hcf (List.forall_mem_cons.mpr ⟨⟨_, _, _, tyX0, cl_0, in_0, by decide, rfl, rfl, rfl, tyX0_ok, nmX0, Or.inr ⟨rfl, rfl, rfl⟩⟩, List.forall_mem_cons.mpr ⟨⟨_, _, _, tyX1, cl_1, in_1, by decide, rfl, rfl, rfl, tyX1_ok, nmX1, Or.inr ⟨rfl, rfl, rfl⟩⟩, List.forall_mem_cons.mpr ⟨⟨_, _, _, tyX2, cl_2, in_2, by decide, rfl, rfl, rfl, tyX2_ok, nmX2, Or.inr ⟨rfl, rfl, rfl⟩⟩, List.forall_mem_cons.mpr ⟨⟨_, _, _, tyX3, cl_3, in_3, by decide, rfl, rfl, rfl, tyX3_ok, nmX3, Or.inr ⟨rfl, rfl, rfl⟩⟩, List.forall_mem_cons.mpr ⟨⟨_, _, _, tyX7, cl_7, in_7, by decide, rfl, rfl, rfl, tyX7_ok, nmX7, Or.inr ⟨rfl, rfl, rfl⟩⟩, List.forall_mem_cons.mpr ⟨⟨_, _, _, tyX8, cl_8, in_8, by decide, rfl, rfl, rfl, tyX8_ok, nmX8, Or.inr ⟨rfl, rfl, rfl⟩⟩, fun _ h => absurd h List.not_mem_nil⟩⟩⟩⟩⟩⟩)) pd_0 vt_I (ok_rv (pc := 16) d_9_16 rfl))))))))))
theorem tst_9 {Γ : m_G} (q : Nat) : m_ts Γ (t_9 q) q := ts_l (k := 9) (pc := 0) tb_9 rfl (by decide) s_9_0
theorem d_10_0 : decode prog_5_method_2_code 0 = .ok (.aload_n 0, 1) := by decide +kernel
theorem d_10_1 : decode prog_5_method_2_code 1 = .ok (.getfield 13, 3) := by decide +kernel
theorem d_10_4 : decode prog_5_method_2_code 4 = .ok (.ireturn, 1) := by decide +kernel
theorem s_10_0 {Γ : m_G} : m_ok Γ m_tab 10 M_10 0 (g_10_0) := ok_al_n (pc := 0) d_10_0 rfl (ok_getf (pc := 1) d_10_1 w_465 (hcf (List.forall_mem_cons.mpr ⟨fo_6, List.forall_mem_cons.mpr ⟨fo_5, List.forall_mem_cons.mpr ⟨fo_4, List.forall_mem_cons.mpr ⟨fo_3, List.forall_mem_cons.mpr ⟨fo_2, List.forall_mem_cons.mpr ⟨fo_1, fun _ h => absurd h List.not_mem_nil⟩⟩⟩⟩⟩⟩)) (ok_ri (pc := 4) d_10_4 rfl))
theorem tst_10 {Γ : m_G} (q : Nat) : m_ts Γ (t_10 q) q := ts_l (k := 10) (pc := 0) tb_10 rfl (by decide) s_10_0
theorem d_11_0 : decode prog_5_method_3_code 0 = .ok (.iconst 1, 1) := by decide +kernel
theorem d_11_1 : decode prog_5_method_3_code 1 = .ok (.ireturn, 1) := by decide +kernel
theorem s_11_0 {Γ : m_G} : m_ok Γ m_tab 11 M_11 0 (g_11_0) := ok_ic (pc := 0) d_11_0 rfl (ok_rz (pc := 1) d_11_1 rfl)
theorem tst_11 {Γ : m_G} (q : Nat) : m_ts Γ (t_11 q) q := ts_l (k := 11) (pc := 0) tb_11 rfl (by decide) s_11_0
theorem d_12_0 : decode prog_6_method_1_code 0 = .ok (.aload_n 0, 1) := by decide +kernel
theorem d_12_1 : decode prog_6_method_1_code 1 = .ok (.invokespecial 3, 3) := by decide +kernel
theorem d_12_4 : decode prog_6_method_1_code 4 = .ok (.aload_n 0, 1) := by decide +kernel
theorem d_12_5 : decode prog_6_method_1_code 5 = .ok (.sipush 160, 3) := by decide +kernel
theorem d_12_8 : decode prog_6_method_1_code 8 = .ok (.newarray .int, 2) := by decide +kernel
theorem d_12_10 : decode prog_6_method_1_code 10 = .ok (.putfield 9, 3) := by decide +kernel
theorem d_12_13 : decode prog_6_method_1_code 13 = .ok (.aload_n 0, 1) := by decide +kernel
theorem d_12_14 : decode prog_6_method_1_code 14 = .ok (.sipush 161, 3) := by decide +kernel
theorem d_12_17 : decode prog_6_method_1_code 17 = .ok (.newarray .int, 2) := by decide +kernel
theorem d_12_19 : decode prog_6_method_1_code 19 = .ok (.putfield 15, 3) := by decide +kernel
theorem d_12_22 : decode prog_6_method_1_code 22 = .ok (.aload_n 0, 1) := by decide +kernel
theorem d_12_23 : decode prog_6_method_1_code 23 = .ok (.sipush 161, 3) := by decide +kernel
theorem d_12_26 : decode prog_6_method_1_code 26 = .ok (.newarray .int, 2) := by decide +kernel
theorem d_12_28 : decode prog_6_method_1_code 28 = .ok (.putfield 18, 3) := by decide +kernel
theorem d_12_31 : decode prog_6_method_1_code 31 = .ok (.aload_n 0, 1) := by decide +kernel
theorem d_12_32 : decode prog_6_method_1_code 32 = .ok (.sipush 160, 3) := by decide +kernel
theorem d_12_35 : decode prog_6_method_1_code 35 = .ok (.newarray .int, 2) := by decide +kernel
theorem d_12_37 : decode prog_6_method_1_code 37 = .ok (.putfield 21, 3) := by decide +kernel
theorem d_12_40 : decode prog_6_method_1_code 40 = .ok (.return_, 1) := by decide +kernel
theorem s_12_0 {Γ : m_G} : m_ok Γ m_tab 12 M_12 0 (g_12_0) := ok_al_n (pc := 0) d_12_0 rfl (ok_oi (pc := 1) d_12_1 w_142 w_27 w_28 (ok_al_n (pc := 4) d_12_4 rfl (ok_si (pc := 5) d_12_5 rfl (ok_newa (pc := 8) d_12_8 rfl w_88 (ok_putf (pc := 10) d_12_10 w_143 (hc1 ⟨_, _, _, tyX4, cl_4, in_4, by decide, rfl, rfl, rfl, tyX4_ok, nmX4, Or.inr ⟨rfl, rfl, rfl⟩⟩) pd_1 vt_A (ok_al_n (pc := 13) d_12_13 rfl (ok_si (pc := 14) d_12_14 rfl (ok_newa (pc := 17) d_12_17 rfl w_88 (ok_putf (pc := 19) d_12_19 w_146 (hc1 ⟨_, _, _, tyX4, cl_4, in_4, by decide, rfl, rfl, rfl, tyX4_ok, nmX4, Or.inr ⟨rfl, rfl, rfl⟩⟩) pd_1 vt_A (ok_al_n (pc := 22) d_12_22 rfl (ok_si (pc := 23) d_12_23 rfl (ok_newa (pc := 26) d_12_26 rfl w_88 (ok_putf (pc := 28) d_12_28 w_147 (hc1 ⟨_, _, _, tyX4, cl_4, in_4, by decide, rfl, rfl, rfl, tyX4_ok, nmX4, Or.inr ⟨rfl, rfl, rfl⟩⟩) pd_1 vt_A (ok_al_n (pc := 31) d_12_31 rfl (ok_si (pc := 32) d_12_32 rfl (ok_newa (pc := 35) d_12_35 rfl w_88 (ok_putf (pc := 37) d_12_37 w_152 (hc1 ⟨_, _, _, tyX4, cl_4, in_4, by decide, rfl, rfl, rfl, tyX4_ok, nmX4, Or.inr ⟨rfl, rfl, rfl⟩⟩) pd_1 vt_A (ok_rv (pc := 40) d_12_40 rfl))))))))))))))))))
theorem tst_12 {Γ : m_G} (q : Nat) : m_ts Γ (t_12 q) q := ts_l (k := 12) (pc := 0) tb_12 rfl (by decide) s_12_0
theorem d_13_0 : decode prog_6_method_2_code 0 = .ok (.aload_n 0, 1) := by decide +kernel
theorem d_13_1 : decode prog_6_method_2_code 1 = .ok (.getfield 24, 3) := by decide +kernel
theorem d_13_4 : decode prog_6_method_2_code 4 = .ok (.sipush 160, 3) := by decide +kernel
theorem d_13_7 : decode prog_6_method_2_code 7 = .ok (.if_icmp .lt 5, 3) := by decide +kernel
theorem d_13_10 : decode prog_6_method_2_code 10 = .ok (.iconst 0, 1) := by decide +kernel
theorem d_13_11 : decode prog_6_method_2_code 11 = .ok (.ireturn, 1) := by decide +kernel
theorem d_13_12 : decode prog_6_method_2_code 12 = .ok (.aload_n 0, 1) := by decide +kernel
theorem d_13_13 : decode prog_6_method_2_code 13 = .ok (.getfield 9, 3) := by decide +kernel
theorem d_13_16 : decode prog_6_method_2_code 16 = .ok (.aload_n 0, 1) := by decide +kernel
theorem d_13_17 : decode prog_6_method_2_code 17 = .ok (.getfield 24, 3) := by decide +kernel
theorem d_13_20 : decode prog_6_method_2_code 20 = .ok (.iload_n 1, 1) := by decide +kernel
theorem d_13_21 : decode prog_6_method_2_code 21 = .ok (.iastore, 1) := by decide +kernel
theorem d_13_22 : decode prog_6_method_2_code 22 = .ok (.aload_n 0, 1) := by decide +kernel
theorem d_13_23 : decode prog_6_method_2_code 23 = .ok (.dup, 1) := by decide +kernel
theorem d_13_24 : decode prog_6_method_2_code 24 = .ok (.getfield 24, 3) := by decide +kernel
theorem d_13_27 : decode prog_6_method_2_code 27 = .ok (.iconst 1, 1) := by decide +kernel
theorem d_13_28 : decode prog_6_method_2_code 28 = .ok (.iadd, 1) := by decide +kernel
theorem d_13_29 : decode prog_6_method_2_code 29 = .ok (.putfield 24, 3) := by decide +kernel
theorem d_13_32 : decode prog_6_method_2_code 32 = .ok (.iconst 1, 1) := by decide +kernel
theorem d_13_33 : decode prog_6_method_2_code 33 = .ok (.ireturn, 1) := by decide +kernel
theorem s_13_12 {Γ : m_G} : m_ok Γ m_tab 13 M_13 12 (g_13_12) := ok_al_n (pc := 12) d_13_12 rfl (ok_getf (pc := 13) d_13_13 w_143 (hc1 fo_8) (ok_al_n (pc := 16) d_13_16 rfl (ok_getf (pc := 17) d_13_17 w_144 (hc1 fo_7) (ok_il_n (pc := 20) d_13_20 rfl (ok_iast (pc := 21) d_13_21 (ok_al_n (pc := 22) d_13_22 rfl (ok_dup (pc := 23) d_13_23 (ok_getf (pc := 24) d_13_24 w_144 (hc1 fo_7) (ok_ic (pc := 27) d_13_27 rfl (ok_add (pc := 28) d_13_28 (ok_putf (pc := 29) d_13_29 w_144 (hc1 ⟨_, _, _, tyX4, cl_4, in_4, by decide, rfl, rfl, rfl, tyX4_ok, nmX4, Or.inl rfl⟩) pd_0 vt_I (ok_ic (pc := 32) d_13_32 rfl (ok_rz (pc := 33) d_13_33 rfl)))))))))))))
theorem s_13_0 {Γ : m_G} : m_ok Γ m_tab 13 M_13 0 (g_13_0) := ok_al_n (pc := 0) d_13_0 rfl (ok_getf (pc := 1) d_13_1 w_144 (hc1 fo_7) (ok_si (pc := 4) d_13_4 rfl (ok_cilt (pc := 7) (t := 12) d_13_7 rfl (by decide) rfl (ok_ic (pc := 10) d_13_10 rfl (ok_rz (pc := 11) d_13_11 rfl)))))
theorem tst_13 {Γ : m_G} (q : Nat) : m_ts Γ (t_13 q) q := ts_n (ts_l (k := 13) (pc := 0) tb_13 rfl (by decide) s_13_0) (ts_l (k := 13) (pc := 12) tb_13 rfl (by decide) s_13_12)
theorem d_14_0 : decode prog_6_method_3_code 0 = .ok (.aload_n 0, 1) := by decide +kernel
theorem d_14_1 : decode prog_6_method_3_code 1 = .ok (.iconst 0, 1) := by decide +kernel
theorem d_14_2 : decode prog_6_method_3_code 2 = .ok (.putfield 24, 3) := by decide +kernel
theorem d_14_5 : decode prog_6_method_3_code 5 = .ok (.return_, 1) := by decide +kernel
theorem s_14_0 {Γ : m_G} : m_ok Γ m_tab 14 M_14 0 (g_14_0) := ok_al_n (pc := 0) d_14_0 rfl (ok_ic (pc := 1) d_14_1 rfl (ok_putf (pc := 2) d_14_2 w_144 (hc1 ⟨_, _, _, tyX4, cl_4, in_4, by decide, rfl, rfl, rfl, tyX4_ok, nmX4, Or.inl rfl⟩) pd_0 vt_I (ok_rv (pc := 5) d_14_5 rfl)))
theorem tst_14 {Γ : m_G} (q : Nat) : m_ts Γ (t_14 q) q := ts_l (k := 14) (pc := 0) tb_14 rfl (by decide) s_14_0
theorem d_15_0 : decode prog_6_method_4_code 0 = .ok (.aload_n 0, 1) := by decide +kernel
theorem d_15_1 : decode prog_6_method_4_code 1 = .ok (.invokevirtual 28, 3) := by decide +kernel
theorem d_15_4 : decode prog_6_method_4_code 4 = .ok (.aload_n 0, 1) := by decide +kernel
theorem d_15_5 : decode prog_6_method_4_code 5 = .ok (.iconst (-1), 1) := by decide +kernel
theorem d_15_6 : decode prog_6_method_4_code 6 = .ok (.putfield 31, 3) := by decide +kernel
theorem d_15_9 : decode prog_6_method_4_code 9 = .ok (.aload_n 0, 1) := by decide +kernel
theorem d_15_10 : decode prog_6_method_4_code 10 = .ok (.iconst 0, 1) := by decide +kernel
theorem d_15_11 : decode prog_6_method_4_code 11 = .ok (.putfield 34, 3) := by decide +kernel
theorem d_15_14 : decode prog_6_method_4_code 14 = .ok (.aload_n 0, 1) := by decide +kernel
theorem d_15_15 : decode prog_6_method_4_code 15 = .ok (.iconst 0, 1) := by decide +kernel
theorem d_15_16 : decode prog_6_method_4_code 16 = .ok (.putfield 37, 3) := by decide +kernel
theorem d_15_19 : decode prog_6_method_4_code 19 = .ok (.aload_n 0, 1) := by decide +kernel
theorem d_15_20 : decode prog_6_method_4_code 20 = .ok (.aload_n 0, 1) := by decide +kernel
theorem d_15_21 : decode prog_6_method_4_code 21 = .ok (.getfield 15, 3) := by decide +kernel
theorem d_15_24 : decode prog_6_method_4_code 24 = .ok (.iconst 0, 1) := by decide +kernel
theorem d_15_25 : decode prog_6_method_4_code 25 = .ok (.iaload, 1) := by decide +kernel
theorem d_15_26 : decode prog_6_method_4_code 26 = .ok (.putfield 40, 3) := by decide +kernel
theorem d_15_29 : decode prog_6_method_4_code 29 = .ok (.aload_n 0, 1) := by decide +kernel
theorem d_15_30 : decode prog_6_method_4_code 30 = .ok (.bipush 15, 2) := by decide +kernel
theorem d_15_32 : decode prog_6_method_4_code 32 = .ok (.invokevirtual 43, 3) := by decide +kernel
theorem d_15_35 : decode prog_6_method_4_code 35 = .ok (.aload_n 0, 1) := by decide +kernel
theorem d_15_36 : decode prog_6_method_4_code 36 = .ok (.getfield 34, 3) := by decide +kernel
theorem d_15_39 : decode prog_6_method_4_code 39 = .ok (.istore_n 1, 1) := by decide +kernel
theorem d_15_40 : decode prog_6_method_4_code 40 = .ok (.aload_n 0, 1) := by decide +kernel
theorem d_15_41 : decode prog_6_method_4_code 41 = .ok (.bipush 16, 2) := by decide +kernel
theorem d_15_43 : decode prog_6_method_4_code 43 = .ok (.invokevirtual 43, 3) := by decide +kernel
theorem d_15_46 : decode prog_6_method_4_code 46 = .ok (.aload_n 0, 1) := by decide +kernel
theorem d_15_47 : decode prog_6_method_4_code 47 = .ok (.getfield 34, 3) := by decide +kernel
theorem d_15_50 : decode prog_6_method_4_code 50 = .ok (.istore_n 2, 1) := by decide +kernel
theorem d_15_51 : decode prog_6_method_4_code 51 = .ok (.aload_n 0, 1) := by decide +kernel
theorem d_15_52 : decode prog_6_method_4_code 52 = .ok (.bipush 17, 2) := by decide +kernel
theorem d_15_54 : decode prog_6_method_4_code 54 = .ok (.invokevirtual 43, 3) := by decide +kernel
theorem d_15_57 : decode prog_6_method_4_code 57 = .ok (.aload_n 0, 1) := by decide +kernel
theorem d_15_58 : decode prog_6_method_4_code 58 = .ok (.getfield 40, 3) := by decide +kernel
theorem d_15_61 : decode prog_6_method_4_code 61 = .ok (.bipush 21, 2) := by decide +kernel
theorem d_15_63 : decode prog_6_method_4_code 63 = .ok (.if_icmp .eq 7, 3) := by decide +kernel
theorem d_15_66 : decode prog_6_method_4_code 66 = .ok (.aload_n 0, 1) := by decide +kernel
theorem d_15_67 : decode prog_6_method_4_code 67 = .ok (.invokevirtual 47, 3) := by decide +kernel
theorem d_15_70 : decode prog_6_method_4_code 70 = .ok (.aload_n 0, 1) := by decide +kernel
theorem d_15_71 : decode prog_6_method_4_code 71 = .ok (.invokevirtual 50, 3) := by decide +kernel
theorem d_15_74 : decode prog_6_method_4_code 74 = .ok (.aload_n 0, 1) := by decide +kernel
theorem d_15_75 : decode prog_6_method_4_code 75 = .ok (.getfield 31, 3) := by decide +kernel
theorem d_15_78 : decode prog_6_method_4_code 78 = .ok (.iconst (-1), 1) := by decide +kernel
theorem d_15_79 : decode prog_6_method_4_code 79 = .ok (.if_icmp .eq 5, 3) := by decide +kernel
theorem d_15_82 : decode prog_6_method_4_code 82 = .ok (.aconst_null, 1) := by decide +kernel
theorem d_15_83 : decode prog_6_method_4_code 83 = .ok (.areturn, 1) := by decide +kernel
theorem d_15_84 : decode prog_6_method_4_code 84 = .ok (.aload_n 0, 1) := by decide +kernel
theorem d_15_85 : decode prog_6_method_4_code 85 = .ok (.getfield 34, 3) := by decide +kernel
theorem d_15_88 : decode prog_6_method_4_code 88 = .ok (.newarray .int, 2) := by decide +kernel
theorem d_15_90 : decode prog_6_method_4_code 90 = .ok (.astore_n 3, 1) := by decide +kernel
theorem d_15_91 : decode prog_6_method_4_code 91 = .ok (.aload_n 0, 1) := by decide +kernel
theorem d_15_92 : decode prog_6_method_4_code 92 = .ok (.getfield 21, 3) := by decide +kernel
theorem d_15_95 : decode prog_6_method_4_code 95 = .ok (.iconst 0, 1) := by decide +kernel
theorem d_15_96 : decode prog_6_method_4_code 96 = .ok (.aload_n 3, 1) := by decide +kernel
theorem d_15_97 : decode prog_6_method_4_code 97 = .ok (.iconst 0, 1) := by decide +kernel
theorem d_15_98 : decode prog_6_method_4_code 98 = .ok (.aload_n 0, 1) := by decide +kernel
theorem d_15_99 : decode prog_6_method_4_code 99 = .ok (.getfield 34, 3) := by decide +kernel
theorem d_15_102 : decode prog_6_method_4_code 102 = .ok (.invokestatic 53, 3) := by decide +kernel
theorem d_15_105 : decode prog_6_method_4_code 105 = .ok (.new 59, 3) := by decide +kernel
theorem d_15_108 : decode prog_6_method_4_code 108 = .ok (.dup, 1) := by decide +kernel
theorem d_15_109 : decode prog_6_method_4_code 109 = .ok (.aload_n 3, 1) := by decide +kernel
theorem d_15_110 : decode prog_6_method_4_code 110 = .ok (.iload_n 1, 1) := by decide +kernel
theorem d_15_111 : decode prog_6_method_4_code 111 = .ok (.iload_n 2, 1) := by decide +kernel
theorem d_15_112 : decode prog_6_method_4_code 112 = .ok (.invokespecial 61, 3) := by decide +kernel
theorem d_15_115 : decode prog_6_method_4_code 115 = .ok (.areturn, 1) := by decide +kernel
theorem s_15_84 {Γ : m_G} : m_ok Γ m_tab 15 M_15 84 (g_15_84) := ok_al_n (pc := 84) d_15_84 rfl (ok_getf (pc := 85) d_15_85 w_153 (hc1 fo_9) (ok_newa (pc := 88) d_15_88 rfl w_88 (ok_as_n (pc := 90) d_15_90 rfl (by decide) (ok_al_n (pc := 91) d_15_91 rfl (ok_getf (pc := 92) d_15_92 w_152 (hc1 fo_10) (ok_ic (pc := 95) d_15_95 rfl (ok_al_n (pc := 96) d_15_96 rfl (ok_ic (pc := 97) d_15_97 rfl (ok_al_n (pc := 98) d_15_98 rfl (ok_getf (pc := 99) d_15_99 w_153 (hc1 fo_9) (ok_copy (pc := 102) d_15_102 w_329 w_331 w_330 w_9 (ok_new (pc := 105) d_15_105 w_332 w_333 w_10 cl_9 in_9 tyX9_ok df_9 dd_9 (ok_dup (pc := 108) d_15_108 (ok_al_n (pc := 109) d_15_109 rfl (ok_il_n (pc := 110) d_15_110 rfl (ok_il_n (pc := 111) d_15_111 rfl (ok_cvr (pc := 112) (k2 := 70) rfl rfl tb_70 (by decide) (by decide) rfl (go_I d_15_112 w_334 w_335 w_10 w_336 rfl rfl nn_70 (by decide)) (ok_ra (pc := 115) d_15_115 rfl))))))))))))))))))
theorem s_15_70 {Γ : m_G} : m_ok Γ m_tab 15 M_15 70 (g_15_70) := ok_al_n (pc := 70) d_15_70 rfl (ok_cvi (pc := 71) (k2 := 14) rfl rfl tb_14 (by decide) (by decide) rfl (go_V d_15_71 w_325 w_326 w_327 w_4 w_328 nn_14 (by decide) cl_4 rfl) (ok_al_n (pc := 74) d_15_74 rfl (ok_getf (pc := 75) d_15_75 w_150 (hc1 fo_11) (ok_ic (pc := 78) d_15_78 rfl (ok_cieq (pc := 79) (t := 84) d_15_79 rfl (by decide) rfl (ok_nul (pc := 82) d_15_82 (ok_ra (pc := 83) d_15_83 rfl)))))))
theorem s_15_0 {Γ : m_G} : m_ok Γ m_tab 15 M_15 0 (g_15_0) := ok_al_n (pc := 0) d_15_0 rfl (ok_cvi (pc := 1) (k2 := 26) rfl rfl tb_26 (by decide) (by decide) rfl (go_V d_15_1 w_234 w_236 ws_0 w_4 w_237 nn_26 (by decide) cl_4 rfl) (ok_al_n (pc := 4) d_15_4 rfl (ok_ic (pc := 5) d_15_5 rfl (ok_putf (pc := 6) d_15_6 w_150 (hc1 ⟨_, _, _, tyX4, cl_4, in_4, by decide, rfl, rfl, rfl, tyX4_ok, nmX4, Or.inl rfl⟩) pd_0 vt_I (ok_al_n (pc := 9) d_15_9 rfl (ok_ic (pc := 10) d_15_10 rfl (ok_putf (pc := 11) d_15_11 w_153 (hc1 ⟨_, _, _, tyX4, cl_4, in_4, by decide, rfl, rfl, rfl, tyX4_ok, nmX4, Or.inl rfl⟩) pd_0 vt_I (ok_al_n (pc := 14) d_15_14 rfl (ok_ic (pc := 15) d_15_15 rfl (ok_putf (pc := 16) d_15_16 w_148 (hc1 ⟨_, _, _, tyX4, cl_4, in_4, by decide, rfl, rfl, rfl, tyX4_ok, nmX4, Or.inl rfl⟩) pd_0 vt_I (ok_al_n (pc := 19) d_15_19 rfl (ok_al_n (pc := 20) d_15_20 rfl (ok_getf (pc := 21) d_15_21 w_146 (hc1 fo_13) (ok_ic (pc := 24) d_15_24 rfl (ok_iald (pc := 25) d_15_25 (ok_putf (pc := 26) d_15_26 w_149 (hc1 ⟨_, _, _, tyX4, cl_4, in_4, by decide, rfl, rfl, rfl, tyX4_ok, nmX4, Or.inl rfl⟩) pd_0 vt_I (ok_al_n (pc := 29) d_15_29 rfl (ok_bi (pc := 30) d_15_30 rfl (ok_cvi (pc := 32) (k2 := 16) rfl rfl tb_16 (by decide) (by decide) rfl (go_V d_15_32 w_285 w_287 ws_7 w_4 w_288 nn_16 (by decide) cl_4 rfl) (ok_al_n (pc := 35) d_15_35 rfl (ok_getf (pc := 36) d_15_36 w_153 (hc1 fo_9) (ok_is_n (pc := 39) d_15_39 rfl (by decide) (ok_al_n (pc := 40) d_15_40 rfl (ok_bi (pc := 41) d_15_41 rfl (ok_cvi (pc := 43) (k2 := 16) rfl rfl tb_16 (by decide) (by decide) rfl (go_V d_15_43 w_285 w_287 ws_7 w_4 w_288 nn_16 (by decide) cl_4 rfl) (ok_al_n (pc := 46) d_15_46 rfl (ok_getf (pc := 47) d_15_47 w_153 (hc1 fo_9) (ok_is_n (pc := 50) d_15_50 rfl (by decide) (ok_al_n (pc := 51) d_15_51 rfl (ok_bi (pc := 52) d_15_52 rfl (ok_cvi (pc := 54) (k2 := 16) rfl rfl tb_16 (by decide) (by decide) rfl (go_V d_15_54 w_285 w_287 ws_7 w_4 w_288 nn_16 (by decide) cl_4 rfl) (ok_al_n (pc := 57) d_15_57 rfl (ok_getf (pc := 58) d_15_58 w_149 (hc1 fo_12) (ok_bi (pc := 61) d_15_61 rfl (ok_cieq (pc := 63) (t := 70) d_15_63 rfl (by decide) rfl (ok_al_n (pc := 66) d_15_66 rfl (ok_cvi (pc := 67) (k2 := 19) rfl rfl tb_19 (by decide) (by decide) rfl (go_V d_15_67 w_297 w_299 ws_10 w_4 w_300 nn_19 (by decide) cl_4 rfl) (s_15_70))))))))))))))))))))))))))))))))))))))
theorem tst_15 {Γ : m_G} (q : Nat) : m_ts Γ (t_15 q) q := ts_n (ts_l (k := 15) (pc := 0) tb_15 rfl (by decide) s_15_0) (ts_n (ts_l (k := 15) (pc := 70) tb_15 rfl (by decide) s_15_70) (ts_l (k := 15) (pc := 84) tb_15 rfl (by decide) s_15_84))
theorem d_16_0 : decode prog_6_method_5_code 0 = .ok (.aload_n 0, 1) := by decide +kernel
theorem d_16_1 : decode prog_6_method_5_code 1 = .ok (.iload_n 1, 1) := by decide +kernel
theorem d_16_2 : decode prog_6_method_5_code 2 = .ok (.invokevirtual 64, 3) := by decide +kernel
theorem d_16_5 : decode prog_6_method_5_code 5 = .ok (.aload_n 0, 1) := by decide +kernel
theorem d_16_6 : decode prog_6_method_5_code 6 = .ok (.iconst 0, 1) := by decide +kernel
theorem d_16_7 : decode prog_6_method_5_code 7 = .ok (.iconst 0, 1) := by decide +kernel
theorem d_16_8 : decode prog_6_method_5_code 8 = .ok (.invokevirtual 67, 3) := by decide +kernel
theorem d_16_11 : decode prog_6_method_5_code 11 = .ok (.aload_n 0, 1) := by decide +kernel
theorem d_16_12 : decode prog_6_method_5_code 12 = .ok (.bipush 20, 2) := by decide +kernel
theorem d_16_14 : decode prog_6_method_5_code 14 = .ok (.invokevirtual 64, 3) := by decide +kernel
theorem d_16_17 : decode prog_6_method_5_code 17 = .ok (.return_, 1) := by decide +kernel
theorem s_16_0 {Γ : m_G} : m_ok Γ m_tab 16 M_16 0 (g_16_0) := ok_al_n (pc := 0) d_16_0 rfl (ok_il_n (pc := 1) d_16_1 rfl (ok_cvi (pc := 2) (k2 := 17) rfl rfl tb_17 (by decide) (by decide) rfl (go_V d_16_2 w_289 w_291 ws_8 w_4 w_292 nn_17 (by decide) cl_4 rfl) (ok_al_n (pc := 5) d_16_5 rfl (ok_ic (pc := 6) d_16_6 rfl (ok_ic (pc := 7) d_16_7 rfl (ok_cvi (pc := 8) (k2 := 21) rfl rfl tb_21 (by decide) (by decide) rfl (go_V d_16_8 w_301 w_303 ws_11 w_4 w_304 nn_21 (by decide) cl_4 rfl) (ok_al_n (pc := 11) d_16_11 rfl (ok_bi (pc := 12) d_16_12 rfl (ok_cvi (pc := 14) (k2 := 17) rfl rfl tb_17 (by decide) (by decide) rfl (go_V d_16_14 w_289 w_291 ws_8 w_4 w_292 nn_17 (by decide) cl_4 rfl) (ok_rv (pc := 17) d_16_17 rfl))))))))))
theorem tst_16 {Γ : m_G} (q : Nat) : m_ts Γ (t_16 q) q := ts_l (k := 16) (pc := 0) tb_16 rfl (by decide) s_16_0
theorem d_17_0 : decode prog_6_method_6_code 0 = .ok (.aload_n 0, 1) := by decide +kernel
theorem d_17_1 : decode prog_6_method_6_code 1 = .ok (.getfield 40, 3) := by decide +kernel
theorem d_17_4 : decode prog_6_method_6_code 4 = .ok (.iload_n 1, 1) := by decide +kernel
theorem d_17_5 : decode prog_6_method_6_code 5 = .ok (.if_icmp .ne 10, 3) := by decide +kernel
theorem d_17_8 : decode prog_6_method_6_code 8 = .ok (.aload_n 0, 1) := by decide +kernel
theorem d_17_9 : decode prog_6_method_6_code 9 = .ok (.invokevirtual 71, 3) := by decide +kernel
theorem d_17_12 : decode prog_6_method_6_code 12 = .ok (.goto 7, 3) := by decide +kernel
theorem d_17_15 : decode prog_6_method_6_code 15 = .ok (.aload_n 0, 1) := by decide +kernel
theorem d_17_16 : decode prog_6_method_6_code 16 = .ok (.invokevirtual 47, 3) := by decide +kernel
theorem d_17_19 : decode prog_6_method_6_code 19 = .ok (.return_, 1) := by decide +kernel
theorem s_17_19 {Γ : m_G} : m_ok Γ m_tab 17 M_17 19 (g_17_19) := ok_rv (pc := 19) d_17_19 rfl
theorem s_17_15 {Γ : m_G} : m_ok Γ m_tab 17 M_17 15 (g_17_15) := ok_al_n (pc := 15) d_17_15 rfl (ok_cvi (pc := 16) (k2 := 19) rfl rfl tb_19 (by decide) (by decide) rfl (go_V d_17_16 w_297 w_299 ws_10 w_4 w_300 nn_19 (by decide) cl_4 rfl) (s_17_19))
theorem s_17_0 {Γ : m_G} : m_ok Γ m_tab 17 M_17 0 (g_17_0) := ok_al_n (pc := 0) d_17_0 rfl (ok_getf (pc := 1) d_17_1 w_149 (hc1 fo_12) (ok_il_n (pc := 4) d_17_4 rfl (ok_cine (pc := 5) (t := 15) d_17_5 rfl (by decide) rfl (ok_al_n (pc := 8) d_17_8 rfl (ok_cvi (pc := 9) (k2 := 18) rfl rfl tb_18 (by decide) (by decide) rfl (go_V d_17_9 w_293 w_295 ws_9 w_4 w_296 nn_18 (by decide) cl_4 rfl) (ok_go (pc := 12) (t := 19) d_17_12 rfl (by decide) rfl))))))
theorem tst_17 {Γ : m_G} (q : Nat) : m_ts Γ (t_17 q) q := ts_n (ts_l (k := 17) (pc := 0) tb_17 rfl (by decide) s_17_0) (ts_n (ts_l (k := 17) (pc := 15) tb_17 rfl (by decide) s_17_15) (ts_l (k := 17) (pc := 19) tb_17 rfl (by decide) s_17_19))
theorem d_18_0 : decode prog_6_method_7_code 0 = .ok (.aload_n 0, 1) := by decide +kernel
theorem d_18_1 : decode prog_6_method_7_code 1 = .ok (.getfield 37, 3) := by decide +kernel
theorem d_18_4 : decode prog_6_method_7_code 4 = .ok (.sipush 160, 3) := by decide +kernel
theorem d_18_7 : decode prog_6_method_7_code 7 = .ok (.if_icmp .ge 35, 3) := by decide +kernel
theorem d_18_10 : decode prog_6_method_7_code 10 = .ok (.aload_n 0, 1) := by decide +kernel
theorem d_18_11 : decode prog_6_method_7_code 11 = .ok (.getfield 40, 3) := by decide +kernel
theorem d_18_14 : decode prog_6_method_7_code 14 = .ok (.bipush 21, 2) := by decide +kernel
theorem d_18_16 : decode prog_6_method_7_code 16 = .ok (.if_icmp .eq 26, 3) := by decide +kernel
theorem d_18_19 : decode prog_6_method_7_code 19 = .ok (.aload_n 0, 1) := by decide +kernel
theorem d_18_20 : decode prog_6_method_7_code 20 = .ok (.dup, 1) := by decide +kernel
theorem d_18_21 : decode prog_6_method_7_code 21 = .ok (.getfield 37, 3) := by decide +kernel
theorem d_18_24 : decode prog_6_method_7_code 24 = .ok (.iconst 1, 1) := by decide +kernel
theorem d_18_25 : decode prog_6_method_7_code 25 = .ok (.iadd, 1) := by decide +kernel
theorem d_18_26 : decode prog_6_method_7_code 26 = .ok (.putfield 37, 3) := by decide +kernel
theorem d_18_29 : decode prog_6_method_7_code 29 = .ok (.aload_n 0, 1) := by decide +kernel
theorem d_18_30 : decode prog_6_method_7_code 30 = .ok (.aload_n 0, 1) := by decide +kernel
theorem d_18_31 : decode prog_6_method_7_code 31 = .ok (.getfield 15, 3) := by decide +kernel
theorem d_18_34 : decode prog_6_method_7_code 34 = .ok (.aload_n 0, 1) := by decide +kernel
theorem d_18_35 : decode prog_6_method_7_code 35 = .ok (.getfield 37, 3) := by decide +kernel
theorem d_18_38 : decode prog_6_method_7_code 38 = .ok (.iaload, 1) := by decide +kernel
theorem d_18_39 : decode prog_6_method_7_code 39 = .ok (.putfield 40, 3) := by decide +kernel
theorem d_18_42 : decode prog_6_method_7_code 42 = .ok (.return_, 1) := by decide +kernel
theorem s_18_42 {Γ : m_G} : m_ok Γ m_tab 18 M_18 42 (g_18_42) := ok_rv (pc := 42) d_18_42 rfl
theorem s_18_0 {Γ : m_G} : m_ok Γ m_tab 18 M_18 0 (g_18_0) := ok_al_n (pc := 0) d_18_0 rfl (ok_getf (pc := 1) d_18_1 w_148 (hc1 fo_14) (ok_si (pc := 4) d_18_4 rfl (ok_cige (pc := 7) (t := 42) d_18_7 rfl (by decide) rfl (ok_al_n (pc := 10) d_18_10 rfl (ok_getf (pc := 11) d_18_11 w_149 (hc1 fo_12) (ok_bi (pc := 14) d_18_14 rfl (ok_cieq (pc := 16) (t := 42) d_18_16 rfl (by decide) rfl (ok_al_n (pc := 19) d_18_19 rfl (ok_dup (pc := 20) d_18_20 (ok_getf (pc := 21) d_18_21 w_148 (hc1 fo_14) (ok_ic (pc := 24) d_18_24 rfl (ok_add (pc := 25) d_18_25 (ok_putf (pc := 26) d_18_26 w_148 (hc1 ⟨_, _, _, tyX4, cl_4, in_4, by decide, rfl, rfl, rfl, tyX4_ok, nmX4, Or.inl rfl⟩) pd_0 vt_I (ok_al_n (pc := 29) d_18_29 rfl (ok_al_n (pc := 30) d_18_30 rfl (ok_getf (pc := 31) d_18_31 w_146 (hc1 fo_13) (ok_al_n (pc := 34) d_18_34 rfl (ok_getf (pc := 35) d_18_35 w_148 (hc1 fo_14) (ok_iald (pc := 38) d_18_38 (ok_putf (pc := 39) d_18_39 w_149 (hc1 ⟨_, _, _, tyX4, cl_4, in_4, by decide, rfl, rfl, rfl, tyX4_ok, nmX4, Or.inl rfl⟩) pd_0 vt_I (s_18_42)))))))))))))))))))))
theorem tst_18 {Γ : m_G} (q : Nat) : m_ts Γ (t_18 q) q := ts_n (ts_l (k := 18) (pc := 0) tb_18 rfl (by decide) s_18_0) (ts_l (k := 18) (pc := 42) tb_18 rfl (by decide) s_18_42)
theorem d_19_0 : decode prog_6_method_8_code 0 = .ok (.aload_n 0, 1) := by decide +kernel
theorem d_19_1 : decode prog_6_method_8_code 1 = .ok (.getfield 31, 3) := by decide +kernel
theorem d_19_4 : decode prog_6_method_8_code 4 = .ok (.iconst (-1), 1) := by decide +kernel
theorem d_19_5 : decode prog_6_method_8_code 5 = .ok (.if_icmp .ne 16, 3) := by decide +kernel
theorem d_19_8 : decode prog_6_method_8_code 8 = .ok (.aload_n 0, 1) := by decide +kernel
theorem d_19_9 : decode prog_6_method_8_code 9 = .ok (.aload_n 0, 1) := by decide +kernel
theorem d_19_10 : decode prog_6_method_8_code 10 = .ok (.getfield 18, 3) := by decide +kernel
theorem d_19_13 : decode prog_6_method_8_code 13 = .ok (.aload_n 0, 1) := by decide +kernel
theorem d_19_14 : decode prog_6_method_8_code 14 = .ok (.getfield 37, 3) := by decide +kernel
theorem d_19_17 : decode prog_6_method_8_code 17 = .ok (.iaload, 1) := by decide +kernel
theorem d_19_18 : decode prog_6_method_8_code 18 = .ok (.putfield 31, 3) := by decide +kernel
theorem d_19_21 : decode prog_6_method_8_code 21 = .ok (.aload_n 0, 1) := by decide +kernel
theorem d_19_22 : decode prog_6_method_8_code 22 = .ok (.bipush 22, 2) := by decide +kernel
theorem d_19_24 : decode prog_6_method_8_code 24 = .ok (.putfield 40, 3) := by decide +kernel
theorem d_19_27 : decode prog_6_method_8_code 27 = .ok (.return_, 1) := by decide +kernel
theorem s_19_21 {Γ : m_G} : m_ok Γ m_tab 19 M_19 21 (g_19_21) := ok_al_n (pc := 21) d_19_21 rfl (ok_bi (pc := 22) d_19_22 rfl (ok_putf (pc := 24) d_19_24 w_149 (hc1 ⟨_, _, _, tyX4, cl_4, in_4, by decide, rfl, rfl, rfl, tyX4_ok, nmX4, Or.inl rfl⟩) pd_0 vt_I (ok_rv (pc := 27) d_19_27 rfl)))
theorem s_19_0 {Γ : m_G} : m_ok Γ m_tab 19 M_19 0 (g_19_0) := ok_al_n (pc := 0) d_19_0 rfl (ok_getf (pc := 1) d_19_1 w_150 (hc1 fo_11) (ok_ic (pc := 4) d_19_4 rfl (ok_cine (pc := 5) (t := 21) d_19_5 rfl (by decide) rfl (ok_al_n (pc := 8) d_19_8 rfl (ok_al_n (pc := 9) d_19_9 rfl (ok_getf (pc := 10) d_19_10 w_147 (hc1 fo_15) (ok_al_n (pc := 13) d_19_13 rfl (ok_getf (pc := 14) d_19_14 w_148 (hc1 fo_14) (ok_iald (pc := 17) d_19_17 (ok_putf (pc := 18) d_19_18 w_150 (hc1 ⟨_, _, _, tyX4, cl_4, in_4, by decide, rfl, rfl, rfl, tyX4_ok, nmX4, Or.inl rfl⟩) pd_0 vt_I (s_19_21)))))))))))
theorem tst_19 {Γ : m_G} (q : Nat) : m_ts Γ (t_19 q) q := ts_n (ts_l (k := 19) (pc := 0) tb_19 rfl (by decide) s_19_0) (ts_l (k := 19) (pc := 21) tb_19 rfl (by decide) s_19_21)
theorem d_20_0 : decode prog_6_method_9_code 0 = .ok (.aload_n 0, 1) := by decide +kernel
theorem d_20_1 : decode prog_6_method_9_code 1 = .ok (.getfield 34, 3) := by decide +kernel
theorem d_20_4 : decode prog_6_method_9_code 4 = .ok (.sipush 160, 3) := by decide +kernel
theorem d_20_7 : decode prog_6_method_9_code 7 = .ok (.if_icmp .ge 23, 3) := by decide +kernel
theorem d_20_10 : decode prog_6_method_9_code 10 = .ok (.aload_n 0, 1) := by decide +kernel
theorem d_20_11 : decode prog_6_method_9_code 11 = .ok (.getfield 21, 3) := by decide +kernel
theorem d_20_14 : decode prog_6_method_9_code 14 = .ok (.aload_n 0, 1) := by decide +kernel
theorem d_20_15 : decode prog_6_method_9_code 15 = .ok (.getfield 34, 3) := by decide +kernel
theorem d_20_18 : decode prog_6_method_9_code 18 = .ok (.iload_n 1, 1) := by decide +kernel
theorem d_20_19 : decode prog_6_method_9_code 19 = .ok (.iastore, 1) := by decide +kernel
theorem d_20_20 : decode prog_6_method_9_code 20 = .ok (.aload_n 0, 1) := by decide +kernel
theorem d_20_21 : decode prog_6_method_9_code 21 = .ok (.dup, 1) := by decide +kernel
theorem d_20_22 : decode prog_6_method_9_code 22 = .ok (.getfield 34, 3) := by decide +kernel
theorem d_20_25 : decode prog_6_method_9_code 25 = .ok (.iconst 1, 1) := by decide +kernel
theorem d_20_26 : decode prog_6_method_9_code 26 = .ok (.iadd, 1) := by decide +kernel
theorem d_20_27 : decode prog_6_method_9_code 27 = .ok (.putfield 34, 3) := by decide +kernel
theorem d_20_30 : decode prog_6_method_9_code 30 = .ok (.return_, 1) := by decide +kernel
theorem s_20_30 {Γ : m_G} : m_ok Γ m_tab 20 M_20 30 (g_20_30) := ok_rv (pc := 30) d_20_30 rfl
theorem s_20_0 {Γ : m_G} : m_ok Γ m_tab 20 M_20 0 (g_20_0) := ok_al_n (pc := 0) d_20_0 rfl (ok_getf (pc := 1) d_20_1 w_153 (hc1 fo_9) (ok_si (pc := 4) d_20_4 rfl (ok_cige (pc := 7) (t := 30) d_20_7 rfl (by decide) rfl (ok_al_n (pc := 10) d_20_10 rfl (ok_getf (pc := 11) d_20_11 w_152 (hc1 fo_10) (ok_al_n (pc := 14) d_20_14 rfl (ok_getf (pc := 15) d_20_15 w_153 (hc1 fo_9) (ok_il_n (pc := 18) d_20_18 rfl (ok_iast (pc := 19) d_20_19 (ok_al_n (pc := 20) d_20_20 rfl (ok_dup (pc := 21) d_20_21 (ok_getf (pc := 22) d_20_22 w_153 (hc1 fo_9) (ok_ic (pc := 25) d_20_25 rfl (ok_add (pc := 26) d_20_26 (ok_putf (pc := 27) d_20_27 w_153 (hc1 ⟨_, _, _, tyX4, cl_4, in_4, by decide, rfl, rfl, rfl, tyX4_ok, nmX4, Or.inl rfl⟩) pd_0 vt_I (s_20_30))))))))))))))))
theorem tst_20 {Γ : m_G} (q : Nat) : m_ts Γ (t_20 q) q := ts_n (ts_l (k := 20) (pc := 0) tb_20 rfl (by decide) s_20_0) (ts_l (k := 20) (pc := 30) tb_20 rfl (by decide) s_20_30)
theorem d_21_0 : decode prog_6_method_10_code 0 = .ok (.iload_n 1, 1) := by decide +kernel
theorem d_21_1 : decode prog_6_method_10_code 1 = .ok (.iconst 2, 1) := by decide +kernel
theorem d_21_2 : decode prog_6_method_10_code 2 = .ok (.if_icmp .ne 9, 3) := by decide +kernel
theorem d_21_5 : decode prog_6_method_10_code 5 = .ok (.aload_n 0, 1) := by decide +kernel
theorem d_21_6 : decode prog_6_method_10_code 6 = .ok (.iload_n 2, 1) := by decide +kernel
theorem d_21_7 : decode prog_6_method_10_code 7 = .ok (.invokevirtual 74, 3) := by decide +kernel
theorem d_21_10 : decode prog_6_method_10_code 10 = .ok (.return_, 1) := by decide +kernel
theorem d_21_11 : decode prog_6_method_10_code 11 = .ok (.iload_n 1, 1) := by decide +kernel
theorem d_21_12 : decode prog_6_method_10_code 12 = .ok (.iconst 5, 1) := by decide +kernel
theorem d_21_13 : decode prog_6_method_10_code 13 = .ok (.if_icmp .lt 9, 3) := by decide +kernel
theorem d_21_16 : decode prog_6_method_10_code 16 = .ok (.aload_n 0, 1) := by decide +kernel
theorem d_21_17 : decode prog_6_method_10_code 17 = .ok (.iload_n 2, 1) := by decide +kernel
theorem d_21_18 : decode prog_6_method_10_code 18 = .ok (.invokevirtual 77, 3) := by decide +kernel
theorem d_21_21 : decode prog_6_method_10_code 21 = .ok (.return_, 1) := by decide +kernel
theorem d_21_22 : decode prog_6_method_10_code 22 = .ok (.aload_n 0, 1) := by decide +kernel
theorem d_21_23 : decode prog_6_method_10_code 23 = .ok (.iload_n 1, 1) := by decide +kernel
theorem d_21_24 : decode prog_6_method_10_code 24 = .ok (.iconst 1, 1) := by decide +kernel
theorem d_21_25 : decode prog_6_method_10_code 25 = .ok (.iadd, 1) := by decide +kernel
theorem d_21_26 : decode prog_6_method_10_code 26 = .ok (.iload_n 2, 1) := by decide +kernel
theorem d_21_27 : decode prog_6_method_10_code 27 = .ok (.invokevirtual 67, 3) := by decide +kernel
theorem d_21_30 : decode prog_6_method_10_code 30 = .ok (.iconst 0, 1) := by decide +kernel
theorem d_21_31 : decode prog_6_method_10_code 31 = .ok (.istore_n 3, 1) := by decide +kernel
theorem d_21_32 : decode prog_6_method_10_code 32 = .ok (.iload_n 3, 1) := by decide +kernel
theorem d_21_33 : decode prog_6_method_10_code 33 = .ok (.sipush 160, 3) := by decide +kernel
theorem d_21_36 : decode prog_6_method_10_code 36 = .ok (.if_icmp .ge 41, 3) := by decide +kernel
theorem d_21_39 : decode prog_6_method_10_code 39 = .ok (.aload_n 0, 1) := by decide +kernel
theorem d_21_40 : decode prog_6_method_10_code 40 = .ok (.iload_n 1, 1) := by decide +kernel
theorem d_21_41 : decode prog_6_method_10_code 41 = .ok (.invokevirtual 80, 3) := by decide +kernel
theorem d_21_44 : decode prog_6_method_10_code 44 = .ok (.ifCond .eq 33, 3) := by decide +kernel
theorem d_21_47 : decode prog_6_method_10_code 47 = .ok (.aload_n 0, 1) := by decide +kernel
theorem d_21_48 : decode prog_6_method_10_code 48 = .ok (.getfield 40, 3) := by decide +kernel
theorem d_21_51 : decode prog_6_method_10_code 51 = .ok (.istore 4, 2) := by decide +kernel
theorem d_21_53 : decode prog_6_method_10_code 53 = .ok (.aload_n 0, 1) := by decide +kernel
theorem d_21_54 : decode prog_6_method_10_code 54 = .ok (.invokevirtual 71, 3) := by decide +kernel
theorem d_21_57 : decode prog_6_method_10_code 57 = .ok (.aload_n 0, 1) := by decide +kernel
theorem d_21_58 : decode prog_6_method_10_code 58 = .ok (.iload_n 1, 1) := by decide +kernel
theorem d_21_59 : decode prog_6_method_10_code 59 = .ok (.iconst 1, 1) := by decide +kernel
theorem d_21_60 : decode prog_6_method_10_code 60 = .ok (.iadd, 1) := by decide +kernel
theorem d_21_61 : decode prog_6_method_10_code 61 = .ok (.iload_n 2, 1) := by decide +kernel
theorem d_21_62 : decode prog_6_method_10_code 62 = .ok (.invokevirtual 67, 3) := by decide +kernel
theorem d_21_65 : decode prog_6_method_10_code 65 = .ok (.aload_n 0, 1) := by decide +kernel
theorem d_21_66 : decode prog_6_method_10_code 66 = .ok (.iload 4, 2) := by decide +kernel
theorem d_21_68 : decode prog_6_method_10_code 68 = .ok (.invokevirtual 84, 3) := by decide +kernel
theorem d_21_71 : decode prog_6_method_10_code 71 = .ok (.iinc 3 1, 3) := by decide +kernel
theorem d_21_74 : decode prog_6_method_10_code 74 = .ok (.goto (-42), 3) := by decide +kernel
theorem d_21_77 : decode prog_6_method_10_code 77 = .ok (.return_, 1) := by decide +kernel
theorem s_21_77 {Γ : m_G} : m_ok Γ m_tab 21 M_21 77 (g_21_77) := ok_rv (pc := 77) d_21_77 rfl
theorem s_21_32 {Γ : m_G} : m_ok Γ m_tab 21 M_21 32 (g_21_32) := ok_il_n (pc := 32) d_21_32 rfl (ok_si (pc := 33) d_21_33 rfl (ok_cige (pc := 36) (t := 77) d_21_36 rfl (by decide) rfl (ok_al_n (pc := 39) d_21_39 rfl (ok_il_n (pc := 40) d_21_40 rfl (ok_cai (pc := 41) (k2 := 22) rfl rfl tb_22 (by decide) (by decide) rfl (go_V d_21_41 w_321 w_323 ws_16 w_4 w_324 nn_22 (by decide) cl_4 rfl) (ok_czeq (pc := 44) (t := 77) d_21_44 rfl (by decide) rfl (ok_al_n (pc := 47) d_21_47 rfl (ok_getf (pc := 48) d_21_48 w_149 (hc1 fo_12) (ok_is (pc := 51) d_21_51 (by decide) (ok_al_n (pc := 53) d_21_53 rfl (ok_cvi (pc := 54) (k2 := 18) rfl rfl tb_18 (by decide) (by decide) rfl (go_V d_21_54 w_293 w_295 ws_9 w_4 w_296 nn_18 (by decide) cl_4 rfl) (ok_al_n (pc := 57) d_21_57 rfl (ok_il_n (pc := 58) d_21_58 rfl (ok_ic (pc := 59) d_21_59 rfl (ok_add (pc := 60) d_21_60 (ok_il_n (pc := 61) d_21_61 rfl (ok_cvi (pc := 62) (k2 := 21) rfl rfl tb_21 (by decide) (by decide) rfl (go_V d_21_62 w_301 w_303 ws_11 w_4 w_304 nn_21 (by decide) cl_4 rfl) (ok_al_n (pc := 65) d_21_65 rfl (ok_il (pc := 66) d_21_66 (ok_cvi (pc := 68) (k2 := 20) rfl rfl tb_20 (by decide) (by decide) rfl (go_V d_21_68 w_313 w_315 ws_14 w_4 w_316 nn_20 (by decide) cl_4 rfl) (ok_inc (pc := 71) d_21_71 rfl (by decide) (ok_go (pc := 74) (t := 32) d_21_74 rfl (by decide) rfl))))))))))))))))))))))
theorem s_21_22 {Γ : m_G} : m_ok Γ m_tab 21 M_21 22 (g_21_22) := ok_al_n (pc := 22) d_21_22 rfl (ok_il_n (pc := 23) d_21_23 rfl (ok_ic (pc := 24) d_21_24 rfl (ok_add (pc := 25) d_21_25 (ok_il_n (pc := 26) d_21_26 rfl (ok_cvi (pc := 27) (k2 := 21) rfl rfl tb_21 (by decide) (by decide) rfl (go_V d_21_27 w_301 w_303 ws_11 w_4 w_304 nn_21 (by decide) cl_4 rfl) (ok_ic (pc := 30) d_21_30 rfl (ok_is_n (pc := 31) d_21_31 rfl (by decide) (s_21_32))))))))
theorem s_21_11 {Γ : m_G} : m_ok Γ m_tab 21 M_21 11 (g_21_11) := ok_il_n (pc := 11) d_21_11 rfl (ok_ic (pc := 12) d_21_12 rfl (ok_cilt (pc := 13) (t := 22) d_21_13 rfl (by decide) rfl (ok_al_n (pc := 16) d_21_16 rfl (ok_il_n (pc := 17) d_21_17 rfl (ok_cvi (pc := 18) (k2 := 24) rfl rfl tb_24 (by decide) (by decide) rfl (go_V d_21_18 w_317 w_319 ws_15 w_4 w_320 nn_24 (by decide) cl_4 rfl) (ok_rv (pc := 21) d_21_21 rfl))))))
theorem s_21_0 {Γ : m_G} : m_ok Γ m_tab 21 M_21 0 (g_21_0) := ok_il_n (pc := 0) d_21_0 rfl (ok_ic (pc := 1) d_21_1 rfl (ok_cine (pc := 2) (t := 11) d_21_2 rfl (by decide) rfl (ok_al_n (pc := 5) d_21_5 rfl (ok_il_n (pc := 6) d_21_6 rfl (ok_cvi (pc := 7) (k2 := 23) rfl rfl tb_23 (by decide) (by decide) rfl (go_V d_21_7 w_305 w_307 ws_12 w_4 w_308 nn_23 (by decide) cl_4 rfl) (ok_rv (pc := 10) d_21_10 rfl))))))
theorem tst_21 {Γ : m_G} (q : Nat) : m_ts Γ (t_21 q) q := ts_n (ts_n (ts_l (k := 21) (pc := 0) tb_21 rfl (by decide) s_21_0) (ts_l (k := 21) (pc := 11) tb_21 rfl (by decide) s_21_11)) (ts_n (ts_l (k := 21) (pc := 22) tb_21 rfl (by decide) s_21_22) (ts_n (ts_l (k := 21) (pc := 32) tb_21 rfl (by decide) s_21_32) (ts_l (k := 21) (pc := 77) tb_21 rfl (by decide) s_21_77)))
theorem d_22_0 : decode prog_6_method_11_code 0 = .ok (.iload_n 1, 1) := by decide +kernel
theorem d_22_1 : decode prog_6_method_11_code 1 = .ok (.tableswitch 85 0 3 #[31, 46, 85, 61], 31) := by decide +kernel
theorem d_22_32 : decode prog_6_method_11_code 32 = .ok (.aload_n 0, 1) := by decide +kernel
theorem d_22_33 : decode prog_6_method_11_code 33 = .ok (.getfield 40, 3) := by decide +kernel
theorem d_22_36 : decode prog_6_method_11_code 36 = .ok (.bipush 6, 2) := by decide +kernel
theorem d_22_38 : decode prog_6_method_11_code 38 = .ok (.if_icmp .ne 7, 3) := by decide +kernel
theorem d_22_41 : decode prog_6_method_11_code 41 = .ok (.iconst 1, 1) := by decide +kernel
theorem d_22_42 : decode prog_6_method_11_code 42 = .ok (.goto 4, 3) := by decide +kernel
theorem d_22_45 : decode prog_6_method_11_code 45 = .ok (.iconst 0, 1) := by decide +kernel
theorem d_22_46 : decode prog_6_method_11_code 46 = .ok (.ireturn, 1) := by decide +kernel
theorem d_22_47 : decode prog_6_method_11_code 47 = .ok (.aload_n 0, 1) := by decide +kernel
theorem d_22_48 : decode prog_6_method_11_code 48 = .ok (.getfield 40, 3) := by decide +kernel
theorem d_22_51 : decode prog_6_method_11_code 51 = .ok (.bipush 7, 2) := by decide +kernel
theorem d_22_53 : decode prog_6_method_11_code 53 = .ok (.if_icmp .ne 7, 3) := by decide +kernel
theorem d_22_56 : decode prog_6_method_11_code 56 = .ok (.iconst 1, 1) := by decide +kernel
theorem d_22_57 : decode prog_6_method_11_code 57 = .ok (.goto 4, 3) := by decide +kernel
theorem d_22_60 : decode prog_6_method_11_code 60 = .ok (.iconst 0, 1) := by decide +kernel
theorem d_22_61 : decode prog_6_method_11_code 61 = .ok (.ireturn, 1) := by decide +kernel
theorem d_22_62 : decode prog_6_method_11_code 62 = .ok (.aload_n 0, 1) := by decide +kernel
theorem d_22_63 : decode prog_6_method_11_code 63 = .ok (.getfield 40, 3) := by decide +kernel
theorem d_22_66 : decode prog_6_method_11_code 66 = .ok (.bipush 11, 2) := by decide +kernel
theorem d_22_68 : decode prog_6_method_11_code 68 = .ok (.if_icmp .eq 12, 3) := by decide +kernel
theorem d_22_71 : decode prog_6_method_11_code 71 = .ok (.aload_n 0, 1) := by decide +kernel
theorem d_22_72 : decode prog_6_method_11_code 72 = .ok (.getfield 40, 3) := by decide +kernel
theorem d_22_75 : decode prog_6_method_11_code 75 = .ok (.bipush 12, 2) := by decide +kernel
theorem d_22_77 : decode prog_6_method_11_code 77 = .ok (.if_icmp .ne 7, 3) := by decide +kernel
theorem d_22_80 : decode prog_6_method_11_code 80 = .ok (.iconst 1, 1) := by decide +kernel
theorem d_22_81 : decode prog_6_method_11_code 81 = .ok (.goto 4, 3) := by decide +kernel
theorem d_22_84 : decode prog_6_method_11_code 84 = .ok (.iconst 0, 1) := by decide +kernel
theorem d_22_85 : decode prog_6_method_11_code 85 = .ok (.ireturn, 1) := by decide +kernel
theorem d_22_86 : decode prog_6_method_11_code 86 = .ok (.aload_n 0, 1) := by decide +kernel
theorem d_22_87 : decode prog_6_method_11_code 87 = .ok (.getfield 40, 3) := by decide +kernel
theorem d_22_90 : decode prog_6_method_11_code 90 = .ok (.bipush 13, 2) := by decide +kernel
theorem d_22_92 : decode prog_6_method_11_code 92 = .ok (.if_icmp .ne 7, 3) := by decide +kernel
theorem d_22_95 : decode prog_6_method_11_code 95 = .ok (.iconst 1, 1) := by decide +kernel
theorem d_22_96 : decode prog_6_method_11_code 96 = .ok (.goto 4, 3) := by decide +kernel
theorem d_22_99 : decode prog_6_method_11_code 99 = .ok (.iconst 0, 1) := by decide +kernel
theorem d_22_100 : decode prog_6_method_11_code 100 = .ok (.ireturn, 1) := by decide +kernel
theorem s_22_100 {Γ : m_G} : m_ok Γ m_tab 22 M_22 100 (g_22_100) := ok_rz (pc := 100) d_22_100 rfl
theorem s_22_99 {Γ : m_G} : m_ok Γ m_tab 22 M_22 99 (g_22_99) := ok_ic (pc := 99) d_22_99 rfl (s_22_100)
theorem s_22_86 {Γ : m_G} : m_ok Γ m_tab 22 M_22 86 (g_22_86) := ok_al_n (pc := 86) d_22_86 rfl (ok_getf (pc := 87) d_22_87 w_149 (hc1 fo_12) (ok_bi (pc := 90) d_22_90 rfl (ok_cine (pc := 92) (t := 99) d_22_92 rfl (by decide) rfl (ok_ic (pc := 95) d_22_95 rfl (ok_go (pc := 96) (t := 100) d_22_96 rfl (by decide) rfl)))))
theorem s_22_85 {Γ : m_G} : m_ok Γ m_tab 22 M_22 85 (g_22_85) := ok_rz (pc := 85) d_22_85 rfl
theorem s_22_84 {Γ : m_G} : m_ok Γ m_tab 22 M_22 84 (g_22_84) := ok_ic (pc := 84) d_22_84 rfl (s_22_85)
theorem s_22_80 {Γ : m_G} : m_ok Γ m_tab 22 M_22 80 (g_22_80) := ok_ic (pc := 80) d_22_80 rfl (ok_go (pc := 81) (t := 85) d_22_81 rfl (by decide) rfl)
theorem s_22_62 {Γ : m_G} : m_ok Γ m_tab 22 M_22 62 (g_22_62) := ok_al_n (pc := 62) d_22_62 rfl (ok_getf (pc := 63) d_22_63 w_149 (hc1 fo_12) (ok_bi (pc := 66) d_22_66 rfl (ok_cieq (pc := 68) (t := 80) d_22_68 rfl (by decide) rfl (ok_al_n (pc := 71) d_22_71 rfl (ok_getf (pc := 72) d_22_72 w_149 (hc1 fo_12) (ok_bi (pc := 75) d_22_75 rfl (ok_cine (pc := 77) (t := 84) d_22_77 rfl (by decide) rfl (s_22_80))))))))
theorem s_22_61 {Γ : m_G} : m_ok Γ m_tab 22 M_22 61 (g_22_61) := ok_rz (pc := 61) d_22_61 rfl
theorem s_22_60 {Γ : m_G} : m_ok Γ m_tab 22 M_22 60 (g_22_60) := ok_ic (pc := 60) d_22_60 rfl (s_22_61)
theorem s_22_47 {Γ : m_G} : m_ok Γ m_tab 22 M_22 47 (g_22_47) := ok_al_n (pc := 47) d_22_47 rfl (ok_getf (pc := 48) d_22_48 w_149 (hc1 fo_12) (ok_bi (pc := 51) d_22_51 rfl (ok_cine (pc := 53) (t := 60) d_22_53 rfl (by decide) rfl (ok_ic (pc := 56) d_22_56 rfl (ok_go (pc := 57) (t := 61) d_22_57 rfl (by decide) rfl)))))
theorem s_22_46 {Γ : m_G} : m_ok Γ m_tab 22 M_22 46 (g_22_46) := ok_rz (pc := 46) d_22_46 rfl
theorem s_22_45 {Γ : m_G} : m_ok Γ m_tab 22 M_22 45 (g_22_45) := ok_ic (pc := 45) d_22_45 rfl (s_22_46)
theorem s_22_32 {Γ : m_G} : m_ok Γ m_tab 22 M_22 32 (g_22_32) := ok_al_n (pc := 32) d_22_32 rfl (ok_getf (pc := 33) d_22_33 w_149 (hc1 fo_12) (ok_bi (pc := 36) d_22_36 rfl (ok_cine (pc := 38) (t := 45) d_22_38 rfl (by decide) rfl (ok_ic (pc := 41) d_22_41 rfl (ok_go (pc := 42) (t := 46) d_22_42 rfl (by decide) rfl)))))
theorem s_22_0 {Γ : m_G} : m_ok Γ m_tab 22 M_22 0 (g_22_0) := ok_il_n (pc := 0) d_22_0 rfl (ok_tsw (pc := 1) d_22_1 rfl rfl (by decide +kernel) (by decide +kernel) (by decide) (by decide) (by decide +kernel) (by decide))
theorem tst_22 {Γ : m_G} (q : Nat) : m_ts Γ (t_22 q) q := ts_n (ts_n (ts_n (ts_l (k := 22) (pc := 0) tb_22 rfl (by decide) s_22_0) (ts_n (ts_l (k := 22) (pc := 32) tb_22 rfl (by decide) s_22_32) (ts_l (k := 22) (pc := 45) tb_22 rfl (by decide) s_22_45))) (ts_n (ts_n (ts_l (k := 22) (pc := 46) tb_22 rfl (by decide) s_22_46) (ts_l (k := 22) (pc := 47) tb_22 rfl (by decide) s_22_47)) (ts_n (ts_l (k := 22) (pc := 60) tb_22 rfl (by decide) s_22_60) (ts_l (k := 22) (pc := 61) tb_22 rfl (by decide) s_22_61)))) (ts_n (ts_n (ts_l (k := 22) (pc := 62) tb_22 rfl (by decide) s_22_62) (ts_n (ts_l (k := 22) (pc := 80) tb_22 rfl (by decide) s_22_80) (ts_l (k := 22) (pc := 84) tb_22 rfl (by decide) s_22_84))) (ts_n (ts_n (ts_l (k := 22) (pc := 85) tb_22 rfl (by decide) s_22_85) (ts_l (k := 22) (pc := 86) tb_22 rfl (by decide) s_22_86)) (ts_n (ts_l (k := 22) (pc := 99) tb_22 rfl (by decide) s_22_99) (ts_l (k := 22) (pc := 100) tb_22 rfl (by decide) s_22_100))))
theorem d_23_0 : decode prog_6_method_12_code 0 = .ok (.aload_n 0, 1) := by decide +kernel
theorem d_23_1 : decode prog_6_method_12_code 1 = .ok (.getfield 40, 3) := by decide +kernel
theorem d_23_4 : decode prog_6_method_12_code 4 = .ok (.bipush 8, 2) := by decide +kernel
theorem d_23_6 : decode prog_6_method_12_code 6 = .ok (.if_icmp .ne 25, 3) := by decide +kernel
theorem d_23_9 : decode prog_6_method_12_code 9 = .ok (.aload_n 0, 1) := by decide +kernel
theorem d_23_10 : decode prog_6_method_12_code 10 = .ok (.iload_n 1, 1) := by decide +kernel
theorem d_23_11 : decode prog_6_method_12_code 11 = .ok (.invokevirtual 87, 3) := by decide +kernel
theorem d_23_14 : decode prog_6_method_12_code 14 = .ok (.ifCond .eq 16, 3) := by decide +kernel
theorem d_23_17 : decode prog_6_method_12_code 17 = .ok (.aload_n 0, 1) := by decide +kernel
theorem d_23_18 : decode prog_6_method_12_code 18 = .ok (.iload_n 1, 1) := by decide +kernel
theorem d_23_19 : decode prog_6_method_12_code 19 = .ok (.iconst 1, 1) := by decide +kernel
theorem d_23_20 : decode prog_6_method_12_code 20 = .ok (.iadd, 1) := by decide +kernel
theorem d_23_21 : decode prog_6_method_12_code 21 = .ok (.invokevirtual 74, 3) := by decide +kernel
theorem d_23_24 : decode prog_6_method_12_code 24 = .ok (.aload_n 0, 1) := by decide +kernel
theorem d_23_25 : decode prog_6_method_12_code 25 = .ok (.bipush 8, 2) := by decide +kernel
theorem d_23_27 : decode prog_6_method_12_code 27 = .ok (.invokevirtual 84, 3) := by decide +kernel
theorem d_23_30 : decode prog_6_method_12_code 30 = .ok (.return_, 1) := by decide +kernel
theorem d_23_31 : decode prog_6_method_12_code 31 = .ok (.aload_n 0, 1) := by decide +kernel
theorem d_23_32 : decode prog_6_method_12_code 32 = .ok (.iconst 3, 1) := by decide +kernel
theorem d_23_33 : decode prog_6_method_12_code 33 = .ok (.iload_n 1, 1) := by decide +kernel
theorem d_23_34 : decode prog_6_method_12_code 34 = .ok (.invokevirtual 67, 3) := by decide +kernel
theorem d_23_37 : decode prog_6_method_12_code 37 = .ok (.aload_n 0, 1) := by decide +kernel
theorem d_23_38 : decode prog_6_method_12_code 38 = .ok (.getfield 40, 3) := by decide +kernel
theorem d_23_41 : decode prog_6_method_12_code 41 = .ok (.bipush 9, 2) := by decide +kernel
theorem d_23_43 : decode prog_6_method_12_code 43 = .ok (.if_icmp .eq 12, 3) := by decide +kernel
theorem d_23_46 : decode prog_6_method_12_code 46 = .ok (.aload_n 0, 1) := by decide +kernel
theorem d_23_47 : decode prog_6_method_12_code 47 = .ok (.getfield 40, 3) := by decide +kernel
theorem d_23_50 : decode prog_6_method_12_code 50 = .ok (.bipush 10, 2) := by decide +kernel
theorem d_23_52 : decode prog_6_method_12_code 52 = .ok (.if_icmp .ne 23, 3) := by decide +kernel
theorem d_23_55 : decode prog_6_method_12_code 55 = .ok (.aload_n 0, 1) := by decide +kernel
theorem d_23_56 : decode prog_6_method_12_code 56 = .ok (.getfield 40, 3) := by decide +kernel
theorem d_23_59 : decode prog_6_method_12_code 59 = .ok (.istore_n 2, 1) := by decide +kernel
theorem d_23_60 : decode prog_6_method_12_code 60 = .ok (.aload_n 0, 1) := by decide +kernel
theorem d_23_61 : decode prog_6_method_12_code 61 = .ok (.invokevirtual 71, 3) := by decide +kernel
theorem d_23_64 : decode prog_6_method_12_code 64 = .ok (.aload_n 0, 1) := by decide +kernel
theorem d_23_65 : decode prog_6_method_12_code 65 = .ok (.iconst 3, 1) := by decide +kernel
theorem d_23_66 : decode prog_6_method_12_code 66 = .ok (.iload_n 1, 1) := by decide +kernel
theorem d_23_67 : decode prog_6_method_12_code 67 = .ok (.invokevirtual 67, 3) := by decide +kernel
theorem d_23_70 : decode prog_6_method_12_code 70 = .ok (.aload_n 0, 1) := by decide +kernel
theorem d_23_71 : decode prog_6_method_12_code 71 = .ok (.iload_n 2, 1) := by decide +kernel
theorem d_23_72 : decode prog_6_method_12_code 72 = .ok (.invokevirtual 84, 3) := by decide +kernel
theorem d_23_75 : decode prog_6_method_12_code 75 = .ok (.return_, 1) := by decide +kernel
theorem s_23_75 {Γ : m_G} : m_ok Γ m_tab 23 M_23 75 (g_23_75) := ok_rv (pc := 75) d_23_75 rfl
theorem s_23_55 {Γ : m_G} : m_ok Γ m_tab 23 M_23 55 (g_23_55) := ok_al_n (pc := 55) d_23_55 rfl (ok_getf (pc := 56) d_23_56 w_149 (hc1 fo_12) (ok_is_n (pc := 59) d_23_59 rfl (by decide) (ok_al_n (pc := 60) d_23_60 rfl (ok_cvi (pc := 61) (k2 := 18) rfl rfl tb_18 (by decide) (by decide) rfl (go_V d_23_61 w_293 w_295 ws_9 w_4 w_296 nn_18 (by decide) cl_4 rfl) (ok_al_n (pc := 64) d_23_64 rfl (ok_ic (pc := 65) d_23_65 rfl (ok_il_n (pc := 66) d_23_66 rfl (ok_cvi (pc := 67) (k2 := 21) rfl rfl tb_21 (by decide) (by decide) rfl (go_V d_23_67 w_301 w_303 ws_11 w_4 w_304 nn_21 (by decide) cl_4 rfl) (ok_al_n (pc := 70) d_23_70 rfl (ok_il_n (pc := 71) d_23_71 rfl (ok_cvi (pc := 72) (k2 := 20) rfl rfl tb_20 (by decide) (by decide) rfl (go_V d_23_72 w_313 w_315 ws_14 w_4 w_316 nn_20 (by decide) cl_4 rfl) (s_23_75))))))))))))
theorem s_23_31 {Γ : m_G} : m_ok Γ m_tab 23 M_23 31 (g_23_31) := ok_al_n (pc := 31) d_23_31 rfl (ok_ic (pc := 32) d_23_32 rfl (ok_il_n (pc := 33) d_23_33 rfl (ok_cvi (pc := 34) (k2 := 21) rfl rfl tb_21 (by decide) (by decide) rfl (go_V d_23_34 w_301 w_303 ws_11 w_4 w_304 nn_21 (by decide) cl_4 rfl) (ok_al_n (pc := 37) d_23_37 rfl (ok_getf (pc := 38) d_23_38 w_149 (hc1 fo_12) (ok_bi (pc := 41) d_23_41 rfl (ok_cieq (pc := 43) (t := 55) d_23_43 rfl (by decide) rfl (ok_al_n (pc := 46) d_23_46 rfl (ok_getf (pc := 47) d_23_47 w_149 (hc1 fo_12) (ok_bi (pc := 50) d_23_50 rfl (ok_cine (pc := 52) (t := 75) d_23_52 rfl (by decide) rfl (s_23_55))))))))))))
theorem s_23_30 {Γ : m_G} : m_ok Γ m_tab 23 M_23 30 (g_23_30) := ok_rv (pc := 30) d_23_30 rfl
theorem s_23_0 {Γ : m_G} : m_ok Γ m_tab 23 M_23 0 (g_23_0) := ok_al_n (pc := 0) d_23_0 rfl (ok_getf (pc := 1) d_23_1 w_149 (hc1 fo_12) (ok_bi (pc := 4) d_23_4 rfl (ok_cine (pc := 6) (t := 31) d_23_6 rfl (by decide) rfl (ok_al_n (pc := 9) d_23_9 rfl (ok_il_n (pc := 10) d_23_10 rfl (ok_cai (pc := 11) (k2 := 25) rfl rfl tb_25 (by decide) (by decide) rfl (go_V d_23_11 w_309 w_311 ws_13 w_4 w_312 nn_25 (by decide) cl_4 rfl) (ok_czeq (pc := 14) (t := 30) d_23_14 rfl (by decide) rfl (ok_al_n (pc := 17) d_23_17 rfl (ok_il_n (pc := 18) d_23_18 rfl (ok_ic (pc := 19) d_23_19 rfl (ok_add (pc := 20) d_23_20 (ok_cvi (pc := 21) (k2 := 23) rfl rfl tb_23 (by decide) (by decide) rfl (go_V d_23_21 w_305 w_307 ws_12 w_4 w_308 nn_23 (by decide) cl_4 rfl) (ok_al_n (pc := 24) d_23_24 rfl (ok_bi (pc := 25) d_23_25 rfl (ok_cvi (pc := 27) (k2 := 20) rfl rfl tb_20 (by decide) (by decide) rfl (go_V d_23_27 w_313 w_315 ws_14 w_4 w_316 nn_20 (by decide) cl_4 rfl) (s_23_30))))))))))))))))
theorem tst_23 {Γ : m_G} (q : Nat) : m_ts Γ (t_23 q) q := ts_n (ts_n (ts_l (k := 23) (pc := 0) tb_23 rfl (by decide) s_23_0) (ts_l (k := 23) (pc := 30) tb_23 rfl (by decide) s_23_30)) (ts_n (ts_l (k := 23) (pc := 31) tb_23 rfl (by decide) s_23_31) (ts_n (ts_l (k := 23) (pc := 55) tb_23 rfl (by decide) s_23_55) (ts_l (k := 23) (pc := 75) tb_23 rfl (by decide) s_23_75)))
theorem d_24_0 : decode prog_6_method_13_code 0 = .ok (.aload_n 0, 1) := by decide +kernel
theorem d_24_1 : decode prog_6_method_13_code 1 = .ok (.getfield 40, 3) := by decide +kernel
theorem d_24_4 : decode prog_6_method_13_code 4 = .ok (.bipush 6, 2) := by decide +kernel
theorem d_24_6 : decode prog_6_method_13_code 6 = .ok (.if_icmp .lt 12, 3) := by decide +kernel
theorem d_24_9 : decode prog_6_method_13_code 9 = .ok (.aload_n 0, 1) := by decide +kernel
theorem d_24_10 : decode prog_6_method_13_code 10 = .ok (.getfield 40, 3) := by decide +kernel
theorem d_24_13 : decode prog_6_method_13_code 13 = .ok (.bipush 32, 2) := by decide +kernel
theorem d_24_15 : decode prog_6_method_13_code 15 = .ok (.if_icmp .lt 18, 3) := by decide +kernel
theorem d_24_18 : decode prog_6_method_13_code 18 = .ok (.aload_n 0, 1) := by decide +kernel
theorem d_24_19 : decode prog_6_method_13_code 19 = .ok (.aload_n 0, 1) := by decide +kernel
theorem d_24_20 : decode prog_6_method_13_code 20 = .ok (.getfield 40, 3) := by decide +kernel
theorem d_24_23 : decode prog_6_method_13_code 23 = .ok (.invokevirtual 84, 3) := by decide +kernel
theorem d_24_26 : decode prog_6_method_13_code 26 = .ok (.aload_n 0, 1) := by decide +kernel
theorem d_24_27 : decode prog_6_method_13_code 27 = .ok (.invokevirtual 71, 3) := by decide +kernel
theorem d_24_30 : decode prog_6_method_13_code 30 = .ok (.goto 74, 3) := by decide +kernel
theorem d_24_33 : decode prog_6_method_13_code 33 = .ok (.aload_n 0, 1) := by decide +kernel
theorem d_24_34 : decode prog_6_method_13_code 34 = .ok (.getfield 40, 3) := by decide +kernel
theorem d_24_37 : decode prog_6_method_13_code 37 = .ok (.bipush 12, 2) := by decide +kernel
theorem d_24_39 : decode prog_6_method_13_code 39 = .ok (.if_icmp .ne 27, 3) := by decide +kernel
theorem d_24_42 : decode prog_6_method_13_code 42 = .ok (.aload_n 0, 1) := by decide +kernel
theorem d_24_43 : decode prog_6_method_13_code 43 = .ok (.iload_n 1, 1) := by decide +kernel
theorem d_24_44 : decode prog_6_method_13_code 44 = .ok (.invokevirtual 87, 3) := by decide +kernel
theorem d_24_47 : decode prog_6_method_13_code 47 = .ok (.ifCond .eq 57, 3) := by decide +kernel
theorem d_24_50 : decode prog_6_method_13_code 50 = .ok (.aload_n 0, 1) := by decide +kernel
theorem d_24_51 : decode prog_6_method_13_code 51 = .ok (.iload_n 1, 1) := by decide +kernel
theorem d_24_52 : decode prog_6_method_13_code 52 = .ok (.iconst 1, 1) := by decide +kernel
theorem d_24_53 : decode prog_6_method_13_code 53 = .ok (.iadd, 1) := by decide +kernel
theorem d_24_54 : decode prog_6_method_13_code 54 = .ok (.invokevirtual 77, 3) := by decide +kernel
theorem d_24_57 : decode prog_6_method_13_code 57 = .ok (.aload_n 0, 1) := by decide +kernel
theorem d_24_58 : decode prog_6_method_13_code 58 = .ok (.bipush 14, 2) := by decide +kernel
theorem d_24_60 : decode prog_6_method_13_code 60 = .ok (.invokevirtual 84, 3) := by decide +kernel
theorem d_24_63 : decode prog_6_method_13_code 63 = .ok (.goto 41, 3) := by decide +kernel
theorem d_24_66 : decode prog_6_method_13_code 66 = .ok (.aload_n 0, 1) := by decide +kernel
theorem d_24_67 : decode prog_6_method_13_code 67 = .ok (.getfield 40, 3) := by decide +kernel
theorem d_24_70 : decode prog_6_method_13_code 70 = .ok (.bipush 18, 2) := by decide +kernel
theorem d_24_72 : decode prog_6_method_13_code 72 = .ok (.if_icmp .ne 28, 3) := by decide +kernel
theorem d_24_75 : decode prog_6_method_13_code 75 = .ok (.aload_n 0, 1) := by decide +kernel
theorem d_24_76 : decode prog_6_method_13_code 76 = .ok (.iload_n 1, 1) := by decide +kernel
theorem d_24_77 : decode prog_6_method_13_code 77 = .ok (.invokevirtual 87, 3) := by decide +kernel
theorem d_24_80 : decode prog_6_method_13_code 80 = .ok (.ifCond .eq 24, 3) := by decide +kernel
theorem d_24_83 : decode prog_6_method_13_code 83 = .ok (.aload_n 0, 1) := by decide +kernel
theorem d_24_84 : decode prog_6_method_13_code 84 = .ok (.iconst 0, 1) := by decide +kernel
theorem d_24_85 : decode prog_6_method_13_code 85 = .ok (.iload_n 1, 1) := by decide +kernel
theorem d_24_86 : decode prog_6_method_13_code 86 = .ok (.iconst 1, 1) := by decide +kernel
theorem d_24_87 : decode prog_6_method_13_code 87 = .ok (.iadd, 1) := by decide +kernel
theorem d_24_88 : decode prog_6_method_13_code 88 = .ok (.invokevirtual 67, 3) := by decide +kernel
theorem d_24_91 : decode prog_6_method_13_code 91 = .ok (.aload_n 0, 1) := by decide +kernel
theorem d_24_92 : decode prog_6_method_13_code 92 = .ok (.bipush 19, 2) := by decide +kernel
theorem d_24_94 : decode prog_6_method_13_code 94 = .ok (.invokevirtual 64, 3) := by decide +kernel
theorem d_24_97 : decode prog_6_method_13_code 97 = .ok (.goto 7, 3) := by decide +kernel
theorem d_24_100 : decode prog_6_method_13_code 100 = .ok (.aload_n 0, 1) := by decide +kernel
theorem d_24_101 : decode prog_6_method_13_code 101 = .ok (.invokevirtual 47, 3) := by decide +kernel
theorem d_24_104 : decode prog_6_method_13_code 104 = .ok (.return_, 1) := by decide +kernel
theorem s_24_104 {Γ : m_G} : m_ok Γ m_tab 24 M_24 104 (g_24_104) := ok_rv (pc := 104) d_24_104 rfl
theorem s_24_100 {Γ : m_G} : m_ok Γ m_tab 24 M_24 100 (g_24_100) := ok_al_n (pc := 100) d_24_100 rfl (ok_cvi (pc := 101) (k2 := 19) rfl rfl tb_19 (by decide) (by decide) rfl (go_V d_24_101 w_297 w_299 ws_10 w_4 w_300 nn_19 (by decide) cl_4 rfl) (s_24_104))
theorem s_24_66 {Γ : m_G} : m_ok Γ m_tab 24 M_24 66 (g_24_66) := ok_al_n (pc := 66) d_24_66 rfl (ok_getf (pc := 67) d_24_67 w_149 (hc1 fo_12) (ok_bi (pc := 70) d_24_70 rfl (ok_cine (pc := 72) (t := 100) d_24_72 rfl (by decide) rfl (ok_al_n (pc := 75) d_24_75 rfl (ok_il_n (pc := 76) d_24_76 rfl (ok_cai (pc := 77) (k2 := 25) rfl rfl tb_25 (by decide) (by decide) rfl (go_V d_24_77 w_309 w_311 ws_13 w_4 w_312 nn_25 (by decide) cl_4 rfl) (ok_czeq (pc := 80) (t := 104) d_24_80 rfl (by decide) rfl (ok_al_n (pc := 83) d_24_83 rfl (ok_ic (pc := 84) d_24_84 rfl (ok_il_n (pc := 85) d_24_85 rfl (ok_ic (pc := 86) d_24_86 rfl (ok_add (pc := 87) d_24_87 (ok_cvi (pc := 88) (k2 := 21) rfl rfl tb_21 (by decide) (by decide) rfl (go_V d_24_88 w_301 w_303 ws_11 w_4 w_304 nn_21 (by decide) cl_4 rfl) (ok_al_n (pc := 91) d_24_91 rfl (ok_bi (pc := 92) d_24_92 rfl (ok_cvi (pc := 94) (k2 := 17) rfl rfl tb_17 (by decide) (by decide) rfl (go_V d_24_94 w_289 w_291 ws_8 w_4 w_292 nn_17 (by decide) cl_4 rfl) (ok_go (pc := 97) (t := 104) d_24_97 rfl (by decide) rfl)))))))))))))))))
theorem s_24_33 {Γ : m_G} : m_ok Γ m_tab 24 M_24 33 (g_24_33) := ok_al_n (pc := 33) d_24_33 rfl (ok_getf (pc := 34) d_24_34 w_149 (hc1 fo_12) (ok_bi (pc := 37) d_24_37 rfl (ok_cine (pc := 39) (t := 66) d_24_39 rfl (by decide) rfl (ok_al_n (pc := 42) d_24_42 rfl (ok_il_n (pc := 43) d_24_43 rfl (ok_cai (pc := 44) (k2 := 25) rfl rfl tb_25 (by decide) (by decide) rfl (go_V d_24_44 w_309 w_311 ws_13 w_4 w_312 nn_25 (by decide) cl_4 rfl) (ok_czeq (pc := 47) (t := 104) d_24_47 rfl (by decide) rfl (ok_al_n (pc := 50) d_24_50 rfl (ok_il_n (pc := 51) d_24_51 rfl (ok_ic (pc := 52) d_24_52 rfl (ok_add (pc := 53) d_24_53 (ok_cvi (pc := 54) (k2 := 24) rfl rfl tb_24 (by decide) (by decide) rfl (go_V d_24_54 w_317 w_319 ws_15 w_4 w_320 nn_24 (by decide) cl_4 rfl) (ok_al_n (pc := 57) d_24_57 rfl (ok_bi (pc := 58) d_24_58 rfl (ok_cvi (pc := 60) (k2 := 20) rfl rfl tb_20 (by decide) (by decide) rfl (go_V d_24_60 w_313 w_315 ws_14 w_4 w_316 nn_20 (by decide) cl_4 rfl) (ok_go (pc := 63) (t := 104) d_24_63 rfl (by decide) rfl))))))))))))))))
theorem s_24_18 {Γ : m_G} : m_ok Γ m_tab 24 M_24 18 (g_24_18) := ok_al_n (pc := 18) d_24_18 rfl (ok_al_n (pc := 19) d_24_19 rfl (ok_getf (pc := 20) d_24_20 w_149 (hc1 fo_12) (ok_cvi (pc := 23) (k2 := 20) rfl rfl tb_20 (by decide) (by decide) rfl (go_V d_24_23 w_313 w_315 ws_14 w_4 w_316 nn_20 (by decide) cl_4 rfl) (ok_al_n (pc := 26) d_24_26 rfl (ok_cvi (pc := 27) (k2 := 18) rfl rfl tb_18 (by decide) (by decide) rfl (go_V d_24_27 w_293 w_295 ws_9 w_4 w_296 nn_18 (by decide) cl_4 rfl) (ok_go (pc := 30) (t := 104) d_24_30 rfl (by decide) rfl))))))
theorem s_24_0 {Γ : m_G} : m_ok Γ m_tab 24 M_24 0 (g_24_0) := ok_al_n (pc := 0) d_24_0 rfl (ok_getf (pc := 1) d_24_1 w_149 (hc1 fo_12) (ok_bi (pc := 4) d_24_4 rfl (ok_cilt (pc := 6) (t := 18) d_24_6 rfl (by decide) rfl (ok_al_n (pc := 9) d_24_9 rfl (ok_getf (pc := 10) d_24_10 w_149 (hc1 fo_12) (ok_bi (pc := 13) d_24_13 rfl (ok_cilt (pc := 15) (t := 33) d_24_15 rfl (by decide) rfl (s_24_18))))))))
theorem tst_24 {Γ : m_G} (q : Nat) : m_ts Γ (t_24 q) q := ts_n (ts_n (ts_l (k := 24) (pc := 0) tb_24 rfl (by decide) s_24_0) (ts_n (ts_l (k := 24) (pc := 18) tb_24 rfl (by decide) s_24_18) (ts_l (k := 24) (pc := 33) tb_24 rfl (by decide) s_24_33))) (ts_n (ts_l (k := 24) (pc := 66) tb_24 rfl (by decide) s_24_66) (ts_n (ts_l (k := 24) (pc := 100) tb_24 rfl (by decide) s_24_100) (ts_l (k := 24) (pc := 104) tb_24 rfl (by decide) s_24_104)))
theorem d_25_0 : decode prog_6_method_14_code 0 = .ok (.iload_n 1, 1) := by decide +kernel
theorem d_25_1 : decode prog_6_method_14_code 1 = .ok (.iconst 5, 1) := by decide +kernel
theorem d_25_2 : decode prog_6_method_14_code 2 = .ok (.if_icmp .lt 9, 3) := by decide +kernel
theorem d_25_5 : decode prog_6_method_14_code 5 = .ok (.aload_n 0, 1) := by decide +kernel
theorem d_25_6 : decode prog_6_method_14_code 6 = .ok (.invokevirtual 47, 3) := by decide +kernel
theorem d_25_9 : decode prog_6_method_14_code 9 = .ok (.iconst 0, 1) := by decide +kernel
theorem d_25_10 : decode prog_6_method_14_code 10 = .ok (.ireturn, 1) := by decide +kernel
theorem d_25_11 : decode prog_6_method_14_code 11 = .ok (.aload_n 0, 1) := by decide +kernel
theorem d_25_12 : decode prog_6_method_14_code 12 = .ok (.invokevirtual 71, 3) := by decide +kernel
theorem d_25_15 : decode prog_6_method_14_code 15 = .ok (.iconst 1, 1) := by decide +kernel
theorem d_25_16 : decode prog_6_method_14_code 16 = .ok (.ireturn, 1) := by decide +kernel
theorem s_25_11 {Γ : m_G} : m_ok Γ m_tab 25 M_25 11 (g_25_11) := ok_al_n (pc := 11) d_25_11 rfl (ok_cvi (pc := 12) (k2 := 18) rfl rfl tb_18 (by decide) (by decide) rfl (go_V d_25_12 w_293 w_295 ws_9 w_4 w_296 nn_18 (by decide) cl_4 rfl) (ok_ic (pc := 15) d_25_15 rfl (ok_rz (pc := 16) d_25_16 rfl)))
theorem s_25_0 {Γ : m_G} : m_ok Γ m_tab 25 M_25 0 (g_25_0) := ok_il_n (pc := 0) d_25_0 rfl (ok_ic (pc := 1) d_25_1 rfl (ok_cilt (pc := 2) (t := 11) d_25_2 rfl (by decide) rfl (ok_al_n (pc := 5) d_25_5 rfl (ok_cvi (pc := 6) (k2 := 19) rfl rfl tb_19 (by decide) (by decide) rfl (go_V d_25_6 w_297 w_299 ws_10 w_4 w_300 nn_19 (by decide) cl_4 rfl) (ok_ic (pc := 9) d_25_9 rfl (ok_rz (pc := 10) d_25_10 rfl))))))
theorem tst_25 {Γ : m_G} (q : Nat) : m_ts Γ (t_25 q) q := ts_n (ts_l (k := 25) (pc := 0) tb_25 rfl (by decide) s_25_0) (ts_l (k := 25) (pc := 11) tb_25 rfl (by decide) s_25_11)
theorem d_26_0 : decode prog_6_method_15_code 0 = .ok (.iconst 0, 1) := by decide +kernel
theorem d_26_1 : decode prog_6_method_15_code 1 = .ok (.istore_n 1, 1) := by decide +kernel
theorem d_26_2 : decode prog_6_method_15_code 2 = .ok (.iconst 0, 1) := by decide +kernel
theorem d_26_3 : decode prog_6_method_15_code 3 = .ok (.istore_n 2, 1) := by decide +kernel
theorem d_26_4 : decode prog_6_method_15_code 4 = .ok (.iconst 0, 1) := by decide +kernel
theorem d_26_5 : decode prog_6_method_15_code 5 = .ok (.istore_n 3, 1) := by decide +kernel
theorem d_26_6 : decode prog_6_method_15_code 6 = .ok (.iload_n 3, 1) := by decide +kernel
theorem d_26_7 : decode prog_6_method_15_code 7 = .ok (.aload_n 0, 1) := by decide +kernel
theorem d_26_8 : decode prog_6_method_15_code 8 = .ok (.getfield 24, 3) := by decide +kernel
theorem d_26_11 : decode prog_6_method_15_code 11 = .ok (.if_icmp .ge 64, 3) := by decide +kernel
theorem d_26_14 : decode prog_6_method_15_code 14 = .ok (.iload_n 3, 1) := by decide +kernel
theorem d_26_15 : decode prog_6_method_15_code 15 = .ok (.iload_n 2, 1) := by decide +kernel
theorem d_26_16 : decode prog_6_method_15_code 16 = .ok (.if_icmp .lt 53, 3) := by decide +kernel
theorem d_26_19 : decode prog_6_method_15_code 19 = .ok (.aload_n 0, 1) := by decide +kernel
theorem d_26_20 : decode prog_6_method_15_code 20 = .ok (.getfield 9, 3) := by decide +kernel
theorem d_26_23 : decode prog_6_method_15_code 23 = .ok (.iload_n 3, 1) := by decide +kernel
theorem d_26_24 : decode prog_6_method_15_code 24 = .ok (.iaload, 1) := by decide +kernel
theorem d_26_25 : decode prog_6_method_15_code 25 = .ok (.bipush 32, 2) := by decide +kernel
theorem d_26_27 : decode prog_6_method_15_code 27 = .ok (.if_icmp .eq 42, 3) := by decide +kernel
theorem d_26_30 : decode prog_6_method_15_code 30 = .ok (.aload_n 0, 1) := by decide +kernel
theorem d_26_31 : decode prog_6_method_15_code 31 = .ok (.getfield 9, 3) := by decide +kernel
theorem d_26_34 : decode prog_6_method_15_code 34 = .ok (.iload_n 3, 1) := by decide +kernel
theorem d_26_35 : decode prog_6_method_15_code 35 = .ok (.iaload, 1) := by decide +kernel
theorem d_26_36 : decode prog_6_method_15_code 36 = .ok (.bipush 10, 2) := by decide +kernel
theorem d_26_38 : decode prog_6_method_15_code 38 = .ok (.if_icmp .eq 31, 3) := by decide +kernel
theorem d_26_41 : decode prog_6_method_15_code 41 = .ok (.aload_n 0, 1) := by decide +kernel
theorem d_26_42 : decode prog_6_method_15_code 42 = .ok (.iload_n 3, 1) := by decide +kernel
theorem d_26_43 : decode prog_6_method_15_code 43 = .ok (.invokevirtual 90, 3) := by decide +kernel
theorem d_26_46 : decode prog_6_method_15_code 46 = .ok (.istore_n 2, 1) := by decide +kernel
theorem d_26_47 : decode prog_6_method_15_code 47 = .ok (.aload_n 0, 1) := by decide +kernel
theorem d_26_48 : decode prog_6_method_15_code 48 = .ok (.getfield 18, 3) := by decide +kernel
theorem d_26_51 : decode prog_6_method_15_code 51 = .ok (.iload_n 1, 1) := by decide +kernel
theorem d_26_52 : decode prog_6_method_15_code 52 = .ok (.iload_n 3, 1) := by decide +kernel
theorem d_26_53 : decode prog_6_method_15_code 53 = .ok (.iastore, 1) := by decide +kernel
theorem d_26_54 : decode prog_6_method_15_code 54 = .ok (.aload_n 0, 1) := by decide +kernel
theorem d_26_55 : decode prog_6_method_15_code 55 = .ok (.getfield 15, 3) := by decide +kernel
theorem d_26_58 : decode prog_6_method_15_code 58 = .ok (.iload_n 1, 1) := by decide +kernel
theorem d_26_59 : decode prog_6_method_15_code 59 = .ok (.aload_n 0, 1) := by decide +kernel
theorem d_26_60 : decode prog_6_method_15_code 60 = .ok (.iload_n 3, 1) := by decide +kernel
theorem d_26_61 : decode prog_6_method_15_code 61 = .ok (.iload_n 2, 1) := by decide +kernel
theorem d_26_62 : decode prog_6_method_15_code 62 = .ok (.invokevirtual 94, 3) := by decide +kernel
theorem d_26_65 : decode prog_6_method_15_code 65 = .ok (.iastore, 1) := by decide +kernel
theorem d_26_66 : decode prog_6_method_15_code 66 = .ok (.iinc 1 1, 3) := by decide +kernel
theorem d_26_69 : decode prog_6_method_15_code 69 = .ok (.iinc 3 1, 3) := by decide +kernel
theorem d_26_72 : decode prog_6_method_15_code 72 = .ok (.goto (-66), 3) := by decide +kernel
theorem d_26_75 : decode prog_6_method_15_code 75 = .ok (.aload_n 0, 1) := by decide +kernel
theorem d_26_76 : decode prog_6_method_15_code 76 = .ok (.getfield 18, 3) := by decide +kernel
theorem d_26_79 : decode prog_6_method_15_code 79 = .ok (.iload_n 1, 1) := by decide +kernel
theorem d_26_80 : decode prog_6_method_15_code 80 = .ok (.aload_n 0, 1) := by decide +kernel
theorem d_26_81 : decode prog_6_method_15_code 81 = .ok (.getfield 24, 3) := by decide +kernel
theorem d_26_84 : decode prog_6_method_15_code 84 = .ok (.iastore, 1) := by decide +kernel
theorem d_26_85 : decode prog_6_method_15_code 85 = .ok (.aload_n 0, 1) := by decide +kernel
theorem d_26_86 : decode prog_6_method_15_code 86 = .ok (.getfield 15, 3) := by decide +kernel
theorem d_26_89 : decode prog_6_method_15_code 89 = .ok (.iload_n 1, 1) := by decide +kernel
theorem d_26_90 : decode prog_6_method_15_code 90 = .ok (.bipush 21, 2) := by decide +kernel
theorem d_26_92 : decode prog_6_method_15_code 92 = .ok (.iastore, 1) := by decide +kernel
theorem d_26_93 : decode prog_6_method_15_code 93 = .ok (.return_, 1) := by decide +kernel
theorem s_26_75 {Γ : m_G} : m_ok Γ m_tab 26 M_26 75 (g_26_75) := ok_al_n (pc := 75) d_26_75 rfl (ok_getf (pc := 76) d_26_76 w_147 (hc1 fo_15) (ok_il_n (pc := 79) d_26_79 rfl (ok_al_n (pc := 80) d_26_80 rfl (ok_getf (pc := 81) d_26_81 w_144 (hc1 fo_7) (ok_iast (pc := 84) d_26_84 (ok_al_n (pc := 85) d_26_85 rfl (ok_getf (pc := 86) d_26_86 w_146 (hc1 fo_13) (ok_il_n (pc := 89) d_26_89 rfl (ok_bi (pc := 90) d_26_90 rfl (ok_iast (pc := 92) d_26_92 (ok_rv (pc := 93) d_26_93 rfl)))))))))))
theorem s_26_69 {Γ : m_G} : m_ok Γ m_tab 26 M_26 69 (g_26_69) := ok_inc (pc := 69) d_26_69 rfl (by decide) (ok_go (pc := 72) (t := 6) d_26_72 rfl (by decide) rfl)
theorem s_26_6 {Γ : m_G} : m_ok Γ m_tab 26 M_26 6 (g_26_6) := ok_il_n (pc := 6) d_26_6 rfl (ok_al_n (pc := 7) d_26_7 rfl (ok_getf (pc := 8) d_26_8 w_144 (hc1 fo_7) (ok_cige (pc := 11) (t := 75) d_26_11 rfl (by decide) rfl (ok_il_n (pc := 14) d_26_14 rfl (ok_il_n (pc := 15) d_26_15 rfl (ok_cilt (pc := 16) (t := 69) d_26_16 rfl (by decide) rfl (ok_al_n (pc := 19) d_26_19 rfl (ok_getf (pc := 20) d_26_20 w_143 (hc1 fo_8) (ok_il_n (pc := 23) d_26_23 rfl (ok_iald (pc := 24) d_26_24 (ok_bi (pc := 25) d_26_25 rfl (ok_cieq (pc := 27) (t := 69) d_26_27 rfl (by decide) rfl (ok_al_n (pc := 30) d_26_30 rfl (ok_getf (pc := 31) d_26_31 w_143 (hc1 fo_8) (ok_il_n (pc := 34) d_26_34 rfl (ok_iald (pc := 35) d_26_35 (ok_bi (pc := 36) d_26_36 rfl (ok_cieq (pc := 38) (t := 69) d_26_38 rfl (by decide) rfl (ok_al_n (pc := 41) d_26_41 rfl (ok_il_n (pc := 42) d_26_42 rfl (ok_cai (pc := 43) (k2 := 27) rfl rfl tb_27 (by decide) (by decide) rfl (go_V d_26_43 w_238 w_240 ws_1 w_4 w_241 nn_27 (by decide) cl_4 rfl) (ok_is_n (pc := 46) d_26_46 rfl (by decide) (ok_al_n (pc := 47) d_26_47 rfl (ok_getf (pc := 48) d_26_48 w_147 (hc1 fo_15) (ok_il_n (pc := 51) d_26_51 rfl (ok_il_n (pc := 52) d_26_52 rfl (ok_iast (pc := 53) d_26_53 (ok_al_n (pc := 54) d_26_54 rfl (ok_getf (pc := 55) d_26_55 w_146 (hc1 fo_13) (ok_il_n (pc := 58) d_26_58 rfl (ok_al_n (pc := 59) d_26_59 rfl (ok_il_n (pc := 60) d_26_60 rfl (ok_il_n (pc := 61) d_26_61 rfl (ok_cai (pc := 62) (k2 := 30) rfl rfl tb_30 (by decide) (by decide) rfl (go_V d_26_62 w_248 w_250 ws_2 w_4 w_251 nn_30 (by decide) cl_4 rfl) (ok_iast (pc := 65) d_26_65 (ok_inc (pc := 66) d_26_66 rfl (by decide) (s_26_69)))))))))))))))))))))))))))))))))))))
theorem s_26_0 {Γ : m_G} : m_ok Γ m_tab 26 M_26 0 (g_26_0) := ok_ic (pc := 0) d_26_0 rfl (ok_is_n (pc := 1) d_26_1 rfl (by decide) (ok_ic (pc := 2) d_26_2 rfl (ok_is_n (pc := 3) d_26_3 rfl (by decide) (ok_ic (pc := 4) d_26_4 rfl (ok_is_n (pc := 5) d_26_5 rfl (by decide) (s_26_6))))))
theorem tst_26 {Γ : m_G} (q : Nat) : m_ts Γ (t_26 q) q := ts_n (ts_n (ts_l (k := 26) (pc := 0) tb_26 rfl (by decide) s_26_0) (ts_l (k := 26) (pc := 6) tb_26 rfl (by decide) s_26_6)) (ts_n (ts_l (k := 26) (pc := 69) tb_26 rfl (by decide) s_26_69) (ts_l (k := 26) (pc := 75) tb_26 rfl (by decide) s_26_75))
theorem d_27_0 : decode prog_6_method_16_code 0 = .ok (.iload_n 1, 1) := by decide +kernel
theorem d_27_1 : decode prog_6_method_16_code 1 = .ok (.iconst 1, 1) := by decide +kernel
theorem d_27_2 : decode prog_6_method_16_code 2 = .ok (.iadd, 1) := by decide +kernel
theorem d_27_3 : decode prog_6_method_16_code 3 = .ok (.istore_n 2, 1) := by decide +kernel
theorem d_27_4 : decode prog_6_method_16_code 4 = .ok (.aload_n 0, 1) := by decide +kernel
theorem d_27_5 : decode prog_6_method_16_code 5 = .ok (.getfield 9, 3) := by decide +kernel
theorem d_27_8 : decode prog_6_method_16_code 8 = .ok (.iload_n 1, 1) := by decide +kernel
theorem d_27_9 : decode prog_6_method_16_code 9 = .ok (.iaload, 1) := by decide +kernel
theorem d_27_10 : decode prog_6_method_16_code 10 = .ok (.invokestatic 98, 3) := by decide +kernel
theorem d_27_13 : decode prog_6_method_16_code 13 = .ok (.ifCond .eq 29, 3) := by decide +kernel
theorem d_27_16 : decode prog_6_method_16_code 16 = .ok (.iload_n 2, 1) := by decide +kernel
theorem d_27_17 : decode prog_6_method_16_code 17 = .ok (.aload_n 0, 1) := by decide +kernel
theorem d_27_18 : decode prog_6_method_16_code 18 = .ok (.getfield 24, 3) := by decide +kernel
theorem d_27_21 : decode prog_6_method_16_code 21 = .ok (.if_icmp .ge 59, 3) := by decide +kernel
theorem d_27_24 : decode prog_6_method_16_code 24 = .ok (.aload_n 0, 1) := by decide +kernel
theorem d_27_25 : decode prog_6_method_16_code 25 = .ok (.getfield 9, 3) := by decide +kernel
theorem d_27_28 : decode prog_6_method_16_code 28 = .ok (.iload_n 2, 1) := by decide +kernel
theorem d_27_29 : decode prog_6_method_16_code 29 = .ok (.iaload, 1) := by decide +kernel
theorem d_27_30 : decode prog_6_method_16_code 30 = .ok (.invokestatic 98, 3) := by decide +kernel
theorem d_27_33 : decode prog_6_method_16_code 33 = .ok (.ifCond .eq 47, 3) := by decide +kernel
theorem d_27_36 : decode prog_6_method_16_code 36 = .ok (.iinc 2 1, 3) := by decide +kernel
theorem d_27_39 : decode prog_6_method_16_code 39 = .ok (.goto (-23), 3) := by decide +kernel
theorem d_27_42 : decode prog_6_method_16_code 42 = .ok (.aload_n 0, 1) := by decide +kernel
theorem d_27_43 : decode prog_6_method_16_code 43 = .ok (.getfield 9, 3) := by decide +kernel
theorem d_27_46 : decode prog_6_method_16_code 46 = .ok (.iload_n 1, 1) := by decide +kernel
theorem d_27_47 : decode prog_6_method_16_code 47 = .ok (.iaload, 1) := by decide +kernel
theorem d_27_48 : decode prog_6_method_16_code 48 = .ok (.invokestatic 101, 3) := by decide +kernel
theorem d_27_51 : decode prog_6_method_16_code 51 = .ok (.ifCond .eq 29, 3) := by decide +kernel
theorem d_27_54 : decode prog_6_method_16_code 54 = .ok (.iload_n 2, 1) := by decide +kernel
theorem d_27_55 : decode prog_6_method_16_code 55 = .ok (.aload_n 0, 1) := by decide +kernel
theorem d_27_56 : decode prog_6_method_16_code 56 = .ok (.getfield 24, 3) := by decide +kernel
theorem d_27_59 : decode prog_6_method_16_code 59 = .ok (.if_icmp .ge 21, 3) := by decide +kernel
theorem d_27_62 : decode prog_6_method_16_code 62 = .ok (.aload_n 0, 1) := by decide +kernel
theorem d_27_63 : decode prog_6_method_16_code 63 = .ok (.getfield 9, 3) := by decide +kernel
theorem d_27_66 : decode prog_6_method_16_code 66 = .ok (.iload_n 2, 1) := by decide +kernel
theorem d_27_67 : decode prog_6_method_16_code 67 = .ok (.iaload, 1) := by decide +kernel
theorem d_27_68 : decode prog_6_method_16_code 68 = .ok (.invokestatic 101, 3) := by decide +kernel
theorem d_27_71 : decode prog_6_method_16_code 71 = .ok (.ifCond .eq 9, 3) := by decide +kernel
theorem d_27_74 : decode prog_6_method_16_code 74 = .ok (.iinc 2 1, 3) := by decide +kernel
theorem d_27_77 : decode prog_6_method_16_code 77 = .ok (.goto (-23), 3) := by decide +kernel
theorem d_27_80 : decode prog_6_method_16_code 80 = .ok (.iload_n 2, 1) := by decide +kernel
theorem d_27_81 : decode prog_6_method_16_code 81 = .ok (.ireturn, 1) := by decide +kernel
theorem s_27_80 {Γ : m_G} : m_ok Γ m_tab 27 M_27 80 (g_27_80) := ok_il_n (pc := 80) d_27_80 rfl (ok_ri (pc := 81) d_27_81 rfl)
theorem s_27_54 {Γ : m_G} : m_ok Γ m_tab 27 M_27 54 (g_27_54) := ok_il_n (pc := 54) d_27_54 rfl (ok_al_n (pc := 55) d_27_55 rfl (ok_getf (pc := 56) d_27_56 w_144 (hc1 fo_7) (ok_cige (pc := 59) (t := 80) d_27_59 rfl (by decide) rfl (ok_al_n (pc := 62) d_27_62 rfl (ok_getf (pc := 63) d_27_63 w_143 (hc1 fo_8) (ok_il_n (pc := 66) d_27_66 rfl (ok_iald (pc := 67) d_27_67 (ok_cat (pc := 68) (k2 := 29) rfl tb_29 (by decide) (by decide) rfl (go_S d_27_68 w_245 w_246 w_4 w_247 nn_29 (by decide)) (ok_czeq (pc := 71) (t := 80) d_27_71 rfl (by decide) rfl (ok_inc (pc := 74) d_27_74 rfl (by decide) (ok_go (pc := 77) (t := 54) d_27_77 rfl (by decide) rfl)))))))))))
theorem s_27_42 {Γ : m_G} : m_ok Γ m_tab 27 M_27 42 (g_27_42) := ok_al_n (pc := 42) d_27_42 rfl (ok_getf (pc := 43) d_27_43 w_143 (hc1 fo_8) (ok_il_n (pc := 46) d_27_46 rfl (ok_iald (pc := 47) d_27_47 (ok_cat (pc := 48) (k2 := 29) rfl tb_29 (by decide) (by decide) rfl (go_S d_27_48 w_245 w_246 w_4 w_247 nn_29 (by decide)) (ok_czeq (pc := 51) (t := 80) d_27_51 rfl (by decide) rfl (s_27_54))))))
theorem s_27_16 {Γ : m_G} : m_ok Γ m_tab 27 M_27 16 (g_27_16) := ok_il_n (pc := 16) d_27_16 rfl (ok_al_n (pc := 17) d_27_17 rfl (ok_getf (pc := 18) d_27_18 w_144 (hc1 fo_7) (ok_cige (pc := 21) (t := 80) d_27_21 rfl (by decide) rfl (ok_al_n (pc := 24) d_27_24 rfl (ok_getf (pc := 25) d_27_25 w_143 (hc1 fo_8) (ok_il_n (pc := 28) d_27_28 rfl (ok_iald (pc := 29) d_27_29 (ok_cat (pc := 30) (k2 := 28) rfl tb_28 (by decide) (by decide) rfl (go_S d_27_30 w_242 w_243 w_4 w_244 nn_28 (by decide)) (ok_czeq (pc := 33) (t := 80) d_27_33 rfl (by decide) rfl (ok_inc (pc := 36) d_27_36 rfl (by decide) (ok_go (pc := 39) (t := 16) d_27_39 rfl (by decide) rfl)))))))))))
theorem s_27_0 {Γ : m_G} : m_ok Γ m_tab 27 M_27 0 (g_27_0) := ok_il_n (pc := 0) d_27_0 rfl (ok_ic (pc := 1) d_27_1 rfl (ok_add (pc := 2) d_27_2 (ok_is_n (pc := 3) d_27_3 rfl (by decide) (ok_al_n (pc := 4) d_27_4 rfl (ok_getf (pc := 5) d_27_5 w_143 (hc1 fo_8) (ok_il_n (pc := 8) d_27_8 rfl (ok_iald (pc := 9) d_27_9 (ok_cat (pc := 10) (k2 := 28) rfl tb_28 (by decide) (by decide) rfl (go_S d_27_10 w_242 w_243 w_4 w_244 nn_28 (by decide)) (ok_czeq (pc := 13) (t := 42) d_27_13 rfl (by decide) rfl (s_27_16))))))))))
theorem tst_27 {Γ : m_G} (q : Nat) : m_ts Γ (t_27 q) q := ts_n (ts_n (ts_l (k := 27) (pc := 0) tb_27 rfl (by decide) s_27_0) (ts_l (k := 27) (pc := 16) tb_27 rfl (by decide) s_27_16)) (ts_n (ts_l (k := 27) (pc := 42) tb_27 rfl (by decide) s_27_42) (ts_n (ts_l (k := 27) (pc := 54) tb_27 rfl (by decide) s_27_54) (ts_l (k := 27) (pc := 80) tb_27 rfl (by decide) s_27_80)))
theorem d_28_0 : decode prog_6_method_17_code 0 = .ok (.iload_n 0, 1) := by decide +kernel
theorem d_28_1 : decode prog_6_method_17_code 1 = .ok (.bipush 97, 2) := by decide +kernel
theorem d_28_3 : decode prog_6_method_17_code 3 = .ok (.if_icmp .lt 13, 3) := by decide +kernel
theorem d_28_6 : decode prog_6_method_17_code 6 = .ok (.iload_n 0, 1) := by decide +kernel
theorem d_28_7 : decode prog_6_method_17_code 7 = .ok (.bipush 122, 2) := by decide +kernel
theorem d_28_9 : decode prog_6_method_17_code 9 = .ok (.if_icmp .gt 7, 3) := by decide +kernel
theorem d_28_12 : decode prog_6_method_17_code 12 = .ok (.iconst 1, 1) := by decide +kernel
theorem d_28_13 : decode prog_6_method_17_code 13 = .ok (.goto 4, 3) := by decide +kernel
theorem d_28_16 : decode prog_6_method_17_code 16 = .ok (.iconst 0, 1) := by decide +kernel
theorem d_28_17 : decode prog_6_method_17_code 17 = .ok (.ireturn, 1) := by decide +kernel
theorem s_28_17 {Γ : m_G} : m_ok Γ m_tab 28 M_28 17 (g_28_17) := ok_rz (pc := 17) d_28_17 rfl
theorem s_28_16 {Γ : m_G} : m_ok Γ m_tab 28 M_28 16 (g_28_16) := ok_ic (pc := 16) d_28_16 rfl (s_28_17)
theorem s_28_0 {Γ : m_G} : m_ok Γ m_tab 28 M_28 0 (g_28_0) := ok_il_n (pc := 0) d_28_0 rfl (ok_bi (pc := 1) d_28_1 rfl (ok_cilt (pc := 3) (t := 16) d_28_3 rfl (by decide) rfl (ok_il_n (pc := 6) d_28_6 rfl (ok_bi (pc := 7) d_28_7 rfl (ok_cigt (pc := 9) (t := 16) d_28_9 rfl (by decide) rfl (ok_ic (pc := 12) d_28_12 rfl (ok_go (pc := 13) (t := 17) d_28_13 rfl (by decide) rfl)))))))
theorem tst_28 {Γ : m_G} (q : Nat) : m_ts Γ (t_28 q) q := ts_n (ts_l (k := 28) (pc := 0) tb_28 rfl (by decide) s_28_0) (ts_n (ts_l (k := 28) (pc := 16) tb_28 rfl (by decide) s_28_16) (ts_l (k := 28) (pc := 17) tb_28 rfl (by decide) s_28_17))
theorem d_29_0 : decode prog_6_method_18_code 0 = .ok (.iload_n 0, 1) := by decide +kernel
theorem d_29_1 : decode prog_6_method_18_code 1 = .ok (.bipush 48, 2) := by decide +kernel
theorem d_29_3 : decode prog_6_method_18_code 3 = .ok (.if_icmp .lt 13, 3) := by decide +kernel
theorem d_29_6 : decode prog_6_method_18_code 6 = .ok (.iload_n 0, 1) := by decide +kernel
theorem d_29_7 : decode prog_6_method_18_code 7 = .ok (.bipush 57, 2) := by decide +kernel
theorem d_29_9 : decode prog_6_method_18_code 9 = .ok (.if_icmp .gt 7, 3) := by decide +kernel
theorem d_29_12 : decode prog_6_method_18_code 12 = .ok (.iconst 1, 1) := by decide +kernel
theorem d_29_13 : decode prog_6_method_18_code 13 = .ok (.goto 4, 3) := by decide +kernel
theorem d_29_16 : decode prog_6_method_18_code 16 = .ok (.iconst 0, 1) := by decide +kernel
theorem d_29_17 : decode prog_6_method_18_code 17 = .ok (.ireturn, 1) := by decide +kernel
theorem s_29_17 {Γ : m_G} : m_ok Γ m_tab 29 M_29 17 (g_29_17) := ok_rz (pc := 17) d_29_17 rfl
theorem s_29_16 {Γ : m_G} : m_ok Γ m_tab 29 M_29 16 (g_29_16) := ok_ic (pc := 16) d_29_16 rfl (s_29_17)
theorem s_29_0 {Γ : m_G} : m_ok Γ m_tab 29 M_29 0 (g_29_0) := ok_il_n (pc := 0) d_29_0 rfl (ok_bi (pc := 1) d_29_1 rfl (ok_cilt (pc := 3) (t := 16) d_29_3 rfl (by decide) rfl (ok_il_n (pc := 6) d_29_6 rfl (ok_bi (pc := 7) d_29_7 rfl (ok_cigt (pc := 9) (t := 16) d_29_9 rfl (by decide) rfl (ok_ic (pc := 12) d_29_12 rfl (ok_go (pc := 13) (t := 17) d_29_13 rfl (by decide) rfl)))))))
theorem tst_29 {Γ : m_G} (q : Nat) : m_ts Γ (t_29 q) q := ts_n (ts_l (k := 29) (pc := 0) tb_29 rfl (by decide) s_29_0) (ts_n (ts_l (k := 29) (pc := 16) tb_29 rfl (by decide) s_29_16) (ts_l (k := 29) (pc := 17) tb_29 rfl (by decide) s_29_17))
theorem d_30_0 : decode prog_6_method_19_code 0 = .ok (.aload_n 0, 1) := by decide +kernel
theorem d_30_1 : decode prog_6_method_19_code 1 = .ok (.getfield 9, 3) := by decide +kernel
theorem d_30_4 : decode prog_6_method_19_code 4 = .ok (.iload_n 1, 1) := by decide +kernel
theorem d_30_5 : decode prog_6_method_19_code 5 = .ok (.iaload, 1) := by decide +kernel
theorem d_30_6 : decode prog_6_method_19_code 6 = .ok (.invokestatic 98, 3) := by decide +kernel
theorem d_30_9 : decode prog_6_method_19_code 9 = .ok (.ifCond .eq 27, 3) := by decide +kernel
theorem d_30_12 : decode prog_6_method_19_code 12 = .ok (.aload_n 0, 1) := by decide +kernel
theorem d_30_13 : decode prog_6_method_19_code 13 = .ok (.iload_n 1, 1) := by decide +kernel
theorem d_30_14 : decode prog_6_method_19_code 14 = .ok (.iload_n 2, 1) := by decide +kernel
theorem d_30_15 : decode prog_6_method_19_code 15 = .ok (.invokevirtual 104, 3) := by decide +kernel
theorem d_30_18 : decode prog_6_method_19_code 18 = .ok (.istore_n 3, 1) := by decide +kernel
theorem d_30_19 : decode prog_6_method_19_code 19 = .ok (.iload_n 3, 1) := by decide +kernel
theorem d_30_20 : decode prog_6_method_19_code 20 = .ok (.bipush 22, 2) := by decide +kernel
theorem d_30_22 : decode prog_6_method_19_code 22 = .ok (.if_icmp .ne 12, 3) := by decide +kernel
theorem d_30_25 : decode prog_6_method_19_code 25 = .ok (.aload_n 0, 1) := by decide +kernel
theorem d_30_26 : decode prog_6_method_19_code 26 = .ok (.iload_n 1, 1) := by decide +kernel
theorem d_30_27 : decode prog_6_method_19_code 27 = .ok (.iload_n 2, 1) := by decide +kernel
theorem d_30_28 : decode prog_6_method_19_code 28 = .ok (.invokevirtual 107, 3) := by decide +kernel
theorem d_30_31 : decode prog_6_method_19_code 31 = .ok (.goto 4, 3) := by decide +kernel
theorem d_30_34 : decode prog_6_method_19_code 34 = .ok (.iload_n 3, 1) := by decide +kernel
theorem d_30_35 : decode prog_6_method_19_code 35 = .ok (.ireturn, 1) := by decide +kernel
theorem d_30_36 : decode prog_6_method_19_code 36 = .ok (.aload_n 0, 1) := by decide +kernel
theorem d_30_37 : decode prog_6_method_19_code 37 = .ok (.getfield 9, 3) := by decide +kernel
theorem d_30_40 : decode prog_6_method_19_code 40 = .ok (.iload_n 1, 1) := by decide +kernel
theorem d_30_41 : decode prog_6_method_19_code 41 = .ok (.iaload, 1) := by decide +kernel
theorem d_30_42 : decode prog_6_method_19_code 42 = .ok (.invokestatic 101, 3) := by decide +kernel
theorem d_30_45 : decode prog_6_method_19_code 45 = .ok (.ifCond .eq 12, 3) := by decide +kernel
theorem d_30_48 : decode prog_6_method_19_code 48 = .ok (.aload_n 0, 1) := by decide +kernel
theorem d_30_49 : decode prog_6_method_19_code 49 = .ok (.iload_n 1, 1) := by decide +kernel
theorem d_30_50 : decode prog_6_method_19_code 50 = .ok (.iload_n 2, 1) := by decide +kernel
theorem d_30_51 : decode prog_6_method_19_code 51 = .ok (.invokevirtual 110, 3) := by decide +kernel
theorem d_30_54 : decode prog_6_method_19_code 54 = .ok (.goto 12, 3) := by decide +kernel
theorem d_30_57 : decode prog_6_method_19_code 57 = .ok (.aload_n 0, 1) := by decide +kernel
theorem d_30_58 : decode prog_6_method_19_code 58 = .ok (.getfield 9, 3) := by decide +kernel
theorem d_30_61 : decode prog_6_method_19_code 61 = .ok (.iload_n 1, 1) := by decide +kernel
theorem d_30_62 : decode prog_6_method_19_code 62 = .ok (.iaload, 1) := by decide +kernel
theorem d_30_63 : decode prog_6_method_19_code 63 = .ok (.invokestatic 113, 3) := by decide +kernel
theorem d_30_66 : decode prog_6_method_19_code 66 = .ok (.ireturn, 1) := by decide +kernel
theorem s_30_66 {Γ : m_G} : m_ok Γ m_tab 30 M_30 66 (g_30_66) := ok_ri (pc := 66) d_30_66 rfl
theorem s_30_57 {Γ : m_G} : m_ok Γ m_tab 30 M_30 57 (g_30_57) := ok_al_n (pc := 57) d_30_57 rfl (ok_getf (pc := 58) d_30_58 w_143 (hc1 fo_8) (ok_il_n (pc := 61) d_30_61 rfl (ok_iald (pc := 62) d_30_62 (ok_cat (pc := 63) (k2 := 35) rfl tb_35 (by decide) (by decide) rfl (go_S d_30_63 w_282 w_283 w_4 w_284 nn_35 (by decide)) (s_30_66)))))
theorem s_30_36 {Γ : m_G} : m_ok Γ m_tab 30 M_30 36 (g_30_36) := ok_al_n (pc := 36) d_30_36 rfl (ok_getf (pc := 37) d_30_37 w_143 (hc1 fo_8) (ok_il_n (pc := 40) d_30_40 rfl (ok_iald (pc := 41) d_30_41 (ok_cat (pc := 42) (k2 := 29) rfl tb_29 (by decide) (by decide) rfl (go_S d_30_42 w_245 w_246 w_4 w_247 nn_29 (by decide)) (ok_czeq (pc := 45) (t := 57) d_30_45 rfl (by decide) rfl (ok_al_n (pc := 48) d_30_48 rfl (ok_il_n (pc := 49) d_30_49 rfl (ok_il_n (pc := 50) d_30_50 rfl (ok_cai (pc := 51) (k2 := 31) rfl rfl tb_31 (by decide) (by decide) rfl (go_V d_30_51 w_278 w_280 ws_6 w_4 w_281 nn_31 (by decide) cl_4 rfl) (ok_go (pc := 54) (t := 66) d_30_54 rfl (by decide) rfl))))))))))
theorem s_30_35 {Γ : m_G} : m_ok Γ m_tab 30 M_30 35 (g_30_35) := ok_ri (pc := 35) d_30_35 rfl
theorem s_30_34 {Γ : m_G} : m_ok Γ m_tab 30 M_30 34 (g_30_34) := ok_il_n (pc := 34) d_30_34 rfl (s_30_35)
theorem s_30_0 {Γ : m_G} : m_ok Γ m_tab 30 M_30 0 (g_30_0) := ok_al_n (pc := 0) d_30_0 rfl (ok_getf (pc := 1) d_30_1 w_143 (hc1 fo_8) (ok_il_n (pc := 4) d_30_4 rfl (ok_iald (pc := 5) d_30_5 (ok_cat (pc := 6) (k2 := 28) rfl tb_28 (by decide) (by decide) rfl (go_S d_30_6 w_242 w_243 w_4 w_244 nn_28 (by decide)) (ok_czeq (pc := 9) (t := 36) d_30_9 rfl (by decide) rfl (ok_al_n (pc := 12) d_30_12 rfl (ok_il_n (pc := 13) d_30_13 rfl (ok_il_n (pc := 14) d_30_14 rfl (ok_cai (pc := 15) (k2 := 32) rfl rfl tb_32 (by decide) (by decide) rfl (go_V d_30_15 w_252 w_254 ws_3 w_4 w_255 nn_32 (by decide) cl_4 rfl) (ok_is_n (pc := 18) d_30_18 rfl (by decide) (ok_il_n (pc := 19) d_30_19 rfl (ok_bi (pc := 20) d_30_20 rfl (ok_cine (pc := 22) (t := 34) d_30_22 rfl (by decide) rfl (ok_al_n (pc := 25) d_30_25 rfl (ok_il_n (pc := 26) d_30_26 rfl (ok_il_n (pc := 27) d_30_27 rfl (ok_cai (pc := 28) (k2 := 33) rfl rfl tb_33 (by decide) (by decide) rfl (go_V d_30_28 w_268 w_270 ws_5 w_4 w_271 nn_33 (by decide) cl_4 rfl) (ok_go (pc := 31) (t := 35) d_30_31 rfl (by decide) rfl))))))))))))))))))
theorem tst_30 {Γ : m_G} (q : Nat) : m_ts Γ (t_30 q) q := ts_n (ts_n (ts_l (k := 30) (pc := 0) tb_30 rfl (by decide) s_30_0) (ts_n (ts_l (k := 30) (pc := 34) tb_30 rfl (by decide) s_30_34) (ts_l (k := 30) (pc := 35) tb_30 rfl (by decide) s_30_35))) (ts_n (ts_l (k := 30) (pc := 36) tb_30 rfl (by decide) s_30_36) (ts_n (ts_l (k := 30) (pc := 57) tb_30 rfl (by decide) s_30_57) (ts_l (k := 30) (pc := 66) tb_30 rfl (by decide) s_30_66)))
theorem d_31_0 : decode prog_6_method_20_code 0 = .ok (.iload_n 2, 1) := by decide +kernel
theorem d_31_1 : decode prog_6_method_20_code 1 = .ok (.iload_n 1, 1) := by decide +kernel
theorem d_31_2 : decode prog_6_method_20_code 2 = .ok (.isub, 1) := by decide +kernel
theorem d_31_3 : decode prog_6_method_20_code 3 = .ok (.iconst 4, 1) := by decide +kernel
theorem d_31_4 : decode prog_6_method_20_code 4 = .ok (.if_icmp .le 6, 3) := by decide +kernel
theorem d_31_7 : decode prog_6_method_20_code 7 = .ok (.bipush 22, 2) := by decide +kernel
theorem d_31_9 : decode prog_6_method_20_code 9 = .ok (.ireturn, 1) := by decide +kernel
theorem d_31_10 : decode prog_6_method_20_code 10 = .ok (.iconst 0, 1) := by decide +kernel
theorem d_31_11 : decode prog_6_method_20_code 11 = .ok (.istore_n 3, 1) := by decide +kernel
theorem d_31_12 : decode prog_6_method_20_code 12 = .ok (.iload_n 1, 1) := by decide +kernel
theorem d_31_13 : decode prog_6_method_20_code 13 = .ok (.istore 4, 2) := by decide +kernel
theorem d_31_15 : decode prog_6_method_20_code 15 = .ok (.iload 4, 2) := by decide +kernel
theorem d_31_17 : decode prog_6_method_20_code 17 = .ok (.iload_n 2, 1) := by decide +kernel
theorem d_31_18 : decode prog_6_method_20_code 18 = .ok (.if_icmp .ge 25, 3) := by decide +kernel
theorem d_31_21 : decode prog_6_method_20_code 21 = .ok (.iload_n 3, 1) := by decide +kernel
theorem d_31_22 : decode prog_6_method_20_code 22 = .ok (.bipush 10, 2) := by decide +kernel
theorem d_31_24 : decode prog_6_method_20_code 24 = .ok (.imul, 1) := by decide +kernel
theorem d_31_25 : decode prog_6_method_20_code 25 = .ok (.aload_n 0, 1) := by decide +kernel
theorem d_31_26 : decode prog_6_method_20_code 26 = .ok (.getfield 9, 3) := by decide +kernel
theorem d_31_29 : decode prog_6_method_20_code 29 = .ok (.iload 4, 2) := by decide +kernel
theorem d_31_31 : decode prog_6_method_20_code 31 = .ok (.iaload, 1) := by decide +kernel
theorem d_31_32 : decode prog_6_method_20_code 32 = .ok (.iadd, 1) := by decide +kernel
theorem d_31_33 : decode prog_6_method_20_code 33 = .ok (.bipush 48, 2) := by decide +kernel
theorem d_31_35 : decode prog_6_method_20_code 35 = .ok (.isub, 1) := by decide +kernel
theorem d_31_36 : decode prog_6_method_20_code 36 = .ok (.istore_n 3, 1) := by decide +kernel
theorem d_31_37 : decode prog_6_method_20_code 37 = .ok (.iinc 4 1, 3) := by decide +kernel
theorem d_31_40 : decode prog_6_method_20_code 40 = .ok (.goto (-25), 3) := by decide +kernel
theorem d_31_43 : decode prog_6_method_20_code 43 = .ok (.bipush 32, 2) := by decide +kernel
theorem d_31_45 : decode prog_6_method_20_code 45 = .ok (.iload_n 3, 1) := by decide +kernel
theorem d_31_46 : decode prog_6_method_20_code 46 = .ok (.iadd, 1) := by decide +kernel
theorem d_31_47 : decode prog_6_method_20_code 47 = .ok (.ireturn, 1) := by decide +kernel
theorem s_31_43 {Γ : m_G} : m_ok Γ m_tab 31 M_31 43 (g_31_43) := ok_bi (pc := 43) d_31_43 rfl (ok_il_n (pc := 45) d_31_45 rfl (ok_add (pc := 46) d_31_46 (ok_ri (pc := 47) d_31_47 rfl)))
theorem s_31_15 {Γ : m_G} : m_ok Γ m_tab 31 M_31 15 (g_31_15) := ok_il (pc := 15) d_31_15 (ok_il_n (pc := 17) d_31_17 rfl (ok_cige (pc := 18) (t := 43) d_31_18 rfl (by decide) rfl (ok_il_n (pc := 21) d_31_21 rfl (ok_bi (pc := 22) d_31_22 rfl (ok_mul (pc := 24) d_31_24 (ok_al_n (pc := 25) d_31_25 rfl (ok_getf (pc := 26) d_31_26 w_143 (hc1 fo_8) (ok_il (pc := 29) d_31_29 (ok_iald (pc := 31) d_31_31 (ok_add (pc := 32) d_31_32 (ok_bi (pc := 33) d_31_33 rfl (ok_sub (pc := 35) d_31_35 (ok_is_n (pc := 36) d_31_36 rfl (by decide) (ok_inc (pc := 37) d_31_37 rfl (by decide) (ok_go (pc := 40) (t := 15) d_31_40 rfl (by decide) rfl)))))))))))))))
theorem s_31_10 {Γ : m_G} : m_ok Γ m_tab 31 M_31 10 (g_31_10) := ok_ic (pc := 10) d_31_10 rfl (ok_is_n (pc := 11) d_31_11 rfl (by decide) (ok_il_n (pc := 12) d_31_12 rfl (ok_is (pc := 13) d_31_13 (by decide) (s_31_15))))
theorem s_31_0 {Γ : m_G} : m_ok Γ m_tab 31 M_31 0 (g_31_0) := ok_il_n (pc := 0) d_31_0 rfl (ok_il_n (pc := 1) d_31_1 rfl (ok_sub (pc := 2) d_31_2 (ok_ic (pc := 3) d_31_3 rfl (ok_cile (pc := 4) (t := 10) d_31_4 rfl (by decide) rfl (ok_bi (pc := 7) d_31_7 rfl (ok_ri (pc := 9) d_31_9 rfl))))))
theorem tst_31 {Γ : m_G} (q : Nat) : m_ts Γ (t_31 q) q := ts_n (ts_n (ts_l (k := 31) (pc := 0) tb_31 rfl (by decide) s_31_0) (ts_l (k := 31) (pc := 10) tb_31 rfl (by decide) s_31_10)) (ts_n (ts_l (k := 31) (pc := 15) tb_31 rfl (by decide) s_31_15) (ts_l (k := 31) (pc := 43) tb_31 rfl (by decide) s_31_43))
theorem d_32_0 : decode prog_6_method_21_code 0 = .ok (.aload_n 0, 1) := by decide +kernel
theorem d_32_1 : decode prog_6_method_21_code 1 = .ok (.ldc 116, 2) := by decide +kernel
theorem d_32_3 : decode prog_6_method_21_code 3 = .ok (.iload_n 1, 1) := by decide +kernel
theorem d_32_4 : decode prog_6_method_21_code 4 = .ok (.iload_n 2, 1) := by decide +kernel
theorem d_32_5 : decode prog_6_method_21_code 5 = .ok (.invokevirtual 118, 3) := by decide +kernel
theorem d_32_8 : decode prog_6_method_21_code 8 = .ok (.ifCond .eq 6, 3) := by decide +kernel
theorem d_32_11 : decode prog_6_method_21_code 11 = .ok (.bipush 15, 2) := by decide +kernel
theorem d_32_13 : decode prog_6_method_21_code 13 = .ok (.ireturn, 1) := by decide +kernel
theorem d_32_14 : decode prog_6_method_21_code 14 = .ok (.aload_n 0, 1) := by decide +kernel
theorem d_32_15 : decode prog_6_method_21_code 15 = .ok (.ldc 122, 2) := by decide +kernel
theorem d_32_17 : decode prog_6_method_21_code 17 = .ok (.iload_n 1, 1) := by decide +kernel
theorem d_32_18 : decode prog_6_method_21_code 18 = .ok (.iload_n 2, 1) := by decide +kernel
theorem d_32_19 : decode prog_6_method_21_code 19 = .ok (.invokevirtual 118, 3) := by decide +kernel
theorem d_32_22 : decode prog_6_method_21_code 22 = .ok (.ifCond .eq 6, 3) := by decide +kernel
theorem d_32_25 : decode prog_6_method_21_code 25 = .ok (.bipush 16, 2) := by decide +kernel
theorem d_32_27 : decode prog_6_method_21_code 27 = .ok (.ireturn, 1) := by decide +kernel
theorem d_32_28 : decode prog_6_method_21_code 28 = .ok (.aload_n 0, 1) := by decide +kernel
theorem d_32_29 : decode prog_6_method_21_code 29 = .ok (.ldc 124, 2) := by decide +kernel
theorem d_32_31 : decode prog_6_method_21_code 31 = .ok (.iload_n 1, 1) := by decide +kernel
theorem d_32_32 : decode prog_6_method_21_code 32 = .ok (.iload_n 2, 1) := by decide +kernel
theorem d_32_33 : decode prog_6_method_21_code 33 = .ok (.invokevirtual 118, 3) := by decide +kernel
theorem d_32_36 : decode prog_6_method_21_code 36 = .ok (.ifCond .eq 6, 3) := by decide +kernel
theorem d_32_39 : decode prog_6_method_21_code 39 = .ok (.bipush 17, 2) := by decide +kernel
theorem d_32_41 : decode prog_6_method_21_code 41 = .ok (.ireturn, 1) := by decide +kernel
theorem d_32_42 : decode prog_6_method_21_code 42 = .ok (.aload_n 0, 1) := by decide +kernel
theorem d_32_43 : decode prog_6_method_21_code 43 = .ok (.ldc 126, 2) := by decide +kernel
theorem d_32_45 : decode prog_6_method_21_code 45 = .ok (.iload_n 1, 1) := by decide +kernel
theorem d_32_46 : decode prog_6_method_21_code 46 = .ok (.iload_n 2, 1) := by decide +kernel
theorem d_32_47 : decode prog_6_method_21_code 47 = .ok (.invokevirtual 118, 3) := by decide +kernel
theorem d_32_50 : decode prog_6_method_21_code 50 = .ok (.ifCond .eq 6, 3) := by decide +kernel
theorem d_32_53 : decode prog_6_method_21_code 53 = .ok (.bipush 6, 2) := by decide +kernel
theorem d_32_55 : decode prog_6_method_21_code 55 = .ok (.ireturn, 1) := by decide +kernel
theorem d_32_56 : decode prog_6_method_21_code 56 = .ok (.aload_n 0, 1) := by decide +kernel
theorem d_32_57 : decode prog_6_method_21_code 57 = .ok (.ldc 128, 2) := by decide +kernel
theorem d_32_59 : decode prog_6_method_21_code 59 = .ok (.iload_n 1, 1) := by decide +kernel
theorem d_32_60 : decode prog_6_method_21_code 60 = .ok (.iload_n 2, 1) := by decide +kernel
theorem d_32_61 : decode prog_6_method_21_code 61 = .ok (.invokevirtual 118, 3) := by decide +kernel
theorem d_32_64 : decode prog_6_method_21_code 64 = .ok (.ifCond .eq 6, 3) := by decide +kernel
theorem d_32_67 : decode prog_6_method_21_code 67 = .ok (.bipush 7, 2) := by decide +kernel
theorem d_32_69 : decode prog_6_method_21_code 69 = .ok (.ireturn, 1) := by decide +kernel
theorem d_32_70 : decode prog_6_method_21_code 70 = .ok (.aload_n 0, 1) := by decide +kernel
theorem d_32_71 : decode prog_6_method_21_code 71 = .ok (.ldc 130, 2) := by decide +kernel
theorem d_32_73 : decode prog_6_method_21_code 73 = .ok (.iload_n 1, 1) := by decide +kernel
theorem d_32_74 : decode prog_6_method_21_code 74 = .ok (.iload_n 2, 1) := by decide +kernel
theorem d_32_75 : decode prog_6_method_21_code 75 = .ok (.invokevirtual 118, 3) := by decide +kernel
theorem d_32_78 : decode prog_6_method_21_code 78 = .ok (.ifCond .eq 8, 3) := by decide +kernel
theorem d_32_81 : decode prog_6_method_21_code 81 = .ok (.bipush 8, 2) := by decide +kernel
theorem d_32_83 : decode prog_6_method_21_code 83 = .ok (.goto 5, 3) := by decide +kernel
theorem d_32_86 : decode prog_6_method_21_code 86 = .ok (.bipush 22, 2) := by decide +kernel
theorem d_32_88 : decode prog_6_method_21_code 88 = .ok (.ireturn, 1) := by decide +kernel
theorem s_32_88 {Γ : m_G} : m_ok Γ m_tab 32 M_32 88 (g_32_88) := ok_ri (pc := 88) d_32_88 rfl
theorem s_32_86 {Γ : m_G} : m_ok Γ m_tab 32 M_32 86 (g_32_86) := ok_bi (pc := 86) d_32_86 rfl (s_32_88)
theorem s_32_70 {Γ : m_G} : m_ok Γ m_tab 32 M_32 70 (g_32_70) := ok_al_n (pc := 70) d_32_70 rfl (ok_str (j := 6) (pc := 71) d_32_71 rfl (ok_il_n (pc := 73) d_32_73 rfl (ok_il_n (pc := 74) d_32_74 rfl (ok_cai (pc := 75) (k2 := 34) rfl rfl tb_34 (by decide) (by decide) rfl (go_V d_32_75 w_257 w_259 ws_4 w_4 w_260 nn_34 (by decide) cl_4 rfl) (ok_czeq (pc := 78) (t := 86) d_32_78 rfl (by decide) rfl (ok_bi (pc := 81) d_32_81 rfl (ok_go (pc := 83) (t := 88) d_32_83 rfl (by decide) rfl)))))))
theorem s_32_56 {Γ : m_G} : m_ok Γ m_tab 32 M_32 56 (g_32_56) := ok_al_n (pc := 56) d_32_56 rfl (ok_str (j := 5) (pc := 57) d_32_57 rfl (ok_il_n (pc := 59) d_32_59 rfl (ok_il_n (pc := 60) d_32_60 rfl (ok_cai (pc := 61) (k2 := 34) rfl rfl tb_34 (by decide) (by decide) rfl (go_V d_32_61 w_257 w_259 ws_4 w_4 w_260 nn_34 (by decide) cl_4 rfl) (ok_czeq (pc := 64) (t := 70) d_32_64 rfl (by decide) rfl (ok_bi (pc := 67) d_32_67 rfl (ok_ri (pc := 69) d_32_69 rfl)))))))
theorem s_32_42 {Γ : m_G} : m_ok Γ m_tab 32 M_32 42 (g_32_42) := ok_al_n (pc := 42) d_32_42 rfl (ok_str (j := 4) (pc := 43) d_32_43 rfl (ok_il_n (pc := 45) d_32_45 rfl (ok_il_n (pc := 46) d_32_46 rfl (ok_cai (pc := 47) (k2 := 34) rfl rfl tb_34 (by decide) (by decide) rfl (go_V d_32_47 w_257 w_259 ws_4 w_4 w_260 nn_34 (by decide) cl_4 rfl) (ok_czeq (pc := 50) (t := 56) d_32_50 rfl (by decide) rfl (ok_bi (pc := 53) d_32_53 rfl (ok_ri (pc := 55) d_32_55 rfl)))))))
theorem s_32_28 {Γ : m_G} : m_ok Γ m_tab 32 M_32 28 (g_32_28) := ok_al_n (pc := 28) d_32_28 rfl (ok_str (j := 3) (pc := 29) d_32_29 rfl (ok_il_n (pc := 31) d_32_31 rfl (ok_il_n (pc := 32) d_32_32 rfl (ok_cai (pc := 33) (k2 := 34) rfl rfl tb_34 (by decide) (by decide) rfl (go_V d_32_33 w_257 w_259 ws_4 w_4 w_260 nn_34 (by decide) cl_4 rfl) (ok_czeq (pc := 36) (t := 42) d_32_36 rfl (by decide) rfl (ok_bi (pc := 39) d_32_39 rfl (ok_ri (pc := 41) d_32_41 rfl)))))))
theorem s_32_14 {Γ : m_G} : m_ok Γ m_tab 32 M_32 14 (g_32_14) := ok_al_n (pc := 14) d_32_14 rfl (ok_str (j := 2) (pc := 15) d_32_15 rfl (ok_il_n (pc := 17) d_32_17 rfl (ok_il_n (pc := 18) d_32_18 rfl (ok_cai (pc := 19) (k2 := 34) rfl rfl tb_34 (by decide) (by decide) rfl (go_V d_32_19 w_257 w_259 ws_4 w_4 w_260 nn_34 (by decide) cl_4 rfl) (ok_czeq (pc := 22) (t := 28) d_32_22 rfl (by decide) rfl (ok_bi (pc := 25) d_32_25 rfl (ok_ri (pc := 27) d_32_27 rfl)))))))
theorem s_32_0 {Γ : m_G} : m_ok Γ m_tab 32 M_32 0 (g_32_0) := ok_al_n (pc := 0) d_32_0 rfl (ok_str (j := 1) (pc := 1) d_32_1 rfl (ok_il_n (pc := 3) d_32_3 rfl (ok_il_n (pc := 4) d_32_4 rfl (ok_cai (pc := 5) (k2 := 34) rfl rfl tb_34 (by decide) (by decide) rfl (go_V d_32_5 w_257 w_259 ws_4 w_4 w_260 nn_34 (by decide) cl_4 rfl) (ok_czeq (pc := 8) (t := 14) d_32_8 rfl (by decide) rfl (ok_bi (pc := 11) d_32_11 rfl (ok_ri (pc := 13) d_32_13 rfl)))))))
theorem tst_32 {Γ : m_G} (q : Nat) : m_ts Γ (t_32 q) q := ts_n (ts_n (ts_n (ts_l (k := 32) (pc := 0) tb_32 rfl (by decide) s_32_0) (ts_l (k := 32) (pc := 14) tb_32 rfl (by decide) s_32_14)) (ts_n (ts_l (k := 32) (pc := 28) tb_32 rfl (by decide) s_32_28) (ts_l (k := 32) (pc := 42) tb_32 rfl (by decide) s_32_42))) (ts_n (ts_n (ts_l (k := 32) (pc := 56) tb_32 rfl (by decide) s_32_56) (ts_l (k := 32) (pc := 70) tb_32 rfl (by decide) s_32_70)) (ts_n (ts_l (k := 32) (pc := 86) tb_32 rfl (by decide) s_32_86) (ts_l (k := 32) (pc := 88) tb_32 rfl (by decide) s_32_88)))
theorem d_33_0 : decode prog_6_method_22_code 0 = .ok (.aload_n 0, 1) := by decide +kernel
theorem d_33_1 : decode prog_6_method_22_code 1 = .ok (.ldc 132, 2) := by decide +kernel
theorem d_33_3 : decode prog_6_method_22_code 3 = .ok (.iload_n 1, 1) := by decide +kernel
theorem d_33_4 : decode prog_6_method_22_code 4 = .ok (.iload_n 2, 1) := by decide +kernel
theorem d_33_5 : decode prog_6_method_22_code 5 = .ok (.invokevirtual 118, 3) := by decide +kernel
theorem d_33_8 : decode prog_6_method_22_code 8 = .ok (.ifCond .eq 5, 3) := by decide +kernel
theorem d_33_11 : decode prog_6_method_22_code 11 = .ok (.iconst 0, 1) := by decide +kernel
theorem d_33_12 : decode prog_6_method_22_code 12 = .ok (.ireturn, 1) := by decide +kernel
theorem d_33_13 : decode prog_6_method_22_code 13 = .ok (.aload_n 0, 1) := by decide +kernel
theorem d_33_14 : decode prog_6_method_22_code 14 = .ok (.ldc 134, 2) := by decide +kernel
theorem d_33_16 : decode prog_6_method_22_code 16 = .ok (.iload_n 1, 1) := by decide +kernel
theorem d_33_17 : decode prog_6_method_22_code 17 = .ok (.iload_n 2, 1) := by decide +kernel
theorem d_33_18 : decode prog_6_method_22_code 18 = .ok (.invokevirtual 118, 3) := by decide +kernel
theorem d_33_21 : decode prog_6_method_22_code 21 = .ok (.ifCond .eq 5, 3) := by decide +kernel
theorem d_33_24 : decode prog_6_method_22_code 24 = .ok (.iconst 1, 1) := by decide +kernel
theorem d_33_25 : decode prog_6_method_22_code 25 = .ok (.ireturn, 1) := by decide +kernel
theorem d_33_26 : decode prog_6_method_22_code 26 = .ok (.aload_n 0, 1) := by decide +kernel
theorem d_33_27 : decode prog_6_method_22_code 27 = .ok (.ldc 136, 2) := by decide +kernel
theorem d_33_29 : decode prog_6_method_22_code 29 = .ok (.iload_n 1, 1) := by decide +kernel
theorem d_33_30 : decode prog_6_method_22_code 30 = .ok (.iload_n 2, 1) := by decide +kernel
theorem d_33_31 : decode prog_6_method_22_code 31 = .ok (.invokevirtual 118, 3) := by decide +kernel
theorem d_33_34 : decode prog_6_method_22_code 34 = .ok (.ifCond .eq 5, 3) := by decide +kernel
theorem d_33_37 : decode prog_6_method_22_code 37 = .ok (.iconst 2, 1) := by decide +kernel
theorem d_33_38 : decode prog_6_method_22_code 38 = .ok (.ireturn, 1) := by decide +kernel
theorem d_33_39 : decode prog_6_method_22_code 39 = .ok (.aload_n 0, 1) := by decide +kernel
theorem d_33_40 : decode prog_6_method_22_code 40 = .ok (.ldc 138, 2) := by decide +kernel
theorem d_33_42 : decode prog_6_method_22_code 42 = .ok (.iload_n 1, 1) := by decide +kernel
theorem d_33_43 : decode prog_6_method_22_code 43 = .ok (.iload_n 2, 1) := by decide +kernel
theorem d_33_44 : decode prog_6_method_22_code 44 = .ok (.invokevirtual 118, 3) := by decide +kernel
theorem d_33_47 : decode prog_6_method_22_code 47 = .ok (.ifCond .eq 5, 3) := by decide +kernel
theorem d_33_50 : decode prog_6_method_22_code 50 = .ok (.iconst 3, 1) := by decide +kernel
theorem d_33_51 : decode prog_6_method_22_code 51 = .ok (.ireturn, 1) := by decide +kernel
theorem d_33_52 : decode prog_6_method_22_code 52 = .ok (.aload_n 0, 1) := by decide +kernel
theorem d_33_53 : decode prog_6_method_22_code 53 = .ok (.ldc 140, 2) := by decide +kernel
theorem d_33_55 : decode prog_6_method_22_code 55 = .ok (.iload_n 1, 1) := by decide +kernel
theorem d_33_56 : decode prog_6_method_22_code 56 = .ok (.iload_n 2, 1) := by decide +kernel
theorem d_33_57 : decode prog_6_method_22_code 57 = .ok (.invokevirtual 118, 3) := by decide +kernel
theorem d_33_60 : decode prog_6_method_22_code 60 = .ok (.ifCond .eq 5, 3) := by decide +kernel
theorem d_33_63 : decode prog_6_method_22_code 63 = .ok (.iconst 4, 1) := by decide +kernel
theorem d_33_64 : decode prog_6_method_22_code 64 = .ok (.ireturn, 1) := by decide +kernel
theorem d_33_65 : decode prog_6_method_22_code 65 = .ok (.aload_n 0, 1) := by decide +kernel
theorem d_33_66 : decode prog_6_method_22_code 66 = .ok (.ldc 142, 2) := by decide +kernel
theorem d_33_68 : decode prog_6_method_22_code 68 = .ok (.iload_n 1, 1) := by decide +kernel
theorem d_33_69 : decode prog_6_method_22_code 69 = .ok (.iload_n 2, 1) := by decide +kernel
theorem d_33_70 : decode prog_6_method_22_code 70 = .ok (.invokevirtual 118, 3) := by decide +kernel
theorem d_33_73 : decode prog_6_method_22_code 73 = .ok (.ifCond .eq 7, 3) := by decide +kernel
theorem d_33_76 : decode prog_6_method_22_code 76 = .ok (.iconst 5, 1) := by decide +kernel
theorem d_33_77 : decode prog_6_method_22_code 77 = .ok (.goto 5, 3) := by decide +kernel
theorem d_33_80 : decode prog_6_method_22_code 80 = .ok (.bipush 22, 2) := by decide +kernel
theorem d_33_82 : decode prog_6_method_22_code 82 = .ok (.ireturn, 1) := by decide +kernel
theorem s_33_82 {Γ : m_G} : m_ok Γ m_tab 33 M_33 82 (g_33_82) := ok_ri (pc := 82) d_33_82 rfl
theorem s_33_80 {Γ : m_G} : m_ok Γ m_tab 33 M_33 80 (g_33_80) := ok_bi (pc := 80) d_33_80 rfl (s_33_82)
theorem s_33_65 {Γ : m_G} : m_ok Γ m_tab 33 M_33 65 (g_33_65) := ok_al_n (pc := 65) d_33_65 rfl (ok_str (j := 12) (pc := 66) d_33_66 rfl (ok_il_n (pc := 68) d_33_68 rfl (ok_il_n (pc := 69) d_33_69 rfl (ok_cai (pc := 70) (k2 := 34) rfl rfl tb_34 (by decide) (by decide) rfl (go_V d_33_70 w_257 w_259 ws_4 w_4 w_260 nn_34 (by decide) cl_4 rfl) (ok_czeq (pc := 73) (t := 80) d_33_73 rfl (by decide) rfl (ok_ic (pc := 76) d_33_76 rfl (ok_go (pc := 77) (t := 82) d_33_77 rfl (by decide) rfl)))))))
theorem s_33_52 {Γ : m_G} : m_ok Γ m_tab 33 M_33 52 (g_33_52) := ok_al_n (pc := 52) d_33_52 rfl (ok_str (j := 11) (pc := 53) d_33_53 rfl (ok_il_n (pc := 55) d_33_55 rfl (ok_il_n (pc := 56) d_33_56 rfl (ok_cai (pc := 57) (k2 := 34) rfl rfl tb_34 (by decide) (by decide) rfl (go_V d_33_57 w_257 w_259 ws_4 w_4 w_260 nn_34 (by decide) cl_4 rfl) (ok_czeq (pc := 60) (t := 65) d_33_60 rfl (by decide) rfl (ok_ic (pc := 63) d_33_63 rfl (ok_ri (pc := 64) d_33_64 rfl)))))))
theorem s_33_39 {Γ : m_G} : m_ok Γ m_tab 33 M_33 39 (g_33_39) := ok_al_n (pc := 39) d_33_39 rfl (ok_str (j := 10) (pc := 40) d_33_40 rfl (ok_il_n (pc := 42) d_33_42 rfl (ok_il_n (pc := 43) d_33_43 rfl (ok_cai (pc := 44) (k2 := 34) rfl rfl tb_34 (by decide) (by decide) rfl (go_V d_33_44 w_257 w_259 ws_4 w_4 w_260 nn_34 (by decide) cl_4 rfl) (ok_czeq (pc := 47) (t := 52) d_33_47 rfl (by decide) rfl (ok_ic (pc := 50) d_33_50 rfl (ok_ri (pc := 51) d_33_51 rfl)))))))
theorem s_33_26 {Γ : m_G} : m_ok Γ m_tab 33 M_33 26 (g_33_26) := ok_al_n (pc := 26) d_33_26 rfl (ok_str (j := 9) (pc := 27) d_33_27 rfl (ok_il_n (pc := 29) d_33_29 rfl (ok_il_n (pc := 30) d_33_30 rfl (ok_cai (pc := 31) (k2 := 34) rfl rfl tb_34 (by decide) (by decide) rfl (go_V d_33_31 w_257 w_259 ws_4 w_4 w_260 nn_34 (by decide) cl_4 rfl) (ok_czeq (pc := 34) (t := 39) d_33_34 rfl (by decide) rfl (ok_ic (pc := 37) d_33_37 rfl (ok_ri (pc := 38) d_33_38 rfl)))))))
theorem s_33_13 {Γ : m_G} : m_ok Γ m_tab 33 M_33 13 (g_33_13) := ok_al_n (pc := 13) d_33_13 rfl (ok_str (j := 8) (pc := 14) d_33_14 rfl (ok_il_n (pc := 16) d_33_16 rfl (ok_il_n (pc := 17) d_33_17 rfl (ok_cai (pc := 18) (k2 := 34) rfl rfl tb_34 (by decide) (by decide) rfl (go_V d_33_18 w_257 w_259 ws_4 w_4 w_260 nn_34 (by decide) cl_4 rfl) (ok_czeq (pc := 21) (t := 26) d_33_21 rfl (by decide) rfl (ok_ic (pc := 24) d_33_24 rfl (ok_ri (pc := 25) d_33_25 rfl)))))))
theorem s_33_0 {Γ : m_G} : m_ok Γ m_tab 33 M_33 0 (g_33_0) := ok_al_n (pc := 0) d_33_0 rfl (ok_str (j := 7) (pc := 1) d_33_1 rfl (ok_il_n (pc := 3) d_33_3 rfl (ok_il_n (pc := 4) d_33_4 rfl (ok_cai (pc := 5) (k2 := 34) rfl rfl tb_34 (by decide) (by decide) rfl (go_V d_33_5 w_257 w_259 ws_4 w_4 w_260 nn_34 (by decide) cl_4 rfl) (ok_czeq (pc := 8) (t := 13) d_33_8 rfl (by decide) rfl (ok_ic (pc := 11) d_33_11 rfl (ok_ri (pc := 12) d_33_12 rfl)))))))
theorem tst_33 {Γ : m_G} (q : Nat) : m_ts Γ (t_33 q) q := ts_n (ts_n (ts_n (ts_l (k := 33) (pc := 0) tb_33 rfl (by decide) s_33_0) (ts_l (k := 33) (pc := 13) tb_33 rfl (by decide) s_33_13)) (ts_n (ts_l (k := 33) (pc := 26) tb_33 rfl (by decide) s_33_26) (ts_l (k := 33) (pc := 39) tb_33 rfl (by decide) s_33_39))) (ts_n (ts_n (ts_l (k := 33) (pc := 52) tb_33 rfl (by decide) s_33_52) (ts_l (k := 33) (pc := 65) tb_33 rfl (by decide) s_33_65)) (ts_n (ts_l (k := 33) (pc := 80) tb_33 rfl (by decide) s_33_80) (ts_l (k := 33) (pc := 82) tb_33 rfl (by decide) s_33_82)))
theorem d_34_0 : decode prog_6_method_23_code 0 = .ok (.iload_n 3, 1) := by decide +kernel
theorem d_34_1 : decode prog_6_method_23_code 1 = .ok (.iload_n 2, 1) := by decide +kernel
theorem d_34_2 : decode prog_6_method_23_code 2 = .ok (.isub, 1) := by decide +kernel
theorem d_34_3 : decode prog_6_method_23_code 3 = .ok (.aload_n 1, 1) := by decide +kernel
theorem d_34_4 : decode prog_6_method_23_code 4 = .ok (.invokevirtual 144, 3) := by decide +kernel
theorem d_34_7 : decode prog_6_method_23_code 7 = .ok (.if_icmp .eq 5, 3) := by decide +kernel
theorem d_34_10 : decode prog_6_method_23_code 10 = .ok (.iconst 0, 1) := by decide +kernel
theorem d_34_11 : decode prog_6_method_23_code 11 = .ok (.ireturn, 1) := by decide +kernel
theorem d_34_12 : decode prog_6_method_23_code 12 = .ok (.iconst 0, 1) := by decide +kernel
theorem d_34_13 : decode prog_6_method_23_code 13 = .ok (.istore 4, 2) := by decide +kernel
theorem d_34_15 : decode prog_6_method_23_code 15 = .ok (.iload 4, 2) := by decide +kernel
theorem d_34_17 : decode prog_6_method_23_code 17 = .ok (.aload_n 1, 1) := by decide +kernel
theorem d_34_18 : decode prog_6_method_23_code 18 = .ok (.invokevirtual 144, 3) := by decide +kernel
theorem d_34_21 : decode prog_6_method_23_code 21 = .ok (.if_icmp .ge 29, 3) := by decide +kernel
theorem d_34_24 : decode prog_6_method_23_code 24 = .ok (.aload_n 0, 1) := by decide +kernel
theorem d_34_25 : decode prog_6_method_23_code 25 = .ok (.getfield 9, 3) := by decide +kernel
theorem d_34_28 : decode prog_6_method_23_code 28 = .ok (.iload_n 2, 1) := by decide +kernel
theorem d_34_29 : decode prog_6_method_23_code 29 = .ok (.iload 4, 2) := by decide +kernel
theorem d_34_31 : decode prog_6_method_23_code 31 = .ok (.iadd, 1) := by decide +kernel
theorem d_34_32 : decode prog_6_method_23_code 32 = .ok (.iaload, 1) := by decide +kernel
theorem d_34_33 : decode prog_6_method_23_code 33 = .ok (.aload_n 1, 1) := by decide +kernel
theorem d_34_34 : decode prog_6_method_23_code 34 = .ok (.iload 4, 2) := by decide +kernel
theorem d_34_36 : decode prog_6_method_23_code 36 = .ok (.invokevirtual 150, 3) := by decide +kernel
theorem d_34_39 : decode prog_6_method_23_code 39 = .ok (.if_icmp .eq 5, 3) := by decide +kernel
theorem d_34_42 : decode prog_6_method_23_code 42 = .ok (.iconst 0, 1) := by decide +kernel
theorem d_34_43 : decode prog_6_method_23_code 43 = .ok (.ireturn, 1) := by decide +kernel
theorem d_34_44 : decode prog_6_method_23_code 44 = .ok (.iinc 4 1, 3) := by decide +kernel
theorem d_34_47 : decode prog_6_method_23_code 47 = .ok (.goto (-32), 3) := by decide +kernel
theorem d_34_50 : decode prog_6_method_23_code 50 = .ok (.iconst 1, 1) := by decide +kernel
theorem d_34_51 : decode prog_6_method_23_code 51 = .ok (.ireturn, 1) := by decide +kernel
theorem s_34_50 {Γ : m_G} : m_ok Γ m_tab 34 M_34 50 (g_34_50) := ok_ic (pc := 50) d_34_50 rfl (ok_rz (pc := 51) d_34_51 rfl)
theorem s_34_44 {Γ : m_G} : m_ok Γ m_tab 34 M_34 44 (g_34_44) := ok_inc (pc := 44) d_34_44 rfl (by decide) (ok_go (pc := 47) (t := 15) d_34_47 rfl (by decide) rfl)
theorem s_34_15 {Γ : m_G} : m_ok Γ m_tab 34 M_34 15 (g_34_15) := ok_il (pc := 15) d_34_15 (ok_al_n (pc := 17) d_34_17 rfl (ok_sl (pc := 18) d_34_18 w_261 (ok_cige (pc := 21) (t := 50) d_34_21 rfl (by decide) rfl (ok_al_n (pc := 24) d_34_24 rfl (ok_getf (pc := 25) d_34_25 w_143 (hc1 fo_8) (ok_il_n (pc := 28) d_34_28 rfl (ok_il (pc := 29) d_34_29 (ok_add (pc := 31) d_34_31 (ok_iald (pc := 32) d_34_32 (ok_al_n (pc := 33) d_34_33 rfl (ok_il (pc := 34) d_34_34 (ok_sch (pc := 36) d_34_36 w_262 (ok_cieq (pc := 39) (t := 44) d_34_39 rfl (by decide) rfl (ok_ic (pc := 42) d_34_42 rfl (ok_rz (pc := 43) d_34_43 rfl)))))))))))))))
theorem s_34_12 {Γ : m_G} : m_ok Γ m_tab 34 M_34 12 (g_34_12) := ok_ic (pc := 12) d_34_12 rfl (ok_is (pc := 13) d_34_13 (by decide) (s_34_15))
theorem s_34_0 {Γ : m_G} : m_ok Γ m_tab 34 M_34 0 (g_34_0) := ok_il_n (pc := 0) d_34_0 rfl (ok_il_n (pc := 1) d_34_1 rfl (ok_sub (pc := 2) d_34_2 (ok_al_n (pc := 3) d_34_3 rfl (ok_sl (pc := 4) d_34_4 w_261 (ok_cieq (pc := 7) (t := 12) d_34_7 rfl (by decide) rfl (ok_ic (pc := 10) d_34_10 rfl (ok_rz (pc := 11) d_34_11 rfl)))))))
theorem tst_34 {Γ : m_G} (q : Nat) : m_ts Γ (t_34 q) q := ts_n (ts_n (ts_l (k := 34) (pc := 0) tb_34 rfl (by decide) s_34_0) (ts_l (k := 34) (pc := 12) tb_34 rfl (by decide) s_34_12)) (ts_n (ts_l (k := 34) (pc := 15) tb_34 rfl (by decide) s_34_15) (ts_n (ts_l (k := 34) (pc := 44) tb_34 rfl (by decide) s_34_44) (ts_l (k := 34) (pc := 50) tb_34 rfl (by decide) s_34_50)))
theorem d_35_0 : decode prog_6_method_24_code 0 = .ok (.iload_n 0, 1) := by decide +kernel
theorem d_35_1 : decode prog_6_method_24_code 1 = .ok (.tableswitch 127 40 61 #[103, 106, 118, 112, 127, 115, 127, 127, 127, 127, 127, 127, 127, 127, 127, 127, 127, 127, 127, 109, 121, 124], 103) := by decide +kernel
theorem d_35_104 : decode prog_6_method_24_code 104 = .ok (.bipush 18, 2) := by decide +kernel
theorem d_35_106 : decode prog_6_method_24_code 106 = .ok (.ireturn, 1) := by decide +kernel
theorem d_35_107 : decode prog_6_method_24_code 107 = .ok (.bipush 19, 2) := by decide +kernel
theorem d_35_109 : decode prog_6_method_24_code 109 = .ok (.ireturn, 1) := by decide +kernel
theorem d_35_110 : decode prog_6_method_24_code 110 = .ok (.bipush 20, 2) := by decide +kernel
theorem d_35_112 : decode prog_6_method_24_code 112 = .ok (.ireturn, 1) := by decide +kernel
theorem d_35_113 : decode prog_6_method_24_code 113 = .ok (.bipush 11, 2) := by decide +kernel
theorem d_35_115 : decode prog_6_method_24_code 115 = .ok (.ireturn, 1) := by decide +kernel
theorem d_35_116 : decode prog_6_method_24_code 116 = .ok (.bipush 12, 2) := by decide +kernel
theorem d_35_118 : decode prog_6_method_24_code 118 = .ok (.ireturn, 1) := by decide +kernel
theorem d_35_119 : decode prog_6_method_24_code 119 = .ok (.bipush 13, 2) := by decide +kernel
theorem d_35_121 : decode prog_6_method_24_code 121 = .ok (.ireturn, 1) := by decide +kernel
theorem d_35_122 : decode prog_6_method_24_code 122 = .ok (.bipush 9, 2) := by decide +kernel
theorem d_35_124 : decode prog_6_method_24_code 124 = .ok (.ireturn, 1) := by decide +kernel
theorem d_35_125 : decode prog_6_method_24_code 125 = .ok (.bipush 10, 2) := by decide +kernel
theorem d_35_127 : decode prog_6_method_24_code 127 = .ok (.ireturn, 1) := by decide +kernel
theorem d_35_128 : decode prog_6_method_24_code 128 = .ok (.bipush 22, 2) := by decide +kernel
theorem d_35_130 : decode prog_6_method_24_code 130 = .ok (.ireturn, 1) := by decide +kernel
theorem s_35_128 {Γ : m_G} : m_ok Γ m_tab 35 M_35 128 (g_35_128) := ok_bi (pc := 128) d_35_128 rfl (ok_ri (pc := 130) d_35_130 rfl)
theorem s_35_125 {Γ : m_G} : m_ok Γ m_tab 35 M_35 125 (g_35_125) := ok_bi (pc := 125) d_35_125 rfl (ok_ri (pc := 127) d_35_127 rfl)
theorem s_35_122 {Γ : m_G} : m_ok Γ m_tab 35 M_35 122 (g_35_122) := ok_bi (pc := 122) d_35_122 rfl (ok_ri (pc := 124) d_35_124 rfl)
theorem s_35_119 {Γ : m_G} : m_ok Γ m_tab 35 M_35 119 (g_35_119) := ok_bi (pc := 119) d_35_119 rfl (ok_ri (pc := 121) d_35_121 rfl)
theorem s_35_116 {Γ : m_G} : m_ok Γ m_tab 35 M_35 116 (g_35_116) := ok_bi (pc := 116) d_35_116 rfl (ok_ri (pc := 118) d_35_118 rfl)
theorem s_35_113 {Γ : m_G} : m_ok Γ m_tab 35 M_35 113 (g_35_113) := ok_bi (pc := 113) d_35_113 rfl (ok_ri (pc := 115) d_35_115 rfl)
theorem s_35_110 {Γ : m_G} : m_ok Γ m_tab 35 M_35 110 (g_35_110) := ok_bi (pc := 110) d_35_110 rfl (ok_ri (pc := 112) d_35_112 rfl)
theorem s_35_107 {Γ : m_G} : m_ok Γ m_tab 35 M_35 107 (g_35_107) := ok_bi (pc := 107) d_35_107 rfl (ok_ri (pc := 109) d_35_109 rfl)
theorem s_35_104 {Γ : m_G} : m_ok Γ m_tab 35 M_35 104 (g_35_104) := ok_bi (pc := 104) d_35_104 rfl (ok_ri (pc := 106) d_35_106 rfl)
theorem s_35_0 {Γ : m_G} : m_ok Γ m_tab 35 M_35 0 (g_35_0) := ok_il_n (pc := 0) d_35_0 rfl (ok_tsw (pc := 1) d_35_1 rfl rfl (by decide +kernel) (by decide +kernel) (by decide) (by decide) (by decide +kernel) (by decide))
theorem tst_35 {Γ : m_G} (q : Nat) : m_ts Γ (t_35 q) q := ts_n (ts_n (ts_n (ts_l (k := 35) (pc := 0) tb_35 rfl (by decide) s_35_0) (ts_l (k := 35) (pc := 104) tb_35 rfl (by decide) s_35_104)) (ts_n (ts_l (k := 35) (pc := 107) tb_35 rfl (by decide) s_35_107) (ts_n (ts_l (k := 35) (pc := 110) tb_35 rfl (by decide) s_35_110) (ts_l (k := 35) (pc := 113) tb_35 rfl (by decide) s_35_113)))) (ts_n (ts_n (ts_l (k := 35) (pc := 116) tb_35 rfl (by decide) s_35_116) (ts_l (k := 35) (pc := 119) tb_35 rfl (by decide) s_35_119)) (ts_n (ts_l (k := 35) (pc := 122) tb_35 rfl (by decide) s_35_122) (ts_n (ts_l (k := 35) (pc := 125) tb_35 rfl (by decide) s_35_125) (ts_l (k := 35) (pc := 128) tb_35 rfl (by decide) s_35_128))))
theorem d_36_0 : decode prog_7_method_1_code 0 = .ok (.aload_n 0, 1) := by decide +kernel
theorem d_36_1 : decode prog_7_method_1_code 1 = .ok (.invokespecial 3, 3) := by decide +kernel
theorem d_36_4 : decode prog_7_method_1_code 4 = .ok (.aload_n 0, 1) := by decide +kernel
theorem d_36_5 : decode prog_7_method_1_code 5 = .ok (.sipush 150, 3) := by decide +kernel
theorem d_36_8 : decode prog_7_method_1_code 8 = .ok (.newarray .int, 2) := by decide +kernel
theorem d_36_10 : decode prog_7_method_1_code 10 = .ok (.putfield 9, 3) := by decide +kernel
theorem d_36_13 : decode prog_7_method_1_code 13 = .ok (.aload_n 0, 1) := by decide +kernel
theorem d_36_14 : decode prog_7_method_1_code 14 = .ok (.bipush 6, 2) := by decide +kernel
theorem d_36_16 : decode prog_7_method_1_code 16 = .ok (.newarray .int, 2) := by decide +kernel
theorem d_36_18 : decode prog_7_method_1_code 18 = .ok (.putfield 15, 3) := by decide +kernel
theorem d_36_21 : decode prog_7_method_1_code 21 = .ok (.aload_n 0, 1) := by decide +kernel
theorem d_36_22 : decode prog_7_method_1_code 22 = .ok (.iconst (-1), 1) := by decide +kernel
theorem d_36_23 : decode prog_7_method_1_code 23 = .ok (.putfield 18, 3) := by decide +kernel
theorem d_36_26 : decode prog_7_method_1_code 26 = .ok (.aload_n 0, 1) := by decide +kernel
theorem d_36_27 : decode prog_7_method_1_code 27 = .ok (.iconst 0, 1) := by decide +kernel
theorem d_36_28 : decode prog_7_method_1_code 28 = .ok (.newarray .int, 2) := by decide +kernel
theorem d_36_30 : decode prog_7_method_1_code 30 = .ok (.putfield 22, 3) := by decide +kernel
theorem d_36_33 : decode prog_7_method_1_code 33 = .ok (.aload_n 0, 1) := by decide +kernel
theorem d_36_34 : decode prog_7_method_1_code 34 = .ok (.iconst 0, 1) := by decide +kernel
theorem d_36_35 : decode prog_7_method_1_code 35 = .ok (.newarray .int, 2) := by decide +kernel
theorem d_36_37 : decode prog_7_method_1_code 37 = .ok (.putfield 25, 3) := by decide +kernel
theorem d_36_40 : decode prog_7_method_1_code 40 = .ok (.aload_n 0, 1) := by decide +kernel
theorem d_36_41 : decode prog_7_method_1_code 41 = .ok (.iconst 0, 1) := by decide +kernel
theorem d_36_42 : decode prog_7_method_1_code 42 = .ok (.newarray .int, 2) := by decide +kernel
theorem d_36_44 : decode prog_7_method_1_code 44 = .ok (.putfield 28, 3) := by decide +kernel
theorem d_36_47 : decode prog_7_method_1_code 47 = .ok (.aload_n 0, 1) := by decide +kernel
theorem d_36_48 : decode prog_7_method_1_code 48 = .ok (.iconst 0, 1) := by decide +kernel
theorem d_36_49 : decode prog_7_method_1_code 49 = .ok (.newarray .int, 2) := by decide +kernel
theorem d_36_51 : decode prog_7_method_1_code 51 = .ok (.putfield 31, 3) := by decide +kernel
theorem d_36_54 : decode prog_7_method_1_code 54 = .ok (.aload_n 0, 1) := by decide +kernel
theorem d_36_55 : decode prog_7_method_1_code 55 = .ok (.iconst 0, 1) := by decide +kernel
theorem d_36_56 : decode prog_7_method_1_code 56 = .ok (.newarray .boolean, 2) := by decide +kernel
theorem d_36_58 : decode prog_7_method_1_code 58 = .ok (.putfield 34, 3) := by decide +kernel
theorem d_36_61 : decode prog_7_method_1_code 61 = .ok (.aload_n 0, 1) := by decide +kernel
theorem d_36_62 : decode prog_7_method_1_code 62 = .ok (.aload_n 1, 1) := by decide +kernel
theorem d_36_63 : decode prog_7_method_1_code 63 = .ok (.putfield 38, 3) := by decide +kernel
theorem d_36_66 : decode prog_7_method_1_code 66 = .ok (.return_, 1) := by decide +kernel
theorem s_36_0 {Γ : m_G} : m_ok Γ m_tab 36 M_36 0 (g_36_0) := ok_al_n (pc := 0) d_36_0 rfl (ok_oi (pc := 1) d_36_1 w_94 w_27 w_28 (ok_al_n (pc := 4) d_36_4 rfl (ok_si (pc := 5) d_36_5 rfl (ok_newa (pc := 8) d_36_8 rfl w_88 (ok_putf (pc := 10) d_36_10 w_96 (hc1 ⟨_, _, _, tyX5, cl_5, in_5, by decide, rfl, rfl, rfl, tyX5_ok, nmX5, Or.inr ⟨rfl, rfl, rfl⟩⟩) pd_1 vt_A (ok_al_n (pc := 13) d_36_13 rfl (ok_bi (pc := 14) d_36_14 rfl (ok_newa (pc := 16) d_36_16 rfl w_88 (ok_putf (pc := 18) d_36_18 w_99 (hc1 ⟨_, _, _, tyX5, cl_5, in_5, by decide, rfl, rfl, rfl, tyX5_ok, nmX5, Or.inr ⟨rfl, rfl, rfl⟩⟩) pd_1 vt_A (ok_al_n (pc := 21) d_36_21 rfl (ok_ic (pc := 22) d_36_22 rfl (ok_putf (pc := 23) d_36_23 w_100 (hc1 ⟨_, _, _, tyX5, cl_5, in_5, by decide, rfl, rfl, rfl, tyX5_ok, nmX5, Or.inl rfl⟩) pd_0 vt_I (ok_al_n (pc := 26) d_36_26 rfl (ok_ic (pc := 27) d_36_27 rfl (ok_newa (pc := 28) d_36_28 rfl w_88 (ok_putf (pc := 30) d_36_30 w_101 (hc1 ⟨_, _, _, tyX5, cl_5, in_5, by decide, rfl, rfl, rfl, tyX5_ok, nmX5, Or.inl rfl⟩) pd_1 vt_A (ok_al_n (pc := 33) d_36_33 rfl (ok_ic (pc := 34) d_36_34 rfl (ok_newa (pc := 35) d_36_35 rfl w_88 (ok_putf (pc := 37) d_36_37 w_104 (hc1 ⟨_, _, _, tyX5, cl_5, in_5, by decide, rfl, rfl, rfl, tyX5_ok, nmX5, Or.inl rfl⟩) pd_1 vt_A (ok_al_n (pc := 40) d_36_40 rfl (ok_ic (pc := 41) d_36_41 rfl (ok_newa (pc := 42) d_36_42 rfl w_88 (ok_putf (pc := 44) d_36_44 w_105 (hc1 ⟨_, _, _, tyX5, cl_5, in_5, by decide, rfl, rfl, rfl, tyX5_ok, nmX5, Or.inl rfl⟩) pd_1 vt_A (ok_al_n (pc := 47) d_36_47 rfl (ok_ic (pc := 48) d_36_48 rfl (ok_newa (pc := 49) d_36_49 rfl w_88 (ok_putf (pc := 51) d_36_51 w_106 (hc1 ⟨_, _, _, tyX5, cl_5, in_5, by decide, rfl, rfl, rfl, tyX5_ok, nmX5, Or.inl rfl⟩) pd_1 vt_A (ok_al_n (pc := 54) d_36_54 rfl (ok_ic (pc := 55) d_36_55 rfl (ok_newa (pc := 56) d_36_56 rfl w_134 (ok_putf (pc := 58) d_36_58 w_107 (hc1 ⟨_, _, _, tyX5, cl_5, in_5, by decide, rfl, rfl, rfl, tyX5_ok, nmX5, Or.inl rfl⟩) pd_3 vt_A (ok_al_n (pc := 61) d_36_61 rfl (ok_al_n (pc := 62) d_36_62 rfl (ok_putf (pc := 63) d_36_63 w_95 (hc1 ⟨_, _, _, tyX5, cl_5, in_5, by decide, rfl, rfl, rfl, tyX5_ok, nmX5, Or.inr ⟨rfl, rfl, rfl⟩⟩) pd_2 vt_R (ok_rv (pc := 66) d_36_66 rfl))))))))))))))))))))))))))))))))))))
theorem tst_36 {Γ : m_G} (q : Nat) : m_ts Γ (t_36 q) q := ts_l (k := 36) (pc := 0) tb_36 rfl (by decide) s_36_0
theorem d_37_0 : decode prog_7_method_2_code 0 = .ok (.aload_n 0, 1) := by decide +kernel
theorem d_37_1 : decode prog_7_method_2_code 1 = .ok (.iconst 0, 1) := by decide +kernel
theorem d_37_2 : decode prog_7_method_2_code 2 = .ok (.putfield 42, 3) := by decide +kernel
theorem d_37_5 : decode prog_7_method_2_code 5 = .ok (.aload_n 0, 1) := by decide +kernel
theorem d_37_6 : decode prog_7_method_2_code 6 = .ok (.iconst (-1), 1) := by decide +kernel
theorem d_37_7 : decode prog_7_method_2_code 7 = .ok (.putfield 18, 3) := by decide +kernel
theorem d_37_10 : decode prog_7_method_2_code 10 = .ok (.return_, 1) := by decide +kernel
theorem s_37_0 {Γ : m_G} : m_ok Γ m_tab 37 M_37 0 (g_37_0) := ok_al_n (pc := 0) d_37_0 rfl (ok_ic (pc := 1) d_37_1 rfl (ok_putf (pc := 2) d_37_2 w_97 (hc1 ⟨_, _, _, tyX5, cl_5, in_5, by decide, rfl, rfl, rfl, tyX5_ok, nmX5, Or.inl rfl⟩) pd_4 vt_Z (ok_al_n (pc := 5) d_37_5 rfl (ok_ic (pc := 6) d_37_6 rfl (ok_putf (pc := 7) d_37_7 w_100 (hc1 ⟨_, _, _, tyX5, cl_5, in_5, by decide, rfl, rfl, rfl, tyX5_ok, nmX5, Or.inl rfl⟩) pd_0 vt_I (ok_rv (pc := 10) d_37_10 rfl))))))
theorem tst_37 {Γ : m_G} (q : Nat) : m_ts Γ (t_37 q) q := ts_l (k := 37) (pc := 0) tb_37 rfl (by decide) s_37_0
theorem d_38_0 : decode prog_7_method_3_code 0 = .ok (.aload_n 0, 1) := by decide +kernel
theorem d_38_1 : decode prog_7_method_3_code 1 = .ok (.getfield 9, 3) := by decide +kernel
theorem d_38_4 : decode prog_7_method_3_code 4 = .ok (.iload_n 1, 1) := by decide +kernel
theorem d_38_5 : decode prog_7_method_3_code 5 = .ok (.iload_n 2, 1) := by decide +kernel
theorem d_38_6 : decode prog_7_method_3_code 6 = .ok (.iload_n 3, 1) := by decide +kernel
theorem d_38_7 : decode prog_7_method_3_code 7 = .ok (.invokestatic 46, 3) := by decide +kernel
theorem d_38_10 : decode prog_7_method_3_code 10 = .ok (.iload 4, 2) := by decide +kernel
theorem d_38_12 : decode prog_7_method_3_code 12 = .ok (.iastore, 1) := by decide +kernel
theorem d_38_13 : decode prog_7_method_3_code 13 = .ok (.return_, 1) := by decide +kernel
theorem s_38_0 {Γ : m_G} : m_ok Γ m_tab 38 M_38 0 (g_38_0) := ok_al_n (pc := 0) d_38_0 rfl (ok_getf (pc := 1) d_38_1 w_96 (hc1 fo_16) (ok_il_n (pc := 4) d_38_4 rfl (ok_il_n (pc := 5) d_38_5 rfl (ok_il_n (pc := 6) d_38_6 rfl (ok_cat (pc := 7) (k2 := 39) rfl tb_39 (by decide) (by decide) rfl (go_S d_38_7 w_659 w_660 w_3 w_661 nn_39 (by decide)) (ok_il (pc := 10) d_38_10 (ok_iast (pc := 12) d_38_12 (ok_rv (pc := 13) d_38_13 rfl))))))))
theorem tst_38 {Γ : m_G} (q : Nat) : m_ts Γ (t_38 q) q := ts_l (k := 38) (pc := 0) tb_38 rfl (by decide) s_38_0
theorem d_39_0 : decode prog_7_method_4_code 0 = .ok (.iload_n 0, 1) := by decide +kernel
theorem d_39_1 : decode prog_7_method_4_code 1 = .ok (.iconst 5, 1) := by decide +kernel
theorem d_39_2 : decode prog_7_method_4_code 2 = .ok (.imul, 1) := by decide +kernel
theorem d_39_3 : decode prog_7_method_4_code 3 = .ok (.iload_n 1, 1) := by decide +kernel
theorem d_39_4 : decode prog_7_method_4_code 4 = .ok (.iadd, 1) := by decide +kernel
theorem d_39_5 : decode prog_7_method_4_code 5 = .ok (.iconst 5, 1) := by decide +kernel
theorem d_39_6 : decode prog_7_method_4_code 6 = .ok (.imul, 1) := by decide +kernel
theorem d_39_7 : decode prog_7_method_4_code 7 = .ok (.iload_n 2, 1) := by decide +kernel
theorem d_39_8 : decode prog_7_method_4_code 8 = .ok (.iadd, 1) := by decide +kernel
theorem d_39_9 : decode prog_7_method_4_code 9 = .ok (.ireturn, 1) := by decide +kernel
theorem s_39_0 {Γ : m_G} : m_ok Γ m_tab 39 M_39 0 (g_39_0) := ok_il_n (pc := 0) d_39_0 rfl (ok_ic (pc := 1) d_39_1 rfl (ok_mul (pc := 2) d_39_2 (ok_il_n (pc := 3) d_39_3 rfl (ok_add (pc := 4) d_39_4 (ok_ic (pc := 5) d_39_5 rfl (ok_mul (pc := 6) d_39_6 (ok_il_n (pc := 7) d_39_7 rfl (ok_add (pc := 8) d_39_8 (ok_ri (pc := 9) d_39_9 rfl)))))))))
theorem tst_39 {Γ : m_G} (q : Nat) : m_ts Γ (t_39 q) q := ts_l (k := 39) (pc := 0) tb_39 rfl (by decide) s_39_0
theorem d_40_0 : decode prog_7_method_5_code 0 = .ok (.iload_n 1, 1) := by decide +kernel
theorem d_40_1 : decode prog_7_method_5_code 1 = .ok (.aload_n 0, 1) := by decide +kernel
theorem d_40_2 : decode prog_7_method_5_code 2 = .ok (.getfield 18, 3) := by decide +kernel
theorem d_40_5 : decode prog_7_method_5_code 5 = .ok (.if_icmp .eq 14, 3) := by decide +kernel
theorem d_40_8 : decode prog_7_method_5_code 8 = .ok (.aload_n 0, 1) := by decide +kernel
theorem d_40_9 : decode prog_7_method_5_code 9 = .ok (.getfield 38, 3) := by decide +kernel
theorem d_40_12 : decode prog_7_method_5_code 12 = .ok (.iload_n 1, 1) := by decide +kernel
theorem d_40_13 : decode prog_7_method_5_code 13 = .ok (.invokevirtual 50, 3) := by decide +kernel
theorem d_40_16 : decode prog_7_method_5_code 16 = .ok (.ifCond .ne 4, 3) := by decide +kernel
theorem d_40_19 : decode prog_7_method_5_code 19 = .ok (.return_, 1) := by decide +kernel
theorem d_40_20 : decode prog_7_method_5_code 20 = .ok (.aload_n 0, 1) := by decide +kernel
theorem d_40_21 : decode prog_7_method_5_code 21 = .ok (.invokevirtual 56, 3) := by decide +kernel
theorem d_40_24 : decode prog_7_method_5_code 24 = .ok (.aload_n 0, 1) := by decide +kernel
theorem d_40_25 : decode prog_7_method_5_code 25 = .ok (.iload_n 1, 1) := by decide +kernel
theorem d_40_26 : decode prog_7_method_5_code 26 = .ok (.iconst 0, 1) := by decide +kernel
theorem d_40_27 : decode prog_7_method_5_code 27 = .ok (.invokevirtual 59, 3) := by decide +kernel
theorem d_40_30 : decode prog_7_method_5_code 30 = .ok (.aload_n 0, 1) := by decide +kernel
theorem d_40_31 : decode prog_7_method_5_code 31 = .ok (.iload_n 1, 1) := by decide +kernel
theorem d_40_32 : decode prog_7_method_5_code 32 = .ok (.putfield 18, 3) := by decide +kernel
theorem d_40_35 : decode prog_7_method_5_code 35 = .ok (.return_, 1) := by decide +kernel
theorem s_40_20 {Γ : m_G} : m_ok Γ m_tab 40 M_40 20 (g_40_20) := ok_al_n (pc := 20) d_40_20 rfl (ok_cvi (pc := 21) (k2 := 41) rfl rfl tb_41 (by decide) (by decide) rfl (go_V d_40_21 w_666 w_668 ws_26 w_3 w_669 nn_41 (by decide) cl_5 rfl) (ok_al_n (pc := 24) d_40_24 rfl (ok_il_n (pc := 25) d_40_25 rfl (ok_ic (pc := 26) d_40_26 rfl (ok_cvi (pc := 27) (k2 := 42) rfl rfl tb_42 (by decide) (by decide) rfl (go_V d_40_27 w_675 w_677 ws_28 w_3 w_678 nn_42 (by decide) cl_5 rfl) (ok_al_n (pc := 30) d_40_30 rfl (ok_il_n (pc := 31) d_40_31 rfl (ok_putf (pc := 32) d_40_32 w_100 (hc1 ⟨_, _, _, tyX5, cl_5, in_5, by decide, rfl, rfl, rfl, tyX5_ok, nmX5, Or.inl rfl⟩) pd_0 vt_I (ok_rv (pc := 35) d_40_35 rfl)))))))))
theorem s_40_19 {Γ : m_G} : m_ok Γ m_tab 40 M_40 19 (g_40_19) := ok_rv (pc := 19) d_40_19 rfl
theorem s_40_0 {Γ : m_G} : m_ok Γ m_tab 40 M_40 0 (g_40_0) := ok_il_n (pc := 0) d_40_0 rfl (ok_al_n (pc := 1) d_40_1 rfl (ok_getf (pc := 2) d_40_2 w_100 (hc1 fo_18) (ok_cieq (pc := 5) (t := 19) d_40_5 rfl (by decide) rfl (ok_al_n (pc := 8) d_40_8 rfl (ok_getf (pc := 9) d_40_9 w_95 (hc1 fo_17) (ok_il_n (pc := 12) d_40_12 rfl (ok_cai (pc := 13) (k2 := 83) rfl rfl tb_83 (by decide) (by decide) rfl (go_V d_40_13 w_683 w_684 w_685 w_2 w_686 nn_83 (by decide) cl_10 rfl) (ok_czne (pc := 16) (t := 20) d_40_16 rfl (by decide) rfl (s_40_19)))))))))
theorem tst_40 {Γ : m_G} (q : Nat) : m_ts Γ (t_40 q) q := ts_n (ts_l (k := 40) (pc := 0) tb_40 rfl (by decide) s_40_0) (ts_n (ts_l (k := 40) (pc := 19) tb_40 rfl (by decide) s_40_19) (ts_l (k := 40) (pc := 20) tb_40 rfl (by decide) s_40_20))
