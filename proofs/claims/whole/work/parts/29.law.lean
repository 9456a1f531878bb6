theorem dL_law_0 : decode cL_law 0 = .ok (.new 7, 3) := by decide +kernel
theorem dL_law_3 : decode cL_law 3 = .ok (.dup, 1) := by decide +kernel
theorem dL_law_4 : decode cL_law 4 = .ok (.invokespecial 9, 3) := by decide +kernel
theorem dL_law_7 : decode cL_law 7 = .ok (.astore_n 1, 1) := by decide +kernel
theorem dL_law_8 : decode cL_law 8 = .ok (.new 10, 3) := by decide +kernel
theorem dL_law_11 : decode cL_law 11 = .ok (.dup, 1) := by decide +kernel
theorem dL_law_12 : decode cL_law 12 = .ok (.invokespecial 12, 3) := by decide +kernel
theorem dL_law_15 : decode cL_law 15 = .ok (.astore_n 2, 1) := by decide +kernel
theorem dL_law_16 : decode cL_law 16 = .ok (.iconst 0, 1) := by decide +kernel
theorem dL_law_17 : decode cL_law 17 = .ok (.istore_n 3, 1) := by decide +kernel
theorem dL_law_18 : decode cL_law 18 = .ok (.iload_n 3, 1) := by decide +kernel
theorem dL_law_19 : decode cL_law 19 = .ok (.aload_n 0, 1) := by decide +kernel
theorem dL_law_20 : decode cL_law 20 = .ok (.arraylength, 1) := by decide +kernel
theorem dL_law_21 : decode cL_law 21 = .ok (.bipush 6, 2) := by decide +kernel
theorem dL_law_23 : decode cL_law 23 = .ok (.isub, 1) := by decide +kernel
theorem dL_law_24 : decode cL_law 24 = .ok (.if_icmp .gt 1432, 3) := by decide +kernel
theorem dL_law_27 : decode cL_law 27 = .ok (.aload_n 0, 1) := by decide +kernel
theorem dL_law_28 : decode cL_law 28 = .ok (.iload_n 3, 1) := by decide +kernel
theorem dL_law_29 : decode cL_law 29 = .ok (.iaload, 1) := by decide +kernel
theorem dL_law_30 : decode cL_law 30 = .ok (.bipush 63, 2) := by decide +kernel
theorem dL_law_32 : decode cL_law 32 = .ok (.iand, 1) := by decide +kernel
theorem dL_law_33 : decode cL_law 33 = .ok (.tableswitch 1417 0 37 #[167, 230, 253, 266, 279, 312, 345, 388, 431, 464, 507, 550, 593, 626, 649, 672, 685, 728, 771, 804, 827, 860, 883, 916, 959, 972, 995, 1028, 1071, 1114, 1137, 1190, 1259, 1272, 1315, 1348, 1371, 1394], 167) := by decide +kernel
theorem dL_law_200 : decode cL_law 200 = .ok (.aload_n 1, 1) := by decide +kernel
theorem dL_law_201 : decode cL_law 201 = .ok (.aload_n 0, 1) := by decide +kernel
theorem dL_law_202 : decode cL_law 202 = .ok (.iload_n 3, 1) := by decide +kernel
theorem dL_law_203 : decode cL_law 203 = .ok (.iconst 1, 1) := by decide +kernel
theorem dL_law_204 : decode cL_law 204 = .ok (.iadd, 1) := by decide +kernel
theorem dL_law_205 : decode cL_law 205 = .ok (.iaload, 1) := by decide +kernel
theorem dL_law_206 : decode cL_law 206 = .ok (.aload_n 0, 1) := by decide +kernel
theorem dL_law_207 : decode cL_law 207 = .ok (.iload_n 3, 1) := by decide +kernel
theorem dL_law_208 : decode cL_law 208 = .ok (.iconst 2, 1) := by decide +kernel
theorem dL_law_209 : decode cL_law 209 = .ok (.iadd, 1) := by decide +kernel
theorem dL_law_210 : decode cL_law 210 = .ok (.iaload, 1) := by decide +kernel
theorem dL_law_211 : decode cL_law 211 = .ok (.aload_n 0, 1) := by decide +kernel
theorem dL_law_212 : decode cL_law 212 = .ok (.iload_n 3, 1) := by decide +kernel
theorem dL_law_213 : decode cL_law 213 = .ok (.iconst 3, 1) := by decide +kernel
theorem dL_law_214 : decode cL_law 214 = .ok (.iadd, 1) := by decide +kernel
theorem dL_law_215 : decode cL_law 215 = .ok (.iaload, 1) := by decide +kernel
theorem dL_law_216 : decode cL_law 216 = .ok (.aload_n 0, 1) := by decide +kernel
theorem dL_law_217 : decode cL_law 217 = .ok (.iload_n 3, 1) := by decide +kernel
theorem dL_law_218 : decode cL_law 218 = .ok (.iconst 4, 1) := by decide +kernel
theorem dL_law_219 : decode cL_law 219 = .ok (.iadd, 1) := by decide +kernel
theorem dL_law_220 : decode cL_law 220 = .ok (.iaload, 1) := by decide +kernel
theorem dL_law_221 : decode cL_law 221 = .ok (.aload_n 0, 1) := by decide +kernel
theorem dL_law_222 : decode cL_law 222 = .ok (.iload_n 3, 1) := by decide +kernel
theorem dL_law_223 : decode cL_law 223 = .ok (.iconst 5, 1) := by decide +kernel
theorem dL_law_224 : decode cL_law 224 = .ok (.iadd, 1) := by decide +kernel
theorem dL_law_225 : decode cL_law 225 = .ok (.iaload, 1) := by decide +kernel
theorem dL_law_226 : decode cL_law 226 = .ok (.invokevirtual 13, 3) := by decide +kernel
theorem dL_law_229 : decode cL_law 229 = .ok (.aload_n 2, 1) := by decide +kernel
theorem dL_law_230 : decode cL_law 230 = .ok (.aload_n 0, 1) := by decide +kernel
theorem dL_law_231 : decode cL_law 231 = .ok (.iload_n 3, 1) := by decide +kernel
theorem dL_law_232 : decode cL_law 232 = .ok (.iconst 1, 1) := by decide +kernel
theorem dL_law_233 : decode cL_law 233 = .ok (.iadd, 1) := by decide +kernel
theorem dL_law_234 : decode cL_law 234 = .ok (.iaload, 1) := by decide +kernel
theorem dL_law_235 : decode cL_law 235 = .ok (.aload_n 0, 1) := by decide +kernel
theorem dL_law_236 : decode cL_law 236 = .ok (.iload_n 3, 1) := by decide +kernel
theorem dL_law_237 : decode cL_law 237 = .ok (.iconst 2, 1) := by decide +kernel
theorem dL_law_238 : decode cL_law 238 = .ok (.iadd, 1) := by decide +kernel
theorem dL_law_239 : decode cL_law 239 = .ok (.iaload, 1) := by decide +kernel
theorem dL_law_240 : decode cL_law 240 = .ok (.aload_n 0, 1) := by decide +kernel
theorem dL_law_241 : decode cL_law 241 = .ok (.iload_n 3, 1) := by decide +kernel
theorem dL_law_242 : decode cL_law 242 = .ok (.iconst 3, 1) := by decide +kernel
theorem dL_law_243 : decode cL_law 243 = .ok (.iadd, 1) := by decide +kernel
theorem dL_law_244 : decode cL_law 244 = .ok (.iaload, 1) := by decide +kernel
theorem dL_law_245 : decode cL_law 245 = .ok (.aload_n 0, 1) := by decide +kernel
theorem dL_law_246 : decode cL_law 246 = .ok (.iload_n 3, 1) := by decide +kernel
theorem dL_law_247 : decode cL_law 247 = .ok (.iconst 4, 1) := by decide +kernel
theorem dL_law_248 : decode cL_law 248 = .ok (.iadd, 1) := by decide +kernel
theorem dL_law_249 : decode cL_law 249 = .ok (.iaload, 1) := by decide +kernel
theorem dL_law_250 : decode cL_law 250 = .ok (.aload_n 0, 1) := by decide +kernel
theorem dL_law_251 : decode cL_law 251 = .ok (.iload_n 3, 1) := by decide +kernel
theorem dL_law_252 : decode cL_law 252 = .ok (.iconst 5, 1) := by decide +kernel
theorem dL_law_253 : decode cL_law 253 = .ok (.iadd, 1) := by decide +kernel
theorem dL_law_254 : decode cL_law 254 = .ok (.iaload, 1) := by decide +kernel
theorem dL_law_255 : decode cL_law 255 = .ok (.invokevirtual 17, 3) := by decide +kernel
theorem dL_law_258 : decode cL_law 258 = .ok (.if_icmp .eq 1192, 3) := by decide +kernel
theorem dL_law_261 : decode cL_law 261 = .ok (.iconst 0, 1) := by decide +kernel
theorem dL_law_262 : decode cL_law 262 = .ok (.ireturn, 1) := by decide +kernel
theorem dL_law_263 : decode cL_law 263 = .ok (.aload_n 1, 1) := by decide +kernel
theorem dL_law_264 : decode cL_law 264 = .ok (.aload_n 0, 1) := by decide +kernel
theorem dL_law_265 : decode cL_law 265 = .ok (.iload_n 3, 1) := by decide +kernel
theorem dL_law_266 : decode cL_law 266 = .ok (.iconst 1, 1) := by decide +kernel
theorem dL_law_267 : decode cL_law 267 = .ok (.iadd, 1) := by decide +kernel
theorem dL_law_268 : decode cL_law 268 = .ok (.iaload, 1) := by decide +kernel
theorem dL_law_269 : decode cL_law 269 = .ok (.invokevirtual 18, 3) := by decide +kernel
theorem dL_law_272 : decode cL_law 272 = .ok (.aload_n 2, 1) := by decide +kernel
theorem dL_law_273 : decode cL_law 273 = .ok (.aload_n 0, 1) := by decide +kernel
theorem dL_law_274 : decode cL_law 274 = .ok (.iload_n 3, 1) := by decide +kernel
theorem dL_law_275 : decode cL_law 275 = .ok (.iconst 1, 1) := by decide +kernel
theorem dL_law_276 : decode cL_law 276 = .ok (.iadd, 1) := by decide +kernel
theorem dL_law_277 : decode cL_law 277 = .ok (.iaload, 1) := by decide +kernel
theorem dL_law_278 : decode cL_law 278 = .ok (.invokevirtual 22, 3) := by decide +kernel
theorem dL_law_281 : decode cL_law 281 = .ok (.if_icmp .eq 1169, 3) := by decide +kernel
theorem dL_law_284 : decode cL_law 284 = .ok (.iconst 0, 1) := by decide +kernel
theorem dL_law_285 : decode cL_law 285 = .ok (.ireturn, 1) := by decide +kernel
theorem dL_law_286 : decode cL_law 286 = .ok (.aload_n 1, 1) := by decide +kernel
theorem dL_law_287 : decode cL_law 287 = .ok (.invokevirtual 23, 3) := by decide +kernel
theorem dL_law_290 : decode cL_law 290 = .ok (.aload_n 2, 1) := by decide +kernel
theorem dL_law_291 : decode cL_law 291 = .ok (.invokevirtual 27, 3) := by decide +kernel
theorem dL_law_294 : decode cL_law 294 = .ok (.if_icmp .eq 1156, 3) := by decide +kernel
theorem dL_law_297 : decode cL_law 297 = .ok (.iconst 0, 1) := by decide +kernel
theorem dL_law_298 : decode cL_law 298 = .ok (.ireturn, 1) := by decide +kernel
theorem dL_law_299 : decode cL_law 299 = .ok (.aload_n 1, 1) := by decide +kernel
theorem dL_law_300 : decode cL_law 300 = .ok (.invokevirtual 28, 3) := by decide +kernel
theorem dL_law_303 : decode cL_law 303 = .ok (.aload_n 2, 1) := by decide +kernel
theorem dL_law_304 : decode cL_law 304 = .ok (.invokevirtual 31, 3) := by decide +kernel
theorem dL_law_307 : decode cL_law 307 = .ok (.if_icmp .eq 1143, 3) := by decide +kernel
theorem dL_law_310 : decode cL_law 310 = .ok (.iconst 0, 1) := by decide +kernel
theorem dL_law_311 : decode cL_law 311 = .ok (.ireturn, 1) := by decide +kernel
theorem dL_law_312 : decode cL_law 312 = .ok (.aload_n 1, 1) := by decide +kernel
theorem dL_law_313 : decode cL_law 313 = .ok (.aload_n 0, 1) := by decide +kernel
theorem dL_law_314 : decode cL_law 314 = .ok (.iload_n 3, 1) := by decide +kernel
theorem dL_law_315 : decode cL_law 315 = .ok (.iconst 1, 1) := by decide +kernel
theorem dL_law_316 : decode cL_law 316 = .ok (.iadd, 1) := by decide +kernel
theorem dL_law_317 : decode cL_law 317 = .ok (.iaload, 1) := by decide +kernel
theorem dL_law_318 : decode cL_law 318 = .ok (.aload_n 0, 1) := by decide +kernel
theorem dL_law_319 : decode cL_law 319 = .ok (.iload_n 3, 1) := by decide +kernel
theorem dL_law_320 : decode cL_law 320 = .ok (.iconst 2, 1) := by decide +kernel
theorem dL_law_321 : decode cL_law 321 = .ok (.iadd, 1) := by decide +kernel
theorem dL_law_322 : decode cL_law 322 = .ok (.iaload, 1) := by decide +kernel
theorem dL_law_323 : decode cL_law 323 = .ok (.invokevirtual 32, 3) := by decide +kernel
theorem dL_law_326 : decode cL_law 326 = .ok (.aload_n 2, 1) := by decide +kernel
theorem dL_law_327 : decode cL_law 327 = .ok (.aload_n 0, 1) := by decide +kernel
theorem dL_law_328 : decode cL_law 328 = .ok (.iload_n 3, 1) := by decide +kernel
theorem dL_law_329 : decode cL_law 329 = .ok (.iconst 1, 1) := by decide +kernel
theorem dL_law_330 : decode cL_law 330 = .ok (.iadd, 1) := by decide +kernel
theorem dL_law_331 : decode cL_law 331 = .ok (.iaload, 1) := by decide +kernel
theorem dL_law_332 : decode cL_law 332 = .ok (.aload_n 0, 1) := by decide +kernel
theorem dL_law_333 : decode cL_law 333 = .ok (.iload_n 3, 1) := by decide +kernel
theorem dL_law_334 : decode cL_law 334 = .ok (.iconst 2, 1) := by decide +kernel
theorem dL_law_335 : decode cL_law 335 = .ok (.iadd, 1) := by decide +kernel
theorem dL_law_336 : decode cL_law 336 = .ok (.iaload, 1) := by decide +kernel
theorem dL_law_337 : decode cL_law 337 = .ok (.invokevirtual 36, 3) := by decide +kernel
theorem dL_law_340 : decode cL_law 340 = .ok (.if_icmp .eq 1110, 3) := by decide +kernel
theorem dL_law_343 : decode cL_law 343 = .ok (.iconst 0, 1) := by decide +kernel
theorem dL_law_344 : decode cL_law 344 = .ok (.ireturn, 1) := by decide +kernel
theorem dL_law_345 : decode cL_law 345 = .ok (.aload_n 1, 1) := by decide +kernel
theorem dL_law_346 : decode cL_law 346 = .ok (.aload_n 0, 1) := by decide +kernel
theorem dL_law_347 : decode cL_law 347 = .ok (.iload_n 3, 1) := by decide +kernel
theorem dL_law_348 : decode cL_law 348 = .ok (.iconst 1, 1) := by decide +kernel
theorem dL_law_349 : decode cL_law 349 = .ok (.iadd, 1) := by decide +kernel
theorem dL_law_350 : decode cL_law 350 = .ok (.iaload, 1) := by decide +kernel
theorem dL_law_351 : decode cL_law 351 = .ok (.aload_n 0, 1) := by decide +kernel
theorem dL_law_352 : decode cL_law 352 = .ok (.iload_n 3, 1) := by decide +kernel
theorem dL_law_353 : decode cL_law 353 = .ok (.iconst 2, 1) := by decide +kernel
theorem dL_law_354 : decode cL_law 354 = .ok (.iadd, 1) := by decide +kernel
theorem dL_law_355 : decode cL_law 355 = .ok (.iaload, 1) := by decide +kernel
theorem dL_law_356 : decode cL_law 356 = .ok (.invokevirtual 37, 3) := by decide +kernel
theorem dL_law_359 : decode cL_law 359 = .ok (.aload_n 2, 1) := by decide +kernel
theorem dL_law_360 : decode cL_law 360 = .ok (.aload_n 0, 1) := by decide +kernel
theorem dL_law_361 : decode cL_law 361 = .ok (.iload_n 3, 1) := by decide +kernel
theorem dL_law_362 : decode cL_law 362 = .ok (.iconst 1, 1) := by decide +kernel
theorem dL_law_363 : decode cL_law 363 = .ok (.iadd, 1) := by decide +kernel
theorem dL_law_364 : decode cL_law 364 = .ok (.iaload, 1) := by decide +kernel
theorem dL_law_365 : decode cL_law 365 = .ok (.aload_n 0, 1) := by decide +kernel
theorem dL_law_366 : decode cL_law 366 = .ok (.iload_n 3, 1) := by decide +kernel
theorem dL_law_367 : decode cL_law 367 = .ok (.iconst 2, 1) := by decide +kernel
theorem dL_law_368 : decode cL_law 368 = .ok (.iadd, 1) := by decide +kernel
theorem dL_law_369 : decode cL_law 369 = .ok (.iaload, 1) := by decide +kernel
theorem dL_law_370 : decode cL_law 370 = .ok (.invokevirtual 40, 3) := by decide +kernel
theorem dL_law_373 : decode cL_law 373 = .ok (.if_icmp .eq 1077, 3) := by decide +kernel
theorem dL_law_376 : decode cL_law 376 = .ok (.iconst 0, 1) := by decide +kernel
theorem dL_law_377 : decode cL_law 377 = .ok (.ireturn, 1) := by decide +kernel
theorem dL_law_378 : decode cL_law 378 = .ok (.aload_n 1, 1) := by decide +kernel
theorem dL_law_379 : decode cL_law 379 = .ok (.aload_n 0, 1) := by decide +kernel
theorem dL_law_380 : decode cL_law 380 = .ok (.iload_n 3, 1) := by decide +kernel
theorem dL_law_381 : decode cL_law 381 = .ok (.iconst 1, 1) := by decide +kernel
theorem dL_law_382 : decode cL_law 382 = .ok (.iadd, 1) := by decide +kernel
theorem dL_law_383 : decode cL_law 383 = .ok (.iaload, 1) := by decide +kernel
theorem dL_law_384 : decode cL_law 384 = .ok (.aload_n 0, 1) := by decide +kernel
theorem dL_law_385 : decode cL_law 385 = .ok (.iload_n 3, 1) := by decide +kernel
theorem dL_law_386 : decode cL_law 386 = .ok (.iconst 2, 1) := by decide +kernel
theorem dL_law_387 : decode cL_law 387 = .ok (.iadd, 1) := by decide +kernel
theorem dL_law_388 : decode cL_law 388 = .ok (.iaload, 1) := by decide +kernel
theorem dL_law_389 : decode cL_law 389 = .ok (.aload_n 0, 1) := by decide +kernel
theorem dL_law_390 : decode cL_law 390 = .ok (.iload_n 3, 1) := by decide +kernel
theorem dL_law_391 : decode cL_law 391 = .ok (.iconst 3, 1) := by decide +kernel
theorem dL_law_392 : decode cL_law 392 = .ok (.iadd, 1) := by decide +kernel
theorem dL_law_393 : decode cL_law 393 = .ok (.iaload, 1) := by decide +kernel
theorem dL_law_394 : decode cL_law 394 = .ok (.invokevirtual 41, 3) := by decide +kernel
theorem dL_law_397 : decode cL_law 397 = .ok (.aload_n 2, 1) := by decide +kernel
theorem dL_law_398 : decode cL_law 398 = .ok (.aload_n 0, 1) := by decide +kernel
theorem dL_law_399 : decode cL_law 399 = .ok (.iload_n 3, 1) := by decide +kernel
theorem dL_law_400 : decode cL_law 400 = .ok (.iconst 1, 1) := by decide +kernel
theorem dL_law_401 : decode cL_law 401 = .ok (.iadd, 1) := by decide +kernel
theorem dL_law_402 : decode cL_law 402 = .ok (.iaload, 1) := by decide +kernel
theorem dL_law_403 : decode cL_law 403 = .ok (.aload_n 0, 1) := by decide +kernel
theorem dL_law_404 : decode cL_law 404 = .ok (.iload_n 3, 1) := by decide +kernel
theorem dL_law_405 : decode cL_law 405 = .ok (.iconst 2, 1) := by decide +kernel
theorem dL_law_406 : decode cL_law 406 = .ok (.iadd, 1) := by decide +kernel
theorem dL_law_407 : decode cL_law 407 = .ok (.iaload, 1) := by decide +kernel
theorem dL_law_408 : decode cL_law 408 = .ok (.aload_n 0, 1) := by decide +kernel
theorem dL_law_409 : decode cL_law 409 = .ok (.iload_n 3, 1) := by decide +kernel
theorem dL_law_410 : decode cL_law 410 = .ok (.iconst 3, 1) := by decide +kernel
theorem dL_law_411 : decode cL_law 411 = .ok (.iadd, 1) := by decide +kernel
theorem dL_law_412 : decode cL_law 412 = .ok (.iaload, 1) := by decide +kernel
theorem dL_law_413 : decode cL_law 413 = .ok (.invokevirtual 45, 3) := by decide +kernel
theorem dL_law_416 : decode cL_law 416 = .ok (.if_icmp .eq 1034, 3) := by decide +kernel
theorem dL_law_419 : decode cL_law 419 = .ok (.iconst 0, 1) := by decide +kernel
theorem dL_law_420 : decode cL_law 420 = .ok (.ireturn, 1) := by decide +kernel
theorem dL_law_421 : decode cL_law 421 = .ok (.aload_n 1, 1) := by decide +kernel
theorem dL_law_422 : decode cL_law 422 = .ok (.aload_n 0, 1) := by decide +kernel
theorem dL_law_423 : decode cL_law 423 = .ok (.iload_n 3, 1) := by decide +kernel
theorem dL_law_424 : decode cL_law 424 = .ok (.iconst 1, 1) := by decide +kernel
theorem dL_law_425 : decode cL_law 425 = .ok (.iadd, 1) := by decide +kernel
theorem dL_law_426 : decode cL_law 426 = .ok (.iaload, 1) := by decide +kernel
theorem dL_law_427 : decode cL_law 427 = .ok (.aload_n 0, 1) := by decide +kernel
theorem dL_law_428 : decode cL_law 428 = .ok (.iload_n 3, 1) := by decide +kernel
theorem dL_law_429 : decode cL_law 429 = .ok (.iconst 2, 1) := by decide +kernel
theorem dL_law_430 : decode cL_law 430 = .ok (.iadd, 1) := by decide +kernel
theorem dL_law_431 : decode cL_law 431 = .ok (.iaload, 1) := by decide +kernel
theorem dL_law_432 : decode cL_law 432 = .ok (.aload_n 0, 1) := by decide +kernel
theorem dL_law_433 : decode cL_law 433 = .ok (.iload_n 3, 1) := by decide +kernel
theorem dL_law_434 : decode cL_law 434 = .ok (.iconst 3, 1) := by decide +kernel
theorem dL_law_435 : decode cL_law 435 = .ok (.iadd, 1) := by decide +kernel
theorem dL_law_436 : decode cL_law 436 = .ok (.iaload, 1) := by decide +kernel
theorem dL_law_437 : decode cL_law 437 = .ok (.invokevirtual 46, 3) := by decide +kernel
theorem dL_law_440 : decode cL_law 440 = .ok (.aload_n 2, 1) := by decide +kernel
theorem dL_law_441 : decode cL_law 441 = .ok (.aload_n 0, 1) := by decide +kernel
theorem dL_law_442 : decode cL_law 442 = .ok (.iload_n 3, 1) := by decide +kernel
theorem dL_law_443 : decode cL_law 443 = .ok (.iconst 1, 1) := by decide +kernel
theorem dL_law_444 : decode cL_law 444 = .ok (.iadd, 1) := by decide +kernel
theorem dL_law_445 : decode cL_law 445 = .ok (.iaload, 1) := by decide +kernel
theorem dL_law_446 : decode cL_law 446 = .ok (.aload_n 0, 1) := by decide +kernel
theorem dL_law_447 : decode cL_law 447 = .ok (.iload_n 3, 1) := by decide +kernel
theorem dL_law_448 : decode cL_law 448 = .ok (.iconst 2, 1) := by decide +kernel
theorem dL_law_449 : decode cL_law 449 = .ok (.iadd, 1) := by decide +kernel
theorem dL_law_450 : decode cL_law 450 = .ok (.iaload, 1) := by decide +kernel
theorem dL_law_451 : decode cL_law 451 = .ok (.aload_n 0, 1) := by decide +kernel
theorem dL_law_452 : decode cL_law 452 = .ok (.iload_n 3, 1) := by decide +kernel
theorem dL_law_453 : decode cL_law 453 = .ok (.iconst 3, 1) := by decide +kernel
theorem dL_law_454 : decode cL_law 454 = .ok (.iadd, 1) := by decide +kernel
theorem dL_law_455 : decode cL_law 455 = .ok (.iaload, 1) := by decide +kernel
theorem dL_law_456 : decode cL_law 456 = .ok (.invokevirtual 49, 3) := by decide +kernel
theorem dL_law_459 : decode cL_law 459 = .ok (.if_icmp .eq 991, 3) := by decide +kernel
theorem dL_law_462 : decode cL_law 462 = .ok (.iconst 0, 1) := by decide +kernel
theorem dL_law_463 : decode cL_law 463 = .ok (.ireturn, 1) := by decide +kernel
theorem dL_law_464 : decode cL_law 464 = .ok (.aload_n 1, 1) := by decide +kernel
theorem dL_law_465 : decode cL_law 465 = .ok (.aload_n 0, 1) := by decide +kernel
theorem dL_law_466 : decode cL_law 466 = .ok (.iload_n 3, 1) := by decide +kernel
theorem dL_law_467 : decode cL_law 467 = .ok (.iconst 1, 1) := by decide +kernel
theorem dL_law_468 : decode cL_law 468 = .ok (.iadd, 1) := by decide +kernel
theorem dL_law_469 : decode cL_law 469 = .ok (.iaload, 1) := by decide +kernel
theorem dL_law_470 : decode cL_law 470 = .ok (.aload_n 0, 1) := by decide +kernel
theorem dL_law_471 : decode cL_law 471 = .ok (.iload_n 3, 1) := by decide +kernel
theorem dL_law_472 : decode cL_law 472 = .ok (.iconst 2, 1) := by decide +kernel
theorem dL_law_473 : decode cL_law 473 = .ok (.iadd, 1) := by decide +kernel
theorem dL_law_474 : decode cL_law 474 = .ok (.iaload, 1) := by decide +kernel
theorem dL_law_475 : decode cL_law 475 = .ok (.invokevirtual 50, 3) := by decide +kernel
theorem dL_law_478 : decode cL_law 478 = .ok (.aload_n 2, 1) := by decide +kernel
theorem dL_law_479 : decode cL_law 479 = .ok (.aload_n 0, 1) := by decide +kernel
theorem dL_law_480 : decode cL_law 480 = .ok (.iload_n 3, 1) := by decide +kernel
theorem dL_law_481 : decode cL_law 481 = .ok (.iconst 1, 1) := by decide +kernel
theorem dL_law_482 : decode cL_law 482 = .ok (.iadd, 1) := by decide +kernel
theorem dL_law_483 : decode cL_law 483 = .ok (.iaload, 1) := by decide +kernel
theorem dL_law_484 : decode cL_law 484 = .ok (.aload_n 0, 1) := by decide +kernel
theorem dL_law_485 : decode cL_law 485 = .ok (.iload_n 3, 1) := by decide +kernel
theorem dL_law_486 : decode cL_law 486 = .ok (.iconst 2, 1) := by decide +kernel
theorem dL_law_487 : decode cL_law 487 = .ok (.iadd, 1) := by decide +kernel
theorem dL_law_488 : decode cL_law 488 = .ok (.iaload, 1) := by decide +kernel
theorem dL_law_489 : decode cL_law 489 = .ok (.invokevirtual 53, 3) := by decide +kernel
theorem dL_law_492 : decode cL_law 492 = .ok (.if_icmp .eq 958, 3) := by decide +kernel
theorem dL_law_495 : decode cL_law 495 = .ok (.iconst 0, 1) := by decide +kernel
theorem dL_law_496 : decode cL_law 496 = .ok (.ireturn, 1) := by decide +kernel
theorem dL_law_497 : decode cL_law 497 = .ok (.aload_n 1, 1) := by decide +kernel
theorem dL_law_498 : decode cL_law 498 = .ok (.aload_n 0, 1) := by decide +kernel
theorem dL_law_499 : decode cL_law 499 = .ok (.iload_n 3, 1) := by decide +kernel
theorem dL_law_500 : decode cL_law 500 = .ok (.iconst 1, 1) := by decide +kernel
theorem dL_law_501 : decode cL_law 501 = .ok (.iadd, 1) := by decide +kernel
theorem dL_law_502 : decode cL_law 502 = .ok (.iaload, 1) := by decide +kernel
theorem dL_law_503 : decode cL_law 503 = .ok (.aload_n 0, 1) := by decide +kernel
theorem dL_law_504 : decode cL_law 504 = .ok (.iload_n 3, 1) := by decide +kernel
theorem dL_law_505 : decode cL_law 505 = .ok (.iconst 2, 1) := by decide +kernel
theorem dL_law_506 : decode cL_law 506 = .ok (.iadd, 1) := by decide +kernel
theorem dL_law_507 : decode cL_law 507 = .ok (.iaload, 1) := by decide +kernel
theorem dL_law_508 : decode cL_law 508 = .ok (.aload_n 0, 1) := by decide +kernel
theorem dL_law_509 : decode cL_law 509 = .ok (.iload_n 3, 1) := by decide +kernel
theorem dL_law_510 : decode cL_law 510 = .ok (.iconst 3, 1) := by decide +kernel
theorem dL_law_511 : decode cL_law 511 = .ok (.iadd, 1) := by decide +kernel
theorem dL_law_512 : decode cL_law 512 = .ok (.iaload, 1) := by decide +kernel
theorem dL_law_513 : decode cL_law 513 = .ok (.invokevirtual 54, 3) := by decide +kernel
theorem dL_law_516 : decode cL_law 516 = .ok (.aload_n 2, 1) := by decide +kernel
theorem dL_law_517 : decode cL_law 517 = .ok (.aload_n 0, 1) := by decide +kernel
theorem dL_law_518 : decode cL_law 518 = .ok (.iload_n 3, 1) := by decide +kernel
theorem dL_law_519 : decode cL_law 519 = .ok (.iconst 1, 1) := by decide +kernel
theorem dL_law_520 : decode cL_law 520 = .ok (.iadd, 1) := by decide +kernel
theorem dL_law_521 : decode cL_law 521 = .ok (.iaload, 1) := by decide +kernel
theorem dL_law_522 : decode cL_law 522 = .ok (.aload_n 0, 1) := by decide +kernel
theorem dL_law_523 : decode cL_law 523 = .ok (.iload_n 3, 1) := by decide +kernel
theorem dL_law_524 : decode cL_law 524 = .ok (.iconst 2, 1) := by decide +kernel
theorem dL_law_525 : decode cL_law 525 = .ok (.iadd, 1) := by decide +kernel
theorem dL_law_526 : decode cL_law 526 = .ok (.iaload, 1) := by decide +kernel
theorem dL_law_527 : decode cL_law 527 = .ok (.aload_n 0, 1) := by decide +kernel
theorem dL_law_528 : decode cL_law 528 = .ok (.iload_n 3, 1) := by decide +kernel
theorem dL_law_529 : decode cL_law 529 = .ok (.iconst 3, 1) := by decide +kernel
theorem dL_law_530 : decode cL_law 530 = .ok (.iadd, 1) := by decide +kernel
theorem dL_law_531 : decode cL_law 531 = .ok (.iaload, 1) := by decide +kernel
theorem dL_law_532 : decode cL_law 532 = .ok (.invokevirtual 57, 3) := by decide +kernel
theorem dL_law_535 : decode cL_law 535 = .ok (.if_icmp .eq 915, 3) := by decide +kernel
theorem dL_law_538 : decode cL_law 538 = .ok (.iconst 0, 1) := by decide +kernel
theorem dL_law_539 : decode cL_law 539 = .ok (.ireturn, 1) := by decide +kernel
theorem dL_law_540 : decode cL_law 540 = .ok (.aload_n 1, 1) := by decide +kernel
theorem dL_law_541 : decode cL_law 541 = .ok (.aload_n 0, 1) := by decide +kernel
theorem dL_law_542 : decode cL_law 542 = .ok (.iload_n 3, 1) := by decide +kernel
theorem dL_law_543 : decode cL_law 543 = .ok (.iconst 1, 1) := by decide +kernel
theorem dL_law_544 : decode cL_law 544 = .ok (.iadd, 1) := by decide +kernel
theorem dL_law_545 : decode cL_law 545 = .ok (.iaload, 1) := by decide +kernel
theorem dL_law_546 : decode cL_law 546 = .ok (.aload_n 0, 1) := by decide +kernel
theorem dL_law_547 : decode cL_law 547 = .ok (.iload_n 3, 1) := by decide +kernel
theorem dL_law_548 : decode cL_law 548 = .ok (.iconst 2, 1) := by decide +kernel
theorem dL_law_549 : decode cL_law 549 = .ok (.iadd, 1) := by decide +kernel
theorem dL_law_550 : decode cL_law 550 = .ok (.iaload, 1) := by decide +kernel
theorem dL_law_551 : decode cL_law 551 = .ok (.aload_n 0, 1) := by decide +kernel
theorem dL_law_552 : decode cL_law 552 = .ok (.iload_n 3, 1) := by decide +kernel
theorem dL_law_553 : decode cL_law 553 = .ok (.iconst 3, 1) := by decide +kernel
theorem dL_law_554 : decode cL_law 554 = .ok (.iadd, 1) := by decide +kernel
theorem dL_law_555 : decode cL_law 555 = .ok (.iaload, 1) := by decide +kernel
theorem dL_law_556 : decode cL_law 556 = .ok (.invokevirtual 58, 3) := by decide +kernel
theorem dL_law_559 : decode cL_law 559 = .ok (.aload_n 2, 1) := by decide +kernel
theorem dL_law_560 : decode cL_law 560 = .ok (.aload_n 0, 1) := by decide +kernel
theorem dL_law_561 : decode cL_law 561 = .ok (.iload_n 3, 1) := by decide +kernel
theorem dL_law_562 : decode cL_law 562 = .ok (.iconst 1, 1) := by decide +kernel
theorem dL_law_563 : decode cL_law 563 = .ok (.iadd, 1) := by decide +kernel
theorem dL_law_564 : decode cL_law 564 = .ok (.iaload, 1) := by decide +kernel
theorem dL_law_565 : decode cL_law 565 = .ok (.aload_n 0, 1) := by decide +kernel
theorem dL_law_566 : decode cL_law 566 = .ok (.iload_n 3, 1) := by decide +kernel
theorem dL_law_567 : decode cL_law 567 = .ok (.iconst 2, 1) := by decide +kernel
theorem dL_law_568 : decode cL_law 568 = .ok (.iadd, 1) := by decide +kernel
theorem dL_law_569 : decode cL_law 569 = .ok (.iaload, 1) := by decide +kernel
theorem dL_law_570 : decode cL_law 570 = .ok (.aload_n 0, 1) := by decide +kernel
theorem dL_law_571 : decode cL_law 571 = .ok (.iload_n 3, 1) := by decide +kernel
theorem dL_law_572 : decode cL_law 572 = .ok (.iconst 3, 1) := by decide +kernel
theorem dL_law_573 : decode cL_law 573 = .ok (.iadd, 1) := by decide +kernel
theorem dL_law_574 : decode cL_law 574 = .ok (.iaload, 1) := by decide +kernel
theorem dL_law_575 : decode cL_law 575 = .ok (.invokevirtual 61, 3) := by decide +kernel
theorem dL_law_578 : decode cL_law 578 = .ok (.if_icmp .eq 872, 3) := by decide +kernel
theorem dL_law_581 : decode cL_law 581 = .ok (.iconst 0, 1) := by decide +kernel
theorem dL_law_582 : decode cL_law 582 = .ok (.ireturn, 1) := by decide +kernel
theorem dL_law_583 : decode cL_law 583 = .ok (.aload_n 1, 1) := by decide +kernel
theorem dL_law_584 : decode cL_law 584 = .ok (.aload_n 0, 1) := by decide +kernel
theorem dL_law_585 : decode cL_law 585 = .ok (.iload_n 3, 1) := by decide +kernel
theorem dL_law_586 : decode cL_law 586 = .ok (.iconst 1, 1) := by decide +kernel
theorem dL_law_587 : decode cL_law 587 = .ok (.iadd, 1) := by decide +kernel
theorem dL_law_588 : decode cL_law 588 = .ok (.iaload, 1) := by decide +kernel
theorem dL_law_589 : decode cL_law 589 = .ok (.aload_n 0, 1) := by decide +kernel
theorem dL_law_590 : decode cL_law 590 = .ok (.iload_n 3, 1) := by decide +kernel
theorem dL_law_591 : decode cL_law 591 = .ok (.iconst 2, 1) := by decide +kernel
theorem dL_law_592 : decode cL_law 592 = .ok (.iadd, 1) := by decide +kernel
theorem dL_law_593 : decode cL_law 593 = .ok (.iaload, 1) := by decide +kernel
theorem dL_law_594 : decode cL_law 594 = .ok (.aload_n 0, 1) := by decide +kernel
theorem dL_law_595 : decode cL_law 595 = .ok (.iload_n 3, 1) := by decide +kernel
theorem dL_law_596 : decode cL_law 596 = .ok (.iconst 3, 1) := by decide +kernel
theorem dL_law_597 : decode cL_law 597 = .ok (.iadd, 1) := by decide +kernel
theorem dL_law_598 : decode cL_law 598 = .ok (.iaload, 1) := by decide +kernel
theorem dL_law_599 : decode cL_law 599 = .ok (.invokevirtual 62, 3) := by decide +kernel
theorem dL_law_602 : decode cL_law 602 = .ok (.aload_n 2, 1) := by decide +kernel
theorem dL_law_603 : decode cL_law 603 = .ok (.aload_n 0, 1) := by decide +kernel
theorem dL_law_604 : decode cL_law 604 = .ok (.iload_n 3, 1) := by decide +kernel
theorem dL_law_605 : decode cL_law 605 = .ok (.iconst 1, 1) := by decide +kernel
theorem dL_law_606 : decode cL_law 606 = .ok (.iadd, 1) := by decide +kernel
theorem dL_law_607 : decode cL_law 607 = .ok (.iaload, 1) := by decide +kernel
theorem dL_law_608 : decode cL_law 608 = .ok (.aload_n 0, 1) := by decide +kernel
theorem dL_law_609 : decode cL_law 609 = .ok (.iload_n 3, 1) := by decide +kernel
theorem dL_law_610 : decode cL_law 610 = .ok (.iconst 2, 1) := by decide +kernel
theorem dL_law_611 : decode cL_law 611 = .ok (.iadd, 1) := by decide +kernel
theorem dL_law_612 : decode cL_law 612 = .ok (.iaload, 1) := by decide +kernel
theorem dL_law_613 : decode cL_law 613 = .ok (.aload_n 0, 1) := by decide +kernel
theorem dL_law_614 : decode cL_law 614 = .ok (.iload_n 3, 1) := by decide +kernel
theorem dL_law_615 : decode cL_law 615 = .ok (.iconst 3, 1) := by decide +kernel
theorem dL_law_616 : decode cL_law 616 = .ok (.iadd, 1) := by decide +kernel
theorem dL_law_617 : decode cL_law 617 = .ok (.iaload, 1) := by decide +kernel
theorem dL_law_618 : decode cL_law 618 = .ok (.invokevirtual 65, 3) := by decide +kernel
theorem dL_law_621 : decode cL_law 621 = .ok (.if_icmp .eq 829, 3) := by decide +kernel
theorem dL_law_624 : decode cL_law 624 = .ok (.iconst 0, 1) := by decide +kernel
theorem dL_law_625 : decode cL_law 625 = .ok (.ireturn, 1) := by decide +kernel
theorem dL_law_626 : decode cL_law 626 = .ok (.aload_n 1, 1) := by decide +kernel
theorem dL_law_627 : decode cL_law 627 = .ok (.aload_n 0, 1) := by decide +kernel
theorem dL_law_628 : decode cL_law 628 = .ok (.iload_n 3, 1) := by decide +kernel
theorem dL_law_629 : decode cL_law 629 = .ok (.iconst 1, 1) := by decide +kernel
theorem dL_law_630 : decode cL_law 630 = .ok (.iadd, 1) := by decide +kernel
theorem dL_law_631 : decode cL_law 631 = .ok (.iaload, 1) := by decide +kernel
theorem dL_law_632 : decode cL_law 632 = .ok (.aload_n 0, 1) := by decide +kernel
theorem dL_law_633 : decode cL_law 633 = .ok (.iload_n 3, 1) := by decide +kernel
theorem dL_law_634 : decode cL_law 634 = .ok (.iconst 2, 1) := by decide +kernel
theorem dL_law_635 : decode cL_law 635 = .ok (.iadd, 1) := by decide +kernel
theorem dL_law_636 : decode cL_law 636 = .ok (.iaload, 1) := by decide +kernel
theorem dL_law_637 : decode cL_law 637 = .ok (.invokevirtual 66, 3) := by decide +kernel
theorem dL_law_640 : decode cL_law 640 = .ok (.aload_n 2, 1) := by decide +kernel
theorem dL_law_641 : decode cL_law 641 = .ok (.aload_n 0, 1) := by decide +kernel
theorem dL_law_642 : decode cL_law 642 = .ok (.iload_n 3, 1) := by decide +kernel
theorem dL_law_643 : decode cL_law 643 = .ok (.iconst 1, 1) := by decide +kernel
theorem dL_law_644 : decode cL_law 644 = .ok (.iadd, 1) := by decide +kernel
theorem dL_law_645 : decode cL_law 645 = .ok (.iaload, 1) := by decide +kernel
theorem dL_law_646 : decode cL_law 646 = .ok (.aload_n 0, 1) := by decide +kernel
theorem dL_law_647 : decode cL_law 647 = .ok (.iload_n 3, 1) := by decide +kernel
theorem dL_law_648 : decode cL_law 648 = .ok (.iconst 2, 1) := by decide +kernel
theorem dL_law_649 : decode cL_law 649 = .ok (.iadd, 1) := by decide +kernel
theorem dL_law_650 : decode cL_law 650 = .ok (.iaload, 1) := by decide +kernel
theorem dL_law_651 : decode cL_law 651 = .ok (.invokevirtual 69, 3) := by decide +kernel
theorem dL_law_654 : decode cL_law 654 = .ok (.if_icmp .eq 796, 3) := by decide +kernel
theorem dL_law_657 : decode cL_law 657 = .ok (.iconst 0, 1) := by decide +kernel
theorem dL_law_658 : decode cL_law 658 = .ok (.ireturn, 1) := by decide +kernel
theorem dL_law_659 : decode cL_law 659 = .ok (.aload_n 1, 1) := by decide +kernel
theorem dL_law_660 : decode cL_law 660 = .ok (.aload_n 0, 1) := by decide +kernel
theorem dL_law_661 : decode cL_law 661 = .ok (.iload_n 3, 1) := by decide +kernel
theorem dL_law_662 : decode cL_law 662 = .ok (.iconst 1, 1) := by decide +kernel
theorem dL_law_663 : decode cL_law 663 = .ok (.iadd, 1) := by decide +kernel
theorem dL_law_664 : decode cL_law 664 = .ok (.iaload, 1) := by decide +kernel
theorem dL_law_665 : decode cL_law 665 = .ok (.invokevirtual 70, 3) := by decide +kernel
theorem dL_law_668 : decode cL_law 668 = .ok (.aload_n 2, 1) := by decide +kernel
theorem dL_law_669 : decode cL_law 669 = .ok (.aload_n 0, 1) := by decide +kernel
theorem dL_law_670 : decode cL_law 670 = .ok (.iload_n 3, 1) := by decide +kernel
theorem dL_law_671 : decode cL_law 671 = .ok (.iconst 1, 1) := by decide +kernel
theorem dL_law_672 : decode cL_law 672 = .ok (.iadd, 1) := by decide +kernel
theorem dL_law_673 : decode cL_law 673 = .ok (.iaload, 1) := by decide +kernel
theorem dL_law_674 : decode cL_law 674 = .ok (.invokevirtual 73, 3) := by decide +kernel
theorem dL_law_677 : decode cL_law 677 = .ok (.if_icmp .eq 773, 3) := by decide +kernel
theorem dL_law_680 : decode cL_law 680 = .ok (.iconst 0, 1) := by decide +kernel
theorem dL_law_681 : decode cL_law 681 = .ok (.ireturn, 1) := by decide +kernel
theorem dL_law_682 : decode cL_law 682 = .ok (.aload_n 1, 1) := by decide +kernel
theorem dL_law_683 : decode cL_law 683 = .ok (.aload_n 0, 1) := by decide +kernel
theorem dL_law_684 : decode cL_law 684 = .ok (.iload_n 3, 1) := by decide +kernel
theorem dL_law_685 : decode cL_law 685 = .ok (.iconst 1, 1) := by decide +kernel
theorem dL_law_686 : decode cL_law 686 = .ok (.iadd, 1) := by decide +kernel
theorem dL_law_687 : decode cL_law 687 = .ok (.iaload, 1) := by decide +kernel
theorem dL_law_688 : decode cL_law 688 = .ok (.invokevirtual 74, 3) := by decide +kernel
theorem dL_law_691 : decode cL_law 691 = .ok (.aload_n 2, 1) := by decide +kernel
theorem dL_law_692 : decode cL_law 692 = .ok (.aload_n 0, 1) := by decide +kernel
theorem dL_law_693 : decode cL_law 693 = .ok (.iload_n 3, 1) := by decide +kernel
theorem dL_law_694 : decode cL_law 694 = .ok (.iconst 1, 1) := by decide +kernel
theorem dL_law_695 : decode cL_law 695 = .ok (.iadd, 1) := by decide +kernel
theorem dL_law_696 : decode cL_law 696 = .ok (.iaload, 1) := by decide +kernel
theorem dL_law_697 : decode cL_law 697 = .ok (.invokevirtual 77, 3) := by decide +kernel
theorem dL_law_700 : decode cL_law 700 = .ok (.if_icmp .eq 750, 3) := by decide +kernel
theorem dL_law_703 : decode cL_law 703 = .ok (.iconst 0, 1) := by decide +kernel
theorem dL_law_704 : decode cL_law 704 = .ok (.ireturn, 1) := by decide +kernel
theorem dL_law_705 : decode cL_law 705 = .ok (.aload_n 1, 1) := by decide +kernel
theorem dL_law_706 : decode cL_law 706 = .ok (.invokevirtual 78, 3) := by decide +kernel
theorem dL_law_709 : decode cL_law 709 = .ok (.aload_n 2, 1) := by decide +kernel
theorem dL_law_710 : decode cL_law 710 = .ok (.invokevirtual 82, 3) := by decide +kernel
theorem dL_law_713 : decode cL_law 713 = .ok (.if_icmp .eq 737, 3) := by decide +kernel
theorem dL_law_716 : decode cL_law 716 = .ok (.iconst 0, 1) := by decide +kernel
theorem dL_law_717 : decode cL_law 717 = .ok (.ireturn, 1) := by decide +kernel
theorem dL_law_718 : decode cL_law 718 = .ok (.aload_n 1, 1) := by decide +kernel
theorem dL_law_719 : decode cL_law 719 = .ok (.aload_n 0, 1) := by decide +kernel
theorem dL_law_720 : decode cL_law 720 = .ok (.iload_n 3, 1) := by decide +kernel
theorem dL_law_721 : decode cL_law 721 = .ok (.iconst 1, 1) := by decide +kernel
theorem dL_law_722 : decode cL_law 722 = .ok (.iadd, 1) := by decide +kernel
theorem dL_law_723 : decode cL_law 723 = .ok (.iaload, 1) := by decide +kernel
theorem dL_law_724 : decode cL_law 724 = .ok (.aload_n 0, 1) := by decide +kernel
theorem dL_law_725 : decode cL_law 725 = .ok (.iload_n 3, 1) := by decide +kernel
theorem dL_law_726 : decode cL_law 726 = .ok (.iconst 2, 1) := by decide +kernel
theorem dL_law_727 : decode cL_law 727 = .ok (.iadd, 1) := by decide +kernel
theorem dL_law_728 : decode cL_law 728 = .ok (.iaload, 1) := by decide +kernel
theorem dL_law_729 : decode cL_law 729 = .ok (.aload_n 0, 1) := by decide +kernel
theorem dL_law_730 : decode cL_law 730 = .ok (.iload_n 3, 1) := by decide +kernel
theorem dL_law_731 : decode cL_law 731 = .ok (.iconst 3, 1) := by decide +kernel
theorem dL_law_732 : decode cL_law 732 = .ok (.iadd, 1) := by decide +kernel
theorem dL_law_733 : decode cL_law 733 = .ok (.iaload, 1) := by decide +kernel
theorem dL_law_734 : decode cL_law 734 = .ok (.invokevirtual 83, 3) := by decide +kernel
theorem dL_law_737 : decode cL_law 737 = .ok (.aload_n 2, 1) := by decide +kernel
theorem dL_law_738 : decode cL_law 738 = .ok (.aload_n 0, 1) := by decide +kernel
theorem dL_law_739 : decode cL_law 739 = .ok (.iload_n 3, 1) := by decide +kernel
theorem dL_law_740 : decode cL_law 740 = .ok (.iconst 1, 1) := by decide +kernel
theorem dL_law_741 : decode cL_law 741 = .ok (.iadd, 1) := by decide +kernel
theorem dL_law_742 : decode cL_law 742 = .ok (.iaload, 1) := by decide +kernel
theorem dL_law_743 : decode cL_law 743 = .ok (.aload_n 0, 1) := by decide +kernel
theorem dL_law_744 : decode cL_law 744 = .ok (.iload_n 3, 1) := by decide +kernel
theorem dL_law_745 : decode cL_law 745 = .ok (.iconst 2, 1) := by decide +kernel
theorem dL_law_746 : decode cL_law 746 = .ok (.iadd, 1) := by decide +kernel
theorem dL_law_747 : decode cL_law 747 = .ok (.iaload, 1) := by decide +kernel
theorem dL_law_748 : decode cL_law 748 = .ok (.aload_n 0, 1) := by decide +kernel
theorem dL_law_749 : decode cL_law 749 = .ok (.iload_n 3, 1) := by decide +kernel
theorem dL_law_750 : decode cL_law 750 = .ok (.iconst 3, 1) := by decide +kernel
theorem dL_law_751 : decode cL_law 751 = .ok (.iadd, 1) := by decide +kernel
theorem dL_law_752 : decode cL_law 752 = .ok (.iaload, 1) := by decide +kernel
theorem dL_law_753 : decode cL_law 753 = .ok (.invokevirtual 86, 3) := by decide +kernel
theorem dL_law_756 : decode cL_law 756 = .ok (.if_icmp .eq 694, 3) := by decide +kernel
theorem dL_law_759 : decode cL_law 759 = .ok (.iconst 0, 1) := by decide +kernel
theorem dL_law_760 : decode cL_law 760 = .ok (.ireturn, 1) := by decide +kernel
theorem dL_law_761 : decode cL_law 761 = .ok (.aload_n 1, 1) := by decide +kernel
theorem dL_law_762 : decode cL_law 762 = .ok (.aload_n 0, 1) := by decide +kernel
theorem dL_law_763 : decode cL_law 763 = .ok (.iload_n 3, 1) := by decide +kernel
theorem dL_law_764 : decode cL_law 764 = .ok (.iconst 1, 1) := by decide +kernel
theorem dL_law_765 : decode cL_law 765 = .ok (.iadd, 1) := by decide +kernel
theorem dL_law_766 : decode cL_law 766 = .ok (.iaload, 1) := by decide +kernel
theorem dL_law_767 : decode cL_law 767 = .ok (.aload_n 0, 1) := by decide +kernel
theorem dL_law_768 : decode cL_law 768 = .ok (.iload_n 3, 1) := by decide +kernel
theorem dL_law_769 : decode cL_law 769 = .ok (.iconst 2, 1) := by decide +kernel
theorem dL_law_770 : decode cL_law 770 = .ok (.iadd, 1) := by decide +kernel
theorem dL_law_771 : decode cL_law 771 = .ok (.iaload, 1) := by decide +kernel
theorem dL_law_772 : decode cL_law 772 = .ok (.aload_n 0, 1) := by decide +kernel
theorem dL_law_773 : decode cL_law 773 = .ok (.iload_n 3, 1) := by decide +kernel
theorem dL_law_774 : decode cL_law 774 = .ok (.iconst 3, 1) := by decide +kernel
theorem dL_law_775 : decode cL_law 775 = .ok (.iadd, 1) := by decide +kernel
theorem dL_law_776 : decode cL_law 776 = .ok (.iaload, 1) := by decide +kernel
theorem dL_law_777 : decode cL_law 777 = .ok (.invokevirtual 87, 3) := by decide +kernel
theorem dL_law_780 : decode cL_law 780 = .ok (.aload_n 2, 1) := by decide +kernel
theorem dL_law_781 : decode cL_law 781 = .ok (.aload_n 0, 1) := by decide +kernel
theorem dL_law_782 : decode cL_law 782 = .ok (.iload_n 3, 1) := by decide +kernel
theorem dL_law_783 : decode cL_law 783 = .ok (.iconst 1, 1) := by decide +kernel
theorem dL_law_784 : decode cL_law 784 = .ok (.iadd, 1) := by decide +kernel
theorem dL_law_785 : decode cL_law 785 = .ok (.iaload, 1) := by decide +kernel
theorem dL_law_786 : decode cL_law 786 = .ok (.aload_n 0, 1) := by decide +kernel
theorem dL_law_787 : decode cL_law 787 = .ok (.iload_n 3, 1) := by decide +kernel
theorem dL_law_788 : decode cL_law 788 = .ok (.iconst 2, 1) := by decide +kernel
theorem dL_law_789 : decode cL_law 789 = .ok (.iadd, 1) := by decide +kernel
theorem dL_law_790 : decode cL_law 790 = .ok (.iaload, 1) := by decide +kernel
theorem dL_law_791 : decode cL_law 791 = .ok (.aload_n 0, 1) := by decide +kernel
theorem dL_law_792 : decode cL_law 792 = .ok (.iload_n 3, 1) := by decide +kernel
theorem dL_law_793 : decode cL_law 793 = .ok (.iconst 3, 1) := by decide +kernel
theorem dL_law_794 : decode cL_law 794 = .ok (.iadd, 1) := by decide +kernel
theorem dL_law_795 : decode cL_law 795 = .ok (.iaload, 1) := by decide +kernel
theorem dL_law_796 : decode cL_law 796 = .ok (.invokevirtual 90, 3) := by decide +kernel
theorem dL_law_799 : decode cL_law 799 = .ok (.if_icmp .eq 651, 3) := by decide +kernel
theorem dL_law_802 : decode cL_law 802 = .ok (.iconst 0, 1) := by decide +kernel
theorem dL_law_803 : decode cL_law 803 = .ok (.ireturn, 1) := by decide +kernel
theorem dL_law_804 : decode cL_law 804 = .ok (.aload_n 1, 1) := by decide +kernel
theorem dL_law_805 : decode cL_law 805 = .ok (.aload_n 0, 1) := by decide +kernel
theorem dL_law_806 : decode cL_law 806 = .ok (.iload_n 3, 1) := by decide +kernel
theorem dL_law_807 : decode cL_law 807 = .ok (.iconst 1, 1) := by decide +kernel
theorem dL_law_808 : decode cL_law 808 = .ok (.iadd, 1) := by decide +kernel
theorem dL_law_809 : decode cL_law 809 = .ok (.iaload, 1) := by decide +kernel
theorem dL_law_810 : decode cL_law 810 = .ok (.aload_n 0, 1) := by decide +kernel
theorem dL_law_811 : decode cL_law 811 = .ok (.iload_n 3, 1) := by decide +kernel
theorem dL_law_812 : decode cL_law 812 = .ok (.iconst 2, 1) := by decide +kernel
theorem dL_law_813 : decode cL_law 813 = .ok (.iadd, 1) := by decide +kernel
theorem dL_law_814 : decode cL_law 814 = .ok (.iaload, 1) := by decide +kernel
theorem dL_law_815 : decode cL_law 815 = .ok (.invokevirtual 91, 3) := by decide +kernel
theorem dL_law_818 : decode cL_law 818 = .ok (.aload_n 2, 1) := by decide +kernel
theorem dL_law_819 : decode cL_law 819 = .ok (.aload_n 0, 1) := by decide +kernel
theorem dL_law_820 : decode cL_law 820 = .ok (.iload_n 3, 1) := by decide +kernel
theorem dL_law_821 : decode cL_law 821 = .ok (.iconst 1, 1) := by decide +kernel
theorem dL_law_822 : decode cL_law 822 = .ok (.iadd, 1) := by decide +kernel
theorem dL_law_823 : decode cL_law 823 = .ok (.iaload, 1) := by decide +kernel
theorem dL_law_824 : decode cL_law 824 = .ok (.aload_n 0, 1) := by decide +kernel
theorem dL_law_825 : decode cL_law 825 = .ok (.iload_n 3, 1) := by decide +kernel
theorem dL_law_826 : decode cL_law 826 = .ok (.iconst 2, 1) := by decide +kernel
theorem dL_law_827 : decode cL_law 827 = .ok (.iadd, 1) := by decide +kernel
theorem dL_law_828 : decode cL_law 828 = .ok (.iaload, 1) := by decide +kernel
theorem dL_law_829 : decode cL_law 829 = .ok (.invokevirtual 94, 3) := by decide +kernel
theorem dL_law_832 : decode cL_law 832 = .ok (.if_icmp .eq 618, 3) := by decide +kernel
theorem dL_law_835 : decode cL_law 835 = .ok (.iconst 0, 1) := by decide +kernel
theorem dL_law_836 : decode cL_law 836 = .ok (.ireturn, 1) := by decide +kernel
theorem dL_law_837 : decode cL_law 837 = .ok (.aload_n 1, 1) := by decide +kernel
theorem dL_law_838 : decode cL_law 838 = .ok (.aload_n 0, 1) := by decide +kernel
theorem dL_law_839 : decode cL_law 839 = .ok (.iload_n 3, 1) := by decide +kernel
theorem dL_law_840 : decode cL_law 840 = .ok (.iconst 1, 1) := by decide +kernel
theorem dL_law_841 : decode cL_law 841 = .ok (.iadd, 1) := by decide +kernel
theorem dL_law_842 : decode cL_law 842 = .ok (.iaload, 1) := by decide +kernel
theorem dL_law_843 : decode cL_law 843 = .ok (.invokevirtual 95, 3) := by decide +kernel
theorem dL_law_846 : decode cL_law 846 = .ok (.aload_n 2, 1) := by decide +kernel
theorem dL_law_847 : decode cL_law 847 = .ok (.aload_n 0, 1) := by decide +kernel
theorem dL_law_848 : decode cL_law 848 = .ok (.iload_n 3, 1) := by decide +kernel
theorem dL_law_849 : decode cL_law 849 = .ok (.iconst 1, 1) := by decide +kernel
theorem dL_law_850 : decode cL_law 850 = .ok (.iadd, 1) := by decide +kernel
theorem dL_law_851 : decode cL_law 851 = .ok (.iaload, 1) := by decide +kernel
theorem dL_law_852 : decode cL_law 852 = .ok (.invokevirtual 98, 3) := by decide +kernel
theorem dL_law_855 : decode cL_law 855 = .ok (.if_icmp .eq 595, 3) := by decide +kernel
theorem dL_law_858 : decode cL_law 858 = .ok (.iconst 0, 1) := by decide +kernel
theorem dL_law_859 : decode cL_law 859 = .ok (.ireturn, 1) := by decide +kernel
theorem dL_law_860 : decode cL_law 860 = .ok (.aload_n 1, 1) := by decide +kernel
theorem dL_law_861 : decode cL_law 861 = .ok (.aload_n 0, 1) := by decide +kernel
theorem dL_law_862 : decode cL_law 862 = .ok (.iload_n 3, 1) := by decide +kernel
theorem dL_law_863 : decode cL_law 863 = .ok (.iconst 1, 1) := by decide +kernel
theorem dL_law_864 : decode cL_law 864 = .ok (.iadd, 1) := by decide +kernel
theorem dL_law_865 : decode cL_law 865 = .ok (.iaload, 1) := by decide +kernel
theorem dL_law_866 : decode cL_law 866 = .ok (.aload_n 0, 1) := by decide +kernel
theorem dL_law_867 : decode cL_law 867 = .ok (.iload_n 3, 1) := by decide +kernel
theorem dL_law_868 : decode cL_law 868 = .ok (.iconst 2, 1) := by decide +kernel
theorem dL_law_869 : decode cL_law 869 = .ok (.iadd, 1) := by decide +kernel
theorem dL_law_870 : decode cL_law 870 = .ok (.iaload, 1) := by decide +kernel
theorem dL_law_871 : decode cL_law 871 = .ok (.invokevirtual 99, 3) := by decide +kernel
theorem dL_law_874 : decode cL_law 874 = .ok (.aload_n 2, 1) := by decide +kernel
theorem dL_law_875 : decode cL_law 875 = .ok (.aload_n 0, 1) := by decide +kernel
theorem dL_law_876 : decode cL_law 876 = .ok (.iload_n 3, 1) := by decide +kernel
theorem dL_law_877 : decode cL_law 877 = .ok (.iconst 1, 1) := by decide +kernel
theorem dL_law_878 : decode cL_law 878 = .ok (.iadd, 1) := by decide +kernel
theorem dL_law_879 : decode cL_law 879 = .ok (.iaload, 1) := by decide +kernel
theorem dL_law_880 : decode cL_law 880 = .ok (.aload_n 0, 1) := by decide +kernel
theorem dL_law_881 : decode cL_law 881 = .ok (.iload_n 3, 1) := by decide +kernel
theorem dL_law_882 : decode cL_law 882 = .ok (.iconst 2, 1) := by decide +kernel
theorem dL_law_883 : decode cL_law 883 = .ok (.iadd, 1) := by decide +kernel
theorem dL_law_884 : decode cL_law 884 = .ok (.iaload, 1) := by decide +kernel
theorem dL_law_885 : decode cL_law 885 = .ok (.invokevirtual 102, 3) := by decide +kernel
theorem dL_law_888 : decode cL_law 888 = .ok (.if_icmp .eq 562, 3) := by decide +kernel
theorem dL_law_891 : decode cL_law 891 = .ok (.iconst 0, 1) := by decide +kernel
theorem dL_law_892 : decode cL_law 892 = .ok (.ireturn, 1) := by decide +kernel
theorem dL_law_893 : decode cL_law 893 = .ok (.aload_n 1, 1) := by decide +kernel
theorem dL_law_894 : decode cL_law 894 = .ok (.aload_n 0, 1) := by decide +kernel
theorem dL_law_895 : decode cL_law 895 = .ok (.iload_n 3, 1) := by decide +kernel
theorem dL_law_896 : decode cL_law 896 = .ok (.iconst 1, 1) := by decide +kernel
theorem dL_law_897 : decode cL_law 897 = .ok (.iadd, 1) := by decide +kernel
theorem dL_law_898 : decode cL_law 898 = .ok (.iaload, 1) := by decide +kernel
theorem dL_law_899 : decode cL_law 899 = .ok (.invokevirtual 103, 3) := by decide +kernel
theorem dL_law_902 : decode cL_law 902 = .ok (.aload_n 2, 1) := by decide +kernel
theorem dL_law_903 : decode cL_law 903 = .ok (.aload_n 0, 1) := by decide +kernel
theorem dL_law_904 : decode cL_law 904 = .ok (.iload_n 3, 1) := by decide +kernel
theorem dL_law_905 : decode cL_law 905 = .ok (.iconst 1, 1) := by decide +kernel
theorem dL_law_906 : decode cL_law 906 = .ok (.iadd, 1) := by decide +kernel
theorem dL_law_907 : decode cL_law 907 = .ok (.iaload, 1) := by decide +kernel
theorem dL_law_908 : decode cL_law 908 = .ok (.invokevirtual 106, 3) := by decide +kernel
theorem dL_law_911 : decode cL_law 911 = .ok (.if_icmp .eq 539, 3) := by decide +kernel
theorem dL_law_914 : decode cL_law 914 = .ok (.iconst 0, 1) := by decide +kernel
theorem dL_law_915 : decode cL_law 915 = .ok (.ireturn, 1) := by decide +kernel
theorem dL_law_916 : decode cL_law 916 = .ok (.aload_n 1, 1) := by decide +kernel
theorem dL_law_917 : decode cL_law 917 = .ok (.aload_n 0, 1) := by decide +kernel
theorem dL_law_918 : decode cL_law 918 = .ok (.iload_n 3, 1) := by decide +kernel
theorem dL_law_919 : decode cL_law 919 = .ok (.iconst 1, 1) := by decide +kernel
theorem dL_law_920 : decode cL_law 920 = .ok (.iadd, 1) := by decide +kernel
theorem dL_law_921 : decode cL_law 921 = .ok (.iaload, 1) := by decide +kernel
theorem dL_law_922 : decode cL_law 922 = .ok (.aload_n 0, 1) := by decide +kernel
theorem dL_law_923 : decode cL_law 923 = .ok (.iload_n 3, 1) := by decide +kernel
theorem dL_law_924 : decode cL_law 924 = .ok (.iconst 2, 1) := by decide +kernel
theorem dL_law_925 : decode cL_law 925 = .ok (.iadd, 1) := by decide +kernel
theorem dL_law_926 : decode cL_law 926 = .ok (.iaload, 1) := by decide +kernel
theorem dL_law_927 : decode cL_law 927 = .ok (.invokevirtual 107, 3) := by decide +kernel
theorem dL_law_930 : decode cL_law 930 = .ok (.aload_n 2, 1) := by decide +kernel
theorem dL_law_931 : decode cL_law 931 = .ok (.aload_n 0, 1) := by decide +kernel
theorem dL_law_932 : decode cL_law 932 = .ok (.iload_n 3, 1) := by decide +kernel
theorem dL_law_933 : decode cL_law 933 = .ok (.iconst 1, 1) := by decide +kernel
theorem dL_law_934 : decode cL_law 934 = .ok (.iadd, 1) := by decide +kernel
theorem dL_law_935 : decode cL_law 935 = .ok (.iaload, 1) := by decide +kernel
theorem dL_law_936 : decode cL_law 936 = .ok (.aload_n 0, 1) := by decide +kernel
theorem dL_law_937 : decode cL_law 937 = .ok (.iload_n 3, 1) := by decide +kernel
theorem dL_law_938 : decode cL_law 938 = .ok (.iconst 2, 1) := by decide +kernel
theorem dL_law_939 : decode cL_law 939 = .ok (.iadd, 1) := by decide +kernel
theorem dL_law_940 : decode cL_law 940 = .ok (.iaload, 1) := by decide +kernel
theorem dL_law_941 : decode cL_law 941 = .ok (.invokevirtual 110, 3) := by decide +kernel
theorem dL_law_944 : decode cL_law 944 = .ok (.if_icmp .eq 506, 3) := by decide +kernel
theorem dL_law_947 : decode cL_law 947 = .ok (.iconst 0, 1) := by decide +kernel
theorem dL_law_948 : decode cL_law 948 = .ok (.ireturn, 1) := by decide +kernel
theorem dL_law_949 : decode cL_law 949 = .ok (.aload_n 1, 1) := by decide +kernel
theorem dL_law_950 : decode cL_law 950 = .ok (.aload_n 0, 1) := by decide +kernel
theorem dL_law_951 : decode cL_law 951 = .ok (.iload_n 3, 1) := by decide +kernel
theorem dL_law_952 : decode cL_law 952 = .ok (.iconst 1, 1) := by decide +kernel
theorem dL_law_953 : decode cL_law 953 = .ok (.iadd, 1) := by decide +kernel
theorem dL_law_954 : decode cL_law 954 = .ok (.iaload, 1) := by decide +kernel
theorem dL_law_955 : decode cL_law 955 = .ok (.aload_n 0, 1) := by decide +kernel
theorem dL_law_956 : decode cL_law 956 = .ok (.iload_n 3, 1) := by decide +kernel
theorem dL_law_957 : decode cL_law 957 = .ok (.iconst 2, 1) := by decide +kernel
theorem dL_law_958 : decode cL_law 958 = .ok (.iadd, 1) := by decide +kernel
theorem dL_law_959 : decode cL_law 959 = .ok (.iaload, 1) := by decide +kernel
theorem dL_law_960 : decode cL_law 960 = .ok (.aload_n 0, 1) := by decide +kernel
theorem dL_law_961 : decode cL_law 961 = .ok (.iload_n 3, 1) := by decide +kernel
theorem dL_law_962 : decode cL_law 962 = .ok (.iconst 3, 1) := by decide +kernel
theorem dL_law_963 : decode cL_law 963 = .ok (.iadd, 1) := by decide +kernel
theorem dL_law_964 : decode cL_law 964 = .ok (.iaload, 1) := by decide +kernel
theorem dL_law_965 : decode cL_law 965 = .ok (.invokevirtual 111, 3) := by decide +kernel
theorem dL_law_968 : decode cL_law 968 = .ok (.aload_n 2, 1) := by decide +kernel
theorem dL_law_969 : decode cL_law 969 = .ok (.aload_n 0, 1) := by decide +kernel
theorem dL_law_970 : decode cL_law 970 = .ok (.iload_n 3, 1) := by decide +kernel
theorem dL_law_971 : decode cL_law 971 = .ok (.iconst 1, 1) := by decide +kernel
theorem dL_law_972 : decode cL_law 972 = .ok (.iadd, 1) := by decide +kernel
theorem dL_law_973 : decode cL_law 973 = .ok (.iaload, 1) := by decide +kernel
theorem dL_law_974 : decode cL_law 974 = .ok (.aload_n 0, 1) := by decide +kernel
theorem dL_law_975 : decode cL_law 975 = .ok (.iload_n 3, 1) := by decide +kernel
theorem dL_law_976 : decode cL_law 976 = .ok (.iconst 2, 1) := by decide +kernel
theorem dL_law_977 : decode cL_law 977 = .ok (.iadd, 1) := by decide +kernel
theorem dL_law_978 : decode cL_law 978 = .ok (.iaload, 1) := by decide +kernel
theorem dL_law_979 : decode cL_law 979 = .ok (.aload_n 0, 1) := by decide +kernel
theorem dL_law_980 : decode cL_law 980 = .ok (.iload_n 3, 1) := by decide +kernel
theorem dL_law_981 : decode cL_law 981 = .ok (.iconst 3, 1) := by decide +kernel
theorem dL_law_982 : decode cL_law 982 = .ok (.iadd, 1) := by decide +kernel
theorem dL_law_983 : decode cL_law 983 = .ok (.iaload, 1) := by decide +kernel
theorem dL_law_984 : decode cL_law 984 = .ok (.invokevirtual 114, 3) := by decide +kernel
theorem dL_law_987 : decode cL_law 987 = .ok (.if_icmp .eq 463, 3) := by decide +kernel
theorem dL_law_990 : decode cL_law 990 = .ok (.iconst 0, 1) := by decide +kernel
theorem dL_law_991 : decode cL_law 991 = .ok (.ireturn, 1) := by decide +kernel
theorem dL_law_992 : decode cL_law 992 = .ok (.aload_n 1, 1) := by decide +kernel
theorem dL_law_993 : decode cL_law 993 = .ok (.invokevirtual 115, 3) := by decide +kernel
theorem dL_law_996 : decode cL_law 996 = .ok (.aload_n 2, 1) := by decide +kernel
theorem dL_law_997 : decode cL_law 997 = .ok (.invokevirtual 118, 3) := by decide +kernel
theorem dL_law_1000 : decode cL_law 1000 = .ok (.if_icmp .eq 450, 3) := by decide +kernel
theorem dL_law_1003 : decode cL_law 1003 = .ok (.iconst 0, 1) := by decide +kernel
theorem dL_law_1004 : decode cL_law 1004 = .ok (.ireturn, 1) := by decide +kernel
theorem dL_law_1005 : decode cL_law 1005 = .ok (.aload_n 1, 1) := by decide +kernel
theorem dL_law_1006 : decode cL_law 1006 = .ok (.aload_n 0, 1) := by decide +kernel
theorem dL_law_1007 : decode cL_law 1007 = .ok (.iload_n 3, 1) := by decide +kernel
theorem dL_law_1008 : decode cL_law 1008 = .ok (.iconst 1, 1) := by decide +kernel
theorem dL_law_1009 : decode cL_law 1009 = .ok (.iadd, 1) := by decide +kernel
theorem dL_law_1010 : decode cL_law 1010 = .ok (.iaload, 1) := by decide +kernel
theorem dL_law_1011 : decode cL_law 1011 = .ok (.invokevirtual 119, 3) := by decide +kernel
theorem dL_law_1014 : decode cL_law 1014 = .ok (.aload_n 2, 1) := by decide +kernel
theorem dL_law_1015 : decode cL_law 1015 = .ok (.aload_n 0, 1) := by decide +kernel
theorem dL_law_1016 : decode cL_law 1016 = .ok (.iload_n 3, 1) := by decide +kernel
theorem dL_law_1017 : decode cL_law 1017 = .ok (.iconst 1, 1) := by decide +kernel
theorem dL_law_1018 : decode cL_law 1018 = .ok (.iadd, 1) := by decide +kernel
theorem dL_law_1019 : decode cL_law 1019 = .ok (.iaload, 1) := by decide +kernel
theorem dL_law_1020 : decode cL_law 1020 = .ok (.invokevirtual 122, 3) := by decide +kernel
theorem dL_law_1023 : decode cL_law 1023 = .ok (.if_icmp .eq 427, 3) := by decide +kernel
theorem dL_law_1026 : decode cL_law 1026 = .ok (.iconst 0, 1) := by decide +kernel
theorem dL_law_1027 : decode cL_law 1027 = .ok (.ireturn, 1) := by decide +kernel
theorem dL_law_1028 : decode cL_law 1028 = .ok (.aload_n 1, 1) := by decide +kernel
theorem dL_law_1029 : decode cL_law 1029 = .ok (.aload_n 0, 1) := by decide +kernel
theorem dL_law_1030 : decode cL_law 1030 = .ok (.iload_n 3, 1) := by decide +kernel
theorem dL_law_1031 : decode cL_law 1031 = .ok (.iconst 1, 1) := by decide +kernel
theorem dL_law_1032 : decode cL_law 1032 = .ok (.iadd, 1) := by decide +kernel
theorem dL_law_1033 : decode cL_law 1033 = .ok (.iaload, 1) := by decide +kernel
theorem dL_law_1034 : decode cL_law 1034 = .ok (.aload_n 0, 1) := by decide +kernel
theorem dL_law_1035 : decode cL_law 1035 = .ok (.iload_n 3, 1) := by decide +kernel
theorem dL_law_1036 : decode cL_law 1036 = .ok (.iconst 2, 1) := by decide +kernel
theorem dL_law_1037 : decode cL_law 1037 = .ok (.iadd, 1) := by decide +kernel
theorem dL_law_1038 : decode cL_law 1038 = .ok (.iaload, 1) := by decide +kernel
theorem dL_law_1039 : decode cL_law 1039 = .ok (.invokevirtual 123, 3) := by decide +kernel
theorem dL_law_1042 : decode cL_law 1042 = .ok (.aload_n 2, 1) := by decide +kernel
theorem dL_law_1043 : decode cL_law 1043 = .ok (.aload_n 0, 1) := by decide +kernel
theorem dL_law_1044 : decode cL_law 1044 = .ok (.iload_n 3, 1) := by decide +kernel
theorem dL_law_1045 : decode cL_law 1045 = .ok (.iconst 1, 1) := by decide +kernel
theorem dL_law_1046 : decode cL_law 1046 = .ok (.iadd, 1) := by decide +kernel
theorem dL_law_1047 : decode cL_law 1047 = .ok (.iaload, 1) := by decide +kernel
theorem dL_law_1048 : decode cL_law 1048 = .ok (.aload_n 0, 1) := by decide +kernel
theorem dL_law_1049 : decode cL_law 1049 = .ok (.iload_n 3, 1) := by decide +kernel
theorem dL_law_1050 : decode cL_law 1050 = .ok (.iconst 2, 1) := by decide +kernel
theorem dL_law_1051 : decode cL_law 1051 = .ok (.iadd, 1) := by decide +kernel
theorem dL_law_1052 : decode cL_law 1052 = .ok (.iaload, 1) := by decide +kernel
theorem dL_law_1053 : decode cL_law 1053 = .ok (.invokevirtual 126, 3) := by decide +kernel
theorem dL_law_1056 : decode cL_law 1056 = .ok (.if_icmp .eq 394, 3) := by decide +kernel
theorem dL_law_1059 : decode cL_law 1059 = .ok (.iconst 0, 1) := by decide +kernel
theorem dL_law_1060 : decode cL_law 1060 = .ok (.ireturn, 1) := by decide +kernel
theorem dL_law_1061 : decode cL_law 1061 = .ok (.aload_n 1, 1) := by decide +kernel
theorem dL_law_1062 : decode cL_law 1062 = .ok (.aload_n 0, 1) := by decide +kernel
theorem dL_law_1063 : decode cL_law 1063 = .ok (.iload_n 3, 1) := by decide +kernel
theorem dL_law_1064 : decode cL_law 1064 = .ok (.iconst 1, 1) := by decide +kernel
theorem dL_law_1065 : decode cL_law 1065 = .ok (.iadd, 1) := by decide +kernel
theorem dL_law_1066 : decode cL_law 1066 = .ok (.iaload, 1) := by decide +kernel
theorem dL_law_1067 : decode cL_law 1067 = .ok (.aload_n 0, 1) := by decide +kernel
theorem dL_law_1068 : decode cL_law 1068 = .ok (.iload_n 3, 1) := by decide +kernel
theorem dL_law_1069 : decode cL_law 1069 = .ok (.iconst 2, 1) := by decide +kernel
theorem dL_law_1070 : decode cL_law 1070 = .ok (.iadd, 1) := by decide +kernel
theorem dL_law_1071 : decode cL_law 1071 = .ok (.iaload, 1) := by decide +kernel
theorem dL_law_1072 : decode cL_law 1072 = .ok (.aload_n 0, 1) := by decide +kernel
theorem dL_law_1073 : decode cL_law 1073 = .ok (.iload_n 3, 1) := by decide +kernel
theorem dL_law_1074 : decode cL_law 1074 = .ok (.iconst 3, 1) := by decide +kernel
theorem dL_law_1075 : decode cL_law 1075 = .ok (.iadd, 1) := by decide +kernel
theorem dL_law_1076 : decode cL_law 1076 = .ok (.iaload, 1) := by decide +kernel
theorem dL_law_1077 : decode cL_law 1077 = .ok (.invokevirtual 127, 3) := by decide +kernel
theorem dL_law_1080 : decode cL_law 1080 = .ok (.aload_n 2, 1) := by decide +kernel
theorem dL_law_1081 : decode cL_law 1081 = .ok (.aload_n 0, 1) := by decide +kernel
theorem dL_law_1082 : decode cL_law 1082 = .ok (.iload_n 3, 1) := by decide +kernel
theorem dL_law_1083 : decode cL_law 1083 = .ok (.iconst 1, 1) := by decide +kernel
theorem dL_law_1084 : decode cL_law 1084 = .ok (.iadd, 1) := by decide +kernel
theorem dL_law_1085 : decode cL_law 1085 = .ok (.iaload, 1) := by decide +kernel
theorem dL_law_1086 : decode cL_law 1086 = .ok (.aload_n 0, 1) := by decide +kernel
theorem dL_law_1087 : decode cL_law 1087 = .ok (.iload_n 3, 1) := by decide +kernel
theorem dL_law_1088 : decode cL_law 1088 = .ok (.iconst 2, 1) := by decide +kernel
theorem dL_law_1089 : decode cL_law 1089 = .ok (.iadd, 1) := by decide +kernel
theorem dL_law_1090 : decode cL_law 1090 = .ok (.iaload, 1) := by decide +kernel
theorem dL_law_1091 : decode cL_law 1091 = .ok (.aload_n 0, 1) := by decide +kernel
theorem dL_law_1092 : decode cL_law 1092 = .ok (.iload_n 3, 1) := by decide +kernel
theorem dL_law_1093 : decode cL_law 1093 = .ok (.iconst 3, 1) := by decide +kernel
theorem dL_law_1094 : decode cL_law 1094 = .ok (.iadd, 1) := by decide +kernel
theorem dL_law_1095 : decode cL_law 1095 = .ok (.iaload, 1) := by decide +kernel
theorem dL_law_1096 : decode cL_law 1096 = .ok (.invokevirtual 130, 3) := by decide +kernel
theorem dL_law_1099 : decode cL_law 1099 = .ok (.if_icmp .eq 351, 3) := by decide +kernel
theorem dL_law_1102 : decode cL_law 1102 = .ok (.iconst 0, 1) := by decide +kernel
theorem dL_law_1103 : decode cL_law 1103 = .ok (.ireturn, 1) := by decide +kernel
theorem dL_law_1104 : decode cL_law 1104 = .ok (.aload_n 1, 1) := by decide +kernel
theorem dL_law_1105 : decode cL_law 1105 = .ok (.aload_n 0, 1) := by decide +kernel
theorem dL_law_1106 : decode cL_law 1106 = .ok (.iload_n 3, 1) := by decide +kernel
theorem dL_law_1107 : decode cL_law 1107 = .ok (.iconst 1, 1) := by decide +kernel
theorem dL_law_1108 : decode cL_law 1108 = .ok (.iadd, 1) := by decide +kernel
theorem dL_law_1109 : decode cL_law 1109 = .ok (.iaload, 1) := by decide +kernel
theorem dL_law_1110 : decode cL_law 1110 = .ok (.aload_n 0, 1) := by decide +kernel
theorem dL_law_1111 : decode cL_law 1111 = .ok (.iload_n 3, 1) := by decide +kernel
theorem dL_law_1112 : decode cL_law 1112 = .ok (.iconst 2, 1) := by decide +kernel
theorem dL_law_1113 : decode cL_law 1113 = .ok (.iadd, 1) := by decide +kernel
theorem dL_law_1114 : decode cL_law 1114 = .ok (.iaload, 1) := by decide +kernel
theorem dL_law_1115 : decode cL_law 1115 = .ok (.aload_n 0, 1) := by decide +kernel
theorem dL_law_1116 : decode cL_law 1116 = .ok (.iload_n 3, 1) := by decide +kernel
theorem dL_law_1117 : decode cL_law 1117 = .ok (.iconst 3, 1) := by decide +kernel
theorem dL_law_1118 : decode cL_law 1118 = .ok (.iadd, 1) := by decide +kernel
theorem dL_law_1119 : decode cL_law 1119 = .ok (.iaload, 1) := by decide +kernel
theorem dL_law_1120 : decode cL_law 1120 = .ok (.invokevirtual 131, 3) := by decide +kernel
theorem dL_law_1123 : decode cL_law 1123 = .ok (.aload_n 2, 1) := by decide +kernel
theorem dL_law_1124 : decode cL_law 1124 = .ok (.aload_n 0, 1) := by decide +kernel
theorem dL_law_1125 : decode cL_law 1125 = .ok (.iload_n 3, 1) := by decide +kernel
theorem dL_law_1126 : decode cL_law 1126 = .ok (.iconst 1, 1) := by decide +kernel
theorem dL_law_1127 : decode cL_law 1127 = .ok (.iadd, 1) := by decide +kernel
theorem dL_law_1128 : decode cL_law 1128 = .ok (.iaload, 1) := by decide +kernel
theorem dL_law_1129 : decode cL_law 1129 = .ok (.aload_n 0, 1) := by decide +kernel
theorem dL_law_1130 : decode cL_law 1130 = .ok (.iload_n 3, 1) := by decide +kernel
theorem dL_law_1131 : decode cL_law 1131 = .ok (.iconst 2, 1) := by decide +kernel
theorem dL_law_1132 : decode cL_law 1132 = .ok (.iadd, 1) := by decide +kernel
theorem dL_law_1133 : decode cL_law 1133 = .ok (.iaload, 1) := by decide +kernel
theorem dL_law_1134 : decode cL_law 1134 = .ok (.aload_n 0, 1) := by decide +kernel
theorem dL_law_1135 : decode cL_law 1135 = .ok (.iload_n 3, 1) := by decide +kernel
theorem dL_law_1136 : decode cL_law 1136 = .ok (.iconst 3, 1) := by decide +kernel
theorem dL_law_1137 : decode cL_law 1137 = .ok (.iadd, 1) := by decide +kernel
theorem dL_law_1138 : decode cL_law 1138 = .ok (.iaload, 1) := by decide +kernel
theorem dL_law_1139 : decode cL_law 1139 = .ok (.invokevirtual 134, 3) := by decide +kernel
theorem dL_law_1142 : decode cL_law 1142 = .ok (.if_icmp .eq 308, 3) := by decide +kernel
theorem dL_law_1145 : decode cL_law 1145 = .ok (.iconst 0, 1) := by decide +kernel
theorem dL_law_1146 : decode cL_law 1146 = .ok (.ireturn, 1) := by decide +kernel
theorem dL_law_1147 : decode cL_law 1147 = .ok (.aload_n 1, 1) := by decide +kernel
theorem dL_law_1148 : decode cL_law 1148 = .ok (.aload_n 0, 1) := by decide +kernel
theorem dL_law_1149 : decode cL_law 1149 = .ok (.iload_n 3, 1) := by decide +kernel
theorem dL_law_1150 : decode cL_law 1150 = .ok (.iconst 1, 1) := by decide +kernel
theorem dL_law_1151 : decode cL_law 1151 = .ok (.iadd, 1) := by decide +kernel
theorem dL_law_1152 : decode cL_law 1152 = .ok (.iaload, 1) := by decide +kernel
theorem dL_law_1153 : decode cL_law 1153 = .ok (.invokevirtual 135, 3) := by decide +kernel
theorem dL_law_1156 : decode cL_law 1156 = .ok (.aload_n 2, 1) := by decide +kernel
theorem dL_law_1157 : decode cL_law 1157 = .ok (.aload_n 0, 1) := by decide +kernel
theorem dL_law_1158 : decode cL_law 1158 = .ok (.iload_n 3, 1) := by decide +kernel
theorem dL_law_1159 : decode cL_law 1159 = .ok (.iconst 1, 1) := by decide +kernel
theorem dL_law_1160 : decode cL_law 1160 = .ok (.iadd, 1) := by decide +kernel
theorem dL_law_1161 : decode cL_law 1161 = .ok (.iaload, 1) := by decide +kernel
theorem dL_law_1162 : decode cL_law 1162 = .ok (.invokevirtual 138, 3) := by decide +kernel
theorem dL_law_1165 : decode cL_law 1165 = .ok (.if_icmp .eq 285, 3) := by decide +kernel
theorem dL_law_1168 : decode cL_law 1168 = .ok (.iconst 0, 1) := by decide +kernel
theorem dL_law_1169 : decode cL_law 1169 = .ok (.ireturn, 1) := by decide +kernel
theorem dL_law_1170 : decode cL_law 1170 = .ok (.aload_n 1, 1) := by decide +kernel
theorem dL_law_1171 : decode cL_law 1171 = .ok (.aload_n 0, 1) := by decide +kernel
theorem dL_law_1172 : decode cL_law 1172 = .ok (.iload_n 3, 1) := by decide +kernel
theorem dL_law_1173 : decode cL_law 1173 = .ok (.iconst 1, 1) := by decide +kernel
theorem dL_law_1174 : decode cL_law 1174 = .ok (.iadd, 1) := by decide +kernel
theorem dL_law_1175 : decode cL_law 1175 = .ok (.iaload, 1) := by decide +kernel
theorem dL_law_1176 : decode cL_law 1176 = .ok (.aload_n 0, 1) := by decide +kernel
theorem dL_law_1177 : decode cL_law 1177 = .ok (.iload_n 3, 1) := by decide +kernel
theorem dL_law_1178 : decode cL_law 1178 = .ok (.iconst 2, 1) := by decide +kernel
theorem dL_law_1179 : decode cL_law 1179 = .ok (.iadd, 1) := by decide +kernel
theorem dL_law_1180 : decode cL_law 1180 = .ok (.iaload, 1) := by decide +kernel
theorem dL_law_1181 : decode cL_law 1181 = .ok (.aload_n 0, 1) := by decide +kernel
theorem dL_law_1182 : decode cL_law 1182 = .ok (.iload_n 3, 1) := by decide +kernel
theorem dL_law_1183 : decode cL_law 1183 = .ok (.iconst 3, 1) := by decide +kernel
theorem dL_law_1184 : decode cL_law 1184 = .ok (.iadd, 1) := by decide +kernel
theorem dL_law_1185 : decode cL_law 1185 = .ok (.iaload, 1) := by decide +kernel
theorem dL_law_1186 : decode cL_law 1186 = .ok (.aload_n 0, 1) := by decide +kernel
theorem dL_law_1187 : decode cL_law 1187 = .ok (.iload_n 3, 1) := by decide +kernel
theorem dL_law_1188 : decode cL_law 1188 = .ok (.iconst 4, 1) := by decide +kernel
theorem dL_law_1189 : decode cL_law 1189 = .ok (.iadd, 1) := by decide +kernel
theorem dL_law_1190 : decode cL_law 1190 = .ok (.iaload, 1) := by decide +kernel
theorem dL_law_1191 : decode cL_law 1191 = .ok (.invokevirtual 139, 3) := by decide +kernel
theorem dL_law_1194 : decode cL_law 1194 = .ok (.aload_n 2, 1) := by decide +kernel
theorem dL_law_1195 : decode cL_law 1195 = .ok (.aload_n 0, 1) := by decide +kernel
theorem dL_law_1196 : decode cL_law 1196 = .ok (.iload_n 3, 1) := by decide +kernel
theorem dL_law_1197 : decode cL_law 1197 = .ok (.iconst 1, 1) := by decide +kernel
theorem dL_law_1198 : decode cL_law 1198 = .ok (.iadd, 1) := by decide +kernel
theorem dL_law_1199 : decode cL_law 1199 = .ok (.iaload, 1) := by decide +kernel
theorem dL_law_1200 : decode cL_law 1200 = .ok (.aload_n 0, 1) := by decide +kernel
theorem dL_law_1201 : decode cL_law 1201 = .ok (.iload_n 3, 1) := by decide +kernel
theorem dL_law_1202 : decode cL_law 1202 = .ok (.iconst 2, 1) := by decide +kernel
theorem dL_law_1203 : decode cL_law 1203 = .ok (.iadd, 1) := by decide +kernel
theorem dL_law_1204 : decode cL_law 1204 = .ok (.iaload, 1) := by decide +kernel
theorem dL_law_1205 : decode cL_law 1205 = .ok (.aload_n 0, 1) := by decide +kernel
theorem dL_law_1206 : decode cL_law 1206 = .ok (.iload_n 3, 1) := by decide +kernel
theorem dL_law_1207 : decode cL_law 1207 = .ok (.iconst 3, 1) := by decide +kernel
theorem dL_law_1208 : decode cL_law 1208 = .ok (.iadd, 1) := by decide +kernel
theorem dL_law_1209 : decode cL_law 1209 = .ok (.iaload, 1) := by decide +kernel
theorem dL_law_1210 : decode cL_law 1210 = .ok (.aload_n 0, 1) := by decide +kernel
theorem dL_law_1211 : decode cL_law 1211 = .ok (.iload_n 3, 1) := by decide +kernel
theorem dL_law_1212 : decode cL_law 1212 = .ok (.iconst 4, 1) := by decide +kernel
theorem dL_law_1213 : decode cL_law 1213 = .ok (.iadd, 1) := by decide +kernel
theorem dL_law_1214 : decode cL_law 1214 = .ok (.iaload, 1) := by decide +kernel
theorem dL_law_1215 : decode cL_law 1215 = .ok (.invokevirtual 143, 3) := by decide +kernel
theorem dL_law_1218 : decode cL_law 1218 = .ok (.if_icmp .eq 232, 3) := by decide +kernel
theorem dL_law_1221 : decode cL_law 1221 = .ok (.iconst 0, 1) := by decide +kernel
theorem dL_law_1222 : decode cL_law 1222 = .ok (.ireturn, 1) := by decide +kernel
theorem dL_law_1223 : decode cL_law 1223 = .ok (.aload_n 1, 1) := by decide +kernel
theorem dL_law_1224 : decode cL_law 1224 = .ok (.aload_n 0, 1) := by decide +kernel
theorem dL_law_1225 : decode cL_law 1225 = .ok (.iload_n 3, 1) := by decide +kernel
theorem dL_law_1226 : decode cL_law 1226 = .ok (.iconst 1, 1) := by decide +kernel
theorem dL_law_1227 : decode cL_law 1227 = .ok (.iadd, 1) := by decide +kernel
theorem dL_law_1228 : decode cL_law 1228 = .ok (.iaload, 1) := by decide +kernel
theorem dL_law_1229 : decode cL_law 1229 = .ok (.aload_n 0, 1) := by decide +kernel
theorem dL_law_1230 : decode cL_law 1230 = .ok (.iload_n 3, 1) := by decide +kernel
theorem dL_law_1231 : decode cL_law 1231 = .ok (.iconst 2, 1) := by decide +kernel
theorem dL_law_1232 : decode cL_law 1232 = .ok (.iadd, 1) := by decide +kernel
theorem dL_law_1233 : decode cL_law 1233 = .ok (.iaload, 1) := by decide +kernel
theorem dL_law_1234 : decode cL_law 1234 = .ok (.aload_n 0, 1) := by decide +kernel
theorem dL_law_1235 : decode cL_law 1235 = .ok (.iload_n 3, 1) := by decide +kernel
theorem dL_law_1236 : decode cL_law 1236 = .ok (.iconst 3, 1) := by decide +kernel
theorem dL_law_1237 : decode cL_law 1237 = .ok (.iadd, 1) := by decide +kernel
theorem dL_law_1238 : decode cL_law 1238 = .ok (.iaload, 1) := by decide +kernel
theorem dL_law_1239 : decode cL_law 1239 = .ok (.aload_n 0, 1) := by decide +kernel
theorem dL_law_1240 : decode cL_law 1240 = .ok (.iload_n 3, 1) := by decide +kernel
theorem dL_law_1241 : decode cL_law 1241 = .ok (.iconst 4, 1) := by decide +kernel
theorem dL_law_1242 : decode cL_law 1242 = .ok (.iadd, 1) := by decide +kernel
theorem dL_law_1243 : decode cL_law 1243 = .ok (.iaload, 1) := by decide +kernel
theorem dL_law_1244 : decode cL_law 1244 = .ok (.ifCond .eq 7, 3) := by decide +kernel
theorem dL_law_1247 : decode cL_law 1247 = .ok (.iconst 1, 1) := by decide +kernel
theorem dL_law_1248 : decode cL_law 1248 = .ok (.goto 4, 3) := by decide +kernel
theorem dL_law_1251 : decode cL_law 1251 = .ok (.iconst 0, 1) := by decide +kernel
theorem dL_law_1252 : decode cL_law 1252 = .ok (.invokevirtual 144, 3) := by decide +kernel
theorem dL_law_1255 : decode cL_law 1255 = .ok (.aload_n 2, 1) := by decide +kernel
theorem dL_law_1256 : decode cL_law 1256 = .ok (.aload_n 0, 1) := by decide +kernel
theorem dL_law_1257 : decode cL_law 1257 = .ok (.iload_n 3, 1) := by decide +kernel
theorem dL_law_1258 : decode cL_law 1258 = .ok (.iconst 1, 1) := by decide +kernel
theorem dL_law_1259 : decode cL_law 1259 = .ok (.iadd, 1) := by decide +kernel
theorem dL_law_1260 : decode cL_law 1260 = .ok (.iaload, 1) := by decide +kernel
theorem dL_law_1261 : decode cL_law 1261 = .ok (.aload_n 0, 1) := by decide +kernel
theorem dL_law_1262 : decode cL_law 1262 = .ok (.iload_n 3, 1) := by decide +kernel
theorem dL_law_1263 : decode cL_law 1263 = .ok (.iconst 2, 1) := by decide +kernel
theorem dL_law_1264 : decode cL_law 1264 = .ok (.iadd, 1) := by decide +kernel
theorem dL_law_1265 : decode cL_law 1265 = .ok (.iaload, 1) := by decide +kernel
theorem dL_law_1266 : decode cL_law 1266 = .ok (.aload_n 0, 1) := by decide +kernel
theorem dL_law_1267 : decode cL_law 1267 = .ok (.iload_n 3, 1) := by decide +kernel
theorem dL_law_1268 : decode cL_law 1268 = .ok (.iconst 3, 1) := by decide +kernel
theorem dL_law_1269 : decode cL_law 1269 = .ok (.iadd, 1) := by decide +kernel
theorem dL_law_1270 : decode cL_law 1270 = .ok (.iaload, 1) := by decide +kernel
theorem dL_law_1271 : decode cL_law 1271 = .ok (.aload_n 0, 1) := by decide +kernel
theorem dL_law_1272 : decode cL_law 1272 = .ok (.iload_n 3, 1) := by decide +kernel
theorem dL_law_1273 : decode cL_law 1273 = .ok (.iconst 4, 1) := by decide +kernel
theorem dL_law_1274 : decode cL_law 1274 = .ok (.iadd, 1) := by decide +kernel
theorem dL_law_1275 : decode cL_law 1275 = .ok (.iaload, 1) := by decide +kernel
theorem dL_law_1276 : decode cL_law 1276 = .ok (.ifCond .eq 7, 3) := by decide +kernel
theorem dL_law_1279 : decode cL_law 1279 = .ok (.iconst 1, 1) := by decide +kernel
theorem dL_law_1280 : decode cL_law 1280 = .ok (.goto 4, 3) := by decide +kernel
theorem dL_law_1283 : decode cL_law 1283 = .ok (.iconst 0, 1) := by decide +kernel
theorem dL_law_1284 : decode cL_law 1284 = .ok (.invokevirtual 148, 3) := by decide +kernel
theorem dL_law_1287 : decode cL_law 1287 = .ok (.if_icmp .eq 163, 3) := by decide +kernel
theorem dL_law_1290 : decode cL_law 1290 = .ok (.iconst 0, 1) := by decide +kernel
theorem dL_law_1291 : decode cL_law 1291 = .ok (.ireturn, 1) := by decide +kernel
theorem dL_law_1292 : decode cL_law 1292 = .ok (.aload_n 1, 1) := by decide +kernel
theorem dL_law_1293 : decode cL_law 1293 = .ok (.invokevirtual 149, 3) := by decide +kernel
theorem dL_law_1296 : decode cL_law 1296 = .ok (.aload_n 2, 1) := by decide +kernel
theorem dL_law_1297 : decode cL_law 1297 = .ok (.invokevirtual 152, 3) := by decide +kernel
theorem dL_law_1300 : decode cL_law 1300 = .ok (.if_icmp .eq 150, 3) := by decide +kernel
theorem dL_law_1303 : decode cL_law 1303 = .ok (.iconst 0, 1) := by decide +kernel
theorem dL_law_1304 : decode cL_law 1304 = .ok (.ireturn, 1) := by decide +kernel
theorem dL_law_1305 : decode cL_law 1305 = .ok (.aload_n 1, 1) := by decide +kernel
theorem dL_law_1306 : decode cL_law 1306 = .ok (.aload_n 0, 1) := by decide +kernel
theorem dL_law_1307 : decode cL_law 1307 = .ok (.iload_n 3, 1) := by decide +kernel
theorem dL_law_1308 : decode cL_law 1308 = .ok (.iconst 1, 1) := by decide +kernel
theorem dL_law_1309 : decode cL_law 1309 = .ok (.iadd, 1) := by decide +kernel
theorem dL_law_1310 : decode cL_law 1310 = .ok (.iaload, 1) := by decide +kernel
theorem dL_law_1311 : decode cL_law 1311 = .ok (.aload_n 0, 1) := by decide +kernel
theorem dL_law_1312 : decode cL_law 1312 = .ok (.iload_n 3, 1) := by decide +kernel
theorem dL_law_1313 : decode cL_law 1313 = .ok (.iconst 2, 1) := by decide +kernel
theorem dL_law_1314 : decode cL_law 1314 = .ok (.iadd, 1) := by decide +kernel
theorem dL_law_1315 : decode cL_law 1315 = .ok (.iaload, 1) := by decide +kernel
theorem dL_law_1316 : decode cL_law 1316 = .ok (.aload_n 0, 1) := by decide +kernel
theorem dL_law_1317 : decode cL_law 1317 = .ok (.iload_n 3, 1) := by decide +kernel
theorem dL_law_1318 : decode cL_law 1318 = .ok (.iconst 3, 1) := by decide +kernel
theorem dL_law_1319 : decode cL_law 1319 = .ok (.iadd, 1) := by decide +kernel
theorem dL_law_1320 : decode cL_law 1320 = .ok (.iaload, 1) := by decide +kernel
theorem dL_law_1321 : decode cL_law 1321 = .ok (.invokevirtual 153, 3) := by decide +kernel
theorem dL_law_1324 : decode cL_law 1324 = .ok (.aload_n 2, 1) := by decide +kernel
theorem dL_law_1325 : decode cL_law 1325 = .ok (.aload_n 0, 1) := by decide +kernel
theorem dL_law_1326 : decode cL_law 1326 = .ok (.iload_n 3, 1) := by decide +kernel
theorem dL_law_1327 : decode cL_law 1327 = .ok (.iconst 1, 1) := by decide +kernel
theorem dL_law_1328 : decode cL_law 1328 = .ok (.iadd, 1) := by decide +kernel
theorem dL_law_1329 : decode cL_law 1329 = .ok (.iaload, 1) := by decide +kernel
theorem dL_law_1330 : decode cL_law 1330 = .ok (.aload_n 0, 1) := by decide +kernel
theorem dL_law_1331 : decode cL_law 1331 = .ok (.iload_n 3, 1) := by decide +kernel
theorem dL_law_1332 : decode cL_law 1332 = .ok (.iconst 2, 1) := by decide +kernel
theorem dL_law_1333 : decode cL_law 1333 = .ok (.iadd, 1) := by decide +kernel
theorem dL_law_1334 : decode cL_law 1334 = .ok (.iaload, 1) := by decide +kernel
theorem dL_law_1335 : decode cL_law 1335 = .ok (.aload_n 0, 1) := by decide +kernel
theorem dL_law_1336 : decode cL_law 1336 = .ok (.iload_n 3, 1) := by decide +kernel
theorem dL_law_1337 : decode cL_law 1337 = .ok (.iconst 3, 1) := by decide +kernel
theorem dL_law_1338 : decode cL_law 1338 = .ok (.iadd, 1) := by decide +kernel
theorem dL_law_1339 : decode cL_law 1339 = .ok (.iaload, 1) := by decide +kernel
theorem dL_law_1340 : decode cL_law 1340 = .ok (.invokevirtual 156, 3) := by decide +kernel
theorem dL_law_1343 : decode cL_law 1343 = .ok (.if_icmp .eq 107, 3) := by decide +kernel
theorem dL_law_1346 : decode cL_law 1346 = .ok (.iconst 0, 1) := by decide +kernel
theorem dL_law_1347 : decode cL_law 1347 = .ok (.ireturn, 1) := by decide +kernel
theorem dL_law_1348 : decode cL_law 1348 = .ok (.aload_n 1, 1) := by decide +kernel
theorem dL_law_1349 : decode cL_law 1349 = .ok (.aload_n 0, 1) := by decide +kernel
theorem dL_law_1350 : decode cL_law 1350 = .ok (.iload_n 3, 1) := by decide +kernel
theorem dL_law_1351 : decode cL_law 1351 = .ok (.iconst 1, 1) := by decide +kernel
theorem dL_law_1352 : decode cL_law 1352 = .ok (.iadd, 1) := by decide +kernel
theorem dL_law_1353 : decode cL_law 1353 = .ok (.iaload, 1) := by decide +kernel
theorem dL_law_1354 : decode cL_law 1354 = .ok (.aload_n 0, 1) := by decide +kernel
theorem dL_law_1355 : decode cL_law 1355 = .ok (.iload_n 3, 1) := by decide +kernel
theorem dL_law_1356 : decode cL_law 1356 = .ok (.iconst 2, 1) := by decide +kernel
theorem dL_law_1357 : decode cL_law 1357 = .ok (.iadd, 1) := by decide +kernel
theorem dL_law_1358 : decode cL_law 1358 = .ok (.iaload, 1) := by decide +kernel
theorem dL_law_1359 : decode cL_law 1359 = .ok (.invokevirtual 157, 3) := by decide +kernel
theorem dL_law_1362 : decode cL_law 1362 = .ok (.aload_n 2, 1) := by decide +kernel
theorem dL_law_1363 : decode cL_law 1363 = .ok (.aload_n 0, 1) := by decide +kernel
theorem dL_law_1364 : decode cL_law 1364 = .ok (.iload_n 3, 1) := by decide +kernel
theorem dL_law_1365 : decode cL_law 1365 = .ok (.iconst 1, 1) := by decide +kernel
theorem dL_law_1366 : decode cL_law 1366 = .ok (.iadd, 1) := by decide +kernel
theorem dL_law_1367 : decode cL_law 1367 = .ok (.iaload, 1) := by decide +kernel
theorem dL_law_1368 : decode cL_law 1368 = .ok (.aload_n 0, 1) := by decide +kernel
theorem dL_law_1369 : decode cL_law 1369 = .ok (.iload_n 3, 1) := by decide +kernel
theorem dL_law_1370 : decode cL_law 1370 = .ok (.iconst 2, 1) := by decide +kernel
theorem dL_law_1371 : decode cL_law 1371 = .ok (.iadd, 1) := by decide +kernel
theorem dL_law_1372 : decode cL_law 1372 = .ok (.iaload, 1) := by decide +kernel
theorem dL_law_1373 : decode cL_law 1373 = .ok (.invokevirtual 160, 3) := by decide +kernel
theorem dL_law_1376 : decode cL_law 1376 = .ok (.if_icmp .eq 74, 3) := by decide +kernel
theorem dL_law_1379 : decode cL_law 1379 = .ok (.iconst 0, 1) := by decide +kernel
theorem dL_law_1380 : decode cL_law 1380 = .ok (.ireturn, 1) := by decide +kernel
theorem dL_law_1381 : decode cL_law 1381 = .ok (.aload_n 1, 1) := by decide +kernel
theorem dL_law_1382 : decode cL_law 1382 = .ok (.aload_n 0, 1) := by decide +kernel
theorem dL_law_1383 : decode cL_law 1383 = .ok (.iload_n 3, 1) := by decide +kernel
theorem dL_law_1384 : decode cL_law 1384 = .ok (.iconst 1, 1) := by decide +kernel
theorem dL_law_1385 : decode cL_law 1385 = .ok (.iadd, 1) := by decide +kernel
theorem dL_law_1386 : decode cL_law 1386 = .ok (.iaload, 1) := by decide +kernel
theorem dL_law_1387 : decode cL_law 1387 = .ok (.invokevirtual 161, 3) := by decide +kernel
theorem dL_law_1390 : decode cL_law 1390 = .ok (.aload_n 2, 1) := by decide +kernel
theorem dL_law_1391 : decode cL_law 1391 = .ok (.aload_n 0, 1) := by decide +kernel
theorem dL_law_1392 : decode cL_law 1392 = .ok (.iload_n 3, 1) := by decide +kernel
theorem dL_law_1393 : decode cL_law 1393 = .ok (.iconst 1, 1) := by decide +kernel
theorem dL_law_1394 : decode cL_law 1394 = .ok (.iadd, 1) := by decide +kernel
theorem dL_law_1395 : decode cL_law 1395 = .ok (.iaload, 1) := by decide +kernel
theorem dL_law_1396 : decode cL_law 1396 = .ok (.invokevirtual 165, 3) := by decide +kernel
theorem dL_law_1399 : decode cL_law 1399 = .ok (.if_icmp .eq 51, 3) := by decide +kernel
theorem dL_law_1402 : decode cL_law 1402 = .ok (.iconst 0, 1) := by decide +kernel
theorem dL_law_1403 : decode cL_law 1403 = .ok (.ireturn, 1) := by decide +kernel
theorem dL_law_1404 : decode cL_law 1404 = .ok (.aload_n 1, 1) := by decide +kernel
theorem dL_law_1405 : decode cL_law 1405 = .ok (.aload_n 0, 1) := by decide +kernel
theorem dL_law_1406 : decode cL_law 1406 = .ok (.iload_n 3, 1) := by decide +kernel
theorem dL_law_1407 : decode cL_law 1407 = .ok (.iconst 1, 1) := by decide +kernel
theorem dL_law_1408 : decode cL_law 1408 = .ok (.iadd, 1) := by decide +kernel
theorem dL_law_1409 : decode cL_law 1409 = .ok (.iaload, 1) := by decide +kernel
theorem dL_law_1410 : decode cL_law 1410 = .ok (.invokevirtual 166, 3) := by decide +kernel
theorem dL_law_1413 : decode cL_law 1413 = .ok (.aload_n 2, 1) := by decide +kernel
theorem dL_law_1414 : decode cL_law 1414 = .ok (.aload_n 0, 1) := by decide +kernel
theorem dL_law_1415 : decode cL_law 1415 = .ok (.iload_n 3, 1) := by decide +kernel
theorem dL_law_1416 : decode cL_law 1416 = .ok (.iconst 1, 1) := by decide +kernel
theorem dL_law_1417 : decode cL_law 1417 = .ok (.iadd, 1) := by decide +kernel
theorem dL_law_1418 : decode cL_law 1418 = .ok (.iaload, 1) := by decide +kernel
theorem dL_law_1419 : decode cL_law 1419 = .ok (.invokevirtual 169, 3) := by decide +kernel
theorem dL_law_1422 : decode cL_law 1422 = .ok (.if_icmp .eq 28, 3) := by decide +kernel
theorem dL_law_1425 : decode cL_law 1425 = .ok (.iconst 0, 1) := by decide +kernel
theorem dL_law_1426 : decode cL_law 1426 = .ok (.ireturn, 1) := by decide +kernel
theorem dL_law_1427 : decode cL_law 1427 = .ok (.aload_n 1, 1) := by decide +kernel
theorem dL_law_1428 : decode cL_law 1428 = .ok (.aload_n 0, 1) := by decide +kernel
theorem dL_law_1429 : decode cL_law 1429 = .ok (.iload_n 3, 1) := by decide +kernel
theorem dL_law_1430 : decode cL_law 1430 = .ok (.iconst 1, 1) := by decide +kernel
theorem dL_law_1431 : decode cL_law 1431 = .ok (.iadd, 1) := by decide +kernel
theorem dL_law_1432 : decode cL_law 1432 = .ok (.iaload, 1) := by decide +kernel
theorem dL_law_1433 : decode cL_law 1433 = .ok (.invokevirtual 170, 3) := by decide +kernel
theorem dL_law_1436 : decode cL_law 1436 = .ok (.aload_n 2, 1) := by decide +kernel
theorem dL_law_1437 : decode cL_law 1437 = .ok (.aload_n 0, 1) := by decide +kernel
theorem dL_law_1438 : decode cL_law 1438 = .ok (.iload_n 3, 1) := by decide +kernel
theorem dL_law_1439 : decode cL_law 1439 = .ok (.iconst 1, 1) := by decide +kernel
theorem dL_law_1440 : decode cL_law 1440 = .ok (.iadd, 1) := by decide +kernel
theorem dL_law_1441 : decode cL_law 1441 = .ok (.iaload, 1) := by decide +kernel
theorem dL_law_1442 : decode cL_law 1442 = .ok (.invokevirtual 173, 3) := by decide +kernel
theorem dL_law_1445 : decode cL_law 1445 = .ok (.if_icmp .eq 5, 3) := by decide +kernel
theorem dL_law_1448 : decode cL_law 1448 = .ok (.iconst 0, 1) := by decide +kernel
theorem dL_law_1449 : decode cL_law 1449 = .ok (.ireturn, 1) := by decide +kernel
theorem dL_law_1450 : decode cL_law 1450 = .ok (.iinc 3 6, 3) := by decide +kernel
theorem dL_law_1453 : decode cL_law 1453 = .ok (.goto (-1435), 3) := by decide +kernel
theorem dL_law_1456 : decode cL_law 1456 = .ok (.iconst 1, 1) := by decide +kernel
theorem dL_law_1457 : decode cL_law 1457 = .ok (.ireturn, 1) := by decide +kernel
def xL_law : zX := (RL, cL_law, 4, some .boolean, false, room_1, 0, 0, 600000, 7302250)
theorem rmL_law : z_Rm xL_law := by unfold z_Rm xL_law room_1; exact ⟨by decide, by decide⟩
theorem rlL_law : 1 ≤ xL_law.2.2.2.2.2.1.frames ∧ 21 ≤ xL_law.2.2.2.2.2.1.locals := by unfold xL_law room_1; exact ⟨by decide, by decide⟩
theorem fitL_law_226 : z_Fit xX11_feed xL_law := by unfold z_Fit; simp only [xX11_feed, xL_law, room_1]; exact ⟨by decide, by decide⟩
theorem fitL_law_255 : z_Fit xX12_feed xL_law := by unfold z_Fit; simp only [xX12_feed, xL_law, room_1]; exact ⟨by decide, by decide⟩
theorem fitL_law_269 : z_Fit xX11_back xL_law := by unfold z_Fit; simp only [xX11_back, xL_law, room_1]; exact ⟨by decide, by decide⟩
theorem fitL_law_278 : z_Fit xX12_back xL_law := by unfold z_Fit; simp only [xX12_back, xL_law, room_1]; exact ⟨by decide, by decide⟩
theorem fitL_law_287 : z_Fit xX11_read xL_law := by unfold z_Fit; simp only [xX11_read, xL_law, room_1]; exact ⟨by decide, by decide⟩
theorem fitL_law_291 : z_Fit xX12_read xL_law := by unfold z_Fit; simp only [xX12_read, xL_law, room_1]; exact ⟨by decide, by decide⟩
theorem fitL_law_300 : z_Fit xX11_place xL_law := by unfold z_Fit; simp only [xX11_place, xL_law, room_1]; exact ⟨by decide, by decide⟩
theorem fitL_law_304 : z_Fit xX12_place xL_law := by unfold z_Fit; simp only [xX12_place, xL_law, room_1]; exact ⟨by decide, by decide⟩
theorem fitL_law_323 : z_Fit xX11_child xL_law := by unfold z_Fit; simp only [xX11_child, xL_law, room_1]; exact ⟨by decide, by decide⟩
theorem fitL_law_337 : z_Fit xX12_child xL_law := by unfold z_Fit; simp only [xX12_child, xL_law, room_1]; exact ⟨by decide, by decide⟩
theorem fitL_law_356 : z_Fit xX11_row xL_law := by unfold z_Fit; simp only [xX11_row, xL_law, room_1]; exact ⟨by decide, by decide⟩
theorem fitL_law_370 : z_Fit xX12_row xL_law := by unfold z_Fit; simp only [xX12_row, xL_law, room_1]; exact ⟨by decide, by decide⟩
theorem fitL_law_394 : z_Fit xX11_at xL_law := by unfold z_Fit; simp only [xX11_at, xL_law, room_1]; exact ⟨by decide, by decide⟩
theorem fitL_law_413 : z_Fit xX12_at xL_law := by unfold z_Fit; simp only [xX12_at, xL_law, room_1]; exact ⟨by decide, by decide⟩
theorem fitL_law_437 : z_Fit xX11_worth xL_law := by unfold z_Fit; simp only [xX11_worth, xL_law, room_1]; exact ⟨by decide, by decide⟩
theorem fitL_law_456 : z_Fit xX12_worth xL_law := by unfold z_Fit; simp only [xX12_worth, xL_law, room_1]; exact ⟨by decide, by decide⟩
theorem fitL_law_475 : z_Fit xX11_many xL_law := by unfold z_Fit; simp only [xX11_many, xL_law, room_1]; exact ⟨by decide, by decide⟩
theorem fitL_law_489 : z_Fit xX12_many xL_law := by unfold z_Fit; simp only [xX12_many, xL_law, room_1]; exact ⟨by decide, by decide⟩
theorem fitL_law_513 : z_Fit xX11_side xL_law := by unfold z_Fit; simp only [xX11_side, xL_law, room_1]; exact ⟨by decide, by decide⟩
theorem fitL_law_532 : z_Fit xX12_side xL_law := by unfold z_Fit; simp only [xX12_side, xL_law, room_1]; exact ⟨by decide, by decide⟩
theorem fitL_law_556 : z_Fit xX11_costs xL_law := by unfold z_Fit; simp only [xX11_costs, xL_law, room_1]; exact ⟨by decide, by decide⟩
theorem fitL_law_575 : z_Fit xX12_costs xL_law := by unfold z_Fit; simp only [xX12_costs, xL_law, room_1]; exact ⟨by decide, by decide⟩
theorem fitL_law_599 : z_Fit xX11_paint xL_law := by unfold z_Fit; simp only [xX11_paint, xL_law, room_1]; exact ⟨by decide, by decide⟩
theorem fitL_law_618 : z_Fit xX12_paint xL_law := by unfold z_Fit; simp only [xX12_paint, xL_law, room_1]; exact ⟨by decide, by decide⟩
theorem fitL_law_637 : z_Fit xX11_come xL_law := by unfold z_Fit; simp only [xX11_come, xL_law, room_1]; exact ⟨by decide, by decide⟩
theorem fitL_law_651 : z_Fit xX12_come xL_law := by unfold z_Fit; simp only [xX12_come, xL_law, room_1]; exact ⟨by decide, by decide⟩
theorem fitL_law_665 : z_Fit xX11_go xL_law := by unfold z_Fit; simp only [xX11_go, xL_law, room_1]; exact ⟨by decide, by decide⟩
theorem fitL_law_674 : z_Fit xX12_go xL_law := by unfold z_Fit; simp only [xX12_go, xL_law, room_1]; exact ⟨by decide, by decide⟩
theorem fitL_law_688 : z_Fit xX11_times xL_law := by unfold z_Fit; simp only [xX11_times, xL_law, room_1]; exact ⟨by decide, by decide⟩
theorem fitL_law_697 : z_Fit xX12_times xL_law := by unfold z_Fit; simp only [xX12_times, xL_law, room_1]; exact ⟨by decide, by decide⟩
theorem fitL_law_706 : z_Fit xX11_undo xL_law := by unfold z_Fit; simp only [xX11_undo, xL_law, room_1]; exact ⟨by decide, by decide⟩
theorem fitL_law_710 : z_Fit xX12_undo xL_law := by unfold z_Fit; simp only [xX12_undo, xL_law, room_1]; exact ⟨by decide, by decide⟩
theorem fitL_law_734 : z_Fit xX11_makes xL_law := by unfold z_Fit; simp only [xX11_makes, xL_law, room_1]; exact ⟨by decide, by decide⟩
theorem fitL_law_753 : z_Fit xX12_makes xL_law := by unfold z_Fit; simp only [xX12_makes, xL_law, room_1]; exact ⟨by decide, by decide⟩
theorem fitL_law_777 : z_Fit xX11_repaint xL_law := by unfold z_Fit; simp only [xX11_repaint, xL_law, room_1]; exact ⟨by decide, by decide⟩
theorem fitL_law_796 : z_Fit xX12_repaint xL_law := by unfold z_Fit; simp only [xX12_repaint, xL_law, room_1]; exact ⟨by decide, by decide⟩
theorem fitL_law_815 : z_Fit xX11_fairly xL_law := by unfold z_Fit; simp only [xX11_fairly, xL_law, room_1]; exact ⟨by decide, by decide⟩
theorem fitL_law_829 : z_Fit xX12_fairly xL_law := by unfold z_Fit; simp only [xX12_fairly, xL_law, room_1]; exact ⟨by decide, by decide⟩
theorem fitL_law_843 : z_Fit xX11_matters xL_law := by unfold z_Fit; simp only [xX11_matters, xL_law, room_1]; exact ⟨by decide, by decide⟩
theorem fitL_law_852 : z_Fit xX12_matters xL_law := by unfold z_Fit; simp only [xX12_matters, xL_law, room_1]; exact ⟨by decide, by decide⟩
theorem fitL_law_871 : z_Fit xX11_parents xL_law := by unfold z_Fit; simp only [xX11_parents, xL_law, room_1]; exact ⟨by decide, by decide⟩
theorem fitL_law_885 : z_Fit xX12_parents xL_law := by unfold z_Fit; simp only [xX12_parents, xL_law, room_1]; exact ⟨by decide, by decide⟩
theorem fitL_law_899 : z_Fit xX11_orphans xL_law := by unfold z_Fit; simp only [xX11_orphans, xL_law, room_1]; exact ⟨by decide, by decide⟩
theorem fitL_law_908 : z_Fit xX12_orphans xL_law := by unfold z_Fit; simp only [xX12_orphans, xL_law, room_1]; exact ⟨by decide, by decide⟩
theorem fitL_law_927 : z_Fit xX11_ring xL_law := by unfold z_Fit; simp only [xX11_ring, xL_law, room_1]; exact ⟨by decide, by decide⟩
theorem fitL_law_941 : z_Fit xX12_ring xL_law := by unfold z_Fit; simp only [xX12_ring, xL_law, room_1]; exact ⟨by decide, by decide⟩
theorem fitL_law_965 : z_Fit xX11_after xL_law := by unfold z_Fit; simp only [xX11_after, xL_law, room_1]; exact ⟨by decide, by decide⟩
theorem fitL_law_984 : z_Fit xX12_after xL_law := by unfold z_Fit; simp only [xX12_after, xL_law, room_1]; exact ⟨by decide, by decide⟩
theorem fitL_law_993 : z_Fit xX11_ways xL_law := by unfold z_Fit; simp only [xX11_ways, xL_law, room_1]; exact ⟨by decide, by decide⟩
theorem fitL_law_997 : z_Fit xX12_ways xL_law := by unfold z_Fit; simp only [xX12_ways, xL_law, room_1]; exact ⟨by decide, by decide⟩
theorem fitL_law_1011 : z_Fit xX11_shut xL_law := by unfold z_Fit; simp only [xX11_shut, xL_law, room_1]; exact ⟨by decide, by decide⟩
theorem fitL_law_1020 : z_Fit xX12_shut xL_law := by unfold z_Fit; simp only [xX12_shut, xL_law, room_1]; exact ⟨by decide, by decide⟩
theorem fitL_law_1039 : z_Fit xX11_deep xL_law := by unfold z_Fit; simp only [xX11_deep, xL_law, room_1]; exact ⟨by decide, by decide⟩
theorem fitL_law_1053 : z_Fit xX12_deep xL_law := by unfold z_Fit; simp only [xX12_deep, xL_law, room_1]; exact ⟨by decide, by decide⟩
theorem fitL_law_1077 : z_Fit xX11_game xL_law := by unfold z_Fit; simp only [xX11_game, xL_law, room_1]; exact ⟨by decide, by decide⟩
theorem fitL_law_1096 : z_Fit xX12_game xL_law := by unfold z_Fit; simp only [xX12_game, xL_law, room_1]; exact ⟨by decide, by decide⟩
theorem fitL_law_1120 : z_Fit xX11_then xL_law := by unfold z_Fit; simp only [xX11_then, xL_law, room_1]; exact ⟨by decide, by decide⟩
theorem fitL_law_1139 : z_Fit xX12_then xL_law := by unfold z_Fit; simp only [xX12_then, xL_law, room_1]; exact ⟨by decide, by decide⟩
theorem fitL_law_1153 : z_Fit xX11_paidIn xL_law := by unfold z_Fit; simp only [xX11_paidIn, xL_law, room_1]; exact ⟨by decide, by decide⟩
theorem fitL_law_1162 : z_Fit xX12_paidIn xL_law := by unfold z_Fit; simp only [xX12_paidIn, xL_law, room_1]; exact ⟨by decide, by decide⟩
theorem fitL_law_1191 : z_Fit xX11_year xL_law := by unfold z_Fit; simp only [xX11_year, xL_law, room_1]; exact ⟨by decide, by decide⟩
theorem fitL_law_1215 : z_Fit xX12_year xL_law := by unfold z_Fit; simp only [xX12_year, xL_law, room_1]; exact ⟨by decide, by decide⟩
theorem fitL_law_1252 : z_Fit xX11_tell xL_law := by unfold z_Fit; simp only [xX11_tell, xL_law, room_1]; exact ⟨by decide, by decide⟩
theorem fitL_law_1284 : z_Fit xX12_tell xL_law := by unfold z_Fit; simp only [xX12_tell, xL_law, room_1]; exact ⟨by decide, by decide⟩
theorem fitL_law_1293 : z_Fit xX11_forget xL_law := by unfold z_Fit; simp only [xX11_forget, xL_law, room_1]; exact ⟨by decide, by decide⟩
theorem fitL_law_1297 : z_Fit xX12_forget xL_law := by unfold z_Fit; simp only [xX12_forget, xL_law, room_1]; exact ⟨by decide, by decide⟩
theorem fitL_law_1321 : z_Fit xX11_rows xL_law := by unfold z_Fit; simp only [xX11_rows, xL_law, room_1]; exact ⟨by decide, by decide⟩
theorem fitL_law_1340 : z_Fit xX12_rows xL_law := by unfold z_Fit; simp only [xX12_rows, xL_law, room_1]; exact ⟨by decide, by decide⟩
theorem fitL_law_1359 : z_Fit xX11_look xL_law := by unfold z_Fit; simp only [xX11_look, xL_law, room_1]; exact ⟨by decide, by decide⟩
theorem fitL_law_1373 : z_Fit xX12_look xL_law := by unfold z_Fit; simp only [xX12_look, xL_law, room_1]; exact ⟨by decide, by decide⟩
theorem fitL_law_1387 : z_Fit xX11_hold xL_law := by unfold z_Fit; simp only [xX11_hold, xL_law, room_1]; exact ⟨by decide, by decide⟩
theorem fitL_law_1396 : z_Fit xX12_hold xL_law := by unfold z_Fit; simp only [xX12_hold, xL_law, room_1]; exact ⟨by decide, by decide⟩
theorem fitL_law_1410 : z_Fit xX11_restore xL_law := by unfold z_Fit; simp only [xX11_restore, xL_law, room_1]; exact ⟨by decide, by decide⟩
theorem fitL_law_1419 : z_Fit xX12_restore xL_law := by unfold z_Fit; simp only [xX12_restore, xL_law, room_1]; exact ⟨by decide, by decide⟩
theorem fitL_law_1433 : z_Fit xX11_count xL_law := by unfold z_Fit; simp only [xX11_count, xL_law, room_1]; exact ⟨by decide, by decide⟩
theorem fitL_law_1442 : z_Fit xX12_count xL_law := by unfold z_Fit; simp only [xX12_count, xL_law, room_1]; exact ⟨by decide, by decide⟩
noncomputable def kL_law_1456 (b L : Nat) (xs : Nat → Int32) : zK zR := (q_push 1 q_zret)
noncomputable def kL_law_1450 (b L : Nat) (xs : Nat → Int32) : zK ((zL × zS) ⊕ zR) := (q_iinc 3 6 q_ag)
noncomputable def kL_law_261 (b L : Nat) (xs : Nat → Int32) : zK zR := (q_push 0 q_zret)
noncomputable def kL_law_284 (b L : Nat) (xs : Nat → Int32) : zK zR := (q_push 0 q_zret)
noncomputable def kL_law_297 (b L : Nat) (xs : Nat → Int32) : zK zR := (q_push 0 q_zret)
noncomputable def kL_law_310 (b L : Nat) (xs : Nat → Int32) : zK zR := (q_push 0 q_zret)
noncomputable def kL_law_343 (b L : Nat) (xs : Nat → Int32) : zK zR := (q_push 0 q_zret)
noncomputable def kL_law_376 (b L : Nat) (xs : Nat → Int32) : zK zR := (q_push 0 q_zret)
noncomputable def kL_law_419 (b L : Nat) (xs : Nat → Int32) : zK zR := (q_push 0 q_zret)
noncomputable def kL_law_462 (b L : Nat) (xs : Nat → Int32) : zK zR := (q_push 0 q_zret)
noncomputable def kL_law_495 (b L : Nat) (xs : Nat → Int32) : zK zR := (q_push 0 q_zret)
noncomputable def kL_law_538 (b L : Nat) (xs : Nat → Int32) : zK zR := (q_push 0 q_zret)
noncomputable def kL_law_581 (b L : Nat) (xs : Nat → Int32) : zK zR := (q_push 0 q_zret)
noncomputable def kL_law_624 (b L : Nat) (xs : Nat → Int32) : zK zR := (q_push 0 q_zret)
noncomputable def kL_law_657 (b L : Nat) (xs : Nat → Int32) : zK zR := (q_push 0 q_zret)
noncomputable def kL_law_680 (b L : Nat) (xs : Nat → Int32) : zK zR := (q_push 0 q_zret)
noncomputable def kL_law_703 (b L : Nat) (xs : Nat → Int32) : zK zR := (q_push 0 q_zret)
noncomputable def kL_law_716 (b L : Nat) (xs : Nat → Int32) : zK zR := (q_push 0 q_zret)
noncomputable def kL_law_759 (b L : Nat) (xs : Nat → Int32) : zK zR := (q_push 0 q_zret)
noncomputable def kL_law_802 (b L : Nat) (xs : Nat → Int32) : zK zR := (q_push 0 q_zret)
noncomputable def kL_law_835 (b L : Nat) (xs : Nat → Int32) : zK zR := (q_push 0 q_zret)
noncomputable def kL_law_858 (b L : Nat) (xs : Nat → Int32) : zK zR := (q_push 0 q_zret)
noncomputable def kL_law_891 (b L : Nat) (xs : Nat → Int32) : zK zR := (q_push 0 q_zret)
noncomputable def kL_law_914 (b L : Nat) (xs : Nat → Int32) : zK zR := (q_push 0 q_zret)
noncomputable def kL_law_947 (b L : Nat) (xs : Nat → Int32) : zK zR := (q_push 0 q_zret)
noncomputable def kL_law_990 (b L : Nat) (xs : Nat → Int32) : zK zR := (q_push 0 q_zret)
noncomputable def kL_law_1003 (b L : Nat) (xs : Nat → Int32) : zK zR := (q_push 0 q_zret)
noncomputable def kL_law_1026 (b L : Nat) (xs : Nat → Int32) : zK zR := (q_push 0 q_zret)
noncomputable def kL_law_1059 (b L : Nat) (xs : Nat → Int32) : zK zR := (q_push 0 q_zret)
noncomputable def kL_law_1102 (b L : Nat) (xs : Nat → Int32) : zK zR := (q_push 0 q_zret)
noncomputable def kL_law_1145 (b L : Nat) (xs : Nat → Int32) : zK zR := (q_push 0 q_zret)
noncomputable def kL_law_1168 (b L : Nat) (xs : Nat → Int32) : zK zR := (q_push 0 q_zret)
noncomputable def kL_law_1221 (b L : Nat) (xs : Nat → Int32) : zK zR := (q_push 0 q_zret)
noncomputable def kL_law_1290 (b L : Nat) (xs : Nat → Int32) : zK zR := (q_push 0 q_zret)
noncomputable def kL_law_1284 (b L : Nat) (xs : Nat → Int32) : zK ((zL × zS) ⊕ zR) := (q_callV 12 fX12_tell 4 (q_icmp_eq (kL_law_1450 b L xs) (q_dn (kL_law_1290 b L xs))))
noncomputable def kL_law_1252 (b L : Nat) (xs : Nat → Int32) : zK ((zL × zS) ⊕ zR) := (q_callV 11 fX11_tell 4 (q_aload 2 (q_aload 0 (q_iload 3 (q_push 1 (q_iadd (q_sld b L xs (q_aload 0 (q_iload 3 (q_push 2 (q_iadd (q_sld b L xs (q_aload 0 (q_iload 3 (q_push 3 (q_iadd (q_sld b L xs (q_aload 0 (q_iload 3 (q_push 4 (q_iadd (q_sld b L xs (q_if_eq (q_push 0 (kL_law_1284 b L xs)) (q_push 1 (kL_law_1284 b L xs)))))))))))))))))))))))))
noncomputable def kL_law_1303 (b L : Nat) (xs : Nat → Int32) : zK zR := (q_push 0 q_zret)
noncomputable def kL_law_1346 (b L : Nat) (xs : Nat → Int32) : zK zR := (q_push 0 q_zret)
noncomputable def kL_law_1379 (b L : Nat) (xs : Nat → Int32) : zK zR := (q_push 0 q_zret)
noncomputable def kL_law_1402 (b L : Nat) (xs : Nat → Int32) : zK zR := (q_push 0 q_zret)
noncomputable def kL_law_1425 (b L : Nat) (xs : Nat → Int32) : zK zR := (q_push 0 q_zret)
noncomputable def kL_law_1448 (b L : Nat) (xs : Nat → Int32) : zK zR := (q_push 0 q_zret)
noncomputable def bL_law_18 (b L : Nat) (xs : Nat → Int32) : zK ((zL × zS) ⊕ zR) := (q_iload 3 (q_aload 0 (q_sln b L (q_push 6 (q_isub (q_icmp_gt (q_dn (kL_law_1456 b L xs)) (q_aload 0 (q_iload 3 (q_sld b L xs (q_push 63 (q_iand (q_sw 0 [(q_aload 1 (q_aload 0 (q_iload 3 (q_push 1 (q_iadd (q_sld b L xs (q_aload 0 (q_iload 3 (q_push 2 (q_iadd (q_sld b L xs (q_aload 0 (q_iload 3 (q_push 3 (q_iadd (q_sld b L xs (q_aload 0 (q_iload 3 (q_push 4 (q_iadd (q_sld b L xs (q_aload 0 (q_iload 3 (q_push 5 (q_iadd (q_sld b L xs (q_callV 11 fX11_feed 5 (q_aload 2 (q_aload 0 (q_iload 3 (q_push 1 (q_iadd (q_sld b L xs (q_aload 0 (q_iload 3 (q_push 2 (q_iadd (q_sld b L xs (q_aload 0 (q_iload 3 (q_push 3 (q_iadd (q_sld b L xs (q_aload 0 (q_iload 3 (q_push 4 (q_iadd (q_sld b L xs (q_aload 0 (q_iload 3 (q_push 5 (q_iadd (q_sld b L xs (q_callV 12 fX12_feed 5 (q_icmp_eq (kL_law_1450 b L xs) (q_dn (kL_law_261 b L xs))))))))))))))))))))))))))))))))))))))))))))))))))))))))), (q_aload 1 (q_aload 0 (q_iload 3 (q_push 1 (q_iadd (q_sld b L xs (q_callV 11 fX11_back 1 (q_aload 2 (q_aload 0 (q_iload 3 (q_push 1 (q_iadd (q_sld b L xs (q_callV 12 fX12_back 1 (q_icmp_eq (kL_law_1450 b L xs) (q_dn (kL_law_284 b L xs))))))))))))))))), (q_aload 1 (q_callV 11 fX11_read 0 (q_aload 2 (q_callV 12 fX12_read 0 (q_icmp_eq (kL_law_1450 b L xs) (q_dn (kL_law_297 b L xs))))))), (q_aload 1 (q_callV 11 fX11_place 0 (q_aload 2 (q_callV 12 fX12_place 0 (q_icmp_eq (kL_law_1450 b L xs) (q_dn (kL_law_310 b L xs))))))), (q_aload 1 (q_aload 0 (q_iload 3 (q_push 1 (q_iadd (q_sld b L xs (q_aload 0 (q_iload 3 (q_push 2 (q_iadd (q_sld b L xs (q_callV 11 fX11_child 2 (q_aload 2 (q_aload 0 (q_iload 3 (q_push 1 (q_iadd (q_sld b L xs (q_aload 0 (q_iload 3 (q_push 2 (q_iadd (q_sld b L xs (q_callV 12 fX12_child 2 (q_icmp_eq (kL_law_1450 b L xs) (q_dn (kL_law_343 b L xs))))))))))))))))))))))))))), (q_aload 1 (q_aload 0 (q_iload 3 (q_push 1 (q_iadd (q_sld b L xs (q_aload 0 (q_iload 3 (q_push 2 (q_iadd (q_sld b L xs (q_callV 11 fX11_row 2 (q_aload 2 (q_aload 0 (q_iload 3 (q_push 1 (q_iadd (q_sld b L xs (q_aload 0 (q_iload 3 (q_push 2 (q_iadd (q_sld b L xs (q_callV 12 fX12_row 2 (q_icmp_eq (kL_law_1450 b L xs) (q_dn (kL_law_376 b L xs))))))))))))))))))))))))))), (q_aload 1 (q_aload 0 (q_iload 3 (q_push 1 (q_iadd (q_sld b L xs (q_aload 0 (q_iload 3 (q_push 2 (q_iadd (q_sld b L xs (q_aload 0 (q_iload 3 (q_push 3 (q_iadd (q_sld b L xs (q_callV 11 fX11_at 3 (q_aload 2 (q_aload 0 (q_iload 3 (q_push 1 (q_iadd (q_sld b L xs (q_aload 0 (q_iload 3 (q_push 2 (q_iadd (q_sld b L xs (q_aload 0 (q_iload 3 (q_push 3 (q_iadd (q_sld b L xs (q_callV 12 fX12_at 3 (q_icmp_eq (kL_law_1450 b L xs) (q_dn (kL_law_419 b L xs))))))))))))))))))))))))))))))))))))), (q_aload 1 (q_aload 0 (q_iload 3 (q_push 1 (q_iadd (q_sld b L xs (q_aload 0 (q_iload 3 (q_push 2 (q_iadd (q_sld b L xs (q_aload 0 (q_iload 3 (q_push 3 (q_iadd (q_sld b L xs (q_callV 11 fX11_worth 3 (q_aload 2 (q_aload 0 (q_iload 3 (q_push 1 (q_iadd (q_sld b L xs (q_aload 0 (q_iload 3 (q_push 2 (q_iadd (q_sld b L xs (q_aload 0 (q_iload 3 (q_push 3 (q_iadd (q_sld b L xs (q_callV 12 fX12_worth 3 (q_icmp_eq (kL_law_1450 b L xs) (q_dn (kL_law_462 b L xs))))))))))))))))))))))))))))))))))))), (q_aload 1 (q_aload 0 (q_iload 3 (q_push 1 (q_iadd (q_sld b L xs (q_aload 0 (q_iload 3 (q_push 2 (q_iadd (q_sld b L xs (q_callV 11 fX11_many 2 (q_aload 2 (q_aload 0 (q_iload 3 (q_push 1 (q_iadd (q_sld b L xs (q_aload 0 (q_iload 3 (q_push 2 (q_iadd (q_sld b L xs (q_callV 12 fX12_many 2 (q_icmp_eq (kL_law_1450 b L xs) (q_dn (kL_law_495 b L xs))))))))))))))))))))))))))), (q_aload 1 (q_aload 0 (q_iload 3 (q_push 1 (q_iadd (q_sld b L xs (q_aload 0 (q_iload 3 (q_push 2 (q_iadd (q_sld b L xs (q_aload 0 (q_iload 3 (q_push 3 (q_iadd (q_sld b L xs (q_callV 11 fX11_side 3 (q_aload 2 (q_aload 0 (q_iload 3 (q_push 1 (q_iadd (q_sld b L xs (q_aload 0 (q_iload 3 (q_push 2 (q_iadd (q_sld b L xs (q_aload 0 (q_iload 3 (q_push 3 (q_iadd (q_sld b L xs (q_callV 12 fX12_side 3 (q_icmp_eq (kL_law_1450 b L xs) (q_dn (kL_law_538 b L xs))))))))))))))))))))))))))))))))))))), (q_aload 1 (q_aload 0 (q_iload 3 (q_push 1 (q_iadd (q_sld b L xs (q_aload 0 (q_iload 3 (q_push 2 (q_iadd (q_sld b L xs (q_aload 0 (q_iload 3 (q_push 3 (q_iadd (q_sld b L xs (q_callV 11 fX11_costs 3 (q_aload 2 (q_aload 0 (q_iload 3 (q_push 1 (q_iadd (q_sld b L xs (q_aload 0 (q_iload 3 (q_push 2 (q_iadd (q_sld b L xs (q_aload 0 (q_iload 3 (q_push 3 (q_iadd (q_sld b L xs (q_callV 12 fX12_costs 3 (q_icmp_eq (kL_law_1450 b L xs) (q_dn (kL_law_581 b L xs))))))))))))))))))))))))))))))))))))), (q_aload 1 (q_aload 0 (q_iload 3 (q_push 1 (q_iadd (q_sld b L xs (q_aload 0 (q_iload 3 (q_push 2 (q_iadd (q_sld b L xs (q_aload 0 (q_iload 3 (q_push 3 (q_iadd (q_sld b L xs (q_callV 11 fX11_paint 3 (q_aload 2 (q_aload 0 (q_iload 3 (q_push 1 (q_iadd (q_sld b L xs (q_aload 0 (q_iload 3 (q_push 2 (q_iadd (q_sld b L xs (q_aload 0 (q_iload 3 (q_push 3 (q_iadd (q_sld b L xs (q_callV 12 fX12_paint 3 (q_icmp_eq (kL_law_1450 b L xs) (q_dn (kL_law_624 b L xs))))))))))))))))))))))))))))))))))))), (q_aload 1 (q_aload 0 (q_iload 3 (q_push 1 (q_iadd (q_sld b L xs (q_aload 0 (q_iload 3 (q_push 2 (q_iadd (q_sld b L xs (q_callV 11 fX11_come 2 (q_aload 2 (q_aload 0 (q_iload 3 (q_push 1 (q_iadd (q_sld b L xs (q_aload 0 (q_iload 3 (q_push 2 (q_iadd (q_sld b L xs (q_callV 12 fX12_come 2 (q_icmp_eq (kL_law_1450 b L xs) (q_dn (kL_law_657 b L xs))))))))))))))))))))))))))), (q_aload 1 (q_aload 0 (q_iload 3 (q_push 1 (q_iadd (q_sld b L xs (q_callV 11 fX11_go 1 (q_aload 2 (q_aload 0 (q_iload 3 (q_push 1 (q_iadd (q_sld b L xs (q_callV 12 fX12_go 1 (q_icmp_eq (kL_law_1450 b L xs) (q_dn (kL_law_680 b L xs))))))))))))))))), (q_aload 1 (q_aload 0 (q_iload 3 (q_push 1 (q_iadd (q_sld b L xs (q_callV 11 fX11_times 1 (q_aload 2 (q_aload 0 (q_iload 3 (q_push 1 (q_iadd (q_sld b L xs (q_callV 12 fX12_times 1 (q_icmp_eq (kL_law_1450 b L xs) (q_dn (kL_law_703 b L xs))))))))))))))))), (q_aload 1 (q_callV 11 fX11_undo 0 (q_aload 2 (q_callV 12 fX12_undo 0 (q_icmp_eq (kL_law_1450 b L xs) (q_dn (kL_law_716 b L xs))))))), (q_aload 1 (q_aload 0 (q_iload 3 (q_push 1 (q_iadd (q_sld b L xs (q_aload 0 (q_iload 3 (q_push 2 (q_iadd (q_sld b L xs (q_aload 0 (q_iload 3 (q_push 3 (q_iadd (q_sld b L xs (q_callV 11 fX11_makes 3 (q_aload 2 (q_aload 0 (q_iload 3 (q_push 1 (q_iadd (q_sld b L xs (q_aload 0 (q_iload 3 (q_push 2 (q_iadd (q_sld b L xs (q_aload 0 (q_iload 3 (q_push 3 (q_iadd (q_sld b L xs (q_callV 12 fX12_makes 3 (q_icmp_eq (kL_law_1450 b L xs) (q_dn (kL_law_759 b L xs))))))))))))))))))))))))))))))))))))), (q_aload 1 (q_aload 0 (q_iload 3 (q_push 1 (q_iadd (q_sld b L xs (q_aload 0 (q_iload 3 (q_push 2 (q_iadd (q_sld b L xs (q_aload 0 (q_iload 3 (q_push 3 (q_iadd (q_sld b L xs (q_callV 11 fX11_repaint 3 (q_aload 2 (q_aload 0 (q_iload 3 (q_push 1 (q_iadd (q_sld b L xs (q_aload 0 (q_iload 3 (q_push 2 (q_iadd (q_sld b L xs (q_aload 0 (q_iload 3 (q_push 3 (q_iadd (q_sld b L xs (q_callV 12 fX12_repaint 3 (q_icmp_eq (kL_law_1450 b L xs) (q_dn (kL_law_802 b L xs))))))))))))))))))))))))))))))))))))), (q_aload 1 (q_aload 0 (q_iload 3 (q_push 1 (q_iadd (q_sld b L xs (q_aload 0 (q_iload 3 (q_push 2 (q_iadd (q_sld b L xs (q_callV 11 fX11_fairly 2 (q_aload 2 (q_aload 0 (q_iload 3 (q_push 1 (q_iadd (q_sld b L xs (q_aload 0 (q_iload 3 (q_push 2 (q_iadd (q_sld b L xs (q_callV 12 fX12_fairly 2 (q_icmp_eq (kL_law_1450 b L xs) (q_dn (kL_law_835 b L xs))))))))))))))))))))))))))), (q_aload 1 (q_aload 0 (q_iload 3 (q_push 1 (q_iadd (q_sld b L xs (q_callV 11 fX11_matters 1 (q_aload 2 (q_aload 0 (q_iload 3 (q_push 1 (q_iadd (q_sld b L xs (q_callV 12 fX12_matters 1 (q_icmp_eq (kL_law_1450 b L xs) (q_dn (kL_law_858 b L xs))))))))))))))))), (q_aload 1 (q_aload 0 (q_iload 3 (q_push 1 (q_iadd (q_sld b L xs (q_aload 0 (q_iload 3 (q_push 2 (q_iadd (q_sld b L xs (q_callV 11 fX11_parents 2 (q_aload 2 (q_aload 0 (q_iload 3 (q_push 1 (q_iadd (q_sld b L xs (q_aload 0 (q_iload 3 (q_push 2 (q_iadd (q_sld b L xs (q_callV 12 fX12_parents 2 (q_icmp_eq (kL_law_1450 b L xs) (q_dn (kL_law_891 b L xs))))))))))))))))))))))))))), (q_aload 1 (q_aload 0 (q_iload 3 (q_push 1 (q_iadd (q_sld b L xs (q_callV 11 fX11_orphans 1 (q_aload 2 (q_aload 0 (q_iload 3 (q_push 1 (q_iadd (q_sld b L xs (q_callV 12 fX12_orphans 1 (q_icmp_eq (kL_law_1450 b L xs) (q_dn (kL_law_914 b L xs))))))))))))))))), (q_aload 1 (q_aload 0 (q_iload 3 (q_push 1 (q_iadd (q_sld b L xs (q_aload 0 (q_iload 3 (q_push 2 (q_iadd (q_sld b L xs (q_callV 11 fX11_ring 2 (q_aload 2 (q_aload 0 (q_iload 3 (q_push 1 (q_iadd (q_sld b L xs (q_aload 0 (q_iload 3 (q_push 2 (q_iadd (q_sld b L xs (q_callV 12 fX12_ring 2 (q_icmp_eq (kL_law_1450 b L xs) (q_dn (kL_law_947 b L xs))))))))))))))))))))))))))), (q_aload 1 (q_aload 0 (q_iload 3 (q_push 1 (q_iadd (q_sld b L xs (q_aload 0 (q_iload 3 (q_push 2 (q_iadd (q_sld b L xs (q_aload 0 (q_iload 3 (q_push 3 (q_iadd (q_sld b L xs (q_callV 11 fX11_after 3 (q_aload 2 (q_aload 0 (q_iload 3 (q_push 1 (q_iadd (q_sld b L xs (q_aload 0 (q_iload 3 (q_push 2 (q_iadd (q_sld b L xs (q_aload 0 (q_iload 3 (q_push 3 (q_iadd (q_sld b L xs (q_callV 12 fX12_after 3 (q_icmp_eq (kL_law_1450 b L xs) (q_dn (kL_law_990 b L xs))))))))))))))))))))))))))))))))))))), (q_aload 1 (q_callV 11 fX11_ways 0 (q_aload 2 (q_callV 12 fX12_ways 0 (q_icmp_eq (kL_law_1450 b L xs) (q_dn (kL_law_1003 b L xs))))))), (q_aload 1 (q_aload 0 (q_iload 3 (q_push 1 (q_iadd (q_sld b L xs (q_callV 11 fX11_shut 1 (q_aload 2 (q_aload 0 (q_iload 3 (q_push 1 (q_iadd (q_sld b L xs (q_callV 12 fX12_shut 1 (q_icmp_eq (kL_law_1450 b L xs) (q_dn (kL_law_1026 b L xs))))))))))))))))), (q_aload 1 (q_aload 0 (q_iload 3 (q_push 1 (q_iadd (q_sld b L xs (q_aload 0 (q_iload 3 (q_push 2 (q_iadd (q_sld b L xs (q_callV 11 fX11_deep 2 (q_aload 2 (q_aload 0 (q_iload 3 (q_push 1 (q_iadd (q_sld b L xs (q_aload 0 (q_iload 3 (q_push 2 (q_iadd (q_sld b L xs (q_callV 12 fX12_deep 2 (q_icmp_eq (kL_law_1450 b L xs) (q_dn (kL_law_1059 b L xs))))))))))))))))))))))))))), (q_aload 1 (q_aload 0 (q_iload 3 (q_push 1 (q_iadd (q_sld b L xs (q_aload 0 (q_iload 3 (q_push 2 (q_iadd (q_sld b L xs (q_aload 0 (q_iload 3 (q_push 3 (q_iadd (q_sld b L xs (q_callV 11 fX11_game 3 (q_aload 2 (q_aload 0 (q_iload 3 (q_push 1 (q_iadd (q_sld b L xs (q_aload 0 (q_iload 3 (q_push 2 (q_iadd (q_sld b L xs (q_aload 0 (q_iload 3 (q_push 3 (q_iadd (q_sld b L xs (q_callV 12 fX12_game 3 (q_icmp_eq (kL_law_1450 b L xs) (q_dn (kL_law_1102 b L xs))))))))))))))))))))))))))))))))))))), (q_aload 1 (q_aload 0 (q_iload 3 (q_push 1 (q_iadd (q_sld b L xs (q_aload 0 (q_iload 3 (q_push 2 (q_iadd (q_sld b L xs (q_aload 0 (q_iload 3 (q_push 3 (q_iadd (q_sld b L xs (q_callV 11 fX11_then 3 (q_aload 2 (q_aload 0 (q_iload 3 (q_push 1 (q_iadd (q_sld b L xs (q_aload 0 (q_iload 3 (q_push 2 (q_iadd (q_sld b L xs (q_aload 0 (q_iload 3 (q_push 3 (q_iadd (q_sld b L xs (q_callV 12 fX12_then 3 (q_icmp_eq (kL_law_1450 b L xs) (q_dn (kL_law_1145 b L xs))))))))))))))))))))))))))))))))))))), (q_aload 1 (q_aload 0 (q_iload 3 (q_push 1 (q_iadd (q_sld b L xs (q_callV 11 fX11_paidIn 1 (q_aload 2 (q_aload 0 (q_iload 3 (q_push 1 (q_iadd (q_sld b L xs (q_callV 12 fX12_paidIn 1 (q_icmp_eq (kL_law_1450 b L xs) (q_dn (kL_law_1168 b L xs))))))))))))))))), (q_aload 1 (q_aload 0 (q_iload 3 (q_push 1 (q_iadd (q_sld b L xs (q_aload 0 (q_iload 3 (q_push 2 (q_iadd (q_sld b L xs (q_aload 0 (q_iload 3 (q_push 3 (q_iadd (q_sld b L xs (q_aload 0 (q_iload 3 (q_push 4 (q_iadd (q_sld b L xs (q_callV 11 fX11_year 4 (q_aload 2 (q_aload 0 (q_iload 3 (q_push 1 (q_iadd (q_sld b L xs (q_aload 0 (q_iload 3 (q_push 2 (q_iadd (q_sld b L xs (q_aload 0 (q_iload 3 (q_push 3 (q_iadd (q_sld b L xs (q_aload 0 (q_iload 3 (q_push 4 (q_iadd (q_sld b L xs (q_callV 12 fX12_year 4 (q_icmp_eq (kL_law_1450 b L xs) (q_dn (kL_law_1221 b L xs))))))))))))))))))))))))))))))))))))))))))))))), (q_aload 1 (q_aload 0 (q_iload 3 (q_push 1 (q_iadd (q_sld b L xs (q_aload 0 (q_iload 3 (q_push 2 (q_iadd (q_sld b L xs (q_aload 0 (q_iload 3 (q_push 3 (q_iadd (q_sld b L xs (q_aload 0 (q_iload 3 (q_push 4 (q_iadd (q_sld b L xs (q_if_eq (q_push 0 (kL_law_1252 b L xs)) (q_push 1 (kL_law_1252 b L xs)))))))))))))))))))))))), (q_aload 1 (q_callV 11 fX11_forget 0 (q_aload 2 (q_callV 12 fX12_forget 0 (q_icmp_eq (kL_law_1450 b L xs) (q_dn (kL_law_1303 b L xs))))))), (q_aload 1 (q_aload 0 (q_iload 3 (q_push 1 (q_iadd (q_sld b L xs (q_aload 0 (q_iload 3 (q_push 2 (q_iadd (q_sld b L xs (q_aload 0 (q_iload 3 (q_push 3 (q_iadd (q_sld b L xs (q_callV 11 fX11_rows 3 (q_aload 2 (q_aload 0 (q_iload 3 (q_push 1 (q_iadd (q_sld b L xs (q_aload 0 (q_iload 3 (q_push 2 (q_iadd (q_sld b L xs (q_aload 0 (q_iload 3 (q_push 3 (q_iadd (q_sld b L xs (q_callV 12 fX12_rows 3 (q_icmp_eq (kL_law_1450 b L xs) (q_dn (kL_law_1346 b L xs))))))))))))))))))))))))))))))))))))), (q_aload 1 (q_aload 0 (q_iload 3 (q_push 1 (q_iadd (q_sld b L xs (q_aload 0 (q_iload 3 (q_push 2 (q_iadd (q_sld b L xs (q_callV 11 fX11_look 2 (q_aload 2 (q_aload 0 (q_iload 3 (q_push 1 (q_iadd (q_sld b L xs (q_aload 0 (q_iload 3 (q_push 2 (q_iadd (q_sld b L xs (q_callV 12 fX12_look 2 (q_icmp_eq (kL_law_1450 b L xs) (q_dn (kL_law_1379 b L xs))))))))))))))))))))))))))), (q_aload 1 (q_aload 0 (q_iload 3 (q_push 1 (q_iadd (q_sld b L xs (q_callV 11 fX11_hold 1 (q_aload 2 (q_aload 0 (q_iload 3 (q_push 1 (q_iadd (q_sld b L xs (q_callV 12 fX12_hold 1 (q_icmp_eq (kL_law_1450 b L xs) (q_dn (kL_law_1402 b L xs))))))))))))))))), (q_aload 1 (q_aload 0 (q_iload 3 (q_push 1 (q_iadd (q_sld b L xs (q_callV 11 fX11_restore 1 (q_aload 2 (q_aload 0 (q_iload 3 (q_push 1 (q_iadd (q_sld b L xs (q_callV 12 fX12_restore 1 (q_icmp_eq (kL_law_1450 b L xs) (q_dn (kL_law_1425 b L xs))))))))))))))))), (q_aload 1 (q_aload 0 (q_iload 3 (q_push 1 (q_iadd (q_sld b L xs (q_callV 11 fX11_count 1 (q_aload 2 (q_aload 0 (q_iload 3 (q_push 1 (q_iadd (q_sld b L xs (q_callV 12 fX12_count 1 (q_icmp_eq (kL_law_1450 b L xs) (q_dn (kL_law_1448 b L xs)))))))))))))))))] (kL_law_1450 b L xs)))))))))))))
noncomputable def kL_law_18 (b L : Nat) (xs : Nat → Int32) : zK zR := q_lp (bL_law_18 b L xs)
noncomputable def kL_law_16 (b L : Nat) (xs : Nat → Int32) : zK zR := (q_push 0 (q_istore 3 (kL_law_18 b L xs)))
set_option maxRecDepth 100000 in
theorem tL_law_1456 {l : Launch} {D : zD} {B sz0 : Nat} {post : Option Value → zS → Prop} : zSnd l D B xL_law sz0 post 1456 (kL_law_1456 D.2.2.2.2.1 D.2.2.2.2.2.1 D.2.2.2.2.2.2) (z_Jr post) := (s_iconst dL_law_1456 (by decide) (s_zret dL_law_1457 rfl))
set_option maxRecDepth 100000 in
theorem tL_law_1450 {l : Launch} {D : zD} {B sz0 : Nat} {post : Option Value → zS → Prop} : zSnd l D B xL_law sz0 post 1450 (kL_law_1450 D.2.2.2.2.1 D.2.2.2.2.2.1 D.2.2.2.2.2.2) (z_Jl l D B xL_law sz0 post 18 (z_Jr post)) := (s_iinc dL_law_1450 (by decide) (s_goto (tgt := 18) dL_law_1453 (by decide) s_ag))
set_option maxRecDepth 100000 in
theorem tL_law_261 {l : Launch} {D : zD} {B sz0 : Nat} {post : Option Value → zS → Prop} : zSnd l D B xL_law sz0 post 261 (kL_law_261 D.2.2.2.2.1 D.2.2.2.2.2.1 D.2.2.2.2.2.2) (z_Jr post) := (s_iconst dL_law_261 (by decide) (s_zret dL_law_262 rfl))
set_option maxRecDepth 100000 in
theorem tL_law_284 {l : Launch} {D : zD} {B sz0 : Nat} {post : Option Value → zS → Prop} : zSnd l D B xL_law sz0 post 284 (kL_law_284 D.2.2.2.2.1 D.2.2.2.2.2.1 D.2.2.2.2.2.2) (z_Jr post) := (s_iconst dL_law_284 (by decide) (s_zret dL_law_285 rfl))
set_option maxRecDepth 100000 in
theorem tL_law_297 {l : Launch} {D : zD} {B sz0 : Nat} {post : Option Value → zS → Prop} : zSnd l D B xL_law sz0 post 297 (kL_law_297 D.2.2.2.2.1 D.2.2.2.2.2.1 D.2.2.2.2.2.2) (z_Jr post) := (s_iconst dL_law_297 (by decide) (s_zret dL_law_298 rfl))
set_option maxRecDepth 100000 in
theorem tL_law_310 {l : Launch} {D : zD} {B sz0 : Nat} {post : Option Value → zS → Prop} : zSnd l D B xL_law sz0 post 310 (kL_law_310 D.2.2.2.2.1 D.2.2.2.2.2.1 D.2.2.2.2.2.2) (z_Jr post) := (s_iconst dL_law_310 (by decide) (s_zret dL_law_311 rfl))
set_option maxRecDepth 100000 in
theorem tL_law_343 {l : Launch} {D : zD} {B sz0 : Nat} {post : Option Value → zS → Prop} : zSnd l D B xL_law sz0 post 343 (kL_law_343 D.2.2.2.2.1 D.2.2.2.2.2.1 D.2.2.2.2.2.2) (z_Jr post) := (s_iconst dL_law_343 (by decide) (s_zret dL_law_344 rfl))
set_option maxRecDepth 100000 in
theorem tL_law_376 {l : Launch} {D : zD} {B sz0 : Nat} {post : Option Value → zS → Prop} : zSnd l D B xL_law sz0 post 376 (kL_law_376 D.2.2.2.2.1 D.2.2.2.2.2.1 D.2.2.2.2.2.2) (z_Jr post) := (s_iconst dL_law_376 (by decide) (s_zret dL_law_377 rfl))
set_option maxRecDepth 100000 in
theorem tL_law_419 {l : Launch} {D : zD} {B sz0 : Nat} {post : Option Value → zS → Prop} : zSnd l D B xL_law sz0 post 419 (kL_law_419 D.2.2.2.2.1 D.2.2.2.2.2.1 D.2.2.2.2.2.2) (z_Jr post) := (s_iconst dL_law_419 (by decide) (s_zret dL_law_420 rfl))
set_option maxRecDepth 100000 in
theorem tL_law_462 {l : Launch} {D : zD} {B sz0 : Nat} {post : Option Value → zS → Prop} : zSnd l D B xL_law sz0 post 462 (kL_law_462 D.2.2.2.2.1 D.2.2.2.2.2.1 D.2.2.2.2.2.2) (z_Jr post) := (s_iconst dL_law_462 (by decide) (s_zret dL_law_463 rfl))
set_option maxRecDepth 100000 in
theorem tL_law_495 {l : Launch} {D : zD} {B sz0 : Nat} {post : Option Value → zS → Prop} : zSnd l D B xL_law sz0 post 495 (kL_law_495 D.2.2.2.2.1 D.2.2.2.2.2.1 D.2.2.2.2.2.2) (z_Jr post) := (s_iconst dL_law_495 (by decide) (s_zret dL_law_496 rfl))
set_option maxRecDepth 100000 in
theorem tL_law_538 {l : Launch} {D : zD} {B sz0 : Nat} {post : Option Value → zS → Prop} : zSnd l D B xL_law sz0 post 538 (kL_law_538 D.2.2.2.2.1 D.2.2.2.2.2.1 D.2.2.2.2.2.2) (z_Jr post) := (s_iconst dL_law_538 (by decide) (s_zret dL_law_539 rfl))
set_option maxRecDepth 100000 in
theorem tL_law_581 {l : Launch} {D : zD} {B sz0 : Nat} {post : Option Value → zS → Prop} : zSnd l D B xL_law sz0 post 581 (kL_law_581 D.2.2.2.2.1 D.2.2.2.2.2.1 D.2.2.2.2.2.2) (z_Jr post) := (s_iconst dL_law_581 (by decide) (s_zret dL_law_582 rfl))
set_option maxRecDepth 100000 in
theorem tL_law_624 {l : Launch} {D : zD} {B sz0 : Nat} {post : Option Value → zS → Prop} : zSnd l D B xL_law sz0 post 624 (kL_law_624 D.2.2.2.2.1 D.2.2.2.2.2.1 D.2.2.2.2.2.2) (z_Jr post) := (s_iconst dL_law_624 (by decide) (s_zret dL_law_625 rfl))
set_option maxRecDepth 100000 in
theorem tL_law_657 {l : Launch} {D : zD} {B sz0 : Nat} {post : Option Value → zS → Prop} : zSnd l D B xL_law sz0 post 657 (kL_law_657 D.2.2.2.2.1 D.2.2.2.2.2.1 D.2.2.2.2.2.2) (z_Jr post) := (s_iconst dL_law_657 (by decide) (s_zret dL_law_658 rfl))
set_option maxRecDepth 100000 in
theorem tL_law_680 {l : Launch} {D : zD} {B sz0 : Nat} {post : Option Value → zS → Prop} : zSnd l D B xL_law sz0 post 680 (kL_law_680 D.2.2.2.2.1 D.2.2.2.2.2.1 D.2.2.2.2.2.2) (z_Jr post) := (s_iconst dL_law_680 (by decide) (s_zret dL_law_681 rfl))
set_option maxRecDepth 100000 in
theorem tL_law_703 {l : Launch} {D : zD} {B sz0 : Nat} {post : Option Value → zS → Prop} : zSnd l D B xL_law sz0 post 703 (kL_law_703 D.2.2.2.2.1 D.2.2.2.2.2.1 D.2.2.2.2.2.2) (z_Jr post) := (s_iconst dL_law_703 (by decide) (s_zret dL_law_704 rfl))
set_option maxRecDepth 100000 in
theorem tL_law_716 {l : Launch} {D : zD} {B sz0 : Nat} {post : Option Value → zS → Prop} : zSnd l D B xL_law sz0 post 716 (kL_law_716 D.2.2.2.2.1 D.2.2.2.2.2.1 D.2.2.2.2.2.2) (z_Jr post) := (s_iconst dL_law_716 (by decide) (s_zret dL_law_717 rfl))
set_option maxRecDepth 100000 in
theorem tL_law_759 {l : Launch} {D : zD} {B sz0 : Nat} {post : Option Value → zS → Prop} : zSnd l D B xL_law sz0 post 759 (kL_law_759 D.2.2.2.2.1 D.2.2.2.2.2.1 D.2.2.2.2.2.2) (z_Jr post) := (s_iconst dL_law_759 (by decide) (s_zret dL_law_760 rfl))
set_option maxRecDepth 100000 in
theorem tL_law_802 {l : Launch} {D : zD} {B sz0 : Nat} {post : Option Value → zS → Prop} : zSnd l D B xL_law sz0 post 802 (kL_law_802 D.2.2.2.2.1 D.2.2.2.2.2.1 D.2.2.2.2.2.2) (z_Jr post) := (s_iconst dL_law_802 (by decide) (s_zret dL_law_803 rfl))
set_option maxRecDepth 100000 in
theorem tL_law_835 {l : Launch} {D : zD} {B sz0 : Nat} {post : Option Value → zS → Prop} : zSnd l D B xL_law sz0 post 835 (kL_law_835 D.2.2.2.2.1 D.2.2.2.2.2.1 D.2.2.2.2.2.2) (z_Jr post) := (s_iconst dL_law_835 (by decide) (s_zret dL_law_836 rfl))
set_option maxRecDepth 100000 in
theorem tL_law_858 {l : Launch} {D : zD} {B sz0 : Nat} {post : Option Value → zS → Prop} : zSnd l D B xL_law sz0 post 858 (kL_law_858 D.2.2.2.2.1 D.2.2.2.2.2.1 D.2.2.2.2.2.2) (z_Jr post) := (s_iconst dL_law_858 (by decide) (s_zret dL_law_859 rfl))
set_option maxRecDepth 100000 in
theorem tL_law_891 {l : Launch} {D : zD} {B sz0 : Nat} {post : Option Value → zS → Prop} : zSnd l D B xL_law sz0 post 891 (kL_law_891 D.2.2.2.2.1 D.2.2.2.2.2.1 D.2.2.2.2.2.2) (z_Jr post) := (s_iconst dL_law_891 (by decide) (s_zret dL_law_892 rfl))
set_option maxRecDepth 100000 in
theorem tL_law_914 {l : Launch} {D : zD} {B sz0 : Nat} {post : Option Value → zS → Prop} : zSnd l D B xL_law sz0 post 914 (kL_law_914 D.2.2.2.2.1 D.2.2.2.2.2.1 D.2.2.2.2.2.2) (z_Jr post) := (s_iconst dL_law_914 (by decide) (s_zret dL_law_915 rfl))
set_option maxRecDepth 100000 in
theorem tL_law_947 {l : Launch} {D : zD} {B sz0 : Nat} {post : Option Value → zS → Prop} : zSnd l D B xL_law sz0 post 947 (kL_law_947 D.2.2.2.2.1 D.2.2.2.2.2.1 D.2.2.2.2.2.2) (z_Jr post) := (s_iconst dL_law_947 (by decide) (s_zret dL_law_948 rfl))
set_option maxRecDepth 100000 in
theorem tL_law_990 {l : Launch} {D : zD} {B sz0 : Nat} {post : Option Value → zS → Prop} : zSnd l D B xL_law sz0 post 990 (kL_law_990 D.2.2.2.2.1 D.2.2.2.2.2.1 D.2.2.2.2.2.2) (z_Jr post) := (s_iconst dL_law_990 (by decide) (s_zret dL_law_991 rfl))
set_option maxRecDepth 100000 in
theorem tL_law_1003 {l : Launch} {D : zD} {B sz0 : Nat} {post : Option Value → zS → Prop} : zSnd l D B xL_law sz0 post 1003 (kL_law_1003 D.2.2.2.2.1 D.2.2.2.2.2.1 D.2.2.2.2.2.2) (z_Jr post) := (s_iconst dL_law_1003 (by decide) (s_zret dL_law_1004 rfl))
set_option maxRecDepth 100000 in
theorem tL_law_1026 {l : Launch} {D : zD} {B sz0 : Nat} {post : Option Value → zS → Prop} : zSnd l D B xL_law sz0 post 1026 (kL_law_1026 D.2.2.2.2.1 D.2.2.2.2.2.1 D.2.2.2.2.2.2) (z_Jr post) := (s_iconst dL_law_1026 (by decide) (s_zret dL_law_1027 rfl))
set_option maxRecDepth 100000 in
theorem tL_law_1059 {l : Launch} {D : zD} {B sz0 : Nat} {post : Option Value → zS → Prop} : zSnd l D B xL_law sz0 post 1059 (kL_law_1059 D.2.2.2.2.1 D.2.2.2.2.2.1 D.2.2.2.2.2.2) (z_Jr post) := (s_iconst dL_law_1059 (by decide) (s_zret dL_law_1060 rfl))
set_option maxRecDepth 100000 in
theorem tL_law_1102 {l : Launch} {D : zD} {B sz0 : Nat} {post : Option Value → zS → Prop} : zSnd l D B xL_law sz0 post 1102 (kL_law_1102 D.2.2.2.2.1 D.2.2.2.2.2.1 D.2.2.2.2.2.2) (z_Jr post) := (s_iconst dL_law_1102 (by decide) (s_zret dL_law_1103 rfl))
set_option maxRecDepth 100000 in
theorem tL_law_1145 {l : Launch} {D : zD} {B sz0 : Nat} {post : Option Value → zS → Prop} : zSnd l D B xL_law sz0 post 1145 (kL_law_1145 D.2.2.2.2.1 D.2.2.2.2.2.1 D.2.2.2.2.2.2) (z_Jr post) := (s_iconst dL_law_1145 (by decide) (s_zret dL_law_1146 rfl))
set_option maxRecDepth 100000 in
theorem tL_law_1168 {l : Launch} {D : zD} {B sz0 : Nat} {post : Option Value → zS → Prop} : zSnd l D B xL_law sz0 post 1168 (kL_law_1168 D.2.2.2.2.1 D.2.2.2.2.2.1 D.2.2.2.2.2.2) (z_Jr post) := (s_iconst dL_law_1168 (by decide) (s_zret dL_law_1169 rfl))
set_option maxRecDepth 100000 in
theorem tL_law_1221 {l : Launch} {D : zD} {B sz0 : Nat} {post : Option Value → zS → Prop} : zSnd l D B xL_law sz0 post 1221 (kL_law_1221 D.2.2.2.2.1 D.2.2.2.2.2.1 D.2.2.2.2.2.2) (z_Jr post) := (s_iconst dL_law_1221 (by decide) (s_zret dL_law_1222 rfl))
set_option maxRecDepth 100000 in
theorem tL_law_1290 {l : Launch} {D : zD} {B sz0 : Nat} {post : Option Value → zS → Prop} : zSnd l D B xL_law sz0 post 1290 (kL_law_1290 D.2.2.2.2.1 D.2.2.2.2.2.1 D.2.2.2.2.2.2) (z_Jr post) := (s_iconst dL_law_1290 (by decide) (s_zret dL_law_1291 rfl))
set_option maxRecDepth 100000 in
theorem tL_law_1284 {l : Launch} {D : zD} {B sz0 : Nat} {post : Option Value → zS → Prop} : zSnd l D B xL_law sz0 post 1284 (kL_law_1284 D.2.2.2.2.1 D.2.2.2.2.2.1 D.2.2.2.2.2.2) (z_Jl l D B xL_law sz0 post 18 (z_Jr post)) := (s_callV (r := (RX12, TX12, 74)) dL_law_1284 mX12_tell meX12_tell wd1552 wd1553 rfl rfl reX12_tell rmL_law (fitL_law_1284) wd1554 (s_icmp_eq (tgt := 1450) dL_law_1287 (by decide) tL_law_1450 (s_dn tL_law_1290)))
set_option maxRecDepth 100000 in
theorem tL_law_1252 {l : Launch} {D : zD} {B sz0 : Nat} {post : Option Value → zS → Prop} : zSnd l D B xL_law sz0 post 1252 (kL_law_1252 D.2.2.2.2.1 D.2.2.2.2.2.1 D.2.2.2.2.2.2) (z_Jl l D B xL_law sz0 post 18 (z_Jr post)) := (s_callV (r := (RX11, TX11, 13)) dL_law_1252 mX11_tell meX11_tell wd1549 wd1550 rfl rfl reX11_tell rmL_law (fitL_law_1252) wd1551 (s_aload_n dL_law_1255 rfl (s_aload_n dL_law_1256 rfl (s_iload_n dL_law_1257 rfl (s_iconst dL_law_1258 (by decide) (s_iadd dL_law_1259 (s_sld dL_law_1260 (s_aload_n dL_law_1261 rfl (s_iload_n dL_law_1262 rfl (s_iconst dL_law_1263 (by decide) (s_iadd dL_law_1264 (s_sld dL_law_1265 (s_aload_n dL_law_1266 rfl (s_iload_n dL_law_1267 rfl (s_iconst dL_law_1268 (by decide) (s_iadd dL_law_1269 (s_sld dL_law_1270 (s_aload_n dL_law_1271 rfl (s_iload_n dL_law_1272 rfl (s_iconst dL_law_1273 (by decide) (s_iadd dL_law_1274 (s_sld dL_law_1275 (s_if_eq (tgt := 1283) dL_law_1276 (by decide) (s_iconst dL_law_1283 (by decide) tL_law_1284) (s_iconst dL_law_1279 (by decide) (s_goto (tgt := 1284) dL_law_1280 (by decide) tL_law_1284)))))))))))))))))))))))))
set_option maxRecDepth 100000 in
theorem tL_law_1303 {l : Launch} {D : zD} {B sz0 : Nat} {post : Option Value → zS → Prop} : zSnd l D B xL_law sz0 post 1303 (kL_law_1303 D.2.2.2.2.1 D.2.2.2.2.2.1 D.2.2.2.2.2.2) (z_Jr post) := (s_iconst dL_law_1303 (by decide) (s_zret dL_law_1304 rfl))
set_option maxRecDepth 100000 in
theorem tL_law_1346 {l : Launch} {D : zD} {B sz0 : Nat} {post : Option Value → zS → Prop} : zSnd l D B xL_law sz0 post 1346 (kL_law_1346 D.2.2.2.2.1 D.2.2.2.2.2.1 D.2.2.2.2.2.2) (z_Jr post) := (s_iconst dL_law_1346 (by decide) (s_zret dL_law_1347 rfl))
set_option maxRecDepth 100000 in
theorem tL_law_1379 {l : Launch} {D : zD} {B sz0 : Nat} {post : Option Value → zS → Prop} : zSnd l D B xL_law sz0 post 1379 (kL_law_1379 D.2.2.2.2.1 D.2.2.2.2.2.1 D.2.2.2.2.2.2) (z_Jr post) := (s_iconst dL_law_1379 (by decide) (s_zret dL_law_1380 rfl))
set_option maxRecDepth 100000 in
theorem tL_law_1402 {l : Launch} {D : zD} {B sz0 : Nat} {post : Option Value → zS → Prop} : zSnd l D B xL_law sz0 post 1402 (kL_law_1402 D.2.2.2.2.1 D.2.2.2.2.2.1 D.2.2.2.2.2.2) (z_Jr post) := (s_iconst dL_law_1402 (by decide) (s_zret dL_law_1403 rfl))
set_option maxRecDepth 100000 in
theorem tL_law_1425 {l : Launch} {D : zD} {B sz0 : Nat} {post : Option Value → zS → Prop} : zSnd l D B xL_law sz0 post 1425 (kL_law_1425 D.2.2.2.2.1 D.2.2.2.2.2.1 D.2.2.2.2.2.2) (z_Jr post) := (s_iconst dL_law_1425 (by decide) (s_zret dL_law_1426 rfl))
set_option maxRecDepth 100000 in
theorem tL_law_1448 {l : Launch} {D : zD} {B sz0 : Nat} {post : Option Value → zS → Prop} : zSnd l D B xL_law sz0 post 1448 (kL_law_1448 D.2.2.2.2.1 D.2.2.2.2.2.1 D.2.2.2.2.2.2) (z_Jr post) := (s_iconst dL_law_1448 (by decide) (s_zret dL_law_1449 rfl))
set_option maxRecDepth 100000 in
theorem tL_law_18 {l : Launch} {D : zD} {B sz0 : Nat} {post : Option Value → zS → Prop} : zSnd l D B xL_law sz0 post 18 (kL_law_18 D.2.2.2.2.1 D.2.2.2.2.2.1 D.2.2.2.2.2.2) (z_Jr post) := s_lp (body := bL_law_18 D.2.2.2.2.1 D.2.2.2.2.2.1 D.2.2.2.2.2.2) (s_iload_n dL_law_18 rfl (s_aload_n dL_law_19 rfl (s_sln dL_law_20 (s_bipush dL_law_21 (by decide) (s_isub dL_law_23 (s_icmp_gt (tgt := 1456) dL_law_24 (by decide) (s_dn tL_law_1456) (s_aload_n dL_law_27 rfl (s_iload_n dL_law_28 rfl (s_sld dL_law_29 (s_bipush dL_law_30 (by decide) (s_iand dL_law_32 (s_swL (tgts := [200, 263, 286, 299, 312, 345, 378, 421, 464, 497, 540, 583, 626, 659, 682, 705, 718, 761, 804, 837, 860, 893, 916, 949, 992, 1005, 1028, 1061, 1104, 1147, 1170, 1223, 1292, 1305, 1348, 1381, 1404, 1427]) (td := 1450) dL_law_33 (by decide) (by decide) (by decide) ⟨(s_aload_n dL_law_200 rfl (s_aload_n dL_law_201 rfl (s_iload_n dL_law_202 rfl (s_iconst dL_law_203 (by decide) (s_iadd dL_law_204 (s_sld dL_law_205 (s_aload_n dL_law_206 rfl (s_iload_n dL_law_207 rfl (s_iconst dL_law_208 (by decide) (s_iadd dL_law_209 (s_sld dL_law_210 (s_aload_n dL_law_211 rfl (s_iload_n dL_law_212 rfl (s_iconst dL_law_213 (by decide) (s_iadd dL_law_214 (s_sld dL_law_215 (s_aload_n dL_law_216 rfl (s_iload_n dL_law_217 rfl (s_iconst dL_law_218 (by decide) (s_iadd dL_law_219 (s_sld dL_law_220 (s_aload_n dL_law_221 rfl (s_iload_n dL_law_222 rfl (s_iconst dL_law_223 (by decide) (s_iadd dL_law_224 (s_sld dL_law_225 (s_callV (r := (RX11, TX11, 13)) dL_law_226 mX11_feed meX11_feed wd1363 wd1364 rfl rfl reX11_feed rmL_law (fitL_law_226) wd1365 (s_aload_n dL_law_229 rfl (s_aload_n dL_law_230 rfl (s_iload_n dL_law_231 rfl (s_iconst dL_law_232 (by decide) (s_iadd dL_law_233 (s_sld dL_law_234 (s_aload_n dL_law_235 rfl (s_iload_n dL_law_236 rfl (s_iconst dL_law_237 (by decide) (s_iadd dL_law_238 (s_sld dL_law_239 (s_aload_n dL_law_240 rfl (s_iload_n dL_law_241 rfl (s_iconst dL_law_242 (by decide) (s_iadd dL_law_243 (s_sld dL_law_244 (s_aload_n dL_law_245 rfl (s_iload_n dL_law_246 rfl (s_iconst dL_law_247 (by decide) (s_iadd dL_law_248 (s_sld dL_law_249 (s_aload_n dL_law_250 rfl (s_iload_n dL_law_251 rfl (s_iconst dL_law_252 (by decide) (s_iadd dL_law_253 (s_sld dL_law_254 (s_callV (r := (RX12, TX12, 74)) dL_law_255 mX12_feed meX12_feed wd1366 wd1367 rfl rfl reX12_feed rmL_law (fitL_law_255) wd1368 (s_icmp_eq (tgt := 1450) dL_law_258 (by decide) tL_law_1450 (s_dn tL_law_261)))))))))))))))))))))))))))))))))))))))))))))))))))))))), ⟨(s_aload_n dL_law_263 rfl (s_aload_n dL_law_264 rfl (s_iload_n dL_law_265 rfl (s_iconst dL_law_266 (by decide) (s_iadd dL_law_267 (s_sld dL_law_268 (s_callV (r := (RX11, TX11, 13)) dL_law_269 mX11_back meX11_back wd1369 wd1370 rfl rfl reX11_back rmL_law (fitL_law_269) wd1371 (s_aload_n dL_law_272 rfl (s_aload_n dL_law_273 rfl (s_iload_n dL_law_274 rfl (s_iconst dL_law_275 (by decide) (s_iadd dL_law_276 (s_sld dL_law_277 (s_callV (r := (RX12, TX12, 74)) dL_law_278 mX12_back meX12_back wd1372 wd1373 rfl rfl reX12_back rmL_law (fitL_law_278) wd1374 (s_icmp_eq (tgt := 1450) dL_law_281 (by decide) tL_law_1450 (s_dn tL_law_284)))))))))))))))), ⟨(s_aload_n dL_law_286 rfl (s_callV (r := (RX11, TX11, 13)) dL_law_287 mX11_read meX11_read wd1375 wd1376 rfl rfl reX11_read rmL_law (fitL_law_287) wd1377 (s_aload_n dL_law_290 rfl (s_callV (r := (RX12, TX12, 74)) dL_law_291 mX12_read meX12_read wd1378 wd1379 rfl rfl reX12_read rmL_law (fitL_law_291) wd1380 (s_icmp_eq (tgt := 1450) dL_law_294 (by decide) tL_law_1450 (s_dn tL_law_297)))))), ⟨(s_aload_n dL_law_299 rfl (s_callV (r := (RX11, TX11, 13)) dL_law_300 mX11_place meX11_place wd1381 wd1382 rfl rfl reX11_place rmL_law (fitL_law_300) wd1383 (s_aload_n dL_law_303 rfl (s_callV (r := (RX12, TX12, 74)) dL_law_304 mX12_place meX12_place wd1384 wd1385 rfl rfl reX12_place rmL_law (fitL_law_304) wd1386 (s_icmp_eq (tgt := 1450) dL_law_307 (by decide) tL_law_1450 (s_dn tL_law_310)))))), ⟨(s_aload_n dL_law_312 rfl (s_aload_n dL_law_313 rfl (s_iload_n dL_law_314 rfl (s_iconst dL_law_315 (by decide) (s_iadd dL_law_316 (s_sld dL_law_317 (s_aload_n dL_law_318 rfl (s_iload_n dL_law_319 rfl (s_iconst dL_law_320 (by decide) (s_iadd dL_law_321 (s_sld dL_law_322 (s_callV (r := (RX11, TX11, 13)) dL_law_323 mX11_child meX11_child wd1387 wd1388 rfl rfl reX11_child rmL_law (fitL_law_323) wd1389 (s_aload_n dL_law_326 rfl (s_aload_n dL_law_327 rfl (s_iload_n dL_law_328 rfl (s_iconst dL_law_329 (by decide) (s_iadd dL_law_330 (s_sld dL_law_331 (s_aload_n dL_law_332 rfl (s_iload_n dL_law_333 rfl (s_iconst dL_law_334 (by decide) (s_iadd dL_law_335 (s_sld dL_law_336 (s_callV (r := (RX12, TX12, 74)) dL_law_337 mX12_child meX12_child wd1390 wd1391 rfl rfl reX12_child rmL_law (fitL_law_337) wd1392 (s_icmp_eq (tgt := 1450) dL_law_340 (by decide) tL_law_1450 (s_dn tL_law_343)))))))))))))))))))))))))), ⟨(s_aload_n dL_law_345 rfl (s_aload_n dL_law_346 rfl (s_iload_n dL_law_347 rfl (s_iconst dL_law_348 (by decide) (s_iadd dL_law_349 (s_sld dL_law_350 (s_aload_n dL_law_351 rfl (s_iload_n dL_law_352 rfl (s_iconst dL_law_353 (by decide) (s_iadd dL_law_354 (s_sld dL_law_355 (s_callV (r := (RX11, TX11, 13)) dL_law_356 mX11_row meX11_row wd1393 wd1394 rfl rfl reX11_row rmL_law (fitL_law_356) wd1395 (s_aload_n dL_law_359 rfl (s_aload_n dL_law_360 rfl (s_iload_n dL_law_361 rfl (s_iconst dL_law_362 (by decide) (s_iadd dL_law_363 (s_sld dL_law_364 (s_aload_n dL_law_365 rfl (s_iload_n dL_law_366 rfl (s_iconst dL_law_367 (by decide) (s_iadd dL_law_368 (s_sld dL_law_369 (s_callV (r := (RX12, TX12, 74)) dL_law_370 mX12_row meX12_row wd1396 wd1397 rfl rfl reX12_row rmL_law (fitL_law_370) wd1398 (s_icmp_eq (tgt := 1450) dL_law_373 (by decide) tL_law_1450 (s_dn tL_law_376)))))))))))))))))))))))))), ⟨(s_aload_n dL_law_378 rfl (s_aload_n dL_law_379 rfl (s_iload_n dL_law_380 rfl (s_iconst dL_law_381 (by decide) (s_iadd dL_law_382 (s_sld dL_law_383 (s_aload_n dL_law_384 rfl (s_iload_n dL_law_385 rfl (s_iconst dL_law_386 (by decide) (s_iadd dL_law_387 (s_sld dL_law_388 (s_aload_n dL_law_389 rfl (s_iload_n dL_law_390 rfl (s_iconst dL_law_391 (by decide) (s_iadd dL_law_392 (s_sld dL_law_393 (s_callV (r := (RX11, TX11, 13)) dL_law_394 mX11_at meX11_at wd1399 wd1400 rfl rfl reX11_at rmL_law (fitL_law_394) wd1401 (s_aload_n dL_law_397 rfl (s_aload_n dL_law_398 rfl (s_iload_n dL_law_399 rfl (s_iconst dL_law_400 (by decide) (s_iadd dL_law_401 (s_sld dL_law_402 (s_aload_n dL_law_403 rfl (s_iload_n dL_law_404 rfl (s_iconst dL_law_405 (by decide) (s_iadd dL_law_406 (s_sld dL_law_407 (s_aload_n dL_law_408 rfl (s_iload_n dL_law_409 rfl (s_iconst dL_law_410 (by decide) (s_iadd dL_law_411 (s_sld dL_law_412 (s_callV (r := (RX12, TX12, 74)) dL_law_413 mX12_at meX12_at wd1402 wd1403 rfl rfl reX12_at rmL_law (fitL_law_413) wd1404 (s_icmp_eq (tgt := 1450) dL_law_416 (by decide) tL_law_1450 (s_dn tL_law_419)))))))))))))))))))))))))))))))))))), ⟨(s_aload_n dL_law_421 rfl (s_aload_n dL_law_422 rfl (s_iload_n dL_law_423 rfl (s_iconst dL_law_424 (by decide) (s_iadd dL_law_425 (s_sld dL_law_426 (s_aload_n dL_law_427 rfl (s_iload_n dL_law_428 rfl (s_iconst dL_law_429 (by decide) (s_iadd dL_law_430 (s_sld dL_law_431 (s_aload_n dL_law_432 rfl (s_iload_n dL_law_433 rfl (s_iconst dL_law_434 (by decide) (s_iadd dL_law_435 (s_sld dL_law_436 (s_callV (r := (RX11, TX11, 13)) dL_law_437 mX11_worth meX11_worth wd1405 wd1406 rfl rfl reX11_worth rmL_law (fitL_law_437) wd1407 (s_aload_n dL_law_440 rfl (s_aload_n dL_law_441 rfl (s_iload_n dL_law_442 rfl (s_iconst dL_law_443 (by decide) (s_iadd dL_law_444 (s_sld dL_law_445 (s_aload_n dL_law_446 rfl (s_iload_n dL_law_447 rfl (s_iconst dL_law_448 (by decide) (s_iadd dL_law_449 (s_sld dL_law_450 (s_aload_n dL_law_451 rfl (s_iload_n dL_law_452 rfl (s_iconst dL_law_453 (by decide) (s_iadd dL_law_454 (s_sld dL_law_455 (s_callV (r := (RX12, TX12, 74)) dL_law_456 mX12_worth meX12_worth wd1408 wd1409 rfl rfl reX12_worth rmL_law (fitL_law_456) wd1410 (s_icmp_eq (tgt := 1450) dL_law_459 (by decide) tL_law_1450 (s_dn tL_law_462)))))))))))))))))))))))))))))))))))), ⟨(s_aload_n dL_law_464 rfl (s_aload_n dL_law_465 rfl (s_iload_n dL_law_466 rfl (s_iconst dL_law_467 (by decide) (s_iadd dL_law_468 (s_sld dL_law_469 (s_aload_n dL_law_470 rfl (s_iload_n dL_law_471 rfl (s_iconst dL_law_472 (by decide) (s_iadd dL_law_473 (s_sld dL_law_474 (s_callV (r := (RX11, TX11, 13)) dL_law_475 mX11_many meX11_many wd1411 wd1412 rfl rfl reX11_many rmL_law (fitL_law_475) wd1413 (s_aload_n dL_law_478 rfl (s_aload_n dL_law_479 rfl (s_iload_n dL_law_480 rfl (s_iconst dL_law_481 (by decide) (s_iadd dL_law_482 (s_sld dL_law_483 (s_aload_n dL_law_484 rfl (s_iload_n dL_law_485 rfl (s_iconst dL_law_486 (by decide) (s_iadd dL_law_487 (s_sld dL_law_488 (s_callV (r := (RX12, TX12, 74)) dL_law_489 mX12_many meX12_many wd1414 wd1415 rfl rfl reX12_many rmL_law (fitL_law_489) wd1416 (s_icmp_eq (tgt := 1450) dL_law_492 (by decide) tL_law_1450 (s_dn tL_law_495)))))))))))))))))))))))))), ⟨(s_aload_n dL_law_497 rfl (s_aload_n dL_law_498 rfl (s_iload_n dL_law_499 rfl (s_iconst dL_law_500 (by decide) (s_iadd dL_law_501 (s_sld dL_law_502 (s_aload_n dL_law_503 rfl (s_iload_n dL_law_504 rfl (s_iconst dL_law_505 (by decide) (s_iadd dL_law_506 (s_sld dL_law_507 (s_aload_n dL_law_508 rfl (s_iload_n dL_law_509 rfl (s_iconst dL_law_510 (by decide) (s_iadd dL_law_511 (s_sld dL_law_512 (s_callV (r := (RX11, TX11, 13)) dL_law_513 mX11_side meX11_side wd1417 wd1418 rfl rfl reX11_side rmL_law (fitL_law_513) wd1419 (s_aload_n dL_law_516 rfl (s_aload_n dL_law_517 rfl (s_iload_n dL_law_518 rfl (s_iconst dL_law_519 (by decide) (s_iadd dL_law_520 (s_sld dL_law_521 (s_aload_n dL_law_522 rfl (s_iload_n dL_law_523 rfl (s_iconst dL_law_524 (by decide) (s_iadd dL_law_525 (s_sld dL_law_526 (s_aload_n dL_law_527 rfl (s_iload_n dL_law_528 rfl (s_iconst dL_law_529 (by decide) (s_iadd dL_law_530 (s_sld dL_law_531 (s_callV (r := (RX12, TX12, 74)) dL_law_532 mX12_side meX12_side wd1420 wd1421 rfl rfl reX12_side rmL_law (fitL_law_532) wd1422 (s_icmp_eq (tgt := 1450) dL_law_535 (by decide) tL_law_1450 (s_dn tL_law_538)))))))))))))))))))))))))))))))))))), ⟨(s_aload_n dL_law_540 rfl (s_aload_n dL_law_541 rfl (s_iload_n dL_law_542 rfl (s_iconst dL_law_543 (by decide) (s_iadd dL_law_544 (s_sld dL_law_545 (s_aload_n dL_law_546 rfl (s_iload_n dL_law_547 rfl (s_iconst dL_law_548 (by decide) (s_iadd dL_law_549 (s_sld dL_law_550 (s_aload_n dL_law_551 rfl (s_iload_n dL_law_552 rfl (s_iconst dL_law_553 (by decide) (s_iadd dL_law_554 (s_sld dL_law_555 (s_callV (r := (RX11, TX11, 13)) dL_law_556 mX11_costs meX11_costs wd1423 wd1424 rfl rfl reX11_costs rmL_law (fitL_law_556) wd1425 (s_aload_n dL_law_559 rfl (s_aload_n dL_law_560 rfl (s_iload_n dL_law_561 rfl (s_iconst dL_law_562 (by decide) (s_iadd dL_law_563 (s_sld dL_law_564 (s_aload_n dL_law_565 rfl (s_iload_n dL_law_566 rfl (s_iconst dL_law_567 (by decide) (s_iadd dL_law_568 (s_sld dL_law_569 (s_aload_n dL_law_570 rfl (s_iload_n dL_law_571 rfl (s_iconst dL_law_572 (by decide) (s_iadd dL_law_573 (s_sld dL_law_574 (s_callV (r := (RX12, TX12, 74)) dL_law_575 mX12_costs meX12_costs wd1426 wd1427 rfl rfl reX12_costs rmL_law (fitL_law_575) wd1428 (s_icmp_eq (tgt := 1450) dL_law_578 (by decide) tL_law_1450 (s_dn tL_law_581)))))))))))))))))))))))))))))))))))), ⟨(s_aload_n dL_law_583 rfl (s_aload_n dL_law_584 rfl (s_iload_n dL_law_585 rfl (s_iconst dL_law_586 (by decide) (s_iadd dL_law_587 (s_sld dL_law_588 (s_aload_n dL_law_589 rfl (s_iload_n dL_law_590 rfl (s_iconst dL_law_591 (by decide) (s_iadd dL_law_592 (s_sld dL_law_593 (s_aload_n dL_law_594 rfl (s_iload_n dL_law_595 rfl (s_iconst dL_law_596 (by decide) (s_iadd dL_law_597 (s_sld dL_law_598 (s_callV (r := (RX11, TX11, 13)) dL_law_599 mX11_paint meX11_paint wd1429 wd1430 rfl rfl reX11_paint rmL_law (fitL_law_599) wd1431 (s_aload_n dL_law_602 rfl (s_aload_n dL_law_603 rfl (s_iload_n dL_law_604 rfl (s_iconst dL_law_605 (by decide) (s_iadd dL_law_606 (s_sld dL_law_607 (s_aload_n dL_law_608 rfl (s_iload_n dL_law_609 rfl (s_iconst dL_law_610 (by decide) (s_iadd dL_law_611 (s_sld dL_law_612 (s_aload_n dL_law_613 rfl (s_iload_n dL_law_614 rfl (s_iconst dL_law_615 (by decide) (s_iadd dL_law_616 (s_sld dL_law_617 (s_callV (r := (RX12, TX12, 74)) dL_law_618 mX12_paint meX12_paint wd1432 wd1433 rfl rfl reX12_paint rmL_law (fitL_law_618) wd1434 (s_icmp_eq (tgt := 1450) dL_law_621 (by decide) tL_law_1450 (s_dn tL_law_624)))))))))))))))))))))))))))))))))))), ⟨(s_aload_n dL_law_626 rfl (s_aload_n dL_law_627 rfl (s_iload_n dL_law_628 rfl (s_iconst dL_law_629 (by decide) (s_iadd dL_law_630 (s_sld dL_law_631 (s_aload_n dL_law_632 rfl (s_iload_n dL_law_633 rfl (s_iconst dL_law_634 (by decide) (s_iadd dL_law_635 (s_sld dL_law_636 (s_callV (r := (RX11, TX11, 13)) dL_law_637 mX11_come meX11_come wd1435 wd1436 rfl rfl reX11_come rmL_law (fitL_law_637) wd1437 (s_aload_n dL_law_640 rfl (s_aload_n dL_law_641 rfl (s_iload_n dL_law_642 rfl (s_iconst dL_law_643 (by decide) (s_iadd dL_law_644 (s_sld dL_law_645 (s_aload_n dL_law_646 rfl (s_iload_n dL_law_647 rfl (s_iconst dL_law_648 (by decide) (s_iadd dL_law_649 (s_sld dL_law_650 (s_callV (r := (RX12, TX12, 74)) dL_law_651 mX12_come meX12_come wd1438 wd1439 rfl rfl reX12_come rmL_law (fitL_law_651) wd1440 (s_icmp_eq (tgt := 1450) dL_law_654 (by decide) tL_law_1450 (s_dn tL_law_657)))))))))))))))))))))))))), ⟨(s_aload_n dL_law_659 rfl (s_aload_n dL_law_660 rfl (s_iload_n dL_law_661 rfl (s_iconst dL_law_662 (by decide) (s_iadd dL_law_663 (s_sld dL_law_664 (s_callV (r := (RX11, TX11, 13)) dL_law_665 mX11_go meX11_go wd1441 wd1442 rfl rfl reX11_go rmL_law (fitL_law_665) wd1443 (s_aload_n dL_law_668 rfl (s_aload_n dL_law_669 rfl (s_iload_n dL_law_670 rfl (s_iconst dL_law_671 (by decide) (s_iadd dL_law_672 (s_sld dL_law_673 (s_callV (r := (RX12, TX12, 74)) dL_law_674 mX12_go meX12_go wd1444 wd1445 rfl rfl reX12_go rmL_law (fitL_law_674) wd1446 (s_icmp_eq (tgt := 1450) dL_law_677 (by decide) tL_law_1450 (s_dn tL_law_680)))))))))))))))), ⟨(s_aload_n dL_law_682 rfl (s_aload_n dL_law_683 rfl (s_iload_n dL_law_684 rfl (s_iconst dL_law_685 (by decide) (s_iadd dL_law_686 (s_sld dL_law_687 (s_callV (r := (RX11, TX11, 13)) dL_law_688 mX11_times meX11_times wd1447 wd1448 rfl rfl reX11_times rmL_law (fitL_law_688) wd1449 (s_aload_n dL_law_691 rfl (s_aload_n dL_law_692 rfl (s_iload_n dL_law_693 rfl (s_iconst dL_law_694 (by decide) (s_iadd dL_law_695 (s_sld dL_law_696 (s_callV (r := (RX12, TX12, 74)) dL_law_697 mX12_times meX12_times wd1450 wd1451 rfl rfl reX12_times rmL_law (fitL_law_697) wd1452 (s_icmp_eq (tgt := 1450) dL_law_700 (by decide) tL_law_1450 (s_dn tL_law_703)))))))))))))))), ⟨(s_aload_n dL_law_705 rfl (s_callV (r := (RX11, TX11, 13)) dL_law_706 mX11_undo meX11_undo wd1453 wd1454 rfl rfl reX11_undo rmL_law (fitL_law_706) wd1455 (s_aload_n dL_law_709 rfl (s_callV (r := (RX12, TX12, 74)) dL_law_710 mX12_undo meX12_undo wd1456 wd1457 rfl rfl reX12_undo rmL_law (fitL_law_710) wd1458 (s_icmp_eq (tgt := 1450) dL_law_713 (by decide) tL_law_1450 (s_dn tL_law_716)))))), ⟨(s_aload_n dL_law_718 rfl (s_aload_n dL_law_719 rfl (s_iload_n dL_law_720 rfl (s_iconst dL_law_721 (by decide) (s_iadd dL_law_722 (s_sld dL_law_723 (s_aload_n dL_law_724 rfl (s_iload_n dL_law_725 rfl (s_iconst dL_law_726 (by decide) (s_iadd dL_law_727 (s_sld dL_law_728 (s_aload_n dL_law_729 rfl (s_iload_n dL_law_730 rfl (s_iconst dL_law_731 (by decide) (s_iadd dL_law_732 (s_sld dL_law_733 (s_callV (r := (RX11, TX11, 13)) dL_law_734 mX11_makes meX11_makes wd1459 wd1460 rfl rfl reX11_makes rmL_law (fitL_law_734) wd1461 (s_aload_n dL_law_737 rfl (s_aload_n dL_law_738 rfl (s_iload_n dL_law_739 rfl (s_iconst dL_law_740 (by decide) (s_iadd dL_law_741 (s_sld dL_law_742 (s_aload_n dL_law_743 rfl (s_iload_n dL_law_744 rfl (s_iconst dL_law_745 (by decide) (s_iadd dL_law_746 (s_sld dL_law_747 (s_aload_n dL_law_748 rfl (s_iload_n dL_law_749 rfl (s_iconst dL_law_750 (by decide) (s_iadd dL_law_751 (s_sld dL_law_752 (s_callV (r := (RX12, TX12, 74)) dL_law_753 mX12_makes meX12_makes wd1462 wd1463 rfl rfl reX12_makes rmL_law (fitL_law_753) wd1464 (s_icmp_eq (tgt := 1450) dL_law_756 (by decide) tL_law_1450 (s_dn tL_law_759)))))))))))))))))))))))))))))))))))), ⟨(s_aload_n dL_law_761 rfl (s_aload_n dL_law_762 rfl (s_iload_n dL_law_763 rfl (s_iconst dL_law_764 (by decide) (s_iadd dL_law_765 (s_sld dL_law_766 (s_aload_n dL_law_767 rfl (s_iload_n dL_law_768 rfl (s_iconst dL_law_769 (by decide) (s_iadd dL_law_770 (s_sld dL_law_771 (s_aload_n dL_law_772 rfl (s_iload_n dL_law_773 rfl (s_iconst dL_law_774 (by decide) (s_iadd dL_law_775 (s_sld dL_law_776 (s_callV (r := (RX11, TX11, 13)) dL_law_777 mX11_repaint meX11_repaint wd1465 wd1466 rfl rfl reX11_repaint rmL_law (fitL_law_777) wd1467 (s_aload_n dL_law_780 rfl (s_aload_n dL_law_781 rfl (s_iload_n dL_law_782 rfl (s_iconst dL_law_783 (by decide) (s_iadd dL_law_784 (s_sld dL_law_785 (s_aload_n dL_law_786 rfl (s_iload_n dL_law_787 rfl (s_iconst dL_law_788 (by decide) (s_iadd dL_law_789 (s_sld dL_law_790 (s_aload_n dL_law_791 rfl (s_iload_n dL_law_792 rfl (s_iconst dL_law_793 (by decide) (s_iadd dL_law_794 (s_sld dL_law_795 (s_callV (r := (RX12, TX12, 74)) dL_law_796 mX12_repaint meX12_repaint wd1468 wd1469 rfl rfl reX12_repaint rmL_law (fitL_law_796) wd1470 (s_icmp_eq (tgt := 1450) dL_law_799 (by decide) tL_law_1450 (s_dn tL_law_802)))))))))))))))))))))))))))))))))))), ⟨(s_aload_n dL_law_804 rfl (s_aload_n dL_law_805 rfl (s_iload_n dL_law_806 rfl (s_iconst dL_law_807 (by decide) (s_iadd dL_law_808 (s_sld dL_law_809 (s_aload_n dL_law_810 rfl (s_iload_n dL_law_811 rfl (s_iconst dL_law_812 (by decide) (s_iadd dL_law_813 (s_sld dL_law_814 (s_callV (r := (RX11, TX11, 13)) dL_law_815 mX11_fairly meX11_fairly wd1471 wd1472 rfl rfl reX11_fairly rmL_law (fitL_law_815) wd1473 (s_aload_n dL_law_818 rfl (s_aload_n dL_law_819 rfl (s_iload_n dL_law_820 rfl (s_iconst dL_law_821 (by decide) (s_iadd dL_law_822 (s_sld dL_law_823 (s_aload_n dL_law_824 rfl (s_iload_n dL_law_825 rfl (s_iconst dL_law_826 (by decide) (s_iadd dL_law_827 (s_sld dL_law_828 (s_callV (r := (RX12, TX12, 74)) dL_law_829 mX12_fairly meX12_fairly wd1474 wd1475 rfl rfl reX12_fairly rmL_law (fitL_law_829) wd1476 (s_icmp_eq (tgt := 1450) dL_law_832 (by decide) tL_law_1450 (s_dn tL_law_835)))))))))))))))))))))))))), ⟨(s_aload_n dL_law_837 rfl (s_aload_n dL_law_838 rfl (s_iload_n dL_law_839 rfl (s_iconst dL_law_840 (by decide) (s_iadd dL_law_841 (s_sld dL_law_842 (s_callV (r := (RX11, TX11, 13)) dL_law_843 mX11_matters meX11_matters wd1477 wd1478 rfl rfl reX11_matters rmL_law (fitL_law_843) wd1479 (s_aload_n dL_law_846 rfl (s_aload_n dL_law_847 rfl (s_iload_n dL_law_848 rfl (s_iconst dL_law_849 (by decide) (s_iadd dL_law_850 (s_sld dL_law_851 (s_callV (r := (RX12, TX12, 74)) dL_law_852 mX12_matters meX12_matters wd1480 wd1481 rfl rfl reX12_matters rmL_law (fitL_law_852) wd1482 (s_icmp_eq (tgt := 1450) dL_law_855 (by decide) tL_law_1450 (s_dn tL_law_858)))))))))))))))), ⟨(s_aload_n dL_law_860 rfl (s_aload_n dL_law_861 rfl (s_iload_n dL_law_862 rfl (s_iconst dL_law_863 (by decide) (s_iadd dL_law_864 (s_sld dL_law_865 (s_aload_n dL_law_866 rfl (s_iload_n dL_law_867 rfl (s_iconst dL_law_868 (by decide) (s_iadd dL_law_869 (s_sld dL_law_870 (s_callV (r := (RX11, TX11, 13)) dL_law_871 mX11_parents meX11_parents wd1483 wd1484 rfl rfl reX11_parents rmL_law (fitL_law_871) wd1485 (s_aload_n dL_law_874 rfl (s_aload_n dL_law_875 rfl (s_iload_n dL_law_876 rfl (s_iconst dL_law_877 (by decide) (s_iadd dL_law_878 (s_sld dL_law_879 (s_aload_n dL_law_880 rfl (s_iload_n dL_law_881 rfl (s_iconst dL_law_882 (by decide) (s_iadd dL_law_883 (s_sld dL_law_884 (s_callV (r := (RX12, TX12, 74)) dL_law_885 mX12_parents meX12_parents wd1486 wd1487 rfl rfl reX12_parents rmL_law (fitL_law_885) wd1488 (s_icmp_eq (tgt := 1450) dL_law_888 (by decide) tL_law_1450 (s_dn tL_law_891)))))))))))))))))))))))))), ⟨(s_aload_n dL_law_893 rfl (s_aload_n dL_law_894 rfl (s_iload_n dL_law_895 rfl (s_iconst dL_law_896 (by decide) (s_iadd dL_law_897 (s_sld dL_law_898 (s_callV (r := (RX11, TX11, 13)) dL_law_899 mX11_orphans meX11_orphans wd1489 wd1490 rfl rfl reX11_orphans rmL_law (fitL_law_899) wd1491 (s_aload_n dL_law_902 rfl (s_aload_n dL_law_903 rfl (s_iload_n dL_law_904 rfl (s_iconst dL_law_905 (by decide) (s_iadd dL_law_906 (s_sld dL_law_907 (s_callV (r := (RX12, TX12, 74)) dL_law_908 mX12_orphans meX12_orphans wd1492 wd1493 rfl rfl reX12_orphans rmL_law (fitL_law_908) wd1494 (s_icmp_eq (tgt := 1450) dL_law_911 (by decide) tL_law_1450 (s_dn tL_law_914)))))))))))))))), ⟨(s_aload_n dL_law_916 rfl (s_aload_n dL_law_917 rfl (s_iload_n dL_law_918 rfl (s_iconst dL_law_919 (by decide) (s_iadd dL_law_920 (s_sld dL_law_921 (s_aload_n dL_law_922 rfl (s_iload_n dL_law_923 rfl (s_iconst dL_law_924 (by decide) (s_iadd dL_law_925 (s_sld dL_law_926 (s_callV (r := (RX11, TX11, 13)) dL_law_927 mX11_ring meX11_ring wd1495 wd1496 rfl rfl reX11_ring rmL_law (fitL_law_927) wd1497 (s_aload_n dL_law_930 rfl (s_aload_n dL_law_931 rfl (s_iload_n dL_law_932 rfl (s_iconst dL_law_933 (by decide) (s_iadd dL_law_934 (s_sld dL_law_935 (s_aload_n dL_law_936 rfl (s_iload_n dL_law_937 rfl (s_iconst dL_law_938 (by decide) (s_iadd dL_law_939 (s_sld dL_law_940 (s_callV (r := (RX12, TX12, 74)) dL_law_941 mX12_ring meX12_ring wd1498 wd1499 rfl rfl reX12_ring rmL_law (fitL_law_941) wd1500 (s_icmp_eq (tgt := 1450) dL_law_944 (by decide) tL_law_1450 (s_dn tL_law_947)))))))))))))))))))))))))), ⟨(s_aload_n dL_law_949 rfl (s_aload_n dL_law_950 rfl (s_iload_n dL_law_951 rfl (s_iconst dL_law_952 (by decide) (s_iadd dL_law_953 (s_sld dL_law_954 (s_aload_n dL_law_955 rfl (s_iload_n dL_law_956 rfl (s_iconst dL_law_957 (by decide) (s_iadd dL_law_958 (s_sld dL_law_959 (s_aload_n dL_law_960 rfl (s_iload_n dL_law_961 rfl (s_iconst dL_law_962 (by decide) (s_iadd dL_law_963 (s_sld dL_law_964 (s_callV (r := (RX11, TX11, 13)) dL_law_965 mX11_after meX11_after wd1501 wd1502 rfl rfl reX11_after rmL_law (fitL_law_965) wd1503 (s_aload_n dL_law_968 rfl (s_aload_n dL_law_969 rfl (s_iload_n dL_law_970 rfl (s_iconst dL_law_971 (by decide) (s_iadd dL_law_972 (s_sld dL_law_973 (s_aload_n dL_law_974 rfl (s_iload_n dL_law_975 rfl (s_iconst dL_law_976 (by decide) (s_iadd dL_law_977 (s_sld dL_law_978 (s_aload_n dL_law_979 rfl (s_iload_n dL_law_980 rfl (s_iconst dL_law_981 (by decide) (s_iadd dL_law_982 (s_sld dL_law_983 (s_callV (r := (RX12, TX12, 74)) dL_law_984 mX12_after meX12_after wd1504 wd1505 rfl rfl reX12_after rmL_law (fitL_law_984) wd1506 (s_icmp_eq (tgt := 1450) dL_law_987 (by decide) tL_law_1450 (s_dn tL_law_990)))))))))))))))))))))))))))))))))))), ⟨(s_aload_n dL_law_992 rfl (s_callV (r := (RX11, TX11, 13)) dL_law_993 mX11_ways meX11_ways wd1507 wd1508 rfl rfl reX11_ways rmL_law (fitL_law_993) wd1509 (s_aload_n dL_law_996 rfl (s_callV (r := (RX12, TX12, 74)) dL_law_997 mX12_ways meX12_ways wd1510 wd1511 rfl rfl reX12_ways rmL_law (fitL_law_997) wd1512 (s_icmp_eq (tgt := 1450) dL_law_1000 (by decide) tL_law_1450 (s_dn tL_law_1003)))))), ⟨(s_aload_n dL_law_1005 rfl (s_aload_n dL_law_1006 rfl (s_iload_n dL_law_1007 rfl (s_iconst dL_law_1008 (by decide) (s_iadd dL_law_1009 (s_sld dL_law_1010 (s_callV (r := (RX11, TX11, 13)) dL_law_1011 mX11_shut meX11_shut wd1513 wd1514 rfl rfl reX11_shut rmL_law (fitL_law_1011) wd1515 (s_aload_n dL_law_1014 rfl (s_aload_n dL_law_1015 rfl (s_iload_n dL_law_1016 rfl (s_iconst dL_law_1017 (by decide) (s_iadd dL_law_1018 (s_sld dL_law_1019 (s_callV (r := (RX12, TX12, 74)) dL_law_1020 mX12_shut meX12_shut wd1516 wd1517 rfl rfl reX12_shut rmL_law (fitL_law_1020) wd1518 (s_icmp_eq (tgt := 1450) dL_law_1023 (by decide) tL_law_1450 (s_dn tL_law_1026)))))))))))))))), ⟨(s_aload_n dL_law_1028 rfl (s_aload_n dL_law_1029 rfl (s_iload_n dL_law_1030 rfl (s_iconst dL_law_1031 (by decide) (s_iadd dL_law_1032 (s_sld dL_law_1033 (s_aload_n dL_law_1034 rfl (s_iload_n dL_law_1035 rfl (s_iconst dL_law_1036 (by decide) (s_iadd dL_law_1037 (s_sld dL_law_1038 (s_callV (r := (RX11, TX11, 13)) dL_law_1039 mX11_deep meX11_deep wd1519 wd1520 rfl rfl reX11_deep rmL_law (fitL_law_1039) wd1521 (s_aload_n dL_law_1042 rfl (s_aload_n dL_law_1043 rfl (s_iload_n dL_law_1044 rfl (s_iconst dL_law_1045 (by decide) (s_iadd dL_law_1046 (s_sld dL_law_1047 (s_aload_n dL_law_1048 rfl (s_iload_n dL_law_1049 rfl (s_iconst dL_law_1050 (by decide) (s_iadd dL_law_1051 (s_sld dL_law_1052 (s_callV (r := (RX12, TX12, 74)) dL_law_1053 mX12_deep meX12_deep wd1522 wd1523 rfl rfl reX12_deep rmL_law (fitL_law_1053) wd1524 (s_icmp_eq (tgt := 1450) dL_law_1056 (by decide) tL_law_1450 (s_dn tL_law_1059)))))))))))))))))))))))))), ⟨(s_aload_n dL_law_1061 rfl (s_aload_n dL_law_1062 rfl (s_iload_n dL_law_1063 rfl (s_iconst dL_law_1064 (by decide) (s_iadd dL_law_1065 (s_sld dL_law_1066 (s_aload_n dL_law_1067 rfl (s_iload_n dL_law_1068 rfl (s_iconst dL_law_1069 (by decide) (s_iadd dL_law_1070 (s_sld dL_law_1071 (s_aload_n dL_law_1072 rfl (s_iload_n dL_law_1073 rfl (s_iconst dL_law_1074 (by decide) (s_iadd dL_law_1075 (s_sld dL_law_1076 (s_callV (r := (RX11, TX11, 13)) dL_law_1077 mX11_game meX11_game wd1525 wd1526 rfl rfl reX11_game rmL_law (fitL_law_1077) wd1527 (s_aload_n dL_law_1080 rfl (s_aload_n dL_law_1081 rfl (s_iload_n dL_law_1082 rfl (s_iconst dL_law_1083 (by decide) (s_iadd dL_law_1084 (s_sld dL_law_1085 (s_aload_n dL_law_1086 rfl (s_iload_n dL_law_1087 rfl (s_iconst dL_law_1088 (by decide) (s_iadd dL_law_1089 (s_sld dL_law_1090 (s_aload_n dL_law_1091 rfl (s_iload_n dL_law_1092 rfl (s_iconst dL_law_1093 (by decide) (s_iadd dL_law_1094 (s_sld dL_law_1095 (s_callV (r := (RX12, TX12, 74)) dL_law_1096 mX12_game meX12_game wd1528 wd1529 rfl rfl reX12_game rmL_law (fitL_law_1096) wd1530 (s_icmp_eq (tgt := 1450) dL_law_1099 (by decide) tL_law_1450 (s_dn tL_law_1102)))))))))))))))))))))))))))))))))))), ⟨(s_aload_n dL_law_1104 rfl (s_aload_n dL_law_1105 rfl (s_iload_n dL_law_1106 rfl (s_iconst dL_law_1107 (by decide) (s_iadd dL_law_1108 (s_sld dL_law_1109 (s_aload_n dL_law_1110 rfl (s_iload_n dL_law_1111 rfl (s_iconst dL_law_1112 (by decide) (s_iadd dL_law_1113 (s_sld dL_law_1114 (s_aload_n dL_law_1115 rfl (s_iload_n dL_law_1116 rfl (s_iconst dL_law_1117 (by decide) (s_iadd dL_law_1118 (s_sld dL_law_1119 (s_callV (r := (RX11, TX11, 13)) dL_law_1120 mX11_then meX11_then wd1531 wd1532 rfl rfl reX11_then rmL_law (fitL_law_1120) wd1533 (s_aload_n dL_law_1123 rfl (s_aload_n dL_law_1124 rfl (s_iload_n dL_law_1125 rfl (s_iconst dL_law_1126 (by decide) (s_iadd dL_law_1127 (s_sld dL_law_1128 (s_aload_n dL_law_1129 rfl (s_iload_n dL_law_1130 rfl (s_iconst dL_law_1131 (by decide) (s_iadd dL_law_1132 (s_sld dL_law_1133 (s_aload_n dL_law_1134 rfl (s_iload_n dL_law_1135 rfl (s_iconst dL_law_1136 (by decide) (s_iadd dL_law_1137 (s_sld dL_law_1138 (s_callV (r := (RX12, TX12, 74)) dL_law_1139 mX12_then meX12_then wd1534 wd1535 rfl rfl reX12_then rmL_law (fitL_law_1139) wd1536 (s_icmp_eq (tgt := 1450) dL_law_1142 (by decide) tL_law_1450 (s_dn tL_law_1145)))))))))))))))))))))))))))))))))))), ⟨(s_aload_n dL_law_1147 rfl (s_aload_n dL_law_1148 rfl (s_iload_n dL_law_1149 rfl (s_iconst dL_law_1150 (by decide) (s_iadd dL_law_1151 (s_sld dL_law_1152 (s_callV (r := (RX11, TX11, 13)) dL_law_1153 mX11_paidIn meX11_paidIn wd1537 wd1538 rfl rfl reX11_paidIn rmL_law (fitL_law_1153) wd1539 (s_aload_n dL_law_1156 rfl (s_aload_n dL_law_1157 rfl (s_iload_n dL_law_1158 rfl (s_iconst dL_law_1159 (by decide) (s_iadd dL_law_1160 (s_sld dL_law_1161 (s_callV (r := (RX12, TX12, 74)) dL_law_1162 mX12_paidIn meX12_paidIn wd1540 wd1541 rfl rfl reX12_paidIn rmL_law (fitL_law_1162) wd1542 (s_icmp_eq (tgt := 1450) dL_law_1165 (by decide) tL_law_1450 (s_dn tL_law_1168)))))))))))))))), ⟨(s_aload_n dL_law_1170 rfl (s_aload_n dL_law_1171 rfl (s_iload_n dL_law_1172 rfl (s_iconst dL_law_1173 (by decide) (s_iadd dL_law_1174 (s_sld dL_law_1175 (s_aload_n dL_law_1176 rfl (s_iload_n dL_law_1177 rfl (s_iconst dL_law_1178 (by decide) (s_iadd dL_law_1179 (s_sld dL_law_1180 (s_aload_n dL_law_1181 rfl (s_iload_n dL_law_1182 rfl (s_iconst dL_law_1183 (by decide) (s_iadd dL_law_1184 (s_sld dL_law_1185 (s_aload_n dL_law_1186 rfl (s_iload_n dL_law_1187 rfl (s_iconst dL_law_1188 (by decide) (s_iadd dL_law_1189 (s_sld dL_law_1190 (s_callV (r := (RX11, TX11, 13)) dL_law_1191 mX11_year meX11_year wd1543 wd1544 rfl rfl reX11_year rmL_law (fitL_law_1191) wd1545 (s_aload_n dL_law_1194 rfl (s_aload_n dL_law_1195 rfl (s_iload_n dL_law_1196 rfl (s_iconst dL_law_1197 (by decide) (s_iadd dL_law_1198 (s_sld dL_law_1199 (s_aload_n dL_law_1200 rfl (s_iload_n dL_law_1201 rfl (s_iconst dL_law_1202 (by decide) (s_iadd dL_law_1203 (s_sld dL_law_1204 (s_aload_n dL_law_1205 rfl (s_iload_n dL_law_1206 rfl (s_iconst dL_law_1207 (by decide) (s_iadd dL_law_1208 (s_sld dL_law_1209 (s_aload_n dL_law_1210 rfl (s_iload_n dL_law_1211 rfl (s_iconst dL_law_1212 (by decide) (s_iadd dL_law_1213 (s_sld dL_law_1214 (s_callV (r := (RX12, TX12, 74)) dL_law_1215 mX12_year meX12_year wd1546 wd1547 rfl rfl reX12_year rmL_law (fitL_law_1215) wd1548 (s_icmp_eq (tgt := 1450) dL_law_1218 (by decide) tL_law_1450 (s_dn tL_law_1221)))))))))))))))))))))))))))))))))))))))))))))), ⟨(s_aload_n dL_law_1223 rfl (s_aload_n dL_law_1224 rfl (s_iload_n dL_law_1225 rfl (s_iconst dL_law_1226 (by decide) (s_iadd dL_law_1227 (s_sld dL_law_1228 (s_aload_n dL_law_1229 rfl (s_iload_n dL_law_1230 rfl (s_iconst dL_law_1231 (by decide) (s_iadd dL_law_1232 (s_sld dL_law_1233 (s_aload_n dL_law_1234 rfl (s_iload_n dL_law_1235 rfl (s_iconst dL_law_1236 (by decide) (s_iadd dL_law_1237 (s_sld dL_law_1238 (s_aload_n dL_law_1239 rfl (s_iload_n dL_law_1240 rfl (s_iconst dL_law_1241 (by decide) (s_iadd dL_law_1242 (s_sld dL_law_1243 (s_if_eq (tgt := 1251) dL_law_1244 (by decide) (s_iconst dL_law_1251 (by decide) tL_law_1252) (s_iconst dL_law_1247 (by decide) (s_goto (tgt := 1252) dL_law_1248 (by decide) tL_law_1252)))))))))))))))))))))))), ⟨(s_aload_n dL_law_1292 rfl (s_callV (r := (RX11, TX11, 13)) dL_law_1293 mX11_forget meX11_forget wd1555 wd1556 rfl rfl reX11_forget rmL_law (fitL_law_1293) wd1557 (s_aload_n dL_law_1296 rfl (s_callV (r := (RX12, TX12, 74)) dL_law_1297 mX12_forget meX12_forget wd1558 wd1559 rfl rfl reX12_forget rmL_law (fitL_law_1297) wd1560 (s_icmp_eq (tgt := 1450) dL_law_1300 (by decide) tL_law_1450 (s_dn tL_law_1303)))))), ⟨(s_aload_n dL_law_1305 rfl (s_aload_n dL_law_1306 rfl (s_iload_n dL_law_1307 rfl (s_iconst dL_law_1308 (by decide) (s_iadd dL_law_1309 (s_sld dL_law_1310 (s_aload_n dL_law_1311 rfl (s_iload_n dL_law_1312 rfl (s_iconst dL_law_1313 (by decide) (s_iadd dL_law_1314 (s_sld dL_law_1315 (s_aload_n dL_law_1316 rfl (s_iload_n dL_law_1317 rfl (s_iconst dL_law_1318 (by decide) (s_iadd dL_law_1319 (s_sld dL_law_1320 (s_callV (r := (RX11, TX11, 13)) dL_law_1321 mX11_rows meX11_rows wd1561 wd1562 rfl rfl reX11_rows rmL_law (fitL_law_1321) wd1563 (s_aload_n dL_law_1324 rfl (s_aload_n dL_law_1325 rfl (s_iload_n dL_law_1326 rfl (s_iconst dL_law_1327 (by decide) (s_iadd dL_law_1328 (s_sld dL_law_1329 (s_aload_n dL_law_1330 rfl (s_iload_n dL_law_1331 rfl (s_iconst dL_law_1332 (by decide) (s_iadd dL_law_1333 (s_sld dL_law_1334 (s_aload_n dL_law_1335 rfl (s_iload_n dL_law_1336 rfl (s_iconst dL_law_1337 (by decide) (s_iadd dL_law_1338 (s_sld dL_law_1339 (s_callV (r := (RX12, TX12, 74)) dL_law_1340 mX12_rows meX12_rows wd1564 wd1565 rfl rfl reX12_rows rmL_law (fitL_law_1340) wd1566 (s_icmp_eq (tgt := 1450) dL_law_1343 (by decide) tL_law_1450 (s_dn tL_law_1346)))))))))))))))))))))))))))))))))))), ⟨(s_aload_n dL_law_1348 rfl (s_aload_n dL_law_1349 rfl (s_iload_n dL_law_1350 rfl (s_iconst dL_law_1351 (by decide) (s_iadd dL_law_1352 (s_sld dL_law_1353 (s_aload_n dL_law_1354 rfl (s_iload_n dL_law_1355 rfl (s_iconst dL_law_1356 (by decide) (s_iadd dL_law_1357 (s_sld dL_law_1358 (s_callV (r := (RX11, TX11, 13)) dL_law_1359 mX11_look meX11_look wd1567 wd1568 rfl rfl reX11_look rmL_law (fitL_law_1359) wd1569 (s_aload_n dL_law_1362 rfl (s_aload_n dL_law_1363 rfl (s_iload_n dL_law_1364 rfl (s_iconst dL_law_1365 (by decide) (s_iadd dL_law_1366 (s_sld dL_law_1367 (s_aload_n dL_law_1368 rfl (s_iload_n dL_law_1369 rfl (s_iconst dL_law_1370 (by decide) (s_iadd dL_law_1371 (s_sld dL_law_1372 (s_callV (r := (RX12, TX12, 74)) dL_law_1373 mX12_look meX12_look wd1570 wd1571 rfl rfl reX12_look rmL_law (fitL_law_1373) wd1572 (s_icmp_eq (tgt := 1450) dL_law_1376 (by decide) tL_law_1450 (s_dn tL_law_1379)))))))))))))))))))))))))), ⟨(s_aload_n dL_law_1381 rfl (s_aload_n dL_law_1382 rfl (s_iload_n dL_law_1383 rfl (s_iconst dL_law_1384 (by decide) (s_iadd dL_law_1385 (s_sld dL_law_1386 (s_callV (r := (RX11, TX11, 13)) dL_law_1387 mX11_hold meX11_hold wd1573 wd1574 rfl rfl reX11_hold rmL_law (fitL_law_1387) wd1575 (s_aload_n dL_law_1390 rfl (s_aload_n dL_law_1391 rfl (s_iload_n dL_law_1392 rfl (s_iconst dL_law_1393 (by decide) (s_iadd dL_law_1394 (s_sld dL_law_1395 (s_callV (r := (RX12, TX12, 74)) dL_law_1396 mX12_hold meX12_hold wd1576 wd1577 rfl rfl reX12_hold rmL_law (fitL_law_1396) wd1578 (s_icmp_eq (tgt := 1450) dL_law_1399 (by decide) tL_law_1450 (s_dn tL_law_1402)))))))))))))))), ⟨(s_aload_n dL_law_1404 rfl (s_aload_n dL_law_1405 rfl (s_iload_n dL_law_1406 rfl (s_iconst dL_law_1407 (by decide) (s_iadd dL_law_1408 (s_sld dL_law_1409 (s_callV (r := (RX11, TX11, 13)) dL_law_1410 mX11_restore meX11_restore wd1579 wd1580 rfl rfl reX11_restore rmL_law (fitL_law_1410) wd1581 (s_aload_n dL_law_1413 rfl (s_aload_n dL_law_1414 rfl (s_iload_n dL_law_1415 rfl (s_iconst dL_law_1416 (by decide) (s_iadd dL_law_1417 (s_sld dL_law_1418 (s_callV (r := (RX12, TX12, 74)) dL_law_1419 mX12_restore meX12_restore wd1582 wd1583 rfl rfl reX12_restore rmL_law (fitL_law_1419) wd1584 (s_icmp_eq (tgt := 1450) dL_law_1422 (by decide) tL_law_1450 (s_dn tL_law_1425)))))))))))))))), ⟨(s_aload_n dL_law_1427 rfl (s_aload_n dL_law_1428 rfl (s_iload_n dL_law_1429 rfl (s_iconst dL_law_1430 (by decide) (s_iadd dL_law_1431 (s_sld dL_law_1432 (s_callV (r := (RX11, TX11, 13)) dL_law_1433 mX11_count meX11_count wd1585 wd1586 rfl rfl reX11_count rmL_law (fitL_law_1433) wd1587 (s_aload_n dL_law_1436 rfl (s_aload_n dL_law_1437 rfl (s_iload_n dL_law_1438 rfl (s_iconst dL_law_1439 (by decide) (s_iadd dL_law_1440 (s_sld dL_law_1441 (s_callV (r := (RX12, TX12, 74)) dL_law_1442 mX12_count meX12_count wd1588 wd1589 rfl rfl reX12_count rmL_law (fitL_law_1442) wd1590 (s_icmp_eq (tgt := 1450) dL_law_1445 (by decide) tL_law_1450 (s_dn tL_law_1448)))))))))))))))), True.intro⟩⟩⟩⟩⟩⟩⟩⟩⟩⟩⟩⟩⟩⟩⟩⟩⟩⟩⟩⟩⟩⟩⟩⟩⟩⟩⟩⟩⟩⟩⟩⟩⟩⟩⟩⟩⟩⟩ tL_law_1450))))))))))))
set_option maxRecDepth 100000 in
theorem tL_law_16 {l : Launch} {D : zD} {B sz0 : Nat} {post : Option Value → zS → Prop} : zSnd l D B xL_law sz0 post 16 (kL_law_16 D.2.2.2.2.1 D.2.2.2.2.2.1 D.2.2.2.2.2.2) (z_Jr post) := (s_iconst dL_law_16 (by decide) (s_istore_n dL_law_17 rfl tL_law_18))
