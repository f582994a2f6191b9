theorem d_La_law_0 : decode m_law.2.1 0 = .ok (.new 7, 3) := by decide +kernel
theorem d_La_law_3 : decode m_law.2.1 3 = .ok (.dup, 1) := by decide +kernel
theorem d_La_law_4 : decode m_law.2.1 4 = .ok (.invokespecial 9, 3) := by decide +kernel
theorem d_La_law_7 : decode m_law.2.1 7 = .ok (.astore_n 1, 1) := by decide +kernel
theorem d_La_law_8 : decode m_law.2.1 8 = .ok (.new 10, 3) := by decide +kernel
theorem d_La_law_11 : decode m_law.2.1 11 = .ok (.dup, 1) := by decide +kernel
theorem d_La_law_12 : decode m_law.2.1 12 = .ok (.invokespecial 12, 3) := by decide +kernel
theorem d_La_law_15 : decode m_law.2.1 15 = .ok (.astore_n 2, 1) := by decide +kernel
theorem d_La_law_16 : decode m_law.2.1 16 = .ok (.iconst 0, 1) := by decide +kernel
theorem d_La_law_17 : decode m_law.2.1 17 = .ok (.istore_n 3, 1) := by decide +kernel
theorem d_La_law_18 : decode m_law.2.1 18 = .ok (.iload_n 3, 1) := by decide +kernel
theorem d_La_law_19 : decode m_law.2.1 19 = .ok (.aload_n 0, 1) := by decide +kernel
theorem d_La_law_20 : decode m_law.2.1 20 = .ok (.arraylength, 1) := by decide +kernel
theorem d_La_law_21 : decode m_law.2.1 21 = .ok (.bipush 6, 2) := by decide +kernel
theorem d_La_law_23 : decode m_law.2.1 23 = .ok (.isub, 1) := by decide +kernel
theorem d_La_law_24 : decode m_law.2.1 24 = .ok (.if_icmp .gt 1232, 3) := by decide +kernel
theorem d_La_law_27 : decode m_law.2.1 27 = .ok (.aload_n 0, 1) := by decide +kernel
theorem d_La_law_28 : decode m_law.2.1 28 = .ok (.iload_n 3, 1) := by decide +kernel
theorem d_La_law_29 : decode m_law.2.1 29 = .ok (.iaload, 1) := by decide +kernel
theorem d_La_law_30 : decode m_law.2.1 30 = .ok (.bipush 63, 2) := by decide +kernel
theorem d_La_law_32 : decode m_law.2.1 32 = .ok (.iand, 1) := by decide +kernel
theorem d_La_law_33 : decode m_law.2.1 33 = .ok (.tableswitch 1217 0 35 #[159, 182, 195, 208, 221, 254, 287, 320, 353, 376, 409, 432, 455, 468, 491, 514, 557, 580, 603, 616, 659, 692, 705, 758, 801, 814, 827, 840, 873, 916, 969, 1022, 1085, 1138, 1171, 1194], 159) := by decide +kernel
theorem d_La_law_192 : decode m_law.2.1 192 = .ok (.aload_n 1, 1) := by decide +kernel
theorem d_La_law_193 : decode m_law.2.1 193 = .ok (.aload_n 0, 1) := by decide +kernel
theorem d_La_law_194 : decode m_law.2.1 194 = .ok (.iload_n 3, 1) := by decide +kernel
theorem d_La_law_195 : decode m_law.2.1 195 = .ok (.iconst 1, 1) := by decide +kernel
theorem d_La_law_196 : decode m_law.2.1 196 = .ok (.iadd, 1) := by decide +kernel
theorem d_La_law_197 : decode m_law.2.1 197 = .ok (.iaload, 1) := by decide +kernel
theorem d_La_law_198 : decode m_law.2.1 198 = .ok (.invokevirtual 13, 3) := by decide +kernel
theorem d_La_law_201 : decode m_law.2.1 201 = .ok (.aload_n 2, 1) := by decide +kernel
theorem d_La_law_202 : decode m_law.2.1 202 = .ok (.aload_n 0, 1) := by decide +kernel
theorem d_La_law_203 : decode m_law.2.1 203 = .ok (.iload_n 3, 1) := by decide +kernel
theorem d_La_law_204 : decode m_law.2.1 204 = .ok (.iconst 1, 1) := by decide +kernel
theorem d_La_law_205 : decode m_law.2.1 205 = .ok (.iadd, 1) := by decide +kernel
theorem d_La_law_206 : decode m_law.2.1 206 = .ok (.iaload, 1) := by decide +kernel
theorem d_La_law_207 : decode m_law.2.1 207 = .ok (.invokevirtual 17, 3) := by decide +kernel
theorem d_La_law_210 : decode m_law.2.1 210 = .ok (.if_icmp .eq 1040, 3) := by decide +kernel
theorem d_La_law_213 : decode m_law.2.1 213 = .ok (.iconst 0, 1) := by decide +kernel
theorem d_La_law_214 : decode m_law.2.1 214 = .ok (.ireturn, 1) := by decide +kernel
theorem d_La_law_215 : decode m_law.2.1 215 = .ok (.aload_n 1, 1) := by decide +kernel
theorem d_La_law_216 : decode m_law.2.1 216 = .ok (.invokevirtual 18, 3) := by decide +kernel
theorem d_La_law_219 : decode m_law.2.1 219 = .ok (.aload_n 2, 1) := by decide +kernel
theorem d_La_law_220 : decode m_law.2.1 220 = .ok (.invokevirtual 22, 3) := by decide +kernel
theorem d_La_law_223 : decode m_law.2.1 223 = .ok (.if_icmp .eq 1027, 3) := by decide +kernel
theorem d_La_law_226 : decode m_law.2.1 226 = .ok (.iconst 0, 1) := by decide +kernel
theorem d_La_law_227 : decode m_law.2.1 227 = .ok (.ireturn, 1) := by decide +kernel
theorem d_La_law_228 : decode m_law.2.1 228 = .ok (.aload_n 1, 1) := by decide +kernel
theorem d_La_law_229 : decode m_law.2.1 229 = .ok (.invokevirtual 23, 3) := by decide +kernel
theorem d_La_law_232 : decode m_law.2.1 232 = .ok (.aload_n 2, 1) := by decide +kernel
theorem d_La_law_233 : decode m_law.2.1 233 = .ok (.invokevirtual 26, 3) := by decide +kernel
theorem d_La_law_236 : decode m_law.2.1 236 = .ok (.if_icmp .eq 1014, 3) := by decide +kernel
theorem d_La_law_239 : decode m_law.2.1 239 = .ok (.iconst 0, 1) := by decide +kernel
theorem d_La_law_240 : decode m_law.2.1 240 = .ok (.ireturn, 1) := by decide +kernel
theorem d_La_law_241 : decode m_law.2.1 241 = .ok (.aload_n 1, 1) := by decide +kernel
theorem d_La_law_242 : decode m_law.2.1 242 = .ok (.invokevirtual 27, 3) := by decide +kernel
theorem d_La_law_245 : decode m_law.2.1 245 = .ok (.aload_n 2, 1) := by decide +kernel
theorem d_La_law_246 : decode m_law.2.1 246 = .ok (.invokevirtual 30, 3) := by decide +kernel
theorem d_La_law_249 : decode m_law.2.1 249 = .ok (.if_icmp .eq 1001, 3) := by decide +kernel
theorem d_La_law_252 : decode m_law.2.1 252 = .ok (.iconst 0, 1) := by decide +kernel
theorem d_La_law_253 : decode m_law.2.1 253 = .ok (.ireturn, 1) := by decide +kernel
theorem d_La_law_254 : decode m_law.2.1 254 = .ok (.aload_n 1, 1) := by decide +kernel
theorem d_La_law_255 : decode m_law.2.1 255 = .ok (.aload_n 0, 1) := by decide +kernel
theorem d_La_law_256 : decode m_law.2.1 256 = .ok (.iload_n 3, 1) := by decide +kernel
theorem d_La_law_257 : decode m_law.2.1 257 = .ok (.iconst 1, 1) := by decide +kernel
theorem d_La_law_258 : decode m_law.2.1 258 = .ok (.iadd, 1) := by decide +kernel
theorem d_La_law_259 : decode m_law.2.1 259 = .ok (.iaload, 1) := by decide +kernel
theorem d_La_law_260 : decode m_law.2.1 260 = .ok (.aload_n 0, 1) := by decide +kernel
theorem d_La_law_261 : decode m_law.2.1 261 = .ok (.iload_n 3, 1) := by decide +kernel
theorem d_La_law_262 : decode m_law.2.1 262 = .ok (.iconst 2, 1) := by decide +kernel
theorem d_La_law_263 : decode m_law.2.1 263 = .ok (.iadd, 1) := by decide +kernel
theorem d_La_law_264 : decode m_law.2.1 264 = .ok (.iaload, 1) := by decide +kernel
theorem d_La_law_265 : decode m_law.2.1 265 = .ok (.invokevirtual 31, 3) := by decide +kernel
theorem d_La_law_268 : decode m_law.2.1 268 = .ok (.aload_n 2, 1) := by decide +kernel
theorem d_La_law_269 : decode m_law.2.1 269 = .ok (.aload_n 0, 1) := by decide +kernel
theorem d_La_law_270 : decode m_law.2.1 270 = .ok (.iload_n 3, 1) := by decide +kernel
theorem d_La_law_271 : decode m_law.2.1 271 = .ok (.iconst 1, 1) := by decide +kernel
theorem d_La_law_272 : decode m_law.2.1 272 = .ok (.iadd, 1) := by decide +kernel
theorem d_La_law_273 : decode m_law.2.1 273 = .ok (.iaload, 1) := by decide +kernel
theorem d_La_law_274 : decode m_law.2.1 274 = .ok (.aload_n 0, 1) := by decide +kernel
theorem d_La_law_275 : decode m_law.2.1 275 = .ok (.iload_n 3, 1) := by decide +kernel
theorem d_La_law_276 : decode m_law.2.1 276 = .ok (.iconst 2, 1) := by decide +kernel
theorem d_La_law_277 : decode m_law.2.1 277 = .ok (.iadd, 1) := by decide +kernel
theorem d_La_law_278 : decode m_law.2.1 278 = .ok (.iaload, 1) := by decide +kernel
theorem d_La_law_279 : decode m_law.2.1 279 = .ok (.invokevirtual 35, 3) := by decide +kernel
theorem d_La_law_282 : decode m_law.2.1 282 = .ok (.if_icmp .eq 968, 3) := by decide +kernel
theorem d_La_law_285 : decode m_law.2.1 285 = .ok (.iconst 0, 1) := by decide +kernel
theorem d_La_law_286 : decode m_law.2.1 286 = .ok (.ireturn, 1) := by decide +kernel
theorem d_La_law_287 : decode m_law.2.1 287 = .ok (.aload_n 1, 1) := by decide +kernel
theorem d_La_law_288 : decode m_law.2.1 288 = .ok (.aload_n 0, 1) := by decide +kernel
theorem d_La_law_289 : decode m_law.2.1 289 = .ok (.iload_n 3, 1) := by decide +kernel
theorem d_La_law_290 : decode m_law.2.1 290 = .ok (.iconst 1, 1) := by decide +kernel
theorem d_La_law_291 : decode m_law.2.1 291 = .ok (.iadd, 1) := by decide +kernel
theorem d_La_law_292 : decode m_law.2.1 292 = .ok (.iaload, 1) := by decide +kernel
theorem d_La_law_293 : decode m_law.2.1 293 = .ok (.aload_n 0, 1) := by decide +kernel
theorem d_La_law_294 : decode m_law.2.1 294 = .ok (.iload_n 3, 1) := by decide +kernel
theorem d_La_law_295 : decode m_law.2.1 295 = .ok (.iconst 2, 1) := by decide +kernel
theorem d_La_law_296 : decode m_law.2.1 296 = .ok (.iadd, 1) := by decide +kernel
theorem d_La_law_297 : decode m_law.2.1 297 = .ok (.iaload, 1) := by decide +kernel
theorem d_La_law_298 : decode m_law.2.1 298 = .ok (.invokevirtual 36, 3) := by decide +kernel
theorem d_La_law_301 : decode m_law.2.1 301 = .ok (.aload_n 2, 1) := by decide +kernel
theorem d_La_law_302 : decode m_law.2.1 302 = .ok (.aload_n 0, 1) := by decide +kernel
theorem d_La_law_303 : decode m_law.2.1 303 = .ok (.iload_n 3, 1) := by decide +kernel
theorem d_La_law_304 : decode m_law.2.1 304 = .ok (.iconst 1, 1) := by decide +kernel
theorem d_La_law_305 : decode m_law.2.1 305 = .ok (.iadd, 1) := by decide +kernel
theorem d_La_law_306 : decode m_law.2.1 306 = .ok (.iaload, 1) := by decide +kernel
theorem d_La_law_307 : decode m_law.2.1 307 = .ok (.aload_n 0, 1) := by decide +kernel
theorem d_La_law_308 : decode m_law.2.1 308 = .ok (.iload_n 3, 1) := by decide +kernel
theorem d_La_law_309 : decode m_law.2.1 309 = .ok (.iconst 2, 1) := by decide +kernel
theorem d_La_law_310 : decode m_law.2.1 310 = .ok (.iadd, 1) := by decide +kernel
theorem d_La_law_311 : decode m_law.2.1 311 = .ok (.iaload, 1) := by decide +kernel
theorem d_La_law_312 : decode m_law.2.1 312 = .ok (.invokevirtual 39, 3) := by decide +kernel
theorem d_La_law_315 : decode m_law.2.1 315 = .ok (.if_icmp .eq 935, 3) := by decide +kernel
theorem d_La_law_318 : decode m_law.2.1 318 = .ok (.iconst 0, 1) := by decide +kernel
theorem d_La_law_319 : decode m_law.2.1 319 = .ok (.ireturn, 1) := by decide +kernel
theorem d_La_law_320 : decode m_law.2.1 320 = .ok (.aload_n 1, 1) := by decide +kernel
theorem d_La_law_321 : decode m_law.2.1 321 = .ok (.aload_n 0, 1) := by decide +kernel
theorem d_La_law_322 : decode m_law.2.1 322 = .ok (.iload_n 3, 1) := by decide +kernel
theorem d_La_law_323 : decode m_law.2.1 323 = .ok (.iconst 1, 1) := by decide +kernel
theorem d_La_law_324 : decode m_law.2.1 324 = .ok (.iadd, 1) := by decide +kernel
theorem d_La_law_325 : decode m_law.2.1 325 = .ok (.iaload, 1) := by decide +kernel
theorem d_La_law_326 : decode m_law.2.1 326 = .ok (.aload_n 0, 1) := by decide +kernel
theorem d_La_law_327 : decode m_law.2.1 327 = .ok (.iload_n 3, 1) := by decide +kernel
theorem d_La_law_328 : decode m_law.2.1 328 = .ok (.iconst 2, 1) := by decide +kernel
theorem d_La_law_329 : decode m_law.2.1 329 = .ok (.iadd, 1) := by decide +kernel
theorem d_La_law_330 : decode m_law.2.1 330 = .ok (.iaload, 1) := by decide +kernel
theorem d_La_law_331 : decode m_law.2.1 331 = .ok (.invokevirtual 40, 3) := by decide +kernel
theorem d_La_law_334 : decode m_law.2.1 334 = .ok (.aload_n 2, 1) := by decide +kernel
theorem d_La_law_335 : decode m_law.2.1 335 = .ok (.aload_n 0, 1) := by decide +kernel
theorem d_La_law_336 : decode m_law.2.1 336 = .ok (.iload_n 3, 1) := by decide +kernel
theorem d_La_law_337 : decode m_law.2.1 337 = .ok (.iconst 1, 1) := by decide +kernel
theorem d_La_law_338 : decode m_law.2.1 338 = .ok (.iadd, 1) := by decide +kernel
theorem d_La_law_339 : decode m_law.2.1 339 = .ok (.iaload, 1) := by decide +kernel
theorem d_La_law_340 : decode m_law.2.1 340 = .ok (.aload_n 0, 1) := by decide +kernel
theorem d_La_law_341 : decode m_law.2.1 341 = .ok (.iload_n 3, 1) := by decide +kernel
theorem d_La_law_342 : decode m_law.2.1 342 = .ok (.iconst 2, 1) := by decide +kernel
theorem d_La_law_343 : decode m_law.2.1 343 = .ok (.iadd, 1) := by decide +kernel
theorem d_La_law_344 : decode m_law.2.1 344 = .ok (.iaload, 1) := by decide +kernel
theorem d_La_law_345 : decode m_law.2.1 345 = .ok (.invokevirtual 43, 3) := by decide +kernel
theorem d_La_law_348 : decode m_law.2.1 348 = .ok (.if_icmp .eq 902, 3) := by decide +kernel
theorem d_La_law_351 : decode m_law.2.1 351 = .ok (.iconst 0, 1) := by decide +kernel
theorem d_La_law_352 : decode m_law.2.1 352 = .ok (.ireturn, 1) := by decide +kernel
theorem d_La_law_353 : decode m_law.2.1 353 = .ok (.aload_n 1, 1) := by decide +kernel
theorem d_La_law_354 : decode m_law.2.1 354 = .ok (.aload_n 0, 1) := by decide +kernel
theorem d_La_law_355 : decode m_law.2.1 355 = .ok (.iload_n 3, 1) := by decide +kernel
theorem d_La_law_356 : decode m_law.2.1 356 = .ok (.iconst 1, 1) := by decide +kernel
theorem d_La_law_357 : decode m_law.2.1 357 = .ok (.iadd, 1) := by decide +kernel
theorem d_La_law_358 : decode m_law.2.1 358 = .ok (.iaload, 1) := by decide +kernel
theorem d_La_law_359 : decode m_law.2.1 359 = .ok (.aload_n 0, 1) := by decide +kernel
theorem d_La_law_360 : decode m_law.2.1 360 = .ok (.iload_n 3, 1) := by decide +kernel
theorem d_La_law_361 : decode m_law.2.1 361 = .ok (.iconst 2, 1) := by decide +kernel
theorem d_La_law_362 : decode m_law.2.1 362 = .ok (.iadd, 1) := by decide +kernel
theorem d_La_law_363 : decode m_law.2.1 363 = .ok (.iaload, 1) := by decide +kernel
theorem d_La_law_364 : decode m_law.2.1 364 = .ok (.invokevirtual 44, 3) := by decide +kernel
theorem d_La_law_367 : decode m_law.2.1 367 = .ok (.aload_n 2, 1) := by decide +kernel
theorem d_La_law_368 : decode m_law.2.1 368 = .ok (.aload_n 0, 1) := by decide +kernel
theorem d_La_law_369 : decode m_law.2.1 369 = .ok (.iload_n 3, 1) := by decide +kernel
theorem d_La_law_370 : decode m_law.2.1 370 = .ok (.iconst 1, 1) := by decide +kernel
theorem d_La_law_371 : decode m_law.2.1 371 = .ok (.iadd, 1) := by decide +kernel
theorem d_La_law_372 : decode m_law.2.1 372 = .ok (.iaload, 1) := by decide +kernel
theorem d_La_law_373 : decode m_law.2.1 373 = .ok (.aload_n 0, 1) := by decide +kernel
theorem d_La_law_374 : decode m_law.2.1 374 = .ok (.iload_n 3, 1) := by decide +kernel
theorem d_La_law_375 : decode m_law.2.1 375 = .ok (.iconst 2, 1) := by decide +kernel
theorem d_La_law_376 : decode m_law.2.1 376 = .ok (.iadd, 1) := by decide +kernel
theorem d_La_law_377 : decode m_law.2.1 377 = .ok (.iaload, 1) := by decide +kernel
theorem d_La_law_378 : decode m_law.2.1 378 = .ok (.invokevirtual 47, 3) := by decide +kernel
theorem d_La_law_381 : decode m_law.2.1 381 = .ok (.if_icmp .eq 869, 3) := by decide +kernel
theorem d_La_law_384 : decode m_law.2.1 384 = .ok (.iconst 0, 1) := by decide +kernel
theorem d_La_law_385 : decode m_law.2.1 385 = .ok (.ireturn, 1) := by decide +kernel
theorem d_La_law_386 : decode m_law.2.1 386 = .ok (.aload_n 1, 1) := by decide +kernel
theorem d_La_law_387 : decode m_law.2.1 387 = .ok (.aload_n 0, 1) := by decide +kernel
theorem d_La_law_388 : decode m_law.2.1 388 = .ok (.iload_n 3, 1) := by decide +kernel
theorem d_La_law_389 : decode m_law.2.1 389 = .ok (.iconst 1, 1) := by decide +kernel
theorem d_La_law_390 : decode m_law.2.1 390 = .ok (.iadd, 1) := by decide +kernel
theorem d_La_law_391 : decode m_law.2.1 391 = .ok (.iaload, 1) := by decide +kernel
theorem d_La_law_392 : decode m_law.2.1 392 = .ok (.invokevirtual 48, 3) := by decide +kernel
theorem d_La_law_395 : decode m_law.2.1 395 = .ok (.aload_n 2, 1) := by decide +kernel
theorem d_La_law_396 : decode m_law.2.1 396 = .ok (.aload_n 0, 1) := by decide +kernel
theorem d_La_law_397 : decode m_law.2.1 397 = .ok (.iload_n 3, 1) := by decide +kernel
theorem d_La_law_398 : decode m_law.2.1 398 = .ok (.iconst 1, 1) := by decide +kernel
theorem d_La_law_399 : decode m_law.2.1 399 = .ok (.iadd, 1) := by decide +kernel
theorem d_La_law_400 : decode m_law.2.1 400 = .ok (.iaload, 1) := by decide +kernel
theorem d_La_law_401 : decode m_law.2.1 401 = .ok (.invokevirtual 51, 3) := by decide +kernel
theorem d_La_law_404 : decode m_law.2.1 404 = .ok (.if_icmp .eq 846, 3) := by decide +kernel
theorem d_La_law_407 : decode m_law.2.1 407 = .ok (.iconst 0, 1) := by decide +kernel
theorem d_La_law_408 : decode m_law.2.1 408 = .ok (.ireturn, 1) := by decide +kernel
theorem d_La_law_409 : decode m_law.2.1 409 = .ok (.aload_n 1, 1) := by decide +kernel
theorem d_La_law_410 : decode m_law.2.1 410 = .ok (.aload_n 0, 1) := by decide +kernel
theorem d_La_law_411 : decode m_law.2.1 411 = .ok (.iload_n 3, 1) := by decide +kernel
theorem d_La_law_412 : decode m_law.2.1 412 = .ok (.iconst 1, 1) := by decide +kernel
theorem d_La_law_413 : decode m_law.2.1 413 = .ok (.iadd, 1) := by decide +kernel
theorem d_La_law_414 : decode m_law.2.1 414 = .ok (.iaload, 1) := by decide +kernel
theorem d_La_law_415 : decode m_law.2.1 415 = .ok (.aload_n 0, 1) := by decide +kernel
theorem d_La_law_416 : decode m_law.2.1 416 = .ok (.iload_n 3, 1) := by decide +kernel
theorem d_La_law_417 : decode m_law.2.1 417 = .ok (.iconst 2, 1) := by decide +kernel
theorem d_La_law_418 : decode m_law.2.1 418 = .ok (.iadd, 1) := by decide +kernel
theorem d_La_law_419 : decode m_law.2.1 419 = .ok (.iaload, 1) := by decide +kernel
theorem d_La_law_420 : decode m_law.2.1 420 = .ok (.invokevirtual 52, 3) := by decide +kernel
theorem d_La_law_423 : decode m_law.2.1 423 = .ok (.aload_n 2, 1) := by decide +kernel
theorem d_La_law_424 : decode m_law.2.1 424 = .ok (.aload_n 0, 1) := by decide +kernel
theorem d_La_law_425 : decode m_law.2.1 425 = .ok (.iload_n 3, 1) := by decide +kernel
theorem d_La_law_426 : decode m_law.2.1 426 = .ok (.iconst 1, 1) := by decide +kernel
theorem d_La_law_427 : decode m_law.2.1 427 = .ok (.iadd, 1) := by decide +kernel
theorem d_La_law_428 : decode m_law.2.1 428 = .ok (.iaload, 1) := by decide +kernel
theorem d_La_law_429 : decode m_law.2.1 429 = .ok (.aload_n 0, 1) := by decide +kernel
theorem d_La_law_430 : decode m_law.2.1 430 = .ok (.iload_n 3, 1) := by decide +kernel
theorem d_La_law_431 : decode m_law.2.1 431 = .ok (.iconst 2, 1) := by decide +kernel
theorem d_La_law_432 : decode m_law.2.1 432 = .ok (.iadd, 1) := by decide +kernel
theorem d_La_law_433 : decode m_law.2.1 433 = .ok (.iaload, 1) := by decide +kernel
theorem d_La_law_434 : decode m_law.2.1 434 = .ok (.invokevirtual 55, 3) := by decide +kernel
theorem d_La_law_437 : decode m_law.2.1 437 = .ok (.if_icmp .eq 813, 3) := by decide +kernel
theorem d_La_law_440 : decode m_law.2.1 440 = .ok (.iconst 0, 1) := by decide +kernel
theorem d_La_law_441 : decode m_law.2.1 441 = .ok (.ireturn, 1) := by decide +kernel
theorem d_La_law_442 : decode m_law.2.1 442 = .ok (.aload_n 1, 1) := by decide +kernel
theorem d_La_law_443 : decode m_law.2.1 443 = .ok (.aload_n 0, 1) := by decide +kernel
theorem d_La_law_444 : decode m_law.2.1 444 = .ok (.iload_n 3, 1) := by decide +kernel
theorem d_La_law_445 : decode m_law.2.1 445 = .ok (.iconst 1, 1) := by decide +kernel
theorem d_La_law_446 : decode m_law.2.1 446 = .ok (.iadd, 1) := by decide +kernel
