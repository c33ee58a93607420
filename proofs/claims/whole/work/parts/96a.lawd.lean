/-! the law's instructions (wip/gen/gen_law96.py) -/
theorem d197_16 : ins 197 16 = some (.iconst 0) := by decide +kernel
theorem d197_17 : ins 197 17 = some (.istore_n 3) := by decide +kernel
theorem d197_18 : ins 197 18 = some (.iload_n 3) := by decide +kernel
theorem d197_19 : ins 197 19 = some (.aload_n 0) := by decide +kernel
theorem d197_20 : ins 197 20 = some (.arraylength) := by decide +kernel
theorem d197_21 : ins 197 21 = some (.iconst 5) := by decide +kernel
theorem d197_22 : ins 197 22 = some (.isub) := by decide +kernel
theorem d197_23 : ins 197 23 = some (.if_icmp .gt 1025) := by decide +kernel
theorem d197_26 : ins 197 26 = some (.aload_n 0) := by decide +kernel
theorem d197_27 : ins 197 27 = some (.iload_n 3) := by decide +kernel
theorem d197_28 : ins 197 28 = some (.iaload) := by decide +kernel
theorem d197_29 : ins 197 29 = some (.bipush 31) := by decide +kernel
theorem d197_31 : ins 197 31 = some (.iand) := by decide +kernel
theorem d197_32 : ins 197 32 = some (.tableswitch 1010 0 31 #[144, 207, 220, 233, 246, 269, 302, 345, 378, 401, 434, 457, 480, 503, 526, 549, 572, 605, 638, 661, 674, 707, 750, 803, 816, 839, 882, 895, 908, 941, 964, 987]) := by decide +kernel
theorem d197_176 : ins 197 176 = some (.aload_n 1) := by decide +kernel
theorem d197_177 : ins 197 177 = some (.aload_n 0) := by decide +kernel
theorem d197_178 : ins 197 178 = some (.iload_n 3) := by decide +kernel
theorem d197_179 : ins 197 179 = some (.iconst 1) := by decide +kernel
theorem d197_180 : ins 197 180 = some (.iadd) := by decide +kernel
theorem d197_181 : ins 197 181 = some (.iaload) := by decide +kernel
theorem d197_182 : ins 197 182 = some (.i2l) := by decide +kernel
theorem d197_183 : ins 197 183 = some (.bipush 32) := by decide +kernel
theorem d197_185 : ins 197 185 = some (.lshl) := by decide +kernel
theorem d197_186 : ins 197 186 = some (.aload_n 0) := by decide +kernel
theorem d197_187 : ins 197 187 = some (.iload_n 3) := by decide +kernel
theorem d197_188 : ins 197 188 = some (.iconst 2) := by decide +kernel
theorem d197_189 : ins 197 189 = some (.iadd) := by decide +kernel
theorem d197_190 : ins 197 190 = some (.iaload) := by decide +kernel
theorem d197_191 : ins 197 191 = some (.i2l) := by decide +kernel
theorem d197_192 : ins 197 192 = some (.ldc2_w 13) := by decide +kernel
theorem d197_195 : ins 197 195 = some (.land) := by decide +kernel
theorem d197_196 : ins 197 196 = some (.lor) := by decide +kernel
theorem d197_197 : ins 197 197 = some (.aload_n 0) := by decide +kernel
theorem d197_198 : ins 197 198 = some (.iload_n 3) := by decide +kernel
theorem d197_199 : ins 197 199 = some (.iconst 3) := by decide +kernel
theorem d197_200 : ins 197 200 = some (.iadd) := by decide +kernel
theorem d197_201 : ins 197 201 = some (.iaload) := by decide +kernel
theorem d197_202 : ins 197 202 = some (.invokevirtual 15) := by decide +kernel
theorem d197_205 : ins 197 205 = some (.aload_n 2) := by decide +kernel
theorem d197_206 : ins 197 206 = some (.aload_n 0) := by decide +kernel
theorem d197_207 : ins 197 207 = some (.iload_n 3) := by decide +kernel
theorem d197_208 : ins 197 208 = some (.iconst 1) := by decide +kernel
theorem d197_209 : ins 197 209 = some (.iadd) := by decide +kernel
theorem d197_210 : ins 197 210 = some (.iaload) := by decide +kernel
theorem d197_211 : ins 197 211 = some (.i2l) := by decide +kernel
theorem d197_212 : ins 197 212 = some (.bipush 32) := by decide +kernel
theorem d197_214 : ins 197 214 = some (.lshl) := by decide +kernel
theorem d197_215 : ins 197 215 = some (.aload_n 0) := by decide +kernel
theorem d197_216 : ins 197 216 = some (.iload_n 3) := by decide +kernel
theorem d197_217 : ins 197 217 = some (.iconst 2) := by decide +kernel
theorem d197_218 : ins 197 218 = some (.iadd) := by decide +kernel
theorem d197_219 : ins 197 219 = some (.iaload) := by decide +kernel
theorem d197_220 : ins 197 220 = some (.i2l) := by decide +kernel
theorem d197_221 : ins 197 221 = some (.ldc2_w 13) := by decide +kernel
theorem d197_224 : ins 197 224 = some (.land) := by decide +kernel
theorem d197_225 : ins 197 225 = some (.lor) := by decide +kernel
theorem d197_226 : ins 197 226 = some (.aload_n 0) := by decide +kernel
theorem d197_227 : ins 197 227 = some (.iload_n 3) := by decide +kernel
theorem d197_228 : ins 197 228 = some (.iconst 3) := by decide +kernel
theorem d197_229 : ins 197 229 = some (.iadd) := by decide +kernel
theorem d197_230 : ins 197 230 = some (.iaload) := by decide +kernel
theorem d197_231 : ins 197 231 = some (.invokevirtual 19) := by decide +kernel
theorem d197_234 : ins 197 234 = some (.if_icmp .eq 808) := by decide +kernel
theorem d197_237 : ins 197 237 = some (.iconst 0) := by decide +kernel
theorem d197_238 : ins 197 238 = some (.ireturn) := by decide +kernel
theorem d197_239 : ins 197 239 = some (.aload_n 1) := by decide +kernel
theorem d197_240 : ins 197 240 = some (.invokevirtual 20) := by decide +kernel
theorem d197_243 : ins 197 243 = some (.aload_n 2) := by decide +kernel
theorem d197_244 : ins 197 244 = some (.invokevirtual 24) := by decide +kernel
theorem d197_247 : ins 197 247 = some (.if_icmp .eq 795) := by decide +kernel
theorem d197_250 : ins 197 250 = some (.iconst 0) := by decide +kernel
theorem d197_251 : ins 197 251 = some (.ireturn) := by decide +kernel
theorem d197_252 : ins 197 252 = some (.aload_n 1) := by decide +kernel
theorem d197_253 : ins 197 253 = some (.invokevirtual 25) := by decide +kernel
theorem d197_256 : ins 197 256 = some (.aload_n 2) := by decide +kernel
theorem d197_257 : ins 197 257 = some (.invokevirtual 28) := by decide +kernel
theorem d197_260 : ins 197 260 = some (.if_icmp .eq 782) := by decide +kernel
theorem d197_263 : ins 197 263 = some (.iconst 0) := by decide +kernel
theorem d197_264 : ins 197 264 = some (.ireturn) := by decide +kernel
theorem d197_265 : ins 197 265 = some (.aload_n 1) := by decide +kernel
theorem d197_266 : ins 197 266 = some (.invokevirtual 29) := by decide +kernel
theorem d197_269 : ins 197 269 = some (.aload_n 2) := by decide +kernel
theorem d197_270 : ins 197 270 = some (.invokevirtual 32) := by decide +kernel
theorem d197_273 : ins 197 273 = some (.if_icmp .eq 769) := by decide +kernel
theorem d197_276 : ins 197 276 = some (.iconst 0) := by decide +kernel
theorem d197_277 : ins 197 277 = some (.ireturn) := by decide +kernel
theorem d197_278 : ins 197 278 = some (.aload_n 1) := by decide +kernel
theorem d197_279 : ins 197 279 = some (.aload_n 0) := by decide +kernel
theorem d197_280 : ins 197 280 = some (.iload_n 3) := by decide +kernel
theorem d197_281 : ins 197 281 = some (.iconst 1) := by decide +kernel
theorem d197_282 : ins 197 282 = some (.iadd) := by decide +kernel
theorem d197_283 : ins 197 283 = some (.iaload) := by decide +kernel
theorem d197_284 : ins 197 284 = some (.invokevirtual 33) := by decide +kernel
theorem d197_287 : ins 197 287 = some (.aload_n 2) := by decide +kernel
theorem d197_288 : ins 197 288 = some (.aload_n 0) := by decide +kernel
theorem d197_289 : ins 197 289 = some (.iload_n 3) := by decide +kernel
theorem d197_290 : ins 197 290 = some (.iconst 1) := by decide +kernel
theorem d197_291 : ins 197 291 = some (.iadd) := by decide +kernel
theorem d197_292 : ins 197 292 = some (.iaload) := by decide +kernel
theorem d197_293 : ins 197 293 = some (.invokevirtual 37) := by decide +kernel
theorem d197_296 : ins 197 296 = some (.if_icmp .eq 746) := by decide +kernel
theorem d197_299 : ins 197 299 = some (.iconst 0) := by decide +kernel
theorem d197_300 : ins 197 300 = some (.ireturn) := by decide +kernel
theorem d197_301 : ins 197 301 = some (.aload_n 1) := by decide +kernel
theorem d197_302 : ins 197 302 = some (.aload_n 0) := by decide +kernel
theorem d197_303 : ins 197 303 = some (.iload_n 3) := by decide +kernel
theorem d197_304 : ins 197 304 = some (.iconst 1) := by decide +kernel
theorem d197_305 : ins 197 305 = some (.iadd) := by decide +kernel
theorem d197_306 : ins 197 306 = some (.iaload) := by decide +kernel
theorem d197_307 : ins 197 307 = some (.aload_n 0) := by decide +kernel
theorem d197_308 : ins 197 308 = some (.iload_n 3) := by decide +kernel
theorem d197_309 : ins 197 309 = some (.iconst 2) := by decide +kernel
theorem d197_310 : ins 197 310 = some (.iadd) := by decide +kernel
theorem d197_311 : ins 197 311 = some (.iaload) := by decide +kernel
theorem d197_312 : ins 197 312 = some (.invokevirtual 38) := by decide +kernel
theorem d197_315 : ins 197 315 = some (.aload_n 2) := by decide +kernel
theorem d197_316 : ins 197 316 = some (.aload_n 0) := by decide +kernel
theorem d197_317 : ins 197 317 = some (.iload_n 3) := by decide +kernel
theorem d197_318 : ins 197 318 = some (.iconst 1) := by decide +kernel
theorem d197_319 : ins 197 319 = some (.iadd) := by decide +kernel
theorem d197_320 : ins 197 320 = some (.iaload) := by decide +kernel
theorem d197_321 : ins 197 321 = some (.aload_n 0) := by decide +kernel
theorem d197_322 : ins 197 322 = some (.iload_n 3) := by decide +kernel
theorem d197_323 : ins 197 323 = some (.iconst 2) := by decide +kernel
theorem d197_324 : ins 197 324 = some (.iadd) := by decide +kernel
theorem d197_325 : ins 197 325 = some (.iaload) := by decide +kernel
theorem d197_326 : ins 197 326 = some (.invokevirtual 42) := by decide +kernel
theorem d197_329 : ins 197 329 = some (.if_icmp .eq 713) := by decide +kernel
theorem d197_332 : ins 197 332 = some (.iconst 0) := by decide +kernel
theorem d197_333 : ins 197 333 = some (.ireturn) := by decide +kernel
theorem d197_334 : ins 197 334 = some (.aload_n 1) := by decide +kernel
theorem d197_335 : ins 197 335 = some (.aload_n 0) := by decide +kernel
theorem d197_336 : ins 197 336 = some (.iload_n 3) := by decide +kernel
theorem d197_337 : ins 197 337 = some (.iconst 1) := by decide +kernel
theorem d197_338 : ins 197 338 = some (.iadd) := by decide +kernel
theorem d197_339 : ins 197 339 = some (.iaload) := by decide +kernel
theorem d197_340 : ins 197 340 = some (.aload_n 0) := by decide +kernel
theorem d197_341 : ins 197 341 = some (.iload_n 3) := by decide +kernel
theorem d197_342 : ins 197 342 = some (.iconst 2) := by decide +kernel
theorem d197_343 : ins 197 343 = some (.iadd) := by decide +kernel
theorem d197_344 : ins 197 344 = some (.iaload) := by decide +kernel
theorem d197_345 : ins 197 345 = some (.aload_n 0) := by decide +kernel
theorem d197_346 : ins 197 346 = some (.iload_n 3) := by decide +kernel
theorem d197_347 : ins 197 347 = some (.iconst 3) := by decide +kernel
theorem d197_348 : ins 197 348 = some (.iadd) := by decide +kernel
theorem d197_349 : ins 197 349 = some (.iaload) := by decide +kernel
theorem d197_350 : ins 197 350 = some (.invokevirtual 43) := by decide +kernel
theorem d197_353 : ins 197 353 = some (.aload_n 2) := by decide +kernel
theorem d197_354 : ins 197 354 = some (.aload_n 0) := by decide +kernel
theorem d197_355 : ins 197 355 = some (.iload_n 3) := by decide +kernel
theorem d197_356 : ins 197 356 = some (.iconst 1) := by decide +kernel
theorem d197_357 : ins 197 357 = some (.iadd) := by decide +kernel
theorem d197_358 : ins 197 358 = some (.iaload) := by decide +kernel
theorem d197_359 : ins 197 359 = some (.aload_n 0) := by decide +kernel
theorem d197_360 : ins 197 360 = some (.iload_n 3) := by decide +kernel
theorem d197_361 : ins 197 361 = some (.iconst 2) := by decide +kernel
theorem d197_362 : ins 197 362 = some (.iadd) := by decide +kernel
theorem d197_363 : ins 197 363 = some (.iaload) := by decide +kernel
theorem d197_364 : ins 197 364 = some (.aload_n 0) := by decide +kernel
theorem d197_365 : ins 197 365 = some (.iload_n 3) := by decide +kernel
theorem d197_366 : ins 197 366 = some (.iconst 3) := by decide +kernel
theorem d197_367 : ins 197 367 = some (.iadd) := by decide +kernel
theorem d197_368 : ins 197 368 = some (.iaload) := by decide +kernel
theorem d197_369 : ins 197 369 = some (.invokevirtual 47) := by decide +kernel
theorem d197_372 : ins 197 372 = some (.if_icmp .eq 670) := by decide +kernel
theorem d197_375 : ins 197 375 = some (.iconst 0) := by decide +kernel
theorem d197_376 : ins 197 376 = some (.ireturn) := by decide +kernel
theorem d197_377 : ins 197 377 = some (.aload_n 1) := by decide +kernel
theorem d197_378 : ins 197 378 = some (.aload_n 0) := by decide +kernel
theorem d197_379 : ins 197 379 = some (.iload_n 3) := by decide +kernel
theorem d197_380 : ins 197 380 = some (.iconst 1) := by decide +kernel
theorem d197_381 : ins 197 381 = some (.iadd) := by decide +kernel
theorem d197_382 : ins 197 382 = some (.iaload) := by decide +kernel
theorem d197_383 : ins 197 383 = some (.aload_n 0) := by decide +kernel
theorem d197_384 : ins 197 384 = some (.iload_n 3) := by decide +kernel
theorem d197_385 : ins 197 385 = some (.iconst 2) := by decide +kernel
theorem d197_386 : ins 197 386 = some (.iadd) := by decide +kernel
theorem d197_387 : ins 197 387 = some (.iaload) := by decide +kernel
theorem d197_388 : ins 197 388 = some (.invokevirtual 48) := by decide +kernel
theorem d197_391 : ins 197 391 = some (.aload_n 2) := by decide +kernel
theorem d197_392 : ins 197 392 = some (.aload_n 0) := by decide +kernel
theorem d197_393 : ins 197 393 = some (.iload_n 3) := by decide +kernel
theorem d197_394 : ins 197 394 = some (.iconst 1) := by decide +kernel
theorem d197_395 : ins 197 395 = some (.iadd) := by decide +kernel
theorem d197_396 : ins 197 396 = some (.iaload) := by decide +kernel
theorem d197_397 : ins 197 397 = some (.aload_n 0) := by decide +kernel
theorem d197_398 : ins 197 398 = some (.iload_n 3) := by decide +kernel
theorem d197_399 : ins 197 399 = some (.iconst 2) := by decide +kernel
theorem d197_400 : ins 197 400 = some (.iadd) := by decide +kernel
theorem d197_401 : ins 197 401 = some (.iaload) := by decide +kernel
theorem d197_402 : ins 197 402 = some (.invokevirtual 51) := by decide +kernel
theorem d197_405 : ins 197 405 = some (.if_icmp .eq 637) := by decide +kernel
theorem d197_408 : ins 197 408 = some (.iconst 0) := by decide +kernel
theorem d197_409 : ins 197 409 = some (.ireturn) := by decide +kernel
theorem d197_410 : ins 197 410 = some (.aload_n 1) := by decide +kernel
theorem d197_411 : ins 197 411 = some (.aload_n 0) := by decide +kernel
theorem d197_412 : ins 197 412 = some (.iload_n 3) := by decide +kernel
theorem d197_413 : ins 197 413 = some (.iconst 1) := by decide +kernel
theorem d197_414 : ins 197 414 = some (.iadd) := by decide +kernel
theorem d197_415 : ins 197 415 = some (.iaload) := by decide +kernel
theorem d197_416 : ins 197 416 = some (.invokevirtual 52) := by decide +kernel
theorem d197_419 : ins 197 419 = some (.aload_n 2) := by decide +kernel
theorem d197_420 : ins 197 420 = some (.aload_n 0) := by decide +kernel
theorem d197_421 : ins 197 421 = some (.iload_n 3) := by decide +kernel
theorem d197_422 : ins 197 422 = some (.iconst 1) := by decide +kernel
theorem d197_423 : ins 197 423 = some (.iadd) := by decide +kernel
theorem d197_424 : ins 197 424 = some (.iaload) := by decide +kernel
theorem d197_425 : ins 197 425 = some (.invokevirtual 55) := by decide +kernel
theorem d197_428 : ins 197 428 = some (.if_icmp .eq 614) := by decide +kernel
theorem d197_431 : ins 197 431 = some (.iconst 0) := by decide +kernel
theorem d197_432 : ins 197 432 = some (.ireturn) := by decide +kernel
theorem d197_433 : ins 197 433 = some (.aload_n 1) := by decide +kernel
theorem d197_434 : ins 197 434 = some (.aload_n 0) := by decide +kernel
theorem d197_435 : ins 197 435 = some (.iload_n 3) := by decide +kernel
theorem d197_436 : ins 197 436 = some (.iconst 1) := by decide +kernel
theorem d197_437 : ins 197 437 = some (.iadd) := by decide +kernel
theorem d197_438 : ins 197 438 = some (.iaload) := by decide +kernel
theorem d197_439 : ins 197 439 = some (.aload_n 0) := by decide +kernel
theorem d197_440 : ins 197 440 = some (.iload_n 3) := by decide +kernel
theorem d197_441 : ins 197 441 = some (.iconst 2) := by decide +kernel
theorem d197_442 : ins 197 442 = some (.iadd) := by decide +kernel
theorem d197_443 : ins 197 443 = some (.iaload) := by decide +kernel
theorem d197_444 : ins 197 444 = some (.invokevirtual 56) := by decide +kernel
theorem d197_447 : ins 197 447 = some (.aload_n 2) := by decide +kernel
theorem d197_448 : ins 197 448 = some (.aload_n 0) := by decide +kernel
theorem d197_449 : ins 197 449 = some (.iload_n 3) := by decide +kernel
theorem d197_450 : ins 197 450 = some (.iconst 1) := by decide +kernel
theorem d197_451 : ins 197 451 = some (.iadd) := by decide +kernel
theorem d197_452 : ins 197 452 = some (.iaload) := by decide +kernel
