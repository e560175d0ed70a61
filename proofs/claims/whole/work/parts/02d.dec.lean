theorem dL_law_0 : decode (hr_cd 194) 0 = .ok (.new 7, 3) := by decide +kernel
theorem dL_law_3 : decode (hr_cd 194) 3 = .ok (.dup, 1) := by decide +kernel
theorem dL_law_4 : decode (hr_cd 194) 4 = .ok (.invokespecial 9, 3) := by decide +kernel
theorem dL_law_7 : decode (hr_cd 194) 7 = .ok (.astore_n 1, 1) := by decide +kernel
theorem dL_law_8 : decode (hr_cd 194) 8 = .ok (.new 10, 3) := by decide +kernel
theorem dL_law_11 : decode (hr_cd 194) 11 = .ok (.dup, 1) := by decide +kernel
theorem dL_law_12 : decode (hr_cd 194) 12 = .ok (.invokespecial 12, 3) := by decide +kernel
theorem dL_law_15 : decode (hr_cd 194) 15 = .ok (.astore_n 2, 1) := by decide +kernel
theorem dL_law_16 : decode (hr_cd 194) 16 = .ok (.iconst 0, 1) := by decide +kernel
theorem dL_law_17 : decode (hr_cd 194) 17 = .ok (.istore_n 3, 1) := by decide +kernel
theorem dL_law_18 : decode (hr_cd 194) 18 = .ok (.iload_n 3, 1) := by decide +kernel
theorem dL_law_19 : decode (hr_cd 194) 19 = .ok (.aload_n 0, 1) := by decide +kernel
theorem dL_law_20 : decode (hr_cd 194) 20 = .ok (.arraylength, 1) := by decide +kernel
theorem dL_law_21 : decode (hr_cd 194) 21 = .ok (.bipush 6, 2) := by decide +kernel
theorem dL_law_23 : decode (hr_cd 194) 23 = .ok (.isub, 1) := by decide +kernel
theorem dL_law_24 : decode (hr_cd 194) 24 = .ok (.if_icmp .gt 1116, 3) := by decide +kernel
theorem dL_law_27 : decode (hr_cd 194) 27 = .ok (.aload_n 0, 1) := by decide +kernel
theorem dL_law_28 : decode (hr_cd 194) 28 = .ok (.iload_n 3, 1) := by decide +kernel
theorem dL_law_29 : decode (hr_cd 194) 29 = .ok (.iaload, 1) := by decide +kernel
theorem dL_law_30 : decode (hr_cd 194) 30 = .ok (.bipush 63, 2) := by decide +kernel
theorem dL_law_32 : decode (hr_cd 194) 32 = .ok (.iand, 1) := by decide +kernel
theorem dL_law_33 : decode (hr_cd 194) 33 = .ok (.tableswitch 1101 0 34 #[155, 188, 211, 244, 277, 320, 353, 386, 419, 442, 465, 498, 531, 544, 557, 580, 593, 616, 629, 652, 685, 708, 741, 754, 767, 810, 884, 947, 970, 993, 1016, 1029, 1042, 1055, 1078], 155) := by decide +kernel
theorem dL_law_188 : decode (hr_cd 194) 188 = .ok (.aload_n 1, 1) := by decide +kernel
theorem dL_law_189 : decode (hr_cd 194) 189 = .ok (.aload_n 0, 1) := by decide +kernel
theorem dL_law_190 : decode (hr_cd 194) 190 = .ok (.iload_n 3, 1) := by decide +kernel
theorem dL_law_191 : decode (hr_cd 194) 191 = .ok (.iconst 1, 1) := by decide +kernel
theorem dL_law_192 : decode (hr_cd 194) 192 = .ok (.iadd, 1) := by decide +kernel
theorem dL_law_193 : decode (hr_cd 194) 193 = .ok (.iaload, 1) := by decide +kernel
theorem dL_law_194 : decode (hr_cd 194) 194 = .ok (.aload_n 0, 1) := by decide +kernel
theorem dL_law_195 : decode (hr_cd 194) 195 = .ok (.iload_n 3, 1) := by decide +kernel
theorem dL_law_196 : decode (hr_cd 194) 196 = .ok (.iconst 2, 1) := by decide +kernel
theorem dL_law_197 : decode (hr_cd 194) 197 = .ok (.iadd, 1) := by decide +kernel
theorem dL_law_198 : decode (hr_cd 194) 198 = .ok (.iaload, 1) := by decide +kernel
theorem dL_law_199 : decode (hr_cd 194) 199 = .ok (.invokevirtual 13, 3) := by decide +kernel
theorem dL_law_202 : decode (hr_cd 194) 202 = .ok (.aload_n 2, 1) := by decide +kernel
theorem dL_law_203 : decode (hr_cd 194) 203 = .ok (.aload_n 0, 1) := by decide +kernel
theorem dL_law_204 : decode (hr_cd 194) 204 = .ok (.iload_n 3, 1) := by decide +kernel
theorem dL_law_205 : decode (hr_cd 194) 205 = .ok (.iconst 1, 1) := by decide +kernel
theorem dL_law_206 : decode (hr_cd 194) 206 = .ok (.iadd, 1) := by decide +kernel
theorem dL_law_207 : decode (hr_cd 194) 207 = .ok (.iaload, 1) := by decide +kernel
theorem dL_law_208 : decode (hr_cd 194) 208 = .ok (.aload_n 0, 1) := by decide +kernel
theorem dL_law_209 : decode (hr_cd 194) 209 = .ok (.iload_n 3, 1) := by decide +kernel
theorem dL_law_210 : decode (hr_cd 194) 210 = .ok (.iconst 2, 1) := by decide +kernel
theorem dL_law_211 : decode (hr_cd 194) 211 = .ok (.iadd, 1) := by decide +kernel
theorem dL_law_212 : decode (hr_cd 194) 212 = .ok (.iaload, 1) := by decide +kernel
theorem dL_law_213 : decode (hr_cd 194) 213 = .ok (.invokevirtual 17, 3) := by decide +kernel
theorem dL_law_216 : decode (hr_cd 194) 216 = .ok (.if_icmp .eq 918, 3) := by decide +kernel
theorem dL_law_219 : decode (hr_cd 194) 219 = .ok (.iconst 0, 1) := by decide +kernel
theorem dL_law_220 : decode (hr_cd 194) 220 = .ok (.ireturn, 1) := by decide +kernel
theorem dL_law_221 : decode (hr_cd 194) 221 = .ok (.aload_n 1, 1) := by decide +kernel
theorem dL_law_222 : decode (hr_cd 194) 222 = .ok (.aload_n 0, 1) := by decide +kernel
theorem dL_law_223 : decode (hr_cd 194) 223 = .ok (.iload_n 3, 1) := by decide +kernel
theorem dL_law_224 : decode (hr_cd 194) 224 = .ok (.iconst 1, 1) := by decide +kernel
theorem dL_law_225 : decode (hr_cd 194) 225 = .ok (.iadd, 1) := by decide +kernel
theorem dL_law_226 : decode (hr_cd 194) 226 = .ok (.iaload, 1) := by decide +kernel
theorem dL_law_227 : decode (hr_cd 194) 227 = .ok (.invokevirtual 18, 3) := by decide +kernel
theorem dL_law_230 : decode (hr_cd 194) 230 = .ok (.aload_n 2, 1) := by decide +kernel
theorem dL_law_231 : decode (hr_cd 194) 231 = .ok (.aload_n 0, 1) := by decide +kernel
theorem dL_law_232 : decode (hr_cd 194) 232 = .ok (.iload_n 3, 1) := by decide +kernel
theorem dL_law_233 : decode (hr_cd 194) 233 = .ok (.iconst 1, 1) := by decide +kernel
theorem dL_law_234 : decode (hr_cd 194) 234 = .ok (.iadd, 1) := by decide +kernel
theorem dL_law_235 : decode (hr_cd 194) 235 = .ok (.iaload, 1) := by decide +kernel
theorem dL_law_236 : decode (hr_cd 194) 236 = .ok (.invokevirtual 22, 3) := by decide +kernel
theorem dL_law_239 : decode (hr_cd 194) 239 = .ok (.if_icmp .eq 895, 3) := by decide +kernel
theorem dL_law_242 : decode (hr_cd 194) 242 = .ok (.iconst 0, 1) := by decide +kernel
theorem dL_law_243 : decode (hr_cd 194) 243 = .ok (.ireturn, 1) := by decide +kernel
theorem dL_law_244 : decode (hr_cd 194) 244 = .ok (.aload_n 1, 1) := by decide +kernel
theorem dL_law_245 : decode (hr_cd 194) 245 = .ok (.aload_n 0, 1) := by decide +kernel
theorem dL_law_246 : decode (hr_cd 194) 246 = .ok (.iload_n 3, 1) := by decide +kernel
theorem dL_law_247 : decode (hr_cd 194) 247 = .ok (.iconst 1, 1) := by decide +kernel
theorem dL_law_248 : decode (hr_cd 194) 248 = .ok (.iadd, 1) := by decide +kernel
theorem dL_law_249 : decode (hr_cd 194) 249 = .ok (.iaload, 1) := by decide +kernel
theorem dL_law_250 : decode (hr_cd 194) 250 = .ok (.aload_n 0, 1) := by decide +kernel
theorem dL_law_251 : decode (hr_cd 194) 251 = .ok (.iload_n 3, 1) := by decide +kernel
theorem dL_law_252 : decode (hr_cd 194) 252 = .ok (.iconst 2, 1) := by decide +kernel
theorem dL_law_253 : decode (hr_cd 194) 253 = .ok (.iadd, 1) := by decide +kernel
theorem dL_law_254 : decode (hr_cd 194) 254 = .ok (.iaload, 1) := by decide +kernel
theorem dL_law_255 : decode (hr_cd 194) 255 = .ok (.invokevirtual 23, 3) := by decide +kernel
theorem dL_law_258 : decode (hr_cd 194) 258 = .ok (.aload_n 2, 1) := by decide +kernel
theorem dL_law_259 : decode (hr_cd 194) 259 = .ok (.aload_n 0, 1) := by decide +kernel
theorem dL_law_260 : decode (hr_cd 194) 260 = .ok (.iload_n 3, 1) := by decide +kernel
theorem dL_law_261 : decode (hr_cd 194) 261 = .ok (.iconst 1, 1) := by decide +kernel
theorem dL_law_262 : decode (hr_cd 194) 262 = .ok (.iadd, 1) := by decide +kernel
theorem dL_law_263 : decode (hr_cd 194) 263 = .ok (.iaload, 1) := by decide +kernel
theorem dL_law_264 : decode (hr_cd 194) 264 = .ok (.aload_n 0, 1) := by decide +kernel
theorem dL_law_265 : decode (hr_cd 194) 265 = .ok (.iload_n 3, 1) := by decide +kernel
theorem dL_law_266 : decode (hr_cd 194) 266 = .ok (.iconst 2, 1) := by decide +kernel
theorem dL_law_267 : decode (hr_cd 194) 267 = .ok (.iadd, 1) := by decide +kernel
theorem dL_law_268 : decode (hr_cd 194) 268 = .ok (.iaload, 1) := by decide +kernel
theorem dL_law_269 : decode (hr_cd 194) 269 = .ok (.invokevirtual 26, 3) := by decide +kernel
theorem dL_law_272 : decode (hr_cd 194) 272 = .ok (.if_icmp .eq 862, 3) := by decide +kernel
theorem dL_law_275 : decode (hr_cd 194) 275 = .ok (.iconst 0, 1) := by decide +kernel
theorem dL_law_276 : decode (hr_cd 194) 276 = .ok (.ireturn, 1) := by decide +kernel
theorem dL_law_277 : decode (hr_cd 194) 277 = .ok (.aload_n 1, 1) := by decide +kernel
theorem dL_law_278 : decode (hr_cd 194) 278 = .ok (.aload_n 0, 1) := by decide +kernel
theorem dL_law_279 : decode (hr_cd 194) 279 = .ok (.iload_n 3, 1) := by decide +kernel
theorem dL_law_280 : decode (hr_cd 194) 280 = .ok (.iconst 1, 1) := by decide +kernel
theorem dL_law_281 : decode (hr_cd 194) 281 = .ok (.iadd, 1) := by decide +kernel
theorem dL_law_282 : decode (hr_cd 194) 282 = .ok (.iaload, 1) := by decide +kernel
theorem dL_law_283 : decode (hr_cd 194) 283 = .ok (.aload_n 0, 1) := by decide +kernel
theorem dL_law_284 : decode (hr_cd 194) 284 = .ok (.iload_n 3, 1) := by decide +kernel
theorem dL_law_285 : decode (hr_cd 194) 285 = .ok (.iconst 2, 1) := by decide +kernel
theorem dL_law_286 : decode (hr_cd 194) 286 = .ok (.iadd, 1) := by decide +kernel
theorem dL_law_287 : decode (hr_cd 194) 287 = .ok (.iaload, 1) := by decide +kernel
theorem dL_law_288 : decode (hr_cd 194) 288 = .ok (.invokevirtual 27, 3) := by decide +kernel
theorem dL_law_291 : decode (hr_cd 194) 291 = .ok (.aload_n 2, 1) := by decide +kernel
theorem dL_law_292 : decode (hr_cd 194) 292 = .ok (.aload_n 0, 1) := by decide +kernel
theorem dL_law_293 : decode (hr_cd 194) 293 = .ok (.iload_n 3, 1) := by decide +kernel
theorem dL_law_294 : decode (hr_cd 194) 294 = .ok (.iconst 1, 1) := by decide +kernel
theorem dL_law_295 : decode (hr_cd 194) 295 = .ok (.iadd, 1) := by decide +kernel
theorem dL_law_296 : decode (hr_cd 194) 296 = .ok (.iaload, 1) := by decide +kernel
theorem dL_law_297 : decode (hr_cd 194) 297 = .ok (.aload_n 0, 1) := by decide +kernel
theorem dL_law_298 : decode (hr_cd 194) 298 = .ok (.iload_n 3, 1) := by decide +kernel
theorem dL_law_299 : decode (hr_cd 194) 299 = .ok (.iconst 2, 1) := by decide +kernel
theorem dL_law_300 : decode (hr_cd 194) 300 = .ok (.iadd, 1) := by decide +kernel
theorem dL_law_301 : decode (hr_cd 194) 301 = .ok (.iaload, 1) := by decide +kernel
theorem dL_law_302 : decode (hr_cd 194) 302 = .ok (.invokevirtual 30, 3) := by decide +kernel
theorem dL_law_305 : decode (hr_cd 194) 305 = .ok (.if_icmp .eq 829, 3) := by decide +kernel
theorem dL_law_308 : decode (hr_cd 194) 308 = .ok (.iconst 0, 1) := by decide +kernel
theorem dL_law_309 : decode (hr_cd 194) 309 = .ok (.ireturn, 1) := by decide +kernel
theorem dL_law_310 : decode (hr_cd 194) 310 = .ok (.aload_n 1, 1) := by decide +kernel
theorem dL_law_311 : decode (hr_cd 194) 311 = .ok (.aload_n 0, 1) := by decide +kernel
theorem dL_law_312 : decode (hr_cd 194) 312 = .ok (.iload_n 3, 1) := by decide +kernel
theorem dL_law_313 : decode (hr_cd 194) 313 = .ok (.iconst 1, 1) := by decide +kernel
theorem dL_law_314 : decode (hr_cd 194) 314 = .ok (.iadd, 1) := by decide +kernel
theorem dL_law_315 : decode (hr_cd 194) 315 = .ok (.iaload, 1) := by decide +kernel
theorem dL_law_316 : decode (hr_cd 194) 316 = .ok (.aload_n 0, 1) := by decide +kernel
theorem dL_law_317 : decode (hr_cd 194) 317 = .ok (.iload_n 3, 1) := by decide +kernel
theorem dL_law_318 : decode (hr_cd 194) 318 = .ok (.iconst 2, 1) := by decide +kernel
theorem dL_law_319 : decode (hr_cd 194) 319 = .ok (.iadd, 1) := by decide +kernel
theorem dL_law_320 : decode (hr_cd 194) 320 = .ok (.iaload, 1) := by decide +kernel
theorem dL_law_321 : decode (hr_cd 194) 321 = .ok (.aload_n 0, 1) := by decide +kernel
theorem dL_law_322 : decode (hr_cd 194) 322 = .ok (.iload_n 3, 1) := by decide +kernel
theorem dL_law_323 : decode (hr_cd 194) 323 = .ok (.iconst 3, 1) := by decide +kernel
theorem dL_law_324 : decode (hr_cd 194) 324 = .ok (.iadd, 1) := by decide +kernel
theorem dL_law_325 : decode (hr_cd 194) 325 = .ok (.iaload, 1) := by decide +kernel
theorem dL_law_326 : decode (hr_cd 194) 326 = .ok (.invokevirtual 31, 3) := by decide +kernel
theorem dL_law_329 : decode (hr_cd 194) 329 = .ok (.aload_n 2, 1) := by decide +kernel
theorem dL_law_330 : decode (hr_cd 194) 330 = .ok (.aload_n 0, 1) := by decide +kernel
theorem dL_law_331 : decode (hr_cd 194) 331 = .ok (.iload_n 3, 1) := by decide +kernel
theorem dL_law_332 : decode (hr_cd 194) 332 = .ok (.iconst 1, 1) := by decide +kernel
theorem dL_law_333 : decode (hr_cd 194) 333 = .ok (.iadd, 1) := by decide +kernel
theorem dL_law_334 : decode (hr_cd 194) 334 = .ok (.iaload, 1) := by decide +kernel
theorem dL_law_335 : decode (hr_cd 194) 335 = .ok (.aload_n 0, 1) := by decide +kernel
theorem dL_law_336 : decode (hr_cd 194) 336 = .ok (.iload_n 3, 1) := by decide +kernel
theorem dL_law_337 : decode (hr_cd 194) 337 = .ok (.iconst 2, 1) := by decide +kernel
theorem dL_law_338 : decode (hr_cd 194) 338 = .ok (.iadd, 1) := by decide +kernel
theorem dL_law_339 : decode (hr_cd 194) 339 = .ok (.iaload, 1) := by decide +kernel
theorem dL_law_340 : decode (hr_cd 194) 340 = .ok (.aload_n 0, 1) := by decide +kernel
theorem dL_law_341 : decode (hr_cd 194) 341 = .ok (.iload_n 3, 1) := by decide +kernel
theorem dL_law_342 : decode (hr_cd 194) 342 = .ok (.iconst 3, 1) := by decide +kernel
theorem dL_law_343 : decode (hr_cd 194) 343 = .ok (.iadd, 1) := by decide +kernel
theorem dL_law_344 : decode (hr_cd 194) 344 = .ok (.iaload, 1) := by decide +kernel
theorem dL_law_345 : decode (hr_cd 194) 345 = .ok (.invokevirtual 35, 3) := by decide +kernel
theorem dL_law_348 : decode (hr_cd 194) 348 = .ok (.if_icmp .eq 786, 3) := by decide +kernel
theorem dL_law_351 : decode (hr_cd 194) 351 = .ok (.iconst 0, 1) := by decide +kernel
theorem dL_law_352 : decode (hr_cd 194) 352 = .ok (.ireturn, 1) := by decide +kernel
theorem dL_law_353 : decode (hr_cd 194) 353 = .ok (.aload_n 1, 1) := by decide +kernel
theorem dL_law_354 : decode (hr_cd 194) 354 = .ok (.aload_n 0, 1) := by decide +kernel
theorem dL_law_355 : decode (hr_cd 194) 355 = .ok (.iload_n 3, 1) := by decide +kernel
theorem dL_law_356 : decode (hr_cd 194) 356 = .ok (.iconst 1, 1) := by decide +kernel
theorem dL_law_357 : decode (hr_cd 194) 357 = .ok (.iadd, 1) := by decide +kernel
theorem dL_law_358 : decode (hr_cd 194) 358 = .ok (.iaload, 1) := by decide +kernel
theorem dL_law_359 : decode (hr_cd 194) 359 = .ok (.aload_n 0, 1) := by decide +kernel
theorem dL_law_360 : decode (hr_cd 194) 360 = .ok (.iload_n 3, 1) := by decide +kernel
theorem dL_law_361 : decode (hr_cd 194) 361 = .ok (.iconst 2, 1) := by decide +kernel
theorem dL_law_362 : decode (hr_cd 194) 362 = .ok (.iadd, 1) := by decide +kernel
theorem dL_law_363 : decode (hr_cd 194) 363 = .ok (.iaload, 1) := by decide +kernel
theorem dL_law_364 : decode (hr_cd 194) 364 = .ok (.invokevirtual 36, 3) := by decide +kernel
theorem dL_law_367 : decode (hr_cd 194) 367 = .ok (.aload_n 2, 1) := by decide +kernel
theorem dL_law_368 : decode (hr_cd 194) 368 = .ok (.aload_n 0, 1) := by decide +kernel
theorem dL_law_369 : decode (hr_cd 194) 369 = .ok (.iload_n 3, 1) := by decide +kernel
theorem dL_law_370 : decode (hr_cd 194) 370 = .ok (.iconst 1, 1) := by decide +kernel
theorem dL_law_371 : decode (hr_cd 194) 371 = .ok (.iadd, 1) := by decide +kernel
theorem dL_law_372 : decode (hr_cd 194) 372 = .ok (.iaload, 1) := by decide +kernel
theorem dL_law_373 : decode (hr_cd 194) 373 = .ok (.aload_n 0, 1) := by decide +kernel
theorem dL_law_374 : decode (hr_cd 194) 374 = .ok (.iload_n 3, 1) := by decide +kernel
theorem dL_law_375 : decode (hr_cd 194) 375 = .ok (.iconst 2, 1) := by decide +kernel
theorem dL_law_376 : decode (hr_cd 194) 376 = .ok (.iadd, 1) := by decide +kernel
theorem dL_law_377 : decode (hr_cd 194) 377 = .ok (.iaload, 1) := by decide +kernel
theorem dL_law_378 : decode (hr_cd 194) 378 = .ok (.invokevirtual 39, 3) := by decide +kernel
theorem dL_law_381 : decode (hr_cd 194) 381 = .ok (.if_icmp .eq 753, 3) := by decide +kernel
theorem dL_law_384 : decode (hr_cd 194) 384 = .ok (.iconst 0, 1) := by decide +kernel
theorem dL_law_385 : decode (hr_cd 194) 385 = .ok (.ireturn, 1) := by decide +kernel
theorem dL_law_386 : decode (hr_cd 194) 386 = .ok (.aload_n 1, 1) := by decide +kernel
theorem dL_law_387 : decode (hr_cd 194) 387 = .ok (.aload_n 0, 1) := by decide +kernel
theorem dL_law_388 : decode (hr_cd 194) 388 = .ok (.iload_n 3, 1) := by decide +kernel
theorem dL_law_389 : decode (hr_cd 194) 389 = .ok (.iconst 1, 1) := by decide +kernel
theorem dL_law_390 : decode (hr_cd 194) 390 = .ok (.iadd, 1) := by decide +kernel
theorem dL_law_391 : decode (hr_cd 194) 391 = .ok (.iaload, 1) := by decide +kernel
theorem dL_law_392 : decode (hr_cd 194) 392 = .ok (.aload_n 0, 1) := by decide +kernel
theorem dL_law_393 : decode (hr_cd 194) 393 = .ok (.iload_n 3, 1) := by decide +kernel
theorem dL_law_394 : decode (hr_cd 194) 394 = .ok (.iconst 2, 1) := by decide +kernel
theorem dL_law_395 : decode (hr_cd 194) 395 = .ok (.iadd, 1) := by decide +kernel
theorem dL_law_396 : decode (hr_cd 194) 396 = .ok (.iaload, 1) := by decide +kernel
theorem dL_law_397 : decode (hr_cd 194) 397 = .ok (.invokevirtual 40, 3) := by decide +kernel
theorem dL_law_400 : decode (hr_cd 194) 400 = .ok (.aload_n 2, 1) := by decide +kernel
theorem dL_law_401 : decode (hr_cd 194) 401 = .ok (.aload_n 0, 1) := by decide +kernel
theorem dL_law_402 : decode (hr_cd 194) 402 = .ok (.iload_n 3, 1) := by decide +kernel
theorem dL_law_403 : decode (hr_cd 194) 403 = .ok (.iconst 1, 1) := by decide +kernel
theorem dL_law_404 : decode (hr_cd 194) 404 = .ok (.iadd, 1) := by decide +kernel
theorem dL_law_405 : decode (hr_cd 194) 405 = .ok (.iaload, 1) := by decide +kernel
theorem dL_law_406 : decode (hr_cd 194) 406 = .ok (.aload_n 0, 1) := by decide +kernel
theorem dL_law_407 : decode (hr_cd 194) 407 = .ok (.iload_n 3, 1) := by decide +kernel
theorem dL_law_408 : decode (hr_cd 194) 408 = .ok (.iconst 2, 1) := by decide +kernel
theorem dL_law_409 : decode (hr_cd 194) 409 = .ok (.iadd, 1) := by decide +kernel
theorem dL_law_410 : decode (hr_cd 194) 410 = .ok (.iaload, 1) := by decide +kernel
theorem dL_law_411 : decode (hr_cd 194) 411 = .ok (.invokevirtual 43, 3) := by decide +kernel
theorem dL_law_414 : decode (hr_cd 194) 414 = .ok (.if_icmp .eq 720, 3) := by decide +kernel
theorem dL_law_417 : decode (hr_cd 194) 417 = .ok (.iconst 0, 1) := by decide +kernel
theorem dL_law_418 : decode (hr_cd 194) 418 = .ok (.ireturn, 1) := by decide +kernel
theorem dL_law_419 : decode (hr_cd 194) 419 = .ok (.aload_n 1, 1) := by decide +kernel
theorem dL_law_420 : decode (hr_cd 194) 420 = .ok (.aload_n 0, 1) := by decide +kernel
theorem dL_law_421 : decode (hr_cd 194) 421 = .ok (.iload_n 3, 1) := by decide +kernel
theorem dL_law_422 : decode (hr_cd 194) 422 = .ok (.iconst 1, 1) := by decide +kernel
theorem dL_law_423 : decode (hr_cd 194) 423 = .ok (.iadd, 1) := by decide +kernel
theorem dL_law_424 : decode (hr_cd 194) 424 = .ok (.iaload, 1) := by decide +kernel
theorem dL_law_425 : decode (hr_cd 194) 425 = .ok (.aload_n 0, 1) := by decide +kernel
theorem dL_law_426 : decode (hr_cd 194) 426 = .ok (.iload_n 3, 1) := by decide +kernel
theorem dL_law_427 : decode (hr_cd 194) 427 = .ok (.iconst 2, 1) := by decide +kernel
theorem dL_law_428 : decode (hr_cd 194) 428 = .ok (.iadd, 1) := by decide +kernel
theorem dL_law_429 : decode (hr_cd 194) 429 = .ok (.iaload, 1) := by decide +kernel
theorem dL_law_430 : decode (hr_cd 194) 430 = .ok (.invokevirtual 44, 3) := by decide +kernel
theorem dL_law_433 : decode (hr_cd 194) 433 = .ok (.aload_n 2, 1) := by decide +kernel
theorem dL_law_434 : decode (hr_cd 194) 434 = .ok (.aload_n 0, 1) := by decide +kernel
theorem dL_law_435 : decode (hr_cd 194) 435 = .ok (.iload_n 3, 1) := by decide +kernel
theorem dL_law_436 : decode (hr_cd 194) 436 = .ok (.iconst 1, 1) := by decide +kernel
theorem dL_law_437 : decode (hr_cd 194) 437 = .ok (.iadd, 1) := by decide +kernel
theorem dL_law_438 : decode (hr_cd 194) 438 = .ok (.iaload, 1) := by decide +kernel
theorem dL_law_439 : decode (hr_cd 194) 439 = .ok (.aload_n 0, 1) := by decide +kernel
theorem dL_law_440 : decode (hr_cd 194) 440 = .ok (.iload_n 3, 1) := by decide +kernel
theorem dL_law_441 : decode (hr_cd 194) 441 = .ok (.iconst 2, 1) := by decide +kernel
theorem dL_law_442 : decode (hr_cd 194) 442 = .ok (.iadd, 1) := by decide +kernel
theorem dL_law_443 : decode (hr_cd 194) 443 = .ok (.iaload, 1) := by decide +kernel
theorem dL_law_444 : decode (hr_cd 194) 444 = .ok (.invokevirtual 47, 3) := by decide +kernel
theorem dL_law_447 : decode (hr_cd 194) 447 = .ok (.if_icmp .eq 687, 3) := by decide +kernel
theorem dL_law_450 : decode (hr_cd 194) 450 = .ok (.iconst 0, 1) := by decide +kernel
theorem dL_law_451 : decode (hr_cd 194) 451 = .ok (.ireturn, 1) := by decide +kernel
theorem dL_law_452 : decode (hr_cd 194) 452 = .ok (.aload_n 1, 1) := by decide +kernel
theorem dL_law_453 : decode (hr_cd 194) 453 = .ok (.aload_n 0, 1) := by decide +kernel
theorem dL_law_454 : decode (hr_cd 194) 454 = .ok (.iload_n 3, 1) := by decide +kernel
theorem dL_law_455 : decode (hr_cd 194) 455 = .ok (.iconst 1, 1) := by decide +kernel
theorem dL_law_456 : decode (hr_cd 194) 456 = .ok (.iadd, 1) := by decide +kernel
theorem dL_law_457 : decode (hr_cd 194) 457 = .ok (.iaload, 1) := by decide +kernel
theorem dL_law_458 : decode (hr_cd 194) 458 = .ok (.invokevirtual 48, 3) := by decide +kernel
theorem dL_law_461 : decode (hr_cd 194) 461 = .ok (.aload_n 2, 1) := by decide +kernel
theorem dL_law_462 : decode (hr_cd 194) 462 = .ok (.aload_n 0, 1) := by decide +kernel
theorem dL_law_463 : decode (hr_cd 194) 463 = .ok (.iload_n 3, 1) := by decide +kernel
theorem dL_law_464 : decode (hr_cd 194) 464 = .ok (.iconst 1, 1) := by decide +kernel
theorem dL_law_465 : decode (hr_cd 194) 465 = .ok (.iadd, 1) := by decide +kernel
theorem dL_law_466 : decode (hr_cd 194) 466 = .ok (.iaload, 1) := by decide +kernel
theorem dL_law_467 : decode (hr_cd 194) 467 = .ok (.invokevirtual 51, 3) := by decide +kernel
theorem dL_law_470 : decode (hr_cd 194) 470 = .ok (.if_icmp .eq 664, 3) := by decide +kernel
theorem dL_law_473 : decode (hr_cd 194) 473 = .ok (.iconst 0, 1) := by decide +kernel
theorem dL_law_474 : decode (hr_cd 194) 474 = .ok (.ireturn, 1) := by decide +kernel
theorem dL_law_475 : decode (hr_cd 194) 475 = .ok (.aload_n 1, 1) := by decide +kernel
theorem dL_law_476 : decode (hr_cd 194) 476 = .ok (.aload_n 0, 1) := by decide +kernel
theorem dL_law_477 : decode (hr_cd 194) 477 = .ok (.iload_n 3, 1) := by decide +kernel
theorem dL_law_478 : decode (hr_cd 194) 478 = .ok (.iconst 1, 1) := by decide +kernel
theorem dL_law_479 : decode (hr_cd 194) 479 = .ok (.iadd, 1) := by decide +kernel
theorem dL_law_480 : decode (hr_cd 194) 480 = .ok (.iaload, 1) := by decide +kernel
theorem dL_law_481 : decode (hr_cd 194) 481 = .ok (.invokevirtual 52, 3) := by decide +kernel
theorem dL_law_484 : decode (hr_cd 194) 484 = .ok (.aload_n 2, 1) := by decide +kernel
theorem dL_law_485 : decode (hr_cd 194) 485 = .ok (.aload_n 0, 1) := by decide +kernel
theorem dL_law_486 : decode (hr_cd 194) 486 = .ok (.iload_n 3, 1) := by decide +kernel
theorem dL_law_487 : decode (hr_cd 194) 487 = .ok (.iconst 1, 1) := by decide +kernel
theorem dL_law_488 : decode (hr_cd 194) 488 = .ok (.iadd, 1) := by decide +kernel
theorem dL_law_489 : decode (hr_cd 194) 489 = .ok (.iaload, 1) := by decide +kernel
theorem dL_law_490 : decode (hr_cd 194) 490 = .ok (.invokevirtual 55, 3) := by decide +kernel
theorem dL_law_493 : decode (hr_cd 194) 493 = .ok (.if_icmp .eq 641, 3) := by decide +kernel
theorem dL_law_496 : decode (hr_cd 194) 496 = .ok (.iconst 0, 1) := by decide +kernel
theorem dL_law_497 : decode (hr_cd 194) 497 = .ok (.ireturn, 1) := by decide +kernel
theorem dL_law_498 : decode (hr_cd 194) 498 = .ok (.aload_n 1, 1) := by decide +kernel
theorem dL_law_499 : decode (hr_cd 194) 499 = .ok (.aload_n 0, 1) := by decide +kernel
theorem dL_law_500 : decode (hr_cd 194) 500 = .ok (.iload_n 3, 1) := by decide +kernel
theorem dL_law_501 : decode (hr_cd 194) 501 = .ok (.iconst 1, 1) := by decide +kernel
theorem dL_law_502 : decode (hr_cd 194) 502 = .ok (.iadd, 1) := by decide +kernel
theorem dL_law_503 : decode (hr_cd 194) 503 = .ok (.iaload, 1) := by decide +kernel
theorem dL_law_504 : decode (hr_cd 194) 504 = .ok (.aload_n 0, 1) := by decide +kernel
theorem dL_law_505 : decode (hr_cd 194) 505 = .ok (.iload_n 3, 1) := by decide +kernel
theorem dL_law_506 : decode (hr_cd 194) 506 = .ok (.iconst 2, 1) := by decide +kernel
theorem dL_law_507 : decode (hr_cd 194) 507 = .ok (.iadd, 1) := by decide +kernel
theorem dL_law_508 : decode (hr_cd 194) 508 = .ok (.iaload, 1) := by decide +kernel
theorem dL_law_509 : decode (hr_cd 194) 509 = .ok (.invokevirtual 56, 3) := by decide +kernel
theorem dL_law_512 : decode (hr_cd 194) 512 = .ok (.aload_n 2, 1) := by decide +kernel
theorem dL_law_513 : decode (hr_cd 194) 513 = .ok (.aload_n 0, 1) := by decide +kernel
theorem dL_law_514 : decode (hr_cd 194) 514 = .ok (.iload_n 3, 1) := by decide +kernel
theorem dL_law_515 : decode (hr_cd 194) 515 = .ok (.iconst 1, 1) := by decide +kernel
theorem dL_law_516 : decode (hr_cd 194) 516 = .ok (.iadd, 1) := by decide +kernel
theorem dL_law_517 : decode (hr_cd 194) 517 = .ok (.iaload, 1) := by decide +kernel
theorem dL_law_518 : decode (hr_cd 194) 518 = .ok (.aload_n 0, 1) := by decide +kernel
theorem dL_law_519 : decode (hr_cd 194) 519 = .ok (.iload_n 3, 1) := by decide +kernel
theorem dL_law_520 : decode (hr_cd 194) 520 = .ok (.iconst 2, 1) := by decide +kernel
theorem dL_law_521 : decode (hr_cd 194) 521 = .ok (.iadd, 1) := by decide +kernel
theorem dL_law_522 : decode (hr_cd 194) 522 = .ok (.iaload, 1) := by decide +kernel
theorem dL_law_523 : decode (hr_cd 194) 523 = .ok (.invokevirtual 59, 3) := by decide +kernel
theorem dL_law_526 : decode (hr_cd 194) 526 = .ok (.if_icmp .eq 608, 3) := by decide +kernel
theorem dL_law_529 : decode (hr_cd 194) 529 = .ok (.iconst 0, 1) := by decide +kernel
theorem dL_law_530 : decode (hr_cd 194) 530 = .ok (.ireturn, 1) := by decide +kernel
theorem dL_law_531 : decode (hr_cd 194) 531 = .ok (.aload_n 1, 1) := by decide +kernel
theorem dL_law_532 : decode (hr_cd 194) 532 = .ok (.aload_n 0, 1) := by decide +kernel
theorem dL_law_533 : decode (hr_cd 194) 533 = .ok (.iload_n 3, 1) := by decide +kernel
theorem dL_law_534 : decode (hr_cd 194) 534 = .ok (.iconst 1, 1) := by decide +kernel
theorem dL_law_535 : decode (hr_cd 194) 535 = .ok (.iadd, 1) := by decide +kernel
theorem dL_law_536 : decode (hr_cd 194) 536 = .ok (.iaload, 1) := by decide +kernel
theorem dL_law_537 : decode (hr_cd 194) 537 = .ok (.aload_n 0, 1) := by decide +kernel
theorem dL_law_538 : decode (hr_cd 194) 538 = .ok (.iload_n 3, 1) := by decide +kernel
theorem dL_law_539 : decode (hr_cd 194) 539 = .ok (.iconst 2, 1) := by decide +kernel
theorem dL_law_540 : decode (hr_cd 194) 540 = .ok (.iadd, 1) := by decide +kernel
theorem dL_law_541 : decode (hr_cd 194) 541 = .ok (.iaload, 1) := by decide +kernel
theorem dL_law_542 : decode (hr_cd 194) 542 = .ok (.invokevirtual 60, 3) := by decide +kernel
theorem dL_law_545 : decode (hr_cd 194) 545 = .ok (.aload_n 2, 1) := by decide +kernel
theorem dL_law_546 : decode (hr_cd 194) 546 = .ok (.aload_n 0, 1) := by decide +kernel
theorem dL_law_547 : decode (hr_cd 194) 547 = .ok (.iload_n 3, 1) := by decide +kernel
theorem dL_law_548 : decode (hr_cd 194) 548 = .ok (.iconst 1, 1) := by decide +kernel
theorem dL_law_549 : decode (hr_cd 194) 549 = .ok (.iadd, 1) := by decide +kernel
theorem dL_law_550 : decode (hr_cd 194) 550 = .ok (.iaload, 1) := by decide +kernel
theorem dL_law_551 : decode (hr_cd 194) 551 = .ok (.aload_n 0, 1) := by decide +kernel
theorem dL_law_552 : decode (hr_cd 194) 552 = .ok (.iload_n 3, 1) := by decide +kernel
theorem dL_law_553 : decode (hr_cd 194) 553 = .ok (.iconst 2, 1) := by decide +kernel
theorem dL_law_554 : decode (hr_cd 194) 554 = .ok (.iadd, 1) := by decide +kernel
theorem dL_law_555 : decode (hr_cd 194) 555 = .ok (.iaload, 1) := by decide +kernel
theorem dL_law_556 : decode (hr_cd 194) 556 = .ok (.invokevirtual 63, 3) := by decide +kernel
theorem dL_law_559 : decode (hr_cd 194) 559 = .ok (.if_icmp .eq 575, 3) := by decide +kernel
theorem dL_law_562 : decode (hr_cd 194) 562 = .ok (.iconst 0, 1) := by decide +kernel
theorem dL_law_563 : decode (hr_cd 194) 563 = .ok (.ireturn, 1) := by decide +kernel
theorem dL_law_564 : decode (hr_cd 194) 564 = .ok (.aload_n 1, 1) := by decide +kernel
theorem dL_law_565 : decode (hr_cd 194) 565 = .ok (.invokevirtual 64, 3) := by decide +kernel
theorem dL_law_568 : decode (hr_cd 194) 568 = .ok (.aload_n 2, 1) := by decide +kernel
theorem dL_law_569 : decode (hr_cd 194) 569 = .ok (.invokevirtual 68, 3) := by decide +kernel
theorem dL_law_572 : decode (hr_cd 194) 572 = .ok (.if_icmp .eq 562, 3) := by decide +kernel
theorem dL_law_575 : decode (hr_cd 194) 575 = .ok (.iconst 0, 1) := by decide +kernel
theorem dL_law_576 : decode (hr_cd 194) 576 = .ok (.ireturn, 1) := by decide +kernel
theorem dL_law_577 : decode (hr_cd 194) 577 = .ok (.aload_n 1, 1) := by decide +kernel
theorem dL_law_578 : decode (hr_cd 194) 578 = .ok (.invokevirtual 69, 3) := by decide +kernel
theorem dL_law_581 : decode (hr_cd 194) 581 = .ok (.aload_n 2, 1) := by decide +kernel
theorem dL_law_582 : decode (hr_cd 194) 582 = .ok (.invokevirtual 72, 3) := by decide +kernel
theorem dL_law_585 : decode (hr_cd 194) 585 = .ok (.if_icmp .eq 549, 3) := by decide +kernel
theorem dL_law_588 : decode (hr_cd 194) 588 = .ok (.iconst 0, 1) := by decide +kernel
theorem dL_law_589 : decode (hr_cd 194) 589 = .ok (.ireturn, 1) := by decide +kernel
theorem dL_law_590 : decode (hr_cd 194) 590 = .ok (.aload_n 1, 1) := by decide +kernel
theorem dL_law_591 : decode (hr_cd 194) 591 = .ok (.aload_n 0, 1) := by decide +kernel
theorem dL_law_592 : decode (hr_cd 194) 592 = .ok (.iload_n 3, 1) := by decide +kernel
theorem dL_law_593 : decode (hr_cd 194) 593 = .ok (.iconst 1, 1) := by decide +kernel
theorem dL_law_594 : decode (hr_cd 194) 594 = .ok (.iadd, 1) := by decide +kernel
theorem dL_law_595 : decode (hr_cd 194) 595 = .ok (.iaload, 1) := by decide +kernel
theorem dL_law_596 : decode (hr_cd 194) 596 = .ok (.invokevirtual 73, 3) := by decide +kernel
theorem dL_law_599 : decode (hr_cd 194) 599 = .ok (.aload_n 2, 1) := by decide +kernel
theorem dL_law_600 : decode (hr_cd 194) 600 = .ok (.aload_n 0, 1) := by decide +kernel
theorem dL_law_601 : decode (hr_cd 194) 601 = .ok (.iload_n 3, 1) := by decide +kernel
theorem dL_law_602 : decode (hr_cd 194) 602 = .ok (.iconst 1, 1) := by decide +kernel
theorem dL_law_603 : decode (hr_cd 194) 603 = .ok (.iadd, 1) := by decide +kernel
theorem dL_law_604 : decode (hr_cd 194) 604 = .ok (.iaload, 1) := by decide +kernel
theorem dL_law_605 : decode (hr_cd 194) 605 = .ok (.invokevirtual 76, 3) := by decide +kernel
theorem dL_law_608 : decode (hr_cd 194) 608 = .ok (.if_icmp .eq 526, 3) := by decide +kernel
theorem dL_law_611 : decode (hr_cd 194) 611 = .ok (.iconst 0, 1) := by decide +kernel
theorem dL_law_612 : decode (hr_cd 194) 612 = .ok (.ireturn, 1) := by decide +kernel
theorem dL_law_613 : decode (hr_cd 194) 613 = .ok (.aload_n 1, 1) := by decide +kernel
theorem dL_law_614 : decode (hr_cd 194) 614 = .ok (.invokevirtual 77, 3) := by decide +kernel
theorem dL_law_617 : decode (hr_cd 194) 617 = .ok (.aload_n 2, 1) := by decide +kernel
theorem dL_law_618 : decode (hr_cd 194) 618 = .ok (.invokevirtual 80, 3) := by decide +kernel
theorem dL_law_621 : decode (hr_cd 194) 621 = .ok (.if_icmp .eq 513, 3) := by decide +kernel
theorem dL_law_624 : decode (hr_cd 194) 624 = .ok (.iconst 0, 1) := by decide +kernel
theorem dL_law_625 : decode (hr_cd 194) 625 = .ok (.ireturn, 1) := by decide +kernel
theorem dL_law_626 : decode (hr_cd 194) 626 = .ok (.aload_n 1, 1) := by decide +kernel
theorem dL_law_627 : decode (hr_cd 194) 627 = .ok (.aload_n 0, 1) := by decide +kernel
theorem dL_law_628 : decode (hr_cd 194) 628 = .ok (.iload_n 3, 1) := by decide +kernel
theorem dL_law_629 : decode (hr_cd 194) 629 = .ok (.iconst 1, 1) := by decide +kernel
theorem dL_law_630 : decode (hr_cd 194) 630 = .ok (.iadd, 1) := by decide +kernel
theorem dL_law_631 : decode (hr_cd 194) 631 = .ok (.iaload, 1) := by decide +kernel
theorem dL_law_632 : decode (hr_cd 194) 632 = .ok (.invokevirtual 81, 3) := by decide +kernel
theorem dL_law_635 : decode (hr_cd 194) 635 = .ok (.aload_n 2, 1) := by decide +kernel
theorem dL_law_636 : decode (hr_cd 194) 636 = .ok (.aload_n 0, 1) := by decide +kernel
theorem dL_law_637 : decode (hr_cd 194) 637 = .ok (.iload_n 3, 1) := by decide +kernel
theorem dL_law_638 : decode (hr_cd 194) 638 = .ok (.iconst 1, 1) := by decide +kernel
theorem dL_law_639 : decode (hr_cd 194) 639 = .ok (.iadd, 1) := by decide +kernel
theorem dL_law_640 : decode (hr_cd 194) 640 = .ok (.iaload, 1) := by decide +kernel
theorem dL_law_641 : decode (hr_cd 194) 641 = .ok (.invokevirtual 84, 3) := by decide +kernel
theorem dL_law_644 : decode (hr_cd 194) 644 = .ok (.if_icmp .eq 490, 3) := by decide +kernel
theorem dL_law_647 : decode (hr_cd 194) 647 = .ok (.iconst 0, 1) := by decide +kernel
theorem dL_law_648 : decode (hr_cd 194) 648 = .ok (.ireturn, 1) := by decide +kernel
theorem dL_law_649 : decode (hr_cd 194) 649 = .ok (.aload_n 1, 1) := by decide +kernel
theorem dL_law_650 : decode (hr_cd 194) 650 = .ok (.invokevirtual 85, 3) := by decide +kernel
theorem dL_law_653 : decode (hr_cd 194) 653 = .ok (.aload_n 2, 1) := by decide +kernel
theorem dL_law_654 : decode (hr_cd 194) 654 = .ok (.invokevirtual 88, 3) := by decide +kernel
theorem dL_law_657 : decode (hr_cd 194) 657 = .ok (.if_icmp .eq 477, 3) := by decide +kernel
theorem dL_law_660 : decode (hr_cd 194) 660 = .ok (.iconst 0, 1) := by decide +kernel
theorem dL_law_661 : decode (hr_cd 194) 661 = .ok (.ireturn, 1) := by decide +kernel
theorem dL_law_662 : decode (hr_cd 194) 662 = .ok (.aload_n 1, 1) := by decide +kernel
theorem dL_law_663 : decode (hr_cd 194) 663 = .ok (.aload_n 0, 1) := by decide +kernel
theorem dL_law_664 : decode (hr_cd 194) 664 = .ok (.iload_n 3, 1) := by decide +kernel
theorem dL_law_665 : decode (hr_cd 194) 665 = .ok (.iconst 1, 1) := by decide +kernel
theorem dL_law_666 : decode (hr_cd 194) 666 = .ok (.iadd, 1) := by decide +kernel
theorem dL_law_667 : decode (hr_cd 194) 667 = .ok (.iaload, 1) := by decide +kernel
theorem dL_law_668 : decode (hr_cd 194) 668 = .ok (.invokevirtual 89, 3) := by decide +kernel
theorem dL_law_671 : decode (hr_cd 194) 671 = .ok (.aload_n 2, 1) := by decide +kernel
theorem dL_law_672 : decode (hr_cd 194) 672 = .ok (.aload_n 0, 1) := by decide +kernel
theorem dL_law_673 : decode (hr_cd 194) 673 = .ok (.iload_n 3, 1) := by decide +kernel
theorem dL_law_674 : decode (hr_cd 194) 674 = .ok (.iconst 1, 1) := by decide +kernel
theorem dL_law_675 : decode (hr_cd 194) 675 = .ok (.iadd, 1) := by decide +kernel
theorem dL_law_676 : decode (hr_cd 194) 676 = .ok (.iaload, 1) := by decide +kernel
theorem dL_law_677 : decode (hr_cd 194) 677 = .ok (.invokevirtual 92, 3) := by decide +kernel
theorem dL_law_680 : decode (hr_cd 194) 680 = .ok (.if_icmp .eq 454, 3) := by decide +kernel
theorem dL_law_683 : decode (hr_cd 194) 683 = .ok (.iconst 0, 1) := by decide +kernel
theorem dL_law_684 : decode (hr_cd 194) 684 = .ok (.ireturn, 1) := by decide +kernel
theorem dL_law_685 : decode (hr_cd 194) 685 = .ok (.aload_n 1, 1) := by decide +kernel
theorem dL_law_686 : decode (hr_cd 194) 686 = .ok (.aload_n 0, 1) := by decide +kernel
theorem dL_law_687 : decode (hr_cd 194) 687 = .ok (.iload_n 3, 1) := by decide +kernel
theorem dL_law_688 : decode (hr_cd 194) 688 = .ok (.iconst 1, 1) := by decide +kernel
theorem dL_law_689 : decode (hr_cd 194) 689 = .ok (.iadd, 1) := by decide +kernel
theorem dL_law_690 : decode (hr_cd 194) 690 = .ok (.iaload, 1) := by decide +kernel
theorem dL_law_691 : decode (hr_cd 194) 691 = .ok (.aload_n 0, 1) := by decide +kernel
theorem dL_law_692 : decode (hr_cd 194) 692 = .ok (.iload_n 3, 1) := by decide +kernel
theorem dL_law_693 : decode (hr_cd 194) 693 = .ok (.iconst 2, 1) := by decide +kernel
theorem dL_law_694 : decode (hr_cd 194) 694 = .ok (.iadd, 1) := by decide +kernel
theorem dL_law_695 : decode (hr_cd 194) 695 = .ok (.iaload, 1) := by decide +kernel
theorem dL_law_696 : decode (hr_cd 194) 696 = .ok (.invokevirtual 93, 3) := by decide +kernel
theorem dL_law_699 : decode (hr_cd 194) 699 = .ok (.aload_n 2, 1) := by decide +kernel
theorem dL_law_700 : decode (hr_cd 194) 700 = .ok (.aload_n 0, 1) := by decide +kernel
theorem dL_law_701 : decode (hr_cd 194) 701 = .ok (.iload_n 3, 1) := by decide +kernel
theorem dL_law_702 : decode (hr_cd 194) 702 = .ok (.iconst 1, 1) := by decide +kernel
theorem dL_law_703 : decode (hr_cd 194) 703 = .ok (.iadd, 1) := by decide +kernel
theorem dL_law_704 : decode (hr_cd 194) 704 = .ok (.iaload, 1) := by decide +kernel
theorem dL_law_705 : decode (hr_cd 194) 705 = .ok (.aload_n 0, 1) := by decide +kernel
theorem dL_law_706 : decode (hr_cd 194) 706 = .ok (.iload_n 3, 1) := by decide +kernel
theorem dL_law_707 : decode (hr_cd 194) 707 = .ok (.iconst 2, 1) := by decide +kernel
theorem dL_law_708 : decode (hr_cd 194) 708 = .ok (.iadd, 1) := by decide +kernel
theorem dL_law_709 : decode (hr_cd 194) 709 = .ok (.iaload, 1) := by decide +kernel
theorem dL_law_710 : decode (hr_cd 194) 710 = .ok (.invokevirtual 96, 3) := by decide +kernel
theorem dL_law_713 : decode (hr_cd 194) 713 = .ok (.if_icmp .eq 421, 3) := by decide +kernel
theorem dL_law_716 : decode (hr_cd 194) 716 = .ok (.iconst 0, 1) := by decide +kernel
theorem dL_law_717 : decode (hr_cd 194) 717 = .ok (.ireturn, 1) := by decide +kernel
theorem dL_law_718 : decode (hr_cd 194) 718 = .ok (.aload_n 1, 1) := by decide +kernel
theorem dL_law_719 : decode (hr_cd 194) 719 = .ok (.aload_n 0, 1) := by decide +kernel
theorem dL_law_720 : decode (hr_cd 194) 720 = .ok (.iload_n 3, 1) := by decide +kernel
theorem dL_law_721 : decode (hr_cd 194) 721 = .ok (.iconst 1, 1) := by decide +kernel
theorem dL_law_722 : decode (hr_cd 194) 722 = .ok (.iadd, 1) := by decide +kernel
theorem dL_law_723 : decode (hr_cd 194) 723 = .ok (.iaload, 1) := by decide +kernel
theorem dL_law_724 : decode (hr_cd 194) 724 = .ok (.invokevirtual 97, 3) := by decide +kernel
theorem dL_law_727 : decode (hr_cd 194) 727 = .ok (.aload_n 2, 1) := by decide +kernel
theorem dL_law_728 : decode (hr_cd 194) 728 = .ok (.aload_n 0, 1) := by decide +kernel
theorem dL_law_729 : decode (hr_cd 194) 729 = .ok (.iload_n 3, 1) := by decide +kernel
theorem dL_law_730 : decode (hr_cd 194) 730 = .ok (.iconst 1, 1) := by decide +kernel
theorem dL_law_731 : decode (hr_cd 194) 731 = .ok (.iadd, 1) := by decide +kernel
theorem dL_law_732 : decode (hr_cd 194) 732 = .ok (.iaload, 1) := by decide +kernel
theorem dL_law_733 : decode (hr_cd 194) 733 = .ok (.invokevirtual 100, 3) := by decide +kernel
theorem dL_law_736 : decode (hr_cd 194) 736 = .ok (.if_icmp .eq 398, 3) := by decide +kernel
theorem dL_law_739 : decode (hr_cd 194) 739 = .ok (.iconst 0, 1) := by decide +kernel
theorem dL_law_740 : decode (hr_cd 194) 740 = .ok (.ireturn, 1) := by decide +kernel
theorem dL_law_741 : decode (hr_cd 194) 741 = .ok (.aload_n 1, 1) := by decide +kernel
theorem dL_law_742 : decode (hr_cd 194) 742 = .ok (.aload_n 0, 1) := by decide +kernel
theorem dL_law_743 : decode (hr_cd 194) 743 = .ok (.iload_n 3, 1) := by decide +kernel
theorem dL_law_744 : decode (hr_cd 194) 744 = .ok (.iconst 1, 1) := by decide +kernel
theorem dL_law_745 : decode (hr_cd 194) 745 = .ok (.iadd, 1) := by decide +kernel
theorem dL_law_746 : decode (hr_cd 194) 746 = .ok (.iaload, 1) := by decide +kernel
theorem dL_law_747 : decode (hr_cd 194) 747 = .ok (.aload_n 0, 1) := by decide +kernel
theorem dL_law_748 : decode (hr_cd 194) 748 = .ok (.iload_n 3, 1) := by decide +kernel
theorem dL_law_749 : decode (hr_cd 194) 749 = .ok (.iconst 2, 1) := by decide +kernel
theorem dL_law_750 : decode (hr_cd 194) 750 = .ok (.iadd, 1) := by decide +kernel
theorem dL_law_751 : decode (hr_cd 194) 751 = .ok (.iaload, 1) := by decide +kernel
theorem dL_law_752 : decode (hr_cd 194) 752 = .ok (.invokevirtual 101, 3) := by decide +kernel
theorem dL_law_755 : decode (hr_cd 194) 755 = .ok (.aload_n 2, 1) := by decide +kernel
theorem dL_law_756 : decode (hr_cd 194) 756 = .ok (.aload_n 0, 1) := by decide +kernel
theorem dL_law_757 : decode (hr_cd 194) 757 = .ok (.iload_n 3, 1) := by decide +kernel
theorem dL_law_758 : decode (hr_cd 194) 758 = .ok (.iconst 1, 1) := by decide +kernel
theorem dL_law_759 : decode (hr_cd 194) 759 = .ok (.iadd, 1) := by decide +kernel
theorem dL_law_760 : decode (hr_cd 194) 760 = .ok (.iaload, 1) := by decide +kernel
theorem dL_law_761 : decode (hr_cd 194) 761 = .ok (.aload_n 0, 1) := by decide +kernel
theorem dL_law_762 : decode (hr_cd 194) 762 = .ok (.iload_n 3, 1) := by decide +kernel
theorem dL_law_763 : decode (hr_cd 194) 763 = .ok (.iconst 2, 1) := by decide +kernel
theorem dL_law_764 : decode (hr_cd 194) 764 = .ok (.iadd, 1) := by decide +kernel
theorem dL_law_765 : decode (hr_cd 194) 765 = .ok (.iaload, 1) := by decide +kernel
theorem dL_law_766 : decode (hr_cd 194) 766 = .ok (.invokevirtual 104, 3) := by decide +kernel
theorem dL_law_769 : decode (hr_cd 194) 769 = .ok (.if_icmp .eq 365, 3) := by decide +kernel
theorem dL_law_772 : decode (hr_cd 194) 772 = .ok (.iconst 0, 1) := by decide +kernel
theorem dL_law_773 : decode (hr_cd 194) 773 = .ok (.ireturn, 1) := by decide +kernel
theorem dL_law_774 : decode (hr_cd 194) 774 = .ok (.aload_n 1, 1) := by decide +kernel
theorem dL_law_775 : decode (hr_cd 194) 775 = .ok (.invokevirtual 105, 3) := by decide +kernel
theorem dL_law_778 : decode (hr_cd 194) 778 = .ok (.aload_n 2, 1) := by decide +kernel
theorem dL_law_779 : decode (hr_cd 194) 779 = .ok (.invokevirtual 108, 3) := by decide +kernel
theorem dL_law_782 : decode (hr_cd 194) 782 = .ok (.if_icmp .eq 352, 3) := by decide +kernel
theorem dL_law_785 : decode (hr_cd 194) 785 = .ok (.iconst 0, 1) := by decide +kernel
theorem dL_law_786 : decode (hr_cd 194) 786 = .ok (.ireturn, 1) := by decide +kernel
theorem dL_law_787 : decode (hr_cd 194) 787 = .ok (.aload_n 1, 1) := by decide +kernel
theorem dL_law_788 : decode (hr_cd 194) 788 = .ok (.invokevirtual 109, 3) := by decide +kernel
theorem dL_law_791 : decode (hr_cd 194) 791 = .ok (.aload_n 2, 1) := by decide +kernel
theorem dL_law_792 : decode (hr_cd 194) 792 = .ok (.invokevirtual 112, 3) := by decide +kernel
theorem dL_law_795 : decode (hr_cd 194) 795 = .ok (.if_icmp .eq 339, 3) := by decide +kernel
theorem dL_law_798 : decode (hr_cd 194) 798 = .ok (.iconst 0, 1) := by decide +kernel
theorem dL_law_799 : decode (hr_cd 194) 799 = .ok (.ireturn, 1) := by decide +kernel
theorem dL_law_800 : decode (hr_cd 194) 800 = .ok (.aload_n 1, 1) := by decide +kernel
theorem dL_law_801 : decode (hr_cd 194) 801 = .ok (.aload_n 0, 1) := by decide +kernel
theorem dL_law_802 : decode (hr_cd 194) 802 = .ok (.iload_n 3, 1) := by decide +kernel
theorem dL_law_803 : decode (hr_cd 194) 803 = .ok (.iconst 1, 1) := by decide +kernel
theorem dL_law_804 : decode (hr_cd 194) 804 = .ok (.iadd, 1) := by decide +kernel
theorem dL_law_805 : decode (hr_cd 194) 805 = .ok (.iaload, 1) := by decide +kernel
theorem dL_law_806 : decode (hr_cd 194) 806 = .ok (.aload_n 0, 1) := by decide +kernel
theorem dL_law_807 : decode (hr_cd 194) 807 = .ok (.iload_n 3, 1) := by decide +kernel
theorem dL_law_808 : decode (hr_cd 194) 808 = .ok (.iconst 2, 1) := by decide +kernel
theorem dL_law_809 : decode (hr_cd 194) 809 = .ok (.iadd, 1) := by decide +kernel
theorem dL_law_810 : decode (hr_cd 194) 810 = .ok (.iaload, 1) := by decide +kernel
theorem dL_law_811 : decode (hr_cd 194) 811 = .ok (.aload_n 0, 1) := by decide +kernel
theorem dL_law_812 : decode (hr_cd 194) 812 = .ok (.iload_n 3, 1) := by decide +kernel
theorem dL_law_813 : decode (hr_cd 194) 813 = .ok (.iconst 3, 1) := by decide +kernel
theorem dL_law_814 : decode (hr_cd 194) 814 = .ok (.iadd, 1) := by decide +kernel
theorem dL_law_815 : decode (hr_cd 194) 815 = .ok (.iaload, 1) := by decide +kernel
theorem dL_law_816 : decode (hr_cd 194) 816 = .ok (.invokevirtual 113, 3) := by decide +kernel
theorem dL_law_819 : decode (hr_cd 194) 819 = .ok (.aload_n 2, 1) := by decide +kernel
theorem dL_law_820 : decode (hr_cd 194) 820 = .ok (.aload_n 0, 1) := by decide +kernel
theorem dL_law_821 : decode (hr_cd 194) 821 = .ok (.iload_n 3, 1) := by decide +kernel
theorem dL_law_822 : decode (hr_cd 194) 822 = .ok (.iconst 1, 1) := by decide +kernel
theorem dL_law_823 : decode (hr_cd 194) 823 = .ok (.iadd, 1) := by decide +kernel
theorem dL_law_824 : decode (hr_cd 194) 824 = .ok (.iaload, 1) := by decide +kernel
theorem dL_law_825 : decode (hr_cd 194) 825 = .ok (.aload_n 0, 1) := by decide +kernel
theorem dL_law_826 : decode (hr_cd 194) 826 = .ok (.iload_n 3, 1) := by decide +kernel
theorem dL_law_827 : decode (hr_cd 194) 827 = .ok (.iconst 2, 1) := by decide +kernel
theorem dL_law_828 : decode (hr_cd 194) 828 = .ok (.iadd, 1) := by decide +kernel
theorem dL_law_829 : decode (hr_cd 194) 829 = .ok (.iaload, 1) := by decide +kernel
theorem dL_law_830 : decode (hr_cd 194) 830 = .ok (.aload_n 0, 1) := by decide +kernel
theorem dL_law_831 : decode (hr_cd 194) 831 = .ok (.iload_n 3, 1) := by decide +kernel
theorem dL_law_832 : decode (hr_cd 194) 832 = .ok (.iconst 3, 1) := by decide +kernel
theorem dL_law_833 : decode (hr_cd 194) 833 = .ok (.iadd, 1) := by decide +kernel
theorem dL_law_834 : decode (hr_cd 194) 834 = .ok (.iaload, 1) := by decide +kernel
theorem dL_law_835 : decode (hr_cd 194) 835 = .ok (.invokevirtual 116, 3) := by decide +kernel
theorem dL_law_838 : decode (hr_cd 194) 838 = .ok (.if_icmp .eq 296, 3) := by decide +kernel
theorem dL_law_841 : decode (hr_cd 194) 841 = .ok (.iconst 0, 1) := by decide +kernel
theorem dL_law_842 : decode (hr_cd 194) 842 = .ok (.ireturn, 1) := by decide +kernel
theorem dL_law_843 : decode (hr_cd 194) 843 = .ok (.aload_n 1, 1) := by decide +kernel
theorem dL_law_844 : decode (hr_cd 194) 844 = .ok (.aload_n 0, 1) := by decide +kernel
theorem dL_law_845 : decode (hr_cd 194) 845 = .ok (.iload_n 3, 1) := by decide +kernel
theorem dL_law_846 : decode (hr_cd 194) 846 = .ok (.iconst 1, 1) := by decide +kernel
theorem dL_law_847 : decode (hr_cd 194) 847 = .ok (.iadd, 1) := by decide +kernel
theorem dL_law_848 : decode (hr_cd 194) 848 = .ok (.iaload, 1) := by decide +kernel
theorem dL_law_849 : decode (hr_cd 194) 849 = .ok (.aload_n 0, 1) := by decide +kernel
theorem dL_law_850 : decode (hr_cd 194) 850 = .ok (.iload_n 3, 1) := by decide +kernel
theorem dL_law_851 : decode (hr_cd 194) 851 = .ok (.iconst 2, 1) := by decide +kernel
theorem dL_law_852 : decode (hr_cd 194) 852 = .ok (.iadd, 1) := by decide +kernel
theorem dL_law_853 : decode (hr_cd 194) 853 = .ok (.iaload, 1) := by decide +kernel
theorem dL_law_854 : decode (hr_cd 194) 854 = .ok (.aload_n 0, 1) := by decide +kernel
theorem dL_law_855 : decode (hr_cd 194) 855 = .ok (.iload_n 3, 1) := by decide +kernel
theorem dL_law_856 : decode (hr_cd 194) 856 = .ok (.iconst 3, 1) := by decide +kernel
theorem dL_law_857 : decode (hr_cd 194) 857 = .ok (.iadd, 1) := by decide +kernel
theorem dL_law_858 : decode (hr_cd 194) 858 = .ok (.iaload, 1) := by decide +kernel
theorem dL_law_859 : decode (hr_cd 194) 859 = .ok (.i2l, 1) := by decide +kernel
theorem dL_law_860 : decode (hr_cd 194) 860 = .ok (.bipush 32, 2) := by decide +kernel
theorem dL_law_862 : decode (hr_cd 194) 862 = .ok (.lshl, 1) := by decide +kernel
theorem dL_law_863 : decode (hr_cd 194) 863 = .ok (.aload_n 0, 1) := by decide +kernel
theorem dL_law_864 : decode (hr_cd 194) 864 = .ok (.iload_n 3, 1) := by decide +kernel
theorem dL_law_865 : decode (hr_cd 194) 865 = .ok (.iconst 4, 1) := by decide +kernel
theorem dL_law_866 : decode (hr_cd 194) 866 = .ok (.iadd, 1) := by decide +kernel
theorem dL_law_867 : decode (hr_cd 194) 867 = .ok (.iaload, 1) := by decide +kernel
theorem dL_law_868 : decode (hr_cd 194) 868 = .ok (.i2l, 1) := by decide +kernel
theorem dL_law_869 : decode (hr_cd 194) 869 = .ok (.ldc2_w 117, 3) := by decide +kernel
theorem dL_law_872 : decode (hr_cd 194) 872 = .ok (.land, 1) := by decide +kernel
theorem dL_law_873 : decode (hr_cd 194) 873 = .ok (.lor, 1) := by decide +kernel
theorem dL_law_874 : decode (hr_cd 194) 874 = .ok (.invokevirtual 119, 3) := by decide +kernel
theorem dL_law_877 : decode (hr_cd 194) 877 = .ok (.aload_n 2, 1) := by decide +kernel
theorem dL_law_878 : decode (hr_cd 194) 878 = .ok (.aload_n 0, 1) := by decide +kernel
theorem dL_law_879 : decode (hr_cd 194) 879 = .ok (.iload_n 3, 1) := by decide +kernel
theorem dL_law_880 : decode (hr_cd 194) 880 = .ok (.iconst 1, 1) := by decide +kernel
theorem dL_law_881 : decode (hr_cd 194) 881 = .ok (.iadd, 1) := by decide +kernel
theorem dL_law_882 : decode (hr_cd 194) 882 = .ok (.iaload, 1) := by decide +kernel
theorem dL_law_883 : decode (hr_cd 194) 883 = .ok (.aload_n 0, 1) := by decide +kernel
theorem dL_law_884 : decode (hr_cd 194) 884 = .ok (.iload_n 3, 1) := by decide +kernel
theorem dL_law_885 : decode (hr_cd 194) 885 = .ok (.iconst 2, 1) := by decide +kernel
theorem dL_law_886 : decode (hr_cd 194) 886 = .ok (.iadd, 1) := by decide +kernel
theorem dL_law_887 : decode (hr_cd 194) 887 = .ok (.iaload, 1) := by decide +kernel
theorem dL_law_888 : decode (hr_cd 194) 888 = .ok (.aload_n 0, 1) := by decide +kernel
theorem dL_law_889 : decode (hr_cd 194) 889 = .ok (.iload_n 3, 1) := by decide +kernel
theorem dL_law_890 : decode (hr_cd 194) 890 = .ok (.iconst 3, 1) := by decide +kernel
theorem dL_law_891 : decode (hr_cd 194) 891 = .ok (.iadd, 1) := by decide +kernel
theorem dL_law_892 : decode (hr_cd 194) 892 = .ok (.iaload, 1) := by decide +kernel
theorem dL_law_893 : decode (hr_cd 194) 893 = .ok (.i2l, 1) := by decide +kernel
theorem dL_law_894 : decode (hr_cd 194) 894 = .ok (.bipush 32, 2) := by decide +kernel
theorem dL_law_896 : decode (hr_cd 194) 896 = .ok (.lshl, 1) := by decide +kernel
theorem dL_law_897 : decode (hr_cd 194) 897 = .ok (.aload_n 0, 1) := by decide +kernel
theorem dL_law_898 : decode (hr_cd 194) 898 = .ok (.iload_n 3, 1) := by decide +kernel
theorem dL_law_899 : decode (hr_cd 194) 899 = .ok (.iconst 4, 1) := by decide +kernel
theorem dL_law_900 : decode (hr_cd 194) 900 = .ok (.iadd, 1) := by decide +kernel
theorem dL_law_901 : decode (hr_cd 194) 901 = .ok (.iaload, 1) := by decide +kernel
theorem dL_law_902 : decode (hr_cd 194) 902 = .ok (.i2l, 1) := by decide +kernel
theorem dL_law_903 : decode (hr_cd 194) 903 = .ok (.ldc2_w 117, 3) := by decide +kernel
theorem dL_law_906 : decode (hr_cd 194) 906 = .ok (.land, 1) := by decide +kernel
theorem dL_law_907 : decode (hr_cd 194) 907 = .ok (.lor, 1) := by decide +kernel
theorem dL_law_908 : decode (hr_cd 194) 908 = .ok (.invokevirtual 123, 3) := by decide +kernel
theorem dL_law_911 : decode (hr_cd 194) 911 = .ok (.lcmp, 1) := by decide +kernel
theorem dL_law_912 : decode (hr_cd 194) 912 = .ok (.ifCond .eq 222, 3) := by decide +kernel
theorem dL_law_915 : decode (hr_cd 194) 915 = .ok (.iconst 0, 1) := by decide +kernel
theorem dL_law_916 : decode (hr_cd 194) 916 = .ok (.ireturn, 1) := by decide +kernel
theorem dL_law_917 : decode (hr_cd 194) 917 = .ok (.aload_n 1, 1) := by decide +kernel
theorem dL_law_918 : decode (hr_cd 194) 918 = .ok (.aload_n 0, 1) := by decide +kernel
theorem dL_law_919 : decode (hr_cd 194) 919 = .ok (.iload_n 3, 1) := by decide +kernel
theorem dL_law_920 : decode (hr_cd 194) 920 = .ok (.iconst 1, 1) := by decide +kernel
theorem dL_law_921 : decode (hr_cd 194) 921 = .ok (.iadd, 1) := by decide +kernel
theorem dL_law_922 : decode (hr_cd 194) 922 = .ok (.iaload, 1) := by decide +kernel
theorem dL_law_923 : decode (hr_cd 194) 923 = .ok (.aload_n 0, 1) := by decide +kernel
theorem dL_law_924 : decode (hr_cd 194) 924 = .ok (.iload_n 3, 1) := by decide +kernel
theorem dL_law_925 : decode (hr_cd 194) 925 = .ok (.iconst 2, 1) := by decide +kernel
theorem dL_law_926 : decode (hr_cd 194) 926 = .ok (.iadd, 1) := by decide +kernel
theorem dL_law_927 : decode (hr_cd 194) 927 = .ok (.iaload, 1) := by decide +kernel
theorem dL_law_928 : decode (hr_cd 194) 928 = .ok (.aload_n 0, 1) := by decide +kernel
theorem dL_law_929 : decode (hr_cd 194) 929 = .ok (.iload_n 3, 1) := by decide +kernel
theorem dL_law_930 : decode (hr_cd 194) 930 = .ok (.iconst 3, 1) := by decide +kernel
theorem dL_law_931 : decode (hr_cd 194) 931 = .ok (.iadd, 1) := by decide +kernel
theorem dL_law_932 : decode (hr_cd 194) 932 = .ok (.iaload, 1) := by decide +kernel
theorem dL_law_933 : decode (hr_cd 194) 933 = .ok (.aload_n 0, 1) := by decide +kernel
theorem dL_law_934 : decode (hr_cd 194) 934 = .ok (.iload_n 3, 1) := by decide +kernel
theorem dL_law_935 : decode (hr_cd 194) 935 = .ok (.iconst 4, 1) := by decide +kernel
theorem dL_law_936 : decode (hr_cd 194) 936 = .ok (.iadd, 1) := by decide +kernel
theorem dL_law_937 : decode (hr_cd 194) 937 = .ok (.iaload, 1) := by decide +kernel
theorem dL_law_938 : decode (hr_cd 194) 938 = .ok (.aload_n 0, 1) := by decide +kernel
theorem dL_law_939 : decode (hr_cd 194) 939 = .ok (.iload_n 3, 1) := by decide +kernel
theorem dL_law_940 : decode (hr_cd 194) 940 = .ok (.iconst 5, 1) := by decide +kernel
theorem dL_law_941 : decode (hr_cd 194) 941 = .ok (.iadd, 1) := by decide +kernel
theorem dL_law_942 : decode (hr_cd 194) 942 = .ok (.iaload, 1) := by decide +kernel
theorem dL_law_943 : decode (hr_cd 194) 943 = .ok (.invokevirtual 124, 3) := by decide +kernel
theorem dL_law_946 : decode (hr_cd 194) 946 = .ok (.aload_n 2, 1) := by decide +kernel
theorem dL_law_947 : decode (hr_cd 194) 947 = .ok (.aload_n 0, 1) := by decide +kernel
theorem dL_law_948 : decode (hr_cd 194) 948 = .ok (.iload_n 3, 1) := by decide +kernel
theorem dL_law_949 : decode (hr_cd 194) 949 = .ok (.iconst 1, 1) := by decide +kernel
theorem dL_law_950 : decode (hr_cd 194) 950 = .ok (.iadd, 1) := by decide +kernel
theorem dL_law_951 : decode (hr_cd 194) 951 = .ok (.iaload, 1) := by decide +kernel
theorem dL_law_952 : decode (hr_cd 194) 952 = .ok (.aload_n 0, 1) := by decide +kernel
theorem dL_law_953 : decode (hr_cd 194) 953 = .ok (.iload_n 3, 1) := by decide +kernel
theorem dL_law_954 : decode (hr_cd 194) 954 = .ok (.iconst 2, 1) := by decide +kernel
theorem dL_law_955 : decode (hr_cd 194) 955 = .ok (.iadd, 1) := by decide +kernel
theorem dL_law_956 : decode (hr_cd 194) 956 = .ok (.iaload, 1) := by decide +kernel
theorem dL_law_957 : decode (hr_cd 194) 957 = .ok (.aload_n 0, 1) := by decide +kernel
theorem dL_law_958 : decode (hr_cd 194) 958 = .ok (.iload_n 3, 1) := by decide +kernel
theorem dL_law_959 : decode (hr_cd 194) 959 = .ok (.iconst 3, 1) := by decide +kernel
theorem dL_law_960 : decode (hr_cd 194) 960 = .ok (.iadd, 1) := by decide +kernel
theorem dL_law_961 : decode (hr_cd 194) 961 = .ok (.iaload, 1) := by decide +kernel
theorem dL_law_962 : decode (hr_cd 194) 962 = .ok (.aload_n 0, 1) := by decide +kernel
theorem dL_law_963 : decode (hr_cd 194) 963 = .ok (.iload_n 3, 1) := by decide +kernel
theorem dL_law_964 : decode (hr_cd 194) 964 = .ok (.iconst 4, 1) := by decide +kernel
theorem dL_law_965 : decode (hr_cd 194) 965 = .ok (.iadd, 1) := by decide +kernel
theorem dL_law_966 : decode (hr_cd 194) 966 = .ok (.iaload, 1) := by decide +kernel
theorem dL_law_967 : decode (hr_cd 194) 967 = .ok (.aload_n 0, 1) := by decide +kernel
theorem dL_law_968 : decode (hr_cd 194) 968 = .ok (.iload_n 3, 1) := by decide +kernel
theorem dL_law_969 : decode (hr_cd 194) 969 = .ok (.iconst 5, 1) := by decide +kernel
theorem dL_law_970 : decode (hr_cd 194) 970 = .ok (.iadd, 1) := by decide +kernel
theorem dL_law_971 : decode (hr_cd 194) 971 = .ok (.iaload, 1) := by decide +kernel
theorem dL_law_972 : decode (hr_cd 194) 972 = .ok (.invokevirtual 128, 3) := by decide +kernel
theorem dL_law_975 : decode (hr_cd 194) 975 = .ok (.if_icmp .eq 159, 3) := by decide +kernel
theorem dL_law_978 : decode (hr_cd 194) 978 = .ok (.iconst 0, 1) := by decide +kernel
theorem dL_law_979 : decode (hr_cd 194) 979 = .ok (.ireturn, 1) := by decide +kernel
theorem dL_law_980 : decode (hr_cd 194) 980 = .ok (.aload_n 1, 1) := by decide +kernel
theorem dL_law_981 : decode (hr_cd 194) 981 = .ok (.aload_n 0, 1) := by decide +kernel
theorem dL_law_982 : decode (hr_cd 194) 982 = .ok (.iload_n 3, 1) := by decide +kernel
theorem dL_law_983 : decode (hr_cd 194) 983 = .ok (.iconst 1, 1) := by decide +kernel
theorem dL_law_984 : decode (hr_cd 194) 984 = .ok (.iadd, 1) := by decide +kernel
theorem dL_law_985 : decode (hr_cd 194) 985 = .ok (.iaload, 1) := by decide +kernel
theorem dL_law_986 : decode (hr_cd 194) 986 = .ok (.invokevirtual 129, 3) := by decide +kernel
theorem dL_law_989 : decode (hr_cd 194) 989 = .ok (.aload_n 2, 1) := by decide +kernel
theorem dL_law_990 : decode (hr_cd 194) 990 = .ok (.aload_n 0, 1) := by decide +kernel
theorem dL_law_991 : decode (hr_cd 194) 991 = .ok (.iload_n 3, 1) := by decide +kernel
theorem dL_law_992 : decode (hr_cd 194) 992 = .ok (.iconst 1, 1) := by decide +kernel
theorem dL_law_993 : decode (hr_cd 194) 993 = .ok (.iadd, 1) := by decide +kernel
theorem dL_law_994 : decode (hr_cd 194) 994 = .ok (.iaload, 1) := by decide +kernel
theorem dL_law_995 : decode (hr_cd 194) 995 = .ok (.invokevirtual 132, 3) := by decide +kernel
theorem dL_law_998 : decode (hr_cd 194) 998 = .ok (.if_icmp .eq 136, 3) := by decide +kernel
theorem dL_law_1001 : decode (hr_cd 194) 1001 = .ok (.iconst 0, 1) := by decide +kernel
theorem dL_law_1002 : decode (hr_cd 194) 1002 = .ok (.ireturn, 1) := by decide +kernel
theorem dL_law_1003 : decode (hr_cd 194) 1003 = .ok (.aload_n 1, 1) := by decide +kernel
theorem dL_law_1004 : decode (hr_cd 194) 1004 = .ok (.aload_n 0, 1) := by decide +kernel
theorem dL_law_1005 : decode (hr_cd 194) 1005 = .ok (.iload_n 3, 1) := by decide +kernel
theorem dL_law_1006 : decode (hr_cd 194) 1006 = .ok (.iconst 1, 1) := by decide +kernel
theorem dL_law_1007 : decode (hr_cd 194) 1007 = .ok (.iadd, 1) := by decide +kernel
theorem dL_law_1008 : decode (hr_cd 194) 1008 = .ok (.iaload, 1) := by decide +kernel
theorem dL_law_1009 : decode (hr_cd 194) 1009 = .ok (.invokevirtual 133, 3) := by decide +kernel
theorem dL_law_1012 : decode (hr_cd 194) 1012 = .ok (.aload_n 2, 1) := by decide +kernel
theorem dL_law_1013 : decode (hr_cd 194) 1013 = .ok (.aload_n 0, 1) := by decide +kernel
theorem dL_law_1014 : decode (hr_cd 194) 1014 = .ok (.iload_n 3, 1) := by decide +kernel
theorem dL_law_1015 : decode (hr_cd 194) 1015 = .ok (.iconst 1, 1) := by decide +kernel
theorem dL_law_1016 : decode (hr_cd 194) 1016 = .ok (.iadd, 1) := by decide +kernel
theorem dL_law_1017 : decode (hr_cd 194) 1017 = .ok (.iaload, 1) := by decide +kernel
theorem dL_law_1018 : decode (hr_cd 194) 1018 = .ok (.invokevirtual 136, 3) := by decide +kernel
theorem dL_law_1021 : decode (hr_cd 194) 1021 = .ok (.if_icmp .eq 113, 3) := by decide +kernel
theorem dL_law_1024 : decode (hr_cd 194) 1024 = .ok (.iconst 0, 1) := by decide +kernel
theorem dL_law_1025 : decode (hr_cd 194) 1025 = .ok (.ireturn, 1) := by decide +kernel
theorem dL_law_1026 : decode (hr_cd 194) 1026 = .ok (.aload_n 1, 1) := by decide +kernel
theorem dL_law_1027 : decode (hr_cd 194) 1027 = .ok (.aload_n 0, 1) := by decide +kernel
theorem dL_law_1028 : decode (hr_cd 194) 1028 = .ok (.iload_n 3, 1) := by decide +kernel
theorem dL_law_1029 : decode (hr_cd 194) 1029 = .ok (.iconst 1, 1) := by decide +kernel
theorem dL_law_1030 : decode (hr_cd 194) 1030 = .ok (.iadd, 1) := by decide +kernel
theorem dL_law_1031 : decode (hr_cd 194) 1031 = .ok (.iaload, 1) := by decide +kernel
theorem dL_law_1032 : decode (hr_cd 194) 1032 = .ok (.invokevirtual 137, 3) := by decide +kernel
theorem dL_law_1035 : decode (hr_cd 194) 1035 = .ok (.aload_n 2, 1) := by decide +kernel
theorem dL_law_1036 : decode (hr_cd 194) 1036 = .ok (.aload_n 0, 1) := by decide +kernel
theorem dL_law_1037 : decode (hr_cd 194) 1037 = .ok (.iload_n 3, 1) := by decide +kernel
theorem dL_law_1038 : decode (hr_cd 194) 1038 = .ok (.iconst 1, 1) := by decide +kernel
theorem dL_law_1039 : decode (hr_cd 194) 1039 = .ok (.iadd, 1) := by decide +kernel
theorem dL_law_1040 : decode (hr_cd 194) 1040 = .ok (.iaload, 1) := by decide +kernel
theorem dL_law_1041 : decode (hr_cd 194) 1041 = .ok (.invokevirtual 140, 3) := by decide +kernel
theorem dL_law_1044 : decode (hr_cd 194) 1044 = .ok (.if_icmp .eq 90, 3) := by decide +kernel
theorem dL_law_1047 : decode (hr_cd 194) 1047 = .ok (.iconst 0, 1) := by decide +kernel
theorem dL_law_1048 : decode (hr_cd 194) 1048 = .ok (.ireturn, 1) := by decide +kernel
theorem dL_law_1049 : decode (hr_cd 194) 1049 = .ok (.aload_n 1, 1) := by decide +kernel
theorem dL_law_1050 : decode (hr_cd 194) 1050 = .ok (.invokevirtual 141, 3) := by decide +kernel
theorem dL_law_1053 : decode (hr_cd 194) 1053 = .ok (.aload_n 2, 1) := by decide +kernel
theorem dL_law_1054 : decode (hr_cd 194) 1054 = .ok (.invokevirtual 144, 3) := by decide +kernel
theorem dL_law_1057 : decode (hr_cd 194) 1057 = .ok (.if_icmp .eq 77, 3) := by decide +kernel
theorem dL_law_1060 : decode (hr_cd 194) 1060 = .ok (.iconst 0, 1) := by decide +kernel
theorem dL_law_1061 : decode (hr_cd 194) 1061 = .ok (.ireturn, 1) := by decide +kernel
theorem dL_law_1062 : decode (hr_cd 194) 1062 = .ok (.aload_n 1, 1) := by decide +kernel
theorem dL_law_1063 : decode (hr_cd 194) 1063 = .ok (.invokevirtual 145, 3) := by decide +kernel
theorem dL_law_1066 : decode (hr_cd 194) 1066 = .ok (.aload_n 2, 1) := by decide +kernel
theorem dL_law_1067 : decode (hr_cd 194) 1067 = .ok (.invokevirtual 148, 3) := by decide +kernel
theorem dL_law_1070 : decode (hr_cd 194) 1070 = .ok (.if_icmp .eq 64, 3) := by decide +kernel
theorem dL_law_1073 : decode (hr_cd 194) 1073 = .ok (.iconst 0, 1) := by decide +kernel
theorem dL_law_1074 : decode (hr_cd 194) 1074 = .ok (.ireturn, 1) := by decide +kernel
theorem dL_law_1075 : decode (hr_cd 194) 1075 = .ok (.aload_n 1, 1) := by decide +kernel
theorem dL_law_1076 : decode (hr_cd 194) 1076 = .ok (.invokevirtual 149, 3) := by decide +kernel
theorem dL_law_1079 : decode (hr_cd 194) 1079 = .ok (.aload_n 2, 1) := by decide +kernel
theorem dL_law_1080 : decode (hr_cd 194) 1080 = .ok (.invokevirtual 152, 3) := by decide +kernel
theorem dL_law_1083 : decode (hr_cd 194) 1083 = .ok (.if_icmp .eq 51, 3) := by decide +kernel
theorem dL_law_1086 : decode (hr_cd 194) 1086 = .ok (.iconst 0, 1) := by decide +kernel
theorem dL_law_1087 : decode (hr_cd 194) 1087 = .ok (.ireturn, 1) := by decide +kernel
theorem dL_law_1088 : decode (hr_cd 194) 1088 = .ok (.aload_n 1, 1) := by decide +kernel
theorem dL_law_1089 : decode (hr_cd 194) 1089 = .ok (.aload_n 0, 1) := by decide +kernel
theorem dL_law_1090 : decode (hr_cd 194) 1090 = .ok (.iload_n 3, 1) := by decide +kernel
theorem dL_law_1091 : decode (hr_cd 194) 1091 = .ok (.iconst 1, 1) := by decide +kernel
theorem dL_law_1092 : decode (hr_cd 194) 1092 = .ok (.iadd, 1) := by decide +kernel
theorem dL_law_1093 : decode (hr_cd 194) 1093 = .ok (.iaload, 1) := by decide +kernel
theorem dL_law_1094 : decode (hr_cd 194) 1094 = .ok (.invokevirtual 153, 3) := by decide +kernel
theorem dL_law_1097 : decode (hr_cd 194) 1097 = .ok (.aload_n 2, 1) := by decide +kernel
theorem dL_law_1098 : decode (hr_cd 194) 1098 = .ok (.aload_n 0, 1) := by decide +kernel
theorem dL_law_1099 : decode (hr_cd 194) 1099 = .ok (.iload_n 3, 1) := by decide +kernel
theorem dL_law_1100 : decode (hr_cd 194) 1100 = .ok (.iconst 1, 1) := by decide +kernel
theorem dL_law_1101 : decode (hr_cd 194) 1101 = .ok (.iadd, 1) := by decide +kernel
theorem dL_law_1102 : decode (hr_cd 194) 1102 = .ok (.iaload, 1) := by decide +kernel
theorem dL_law_1103 : decode (hr_cd 194) 1103 = .ok (.invokevirtual 156, 3) := by decide +kernel
theorem dL_law_1106 : decode (hr_cd 194) 1106 = .ok (.if_icmp .eq 28, 3) := by decide +kernel
theorem dL_law_1109 : decode (hr_cd 194) 1109 = .ok (.iconst 0, 1) := by decide +kernel
theorem dL_law_1110 : decode (hr_cd 194) 1110 = .ok (.ireturn, 1) := by decide +kernel
theorem dL_law_1111 : decode (hr_cd 194) 1111 = .ok (.aload_n 1, 1) := by decide +kernel
theorem dL_law_1112 : decode (hr_cd 194) 1112 = .ok (.aload_n 0, 1) := by decide +kernel
theorem dL_law_1113 : decode (hr_cd 194) 1113 = .ok (.iload_n 3, 1) := by decide +kernel
theorem dL_law_1114 : decode (hr_cd 194) 1114 = .ok (.iconst 1, 1) := by decide +kernel
theorem dL_law_1115 : decode (hr_cd 194) 1115 = .ok (.iadd, 1) := by decide +kernel
theorem dL_law_1116 : decode (hr_cd 194) 1116 = .ok (.iaload, 1) := by decide +kernel
theorem dL_law_1117 : decode (hr_cd 194) 1117 = .ok (.invokevirtual 157, 3) := by decide +kernel
theorem dL_law_1120 : decode (hr_cd 194) 1120 = .ok (.aload_n 2, 1) := by decide +kernel
theorem dL_law_1121 : decode (hr_cd 194) 1121 = .ok (.aload_n 0, 1) := by decide +kernel
theorem dL_law_1122 : decode (hr_cd 194) 1122 = .ok (.iload_n 3, 1) := by decide +kernel
theorem dL_law_1123 : decode (hr_cd 194) 1123 = .ok (.iconst 1, 1) := by decide +kernel
theorem dL_law_1124 : decode (hr_cd 194) 1124 = .ok (.iadd, 1) := by decide +kernel
theorem dL_law_1125 : decode (hr_cd 194) 1125 = .ok (.iaload, 1) := by decide +kernel
theorem dL_law_1126 : decode (hr_cd 194) 1126 = .ok (.invokevirtual 160, 3) := by decide +kernel
theorem dL_law_1129 : decode (hr_cd 194) 1129 = .ok (.if_icmp .eq 5, 3) := by decide +kernel
theorem dL_law_1132 : decode (hr_cd 194) 1132 = .ok (.iconst 0, 1) := by decide +kernel
theorem dL_law_1133 : decode (hr_cd 194) 1133 = .ok (.ireturn, 1) := by decide +kernel
theorem dL_law_1134 : decode (hr_cd 194) 1134 = .ok (.iinc 3 6, 3) := by decide +kernel
theorem dL_law_1137 : decode (hr_cd 194) 1137 = .ok (.goto (-1119), 3) := by decide +kernel
theorem dL_law_1140 : decode (hr_cd 194) 1140 = .ok (.iconst 1, 1) := by decide +kernel
theorem dL_law_1141 : decode (hr_cd 194) 1141 = .ok (.ireturn, 1) := by decide +kernel
