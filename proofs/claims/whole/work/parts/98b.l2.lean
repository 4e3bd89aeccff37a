theorem at_L_0 : am_at L_law 0 = some (.new 7, 3) := by decide +kernel
theorem at_L_3 : am_at L_law 3 = some (.dup, 1) := by decide +kernel
theorem at_L_4 : am_at L_law 4 = some (.invokespecial 9, 3) := by decide +kernel
theorem at_L_7 : am_at L_law 7 = some (.astore_n 1, 1) := by decide +kernel
theorem at_L_8 : am_at L_law 8 = some (.new 10, 3) := by decide +kernel
theorem at_L_11 : am_at L_law 11 = some (.dup, 1) := by decide +kernel
theorem at_L_12 : am_at L_law 12 = some (.invokespecial 12, 3) := by decide +kernel
theorem at_L_15 : am_at L_law 15 = some (.astore_n 2, 1) := by decide +kernel
theorem at_L_16 : am_at L_law 16 = some (.iconst 0, 1) := by decide +kernel
theorem at_L_17 : am_at L_law 17 = some (.istore_n 3, 1) := by decide +kernel
theorem at_L_18 : am_at L_law 18 = some (.iload_n 3, 1) := by decide +kernel
theorem at_L_19 : am_at L_law 19 = some (.aload_n 0, 1) := by decide +kernel
theorem at_L_20 : am_at L_law 20 = some (.arraylength, 1) := by decide +kernel
theorem at_L_21 : am_at L_law 21 = some (.bipush 6, 2) := by decide +kernel
theorem at_L_23 : am_at L_law 23 = some (.isub, 1) := by decide +kernel
theorem at_L_24 : am_at L_law 24 = some (.if_icmp .gt 1197, 3) := by decide +kernel
theorem at_L_27 : am_at L_law 27 = some (.aload_n 0, 1) := by decide +kernel
theorem at_L_28 : am_at L_law 28 = some (.iload_n 3, 1) := by decide +kernel
theorem at_L_29 : am_at L_law 29 = some (.iaload, 1) := by decide +kernel
theorem at_L_30 : am_at L_law 30 = some (.bipush 31, 2) := by decide +kernel
theorem at_L_32 : am_at L_law 32 = some (.iand, 1) := by decide +kernel
theorem at_L_33 : am_at L_law 33 = some (.tableswitch 1182 0 31 #[143, 186, 219, 252, 285, 308, 341, 384, 407, 420, 443, 466, 499, 532, 575, 608, 652, 686, 719, 742, 775, 788, 821, 834, 847, 890, 913, 946, 969, 1012, 1085, 1119], 143) := by decide +kernel
theorem at_L_176 : am_at L_law 176 = some (.aload_n 1, 1) := by decide +kernel
theorem at_L_177 : am_at L_law 177 = some (.aload_n 0, 1) := by decide +kernel
theorem at_L_178 : am_at L_law 178 = some (.iload_n 3, 1) := by decide +kernel
theorem at_L_179 : am_at L_law 179 = some (.iconst 1, 1) := by decide +kernel
theorem at_L_180 : am_at L_law 180 = some (.iadd, 1) := by decide +kernel
theorem at_L_181 : am_at L_law 181 = some (.iaload, 1) := by decide +kernel
theorem at_L_182 : am_at L_law 182 = some (.aload_n 0, 1) := by decide +kernel
theorem at_L_183 : am_at L_law 183 = some (.iload_n 3, 1) := by decide +kernel
theorem at_L_184 : am_at L_law 184 = some (.iconst 2, 1) := by decide +kernel
theorem at_L_185 : am_at L_law 185 = some (.iadd, 1) := by decide +kernel
theorem at_L_186 : am_at L_law 186 = some (.iaload, 1) := by decide +kernel
theorem at_L_187 : am_at L_law 187 = some (.aload_n 0, 1) := by decide +kernel
theorem at_L_188 : am_at L_law 188 = some (.iload_n 3, 1) := by decide +kernel
theorem at_L_189 : am_at L_law 189 = some (.iconst 3, 1) := by decide +kernel
theorem at_L_190 : am_at L_law 190 = some (.iadd, 1) := by decide +kernel
theorem at_L_191 : am_at L_law 191 = some (.iaload, 1) := by decide +kernel
theorem at_L_192 : am_at L_law 192 = some (.invokevirtual 13, 3) := by decide +kernel
theorem at_L_195 : am_at L_law 195 = some (.aload_n 2, 1) := by decide +kernel
theorem at_L_196 : am_at L_law 196 = some (.aload_n 0, 1) := by decide +kernel
theorem at_L_197 : am_at L_law 197 = some (.iload_n 3, 1) := by decide +kernel
theorem at_L_198 : am_at L_law 198 = some (.iconst 1, 1) := by decide +kernel
theorem at_L_199 : am_at L_law 199 = some (.iadd, 1) := by decide +kernel
theorem at_L_200 : am_at L_law 200 = some (.iaload, 1) := by decide +kernel
theorem at_L_201 : am_at L_law 201 = some (.aload_n 0, 1) := by decide +kernel
theorem at_L_202 : am_at L_law 202 = some (.iload_n 3, 1) := by decide +kernel
theorem at_L_203 : am_at L_law 203 = some (.iconst 2, 1) := by decide +kernel
theorem at_L_204 : am_at L_law 204 = some (.iadd, 1) := by decide +kernel
theorem at_L_205 : am_at L_law 205 = some (.iaload, 1) := by decide +kernel
theorem at_L_206 : am_at L_law 206 = some (.aload_n 0, 1) := by decide +kernel
theorem at_L_207 : am_at L_law 207 = some (.iload_n 3, 1) := by decide +kernel
theorem at_L_208 : am_at L_law 208 = some (.iconst 3, 1) := by decide +kernel
theorem at_L_209 : am_at L_law 209 = some (.iadd, 1) := by decide +kernel
theorem at_L_210 : am_at L_law 210 = some (.iaload, 1) := by decide +kernel
theorem at_L_211 : am_at L_law 211 = some (.invokevirtual 17, 3) := by decide +kernel
theorem at_L_214 : am_at L_law 214 = some (.if_icmp .eq 1001, 3) := by decide +kernel
theorem at_L_217 : am_at L_law 217 = some (.iconst 0, 1) := by decide +kernel
theorem at_L_218 : am_at L_law 218 = some (.ireturn, 1) := by decide +kernel
theorem at_L_219 : am_at L_law 219 = some (.aload_n 1, 1) := by decide +kernel
theorem at_L_220 : am_at L_law 220 = some (.aload_n 0, 1) := by decide +kernel
theorem at_L_221 : am_at L_law 221 = some (.iload_n 3, 1) := by decide +kernel
theorem at_L_222 : am_at L_law 222 = some (.iconst 1, 1) := by decide +kernel
theorem at_L_223 : am_at L_law 223 = some (.iadd, 1) := by decide +kernel
theorem at_L_224 : am_at L_law 224 = some (.iaload, 1) := by decide +kernel
theorem at_L_225 : am_at L_law 225 = some (.aload_n 0, 1) := by decide +kernel
theorem at_L_226 : am_at L_law 226 = some (.iload_n 3, 1) := by decide +kernel
theorem at_L_227 : am_at L_law 227 = some (.iconst 2, 1) := by decide +kernel
theorem at_L_228 : am_at L_law 228 = some (.iadd, 1) := by decide +kernel
theorem at_L_229 : am_at L_law 229 = some (.iaload, 1) := by decide +kernel
theorem at_L_230 : am_at L_law 230 = some (.invokevirtual 18, 3) := by decide +kernel
theorem at_L_233 : am_at L_law 233 = some (.aload_n 2, 1) := by decide +kernel
theorem at_L_234 : am_at L_law 234 = some (.aload_n 0, 1) := by decide +kernel
theorem at_L_235 : am_at L_law 235 = some (.iload_n 3, 1) := by decide +kernel
theorem at_L_236 : am_at L_law 236 = some (.iconst 1, 1) := by decide +kernel
theorem at_L_237 : am_at L_law 237 = some (.iadd, 1) := by decide +kernel
theorem at_L_238 : am_at L_law 238 = some (.iaload, 1) := by decide +kernel
theorem at_L_239 : am_at L_law 239 = some (.aload_n 0, 1) := by decide +kernel
theorem at_L_240 : am_at L_law 240 = some (.iload_n 3, 1) := by decide +kernel
theorem at_L_241 : am_at L_law 241 = some (.iconst 2, 1) := by decide +kernel
theorem at_L_242 : am_at L_law 242 = some (.iadd, 1) := by decide +kernel
theorem at_L_243 : am_at L_law 243 = some (.iaload, 1) := by decide +kernel
theorem at_L_244 : am_at L_law 244 = some (.invokevirtual 22, 3) := by decide +kernel
theorem at_L_247 : am_at L_law 247 = some (.if_icmp .eq 968, 3) := by decide +kernel
theorem at_L_250 : am_at L_law 250 = some (.iconst 0, 1) := by decide +kernel
theorem at_L_251 : am_at L_law 251 = some (.ireturn, 1) := by decide +kernel
theorem at_L_252 : am_at L_law 252 = some (.aload_n 1, 1) := by decide +kernel
theorem at_L_253 : am_at L_law 253 = some (.aload_n 0, 1) := by decide +kernel
theorem at_L_254 : am_at L_law 254 = some (.iload_n 3, 1) := by decide +kernel
theorem at_L_255 : am_at L_law 255 = some (.iconst 1, 1) := by decide +kernel
theorem at_L_256 : am_at L_law 256 = some (.iadd, 1) := by decide +kernel
theorem at_L_257 : am_at L_law 257 = some (.iaload, 1) := by decide +kernel
theorem at_L_258 : am_at L_law 258 = some (.aload_n 0, 1) := by decide +kernel
theorem at_L_259 : am_at L_law 259 = some (.iload_n 3, 1) := by decide +kernel
theorem at_L_260 : am_at L_law 260 = some (.iconst 2, 1) := by decide +kernel
theorem at_L_261 : am_at L_law 261 = some (.iadd, 1) := by decide +kernel
theorem at_L_262 : am_at L_law 262 = some (.iaload, 1) := by decide +kernel
theorem at_L_263 : am_at L_law 263 = some (.invokevirtual 23, 3) := by decide +kernel
theorem at_L_266 : am_at L_law 266 = some (.aload_n 2, 1) := by decide +kernel
theorem at_L_267 : am_at L_law 267 = some (.aload_n 0, 1) := by decide +kernel
theorem at_L_268 : am_at L_law 268 = some (.iload_n 3, 1) := by decide +kernel
theorem at_L_269 : am_at L_law 269 = some (.iconst 1, 1) := by decide +kernel
theorem at_L_270 : am_at L_law 270 = some (.iadd, 1) := by decide +kernel
theorem at_L_271 : am_at L_law 271 = some (.iaload, 1) := by decide +kernel
theorem at_L_272 : am_at L_law 272 = some (.aload_n 0, 1) := by decide +kernel
theorem at_L_273 : am_at L_law 273 = some (.iload_n 3, 1) := by decide +kernel
theorem at_L_274 : am_at L_law 274 = some (.iconst 2, 1) := by decide +kernel
theorem at_L_275 : am_at L_law 275 = some (.iadd, 1) := by decide +kernel
theorem at_L_276 : am_at L_law 276 = some (.iaload, 1) := by decide +kernel
theorem at_L_277 : am_at L_law 277 = some (.invokevirtual 26, 3) := by decide +kernel
theorem at_L_280 : am_at L_law 280 = some (.if_icmp .eq 935, 3) := by decide +kernel
theorem at_L_283 : am_at L_law 283 = some (.iconst 0, 1) := by decide +kernel
theorem at_L_284 : am_at L_law 284 = some (.ireturn, 1) := by decide +kernel
theorem at_L_285 : am_at L_law 285 = some (.aload_n 1, 1) := by decide +kernel
theorem at_L_286 : am_at L_law 286 = some (.aload_n 0, 1) := by decide +kernel
theorem at_L_287 : am_at L_law 287 = some (.iload_n 3, 1) := by decide +kernel
theorem at_L_288 : am_at L_law 288 = some (.iconst 1, 1) := by decide +kernel
theorem at_L_289 : am_at L_law 289 = some (.iadd, 1) := by decide +kernel
theorem at_L_290 : am_at L_law 290 = some (.iaload, 1) := by decide +kernel
theorem at_L_291 : am_at L_law 291 = some (.aload_n 0, 1) := by decide +kernel
theorem at_L_292 : am_at L_law 292 = some (.iload_n 3, 1) := by decide +kernel
theorem at_L_293 : am_at L_law 293 = some (.iconst 2, 1) := by decide +kernel
theorem at_L_294 : am_at L_law 294 = some (.iadd, 1) := by decide +kernel
theorem at_L_295 : am_at L_law 295 = some (.iaload, 1) := by decide +kernel
theorem at_L_296 : am_at L_law 296 = some (.invokevirtual 27, 3) := by decide +kernel
theorem at_L_299 : am_at L_law 299 = some (.aload_n 2, 1) := by decide +kernel
theorem at_L_300 : am_at L_law 300 = some (.aload_n 0, 1) := by decide +kernel
theorem at_L_301 : am_at L_law 301 = some (.iload_n 3, 1) := by decide +kernel
theorem at_L_302 : am_at L_law 302 = some (.iconst 1, 1) := by decide +kernel
theorem at_L_303 : am_at L_law 303 = some (.iadd, 1) := by decide +kernel
theorem at_L_304 : am_at L_law 304 = some (.iaload, 1) := by decide +kernel
theorem at_L_305 : am_at L_law 305 = some (.aload_n 0, 1) := by decide +kernel
theorem at_L_306 : am_at L_law 306 = some (.iload_n 3, 1) := by decide +kernel
theorem at_L_307 : am_at L_law 307 = some (.iconst 2, 1) := by decide +kernel
theorem at_L_308 : am_at L_law 308 = some (.iadd, 1) := by decide +kernel
theorem at_L_309 : am_at L_law 309 = some (.iaload, 1) := by decide +kernel
theorem at_L_310 : am_at L_law 310 = some (.invokevirtual 30, 3) := by decide +kernel
theorem at_L_313 : am_at L_law 313 = some (.if_icmp .eq 902, 3) := by decide +kernel
theorem at_L_316 : am_at L_law 316 = some (.iconst 0, 1) := by decide +kernel
theorem at_L_317 : am_at L_law 317 = some (.ireturn, 1) := by decide +kernel
theorem at_L_318 : am_at L_law 318 = some (.aload_n 1, 1) := by decide +kernel
theorem at_L_319 : am_at L_law 319 = some (.aload_n 0, 1) := by decide +kernel
theorem at_L_320 : am_at L_law 320 = some (.iload_n 3, 1) := by decide +kernel
theorem at_L_321 : am_at L_law 321 = some (.iconst 1, 1) := by decide +kernel
theorem at_L_322 : am_at L_law 322 = some (.iadd, 1) := by decide +kernel
theorem at_L_323 : am_at L_law 323 = some (.iaload, 1) := by decide +kernel
theorem at_L_324 : am_at L_law 324 = some (.invokevirtual 31, 3) := by decide +kernel
theorem at_L_327 : am_at L_law 327 = some (.aload_n 2, 1) := by decide +kernel
theorem at_L_328 : am_at L_law 328 = some (.aload_n 0, 1) := by decide +kernel
theorem at_L_329 : am_at L_law 329 = some (.iload_n 3, 1) := by decide +kernel
theorem at_L_330 : am_at L_law 330 = some (.iconst 1, 1) := by decide +kernel
theorem at_L_331 : am_at L_law 331 = some (.iadd, 1) := by decide +kernel
theorem at_L_332 : am_at L_law 332 = some (.iaload, 1) := by decide +kernel
theorem at_L_333 : am_at L_law 333 = some (.invokevirtual 35, 3) := by decide +kernel
theorem at_L_336 : am_at L_law 336 = some (.if_icmp .eq 879, 3) := by decide +kernel
theorem at_L_339 : am_at L_law 339 = some (.iconst 0, 1) := by decide +kernel
theorem at_L_340 : am_at L_law 340 = some (.ireturn, 1) := by decide +kernel
theorem at_L_341 : am_at L_law 341 = some (.aload_n 1, 1) := by decide +kernel
theorem at_L_342 : am_at L_law 342 = some (.aload_n 0, 1) := by decide +kernel
theorem at_L_343 : am_at L_law 343 = some (.iload_n 3, 1) := by decide +kernel
theorem at_L_344 : am_at L_law 344 = some (.iconst 1, 1) := by decide +kernel
theorem at_L_345 : am_at L_law 345 = some (.iadd, 1) := by decide +kernel
theorem at_L_346 : am_at L_law 346 = some (.iaload, 1) := by decide +kernel
theorem at_L_347 : am_at L_law 347 = some (.aload_n 0, 1) := by decide +kernel
theorem at_L_348 : am_at L_law 348 = some (.iload_n 3, 1) := by decide +kernel
theorem at_L_349 : am_at L_law 349 = some (.iconst 2, 1) := by decide +kernel
theorem at_L_350 : am_at L_law 350 = some (.iadd, 1) := by decide +kernel
theorem at_L_351 : am_at L_law 351 = some (.iaload, 1) := by decide +kernel
theorem at_L_352 : am_at L_law 352 = some (.invokevirtual 36, 3) := by decide +kernel
theorem at_L_355 : am_at L_law 355 = some (.aload_n 2, 1) := by decide +kernel
theorem at_L_356 : am_at L_law 356 = some (.aload_n 0, 1) := by decide +kernel
theorem at_L_357 : am_at L_law 357 = some (.iload_n 3, 1) := by decide +kernel
theorem at_L_358 : am_at L_law 358 = some (.iconst 1, 1) := by decide +kernel
theorem at_L_359 : am_at L_law 359 = some (.iadd, 1) := by decide +kernel
theorem at_L_360 : am_at L_law 360 = some (.iaload, 1) := by decide +kernel
theorem at_L_361 : am_at L_law 361 = some (.aload_n 0, 1) := by decide +kernel
theorem at_L_362 : am_at L_law 362 = some (.iload_n 3, 1) := by decide +kernel
theorem at_L_363 : am_at L_law 363 = some (.iconst 2, 1) := by decide +kernel
theorem at_L_364 : am_at L_law 364 = some (.iadd, 1) := by decide +kernel
theorem at_L_365 : am_at L_law 365 = some (.iaload, 1) := by decide +kernel
theorem at_L_366 : am_at L_law 366 = some (.invokevirtual 39, 3) := by decide +kernel
theorem at_L_369 : am_at L_law 369 = some (.if_icmp .eq 846, 3) := by decide +kernel
theorem at_L_372 : am_at L_law 372 = some (.iconst 0, 1) := by decide +kernel
theorem at_L_373 : am_at L_law 373 = some (.ireturn, 1) := by decide +kernel
theorem at_L_374 : am_at L_law 374 = some (.aload_n 1, 1) := by decide +kernel
theorem at_L_375 : am_at L_law 375 = some (.aload_n 0, 1) := by decide +kernel
theorem at_L_376 : am_at L_law 376 = some (.iload_n 3, 1) := by decide +kernel
theorem at_L_377 : am_at L_law 377 = some (.iconst 1, 1) := by decide +kernel
theorem at_L_378 : am_at L_law 378 = some (.iadd, 1) := by decide +kernel
theorem at_L_379 : am_at L_law 379 = some (.iaload, 1) := by decide +kernel
theorem at_L_380 : am_at L_law 380 = some (.aload_n 0, 1) := by decide +kernel
theorem at_L_381 : am_at L_law 381 = some (.iload_n 3, 1) := by decide +kernel
theorem at_L_382 : am_at L_law 382 = some (.iconst 2, 1) := by decide +kernel
theorem at_L_383 : am_at L_law 383 = some (.iadd, 1) := by decide +kernel
theorem at_L_384 : am_at L_law 384 = some (.iaload, 1) := by decide +kernel
theorem at_L_385 : am_at L_law 385 = some (.aload_n 0, 1) := by decide +kernel
theorem at_L_386 : am_at L_law 386 = some (.iload_n 3, 1) := by decide +kernel
theorem at_L_387 : am_at L_law 387 = some (.iconst 3, 1) := by decide +kernel
theorem at_L_388 : am_at L_law 388 = some (.iadd, 1) := by decide +kernel
theorem at_L_389 : am_at L_law 389 = some (.iaload, 1) := by decide +kernel
theorem at_L_390 : am_at L_law 390 = some (.invokevirtual 40, 3) := by decide +kernel
theorem at_L_393 : am_at L_law 393 = some (.aload_n 2, 1) := by decide +kernel
theorem at_L_394 : am_at L_law 394 = some (.aload_n 0, 1) := by decide +kernel
theorem at_L_395 : am_at L_law 395 = some (.iload_n 3, 1) := by decide +kernel
theorem at_L_396 : am_at L_law 396 = some (.iconst 1, 1) := by decide +kernel
theorem at_L_397 : am_at L_law 397 = some (.iadd, 1) := by decide +kernel
theorem at_L_398 : am_at L_law 398 = some (.iaload, 1) := by decide +kernel
theorem at_L_399 : am_at L_law 399 = some (.aload_n 0, 1) := by decide +kernel
theorem at_L_400 : am_at L_law 400 = some (.iload_n 3, 1) := by decide +kernel
theorem at_L_401 : am_at L_law 401 = some (.iconst 2, 1) := by decide +kernel
theorem at_L_402 : am_at L_law 402 = some (.iadd, 1) := by decide +kernel
theorem at_L_403 : am_at L_law 403 = some (.iaload, 1) := by decide +kernel
theorem at_L_404 : am_at L_law 404 = some (.aload_n 0, 1) := by decide +kernel
theorem at_L_405 : am_at L_law 405 = some (.iload_n 3, 1) := by decide +kernel
theorem at_L_406 : am_at L_law 406 = some (.iconst 3, 1) := by decide +kernel
theorem at_L_407 : am_at L_law 407 = some (.iadd, 1) := by decide +kernel
theorem at_L_408 : am_at L_law 408 = some (.iaload, 1) := by decide +kernel
theorem at_L_409 : am_at L_law 409 = some (.invokevirtual 43, 3) := by decide +kernel
theorem at_L_412 : am_at L_law 412 = some (.if_icmp .eq 803, 3) := by decide +kernel
theorem at_L_415 : am_at L_law 415 = some (.iconst 0, 1) := by decide +kernel
theorem at_L_416 : am_at L_law 416 = some (.ireturn, 1) := by decide +kernel
theorem at_L_417 : am_at L_law 417 = some (.aload_n 1, 1) := by decide +kernel
theorem at_L_418 : am_at L_law 418 = some (.aload_n 0, 1) := by decide +kernel
theorem at_L_419 : am_at L_law 419 = some (.iload_n 3, 1) := by decide +kernel
theorem at_L_420 : am_at L_law 420 = some (.iconst 1, 1) := by decide +kernel
theorem at_L_421 : am_at L_law 421 = some (.iadd, 1) := by decide +kernel
theorem at_L_422 : am_at L_law 422 = some (.iaload, 1) := by decide +kernel
theorem at_L_423 : am_at L_law 423 = some (.invokevirtual 44, 3) := by decide +kernel
theorem at_L_426 : am_at L_law 426 = some (.aload_n 2, 1) := by decide +kernel
theorem at_L_427 : am_at L_law 427 = some (.aload_n 0, 1) := by decide +kernel
theorem at_L_428 : am_at L_law 428 = some (.iload_n 3, 1) := by decide +kernel
theorem at_L_429 : am_at L_law 429 = some (.iconst 1, 1) := by decide +kernel
theorem at_L_430 : am_at L_law 430 = some (.iadd, 1) := by decide +kernel
theorem at_L_431 : am_at L_law 431 = some (.iaload, 1) := by decide +kernel
theorem at_L_432 : am_at L_law 432 = some (.invokevirtual 47, 3) := by decide +kernel
theorem at_L_435 : am_at L_law 435 = some (.if_icmp .eq 780, 3) := by decide +kernel
theorem at_L_438 : am_at L_law 438 = some (.iconst 0, 1) := by decide +kernel
theorem at_L_439 : am_at L_law 439 = some (.ireturn, 1) := by decide +kernel
theorem at_L_440 : am_at L_law 440 = some (.aload_n 1, 1) := by decide +kernel
theorem at_L_441 : am_at L_law 441 = some (.invokevirtual 48, 3) := by decide +kernel
theorem at_L_444 : am_at L_law 444 = some (.aload_n 2, 1) := by decide +kernel
theorem at_L_445 : am_at L_law 445 = some (.invokevirtual 52, 3) := by decide +kernel
theorem at_L_448 : am_at L_law 448 = some (.if_icmp .eq 767, 3) := by decide +kernel
theorem at_L_451 : am_at L_law 451 = some (.iconst 0, 1) := by decide +kernel
theorem at_L_452 : am_at L_law 452 = some (.ireturn, 1) := by decide +kernel
theorem at_L_453 : am_at L_law 453 = some (.aload_n 1, 1) := by decide +kernel
theorem at_L_454 : am_at L_law 454 = some (.aload_n 0, 1) := by decide +kernel
theorem at_L_455 : am_at L_law 455 = some (.iload_n 3, 1) := by decide +kernel
theorem at_L_456 : am_at L_law 456 = some (.iconst 1, 1) := by decide +kernel
theorem at_L_457 : am_at L_law 457 = some (.iadd, 1) := by decide +kernel
theorem at_L_458 : am_at L_law 458 = some (.iaload, 1) := by decide +kernel
theorem at_L_459 : am_at L_law 459 = some (.invokevirtual 53, 3) := by decide +kernel
theorem at_L_462 : am_at L_law 462 = some (.aload_n 2, 1) := by decide +kernel
theorem at_L_463 : am_at L_law 463 = some (.aload_n 0, 1) := by decide +kernel
theorem at_L_464 : am_at L_law 464 = some (.iload_n 3, 1) := by decide +kernel
theorem at_L_465 : am_at L_law 465 = some (.iconst 1, 1) := by decide +kernel
theorem at_L_466 : am_at L_law 466 = some (.iadd, 1) := by decide +kernel
theorem at_L_467 : am_at L_law 467 = some (.iaload, 1) := by decide +kernel
theorem at_L_468 : am_at L_law 468 = some (.invokevirtual 56, 3) := by decide +kernel
theorem at_L_471 : am_at L_law 471 = some (.if_icmp .eq 744, 3) := by decide +kernel
theorem at_L_474 : am_at L_law 474 = some (.iconst 0, 1) := by decide +kernel
theorem at_L_475 : am_at L_law 475 = some (.ireturn, 1) := by decide +kernel
theorem at_L_476 : am_at L_law 476 = some (.aload_n 1, 1) := by decide +kernel
theorem at_L_477 : am_at L_law 477 = some (.aload_n 0, 1) := by decide +kernel
theorem at_L_478 : am_at L_law 478 = some (.iload_n 3, 1) := by decide +kernel
theorem at_L_479 : am_at L_law 479 = some (.iconst 1, 1) := by decide +kernel
theorem at_L_480 : am_at L_law 480 = some (.iadd, 1) := by decide +kernel
theorem at_L_481 : am_at L_law 481 = some (.iaload, 1) := by decide +kernel
theorem at_L_482 : am_at L_law 482 = some (.invokevirtual 57, 3) := by decide +kernel
theorem at_L_485 : am_at L_law 485 = some (.aload_n 2, 1) := by decide +kernel
theorem at_L_486 : am_at L_law 486 = some (.aload_n 0, 1) := by decide +kernel
theorem at_L_487 : am_at L_law 487 = some (.iload_n 3, 1) := by decide +kernel
theorem at_L_488 : am_at L_law 488 = some (.iconst 1, 1) := by decide +kernel
theorem at_L_489 : am_at L_law 489 = some (.iadd, 1) := by decide +kernel
theorem at_L_490 : am_at L_law 490 = some (.iaload, 1) := by decide +kernel
theorem at_L_491 : am_at L_law 491 = some (.invokevirtual 60, 3) := by decide +kernel
theorem at_L_494 : am_at L_law 494 = some (.if_icmp .eq 721, 3) := by decide +kernel
theorem at_L_497 : am_at L_law 497 = some (.iconst 0, 1) := by decide +kernel
theorem at_L_498 : am_at L_law 498 = some (.ireturn, 1) := by decide +kernel
theorem at_L_499 : am_at L_law 499 = some (.aload_n 1, 1) := by decide +kernel
theorem at_L_500 : am_at L_law 500 = some (.aload_n 0, 1) := by decide +kernel
theorem at_L_501 : am_at L_law 501 = some (.iload_n 3, 1) := by decide +kernel
theorem at_L_502 : am_at L_law 502 = some (.iconst 1, 1) := by decide +kernel
theorem at_L_503 : am_at L_law 503 = some (.iadd, 1) := by decide +kernel
theorem at_L_504 : am_at L_law 504 = some (.iaload, 1) := by decide +kernel
theorem at_L_505 : am_at L_law 505 = some (.aload_n 0, 1) := by decide +kernel
theorem at_L_506 : am_at L_law 506 = some (.iload_n 3, 1) := by decide +kernel
theorem at_L_507 : am_at L_law 507 = some (.iconst 2, 1) := by decide +kernel
theorem at_L_508 : am_at L_law 508 = some (.iadd, 1) := by decide +kernel
theorem at_L_509 : am_at L_law 509 = some (.iaload, 1) := by decide +kernel
theorem at_L_510 : am_at L_law 510 = some (.invokevirtual 61, 3) := by decide +kernel
theorem at_L_513 : am_at L_law 513 = some (.aload_n 2, 1) := by decide +kernel
theorem at_L_514 : am_at L_law 514 = some (.aload_n 0, 1) := by decide +kernel
theorem at_L_515 : am_at L_law 515 = some (.iload_n 3, 1) := by decide +kernel
theorem at_L_516 : am_at L_law 516 = some (.iconst 1, 1) := by decide +kernel
theorem at_L_517 : am_at L_law 517 = some (.iadd, 1) := by decide +kernel
theorem at_L_518 : am_at L_law 518 = some (.iaload, 1) := by decide +kernel
theorem at_L_519 : am_at L_law 519 = some (.aload_n 0, 1) := by decide +kernel
theorem at_L_520 : am_at L_law 520 = some (.iload_n 3, 1) := by decide +kernel
theorem at_L_521 : am_at L_law 521 = some (.iconst 2, 1) := by decide +kernel
theorem at_L_522 : am_at L_law 522 = some (.iadd, 1) := by decide +kernel
theorem at_L_523 : am_at L_law 523 = some (.iaload, 1) := by decide +kernel
theorem at_L_524 : am_at L_law 524 = some (.invokevirtual 64, 3) := by decide +kernel
theorem at_L_527 : am_at L_law 527 = some (.if_icmp .eq 688, 3) := by decide +kernel
theorem at_L_530 : am_at L_law 530 = some (.iconst 0, 1) := by decide +kernel
theorem at_L_531 : am_at L_law 531 = some (.ireturn, 1) := by decide +kernel
theorem at_L_532 : am_at L_law 532 = some (.aload_n 1, 1) := by decide +kernel
theorem at_L_533 : am_at L_law 533 = some (.aload_n 0, 1) := by decide +kernel
theorem at_L_534 : am_at L_law 534 = some (.iload_n 3, 1) := by decide +kernel
theorem at_L_535 : am_at L_law 535 = some (.iconst 1, 1) := by decide +kernel
theorem at_L_536 : am_at L_law 536 = some (.iadd, 1) := by decide +kernel
theorem at_L_537 : am_at L_law 537 = some (.iaload, 1) := by decide +kernel
theorem at_L_538 : am_at L_law 538 = some (.aload_n 0, 1) := by decide +kernel
theorem at_L_539 : am_at L_law 539 = some (.iload_n 3, 1) := by decide +kernel
theorem at_L_540 : am_at L_law 540 = some (.iconst 2, 1) := by decide +kernel
theorem at_L_541 : am_at L_law 541 = some (.iadd, 1) := by decide +kernel
theorem at_L_542 : am_at L_law 542 = some (.iaload, 1) := by decide +kernel
theorem at_L_543 : am_at L_law 543 = some (.invokevirtual 65, 3) := by decide +kernel
theorem at_L_546 : am_at L_law 546 = some (.aload_n 2, 1) := by decide +kernel
theorem at_L_547 : am_at L_law 547 = some (.aload_n 0, 1) := by decide +kernel
theorem at_L_548 : am_at L_law 548 = some (.iload_n 3, 1) := by decide +kernel
theorem at_L_549 : am_at L_law 549 = some (.iconst 1, 1) := by decide +kernel
theorem at_L_550 : am_at L_law 550 = some (.iadd, 1) := by decide +kernel
theorem at_L_551 : am_at L_law 551 = some (.iaload, 1) := by decide +kernel
theorem at_L_552 : am_at L_law 552 = some (.aload_n 0, 1) := by decide +kernel
theorem at_L_553 : am_at L_law 553 = some (.iload_n 3, 1) := by decide +kernel
theorem at_L_554 : am_at L_law 554 = some (.iconst 2, 1) := by decide +kernel
theorem at_L_555 : am_at L_law 555 = some (.iadd, 1) := by decide +kernel
theorem at_L_556 : am_at L_law 556 = some (.iaload, 1) := by decide +kernel
theorem at_L_557 : am_at L_law 557 = some (.invokevirtual 68, 3) := by decide +kernel
theorem at_L_560 : am_at L_law 560 = some (.if_icmp .eq 655, 3) := by decide +kernel
theorem at_L_563 : am_at L_law 563 = some (.iconst 0, 1) := by decide +kernel
theorem at_L_564 : am_at L_law 564 = some (.ireturn, 1) := by decide +kernel
theorem at_L_565 : am_at L_law 565 = some (.aload_n 1, 1) := by decide +kernel
theorem at_L_566 : am_at L_law 566 = some (.aload_n 0, 1) := by decide +kernel
theorem at_L_567 : am_at L_law 567 = some (.iload_n 3, 1) := by decide +kernel
theorem at_L_568 : am_at L_law 568 = some (.iconst 1, 1) := by decide +kernel
theorem at_L_569 : am_at L_law 569 = some (.iadd, 1) := by decide +kernel
theorem at_L_570 : am_at L_law 570 = some (.iaload, 1) := by decide +kernel
theorem at_L_571 : am_at L_law 571 = some (.aload_n 0, 1) := by decide +kernel
theorem at_L_572 : am_at L_law 572 = some (.iload_n 3, 1) := by decide +kernel
theorem at_L_573 : am_at L_law 573 = some (.iconst 2, 1) := by decide +kernel
theorem at_L_574 : am_at L_law 574 = some (.iadd, 1) := by decide +kernel
theorem at_L_575 : am_at L_law 575 = some (.iaload, 1) := by decide +kernel
theorem at_L_576 : am_at L_law 576 = some (.aload_n 0, 1) := by decide +kernel
theorem at_L_577 : am_at L_law 577 = some (.iload_n 3, 1) := by decide +kernel
theorem at_L_578 : am_at L_law 578 = some (.iconst 3, 1) := by decide +kernel
theorem at_L_579 : am_at L_law 579 = some (.iadd, 1) := by decide +kernel
theorem at_L_580 : am_at L_law 580 = some (.iaload, 1) := by decide +kernel
theorem at_L_581 : am_at L_law 581 = some (.invokevirtual 69, 3) := by decide +kernel
theorem at_L_584 : am_at L_law 584 = some (.aload_n 2, 1) := by decide +kernel
theorem at_L_585 : am_at L_law 585 = some (.aload_n 0, 1) := by decide +kernel
theorem at_L_586 : am_at L_law 586 = some (.iload_n 3, 1) := by decide +kernel
theorem at_L_587 : am_at L_law 587 = some (.iconst 1, 1) := by decide +kernel
theorem at_L_588 : am_at L_law 588 = some (.iadd, 1) := by decide +kernel
theorem at_L_589 : am_at L_law 589 = some (.iaload, 1) := by decide +kernel
theorem at_L_590 : am_at L_law 590 = some (.aload_n 0, 1) := by decide +kernel
theorem at_L_591 : am_at L_law 591 = some (.iload_n 3, 1) := by decide +kernel
theorem at_L_592 : am_at L_law 592 = some (.iconst 2, 1) := by decide +kernel
theorem at_L_593 : am_at L_law 593 = some (.iadd, 1) := by decide +kernel
theorem at_L_594 : am_at L_law 594 = some (.iaload, 1) := by decide +kernel
theorem at_L_595 : am_at L_law 595 = some (.aload_n 0, 1) := by decide +kernel
theorem at_L_596 : am_at L_law 596 = some (.iload_n 3, 1) := by decide +kernel
theorem at_L_597 : am_at L_law 597 = some (.iconst 3, 1) := by decide +kernel
theorem at_L_598 : am_at L_law 598 = some (.iadd, 1) := by decide +kernel
theorem at_L_599 : am_at L_law 599 = some (.iaload, 1) := by decide +kernel
theorem at_L_600 : am_at L_law 600 = some (.invokevirtual 72, 3) := by decide +kernel
theorem at_L_603 : am_at L_law 603 = some (.if_icmp .eq 612, 3) := by decide +kernel
theorem at_L_606 : am_at L_law 606 = some (.iconst 0, 1) := by decide +kernel
theorem at_L_607 : am_at L_law 607 = some (.ireturn, 1) := by decide +kernel
theorem at_L_608 : am_at L_law 608 = some (.aload_n 1, 1) := by decide +kernel
theorem at_L_609 : am_at L_law 609 = some (.aload_n 0, 1) := by decide +kernel
theorem at_L_610 : am_at L_law 610 = some (.iload_n 3, 1) := by decide +kernel
theorem at_L_611 : am_at L_law 611 = some (.iconst 1, 1) := by decide +kernel
theorem at_L_612 : am_at L_law 612 = some (.iadd, 1) := by decide +kernel
theorem at_L_613 : am_at L_law 613 = some (.iaload, 1) := by decide +kernel
theorem at_L_614 : am_at L_law 614 = some (.aload_n 0, 1) := by decide +kernel
theorem at_L_615 : am_at L_law 615 = some (.iload_n 3, 1) := by decide +kernel
theorem at_L_616 : am_at L_law 616 = some (.iconst 2, 1) := by decide +kernel
theorem at_L_617 : am_at L_law 617 = some (.iadd, 1) := by decide +kernel
theorem at_L_618 : am_at L_law 618 = some (.iaload, 1) := by decide +kernel
theorem at_L_619 : am_at L_law 619 = some (.invokevirtual 73, 3) := by decide +kernel
theorem at_L_622 : am_at L_law 622 = some (.aload_n 2, 1) := by decide +kernel
theorem at_L_623 : am_at L_law 623 = some (.aload_n 0, 1) := by decide +kernel
theorem at_L_624 : am_at L_law 624 = some (.iload_n 3, 1) := by decide +kernel
theorem at_L_625 : am_at L_law 625 = some (.iconst 1, 1) := by decide +kernel
theorem at_L_626 : am_at L_law 626 = some (.iadd, 1) := by decide +kernel
theorem at_L_627 : am_at L_law 627 = some (.iaload, 1) := by decide +kernel
theorem at_L_628 : am_at L_law 628 = some (.aload_n 0, 1) := by decide +kernel
theorem at_L_629 : am_at L_law 629 = some (.iload_n 3, 1) := by decide +kernel
theorem at_L_630 : am_at L_law 630 = some (.iconst 2, 1) := by decide +kernel
theorem at_L_631 : am_at L_law 631 = some (.iadd, 1) := by decide +kernel
theorem at_L_632 : am_at L_law 632 = some (.iaload, 1) := by decide +kernel
theorem at_L_633 : am_at L_law 633 = some (.invokevirtual 76, 3) := by decide +kernel
theorem at_L_636 : am_at L_law 636 = some (.if_icmp .eq 579, 3) := by decide +kernel
theorem at_L_639 : am_at L_law 639 = some (.iconst 0, 1) := by decide +kernel
theorem at_L_640 : am_at L_law 640 = some (.ireturn, 1) := by decide +kernel
theorem at_L_641 : am_at L_law 641 = some (.aload_n 1, 1) := by decide +kernel
theorem at_L_642 : am_at L_law 642 = some (.aload_n 0, 1) := by decide +kernel
theorem at_L_643 : am_at L_law 643 = some (.iload_n 3, 1) := by decide +kernel
theorem at_L_644 : am_at L_law 644 = some (.iconst 1, 1) := by decide +kernel
theorem at_L_645 : am_at L_law 645 = some (.iadd, 1) := by decide +kernel
theorem at_L_646 : am_at L_law 646 = some (.iaload, 1) := by decide +kernel
theorem at_L_647 : am_at L_law 647 = some (.aload_n 0, 1) := by decide +kernel
theorem at_L_648 : am_at L_law 648 = some (.iload_n 3, 1) := by decide +kernel
theorem at_L_649 : am_at L_law 649 = some (.iconst 2, 1) := by decide +kernel
theorem at_L_650 : am_at L_law 650 = some (.iadd, 1) := by decide +kernel
theorem at_L_651 : am_at L_law 651 = some (.iaload, 1) := by decide +kernel
theorem at_L_652 : am_at L_law 652 = some (.aload_n 0, 1) := by decide +kernel
theorem at_L_653 : am_at L_law 653 = some (.iload_n 3, 1) := by decide +kernel
theorem at_L_654 : am_at L_law 654 = some (.iconst 3, 1) := by decide +kernel
theorem at_L_655 : am_at L_law 655 = some (.iadd, 1) := by decide +kernel
theorem at_L_656 : am_at L_law 656 = some (.iaload, 1) := by decide +kernel
theorem at_L_657 : am_at L_law 657 = some (.invokevirtual 77, 3) := by decide +kernel
theorem at_L_660 : am_at L_law 660 = some (.aload_n 2, 1) := by decide +kernel
theorem at_L_661 : am_at L_law 661 = some (.aload_n 0, 1) := by decide +kernel
theorem at_L_662 : am_at L_law 662 = some (.iload_n 3, 1) := by decide +kernel
theorem at_L_663 : am_at L_law 663 = some (.iconst 1, 1) := by decide +kernel
theorem at_L_664 : am_at L_law 664 = some (.iadd, 1) := by decide +kernel
theorem at_L_665 : am_at L_law 665 = some (.iaload, 1) := by decide +kernel
theorem at_L_666 : am_at L_law 666 = some (.aload_n 0, 1) := by decide +kernel
theorem at_L_667 : am_at L_law 667 = some (.iload_n 3, 1) := by decide +kernel
theorem at_L_668 : am_at L_law 668 = some (.iconst 2, 1) := by decide +kernel
theorem at_L_669 : am_at L_law 669 = some (.iadd, 1) := by decide +kernel
theorem at_L_670 : am_at L_law 670 = some (.iaload, 1) := by decide +kernel
theorem at_L_671 : am_at L_law 671 = some (.aload_n 0, 1) := by decide +kernel
theorem at_L_672 : am_at L_law 672 = some (.iload_n 3, 1) := by decide +kernel
theorem at_L_673 : am_at L_law 673 = some (.iconst 3, 1) := by decide +kernel
theorem at_L_674 : am_at L_law 674 = some (.iadd, 1) := by decide +kernel
theorem at_L_675 : am_at L_law 675 = some (.iaload, 1) := by decide +kernel
theorem at_L_676 : am_at L_law 676 = some (.invokevirtual 81, 3) := by decide +kernel
theorem at_L_679 : am_at L_law 679 = some (.lcmp, 1) := by decide +kernel
theorem at_L_680 : am_at L_law 680 = some (.ifCond .eq 535, 3) := by decide +kernel
theorem at_L_683 : am_at L_law 683 = some (.iconst 0, 1) := by decide +kernel
theorem at_L_684 : am_at L_law 684 = some (.ireturn, 1) := by decide +kernel
theorem at_L_685 : am_at L_law 685 = some (.aload_n 1, 1) := by decide +kernel
theorem at_L_686 : am_at L_law 686 = some (.aload_n 0, 1) := by decide +kernel
theorem at_L_687 : am_at L_law 687 = some (.iload_n 3, 1) := by decide +kernel
theorem at_L_688 : am_at L_law 688 = some (.iconst 1, 1) := by decide +kernel
theorem at_L_689 : am_at L_law 689 = some (.iadd, 1) := by decide +kernel
theorem at_L_690 : am_at L_law 690 = some (.iaload, 1) := by decide +kernel
theorem at_L_691 : am_at L_law 691 = some (.aload_n 0, 1) := by decide +kernel
theorem at_L_692 : am_at L_law 692 = some (.iload_n 3, 1) := by decide +kernel
theorem at_L_693 : am_at L_law 693 = some (.iconst 2, 1) := by decide +kernel
theorem at_L_694 : am_at L_law 694 = some (.iadd, 1) := by decide +kernel
theorem at_L_695 : am_at L_law 695 = some (.iaload, 1) := by decide +kernel
theorem at_L_696 : am_at L_law 696 = some (.invokevirtual 82, 3) := by decide +kernel
theorem at_L_699 : am_at L_law 699 = some (.aload_n 2, 1) := by decide +kernel
theorem at_L_700 : am_at L_law 700 = some (.aload_n 0, 1) := by decide +kernel
theorem at_L_701 : am_at L_law 701 = some (.iload_n 3, 1) := by decide +kernel
theorem at_L_702 : am_at L_law 702 = some (.iconst 1, 1) := by decide +kernel
theorem at_L_703 : am_at L_law 703 = some (.iadd, 1) := by decide +kernel
theorem at_L_704 : am_at L_law 704 = some (.iaload, 1) := by decide +kernel
theorem at_L_705 : am_at L_law 705 = some (.aload_n 0, 1) := by decide +kernel
theorem at_L_706 : am_at L_law 706 = some (.iload_n 3, 1) := by decide +kernel
theorem at_L_707 : am_at L_law 707 = some (.iconst 2, 1) := by decide +kernel
theorem at_L_708 : am_at L_law 708 = some (.iadd, 1) := by decide +kernel
theorem at_L_709 : am_at L_law 709 = some (.iaload, 1) := by decide +kernel
theorem at_L_710 : am_at L_law 710 = some (.invokevirtual 86, 3) := by decide +kernel
theorem at_L_713 : am_at L_law 713 = some (.lcmp, 1) := by decide +kernel
theorem at_L_714 : am_at L_law 714 = some (.ifCond .eq 501, 3) := by decide +kernel
theorem at_L_717 : am_at L_law 717 = some (.iconst 0, 1) := by decide +kernel
theorem at_L_718 : am_at L_law 718 = some (.ireturn, 1) := by decide +kernel
theorem at_L_719 : am_at L_law 719 = some (.aload_n 1, 1) := by decide +kernel
theorem at_L_720 : am_at L_law 720 = some (.aload_n 0, 1) := by decide +kernel
theorem at_L_721 : am_at L_law 721 = some (.iload_n 3, 1) := by decide +kernel
theorem at_L_722 : am_at L_law 722 = some (.iconst 1, 1) := by decide +kernel
theorem at_L_723 : am_at L_law 723 = some (.iadd, 1) := by decide +kernel
theorem at_L_724 : am_at L_law 724 = some (.iaload, 1) := by decide +kernel
theorem at_L_725 : am_at L_law 725 = some (.aload_n 0, 1) := by decide +kernel
theorem at_L_726 : am_at L_law 726 = some (.iload_n 3, 1) := by decide +kernel
theorem at_L_727 : am_at L_law 727 = some (.iconst 2, 1) := by decide +kernel
theorem at_L_728 : am_at L_law 728 = some (.iadd, 1) := by decide +kernel
theorem at_L_729 : am_at L_law 729 = some (.iaload, 1) := by decide +kernel
theorem at_L_730 : am_at L_law 730 = some (.invokevirtual 87, 3) := by decide +kernel
theorem at_L_733 : am_at L_law 733 = some (.aload_n 2, 1) := by decide +kernel
theorem at_L_734 : am_at L_law 734 = some (.aload_n 0, 1) := by decide +kernel
theorem at_L_735 : am_at L_law 735 = some (.iload_n 3, 1) := by decide +kernel
theorem at_L_736 : am_at L_law 736 = some (.iconst 1, 1) := by decide +kernel
theorem at_L_737 : am_at L_law 737 = some (.iadd, 1) := by decide +kernel
theorem at_L_738 : am_at L_law 738 = some (.iaload, 1) := by decide +kernel
theorem at_L_739 : am_at L_law 739 = some (.aload_n 0, 1) := by decide +kernel
theorem at_L_740 : am_at L_law 740 = some (.iload_n 3, 1) := by decide +kernel
theorem at_L_741 : am_at L_law 741 = some (.iconst 2, 1) := by decide +kernel
theorem at_L_742 : am_at L_law 742 = some (.iadd, 1) := by decide +kernel
theorem at_L_743 : am_at L_law 743 = some (.iaload, 1) := by decide +kernel
theorem at_L_744 : am_at L_law 744 = some (.invokevirtual 90, 3) := by decide +kernel
theorem at_L_747 : am_at L_law 747 = some (.if_icmp .eq 468, 3) := by decide +kernel
theorem at_L_750 : am_at L_law 750 = some (.iconst 0, 1) := by decide +kernel
theorem at_L_751 : am_at L_law 751 = some (.ireturn, 1) := by decide +kernel
theorem at_L_752 : am_at L_law 752 = some (.aload_n 1, 1) := by decide +kernel
theorem at_L_753 : am_at L_law 753 = some (.aload_n 0, 1) := by decide +kernel
theorem at_L_754 : am_at L_law 754 = some (.iload_n 3, 1) := by decide +kernel
theorem at_L_755 : am_at L_law 755 = some (.iconst 1, 1) := by decide +kernel
theorem at_L_756 : am_at L_law 756 = some (.iadd, 1) := by decide +kernel
theorem at_L_757 : am_at L_law 757 = some (.iaload, 1) := by decide +kernel
theorem at_L_758 : am_at L_law 758 = some (.invokevirtual 91, 3) := by decide +kernel
theorem at_L_761 : am_at L_law 761 = some (.aload_n 2, 1) := by decide +kernel
theorem at_L_762 : am_at L_law 762 = some (.aload_n 0, 1) := by decide +kernel
theorem at_L_763 : am_at L_law 763 = some (.iload_n 3, 1) := by decide +kernel
theorem at_L_764 : am_at L_law 764 = some (.iconst 1, 1) := by decide +kernel
theorem at_L_765 : am_at L_law 765 = some (.iadd, 1) := by decide +kernel
theorem at_L_766 : am_at L_law 766 = some (.iaload, 1) := by decide +kernel
theorem at_L_767 : am_at L_law 767 = some (.invokevirtual 94, 3) := by decide +kernel
theorem at_L_770 : am_at L_law 770 = some (.if_icmp .eq 445, 3) := by decide +kernel
theorem at_L_773 : am_at L_law 773 = some (.iconst 0, 1) := by decide +kernel
theorem at_L_774 : am_at L_law 774 = some (.ireturn, 1) := by decide +kernel
theorem at_L_775 : am_at L_law 775 = some (.aload_n 1, 1) := by decide +kernel
theorem at_L_776 : am_at L_law 776 = some (.aload_n 0, 1) := by decide +kernel
theorem at_L_777 : am_at L_law 777 = some (.iload_n 3, 1) := by decide +kernel
theorem at_L_778 : am_at L_law 778 = some (.iconst 1, 1) := by decide +kernel
theorem at_L_779 : am_at L_law 779 = some (.iadd, 1) := by decide +kernel
theorem at_L_780 : am_at L_law 780 = some (.iaload, 1) := by decide +kernel
theorem at_L_781 : am_at L_law 781 = some (.aload_n 0, 1) := by decide +kernel
theorem at_L_782 : am_at L_law 782 = some (.iload_n 3, 1) := by decide +kernel
theorem at_L_783 : am_at L_law 783 = some (.iconst 2, 1) := by decide +kernel
theorem at_L_784 : am_at L_law 784 = some (.iadd, 1) := by decide +kernel
theorem at_L_785 : am_at L_law 785 = some (.iaload, 1) := by decide +kernel
theorem at_L_786 : am_at L_law 786 = some (.invokevirtual 95, 3) := by decide +kernel
theorem at_L_789 : am_at L_law 789 = some (.aload_n 2, 1) := by decide +kernel
theorem at_L_790 : am_at L_law 790 = some (.aload_n 0, 1) := by decide +kernel
theorem at_L_791 : am_at L_law 791 = some (.iload_n 3, 1) := by decide +kernel
theorem at_L_792 : am_at L_law 792 = some (.iconst 1, 1) := by decide +kernel
theorem at_L_793 : am_at L_law 793 = some (.iadd, 1) := by decide +kernel
theorem at_L_794 : am_at L_law 794 = some (.iaload, 1) := by decide +kernel
theorem at_L_795 : am_at L_law 795 = some (.aload_n 0, 1) := by decide +kernel
theorem at_L_796 : am_at L_law 796 = some (.iload_n 3, 1) := by decide +kernel
theorem at_L_797 : am_at L_law 797 = some (.iconst 2, 1) := by decide +kernel
theorem at_L_798 : am_at L_law 798 = some (.iadd, 1) := by decide +kernel
theorem at_L_799 : am_at L_law 799 = some (.iaload, 1) := by decide +kernel
theorem at_L_800 : am_at L_law 800 = some (.invokevirtual 98, 3) := by decide +kernel
theorem at_L_803 : am_at L_law 803 = some (.if_icmp .eq 412, 3) := by decide +kernel
theorem at_L_806 : am_at L_law 806 = some (.iconst 0, 1) := by decide +kernel
theorem at_L_807 : am_at L_law 807 = some (.ireturn, 1) := by decide +kernel
theorem at_L_808 : am_at L_law 808 = some (.aload_n 1, 1) := by decide +kernel
theorem at_L_809 : am_at L_law 809 = some (.invokevirtual 99, 3) := by decide +kernel
theorem at_L_812 : am_at L_law 812 = some (.aload_n 2, 1) := by decide +kernel
theorem at_L_813 : am_at L_law 813 = some (.invokevirtual 102, 3) := by decide +kernel
theorem at_L_816 : am_at L_law 816 = some (.if_icmp .eq 399, 3) := by decide +kernel
theorem at_L_819 : am_at L_law 819 = some (.iconst 0, 1) := by decide +kernel
theorem at_L_820 : am_at L_law 820 = some (.ireturn, 1) := by decide +kernel
theorem at_L_821 : am_at L_law 821 = some (.aload_n 1, 1) := by decide +kernel
theorem at_L_822 : am_at L_law 822 = some (.aload_n 0, 1) := by decide +kernel
theorem at_L_823 : am_at L_law 823 = some (.iload_n 3, 1) := by decide +kernel
theorem at_L_824 : am_at L_law 824 = some (.iconst 1, 1) := by decide +kernel
theorem at_L_825 : am_at L_law 825 = some (.iadd, 1) := by decide +kernel
theorem at_L_826 : am_at L_law 826 = some (.iaload, 1) := by decide +kernel
theorem at_L_827 : am_at L_law 827 = some (.aload_n 0, 1) := by decide +kernel
theorem at_L_828 : am_at L_law 828 = some (.iload_n 3, 1) := by decide +kernel
theorem at_L_829 : am_at L_law 829 = some (.iconst 2, 1) := by decide +kernel
theorem at_L_830 : am_at L_law 830 = some (.iadd, 1) := by decide +kernel
theorem at_L_831 : am_at L_law 831 = some (.iaload, 1) := by decide +kernel
theorem at_L_832 : am_at L_law 832 = some (.invokevirtual 103, 3) := by decide +kernel
theorem at_L_835 : am_at L_law 835 = some (.aload_n 2, 1) := by decide +kernel
theorem at_L_836 : am_at L_law 836 = some (.aload_n 0, 1) := by decide +kernel
theorem at_L_837 : am_at L_law 837 = some (.iload_n 3, 1) := by decide +kernel
theorem at_L_838 : am_at L_law 838 = some (.iconst 1, 1) := by decide +kernel
theorem at_L_839 : am_at L_law 839 = some (.iadd, 1) := by decide +kernel
theorem at_L_840 : am_at L_law 840 = some (.iaload, 1) := by decide +kernel
theorem at_L_841 : am_at L_law 841 = some (.aload_n 0, 1) := by decide +kernel
theorem at_L_842 : am_at L_law 842 = some (.iload_n 3, 1) := by decide +kernel
theorem at_L_843 : am_at L_law 843 = some (.iconst 2, 1) := by decide +kernel
theorem at_L_844 : am_at L_law 844 = some (.iadd, 1) := by decide +kernel
theorem at_L_845 : am_at L_law 845 = some (.iaload, 1) := by decide +kernel
theorem at_L_846 : am_at L_law 846 = some (.invokevirtual 106, 3) := by decide +kernel
theorem at_L_849 : am_at L_law 849 = some (.if_icmp .eq 366, 3) := by decide +kernel
theorem at_L_852 : am_at L_law 852 = some (.iconst 0, 1) := by decide +kernel
theorem at_L_853 : am_at L_law 853 = some (.ireturn, 1) := by decide +kernel
theorem at_L_854 : am_at L_law 854 = some (.aload_n 1, 1) := by decide +kernel
theorem at_L_855 : am_at L_law 855 = some (.invokevirtual 107, 3) := by decide +kernel
theorem at_L_858 : am_at L_law 858 = some (.aload_n 2, 1) := by decide +kernel
theorem at_L_859 : am_at L_law 859 = some (.invokevirtual 110, 3) := by decide +kernel
theorem at_L_862 : am_at L_law 862 = some (.if_icmp .eq 353, 3) := by decide +kernel
theorem at_L_865 : am_at L_law 865 = some (.iconst 0, 1) := by decide +kernel
theorem at_L_866 : am_at L_law 866 = some (.ireturn, 1) := by decide +kernel
theorem at_L_867 : am_at L_law 867 = some (.aload_n 1, 1) := by decide +kernel
theorem at_L_868 : am_at L_law 868 = some (.invokevirtual 111, 3) := by decide +kernel
theorem at_L_871 : am_at L_law 871 = some (.aload_n 2, 1) := by decide +kernel
theorem at_L_872 : am_at L_law 872 = some (.invokevirtual 114, 3) := by decide +kernel
theorem at_L_875 : am_at L_law 875 = some (.if_icmp .eq 340, 3) := by decide +kernel
theorem at_L_878 : am_at L_law 878 = some (.iconst 0, 1) := by decide +kernel
theorem at_L_879 : am_at L_law 879 = some (.ireturn, 1) := by decide +kernel
theorem at_L_880 : am_at L_law 880 = some (.aload_n 1, 1) := by decide +kernel
theorem at_L_881 : am_at L_law 881 = some (.aload_n 0, 1) := by decide +kernel
theorem at_L_882 : am_at L_law 882 = some (.iload_n 3, 1) := by decide +kernel
theorem at_L_883 : am_at L_law 883 = some (.iconst 1, 1) := by decide +kernel
theorem at_L_884 : am_at L_law 884 = some (.iadd, 1) := by decide +kernel
theorem at_L_885 : am_at L_law 885 = some (.iaload, 1) := by decide +kernel
theorem at_L_886 : am_at L_law 886 = some (.aload_n 0, 1) := by decide +kernel
theorem at_L_887 : am_at L_law 887 = some (.iload_n 3, 1) := by decide +kernel
theorem at_L_888 : am_at L_law 888 = some (.iconst 2, 1) := by decide +kernel
theorem at_L_889 : am_at L_law 889 = some (.iadd, 1) := by decide +kernel
theorem at_L_890 : am_at L_law 890 = some (.iaload, 1) := by decide +kernel
theorem at_L_891 : am_at L_law 891 = some (.aload_n 0, 1) := by decide +kernel
theorem at_L_892 : am_at L_law 892 = some (.iload_n 3, 1) := by decide +kernel
theorem at_L_893 : am_at L_law 893 = some (.iconst 3, 1) := by decide +kernel
theorem at_L_894 : am_at L_law 894 = some (.iadd, 1) := by decide +kernel
theorem at_L_895 : am_at L_law 895 = some (.iaload, 1) := by decide +kernel
theorem at_L_896 : am_at L_law 896 = some (.invokevirtual 115, 3) := by decide +kernel
theorem at_L_899 : am_at L_law 899 = some (.aload_n 2, 1) := by decide +kernel
theorem at_L_900 : am_at L_law 900 = some (.aload_n 0, 1) := by decide +kernel
theorem at_L_901 : am_at L_law 901 = some (.iload_n 3, 1) := by decide +kernel
theorem at_L_902 : am_at L_law 902 = some (.iconst 1, 1) := by decide +kernel
theorem at_L_903 : am_at L_law 903 = some (.iadd, 1) := by decide +kernel
theorem at_L_904 : am_at L_law 904 = some (.iaload, 1) := by decide +kernel
theorem at_L_905 : am_at L_law 905 = some (.aload_n 0, 1) := by decide +kernel
theorem at_L_906 : am_at L_law 906 = some (.iload_n 3, 1) := by decide +kernel
theorem at_L_907 : am_at L_law 907 = some (.iconst 2, 1) := by decide +kernel
theorem at_L_908 : am_at L_law 908 = some (.iadd, 1) := by decide +kernel
theorem at_L_909 : am_at L_law 909 = some (.iaload, 1) := by decide +kernel
theorem at_L_910 : am_at L_law 910 = some (.aload_n 0, 1) := by decide +kernel
theorem at_L_911 : am_at L_law 911 = some (.iload_n 3, 1) := by decide +kernel
theorem at_L_912 : am_at L_law 912 = some (.iconst 3, 1) := by decide +kernel
theorem at_L_913 : am_at L_law 913 = some (.iadd, 1) := by decide +kernel
theorem at_L_914 : am_at L_law 914 = some (.iaload, 1) := by decide +kernel
theorem at_L_915 : am_at L_law 915 = some (.invokevirtual 118, 3) := by decide +kernel
theorem at_L_918 : am_at L_law 918 = some (.if_icmp .eq 297, 3) := by decide +kernel
theorem at_L_921 : am_at L_law 921 = some (.iconst 0, 1) := by decide +kernel
theorem at_L_922 : am_at L_law 922 = some (.ireturn, 1) := by decide +kernel
theorem at_L_923 : am_at L_law 923 = some (.aload_n 1, 1) := by decide +kernel
theorem at_L_924 : am_at L_law 924 = some (.aload_n 0, 1) := by decide +kernel
theorem at_L_925 : am_at L_law 925 = some (.iload_n 3, 1) := by decide +kernel
theorem at_L_926 : am_at L_law 926 = some (.iconst 1, 1) := by decide +kernel
theorem at_L_927 : am_at L_law 927 = some (.iadd, 1) := by decide +kernel
theorem at_L_928 : am_at L_law 928 = some (.iaload, 1) := by decide +kernel
theorem at_L_929 : am_at L_law 929 = some (.invokevirtual 119, 3) := by decide +kernel
theorem at_L_932 : am_at L_law 932 = some (.aload_n 2, 1) := by decide +kernel
theorem at_L_933 : am_at L_law 933 = some (.aload_n 0, 1) := by decide +kernel
theorem at_L_934 : am_at L_law 934 = some (.iload_n 3, 1) := by decide +kernel
theorem at_L_935 : am_at L_law 935 = some (.iconst 1, 1) := by decide +kernel
theorem at_L_936 : am_at L_law 936 = some (.iadd, 1) := by decide +kernel
theorem at_L_937 : am_at L_law 937 = some (.iaload, 1) := by decide +kernel
theorem at_L_938 : am_at L_law 938 = some (.invokevirtual 122, 3) := by decide +kernel
theorem at_L_941 : am_at L_law 941 = some (.if_icmp .eq 274, 3) := by decide +kernel
theorem at_L_944 : am_at L_law 944 = some (.iconst 0, 1) := by decide +kernel
theorem at_L_945 : am_at L_law 945 = some (.ireturn, 1) := by decide +kernel
theorem at_L_946 : am_at L_law 946 = some (.aload_n 1, 1) := by decide +kernel
theorem at_L_947 : am_at L_law 947 = some (.aload_n 0, 1) := by decide +kernel
theorem at_L_948 : am_at L_law 948 = some (.iload_n 3, 1) := by decide +kernel
theorem at_L_949 : am_at L_law 949 = some (.iconst 1, 1) := by decide +kernel
theorem at_L_950 : am_at L_law 950 = some (.iadd, 1) := by decide +kernel
theorem at_L_951 : am_at L_law 951 = some (.iaload, 1) := by decide +kernel
theorem at_L_952 : am_at L_law 952 = some (.aload_n 0, 1) := by decide +kernel
theorem at_L_953 : am_at L_law 953 = some (.iload_n 3, 1) := by decide +kernel
theorem at_L_954 : am_at L_law 954 = some (.iconst 2, 1) := by decide +kernel
theorem at_L_955 : am_at L_law 955 = some (.iadd, 1) := by decide +kernel
theorem at_L_956 : am_at L_law 956 = some (.iaload, 1) := by decide +kernel
theorem at_L_957 : am_at L_law 957 = some (.invokevirtual 123, 3) := by decide +kernel
theorem at_L_960 : am_at L_law 960 = some (.aload_n 2, 1) := by decide +kernel
theorem at_L_961 : am_at L_law 961 = some (.aload_n 0, 1) := by decide +kernel
theorem at_L_962 : am_at L_law 962 = some (.iload_n 3, 1) := by decide +kernel
theorem at_L_963 : am_at L_law 963 = some (.iconst 1, 1) := by decide +kernel
theorem at_L_964 : am_at L_law 964 = some (.iadd, 1) := by decide +kernel
theorem at_L_965 : am_at L_law 965 = some (.iaload, 1) := by decide +kernel
theorem at_L_966 : am_at L_law 966 = some (.aload_n 0, 1) := by decide +kernel
theorem at_L_967 : am_at L_law 967 = some (.iload_n 3, 1) := by decide +kernel
theorem at_L_968 : am_at L_law 968 = some (.iconst 2, 1) := by decide +kernel
theorem at_L_969 : am_at L_law 969 = some (.iadd, 1) := by decide +kernel
theorem at_L_970 : am_at L_law 970 = some (.iaload, 1) := by decide +kernel
theorem at_L_971 : am_at L_law 971 = some (.invokevirtual 126, 3) := by decide +kernel
theorem at_L_974 : am_at L_law 974 = some (.if_icmp .eq 241, 3) := by decide +kernel
theorem at_L_977 : am_at L_law 977 = some (.iconst 0, 1) := by decide +kernel
theorem at_L_978 : am_at L_law 978 = some (.ireturn, 1) := by decide +kernel
theorem at_L_979 : am_at L_law 979 = some (.aload_n 1, 1) := by decide +kernel
theorem at_L_980 : am_at L_law 980 = some (.aload_n 0, 1) := by decide +kernel
theorem at_L_981 : am_at L_law 981 = some (.iload_n 3, 1) := by decide +kernel
theorem at_L_982 : am_at L_law 982 = some (.iconst 1, 1) := by decide +kernel
theorem at_L_983 : am_at L_law 983 = some (.iadd, 1) := by decide +kernel
theorem at_L_984 : am_at L_law 984 = some (.iaload, 1) := by decide +kernel
theorem at_L_985 : am_at L_law 985 = some (.invokevirtual 127, 3) := by decide +kernel
theorem at_L_988 : am_at L_law 988 = some (.aload_n 2, 1) := by decide +kernel
theorem at_L_989 : am_at L_law 989 = some (.aload_n 0, 1) := by decide +kernel
theorem at_L_990 : am_at L_law 990 = some (.iload_n 3, 1) := by decide +kernel
theorem at_L_991 : am_at L_law 991 = some (.iconst 1, 1) := by decide +kernel
theorem at_L_992 : am_at L_law 992 = some (.iadd, 1) := by decide +kernel
theorem at_L_993 : am_at L_law 993 = some (.iaload, 1) := by decide +kernel
theorem at_L_994 : am_at L_law 994 = some (.invokevirtual 130, 3) := by decide +kernel
theorem at_L_997 : am_at L_law 997 = some (.if_icmp .eq 218, 3) := by decide +kernel
theorem at_L_1000 : am_at L_law 1000 = some (.iconst 0, 1) := by decide +kernel
theorem at_L_1001 : am_at L_law 1001 = some (.ireturn, 1) := by decide +kernel
theorem at_L_1002 : am_at L_law 1002 = some (.aload_n 1, 1) := by decide +kernel
theorem at_L_1003 : am_at L_law 1003 = some (.aload_n 0, 1) := by decide +kernel
theorem at_L_1004 : am_at L_law 1004 = some (.iload_n 3, 1) := by decide +kernel
theorem at_L_1005 : am_at L_law 1005 = some (.iconst 1, 1) := by decide +kernel
theorem at_L_1006 : am_at L_law 1006 = some (.iadd, 1) := by decide +kernel
theorem at_L_1007 : am_at L_law 1007 = some (.iaload, 1) := by decide +kernel
theorem at_L_1008 : am_at L_law 1008 = some (.aload_n 0, 1) := by decide +kernel
theorem at_L_1009 : am_at L_law 1009 = some (.iload_n 3, 1) := by decide +kernel
theorem at_L_1010 : am_at L_law 1010 = some (.iconst 2, 1) := by decide +kernel
theorem at_L_1011 : am_at L_law 1011 = some (.iadd, 1) := by decide +kernel
theorem at_L_1012 : am_at L_law 1012 = some (.iaload, 1) := by decide +kernel
theorem at_L_1013 : am_at L_law 1013 = some (.aload_n 0, 1) := by decide +kernel
theorem at_L_1014 : am_at L_law 1014 = some (.iload_n 3, 1) := by decide +kernel
theorem at_L_1015 : am_at L_law 1015 = some (.iconst 3, 1) := by decide +kernel
theorem at_L_1016 : am_at L_law 1016 = some (.iadd, 1) := by decide +kernel
theorem at_L_1017 : am_at L_law 1017 = some (.iaload, 1) := by decide +kernel
theorem at_L_1018 : am_at L_law 1018 = some (.invokevirtual 131, 3) := by decide +kernel
theorem at_L_1021 : am_at L_law 1021 = some (.aload_n 2, 1) := by decide +kernel
theorem at_L_1022 : am_at L_law 1022 = some (.aload_n 0, 1) := by decide +kernel
theorem at_L_1023 : am_at L_law 1023 = some (.iload_n 3, 1) := by decide +kernel
theorem at_L_1024 : am_at L_law 1024 = some (.iconst 1, 1) := by decide +kernel
theorem at_L_1025 : am_at L_law 1025 = some (.iadd, 1) := by decide +kernel
theorem at_L_1026 : am_at L_law 1026 = some (.iaload, 1) := by decide +kernel
theorem at_L_1027 : am_at L_law 1027 = some (.aload_n 0, 1) := by decide +kernel
theorem at_L_1028 : am_at L_law 1028 = some (.iload_n 3, 1) := by decide +kernel
theorem at_L_1029 : am_at L_law 1029 = some (.iconst 2, 1) := by decide +kernel
theorem at_L_1030 : am_at L_law 1030 = some (.iadd, 1) := by decide +kernel
theorem at_L_1031 : am_at L_law 1031 = some (.iaload, 1) := by decide +kernel
theorem at_L_1032 : am_at L_law 1032 = some (.aload_n 0, 1) := by decide +kernel
theorem at_L_1033 : am_at L_law 1033 = some (.iload_n 3, 1) := by decide +kernel
theorem at_L_1034 : am_at L_law 1034 = some (.iconst 3, 1) := by decide +kernel
theorem at_L_1035 : am_at L_law 1035 = some (.iadd, 1) := by decide +kernel
theorem at_L_1036 : am_at L_law 1036 = some (.iaload, 1) := by decide +kernel
theorem at_L_1037 : am_at L_law 1037 = some (.invokevirtual 134, 3) := by decide +kernel
theorem at_L_1040 : am_at L_law 1040 = some (.if_icmp .eq 175, 3) := by decide +kernel
theorem at_L_1043 : am_at L_law 1043 = some (.iconst 0, 1) := by decide +kernel
theorem at_L_1044 : am_at L_law 1044 = some (.ireturn, 1) := by decide +kernel
theorem at_L_1045 : am_at L_law 1045 = some (.aload_n 1, 1) := by decide +kernel
theorem at_L_1046 : am_at L_law 1046 = some (.aload_n 0, 1) := by decide +kernel
theorem at_L_1047 : am_at L_law 1047 = some (.iload_n 3, 1) := by decide +kernel
theorem at_L_1048 : am_at L_law 1048 = some (.iconst 1, 1) := by decide +kernel
theorem at_L_1049 : am_at L_law 1049 = some (.iadd, 1) := by decide +kernel
theorem at_L_1050 : am_at L_law 1050 = some (.iaload, 1) := by decide +kernel
theorem at_L_1051 : am_at L_law 1051 = some (.aload_n 0, 1) := by decide +kernel
theorem at_L_1052 : am_at L_law 1052 = some (.iload_n 3, 1) := by decide +kernel
theorem at_L_1053 : am_at L_law 1053 = some (.iconst 2, 1) := by decide +kernel
theorem at_L_1054 : am_at L_law 1054 = some (.iadd, 1) := by decide +kernel
theorem at_L_1055 : am_at L_law 1055 = some (.iaload, 1) := by decide +kernel
theorem at_L_1056 : am_at L_law 1056 = some (.aload_n 0, 1) := by decide +kernel
theorem at_L_1057 : am_at L_law 1057 = some (.iload_n 3, 1) := by decide +kernel
theorem at_L_1058 : am_at L_law 1058 = some (.iconst 3, 1) := by decide +kernel
theorem at_L_1059 : am_at L_law 1059 = some (.iadd, 1) := by decide +kernel
theorem at_L_1060 : am_at L_law 1060 = some (.iaload, 1) := by decide +kernel
theorem at_L_1061 : am_at L_law 1061 = some (.i2l, 1) := by decide +kernel
theorem at_L_1062 : am_at L_law 1062 = some (.bipush 32, 2) := by decide +kernel
theorem at_L_1064 : am_at L_law 1064 = some (.lshl, 1) := by decide +kernel
theorem at_L_1065 : am_at L_law 1065 = some (.aload_n 0, 1) := by decide +kernel
theorem at_L_1066 : am_at L_law 1066 = some (.iload_n 3, 1) := by decide +kernel
theorem at_L_1067 : am_at L_law 1067 = some (.iconst 4, 1) := by decide +kernel
theorem at_L_1068 : am_at L_law 1068 = some (.iadd, 1) := by decide +kernel
theorem at_L_1069 : am_at L_law 1069 = some (.iaload, 1) := by decide +kernel
theorem at_L_1070 : am_at L_law 1070 = some (.i2l, 1) := by decide +kernel
theorem at_L_1071 : am_at L_law 1071 = some (.ldc2_w 135, 3) := by decide +kernel
theorem at_L_1074 : am_at L_law 1074 = some (.land, 1) := by decide +kernel
theorem at_L_1075 : am_at L_law 1075 = some (.lor, 1) := by decide +kernel
theorem at_L_1076 : am_at L_law 1076 = some (.invokevirtual 137, 3) := by decide +kernel
theorem at_L_1079 : am_at L_law 1079 = some (.aload_n 2, 1) := by decide +kernel
theorem at_L_1080 : am_at L_law 1080 = some (.aload_n 0, 1) := by decide +kernel
theorem at_L_1081 : am_at L_law 1081 = some (.iload_n 3, 1) := by decide +kernel
theorem at_L_1082 : am_at L_law 1082 = some (.iconst 1, 1) := by decide +kernel
theorem at_L_1083 : am_at L_law 1083 = some (.iadd, 1) := by decide +kernel
theorem at_L_1084 : am_at L_law 1084 = some (.iaload, 1) := by decide +kernel
theorem at_L_1085 : am_at L_law 1085 = some (.aload_n 0, 1) := by decide +kernel
theorem at_L_1086 : am_at L_law 1086 = some (.iload_n 3, 1) := by decide +kernel
theorem at_L_1087 : am_at L_law 1087 = some (.iconst 2, 1) := by decide +kernel
theorem at_L_1088 : am_at L_law 1088 = some (.iadd, 1) := by decide +kernel
theorem at_L_1089 : am_at L_law 1089 = some (.iaload, 1) := by decide +kernel
theorem at_L_1090 : am_at L_law 1090 = some (.aload_n 0, 1) := by decide +kernel
theorem at_L_1091 : am_at L_law 1091 = some (.iload_n 3, 1) := by decide +kernel
theorem at_L_1092 : am_at L_law 1092 = some (.iconst 3, 1) := by decide +kernel
theorem at_L_1093 : am_at L_law 1093 = some (.iadd, 1) := by decide +kernel
theorem at_L_1094 : am_at L_law 1094 = some (.iaload, 1) := by decide +kernel
theorem at_L_1095 : am_at L_law 1095 = some (.i2l, 1) := by decide +kernel
theorem at_L_1096 : am_at L_law 1096 = some (.bipush 32, 2) := by decide +kernel
theorem at_L_1098 : am_at L_law 1098 = some (.lshl, 1) := by decide +kernel
theorem at_L_1099 : am_at L_law 1099 = some (.aload_n 0, 1) := by decide +kernel
theorem at_L_1100 : am_at L_law 1100 = some (.iload_n 3, 1) := by decide +kernel
theorem at_L_1101 : am_at L_law 1101 = some (.iconst 4, 1) := by decide +kernel
theorem at_L_1102 : am_at L_law 1102 = some (.iadd, 1) := by decide +kernel
theorem at_L_1103 : am_at L_law 1103 = some (.iaload, 1) := by decide +kernel
theorem at_L_1104 : am_at L_law 1104 = some (.i2l, 1) := by decide +kernel
theorem at_L_1105 : am_at L_law 1105 = some (.ldc2_w 135, 3) := by decide +kernel
theorem at_L_1108 : am_at L_law 1108 = some (.land, 1) := by decide +kernel
theorem at_L_1109 : am_at L_law 1109 = some (.lor, 1) := by decide +kernel
theorem at_L_1110 : am_at L_law 1110 = some (.invokevirtual 141, 3) := by decide +kernel
theorem at_L_1113 : am_at L_law 1113 = some (.if_icmp .eq 102, 3) := by decide +kernel
theorem at_L_1116 : am_at L_law 1116 = some (.iconst 0, 1) := by decide +kernel
theorem at_L_1117 : am_at L_law 1117 = some (.ireturn, 1) := by decide +kernel
theorem at_L_1118 : am_at L_law 1118 = some (.aload_n 1, 1) := by decide +kernel
theorem at_L_1119 : am_at L_law 1119 = some (.aload_n 0, 1) := by decide +kernel
theorem at_L_1120 : am_at L_law 1120 = some (.iload_n 3, 1) := by decide +kernel
theorem at_L_1121 : am_at L_law 1121 = some (.iconst 1, 1) := by decide +kernel
theorem at_L_1122 : am_at L_law 1122 = some (.iadd, 1) := by decide +kernel
theorem at_L_1123 : am_at L_law 1123 = some (.iaload, 1) := by decide +kernel
theorem at_L_1124 : am_at L_law 1124 = some (.aload_n 0, 1) := by decide +kernel
theorem at_L_1125 : am_at L_law 1125 = some (.iload_n 3, 1) := by decide +kernel
theorem at_L_1126 : am_at L_law 1126 = some (.iconst 2, 1) := by decide +kernel
theorem at_L_1127 : am_at L_law 1127 = some (.iadd, 1) := by decide +kernel
theorem at_L_1128 : am_at L_law 1128 = some (.iaload, 1) := by decide +kernel
theorem at_L_1129 : am_at L_law 1129 = some (.invokevirtual 142, 3) := by decide +kernel
theorem at_L_1132 : am_at L_law 1132 = some (.aload_n 2, 1) := by decide +kernel
theorem at_L_1133 : am_at L_law 1133 = some (.aload_n 0, 1) := by decide +kernel
theorem at_L_1134 : am_at L_law 1134 = some (.iload_n 3, 1) := by decide +kernel
theorem at_L_1135 : am_at L_law 1135 = some (.iconst 1, 1) := by decide +kernel
theorem at_L_1136 : am_at L_law 1136 = some (.iadd, 1) := by decide +kernel
theorem at_L_1137 : am_at L_law 1137 = some (.iaload, 1) := by decide +kernel
theorem at_L_1138 : am_at L_law 1138 = some (.aload_n 0, 1) := by decide +kernel
theorem at_L_1139 : am_at L_law 1139 = some (.iload_n 3, 1) := by decide +kernel
theorem at_L_1140 : am_at L_law 1140 = some (.iconst 2, 1) := by decide +kernel
theorem at_L_1141 : am_at L_law 1141 = some (.iadd, 1) := by decide +kernel
theorem at_L_1142 : am_at L_law 1142 = some (.iaload, 1) := by decide +kernel
theorem at_L_1143 : am_at L_law 1143 = some (.invokevirtual 145, 3) := by decide +kernel
theorem at_L_1146 : am_at L_law 1146 = some (.lcmp, 1) := by decide +kernel
theorem at_L_1147 : am_at L_law 1147 = some (.ifCond .eq 68, 3) := by decide +kernel
theorem at_L_1150 : am_at L_law 1150 = some (.iconst 0, 1) := by decide +kernel
theorem at_L_1151 : am_at L_law 1151 = some (.ireturn, 1) := by decide +kernel
theorem at_L_1152 : am_at L_law 1152 = some (.aload_n 1, 1) := by decide +kernel
theorem at_L_1153 : am_at L_law 1153 = some (.aload_n 0, 1) := by decide +kernel
theorem at_L_1154 : am_at L_law 1154 = some (.iload_n 3, 1) := by decide +kernel
theorem at_L_1155 : am_at L_law 1155 = some (.iconst 1, 1) := by decide +kernel
theorem at_L_1156 : am_at L_law 1156 = some (.iadd, 1) := by decide +kernel
theorem at_L_1157 : am_at L_law 1157 = some (.iaload, 1) := by decide +kernel
theorem at_L_1158 : am_at L_law 1158 = some (.aload_n 0, 1) := by decide +kernel
theorem at_L_1159 : am_at L_law 1159 = some (.iload_n 3, 1) := by decide +kernel
theorem at_L_1160 : am_at L_law 1160 = some (.iconst 2, 1) := by decide +kernel
theorem at_L_1161 : am_at L_law 1161 = some (.iadd, 1) := by decide +kernel
theorem at_L_1162 : am_at L_law 1162 = some (.iaload, 1) := by decide +kernel
theorem at_L_1163 : am_at L_law 1163 = some (.aload_n 0, 1) := by decide +kernel
theorem at_L_1164 : am_at L_law 1164 = some (.iload_n 3, 1) := by decide +kernel
theorem at_L_1165 : am_at L_law 1165 = some (.iconst 3, 1) := by decide +kernel
theorem at_L_1166 : am_at L_law 1166 = some (.iadd, 1) := by decide +kernel
theorem at_L_1167 : am_at L_law 1167 = some (.iaload, 1) := by decide +kernel
theorem at_L_1168 : am_at L_law 1168 = some (.aload_n 0, 1) := by decide +kernel
theorem at_L_1169 : am_at L_law 1169 = some (.iload_n 3, 1) := by decide +kernel
theorem at_L_1170 : am_at L_law 1170 = some (.iconst 4, 1) := by decide +kernel
theorem at_L_1171 : am_at L_law 1171 = some (.iadd, 1) := by decide +kernel
theorem at_L_1172 : am_at L_law 1172 = some (.iaload, 1) := by decide +kernel
theorem at_L_1173 : am_at L_law 1173 = some (.aload_n 0, 1) := by decide +kernel
theorem at_L_1174 : am_at L_law 1174 = some (.iload_n 3, 1) := by decide +kernel
theorem at_L_1175 : am_at L_law 1175 = some (.iconst 5, 1) := by decide +kernel
theorem at_L_1176 : am_at L_law 1176 = some (.iadd, 1) := by decide +kernel
theorem at_L_1177 : am_at L_law 1177 = some (.iaload, 1) := by decide +kernel
theorem at_L_1178 : am_at L_law 1178 = some (.invokevirtual 146, 3) := by decide +kernel
theorem at_L_1181 : am_at L_law 1181 = some (.aload_n 2, 1) := by decide +kernel
theorem at_L_1182 : am_at L_law 1182 = some (.aload_n 0, 1) := by decide +kernel
theorem at_L_1183 : am_at L_law 1183 = some (.iload_n 3, 1) := by decide +kernel
theorem at_L_1184 : am_at L_law 1184 = some (.iconst 1, 1) := by decide +kernel
theorem at_L_1185 : am_at L_law 1185 = some (.iadd, 1) := by decide +kernel
theorem at_L_1186 : am_at L_law 1186 = some (.iaload, 1) := by decide +kernel
theorem at_L_1187 : am_at L_law 1187 = some (.aload_n 0, 1) := by decide +kernel
theorem at_L_1188 : am_at L_law 1188 = some (.iload_n 3, 1) := by decide +kernel
theorem at_L_1189 : am_at L_law 1189 = some (.iconst 2, 1) := by decide +kernel
theorem at_L_1190 : am_at L_law 1190 = some (.iadd, 1) := by decide +kernel
theorem at_L_1191 : am_at L_law 1191 = some (.iaload, 1) := by decide +kernel
theorem at_L_1192 : am_at L_law 1192 = some (.aload_n 0, 1) := by decide +kernel
theorem at_L_1193 : am_at L_law 1193 = some (.iload_n 3, 1) := by decide +kernel
theorem at_L_1194 : am_at L_law 1194 = some (.iconst 3, 1) := by decide +kernel
theorem at_L_1195 : am_at L_law 1195 = some (.iadd, 1) := by decide +kernel
theorem at_L_1196 : am_at L_law 1196 = some (.iaload, 1) := by decide +kernel
theorem at_L_1197 : am_at L_law 1197 = some (.aload_n 0, 1) := by decide +kernel
theorem at_L_1198 : am_at L_law 1198 = some (.iload_n 3, 1) := by decide +kernel
theorem at_L_1199 : am_at L_law 1199 = some (.iconst 4, 1) := by decide +kernel
theorem at_L_1200 : am_at L_law 1200 = some (.iadd, 1) := by decide +kernel
theorem at_L_1201 : am_at L_law 1201 = some (.iaload, 1) := by decide +kernel
theorem at_L_1202 : am_at L_law 1202 = some (.aload_n 0, 1) := by decide +kernel
theorem at_L_1203 : am_at L_law 1203 = some (.iload_n 3, 1) := by decide +kernel
theorem at_L_1204 : am_at L_law 1204 = some (.iconst 5, 1) := by decide +kernel
theorem at_L_1205 : am_at L_law 1205 = some (.iadd, 1) := by decide +kernel
theorem at_L_1206 : am_at L_law 1206 = some (.iaload, 1) := by decide +kernel
theorem at_L_1207 : am_at L_law 1207 = some (.invokevirtual 150, 3) := by decide +kernel
theorem at_L_1210 : am_at L_law 1210 = some (.if_icmp .eq 5, 3) := by decide +kernel
theorem at_L_1213 : am_at L_law 1213 = some (.iconst 0, 1) := by decide +kernel
theorem at_L_1214 : am_at L_law 1214 = some (.ireturn, 1) := by decide +kernel
theorem at_L_1215 : am_at L_law 1215 = some (.iinc 3 6, 3) := by decide +kernel
theorem at_L_1218 : am_at L_law 1218 = some (.goto (-1200), 3) := by decide +kernel
theorem at_L_1221 : am_at L_law 1221 = some (.iconst 1, 1) := by decide +kernel
theorem at_L_1222 : am_at L_law 1222 = some (.ireturn, 1) := by decide +kernel
