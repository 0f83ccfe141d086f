theorem xd_law_0 : decode code 0 = .ok (.new 7, 3) := by decide +kernel
theorem xd_law_3 : decode code 3 = .ok (.dup, 1) := by decide +kernel
theorem xd_law_4 : decode code 4 = .ok (.invokespecial 9, 3) := by decide +kernel
theorem xd_law_7 : decode code 7 = .ok (.astore_n 1, 1) := by decide +kernel
theorem xd_law_8 : decode code 8 = .ok (.new 10, 3) := by decide +kernel
theorem xd_law_11 : decode code 11 = .ok (.dup, 1) := by decide +kernel
theorem xd_law_12 : decode code 12 = .ok (.invokespecial 12, 3) := by decide +kernel
theorem xd_law_15 : decode code 15 = .ok (.astore_n 2, 1) := by decide +kernel
theorem xd_law_16 : decode code 16 = .ok (.iconst 0, 1) := by decide +kernel
theorem xd_law_17 : decode code 17 = .ok (.istore_n 3, 1) := by decide +kernel
theorem xd_law_18 : decode code 18 = .ok (.iload_n 3, 1) := by decide +kernel
theorem xd_law_19 : decode code 19 = .ok (.aload_n 0, 1) := by decide +kernel
theorem xd_law_20 : decode code 20 = .ok (.arraylength, 1) := by decide +kernel
theorem xd_law_21 : decode code 21 = .ok (.iconst 4, 1) := by decide +kernel
theorem xd_law_22 : decode code 22 = .ok (.isub, 1) := by decide +kernel
theorem xd_law_23 : decode code 23 = .ok (.if_icmp .gt 1231, 3) := by decide +kernel
theorem xd_law_26 : decode code 26 = .ok (.aload_n 0, 1) := by decide +kernel
theorem xd_law_27 : decode code 27 = .ok (.iload_n 3, 1) := by decide +kernel
theorem xd_law_28 : decode code 28 = .ok (.iaload, 1) := by decide +kernel
theorem xd_law_29 : decode code 29 = .ok (.bipush 63, 2) := by decide +kernel
theorem xd_law_31 : decode code 31 = .ok (.iand, 1) := by decide +kernel
theorem xd_law_32 : decode code 32 = .ok (.tableswitch 1216 0 33 #[152, 195, 238, 281, 304, 347, 370, 393, 416, 449, 472, 515, 548, 597, 630, 679, 712, 755, 798, 841, 854, 887, 910, 933, 966, 989, 1002, 1045, 1068, 1091, 1134, 1157, 1180, 1203], 152) := by decide +kernel
theorem xd_law_184 : decode code 184 = .ok (.aload_n 1, 1) := by decide +kernel
theorem xd_law_185 : decode code 185 = .ok (.aload_n 0, 1) := by decide +kernel
theorem xd_law_186 : decode code 186 = .ok (.iload_n 3, 1) := by decide +kernel
theorem xd_law_187 : decode code 187 = .ok (.iconst 1, 1) := by decide +kernel
theorem xd_law_188 : decode code 188 = .ok (.iadd, 1) := by decide +kernel
theorem xd_law_189 : decode code 189 = .ok (.iaload, 1) := by decide +kernel
theorem xd_law_190 : decode code 190 = .ok (.aload_n 0, 1) := by decide +kernel
theorem xd_law_191 : decode code 191 = .ok (.iload_n 3, 1) := by decide +kernel
theorem xd_law_192 : decode code 192 = .ok (.iconst 2, 1) := by decide +kernel
theorem xd_law_193 : decode code 193 = .ok (.iadd, 1) := by decide +kernel
theorem xd_law_194 : decode code 194 = .ok (.iaload, 1) := by decide +kernel
theorem xd_law_195 : decode code 195 = .ok (.aload_n 0, 1) := by decide +kernel
theorem xd_law_196 : decode code 196 = .ok (.iload_n 3, 1) := by decide +kernel
theorem xd_law_197 : decode code 197 = .ok (.iconst 3, 1) := by decide +kernel
theorem xd_law_198 : decode code 198 = .ok (.iadd, 1) := by decide +kernel
theorem xd_law_199 : decode code 199 = .ok (.iaload, 1) := by decide +kernel
theorem xd_law_200 : decode code 200 = .ok (.invokevirtual 13, 3) := by decide +kernel
theorem xd_law_203 : decode code 203 = .ok (.aload_n 2, 1) := by decide +kernel
theorem xd_law_204 : decode code 204 = .ok (.aload_n 0, 1) := by decide +kernel
theorem xd_law_205 : decode code 205 = .ok (.iload_n 3, 1) := by decide +kernel
theorem xd_law_206 : decode code 206 = .ok (.iconst 1, 1) := by decide +kernel
theorem xd_law_207 : decode code 207 = .ok (.iadd, 1) := by decide +kernel
theorem xd_law_208 : decode code 208 = .ok (.iaload, 1) := by decide +kernel
theorem xd_law_209 : decode code 209 = .ok (.aload_n 0, 1) := by decide +kernel
theorem xd_law_210 : decode code 210 = .ok (.iload_n 3, 1) := by decide +kernel
theorem xd_law_211 : decode code 211 = .ok (.iconst 2, 1) := by decide +kernel
theorem xd_law_212 : decode code 212 = .ok (.iadd, 1) := by decide +kernel
theorem xd_law_213 : decode code 213 = .ok (.iaload, 1) := by decide +kernel
theorem xd_law_214 : decode code 214 = .ok (.aload_n 0, 1) := by decide +kernel
theorem xd_law_215 : decode code 215 = .ok (.iload_n 3, 1) := by decide +kernel
theorem xd_law_216 : decode code 216 = .ok (.iconst 3, 1) := by decide +kernel
theorem xd_law_217 : decode code 217 = .ok (.iadd, 1) := by decide +kernel
theorem xd_law_218 : decode code 218 = .ok (.iaload, 1) := by decide +kernel
theorem xd_law_219 : decode code 219 = .ok (.invokevirtual 17, 3) := by decide +kernel
theorem xd_law_222 : decode code 222 = .ok (.if_icmp .eq 1026, 3) := by decide +kernel
theorem xd_law_225 : decode code 225 = .ok (.iconst 0, 1) := by decide +kernel
theorem xd_law_226 : decode code 226 = .ok (.ireturn, 1) := by decide +kernel
theorem xd_law_227 : decode code 227 = .ok (.aload_n 1, 1) := by decide +kernel
theorem xd_law_228 : decode code 228 = .ok (.aload_n 0, 1) := by decide +kernel
theorem xd_law_229 : decode code 229 = .ok (.iload_n 3, 1) := by decide +kernel
theorem xd_law_230 : decode code 230 = .ok (.iconst 1, 1) := by decide +kernel
theorem xd_law_231 : decode code 231 = .ok (.iadd, 1) := by decide +kernel
theorem xd_law_232 : decode code 232 = .ok (.iaload, 1) := by decide +kernel
theorem xd_law_233 : decode code 233 = .ok (.aload_n 0, 1) := by decide +kernel
theorem xd_law_234 : decode code 234 = .ok (.iload_n 3, 1) := by decide +kernel
theorem xd_law_235 : decode code 235 = .ok (.iconst 2, 1) := by decide +kernel
theorem xd_law_236 : decode code 236 = .ok (.iadd, 1) := by decide +kernel
theorem xd_law_237 : decode code 237 = .ok (.iaload, 1) := by decide +kernel
theorem xd_law_238 : decode code 238 = .ok (.aload_n 0, 1) := by decide +kernel
theorem xd_law_239 : decode code 239 = .ok (.iload_n 3, 1) := by decide +kernel
theorem xd_law_240 : decode code 240 = .ok (.iconst 3, 1) := by decide +kernel
theorem xd_law_241 : decode code 241 = .ok (.iadd, 1) := by decide +kernel
theorem xd_law_242 : decode code 242 = .ok (.iaload, 1) := by decide +kernel
theorem xd_law_243 : decode code 243 = .ok (.invokevirtual 18, 3) := by decide +kernel
theorem xd_law_246 : decode code 246 = .ok (.aload_n 2, 1) := by decide +kernel
theorem xd_law_247 : decode code 247 = .ok (.aload_n 0, 1) := by decide +kernel
theorem xd_law_248 : decode code 248 = .ok (.iload_n 3, 1) := by decide +kernel
theorem xd_law_249 : decode code 249 = .ok (.iconst 1, 1) := by decide +kernel
theorem xd_law_250 : decode code 250 = .ok (.iadd, 1) := by decide +kernel
theorem xd_law_251 : decode code 251 = .ok (.iaload, 1) := by decide +kernel
theorem xd_law_252 : decode code 252 = .ok (.aload_n 0, 1) := by decide +kernel
theorem xd_law_253 : decode code 253 = .ok (.iload_n 3, 1) := by decide +kernel
theorem xd_law_254 : decode code 254 = .ok (.iconst 2, 1) := by decide +kernel
theorem xd_law_255 : decode code 255 = .ok (.iadd, 1) := by decide +kernel
theorem xd_law_256 : decode code 256 = .ok (.iaload, 1) := by decide +kernel
theorem xd_law_257 : decode code 257 = .ok (.aload_n 0, 1) := by decide +kernel
theorem xd_law_258 : decode code 258 = .ok (.iload_n 3, 1) := by decide +kernel
theorem xd_law_259 : decode code 259 = .ok (.iconst 3, 1) := by decide +kernel
theorem xd_law_260 : decode code 260 = .ok (.iadd, 1) := by decide +kernel
theorem xd_law_261 : decode code 261 = .ok (.iaload, 1) := by decide +kernel
theorem xd_law_262 : decode code 262 = .ok (.invokevirtual 21, 3) := by decide +kernel
theorem xd_law_265 : decode code 265 = .ok (.if_icmp .eq 983, 3) := by decide +kernel
theorem xd_law_268 : decode code 268 = .ok (.iconst 0, 1) := by decide +kernel
theorem xd_law_269 : decode code 269 = .ok (.ireturn, 1) := by decide +kernel
theorem xd_law_270 : decode code 270 = .ok (.aload_n 1, 1) := by decide +kernel
theorem xd_law_271 : decode code 271 = .ok (.aload_n 0, 1) := by decide +kernel
theorem xd_law_272 : decode code 272 = .ok (.iload_n 3, 1) := by decide +kernel
theorem xd_law_273 : decode code 273 = .ok (.iconst 1, 1) := by decide +kernel
theorem xd_law_274 : decode code 274 = .ok (.iadd, 1) := by decide +kernel
theorem xd_law_275 : decode code 275 = .ok (.iaload, 1) := by decide +kernel
theorem xd_law_276 : decode code 276 = .ok (.aload_n 0, 1) := by decide +kernel
theorem xd_law_277 : decode code 277 = .ok (.iload_n 3, 1) := by decide +kernel
theorem xd_law_278 : decode code 278 = .ok (.iconst 2, 1) := by decide +kernel
theorem xd_law_279 : decode code 279 = .ok (.iadd, 1) := by decide +kernel
theorem xd_law_280 : decode code 280 = .ok (.iaload, 1) := by decide +kernel
theorem xd_law_281 : decode code 281 = .ok (.aload_n 0, 1) := by decide +kernel
theorem xd_law_282 : decode code 282 = .ok (.iload_n 3, 1) := by decide +kernel
theorem xd_law_283 : decode code 283 = .ok (.iconst 3, 1) := by decide +kernel
theorem xd_law_284 : decode code 284 = .ok (.iadd, 1) := by decide +kernel
theorem xd_law_285 : decode code 285 = .ok (.iaload, 1) := by decide +kernel
theorem xd_law_286 : decode code 286 = .ok (.invokevirtual 22, 3) := by decide +kernel
theorem xd_law_289 : decode code 289 = .ok (.aload_n 2, 1) := by decide +kernel
theorem xd_law_290 : decode code 290 = .ok (.aload_n 0, 1) := by decide +kernel
theorem xd_law_291 : decode code 291 = .ok (.iload_n 3, 1) := by decide +kernel
theorem xd_law_292 : decode code 292 = .ok (.iconst 1, 1) := by decide +kernel
theorem xd_law_293 : decode code 293 = .ok (.iadd, 1) := by decide +kernel
theorem xd_law_294 : decode code 294 = .ok (.iaload, 1) := by decide +kernel
theorem xd_law_295 : decode code 295 = .ok (.aload_n 0, 1) := by decide +kernel
theorem xd_law_296 : decode code 296 = .ok (.iload_n 3, 1) := by decide +kernel
theorem xd_law_297 : decode code 297 = .ok (.iconst 2, 1) := by decide +kernel
theorem xd_law_298 : decode code 298 = .ok (.iadd, 1) := by decide +kernel
theorem xd_law_299 : decode code 299 = .ok (.iaload, 1) := by decide +kernel
theorem xd_law_300 : decode code 300 = .ok (.aload_n 0, 1) := by decide +kernel
theorem xd_law_301 : decode code 301 = .ok (.iload_n 3, 1) := by decide +kernel
theorem xd_law_302 : decode code 302 = .ok (.iconst 3, 1) := by decide +kernel
theorem xd_law_303 : decode code 303 = .ok (.iadd, 1) := by decide +kernel
theorem xd_law_304 : decode code 304 = .ok (.iaload, 1) := by decide +kernel
theorem xd_law_305 : decode code 305 = .ok (.invokevirtual 25, 3) := by decide +kernel
theorem xd_law_308 : decode code 308 = .ok (.if_icmp .eq 940, 3) := by decide +kernel
theorem xd_law_311 : decode code 311 = .ok (.iconst 0, 1) := by decide +kernel
theorem xd_law_312 : decode code 312 = .ok (.ireturn, 1) := by decide +kernel
theorem xd_law_313 : decode code 313 = .ok (.aload_n 1, 1) := by decide +kernel
theorem xd_law_314 : decode code 314 = .ok (.aload_n 0, 1) := by decide +kernel
theorem xd_law_315 : decode code 315 = .ok (.iload_n 3, 1) := by decide +kernel
theorem xd_law_316 : decode code 316 = .ok (.iconst 1, 1) := by decide +kernel
theorem xd_law_317 : decode code 317 = .ok (.iadd, 1) := by decide +kernel
theorem xd_law_318 : decode code 318 = .ok (.iaload, 1) := by decide +kernel
theorem xd_law_319 : decode code 319 = .ok (.invokevirtual 26, 3) := by decide +kernel
theorem xd_law_322 : decode code 322 = .ok (.aload_n 2, 1) := by decide +kernel
theorem xd_law_323 : decode code 323 = .ok (.aload_n 0, 1) := by decide +kernel
theorem xd_law_324 : decode code 324 = .ok (.iload_n 3, 1) := by decide +kernel
theorem xd_law_325 : decode code 325 = .ok (.iconst 1, 1) := by decide +kernel
theorem xd_law_326 : decode code 326 = .ok (.iadd, 1) := by decide +kernel
theorem xd_law_327 : decode code 327 = .ok (.iaload, 1) := by decide +kernel
theorem xd_law_328 : decode code 328 = .ok (.invokevirtual 30, 3) := by decide +kernel
theorem xd_law_331 : decode code 331 = .ok (.if_icmp .eq 917, 3) := by decide +kernel
theorem xd_law_334 : decode code 334 = .ok (.iconst 0, 1) := by decide +kernel
theorem xd_law_335 : decode code 335 = .ok (.ireturn, 1) := by decide +kernel
theorem xd_law_336 : decode code 336 = .ok (.aload_n 1, 1) := by decide +kernel
theorem xd_law_337 : decode code 337 = .ok (.aload_n 0, 1) := by decide +kernel
theorem xd_law_338 : decode code 338 = .ok (.iload_n 3, 1) := by decide +kernel
theorem xd_law_339 : decode code 339 = .ok (.iconst 1, 1) := by decide +kernel
theorem xd_law_340 : decode code 340 = .ok (.iadd, 1) := by decide +kernel
theorem xd_law_341 : decode code 341 = .ok (.iaload, 1) := by decide +kernel
theorem xd_law_342 : decode code 342 = .ok (.aload_n 0, 1) := by decide +kernel
theorem xd_law_343 : decode code 343 = .ok (.iload_n 3, 1) := by decide +kernel
theorem xd_law_344 : decode code 344 = .ok (.iconst 2, 1) := by decide +kernel
theorem xd_law_345 : decode code 345 = .ok (.iadd, 1) := by decide +kernel
theorem xd_law_346 : decode code 346 = .ok (.iaload, 1) := by decide +kernel
theorem xd_law_347 : decode code 347 = .ok (.aload_n 0, 1) := by decide +kernel
theorem xd_law_348 : decode code 348 = .ok (.iload_n 3, 1) := by decide +kernel
theorem xd_law_349 : decode code 349 = .ok (.iconst 3, 1) := by decide +kernel
theorem xd_law_350 : decode code 350 = .ok (.iadd, 1) := by decide +kernel
theorem xd_law_351 : decode code 351 = .ok (.iaload, 1) := by decide +kernel
theorem xd_law_352 : decode code 352 = .ok (.invokevirtual 31, 3) := by decide +kernel
theorem xd_law_355 : decode code 355 = .ok (.aload_n 2, 1) := by decide +kernel
theorem xd_law_356 : decode code 356 = .ok (.aload_n 0, 1) := by decide +kernel
theorem xd_law_357 : decode code 357 = .ok (.iload_n 3, 1) := by decide +kernel
theorem xd_law_358 : decode code 358 = .ok (.iconst 1, 1) := by decide +kernel
theorem xd_law_359 : decode code 359 = .ok (.iadd, 1) := by decide +kernel
theorem xd_law_360 : decode code 360 = .ok (.iaload, 1) := by decide +kernel
theorem xd_law_361 : decode code 361 = .ok (.aload_n 0, 1) := by decide +kernel
theorem xd_law_362 : decode code 362 = .ok (.iload_n 3, 1) := by decide +kernel
theorem xd_law_363 : decode code 363 = .ok (.iconst 2, 1) := by decide +kernel
theorem xd_law_364 : decode code 364 = .ok (.iadd, 1) := by decide +kernel
theorem xd_law_365 : decode code 365 = .ok (.iaload, 1) := by decide +kernel
theorem xd_law_366 : decode code 366 = .ok (.aload_n 0, 1) := by decide +kernel
theorem xd_law_367 : decode code 367 = .ok (.iload_n 3, 1) := by decide +kernel
theorem xd_law_368 : decode code 368 = .ok (.iconst 3, 1) := by decide +kernel
theorem xd_law_369 : decode code 369 = .ok (.iadd, 1) := by decide +kernel
theorem xd_law_370 : decode code 370 = .ok (.iaload, 1) := by decide +kernel
theorem xd_law_371 : decode code 371 = .ok (.invokevirtual 34, 3) := by decide +kernel
theorem xd_law_374 : decode code 374 = .ok (.if_icmp .eq 874, 3) := by decide +kernel
theorem xd_law_377 : decode code 377 = .ok (.iconst 0, 1) := by decide +kernel
theorem xd_law_378 : decode code 378 = .ok (.ireturn, 1) := by decide +kernel
theorem xd_law_379 : decode code 379 = .ok (.aload_n 1, 1) := by decide +kernel
theorem xd_law_380 : decode code 380 = .ok (.aload_n 0, 1) := by decide +kernel
theorem xd_law_381 : decode code 381 = .ok (.iload_n 3, 1) := by decide +kernel
theorem xd_law_382 : decode code 382 = .ok (.iconst 1, 1) := by decide +kernel
theorem xd_law_383 : decode code 383 = .ok (.iadd, 1) := by decide +kernel
theorem xd_law_384 : decode code 384 = .ok (.iaload, 1) := by decide +kernel
theorem xd_law_385 : decode code 385 = .ok (.invokevirtual 35, 3) := by decide +kernel
theorem xd_law_388 : decode code 388 = .ok (.aload_n 2, 1) := by decide +kernel
theorem xd_law_389 : decode code 389 = .ok (.aload_n 0, 1) := by decide +kernel
theorem xd_law_390 : decode code 390 = .ok (.iload_n 3, 1) := by decide +kernel
theorem xd_law_391 : decode code 391 = .ok (.iconst 1, 1) := by decide +kernel
theorem xd_law_392 : decode code 392 = .ok (.iadd, 1) := by decide +kernel
theorem xd_law_393 : decode code 393 = .ok (.iaload, 1) := by decide +kernel
theorem xd_law_394 : decode code 394 = .ok (.invokevirtual 38, 3) := by decide +kernel
theorem xd_law_397 : decode code 397 = .ok (.if_icmp .eq 851, 3) := by decide +kernel
theorem xd_law_400 : decode code 400 = .ok (.iconst 0, 1) := by decide +kernel
theorem xd_law_401 : decode code 401 = .ok (.ireturn, 1) := by decide +kernel
theorem xd_law_402 : decode code 402 = .ok (.aload_n 1, 1) := by decide +kernel
theorem xd_law_403 : decode code 403 = .ok (.aload_n 0, 1) := by decide +kernel
theorem xd_law_404 : decode code 404 = .ok (.iload_n 3, 1) := by decide +kernel
theorem xd_law_405 : decode code 405 = .ok (.iconst 1, 1) := by decide +kernel
theorem xd_law_406 : decode code 406 = .ok (.iadd, 1) := by decide +kernel
theorem xd_law_407 : decode code 407 = .ok (.iaload, 1) := by decide +kernel
theorem xd_law_408 : decode code 408 = .ok (.invokevirtual 39, 3) := by decide +kernel
theorem xd_law_411 : decode code 411 = .ok (.aload_n 2, 1) := by decide +kernel
theorem xd_law_412 : decode code 412 = .ok (.aload_n 0, 1) := by decide +kernel
theorem xd_law_413 : decode code 413 = .ok (.iload_n 3, 1) := by decide +kernel
theorem xd_law_414 : decode code 414 = .ok (.iconst 1, 1) := by decide +kernel
theorem xd_law_415 : decode code 415 = .ok (.iadd, 1) := by decide +kernel
theorem xd_law_416 : decode code 416 = .ok (.iaload, 1) := by decide +kernel
theorem xd_law_417 : decode code 417 = .ok (.invokevirtual 42, 3) := by decide +kernel
theorem xd_law_420 : decode code 420 = .ok (.if_icmp .eq 828, 3) := by decide +kernel
theorem xd_law_423 : decode code 423 = .ok (.iconst 0, 1) := by decide +kernel
