/-! the law's places and words, by program -/
theorem dL_law_0 : decode cL_law 0 = .ok (.new 7, 3) := by decide +kernel
theorem dL_law_3 : decode cL_law 3 = .ok (.dup, 1) := by decide +kernel
theorem dL_law_4 : decode cL_law 4 = .ok (.invokespecial 9, 3) := by decide +kernel
theorem dL_law_7 : decode cL_law 7 = .ok (.astore_n 1, 1) := by decide +kernel
theorem dL_law_8 : decode cL_law 8 = .ok (.new 10, 3) := by decide +kernel
theorem dL_law_11 : decode cL_law 11 = .ok (.dup, 1) := by decide +kernel
theorem dL_law_12 : decode cL_law 12 = .ok (.invokespecial 12, 3) := by decide +kernel
theorem dL_law_15 : decode cL_law 15 = .ok (.astore_n 2, 1) := by decide +kernel
theorem dL_law_16 : decode cL_law 16 = .ok (.iconst 0, 1) := by decide +kernel
theorem dL_law_17 : decode cL_law 17 = .ok (.istore_n 3, 1) := by decide +kernel
theorem dL_law_18 : decode cL_law 18 = .ok (.iload_n 3, 1) := by decide +kernel
theorem dL_law_19 : decode cL_law 19 = .ok (.aload_n 0, 1) := by decide +kernel
theorem dL_law_20 : decode cL_law 20 = .ok (.arraylength, 1) := by decide +kernel
theorem dL_law_21 : decode cL_law 21 = .ok (.iconst 5, 1) := by decide +kernel
theorem dL_law_22 : decode cL_law 22 = .ok (.isub, 1) := by decide +kernel
theorem dL_law_23 : decode cL_law 23 = .ok (.if_icmp .gt 810, 3) := by decide +kernel
theorem dL_law_26 : decode cL_law 26 = .ok (.aload_n 0, 1) := by decide +kernel
theorem dL_law_27 : decode cL_law 27 = .ok (.iload_n 3, 1) := by decide +kernel
theorem dL_law_28 : decode cL_law 28 = .ok (.iaload, 1) := by decide +kernel
theorem dL_law_29 : decode cL_law 29 = .ok (.bipush 31, 2) := by decide +kernel
theorem dL_law_31 : decode cL_law 31 = .ok (.iand, 1) := by decide +kernel
theorem dL_law_32 : decode cL_law 32 = .ok (.tableswitch 795 0 25 #[120, 143, 156, 169, 202, 235, 288, 311, 360, 393, 416, 449, 472, 485, 518, 541, 554, 577, 590, 623, 646, 669, 712, 755, 768, 781], 120) := by decide +kernel
theorem dL_law_152 : decode cL_law 152 = .ok (.aload_n 1, 1) := by decide +kernel
theorem dL_law_153 : decode cL_law 153 = .ok (.aload_n 0, 1) := by decide +kernel
theorem dL_law_154 : decode cL_law 154 = .ok (.iload_n 3, 1) := by decide +kernel
theorem dL_law_155 : decode cL_law 155 = .ok (.iconst 1, 1) := by decide +kernel
theorem dL_law_156 : decode cL_law 156 = .ok (.iadd, 1) := by decide +kernel
theorem dL_law_157 : decode cL_law 157 = .ok (.iaload, 1) := by decide +kernel
theorem dL_law_158 : decode cL_law 158 = .ok (.invokevirtual 13, 3) := by decide +kernel
theorem dL_law_161 : decode cL_law 161 = .ok (.aload_n 2, 1) := by decide +kernel
theorem dL_law_162 : decode cL_law 162 = .ok (.aload_n 0, 1) := by decide +kernel
theorem dL_law_163 : decode cL_law 163 = .ok (.iload_n 3, 1) := by decide +kernel
theorem dL_law_164 : decode cL_law 164 = .ok (.iconst 1, 1) := by decide +kernel
theorem dL_law_165 : decode cL_law 165 = .ok (.iadd, 1) := by decide +kernel
theorem dL_law_166 : decode cL_law 166 = .ok (.iaload, 1) := by decide +kernel
theorem dL_law_167 : decode cL_law 167 = .ok (.invokevirtual 17, 3) := by decide +kernel
theorem dL_law_170 : decode cL_law 170 = .ok (.if_icmp .eq 657, 3) := by decide +kernel
theorem dL_law_173 : decode cL_law 173 = .ok (.iconst 0, 1) := by decide +kernel
theorem dL_law_174 : decode cL_law 174 = .ok (.ireturn, 1) := by decide +kernel
theorem dL_law_175 : decode cL_law 175 = .ok (.aload_n 1, 1) := by decide +kernel
theorem dL_law_176 : decode cL_law 176 = .ok (.invokevirtual 18, 3) := by decide +kernel
theorem dL_law_179 : decode cL_law 179 = .ok (.aload_n 2, 1) := by decide +kernel
theorem dL_law_180 : decode cL_law 180 = .ok (.invokevirtual 22, 3) := by decide +kernel
theorem dL_law_183 : decode cL_law 183 = .ok (.if_icmp .eq 644, 3) := by decide +kernel
theorem dL_law_186 : decode cL_law 186 = .ok (.iconst 0, 1) := by decide +kernel
theorem dL_law_187 : decode cL_law 187 = .ok (.ireturn, 1) := by decide +kernel
theorem dL_law_188 : decode cL_law 188 = .ok (.aload_n 1, 1) := by decide +kernel
theorem dL_law_189 : decode cL_law 189 = .ok (.invokevirtual 23, 3) := by decide +kernel
theorem dL_law_192 : decode cL_law 192 = .ok (.aload_n 2, 1) := by decide +kernel
theorem dL_law_193 : decode cL_law 193 = .ok (.invokevirtual 26, 3) := by decide +kernel
theorem dL_law_196 : decode cL_law 196 = .ok (.if_icmp .eq 631, 3) := by decide +kernel
theorem dL_law_199 : decode cL_law 199 = .ok (.iconst 0, 1) := by decide +kernel
theorem dL_law_200 : decode cL_law 200 = .ok (.ireturn, 1) := by decide +kernel
theorem dL_law_201 : decode cL_law 201 = .ok (.aload_n 1, 1) := by decide +kernel
theorem dL_law_202 : decode cL_law 202 = .ok (.aload_n 0, 1) := by decide +kernel
theorem dL_law_203 : decode cL_law 203 = .ok (.iload_n 3, 1) := by decide +kernel
theorem dL_law_204 : decode cL_law 204 = .ok (.iconst 1, 1) := by decide +kernel
theorem dL_law_205 : decode cL_law 205 = .ok (.iadd, 1) := by decide +kernel
theorem dL_law_206 : decode cL_law 206 = .ok (.iaload, 1) := by decide +kernel
theorem dL_law_207 : decode cL_law 207 = .ok (.aload_n 0, 1) := by decide +kernel
theorem dL_law_208 : decode cL_law 208 = .ok (.iload_n 3, 1) := by decide +kernel
theorem dL_law_209 : decode cL_law 209 = .ok (.iconst 2, 1) := by decide +kernel
theorem dL_law_210 : decode cL_law 210 = .ok (.iadd, 1) := by decide +kernel
theorem dL_law_211 : decode cL_law 211 = .ok (.iaload, 1) := by decide +kernel
theorem dL_law_212 : decode cL_law 212 = .ok (.invokevirtual 27, 3) := by decide +kernel
theorem dL_law_215 : decode cL_law 215 = .ok (.aload_n 2, 1) := by decide +kernel
theorem dL_law_216 : decode cL_law 216 = .ok (.aload_n 0, 1) := by decide +kernel
theorem dL_law_217 : decode cL_law 217 = .ok (.iload_n 3, 1) := by decide +kernel
theorem dL_law_218 : decode cL_law 218 = .ok (.iconst 1, 1) := by decide +kernel
theorem dL_law_219 : decode cL_law 219 = .ok (.iadd, 1) := by decide +kernel
theorem dL_law_220 : decode cL_law 220 = .ok (.iaload, 1) := by decide +kernel
theorem dL_law_221 : decode cL_law 221 = .ok (.aload_n 0, 1) := by decide +kernel
theorem dL_law_222 : decode cL_law 222 = .ok (.iload_n 3, 1) := by decide +kernel
theorem dL_law_223 : decode cL_law 223 = .ok (.iconst 2, 1) := by decide +kernel
theorem dL_law_224 : decode cL_law 224 = .ok (.iadd, 1) := by decide +kernel
theorem dL_law_225 : decode cL_law 225 = .ok (.iaload, 1) := by decide +kernel
theorem dL_law_226 : decode cL_law 226 = .ok (.invokevirtual 31, 3) := by decide +kernel
theorem dL_law_229 : decode cL_law 229 = .ok (.if_icmp .eq 598, 3) := by decide +kernel
theorem dL_law_232 : decode cL_law 232 = .ok (.iconst 0, 1) := by decide +kernel
theorem dL_law_233 : decode cL_law 233 = .ok (.ireturn, 1) := by decide +kernel
theorem dL_law_234 : decode cL_law 234 = .ok (.aload_n 1, 1) := by decide +kernel
theorem dL_law_235 : decode cL_law 235 = .ok (.aload_n 0, 1) := by decide +kernel
theorem dL_law_236 : decode cL_law 236 = .ok (.iload_n 3, 1) := by decide +kernel
theorem dL_law_237 : decode cL_law 237 = .ok (.iconst 1, 1) := by decide +kernel
theorem dL_law_238 : decode cL_law 238 = .ok (.iadd, 1) := by decide +kernel
theorem dL_law_239 : decode cL_law 239 = .ok (.iaload, 1) := by decide +kernel
theorem dL_law_240 : decode cL_law 240 = .ok (.aload_n 0, 1) := by decide +kernel
theorem dL_law_241 : decode cL_law 241 = .ok (.iload_n 3, 1) := by decide +kernel
theorem dL_law_242 : decode cL_law 242 = .ok (.iconst 2, 1) := by decide +kernel
theorem dL_law_243 : decode cL_law 243 = .ok (.iadd, 1) := by decide +kernel
theorem dL_law_244 : decode cL_law 244 = .ok (.iaload, 1) := by decide +kernel
theorem dL_law_245 : decode cL_law 245 = .ok (.invokevirtual 32, 3) := by decide +kernel
theorem dL_law_248 : decode cL_law 248 = .ok (.aload_n 2, 1) := by decide +kernel
theorem dL_law_249 : decode cL_law 249 = .ok (.aload_n 0, 1) := by decide +kernel
theorem dL_law_250 : decode cL_law 250 = .ok (.iload_n 3, 1) := by decide +kernel
theorem dL_law_251 : decode cL_law 251 = .ok (.iconst 1, 1) := by decide +kernel
theorem dL_law_252 : decode cL_law 252 = .ok (.iadd, 1) := by decide +kernel
theorem dL_law_253 : decode cL_law 253 = .ok (.iaload, 1) := by decide +kernel
theorem dL_law_254 : decode cL_law 254 = .ok (.aload_n 0, 1) := by decide +kernel
theorem dL_law_255 : decode cL_law 255 = .ok (.iload_n 3, 1) := by decide +kernel
theorem dL_law_256 : decode cL_law 256 = .ok (.iconst 2, 1) := by decide +kernel
theorem dL_law_257 : decode cL_law 257 = .ok (.iadd, 1) := by decide +kernel
theorem dL_law_258 : decode cL_law 258 = .ok (.iaload, 1) := by decide +kernel
theorem dL_law_259 : decode cL_law 259 = .ok (.invokevirtual 35, 3) := by decide +kernel
theorem dL_law_262 : decode cL_law 262 = .ok (.if_icmp .eq 565, 3) := by decide +kernel
theorem dL_law_265 : decode cL_law 265 = .ok (.iconst 0, 1) := by decide +kernel
theorem dL_law_266 : decode cL_law 266 = .ok (.ireturn, 1) := by decide +kernel
theorem dL_law_267 : decode cL_law 267 = .ok (.aload_n 1, 1) := by decide +kernel
theorem dL_law_268 : decode cL_law 268 = .ok (.aload_n 0, 1) := by decide +kernel
theorem dL_law_269 : decode cL_law 269 = .ok (.iload_n 3, 1) := by decide +kernel
theorem dL_law_270 : decode cL_law 270 = .ok (.iconst 1, 1) := by decide +kernel
theorem dL_law_271 : decode cL_law 271 = .ok (.iadd, 1) := by decide +kernel
theorem dL_law_272 : decode cL_law 272 = .ok (.iaload, 1) := by decide +kernel
theorem dL_law_273 : decode cL_law 273 = .ok (.aload_n 0, 1) := by decide +kernel
theorem dL_law_274 : decode cL_law 274 = .ok (.iload_n 3, 1) := by decide +kernel
theorem dL_law_275 : decode cL_law 275 = .ok (.iconst 2, 1) := by decide +kernel
theorem dL_law_276 : decode cL_law 276 = .ok (.iadd, 1) := by decide +kernel
theorem dL_law_277 : decode cL_law 277 = .ok (.iaload, 1) := by decide +kernel
theorem dL_law_278 : decode cL_law 278 = .ok (.aload_n 0, 1) := by decide +kernel
theorem dL_law_279 : decode cL_law 279 = .ok (.iload_n 3, 1) := by decide +kernel
theorem dL_law_280 : decode cL_law 280 = .ok (.iconst 3, 1) := by decide +kernel
theorem dL_law_281 : decode cL_law 281 = .ok (.iadd, 1) := by decide +kernel
theorem dL_law_282 : decode cL_law 282 = .ok (.iaload, 1) := by decide +kernel
theorem dL_law_283 : decode cL_law 283 = .ok (.aload_n 0, 1) := by decide +kernel
theorem dL_law_284 : decode cL_law 284 = .ok (.iload_n 3, 1) := by decide +kernel
theorem dL_law_285 : decode cL_law 285 = .ok (.iconst 4, 1) := by decide +kernel
theorem dL_law_286 : decode cL_law 286 = .ok (.iadd, 1) := by decide +kernel
theorem dL_law_287 : decode cL_law 287 = .ok (.iaload, 1) := by decide +kernel
theorem dL_law_288 : decode cL_law 288 = .ok (.invokevirtual 36, 3) := by decide +kernel
theorem dL_law_291 : decode cL_law 291 = .ok (.aload_n 2, 1) := by decide +kernel
theorem dL_law_292 : decode cL_law 292 = .ok (.aload_n 0, 1) := by decide +kernel
theorem dL_law_293 : decode cL_law 293 = .ok (.iload_n 3, 1) := by decide +kernel
theorem dL_law_294 : decode cL_law 294 = .ok (.iconst 1, 1) := by decide +kernel
theorem dL_law_295 : decode cL_law 295 = .ok (.iadd, 1) := by decide +kernel
theorem dL_law_296 : decode cL_law 296 = .ok (.iaload, 1) := by decide +kernel
theorem dL_law_297 : decode cL_law 297 = .ok (.aload_n 0, 1) := by decide +kernel
theorem dL_law_298 : decode cL_law 298 = .ok (.iload_n 3, 1) := by decide +kernel
theorem dL_law_299 : decode cL_law 299 = .ok (.iconst 2, 1) := by decide +kernel
theorem dL_law_300 : decode cL_law 300 = .ok (.iadd, 1) := by decide +kernel
theorem dL_law_301 : decode cL_law 301 = .ok (.iaload, 1) := by decide +kernel
theorem dL_law_302 : decode cL_law 302 = .ok (.aload_n 0, 1) := by decide +kernel
theorem dL_law_303 : decode cL_law 303 = .ok (.iload_n 3, 1) := by decide +kernel
theorem dL_law_304 : decode cL_law 304 = .ok (.iconst 3, 1) := by decide +kernel
theorem dL_law_305 : decode cL_law 305 = .ok (.iadd, 1) := by decide +kernel
theorem dL_law_306 : decode cL_law 306 = .ok (.iaload, 1) := by decide +kernel
theorem dL_law_307 : decode cL_law 307 = .ok (.aload_n 0, 1) := by decide +kernel
theorem dL_law_308 : decode cL_law 308 = .ok (.iload_n 3, 1) := by decide +kernel
theorem dL_law_309 : decode cL_law 309 = .ok (.iconst 4, 1) := by decide +kernel
theorem dL_law_310 : decode cL_law 310 = .ok (.iadd, 1) := by decide +kernel
theorem dL_law_311 : decode cL_law 311 = .ok (.iaload, 1) := by decide +kernel
theorem dL_law_312 : decode cL_law 312 = .ok (.invokevirtual 40, 3) := by decide +kernel
theorem dL_law_315 : decode cL_law 315 = .ok (.if_icmp .eq 512, 3) := by decide +kernel
theorem dL_law_318 : decode cL_law 318 = .ok (.iconst 0, 1) := by decide +kernel
theorem dL_law_319 : decode cL_law 319 = .ok (.ireturn, 1) := by decide +kernel
theorem dL_law_320 : decode cL_law 320 = .ok (.aload_n 1, 1) := by decide +kernel
theorem dL_law_321 : decode cL_law 321 = .ok (.aload_n 0, 1) := by decide +kernel
theorem dL_law_322 : decode cL_law 322 = .ok (.iload_n 3, 1) := by decide +kernel
theorem dL_law_323 : decode cL_law 323 = .ok (.iconst 1, 1) := by decide +kernel
theorem dL_law_324 : decode cL_law 324 = .ok (.iadd, 1) := by decide +kernel
theorem dL_law_325 : decode cL_law 325 = .ok (.iaload, 1) := by decide +kernel
theorem dL_law_326 : decode cL_law 326 = .ok (.invokevirtual 41, 3) := by decide +kernel
theorem dL_law_329 : decode cL_law 329 = .ok (.aload_n 2, 1) := by decide +kernel
theorem dL_law_330 : decode cL_law 330 = .ok (.aload_n 0, 1) := by decide +kernel
theorem dL_law_331 : decode cL_law 331 = .ok (.iload_n 3, 1) := by decide +kernel
theorem dL_law_332 : decode cL_law 332 = .ok (.iconst 1, 1) := by decide +kernel
theorem dL_law_333 : decode cL_law 333 = .ok (.iadd, 1) := by decide +kernel
theorem dL_law_334 : decode cL_law 334 = .ok (.iaload, 1) := by decide +kernel
theorem dL_law_335 : decode cL_law 335 = .ok (.invokevirtual 44, 3) := by decide +kernel
theorem dL_law_338 : decode cL_law 338 = .ok (.if_icmp .eq 489, 3) := by decide +kernel
theorem dL_law_341 : decode cL_law 341 = .ok (.iconst 0, 1) := by decide +kernel
theorem dL_law_342 : decode cL_law 342 = .ok (.ireturn, 1) := by decide +kernel
theorem dL_law_343 : decode cL_law 343 = .ok (.aload_n 1, 1) := by decide +kernel
theorem dL_law_344 : decode cL_law 344 = .ok (.aload_n 0, 1) := by decide +kernel
theorem dL_law_345 : decode cL_law 345 = .ok (.iload_n 3, 1) := by decide +kernel
theorem dL_law_346 : decode cL_law 346 = .ok (.iconst 1, 1) := by decide +kernel
theorem dL_law_347 : decode cL_law 347 = .ok (.iadd, 1) := by decide +kernel
theorem dL_law_348 : decode cL_law 348 = .ok (.iaload, 1) := by decide +kernel
theorem dL_law_349 : decode cL_law 349 = .ok (.aload_n 0, 1) := by decide +kernel
theorem dL_law_350 : decode cL_law 350 = .ok (.iload_n 3, 1) := by decide +kernel
theorem dL_law_351 : decode cL_law 351 = .ok (.iconst 2, 1) := by decide +kernel
theorem dL_law_352 : decode cL_law 352 = .ok (.iadd, 1) := by decide +kernel
theorem dL_law_353 : decode cL_law 353 = .ok (.iaload, 1) := by decide +kernel
theorem dL_law_354 : decode cL_law 354 = .ok (.ifCond .eq 7, 3) := by decide +kernel
theorem dL_law_357 : decode cL_law 357 = .ok (.iconst 1, 1) := by decide +kernel
theorem dL_law_358 : decode cL_law 358 = .ok (.goto 4, 3) := by decide +kernel
theorem dL_law_361 : decode cL_law 361 = .ok (.iconst 0, 1) := by decide +kernel
theorem dL_law_362 : decode cL_law 362 = .ok (.invokevirtual 45, 3) := by decide +kernel
theorem dL_law_365 : decode cL_law 365 = .ok (.aload_n 2, 1) := by decide +kernel
theorem dL_law_366 : decode cL_law 366 = .ok (.aload_n 0, 1) := by decide +kernel
theorem dL_law_367 : decode cL_law 367 = .ok (.iload_n 3, 1) := by decide +kernel
theorem dL_law_368 : decode cL_law 368 = .ok (.iconst 1, 1) := by decide +kernel
theorem dL_law_369 : decode cL_law 369 = .ok (.iadd, 1) := by decide +kernel
theorem dL_law_370 : decode cL_law 370 = .ok (.iaload, 1) := by decide +kernel
theorem dL_law_371 : decode cL_law 371 = .ok (.aload_n 0, 1) := by decide +kernel
theorem dL_law_372 : decode cL_law 372 = .ok (.iload_n 3, 1) := by decide +kernel
theorem dL_law_373 : decode cL_law 373 = .ok (.iconst 2, 1) := by decide +kernel
theorem dL_law_374 : decode cL_law 374 = .ok (.iadd, 1) := by decide +kernel
theorem dL_law_375 : decode cL_law 375 = .ok (.iaload, 1) := by decide +kernel
theorem dL_law_376 : decode cL_law 376 = .ok (.ifCond .eq 7, 3) := by decide +kernel
theorem dL_law_379 : decode cL_law 379 = .ok (.iconst 1, 1) := by decide +kernel
theorem dL_law_380 : decode cL_law 380 = .ok (.goto 4, 3) := by decide +kernel
theorem dL_law_383 : decode cL_law 383 = .ok (.iconst 0, 1) := by decide +kernel
theorem dL_law_384 : decode cL_law 384 = .ok (.invokevirtual 49, 3) := by decide +kernel
theorem dL_law_387 : decode cL_law 387 = .ok (.if_icmp .eq 440, 3) := by decide +kernel
theorem dL_law_390 : decode cL_law 390 = .ok (.iconst 0, 1) := by decide +kernel
theorem dL_law_391 : decode cL_law 391 = .ok (.ireturn, 1) := by decide +kernel
theorem dL_law_392 : decode cL_law 392 = .ok (.aload_n 1, 1) := by decide +kernel
theorem dL_law_393 : decode cL_law 393 = .ok (.aload_n 0, 1) := by decide +kernel
theorem dL_law_394 : decode cL_law 394 = .ok (.iload_n 3, 1) := by decide +kernel
theorem dL_law_395 : decode cL_law 395 = .ok (.iconst 1, 1) := by decide +kernel
theorem dL_law_396 : decode cL_law 396 = .ok (.iadd, 1) := by decide +kernel
theorem dL_law_397 : decode cL_law 397 = .ok (.iaload, 1) := by decide +kernel
theorem dL_law_398 : decode cL_law 398 = .ok (.aload_n 0, 1) := by decide +kernel
theorem dL_law_399 : decode cL_law 399 = .ok (.iload_n 3, 1) := by decide +kernel
theorem dL_law_400 : decode cL_law 400 = .ok (.iconst 2, 1) := by decide +kernel
theorem dL_law_401 : decode cL_law 401 = .ok (.iadd, 1) := by decide +kernel
theorem dL_law_402 : decode cL_law 402 = .ok (.iaload, 1) := by decide +kernel
theorem dL_law_403 : decode cL_law 403 = .ok (.invokevirtual 50, 3) := by decide +kernel
theorem dL_law_406 : decode cL_law 406 = .ok (.aload_n 2, 1) := by decide +kernel
theorem dL_law_407 : decode cL_law 407 = .ok (.aload_n 0, 1) := by decide +kernel
theorem dL_law_408 : decode cL_law 408 = .ok (.iload_n 3, 1) := by decide +kernel
theorem dL_law_409 : decode cL_law 409 = .ok (.iconst 1, 1) := by decide +kernel
theorem dL_law_410 : decode cL_law 410 = .ok (.iadd, 1) := by decide +kernel
theorem dL_law_411 : decode cL_law 411 = .ok (.iaload, 1) := by decide +kernel
theorem dL_law_412 : decode cL_law 412 = .ok (.aload_n 0, 1) := by decide +kernel
theorem dL_law_413 : decode cL_law 413 = .ok (.iload_n 3, 1) := by decide +kernel
theorem dL_law_414 : decode cL_law 414 = .ok (.iconst 2, 1) := by decide +kernel
theorem dL_law_415 : decode cL_law 415 = .ok (.iadd, 1) := by decide +kernel
theorem dL_law_416 : decode cL_law 416 = .ok (.iaload, 1) := by decide +kernel
theorem dL_law_417 : decode cL_law 417 = .ok (.invokevirtual 53, 3) := by decide +kernel
theorem dL_law_420 : decode cL_law 420 = .ok (.if_icmp .eq 407, 3) := by decide +kernel
theorem dL_law_423 : decode cL_law 423 = .ok (.iconst 0, 1) := by decide +kernel
theorem dL_law_424 : decode cL_law 424 = .ok (.ireturn, 1) := by decide +kernel
theorem dL_law_425 : decode cL_law 425 = .ok (.aload_n 1, 1) := by decide +kernel
theorem dL_law_426 : decode cL_law 426 = .ok (.aload_n 0, 1) := by decide +kernel
theorem dL_law_427 : decode cL_law 427 = .ok (.iload_n 3, 1) := by decide +kernel
theorem dL_law_428 : decode cL_law 428 = .ok (.iconst 1, 1) := by decide +kernel
theorem dL_law_429 : decode cL_law 429 = .ok (.iadd, 1) := by decide +kernel
theorem dL_law_430 : decode cL_law 430 = .ok (.iaload, 1) := by decide +kernel
theorem dL_law_431 : decode cL_law 431 = .ok (.invokevirtual 54, 3) := by decide +kernel
theorem dL_law_434 : decode cL_law 434 = .ok (.aload_n 2, 1) := by decide +kernel
theorem dL_law_435 : decode cL_law 435 = .ok (.aload_n 0, 1) := by decide +kernel
theorem dL_law_436 : decode cL_law 436 = .ok (.iload_n 3, 1) := by decide +kernel
theorem dL_law_437 : decode cL_law 437 = .ok (.iconst 1, 1) := by decide +kernel
theorem dL_law_438 : decode cL_law 438 = .ok (.iadd, 1) := by decide +kernel
theorem dL_law_439 : decode cL_law 439 = .ok (.iaload, 1) := by decide +kernel
theorem dL_law_440 : decode cL_law 440 = .ok (.invokevirtual 57, 3) := by decide +kernel
theorem dL_law_443 : decode cL_law 443 = .ok (.if_icmp .eq 384, 3) := by decide +kernel
theorem dL_law_446 : decode cL_law 446 = .ok (.iconst 0, 1) := by decide +kernel
theorem dL_law_447 : decode cL_law 447 = .ok (.ireturn, 1) := by decide +kernel
theorem dL_law_448 : decode cL_law 448 = .ok (.aload_n 1, 1) := by decide +kernel
theorem dL_law_449 : decode cL_law 449 = .ok (.aload_n 0, 1) := by decide +kernel
theorem dL_law_450 : decode cL_law 450 = .ok (.iload_n 3, 1) := by decide +kernel
theorem dL_law_451 : decode cL_law 451 = .ok (.iconst 1, 1) := by decide +kernel
theorem dL_law_452 : decode cL_law 452 = .ok (.iadd, 1) := by decide +kernel
theorem dL_law_453 : decode cL_law 453 = .ok (.iaload, 1) := by decide +kernel
theorem dL_law_454 : decode cL_law 454 = .ok (.aload_n 0, 1) := by decide +kernel
theorem dL_law_455 : decode cL_law 455 = .ok (.iload_n 3, 1) := by decide +kernel
theorem dL_law_456 : decode cL_law 456 = .ok (.iconst 2, 1) := by decide +kernel
theorem dL_law_457 : decode cL_law 457 = .ok (.iadd, 1) := by decide +kernel
theorem dL_law_458 : decode cL_law 458 = .ok (.iaload, 1) := by decide +kernel
theorem dL_law_459 : decode cL_law 459 = .ok (.invokevirtual 58, 3) := by decide +kernel
theorem dL_law_462 : decode cL_law 462 = .ok (.aload_n 2, 1) := by decide +kernel
theorem dL_law_463 : decode cL_law 463 = .ok (.aload_n 0, 1) := by decide +kernel
theorem dL_law_464 : decode cL_law 464 = .ok (.iload_n 3, 1) := by decide +kernel
theorem dL_law_465 : decode cL_law 465 = .ok (.iconst 1, 1) := by decide +kernel
theorem dL_law_466 : decode cL_law 466 = .ok (.iadd, 1) := by decide +kernel
theorem dL_law_467 : decode cL_law 467 = .ok (.iaload, 1) := by decide +kernel
theorem dL_law_468 : decode cL_law 468 = .ok (.aload_n 0, 1) := by decide +kernel
theorem dL_law_469 : decode cL_law 469 = .ok (.iload_n 3, 1) := by decide +kernel
theorem dL_law_470 : decode cL_law 470 = .ok (.iconst 2, 1) := by decide +kernel
theorem dL_law_471 : decode cL_law 471 = .ok (.iadd, 1) := by decide +kernel
theorem dL_law_472 : decode cL_law 472 = .ok (.iaload, 1) := by decide +kernel
theorem dL_law_473 : decode cL_law 473 = .ok (.invokevirtual 61, 3) := by decide +kernel
theorem dL_law_476 : decode cL_law 476 = .ok (.if_icmp .eq 351, 3) := by decide +kernel
theorem dL_law_479 : decode cL_law 479 = .ok (.iconst 0, 1) := by decide +kernel
theorem dL_law_480 : decode cL_law 480 = .ok (.ireturn, 1) := by decide +kernel
theorem dL_law_481 : decode cL_law 481 = .ok (.aload_n 1, 1) := by decide +kernel
theorem dL_law_482 : decode cL_law 482 = .ok (.aload_n 0, 1) := by decide +kernel
theorem dL_law_483 : decode cL_law 483 = .ok (.iload_n 3, 1) := by decide +kernel
theorem dL_law_484 : decode cL_law 484 = .ok (.iconst 1, 1) := by decide +kernel
theorem dL_law_485 : decode cL_law 485 = .ok (.iadd, 1) := by decide +kernel
theorem dL_law_486 : decode cL_law 486 = .ok (.iaload, 1) := by decide +kernel
theorem dL_law_487 : decode cL_law 487 = .ok (.invokevirtual 62, 3) := by decide +kernel
theorem dL_law_490 : decode cL_law 490 = .ok (.aload_n 2, 1) := by decide +kernel
theorem dL_law_491 : decode cL_law 491 = .ok (.aload_n 0, 1) := by decide +kernel
theorem dL_law_492 : decode cL_law 492 = .ok (.iload_n 3, 1) := by decide +kernel
theorem dL_law_493 : decode cL_law 493 = .ok (.iconst 1, 1) := by decide +kernel
theorem dL_law_494 : decode cL_law 494 = .ok (.iadd, 1) := by decide +kernel
theorem dL_law_495 : decode cL_law 495 = .ok (.iaload, 1) := by decide +kernel
theorem dL_law_496 : decode cL_law 496 = .ok (.invokevirtual 65, 3) := by decide +kernel
theorem dL_law_499 : decode cL_law 499 = .ok (.if_icmp .eq 328, 3) := by decide +kernel
theorem dL_law_502 : decode cL_law 502 = .ok (.iconst 0, 1) := by decide +kernel
theorem dL_law_503 : decode cL_law 503 = .ok (.ireturn, 1) := by decide +kernel
theorem dL_law_504 : decode cL_law 504 = .ok (.aload_n 1, 1) := by decide +kernel
theorem dL_law_505 : decode cL_law 505 = .ok (.invokevirtual 66, 3) := by decide +kernel
theorem dL_law_508 : decode cL_law 508 = .ok (.aload_n 2, 1) := by decide +kernel
theorem dL_law_509 : decode cL_law 509 = .ok (.invokevirtual 69, 3) := by decide +kernel
theorem dL_law_512 : decode cL_law 512 = .ok (.if_icmp .eq 315, 3) := by decide +kernel
theorem dL_law_515 : decode cL_law 515 = .ok (.iconst 0, 1) := by decide +kernel
theorem dL_law_516 : decode cL_law 516 = .ok (.ireturn, 1) := by decide +kernel
theorem dL_law_517 : decode cL_law 517 = .ok (.aload_n 1, 1) := by decide +kernel
theorem dL_law_518 : decode cL_law 518 = .ok (.aload_n 0, 1) := by decide +kernel
theorem dL_law_519 : decode cL_law 519 = .ok (.iload_n 3, 1) := by decide +kernel
theorem dL_law_520 : decode cL_law 520 = .ok (.iconst 1, 1) := by decide +kernel
theorem dL_law_521 : decode cL_law 521 = .ok (.iadd, 1) := by decide +kernel
theorem dL_law_522 : decode cL_law 522 = .ok (.iaload, 1) := by decide +kernel
theorem dL_law_523 : decode cL_law 523 = .ok (.aload_n 0, 1) := by decide +kernel
theorem dL_law_524 : decode cL_law 524 = .ok (.iload_n 3, 1) := by decide +kernel
theorem dL_law_525 : decode cL_law 525 = .ok (.iconst 2, 1) := by decide +kernel
theorem dL_law_526 : decode cL_law 526 = .ok (.iadd, 1) := by decide +kernel
theorem dL_law_527 : decode cL_law 527 = .ok (.iaload, 1) := by decide +kernel
theorem dL_law_528 : decode cL_law 528 = .ok (.invokevirtual 70, 3) := by decide +kernel
theorem dL_law_531 : decode cL_law 531 = .ok (.aload_n 2, 1) := by decide +kernel
theorem dL_law_532 : decode cL_law 532 = .ok (.aload_n 0, 1) := by decide +kernel
theorem dL_law_533 : decode cL_law 533 = .ok (.iload_n 3, 1) := by decide +kernel
theorem dL_law_534 : decode cL_law 534 = .ok (.iconst 1, 1) := by decide +kernel
theorem dL_law_535 : decode cL_law 535 = .ok (.iadd, 1) := by decide +kernel
theorem dL_law_536 : decode cL_law 536 = .ok (.iaload, 1) := by decide +kernel
theorem dL_law_537 : decode cL_law 537 = .ok (.aload_n 0, 1) := by decide +kernel
theorem dL_law_538 : decode cL_law 538 = .ok (.iload_n 3, 1) := by decide +kernel
theorem dL_law_539 : decode cL_law 539 = .ok (.iconst 2, 1) := by decide +kernel
theorem dL_law_540 : decode cL_law 540 = .ok (.iadd, 1) := by decide +kernel
theorem dL_law_541 : decode cL_law 541 = .ok (.iaload, 1) := by decide +kernel
theorem dL_law_542 : decode cL_law 542 = .ok (.invokevirtual 73, 3) := by decide +kernel
theorem dL_law_545 : decode cL_law 545 = .ok (.if_icmp .eq 282, 3) := by decide +kernel
theorem dL_law_548 : decode cL_law 548 = .ok (.iconst 0, 1) := by decide +kernel
theorem dL_law_549 : decode cL_law 549 = .ok (.ireturn, 1) := by decide +kernel
theorem dL_law_550 : decode cL_law 550 = .ok (.aload_n 1, 1) := by decide +kernel
theorem dL_law_551 : decode cL_law 551 = .ok (.aload_n 0, 1) := by decide +kernel
theorem dL_law_552 : decode cL_law 552 = .ok (.iload_n 3, 1) := by decide +kernel
theorem dL_law_553 : decode cL_law 553 = .ok (.iconst 1, 1) := by decide +kernel
theorem dL_law_554 : decode cL_law 554 = .ok (.iadd, 1) := by decide +kernel
theorem dL_law_555 : decode cL_law 555 = .ok (.iaload, 1) := by decide +kernel
theorem dL_law_556 : decode cL_law 556 = .ok (.invokevirtual 74, 3) := by decide +kernel
theorem dL_law_559 : decode cL_law 559 = .ok (.aload_n 2, 1) := by decide +kernel
theorem dL_law_560 : decode cL_law 560 = .ok (.aload_n 0, 1) := by decide +kernel
theorem dL_law_561 : decode cL_law 561 = .ok (.iload_n 3, 1) := by decide +kernel
theorem dL_law_562 : decode cL_law 562 = .ok (.iconst 1, 1) := by decide +kernel
theorem dL_law_563 : decode cL_law 563 = .ok (.iadd, 1) := by decide +kernel
theorem dL_law_564 : decode cL_law 564 = .ok (.iaload, 1) := by decide +kernel
theorem dL_law_565 : decode cL_law 565 = .ok (.invokevirtual 77, 3) := by decide +kernel
theorem dL_law_568 : decode cL_law 568 = .ok (.if_icmp .eq 259, 3) := by decide +kernel
theorem dL_law_571 : decode cL_law 571 = .ok (.iconst 0, 1) := by decide +kernel
theorem dL_law_572 : decode cL_law 572 = .ok (.ireturn, 1) := by decide +kernel
theorem dL_law_573 : decode cL_law 573 = .ok (.aload_n 1, 1) := by decide +kernel
theorem dL_law_574 : decode cL_law 574 = .ok (.invokevirtual 78, 3) := by decide +kernel
theorem dL_law_577 : decode cL_law 577 = .ok (.aload_n 2, 1) := by decide +kernel
theorem dL_law_578 : decode cL_law 578 = .ok (.invokevirtual 81, 3) := by decide +kernel
theorem dL_law_581 : decode cL_law 581 = .ok (.if_icmp .eq 246, 3) := by decide +kernel
theorem dL_law_584 : decode cL_law 584 = .ok (.iconst 0, 1) := by decide +kernel
theorem dL_law_585 : decode cL_law 585 = .ok (.ireturn, 1) := by decide +kernel
theorem dL_law_586 : decode cL_law 586 = .ok (.aload_n 1, 1) := by decide +kernel
theorem dL_law_587 : decode cL_law 587 = .ok (.aload_n 0, 1) := by decide +kernel
theorem dL_law_588 : decode cL_law 588 = .ok (.iload_n 3, 1) := by decide +kernel
theorem dL_law_589 : decode cL_law 589 = .ok (.iconst 1, 1) := by decide +kernel
theorem dL_law_590 : decode cL_law 590 = .ok (.iadd, 1) := by decide +kernel
theorem dL_law_591 : decode cL_law 591 = .ok (.iaload, 1) := by decide +kernel
theorem dL_law_592 : decode cL_law 592 = .ok (.invokevirtual 82, 3) := by decide +kernel
theorem dL_law_595 : decode cL_law 595 = .ok (.aload_n 2, 1) := by decide +kernel
theorem dL_law_596 : decode cL_law 596 = .ok (.aload_n 0, 1) := by decide +kernel
theorem dL_law_597 : decode cL_law 597 = .ok (.iload_n 3, 1) := by decide +kernel
theorem dL_law_598 : decode cL_law 598 = .ok (.iconst 1, 1) := by decide +kernel
theorem dL_law_599 : decode cL_law 599 = .ok (.iadd, 1) := by decide +kernel
theorem dL_law_600 : decode cL_law 600 = .ok (.iaload, 1) := by decide +kernel
theorem dL_law_601 : decode cL_law 601 = .ok (.invokevirtual 85, 3) := by decide +kernel
theorem dL_law_604 : decode cL_law 604 = .ok (.if_icmp .eq 223, 3) := by decide +kernel
theorem dL_law_607 : decode cL_law 607 = .ok (.iconst 0, 1) := by decide +kernel
theorem dL_law_608 : decode cL_law 608 = .ok (.ireturn, 1) := by decide +kernel
theorem dL_law_609 : decode cL_law 609 = .ok (.aload_n 1, 1) := by decide +kernel
theorem dL_law_610 : decode cL_law 610 = .ok (.invokevirtual 86, 3) := by decide +kernel
theorem dL_law_613 : decode cL_law 613 = .ok (.aload_n 2, 1) := by decide +kernel
theorem dL_law_614 : decode cL_law 614 = .ok (.invokevirtual 89, 3) := by decide +kernel
theorem dL_law_617 : decode cL_law 617 = .ok (.if_icmp .eq 210, 3) := by decide +kernel
theorem dL_law_620 : decode cL_law 620 = .ok (.iconst 0, 1) := by decide +kernel
theorem dL_law_621 : decode cL_law 621 = .ok (.ireturn, 1) := by decide +kernel
theorem dL_law_622 : decode cL_law 622 = .ok (.aload_n 1, 1) := by decide +kernel
theorem dL_law_623 : decode cL_law 623 = .ok (.aload_n 0, 1) := by decide +kernel
theorem dL_law_624 : decode cL_law 624 = .ok (.iload_n 3, 1) := by decide +kernel
theorem dL_law_625 : decode cL_law 625 = .ok (.iconst 1, 1) := by decide +kernel
theorem dL_law_626 : decode cL_law 626 = .ok (.iadd, 1) := by decide +kernel
theorem dL_law_627 : decode cL_law 627 = .ok (.iaload, 1) := by decide +kernel
theorem dL_law_628 : decode cL_law 628 = .ok (.aload_n 0, 1) := by decide +kernel
theorem dL_law_629 : decode cL_law 629 = .ok (.iload_n 3, 1) := by decide +kernel
theorem dL_law_630 : decode cL_law 630 = .ok (.iconst 2, 1) := by decide +kernel
theorem dL_law_631 : decode cL_law 631 = .ok (.iadd, 1) := by decide +kernel
theorem dL_law_632 : decode cL_law 632 = .ok (.iaload, 1) := by decide +kernel
theorem dL_law_633 : decode cL_law 633 = .ok (.invokevirtual 90, 3) := by decide +kernel
theorem dL_law_636 : decode cL_law 636 = .ok (.aload_n 2, 1) := by decide +kernel
theorem dL_law_637 : decode cL_law 637 = .ok (.aload_n 0, 1) := by decide +kernel
theorem dL_law_638 : decode cL_law 638 = .ok (.iload_n 3, 1) := by decide +kernel
theorem dL_law_639 : decode cL_law 639 = .ok (.iconst 1, 1) := by decide +kernel
theorem dL_law_640 : decode cL_law 640 = .ok (.iadd, 1) := by decide +kernel
theorem dL_law_641 : decode cL_law 641 = .ok (.iaload, 1) := by decide +kernel
theorem dL_law_642 : decode cL_law 642 = .ok (.aload_n 0, 1) := by decide +kernel
theorem dL_law_643 : decode cL_law 643 = .ok (.iload_n 3, 1) := by decide +kernel
theorem dL_law_644 : decode cL_law 644 = .ok (.iconst 2, 1) := by decide +kernel
theorem dL_law_645 : decode cL_law 645 = .ok (.iadd, 1) := by decide +kernel
theorem dL_law_646 : decode cL_law 646 = .ok (.iaload, 1) := by decide +kernel
theorem dL_law_647 : decode cL_law 647 = .ok (.invokevirtual 93, 3) := by decide +kernel
theorem dL_law_650 : decode cL_law 650 = .ok (.if_icmp .eq 177, 3) := by decide +kernel
theorem dL_law_653 : decode cL_law 653 = .ok (.iconst 0, 1) := by decide +kernel
theorem dL_law_654 : decode cL_law 654 = .ok (.ireturn, 1) := by decide +kernel
theorem dL_law_655 : decode cL_law 655 = .ok (.aload_n 1, 1) := by decide +kernel
theorem dL_law_656 : decode cL_law 656 = .ok (.aload_n 0, 1) := by decide +kernel
theorem dL_law_657 : decode cL_law 657 = .ok (.iload_n 3, 1) := by decide +kernel
theorem dL_law_658 : decode cL_law 658 = .ok (.iconst 1, 1) := by decide +kernel
theorem dL_law_659 : decode cL_law 659 = .ok (.iadd, 1) := by decide +kernel
theorem dL_law_660 : decode cL_law 660 = .ok (.iaload, 1) := by decide +kernel
theorem dL_law_661 : decode cL_law 661 = .ok (.invokevirtual 94, 3) := by decide +kernel
theorem dL_law_664 : decode cL_law 664 = .ok (.aload_n 2, 1) := by decide +kernel
theorem dL_law_665 : decode cL_law 665 = .ok (.aload_n 0, 1) := by decide +kernel
theorem dL_law_666 : decode cL_law 666 = .ok (.iload_n 3, 1) := by decide +kernel
theorem dL_law_667 : decode cL_law 667 = .ok (.iconst 1, 1) := by decide +kernel
theorem dL_law_668 : decode cL_law 668 = .ok (.iadd, 1) := by decide +kernel
theorem dL_law_669 : decode cL_law 669 = .ok (.iaload, 1) := by decide +kernel
theorem dL_law_670 : decode cL_law 670 = .ok (.invokevirtual 97, 3) := by decide +kernel
theorem dL_law_673 : decode cL_law 673 = .ok (.if_icmp .eq 154, 3) := by decide +kernel
theorem dL_law_676 : decode cL_law 676 = .ok (.iconst 0, 1) := by decide +kernel
theorem dL_law_677 : decode cL_law 677 = .ok (.ireturn, 1) := by decide +kernel
theorem dL_law_678 : decode cL_law 678 = .ok (.aload_n 1, 1) := by decide +kernel
theorem dL_law_679 : decode cL_law 679 = .ok (.aload_n 0, 1) := by decide +kernel
theorem dL_law_680 : decode cL_law 680 = .ok (.iload_n 3, 1) := by decide +kernel
theorem dL_law_681 : decode cL_law 681 = .ok (.iconst 1, 1) := by decide +kernel
theorem dL_law_682 : decode cL_law 682 = .ok (.iadd, 1) := by decide +kernel
theorem dL_law_683 : decode cL_law 683 = .ok (.iaload, 1) := by decide +kernel
theorem dL_law_684 : decode cL_law 684 = .ok (.invokevirtual 98, 3) := by decide +kernel
theorem dL_law_687 : decode cL_law 687 = .ok (.aload_n 2, 1) := by decide +kernel
theorem dL_law_688 : decode cL_law 688 = .ok (.aload_n 0, 1) := by decide +kernel
theorem dL_law_689 : decode cL_law 689 = .ok (.iload_n 3, 1) := by decide +kernel
theorem dL_law_690 : decode cL_law 690 = .ok (.iconst 1, 1) := by decide +kernel
theorem dL_law_691 : decode cL_law 691 = .ok (.iadd, 1) := by decide +kernel
theorem dL_law_692 : decode cL_law 692 = .ok (.iaload, 1) := by decide +kernel
theorem dL_law_693 : decode cL_law 693 = .ok (.invokevirtual 101, 3) := by decide +kernel
theorem dL_law_696 : decode cL_law 696 = .ok (.if_icmp .eq 131, 3) := by decide +kernel
theorem dL_law_699 : decode cL_law 699 = .ok (.iconst 0, 1) := by decide +kernel
theorem dL_law_700 : decode cL_law 700 = .ok (.ireturn, 1) := by decide +kernel
theorem dL_law_701 : decode cL_law 701 = .ok (.aload_n 1, 1) := by decide +kernel
theorem dL_law_702 : decode cL_law 702 = .ok (.invokevirtual 102, 3) := by decide +kernel
theorem dL_law_705 : decode cL_law 705 = .ok (.f2d, 1) := by decide +kernel
theorem dL_law_706 : decode cL_law 706 = .ok (.dstore 4, 2) := by decide +kernel
theorem dL_law_708 : decode cL_law 708 = .ok (.aload_n 2, 1) := by decide +kernel
theorem dL_law_709 : decode cL_law 709 = .ok (.invokevirtual 106, 3) := by decide +kernel
theorem dL_law_712 : decode cL_law 712 = .ok (.f2d, 1) := by decide +kernel
theorem dL_law_713 : decode cL_law 713 = .ok (.dstore 6, 2) := by decide +kernel
theorem dL_law_715 : decode cL_law 715 = .ok (.dload 4, 2) := by decide +kernel
theorem dL_law_717 : decode cL_law 717 = .ok (.dload 6, 2) := by decide +kernel
theorem dL_law_719 : decode cL_law 719 = .ok (.dcmp .l, 1) := by decide +kernel
theorem dL_law_720 : decode cL_law 720 = .ok (.ifCond .eq 21, 3) := by decide +kernel
theorem dL_law_723 : decode cL_law 723 = .ok (.dload 4, 2) := by decide +kernel
theorem dL_law_725 : decode cL_law 725 = .ok (.dload 4, 2) := by decide +kernel
theorem dL_law_727 : decode cL_law 727 = .ok (.dcmp .l, 1) := by decide +kernel
theorem dL_law_728 : decode cL_law 728 = .ok (.ifCond .eq 11, 3) := by decide +kernel
theorem dL_law_731 : decode cL_law 731 = .ok (.dload 6, 2) := by decide +kernel
theorem dL_law_733 : decode cL_law 733 = .ok (.dload 6, 2) := by decide +kernel
theorem dL_law_735 : decode cL_law 735 = .ok (.dcmp .l, 1) := by decide +kernel
theorem dL_law_736 : decode cL_law 736 = .ok (.ifCond .ne 5, 3) := by decide +kernel
theorem dL_law_739 : decode cL_law 739 = .ok (.iconst 0, 1) := by decide +kernel
theorem dL_law_740 : decode cL_law 740 = .ok (.ireturn, 1) := by decide +kernel
theorem dL_law_741 : decode cL_law 741 = .ok (.goto 86, 3) := by decide +kernel
theorem dL_law_744 : decode cL_law 744 = .ok (.aload_n 1, 1) := by decide +kernel
theorem dL_law_745 : decode cL_law 745 = .ok (.invokevirtual 107, 3) := by decide +kernel
theorem dL_law_748 : decode cL_law 748 = .ok (.f2d, 1) := by decide +kernel
theorem dL_law_749 : decode cL_law 749 = .ok (.dstore 4, 2) := by decide +kernel
theorem dL_law_751 : decode cL_law 751 = .ok (.aload_n 2, 1) := by decide +kernel
theorem dL_law_752 : decode cL_law 752 = .ok (.invokevirtual 110, 3) := by decide +kernel
theorem dL_law_755 : decode cL_law 755 = .ok (.f2d, 1) := by decide +kernel
theorem dL_law_756 : decode cL_law 756 = .ok (.dstore 6, 2) := by decide +kernel
theorem dL_law_758 : decode cL_law 758 = .ok (.dload 4, 2) := by decide +kernel
theorem dL_law_760 : decode cL_law 760 = .ok (.dload 6, 2) := by decide +kernel
theorem dL_law_762 : decode cL_law 762 = .ok (.dcmp .l, 1) := by decide +kernel
theorem dL_law_763 : decode cL_law 763 = .ok (.ifCond .eq 21, 3) := by decide +kernel
theorem dL_law_766 : decode cL_law 766 = .ok (.dload 4, 2) := by decide +kernel
theorem dL_law_768 : decode cL_law 768 = .ok (.dload 4, 2) := by decide +kernel
theorem dL_law_770 : decode cL_law 770 = .ok (.dcmp .l, 1) := by decide +kernel
theorem dL_law_771 : decode cL_law 771 = .ok (.ifCond .eq 11, 3) := by decide +kernel
theorem dL_law_774 : decode cL_law 774 = .ok (.dload 6, 2) := by decide +kernel
theorem dL_law_776 : decode cL_law 776 = .ok (.dload 6, 2) := by decide +kernel
theorem dL_law_778 : decode cL_law 778 = .ok (.dcmp .l, 1) := by decide +kernel
theorem dL_law_779 : decode cL_law 779 = .ok (.ifCond .ne 5, 3) := by decide +kernel
theorem dL_law_782 : decode cL_law 782 = .ok (.iconst 0, 1) := by decide +kernel
theorem dL_law_783 : decode cL_law 783 = .ok (.ireturn, 1) := by decide +kernel
theorem dL_law_784 : decode cL_law 784 = .ok (.goto 43, 3) := by decide +kernel
theorem dL_law_787 : decode cL_law 787 = .ok (.aload_n 1, 1) := by decide +kernel
theorem dL_law_788 : decode cL_law 788 = .ok (.invokevirtual 111, 3) := by decide +kernel
theorem dL_law_791 : decode cL_law 791 = .ok (.aload_n 2, 1) := by decide +kernel
theorem dL_law_792 : decode cL_law 792 = .ok (.invokevirtual 114, 3) := by decide +kernel
theorem dL_law_795 : decode cL_law 795 = .ok (.if_icmp .eq 32, 3) := by decide +kernel
theorem dL_law_798 : decode cL_law 798 = .ok (.iconst 0, 1) := by decide +kernel
theorem dL_law_799 : decode cL_law 799 = .ok (.ireturn, 1) := by decide +kernel
theorem dL_law_800 : decode cL_law 800 = .ok (.aload_n 1, 1) := by decide +kernel
theorem dL_law_801 : decode cL_law 801 = .ok (.invokevirtual 115, 3) := by decide +kernel
theorem dL_law_804 : decode cL_law 804 = .ok (.aload_n 2, 1) := by decide +kernel
theorem dL_law_805 : decode cL_law 805 = .ok (.invokevirtual 118, 3) := by decide +kernel
theorem dL_law_808 : decode cL_law 808 = .ok (.if_icmp .eq 19, 3) := by decide +kernel
theorem dL_law_811 : decode cL_law 811 = .ok (.iconst 0, 1) := by decide +kernel
theorem dL_law_812 : decode cL_law 812 = .ok (.ireturn, 1) := by decide +kernel
theorem dL_law_813 : decode cL_law 813 = .ok (.aload_n 1, 1) := by decide +kernel
theorem dL_law_814 : decode cL_law 814 = .ok (.invokevirtual 119, 3) := by decide +kernel
theorem dL_law_817 : decode cL_law 817 = .ok (.aload_n 2, 1) := by decide +kernel
theorem dL_law_818 : decode cL_law 818 = .ok (.invokevirtual 123, 3) := by decide +kernel
theorem dL_law_821 : decode cL_law 821 = .ok (.lcmp, 1) := by decide +kernel
theorem dL_law_822 : decode cL_law 822 = .ok (.ifCond .eq 5, 3) := by decide +kernel
theorem dL_law_825 : decode cL_law 825 = .ok (.iconst 0, 1) := by decide +kernel
theorem dL_law_826 : decode cL_law 826 = .ok (.ireturn, 1) := by decide +kernel
theorem dL_law_827 : decode cL_law 827 = .ok (.iinc 3 5, 3) := by decide +kernel
theorem dL_law_830 : decode cL_law 830 = .ok (.goto (-812), 3) := by decide +kernel
theorem dL_law_833 : decode cL_law 833 = .ok (.iconst 1, 1) := by decide +kernel
theorem dL_law_834 : decode cL_law 834 = .ok (.ireturn, 1) := by decide +kernel
theorem wm_L_13 : Cond.methodLink RL 13 yX5_type ∈ z_ws := z_ws_t 209 (by decide +kernel) (by decide +kernel)
theorem wc_X5_type : Cond.code yX5_type cX5_type 2 (some .int) ∈ z_ws := z_ws_t 212 (by decide +kernel) (by decide +kernel)
theorem win_X5_type : Cond.instanceMethod yX5_type ∈ z_ws := z_ws_t 210 (by decide +kernel) (by decide +kernel)
theorem wse_X5_type : Cond.selects RX5 yX5_type yX5_type ∈ z_ws := z_ws_t 211 (by decide +kernel) (by decide +kernel)
theorem cv_L_13 : z_cv RL 13 yX5_type cX5_type 2 (some .int) 1 := z_cv_of wm_L_13 win_X5_type wse_X5_type wi_X5 wc_X5_type (by decide +kernel)
theorem wm_L_17 : Cond.methodLink RL 17 yX6_type ∈ z_ws := z_ws_t 615 (by decide +kernel) (by decide +kernel)
theorem wc_X6_type : Cond.code yX6_type cX6_type 2 (some .int) ∈ z_ws := z_ws_t 618 (by decide +kernel) (by decide +kernel)
theorem win_X6_type : Cond.instanceMethod yX6_type ∈ z_ws := z_ws_t 616 (by decide +kernel) (by decide +kernel)
theorem wse_X6_type : Cond.selects RX6 yX6_type yX6_type ∈ z_ws := z_ws_t 617 (by decide +kernel) (by decide +kernel)
theorem cv_L_17 : z_cv RL 17 yX6_type cX6_type 2 (some .int) 1 := z_cv_of wm_L_17 win_X6_type wse_X6_type wi_X6 wc_X6_type (by decide +kernel)
theorem wm_L_18 : Cond.methodLink RL 18 yX5_clear ∈ z_ws := z_ws_t 213 (by decide +kernel) (by decide +kernel)
theorem wc_X5_clear : Cond.code yX5_clear cX5_clear 2 (some .int) ∈ z_ws := z_ws_t 216 (by decide +kernel) (by decide +kernel)
theorem win_X5_clear : Cond.instanceMethod yX5_clear ∈ z_ws := z_ws_t 214 (by decide +kernel) (by decide +kernel)
theorem wse_X5_clear : Cond.selects RX5 yX5_clear yX5_clear ∈ z_ws := z_ws_t 215 (by decide +kernel) (by decide +kernel)
theorem cv_L_18 : z_cv RL 18 yX5_clear cX5_clear 2 (some .int) 0 := z_cv_of wm_L_18 win_X5_clear wse_X5_clear wi_X5 wc_X5_clear (by decide +kernel)
theorem wm_L_22 : Cond.methodLink RL 22 yX6_clear ∈ z_ws := z_ws_t 622 (by decide +kernel) (by decide +kernel)
theorem wc_X6_clear : Cond.code yX6_clear cX6_clear 2 (some .int) ∈ z_ws := z_ws_t 625 (by decide +kernel) (by decide +kernel)
theorem win_X6_clear : Cond.instanceMethod yX6_clear ∈ z_ws := z_ws_t 623 (by decide +kernel) (by decide +kernel)
theorem wse_X6_clear : Cond.selects RX6 yX6_clear yX6_clear ∈ z_ws := z_ws_t 624 (by decide +kernel) (by decide +kernel)
theorem cv_L_22 : z_cv RL 22 yX6_clear cX6_clear 2 (some .int) 0 := z_cv_of wm_L_22 win_X6_clear wse_X6_clear wi_X6 wc_X6_clear (by decide +kernel)
theorem wm_L_23 : Cond.methodLink RL 23 yX5_read ∈ z_ws := z_ws_t 217 (by decide +kernel) (by decide +kernel)
theorem wc_X5_read : Cond.code yX5_read cX5_read 2 (some .int) ∈ z_ws := z_ws_t 220 (by decide +kernel) (by decide +kernel)
theorem win_X5_read : Cond.instanceMethod yX5_read ∈ z_ws := z_ws_t 218 (by decide +kernel) (by decide +kernel)
theorem wse_X5_read : Cond.selects RX5 yX5_read yX5_read ∈ z_ws := z_ws_t 219 (by decide +kernel) (by decide +kernel)
theorem cv_L_23 : z_cv RL 23 yX5_read cX5_read 2 (some .int) 0 := z_cv_of wm_L_23 win_X5_read wse_X5_read wi_X5 wc_X5_read (by decide +kernel)
theorem wm_L_26 : Cond.methodLink RL 26 yX6_read ∈ z_ws := z_ws_t 626 (by decide +kernel) (by decide +kernel)
theorem wc_X6_read : Cond.code yX6_read cX6_read 3 (some .int) ∈ z_ws := z_ws_t 629 (by decide +kernel) (by decide +kernel)
theorem win_X6_read : Cond.instanceMethod yX6_read ∈ z_ws := z_ws_t 627 (by decide +kernel) (by decide +kernel)
theorem wse_X6_read : Cond.selects RX6 yX6_read yX6_read ∈ z_ws := z_ws_t 628 (by decide +kernel) (by decide +kernel)
theorem cv_L_26 : z_cv RL 26 yX6_read cX6_read 3 (some .int) 0 := z_cv_of wm_L_26 win_X6_read wse_X6_read wi_X6 wc_X6_read (by decide +kernel)
theorem wm_L_27 : Cond.methodLink RL 27 yX5_append ∈ z_ws := z_ws_t 285 (by decide +kernel) (by decide +kernel)
theorem wc_X5_append : Cond.code yX5_append cX5_append 4 (some .int) ∈ z_ws := z_ws_t 288 (by decide +kernel) (by decide +kernel)
theorem win_X5_append : Cond.instanceMethod yX5_append ∈ z_ws := z_ws_t 286 (by decide +kernel) (by decide +kernel)
theorem wse_X5_append : Cond.selects RX5 yX5_append yX5_append ∈ z_ws := z_ws_t 287 (by decide +kernel) (by decide +kernel)
theorem cv_L_27 : z_cv RL 27 yX5_append cX5_append 4 (some .int) 2 := z_cv_of wm_L_27 win_X5_append wse_X5_append wi_X5 wc_X5_append (by decide +kernel)
theorem wm_L_31 : Cond.methodLink RL 31 yX6_append ∈ z_ws := z_ws_t 662 (by decide +kernel) (by decide +kernel)
theorem wc_X6_append : Cond.code yX6_append cX6_append 4 (some .int) ∈ z_ws := z_ws_t 665 (by decide +kernel) (by decide +kernel)
theorem win_X6_append : Cond.instanceMethod yX6_append ∈ z_ws := z_ws_t 663 (by decide +kernel) (by decide +kernel)
theorem wse_X6_append : Cond.selects RX6 yX6_append yX6_append ∈ z_ws := z_ws_t 664 (by decide +kernel) (by decide +kernel)
theorem cv_L_31 : z_cv RL 31 yX6_append cX6_append 4 (some .int) 2 := z_cv_of wm_L_31 win_X6_append wse_X6_append wi_X6 wc_X6_append (by decide +kernel)
theorem wm_L_32 : Cond.methodLink RL 32 yX5_babble ∈ z_ws := z_ws_t 290 (by decide +kernel) (by decide +kernel)
theorem wc_X5_babble : Cond.code yX5_babble cX5_babble 5 (some .int) ∈ z_ws := z_ws_t 293 (by decide +kernel) (by decide +kernel)
theorem win_X5_babble : Cond.instanceMethod yX5_babble ∈ z_ws := z_ws_t 291 (by decide +kernel) (by decide +kernel)
theorem wse_X5_babble : Cond.selects RX5 yX5_babble yX5_babble ∈ z_ws := z_ws_t 292 (by decide +kernel) (by decide +kernel)
theorem cv_L_32 : z_cv RL 32 yX5_babble cX5_babble 5 (some .int) 2 := z_cv_of wm_L_32 win_X5_babble wse_X5_babble wi_X5 wc_X5_babble (by decide +kernel)
theorem wm_L_35 : Cond.methodLink RL 35 yX6_babble ∈ z_ws := z_ws_t 666 (by decide +kernel) (by decide +kernel)
theorem wc_X6_babble : Cond.code yX6_babble cX6_babble 5 (some .int) ∈ z_ws := z_ws_t 669 (by decide +kernel) (by decide +kernel)
theorem win_X6_babble : Cond.instanceMethod yX6_babble ∈ z_ws := z_ws_t 667 (by decide +kernel) (by decide +kernel)
theorem wse_X6_babble : Cond.selects RX6 yX6_babble yX6_babble ∈ z_ws := z_ws_t 668 (by decide +kernel) (by decide +kernel)
theorem cv_L_35 : z_cv RL 35 yX6_babble cX6_babble 5 (some .int) 2 := z_cv_of wm_L_35 win_X6_babble wse_X6_babble wi_X6 wc_X6_babble (by decide +kernel)
theorem wm_L_36 : Cond.methodLink RL 36 yX5_mark ∈ z_ws := z_ws_t 295 (by decide +kernel) (by decide +kernel)
theorem wc_X5_mark : Cond.code yX5_mark cX5_mark 5 (some .int) ∈ z_ws := z_ws_t 298 (by decide +kernel) (by decide +kernel)
theorem win_X5_mark : Cond.instanceMethod yX5_mark ∈ z_ws := z_ws_t 296 (by decide +kernel) (by decide +kernel)
theorem wse_X5_mark : Cond.selects RX5 yX5_mark yX5_mark ∈ z_ws := z_ws_t 297 (by decide +kernel) (by decide +kernel)
theorem cv_L_36 : z_cv RL 36 yX5_mark cX5_mark 5 (some .int) 4 := z_cv_of wm_L_36 win_X5_mark wse_X5_mark wi_X5 wc_X5_mark (by decide +kernel)
theorem wm_L_40 : Cond.methodLink RL 40 yX6_mark ∈ z_ws := z_ws_t 671 (by decide +kernel) (by decide +kernel)
theorem wc_X6_mark : Cond.code yX6_mark cX6_mark 8 (some .int) ∈ z_ws := z_ws_t 674 (by decide +kernel) (by decide +kernel)
theorem win_X6_mark : Cond.instanceMethod yX6_mark ∈ z_ws := z_ws_t 672 (by decide +kernel) (by decide +kernel)
theorem wse_X6_mark : Cond.selects RX6 yX6_mark yX6_mark ∈ z_ws := z_ws_t 673 (by decide +kernel) (by decide +kernel)
theorem cv_L_40 : z_cv RL 40 yX6_mark cX6_mark 8 (some .int) 4 := z_cv_of wm_L_40 win_X6_mark wse_X6_mark wi_X6 wc_X6_mark (by decide +kernel)
theorem wm_L_41 : Cond.methodLink RL 41 yX5_unmark ∈ z_ws := z_ws_t 304 (by decide +kernel) (by decide +kernel)
theorem wc_X5_unmark : Cond.code yX5_unmark cX5_unmark 2 (some .int) ∈ z_ws := z_ws_t 307 (by decide +kernel) (by decide +kernel)
theorem win_X5_unmark : Cond.instanceMethod yX5_unmark ∈ z_ws := z_ws_t 305 (by decide +kernel) (by decide +kernel)
theorem wse_X5_unmark : Cond.selects RX5 yX5_unmark yX5_unmark ∈ z_ws := z_ws_t 306 (by decide +kernel) (by decide +kernel)
theorem cv_L_41 : z_cv RL 41 yX5_unmark cX5_unmark 2 (some .int) 1 := z_cv_of wm_L_41 win_X5_unmark wse_X5_unmark wi_X5 wc_X5_unmark (by decide +kernel)
theorem wm_L_44 : Cond.methodLink RL 44 yX6_unmark ∈ z_ws := z_ws_t 679 (by decide +kernel) (by decide +kernel)
theorem wc_X6_unmark : Cond.code yX6_unmark cX6_unmark 3 (some .int) ∈ z_ws := z_ws_t 682 (by decide +kernel) (by decide +kernel)
theorem win_X6_unmark : Cond.instanceMethod yX6_unmark ∈ z_ws := z_ws_t 680 (by decide +kernel) (by decide +kernel)
theorem wse_X6_unmark : Cond.selects RX6 yX6_unmark yX6_unmark ∈ z_ws := z_ws_t 681 (by decide +kernel) (by decide +kernel)
theorem cv_L_44 : z_cv RL 44 yX6_unmark cX6_unmark 3 (some .int) 1 := z_cv_of wm_L_44 win_X6_unmark wse_X6_unmark wi_X6 wc_X6_unmark (by decide +kernel)
theorem wm_L_45 : Cond.methodLink RL 45 yX5_hold ∈ z_ws := z_ws_t 317 (by decide +kernel) (by decide +kernel)
theorem wc_X5_hold : Cond.code yX5_hold cX5_hold 4 (some .int) ∈ z_ws := z_ws_t 320 (by decide +kernel) (by decide +kernel)
theorem win_X5_hold : Cond.instanceMethod yX5_hold ∈ z_ws := z_ws_t 318 (by decide +kernel) (by decide +kernel)
theorem wse_X5_hold : Cond.selects RX5 yX5_hold yX5_hold ∈ z_ws := z_ws_t 319 (by decide +kernel) (by decide +kernel)
theorem cv_L_45 : z_cv RL 45 yX5_hold cX5_hold 4 (some .int) 2 := z_cv_of wm_L_45 win_X5_hold wse_X5_hold wi_X5 wc_X5_hold (by decide +kernel)
theorem wm_L_49 : Cond.methodLink RL 49 yX6_hold ∈ z_ws := z_ws_t 687 (by decide +kernel) (by decide +kernel)
theorem wc_X6_hold : Cond.code yX6_hold cX6_hold 3 (some .int) ∈ z_ws := z_ws_t 690 (by decide +kernel) (by decide +kernel)
theorem win_X6_hold : Cond.instanceMethod yX6_hold ∈ z_ws := z_ws_t 688 (by decide +kernel) (by decide +kernel)
theorem wse_X6_hold : Cond.selects RX6 yX6_hold yX6_hold ∈ z_ws := z_ws_t 689 (by decide +kernel) (by decide +kernel)
theorem cv_L_49 : z_cv RL 49 yX6_hold cX6_hold 3 (some .int) 2 := z_cv_of wm_L_49 win_X6_hold wse_X6_hold wi_X6 wc_X6_hold (by decide +kernel)
theorem wm_L_50 : Cond.methodLink RL 50 yX5_set ∈ z_ws := z_ws_t 321 (by decide +kernel) (by decide +kernel)
theorem wc_X5_set : Cond.code yX5_set cX5_set 4 (some .int) ∈ z_ws := z_ws_t 324 (by decide +kernel) (by decide +kernel)
theorem win_X5_set : Cond.instanceMethod yX5_set ∈ z_ws := z_ws_t 322 (by decide +kernel) (by decide +kernel)
theorem wse_X5_set : Cond.selects RX5 yX5_set yX5_set ∈ z_ws := z_ws_t 323 (by decide +kernel) (by decide +kernel)
theorem cv_L_50 : z_cv RL 50 yX5_set cX5_set 4 (some .int) 2 := z_cv_of wm_L_50 win_X5_set wse_X5_set wi_X5 wc_X5_set (by decide +kernel)
theorem wm_L_53 : Cond.methodLink RL 53 yX6_set ∈ z_ws := z_ws_t 695 (by decide +kernel) (by decide +kernel)
theorem wc_X6_set : Cond.code yX6_set cX6_set 3 (some .int) ∈ z_ws := z_ws_t 698 (by decide +kernel) (by decide +kernel)
theorem win_X6_set : Cond.instanceMethod yX6_set ∈ z_ws := z_ws_t 696 (by decide +kernel) (by decide +kernel)
theorem wse_X6_set : Cond.selects RX6 yX6_set yX6_set ∈ z_ws := z_ws_t 697 (by decide +kernel) (by decide +kernel)
theorem cv_L_53 : z_cv RL 53 yX6_set cX6_set 3 (some .int) 2 := z_cv_of wm_L_53 win_X6_set wse_X6_set wi_X6 wc_X6_set (by decide +kernel)
theorem wm_L_54 : Cond.methodLink RL 54 yX5_setting ∈ z_ws := z_ws_t 327 (by decide +kernel) (by decide +kernel)
theorem cv_L_54 : z_cv RL 54 yX5_setting cX5_setting 2 (some .int) 1 := z_cv_of wm_L_54 win_X5_setting wse_X5_setting wi_X5 wc_X5_setting (by decide +kernel)
theorem wm_L_57 : Cond.methodLink RL 57 yX6_setting ∈ z_ws := z_ws_t 702 (by decide +kernel) (by decide +kernel)
theorem wc_X6_setting : Cond.code yX6_setting cX6_setting 2 (some .int) ∈ z_ws := z_ws_t 705 (by decide +kernel) (by decide +kernel)
theorem win_X6_setting : Cond.instanceMethod yX6_setting ∈ z_ws := z_ws_t 703 (by decide +kernel) (by decide +kernel)
theorem wse_X6_setting : Cond.selects RX6 yX6_setting yX6_setting ∈ z_ws := z_ws_t 704 (by decide +kernel) (by decide +kernel)
theorem cv_L_57 : z_cv RL 57 yX6_setting cX6_setting 2 (some .int) 1 := z_cv_of wm_L_57 win_X6_setting wse_X6_setting wi_X6 wc_X6_setting (by decide +kernel)
theorem wm_L_58 : Cond.methodLink RL 58 yX5_about ∈ z_ws := z_ws_t 331 (by decide +kernel) (by decide +kernel)
theorem wc_X5_about : Cond.code yX5_about cX5_about 3 (some .int) ∈ z_ws := z_ws_t 334 (by decide +kernel) (by decide +kernel)
theorem win_X5_about : Cond.instanceMethod yX5_about ∈ z_ws := z_ws_t 332 (by decide +kernel) (by decide +kernel)
theorem wse_X5_about : Cond.selects RX5 yX5_about yX5_about ∈ z_ws := z_ws_t 333 (by decide +kernel) (by decide +kernel)
theorem cv_L_58 : z_cv RL 58 yX5_about cX5_about 3 (some .int) 2 := z_cv_of wm_L_58 win_X5_about wse_X5_about wi_X5 wc_X5_about (by decide +kernel)
theorem wm_L_61 : Cond.methodLink RL 61 yX6_about ∈ z_ws := z_ws_t 710 (by decide +kernel) (by decide +kernel)
theorem wc_X6_about : Cond.code yX6_about cX6_about 3 (some .int) ∈ z_ws := z_ws_t 713 (by decide +kernel) (by decide +kernel)
theorem win_X6_about : Cond.instanceMethod yX6_about ∈ z_ws := z_ws_t 711 (by decide +kernel) (by decide +kernel)
theorem wse_X6_about : Cond.selects RX6 yX6_about yX6_about ∈ z_ws := z_ws_t 712 (by decide +kernel) (by decide +kernel)
theorem cv_L_61 : z_cv RL 61 yX6_about cX6_about 3 (some .int) 2 := z_cv_of wm_L_61 win_X6_about wse_X6_about wi_X6 wc_X6_about (by decide +kernel)
theorem wm_L_62 : Cond.methodLink RL 62 yX5_level ∈ z_ws := z_ws_t 393 (by decide +kernel) (by decide +kernel)
theorem wc_X5_level : Cond.code yX5_level cX5_level 2 (some .int) ∈ z_ws := z_ws_t 396 (by decide +kernel) (by decide +kernel)
theorem win_X5_level : Cond.instanceMethod yX5_level ∈ z_ws := z_ws_t 394 (by decide +kernel) (by decide +kernel)
theorem wse_X5_level : Cond.selects RX5 yX5_level yX5_level ∈ z_ws := z_ws_t 395 (by decide +kernel) (by decide +kernel)
theorem cv_L_62 : z_cv RL 62 yX5_level cX5_level 2 (some .int) 1 := z_cv_of wm_L_62 win_X5_level wse_X5_level wi_X5 wc_X5_level (by decide +kernel)
theorem wm_L_65 : Cond.methodLink RL 65 yX6_level ∈ z_ws := z_ws_t 706 (by decide +kernel) (by decide +kernel)
theorem wc_X6_level : Cond.code yX6_level cX6_level 2 (some .int) ∈ z_ws := z_ws_t 709 (by decide +kernel) (by decide +kernel)
theorem win_X6_level : Cond.instanceMethod yX6_level ∈ z_ws := z_ws_t 707 (by decide +kernel) (by decide +kernel)
theorem wse_X6_level : Cond.selects RX6 yX6_level yX6_level ∈ z_ws := z_ws_t 708 (by decide +kernel) (by decide +kernel)
theorem cv_L_65 : z_cv RL 65 yX6_level cX6_level 2 (some .int) 1 := z_cv_of wm_L_65 win_X6_level wse_X6_level wi_X6 wc_X6_level (by decide +kernel)
theorem wm_L_66 : Cond.methodLink RL 66 yX5_cuts ∈ z_ws := z_ws_t 402 (by decide +kernel) (by decide +kernel)
theorem wc_X5_cuts : Cond.code yX5_cuts cX5_cuts 1 (some .int) ∈ z_ws := z_ws_t 405 (by decide +kernel) (by decide +kernel)
theorem win_X5_cuts : Cond.instanceMethod yX5_cuts ∈ z_ws := z_ws_t 403 (by decide +kernel) (by decide +kernel)
theorem wse_X5_cuts : Cond.selects RX5 yX5_cuts yX5_cuts ∈ z_ws := z_ws_t 404 (by decide +kernel) (by decide +kernel)
theorem cv_L_66 : z_cv RL 66 yX5_cuts cX5_cuts 1 (some .int) 0 := z_cv_of wm_L_66 win_X5_cuts wse_X5_cuts wi_X5 wc_X5_cuts (by decide +kernel)
theorem wm_L_69 : Cond.methodLink RL 69 yX6_cuts ∈ z_ws := z_ws_t 746 (by decide +kernel) (by decide +kernel)
theorem wc_X6_cuts : Cond.code yX6_cuts cX6_cuts 1 (some .int) ∈ z_ws := z_ws_t 749 (by decide +kernel) (by decide +kernel)
theorem win_X6_cuts : Cond.instanceMethod yX6_cuts ∈ z_ws := z_ws_t 747 (by decide +kernel) (by decide +kernel)
theorem wse_X6_cuts : Cond.selects RX6 yX6_cuts yX6_cuts ∈ z_ws := z_ws_t 748 (by decide +kernel) (by decide +kernel)
theorem cv_L_69 : z_cv RL 69 yX6_cuts cX6_cuts 1 (some .int) 0 := z_cv_of wm_L_69 win_X6_cuts wse_X6_cuts wi_X6 wc_X6_cuts (by decide +kernel)
theorem wm_L_70 : Cond.methodLink RL 70 yX5_cut ∈ z_ws := z_ws_t 406 (by decide +kernel) (by decide +kernel)
theorem wc_X5_cut : Cond.code yX5_cut cX5_cut 4 (some .int) ∈ z_ws := z_ws_t 409 (by decide +kernel) (by decide +kernel)
theorem win_X5_cut : Cond.instanceMethod yX5_cut ∈ z_ws := z_ws_t 407 (by decide +kernel) (by decide +kernel)
theorem wse_X5_cut : Cond.selects RX5 yX5_cut yX5_cut ∈ z_ws := z_ws_t 408 (by decide +kernel) (by decide +kernel)
theorem cv_L_70 : z_cv RL 70 yX5_cut cX5_cut 4 (some .int) 2 := z_cv_of wm_L_70 win_X5_cut wse_X5_cut wi_X5 wc_X5_cut (by decide +kernel)
theorem wm_L_73 : Cond.methodLink RL 73 yX6_cut ∈ z_ws := z_ws_t 750 (by decide +kernel) (by decide +kernel)
theorem wc_X6_cut : Cond.code yX6_cut cX6_cut 3 (some .int) ∈ z_ws := z_ws_t 753 (by decide +kernel) (by decide +kernel)
theorem win_X6_cut : Cond.instanceMethod yX6_cut ∈ z_ws := z_ws_t 751 (by decide +kernel) (by decide +kernel)
theorem wse_X6_cut : Cond.selects RX6 yX6_cut yX6_cut ∈ z_ws := z_ws_t 752 (by decide +kernel) (by decide +kernel)
theorem cv_L_73 : z_cv RL 73 yX6_cut cX6_cut 3 (some .int) 2 := z_cv_of wm_L_73 win_X6_cut wse_X6_cut wi_X6 wc_X6_cut (by decide +kernel)
theorem wm_L_74 : Cond.methodLink RL 74 yX5_sum ∈ z_ws := z_ws_t 414 (by decide +kernel) (by decide +kernel)
theorem wc_X5_sum : Cond.code yX5_sum cX5_sum 3 (some .int) ∈ z_ws := z_ws_t 417 (by decide +kernel) (by decide +kernel)
theorem win_X5_sum : Cond.instanceMethod yX5_sum ∈ z_ws := z_ws_t 415 (by decide +kernel) (by decide +kernel)
theorem wse_X5_sum : Cond.selects RX5 yX5_sum yX5_sum ∈ z_ws := z_ws_t 416 (by decide +kernel) (by decide +kernel)
theorem cv_L_74 : z_cv RL 74 yX5_sum cX5_sum 3 (some .int) 1 := z_cv_of wm_L_74 win_X5_sum wse_X5_sum wi_X5 wc_X5_sum (by decide +kernel)
theorem wm_L_77 : Cond.methodLink RL 77 yX6_sum ∈ z_ws := z_ws_t 754 (by decide +kernel) (by decide +kernel)
theorem wc_X6_sum : Cond.code yX6_sum cX6_sum 2 (some .int) ∈ z_ws := z_ws_t 757 (by decide +kernel) (by decide +kernel)
theorem win_X6_sum : Cond.instanceMethod yX6_sum ∈ z_ws := z_ws_t 755 (by decide +kernel) (by decide +kernel)
theorem wse_X6_sum : Cond.selects RX6 yX6_sum yX6_sum ∈ z_ws := z_ws_t 756 (by decide +kernel) (by decide +kernel)
theorem cv_L_77 : z_cv RL 77 yX6_sum cX6_sum 2 (some .int) 1 := z_cv_of wm_L_77 win_X6_sum wse_X6_sum wi_X6 wc_X6_sum (by decide +kernel)
theorem wm_L_78 : Cond.methodLink RL 78 yX5_bestWindow ∈ z_ws := z_ws_t 430 (by decide +kernel) (by decide +kernel)
theorem wc_X5_bestWindow : Cond.code yX5_bestWindow cX5_bestWindow 5 (some .int) ∈ z_ws := z_ws_t 433 (by decide +kernel) (by decide +kernel)
theorem win_X5_bestWindow : Cond.instanceMethod yX5_bestWindow ∈ z_ws := z_ws_t 431 (by decide +kernel) (by decide +kernel)
theorem wse_X5_bestWindow : Cond.selects RX5 yX5_bestWindow yX5_bestWindow ∈ z_ws := z_ws_t 432 (by decide +kernel) (by decide +kernel)
theorem cv_L_78 : z_cv RL 78 yX5_bestWindow cX5_bestWindow 5 (some .int) 0 := z_cv_of wm_L_78 win_X5_bestWindow wse_X5_bestWindow wi_X5 wc_X5_bestWindow (by decide +kernel)
theorem wm_L_81 : Cond.methodLink RL 81 yX6_bestWindow ∈ z_ws := z_ws_t 762 (by decide +kernel) (by decide +kernel)
theorem wc_X6_bestWindow : Cond.code yX6_bestWindow cX6_bestWindow 5 (some .int) ∈ z_ws := z_ws_t 765 (by decide +kernel) (by decide +kernel)
theorem win_X6_bestWindow : Cond.instanceMethod yX6_bestWindow ∈ z_ws := z_ws_t 763 (by decide +kernel) (by decide +kernel)
theorem wse_X6_bestWindow : Cond.selects RX6 yX6_bestWindow yX6_bestWindow ∈ z_ws := z_ws_t 764 (by decide +kernel) (by decide +kernel)
theorem cv_L_81 : z_cv RL 81 yX6_bestWindow cX6_bestWindow 5 (some .int) 0 := z_cv_of wm_L_81 win_X6_bestWindow wse_X6_bestWindow wi_X6 wc_X6_bestWindow (by decide +kernel)
theorem wm_L_82 : Cond.methodLink RL 82 yX5_greatestDoubt ∈ z_ws := z_ws_t 434 (by decide +kernel) (by decide +kernel)
theorem wc_X5_greatestDoubt : Cond.code yX5_greatestDoubt cX5_greatestDoubt 3 (some .int) ∈ z_ws := z_ws_t 437 (by decide +kernel) (by decide +kernel)
theorem win_X5_greatestDoubt : Cond.instanceMethod yX5_greatestDoubt ∈ z_ws := z_ws_t 435 (by decide +kernel) (by decide +kernel)
theorem wse_X5_greatestDoubt : Cond.selects RX5 yX5_greatestDoubt yX5_greatestDoubt ∈ z_ws := z_ws_t 436 (by decide +kernel) (by decide +kernel)
theorem cv_L_82 : z_cv RL 82 yX5_greatestDoubt cX5_greatestDoubt 3 (some .int) 1 := z_cv_of wm_L_82 win_X5_greatestDoubt wse_X5_greatestDoubt wi_X5 wc_X5_greatestDoubt (by decide +kernel)
theorem wm_L_85 : Cond.methodLink RL 85 yX6_greatestDoubt ∈ z_ws := z_ws_t 766 (by decide +kernel) (by decide +kernel)
theorem wc_X6_greatestDoubt : Cond.code yX6_greatestDoubt cX6_greatestDoubt 5 (some .int) ∈ z_ws := z_ws_t 769 (by decide +kernel) (by decide +kernel)
theorem win_X6_greatestDoubt : Cond.instanceMethod yX6_greatestDoubt ∈ z_ws := z_ws_t 767 (by decide +kernel) (by decide +kernel)
theorem wse_X6_greatestDoubt : Cond.selects RX6 yX6_greatestDoubt yX6_greatestDoubt ∈ z_ws := z_ws_t 768 (by decide +kernel) (by decide +kernel)
theorem cv_L_85 : z_cv RL 85 yX6_greatestDoubt cX6_greatestDoubt 5 (some .int) 1 := z_cv_of wm_L_85 win_X6_greatestDoubt wse_X6_greatestDoubt wi_X6 wc_X6_greatestDoubt (by decide +kernel)
theorem wm_L_86 : Cond.methodLink RL 86 yX5_length ∈ z_ws := z_ws_t 442 (by decide +kernel) (by decide +kernel)
theorem wc_X5_length : Cond.code yX5_length cX5_length 1 (some .int) ∈ z_ws := z_ws_t 445 (by decide +kernel) (by decide +kernel)
theorem win_X5_length : Cond.instanceMethod yX5_length ∈ z_ws := z_ws_t 443 (by decide +kernel) (by decide +kernel)
theorem wse_X5_length : Cond.selects RX5 yX5_length yX5_length ∈ z_ws := z_ws_t 444 (by decide +kernel) (by decide +kernel)
theorem cv_L_86 : z_cv RL 86 yX5_length cX5_length 1 (some .int) 0 := z_cv_of wm_L_86 win_X5_length wse_X5_length wi_X5 wc_X5_length (by decide +kernel)
theorem wm_L_89 : Cond.methodLink RL 89 yX6_length ∈ z_ws := z_ws_t 770 (by decide +kernel) (by decide +kernel)
theorem wc_X6_length : Cond.code yX6_length cX6_length 1 (some .int) ∈ z_ws := z_ws_t 773 (by decide +kernel) (by decide +kernel)
theorem win_X6_length : Cond.instanceMethod yX6_length ∈ z_ws := z_ws_t 771 (by decide +kernel) (by decide +kernel)
theorem wse_X6_length : Cond.selects RX6 yX6_length yX6_length ∈ z_ws := z_ws_t 772 (by decide +kernel) (by decide +kernel)
theorem cv_L_89 : z_cv RL 89 yX6_length cX6_length 1 (some .int) 0 := z_cv_of wm_L_89 win_X6_length wse_X6_length wi_X6 wc_X6_length (by decide +kernel)
theorem wm_L_90 : Cond.methodLink RL 90 yX5_heard ∈ z_ws := z_ws_t 480 (by decide +kernel) (by decide +kernel)
theorem wc_X5_heard : Cond.code yX5_heard cX5_heard 4 (some .int) ∈ z_ws := z_ws_t 483 (by decide +kernel) (by decide +kernel)
theorem win_X5_heard : Cond.instanceMethod yX5_heard ∈ z_ws := z_ws_t 481 (by decide +kernel) (by decide +kernel)
theorem wse_X5_heard : Cond.selects RX5 yX5_heard yX5_heard ∈ z_ws := z_ws_t 482 (by decide +kernel) (by decide +kernel)
theorem cv_L_90 : z_cv RL 90 yX5_heard cX5_heard 4 (some .int) 2 := z_cv_of wm_L_90 win_X5_heard wse_X5_heard wi_X5 wc_X5_heard (by decide +kernel)
theorem wm_L_93 : Cond.methodLink RL 93 yX6_heard ∈ z_ws := z_ws_t 790 (by decide +kernel) (by decide +kernel)
theorem wc_X6_heard : Cond.code yX6_heard cX6_heard 3 (some .int) ∈ z_ws := z_ws_t 793 (by decide +kernel) (by decide +kernel)
theorem win_X6_heard : Cond.instanceMethod yX6_heard ∈ z_ws := z_ws_t 791 (by decide +kernel) (by decide +kernel)
theorem wse_X6_heard : Cond.selects RX6 yX6_heard yX6_heard ∈ z_ws := z_ws_t 792 (by decide +kernel) (by decide +kernel)
theorem cv_L_93 : z_cv RL 93 yX6_heard cX6_heard 3 (some .int) 2 := z_cv_of wm_L_93 win_X6_heard wse_X6_heard wi_X6 wc_X6_heard (by decide +kernel)
theorem wm_L_94 : Cond.methodLink RL 94 yX5_where ∈ z_ws := z_ws_t 484 (by decide +kernel) (by decide +kernel)
theorem wc_X5_where : Cond.code yX5_where cX5_where 2 (some .int) ∈ z_ws := z_ws_t 487 (by decide +kernel) (by decide +kernel)
theorem win_X5_where : Cond.instanceMethod yX5_where ∈ z_ws := z_ws_t 485 (by decide +kernel) (by decide +kernel)
theorem wse_X5_where : Cond.selects RX5 yX5_where yX5_where ∈ z_ws := z_ws_t 486 (by decide +kernel) (by decide +kernel)
theorem cv_L_94 : z_cv RL 94 yX5_where cX5_where 2 (some .int) 1 := z_cv_of wm_L_94 win_X5_where wse_X5_where wi_X5 wc_X5_where (by decide +kernel)
theorem wm_L_97 : Cond.methodLink RL 97 yX6_where ∈ z_ws := z_ws_t 794 (by decide +kernel) (by decide +kernel)
theorem wc_X6_where : Cond.code yX6_where cX6_where 4 (some .int) ∈ z_ws := z_ws_t 797 (by decide +kernel) (by decide +kernel)
theorem win_X6_where : Cond.instanceMethod yX6_where ∈ z_ws := z_ws_t 795 (by decide +kernel) (by decide +kernel)
theorem wse_X6_where : Cond.selects RX6 yX6_where yX6_where ∈ z_ws := z_ws_t 796 (by decide +kernel) (by decide +kernel)
theorem cv_L_97 : z_cv RL 97 yX6_where cX6_where 4 (some .int) 1 := z_cv_of wm_L_97 win_X6_where wse_X6_where wi_X6 wc_X6_where (by decide +kernel)
theorem wm_L_98 : Cond.methodLink RL 98 yX5_clicks ∈ z_ws := z_ws_t 492 (by decide +kernel) (by decide +kernel)
theorem wc_X5_clicks : Cond.code yX5_clicks cX5_clicks 2 (some .int) ∈ z_ws := z_ws_t 495 (by decide +kernel) (by decide +kernel)
theorem win_X5_clicks : Cond.instanceMethod yX5_clicks ∈ z_ws := z_ws_t 493 (by decide +kernel) (by decide +kernel)
theorem wse_X5_clicks : Cond.selects RX5 yX5_clicks yX5_clicks ∈ z_ws := z_ws_t 494 (by decide +kernel) (by decide +kernel)
theorem cv_L_98 : z_cv RL 98 yX5_clicks cX5_clicks 2 (some .int) 1 := z_cv_of wm_L_98 win_X5_clicks wse_X5_clicks wi_X5 wc_X5_clicks (by decide +kernel)
theorem wm_L_101 : Cond.methodLink RL 101 yX6_clicks ∈ z_ws := z_ws_t 798 (by decide +kernel) (by decide +kernel)
theorem wc_X6_clicks : Cond.code yX6_clicks cX6_clicks 5 (some .int) ∈ z_ws := z_ws_t 801 (by decide +kernel) (by decide +kernel)
theorem win_X6_clicks : Cond.instanceMethod yX6_clicks ∈ z_ws := z_ws_t 799 (by decide +kernel) (by decide +kernel)
theorem wse_X6_clicks : Cond.selects RX6 yX6_clicks yX6_clicks ∈ z_ws := z_ws_t 800 (by decide +kernel) (by decide +kernel)
theorem cv_L_101 : z_cv RL 101 yX6_clicks cX6_clicks 5 (some .int) 1 := z_cv_of wm_L_101 win_X6_clicks wse_X6_clicks wi_X6 wc_X6_clicks (by decide +kernel)
theorem wm_L_102 : Cond.methodLink RL 102 yX5_loudness ∈ z_ws := z_ws_t 503 (by decide +kernel) (by decide +kernel)
theorem wc_X5_loudness : Cond.code yX5_loudness cX5_loudness 2 (some .float) ∈ z_ws := z_ws_t 506 (by decide +kernel) (by decide +kernel)
theorem win_X5_loudness : Cond.instanceMethod yX5_loudness ∈ z_ws := z_ws_t 504 (by decide +kernel) (by decide +kernel)
theorem wse_X5_loudness : Cond.selects RX5 yX5_loudness yX5_loudness ∈ z_ws := z_ws_t 505 (by decide +kernel) (by decide +kernel)
theorem cv_L_102 : z_cv RL 102 yX5_loudness cX5_loudness 2 (some .float) 0 := z_cv_of wm_L_102 win_X5_loudness wse_X5_loudness wi_X5 wc_X5_loudness (by decide +kernel)
theorem wm_L_106 : Cond.methodLink RL 106 yX6_loudness ∈ z_ws := z_ws_t 802 (by decide +kernel) (by decide +kernel)
theorem wc_X6_loudness : Cond.code yX6_loudness cX6_loudness 3 (some .float) ∈ z_ws := z_ws_t 805 (by decide +kernel) (by decide +kernel)
theorem win_X6_loudness : Cond.instanceMethod yX6_loudness ∈ z_ws := z_ws_t 803 (by decide +kernel) (by decide +kernel)
theorem wse_X6_loudness : Cond.selects RX6 yX6_loudness yX6_loudness ∈ z_ws := z_ws_t 804 (by decide +kernel) (by decide +kernel)
theorem cv_L_106 : z_cv RL 106 yX6_loudness cX6_loudness 3 (some .float) 0 := z_cv_of wm_L_106 win_X6_loudness wse_X6_loudness wi_X6 wc_X6_loudness (by decide +kernel)
theorem wm_L_107 : Cond.methodLink RL 107 yX5_share ∈ z_ws := z_ws_t 511 (by decide +kernel) (by decide +kernel)
theorem wc_X5_share : Cond.code yX5_share cX5_share 2 (some .float) ∈ z_ws := z_ws_t 514 (by decide +kernel) (by decide +kernel)
theorem win_X5_share : Cond.instanceMethod yX5_share ∈ z_ws := z_ws_t 512 (by decide +kernel) (by decide +kernel)
theorem wse_X5_share : Cond.selects RX5 yX5_share yX5_share ∈ z_ws := z_ws_t 513 (by decide +kernel) (by decide +kernel)
theorem cv_L_107 : z_cv RL 107 yX5_share cX5_share 2 (some .float) 0 := z_cv_of wm_L_107 win_X5_share wse_X5_share wi_X5 wc_X5_share (by decide +kernel)
theorem wm_L_110 : Cond.methodLink RL 110 yX6_share ∈ z_ws := z_ws_t 806 (by decide +kernel) (by decide +kernel)
theorem wc_X6_share : Cond.code yX6_share cX6_share 1 (some .float) ∈ z_ws := z_ws_t 809 (by decide +kernel) (by decide +kernel)
theorem win_X6_share : Cond.instanceMethod yX6_share ∈ z_ws := z_ws_t 807 (by decide +kernel) (by decide +kernel)
theorem wse_X6_share : Cond.selects RX6 yX6_share yX6_share ∈ z_ws := z_ws_t 808 (by decide +kernel) (by decide +kernel)
theorem cv_L_110 : z_cv RL 110 yX6_share cX6_share 1 (some .float) 0 := z_cv_of wm_L_110 win_X6_share wse_X6_share wi_X6 wc_X6_share (by decide +kernel)
theorem wm_L_111 : Cond.methodLink RL 111 yX5_silence ∈ z_ws := z_ws_t 515 (by decide +kernel) (by decide +kernel)
theorem wc_X5_silence : Cond.code yX5_silence cX5_silence 1 (some .int) ∈ z_ws := z_ws_t 518 (by decide +kernel) (by decide +kernel)
theorem win_X5_silence : Cond.instanceMethod yX5_silence ∈ z_ws := z_ws_t 516 (by decide +kernel) (by decide +kernel)
theorem wse_X5_silence : Cond.selects RX5 yX5_silence yX5_silence ∈ z_ws := z_ws_t 517 (by decide +kernel) (by decide +kernel)
theorem cv_L_111 : z_cv RL 111 yX5_silence cX5_silence 1 (some .int) 0 := z_cv_of wm_L_111 win_X5_silence wse_X5_silence wi_X5 wc_X5_silence (by decide +kernel)
theorem wm_L_114 : Cond.methodLink RL 114 yX6_silence ∈ z_ws := z_ws_t 810 (by decide +kernel) (by decide +kernel)
theorem wc_X6_silence : Cond.code yX6_silence cX6_silence 4 (some .int) ∈ z_ws := z_ws_t 813 (by decide +kernel) (by decide +kernel)
theorem win_X6_silence : Cond.instanceMethod yX6_silence ∈ z_ws := z_ws_t 811 (by decide +kernel) (by decide +kernel)
theorem wse_X6_silence : Cond.selects RX6 yX6_silence yX6_silence ∈ z_ws := z_ws_t 812 (by decide +kernel) (by decide +kernel)
theorem cv_L_114 : z_cv RL 114 yX6_silence cX6_silence 4 (some .int) 0 := z_cv_of wm_L_114 win_X6_silence wse_X6_silence wi_X6 wc_X6_silence (by decide +kernel)
theorem wm_L_115 : Cond.methodLink RL 115 yX5_undo ∈ z_ws := z_ws_t 524 (by decide +kernel) (by decide +kernel)
theorem wc_X5_undo : Cond.code yX5_undo cX5_undo 1 (some .int) ∈ z_ws := z_ws_t 527 (by decide +kernel) (by decide +kernel)
theorem win_X5_undo : Cond.instanceMethod yX5_undo ∈ z_ws := z_ws_t 525 (by decide +kernel) (by decide +kernel)
theorem wse_X5_undo : Cond.selects RX5 yX5_undo yX5_undo ∈ z_ws := z_ws_t 526 (by decide +kernel) (by decide +kernel)
theorem cv_L_115 : z_cv RL 115 yX5_undo cX5_undo 1 (some .int) 0 := z_cv_of wm_L_115 win_X5_undo wse_X5_undo wi_X5 wc_X5_undo (by decide +kernel)
theorem wm_L_118 : Cond.methodLink RL 118 yX6_undo ∈ z_ws := z_ws_t 814 (by decide +kernel) (by decide +kernel)
theorem wc_X6_undo : Cond.code yX6_undo cX6_undo 2 (some .int) ∈ z_ws := z_ws_t 817 (by decide +kernel) (by decide +kernel)
theorem win_X6_undo : Cond.instanceMethod yX6_undo ∈ z_ws := z_ws_t 815 (by decide +kernel) (by decide +kernel)
theorem wse_X6_undo : Cond.selects RX6 yX6_undo yX6_undo ∈ z_ws := z_ws_t 816 (by decide +kernel) (by decide +kernel)
theorem cv_L_118 : z_cv RL 118 yX6_undo cX6_undo 2 (some .int) 0 := z_cv_of wm_L_118 win_X6_undo wse_X6_undo wi_X6 wc_X6_undo (by decide +kernel)
theorem wm_L_119 : Cond.methodLink RL 119 yX5_fingerprint ∈ z_ws := z_ws_t 532 (by decide +kernel) (by decide +kernel)
theorem wc_X5_fingerprint : Cond.code yX5_fingerprint cX5_fingerprint 4 (some .long) ∈ z_ws := z_ws_t 535 (by decide +kernel) (by decide +kernel)
theorem win_X5_fingerprint : Cond.instanceMethod yX5_fingerprint ∈ z_ws := z_ws_t 533 (by decide +kernel) (by decide +kernel)
theorem wse_X5_fingerprint : Cond.selects RX5 yX5_fingerprint yX5_fingerprint ∈ z_ws := z_ws_t 534 (by decide +kernel) (by decide +kernel)
theorem cv_L_119 : z_cv RL 119 yX5_fingerprint cX5_fingerprint 4 (some .long) 0 := z_cv_of wm_L_119 win_X5_fingerprint wse_X5_fingerprint wi_X5 wc_X5_fingerprint (by decide +kernel)
theorem wm_L_123 : Cond.methodLink RL 123 yX6_fingerprint ∈ z_ws := z_ws_t 818 (by decide +kernel) (by decide +kernel)
theorem wc_X6_fingerprint : Cond.code yX6_fingerprint cX6_fingerprint 5 (some .long) ∈ z_ws := z_ws_t 821 (by decide +kernel) (by decide +kernel)
theorem win_X6_fingerprint : Cond.instanceMethod yX6_fingerprint ∈ z_ws := z_ws_t 819 (by decide +kernel) (by decide +kernel)
theorem wse_X6_fingerprint : Cond.selects RX6 yX6_fingerprint yX6_fingerprint ∈ z_ws := z_ws_t 820 (by decide +kernel) (by decide +kernel)
theorem cv_L_123 : z_cv RL 123 yX6_fingerprint cX6_fingerprint 5 (some .long) 0 := z_cv_of wm_L_123 win_X6_fingerprint wse_X6_fingerprint wi_X6 wc_X6_fingerprint (by decide +kernel)
