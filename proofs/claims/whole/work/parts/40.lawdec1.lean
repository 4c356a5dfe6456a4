/-! the law: its instructions -/
theorem D_Law_law_0 : decode cL_law 0 = .ok (.new 7, 3) := by decide +kernel
theorem D_Law_law_3 : decode cL_law 3 = .ok (.dup, 1) := by decide +kernel
theorem D_Law_law_4 : decode cL_law 4 = .ok (.invokespecial 9, 3) := by decide +kernel
theorem D_Law_law_7 : decode cL_law 7 = .ok (.astore_n 1, 1) := by decide +kernel
theorem D_Law_law_8 : decode cL_law 8 = .ok (.new 10, 3) := by decide +kernel
theorem D_Law_law_11 : decode cL_law 11 = .ok (.dup, 1) := by decide +kernel
theorem D_Law_law_12 : decode cL_law 12 = .ok (.invokespecial 12, 3) := by decide +kernel
theorem D_Law_law_15 : decode cL_law 15 = .ok (.astore_n 2, 1) := by decide +kernel
theorem D_Law_law_16 : decode cL_law 16 = .ok (.iconst (0), 1) := by decide +kernel
theorem D_Law_law_17 : decode cL_law 17 = .ok (.istore_n 3, 1) := by decide +kernel
theorem D_Law_law_18 : decode cL_law 18 = .ok (.iload_n 3, 1) := by decide +kernel
theorem D_Law_law_19 : decode cL_law 19 = .ok (.aload_n 0, 1) := by decide +kernel
theorem D_Law_law_20 : decode cL_law 20 = .ok (.arraylength, 1) := by decide +kernel
theorem D_Law_law_21 : decode cL_law 21 = .ok (.bipush (6), 2) := by decide +kernel
theorem D_Law_law_23 : decode cL_law 23 = .ok (.isub, 1) := by decide +kernel
theorem D_Law_law_24 : decode cL_law 24 = .ok (.if_icmp .gt (1007), 3) := by decide +kernel
theorem D_Law_law_27 : decode cL_law 27 = .ok (.aload_n 0, 1) := by decide +kernel
theorem D_Law_law_28 : decode cL_law 28 = .ok (.iload_n 3, 1) := by decide +kernel
theorem D_Law_law_29 : decode cL_law 29 = .ok (.iaload, 1) := by decide +kernel
theorem D_Law_law_30 : decode cL_law 30 = .ok (.bipush (31), 2) := by decide +kernel
theorem D_Law_law_32 : decode cL_law 32 = .ok (.iand, 1) := by decide +kernel
theorem D_Law_law_33 : decode cL_law 33 = .ok (.tableswitch 992 0 30 #[139, 202, 225, 238, 251, 264, 297, 320, 353, 366, 389, 412, 445, 478, 521, 544, 587, 620, 653, 696, 719, 772, 785, 798, 811, 834, 847, 880, 913, 956, 969], 139) := by decide +kernel
theorem D_Law_law_172 : decode cL_law 172 = .ok (.aload_n 1, 1) := by decide +kernel
theorem D_Law_law_173 : decode cL_law 173 = .ok (.aload_n 0, 1) := by decide +kernel
theorem D_Law_law_174 : decode cL_law 174 = .ok (.iload_n 3, 1) := by decide +kernel
theorem D_Law_law_175 : decode cL_law 175 = .ok (.iconst (1), 1) := by decide +kernel
theorem D_Law_law_176 : decode cL_law 176 = .ok (.iadd, 1) := by decide +kernel
theorem D_Law_law_177 : decode cL_law 177 = .ok (.iaload, 1) := by decide +kernel
theorem D_Law_law_178 : decode cL_law 178 = .ok (.aload_n 0, 1) := by decide +kernel
theorem D_Law_law_179 : decode cL_law 179 = .ok (.iload_n 3, 1) := by decide +kernel
theorem D_Law_law_180 : decode cL_law 180 = .ok (.iconst (2), 1) := by decide +kernel
theorem D_Law_law_181 : decode cL_law 181 = .ok (.iadd, 1) := by decide +kernel
theorem D_Law_law_182 : decode cL_law 182 = .ok (.iaload, 1) := by decide +kernel
theorem D_Law_law_183 : decode cL_law 183 = .ok (.aload_n 0, 1) := by decide +kernel
theorem D_Law_law_184 : decode cL_law 184 = .ok (.iload_n 3, 1) := by decide +kernel
theorem D_Law_law_185 : decode cL_law 185 = .ok (.iconst (3), 1) := by decide +kernel
theorem D_Law_law_186 : decode cL_law 186 = .ok (.iadd, 1) := by decide +kernel
theorem D_Law_law_187 : decode cL_law 187 = .ok (.iaload, 1) := by decide +kernel
theorem D_Law_law_188 : decode cL_law 188 = .ok (.aload_n 0, 1) := by decide +kernel
theorem D_Law_law_189 : decode cL_law 189 = .ok (.iload_n 3, 1) := by decide +kernel
theorem D_Law_law_190 : decode cL_law 190 = .ok (.iconst (4), 1) := by decide +kernel
theorem D_Law_law_191 : decode cL_law 191 = .ok (.iadd, 1) := by decide +kernel
theorem D_Law_law_192 : decode cL_law 192 = .ok (.iaload, 1) := by decide +kernel
theorem D_Law_law_193 : decode cL_law 193 = .ok (.aload_n 0, 1) := by decide +kernel
theorem D_Law_law_194 : decode cL_law 194 = .ok (.iload_n 3, 1) := by decide +kernel
theorem D_Law_law_195 : decode cL_law 195 = .ok (.iconst (5), 1) := by decide +kernel
theorem D_Law_law_196 : decode cL_law 196 = .ok (.iadd, 1) := by decide +kernel
theorem D_Law_law_197 : decode cL_law 197 = .ok (.iaload, 1) := by decide +kernel
theorem D_Law_law_198 : decode cL_law 198 = .ok (.invokevirtual 13, 3) := by decide +kernel
theorem D_Law_law_201 : decode cL_law 201 = .ok (.aload_n 2, 1) := by decide +kernel
theorem D_Law_law_202 : decode cL_law 202 = .ok (.aload_n 0, 1) := by decide +kernel
theorem D_Law_law_203 : decode cL_law 203 = .ok (.iload_n 3, 1) := by decide +kernel
theorem D_Law_law_204 : decode cL_law 204 = .ok (.iconst (1), 1) := by decide +kernel
theorem D_Law_law_205 : decode cL_law 205 = .ok (.iadd, 1) := by decide +kernel
theorem D_Law_law_206 : decode cL_law 206 = .ok (.iaload, 1) := by decide +kernel
theorem D_Law_law_207 : decode cL_law 207 = .ok (.aload_n 0, 1) := by decide +kernel
theorem D_Law_law_208 : decode cL_law 208 = .ok (.iload_n 3, 1) := by decide +kernel
theorem D_Law_law_209 : decode cL_law 209 = .ok (.iconst (2), 1) := by decide +kernel
theorem D_Law_law_210 : decode cL_law 210 = .ok (.iadd, 1) := by decide +kernel
theorem D_Law_law_211 : decode cL_law 211 = .ok (.iaload, 1) := by decide +kernel
theorem D_Law_law_212 : decode cL_law 212 = .ok (.aload_n 0, 1) := by decide +kernel
theorem D_Law_law_213 : decode cL_law 213 = .ok (.iload_n 3, 1) := by decide +kernel
theorem D_Law_law_214 : decode cL_law 214 = .ok (.iconst (3), 1) := by decide +kernel
theorem D_Law_law_215 : decode cL_law 215 = .ok (.iadd, 1) := by decide +kernel
theorem D_Law_law_216 : decode cL_law 216 = .ok (.iaload, 1) := by decide +kernel
theorem D_Law_law_217 : decode cL_law 217 = .ok (.aload_n 0, 1) := by decide +kernel
theorem D_Law_law_218 : decode cL_law 218 = .ok (.iload_n 3, 1) := by decide +kernel
theorem D_Law_law_219 : decode cL_law 219 = .ok (.iconst (4), 1) := by decide +kernel
theorem D_Law_law_220 : decode cL_law 220 = .ok (.iadd, 1) := by decide +kernel
theorem D_Law_law_221 : decode cL_law 221 = .ok (.iaload, 1) := by decide +kernel
theorem D_Law_law_222 : decode cL_law 222 = .ok (.aload_n 0, 1) := by decide +kernel
theorem D_Law_law_223 : decode cL_law 223 = .ok (.iload_n 3, 1) := by decide +kernel
theorem D_Law_law_224 : decode cL_law 224 = .ok (.iconst (5), 1) := by decide +kernel
theorem D_Law_law_225 : decode cL_law 225 = .ok (.iadd, 1) := by decide +kernel
theorem D_Law_law_226 : decode cL_law 226 = .ok (.iaload, 1) := by decide +kernel
theorem D_Law_law_227 : decode cL_law 227 = .ok (.invokevirtual 17, 3) := by decide +kernel
theorem D_Law_law_230 : decode cL_law 230 = .ok (.if_icmp .eq (795), 3) := by decide +kernel
theorem D_Law_law_233 : decode cL_law 233 = .ok (.iconst (0), 1) := by decide +kernel
theorem D_Law_law_234 : decode cL_law 234 = .ok (.ireturn, 1) := by decide +kernel
theorem D_Law_law_235 : decode cL_law 235 = .ok (.aload_n 1, 1) := by decide +kernel
theorem D_Law_law_236 : decode cL_law 236 = .ok (.aload_n 0, 1) := by decide +kernel
theorem D_Law_law_237 : decode cL_law 237 = .ok (.iload_n 3, 1) := by decide +kernel
theorem D_Law_law_238 : decode cL_law 238 = .ok (.iconst (1), 1) := by decide +kernel
theorem D_Law_law_239 : decode cL_law 239 = .ok (.iadd, 1) := by decide +kernel
theorem D_Law_law_240 : decode cL_law 240 = .ok (.iaload, 1) := by decide +kernel
theorem D_Law_law_241 : decode cL_law 241 = .ok (.invokevirtual 18, 3) := by decide +kernel
theorem D_Law_law_244 : decode cL_law 244 = .ok (.aload_n 2, 1) := by decide +kernel
theorem D_Law_law_245 : decode cL_law 245 = .ok (.aload_n 0, 1) := by decide +kernel
theorem D_Law_law_246 : decode cL_law 246 = .ok (.iload_n 3, 1) := by decide +kernel
theorem D_Law_law_247 : decode cL_law 247 = .ok (.iconst (1), 1) := by decide +kernel
theorem D_Law_law_248 : decode cL_law 248 = .ok (.iadd, 1) := by decide +kernel
theorem D_Law_law_249 : decode cL_law 249 = .ok (.iaload, 1) := by decide +kernel
theorem D_Law_law_250 : decode cL_law 250 = .ok (.invokevirtual 22, 3) := by decide +kernel
theorem D_Law_law_253 : decode cL_law 253 = .ok (.if_icmp .eq (772), 3) := by decide +kernel
theorem D_Law_law_256 : decode cL_law 256 = .ok (.iconst (0), 1) := by decide +kernel
theorem D_Law_law_257 : decode cL_law 257 = .ok (.ireturn, 1) := by decide +kernel
theorem D_Law_law_258 : decode cL_law 258 = .ok (.aload_n 1, 1) := by decide +kernel
theorem D_Law_law_259 : decode cL_law 259 = .ok (.invokevirtual 23, 3) := by decide +kernel
theorem D_Law_law_262 : decode cL_law 262 = .ok (.aload_n 2, 1) := by decide +kernel
theorem D_Law_law_263 : decode cL_law 263 = .ok (.invokevirtual 27, 3) := by decide +kernel
theorem D_Law_law_266 : decode cL_law 266 = .ok (.if_icmp .eq (759), 3) := by decide +kernel
theorem D_Law_law_269 : decode cL_law 269 = .ok (.iconst (0), 1) := by decide +kernel
theorem D_Law_law_270 : decode cL_law 270 = .ok (.ireturn, 1) := by decide +kernel
theorem D_Law_law_271 : decode cL_law 271 = .ok (.aload_n 1, 1) := by decide +kernel
theorem D_Law_law_272 : decode cL_law 272 = .ok (.invokevirtual 28, 3) := by decide +kernel
theorem D_Law_law_275 : decode cL_law 275 = .ok (.aload_n 2, 1) := by decide +kernel
theorem D_Law_law_276 : decode cL_law 276 = .ok (.invokevirtual 31, 3) := by decide +kernel
theorem D_Law_law_279 : decode cL_law 279 = .ok (.if_icmp .eq (746), 3) := by decide +kernel
theorem D_Law_law_282 : decode cL_law 282 = .ok (.iconst (0), 1) := by decide +kernel
theorem D_Law_law_283 : decode cL_law 283 = .ok (.ireturn, 1) := by decide +kernel
theorem D_Law_law_284 : decode cL_law 284 = .ok (.aload_n 1, 1) := by decide +kernel
theorem D_Law_law_285 : decode cL_law 285 = .ok (.invokevirtual 32, 3) := by decide +kernel
theorem D_Law_law_288 : decode cL_law 288 = .ok (.aload_n 2, 1) := by decide +kernel
theorem D_Law_law_289 : decode cL_law 289 = .ok (.invokevirtual 35, 3) := by decide +kernel
theorem D_Law_law_292 : decode cL_law 292 = .ok (.if_icmp .eq (733), 3) := by decide +kernel
theorem D_Law_law_295 : decode cL_law 295 = .ok (.iconst (0), 1) := by decide +kernel
theorem D_Law_law_296 : decode cL_law 296 = .ok (.ireturn, 1) := by decide +kernel
theorem D_Law_law_297 : decode cL_law 297 = .ok (.aload_n 1, 1) := by decide +kernel
theorem D_Law_law_298 : decode cL_law 298 = .ok (.aload_n 0, 1) := by decide +kernel
theorem D_Law_law_299 : decode cL_law 299 = .ok (.iload_n 3, 1) := by decide +kernel
theorem D_Law_law_300 : decode cL_law 300 = .ok (.iconst (1), 1) := by decide +kernel
theorem D_Law_law_301 : decode cL_law 301 = .ok (.iadd, 1) := by decide +kernel
theorem D_Law_law_302 : decode cL_law 302 = .ok (.iaload, 1) := by decide +kernel
theorem D_Law_law_303 : decode cL_law 303 = .ok (.aload_n 0, 1) := by decide +kernel
theorem D_Law_law_304 : decode cL_law 304 = .ok (.iload_n 3, 1) := by decide +kernel
theorem D_Law_law_305 : decode cL_law 305 = .ok (.iconst (2), 1) := by decide +kernel
theorem D_Law_law_306 : decode cL_law 306 = .ok (.iadd, 1) := by decide +kernel
theorem D_Law_law_307 : decode cL_law 307 = .ok (.iaload, 1) := by decide +kernel
theorem D_Law_law_308 : decode cL_law 308 = .ok (.invokevirtual 36, 3) := by decide +kernel
theorem D_Law_law_311 : decode cL_law 311 = .ok (.aload_n 2, 1) := by decide +kernel
theorem D_Law_law_312 : decode cL_law 312 = .ok (.aload_n 0, 1) := by decide +kernel
theorem D_Law_law_313 : decode cL_law 313 = .ok (.iload_n 3, 1) := by decide +kernel
theorem D_Law_law_314 : decode cL_law 314 = .ok (.iconst (1), 1) := by decide +kernel
theorem D_Law_law_315 : decode cL_law 315 = .ok (.iadd, 1) := by decide +kernel
theorem D_Law_law_316 : decode cL_law 316 = .ok (.iaload, 1) := by decide +kernel
theorem D_Law_law_317 : decode cL_law 317 = .ok (.aload_n 0, 1) := by decide +kernel
theorem D_Law_law_318 : decode cL_law 318 = .ok (.iload_n 3, 1) := by decide +kernel
theorem D_Law_law_319 : decode cL_law 319 = .ok (.iconst (2), 1) := by decide +kernel
theorem D_Law_law_320 : decode cL_law 320 = .ok (.iadd, 1) := by decide +kernel
theorem D_Law_law_321 : decode cL_law 321 = .ok (.iaload, 1) := by decide +kernel
theorem D_Law_law_322 : decode cL_law 322 = .ok (.invokevirtual 40, 3) := by decide +kernel
theorem D_Law_law_325 : decode cL_law 325 = .ok (.if_icmp .eq (700), 3) := by decide +kernel
theorem D_Law_law_328 : decode cL_law 328 = .ok (.iconst (0), 1) := by decide +kernel
theorem D_Law_law_329 : decode cL_law 329 = .ok (.ireturn, 1) := by decide +kernel
theorem D_Law_law_330 : decode cL_law 330 = .ok (.aload_n 1, 1) := by decide +kernel
theorem D_Law_law_331 : decode cL_law 331 = .ok (.aload_n 0, 1) := by decide +kernel
theorem D_Law_law_332 : decode cL_law 332 = .ok (.iload_n 3, 1) := by decide +kernel
theorem D_Law_law_333 : decode cL_law 333 = .ok (.iconst (1), 1) := by decide +kernel
theorem D_Law_law_334 : decode cL_law 334 = .ok (.iadd, 1) := by decide +kernel
theorem D_Law_law_335 : decode cL_law 335 = .ok (.iaload, 1) := by decide +kernel
theorem D_Law_law_336 : decode cL_law 336 = .ok (.invokevirtual 41, 3) := by decide +kernel
theorem D_Law_law_339 : decode cL_law 339 = .ok (.aload_n 2, 1) := by decide +kernel
theorem D_Law_law_340 : decode cL_law 340 = .ok (.aload_n 0, 1) := by decide +kernel
theorem D_Law_law_341 : decode cL_law 341 = .ok (.iload_n 3, 1) := by decide +kernel
theorem D_Law_law_342 : decode cL_law 342 = .ok (.iconst (1), 1) := by decide +kernel
theorem D_Law_law_343 : decode cL_law 343 = .ok (.iadd, 1) := by decide +kernel
theorem D_Law_law_344 : decode cL_law 344 = .ok (.iaload, 1) := by decide +kernel
theorem D_Law_law_345 : decode cL_law 345 = .ok (.invokevirtual 44, 3) := by decide +kernel
theorem D_Law_law_348 : decode cL_law 348 = .ok (.if_icmp .eq (677), 3) := by decide +kernel
theorem D_Law_law_351 : decode cL_law 351 = .ok (.iconst (0), 1) := by decide +kernel
theorem D_Law_law_352 : decode cL_law 352 = .ok (.ireturn, 1) := by decide +kernel
theorem D_Law_law_353 : decode cL_law 353 = .ok (.aload_n 1, 1) := by decide +kernel
theorem D_Law_law_354 : decode cL_law 354 = .ok (.aload_n 0, 1) := by decide +kernel
theorem D_Law_law_355 : decode cL_law 355 = .ok (.iload_n 3, 1) := by decide +kernel
theorem D_Law_law_356 : decode cL_law 356 = .ok (.iconst (1), 1) := by decide +kernel
theorem D_Law_law_357 : decode cL_law 357 = .ok (.iadd, 1) := by decide +kernel
theorem D_Law_law_358 : decode cL_law 358 = .ok (.iaload, 1) := by decide +kernel
theorem D_Law_law_359 : decode cL_law 359 = .ok (.aload_n 0, 1) := by decide +kernel
theorem D_Law_law_360 : decode cL_law 360 = .ok (.iload_n 3, 1) := by decide +kernel
theorem D_Law_law_361 : decode cL_law 361 = .ok (.iconst (2), 1) := by decide +kernel
theorem D_Law_law_362 : decode cL_law 362 = .ok (.iadd, 1) := by decide +kernel
theorem D_Law_law_363 : decode cL_law 363 = .ok (.iaload, 1) := by decide +kernel
theorem D_Law_law_364 : decode cL_law 364 = .ok (.invokevirtual 45, 3) := by decide +kernel
theorem D_Law_law_367 : decode cL_law 367 = .ok (.aload_n 2, 1) := by decide +kernel
theorem D_Law_law_368 : decode cL_law 368 = .ok (.aload_n 0, 1) := by decide +kernel
theorem D_Law_law_369 : decode cL_law 369 = .ok (.iload_n 3, 1) := by decide +kernel
theorem D_Law_law_370 : decode cL_law 370 = .ok (.iconst (1), 1) := by decide +kernel
theorem D_Law_law_371 : decode cL_law 371 = .ok (.iadd, 1) := by decide +kernel
theorem D_Law_law_372 : decode cL_law 372 = .ok (.iaload, 1) := by decide +kernel
theorem D_Law_law_373 : decode cL_law 373 = .ok (.aload_n 0, 1) := by decide +kernel
theorem D_Law_law_374 : decode cL_law 374 = .ok (.iload_n 3, 1) := by decide +kernel
theorem D_Law_law_375 : decode cL_law 375 = .ok (.iconst (2), 1) := by decide +kernel
theorem D_Law_law_376 : decode cL_law 376 = .ok (.iadd, 1) := by decide +kernel
theorem D_Law_law_377 : decode cL_law 377 = .ok (.iaload, 1) := by decide +kernel
theorem D_Law_law_378 : decode cL_law 378 = .ok (.invokevirtual 48, 3) := by decide +kernel
theorem D_Law_law_381 : decode cL_law 381 = .ok (.if_icmp .eq (644), 3) := by decide +kernel
theorem D_Law_law_384 : decode cL_law 384 = .ok (.iconst (0), 1) := by decide +kernel
theorem D_Law_law_385 : decode cL_law 385 = .ok (.ireturn, 1) := by decide +kernel
theorem D_Law_law_386 : decode cL_law 386 = .ok (.aload_n 1, 1) := by decide +kernel
theorem D_Law_law_387 : decode cL_law 387 = .ok (.invokevirtual 49, 3) := by decide +kernel
theorem D_Law_law_390 : decode cL_law 390 = .ok (.aload_n 2, 1) := by decide +kernel
theorem D_Law_law_391 : decode cL_law 391 = .ok (.invokevirtual 52, 3) := by decide +kernel
theorem D_Law_law_394 : decode cL_law 394 = .ok (.if_icmp .eq (631), 3) := by decide +kernel
theorem D_Law_law_397 : decode cL_law 397 = .ok (.iconst (0), 1) := by decide +kernel
theorem D_Law_law_398 : decode cL_law 398 = .ok (.ireturn, 1) := by decide +kernel
theorem D_Law_law_399 : decode cL_law 399 = .ok (.aload_n 1, 1) := by decide +kernel
theorem D_Law_law_400 : decode cL_law 400 = .ok (.aload_n 0, 1) := by decide +kernel
theorem D_Law_law_401 : decode cL_law 401 = .ok (.iload_n 3, 1) := by decide +kernel
theorem D_Law_law_402 : decode cL_law 402 = .ok (.iconst (1), 1) := by decide +kernel
theorem D_Law_law_403 : decode cL_law 403 = .ok (.iadd, 1) := by decide +kernel
theorem D_Law_law_404 : decode cL_law 404 = .ok (.iaload, 1) := by decide +kernel
theorem D_Law_law_405 : decode cL_law 405 = .ok (.invokevirtual 53, 3) := by decide +kernel
theorem D_Law_law_408 : decode cL_law 408 = .ok (.aload_n 2, 1) := by decide +kernel
theorem D_Law_law_409 : decode cL_law 409 = .ok (.aload_n 0, 1) := by decide +kernel
theorem D_Law_law_410 : decode cL_law 410 = .ok (.iload_n 3, 1) := by decide +kernel
theorem D_Law_law_411 : decode cL_law 411 = .ok (.iconst (1), 1) := by decide +kernel
theorem D_Law_law_412 : decode cL_law 412 = .ok (.iadd, 1) := by decide +kernel
theorem D_Law_law_413 : decode cL_law 413 = .ok (.iaload, 1) := by decide +kernel
theorem D_Law_law_414 : decode cL_law 414 = .ok (.invokevirtual 56, 3) := by decide +kernel
theorem D_Law_law_417 : decode cL_law 417 = .ok (.if_icmp .eq (608), 3) := by decide +kernel
theorem D_Law_law_420 : decode cL_law 420 = .ok (.iconst (0), 1) := by decide +kernel
theorem D_Law_law_421 : decode cL_law 421 = .ok (.ireturn, 1) := by decide +kernel
theorem D_Law_law_422 : decode cL_law 422 = .ok (.aload_n 1, 1) := by decide +kernel
theorem D_Law_law_423 : decode cL_law 423 = .ok (.aload_n 0, 1) := by decide +kernel
theorem D_Law_law_424 : decode cL_law 424 = .ok (.iload_n 3, 1) := by decide +kernel
theorem D_Law_law_425 : decode cL_law 425 = .ok (.iconst (1), 1) := by decide +kernel
theorem D_Law_law_426 : decode cL_law 426 = .ok (.iadd, 1) := by decide +kernel
theorem D_Law_law_427 : decode cL_law 427 = .ok (.iaload, 1) := by decide +kernel
theorem D_Law_law_428 : decode cL_law 428 = .ok (.invokevirtual 57, 3) := by decide +kernel
theorem D_Law_law_431 : decode cL_law 431 = .ok (.aload_n 2, 1) := by decide +kernel
theorem D_Law_law_432 : decode cL_law 432 = .ok (.aload_n 0, 1) := by decide +kernel
theorem D_Law_law_433 : decode cL_law 433 = .ok (.iload_n 3, 1) := by decide +kernel
theorem D_Law_law_434 : decode cL_law 434 = .ok (.iconst (1), 1) := by decide +kernel
theorem D_Law_law_435 : decode cL_law 435 = .ok (.iadd, 1) := by decide +kernel
theorem D_Law_law_436 : decode cL_law 436 = .ok (.iaload, 1) := by decide +kernel
theorem D_Law_law_437 : decode cL_law 437 = .ok (.invokevirtual 60, 3) := by decide +kernel
theorem D_Law_law_440 : decode cL_law 440 = .ok (.if_icmp .eq (585), 3) := by decide +kernel
theorem D_Law_law_443 : decode cL_law 443 = .ok (.iconst (0), 1) := by decide +kernel
theorem D_Law_law_444 : decode cL_law 444 = .ok (.ireturn, 1) := by decide +kernel
theorem D_Law_law_445 : decode cL_law 445 = .ok (.aload_n 1, 1) := by decide +kernel
theorem D_Law_law_446 : decode cL_law 446 = .ok (.aload_n 0, 1) := by decide +kernel
theorem D_Law_law_447 : decode cL_law 447 = .ok (.iload_n 3, 1) := by decide +kernel
theorem D_Law_law_448 : decode cL_law 448 = .ok (.iconst (1), 1) := by decide +kernel
theorem D_Law_law_449 : decode cL_law 449 = .ok (.iadd, 1) := by decide +kernel
theorem D_Law_law_450 : decode cL_law 450 = .ok (.iaload, 1) := by decide +kernel
theorem D_Law_law_451 : decode cL_law 451 = .ok (.aload_n 0, 1) := by decide +kernel
theorem D_Law_law_452 : decode cL_law 452 = .ok (.iload_n 3, 1) := by decide +kernel
theorem D_Law_law_453 : decode cL_law 453 = .ok (.iconst (2), 1) := by decide +kernel
theorem D_Law_law_454 : decode cL_law 454 = .ok (.iadd, 1) := by decide +kernel
theorem D_Law_law_455 : decode cL_law 455 = .ok (.iaload, 1) := by decide +kernel
theorem D_Law_law_456 : decode cL_law 456 = .ok (.invokevirtual 61, 3) := by decide +kernel
theorem D_Law_law_459 : decode cL_law 459 = .ok (.aload_n 2, 1) := by decide +kernel
theorem D_Law_law_460 : decode cL_law 460 = .ok (.aload_n 0, 1) := by decide +kernel
theorem D_Law_law_461 : decode cL_law 461 = .ok (.iload_n 3, 1) := by decide +kernel
theorem D_Law_law_462 : decode cL_law 462 = .ok (.iconst (1), 1) := by decide +kernel
theorem D_Law_law_463 : decode cL_law 463 = .ok (.iadd, 1) := by decide +kernel
theorem D_Law_law_464 : decode cL_law 464 = .ok (.iaload, 1) := by decide +kernel
theorem D_Law_law_465 : decode cL_law 465 = .ok (.aload_n 0, 1) := by decide +kernel
theorem D_Law_law_466 : decode cL_law 466 = .ok (.iload_n 3, 1) := by decide +kernel
theorem D_Law_law_467 : decode cL_law 467 = .ok (.iconst (2), 1) := by decide +kernel
theorem D_Law_law_468 : decode cL_law 468 = .ok (.iadd, 1) := by decide +kernel
theorem D_Law_law_469 : decode cL_law 469 = .ok (.iaload, 1) := by decide +kernel
theorem D_Law_law_470 : decode cL_law 470 = .ok (.invokevirtual 64, 3) := by decide +kernel
theorem D_Law_law_473 : decode cL_law 473 = .ok (.if_icmp .eq (552), 3) := by decide +kernel
theorem D_Law_law_476 : decode cL_law 476 = .ok (.iconst (0), 1) := by decide +kernel
theorem D_Law_law_477 : decode cL_law 477 = .ok (.ireturn, 1) := by decide +kernel
theorem D_Law_law_478 : decode cL_law 478 = .ok (.aload_n 1, 1) := by decide +kernel
theorem D_Law_law_479 : decode cL_law 479 = .ok (.aload_n 0, 1) := by decide +kernel
theorem D_Law_law_480 : decode cL_law 480 = .ok (.iload_n 3, 1) := by decide +kernel
theorem D_Law_law_481 : decode cL_law 481 = .ok (.iconst (1), 1) := by decide +kernel
theorem D_Law_law_482 : decode cL_law 482 = .ok (.iadd, 1) := by decide +kernel
theorem D_Law_law_483 : decode cL_law 483 = .ok (.iaload, 1) := by decide +kernel
theorem D_Law_law_484 : decode cL_law 484 = .ok (.aload_n 0, 1) := by decide +kernel
theorem D_Law_law_485 : decode cL_law 485 = .ok (.iload_n 3, 1) := by decide +kernel
theorem D_Law_law_486 : decode cL_law 486 = .ok (.iconst (2), 1) := by decide +kernel
theorem D_Law_law_487 : decode cL_law 487 = .ok (.iadd, 1) := by decide +kernel
theorem D_Law_law_488 : decode cL_law 488 = .ok (.iaload, 1) := by decide +kernel
theorem D_Law_law_489 : decode cL_law 489 = .ok (.invokevirtual 65, 3) := by decide +kernel
theorem D_Law_law_492 : decode cL_law 492 = .ok (.aload_n 2, 1) := by decide +kernel
theorem D_Law_law_493 : decode cL_law 493 = .ok (.aload_n 0, 1) := by decide +kernel
theorem D_Law_law_494 : decode cL_law 494 = .ok (.iload_n 3, 1) := by decide +kernel
theorem D_Law_law_495 : decode cL_law 495 = .ok (.iconst (1), 1) := by decide +kernel
theorem D_Law_law_496 : decode cL_law 496 = .ok (.iadd, 1) := by decide +kernel
theorem D_Law_law_497 : decode cL_law 497 = .ok (.iaload, 1) := by decide +kernel
theorem D_Law_law_498 : decode cL_law 498 = .ok (.aload_n 0, 1) := by decide +kernel
theorem D_Law_law_499 : decode cL_law 499 = .ok (.iload_n 3, 1) := by decide +kernel
theorem D_Law_law_500 : decode cL_law 500 = .ok (.iconst (2), 1) := by decide +kernel
theorem D_Law_law_501 : decode cL_law 501 = .ok (.iadd, 1) := by decide +kernel
theorem D_Law_law_502 : decode cL_law 502 = .ok (.iaload, 1) := by decide +kernel
theorem D_Law_law_503 : decode cL_law 503 = .ok (.invokevirtual 68, 3) := by decide +kernel
theorem D_Law_law_506 : decode cL_law 506 = .ok (.if_icmp .eq (519), 3) := by decide +kernel
theorem D_Law_law_509 : decode cL_law 509 = .ok (.iconst (0), 1) := by decide +kernel
theorem D_Law_law_510 : decode cL_law 510 = .ok (.ireturn, 1) := by decide +kernel
theorem D_Law_law_511 : decode cL_law 511 = .ok (.aload_n 1, 1) := by decide +kernel
theorem D_Law_law_512 : decode cL_law 512 = .ok (.aload_n 0, 1) := by decide +kernel
theorem D_Law_law_513 : decode cL_law 513 = .ok (.iload_n 3, 1) := by decide +kernel
theorem D_Law_law_514 : decode cL_law 514 = .ok (.iconst (1), 1) := by decide +kernel
theorem D_Law_law_515 : decode cL_law 515 = .ok (.iadd, 1) := by decide +kernel
theorem D_Law_law_516 : decode cL_law 516 = .ok (.iaload, 1) := by decide +kernel
theorem D_Law_law_517 : decode cL_law 517 = .ok (.aload_n 0, 1) := by decide +kernel
theorem D_Law_law_518 : decode cL_law 518 = .ok (.iload_n 3, 1) := by decide +kernel
theorem D_Law_law_519 : decode cL_law 519 = .ok (.iconst (2), 1) := by decide +kernel
theorem D_Law_law_520 : decode cL_law 520 = .ok (.iadd, 1) := by decide +kernel
theorem D_Law_law_521 : decode cL_law 521 = .ok (.iaload, 1) := by decide +kernel
theorem D_Law_law_522 : decode cL_law 522 = .ok (.aload_n 0, 1) := by decide +kernel
theorem D_Law_law_523 : decode cL_law 523 = .ok (.iload_n 3, 1) := by decide +kernel
theorem D_Law_law_524 : decode cL_law 524 = .ok (.iconst (3), 1) := by decide +kernel
theorem D_Law_law_525 : decode cL_law 525 = .ok (.iadd, 1) := by decide +kernel
theorem D_Law_law_526 : decode cL_law 526 = .ok (.iaload, 1) := by decide +kernel
theorem D_Law_law_527 : decode cL_law 527 = .ok (.invokevirtual 69, 3) := by decide +kernel
theorem D_Law_law_530 : decode cL_law 530 = .ok (.aload_n 2, 1) := by decide +kernel
theorem D_Law_law_531 : decode cL_law 531 = .ok (.aload_n 0, 1) := by decide +kernel
theorem D_Law_law_532 : decode cL_law 532 = .ok (.iload_n 3, 1) := by decide +kernel
theorem D_Law_law_533 : decode cL_law 533 = .ok (.iconst (1), 1) := by decide +kernel
theorem D_Law_law_534 : decode cL_law 534 = .ok (.iadd, 1) := by decide +kernel
theorem D_Law_law_535 : decode cL_law 535 = .ok (.iaload, 1) := by decide +kernel
theorem D_Law_law_536 : decode cL_law 536 = .ok (.aload_n 0, 1) := by decide +kernel
theorem D_Law_law_537 : decode cL_law 537 = .ok (.iload_n 3, 1) := by decide +kernel
theorem D_Law_law_538 : decode cL_law 538 = .ok (.iconst (2), 1) := by decide +kernel
theorem D_Law_law_539 : decode cL_law 539 = .ok (.iadd, 1) := by decide +kernel
theorem D_Law_law_540 : decode cL_law 540 = .ok (.iaload, 1) := by decide +kernel
theorem D_Law_law_541 : decode cL_law 541 = .ok (.aload_n 0, 1) := by decide +kernel
theorem D_Law_law_542 : decode cL_law 542 = .ok (.iload_n 3, 1) := by decide +kernel
theorem D_Law_law_543 : decode cL_law 543 = .ok (.iconst (3), 1) := by decide +kernel
theorem D_Law_law_544 : decode cL_law 544 = .ok (.iadd, 1) := by decide +kernel
theorem D_Law_law_545 : decode cL_law 545 = .ok (.iaload, 1) := by decide +kernel
theorem D_Law_law_546 : decode cL_law 546 = .ok (.invokevirtual 73, 3) := by decide +kernel
theorem D_Law_law_549 : decode cL_law 549 = .ok (.if_icmp .eq (476), 3) := by decide +kernel
theorem D_Law_law_552 : decode cL_law 552 = .ok (.iconst (0), 1) := by decide +kernel
theorem D_Law_law_553 : decode cL_law 553 = .ok (.ireturn, 1) := by decide +kernel
theorem D_Law_law_554 : decode cL_law 554 = .ok (.aload_n 1, 1) := by decide +kernel
theorem D_Law_law_555 : decode cL_law 555 = .ok (.aload_n 0, 1) := by decide +kernel
theorem D_Law_law_556 : decode cL_law 556 = .ok (.iload_n 3, 1) := by decide +kernel
theorem D_Law_law_557 : decode cL_law 557 = .ok (.iconst (1), 1) := by decide +kernel
theorem D_Law_law_558 : decode cL_law 558 = .ok (.iadd, 1) := by decide +kernel
theorem D_Law_law_559 : decode cL_law 559 = .ok (.iaload, 1) := by decide +kernel
theorem D_Law_law_560 : decode cL_law 560 = .ok (.invokevirtual 74, 3) := by decide +kernel
theorem D_Law_law_563 : decode cL_law 563 = .ok (.aload_n 2, 1) := by decide +kernel
theorem D_Law_law_564 : decode cL_law 564 = .ok (.aload_n 0, 1) := by decide +kernel
theorem D_Law_law_565 : decode cL_law 565 = .ok (.iload_n 3, 1) := by decide +kernel
theorem D_Law_law_566 : decode cL_law 566 = .ok (.iconst (1), 1) := by decide +kernel
theorem D_Law_law_567 : decode cL_law 567 = .ok (.iadd, 1) := by decide +kernel
theorem D_Law_law_568 : decode cL_law 568 = .ok (.iaload, 1) := by decide +kernel
theorem D_Law_law_569 : decode cL_law 569 = .ok (.invokevirtual 77, 3) := by decide +kernel
theorem D_Law_law_572 : decode cL_law 572 = .ok (.if_icmp .eq (453), 3) := by decide +kernel
theorem D_Law_law_575 : decode cL_law 575 = .ok (.iconst (0), 1) := by decide +kernel
theorem D_Law_law_576 : decode cL_law 576 = .ok (.ireturn, 1) := by decide +kernel
theorem D_Law_law_577 : decode cL_law 577 = .ok (.aload_n 1, 1) := by decide +kernel
theorem D_Law_law_578 : decode cL_law 578 = .ok (.aload_n 0, 1) := by decide +kernel
theorem D_Law_law_579 : decode cL_law 579 = .ok (.iload_n 3, 1) := by decide +kernel
theorem D_Law_law_580 : decode cL_law 580 = .ok (.iconst (1), 1) := by decide +kernel
theorem D_Law_law_581 : decode cL_law 581 = .ok (.iadd, 1) := by decide +kernel
theorem D_Law_law_582 : decode cL_law 582 = .ok (.iaload, 1) := by decide +kernel
theorem D_Law_law_583 : decode cL_law 583 = .ok (.aload_n 0, 1) := by decide +kernel
theorem D_Law_law_584 : decode cL_law 584 = .ok (.iload_n 3, 1) := by decide +kernel
theorem D_Law_law_585 : decode cL_law 585 = .ok (.iconst (2), 1) := by decide +kernel
theorem D_Law_law_586 : decode cL_law 586 = .ok (.iadd, 1) := by decide +kernel
theorem D_Law_law_587 : decode cL_law 587 = .ok (.iaload, 1) := by decide +kernel
theorem D_Law_law_588 : decode cL_law 588 = .ok (.aload_n 0, 1) := by decide +kernel
theorem D_Law_law_589 : decode cL_law 589 = .ok (.iload_n 3, 1) := by decide +kernel
theorem D_Law_law_590 : decode cL_law 590 = .ok (.iconst (3), 1) := by decide +kernel
theorem D_Law_law_591 : decode cL_law 591 = .ok (.iadd, 1) := by decide +kernel
theorem D_Law_law_592 : decode cL_law 592 = .ok (.iaload, 1) := by decide +kernel
theorem D_Law_law_593 : decode cL_law 593 = .ok (.invokevirtual 78, 3) := by decide +kernel
theorem D_Law_law_596 : decode cL_law 596 = .ok (.aload_n 2, 1) := by decide +kernel
theorem D_Law_law_597 : decode cL_law 597 = .ok (.aload_n 0, 1) := by decide +kernel
theorem D_Law_law_598 : decode cL_law 598 = .ok (.iload_n 3, 1) := by decide +kernel
theorem D_Law_law_599 : decode cL_law 599 = .ok (.iconst (1), 1) := by decide +kernel
theorem D_Law_law_600 : decode cL_law 600 = .ok (.iadd, 1) := by decide +kernel
theorem D_Law_law_601 : decode cL_law 601 = .ok (.iaload, 1) := by decide +kernel
