-- lk: 61
theorem dw_0 : decode code 0 = .ok (.new 8, 3) := by decide +kernel
theorem dw_3 : decode code 3 = .ok (.dup, 1) := by decide +kernel
theorem dw_4 : decode code 4 = .ok (.aload_n 0, 1) := by decide +kernel
theorem dw_5 : decode code 5 = .ok (.iconst 0, 1) := by decide +kernel
theorem dw_6 : decode code 6 = .ok (.invokestatic 15, 3) := by decide +kernel
theorem dw_9 : decode code 9 = .ok (.aload_n 0, 1) := by decide +kernel
theorem dw_10 : decode code 10 = .ok (.iconst 1, 1) := by decide +kernel
theorem dw_11 : decode code 11 = .ok (.invokestatic 15, 3) := by decide +kernel
theorem dw_14 : decode code 14 = .ok (.aload_n 0, 1) := by decide +kernel
theorem dw_15 : decode code 15 = .ok (.iconst 2, 1) := by decide +kernel
theorem dw_16 : decode code 16 = .ok (.invokestatic 15, 3) := by decide +kernel
theorem dw_19 : decode code 19 = .ok (.invokespecial 21, 3) := by decide +kernel
theorem dw_22 : decode code 22 = .ok (.astore_n 1, 1) := by decide +kernel
theorem dw_23 : decode code 23 = .ok (.new 24, 3) := by decide +kernel
theorem dw_26 : decode code 26 = .ok (.dup, 1) := by decide +kernel
theorem dw_27 : decode code 27 = .ok (.aload_n 0, 1) := by decide +kernel
theorem dw_28 : decode code 28 = .ok (.iconst 0, 1) := by decide +kernel
theorem dw_29 : decode code 29 = .ok (.invokestatic 15, 3) := by decide +kernel
theorem dw_32 : decode code 32 = .ok (.aload_n 0, 1) := by decide +kernel
theorem dw_33 : decode code 33 = .ok (.iconst 1, 1) := by decide +kernel
theorem dw_34 : decode code 34 = .ok (.invokestatic 15, 3) := by decide +kernel
theorem dw_37 : decode code 37 = .ok (.aload_n 0, 1) := by decide +kernel
theorem dw_38 : decode code 38 = .ok (.iconst 2, 1) := by decide +kernel
theorem dw_39 : decode code 39 = .ok (.invokestatic 15, 3) := by decide +kernel
theorem dw_42 : decode code 42 = .ok (.invokespecial 26, 3) := by decide +kernel
theorem dw_45 : decode code 45 = .ok (.astore_n 2, 1) := by decide +kernel
theorem dw_46 : decode code 46 = .ok (.iconst 1, 1) := by decide +kernel
theorem dw_47 : decode code 47 = .ok (.newarray .long, 2) := by decide +kernel
theorem dw_49 : decode code 49 = .ok (.astore_n 3, 1) := by decide +kernel
theorem dw_50 : decode code 50 = .ok (.iconst 3, 1) := by decide +kernel
theorem dw_51 : decode code 51 = .ok (.istore 4, 2) := by decide +kernel
theorem dw_53 : decode code 53 = .ok (.iload 4, 2) := by decide +kernel
theorem dw_55 : decode code 55 = .ok (.aload_n 0, 1) := by decide +kernel
theorem dw_56 : decode code 56 = .ok (.arraylength, 1) := by decide +kernel
theorem dw_57 : decode code 57 = .ok (.iconst 5, 1) := by decide +kernel
theorem dw_58 : decode code 58 = .ok (.isub, 1) := by decide +kernel
theorem dw_59 : decode code 59 = .ok (.if_icmp .gt 596, 3) := by decide +kernel
theorem dw_62 : decode code 62 = .ok (.aload_n 0, 1) := by decide +kernel
theorem dw_63 : decode code 63 = .ok (.iload 4, 2) := by decide +kernel
theorem dw_65 : decode code 65 = .ok (.iaload, 1) := by decide +kernel
theorem dw_66 : decode code 66 = .ok (.bipush 15, 2) := by decide +kernel
theorem dw_68 : decode code 68 = .ok (.iand, 1) := by decide +kernel
theorem dw_69 : decode code 69 = .ok (.tableswitch 580 0 14 #[75, 136, 173, 210, 247, 272, 297, 310, 351, 388, 425, 462, 475, 488, 555], 75) := by decide +kernel
theorem dw_144 : decode code 144 = .ok (.aload_n 1, 1) := by decide +kernel
theorem dw_145 : decode code 145 = .ok (.aload_n 0, 1) := by decide +kernel
theorem dw_146 : decode code 146 = .ok (.iload 4, 2) := by decide +kernel
theorem dw_148 : decode code 148 = .ok (.iconst 1, 1) := by decide +kernel
theorem dw_149 : decode code 149 = .ok (.iadd, 1) := by decide +kernel
theorem dw_150 : decode code 150 = .ok (.iaload, 1) := by decide +kernel
theorem dw_151 : decode code 151 = .ok (.aload_n 0, 1) := by decide +kernel
theorem dw_152 : decode code 152 = .ok (.iload 4, 2) := by decide +kernel
theorem dw_154 : decode code 154 = .ok (.iconst 2, 1) := by decide +kernel
theorem dw_155 : decode code 155 = .ok (.iadd, 1) := by decide +kernel
theorem dw_156 : decode code 156 = .ok (.iaload, 1) := by decide +kernel
theorem dw_157 : decode code 157 = .ok (.aload_n 0, 1) := by decide +kernel
theorem dw_158 : decode code 158 = .ok (.iload 4, 2) := by decide +kernel
theorem dw_160 : decode code 160 = .ok (.iconst 3, 1) := by decide +kernel
theorem dw_161 : decode code 161 = .ok (.iadd, 1) := by decide +kernel
theorem dw_162 : decode code 162 = .ok (.iaload, 1) := by decide +kernel
theorem dw_163 : decode code 163 = .ok (.aload_n 0, 1) := by decide +kernel
theorem dw_164 : decode code 164 = .ok (.iload 4, 2) := by decide +kernel
theorem dw_166 : decode code 166 = .ok (.iconst 4, 1) := by decide +kernel
theorem dw_167 : decode code 167 = .ok (.iadd, 1) := by decide +kernel
theorem dw_168 : decode code 168 = .ok (.iaload, 1) := by decide +kernel
theorem dw_169 : decode code 169 = .ok (.invokevirtual 27, 3) := by decide +kernel
theorem dw_172 : decode code 172 = .ok (.aload_n 2, 1) := by decide +kernel
theorem dw_173 : decode code 173 = .ok (.aload_n 0, 1) := by decide +kernel
theorem dw_174 : decode code 174 = .ok (.iload 4, 2) := by decide +kernel
theorem dw_176 : decode code 176 = .ok (.iconst 1, 1) := by decide +kernel
theorem dw_177 : decode code 177 = .ok (.iadd, 1) := by decide +kernel
theorem dw_178 : decode code 178 = .ok (.iaload, 1) := by decide +kernel
theorem dw_179 : decode code 179 = .ok (.aload_n 0, 1) := by decide +kernel
theorem dw_180 : decode code 180 = .ok (.iload 4, 2) := by decide +kernel
theorem dw_182 : decode code 182 = .ok (.iconst 2, 1) := by decide +kernel
theorem dw_183 : decode code 183 = .ok (.iadd, 1) := by decide +kernel
theorem dw_184 : decode code 184 = .ok (.iaload, 1) := by decide +kernel
theorem dw_185 : decode code 185 = .ok (.aload_n 0, 1) := by decide +kernel
theorem dw_186 : decode code 186 = .ok (.iload 4, 2) := by decide +kernel
theorem dw_188 : decode code 188 = .ok (.iconst 3, 1) := by decide +kernel
theorem dw_189 : decode code 189 = .ok (.iadd, 1) := by decide +kernel
theorem dw_190 : decode code 190 = .ok (.iaload, 1) := by decide +kernel
theorem dw_191 : decode code 191 = .ok (.aload_n 0, 1) := by decide +kernel
theorem dw_192 : decode code 192 = .ok (.iload 4, 2) := by decide +kernel
theorem dw_194 : decode code 194 = .ok (.iconst 4, 1) := by decide +kernel
theorem dw_195 : decode code 195 = .ok (.iadd, 1) := by decide +kernel
theorem dw_196 : decode code 196 = .ok (.iaload, 1) := by decide +kernel
theorem dw_197 : decode code 197 = .ok (.invokevirtual 31, 3) := by decide +kernel
theorem dw_200 : decode code 200 = .ok (.if_icmp .eq 449, 3) := by decide +kernel
theorem dw_203 : decode code 203 = .ok (.iconst 0, 1) := by decide +kernel
theorem dw_204 : decode code 204 = .ok (.ireturn, 1) := by decide +kernel
theorem dw_205 : decode code 205 = .ok (.aload_n 1, 1) := by decide +kernel
theorem dw_206 : decode code 206 = .ok (.aload_n 0, 1) := by decide +kernel
theorem dw_207 : decode code 207 = .ok (.iload 4, 2) := by decide +kernel
theorem dw_209 : decode code 209 = .ok (.iconst 1, 1) := by decide +kernel
theorem dw_210 : decode code 210 = .ok (.iadd, 1) := by decide +kernel
theorem dw_211 : decode code 211 = .ok (.iaload, 1) := by decide +kernel
theorem dw_212 : decode code 212 = .ok (.aload_n 0, 1) := by decide +kernel
theorem dw_213 : decode code 213 = .ok (.iload 4, 2) := by decide +kernel
theorem dw_215 : decode code 215 = .ok (.iconst 2, 1) := by decide +kernel
theorem dw_216 : decode code 216 = .ok (.iadd, 1) := by decide +kernel
theorem dw_217 : decode code 217 = .ok (.iaload, 1) := by decide +kernel
theorem dw_218 : decode code 218 = .ok (.invokevirtual 32, 3) := by decide +kernel
theorem dw_221 : decode code 221 = .ok (.aload_n 2, 1) := by decide +kernel
theorem dw_222 : decode code 222 = .ok (.aload_n 0, 1) := by decide +kernel
theorem dw_223 : decode code 223 = .ok (.iload 4, 2) := by decide +kernel
theorem dw_225 : decode code 225 = .ok (.iconst 1, 1) := by decide +kernel
theorem dw_226 : decode code 226 = .ok (.iadd, 1) := by decide +kernel
theorem dw_227 : decode code 227 = .ok (.iaload, 1) := by decide +kernel
theorem dw_228 : decode code 228 = .ok (.aload_n 0, 1) := by decide +kernel
theorem dw_229 : decode code 229 = .ok (.iload 4, 2) := by decide +kernel
theorem dw_231 : decode code 231 = .ok (.iconst 2, 1) := by decide +kernel
theorem dw_232 : decode code 232 = .ok (.iadd, 1) := by decide +kernel
theorem dw_233 : decode code 233 = .ok (.iaload, 1) := by decide +kernel
theorem dw_234 : decode code 234 = .ok (.invokevirtual 36, 3) := by decide +kernel
theorem dw_237 : decode code 237 = .ok (.if_icmp .eq 412, 3) := by decide +kernel
theorem dw_240 : decode code 240 = .ok (.iconst 0, 1) := by decide +kernel
theorem dw_241 : decode code 241 = .ok (.ireturn, 1) := by decide +kernel
theorem dw_242 : decode code 242 = .ok (.aload_n 1, 1) := by decide +kernel
theorem dw_243 : decode code 243 = .ok (.aload_n 0, 1) := by decide +kernel
theorem dw_244 : decode code 244 = .ok (.iload 4, 2) := by decide +kernel
theorem dw_246 : decode code 246 = .ok (.iconst 1, 1) := by decide +kernel
theorem dw_247 : decode code 247 = .ok (.iadd, 1) := by decide +kernel
theorem dw_248 : decode code 248 = .ok (.iaload, 1) := by decide +kernel
theorem dw_249 : decode code 249 = .ok (.aload_n 0, 1) := by decide +kernel
theorem dw_250 : decode code 250 = .ok (.iload 4, 2) := by decide +kernel
theorem dw_252 : decode code 252 = .ok (.iconst 2, 1) := by decide +kernel
theorem dw_253 : decode code 253 = .ok (.iadd, 1) := by decide +kernel
theorem dw_254 : decode code 254 = .ok (.iaload, 1) := by decide +kernel
theorem dw_255 : decode code 255 = .ok (.invokevirtual 37, 3) := by decide +kernel
theorem dw_258 : decode code 258 = .ok (.aload_n 2, 1) := by decide +kernel
theorem dw_259 : decode code 259 = .ok (.aload_n 0, 1) := by decide +kernel
theorem dw_260 : decode code 260 = .ok (.iload 4, 2) := by decide +kernel
theorem dw_262 : decode code 262 = .ok (.iconst 1, 1) := by decide +kernel
theorem dw_263 : decode code 263 = .ok (.iadd, 1) := by decide +kernel
theorem dw_264 : decode code 264 = .ok (.iaload, 1) := by decide +kernel
theorem dw_265 : decode code 265 = .ok (.aload_n 0, 1) := by decide +kernel
theorem dw_266 : decode code 266 = .ok (.iload 4, 2) := by decide +kernel
theorem dw_268 : decode code 268 = .ok (.iconst 2, 1) := by decide +kernel
theorem dw_269 : decode code 269 = .ok (.iadd, 1) := by decide +kernel
theorem dw_270 : decode code 270 = .ok (.iaload, 1) := by decide +kernel
theorem dw_271 : decode code 271 = .ok (.invokevirtual 40, 3) := by decide +kernel
theorem dw_274 : decode code 274 = .ok (.if_icmp .eq 375, 3) := by decide +kernel
theorem dw_277 : decode code 277 = .ok (.iconst 0, 1) := by decide +kernel
theorem dw_278 : decode code 278 = .ok (.ireturn, 1) := by decide +kernel
theorem dw_279 : decode code 279 = .ok (.aload_n 1, 1) := by decide +kernel
theorem dw_280 : decode code 280 = .ok (.aload_n 0, 1) := by decide +kernel
theorem dw_281 : decode code 281 = .ok (.iload 4, 2) := by decide +kernel
theorem dw_283 : decode code 283 = .ok (.iconst 1, 1) := by decide +kernel
theorem dw_284 : decode code 284 = .ok (.iadd, 1) := by decide +kernel
theorem dw_285 : decode code 285 = .ok (.iaload, 1) := by decide +kernel
theorem dw_286 : decode code 286 = .ok (.aload_n 0, 1) := by decide +kernel
theorem dw_287 : decode code 287 = .ok (.iload 4, 2) := by decide +kernel
theorem dw_289 : decode code 289 = .ok (.iconst 2, 1) := by decide +kernel
theorem dw_290 : decode code 290 = .ok (.iadd, 1) := by decide +kernel
theorem dw_291 : decode code 291 = .ok (.iaload, 1) := by decide +kernel
theorem dw_292 : decode code 292 = .ok (.invokevirtual 41, 3) := by decide +kernel
theorem dw_295 : decode code 295 = .ok (.aload_n 2, 1) := by decide +kernel
theorem dw_296 : decode code 296 = .ok (.aload_n 0, 1) := by decide +kernel
theorem dw_297 : decode code 297 = .ok (.iload 4, 2) := by decide +kernel
theorem dw_299 : decode code 299 = .ok (.iconst 1, 1) := by decide +kernel
theorem dw_300 : decode code 300 = .ok (.iadd, 1) := by decide +kernel
theorem dw_301 : decode code 301 = .ok (.iaload, 1) := by decide +kernel
theorem dw_302 : decode code 302 = .ok (.aload_n 0, 1) := by decide +kernel
theorem dw_303 : decode code 303 = .ok (.iload 4, 2) := by decide +kernel
theorem dw_305 : decode code 305 = .ok (.iconst 2, 1) := by decide +kernel
theorem dw_306 : decode code 306 = .ok (.iadd, 1) := by decide +kernel
theorem dw_307 : decode code 307 = .ok (.iaload, 1) := by decide +kernel
theorem dw_308 : decode code 308 = .ok (.invokevirtual 44, 3) := by decide +kernel
theorem dw_311 : decode code 311 = .ok (.if_icmp .eq 338, 3) := by decide +kernel
theorem dw_314 : decode code 314 = .ok (.iconst 0, 1) := by decide +kernel
theorem dw_315 : decode code 315 = .ok (.ireturn, 1) := by decide +kernel
theorem dw_316 : decode code 316 = .ok (.aload_n 1, 1) := by decide +kernel
theorem dw_317 : decode code 317 = .ok (.aload_n 0, 1) := by decide +kernel
theorem dw_318 : decode code 318 = .ok (.iload 4, 2) := by decide +kernel
theorem dw_320 : decode code 320 = .ok (.iconst 1, 1) := by decide +kernel
theorem dw_321 : decode code 321 = .ok (.iadd, 1) := by decide +kernel
theorem dw_322 : decode code 322 = .ok (.iaload, 1) := by decide +kernel
theorem dw_323 : decode code 323 = .ok (.invokevirtual 45, 3) := by decide +kernel
theorem dw_326 : decode code 326 = .ok (.aload_n 2, 1) := by decide +kernel
theorem dw_327 : decode code 327 = .ok (.aload_n 0, 1) := by decide +kernel
theorem dw_328 : decode code 328 = .ok (.iload 4, 2) := by decide +kernel
theorem dw_330 : decode code 330 = .ok (.iconst 1, 1) := by decide +kernel
theorem dw_331 : decode code 331 = .ok (.iadd, 1) := by decide +kernel
theorem dw_332 : decode code 332 = .ok (.iaload, 1) := by decide +kernel
theorem dw_333 : decode code 333 = .ok (.invokevirtual 49, 3) := by decide +kernel
theorem dw_336 : decode code 336 = .ok (.if_icmp .eq 313, 3) := by decide +kernel
theorem dw_339 : decode code 339 = .ok (.iconst 0, 1) := by decide +kernel
theorem dw_340 : decode code 340 = .ok (.ireturn, 1) := by decide +kernel
theorem dw_341 : decode code 341 = .ok (.aload_n 1, 1) := by decide +kernel
theorem dw_342 : decode code 342 = .ok (.aload_n 0, 1) := by decide +kernel
theorem dw_343 : decode code 343 = .ok (.iload 4, 2) := by decide +kernel
theorem dw_345 : decode code 345 = .ok (.iconst 1, 1) := by decide +kernel
theorem dw_346 : decode code 346 = .ok (.iadd, 1) := by decide +kernel
theorem dw_347 : decode code 347 = .ok (.iaload, 1) := by decide +kernel
theorem dw_348 : decode code 348 = .ok (.invokevirtual 50, 3) := by decide +kernel
theorem dw_351 : decode code 351 = .ok (.aload_n 2, 1) := by decide +kernel
theorem dw_352 : decode code 352 = .ok (.aload_n 0, 1) := by decide +kernel
theorem dw_353 : decode code 353 = .ok (.iload 4, 2) := by decide +kernel
theorem dw_355 : decode code 355 = .ok (.iconst 1, 1) := by decide +kernel
theorem dw_356 : decode code 356 = .ok (.iadd, 1) := by decide +kernel
theorem dw_357 : decode code 357 = .ok (.iaload, 1) := by decide +kernel
theorem dw_358 : decode code 358 = .ok (.invokevirtual 53, 3) := by decide +kernel
theorem dw_361 : decode code 361 = .ok (.if_icmp .eq 288, 3) := by decide +kernel
theorem dw_364 : decode code 364 = .ok (.iconst 0, 1) := by decide +kernel
theorem dw_365 : decode code 365 = .ok (.ireturn, 1) := by decide +kernel
theorem dw_366 : decode code 366 = .ok (.aload_n 1, 1) := by decide +kernel
theorem dw_367 : decode code 367 = .ok (.invokevirtual 54, 3) := by decide +kernel
theorem dw_370 : decode code 370 = .ok (.aload_n 2, 1) := by decide +kernel
theorem dw_371 : decode code 371 = .ok (.invokevirtual 58, 3) := by decide +kernel
theorem dw_374 : decode code 374 = .ok (.if_icmp .eq 275, 3) := by decide +kernel
theorem dw_377 : decode code 377 = .ok (.iconst 0, 1) := by decide +kernel
theorem dw_378 : decode code 378 = .ok (.ireturn, 1) := by decide +kernel
theorem dw_379 : decode code 379 = .ok (.aload_n 1, 1) := by decide +kernel
theorem dw_380 : decode code 380 = .ok (.aload_n 0, 1) := by decide +kernel
theorem dw_381 : decode code 381 = .ok (.iload 4, 2) := by decide +kernel
theorem dw_383 : decode code 383 = .ok (.iconst 1, 1) := by decide +kernel
theorem dw_384 : decode code 384 = .ok (.iadd, 1) := by decide +kernel
theorem dw_385 : decode code 385 = .ok (.iaload, 1) := by decide +kernel
theorem dw_386 : decode code 386 = .ok (.ifCond .eq 7, 3) := by decide +kernel
theorem dw_389 : decode code 389 = .ok (.iconst 1, 1) := by decide +kernel
theorem dw_390 : decode code 390 = .ok (.goto 4, 3) := by decide +kernel
theorem dw_393 : decode code 393 = .ok (.iconst 0, 1) := by decide +kernel
theorem dw_394 : decode code 394 = .ok (.invokevirtual 59, 3) := by decide +kernel
theorem dw_397 : decode code 397 = .ok (.aload_n 2, 1) := by decide +kernel
theorem dw_398 : decode code 398 = .ok (.aload_n 0, 1) := by decide +kernel
theorem dw_399 : decode code 399 = .ok (.iload 4, 2) := by decide +kernel
theorem dw_401 : decode code 401 = .ok (.iconst 1, 1) := by decide +kernel
theorem dw_402 : decode code 402 = .ok (.iadd, 1) := by decide +kernel
theorem dw_403 : decode code 403 = .ok (.iaload, 1) := by decide +kernel
theorem dw_404 : decode code 404 = .ok (.ifCond .eq 7, 3) := by decide +kernel
theorem dw_407 : decode code 407 = .ok (.iconst 1, 1) := by decide +kernel
theorem dw_408 : decode code 408 = .ok (.goto 4, 3) := by decide +kernel
theorem dw_411 : decode code 411 = .ok (.iconst 0, 1) := by decide +kernel
theorem dw_412 : decode code 412 = .ok (.invokevirtual 63, 3) := by decide +kernel
theorem dw_415 : decode code 415 = .ok (.if_icmp .eq 234, 3) := by decide +kernel
theorem dw_418 : decode code 418 = .ok (.iconst 0, 1) := by decide +kernel
theorem dw_419 : decode code 419 = .ok (.ireturn, 1) := by decide +kernel
theorem dw_420 : decode code 420 = .ok (.aload_n 1, 1) := by decide +kernel
theorem dw_421 : decode code 421 = .ok (.aload_n 0, 1) := by decide +kernel
theorem dw_422 : decode code 422 = .ok (.iload 4, 2) := by decide +kernel
theorem dw_424 : decode code 424 = .ok (.iconst 1, 1) := by decide +kernel
theorem dw_425 : decode code 425 = .ok (.iadd, 1) := by decide +kernel
theorem dw_426 : decode code 426 = .ok (.iaload, 1) := by decide +kernel
theorem dw_427 : decode code 427 = .ok (.aload_n 0, 1) := by decide +kernel
theorem dw_428 : decode code 428 = .ok (.iload 4, 2) := by decide +kernel
theorem dw_430 : decode code 430 = .ok (.iconst 2, 1) := by decide +kernel
theorem dw_431 : decode code 431 = .ok (.iadd, 1) := by decide +kernel
theorem dw_432 : decode code 432 = .ok (.iaload, 1) := by decide +kernel
theorem dw_433 : decode code 433 = .ok (.invokevirtual 64, 3) := by decide +kernel
theorem dw_436 : decode code 436 = .ok (.aload_n 2, 1) := by decide +kernel
theorem dw_437 : decode code 437 = .ok (.aload_n 0, 1) := by decide +kernel
theorem dw_438 : decode code 438 = .ok (.iload 4, 2) := by decide +kernel
theorem dw_440 : decode code 440 = .ok (.iconst 1, 1) := by decide +kernel
theorem dw_441 : decode code 441 = .ok (.iadd, 1) := by decide +kernel
theorem dw_442 : decode code 442 = .ok (.iaload, 1) := by decide +kernel
theorem dw_443 : decode code 443 = .ok (.aload_n 0, 1) := by decide +kernel
theorem dw_444 : decode code 444 = .ok (.iload 4, 2) := by decide +kernel
theorem dw_446 : decode code 446 = .ok (.iconst 2, 1) := by decide +kernel
theorem dw_447 : decode code 447 = .ok (.iadd, 1) := by decide +kernel
theorem dw_448 : decode code 448 = .ok (.iaload, 1) := by decide +kernel
theorem dw_449 : decode code 449 = .ok (.invokevirtual 67, 3) := by decide +kernel
theorem dw_452 : decode code 452 = .ok (.if_icmp .eq 197, 3) := by decide +kernel
theorem dw_455 : decode code 455 = .ok (.iconst 0, 1) := by decide +kernel
theorem dw_456 : decode code 456 = .ok (.ireturn, 1) := by decide +kernel
theorem dw_457 : decode code 457 = .ok (.aload_n 1, 1) := by decide +kernel
theorem dw_458 : decode code 458 = .ok (.aload_n 0, 1) := by decide +kernel
theorem dw_459 : decode code 459 = .ok (.iload 4, 2) := by decide +kernel
theorem dw_461 : decode code 461 = .ok (.iconst 1, 1) := by decide +kernel
theorem dw_462 : decode code 462 = .ok (.iadd, 1) := by decide +kernel
theorem dw_463 : decode code 463 = .ok (.iaload, 1) := by decide +kernel
theorem dw_464 : decode code 464 = .ok (.aload_n 0, 1) := by decide +kernel
theorem dw_465 : decode code 465 = .ok (.iload 4, 2) := by decide +kernel
theorem dw_467 : decode code 467 = .ok (.iconst 2, 1) := by decide +kernel
theorem dw_468 : decode code 468 = .ok (.iadd, 1) := by decide +kernel
theorem dw_469 : decode code 469 = .ok (.iaload, 1) := by decide +kernel
theorem dw_470 : decode code 470 = .ok (.invokevirtual 68, 3) := by decide +kernel
theorem dw_473 : decode code 473 = .ok (.aload_n 2, 1) := by decide +kernel
theorem dw_474 : decode code 474 = .ok (.aload_n 0, 1) := by decide +kernel
theorem dw_475 : decode code 475 = .ok (.iload 4, 2) := by decide +kernel
theorem dw_477 : decode code 477 = .ok (.iconst 1, 1) := by decide +kernel
theorem dw_478 : decode code 478 = .ok (.iadd, 1) := by decide +kernel
theorem dw_479 : decode code 479 = .ok (.iaload, 1) := by decide +kernel
theorem dw_480 : decode code 480 = .ok (.aload_n 0, 1) := by decide +kernel
theorem dw_481 : decode code 481 = .ok (.iload 4, 2) := by decide +kernel
theorem dw_483 : decode code 483 = .ok (.iconst 2, 1) := by decide +kernel
theorem dw_484 : decode code 484 = .ok (.iadd, 1) := by decide +kernel
theorem dw_485 : decode code 485 = .ok (.iaload, 1) := by decide +kernel
theorem dw_486 : decode code 486 = .ok (.invokevirtual 72, 3) := by decide +kernel
theorem dw_489 : decode code 489 = .ok (.if_icmp .eq 160, 3) := by decide +kernel
theorem dw_492 : decode code 492 = .ok (.iconst 0, 1) := by decide +kernel
theorem dw_493 : decode code 493 = .ok (.ireturn, 1) := by decide +kernel
theorem dw_494 : decode code 494 = .ok (.aload_n 1, 1) := by decide +kernel
theorem dw_495 : decode code 495 = .ok (.aload_n 0, 1) := by decide +kernel
theorem dw_496 : decode code 496 = .ok (.iload 4, 2) := by decide +kernel
theorem dw_498 : decode code 498 = .ok (.iconst 1, 1) := by decide +kernel
theorem dw_499 : decode code 499 = .ok (.iadd, 1) := by decide +kernel
theorem dw_500 : decode code 500 = .ok (.iaload, 1) := by decide +kernel
theorem dw_501 : decode code 501 = .ok (.aload_n 0, 1) := by decide +kernel
theorem dw_502 : decode code 502 = .ok (.iload 4, 2) := by decide +kernel
theorem dw_504 : decode code 504 = .ok (.iconst 2, 1) := by decide +kernel
theorem dw_505 : decode code 505 = .ok (.iadd, 1) := by decide +kernel
theorem dw_506 : decode code 506 = .ok (.iaload, 1) := by decide +kernel
theorem dw_507 : decode code 507 = .ok (.invokevirtual 73, 3) := by decide +kernel
theorem dw_510 : decode code 510 = .ok (.aload_n 2, 1) := by decide +kernel
theorem dw_511 : decode code 511 = .ok (.aload_n 0, 1) := by decide +kernel
theorem dw_512 : decode code 512 = .ok (.iload 4, 2) := by decide +kernel
theorem dw_514 : decode code 514 = .ok (.iconst 1, 1) := by decide +kernel
theorem dw_515 : decode code 515 = .ok (.iadd, 1) := by decide +kernel
theorem dw_516 : decode code 516 = .ok (.iaload, 1) := by decide +kernel
theorem dw_517 : decode code 517 = .ok (.aload_n 0, 1) := by decide +kernel
theorem dw_518 : decode code 518 = .ok (.iload 4, 2) := by decide +kernel
theorem dw_520 : decode code 520 = .ok (.iconst 2, 1) := by decide +kernel
theorem dw_521 : decode code 521 = .ok (.iadd, 1) := by decide +kernel
theorem dw_522 : decode code 522 = .ok (.iaload, 1) := by decide +kernel
theorem dw_523 : decode code 523 = .ok (.invokevirtual 76, 3) := by decide +kernel
theorem dw_526 : decode code 526 = .ok (.if_icmp .eq 123, 3) := by decide +kernel
theorem dw_529 : decode code 529 = .ok (.iconst 0, 1) := by decide +kernel
theorem dw_530 : decode code 530 = .ok (.ireturn, 1) := by decide +kernel
theorem dw_531 : decode code 531 = .ok (.aload_n 1, 1) := by decide +kernel
theorem dw_532 : decode code 532 = .ok (.invokevirtual 77, 3) := by decide +kernel
theorem dw_535 : decode code 535 = .ok (.aload_n 2, 1) := by decide +kernel
theorem dw_536 : decode code 536 = .ok (.invokevirtual 81, 3) := by decide +kernel
theorem dw_539 : decode code 539 = .ok (.if_icmp .eq 110, 3) := by decide +kernel
theorem dw_542 : decode code 542 = .ok (.iconst 0, 1) := by decide +kernel
theorem dw_543 : decode code 543 = .ok (.ireturn, 1) := by decide +kernel
theorem dw_544 : decode code 544 = .ok (.aload_n 1, 1) := by decide +kernel
theorem dw_545 : decode code 545 = .ok (.invokevirtual 82, 3) := by decide +kernel
theorem dw_548 : decode code 548 = .ok (.aload_n 2, 1) := by decide +kernel
theorem dw_549 : decode code 549 = .ok (.invokevirtual 85, 3) := by decide +kernel
theorem dw_552 : decode code 552 = .ok (.if_icmp .eq 97, 3) := by decide +kernel
theorem dw_555 : decode code 555 = .ok (.iconst 0, 1) := by decide +kernel
theorem dw_556 : decode code 556 = .ok (.ireturn, 1) := by decide +kernel
theorem dw_557 : decode code 557 = .ok (.aload_n 1, 1) := by decide +kernel
theorem dw_558 : decode code 558 = .ok (.aload_n 0, 1) := by decide +kernel
theorem dw_559 : decode code 559 = .ok (.iload 4, 2) := by decide +kernel
theorem dw_561 : decode code 561 = .ok (.iconst 1, 1) := by decide +kernel
theorem dw_562 : decode code 562 = .ok (.iadd, 1) := by decide +kernel
theorem dw_563 : decode code 563 = .ok (.iaload, 1) := by decide +kernel
theorem dw_564 : decode code 564 = .ok (.aload_n 0, 1) := by decide +kernel
theorem dw_565 : decode code 565 = .ok (.iload 4, 2) := by decide +kernel
theorem dw_567 : decode code 567 = .ok (.iconst 2, 1) := by decide +kernel
theorem dw_568 : decode code 568 = .ok (.iadd, 1) := by decide +kernel
theorem dw_569 : decode code 569 = .ok (.iaload, 1) := by decide +kernel
theorem dw_570 : decode code 570 = .ok (.aload_n 3, 1) := by decide +kernel
theorem dw_571 : decode code 571 = .ok (.invokestatic 86, 3) := by decide +kernel
theorem dw_574 : decode code 574 = .ok (.istore 5, 2) := by decide +kernel
theorem dw_576 : decode code 576 = .ok (.aload_n 2, 1) := by decide +kernel
theorem dw_577 : decode code 577 = .ok (.aload_n 0, 1) := by decide +kernel
theorem dw_578 : decode code 578 = .ok (.iload 4, 2) := by decide +kernel
theorem dw_580 : decode code 580 = .ok (.iconst 1, 1) := by decide +kernel
theorem dw_581 : decode code 581 = .ok (.iadd, 1) := by decide +kernel
theorem dw_582 : decode code 582 = .ok (.iaload, 1) := by decide +kernel
theorem dw_583 : decode code 583 = .ok (.aload_n 0, 1) := by decide +kernel
theorem dw_584 : decode code 584 = .ok (.iload 4, 2) := by decide +kernel
theorem dw_586 : decode code 586 = .ok (.iconst 2, 1) := by decide +kernel
theorem dw_587 : decode code 587 = .ok (.iadd, 1) := by decide +kernel
theorem dw_588 : decode code 588 = .ok (.iaload, 1) := by decide +kernel
theorem dw_589 : decode code 589 = .ok (.invokevirtual 89, 3) := by decide +kernel
theorem dw_592 : decode code 592 = .ok (.lstore 6, 2) := by decide +kernel
theorem dw_594 : decode code 594 = .ok (.aload_n 2, 1) := by decide +kernel
theorem dw_595 : decode code 595 = .ok (.invokevirtual 90, 3) := by decide +kernel
theorem dw_598 : decode code 598 = .ok (.iload 5, 2) := by decide +kernel
theorem dw_600 : decode code 600 = .ok (.if_icmp .eq 5, 3) := by decide +kernel
theorem dw_603 : decode code 603 = .ok (.iconst 0, 1) := by decide +kernel
theorem dw_604 : decode code 604 = .ok (.ireturn, 1) := by decide +kernel
theorem dw_605 : decode code 605 = .ok (.iload 5, 2) := by decide +kernel
theorem dw_607 : decode code 607 = .ok (.ifCond .ne 14, 3) := by decide +kernel
theorem dw_610 : decode code 610 = .ok (.aload_n 3, 1) := by decide +kernel
theorem dw_611 : decode code 611 = .ok (.iconst 0, 1) := by decide +kernel
theorem dw_612 : decode code 612 = .ok (.laload, 1) := by decide +kernel
theorem dw_613 : decode code 613 = .ok (.lload 6, 2) := by decide +kernel
theorem dw_615 : decode code 615 = .ok (.lcmp, 1) := by decide +kernel
theorem dw_616 : decode code 616 = .ok (.ifCond .eq 5, 3) := by decide +kernel
theorem dw_619 : decode code 619 = .ok (.iconst 0, 1) := by decide +kernel
theorem dw_620 : decode code 620 = .ok (.ireturn, 1) := by decide +kernel
theorem dw_621 : decode code 621 = .ok (.goto 28, 3) := by decide +kernel
theorem dw_624 : decode code 624 = .ok (.aload_n 1, 1) := by decide +kernel
theorem dw_625 : decode code 625 = .ok (.aload_n 0, 1) := by decide +kernel
theorem dw_626 : decode code 626 = .ok (.iload 4, 2) := by decide +kernel
theorem dw_628 : decode code 628 = .ok (.iconst 1, 1) := by decide +kernel
theorem dw_629 : decode code 629 = .ok (.iadd, 1) := by decide +kernel
theorem dw_630 : decode code 630 = .ok (.iaload, 1) := by decide +kernel
theorem dw_631 : decode code 631 = .ok (.invokevirtual 93, 3) := by decide +kernel
theorem dw_634 : decode code 634 = .ok (.aload_n 2, 1) := by decide +kernel
theorem dw_635 : decode code 635 = .ok (.aload_n 0, 1) := by decide +kernel
theorem dw_636 : decode code 636 = .ok (.iload 4, 2) := by decide +kernel
theorem dw_638 : decode code 638 = .ok (.iconst 1, 1) := by decide +kernel
theorem dw_639 : decode code 639 = .ok (.iadd, 1) := by decide +kernel
theorem dw_640 : decode code 640 = .ok (.iaload, 1) := by decide +kernel
theorem dw_641 : decode code 641 = .ok (.invokevirtual 96, 3) := by decide +kernel
theorem dw_644 : decode code 644 = .ok (.if_icmp .eq 5, 3) := by decide +kernel
theorem dw_647 : decode code 647 = .ok (.iconst 0, 1) := by decide +kernel
theorem dw_648 : decode code 648 = .ok (.ireturn, 1) := by decide +kernel
theorem dw_649 : decode code 649 = .ok (.iinc 4 5, 3) := by decide +kernel
theorem dw_652 : decode code 652 = .ok (.goto (-599), 3) := by decide +kernel
theorem dw_655 : decode code 655 = .ok (.iconst 1, 1) := by decide +kernel
theorem dw_656 : decode code 656 = .ok (.ireturn, 1) := by decide +kernel
abbrev cL_cell : ByteArray := method_2_code
theorem dw_cell_0 : decode cL_cell 0 = .ok (.iload_n 1, 1) := by decide +kernel
theorem dw_cell_1 : decode cL_cell 1 = .ok (.aload_n 0, 1) := by decide +kernel
theorem dw_cell_2 : decode cL_cell 2 = .ok (.arraylength, 1) := by decide +kernel
theorem dw_cell_3 : decode cL_cell 3 = .ok (.if_icmp .ge 9, 3) := by decide +kernel
theorem dw_cell_6 : decode cL_cell 6 = .ok (.aload_n 0, 1) := by decide +kernel
theorem dw_cell_7 : decode cL_cell 7 = .ok (.iload_n 1, 1) := by decide +kernel
theorem dw_cell_8 : decode cL_cell 8 = .ok (.iaload, 1) := by decide +kernel
theorem dw_cell_9 : decode cL_cell 9 = .ok (.goto 4, 3) := by decide +kernel
theorem dw_cell_12 : decode cL_cell 12 = .ok (.iconst 0, 1) := by decide +kernel
theorem dw_cell_13 : decode cL_cell 13 = .ok (.ireturn, 1) := by decide +kernel
abbrev cL_axle : ByteArray := method_3_code
theorem dw_axle_0 : decode cL_axle 0 = .ok (.aload_n 3, 1) := by decide +kernel
theorem dw_axle_1 : decode cL_axle 1 = .ok (.iconst 0, 1) := by decide +kernel
theorem dw_axle_2 : decode cL_axle 2 = .ok (.aload_n 0, 1) := by decide +kernel
theorem dw_axle_3 : decode cL_axle 3 = .ok (.iload_n 1, 1) := by decide +kernel
theorem dw_axle_4 : decode cL_axle 4 = .ok (.iload_n 2, 1) := by decide +kernel
theorem dw_axle_5 : decode cL_axle 5 = .ok (.invokevirtual 7, 3) := by decide +kernel
theorem dw_axle_8 : decode cL_axle 8 = .ok (.lastore, 1) := by decide +kernel
theorem dw_axle_9 : decode cL_axle 9 = .ok (.goto 7, 3) := by decide +kernel
theorem dw_axle_12 : decode cL_axle 12 = .ok (.astore 4, 2) := by decide +kernel
theorem dw_axle_14 : decode cL_axle 14 = .ok (.iconst 1, 1) := by decide +kernel
theorem dw_axle_15 : decode cL_axle 15 = .ok (.ireturn, 1) := by decide +kernel
theorem dw_axle_16 : decode cL_axle 16 = .ok (.iconst 0, 1) := by decide +kernel
theorem dw_axle_17 : decode cL_axle 17 = .ok (.ireturn, 1) := by decide +kernel
