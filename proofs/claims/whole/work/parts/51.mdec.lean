theorem dM_0 : decode code 0 = .ok (.new 8, 3) := by decide +kernel
theorem dM_3 : decode code 3 = .ok (.dup, 1) := by decide +kernel
theorem dM_4 : decode code 4 = .ok (.invokespecial 64, 3) := by decide +kernel
theorem dM_7 : decode code 7 = .ok (.astore_n 1, 1) := by decide +kernel
theorem dM_8 : decode code 8 = .ok (.new 65, 3) := by decide +kernel
theorem dM_11 : decode code 11 = .ok (.dup, 1) := by decide +kernel
theorem dM_12 : decode code 12 = .ok (.invokespecial 67, 3) := by decide +kernel
theorem dM_15 : decode code 15 = .ok (.astore_n 2, 1) := by decide +kernel
theorem dM_16 : decode code 16 = .ok (.iconst 1, 1) := by decide +kernel
theorem dM_17 : decode code 17 = .ok (.newarray .long, 2) := by decide +kernel
theorem dM_19 : decode code 19 = .ok (.astore_n 3, 1) := by decide +kernel
theorem dM_20 : decode code 20 = .ok (.iconst 0, 1) := by decide +kernel
theorem dM_21 : decode code 21 = .ok (.istore 4, 2) := by decide +kernel
theorem dM_23 : decode code 23 = .ok (.iload 4, 2) := by decide +kernel
theorem dM_25 : decode code 25 = .ok (.aload_n 0, 1) := by decide +kernel
theorem dM_26 : decode code 26 = .ok (.arraylength, 1) := by decide +kernel
theorem dM_27 : decode code 27 = .ok (.iconst 4, 1) := by decide +kernel
theorem dM_28 : decode code 28 = .ok (.isub, 1) := by decide +kernel
theorem dM_29 : decode code 29 = .ok (.if_icmp .gt 913, 3) := by decide +kernel
theorem dM_32 : decode code 32 = .ok (.aload_n 0, 1) := by decide +kernel
theorem dM_33 : decode code 33 = .ok (.iload 4, 2) := by decide +kernel
theorem dM_35 : decode code 35 = .ok (.iaload, 1) := by decide +kernel
theorem dM_36 : decode code 36 = .ok (.bipush 15, 2) := by decide +kernel
theorem dM_38 : decode code 38 = .ok (.iand, 1) := by decide +kernel
theorem dM_39 : decode code 39 = .ok (.tableswitch 897 0 14 #[73, 155, 217, 267, 335, 391, 447, 495, 506, 550, 618, 686, 756, 812, 853], 73) := by decide +kernel
theorem dM_112 : decode code 112 = .ok (.aload_n 1, 1) := by decide +kernel
theorem dM_113 : decode code 113 = .ok (.aload_n 0, 1) := by decide +kernel
theorem dM_114 : decode code 114 = .ok (.iload 4, 2) := by decide +kernel
theorem dM_116 : decode code 116 = .ok (.iconst 1, 1) := by decide +kernel
theorem dM_117 : decode code 117 = .ok (.iadd, 1) := by decide +kernel
theorem dM_118 : decode code 118 = .ok (.iaload, 1) := by decide +kernel
theorem dM_119 : decode code 119 = .ok (.aload_n 0, 1) := by decide +kernel
theorem dM_120 : decode code 120 = .ok (.iload 4, 2) := by decide +kernel
theorem dM_122 : decode code 122 = .ok (.iconst 2, 1) := by decide +kernel
theorem dM_123 : decode code 123 = .ok (.iadd, 1) := by decide +kernel
theorem dM_124 : decode code 124 = .ok (.iaload, 1) := by decide +kernel
theorem dM_125 : decode code 125 = .ok (.aload_n 0, 1) := by decide +kernel
theorem dM_126 : decode code 126 = .ok (.iload 4, 2) := by decide +kernel
theorem dM_128 : decode code 128 = .ok (.iconst 3, 1) := by decide +kernel
theorem dM_129 : decode code 129 = .ok (.iadd, 1) := by decide +kernel
theorem dM_130 : decode code 130 = .ok (.iaload, 1) := by decide +kernel
theorem dM_131 : decode code 131 = .ok (.i2c, 1) := by decide +kernel
theorem dM_132 : decode code 132 = .ok (.aload_n 3, 1) := by decide +kernel
theorem dM_133 : decode code 133 = .ok (.invokestatic 68, 3) := by decide +kernel
theorem dM_136 : decode code 136 = .ok (.istore 5, 2) := by decide +kernel
theorem dM_138 : decode code 138 = .ok (.aload_n 2, 1) := by decide +kernel
theorem dM_139 : decode code 139 = .ok (.aload_n 0, 1) := by decide +kernel
theorem dM_140 : decode code 140 = .ok (.iload 4, 2) := by decide +kernel
theorem dM_142 : decode code 142 = .ok (.iconst 1, 1) := by decide +kernel
theorem dM_143 : decode code 143 = .ok (.iadd, 1) := by decide +kernel
theorem dM_144 : decode code 144 = .ok (.iaload, 1) := by decide +kernel
theorem dM_145 : decode code 145 = .ok (.aload_n 0, 1) := by decide +kernel
theorem dM_146 : decode code 146 = .ok (.iload 4, 2) := by decide +kernel
theorem dM_148 : decode code 148 = .ok (.iconst 2, 1) := by decide +kernel
theorem dM_149 : decode code 149 = .ok (.iadd, 1) := by decide +kernel
theorem dM_150 : decode code 150 = .ok (.iaload, 1) := by decide +kernel
theorem dM_151 : decode code 151 = .ok (.aload_n 0, 1) := by decide +kernel
theorem dM_152 : decode code 152 = .ok (.iload 4, 2) := by decide +kernel
theorem dM_154 : decode code 154 = .ok (.iconst 3, 1) := by decide +kernel
theorem dM_155 : decode code 155 = .ok (.iadd, 1) := by decide +kernel
theorem dM_156 : decode code 156 = .ok (.iaload, 1) := by decide +kernel
theorem dM_157 : decode code 157 = .ok (.i2c, 1) := by decide +kernel
theorem dM_158 : decode code 158 = .ok (.invokevirtual 73, 3) := by decide +kernel
theorem dM_161 : decode code 161 = .ok (.istore 6, 2) := by decide +kernel
theorem dM_163 : decode code 163 = .ok (.aload_n 2, 1) := by decide +kernel
theorem dM_164 : decode code 164 = .ok (.invokevirtual 74, 3) := by decide +kernel
theorem dM_167 : decode code 167 = .ok (.iload 5, 2) := by decide +kernel
theorem dM_169 : decode code 169 = .ok (.if_icmp .eq 5, 3) := by decide +kernel
theorem dM_172 : decode code 172 = .ok (.iconst 0, 1) := by decide +kernel
theorem dM_173 : decode code 173 = .ok (.ireturn, 1) := by decide +kernel
theorem dM_174 : decode code 174 = .ok (.iload 5, 2) := by decide +kernel
theorem dM_176 : decode code 176 = .ok (.ifCond .ne 15, 3) := by decide +kernel
theorem dM_179 : decode code 179 = .ok (.aload_n 3, 1) := by decide +kernel
theorem dM_180 : decode code 180 = .ok (.iconst 0, 1) := by decide +kernel
theorem dM_181 : decode code 181 = .ok (.laload, 1) := by decide +kernel
theorem dM_182 : decode code 182 = .ok (.iload 6, 2) := by decide +kernel
theorem dM_184 : decode code 184 = .ok (.i2l, 1) := by decide +kernel
theorem dM_185 : decode code 185 = .ok (.lcmp, 1) := by decide +kernel
theorem dM_186 : decode code 186 = .ok (.ifCond .eq 5, 3) := by decide +kernel
theorem dM_189 : decode code 189 = .ok (.iconst 0, 1) := by decide +kernel
theorem dM_190 : decode code 190 = .ok (.ireturn, 1) := by decide +kernel
theorem dM_191 : decode code 191 = .ok (.goto 745, 3) := by decide +kernel
theorem dM_194 : decode code 194 = .ok (.aload_n 1, 1) := by decide +kernel
theorem dM_195 : decode code 195 = .ok (.aload_n 0, 1) := by decide +kernel
theorem dM_196 : decode code 196 = .ok (.iload 4, 2) := by decide +kernel
theorem dM_198 : decode code 198 = .ok (.iconst 1, 1) := by decide +kernel
theorem dM_199 : decode code 199 = .ok (.iadd, 1) := by decide +kernel
theorem dM_200 : decode code 200 = .ok (.iaload, 1) := by decide +kernel
theorem dM_201 : decode code 201 = .ok (.aload_n 0, 1) := by decide +kernel
theorem dM_202 : decode code 202 = .ok (.iload 4, 2) := by decide +kernel
theorem dM_204 : decode code 204 = .ok (.iconst 2, 1) := by decide +kernel
theorem dM_205 : decode code 205 = .ok (.iadd, 1) := by decide +kernel
theorem dM_206 : decode code 206 = .ok (.iaload, 1) := by decide +kernel
theorem dM_207 : decode code 207 = .ok (.aload_n 0, 1) := by decide +kernel
theorem dM_208 : decode code 208 = .ok (.iload 4, 2) := by decide +kernel
theorem dM_210 : decode code 210 = .ok (.iconst 3, 1) := by decide +kernel
theorem dM_211 : decode code 211 = .ok (.iadd, 1) := by decide +kernel
theorem dM_212 : decode code 212 = .ok (.iaload, 1) := by decide +kernel
theorem dM_213 : decode code 213 = .ok (.i2c, 1) := by decide +kernel
theorem dM_214 : decode code 214 = .ok (.invokestatic 77, 3) := by decide +kernel
theorem dM_217 : decode code 217 = .ok (.istore 5, 2) := by decide +kernel
theorem dM_219 : decode code 219 = .ok (.aload_n 2, 1) := by decide +kernel
theorem dM_220 : decode code 220 = .ok (.aload_n 0, 1) := by decide +kernel
theorem dM_221 : decode code 221 = .ok (.iload 4, 2) := by decide +kernel
theorem dM_223 : decode code 223 = .ok (.iconst 1, 1) := by decide +kernel
theorem dM_224 : decode code 224 = .ok (.iadd, 1) := by decide +kernel
theorem dM_225 : decode code 225 = .ok (.iaload, 1) := by decide +kernel
theorem dM_226 : decode code 226 = .ok (.aload_n 0, 1) := by decide +kernel
theorem dM_227 : decode code 227 = .ok (.iload 4, 2) := by decide +kernel
theorem dM_229 : decode code 229 = .ok (.iconst 2, 1) := by decide +kernel
theorem dM_230 : decode code 230 = .ok (.iadd, 1) := by decide +kernel
theorem dM_231 : decode code 231 = .ok (.iaload, 1) := by decide +kernel
theorem dM_232 : decode code 232 = .ok (.aload_n 0, 1) := by decide +kernel
theorem dM_233 : decode code 233 = .ok (.iload 4, 2) := by decide +kernel
theorem dM_235 : decode code 235 = .ok (.iconst 3, 1) := by decide +kernel
theorem dM_236 : decode code 236 = .ok (.iadd, 1) := by decide +kernel
theorem dM_237 : decode code 237 = .ok (.iaload, 1) := by decide +kernel
theorem dM_238 : decode code 238 = .ok (.i2c, 1) := by decide +kernel
theorem dM_239 : decode code 239 = .ok (.invokevirtual 80, 3) := by decide +kernel
theorem dM_242 : decode code 242 = .ok (.aload_n 2, 1) := by decide +kernel
theorem dM_243 : decode code 243 = .ok (.invokevirtual 74, 3) := by decide +kernel
theorem dM_246 : decode code 246 = .ok (.iload 5, 2) := by decide +kernel
theorem dM_248 : decode code 248 = .ok (.if_icmp .eq 5, 3) := by decide +kernel
theorem dM_251 : decode code 251 = .ok (.iconst 0, 1) := by decide +kernel
theorem dM_252 : decode code 252 = .ok (.ireturn, 1) := by decide +kernel
theorem dM_253 : decode code 253 = .ok (.goto 683, 3) := by decide +kernel
theorem dM_256 : decode code 256 = .ok (.aload_n 1, 1) := by decide +kernel
theorem dM_257 : decode code 257 = .ok (.aload_n 0, 1) := by decide +kernel
theorem dM_258 : decode code 258 = .ok (.iload 4, 2) := by decide +kernel
theorem dM_260 : decode code 260 = .ok (.iconst 1, 1) := by decide +kernel
theorem dM_261 : decode code 261 = .ok (.iadd, 1) := by decide +kernel
theorem dM_262 : decode code 262 = .ok (.iaload, 1) := by decide +kernel
theorem dM_263 : decode code 263 = .ok (.aload_n 0, 1) := by decide +kernel
theorem dM_264 : decode code 264 = .ok (.iload 4, 2) := by decide +kernel
theorem dM_266 : decode code 266 = .ok (.iconst 2, 1) := by decide +kernel
theorem dM_267 : decode code 267 = .ok (.iadd, 1) := by decide +kernel
theorem dM_268 : decode code 268 = .ok (.iaload, 1) := by decide +kernel
theorem dM_269 : decode code 269 = .ok (.i2c, 1) := by decide +kernel
theorem dM_270 : decode code 270 = .ok (.invokestatic 81, 3) := by decide +kernel
theorem dM_273 : decode code 273 = .ok (.istore 5, 2) := by decide +kernel
theorem dM_275 : decode code 275 = .ok (.aload_n 2, 1) := by decide +kernel
theorem dM_276 : decode code 276 = .ok (.aload_n 0, 1) := by decide +kernel
theorem dM_277 : decode code 277 = .ok (.iload 4, 2) := by decide +kernel
theorem dM_279 : decode code 279 = .ok (.iconst 1, 1) := by decide +kernel
theorem dM_280 : decode code 280 = .ok (.iadd, 1) := by decide +kernel
theorem dM_281 : decode code 281 = .ok (.iaload, 1) := by decide +kernel
theorem dM_282 : decode code 282 = .ok (.aload_n 0, 1) := by decide +kernel
theorem dM_283 : decode code 283 = .ok (.iload 4, 2) := by decide +kernel
theorem dM_285 : decode code 285 = .ok (.iconst 2, 1) := by decide +kernel
theorem dM_286 : decode code 286 = .ok (.iadd, 1) := by decide +kernel
theorem dM_287 : decode code 287 = .ok (.iaload, 1) := by decide +kernel
theorem dM_288 : decode code 288 = .ok (.i2c, 1) := by decide +kernel
theorem dM_289 : decode code 289 = .ok (.invokevirtual 84, 3) := by decide +kernel
theorem dM_292 : decode code 292 = .ok (.aload_n 2, 1) := by decide +kernel
theorem dM_293 : decode code 293 = .ok (.invokevirtual 74, 3) := by decide +kernel
theorem dM_296 : decode code 296 = .ok (.iload 5, 2) := by decide +kernel
theorem dM_298 : decode code 298 = .ok (.if_icmp .eq 5, 3) := by decide +kernel
theorem dM_301 : decode code 301 = .ok (.iconst 0, 1) := by decide +kernel
theorem dM_302 : decode code 302 = .ok (.ireturn, 1) := by decide +kernel
theorem dM_303 : decode code 303 = .ok (.goto 633, 3) := by decide +kernel
theorem dM_306 : decode code 306 = .ok (.aload_n 1, 1) := by decide +kernel
theorem dM_307 : decode code 307 = .ok (.aload_n 0, 1) := by decide +kernel
theorem dM_308 : decode code 308 = .ok (.iload 4, 2) := by decide +kernel
theorem dM_310 : decode code 310 = .ok (.iconst 1, 1) := by decide +kernel
theorem dM_311 : decode code 311 = .ok (.iadd, 1) := by decide +kernel
theorem dM_312 : decode code 312 = .ok (.iaload, 1) := by decide +kernel
theorem dM_313 : decode code 313 = .ok (.aload_n 0, 1) := by decide +kernel
theorem dM_314 : decode code 314 = .ok (.iload 4, 2) := by decide +kernel
theorem dM_316 : decode code 316 = .ok (.iconst 2, 1) := by decide +kernel
theorem dM_317 : decode code 317 = .ok (.iadd, 1) := by decide +kernel
theorem dM_318 : decode code 318 = .ok (.iaload, 1) := by decide +kernel
theorem dM_319 : decode code 319 = .ok (.aload_n 3, 1) := by decide +kernel
theorem dM_320 : decode code 320 = .ok (.invokestatic 85, 3) := by decide +kernel
theorem dM_323 : decode code 323 = .ok (.istore 5, 2) := by decide +kernel
theorem dM_325 : decode code 325 = .ok (.aload_n 2, 1) := by decide +kernel
theorem dM_326 : decode code 326 = .ok (.aload_n 0, 1) := by decide +kernel
theorem dM_327 : decode code 327 = .ok (.iload 4, 2) := by decide +kernel
theorem dM_329 : decode code 329 = .ok (.iconst 1, 1) := by decide +kernel
theorem dM_330 : decode code 330 = .ok (.iadd, 1) := by decide +kernel
theorem dM_331 : decode code 331 = .ok (.iaload, 1) := by decide +kernel
theorem dM_332 : decode code 332 = .ok (.aload_n 0, 1) := by decide +kernel
theorem dM_333 : decode code 333 = .ok (.iload 4, 2) := by decide +kernel
theorem dM_335 : decode code 335 = .ok (.iconst 2, 1) := by decide +kernel
theorem dM_336 : decode code 336 = .ok (.iadd, 1) := by decide +kernel
theorem dM_337 : decode code 337 = .ok (.iaload, 1) := by decide +kernel
theorem dM_338 : decode code 338 = .ok (.invokevirtual 88, 3) := by decide +kernel
theorem dM_341 : decode code 341 = .ok (.istore 6, 2) := by decide +kernel
theorem dM_343 : decode code 343 = .ok (.aload_n 2, 1) := by decide +kernel
theorem dM_344 : decode code 344 = .ok (.invokevirtual 74, 3) := by decide +kernel
theorem dM_347 : decode code 347 = .ok (.iload 5, 2) := by decide +kernel
theorem dM_349 : decode code 349 = .ok (.if_icmp .eq 5, 3) := by decide +kernel
theorem dM_352 : decode code 352 = .ok (.iconst 0, 1) := by decide +kernel
theorem dM_353 : decode code 353 = .ok (.ireturn, 1) := by decide +kernel
theorem dM_354 : decode code 354 = .ok (.iload 5, 2) := by decide +kernel
theorem dM_356 : decode code 356 = .ok (.ifCond .ne 15, 3) := by decide +kernel
theorem dM_359 : decode code 359 = .ok (.aload_n 3, 1) := by decide +kernel
theorem dM_360 : decode code 360 = .ok (.iconst 0, 1) := by decide +kernel
theorem dM_361 : decode code 361 = .ok (.laload, 1) := by decide +kernel
theorem dM_362 : decode code 362 = .ok (.iload 6, 2) := by decide +kernel
theorem dM_364 : decode code 364 = .ok (.i2l, 1) := by decide +kernel
theorem dM_365 : decode code 365 = .ok (.lcmp, 1) := by decide +kernel
theorem dM_366 : decode code 366 = .ok (.ifCond .eq 5, 3) := by decide +kernel
theorem dM_369 : decode code 369 = .ok (.iconst 0, 1) := by decide +kernel
theorem dM_370 : decode code 370 = .ok (.ireturn, 1) := by decide +kernel
theorem dM_371 : decode code 371 = .ok (.goto 565, 3) := by decide +kernel
theorem dM_374 : decode code 374 = .ok (.aload_n 1, 1) := by decide +kernel
theorem dM_375 : decode code 375 = .ok (.aload_n 0, 1) := by decide +kernel
theorem dM_376 : decode code 376 = .ok (.iload 4, 2) := by decide +kernel
theorem dM_378 : decode code 378 = .ok (.iconst 1, 1) := by decide +kernel
theorem dM_379 : decode code 379 = .ok (.iadd, 1) := by decide +kernel
theorem dM_380 : decode code 380 = .ok (.iaload, 1) := by decide +kernel
theorem dM_381 : decode code 381 = .ok (.aload_n 3, 1) := by decide +kernel
theorem dM_382 : decode code 382 = .ok (.invokestatic 89, 3) := by decide +kernel
theorem dM_385 : decode code 385 = .ok (.istore 5, 2) := by decide +kernel
theorem dM_387 : decode code 387 = .ok (.aload_n 2, 1) := by decide +kernel
theorem dM_388 : decode code 388 = .ok (.aload_n 0, 1) := by decide +kernel
theorem dM_389 : decode code 389 = .ok (.iload 4, 2) := by decide +kernel
theorem dM_391 : decode code 391 = .ok (.iconst 1, 1) := by decide +kernel
theorem dM_392 : decode code 392 = .ok (.iadd, 1) := by decide +kernel
theorem dM_393 : decode code 393 = .ok (.iaload, 1) := by decide +kernel
theorem dM_394 : decode code 394 = .ok (.invokevirtual 92, 3) := by decide +kernel
theorem dM_397 : decode code 397 = .ok (.istore 6, 2) := by decide +kernel
theorem dM_399 : decode code 399 = .ok (.aload_n 2, 1) := by decide +kernel
theorem dM_400 : decode code 400 = .ok (.invokevirtual 74, 3) := by decide +kernel
theorem dM_403 : decode code 403 = .ok (.iload 5, 2) := by decide +kernel
theorem dM_405 : decode code 405 = .ok (.if_icmp .eq 5, 3) := by decide +kernel
theorem dM_408 : decode code 408 = .ok (.iconst 0, 1) := by decide +kernel
theorem dM_409 : decode code 409 = .ok (.ireturn, 1) := by decide +kernel
theorem dM_410 : decode code 410 = .ok (.iload 5, 2) := by decide +kernel
theorem dM_412 : decode code 412 = .ok (.ifCond .ne 15, 3) := by decide +kernel
theorem dM_415 : decode code 415 = .ok (.aload_n 3, 1) := by decide +kernel
theorem dM_416 : decode code 416 = .ok (.iconst 0, 1) := by decide +kernel
theorem dM_417 : decode code 417 = .ok (.laload, 1) := by decide +kernel
theorem dM_418 : decode code 418 = .ok (.iload 6, 2) := by decide +kernel
theorem dM_420 : decode code 420 = .ok (.i2l, 1) := by decide +kernel
theorem dM_421 : decode code 421 = .ok (.lcmp, 1) := by decide +kernel
theorem dM_422 : decode code 422 = .ok (.ifCond .eq 5, 3) := by decide +kernel
theorem dM_425 : decode code 425 = .ok (.iconst 0, 1) := by decide +kernel
theorem dM_426 : decode code 426 = .ok (.ireturn, 1) := by decide +kernel
theorem dM_427 : decode code 427 = .ok (.goto 509, 3) := by decide +kernel
theorem dM_430 : decode code 430 = .ok (.aload_n 1, 1) := by decide +kernel
theorem dM_431 : decode code 431 = .ok (.aload_n 0, 1) := by decide +kernel
theorem dM_432 : decode code 432 = .ok (.iload 4, 2) := by decide +kernel
theorem dM_434 : decode code 434 = .ok (.iconst 1, 1) := by decide +kernel
theorem dM_435 : decode code 435 = .ok (.iadd, 1) := by decide +kernel
theorem dM_436 : decode code 436 = .ok (.iaload, 1) := by decide +kernel
theorem dM_437 : decode code 437 = .ok (.aload_n 3, 1) := by decide +kernel
theorem dM_438 : decode code 438 = .ok (.invokestatic 93, 3) := by decide +kernel
theorem dM_441 : decode code 441 = .ok (.istore 5, 2) := by decide +kernel
theorem dM_443 : decode code 443 = .ok (.aload_n 2, 1) := by decide +kernel
theorem dM_444 : decode code 444 = .ok (.aload_n 0, 1) := by decide +kernel
theorem dM_445 : decode code 445 = .ok (.iload 4, 2) := by decide +kernel
theorem dM_447 : decode code 447 = .ok (.iconst 1, 1) := by decide +kernel
theorem dM_448 : decode code 448 = .ok (.iadd, 1) := by decide +kernel
theorem dM_449 : decode code 449 = .ok (.iaload, 1) := by decide +kernel
theorem dM_450 : decode code 450 = .ok (.invokevirtual 95, 3) := by decide +kernel
theorem dM_453 : decode code 453 = .ok (.istore 6, 2) := by decide +kernel
theorem dM_455 : decode code 455 = .ok (.aload_n 2, 1) := by decide +kernel
theorem dM_456 : decode code 456 = .ok (.invokevirtual 74, 3) := by decide +kernel
theorem dM_459 : decode code 459 = .ok (.iload 5, 2) := by decide +kernel
theorem dM_461 : decode code 461 = .ok (.if_icmp .eq 5, 3) := by decide +kernel
theorem dM_464 : decode code 464 = .ok (.iconst 0, 1) := by decide +kernel
theorem dM_465 : decode code 465 = .ok (.ireturn, 1) := by decide +kernel
theorem dM_466 : decode code 466 = .ok (.iload 5, 2) := by decide +kernel
theorem dM_468 : decode code 468 = .ok (.ifCond .ne 15, 3) := by decide +kernel
theorem dM_471 : decode code 471 = .ok (.aload_n 3, 1) := by decide +kernel
theorem dM_472 : decode code 472 = .ok (.iconst 0, 1) := by decide +kernel
theorem dM_473 : decode code 473 = .ok (.laload, 1) := by decide +kernel
theorem dM_474 : decode code 474 = .ok (.iload 6, 2) := by decide +kernel
theorem dM_476 : decode code 476 = .ok (.i2l, 1) := by decide +kernel
theorem dM_477 : decode code 477 = .ok (.lcmp, 1) := by decide +kernel
theorem dM_478 : decode code 478 = .ok (.ifCond .eq 5, 3) := by decide +kernel
theorem dM_481 : decode code 481 = .ok (.iconst 0, 1) := by decide +kernel
theorem dM_482 : decode code 482 = .ok (.ireturn, 1) := by decide +kernel
theorem dM_483 : decode code 483 = .ok (.goto 453, 3) := by decide +kernel
theorem dM_486 : decode code 486 = .ok (.aload_n 1, 1) := by decide +kernel
theorem dM_487 : decode code 487 = .ok (.aload_n 0, 1) := by decide +kernel
theorem dM_488 : decode code 488 = .ok (.iload 4, 2) := by decide +kernel
theorem dM_490 : decode code 490 = .ok (.iconst 1, 1) := by decide +kernel
theorem dM_491 : decode code 491 = .ok (.iadd, 1) := by decide +kernel
theorem dM_492 : decode code 492 = .ok (.iaload, 1) := by decide +kernel
theorem dM_493 : decode code 493 = .ok (.aload_n 0, 1) := by decide +kernel
theorem dM_494 : decode code 494 = .ok (.iload 4, 2) := by decide +kernel
theorem dM_496 : decode code 496 = .ok (.iconst 2, 1) := by decide +kernel
theorem dM_497 : decode code 497 = .ok (.iadd, 1) := by decide +kernel
theorem dM_498 : decode code 498 = .ok (.iaload, 1) := by decide +kernel
theorem dM_499 : decode code 499 = .ok (.invokestatic 96, 3) := by decide +kernel
theorem dM_502 : decode code 502 = .ok (.istore 5, 2) := by decide +kernel
theorem dM_504 : decode code 504 = .ok (.aload_n 2, 1) := by decide +kernel
theorem dM_505 : decode code 505 = .ok (.aload_n 0, 1) := by decide +kernel
theorem dM_506 : decode code 506 = .ok (.iload 4, 2) := by decide +kernel
theorem dM_508 : decode code 508 = .ok (.iconst 1, 1) := by decide +kernel
theorem dM_509 : decode code 509 = .ok (.iadd, 1) := by decide +kernel
theorem dM_510 : decode code 510 = .ok (.iaload, 1) := by decide +kernel
theorem dM_511 : decode code 511 = .ok (.aload_n 0, 1) := by decide +kernel
theorem dM_512 : decode code 512 = .ok (.iload 4, 2) := by decide +kernel
theorem dM_514 : decode code 514 = .ok (.iconst 2, 1) := by decide +kernel
theorem dM_515 : decode code 515 = .ok (.iadd, 1) := by decide +kernel
theorem dM_516 : decode code 516 = .ok (.iaload, 1) := by decide +kernel
theorem dM_517 : decode code 517 = .ok (.invokevirtual 99, 3) := by decide +kernel
theorem dM_520 : decode code 520 = .ok (.aload_n 2, 1) := by decide +kernel
theorem dM_521 : decode code 521 = .ok (.invokevirtual 74, 3) := by decide +kernel
theorem dM_524 : decode code 524 = .ok (.iload 5, 2) := by decide +kernel
theorem dM_526 : decode code 526 = .ok (.if_icmp .eq 5, 3) := by decide +kernel
theorem dM_529 : decode code 529 = .ok (.iconst 0, 1) := by decide +kernel
theorem dM_530 : decode code 530 = .ok (.ireturn, 1) := by decide +kernel
theorem dM_531 : decode code 531 = .ok (.goto 405, 3) := by decide +kernel
theorem dM_534 : decode code 534 = .ok (.aload_n 1, 1) := by decide +kernel
theorem dM_535 : decode code 535 = .ok (.invokevirtual 100, 3) := by decide +kernel
theorem dM_538 : decode code 538 = .ok (.aload_n 2, 1) := by decide +kernel
theorem dM_539 : decode code 539 = .ok (.invokevirtual 103, 3) := by decide +kernel
theorem dM_542 : decode code 542 = .ok (.goto 394, 3) := by decide +kernel
theorem dM_545 : decode code 545 = .ok (.aload_n 1, 1) := by decide +kernel
theorem dM_546 : decode code 546 = .ok (.aload_n 3, 1) := by decide +kernel
theorem dM_547 : decode code 547 = .ok (.invokestatic 104, 3) := by decide +kernel
theorem dM_550 : decode code 550 = .ok (.istore 5, 2) := by decide +kernel
theorem dM_552 : decode code 552 = .ok (.aload_n 2, 1) := by decide +kernel
theorem dM_553 : decode code 553 = .ok (.invokevirtual 107, 3) := by decide +kernel
theorem dM_556 : decode code 556 = .ok (.istore 6, 2) := by decide +kernel
theorem dM_558 : decode code 558 = .ok (.aload_n 2, 1) := by decide +kernel
theorem dM_559 : decode code 559 = .ok (.invokevirtual 74, 3) := by decide +kernel
theorem dM_562 : decode code 562 = .ok (.iload 5, 2) := by decide +kernel
theorem dM_564 : decode code 564 = .ok (.if_icmp .eq 5, 3) := by decide +kernel
theorem dM_567 : decode code 567 = .ok (.iconst 0, 1) := by decide +kernel
theorem dM_568 : decode code 568 = .ok (.ireturn, 1) := by decide +kernel
theorem dM_569 : decode code 569 = .ok (.iload 5, 2) := by decide +kernel
theorem dM_571 : decode code 571 = .ok (.ifCond .ne 15, 3) := by decide +kernel
theorem dM_574 : decode code 574 = .ok (.aload_n 3, 1) := by decide +kernel
theorem dM_575 : decode code 575 = .ok (.iconst 0, 1) := by decide +kernel
theorem dM_576 : decode code 576 = .ok (.laload, 1) := by decide +kernel
theorem dM_577 : decode code 577 = .ok (.iload 6, 2) := by decide +kernel
theorem dM_579 : decode code 579 = .ok (.i2l, 1) := by decide +kernel
theorem dM_580 : decode code 580 = .ok (.lcmp, 1) := by decide +kernel
theorem dM_581 : decode code 581 = .ok (.ifCond .eq 5, 3) := by decide +kernel
theorem dM_584 : decode code 584 = .ok (.iconst 0, 1) := by decide +kernel
theorem dM_585 : decode code 585 = .ok (.ireturn, 1) := by decide +kernel
theorem dM_586 : decode code 586 = .ok (.goto 350, 3) := by decide +kernel
theorem dM_589 : decode code 589 = .ok (.aload_n 1, 1) := by decide +kernel
theorem dM_590 : decode code 590 = .ok (.aload_n 0, 1) := by decide +kernel
theorem dM_591 : decode code 591 = .ok (.iload 4, 2) := by decide +kernel
theorem dM_593 : decode code 593 = .ok (.iconst 1, 1) := by decide +kernel
theorem dM_594 : decode code 594 = .ok (.iadd, 1) := by decide +kernel
theorem dM_595 : decode code 595 = .ok (.iaload, 1) := by decide +kernel
theorem dM_596 : decode code 596 = .ok (.aload_n 0, 1) := by decide +kernel
theorem dM_597 : decode code 597 = .ok (.iload 4, 2) := by decide +kernel
theorem dM_599 : decode code 599 = .ok (.iconst 2, 1) := by decide +kernel
theorem dM_600 : decode code 600 = .ok (.iadd, 1) := by decide +kernel
theorem dM_601 : decode code 601 = .ok (.iaload, 1) := by decide +kernel
theorem dM_602 : decode code 602 = .ok (.aload_n 3, 1) := by decide +kernel
theorem dM_603 : decode code 603 = .ok (.invokestatic 108, 3) := by decide +kernel
theorem dM_606 : decode code 606 = .ok (.istore 5, 2) := by decide +kernel
theorem dM_608 : decode code 608 = .ok (.aload_n 2, 1) := by decide +kernel
theorem dM_609 : decode code 609 = .ok (.aload_n 0, 1) := by decide +kernel
theorem dM_610 : decode code 610 = .ok (.iload 4, 2) := by decide +kernel
theorem dM_612 : decode code 612 = .ok (.iconst 1, 1) := by decide +kernel
theorem dM_613 : decode code 613 = .ok (.iadd, 1) := by decide +kernel
theorem dM_614 : decode code 614 = .ok (.iaload, 1) := by decide +kernel
theorem dM_615 : decode code 615 = .ok (.aload_n 0, 1) := by decide +kernel
theorem dM_616 : decode code 616 = .ok (.iload 4, 2) := by decide +kernel
theorem dM_618 : decode code 618 = .ok (.iconst 2, 1) := by decide +kernel
theorem dM_619 : decode code 619 = .ok (.iadd, 1) := by decide +kernel
theorem dM_620 : decode code 620 = .ok (.iaload, 1) := by decide +kernel
theorem dM_621 : decode code 621 = .ok (.invokevirtual 110, 3) := by decide +kernel
theorem dM_624 : decode code 624 = .ok (.istore 6, 2) := by decide +kernel
theorem dM_626 : decode code 626 = .ok (.aload_n 2, 1) := by decide +kernel
theorem dM_627 : decode code 627 = .ok (.invokevirtual 74, 3) := by decide +kernel
theorem dM_630 : decode code 630 = .ok (.iload 5, 2) := by decide +kernel
theorem dM_632 : decode code 632 = .ok (.if_icmp .eq 5, 3) := by decide +kernel
theorem dM_635 : decode code 635 = .ok (.iconst 0, 1) := by decide +kernel
theorem dM_636 : decode code 636 = .ok (.ireturn, 1) := by decide +kernel
theorem dM_637 : decode code 637 = .ok (.iload 5, 2) := by decide +kernel
theorem dM_639 : decode code 639 = .ok (.ifCond .ne 15, 3) := by decide +kernel
theorem dM_642 : decode code 642 = .ok (.aload_n 3, 1) := by decide +kernel
theorem dM_643 : decode code 643 = .ok (.iconst 0, 1) := by decide +kernel
theorem dM_644 : decode code 644 = .ok (.laload, 1) := by decide +kernel
theorem dM_645 : decode code 645 = .ok (.iload 6, 2) := by decide +kernel
theorem dM_647 : decode code 647 = .ok (.i2l, 1) := by decide +kernel
theorem dM_648 : decode code 648 = .ok (.lcmp, 1) := by decide +kernel
theorem dM_649 : decode code 649 = .ok (.ifCond .eq 5, 3) := by decide +kernel
theorem dM_652 : decode code 652 = .ok (.iconst 0, 1) := by decide +kernel
theorem dM_653 : decode code 653 = .ok (.ireturn, 1) := by decide +kernel
theorem dM_654 : decode code 654 = .ok (.goto 282, 3) := by decide +kernel
theorem dM_657 : decode code 657 = .ok (.aload_n 1, 1) := by decide +kernel
theorem dM_658 : decode code 658 = .ok (.aload_n 0, 1) := by decide +kernel
theorem dM_659 : decode code 659 = .ok (.iload 4, 2) := by decide +kernel
theorem dM_661 : decode code 661 = .ok (.iconst 1, 1) := by decide +kernel
theorem dM_662 : decode code 662 = .ok (.iadd, 1) := by decide +kernel
theorem dM_663 : decode code 663 = .ok (.iaload, 1) := by decide +kernel
theorem dM_664 : decode code 664 = .ok (.aload_n 0, 1) := by decide +kernel
theorem dM_665 : decode code 665 = .ok (.iload 4, 2) := by decide +kernel
theorem dM_667 : decode code 667 = .ok (.iconst 2, 1) := by decide +kernel
theorem dM_668 : decode code 668 = .ok (.iadd, 1) := by decide +kernel
theorem dM_669 : decode code 669 = .ok (.iaload, 1) := by decide +kernel
theorem dM_670 : decode code 670 = .ok (.aload_n 3, 1) := by decide +kernel
theorem dM_671 : decode code 671 = .ok (.invokestatic 111, 3) := by decide +kernel
theorem dM_674 : decode code 674 = .ok (.istore 5, 2) := by decide +kernel
theorem dM_676 : decode code 676 = .ok (.aload_n 2, 1) := by decide +kernel
theorem dM_677 : decode code 677 = .ok (.aload_n 0, 1) := by decide +kernel
theorem dM_678 : decode code 678 = .ok (.iload 4, 2) := by decide +kernel
theorem dM_680 : decode code 680 = .ok (.iconst 1, 1) := by decide +kernel
theorem dM_681 : decode code 681 = .ok (.iadd, 1) := by decide +kernel
theorem dM_682 : decode code 682 = .ok (.iaload, 1) := by decide +kernel
theorem dM_683 : decode code 683 = .ok (.aload_n 0, 1) := by decide +kernel
theorem dM_684 : decode code 684 = .ok (.iload 4, 2) := by decide +kernel
theorem dM_686 : decode code 686 = .ok (.iconst 2, 1) := by decide +kernel
theorem dM_687 : decode code 687 = .ok (.iadd, 1) := by decide +kernel
theorem dM_688 : decode code 688 = .ok (.iaload, 1) := by decide +kernel
theorem dM_689 : decode code 689 = .ok (.invokevirtual 113, 3) := by decide +kernel
theorem dM_692 : decode code 692 = .ok (.istore 6, 2) := by decide +kernel
theorem dM_694 : decode code 694 = .ok (.aload_n 2, 1) := by decide +kernel
theorem dM_695 : decode code 695 = .ok (.invokevirtual 74, 3) := by decide +kernel
theorem dM_698 : decode code 698 = .ok (.iload 5, 2) := by decide +kernel
theorem dM_700 : decode code 700 = .ok (.if_icmp .eq 5, 3) := by decide +kernel
theorem dM_703 : decode code 703 = .ok (.iconst 0, 1) := by decide +kernel
theorem dM_704 : decode code 704 = .ok (.ireturn, 1) := by decide +kernel
theorem dM_705 : decode code 705 = .ok (.iload 5, 2) := by decide +kernel
theorem dM_707 : decode code 707 = .ok (.ifCond .ne 15, 3) := by decide +kernel
theorem dM_710 : decode code 710 = .ok (.aload_n 3, 1) := by decide +kernel
theorem dM_711 : decode code 711 = .ok (.iconst 0, 1) := by decide +kernel
theorem dM_712 : decode code 712 = .ok (.laload, 1) := by decide +kernel
theorem dM_713 : decode code 713 = .ok (.iload 6, 2) := by decide +kernel
theorem dM_715 : decode code 715 = .ok (.i2l, 1) := by decide +kernel
theorem dM_716 : decode code 716 = .ok (.lcmp, 1) := by decide +kernel
theorem dM_717 : decode code 717 = .ok (.ifCond .eq 5, 3) := by decide +kernel
theorem dM_720 : decode code 720 = .ok (.iconst 0, 1) := by decide +kernel
theorem dM_721 : decode code 721 = .ok (.ireturn, 1) := by decide +kernel
theorem dM_722 : decode code 722 = .ok (.goto 214, 3) := by decide +kernel
theorem dM_725 : decode code 725 = .ok (.aload_n 1, 1) := by decide +kernel
theorem dM_726 : decode code 726 = .ok (.aload_n 0, 1) := by decide +kernel
theorem dM_727 : decode code 727 = .ok (.iload 4, 2) := by decide +kernel
theorem dM_729 : decode code 729 = .ok (.iconst 1, 1) := by decide +kernel
theorem dM_730 : decode code 730 = .ok (.iadd, 1) := by decide +kernel
theorem dM_731 : decode code 731 = .ok (.iaload, 1) := by decide +kernel
theorem dM_732 : decode code 732 = .ok (.aload_n 0, 1) := by decide +kernel
theorem dM_733 : decode code 733 = .ok (.iload 4, 2) := by decide +kernel
theorem dM_735 : decode code 735 = .ok (.iconst 2, 1) := by decide +kernel
theorem dM_736 : decode code 736 = .ok (.iadd, 1) := by decide +kernel
theorem dM_737 : decode code 737 = .ok (.iaload, 1) := by decide +kernel
theorem dM_738 : decode code 738 = .ok (.i2c, 1) := by decide +kernel
theorem dM_739 : decode code 739 = .ok (.aload_n 3, 1) := by decide +kernel
theorem dM_740 : decode code 740 = .ok (.invokestatic 114, 3) := by decide +kernel
theorem dM_743 : decode code 743 = .ok (.istore 5, 2) := by decide +kernel
theorem dM_745 : decode code 745 = .ok (.aload_n 2, 1) := by decide +kernel
theorem dM_746 : decode code 746 = .ok (.aload_n 0, 1) := by decide +kernel
theorem dM_747 : decode code 747 = .ok (.iload 4, 2) := by decide +kernel
theorem dM_749 : decode code 749 = .ok (.iconst 1, 1) := by decide +kernel
theorem dM_750 : decode code 750 = .ok (.iadd, 1) := by decide +kernel
theorem dM_751 : decode code 751 = .ok (.iaload, 1) := by decide +kernel
theorem dM_752 : decode code 752 = .ok (.aload_n 0, 1) := by decide +kernel
theorem dM_753 : decode code 753 = .ok (.iload 4, 2) := by decide +kernel
theorem dM_755 : decode code 755 = .ok (.iconst 2, 1) := by decide +kernel
theorem dM_756 : decode code 756 = .ok (.iadd, 1) := by decide +kernel
theorem dM_757 : decode code 757 = .ok (.iaload, 1) := by decide +kernel
theorem dM_758 : decode code 758 = .ok (.i2c, 1) := by decide +kernel
theorem dM_759 : decode code 759 = .ok (.invokevirtual 117, 3) := by decide +kernel
theorem dM_762 : decode code 762 = .ok (.istore 6, 2) := by decide +kernel
theorem dM_764 : decode code 764 = .ok (.aload_n 2, 1) := by decide +kernel
theorem dM_765 : decode code 765 = .ok (.invokevirtual 74, 3) := by decide +kernel
theorem dM_768 : decode code 768 = .ok (.iload 5, 2) := by decide +kernel
theorem dM_770 : decode code 770 = .ok (.if_icmp .eq 5, 3) := by decide +kernel
theorem dM_773 : decode code 773 = .ok (.iconst 0, 1) := by decide +kernel
theorem dM_774 : decode code 774 = .ok (.ireturn, 1) := by decide +kernel
theorem dM_775 : decode code 775 = .ok (.iload 5, 2) := by decide +kernel
theorem dM_777 : decode code 777 = .ok (.ifCond .ne 15, 3) := by decide +kernel
theorem dM_780 : decode code 780 = .ok (.aload_n 3, 1) := by decide +kernel
theorem dM_781 : decode code 781 = .ok (.iconst 0, 1) := by decide +kernel
theorem dM_782 : decode code 782 = .ok (.laload, 1) := by decide +kernel
theorem dM_783 : decode code 783 = .ok (.iload 6, 2) := by decide +kernel
theorem dM_785 : decode code 785 = .ok (.i2l, 1) := by decide +kernel
theorem dM_786 : decode code 786 = .ok (.lcmp, 1) := by decide +kernel
theorem dM_787 : decode code 787 = .ok (.ifCond .eq 5, 3) := by decide +kernel
theorem dM_790 : decode code 790 = .ok (.iconst 0, 1) := by decide +kernel
theorem dM_791 : decode code 791 = .ok (.ireturn, 1) := by decide +kernel
theorem dM_792 : decode code 792 = .ok (.goto 144, 3) := by decide +kernel
theorem dM_795 : decode code 795 = .ok (.aload_n 1, 1) := by decide +kernel
theorem dM_796 : decode code 796 = .ok (.aload_n 0, 1) := by decide +kernel
theorem dM_797 : decode code 797 = .ok (.iload 4, 2) := by decide +kernel
theorem dM_799 : decode code 799 = .ok (.iconst 1, 1) := by decide +kernel
theorem dM_800 : decode code 800 = .ok (.iadd, 1) := by decide +kernel
theorem dM_801 : decode code 801 = .ok (.iaload, 1) := by decide +kernel
theorem dM_802 : decode code 802 = .ok (.aload_n 3, 1) := by decide +kernel
theorem dM_803 : decode code 803 = .ok (.invokestatic 118, 3) := by decide +kernel
theorem dM_806 : decode code 806 = .ok (.istore 5, 2) := by decide +kernel
theorem dM_808 : decode code 808 = .ok (.aload_n 2, 1) := by decide +kernel
theorem dM_809 : decode code 809 = .ok (.aload_n 0, 1) := by decide +kernel
theorem dM_810 : decode code 810 = .ok (.iload 4, 2) := by decide +kernel
theorem dM_812 : decode code 812 = .ok (.iconst 1, 1) := by decide +kernel
theorem dM_813 : decode code 813 = .ok (.iadd, 1) := by decide +kernel
theorem dM_814 : decode code 814 = .ok (.iaload, 1) := by decide +kernel
theorem dM_815 : decode code 815 = .ok (.invokevirtual 120, 3) := by decide +kernel
theorem dM_818 : decode code 818 = .ok (.istore 6, 2) := by decide +kernel
theorem dM_820 : decode code 820 = .ok (.aload_n 2, 1) := by decide +kernel
theorem dM_821 : decode code 821 = .ok (.invokevirtual 74, 3) := by decide +kernel
theorem dM_824 : decode code 824 = .ok (.iload 5, 2) := by decide +kernel
theorem dM_826 : decode code 826 = .ok (.if_icmp .eq 5, 3) := by decide +kernel
theorem dM_829 : decode code 829 = .ok (.iconst 0, 1) := by decide +kernel
theorem dM_830 : decode code 830 = .ok (.ireturn, 1) := by decide +kernel
theorem dM_831 : decode code 831 = .ok (.iload 5, 2) := by decide +kernel
theorem dM_833 : decode code 833 = .ok (.ifCond .ne 15, 3) := by decide +kernel
theorem dM_836 : decode code 836 = .ok (.aload_n 3, 1) := by decide +kernel
theorem dM_837 : decode code 837 = .ok (.iconst 0, 1) := by decide +kernel
theorem dM_838 : decode code 838 = .ok (.laload, 1) := by decide +kernel
theorem dM_839 : decode code 839 = .ok (.iload 6, 2) := by decide +kernel
theorem dM_841 : decode code 841 = .ok (.i2l, 1) := by decide +kernel
theorem dM_842 : decode code 842 = .ok (.lcmp, 1) := by decide +kernel
theorem dM_843 : decode code 843 = .ok (.ifCond .eq 5, 3) := by decide +kernel
theorem dM_846 : decode code 846 = .ok (.iconst 0, 1) := by decide +kernel
theorem dM_847 : decode code 847 = .ok (.ireturn, 1) := by decide +kernel
theorem dM_848 : decode code 848 = .ok (.goto 88, 3) := by decide +kernel
theorem dM_851 : decode code 851 = .ok (.aload_n 1, 1) := by decide +kernel
theorem dM_852 : decode code 852 = .ok (.aload_n 0, 1) := by decide +kernel
theorem dM_853 : decode code 853 = .ok (.iload 4, 2) := by decide +kernel
theorem dM_855 : decode code 855 = .ok (.iconst 1, 1) := by decide +kernel
theorem dM_856 : decode code 856 = .ok (.iadd, 1) := by decide +kernel
theorem dM_857 : decode code 857 = .ok (.iaload, 1) := by decide +kernel
theorem dM_858 : decode code 858 = .ok (.ifCond .eq 7, 3) := by decide +kernel
theorem dM_861 : decode code 861 = .ok (.iconst 1, 1) := by decide +kernel
theorem dM_862 : decode code 862 = .ok (.goto 4, 3) := by decide +kernel
theorem dM_865 : decode code 865 = .ok (.iconst 0, 1) := by decide +kernel
theorem dM_866 : decode code 866 = .ok (.invokevirtual 121, 3) := by decide +kernel
theorem dM_869 : decode code 869 = .ok (.aload_n 2, 1) := by decide +kernel
theorem dM_870 : decode code 870 = .ok (.aload_n 0, 1) := by decide +kernel
theorem dM_871 : decode code 871 = .ok (.iload 4, 2) := by decide +kernel
theorem dM_873 : decode code 873 = .ok (.iconst 1, 1) := by decide +kernel
theorem dM_874 : decode code 874 = .ok (.iadd, 1) := by decide +kernel
theorem dM_875 : decode code 875 = .ok (.iaload, 1) := by decide +kernel
theorem dM_876 : decode code 876 = .ok (.ifCond .eq 7, 3) := by decide +kernel
theorem dM_879 : decode code 879 = .ok (.iconst 1, 1) := by decide +kernel
theorem dM_880 : decode code 880 = .ok (.goto 4, 3) := by decide +kernel
theorem dM_883 : decode code 883 = .ok (.iconst 0, 1) := by decide +kernel
theorem dM_884 : decode code 884 = .ok (.invokevirtual 125, 3) := by decide +kernel
theorem dM_887 : decode code 887 = .ok (.if_icmp .eq 49, 3) := by decide +kernel
theorem dM_890 : decode code 890 = .ok (.iconst 0, 1) := by decide +kernel
theorem dM_891 : decode code 891 = .ok (.ireturn, 1) := by decide +kernel
theorem dM_892 : decode code 892 = .ok (.aload_n 1, 1) := by decide +kernel
theorem dM_893 : decode code 893 = .ok (.aload_n 3, 1) := by decide +kernel
theorem dM_894 : decode code 894 = .ok (.invokestatic 126, 3) := by decide +kernel
theorem dM_897 : decode code 897 = .ok (.istore 5, 2) := by decide +kernel
theorem dM_899 : decode code 899 = .ok (.aload_n 2, 1) := by decide +kernel
theorem dM_900 : decode code 900 = .ok (.invokevirtual 128, 3) := by decide +kernel
theorem dM_903 : decode code 903 = .ok (.istore 6, 2) := by decide +kernel
theorem dM_905 : decode code 905 = .ok (.aload_n 2, 1) := by decide +kernel
theorem dM_906 : decode code 906 = .ok (.invokevirtual 74, 3) := by decide +kernel
theorem dM_909 : decode code 909 = .ok (.iload 5, 2) := by decide +kernel
theorem dM_911 : decode code 911 = .ok (.if_icmp .eq 5, 3) := by decide +kernel
theorem dM_914 : decode code 914 = .ok (.iconst 0, 1) := by decide +kernel
theorem dM_915 : decode code 915 = .ok (.ireturn, 1) := by decide +kernel
theorem dM_916 : decode code 916 = .ok (.iload 5, 2) := by decide +kernel
theorem dM_918 : decode code 918 = .ok (.ifCond .ne 15, 3) := by decide +kernel
theorem dM_921 : decode code 921 = .ok (.aload_n 3, 1) := by decide +kernel
theorem dM_922 : decode code 922 = .ok (.iconst 0, 1) := by decide +kernel
theorem dM_923 : decode code 923 = .ok (.laload, 1) := by decide +kernel
theorem dM_924 : decode code 924 = .ok (.iload 6, 2) := by decide +kernel
theorem dM_926 : decode code 926 = .ok (.i2l, 1) := by decide +kernel
theorem dM_927 : decode code 927 = .ok (.lcmp, 1) := by decide +kernel
theorem dM_928 : decode code 928 = .ok (.ifCond .eq 5, 3) := by decide +kernel
theorem dM_931 : decode code 931 = .ok (.iconst 0, 1) := by decide +kernel
theorem dM_932 : decode code 932 = .ok (.ireturn, 1) := by decide +kernel
theorem dM_933 : decode code 933 = .ok (.goto 3, 3) := by decide +kernel
theorem dM_936 : decode code 936 = .ok (.iinc 4 4, 3) := by decide +kernel
theorem dM_939 : decode code 939 = .ok (.goto (-916), 3) := by decide +kernel
theorem dM_942 : decode code 942 = .ok (.iconst 1, 1) := by decide +kernel
theorem dM_943 : decode code 943 = .ok (.ireturn, 1) := by decide +kernel
theorem lM_68 : Cond.methodLink "PackedImageLaw" 68 yL_create ∈ WA := wa 245 (by decide +kernel) rfl
theorem lM_73 : Cond.methodLink "PackedImageLaw" 73 yR_create ∈ WA := wa 886 (by decide +kernel) rfl
theorem lM_74 : Cond.methodLink "PackedImageLaw" 74 yR_thrown ∈ WA := wa 882 (by decide +kernel) rfl
theorem lM_77 : Cond.methodLink "PackedImageLaw" 77 yL_link ∈ WA := wa 364 (by decide +kernel) rfl
theorem lM_80 : Cond.methodLink "PackedImageLaw" 80 yR_link ∈ WA := wa 901 (by decide +kernel) rfl
theorem lM_81 : Cond.methodLink "PackedImageLaw" 81 yL_unlink ∈ WA := wa 371 (by decide +kernel) rfl
theorem lM_84 : Cond.methodLink "PackedImageLaw" 84 yR_unlink ∈ WA := wa 905 (by decide +kernel) rfl
theorem lM_85 : Cond.methodLink "PackedImageLaw" 85 yL_append ∈ WA := wa 383 (by decide +kernel) rfl
theorem lM_88 : Cond.methodLink "PackedImageLaw" 88 yR_append ∈ WA := wa 909 (by decide +kernel) rfl
theorem lM_89 : Cond.methodLink "PackedImageLaw" 89 yL_build ∈ WA := wa 398 (by decide +kernel) rfl
theorem lM_92 : Cond.methodLink "PackedImageLaw" 92 yR_build ∈ WA := wa 913 (by decide +kernel) rfl
theorem lM_93 : Cond.methodLink "PackedImageLaw" 93 yL_peek ∈ WA := wa 531 (by decide +kernel) rfl
theorem lM_95 : Cond.methodLink "PackedImageLaw" 95 yR_peek ∈ WA := wa 969 (by decide +kernel) rfl
theorem lM_96 : Cond.methodLink "PackedImageLaw" 96 yL_poke ∈ WA := wa 562 (by decide +kernel) rfl
theorem lM_99 : Cond.methodLink "PackedImageLaw" 99 yR_poke ∈ WA := wa 973 (by decide +kernel) rfl
theorem lM_100 : Cond.methodLink "PackedImageLaw" 100 yX_seal ∈ WA := wa 225 (by decide +kernel) rfl
theorem lM_103 : Cond.methodLink "PackedImageLaw" 103 yR_seal ∈ WA := wa 977 (by decide +kernel) rfl
theorem lM_104 : Cond.methodLink "PackedImageLaw" 104 yL_mount ∈ WA := wa 573 (by decide +kernel) rfl
theorem lM_107 : Cond.methodLink "PackedImageLaw" 107 yR_mount ∈ WA := wa 978 (by decide +kernel) rfl
theorem lM_108 : Cond.methodLink "PackedImageLaw" 108 yL_stat ∈ WA := wa 606 (by decide +kernel) rfl
theorem lM_110 : Cond.methodLink "PackedImageLaw" 110 yR_stat ∈ WA := wa 986 (by decide +kernel) rfl
theorem lM_111 : Cond.methodLink "PackedImageLaw" 111 yL_read ∈ WA := wa 674 (by decide +kernel) rfl
theorem lM_113 : Cond.methodLink "PackedImageLaw" 113 yR_read ∈ WA := wa 1022 (by decide +kernel) rfl
theorem lM_114 : Cond.methodLink "PackedImageLaw" 114 yL_find ∈ WA := wa 732 (by decide +kernel) rfl
theorem lM_117 : Cond.methodLink "PackedImageLaw" 117 yR_find ∈ WA := wa 1042 (by decide +kernel) rfl
theorem lM_118 : Cond.methodLink "PackedImageLaw" 118 yL_resolve ∈ WA := wa 744 (by decide +kernel) rfl
theorem lM_120 : Cond.methodLink "PackedImageLaw" 120 yR_resolve ∈ WA := wa 1050 (by decide +kernel) rfl
theorem lM_121 : Cond.methodLink "PackedImageLaw" 121 yX_cache ∈ WA := wa 241 (by decide +kernel) rfl
theorem lM_125 : Cond.methodLink "PackedImageLaw" 125 yR_cache ∈ WA := wa 1062 (by decide +kernel) rfl
theorem lM_126 : Cond.methodLink "PackedImageLaw" 126 yL_check ∈ WA := wa 770 (by decide +kernel) rfl
theorem lM_128 : Cond.methodLink "PackedImageLaw" 128 yR_check0 ∈ WA := wa 1066 (by decide +kernel) rfl
