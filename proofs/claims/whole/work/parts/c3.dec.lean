theorem d_law_0 : decode code 0 = .ok (.new 8, 3) := by decide +kernel
theorem d_law_3 : decode code 3 = .ok (.dup, 1) := by decide +kernel
theorem d_law_4 : decode code 4 = .ok (.aload_n 0, 1) := by decide +kernel
theorem d_law_5 : decode code 5 = .ok (.iconst 0, 1) := by decide +kernel
theorem d_law_6 : decode code 6 = .ok (.invokestatic 37, 3) := by decide +kernel
theorem d_law_9 : decode code 9 = .ok (.invokespecial 43, 3) := by decide +kernel
theorem d_law_12 : decode code 12 = .ok (.astore_n 1, 1) := by decide +kernel
theorem d_law_13 : decode code 13 = .ok (.new 46, 3) := by decide +kernel
theorem d_law_16 : decode code 16 = .ok (.dup, 1) := by decide +kernel
theorem d_law_17 : decode code 17 = .ok (.aload_n 0, 1) := by decide +kernel
theorem d_law_18 : decode code 18 = .ok (.iconst 0, 1) := by decide +kernel
theorem d_law_19 : decode code 19 = .ok (.invokestatic 37, 3) := by decide +kernel
theorem d_law_22 : decode code 22 = .ok (.invokespecial 48, 3) := by decide +kernel
theorem d_law_25 : decode code 25 = .ok (.astore_n 2, 1) := by decide +kernel
theorem d_law_26 : decode code 26 = .ok (.iconst 1, 1) := by decide +kernel
theorem d_law_27 : decode code 27 = .ok (.newarray .long, 2) := by decide +kernel
theorem d_law_29 : decode code 29 = .ok (.astore_n 3, 1) := by decide +kernel
theorem d_law_30 : decode code 30 = .ok (.iconst 1, 1) := by decide +kernel
theorem d_law_31 : decode code 31 = .ok (.istore 4, 2) := by decide +kernel
theorem d_law_33 : decode code 33 = .ok (.iload 4, 2) := by decide +kernel
theorem d_law_35 : decode code 35 = .ok (.aload_n 0, 1) := by decide +kernel
theorem d_law_36 : decode code 36 = .ok (.arraylength, 1) := by decide +kernel
theorem d_law_37 : decode code 37 = .ok (.iconst 4, 1) := by decide +kernel
theorem d_law_38 : decode code 38 = .ok (.isub, 1) := by decide +kernel
theorem d_law_39 : decode code 39 = .ok (.if_icmp .gt 668, 3) := by decide +kernel
theorem d_law_42 : decode code 42 = .ok (.aload_n 0, 1) := by decide +kernel
theorem d_law_43 : decode code 43 = .ok (.iload 4, 2) := by decide +kernel
theorem d_law_45 : decode code 45 = .ok (.iaload, 1) := by decide +kernel
theorem d_law_46 : decode code 46 = .ok (.bipush 15, 2) := by decide +kernel
theorem d_law_48 : decode code 48 = .ok (.iand, 1) := by decide +kernel
theorem d_law_49 : decode code 49 = .ok (.tableswitch 652 0 13 #[71, 140, 151, 207, 275, 331, 344, 357, 464, 477, 490, 534, 559, 584], 71) := by decide +kernel
theorem d_law_120 : decode code 120 = .ok (.aload_n 1, 1) := by decide +kernel
theorem d_law_121 : decode code 121 = .ok (.aload_n 0, 1) := by decide +kernel
theorem d_law_122 : decode code 122 = .ok (.iload 4, 2) := by decide +kernel
theorem d_law_124 : decode code 124 = .ok (.iconst 1, 1) := by decide +kernel
theorem d_law_125 : decode code 125 = .ok (.iadd, 1) := by decide +kernel
theorem d_law_126 : decode code 126 = .ok (.iaload, 1) := by decide +kernel
theorem d_law_127 : decode code 127 = .ok (.i2l, 1) := by decide +kernel
theorem d_law_128 : decode code 128 = .ok (.bipush 32, 2) := by decide +kernel
theorem d_law_130 : decode code 130 = .ok (.lshl, 1) := by decide +kernel
theorem d_law_131 : decode code 131 = .ok (.aload_n 0, 1) := by decide +kernel
theorem d_law_132 : decode code 132 = .ok (.iload 4, 2) := by decide +kernel
theorem d_law_134 : decode code 134 = .ok (.iconst 2, 1) := by decide +kernel
theorem d_law_135 : decode code 135 = .ok (.iadd, 1) := by decide +kernel
theorem d_law_136 : decode code 136 = .ok (.iaload, 1) := by decide +kernel
theorem d_law_137 : decode code 137 = .ok (.i2l, 1) := by decide +kernel
theorem d_law_138 : decode code 138 = .ok (.ldc2_w 49, 3) := by decide +kernel
theorem d_law_141 : decode code 141 = .ok (.land, 1) := by decide +kernel
theorem d_law_142 : decode code 142 = .ok (.lor, 1) := by decide +kernel
theorem d_law_143 : decode code 143 = .ok (.aload_n 0, 1) := by decide +kernel
theorem d_law_144 : decode code 144 = .ok (.iload 4, 2) := by decide +kernel
theorem d_law_146 : decode code 146 = .ok (.iconst 3, 1) := by decide +kernel
theorem d_law_147 : decode code 147 = .ok (.iadd, 1) := by decide +kernel
theorem d_law_148 : decode code 148 = .ok (.iaload, 1) := by decide +kernel
theorem d_law_149 : decode code 149 = .ok (.invokevirtual 51, 3) := by decide +kernel
theorem d_law_152 : decode code 152 = .ok (.aload_n 2, 1) := by decide +kernel
theorem d_law_153 : decode code 153 = .ok (.aload_n 0, 1) := by decide +kernel
theorem d_law_154 : decode code 154 = .ok (.iload 4, 2) := by decide +kernel
theorem d_law_156 : decode code 156 = .ok (.iconst 1, 1) := by decide +kernel
theorem d_law_157 : decode code 157 = .ok (.iadd, 1) := by decide +kernel
theorem d_law_158 : decode code 158 = .ok (.iaload, 1) := by decide +kernel
theorem d_law_159 : decode code 159 = .ok (.i2l, 1) := by decide +kernel
theorem d_law_160 : decode code 160 = .ok (.bipush 32, 2) := by decide +kernel
theorem d_law_162 : decode code 162 = .ok (.lshl, 1) := by decide +kernel
theorem d_law_163 : decode code 163 = .ok (.aload_n 0, 1) := by decide +kernel
theorem d_law_164 : decode code 164 = .ok (.iload 4, 2) := by decide +kernel
theorem d_law_166 : decode code 166 = .ok (.iconst 2, 1) := by decide +kernel
theorem d_law_167 : decode code 167 = .ok (.iadd, 1) := by decide +kernel
theorem d_law_168 : decode code 168 = .ok (.iaload, 1) := by decide +kernel
theorem d_law_169 : decode code 169 = .ok (.i2l, 1) := by decide +kernel
theorem d_law_170 : decode code 170 = .ok (.ldc2_w 49, 3) := by decide +kernel
theorem d_law_173 : decode code 173 = .ok (.land, 1) := by decide +kernel
theorem d_law_174 : decode code 174 = .ok (.lor, 1) := by decide +kernel
theorem d_law_175 : decode code 175 = .ok (.aload_n 0, 1) := by decide +kernel
theorem d_law_176 : decode code 176 = .ok (.iload 4, 2) := by decide +kernel
theorem d_law_178 : decode code 178 = .ok (.iconst 3, 1) := by decide +kernel
theorem d_law_179 : decode code 179 = .ok (.iadd, 1) := by decide +kernel
theorem d_law_180 : decode code 180 = .ok (.iaload, 1) := by decide +kernel
theorem d_law_181 : decode code 181 = .ok (.invokevirtual 54, 3) := by decide +kernel
theorem d_law_184 : decode code 184 = .ok (.if_icmp .eq 517, 3) := by decide +kernel
theorem d_law_187 : decode code 187 = .ok (.iconst 0, 1) := by decide +kernel
theorem d_law_188 : decode code 188 = .ok (.ireturn, 1) := by decide +kernel
theorem d_law_189 : decode code 189 = .ok (.aload_n 1, 1) := by decide +kernel
theorem d_law_190 : decode code 190 = .ok (.invokevirtual 55, 3) := by decide +kernel
theorem d_law_193 : decode code 193 = .ok (.aload_n 2, 1) := by decide +kernel
theorem d_law_194 : decode code 194 = .ok (.invokevirtual 58, 3) := by decide +kernel
theorem d_law_197 : decode code 197 = .ok (.goto 504, 3) := by decide +kernel
theorem d_law_200 : decode code 200 = .ok (.aload_n 1, 1) := by decide +kernel
theorem d_law_201 : decode code 201 = .ok (.aload_n 0, 1) := by decide +kernel
theorem d_law_202 : decode code 202 = .ok (.iload 4, 2) := by decide +kernel
theorem d_law_204 : decode code 204 = .ok (.iconst 1, 1) := by decide +kernel
theorem d_law_205 : decode code 205 = .ok (.iadd, 1) := by decide +kernel
theorem d_law_206 : decode code 206 = .ok (.iaload, 1) := by decide +kernel
theorem d_law_207 : decode code 207 = .ok (.aload_n 3, 1) := by decide +kernel
theorem d_law_208 : decode code 208 = .ok (.invokestatic 59, 3) := by decide +kernel
theorem d_law_211 : decode code 211 = .ok (.istore 5, 2) := by decide +kernel
theorem d_law_213 : decode code 213 = .ok (.aload_n 2, 1) := by decide +kernel
theorem d_law_214 : decode code 214 = .ok (.aload_n 0, 1) := by decide +kernel
theorem d_law_215 : decode code 215 = .ok (.iload 4, 2) := by decide +kernel
theorem d_law_217 : decode code 217 = .ok (.iconst 1, 1) := by decide +kernel
theorem d_law_218 : decode code 218 = .ok (.iadd, 1) := by decide +kernel
theorem d_law_219 : decode code 219 = .ok (.iaload, 1) := by decide +kernel
theorem d_law_220 : decode code 220 = .ok (.invokevirtual 62, 3) := by decide +kernel
theorem d_law_223 : decode code 223 = .ok (.istore 6, 2) := by decide +kernel
theorem d_law_225 : decode code 225 = .ok (.aload_n 2, 1) := by decide +kernel
theorem d_law_226 : decode code 226 = .ok (.invokevirtual 63, 3) := by decide +kernel
theorem d_law_229 : decode code 229 = .ok (.iload 5, 2) := by decide +kernel
theorem d_law_231 : decode code 231 = .ok (.if_icmp .eq 5, 3) := by decide +kernel
theorem d_law_234 : decode code 234 = .ok (.iconst 0, 1) := by decide +kernel
theorem d_law_235 : decode code 235 = .ok (.ireturn, 1) := by decide +kernel
theorem d_law_236 : decode code 236 = .ok (.iload 5, 2) := by decide +kernel
theorem d_law_238 : decode code 238 = .ok (.ifCond .ne 15, 3) := by decide +kernel
theorem d_law_241 : decode code 241 = .ok (.aload_n 3, 1) := by decide +kernel
theorem d_law_242 : decode code 242 = .ok (.iconst 0, 1) := by decide +kernel
theorem d_law_243 : decode code 243 = .ok (.laload, 1) := by decide +kernel
theorem d_law_244 : decode code 244 = .ok (.iload 6, 2) := by decide +kernel
theorem d_law_246 : decode code 246 = .ok (.i2l, 1) := by decide +kernel
theorem d_law_247 : decode code 247 = .ok (.lcmp, 1) := by decide +kernel
theorem d_law_248 : decode code 248 = .ok (.ifCond .eq 5, 3) := by decide +kernel
theorem d_law_251 : decode code 251 = .ok (.iconst 0, 1) := by decide +kernel
theorem d_law_252 : decode code 252 = .ok (.ireturn, 1) := by decide +kernel
theorem d_law_253 : decode code 253 = .ok (.goto 448, 3) := by decide +kernel
theorem d_law_256 : decode code 256 = .ok (.aload_n 1, 1) := by decide +kernel
theorem d_law_257 : decode code 257 = .ok (.aload_n 0, 1) := by decide +kernel
theorem d_law_258 : decode code 258 = .ok (.iload 4, 2) := by decide +kernel
theorem d_law_260 : decode code 260 = .ok (.iconst 1, 1) := by decide +kernel
theorem d_law_261 : decode code 261 = .ok (.iadd, 1) := by decide +kernel
theorem d_law_262 : decode code 262 = .ok (.iaload, 1) := by decide +kernel
theorem d_law_263 : decode code 263 = .ok (.aload_n 0, 1) := by decide +kernel
theorem d_law_264 : decode code 264 = .ok (.iload 4, 2) := by decide +kernel
theorem d_law_266 : decode code 266 = .ok (.iconst 2, 1) := by decide +kernel
theorem d_law_267 : decode code 267 = .ok (.iadd, 1) := by decide +kernel
theorem d_law_268 : decode code 268 = .ok (.iaload, 1) := by decide +kernel
theorem d_law_269 : decode code 269 = .ok (.aload_n 3, 1) := by decide +kernel
theorem d_law_270 : decode code 270 = .ok (.invokestatic 66, 3) := by decide +kernel
theorem d_law_273 : decode code 273 = .ok (.istore 5, 2) := by decide +kernel
theorem d_law_275 : decode code 275 = .ok (.aload_n 2, 1) := by decide +kernel
theorem d_law_276 : decode code 276 = .ok (.aload_n 0, 1) := by decide +kernel
theorem d_law_277 : decode code 277 = .ok (.iload 4, 2) := by decide +kernel
theorem d_law_279 : decode code 279 = .ok (.iconst 1, 1) := by decide +kernel
theorem d_law_280 : decode code 280 = .ok (.iadd, 1) := by decide +kernel
theorem d_law_281 : decode code 281 = .ok (.iaload, 1) := by decide +kernel
theorem d_law_282 : decode code 282 = .ok (.aload_n 0, 1) := by decide +kernel
theorem d_law_283 : decode code 283 = .ok (.iload 4, 2) := by decide +kernel
theorem d_law_285 : decode code 285 = .ok (.iconst 2, 1) := by decide +kernel
theorem d_law_286 : decode code 286 = .ok (.iadd, 1) := by decide +kernel
theorem d_law_287 : decode code 287 = .ok (.iaload, 1) := by decide +kernel
theorem d_law_288 : decode code 288 = .ok (.invokevirtual 69, 3) := by decide +kernel
theorem d_law_291 : decode code 291 = .ok (.istore 6, 2) := by decide +kernel
theorem d_law_293 : decode code 293 = .ok (.aload_n 2, 1) := by decide +kernel
theorem d_law_294 : decode code 294 = .ok (.invokevirtual 63, 3) := by decide +kernel
theorem d_law_297 : decode code 297 = .ok (.iload 5, 2) := by decide +kernel
theorem d_law_299 : decode code 299 = .ok (.if_icmp .eq 5, 3) := by decide +kernel
theorem d_law_302 : decode code 302 = .ok (.iconst 0, 1) := by decide +kernel
theorem d_law_303 : decode code 303 = .ok (.ireturn, 1) := by decide +kernel
theorem d_law_304 : decode code 304 = .ok (.iload 5, 2) := by decide +kernel
theorem d_law_306 : decode code 306 = .ok (.ifCond .ne 15, 3) := by decide +kernel
theorem d_law_309 : decode code 309 = .ok (.aload_n 3, 1) := by decide +kernel
theorem d_law_310 : decode code 310 = .ok (.iconst 0, 1) := by decide +kernel
theorem d_law_311 : decode code 311 = .ok (.laload, 1) := by decide +kernel
theorem d_law_312 : decode code 312 = .ok (.iload 6, 2) := by decide +kernel
theorem d_law_314 : decode code 314 = .ok (.i2l, 1) := by decide +kernel
theorem d_law_315 : decode code 315 = .ok (.lcmp, 1) := by decide +kernel
theorem d_law_316 : decode code 316 = .ok (.ifCond .eq 5, 3) := by decide +kernel
theorem d_law_319 : decode code 319 = .ok (.iconst 0, 1) := by decide +kernel
theorem d_law_320 : decode code 320 = .ok (.ireturn, 1) := by decide +kernel
theorem d_law_321 : decode code 321 = .ok (.goto 380, 3) := by decide +kernel
theorem d_law_324 : decode code 324 = .ok (.aload_n 1, 1) := by decide +kernel
theorem d_law_325 : decode code 325 = .ok (.aload_n 0, 1) := by decide +kernel
theorem d_law_326 : decode code 326 = .ok (.iload 4, 2) := by decide +kernel
theorem d_law_328 : decode code 328 = .ok (.iconst 1, 1) := by decide +kernel
theorem d_law_329 : decode code 329 = .ok (.iadd, 1) := by decide +kernel
theorem d_law_330 : decode code 330 = .ok (.iaload, 1) := by decide +kernel
theorem d_law_331 : decode code 331 = .ok (.aload_n 3, 1) := by decide +kernel
theorem d_law_332 : decode code 332 = .ok (.invokestatic 70, 3) := by decide +kernel
theorem d_law_335 : decode code 335 = .ok (.istore 5, 2) := by decide +kernel
theorem d_law_337 : decode code 337 = .ok (.aload_n 2, 1) := by decide +kernel
theorem d_law_338 : decode code 338 = .ok (.aload_n 0, 1) := by decide +kernel
theorem d_law_339 : decode code 339 = .ok (.iload 4, 2) := by decide +kernel
theorem d_law_341 : decode code 341 = .ok (.iconst 1, 1) := by decide +kernel
theorem d_law_342 : decode code 342 = .ok (.iadd, 1) := by decide +kernel
theorem d_law_343 : decode code 343 = .ok (.iaload, 1) := by decide +kernel
theorem d_law_344 : decode code 344 = .ok (.invokevirtual 72, 3) := by decide +kernel
theorem d_law_347 : decode code 347 = .ok (.istore 6, 2) := by decide +kernel
theorem d_law_349 : decode code 349 = .ok (.aload_n 2, 1) := by decide +kernel
theorem d_law_350 : decode code 350 = .ok (.invokevirtual 63, 3) := by decide +kernel
theorem d_law_353 : decode code 353 = .ok (.iload 5, 2) := by decide +kernel
theorem d_law_355 : decode code 355 = .ok (.if_icmp .eq 5, 3) := by decide +kernel
theorem d_law_358 : decode code 358 = .ok (.iconst 0, 1) := by decide +kernel
theorem d_law_359 : decode code 359 = .ok (.ireturn, 1) := by decide +kernel
theorem d_law_360 : decode code 360 = .ok (.iload 5, 2) := by decide +kernel
theorem d_law_362 : decode code 362 = .ok (.ifCond .ne 15, 3) := by decide +kernel
theorem d_law_365 : decode code 365 = .ok (.aload_n 3, 1) := by decide +kernel
theorem d_law_366 : decode code 366 = .ok (.iconst 0, 1) := by decide +kernel
theorem d_law_367 : decode code 367 = .ok (.laload, 1) := by decide +kernel
theorem d_law_368 : decode code 368 = .ok (.iload 6, 2) := by decide +kernel
theorem d_law_370 : decode code 370 = .ok (.i2l, 1) := by decide +kernel
theorem d_law_371 : decode code 371 = .ok (.lcmp, 1) := by decide +kernel
theorem d_law_372 : decode code 372 = .ok (.ifCond .eq 5, 3) := by decide +kernel
theorem d_law_375 : decode code 375 = .ok (.iconst 0, 1) := by decide +kernel
theorem d_law_376 : decode code 376 = .ok (.ireturn, 1) := by decide +kernel
theorem d_law_377 : decode code 377 = .ok (.goto 324, 3) := by decide +kernel
theorem d_law_380 : decode code 380 = .ok (.aload_n 1, 1) := by decide +kernel
theorem d_law_381 : decode code 381 = .ok (.invokevirtual 73, 3) := by decide +kernel
theorem d_law_384 : decode code 384 = .ok (.aload_n 2, 1) := by decide +kernel
theorem d_law_385 : decode code 385 = .ok (.invokevirtual 77, 3) := by decide +kernel
theorem d_law_388 : decode code 388 = .ok (.if_icmp .eq 313, 3) := by decide +kernel
theorem d_law_391 : decode code 391 = .ok (.iconst 0, 1) := by decide +kernel
theorem d_law_392 : decode code 392 = .ok (.ireturn, 1) := by decide +kernel
theorem d_law_393 : decode code 393 = .ok (.aload_n 1, 1) := by decide +kernel
theorem d_law_394 : decode code 394 = .ok (.invokevirtual 78, 3) := by decide +kernel
theorem d_law_397 : decode code 397 = .ok (.aload_n 2, 1) := by decide +kernel
theorem d_law_398 : decode code 398 = .ok (.invokevirtual 81, 3) := by decide +kernel
theorem d_law_401 : decode code 401 = .ok (.if_icmp .eq 300, 3) := by decide +kernel
theorem d_law_404 : decode code 404 = .ok (.iconst 0, 1) := by decide +kernel
theorem d_law_405 : decode code 405 = .ok (.ireturn, 1) := by decide +kernel
theorem d_law_406 : decode code 406 = .ok (.aload_n 1, 1) := by decide +kernel
theorem d_law_407 : decode code 407 = .ok (.aload_n 0, 1) := by decide +kernel
theorem d_law_408 : decode code 408 = .ok (.iload 4, 2) := by decide +kernel
theorem d_law_410 : decode code 410 = .ok (.iconst 1, 1) := by decide +kernel
theorem d_law_411 : decode code 411 = .ok (.iadd, 1) := by decide +kernel
theorem d_law_412 : decode code 412 = .ok (.iaload, 1) := by decide +kernel
theorem d_law_413 : decode code 413 = .ok (.i2l, 1) := by decide +kernel
theorem d_law_414 : decode code 414 = .ok (.bipush 32, 2) := by decide +kernel
theorem d_law_416 : decode code 416 = .ok (.lshl, 1) := by decide +kernel
theorem d_law_417 : decode code 417 = .ok (.aload_n 0, 1) := by decide +kernel
theorem d_law_418 : decode code 418 = .ok (.iload 4, 2) := by decide +kernel
theorem d_law_420 : decode code 420 = .ok (.iconst 2, 1) := by decide +kernel
theorem d_law_421 : decode code 421 = .ok (.iadd, 1) := by decide +kernel
theorem d_law_422 : decode code 422 = .ok (.iaload, 1) := by decide +kernel
theorem d_law_423 : decode code 423 = .ok (.i2l, 1) := by decide +kernel
theorem d_law_424 : decode code 424 = .ok (.ldc2_w 49, 3) := by decide +kernel
theorem d_law_427 : decode code 427 = .ok (.land, 1) := by decide +kernel
theorem d_law_428 : decode code 428 = .ok (.lor, 1) := by decide +kernel
theorem d_law_429 : decode code 429 = .ok (.aload_n 0, 1) := by decide +kernel
theorem d_law_430 : decode code 430 = .ok (.iload 4, 2) := by decide +kernel
theorem d_law_432 : decode code 432 = .ok (.iconst 3, 1) := by decide +kernel
theorem d_law_433 : decode code 433 = .ok (.iadd, 1) := by decide +kernel
theorem d_law_434 : decode code 434 = .ok (.iaload, 1) := by decide +kernel
theorem d_law_435 : decode code 435 = .ok (.aload_n 3, 1) := by decide +kernel
theorem d_law_436 : decode code 436 = .ok (.invokestatic 82, 3) := by decide +kernel
theorem d_law_439 : decode code 439 = .ok (.istore 5, 2) := by decide +kernel
theorem d_law_441 : decode code 441 = .ok (.aload_n 2, 1) := by decide +kernel
theorem d_law_442 : decode code 442 = .ok (.aload_n 0, 1) := by decide +kernel
theorem d_law_443 : decode code 443 = .ok (.iload 4, 2) := by decide +kernel
theorem d_law_445 : decode code 445 = .ok (.iconst 1, 1) := by decide +kernel
theorem d_law_446 : decode code 446 = .ok (.iadd, 1) := by decide +kernel
theorem d_law_447 : decode code 447 = .ok (.iaload, 1) := by decide +kernel
theorem d_law_448 : decode code 448 = .ok (.i2l, 1) := by decide +kernel
theorem d_law_449 : decode code 449 = .ok (.bipush 32, 2) := by decide +kernel
theorem d_law_451 : decode code 451 = .ok (.lshl, 1) := by decide +kernel
theorem d_law_452 : decode code 452 = .ok (.aload_n 0, 1) := by decide +kernel
theorem d_law_453 : decode code 453 = .ok (.iload 4, 2) := by decide +kernel
theorem d_law_455 : decode code 455 = .ok (.iconst 2, 1) := by decide +kernel
theorem d_law_456 : decode code 456 = .ok (.iadd, 1) := by decide +kernel
theorem d_law_457 : decode code 457 = .ok (.iaload, 1) := by decide +kernel
theorem d_law_458 : decode code 458 = .ok (.i2l, 1) := by decide +kernel
theorem d_law_459 : decode code 459 = .ok (.ldc2_w 49, 3) := by decide +kernel
theorem d_law_462 : decode code 462 = .ok (.land, 1) := by decide +kernel
theorem d_law_463 : decode code 463 = .ok (.lor, 1) := by decide +kernel
theorem d_law_464 : decode code 464 = .ok (.aload_n 0, 1) := by decide +kernel
theorem d_law_465 : decode code 465 = .ok (.iload 4, 2) := by decide +kernel
theorem d_law_467 : decode code 467 = .ok (.iconst 3, 1) := by decide +kernel
theorem d_law_468 : decode code 468 = .ok (.iadd, 1) := by decide +kernel
theorem d_law_469 : decode code 469 = .ok (.iaload, 1) := by decide +kernel
theorem d_law_470 : decode code 470 = .ok (.invokevirtual 85, 3) := by decide +kernel
theorem d_law_473 : decode code 473 = .ok (.istore 6, 2) := by decide +kernel
theorem d_law_475 : decode code 475 = .ok (.aload_n 2, 1) := by decide +kernel
theorem d_law_476 : decode code 476 = .ok (.invokevirtual 63, 3) := by decide +kernel
theorem d_law_479 : decode code 479 = .ok (.iload 5, 2) := by decide +kernel
theorem d_law_481 : decode code 481 = .ok (.if_icmp .eq 5, 3) := by decide +kernel
theorem d_law_484 : decode code 484 = .ok (.iconst 0, 1) := by decide +kernel
theorem d_law_485 : decode code 485 = .ok (.ireturn, 1) := by decide +kernel
theorem d_law_486 : decode code 486 = .ok (.iload 5, 2) := by decide +kernel
theorem d_law_488 : decode code 488 = .ok (.ifCond .ne 22, 3) := by decide +kernel
theorem d_law_491 : decode code 491 = .ok (.aload_n 3, 1) := by decide +kernel
theorem d_law_492 : decode code 492 = .ok (.iconst 0, 1) := by decide +kernel
theorem d_law_493 : decode code 493 = .ok (.laload, 1) := by decide +kernel
theorem d_law_494 : decode code 494 = .ok (.iload 6, 2) := by decide +kernel
theorem d_law_496 : decode code 496 = .ok (.ifCond .eq 7, 3) := by decide +kernel
theorem d_law_499 : decode code 499 = .ok (.lconst 1, 1) := by decide +kernel
theorem d_law_500 : decode code 500 = .ok (.goto 4, 3) := by decide +kernel
theorem d_law_503 : decode code 503 = .ok (.lconst 0, 1) := by decide +kernel
theorem d_law_504 : decode code 504 = .ok (.lcmp, 1) := by decide +kernel
theorem d_law_505 : decode code 505 = .ok (.ifCond .eq 5, 3) := by decide +kernel
theorem d_law_508 : decode code 508 = .ok (.iconst 0, 1) := by decide +kernel
theorem d_law_509 : decode code 509 = .ok (.ireturn, 1) := by decide +kernel
theorem d_law_510 : decode code 510 = .ok (.goto 191, 3) := by decide +kernel
theorem d_law_513 : decode code 513 = .ok (.aload_n 1, 1) := by decide +kernel
theorem d_law_514 : decode code 514 = .ok (.invokevirtual 86, 3) := by decide +kernel
theorem d_law_517 : decode code 517 = .ok (.aload_n 2, 1) := by decide +kernel
theorem d_law_518 : decode code 518 = .ok (.invokevirtual 89, 3) := by decide +kernel
theorem d_law_521 : decode code 521 = .ok (.if_icmp .eq 180, 3) := by decide +kernel
theorem d_law_524 : decode code 524 = .ok (.iconst 0, 1) := by decide +kernel
theorem d_law_525 : decode code 525 = .ok (.ireturn, 1) := by decide +kernel
theorem d_law_526 : decode code 526 = .ok (.aload_n 1, 1) := by decide +kernel
theorem d_law_527 : decode code 527 = .ok (.invokevirtual 90, 3) := by decide +kernel
theorem d_law_530 : decode code 530 = .ok (.aload_n 2, 1) := by decide +kernel
theorem d_law_531 : decode code 531 = .ok (.invokevirtual 93, 3) := by decide +kernel
theorem d_law_534 : decode code 534 = .ok (.if_icmp .eq 167, 3) := by decide +kernel
theorem d_law_537 : decode code 537 = .ok (.iconst 0, 1) := by decide +kernel
theorem d_law_538 : decode code 538 = .ok (.ireturn, 1) := by decide +kernel
theorem d_law_539 : decode code 539 = .ok (.aload_n 1, 1) := by decide +kernel
theorem d_law_540 : decode code 540 = .ok (.aload_n 3, 1) := by decide +kernel
theorem d_law_541 : decode code 541 = .ok (.invokestatic 94, 3) := by decide +kernel
theorem d_law_544 : decode code 544 = .ok (.istore 5, 2) := by decide +kernel
theorem d_law_546 : decode code 546 = .ok (.aload_n 2, 1) := by decide +kernel
theorem d_law_547 : decode code 547 = .ok (.invokevirtual 97, 3) := by decide +kernel
theorem d_law_550 : decode code 550 = .ok (.istore 6, 2) := by decide +kernel
theorem d_law_552 : decode code 552 = .ok (.aload_n 2, 1) := by decide +kernel
theorem d_law_553 : decode code 553 = .ok (.invokevirtual 63, 3) := by decide +kernel
theorem d_law_556 : decode code 556 = .ok (.iload 5, 2) := by decide +kernel
theorem d_law_558 : decode code 558 = .ok (.if_icmp .eq 5, 3) := by decide +kernel
theorem d_law_561 : decode code 561 = .ok (.iconst 0, 1) := by decide +kernel
theorem d_law_562 : decode code 562 = .ok (.ireturn, 1) := by decide +kernel
theorem d_law_563 : decode code 563 = .ok (.iload 5, 2) := by decide +kernel
theorem d_law_565 : decode code 565 = .ok (.ifCond .ne 15, 3) := by decide +kernel
theorem d_law_568 : decode code 568 = .ok (.aload_n 3, 1) := by decide +kernel
theorem d_law_569 : decode code 569 = .ok (.iconst 0, 1) := by decide +kernel
theorem d_law_570 : decode code 570 = .ok (.laload, 1) := by decide +kernel
theorem d_law_571 : decode code 571 = .ok (.iload 6, 2) := by decide +kernel
theorem d_law_573 : decode code 573 = .ok (.i2l, 1) := by decide +kernel
theorem d_law_574 : decode code 574 = .ok (.lcmp, 1) := by decide +kernel
theorem d_law_575 : decode code 575 = .ok (.ifCond .eq 5, 3) := by decide +kernel
theorem d_law_578 : decode code 578 = .ok (.iconst 0, 1) := by decide +kernel
theorem d_law_579 : decode code 579 = .ok (.ireturn, 1) := by decide +kernel
theorem d_law_580 : decode code 580 = .ok (.goto 121, 3) := by decide +kernel
theorem d_law_583 : decode code 583 = .ok (.aload_n 1, 1) := by decide +kernel
theorem d_law_584 : decode code 584 = .ok (.aload_n 0, 1) := by decide +kernel
theorem d_law_585 : decode code 585 = .ok (.iload 4, 2) := by decide +kernel
theorem d_law_587 : decode code 587 = .ok (.iconst 1, 1) := by decide +kernel
theorem d_law_588 : decode code 588 = .ok (.iadd, 1) := by decide +kernel
theorem d_law_589 : decode code 589 = .ok (.iaload, 1) := by decide +kernel
theorem d_law_590 : decode code 590 = .ok (.invokevirtual 98, 3) := by decide +kernel
theorem d_law_593 : decode code 593 = .ok (.aload_n 2, 1) := by decide +kernel
theorem d_law_594 : decode code 594 = .ok (.aload_n 0, 1) := by decide +kernel
theorem d_law_595 : decode code 595 = .ok (.iload 4, 2) := by decide +kernel
theorem d_law_597 : decode code 597 = .ok (.iconst 1, 1) := by decide +kernel
theorem d_law_598 : decode code 598 = .ok (.iadd, 1) := by decide +kernel
theorem d_law_599 : decode code 599 = .ok (.iaload, 1) := by decide +kernel
theorem d_law_600 : decode code 600 = .ok (.invokevirtual 101, 3) := by decide +kernel
theorem d_law_603 : decode code 603 = .ok (.if_icmp .eq 98, 3) := by decide +kernel
theorem d_law_606 : decode code 606 = .ok (.iconst 0, 1) := by decide +kernel
theorem d_law_607 : decode code 607 = .ok (.ireturn, 1) := by decide +kernel
theorem d_law_608 : decode code 608 = .ok (.aload_n 1, 1) := by decide +kernel
theorem d_law_609 : decode code 609 = .ok (.aload_n 0, 1) := by decide +kernel
theorem d_law_610 : decode code 610 = .ok (.iload 4, 2) := by decide +kernel
theorem d_law_612 : decode code 612 = .ok (.iconst 1, 1) := by decide +kernel
theorem d_law_613 : decode code 613 = .ok (.iadd, 1) := by decide +kernel
theorem d_law_614 : decode code 614 = .ok (.iaload, 1) := by decide +kernel
theorem d_law_615 : decode code 615 = .ok (.invokevirtual 102, 3) := by decide +kernel
theorem d_law_618 : decode code 618 = .ok (.aload_n 2, 1) := by decide +kernel
theorem d_law_619 : decode code 619 = .ok (.aload_n 0, 1) := by decide +kernel
theorem d_law_620 : decode code 620 = .ok (.iload 4, 2) := by decide +kernel
theorem d_law_622 : decode code 622 = .ok (.iconst 1, 1) := by decide +kernel
theorem d_law_623 : decode code 623 = .ok (.iadd, 1) := by decide +kernel
theorem d_law_624 : decode code 624 = .ok (.iaload, 1) := by decide +kernel
theorem d_law_625 : decode code 625 = .ok (.invokevirtual 105, 3) := by decide +kernel
theorem d_law_628 : decode code 628 = .ok (.if_icmp .eq 73, 3) := by decide +kernel
theorem d_law_631 : decode code 631 = .ok (.iconst 0, 1) := by decide +kernel
theorem d_law_632 : decode code 632 = .ok (.ireturn, 1) := by decide +kernel
theorem d_law_633 : decode code 633 = .ok (.aload_n 1, 1) := by decide +kernel
theorem d_law_634 : decode code 634 = .ok (.aload_n 0, 1) := by decide +kernel
theorem d_law_635 : decode code 635 = .ok (.iload 4, 2) := by decide +kernel
theorem d_law_637 : decode code 637 = .ok (.iconst 1, 1) := by decide +kernel
theorem d_law_638 : decode code 638 = .ok (.iadd, 1) := by decide +kernel
theorem d_law_639 : decode code 639 = .ok (.iaload, 1) := by decide +kernel
theorem d_law_640 : decode code 640 = .ok (.aload_n 0, 1) := by decide +kernel
theorem d_law_641 : decode code 641 = .ok (.iload 4, 2) := by decide +kernel
theorem d_law_643 : decode code 643 = .ok (.iconst 2, 1) := by decide +kernel
theorem d_law_644 : decode code 644 = .ok (.iadd, 1) := by decide +kernel
theorem d_law_645 : decode code 645 = .ok (.iaload, 1) := by decide +kernel
theorem d_law_646 : decode code 646 = .ok (.aload_n 3, 1) := by decide +kernel
theorem d_law_647 : decode code 647 = .ok (.invokestatic 106, 3) := by decide +kernel
theorem d_law_650 : decode code 650 = .ok (.istore 5, 2) := by decide +kernel
theorem d_law_652 : decode code 652 = .ok (.aload_n 2, 1) := by decide +kernel
theorem d_law_653 : decode code 653 = .ok (.aload_n 0, 1) := by decide +kernel
theorem d_law_654 : decode code 654 = .ok (.iload 4, 2) := by decide +kernel
theorem d_law_656 : decode code 656 = .ok (.iconst 1, 1) := by decide +kernel
theorem d_law_657 : decode code 657 = .ok (.iadd, 1) := by decide +kernel
theorem d_law_658 : decode code 658 = .ok (.iaload, 1) := by decide +kernel
theorem d_law_659 : decode code 659 = .ok (.aload_n 0, 1) := by decide +kernel
theorem d_law_660 : decode code 660 = .ok (.iload 4, 2) := by decide +kernel
theorem d_law_662 : decode code 662 = .ok (.iconst 2, 1) := by decide +kernel
theorem d_law_663 : decode code 663 = .ok (.iadd, 1) := by decide +kernel
theorem d_law_664 : decode code 664 = .ok (.iaload, 1) := by decide +kernel
theorem d_law_665 : decode code 665 = .ok (.invokevirtual 108, 3) := by decide +kernel
theorem d_law_668 : decode code 668 = .ok (.istore 6, 2) := by decide +kernel
theorem d_law_670 : decode code 670 = .ok (.aload_n 2, 1) := by decide +kernel
theorem d_law_671 : decode code 671 = .ok (.invokevirtual 63, 3) := by decide +kernel
theorem d_law_674 : decode code 674 = .ok (.iload 5, 2) := by decide +kernel
theorem d_law_676 : decode code 676 = .ok (.if_icmp .eq 5, 3) := by decide +kernel
theorem d_law_679 : decode code 679 = .ok (.iconst 0, 1) := by decide +kernel
theorem d_law_680 : decode code 680 = .ok (.ireturn, 1) := by decide +kernel
theorem d_law_681 : decode code 681 = .ok (.iload 5, 2) := by decide +kernel
theorem d_law_683 : decode code 683 = .ok (.ifCond .ne 15, 3) := by decide +kernel
theorem d_law_686 : decode code 686 = .ok (.aload_n 3, 1) := by decide +kernel
theorem d_law_687 : decode code 687 = .ok (.iconst 0, 1) := by decide +kernel
theorem d_law_688 : decode code 688 = .ok (.laload, 1) := by decide +kernel
theorem d_law_689 : decode code 689 = .ok (.iload 6, 2) := by decide +kernel
theorem d_law_691 : decode code 691 = .ok (.i2l, 1) := by decide +kernel
theorem d_law_692 : decode code 692 = .ok (.lcmp, 1) := by decide +kernel
theorem d_law_693 : decode code 693 = .ok (.ifCond .eq 5, 3) := by decide +kernel
theorem d_law_696 : decode code 696 = .ok (.iconst 0, 1) := by decide +kernel
theorem d_law_697 : decode code 697 = .ok (.ireturn, 1) := by decide +kernel
theorem d_law_698 : decode code 698 = .ok (.goto 3, 3) := by decide +kernel
theorem d_law_701 : decode code 701 = .ok (.iinc 4 4, 3) := by decide +kernel
theorem d_law_704 : decode code 704 = .ok (.goto (-671), 3) := by decide +kernel
theorem d_law_707 : decode code 707 = .ok (.iconst 1, 1) := by decide +kernel
theorem d_law_708 : decode code 708 = .ok (.ireturn, 1) := by decide +kernel
