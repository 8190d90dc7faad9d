/-! the law: its rows -/
def m_La_law : rx_T := (x, code, 8, ret, [])
theorem d_La_law_0 : decode code 0 = .ok (.new 8, 3) := by decide +kernel
theorem d_La_law_3 : decode code 3 = .ok (.dup, 1) := by decide +kernel
theorem d_La_law_4 : decode code 4 = .ok (.aload_n 0, 1) := by decide +kernel
theorem d_La_law_5 : decode code 5 = .ok (.iconst 0, 1) := by decide +kernel
theorem d_La_law_6 : decode code 6 = .ok (.invokestatic 59, 3) := by decide +kernel
theorem d_La_law_9 : decode code 9 = .ok (.invokespecial 65, 3) := by decide +kernel
theorem d_La_law_12 : decode code 12 = .ok (.astore_n 1, 1) := by decide +kernel
theorem d_La_law_13 : decode code 13 = .ok (.new 68, 3) := by decide +kernel
theorem d_La_law_16 : decode code 16 = .ok (.dup, 1) := by decide +kernel
theorem d_La_law_17 : decode code 17 = .ok (.aload_n 0, 1) := by decide +kernel
theorem d_La_law_18 : decode code 18 = .ok (.iconst 0, 1) := by decide +kernel
theorem d_La_law_19 : decode code 19 = .ok (.invokestatic 59, 3) := by decide +kernel
theorem d_La_law_22 : decode code 22 = .ok (.invokespecial 70, 3) := by decide +kernel
theorem d_La_law_25 : decode code 25 = .ok (.astore_n 2, 1) := by decide +kernel
theorem d_La_law_26 : decode code 26 = .ok (.iconst 1, 1) := by decide +kernel
theorem d_La_law_27 : decode code 27 = .ok (.newarray .long, 2) := by decide +kernel
theorem d_La_law_29 : decode code 29 = .ok (.astore_n 3, 1) := by decide +kernel
theorem d_La_law_30 : decode code 30 = .ok (.iconst 1, 1) := by decide +kernel
theorem d_La_law_31 : decode code 31 = .ok (.istore 4, 2) := by decide +kernel
theorem d_La_law_33 : decode code 33 = .ok (.iload 4, 2) := by decide +kernel
theorem d_La_law_35 : decode code 35 = .ok (.aload_n 0, 1) := by decide +kernel
theorem d_La_law_36 : decode code 36 = .ok (.arraylength, 1) := by decide +kernel
theorem d_La_law_37 : decode code 37 = .ok (.bipush 7, 2) := by decide +kernel
theorem d_La_law_39 : decode code 39 = .ok (.isub, 1) := by decide +kernel
theorem d_La_law_40 : decode code 40 = .ok (.if_icmp .gt 1028, 3) := by decide +kernel
theorem d_La_law_43 : decode code 43 = .ok (.aload_n 0, 1) := by decide +kernel
theorem d_La_law_44 : decode code 44 = .ok (.iload 4, 2) := by decide +kernel
theorem d_La_law_46 : decode code 46 = .ok (.iaload, 1) := by decide +kernel
theorem d_La_law_47 : decode code 47 = .ok (.bipush 15, 2) := by decide +kernel
theorem d_La_law_49 : decode code 49 = .ok (.iand, 1) := by decide +kernel
theorem d_La_law_50 : decode code 50 = .ok (.tableswitch 1012 0 14 #[74, 134, 221, 258, 392, 460, 473, 486, 542, 598, 666, 721, 809, 865, 944], 74) := by decide +kernel
theorem d_La_law_124 : decode code 124 = .ok (.aload_n 1, 1) := by decide +kernel
theorem d_La_law_125 : decode code 125 = .ok (.aload_n 0, 1) := by decide +kernel
theorem d_La_law_126 : decode code 126 = .ok (.iload 4, 2) := by decide +kernel
theorem d_La_law_128 : decode code 128 = .ok (.iconst 1, 1) := by decide +kernel
theorem d_La_law_129 : decode code 129 = .ok (.iadd, 1) := by decide +kernel
theorem d_La_law_130 : decode code 130 = .ok (.iaload, 1) := by decide +kernel
theorem d_La_law_131 : decode code 131 = .ok (.aload_n 0, 1) := by decide +kernel
theorem d_La_law_132 : decode code 132 = .ok (.iload 4, 2) := by decide +kernel
theorem d_La_law_134 : decode code 134 = .ok (.iconst 2, 1) := by decide +kernel
theorem d_La_law_135 : decode code 135 = .ok (.iadd, 1) := by decide +kernel
theorem d_La_law_136 : decode code 136 = .ok (.iaload, 1) := by decide +kernel
theorem d_La_law_137 : decode code 137 = .ok (.aload_n 0, 1) := by decide +kernel
theorem d_La_law_138 : decode code 138 = .ok (.iload 4, 2) := by decide +kernel
theorem d_La_law_140 : decode code 140 = .ok (.iconst 3, 1) := by decide +kernel
theorem d_La_law_141 : decode code 141 = .ok (.iadd, 1) := by decide +kernel
theorem d_La_law_142 : decode code 142 = .ok (.iaload, 1) := by decide +kernel
theorem d_La_law_143 : decode code 143 = .ok (.invokestatic 71, 3) := by decide +kernel
theorem d_La_law_146 : decode code 146 = .ok (.istore 5, 2) := by decide +kernel
theorem d_La_law_148 : decode code 148 = .ok (.aload_n 2, 1) := by decide +kernel
theorem d_La_law_149 : decode code 149 = .ok (.aload_n 0, 1) := by decide +kernel
theorem d_La_law_150 : decode code 150 = .ok (.iload 4, 2) := by decide +kernel
theorem d_La_law_152 : decode code 152 = .ok (.iconst 1, 1) := by decide +kernel
theorem d_La_law_153 : decode code 153 = .ok (.iadd, 1) := by decide +kernel
theorem d_La_law_154 : decode code 154 = .ok (.iaload, 1) := by decide +kernel
theorem d_La_law_155 : decode code 155 = .ok (.aload_n 0, 1) := by decide +kernel
theorem d_La_law_156 : decode code 156 = .ok (.iload 4, 2) := by decide +kernel
theorem d_La_law_158 : decode code 158 = .ok (.iconst 2, 1) := by decide +kernel
theorem d_La_law_159 : decode code 159 = .ok (.iadd, 1) := by decide +kernel
theorem d_La_law_160 : decode code 160 = .ok (.iaload, 1) := by decide +kernel
theorem d_La_law_161 : decode code 161 = .ok (.aload_n 0, 1) := by decide +kernel
theorem d_La_law_162 : decode code 162 = .ok (.iload 4, 2) := by decide +kernel
theorem d_La_law_164 : decode code 164 = .ok (.iconst 3, 1) := by decide +kernel
theorem d_La_law_165 : decode code 165 = .ok (.iadd, 1) := by decide +kernel
theorem d_La_law_166 : decode code 166 = .ok (.iaload, 1) := by decide +kernel
theorem d_La_law_167 : decode code 167 = .ok (.invokevirtual 74, 3) := by decide +kernel
theorem d_La_law_170 : decode code 170 = .ok (.aload_n 2, 1) := by decide +kernel
theorem d_La_law_171 : decode code 171 = .ok (.invokevirtual 75, 3) := by decide +kernel
theorem d_La_law_174 : decode code 174 = .ok (.iload 5, 2) := by decide +kernel
theorem d_La_law_176 : decode code 176 = .ok (.if_icmp .eq 5, 3) := by decide +kernel
theorem d_La_law_179 : decode code 179 = .ok (.iconst 0, 1) := by decide +kernel
theorem d_La_law_180 : decode code 180 = .ok (.ireturn, 1) := by decide +kernel
theorem d_La_law_181 : decode code 181 = .ok (.goto 881, 3) := by decide +kernel
theorem d_La_law_184 : decode code 184 = .ok (.aload_n 1, 1) := by decide +kernel
theorem d_La_law_185 : decode code 185 = .ok (.aload_n 0, 1) := by decide +kernel
theorem d_La_law_186 : decode code 186 = .ok (.iload 4, 2) := by decide +kernel
theorem d_La_law_188 : decode code 188 = .ok (.iconst 1, 1) := by decide +kernel
theorem d_La_law_189 : decode code 189 = .ok (.iadd, 1) := by decide +kernel
theorem d_La_law_190 : decode code 190 = .ok (.iaload, 1) := by decide +kernel
theorem d_La_law_191 : decode code 191 = .ok (.aload_n 0, 1) := by decide +kernel
theorem d_La_law_192 : decode code 192 = .ok (.iload 4, 2) := by decide +kernel
theorem d_La_law_194 : decode code 194 = .ok (.iconst 2, 1) := by decide +kernel
theorem d_La_law_195 : decode code 195 = .ok (.iadd, 1) := by decide +kernel
theorem d_La_law_196 : decode code 196 = .ok (.iaload, 1) := by decide +kernel
theorem d_La_law_197 : decode code 197 = .ok (.aload_n 0, 1) := by decide +kernel
theorem d_La_law_198 : decode code 198 = .ok (.iload 4, 2) := by decide +kernel
theorem d_La_law_200 : decode code 200 = .ok (.iconst 3, 1) := by decide +kernel
theorem d_La_law_201 : decode code 201 = .ok (.iadd, 1) := by decide +kernel
theorem d_La_law_202 : decode code 202 = .ok (.iaload, 1) := by decide +kernel
theorem d_La_law_203 : decode code 203 = .ok (.aload_n 3, 1) := by decide +kernel
theorem d_La_law_204 : decode code 204 = .ok (.invokestatic 79, 3) := by decide +kernel
theorem d_La_law_207 : decode code 207 = .ok (.istore 5, 2) := by decide +kernel
theorem d_La_law_209 : decode code 209 = .ok (.aload_n 2, 1) := by decide +kernel
theorem d_La_law_210 : decode code 210 = .ok (.aload_n 0, 1) := by decide +kernel
theorem d_La_law_211 : decode code 211 = .ok (.iload 4, 2) := by decide +kernel
theorem d_La_law_213 : decode code 213 = .ok (.iconst 1, 1) := by decide +kernel
theorem d_La_law_214 : decode code 214 = .ok (.iadd, 1) := by decide +kernel
theorem d_La_law_215 : decode code 215 = .ok (.iaload, 1) := by decide +kernel
theorem d_La_law_216 : decode code 216 = .ok (.aload_n 0, 1) := by decide +kernel
theorem d_La_law_217 : decode code 217 = .ok (.iload 4, 2) := by decide +kernel
theorem d_La_law_219 : decode code 219 = .ok (.iconst 2, 1) := by decide +kernel
theorem d_La_law_220 : decode code 220 = .ok (.iadd, 1) := by decide +kernel
theorem d_La_law_221 : decode code 221 = .ok (.iaload, 1) := by decide +kernel
theorem d_La_law_222 : decode code 222 = .ok (.aload_n 0, 1) := by decide +kernel
theorem d_La_law_223 : decode code 223 = .ok (.iload 4, 2) := by decide +kernel
theorem d_La_law_225 : decode code 225 = .ok (.iconst 3, 1) := by decide +kernel
theorem d_La_law_226 : decode code 226 = .ok (.iadd, 1) := by decide +kernel
theorem d_La_law_227 : decode code 227 = .ok (.iaload, 1) := by decide +kernel
theorem d_La_law_228 : decode code 228 = .ok (.invokevirtual 82, 3) := by decide +kernel
theorem d_La_law_231 : decode code 231 = .ok (.istore 6, 2) := by decide +kernel
theorem d_La_law_233 : decode code 233 = .ok (.aload_n 2, 1) := by decide +kernel
theorem d_La_law_234 : decode code 234 = .ok (.invokevirtual 75, 3) := by decide +kernel
theorem d_La_law_237 : decode code 237 = .ok (.iload 5, 2) := by decide +kernel
theorem d_La_law_239 : decode code 239 = .ok (.if_icmp .eq 5, 3) := by decide +kernel
theorem d_La_law_242 : decode code 242 = .ok (.iconst 0, 1) := by decide +kernel
theorem d_La_law_243 : decode code 243 = .ok (.ireturn, 1) := by decide +kernel
theorem d_La_law_244 : decode code 244 = .ok (.iload 5, 2) := by decide +kernel
theorem d_La_law_246 : decode code 246 = .ok (.ifCond .ne 22, 3) := by decide +kernel
theorem d_La_law_249 : decode code 249 = .ok (.aload_n 3, 1) := by decide +kernel
theorem d_La_law_250 : decode code 250 = .ok (.iconst 0, 1) := by decide +kernel
theorem d_La_law_251 : decode code 251 = .ok (.laload, 1) := by decide +kernel
theorem d_La_law_252 : decode code 252 = .ok (.iload 6, 2) := by decide +kernel
theorem d_La_law_254 : decode code 254 = .ok (.ifCond .eq 7, 3) := by decide +kernel
theorem d_La_law_257 : decode code 257 = .ok (.lconst 1, 1) := by decide +kernel
theorem d_La_law_258 : decode code 258 = .ok (.goto 4, 3) := by decide +kernel
theorem d_La_law_261 : decode code 261 = .ok (.lconst 0, 1) := by decide +kernel
theorem d_La_law_262 : decode code 262 = .ok (.lcmp, 1) := by decide +kernel
theorem d_La_law_263 : decode code 263 = .ok (.ifCond .eq 5, 3) := by decide +kernel
theorem d_La_law_266 : decode code 266 = .ok (.iconst 0, 1) := by decide +kernel
theorem d_La_law_267 : decode code 267 = .ok (.ireturn, 1) := by decide +kernel
theorem d_La_law_268 : decode code 268 = .ok (.goto 794, 3) := by decide +kernel
theorem d_La_law_271 : decode code 271 = .ok (.aload_n 1, 1) := by decide +kernel
theorem d_La_law_272 : decode code 272 = .ok (.aload_n 0, 1) := by decide +kernel
theorem d_La_law_273 : decode code 273 = .ok (.iload 4, 2) := by decide +kernel
theorem d_La_law_275 : decode code 275 = .ok (.iconst 1, 1) := by decide +kernel
theorem d_La_law_276 : decode code 276 = .ok (.iadd, 1) := by decide +kernel
theorem d_La_law_277 : decode code 277 = .ok (.iaload, 1) := by decide +kernel
theorem d_La_law_278 : decode code 278 = .ok (.aload_n 0, 1) := by decide +kernel
theorem d_La_law_279 : decode code 279 = .ok (.iload 4, 2) := by decide +kernel
theorem d_La_law_281 : decode code 281 = .ok (.iconst 2, 1) := by decide +kernel
theorem d_La_law_282 : decode code 282 = .ok (.iadd, 1) := by decide +kernel
theorem d_La_law_283 : decode code 283 = .ok (.iaload, 1) := by decide +kernel
theorem d_La_law_284 : decode code 284 = .ok (.invokevirtual 83, 3) := by decide +kernel
theorem d_La_law_287 : decode code 287 = .ok (.aload_n 2, 1) := by decide +kernel
theorem d_La_law_288 : decode code 288 = .ok (.aload_n 0, 1) := by decide +kernel
theorem d_La_law_289 : decode code 289 = .ok (.iload 4, 2) := by decide +kernel
theorem d_La_law_291 : decode code 291 = .ok (.iconst 1, 1) := by decide +kernel
theorem d_La_law_292 : decode code 292 = .ok (.iadd, 1) := by decide +kernel
theorem d_La_law_293 : decode code 293 = .ok (.iaload, 1) := by decide +kernel
theorem d_La_law_294 : decode code 294 = .ok (.aload_n 0, 1) := by decide +kernel
theorem d_La_law_295 : decode code 295 = .ok (.iload 4, 2) := by decide +kernel
theorem d_La_law_297 : decode code 297 = .ok (.iconst 2, 1) := by decide +kernel
theorem d_La_law_298 : decode code 298 = .ok (.iadd, 1) := by decide +kernel
theorem d_La_law_299 : decode code 299 = .ok (.iaload, 1) := by decide +kernel
theorem d_La_law_300 : decode code 300 = .ok (.invokevirtual 86, 3) := by decide +kernel
theorem d_La_law_303 : decode code 303 = .ok (.if_icmp .eq 759, 3) := by decide +kernel
theorem d_La_law_306 : decode code 306 = .ok (.iconst 0, 1) := by decide +kernel
theorem d_La_law_307 : decode code 307 = .ok (.ireturn, 1) := by decide +kernel
theorem d_La_law_308 : decode code 308 = .ok (.aload_n 1, 1) := by decide +kernel
theorem d_La_law_309 : decode code 309 = .ok (.aload_n 0, 1) := by decide +kernel
theorem d_La_law_310 : decode code 310 = .ok (.iload 4, 2) := by decide +kernel
theorem d_La_law_312 : decode code 312 = .ok (.iconst 1, 1) := by decide +kernel
theorem d_La_law_313 : decode code 313 = .ok (.iadd, 1) := by decide +kernel
theorem d_La_law_314 : decode code 314 = .ok (.iaload, 1) := by decide +kernel
theorem d_La_law_315 : decode code 315 = .ok (.aload_n 0, 1) := by decide +kernel
theorem d_La_law_316 : decode code 316 = .ok (.iload 4, 2) := by decide +kernel
theorem d_La_law_318 : decode code 318 = .ok (.iconst 2, 1) := by decide +kernel
theorem d_La_law_319 : decode code 319 = .ok (.iadd, 1) := by decide +kernel
theorem d_La_law_320 : decode code 320 = .ok (.iaload, 1) := by decide +kernel
theorem d_La_law_321 : decode code 321 = .ok (.aload_n 0, 1) := by decide +kernel
theorem d_La_law_322 : decode code 322 = .ok (.iload 4, 2) := by decide +kernel
theorem d_La_law_324 : decode code 324 = .ok (.iconst 3, 1) := by decide +kernel
theorem d_La_law_325 : decode code 325 = .ok (.iadd, 1) := by decide +kernel
theorem d_La_law_326 : decode code 326 = .ok (.iaload, 1) := by decide +kernel
theorem d_La_law_327 : decode code 327 = .ok (.aload_n 0, 1) := by decide +kernel
theorem d_La_law_328 : decode code 328 = .ok (.iload 4, 2) := by decide +kernel
theorem d_La_law_330 : decode code 330 = .ok (.iconst 4, 1) := by decide +kernel
theorem d_La_law_331 : decode code 331 = .ok (.iadd, 1) := by decide +kernel
theorem d_La_law_332 : decode code 332 = .ok (.iaload, 1) := by decide +kernel
theorem d_La_law_333 : decode code 333 = .ok (.aload_n 0, 1) := by decide +kernel
theorem d_La_law_334 : decode code 334 = .ok (.iload 4, 2) := by decide +kernel
theorem d_La_law_336 : decode code 336 = .ok (.iconst 5, 1) := by decide +kernel
theorem d_La_law_337 : decode code 337 = .ok (.iadd, 1) := by decide +kernel
theorem d_La_law_338 : decode code 338 = .ok (.iaload, 1) := by decide +kernel
theorem d_La_law_339 : decode code 339 = .ok (.aload_n 0, 1) := by decide +kernel
theorem d_La_law_340 : decode code 340 = .ok (.iload 4, 2) := by decide +kernel
theorem d_La_law_342 : decode code 342 = .ok (.bipush 6, 2) := by decide +kernel
theorem d_La_law_344 : decode code 344 = .ok (.iadd, 1) := by decide +kernel
theorem d_La_law_345 : decode code 345 = .ok (.iaload, 1) := by decide +kernel
theorem d_La_law_346 : decode code 346 = .ok (.ifCond .eq 7, 3) := by decide +kernel
theorem d_La_law_349 : decode code 349 = .ok (.iconst 1, 1) := by decide +kernel
theorem d_La_law_350 : decode code 350 = .ok (.goto 4, 3) := by decide +kernel
theorem d_La_law_353 : decode code 353 = .ok (.iconst 0, 1) := by decide +kernel
theorem d_La_law_354 : decode code 354 = .ok (.aload_n 3, 1) := by decide +kernel
theorem d_La_law_355 : decode code 355 = .ok (.invokestatic 87, 3) := by decide +kernel
theorem d_La_law_358 : decode code 358 = .ok (.istore 5, 2) := by decide +kernel
theorem d_La_law_360 : decode code 360 = .ok (.aload_n 2, 1) := by decide +kernel
theorem d_La_law_361 : decode code 361 = .ok (.aload_n 0, 1) := by decide +kernel
theorem d_La_law_362 : decode code 362 = .ok (.iload 4, 2) := by decide +kernel
theorem d_La_law_364 : decode code 364 = .ok (.iconst 1, 1) := by decide +kernel
theorem d_La_law_365 : decode code 365 = .ok (.iadd, 1) := by decide +kernel
theorem d_La_law_366 : decode code 366 = .ok (.iaload, 1) := by decide +kernel
theorem d_La_law_367 : decode code 367 = .ok (.aload_n 0, 1) := by decide +kernel
theorem d_La_law_368 : decode code 368 = .ok (.iload 4, 2) := by decide +kernel
theorem d_La_law_370 : decode code 370 = .ok (.iconst 2, 1) := by decide +kernel
theorem d_La_law_371 : decode code 371 = .ok (.iadd, 1) := by decide +kernel
theorem d_La_law_372 : decode code 372 = .ok (.iaload, 1) := by decide +kernel
theorem d_La_law_373 : decode code 373 = .ok (.aload_n 0, 1) := by decide +kernel
theorem d_La_law_374 : decode code 374 = .ok (.iload 4, 2) := by decide +kernel
theorem d_La_law_376 : decode code 376 = .ok (.iconst 3, 1) := by decide +kernel
theorem d_La_law_377 : decode code 377 = .ok (.iadd, 1) := by decide +kernel
theorem d_La_law_378 : decode code 378 = .ok (.iaload, 1) := by decide +kernel
theorem d_La_law_379 : decode code 379 = .ok (.aload_n 0, 1) := by decide +kernel
theorem d_La_law_380 : decode code 380 = .ok (.iload 4, 2) := by decide +kernel
theorem d_La_law_382 : decode code 382 = .ok (.iconst 4, 1) := by decide +kernel
theorem d_La_law_383 : decode code 383 = .ok (.iadd, 1) := by decide +kernel
theorem d_La_law_384 : decode code 384 = .ok (.iaload, 1) := by decide +kernel
theorem d_La_law_385 : decode code 385 = .ok (.aload_n 0, 1) := by decide +kernel
theorem d_La_law_386 : decode code 386 = .ok (.iload 4, 2) := by decide +kernel
theorem d_La_law_388 : decode code 388 = .ok (.iconst 5, 1) := by decide +kernel
theorem d_La_law_389 : decode code 389 = .ok (.iadd, 1) := by decide +kernel
theorem d_La_law_390 : decode code 390 = .ok (.iaload, 1) := by decide +kernel
theorem d_La_law_391 : decode code 391 = .ok (.aload_n 0, 1) := by decide +kernel
theorem d_La_law_392 : decode code 392 = .ok (.iload 4, 2) := by decide +kernel
theorem d_La_law_394 : decode code 394 = .ok (.bipush 6, 2) := by decide +kernel
theorem d_La_law_396 : decode code 396 = .ok (.iadd, 1) := by decide +kernel
theorem d_La_law_397 : decode code 397 = .ok (.iaload, 1) := by decide +kernel
theorem d_La_law_398 : decode code 398 = .ok (.ifCond .eq 7, 3) := by decide +kernel
theorem d_La_law_401 : decode code 401 = .ok (.iconst 1, 1) := by decide +kernel
theorem d_La_law_402 : decode code 402 = .ok (.goto 4, 3) := by decide +kernel
theorem d_La_law_405 : decode code 405 = .ok (.iconst 0, 1) := by decide +kernel
theorem d_La_law_406 : decode code 406 = .ok (.invokevirtual 90, 3) := by decide +kernel
theorem d_La_law_409 : decode code 409 = .ok (.istore 6, 2) := by decide +kernel
theorem d_La_law_411 : decode code 411 = .ok (.aload_n 2, 1) := by decide +kernel
theorem d_La_law_412 : decode code 412 = .ok (.invokevirtual 75, 3) := by decide +kernel
theorem d_La_law_415 : decode code 415 = .ok (.iload 5, 2) := by decide +kernel
theorem d_La_law_417 : decode code 417 = .ok (.if_icmp .eq 5, 3) := by decide +kernel
theorem d_La_law_420 : decode code 420 = .ok (.iconst 0, 1) := by decide +kernel
theorem d_La_law_421 : decode code 421 = .ok (.ireturn, 1) := by decide +kernel
theorem d_La_law_422 : decode code 422 = .ok (.iload 5, 2) := by decide +kernel
theorem d_La_law_424 : decode code 424 = .ok (.ifCond .ne 15, 3) := by decide +kernel
theorem d_La_law_427 : decode code 427 = .ok (.aload_n 3, 1) := by decide +kernel
theorem d_La_law_428 : decode code 428 = .ok (.iconst 0, 1) := by decide +kernel
theorem d_La_law_429 : decode code 429 = .ok (.laload, 1) := by decide +kernel
theorem d_La_law_430 : decode code 430 = .ok (.iload 6, 2) := by decide +kernel
theorem d_La_law_432 : decode code 432 = .ok (.i2l, 1) := by decide +kernel
theorem d_La_law_433 : decode code 433 = .ok (.lcmp, 1) := by decide +kernel
theorem d_La_law_434 : decode code 434 = .ok (.ifCond .eq 5, 3) := by decide +kernel
theorem d_La_law_437 : decode code 437 = .ok (.iconst 0, 1) := by decide +kernel
theorem d_La_law_438 : decode code 438 = .ok (.ireturn, 1) := by decide +kernel
theorem d_La_law_439 : decode code 439 = .ok (.goto 623, 3) := by decide +kernel
theorem d_La_law_442 : decode code 442 = .ok (.aload_n 1, 1) := by decide +kernel
theorem d_La_law_443 : decode code 443 = .ok (.aload_n 0, 1) := by decide +kernel
theorem d_La_law_444 : decode code 444 = .ok (.iload 4, 2) := by decide +kernel
theorem d_La_law_446 : decode code 446 = .ok (.iconst 1, 1) := by decide +kernel
theorem d_La_law_447 : decode code 447 = .ok (.iadd, 1) := by decide +kernel
theorem d_La_law_448 : decode code 448 = .ok (.iaload, 1) := by decide +kernel
theorem d_La_law_449 : decode code 449 = .ok (.aload_n 0, 1) := by decide +kernel
theorem d_La_law_450 : decode code 450 = .ok (.iload 4, 2) := by decide +kernel
theorem d_La_law_452 : decode code 452 = .ok (.iconst 2, 1) := by decide +kernel
theorem d_La_law_453 : decode code 453 = .ok (.iadd, 1) := by decide +kernel
theorem d_La_law_454 : decode code 454 = .ok (.iaload, 1) := by decide +kernel
theorem d_La_law_455 : decode code 455 = .ok (.aload_n 3, 1) := by decide +kernel
theorem d_La_law_456 : decode code 456 = .ok (.invokestatic 91, 3) := by decide +kernel
theorem d_La_law_459 : decode code 459 = .ok (.istore 5, 2) := by decide +kernel
theorem d_La_law_461 : decode code 461 = .ok (.aload_n 2, 1) := by decide +kernel
theorem d_La_law_462 : decode code 462 = .ok (.aload_n 0, 1) := by decide +kernel
theorem d_La_law_463 : decode code 463 = .ok (.iload 4, 2) := by decide +kernel
theorem d_La_law_465 : decode code 465 = .ok (.iconst 1, 1) := by decide +kernel
theorem d_La_law_466 : decode code 466 = .ok (.iadd, 1) := by decide +kernel
theorem d_La_law_467 : decode code 467 = .ok (.iaload, 1) := by decide +kernel
theorem d_La_law_468 : decode code 468 = .ok (.aload_n 0, 1) := by decide +kernel
theorem d_La_law_469 : decode code 469 = .ok (.iload 4, 2) := by decide +kernel
theorem d_La_law_471 : decode code 471 = .ok (.iconst 2, 1) := by decide +kernel
theorem d_La_law_472 : decode code 472 = .ok (.iadd, 1) := by decide +kernel
theorem d_La_law_473 : decode code 473 = .ok (.iaload, 1) := by decide +kernel
theorem d_La_law_474 : decode code 474 = .ok (.invokevirtual 94, 3) := by decide +kernel
theorem d_La_law_477 : decode code 477 = .ok (.istore 6, 2) := by decide +kernel
theorem d_La_law_479 : decode code 479 = .ok (.aload_n 2, 1) := by decide +kernel
theorem d_La_law_480 : decode code 480 = .ok (.invokevirtual 75, 3) := by decide +kernel
theorem d_La_law_483 : decode code 483 = .ok (.iload 5, 2) := by decide +kernel
theorem d_La_law_485 : decode code 485 = .ok (.if_icmp .eq 5, 3) := by decide +kernel
theorem d_La_law_488 : decode code 488 = .ok (.iconst 0, 1) := by decide +kernel
theorem d_La_law_489 : decode code 489 = .ok (.ireturn, 1) := by decide +kernel
theorem d_La_law_490 : decode code 490 = .ok (.iload 5, 2) := by decide +kernel
theorem d_La_law_492 : decode code 492 = .ok (.ifCond .ne 15, 3) := by decide +kernel
theorem d_La_law_495 : decode code 495 = .ok (.aload_n 3, 1) := by decide +kernel
theorem d_La_law_496 : decode code 496 = .ok (.iconst 0, 1) := by decide +kernel
theorem d_La_law_497 : decode code 497 = .ok (.laload, 1) := by decide +kernel
theorem d_La_law_498 : decode code 498 = .ok (.iload 6, 2) := by decide +kernel
theorem d_La_law_500 : decode code 500 = .ok (.i2l, 1) := by decide +kernel
theorem d_La_law_501 : decode code 501 = .ok (.lcmp, 1) := by decide +kernel
theorem d_La_law_502 : decode code 502 = .ok (.ifCond .eq 5, 3) := by decide +kernel
theorem d_La_law_505 : decode code 505 = .ok (.iconst 0, 1) := by decide +kernel
theorem d_La_law_506 : decode code 506 = .ok (.ireturn, 1) := by decide +kernel
theorem d_La_law_507 : decode code 507 = .ok (.goto 555, 3) := by decide +kernel
theorem d_La_law_510 : decode code 510 = .ok (.aload_n 1, 1) := by decide +kernel
theorem d_La_law_511 : decode code 511 = .ok (.invokevirtual 95, 3) := by decide +kernel
theorem d_La_law_514 : decode code 514 = .ok (.aload_n 2, 1) := by decide +kernel
theorem d_La_law_515 : decode code 515 = .ok (.invokevirtual 98, 3) := by decide +kernel
theorem d_La_law_518 : decode code 518 = .ok (.if_icmp .eq 544, 3) := by decide +kernel
theorem d_La_law_521 : decode code 521 = .ok (.iconst 0, 1) := by decide +kernel
theorem d_La_law_522 : decode code 522 = .ok (.ireturn, 1) := by decide +kernel
theorem d_La_law_523 : decode code 523 = .ok (.aload_n 1, 1) := by decide +kernel
theorem d_La_law_524 : decode code 524 = .ok (.invokevirtual 99, 3) := by decide +kernel
theorem d_La_law_527 : decode code 527 = .ok (.aload_n 2, 1) := by decide +kernel
theorem d_La_law_528 : decode code 528 = .ok (.invokevirtual 102, 3) := by decide +kernel
theorem d_La_law_531 : decode code 531 = .ok (.if_icmp .eq 531, 3) := by decide +kernel
theorem d_La_law_534 : decode code 534 = .ok (.iconst 0, 1) := by decide +kernel
theorem d_La_law_535 : decode code 535 = .ok (.ireturn, 1) := by decide +kernel
theorem d_La_law_536 : decode code 536 = .ok (.aload_n 1, 1) := by decide +kernel
theorem d_La_law_537 : decode code 537 = .ok (.aload_n 0, 1) := by decide +kernel
theorem d_La_law_538 : decode code 538 = .ok (.iload 4, 2) := by decide +kernel
theorem d_La_law_540 : decode code 540 = .ok (.iconst 1, 1) := by decide +kernel
theorem d_La_law_541 : decode code 541 = .ok (.iadd, 1) := by decide +kernel
theorem d_La_law_542 : decode code 542 = .ok (.iaload, 1) := by decide +kernel
theorem d_La_law_543 : decode code 543 = .ok (.aload_n 3, 1) := by decide +kernel
theorem d_La_law_544 : decode code 544 = .ok (.invokestatic 103, 3) := by decide +kernel
theorem d_La_law_547 : decode code 547 = .ok (.istore 5, 2) := by decide +kernel
theorem d_La_law_549 : decode code 549 = .ok (.aload_n 2, 1) := by decide +kernel
theorem d_La_law_550 : decode code 550 = .ok (.aload_n 0, 1) := by decide +kernel
theorem d_La_law_551 : decode code 551 = .ok (.iload 4, 2) := by decide +kernel
theorem d_La_law_553 : decode code 553 = .ok (.iconst 1, 1) := by decide +kernel
theorem d_La_law_554 : decode code 554 = .ok (.iadd, 1) := by decide +kernel
theorem d_La_law_555 : decode code 555 = .ok (.iaload, 1) := by decide +kernel
theorem d_La_law_556 : decode code 556 = .ok (.invokevirtual 106, 3) := by decide +kernel
theorem d_La_law_559 : decode code 559 = .ok (.istore 6, 2) := by decide +kernel
theorem d_La_law_561 : decode code 561 = .ok (.aload_n 2, 1) := by decide +kernel
theorem d_La_law_562 : decode code 562 = .ok (.invokevirtual 75, 3) := by decide +kernel
theorem d_La_law_565 : decode code 565 = .ok (.iload 5, 2) := by decide +kernel
theorem d_La_law_567 : decode code 567 = .ok (.if_icmp .eq 5, 3) := by decide +kernel
theorem d_La_law_570 : decode code 570 = .ok (.iconst 0, 1) := by decide +kernel
theorem d_La_law_571 : decode code 571 = .ok (.ireturn, 1) := by decide +kernel
theorem d_La_law_572 : decode code 572 = .ok (.iload 5, 2) := by decide +kernel
theorem d_La_law_574 : decode code 574 = .ok (.ifCond .ne 15, 3) := by decide +kernel
theorem d_La_law_577 : decode code 577 = .ok (.aload_n 3, 1) := by decide +kernel
theorem d_La_law_578 : decode code 578 = .ok (.iconst 0, 1) := by decide +kernel
theorem d_La_law_579 : decode code 579 = .ok (.laload, 1) := by decide +kernel
theorem d_La_law_580 : decode code 580 = .ok (.iload 6, 2) := by decide +kernel
theorem d_La_law_582 : decode code 582 = .ok (.i2l, 1) := by decide +kernel
theorem d_La_law_583 : decode code 583 = .ok (.lcmp, 1) := by decide +kernel
theorem d_La_law_584 : decode code 584 = .ok (.ifCond .eq 5, 3) := by decide +kernel
theorem d_La_law_587 : decode code 587 = .ok (.iconst 0, 1) := by decide +kernel
theorem d_La_law_588 : decode code 588 = .ok (.ireturn, 1) := by decide +kernel
theorem d_La_law_589 : decode code 589 = .ok (.goto 473, 3) := by decide +kernel
theorem d_La_law_592 : decode code 592 = .ok (.aload_n 1, 1) := by decide +kernel
theorem d_La_law_593 : decode code 593 = .ok (.aload_n 0, 1) := by decide +kernel
theorem d_La_law_594 : decode code 594 = .ok (.iload 4, 2) := by decide +kernel
theorem d_La_law_596 : decode code 596 = .ok (.iconst 1, 1) := by decide +kernel
theorem d_La_law_597 : decode code 597 = .ok (.iadd, 1) := by decide +kernel
theorem d_La_law_598 : decode code 598 = .ok (.iaload, 1) := by decide +kernel
theorem d_La_law_599 : decode code 599 = .ok (.aload_n 3, 1) := by decide +kernel
theorem d_La_law_600 : decode code 600 = .ok (.invokestatic 107, 3) := by decide +kernel
theorem d_La_law_603 : decode code 603 = .ok (.istore 5, 2) := by decide +kernel
theorem d_La_law_605 : decode code 605 = .ok (.aload_n 2, 1) := by decide +kernel
theorem d_La_law_606 : decode code 606 = .ok (.aload_n 0, 1) := by decide +kernel
theorem d_La_law_607 : decode code 607 = .ok (.iload 4, 2) := by decide +kernel
theorem d_La_law_609 : decode code 609 = .ok (.iconst 1, 1) := by decide +kernel
theorem d_La_law_610 : decode code 610 = .ok (.iadd, 1) := by decide +kernel
theorem d_La_law_611 : decode code 611 = .ok (.iaload, 1) := by decide +kernel
theorem d_La_law_612 : decode code 612 = .ok (.invokevirtual 109, 3) := by decide +kernel
theorem d_La_law_615 : decode code 615 = .ok (.istore 6, 2) := by decide +kernel
theorem d_La_law_617 : decode code 617 = .ok (.aload_n 2, 1) := by decide +kernel
theorem d_La_law_618 : decode code 618 = .ok (.invokevirtual 75, 3) := by decide +kernel
theorem d_La_law_621 : decode code 621 = .ok (.iload 5, 2) := by decide +kernel
theorem d_La_law_623 : decode code 623 = .ok (.if_icmp .eq 5, 3) := by decide +kernel
theorem d_La_law_626 : decode code 626 = .ok (.iconst 0, 1) := by decide +kernel
theorem d_La_law_627 : decode code 627 = .ok (.ireturn, 1) := by decide +kernel
theorem d_La_law_628 : decode code 628 = .ok (.iload 5, 2) := by decide +kernel
theorem d_La_law_630 : decode code 630 = .ok (.ifCond .ne 15, 3) := by decide +kernel
theorem d_La_law_633 : decode code 633 = .ok (.aload_n 3, 1) := by decide +kernel
theorem d_La_law_634 : decode code 634 = .ok (.iconst 0, 1) := by decide +kernel
theorem d_La_law_635 : decode code 635 = .ok (.laload, 1) := by decide +kernel
theorem d_La_law_636 : decode code 636 = .ok (.iload 6, 2) := by decide +kernel
theorem d_La_law_638 : decode code 638 = .ok (.i2l, 1) := by decide +kernel
theorem d_La_law_639 : decode code 639 = .ok (.lcmp, 1) := by decide +kernel
theorem d_La_law_640 : decode code 640 = .ok (.ifCond .eq 5, 3) := by decide +kernel
theorem d_La_law_643 : decode code 643 = .ok (.iconst 0, 1) := by decide +kernel
theorem d_La_law_644 : decode code 644 = .ok (.ireturn, 1) := by decide +kernel
theorem d_La_law_645 : decode code 645 = .ok (.goto 417, 3) := by decide +kernel
theorem d_La_law_648 : decode code 648 = .ok (.aload_n 1, 1) := by decide +kernel
theorem d_La_law_649 : decode code 649 = .ok (.aload_n 0, 1) := by decide +kernel
theorem d_La_law_650 : decode code 650 = .ok (.iload 4, 2) := by decide +kernel
theorem d_La_law_652 : decode code 652 = .ok (.iconst 1, 1) := by decide +kernel
theorem d_La_law_653 : decode code 653 = .ok (.iadd, 1) := by decide +kernel
theorem d_La_law_654 : decode code 654 = .ok (.iaload, 1) := by decide +kernel
theorem d_La_law_655 : decode code 655 = .ok (.aload_n 0, 1) := by decide +kernel
theorem d_La_law_656 : decode code 656 = .ok (.iload 4, 2) := by decide +kernel
theorem d_La_law_658 : decode code 658 = .ok (.iconst 2, 1) := by decide +kernel
theorem d_La_law_659 : decode code 659 = .ok (.iadd, 1) := by decide +kernel
theorem d_La_law_660 : decode code 660 = .ok (.iaload, 1) := by decide +kernel
theorem d_La_law_661 : decode code 661 = .ok (.aload_n 3, 1) := by decide +kernel
theorem d_La_law_662 : decode code 662 = .ok (.invokestatic 110, 3) := by decide +kernel
theorem d_La_law_665 : decode code 665 = .ok (.istore 5, 2) := by decide +kernel
theorem d_La_law_667 : decode code 667 = .ok (.aload_n 2, 1) := by decide +kernel
theorem d_La_law_668 : decode code 668 = .ok (.aload_n 0, 1) := by decide +kernel
theorem d_La_law_669 : decode code 669 = .ok (.iload 4, 2) := by decide +kernel
theorem d_La_law_671 : decode code 671 = .ok (.iconst 1, 1) := by decide +kernel
theorem d_La_law_672 : decode code 672 = .ok (.iadd, 1) := by decide +kernel
theorem d_La_law_673 : decode code 673 = .ok (.iaload, 1) := by decide +kernel
theorem d_La_law_674 : decode code 674 = .ok (.aload_n 0, 1) := by decide +kernel
theorem d_La_law_675 : decode code 675 = .ok (.iload 4, 2) := by decide +kernel
theorem d_La_law_677 : decode code 677 = .ok (.iconst 2, 1) := by decide +kernel
theorem d_La_law_678 : decode code 678 = .ok (.iadd, 1) := by decide +kernel
theorem d_La_law_679 : decode code 679 = .ok (.iaload, 1) := by decide +kernel
theorem d_La_law_680 : decode code 680 = .ok (.invokevirtual 112, 3) := by decide +kernel
theorem d_La_law_683 : decode code 683 = .ok (.istore 6, 2) := by decide +kernel
theorem d_La_law_685 : decode code 685 = .ok (.aload_n 2, 1) := by decide +kernel
theorem d_La_law_686 : decode code 686 = .ok (.invokevirtual 75, 3) := by decide +kernel
theorem d_La_law_689 : decode code 689 = .ok (.iload 5, 2) := by decide +kernel
theorem d_La_law_691 : decode code 691 = .ok (.if_icmp .eq 5, 3) := by decide +kernel
theorem d_La_law_694 : decode code 694 = .ok (.iconst 0, 1) := by decide +kernel
theorem d_La_law_695 : decode code 695 = .ok (.ireturn, 1) := by decide +kernel
theorem d_La_law_696 : decode code 696 = .ok (.iload 5, 2) := by decide +kernel
theorem d_La_law_698 : decode code 698 = .ok (.ifCond .ne 15, 3) := by decide +kernel
theorem d_La_law_701 : decode code 701 = .ok (.aload_n 3, 1) := by decide +kernel
theorem d_La_law_702 : decode code 702 = .ok (.iconst 0, 1) := by decide +kernel
theorem d_La_law_703 : decode code 703 = .ok (.laload, 1) := by decide +kernel
theorem d_La_law_704 : decode code 704 = .ok (.iload 6, 2) := by decide +kernel
theorem d_La_law_706 : decode code 706 = .ok (.i2l, 1) := by decide +kernel
theorem d_La_law_707 : decode code 707 = .ok (.lcmp, 1) := by decide +kernel
theorem d_La_law_708 : decode code 708 = .ok (.ifCond .eq 5, 3) := by decide +kernel
theorem d_La_law_711 : decode code 711 = .ok (.iconst 0, 1) := by decide +kernel
theorem d_La_law_712 : decode code 712 = .ok (.ireturn, 1) := by decide +kernel
theorem d_La_law_713 : decode code 713 = .ok (.goto 349, 3) := by decide +kernel
theorem d_La_law_716 : decode code 716 = .ok (.aload_n 1, 1) := by decide +kernel
theorem d_La_law_717 : decode code 717 = .ok (.aload_n 0, 1) := by decide +kernel
theorem d_La_law_718 : decode code 718 = .ok (.iload 4, 2) := by decide +kernel
theorem d_La_law_720 : decode code 720 = .ok (.iconst 1, 1) := by decide +kernel
theorem d_La_law_721 : decode code 721 = .ok (.iadd, 1) := by decide +kernel
theorem d_La_law_722 : decode code 722 = .ok (.iaload, 1) := by decide +kernel
theorem d_La_law_723 : decode code 723 = .ok (.aload_n 3, 1) := by decide +kernel
theorem d_La_law_724 : decode code 724 = .ok (.invokestatic 113, 3) := by decide +kernel
theorem d_La_law_727 : decode code 727 = .ok (.istore 5, 2) := by decide +kernel
theorem d_La_law_729 : decode code 729 = .ok (.aload_n 2, 1) := by decide +kernel
theorem d_La_law_730 : decode code 730 = .ok (.aload_n 0, 1) := by decide +kernel
theorem d_La_law_731 : decode code 731 = .ok (.iload 4, 2) := by decide +kernel
theorem d_La_law_733 : decode code 733 = .ok (.iconst 1, 1) := by decide +kernel
theorem d_La_law_734 : decode code 734 = .ok (.iadd, 1) := by decide +kernel
theorem d_La_law_735 : decode code 735 = .ok (.iaload, 1) := by decide +kernel
theorem d_La_law_736 : decode code 736 = .ok (.invokevirtual 115, 3) := by decide +kernel
theorem d_La_law_739 : decode code 739 = .ok (.lstore 6, 2) := by decide +kernel
theorem d_La_law_741 : decode code 741 = .ok (.aload_n 2, 1) := by decide +kernel
theorem d_La_law_742 : decode code 742 = .ok (.invokevirtual 75, 3) := by decide +kernel
theorem d_La_law_745 : decode code 745 = .ok (.iload 5, 2) := by decide +kernel
theorem d_La_law_747 : decode code 747 = .ok (.if_icmp .eq 5, 3) := by decide +kernel
theorem d_La_law_750 : decode code 750 = .ok (.iconst 0, 1) := by decide +kernel
theorem d_La_law_751 : decode code 751 = .ok (.ireturn, 1) := by decide +kernel
theorem d_La_law_752 : decode code 752 = .ok (.iload 5, 2) := by decide +kernel
theorem d_La_law_754 : decode code 754 = .ok (.ifCond .ne 14, 3) := by decide +kernel
theorem d_La_law_757 : decode code 757 = .ok (.aload_n 3, 1) := by decide +kernel
theorem d_La_law_758 : decode code 758 = .ok (.iconst 0, 1) := by decide +kernel
theorem d_La_law_759 : decode code 759 = .ok (.laload, 1) := by decide +kernel
theorem d_La_law_760 : decode code 760 = .ok (.lload 6, 2) := by decide +kernel
theorem d_La_law_762 : decode code 762 = .ok (.lcmp, 1) := by decide +kernel
theorem d_La_law_763 : decode code 763 = .ok (.ifCond .eq 5, 3) := by decide +kernel
theorem d_La_law_766 : decode code 766 = .ok (.iconst 0, 1) := by decide +kernel
theorem d_La_law_767 : decode code 767 = .ok (.ireturn, 1) := by decide +kernel
theorem d_La_law_768 : decode code 768 = .ok (.goto 294, 3) := by decide +kernel
theorem d_La_law_771 : decode code 771 = .ok (.aload_n 1, 1) := by decide +kernel
theorem d_La_law_772 : decode code 772 = .ok (.aload_n 0, 1) := by decide +kernel
theorem d_La_law_773 : decode code 773 = .ok (.iload 4, 2) := by decide +kernel
theorem d_La_law_775 : decode code 775 = .ok (.iconst 1, 1) := by decide +kernel
theorem d_La_law_776 : decode code 776 = .ok (.iadd, 1) := by decide +kernel
theorem d_La_law_777 : decode code 777 = .ok (.iaload, 1) := by decide +kernel
theorem d_La_law_778 : decode code 778 = .ok (.i2l, 1) := by decide +kernel
theorem d_La_law_779 : decode code 779 = .ok (.bipush 32, 2) := by decide +kernel
theorem d_La_law_781 : decode code 781 = .ok (.lshl, 1) := by decide +kernel
theorem d_La_law_782 : decode code 782 = .ok (.aload_n 0, 1) := by decide +kernel
theorem d_La_law_783 : decode code 783 = .ok (.iload 4, 2) := by decide +kernel
theorem d_La_law_785 : decode code 785 = .ok (.iconst 2, 1) := by decide +kernel
theorem d_La_law_786 : decode code 786 = .ok (.iadd, 1) := by decide +kernel
theorem d_La_law_787 : decode code 787 = .ok (.iaload, 1) := by decide +kernel
theorem d_La_law_788 : decode code 788 = .ok (.i2l, 1) := by decide +kernel
theorem d_La_law_789 : decode code 789 = .ok (.ldc2_w 116, 3) := by decide +kernel
theorem d_La_law_792 : decode code 792 = .ok (.land, 1) := by decide +kernel
theorem d_La_law_793 : decode code 793 = .ok (.lor, 1) := by decide +kernel
theorem d_La_law_794 : decode code 794 = .ok (.aload_n 3, 1) := by decide +kernel
theorem d_La_law_795 : decode code 795 = .ok (.invokestatic 118, 3) := by decide +kernel
theorem d_La_law_798 : decode code 798 = .ok (.istore 5, 2) := by decide +kernel
theorem d_La_law_800 : decode code 800 = .ok (.aload_n 2, 1) := by decide +kernel
theorem d_La_law_801 : decode code 801 = .ok (.aload_n 0, 1) := by decide +kernel
theorem d_La_law_802 : decode code 802 = .ok (.iload 4, 2) := by decide +kernel
theorem d_La_law_804 : decode code 804 = .ok (.iconst 1, 1) := by decide +kernel
theorem d_La_law_805 : decode code 805 = .ok (.iadd, 1) := by decide +kernel
theorem d_La_law_806 : decode code 806 = .ok (.iaload, 1) := by decide +kernel
theorem d_La_law_807 : decode code 807 = .ok (.i2l, 1) := by decide +kernel
theorem d_La_law_808 : decode code 808 = .ok (.bipush 32, 2) := by decide +kernel
theorem d_La_law_810 : decode code 810 = .ok (.lshl, 1) := by decide +kernel
theorem d_La_law_811 : decode code 811 = .ok (.aload_n 0, 1) := by decide +kernel
theorem d_La_law_812 : decode code 812 = .ok (.iload 4, 2) := by decide +kernel
theorem d_La_law_814 : decode code 814 = .ok (.iconst 2, 1) := by decide +kernel
theorem d_La_law_815 : decode code 815 = .ok (.iadd, 1) := by decide +kernel
theorem d_La_law_816 : decode code 816 = .ok (.iaload, 1) := by decide +kernel
theorem d_La_law_817 : decode code 817 = .ok (.i2l, 1) := by decide +kernel
theorem d_La_law_818 : decode code 818 = .ok (.ldc2_w 116, 3) := by decide +kernel
theorem d_La_law_821 : decode code 821 = .ok (.land, 1) := by decide +kernel
theorem d_La_law_822 : decode code 822 = .ok (.lor, 1) := by decide +kernel
theorem d_La_law_823 : decode code 823 = .ok (.invokevirtual 121, 3) := by decide +kernel
theorem d_La_law_826 : decode code 826 = .ok (.istore 6, 2) := by decide +kernel
theorem d_La_law_828 : decode code 828 = .ok (.aload_n 2, 1) := by decide +kernel
theorem d_La_law_829 : decode code 829 = .ok (.invokevirtual 75, 3) := by decide +kernel
theorem d_La_law_832 : decode code 832 = .ok (.iload 5, 2) := by decide +kernel
theorem d_La_law_834 : decode code 834 = .ok (.if_icmp .eq 5, 3) := by decide +kernel
theorem d_La_law_837 : decode code 837 = .ok (.iconst 0, 1) := by decide +kernel
theorem d_La_law_838 : decode code 838 = .ok (.ireturn, 1) := by decide +kernel
theorem d_La_law_839 : decode code 839 = .ok (.iload 5, 2) := by decide +kernel
theorem d_La_law_841 : decode code 841 = .ok (.ifCond .ne 15, 3) := by decide +kernel
theorem d_La_law_844 : decode code 844 = .ok (.aload_n 3, 1) := by decide +kernel
theorem d_La_law_845 : decode code 845 = .ok (.iconst 0, 1) := by decide +kernel
theorem d_La_law_846 : decode code 846 = .ok (.laload, 1) := by decide +kernel
theorem d_La_law_847 : decode code 847 = .ok (.iload 6, 2) := by decide +kernel
theorem d_La_law_849 : decode code 849 = .ok (.i2l, 1) := by decide +kernel
theorem d_La_law_850 : decode code 850 = .ok (.lcmp, 1) := by decide +kernel
theorem d_La_law_851 : decode code 851 = .ok (.ifCond .eq 5, 3) := by decide +kernel
theorem d_La_law_854 : decode code 854 = .ok (.iconst 0, 1) := by decide +kernel
theorem d_La_law_855 : decode code 855 = .ok (.ireturn, 1) := by decide +kernel
theorem d_La_law_856 : decode code 856 = .ok (.goto 206, 3) := by decide +kernel
theorem d_La_law_859 : decode code 859 = .ok (.aload_n 1, 1) := by decide +kernel
theorem d_La_law_860 : decode code 860 = .ok (.aload_n 0, 1) := by decide +kernel
theorem d_La_law_861 : decode code 861 = .ok (.iload 4, 2) := by decide +kernel
theorem d_La_law_863 : decode code 863 = .ok (.iconst 1, 1) := by decide +kernel
theorem d_La_law_864 : decode code 864 = .ok (.iadd, 1) := by decide +kernel
theorem d_La_law_865 : decode code 865 = .ok (.iaload, 1) := by decide +kernel
theorem d_La_law_866 : decode code 866 = .ok (.aload_n 3, 1) := by decide +kernel
theorem d_La_law_867 : decode code 867 = .ok (.invokestatic 122, 3) := by decide +kernel
theorem d_La_law_870 : decode code 870 = .ok (.istore 5, 2) := by decide +kernel
theorem d_La_law_872 : decode code 872 = .ok (.aload_n 2, 1) := by decide +kernel
theorem d_La_law_873 : decode code 873 = .ok (.aload_n 0, 1) := by decide +kernel
theorem d_La_law_874 : decode code 874 = .ok (.iload 4, 2) := by decide +kernel
theorem d_La_law_876 : decode code 876 = .ok (.iconst 1, 1) := by decide +kernel
theorem d_La_law_877 : decode code 877 = .ok (.iadd, 1) := by decide +kernel
theorem d_La_law_878 : decode code 878 = .ok (.iaload, 1) := by decide +kernel
theorem d_La_law_879 : decode code 879 = .ok (.invokevirtual 124, 3) := by decide +kernel
theorem d_La_law_882 : decode code 882 = .ok (.istore 6, 2) := by decide +kernel
theorem d_La_law_884 : decode code 884 = .ok (.aload_n 2, 1) := by decide +kernel
theorem d_La_law_885 : decode code 885 = .ok (.invokevirtual 75, 3) := by decide +kernel
theorem d_La_law_888 : decode code 888 = .ok (.iload 5, 2) := by decide +kernel
theorem d_La_law_890 : decode code 890 = .ok (.if_icmp .eq 5, 3) := by decide +kernel
theorem d_La_law_893 : decode code 893 = .ok (.iconst 0, 1) := by decide +kernel
theorem d_La_law_894 : decode code 894 = .ok (.ireturn, 1) := by decide +kernel
theorem d_La_law_895 : decode code 895 = .ok (.iload 5, 2) := by decide +kernel
theorem d_La_law_897 : decode code 897 = .ok (.ifCond .ne 15, 3) := by decide +kernel
theorem d_La_law_900 : decode code 900 = .ok (.aload_n 3, 1) := by decide +kernel
theorem d_La_law_901 : decode code 901 = .ok (.iconst 0, 1) := by decide +kernel
theorem d_La_law_902 : decode code 902 = .ok (.laload, 1) := by decide +kernel
theorem d_La_law_903 : decode code 903 = .ok (.iload 6, 2) := by decide +kernel
theorem d_La_law_905 : decode code 905 = .ok (.i2l, 1) := by decide +kernel
theorem d_La_law_906 : decode code 906 = .ok (.lcmp, 1) := by decide +kernel
theorem d_La_law_907 : decode code 907 = .ok (.ifCond .eq 5, 3) := by decide +kernel
theorem d_La_law_910 : decode code 910 = .ok (.iconst 0, 1) := by decide +kernel
theorem d_La_law_911 : decode code 911 = .ok (.ireturn, 1) := by decide +kernel
theorem d_La_law_912 : decode code 912 = .ok (.goto 150, 3) := by decide +kernel
theorem d_La_law_915 : decode code 915 = .ok (.aload_n 1, 1) := by decide +kernel
theorem d_La_law_916 : decode code 916 = .ok (.aload_n 0, 1) := by decide +kernel
theorem d_La_law_917 : decode code 917 = .ok (.iload 4, 2) := by decide +kernel
theorem d_La_law_919 : decode code 919 = .ok (.iconst 1, 1) := by decide +kernel
theorem d_La_law_920 : decode code 920 = .ok (.iadd, 1) := by decide +kernel
theorem d_La_law_921 : decode code 921 = .ok (.iaload, 1) := by decide +kernel
theorem d_La_law_922 : decode code 922 = .ok (.aload_n 0, 1) := by decide +kernel
theorem d_La_law_923 : decode code 923 = .ok (.iload 4, 2) := by decide +kernel
theorem d_La_law_925 : decode code 925 = .ok (.iconst 2, 1) := by decide +kernel
theorem d_La_law_926 : decode code 926 = .ok (.iadd, 1) := by decide +kernel
theorem d_La_law_927 : decode code 927 = .ok (.iaload, 1) := by decide +kernel
theorem d_La_law_928 : decode code 928 = .ok (.aload_n 0, 1) := by decide +kernel
theorem d_La_law_929 : decode code 929 = .ok (.iload 4, 2) := by decide +kernel
theorem d_La_law_931 : decode code 931 = .ok (.iconst 3, 1) := by decide +kernel
theorem d_La_law_932 : decode code 932 = .ok (.iadd, 1) := by decide +kernel
theorem d_La_law_933 : decode code 933 = .ok (.iaload, 1) := by decide +kernel
theorem d_La_law_934 : decode code 934 = .ok (.aload_n 3, 1) := by decide +kernel
theorem d_La_law_935 : decode code 935 = .ok (.invokestatic 125, 3) := by decide +kernel
theorem d_La_law_938 : decode code 938 = .ok (.istore 5, 2) := by decide +kernel
theorem d_La_law_940 : decode code 940 = .ok (.aload_n 2, 1) := by decide +kernel
theorem d_La_law_941 : decode code 941 = .ok (.aload_n 0, 1) := by decide +kernel
theorem d_La_law_942 : decode code 942 = .ok (.iload 4, 2) := by decide +kernel
theorem d_La_law_944 : decode code 944 = .ok (.iconst 1, 1) := by decide +kernel
theorem d_La_law_945 : decode code 945 = .ok (.iadd, 1) := by decide +kernel
theorem d_La_law_946 : decode code 946 = .ok (.iaload, 1) := by decide +kernel
theorem d_La_law_947 : decode code 947 = .ok (.aload_n 0, 1) := by decide +kernel
theorem d_La_law_948 : decode code 948 = .ok (.iload 4, 2) := by decide +kernel
theorem d_La_law_950 : decode code 950 = .ok (.iconst 2, 1) := by decide +kernel
theorem d_La_law_951 : decode code 951 = .ok (.iadd, 1) := by decide +kernel
theorem d_La_law_952 : decode code 952 = .ok (.iaload, 1) := by decide +kernel
theorem d_La_law_953 : decode code 953 = .ok (.aload_n 0, 1) := by decide +kernel
theorem d_La_law_954 : decode code 954 = .ok (.iload 4, 2) := by decide +kernel
theorem d_La_law_956 : decode code 956 = .ok (.iconst 3, 1) := by decide +kernel
theorem d_La_law_957 : decode code 957 = .ok (.iadd, 1) := by decide +kernel
theorem d_La_law_958 : decode code 958 = .ok (.iaload, 1) := by decide +kernel
theorem d_La_law_959 : decode code 959 = .ok (.invokevirtual 127, 3) := by decide +kernel
theorem d_La_law_962 : decode code 962 = .ok (.lstore 6, 2) := by decide +kernel
theorem d_La_law_964 : decode code 964 = .ok (.aload_n 2, 1) := by decide +kernel
theorem d_La_law_965 : decode code 965 = .ok (.invokevirtual 75, 3) := by decide +kernel
theorem d_La_law_968 : decode code 968 = .ok (.iload 5, 2) := by decide +kernel
theorem d_La_law_970 : decode code 970 = .ok (.if_icmp .eq 5, 3) := by decide +kernel
theorem d_La_law_973 : decode code 973 = .ok (.iconst 0, 1) := by decide +kernel
theorem d_La_law_974 : decode code 974 = .ok (.ireturn, 1) := by decide +kernel
theorem d_La_law_975 : decode code 975 = .ok (.iload 5, 2) := by decide +kernel
theorem d_La_law_977 : decode code 977 = .ok (.ifCond .ne 14, 3) := by decide +kernel
theorem d_La_law_980 : decode code 980 = .ok (.aload_n 3, 1) := by decide +kernel
theorem d_La_law_981 : decode code 981 = .ok (.iconst 0, 1) := by decide +kernel
theorem d_La_law_982 : decode code 982 = .ok (.laload, 1) := by decide +kernel
theorem d_La_law_983 : decode code 983 = .ok (.lload 6, 2) := by decide +kernel
theorem d_La_law_985 : decode code 985 = .ok (.lcmp, 1) := by decide +kernel
theorem d_La_law_986 : decode code 986 = .ok (.ifCond .eq 5, 3) := by decide +kernel
theorem d_La_law_989 : decode code 989 = .ok (.iconst 0, 1) := by decide +kernel
theorem d_La_law_990 : decode code 990 = .ok (.ireturn, 1) := by decide +kernel
theorem d_La_law_991 : decode code 991 = .ok (.goto 71, 3) := by decide +kernel
theorem d_La_law_994 : decode code 994 = .ok (.aload_n 1, 1) := by decide +kernel
theorem d_La_law_995 : decode code 995 = .ok (.aload_n 0, 1) := by decide +kernel
theorem d_La_law_996 : decode code 996 = .ok (.iload 4, 2) := by decide +kernel
theorem d_La_law_998 : decode code 998 = .ok (.iconst 1, 1) := by decide +kernel
theorem d_La_law_999 : decode code 999 = .ok (.iadd, 1) := by decide +kernel
theorem d_La_law_1000 : decode code 1000 = .ok (.iaload, 1) := by decide +kernel
theorem d_La_law_1001 : decode code 1001 = .ok (.aload_n 0, 1) := by decide +kernel
theorem d_La_law_1002 : decode code 1002 = .ok (.iload 4, 2) := by decide +kernel
theorem d_La_law_1004 : decode code 1004 = .ok (.iconst 2, 1) := by decide +kernel
theorem d_La_law_1005 : decode code 1005 = .ok (.iadd, 1) := by decide +kernel
theorem d_La_law_1006 : decode code 1006 = .ok (.iaload, 1) := by decide +kernel
theorem d_La_law_1007 : decode code 1007 = .ok (.aload_n 3, 1) := by decide +kernel
theorem d_La_law_1008 : decode code 1008 = .ok (.invokestatic 128, 3) := by decide +kernel
theorem d_La_law_1011 : decode code 1011 = .ok (.istore 5, 2) := by decide +kernel
theorem d_La_law_1013 : decode code 1013 = .ok (.aload_n 2, 1) := by decide +kernel
theorem d_La_law_1014 : decode code 1014 = .ok (.aload_n 0, 1) := by decide +kernel
theorem d_La_law_1015 : decode code 1015 = .ok (.iload 4, 2) := by decide +kernel
theorem d_La_law_1017 : decode code 1017 = .ok (.iconst 1, 1) := by decide +kernel
theorem d_La_law_1018 : decode code 1018 = .ok (.iadd, 1) := by decide +kernel
theorem d_La_law_1019 : decode code 1019 = .ok (.iaload, 1) := by decide +kernel
theorem d_La_law_1020 : decode code 1020 = .ok (.aload_n 0, 1) := by decide +kernel
theorem d_La_law_1021 : decode code 1021 = .ok (.iload 4, 2) := by decide +kernel
theorem d_La_law_1023 : decode code 1023 = .ok (.iconst 2, 1) := by decide +kernel
theorem d_La_law_1024 : decode code 1024 = .ok (.iadd, 1) := by decide +kernel
theorem d_La_law_1025 : decode code 1025 = .ok (.iaload, 1) := by decide +kernel
theorem d_La_law_1026 : decode code 1026 = .ok (.invokevirtual 130, 3) := by decide +kernel
theorem d_La_law_1029 : decode code 1029 = .ok (.istore 6, 2) := by decide +kernel
theorem d_La_law_1031 : decode code 1031 = .ok (.aload_n 2, 1) := by decide +kernel
theorem d_La_law_1032 : decode code 1032 = .ok (.invokevirtual 75, 3) := by decide +kernel
theorem d_La_law_1035 : decode code 1035 = .ok (.iload 5, 2) := by decide +kernel
theorem d_La_law_1037 : decode code 1037 = .ok (.if_icmp .eq 5, 3) := by decide +kernel
theorem d_La_law_1040 : decode code 1040 = .ok (.iconst 0, 1) := by decide +kernel
theorem d_La_law_1041 : decode code 1041 = .ok (.ireturn, 1) := by decide +kernel
theorem d_La_law_1042 : decode code 1042 = .ok (.iload 5, 2) := by decide +kernel
theorem d_La_law_1044 : decode code 1044 = .ok (.ifCond .ne 15, 3) := by decide +kernel
theorem d_La_law_1047 : decode code 1047 = .ok (.aload_n 3, 1) := by decide +kernel
theorem d_La_law_1048 : decode code 1048 = .ok (.iconst 0, 1) := by decide +kernel
theorem d_La_law_1049 : decode code 1049 = .ok (.laload, 1) := by decide +kernel
theorem d_La_law_1050 : decode code 1050 = .ok (.iload 6, 2) := by decide +kernel
theorem d_La_law_1052 : decode code 1052 = .ok (.i2l, 1) := by decide +kernel
theorem d_La_law_1053 : decode code 1053 = .ok (.lcmp, 1) := by decide +kernel
theorem d_La_law_1054 : decode code 1054 = .ok (.ifCond .eq 5, 3) := by decide +kernel
theorem d_La_law_1057 : decode code 1057 = .ok (.iconst 0, 1) := by decide +kernel
theorem d_La_law_1058 : decode code 1058 = .ok (.ireturn, 1) := by decide +kernel
theorem d_La_law_1059 : decode code 1059 = .ok (.goto 3, 3) := by decide +kernel
theorem d_La_law_1062 : decode code 1062 = .ok (.iinc 4 7, 3) := by decide +kernel
theorem d_La_law_1065 : decode code 1065 = .ok (.goto (-1032), 3) := by decide +kernel
theorem d_La_law_1068 : decode code 1068 = .ok (.iconst 1, 1) := by decide +kernel
theorem d_La_law_1069 : decode code 1069 = .ok (.ireturn, 1) := by decide +kernel
theorem hl_La_bar : (parseMethodDescriptor m_La_bar.1.desc).map (fun t => t.parameters.length) = some 4 := by decide +kernel
theorem hl_La_sign : (parseMethodDescriptor m_La_sign.1.desc).map (fun t => t.parameters.length) = some 5 := by decide +kernel
theorem hl_La_note : (parseMethodDescriptor m_La_note.1.desc).map (fun t => t.parameters.length) = some 8 := by decide +kernel
theorem hl_La_transpose : (parseMethodDescriptor m_La_transpose.1.desc).map (fun t => t.parameters.length) = some 4 := by decide +kernel
theorem hl_La_played : (parseMethodDescriptor m_La_played.1.desc).map (fun t => t.parameters.length) = some 3 := by decide +kernel
theorem hl_La_time : (parseMethodDescriptor m_La_time.1.desc).map (fun t => t.parameters.length) = some 3 := by decide +kernel
theorem hl_La_find : (parseMethodDescriptor m_La_find.1.desc).map (fun t => t.parameters.length) = some 4 := by decide +kernel
theorem hl_La_tick : (parseMethodDescriptor m_La_tick.1.desc).map (fun t => t.parameters.length) = some 3 := by decide +kernel
theorem hl_La_at : (parseMethodDescriptor m_La_at.1.desc).map (fun t => t.parameters.length) = some 3 := by decide +kernel
theorem hl_La_sounds : (parseMethodDescriptor m_La_sounds.1.desc).map (fun t => t.parameters.length) = some 3 := by decide +kernel
theorem hl_La_sound : (parseMethodDescriptor m_La_sound.1.desc).map (fun t => t.parameters.length) = some 5 := by decide +kernel
theorem hl_La_rest : (parseMethodDescriptor m_La_rest.1.desc).map (fun t => t.parameters.length) = some 4 := by decide +kernel
