theorem dX4_init_117 : decode cX4_init 117 = .ok (.dup, 1) := by decide +kernel
theorem dX4_init_118 : decode cX4_init 118 = .ok (.bipush 19, 2) := by decide +kernel
theorem dX4_init_120 : decode cX4_init 120 = .ok (.ldc 26, 2) := by decide +kernel
theorem dX4_init_122 : decode cX4_init 122 = .ok (.iastore, 1) := by decide +kernel
theorem dX4_init_123 : decode cX4_init 123 = .ok (.dup, 1) := by decide +kernel
theorem dX4_init_124 : decode cX4_init 124 = .ok (.bipush 20, 2) := by decide +kernel
theorem dX4_init_126 : decode cX4_init 126 = .ok (.ldc 27, 2) := by decide +kernel
theorem dX4_init_128 : decode cX4_init 128 = .ok (.iastore, 1) := by decide +kernel
theorem dX4_init_129 : decode cX4_init 129 = .ok (.dup, 1) := by decide +kernel
theorem dX4_init_130 : decode cX4_init 130 = .ok (.bipush 21, 2) := by decide +kernel
theorem dX4_init_132 : decode cX4_init 132 = .ok (.ldc 28, 2) := by decide +kernel
theorem dX4_init_134 : decode cX4_init 134 = .ok (.iastore, 1) := by decide +kernel
theorem dX4_init_135 : decode cX4_init 135 = .ok (.dup, 1) := by decide +kernel
theorem dX4_init_136 : decode cX4_init 136 = .ok (.bipush 22, 2) := by decide +kernel
theorem dX4_init_138 : decode cX4_init 138 = .ok (.ldc 29, 2) := by decide +kernel
theorem dX4_init_140 : decode cX4_init 140 = .ok (.iastore, 1) := by decide +kernel
theorem dX4_init_141 : decode cX4_init 141 = .ok (.dup, 1) := by decide +kernel
theorem dX4_init_142 : decode cX4_init 142 = .ok (.bipush 23, 2) := by decide +kernel
theorem dX4_init_144 : decode cX4_init 144 = .ok (.ldc 30, 2) := by decide +kernel
theorem dX4_init_146 : decode cX4_init 146 = .ok (.iastore, 1) := by decide +kernel
theorem dX4_init_147 : decode cX4_init 147 = .ok (.dup, 1) := by decide +kernel
theorem dX4_init_148 : decode cX4_init 148 = .ok (.bipush 24, 2) := by decide +kernel
theorem dX4_init_150 : decode cX4_init 150 = .ok (.ldc 31, 2) := by decide +kernel
theorem dX4_init_152 : decode cX4_init 152 = .ok (.iastore, 1) := by decide +kernel
theorem dX4_init_153 : decode cX4_init 153 = .ok (.dup, 1) := by decide +kernel
theorem dX4_init_154 : decode cX4_init 154 = .ok (.bipush 25, 2) := by decide +kernel
theorem dX4_init_156 : decode cX4_init 156 = .ok (.ldc 32, 2) := by decide +kernel
theorem dX4_init_158 : decode cX4_init 158 = .ok (.iastore, 1) := by decide +kernel
theorem dX4_init_159 : decode cX4_init 159 = .ok (.dup, 1) := by decide +kernel
theorem dX4_init_160 : decode cX4_init 160 = .ok (.bipush 26, 2) := by decide +kernel
theorem dX4_init_162 : decode cX4_init 162 = .ok (.ldc 33, 2) := by decide +kernel
theorem dX4_init_164 : decode cX4_init 164 = .ok (.iastore, 1) := by decide +kernel
theorem dX4_init_165 : decode cX4_init 165 = .ok (.dup, 1) := by decide +kernel
theorem dX4_init_166 : decode cX4_init 166 = .ok (.bipush 27, 2) := by decide +kernel
theorem dX4_init_168 : decode cX4_init 168 = .ok (.ldc 34, 2) := by decide +kernel
theorem dX4_init_170 : decode cX4_init 170 = .ok (.iastore, 1) := by decide +kernel
theorem dX4_init_171 : decode cX4_init 171 = .ok (.dup, 1) := by decide +kernel
theorem dX4_init_172 : decode cX4_init 172 = .ok (.bipush 28, 2) := by decide +kernel
theorem dX4_init_174 : decode cX4_init 174 = .ok (.ldc 35, 2) := by decide +kernel
theorem dX4_init_176 : decode cX4_init 176 = .ok (.iastore, 1) := by decide +kernel
theorem dX4_init_177 : decode cX4_init 177 = .ok (.dup, 1) := by decide +kernel
theorem dX4_init_178 : decode cX4_init 178 = .ok (.bipush 29, 2) := by decide +kernel
theorem dX4_init_180 : decode cX4_init 180 = .ok (.ldc 36, 2) := by decide +kernel
theorem dX4_init_182 : decode cX4_init 182 = .ok (.iastore, 1) := by decide +kernel
theorem dX4_init_183 : decode cX4_init 183 = .ok (.dup, 1) := by decide +kernel
theorem dX4_init_184 : decode cX4_init 184 = .ok (.bipush 30, 2) := by decide +kernel
theorem dX4_init_186 : decode cX4_init 186 = .ok (.ldc 37, 2) := by decide +kernel
theorem dX4_init_188 : decode cX4_init 188 = .ok (.iastore, 1) := by decide +kernel
theorem dX4_init_189 : decode cX4_init 189 = .ok (.dup, 1) := by decide +kernel
theorem dX4_init_190 : decode cX4_init 190 = .ok (.bipush 31, 2) := by decide +kernel
theorem dX4_init_192 : decode cX4_init 192 = .ok (.ldc 38, 2) := by decide +kernel
theorem dX4_init_194 : decode cX4_init 194 = .ok (.iastore, 1) := by decide +kernel
theorem dX4_init_195 : decode cX4_init 195 = .ok (.dup, 1) := by decide +kernel
theorem dX4_init_196 : decode cX4_init 196 = .ok (.bipush 32, 2) := by decide +kernel
theorem dX4_init_198 : decode cX4_init 198 = .ok (.ldc 39, 2) := by decide +kernel
theorem dX4_init_200 : decode cX4_init 200 = .ok (.iastore, 1) := by decide +kernel
theorem dX4_init_201 : decode cX4_init 201 = .ok (.dup, 1) := by decide +kernel
theorem dX4_init_202 : decode cX4_init 202 = .ok (.bipush 33, 2) := by decide +kernel
theorem dX4_init_204 : decode cX4_init 204 = .ok (.ldc 40, 2) := by decide +kernel
theorem dX4_init_206 : decode cX4_init 206 = .ok (.iastore, 1) := by decide +kernel
theorem dX4_init_207 : decode cX4_init 207 = .ok (.dup, 1) := by decide +kernel
theorem dX4_init_208 : decode cX4_init 208 = .ok (.bipush 34, 2) := by decide +kernel
theorem dX4_init_210 : decode cX4_init 210 = .ok (.ldc 41, 2) := by decide +kernel
theorem dX4_init_212 : decode cX4_init 212 = .ok (.iastore, 1) := by decide +kernel
theorem dX4_init_213 : decode cX4_init 213 = .ok (.dup, 1) := by decide +kernel
theorem dX4_init_214 : decode cX4_init 214 = .ok (.bipush 35, 2) := by decide +kernel
theorem dX4_init_216 : decode cX4_init 216 = .ok (.ldc 42, 2) := by decide +kernel
theorem dX4_init_218 : decode cX4_init 218 = .ok (.iastore, 1) := by decide +kernel
theorem dX4_init_219 : decode cX4_init 219 = .ok (.dup, 1) := by decide +kernel
theorem dX4_init_220 : decode cX4_init 220 = .ok (.bipush 36, 2) := by decide +kernel
theorem dX4_init_222 : decode cX4_init 222 = .ok (.ldc 43, 2) := by decide +kernel
theorem dX4_init_224 : decode cX4_init 224 = .ok (.iastore, 1) := by decide +kernel
theorem dX4_init_225 : decode cX4_init 225 = .ok (.dup, 1) := by decide +kernel
theorem dX4_init_226 : decode cX4_init 226 = .ok (.bipush 37, 2) := by decide +kernel
theorem dX4_init_228 : decode cX4_init 228 = .ok (.ldc 44, 2) := by decide +kernel
theorem dX4_init_230 : decode cX4_init 230 = .ok (.iastore, 1) := by decide +kernel
theorem dX4_init_231 : decode cX4_init 231 = .ok (.dup, 1) := by decide +kernel
theorem dX4_init_232 : decode cX4_init 232 = .ok (.bipush 38, 2) := by decide +kernel
theorem dX4_init_234 : decode cX4_init 234 = .ok (.ldc 45, 2) := by decide +kernel
theorem dX4_init_236 : decode cX4_init 236 = .ok (.iastore, 1) := by decide +kernel
theorem dX4_init_237 : decode cX4_init 237 = .ok (.dup, 1) := by decide +kernel
theorem dX4_init_238 : decode cX4_init 238 = .ok (.bipush 39, 2) := by decide +kernel
theorem dX4_init_240 : decode cX4_init 240 = .ok (.ldc 46, 2) := by decide +kernel
theorem dX4_init_242 : decode cX4_init 242 = .ok (.iastore, 1) := by decide +kernel
theorem dX4_init_243 : decode cX4_init 243 = .ok (.dup, 1) := by decide +kernel
theorem dX4_init_244 : decode cX4_init 244 = .ok (.bipush 40, 2) := by decide +kernel
theorem dX4_init_246 : decode cX4_init 246 = .ok (.ldc 47, 2) := by decide +kernel
theorem dX4_init_248 : decode cX4_init 248 = .ok (.iastore, 1) := by decide +kernel
theorem dX4_init_249 : decode cX4_init 249 = .ok (.dup, 1) := by decide +kernel
theorem dX4_init_250 : decode cX4_init 250 = .ok (.bipush 41, 2) := by decide +kernel
theorem dX4_init_252 : decode cX4_init 252 = .ok (.ldc 48, 2) := by decide +kernel
theorem dX4_init_254 : decode cX4_init 254 = .ok (.iastore, 1) := by decide +kernel
theorem dX4_init_255 : decode cX4_init 255 = .ok (.dup, 1) := by decide +kernel
theorem dX4_init_256 : decode cX4_init 256 = .ok (.bipush 42, 2) := by decide +kernel
theorem dX4_init_258 : decode cX4_init 258 = .ok (.ldc 49, 2) := by decide +kernel
theorem dX4_init_260 : decode cX4_init 260 = .ok (.iastore, 1) := by decide +kernel
theorem dX4_init_261 : decode cX4_init 261 = .ok (.dup, 1) := by decide +kernel
theorem dX4_init_262 : decode cX4_init 262 = .ok (.bipush 43, 2) := by decide +kernel
theorem dX4_init_264 : decode cX4_init 264 = .ok (.ldc 50, 2) := by decide +kernel
theorem dX4_init_266 : decode cX4_init 266 = .ok (.iastore, 1) := by decide +kernel
theorem dX4_init_267 : decode cX4_init 267 = .ok (.dup, 1) := by decide +kernel
theorem dX4_init_268 : decode cX4_init 268 = .ok (.bipush 44, 2) := by decide +kernel
theorem dX4_init_270 : decode cX4_init 270 = .ok (.ldc 51, 2) := by decide +kernel
theorem dX4_init_272 : decode cX4_init 272 = .ok (.iastore, 1) := by decide +kernel
theorem dX4_init_273 : decode cX4_init 273 = .ok (.dup, 1) := by decide +kernel
theorem dX4_init_274 : decode cX4_init 274 = .ok (.bipush 45, 2) := by decide +kernel
theorem dX4_init_276 : decode cX4_init 276 = .ok (.ldc 52, 2) := by decide +kernel
theorem dX4_init_278 : decode cX4_init 278 = .ok (.iastore, 1) := by decide +kernel
theorem dX4_init_279 : decode cX4_init 279 = .ok (.dup, 1) := by decide +kernel
theorem dX4_init_280 : decode cX4_init 280 = .ok (.bipush 46, 2) := by decide +kernel
theorem dX4_init_282 : decode cX4_init 282 = .ok (.ldc 53, 2) := by decide +kernel
theorem dX4_init_284 : decode cX4_init 284 = .ok (.iastore, 1) := by decide +kernel
theorem dX4_init_285 : decode cX4_init 285 = .ok (.dup, 1) := by decide +kernel
theorem dX4_init_286 : decode cX4_init 286 = .ok (.bipush 47, 2) := by decide +kernel
theorem dX4_init_288 : decode cX4_init 288 = .ok (.ldc 54, 2) := by decide +kernel
theorem dX4_init_290 : decode cX4_init 290 = .ok (.iastore, 1) := by decide +kernel
theorem dX4_init_291 : decode cX4_init 291 = .ok (.dup, 1) := by decide +kernel
theorem dX4_init_292 : decode cX4_init 292 = .ok (.bipush 48, 2) := by decide +kernel
theorem dX4_init_294 : decode cX4_init 294 = .ok (.ldc 55, 2) := by decide +kernel
theorem dX4_init_296 : decode cX4_init 296 = .ok (.iastore, 1) := by decide +kernel
theorem dX4_init_297 : decode cX4_init 297 = .ok (.dup, 1) := by decide +kernel
theorem dX4_init_298 : decode cX4_init 298 = .ok (.bipush 49, 2) := by decide +kernel
theorem dX4_init_300 : decode cX4_init 300 = .ok (.ldc 56, 2) := by decide +kernel
theorem dX4_init_302 : decode cX4_init 302 = .ok (.iastore, 1) := by decide +kernel
theorem dX4_init_303 : decode cX4_init 303 = .ok (.dup, 1) := by decide +kernel
theorem dX4_init_304 : decode cX4_init 304 = .ok (.bipush 50, 2) := by decide +kernel
theorem dX4_init_306 : decode cX4_init 306 = .ok (.ldc 57, 2) := by decide +kernel
theorem dX4_init_308 : decode cX4_init 308 = .ok (.iastore, 1) := by decide +kernel
theorem dX4_init_309 : decode cX4_init 309 = .ok (.dup, 1) := by decide +kernel
theorem dX4_init_310 : decode cX4_init 310 = .ok (.bipush 51, 2) := by decide +kernel
theorem dX4_init_312 : decode cX4_init 312 = .ok (.ldc 58, 2) := by decide +kernel
theorem dX4_init_314 : decode cX4_init 314 = .ok (.iastore, 1) := by decide +kernel
theorem dX4_init_315 : decode cX4_init 315 = .ok (.dup, 1) := by decide +kernel
theorem dX4_init_316 : decode cX4_init 316 = .ok (.bipush 52, 2) := by decide +kernel
theorem dX4_init_318 : decode cX4_init 318 = .ok (.ldc 59, 2) := by decide +kernel
theorem dX4_init_320 : decode cX4_init 320 = .ok (.iastore, 1) := by decide +kernel
theorem dX4_init_321 : decode cX4_init 321 = .ok (.dup, 1) := by decide +kernel
theorem dX4_init_322 : decode cX4_init 322 = .ok (.bipush 53, 2) := by decide +kernel
theorem dX4_init_324 : decode cX4_init 324 = .ok (.ldc 60, 2) := by decide +kernel
theorem dX4_init_326 : decode cX4_init 326 = .ok (.iastore, 1) := by decide +kernel
theorem dX4_init_327 : decode cX4_init 327 = .ok (.dup, 1) := by decide +kernel
theorem dX4_init_328 : decode cX4_init 328 = .ok (.bipush 54, 2) := by decide +kernel
theorem dX4_init_330 : decode cX4_init 330 = .ok (.ldc 61, 2) := by decide +kernel
theorem dX4_init_332 : decode cX4_init 332 = .ok (.iastore, 1) := by decide +kernel
theorem dX4_init_333 : decode cX4_init 333 = .ok (.dup, 1) := by decide +kernel
theorem dX4_init_334 : decode cX4_init 334 = .ok (.bipush 55, 2) := by decide +kernel
theorem dX4_init_336 : decode cX4_init 336 = .ok (.ldc 62, 2) := by decide +kernel
theorem dX4_init_338 : decode cX4_init 338 = .ok (.iastore, 1) := by decide +kernel
theorem dX4_init_339 : decode cX4_init 339 = .ok (.dup, 1) := by decide +kernel
theorem dX4_init_340 : decode cX4_init 340 = .ok (.bipush 56, 2) := by decide +kernel
theorem dX4_init_342 : decode cX4_init 342 = .ok (.ldc 63, 2) := by decide +kernel
theorem dX4_init_344 : decode cX4_init 344 = .ok (.iastore, 1) := by decide +kernel
theorem dX4_init_345 : decode cX4_init 345 = .ok (.dup, 1) := by decide +kernel
theorem dX4_init_346 : decode cX4_init 346 = .ok (.bipush 57, 2) := by decide +kernel
theorem dX4_init_348 : decode cX4_init 348 = .ok (.ldc 64, 2) := by decide +kernel
theorem dX4_init_350 : decode cX4_init 350 = .ok (.iastore, 1) := by decide +kernel
theorem dX4_init_351 : decode cX4_init 351 = .ok (.dup, 1) := by decide +kernel
theorem dX4_init_352 : decode cX4_init 352 = .ok (.bipush 58, 2) := by decide +kernel
theorem dX4_init_354 : decode cX4_init 354 = .ok (.ldc 65, 2) := by decide +kernel
theorem dX4_init_356 : decode cX4_init 356 = .ok (.iastore, 1) := by decide +kernel
theorem dX4_init_357 : decode cX4_init 357 = .ok (.dup, 1) := by decide +kernel
theorem dX4_init_358 : decode cX4_init 358 = .ok (.bipush 59, 2) := by decide +kernel
theorem dX4_init_360 : decode cX4_init 360 = .ok (.ldc 66, 2) := by decide +kernel
theorem dX4_init_362 : decode cX4_init 362 = .ok (.iastore, 1) := by decide +kernel
theorem dX4_init_363 : decode cX4_init 363 = .ok (.dup, 1) := by decide +kernel
theorem dX4_init_364 : decode cX4_init 364 = .ok (.bipush 60, 2) := by decide +kernel
theorem dX4_init_366 : decode cX4_init 366 = .ok (.ldc 67, 2) := by decide +kernel
theorem dX4_init_368 : decode cX4_init 368 = .ok (.iastore, 1) := by decide +kernel
theorem dX4_init_369 : decode cX4_init 369 = .ok (.dup, 1) := by decide +kernel
theorem dX4_init_370 : decode cX4_init 370 = .ok (.bipush 61, 2) := by decide +kernel
theorem dX4_init_372 : decode cX4_init 372 = .ok (.ldc 68, 2) := by decide +kernel
theorem dX4_init_374 : decode cX4_init 374 = .ok (.iastore, 1) := by decide +kernel
theorem dX4_init_375 : decode cX4_init 375 = .ok (.dup, 1) := by decide +kernel
theorem dX4_init_376 : decode cX4_init 376 = .ok (.bipush 62, 2) := by decide +kernel
theorem dX4_init_378 : decode cX4_init 378 = .ok (.ldc 69, 2) := by decide +kernel
theorem dX4_init_380 : decode cX4_init 380 = .ok (.iastore, 1) := by decide +kernel
theorem dX4_init_381 : decode cX4_init 381 = .ok (.dup, 1) := by decide +kernel
theorem dX4_init_382 : decode cX4_init 382 = .ok (.bipush 63, 2) := by decide +kernel
theorem dX4_init_384 : decode cX4_init 384 = .ok (.ldc 70, 2) := by decide +kernel
theorem dX4_init_386 : decode cX4_init 386 = .ok (.iastore, 1) := by decide +kernel
theorem dX4_init_387 : decode cX4_init 387 = .ok (.putfield 71, 3) := by decide +kernel
theorem dX4_init_390 : decode cX4_init 390 = .ok (.aload_n 0, 1) := by decide +kernel
theorem dX4_init_391 : decode cX4_init 391 = .ok (.bipush 8, 2) := by decide +kernel
theorem dX4_init_393 : decode cX4_init 393 = .ok (.newarray .int, 2) := by decide +kernel
theorem dX4_init_395 : decode cX4_init 395 = .ok (.dup, 1) := by decide +kernel
theorem dX4_init_396 : decode cX4_init 396 = .ok (.iconst 0, 1) := by decide +kernel
theorem dX4_init_397 : decode cX4_init 397 = .ok (.ldc 77, 2) := by decide +kernel
theorem dX4_init_399 : decode cX4_init 399 = .ok (.iastore, 1) := by decide +kernel
theorem dX4_init_400 : decode cX4_init 400 = .ok (.dup, 1) := by decide +kernel
theorem dX4_init_401 : decode cX4_init 401 = .ok (.iconst 1, 1) := by decide +kernel
theorem dX4_init_402 : decode cX4_init 402 = .ok (.ldc 78, 2) := by decide +kernel
theorem dX4_init_404 : decode cX4_init 404 = .ok (.iastore, 1) := by decide +kernel
theorem dX4_init_405 : decode cX4_init 405 = .ok (.dup, 1) := by decide +kernel
theorem dX4_init_406 : decode cX4_init 406 = .ok (.iconst 2, 1) := by decide +kernel
theorem dX4_init_407 : decode cX4_init 407 = .ok (.ldc 79, 2) := by decide +kernel
theorem dX4_init_409 : decode cX4_init 409 = .ok (.iastore, 1) := by decide +kernel
theorem dX4_init_410 : decode cX4_init 410 = .ok (.dup, 1) := by decide +kernel
theorem dX4_init_411 : decode cX4_init 411 = .ok (.iconst 3, 1) := by decide +kernel
theorem dX4_init_412 : decode cX4_init 412 = .ok (.ldc 80, 2) := by decide +kernel
theorem dX4_init_414 : decode cX4_init 414 = .ok (.iastore, 1) := by decide +kernel
theorem dX4_init_415 : decode cX4_init 415 = .ok (.dup, 1) := by decide +kernel
theorem dX4_init_416 : decode cX4_init 416 = .ok (.iconst 4, 1) := by decide +kernel
theorem dX4_init_417 : decode cX4_init 417 = .ok (.ldc 81, 2) := by decide +kernel
theorem dX4_init_419 : decode cX4_init 419 = .ok (.iastore, 1) := by decide +kernel
theorem dX4_init_420 : decode cX4_init 420 = .ok (.dup, 1) := by decide +kernel
theorem dX4_init_421 : decode cX4_init 421 = .ok (.iconst 5, 1) := by decide +kernel
theorem dX4_init_422 : decode cX4_init 422 = .ok (.ldc 82, 2) := by decide +kernel
theorem dX4_init_424 : decode cX4_init 424 = .ok (.iastore, 1) := by decide +kernel
theorem dX4_init_425 : decode cX4_init 425 = .ok (.dup, 1) := by decide +kernel
theorem dX4_init_426 : decode cX4_init 426 = .ok (.bipush 6, 2) := by decide +kernel
theorem dX4_init_428 : decode cX4_init 428 = .ok (.ldc 83, 2) := by decide +kernel
theorem dX4_init_430 : decode cX4_init 430 = .ok (.iastore, 1) := by decide +kernel
theorem dX4_init_431 : decode cX4_init 431 = .ok (.dup, 1) := by decide +kernel
theorem dX4_init_432 : decode cX4_init 432 = .ok (.bipush 7, 2) := by decide +kernel
theorem dX4_init_434 : decode cX4_init 434 = .ok (.ldc 84, 2) := by decide +kernel
theorem dX4_init_436 : decode cX4_init 436 = .ok (.iastore, 1) := by decide +kernel
theorem dX4_init_437 : decode cX4_init 437 = .ok (.putfield 85, 3) := by decide +kernel
theorem dX4_init_440 : decode cX4_init 440 = .ok (.aload_n 0, 1) := by decide +kernel
theorem dX4_init_441 : decode cX4_init 441 = .ok (.sipush 18300, 3) := by decide +kernel
theorem dX4_init_444 : decode cX4_init 444 = .ok (.newarray .int, 2) := by decide +kernel
theorem dX4_init_446 : decode cX4_init 446 = .ok (.putfield 88, 3) := by decide +kernel
theorem dX4_init_449 : decode cX4_init 449 = .ok (.aload_n 0, 1) := by decide +kernel
theorem dX4_init_450 : decode cX4_init 450 = .ok (.sipush 18300, 3) := by decide +kernel
theorem dX4_init_453 : decode cX4_init 453 = .ok (.newarray .int, 2) := by decide +kernel
theorem dX4_init_455 : decode cX4_init 455 = .ok (.putfield 91, 3) := by decide +kernel
theorem dX4_init_458 : decode cX4_init 458 = .ok (.aload_n 0, 1) := by decide +kernel
theorem dX4_init_459 : decode cX4_init 459 = .ok (.bipush 61, 2) := by decide +kernel
theorem dX4_init_461 : decode cX4_init 461 = .ok (.newarray .int, 2) := by decide +kernel
theorem dX4_init_463 : decode cX4_init 463 = .ok (.putfield 94, 3) := by decide +kernel
theorem dX4_init_466 : decode cX4_init 466 = .ok (.aload_n 0, 1) := by decide +kernel
theorem dX4_init_467 : decode cX4_init 467 = .ok (.sipush 488, 3) := by decide +kernel
theorem dX4_init_470 : decode cX4_init 470 = .ok (.newarray .int, 2) := by decide +kernel
theorem dX4_init_472 : decode cX4_init 472 = .ok (.putfield 97, 3) := by decide +kernel
theorem dX4_init_475 : decode cX4_init 475 = .ok (.aload_n 0, 1) := by decide +kernel
theorem dX4_init_476 : decode cX4_init 476 = .ok (.sipush 128, 3) := by decide +kernel
theorem dX4_init_479 : decode cX4_init 479 = .ok (.newarray .int, 2) := by decide +kernel
theorem dX4_init_481 : decode cX4_init 481 = .ok (.putfield 100, 3) := by decide +kernel
theorem dX4_init_484 : decode cX4_init 484 = .ok (.aload_n 0, 1) := by decide +kernel
theorem dX4_init_485 : decode cX4_init 485 = .ok (.bipush 64, 2) := by decide +kernel
theorem dX4_init_487 : decode cX4_init 487 = .ok (.newarray .int, 2) := by decide +kernel
theorem dX4_init_489 : decode cX4_init 489 = .ok (.putfield 103, 3) := by decide +kernel
theorem dX4_init_492 : decode cX4_init 492 = .ok (.aload_n 0, 1) := by decide +kernel
theorem dX4_init_493 : decode cX4_init 493 = .ok (.bipush 8, 2) := by decide +kernel
theorem dX4_init_495 : decode cX4_init 495 = .ok (.newarray .int, 2) := by decide +kernel
theorem dX4_init_497 : decode cX4_init 497 = .ok (.putfield 106, 3) := by decide +kernel
theorem dX4_init_500 : decode cX4_init 500 = .ok (.aload_n 0, 1) := by decide +kernel
theorem dX4_init_501 : decode cX4_init 501 = .ok (.sipush 300, 3) := by decide +kernel
theorem dX4_init_504 : decode cX4_init 504 = .ok (.newarray .int, 2) := by decide +kernel
theorem dX4_init_506 : decode cX4_init 506 = .ok (.putfield 109, 3) := by decide +kernel
theorem dX4_init_509 : decode cX4_init 509 = .ok (.aload_n 0, 1) := by decide +kernel
theorem dX4_init_510 : decode cX4_init 510 = .ok (.sipush 300, 3) := by decide +kernel
theorem dX4_init_513 : decode cX4_init 513 = .ok (.newarray .int, 2) := by decide +kernel
theorem dX4_init_515 : decode cX4_init 515 = .ok (.putfield 112, 3) := by decide +kernel
theorem dX4_init_518 : decode cX4_init 518 = .ok (.aload_n 0, 1) := by decide +kernel
theorem dX4_init_519 : decode cX4_init 519 = .ok (.sipush 300, 3) := by decide +kernel
theorem dX4_init_522 : decode cX4_init 522 = .ok (.newarray .int, 2) := by decide +kernel
theorem dX4_init_524 : decode cX4_init 524 = .ok (.putfield 115, 3) := by decide +kernel
theorem dX4_init_527 : decode cX4_init 527 = .ok (.aload_n 0, 1) := by decide +kernel
theorem dX4_init_528 : decode cX4_init 528 = .ok (.sipush 2400, 3) := by decide +kernel
theorem dX4_init_531 : decode cX4_init 531 = .ok (.newarray .int, 2) := by decide +kernel
theorem dX4_init_533 : decode cX4_init 533 = .ok (.putfield 118, 3) := by decide +kernel
theorem dX4_init_536 : decode cX4_init 536 = .ok (.aload_n 0, 1) := by decide +kernel
theorem dX4_init_537 : decode cX4_init 537 = .ok (.bipush 17, 2) := by decide +kernel
theorem dX4_init_539 : decode cX4_init 539 = .ok (.newarray .int, 2) := by decide +kernel
theorem dX4_init_541 : decode cX4_init 541 = .ok (.putfield 121, 3) := by decide +kernel
theorem dX4_init_544 : decode cX4_init 544 = .ok (.aload_n 0, 1) := by decide +kernel
theorem dX4_init_545 : decode cX4_init 545 = .ok (.bipush 17, 2) := by decide +kernel
theorem dX4_init_547 : decode cX4_init 547 = .ok (.newarray .int, 2) := by decide +kernel
theorem dX4_init_549 : decode cX4_init 549 = .ok (.putfield 124, 3) := by decide +kernel
theorem dX4_init_552 : decode cX4_init 552 = .ok (.aload_n 0, 1) := by decide +kernel
theorem dX4_init_553 : decode cX4_init 553 = .ok (.sipush 136, 3) := by decide +kernel
theorem dX4_init_556 : decode cX4_init 556 = .ok (.newarray .int, 2) := by decide +kernel
theorem dX4_init_558 : decode cX4_init 558 = .ok (.putfield 127, 3) := by decide +kernel
theorem dX4_init_561 : decode cX4_init 561 = .ok (.aload_n 0, 1) := by decide +kernel
theorem dX4_init_562 : decode cX4_init 562 = .ok (.sipush 128, 3) := by decide +kernel
theorem dX4_init_565 : decode cX4_init 565 = .ok (.newarray .int, 2) := by decide +kernel
theorem dX4_init_567 : decode cX4_init 567 = .ok (.putfield 130, 3) := by decide +kernel
theorem dX4_init_570 : decode cX4_init 570 = .ok (.return_, 1) := by decide +kernel
theorem dX4_isKey_0 : decode cX4_isKey 0 = .ok (.iload_n 0, 1) := by decide +kernel
theorem dX4_isKey_1 : decode cX4_isKey 1 = .ok (.ifCond .lt 13, 3) := by decide +kernel
theorem dX4_isKey_4 : decode cX4_isKey 4 = .ok (.iload_n 0, 1) := by decide +kernel
theorem dX4_isKey_5 : decode cX4_isKey 5 = .ok (.ldc 133, 2) := by decide +kernel
theorem dX4_isKey_7 : decode cX4_isKey 7 = .ok (.if_icmp .ge 7, 3) := by decide +kernel
theorem dX4_isKey_10 : decode cX4_isKey 10 = .ok (.iconst 1, 1) := by decide +kernel
theorem dX4_isKey_11 : decode cX4_isKey 11 = .ok (.goto 4, 3) := by decide +kernel
theorem dX4_isKey_14 : decode cX4_isKey 14 = .ok (.iconst 0, 1) := by decide +kernel
theorem dX4_isKey_15 : decode cX4_isKey 15 = .ok (.ireturn, 1) := by decide +kernel
theorem dX4_isVersion_0 : decode cX4_isVersion 0 = .ok (.iload_n 1, 1) := by decide +kernel
theorem dX4_isVersion_1 : decode cX4_isVersion 1 = .ok (.iconst (-1), 1) := by decide +kernel
theorem dX4_isVersion_2 : decode cX4_isVersion 2 = .ok (.if_icmp .lt 15, 3) := by decide +kernel
theorem dX4_isVersion_5 : decode cX4_isVersion 5 = .ok (.iload_n 1, 1) := by decide +kernel
theorem dX4_isVersion_6 : decode cX4_isVersion 6 = .ok (.aload_n 0, 1) := by decide +kernel
theorem dX4_isVersion_7 : decode cX4_isVersion 7 = .ok (.getfield 134, 3) := by decide +kernel
theorem dX4_isVersion_10 : decode cX4_isVersion 10 = .ok (.if_icmp .ge 7, 3) := by decide +kernel
theorem dX4_isVersion_13 : decode cX4_isVersion 13 = .ok (.iconst 1, 1) := by decide +kernel
theorem dX4_isVersion_14 : decode cX4_isVersion 14 = .ok (.goto 4, 3) := by decide +kernel
theorem dX4_isVersion_17 : decode cX4_isVersion 17 = .ok (.iconst 0, 1) := by decide +kernel
theorem dX4_isVersion_18 : decode cX4_isVersion 18 = .ok (.ireturn, 1) := by decide +kernel
theorem dX4_rowOf_0 : decode cX4_rowOf 0 = .ok (.iload_n 0, 1) := by decide +kernel
theorem dX4_rowOf_1 : decode cX4_rowOf 1 = .ok (.ifCond .ge 8, 3) := by decide +kernel
theorem dX4_rowOf_4 : decode cX4_rowOf 4 = .ok (.bipush 60, 2) := by decide +kernel
theorem dX4_rowOf_6 : decode cX4_rowOf 6 = .ok (.goto 4, 3) := by decide +kernel
theorem dX4_rowOf_9 : decode cX4_rowOf 9 = .ok (.iload_n 0, 1) := by decide +kernel
theorem dX4_rowOf_10 : decode cX4_rowOf 10 = .ok (.ireturn, 1) := by decide +kernel
theorem dX4_turned_0 : decode cX4_turned 0 = .ok (.iload_n 0, 1) := by decide +kernel
theorem dX4_turned_1 : decode cX4_turned 1 = .ok (.iload_n 1, 1) := by decide +kernel
theorem dX4_turned_2 : decode cX4_turned 2 = .ok (.iushr, 1) := by decide +kernel
theorem dX4_turned_3 : decode cX4_turned 3 = .ok (.iload_n 0, 1) := by decide +kernel
theorem dX4_turned_4 : decode cX4_turned 4 = .ok (.bipush 32, 2) := by decide +kernel
theorem dX4_turned_6 : decode cX4_turned 6 = .ok (.iload_n 1, 1) := by decide +kernel
theorem dX4_turned_7 : decode cX4_turned 7 = .ok (.isub, 1) := by decide +kernel
theorem dX4_turned_8 : decode cX4_turned 8 = .ok (.ishl, 1) := by decide +kernel
theorem dX4_turned_9 : decode cX4_turned 9 = .ok (.ior, 1) := by decide +kernel
theorem dX4_turned_10 : decode cX4_turned 10 = .ok (.ireturn, 1) := by decide +kernel
theorem dX4_mix_0 : decode cX4_mix 0 = .ok (.iconst 0, 1) := by decide +kernel
theorem dX4_mix_1 : decode cX4_mix 1 = .ok (.istore_n 2, 1) := by decide +kernel
theorem dX4_mix_2 : decode cX4_mix 2 = .ok (.iload_n 2, 1) := by decide +kernel
theorem dX4_mix_3 : decode cX4_mix 3 = .ok (.bipush 16, 2) := by decide +kernel
theorem dX4_mix_5 : decode cX4_mix 5 = .ok (.if_icmp .ge 63, 3) := by decide +kernel
theorem dX4_mix_8 : decode cX4_mix 8 = .ok (.iload_n 1, 1) := by decide +kernel
theorem dX4_mix_9 : decode cX4_mix 9 = .ok (.iconst 4, 1) := by decide +kernel
theorem dX4_mix_10 : decode cX4_mix 10 = .ok (.iload_n 2, 1) := by decide +kernel
theorem dX4_mix_11 : decode cX4_mix 11 = .ok (.imul, 1) := by decide +kernel
theorem dX4_mix_12 : decode cX4_mix 12 = .ok (.iadd, 1) := by decide +kernel
theorem dX4_mix_13 : decode cX4_mix 13 = .ok (.istore_n 3, 1) := by decide +kernel
theorem dX4_mix_14 : decode cX4_mix 14 = .ok (.aload_n 0, 1) := by decide +kernel
theorem dX4_mix_15 : decode cX4_mix 15 = .ok (.getfield 103, 3) := by decide +kernel
theorem dX4_mix_18 : decode cX4_mix 18 = .ok (.iload_n 2, 1) := by decide +kernel
theorem dX4_mix_19 : decode cX4_mix 19 = .ok (.aload_n 0, 1) := by decide +kernel
theorem dX4_mix_20 : decode cX4_mix 20 = .ok (.getfield 100, 3) := by decide +kernel
theorem dX4_mix_23 : decode cX4_mix 23 = .ok (.iload_n 3, 1) := by decide +kernel
theorem dX4_mix_24 : decode cX4_mix 24 = .ok (.iaload, 1) := by decide +kernel
theorem dX4_mix_25 : decode cX4_mix 25 = .ok (.bipush 24, 2) := by decide +kernel
theorem dX4_mix_27 : decode cX4_mix 27 = .ok (.ishl, 1) := by decide +kernel
theorem dX4_mix_28 : decode cX4_mix 28 = .ok (.aload_n 0, 1) := by decide +kernel
theorem dX4_mix_29 : decode cX4_mix 29 = .ok (.getfield 100, 3) := by decide +kernel
theorem dX4_mix_32 : decode cX4_mix 32 = .ok (.iload_n 3, 1) := by decide +kernel
theorem dX4_mix_33 : decode cX4_mix 33 = .ok (.iconst 1, 1) := by decide +kernel
theorem dX4_mix_34 : decode cX4_mix 34 = .ok (.iadd, 1) := by decide +kernel
theorem dX4_mix_35 : decode cX4_mix 35 = .ok (.iaload, 1) := by decide +kernel
theorem dX4_mix_36 : decode cX4_mix 36 = .ok (.bipush 16, 2) := by decide +kernel
theorem dX4_mix_38 : decode cX4_mix 38 = .ok (.ishl, 1) := by decide +kernel
theorem dX4_mix_39 : decode cX4_mix 39 = .ok (.ior, 1) := by decide +kernel
theorem dX4_mix_40 : decode cX4_mix 40 = .ok (.aload_n 0, 1) := by decide +kernel
theorem dX4_mix_41 : decode cX4_mix 41 = .ok (.getfield 100, 3) := by decide +kernel
theorem dX4_mix_44 : decode cX4_mix 44 = .ok (.iload_n 3, 1) := by decide +kernel
theorem dX4_mix_45 : decode cX4_mix 45 = .ok (.iconst 2, 1) := by decide +kernel
theorem dX4_mix_46 : decode cX4_mix 46 = .ok (.iadd, 1) := by decide +kernel
theorem dX4_mix_47 : decode cX4_mix 47 = .ok (.iaload, 1) := by decide +kernel
theorem dX4_mix_48 : decode cX4_mix 48 = .ok (.bipush 8, 2) := by decide +kernel
theorem dX4_mix_50 : decode cX4_mix 50 = .ok (.ishl, 1) := by decide +kernel
theorem dX4_mix_51 : decode cX4_mix 51 = .ok (.ior, 1) := by decide +kernel
theorem dX4_mix_52 : decode cX4_mix 52 = .ok (.aload_n 0, 1) := by decide +kernel
theorem dX4_mix_53 : decode cX4_mix 53 = .ok (.getfield 100, 3) := by decide +kernel
theorem dX4_mix_56 : decode cX4_mix 56 = .ok (.iload_n 3, 1) := by decide +kernel
theorem dX4_mix_57 : decode cX4_mix 57 = .ok (.iconst 3, 1) := by decide +kernel
theorem dX4_mix_58 : decode cX4_mix 58 = .ok (.iadd, 1) := by decide +kernel
theorem dX4_mix_59 : decode cX4_mix 59 = .ok (.iaload, 1) := by decide +kernel
theorem dX4_mix_60 : decode cX4_mix 60 = .ok (.ior, 1) := by decide +kernel
theorem dX4_mix_61 : decode cX4_mix 61 = .ok (.iastore, 1) := by decide +kernel
theorem dX4_mix_62 : decode cX4_mix 62 = .ok (.iinc 2 1, 3) := by decide +kernel
theorem dX4_mix_65 : decode cX4_mix 65 = .ok (.goto (-63), 3) := by decide +kernel
theorem dX4_mix_68 : decode cX4_mix 68 = .ok (.bipush 16, 2) := by decide +kernel
theorem dX4_mix_70 : decode cX4_mix 70 = .ok (.istore_n 2, 1) := by decide +kernel
theorem dX4_mix_71 : decode cX4_mix 71 = .ok (.iload_n 2, 1) := by decide +kernel
theorem dX4_mix_72 : decode cX4_mix 72 = .ok (.bipush 64, 2) := by decide +kernel
theorem dX4_mix_74 : decode cX4_mix 74 = .ok (.if_icmp .ge 94, 3) := by decide +kernel
theorem dX4_mix_77 : decode cX4_mix 77 = .ok (.aload_n 0, 1) := by decide +kernel
theorem dX4_mix_78 : decode cX4_mix 78 = .ok (.getfield 103, 3) := by decide +kernel
theorem dX4_mix_81 : decode cX4_mix 81 = .ok (.iload_n 2, 1) := by decide +kernel
theorem dX4_mix_82 : decode cX4_mix 82 = .ok (.bipush 15, 2) := by decide +kernel
theorem dX4_mix_84 : decode cX4_mix 84 = .ok (.isub, 1) := by decide +kernel
theorem dX4_mix_85 : decode cX4_mix 85 = .ok (.iaload, 1) := by decide +kernel
theorem dX4_mix_86 : decode cX4_mix 86 = .ok (.istore_n 3, 1) := by decide +kernel
theorem dX4_mix_87 : decode cX4_mix 87 = .ok (.aload_n 0, 1) := by decide +kernel
theorem dX4_mix_88 : decode cX4_mix 88 = .ok (.getfield 103, 3) := by decide +kernel
theorem dX4_mix_91 : decode cX4_mix 91 = .ok (.iload_n 2, 1) := by decide +kernel
theorem dX4_mix_92 : decode cX4_mix 92 = .ok (.iconst 2, 1) := by decide +kernel
theorem dX4_mix_93 : decode cX4_mix 93 = .ok (.isub, 1) := by decide +kernel
theorem dX4_mix_94 : decode cX4_mix 94 = .ok (.iaload, 1) := by decide +kernel
theorem dX4_mix_95 : decode cX4_mix 95 = .ok (.istore 4, 2) := by decide +kernel
theorem dX4_mix_97 : decode cX4_mix 97 = .ok (.aload_n 0, 1) := by decide +kernel
theorem dX4_mix_98 : decode cX4_mix 98 = .ok (.getfield 103, 3) := by decide +kernel
theorem dX4_mix_101 : decode cX4_mix 101 = .ok (.iload_n 2, 1) := by decide +kernel
theorem dX4_mix_102 : decode cX4_mix 102 = .ok (.aload_n 0, 1) := by decide +kernel
theorem dX4_mix_103 : decode cX4_mix 103 = .ok (.getfield 103, 3) := by decide +kernel
theorem dX4_mix_106 : decode cX4_mix 106 = .ok (.iload_n 2, 1) := by decide +kernel
theorem dX4_mix_107 : decode cX4_mix 107 = .ok (.bipush 16, 2) := by decide +kernel
theorem dX4_mix_109 : decode cX4_mix 109 = .ok (.isub, 1) := by decide +kernel
theorem dX4_mix_110 : decode cX4_mix 110 = .ok (.iaload, 1) := by decide +kernel
theorem dX4_mix_111 : decode cX4_mix 111 = .ok (.iload_n 3, 1) := by decide +kernel
theorem dX4_mix_112 : decode cX4_mix 112 = .ok (.bipush 7, 2) := by decide +kernel
theorem dX4_mix_114 : decode cX4_mix 114 = .ok (.invokestatic 138, 3) := by decide +kernel
theorem dX4_mix_117 : decode cX4_mix 117 = .ok (.iload_n 3, 1) := by decide +kernel
theorem dX4_mix_118 : decode cX4_mix 118 = .ok (.bipush 18, 2) := by decide +kernel
theorem dX4_mix_120 : decode cX4_mix 120 = .ok (.invokestatic 138, 3) := by decide +kernel
theorem dX4_mix_123 : decode cX4_mix 123 = .ok (.ixor, 1) := by decide +kernel
theorem dX4_mix_124 : decode cX4_mix 124 = .ok (.iload_n 3, 1) := by decide +kernel
theorem dX4_mix_125 : decode cX4_mix 125 = .ok (.iconst 3, 1) := by decide +kernel
theorem dX4_mix_126 : decode cX4_mix 126 = .ok (.iushr, 1) := by decide +kernel
theorem dX4_mix_127 : decode cX4_mix 127 = .ok (.ixor, 1) := by decide +kernel
theorem dX4_mix_128 : decode cX4_mix 128 = .ok (.iadd, 1) := by decide +kernel
theorem dX4_mix_129 : decode cX4_mix 129 = .ok (.aload_n 0, 1) := by decide +kernel
theorem dX4_mix_130 : decode cX4_mix 130 = .ok (.getfield 103, 3) := by decide +kernel
theorem dX4_mix_133 : decode cX4_mix 133 = .ok (.iload_n 2, 1) := by decide +kernel
theorem dX4_mix_134 : decode cX4_mix 134 = .ok (.bipush 7, 2) := by decide +kernel
theorem dX4_mix_136 : decode cX4_mix 136 = .ok (.isub, 1) := by decide +kernel
theorem dX4_mix_137 : decode cX4_mix 137 = .ok (.iaload, 1) := by decide +kernel
theorem dX4_mix_138 : decode cX4_mix 138 = .ok (.iadd, 1) := by decide +kernel
theorem dX4_mix_139 : decode cX4_mix 139 = .ok (.iload 4, 2) := by decide +kernel
theorem dX4_mix_141 : decode cX4_mix 141 = .ok (.bipush 17, 2) := by decide +kernel
theorem dX4_mix_143 : decode cX4_mix 143 = .ok (.invokestatic 138, 3) := by decide +kernel
theorem dX4_mix_146 : decode cX4_mix 146 = .ok (.iload 4, 2) := by decide +kernel
theorem dX4_mix_148 : decode cX4_mix 148 = .ok (.bipush 19, 2) := by decide +kernel
theorem dX4_mix_150 : decode cX4_mix 150 = .ok (.invokestatic 138, 3) := by decide +kernel
theorem dX4_mix_153 : decode cX4_mix 153 = .ok (.ixor, 1) := by decide +kernel
theorem dX4_mix_154 : decode cX4_mix 154 = .ok (.iload 4, 2) := by decide +kernel
theorem dX4_mix_156 : decode cX4_mix 156 = .ok (.bipush 10, 2) := by decide +kernel
theorem dX4_mix_158 : decode cX4_mix 158 = .ok (.iushr, 1) := by decide +kernel
theorem dX4_mix_159 : decode cX4_mix 159 = .ok (.ixor, 1) := by decide +kernel
theorem dX4_mix_160 : decode cX4_mix 160 = .ok (.iadd, 1) := by decide +kernel
theorem dX4_mix_161 : decode cX4_mix 161 = .ok (.iastore, 1) := by decide +kernel
theorem dX4_mix_162 : decode cX4_mix 162 = .ok (.iinc 2 1, 3) := by decide +kernel
theorem dX4_mix_165 : decode cX4_mix 165 = .ok (.goto (-94), 3) := by decide +kernel
theorem dX4_mix_168 : decode cX4_mix 168 = .ok (.aload_n 0, 1) := by decide +kernel
theorem dX4_mix_169 : decode cX4_mix 169 = .ok (.getfield 106, 3) := by decide +kernel
theorem dX4_mix_172 : decode cX4_mix 172 = .ok (.iconst 0, 1) := by decide +kernel
theorem dX4_mix_173 : decode cX4_mix 173 = .ok (.iaload, 1) := by decide +kernel
theorem dX4_mix_174 : decode cX4_mix 174 = .ok (.istore_n 2, 1) := by decide +kernel
theorem dX4_mix_175 : decode cX4_mix 175 = .ok (.aload_n 0, 1) := by decide +kernel
theorem dX4_mix_176 : decode cX4_mix 176 = .ok (.getfield 106, 3) := by decide +kernel
theorem dX4_mix_179 : decode cX4_mix 179 = .ok (.iconst 1, 1) := by decide +kernel
theorem dX4_mix_180 : decode cX4_mix 180 = .ok (.iaload, 1) := by decide +kernel
theorem dX4_mix_181 : decode cX4_mix 181 = .ok (.istore_n 3, 1) := by decide +kernel
theorem dX4_mix_182 : decode cX4_mix 182 = .ok (.aload_n 0, 1) := by decide +kernel
theorem dX4_mix_183 : decode cX4_mix 183 = .ok (.getfield 106, 3) := by decide +kernel
theorem dX4_mix_186 : decode cX4_mix 186 = .ok (.iconst 2, 1) := by decide +kernel
theorem dX4_mix_187 : decode cX4_mix 187 = .ok (.iaload, 1) := by decide +kernel
theorem dX4_mix_188 : decode cX4_mix 188 = .ok (.istore 4, 2) := by decide +kernel
theorem dX4_mix_190 : decode cX4_mix 190 = .ok (.aload_n 0, 1) := by decide +kernel
theorem dX4_mix_191 : decode cX4_mix 191 = .ok (.getfield 106, 3) := by decide +kernel
theorem dX4_mix_194 : decode cX4_mix 194 = .ok (.iconst 3, 1) := by decide +kernel
theorem dX4_mix_195 : decode cX4_mix 195 = .ok (.iaload, 1) := by decide +kernel
theorem dX4_mix_196 : decode cX4_mix 196 = .ok (.istore 5, 2) := by decide +kernel
theorem dX4_mix_198 : decode cX4_mix 198 = .ok (.aload_n 0, 1) := by decide +kernel
theorem dX4_mix_199 : decode cX4_mix 199 = .ok (.getfield 106, 3) := by decide +kernel
theorem dX4_mix_202 : decode cX4_mix 202 = .ok (.iconst 4, 1) := by decide +kernel
theorem dX4_mix_203 : decode cX4_mix 203 = .ok (.iaload, 1) := by decide +kernel
theorem dX4_mix_204 : decode cX4_mix 204 = .ok (.istore 6, 2) := by decide +kernel
theorem dX4_mix_206 : decode cX4_mix 206 = .ok (.aload_n 0, 1) := by decide +kernel
theorem dX4_mix_207 : decode cX4_mix 207 = .ok (.getfield 106, 3) := by decide +kernel
theorem dX4_mix_210 : decode cX4_mix 210 = .ok (.iconst 5, 1) := by decide +kernel
theorem dX4_mix_211 : decode cX4_mix 211 = .ok (.iaload, 1) := by decide +kernel
theorem dX4_mix_212 : decode cX4_mix 212 = .ok (.istore 7, 2) := by decide +kernel
theorem dX4_mix_214 : decode cX4_mix 214 = .ok (.aload_n 0, 1) := by decide +kernel
theorem dX4_mix_215 : decode cX4_mix 215 = .ok (.getfield 106, 3) := by decide +kernel
theorem dX4_mix_218 : decode cX4_mix 218 = .ok (.bipush 6, 2) := by decide +kernel
theorem dX4_mix_220 : decode cX4_mix 220 = .ok (.iaload, 1) := by decide +kernel
theorem dX4_mix_221 : decode cX4_mix 221 = .ok (.istore 8, 2) := by decide +kernel
theorem dX4_mix_223 : decode cX4_mix 223 = .ok (.aload_n 0, 1) := by decide +kernel
theorem dX4_mix_224 : decode cX4_mix 224 = .ok (.getfield 106, 3) := by decide +kernel
theorem dX4_mix_227 : decode cX4_mix 227 = .ok (.bipush 7, 2) := by decide +kernel
theorem dX4_mix_229 : decode cX4_mix 229 = .ok (.iaload, 1) := by decide +kernel
theorem dX4_mix_230 : decode cX4_mix 230 = .ok (.istore 9, 2) := by decide +kernel
theorem dX4_mix_232 : decode cX4_mix 232 = .ok (.iconst 0, 1) := by decide +kernel
theorem dX4_mix_233 : decode cX4_mix 233 = .ok (.istore 10, 2) := by decide +kernel
theorem dX4_mix_235 : decode cX4_mix 235 = .ok (.iload 10, 2) := by decide +kernel
theorem dX4_mix_237 : decode cX4_mix 237 = .ok (.bipush 64, 2) := by decide +kernel
theorem dX4_mix_239 : decode cX4_mix 239 = .ok (.if_icmp .ge 136, 3) := by decide +kernel
theorem dX4_mix_242 : decode cX4_mix 242 = .ok (.iload 9, 2) := by decide +kernel
theorem dX4_mix_244 : decode cX4_mix 244 = .ok (.iload 6, 2) := by decide +kernel
theorem dX4_mix_246 : decode cX4_mix 246 = .ok (.bipush 6, 2) := by decide +kernel
theorem dX4_mix_248 : decode cX4_mix 248 = .ok (.invokestatic 138, 3) := by decide +kernel
theorem dX4_mix_251 : decode cX4_mix 251 = .ok (.iload 6, 2) := by decide +kernel
theorem dX4_mix_253 : decode cX4_mix 253 = .ok (.bipush 11, 2) := by decide +kernel
theorem dX4_mix_255 : decode cX4_mix 255 = .ok (.invokestatic 138, 3) := by decide +kernel
theorem dX4_mix_258 : decode cX4_mix 258 = .ok (.ixor, 1) := by decide +kernel
theorem dX4_mix_259 : decode cX4_mix 259 = .ok (.iload 6, 2) := by decide +kernel
theorem dX4_mix_261 : decode cX4_mix 261 = .ok (.bipush 25, 2) := by decide +kernel
theorem dX4_mix_263 : decode cX4_mix 263 = .ok (.invokestatic 138, 3) := by decide +kernel
theorem dX4_mix_266 : decode cX4_mix 266 = .ok (.ixor, 1) := by decide +kernel
theorem dX4_mix_267 : decode cX4_mix 267 = .ok (.iadd, 1) := by decide +kernel
theorem dX4_mix_268 : decode cX4_mix 268 = .ok (.iload 6, 2) := by decide +kernel
theorem dX4_mix_270 : decode cX4_mix 270 = .ok (.iload 7, 2) := by decide +kernel
theorem dX4_mix_272 : decode cX4_mix 272 = .ok (.iand, 1) := by decide +kernel
theorem dX4_mix_273 : decode cX4_mix 273 = .ok (.iload 6, 2) := by decide +kernel
theorem dX4_mix_275 : decode cX4_mix 275 = .ok (.iconst (-1), 1) := by decide +kernel
theorem dX4_mix_276 : decode cX4_mix 276 = .ok (.ixor, 1) := by decide +kernel
theorem dX4_mix_277 : decode cX4_mix 277 = .ok (.iload 8, 2) := by decide +kernel
theorem dX4_mix_279 : decode cX4_mix 279 = .ok (.iand, 1) := by decide +kernel
theorem dX4_mix_280 : decode cX4_mix 280 = .ok (.ixor, 1) := by decide +kernel
theorem dX4_mix_281 : decode cX4_mix 281 = .ok (.iadd, 1) := by decide +kernel
theorem dX4_mix_282 : decode cX4_mix 282 = .ok (.aload_n 0, 1) := by decide +kernel
theorem dX4_mix_283 : decode cX4_mix 283 = .ok (.getfield 71, 3) := by decide +kernel
theorem dX4_mix_286 : decode cX4_mix 286 = .ok (.iload 10, 2) := by decide +kernel
theorem dX4_mix_288 : decode cX4_mix 288 = .ok (.iaload, 1) := by decide +kernel
theorem dX4_mix_289 : decode cX4_mix 289 = .ok (.iadd, 1) := by decide +kernel
theorem dX4_mix_290 : decode cX4_mix 290 = .ok (.aload_n 0, 1) := by decide +kernel
theorem dX4_mix_291 : decode cX4_mix 291 = .ok (.getfield 103, 3) := by decide +kernel
theorem dX4_mix_294 : decode cX4_mix 294 = .ok (.iload 10, 2) := by decide +kernel
theorem dX4_mix_296 : decode cX4_mix 296 = .ok (.iaload, 1) := by decide +kernel
theorem dX4_mix_297 : decode cX4_mix 297 = .ok (.iadd, 1) := by decide +kernel
theorem dX4_mix_298 : decode cX4_mix 298 = .ok (.istore 11, 2) := by decide +kernel
theorem dX4_mix_300 : decode cX4_mix 300 = .ok (.iload_n 2, 1) := by decide +kernel
theorem dX4_mix_301 : decode cX4_mix 301 = .ok (.iconst 2, 1) := by decide +kernel
theorem dX4_mix_302 : decode cX4_mix 302 = .ok (.invokestatic 138, 3) := by decide +kernel
theorem dX4_mix_305 : decode cX4_mix 305 = .ok (.iload_n 2, 1) := by decide +kernel
theorem dX4_mix_306 : decode cX4_mix 306 = .ok (.bipush 13, 2) := by decide +kernel
theorem dX4_mix_308 : decode cX4_mix 308 = .ok (.invokestatic 138, 3) := by decide +kernel
theorem dX4_mix_311 : decode cX4_mix 311 = .ok (.ixor, 1) := by decide +kernel
theorem dX4_mix_312 : decode cX4_mix 312 = .ok (.iload_n 2, 1) := by decide +kernel
theorem dX4_mix_313 : decode cX4_mix 313 = .ok (.bipush 22, 2) := by decide +kernel
theorem dX4_mix_315 : decode cX4_mix 315 = .ok (.invokestatic 138, 3) := by decide +kernel
theorem dX4_mix_318 : decode cX4_mix 318 = .ok (.ixor, 1) := by decide +kernel
theorem dX4_mix_319 : decode cX4_mix 319 = .ok (.iload_n 2, 1) := by decide +kernel
theorem dX4_mix_320 : decode cX4_mix 320 = .ok (.iload_n 3, 1) := by decide +kernel
theorem dX4_mix_321 : decode cX4_mix 321 = .ok (.iand, 1) := by decide +kernel
theorem dX4_mix_322 : decode cX4_mix 322 = .ok (.iload_n 2, 1) := by decide +kernel
theorem dX4_mix_323 : decode cX4_mix 323 = .ok (.iload 4, 2) := by decide +kernel
theorem dX4_mix_325 : decode cX4_mix 325 = .ok (.iand, 1) := by decide +kernel
theorem dX4_mix_326 : decode cX4_mix 326 = .ok (.ixor, 1) := by decide +kernel
theorem dX4_mix_327 : decode cX4_mix 327 = .ok (.iload_n 3, 1) := by decide +kernel
theorem dX4_mix_328 : decode cX4_mix 328 = .ok (.iload 4, 2) := by decide +kernel
theorem dX4_mix_330 : decode cX4_mix 330 = .ok (.iand, 1) := by decide +kernel
theorem dX4_mix_331 : decode cX4_mix 331 = .ok (.ixor, 1) := by decide +kernel
theorem dX4_mix_332 : decode cX4_mix 332 = .ok (.iadd, 1) := by decide +kernel
theorem dX4_mix_333 : decode cX4_mix 333 = .ok (.istore 12, 2) := by decide +kernel
theorem dX4_mix_335 : decode cX4_mix 335 = .ok (.iload 8, 2) := by decide +kernel
theorem dX4_mix_337 : decode cX4_mix 337 = .ok (.istore 9, 2) := by decide +kernel
theorem dX4_mix_339 : decode cX4_mix 339 = .ok (.iload 7, 2) := by decide +kernel
theorem dX4_mix_341 : decode cX4_mix 341 = .ok (.istore 8, 2) := by decide +kernel
theorem dX4_mix_343 : decode cX4_mix 343 = .ok (.iload 6, 2) := by decide +kernel
theorem dX4_mix_345 : decode cX4_mix 345 = .ok (.istore 7, 2) := by decide +kernel
theorem dX4_mix_347 : decode cX4_mix 347 = .ok (.iload 5, 2) := by decide +kernel
theorem dX4_mix_349 : decode cX4_mix 349 = .ok (.iload 11, 2) := by decide +kernel
theorem dX4_mix_351 : decode cX4_mix 351 = .ok (.iadd, 1) := by decide +kernel
theorem dX4_mix_352 : decode cX4_mix 352 = .ok (.istore 6, 2) := by decide +kernel
theorem dX4_mix_354 : decode cX4_mix 354 = .ok (.iload 4, 2) := by decide +kernel
theorem dX4_mix_356 : decode cX4_mix 356 = .ok (.istore 5, 2) := by decide +kernel
theorem dX4_mix_358 : decode cX4_mix 358 = .ok (.iload_n 3, 1) := by decide +kernel
theorem dX4_mix_359 : decode cX4_mix 359 = .ok (.istore 4, 2) := by decide +kernel
theorem dX4_mix_361 : decode cX4_mix 361 = .ok (.iload_n 2, 1) := by decide +kernel
theorem dX4_mix_362 : decode cX4_mix 362 = .ok (.istore_n 3, 1) := by decide +kernel
theorem dX4_mix_363 : decode cX4_mix 363 = .ok (.iload 11, 2) := by decide +kernel
theorem dX4_mix_365 : decode cX4_mix 365 = .ok (.iload 12, 2) := by decide +kernel
theorem dX4_mix_367 : decode cX4_mix 367 = .ok (.iadd, 1) := by decide +kernel
theorem dX4_mix_368 : decode cX4_mix 368 = .ok (.istore_n 2, 1) := by decide +kernel
theorem dX4_mix_369 : decode cX4_mix 369 = .ok (.iinc 10 1, 3) := by decide +kernel
theorem dX4_mix_372 : decode cX4_mix 372 = .ok (.goto (-137), 3) := by decide +kernel
theorem dX4_mix_375 : decode cX4_mix 375 = .ok (.aload_n 0, 1) := by decide +kernel
theorem dX4_mix_376 : decode cX4_mix 376 = .ok (.getfield 106, 3) := by decide +kernel
theorem dX4_mix_379 : decode cX4_mix 379 = .ok (.iconst 0, 1) := by decide +kernel
theorem dX4_mix_380 : decode cX4_mix 380 = .ok (.dup2, 1) := by decide +kernel
theorem dX4_mix_381 : decode cX4_mix 381 = .ok (.iaload, 1) := by decide +kernel
theorem dX4_mix_382 : decode cX4_mix 382 = .ok (.iload_n 2, 1) := by decide +kernel
theorem dX4_mix_383 : decode cX4_mix 383 = .ok (.iadd, 1) := by decide +kernel
theorem dX4_mix_384 : decode cX4_mix 384 = .ok (.iastore, 1) := by decide +kernel
theorem dX4_mix_385 : decode cX4_mix 385 = .ok (.aload_n 0, 1) := by decide +kernel
theorem dX4_mix_386 : decode cX4_mix 386 = .ok (.getfield 106, 3) := by decide +kernel
theorem dX4_mix_389 : decode cX4_mix 389 = .ok (.iconst 1, 1) := by decide +kernel
theorem dX4_mix_390 : decode cX4_mix 390 = .ok (.dup2, 1) := by decide +kernel
theorem dX4_mix_391 : decode cX4_mix 391 = .ok (.iaload, 1) := by decide +kernel
theorem dX4_mix_392 : decode cX4_mix 392 = .ok (.iload_n 3, 1) := by decide +kernel
theorem dX4_mix_393 : decode cX4_mix 393 = .ok (.iadd, 1) := by decide +kernel
theorem dX4_mix_394 : decode cX4_mix 394 = .ok (.iastore, 1) := by decide +kernel
theorem dX4_mix_395 : decode cX4_mix 395 = .ok (.aload_n 0, 1) := by decide +kernel
theorem dX4_mix_396 : decode cX4_mix 396 = .ok (.getfield 106, 3) := by decide +kernel
theorem dX4_mix_399 : decode cX4_mix 399 = .ok (.iconst 2, 1) := by decide +kernel
theorem dX4_mix_400 : decode cX4_mix 400 = .ok (.dup2, 1) := by decide +kernel
theorem dX4_mix_401 : decode cX4_mix 401 = .ok (.iaload, 1) := by decide +kernel
theorem dX4_mix_402 : decode cX4_mix 402 = .ok (.iload 4, 2) := by decide +kernel
theorem dX4_mix_404 : decode cX4_mix 404 = .ok (.iadd, 1) := by decide +kernel
theorem dX4_mix_405 : decode cX4_mix 405 = .ok (.iastore, 1) := by decide +kernel
theorem dX4_mix_406 : decode cX4_mix 406 = .ok (.aload_n 0, 1) := by decide +kernel
theorem dX4_mix_407 : decode cX4_mix 407 = .ok (.getfield 106, 3) := by decide +kernel
theorem dX4_mix_410 : decode cX4_mix 410 = .ok (.iconst 3, 1) := by decide +kernel
theorem dX4_mix_411 : decode cX4_mix 411 = .ok (.dup2, 1) := by decide +kernel
theorem dX4_mix_412 : decode cX4_mix 412 = .ok (.iaload, 1) := by decide +kernel
theorem dX4_mix_413 : decode cX4_mix 413 = .ok (.iload 5, 2) := by decide +kernel
theorem dX4_mix_415 : decode cX4_mix 415 = .ok (.iadd, 1) := by decide +kernel
theorem dX4_mix_416 : decode cX4_mix 416 = .ok (.iastore, 1) := by decide +kernel
theorem dX4_mix_417 : decode cX4_mix 417 = .ok (.aload_n 0, 1) := by decide +kernel
theorem dX4_mix_418 : decode cX4_mix 418 = .ok (.getfield 106, 3) := by decide +kernel
theorem dX4_mix_421 : decode cX4_mix 421 = .ok (.iconst 4, 1) := by decide +kernel
theorem dX4_mix_422 : decode cX4_mix 422 = .ok (.dup2, 1) := by decide +kernel
theorem dX4_mix_423 : decode cX4_mix 423 = .ok (.iaload, 1) := by decide +kernel
theorem dX4_mix_424 : decode cX4_mix 424 = .ok (.iload 6, 2) := by decide +kernel
theorem dX4_mix_426 : decode cX4_mix 426 = .ok (.iadd, 1) := by decide +kernel
theorem dX4_mix_427 : decode cX4_mix 427 = .ok (.iastore, 1) := by decide +kernel
theorem dX4_mix_428 : decode cX4_mix 428 = .ok (.aload_n 0, 1) := by decide +kernel
theorem dX4_mix_429 : decode cX4_mix 429 = .ok (.getfield 106, 3) := by decide +kernel
theorem dX4_mix_432 : decode cX4_mix 432 = .ok (.iconst 5, 1) := by decide +kernel
theorem dX4_mix_433 : decode cX4_mix 433 = .ok (.dup2, 1) := by decide +kernel
theorem dX4_mix_434 : decode cX4_mix 434 = .ok (.iaload, 1) := by decide +kernel
theorem dX4_mix_435 : decode cX4_mix 435 = .ok (.iload 7, 2) := by decide +kernel
theorem dX4_mix_437 : decode cX4_mix 437 = .ok (.iadd, 1) := by decide +kernel
theorem dX4_mix_438 : decode cX4_mix 438 = .ok (.iastore, 1) := by decide +kernel
theorem dX4_mix_439 : decode cX4_mix 439 = .ok (.aload_n 0, 1) := by decide +kernel
theorem dX4_mix_440 : decode cX4_mix 440 = .ok (.getfield 106, 3) := by decide +kernel
theorem dX4_mix_443 : decode cX4_mix 443 = .ok (.bipush 6, 2) := by decide +kernel
theorem dX4_mix_445 : decode cX4_mix 445 = .ok (.dup2, 1) := by decide +kernel
theorem dX4_mix_446 : decode cX4_mix 446 = .ok (.iaload, 1) := by decide +kernel
theorem dX4_mix_447 : decode cX4_mix 447 = .ok (.iload 8, 2) := by decide +kernel
theorem dX4_mix_449 : decode cX4_mix 449 = .ok (.iadd, 1) := by decide +kernel
theorem dX4_mix_450 : decode cX4_mix 450 = .ok (.iastore, 1) := by decide +kernel
theorem dX4_mix_451 : decode cX4_mix 451 = .ok (.aload_n 0, 1) := by decide +kernel
theorem dX4_mix_452 : decode cX4_mix 452 = .ok (.getfield 106, 3) := by decide +kernel
theorem dX4_mix_455 : decode cX4_mix 455 = .ok (.bipush 7, 2) := by decide +kernel
theorem dX4_mix_457 : decode cX4_mix 457 = .ok (.dup2, 1) := by decide +kernel
theorem dX4_mix_458 : decode cX4_mix 458 = .ok (.iaload, 1) := by decide +kernel
theorem dX4_mix_459 : decode cX4_mix 459 = .ok (.iload 9, 2) := by decide +kernel
theorem dX4_mix_461 : decode cX4_mix 461 = .ok (.iadd, 1) := by decide +kernel
theorem dX4_mix_462 : decode cX4_mix 462 = .ok (.iastore, 1) := by decide +kernel
theorem dX4_mix_463 : decode cX4_mix 463 = .ok (.return_, 1) := by decide +kernel
theorem dX4_digest_0 : decode cX4_digest 0 = .ok (.iload_n 1, 1) := by decide +kernel
theorem dX4_digest_1 : decode cX4_digest 1 = .ok (.bipush 9, 2) := by decide +kernel
theorem dX4_digest_3 : decode cX4_digest 3 = .ok (.iadd, 1) := by decide +kernel
theorem dX4_digest_4 : decode cX4_digest 4 = .ok (.bipush 63, 2) := by decide +kernel
theorem dX4_digest_6 : decode cX4_digest 6 = .ok (.iadd, 1) := by decide +kernel
theorem dX4_digest_7 : decode cX4_digest 7 = .ok (.bipush 64, 2) := by decide +kernel
theorem dX4_digest_9 : decode cX4_digest 9 = .ok (.idiv, 1) := by decide +kernel
theorem dX4_digest_10 : decode cX4_digest 10 = .ok (.istore_n 2, 1) := by decide +kernel
theorem dX4_digest_11 : decode cX4_digest 11 = .ok (.iload_n 1, 1) := by decide +kernel
theorem dX4_digest_12 : decode cX4_digest 12 = .ok (.istore_n 3, 1) := by decide +kernel
theorem dX4_digest_13 : decode cX4_digest 13 = .ok (.iload_n 3, 1) := by decide +kernel
theorem dX4_digest_14 : decode cX4_digest 14 = .ok (.bipush 64, 2) := by decide +kernel
theorem dX4_digest_16 : decode cX4_digest 16 = .ok (.iload_n 2, 1) := by decide +kernel
theorem dX4_digest_17 : decode cX4_digest 17 = .ok (.imul, 1) := by decide +kernel
theorem dX4_digest_18 : decode cX4_digest 18 = .ok (.if_icmp .ge 27, 3) := by decide +kernel
theorem dX4_digest_21 : decode cX4_digest 21 = .ok (.aload_n 0, 1) := by decide +kernel
theorem dX4_digest_22 : decode cX4_digest 22 = .ok (.getfield 100, 3) := by decide +kernel
theorem dX4_digest_25 : decode cX4_digest 25 = .ok (.iload_n 3, 1) := by decide +kernel
theorem dX4_digest_26 : decode cX4_digest 26 = .ok (.iload_n 3, 1) := by decide +kernel
theorem dX4_digest_27 : decode cX4_digest 27 = .ok (.iload_n 1, 1) := by decide +kernel
theorem dX4_digest_28 : decode cX4_digest 28 = .ok (.if_icmp .ne 9, 3) := by decide +kernel
theorem dX4_digest_31 : decode cX4_digest 31 = .ok (.sipush 128, 3) := by decide +kernel
theorem dX4_digest_34 : decode cX4_digest 34 = .ok (.goto 4, 3) := by decide +kernel
theorem dX4_digest_37 : decode cX4_digest 37 = .ok (.iconst 0, 1) := by decide +kernel
theorem dX4_digest_38 : decode cX4_digest 38 = .ok (.iastore, 1) := by decide +kernel
theorem dX4_digest_39 : decode cX4_digest 39 = .ok (.iinc 3 1, 3) := by decide +kernel
theorem dX4_digest_42 : decode cX4_digest 42 = .ok (.goto (-29), 3) := by decide +kernel
theorem dX4_digest_45 : decode cX4_digest 45 = .ok (.aload_n 0, 1) := by decide +kernel
theorem dX4_digest_46 : decode cX4_digest 46 = .ok (.getfield 100, 3) := by decide +kernel
theorem dX4_digest_49 : decode cX4_digest 49 = .ok (.bipush 64, 2) := by decide +kernel
theorem dX4_digest_51 : decode cX4_digest 51 = .ok (.iload_n 2, 1) := by decide +kernel
theorem dX4_digest_52 : decode cX4_digest 52 = .ok (.imul, 1) := by decide +kernel
theorem dX4_digest_53 : decode cX4_digest 53 = .ok (.iconst 2, 1) := by decide +kernel
theorem dX4_digest_54 : decode cX4_digest 54 = .ok (.isub, 1) := by decide +kernel
theorem dX4_digest_55 : decode cX4_digest 55 = .ok (.bipush 8, 2) := by decide +kernel
theorem dX4_digest_57 : decode cX4_digest 57 = .ok (.iload_n 1, 1) := by decide +kernel
theorem dX4_digest_58 : decode cX4_digest 58 = .ok (.imul, 1) := by decide +kernel
theorem dX4_digest_59 : decode cX4_digest 59 = .ok (.bipush 8, 2) := by decide +kernel
theorem dX4_digest_61 : decode cX4_digest 61 = .ok (.ishr, 1) := by decide +kernel
theorem dX4_digest_62 : decode cX4_digest 62 = .ok (.sipush 255, 3) := by decide +kernel
theorem dX4_digest_65 : decode cX4_digest 65 = .ok (.iand, 1) := by decide +kernel
theorem dX4_digest_66 : decode cX4_digest 66 = .ok (.iastore, 1) := by decide +kernel
theorem dX4_digest_67 : decode cX4_digest 67 = .ok (.aload_n 0, 1) := by decide +kernel
theorem dX4_digest_68 : decode cX4_digest 68 = .ok (.getfield 100, 3) := by decide +kernel
theorem dX4_digest_71 : decode cX4_digest 71 = .ok (.bipush 64, 2) := by decide +kernel
theorem dX4_digest_73 : decode cX4_digest 73 = .ok (.iload_n 2, 1) := by decide +kernel
theorem dX4_digest_74 : decode cX4_digest 74 = .ok (.imul, 1) := by decide +kernel
theorem dX4_digest_75 : decode cX4_digest 75 = .ok (.iconst 1, 1) := by decide +kernel
theorem dX4_digest_76 : decode cX4_digest 76 = .ok (.isub, 1) := by decide +kernel
theorem dX4_digest_77 : decode cX4_digest 77 = .ok (.bipush 8, 2) := by decide +kernel
theorem dX4_digest_79 : decode cX4_digest 79 = .ok (.iload_n 1, 1) := by decide +kernel
theorem dX4_digest_80 : decode cX4_digest 80 = .ok (.imul, 1) := by decide +kernel
theorem dX4_digest_81 : decode cX4_digest 81 = .ok (.sipush 255, 3) := by decide +kernel
theorem dX4_digest_84 : decode cX4_digest 84 = .ok (.iand, 1) := by decide +kernel
theorem dX4_digest_85 : decode cX4_digest 85 = .ok (.iastore, 1) := by decide +kernel
theorem dX4_digest_86 : decode cX4_digest 86 = .ok (.iconst 0, 1) := by decide +kernel
theorem dX4_digest_87 : decode cX4_digest 87 = .ok (.istore_n 3, 1) := by decide +kernel
theorem dX4_digest_88 : decode cX4_digest 88 = .ok (.iload_n 3, 1) := by decide +kernel
theorem dX4_digest_89 : decode cX4_digest 89 = .ok (.bipush 8, 2) := by decide +kernel
theorem dX4_digest_91 : decode cX4_digest 91 = .ok (.if_icmp .ge 21, 3) := by decide +kernel
theorem dX4_digest_94 : decode cX4_digest 94 = .ok (.aload_n 0, 1) := by decide +kernel
theorem dX4_digest_95 : decode cX4_digest 95 = .ok (.getfield 106, 3) := by decide +kernel
theorem dX4_digest_98 : decode cX4_digest 98 = .ok (.iload_n 3, 1) := by decide +kernel
theorem dX4_digest_99 : decode cX4_digest 99 = .ok (.aload_n 0, 1) := by decide +kernel
theorem dX4_digest_100 : decode cX4_digest 100 = .ok (.getfield 85, 3) := by decide +kernel
theorem dX4_digest_103 : decode cX4_digest 103 = .ok (.iload_n 3, 1) := by decide +kernel
theorem dX4_digest_104 : decode cX4_digest 104 = .ok (.iaload, 1) := by decide +kernel
theorem dX4_digest_105 : decode cX4_digest 105 = .ok (.iastore, 1) := by decide +kernel
theorem dX4_digest_106 : decode cX4_digest 106 = .ok (.iinc 3 1, 3) := by decide +kernel
theorem dX4_digest_109 : decode cX4_digest 109 = .ok (.goto (-21), 3) := by decide +kernel
theorem dX4_digest_112 : decode cX4_digest 112 = .ok (.iconst 0, 1) := by decide +kernel
theorem dX4_digest_113 : decode cX4_digest 113 = .ok (.istore_n 3, 1) := by decide +kernel
theorem dX4_digest_114 : decode cX4_digest 114 = .ok (.iload_n 3, 1) := by decide +kernel
theorem dX4_digest_115 : decode cX4_digest 115 = .ok (.iload_n 2, 1) := by decide +kernel
theorem dX4_digest_116 : decode cX4_digest 116 = .ok (.if_icmp .ge 17, 3) := by decide +kernel
theorem dX4_digest_119 : decode cX4_digest 119 = .ok (.aload_n 0, 1) := by decide +kernel
theorem dX4_digest_120 : decode cX4_digest 120 = .ok (.bipush 64, 2) := by decide +kernel
theorem dX4_digest_122 : decode cX4_digest 122 = .ok (.iload_n 3, 1) := by decide +kernel
theorem dX4_digest_123 : decode cX4_digest 123 = .ok (.imul, 1) := by decide +kernel
theorem dX4_digest_124 : decode cX4_digest 124 = .ok (.invokevirtual 142, 3) := by decide +kernel
theorem dX4_digest_127 : decode cX4_digest 127 = .ok (.iinc 3 1, 3) := by decide +kernel
theorem dX4_digest_130 : decode cX4_digest 130 = .ok (.goto (-16), 3) := by decide +kernel
theorem dX4_digest_133 : decode cX4_digest 133 = .ok (.return_, 1) := by decide +kernel
theorem dX4_leaf_0 : decode cX4_leaf 0 = .ok (.aload_n 0, 1) := by decide +kernel
theorem dX4_leaf_1 : decode cX4_leaf 1 = .ok (.getfield 100, 3) := by decide +kernel
theorem dX4_leaf_4 : decode cX4_leaf 4 = .ok (.iconst 0, 1) := by decide +kernel
