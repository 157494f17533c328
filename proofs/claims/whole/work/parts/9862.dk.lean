theorem dX11_init_208 : decode cX11_init 208 = .ok (.iastore, 1) := by decide +kernel
theorem dX11_init_209 : decode cX11_init 209 = .ok (.dup, 1) := by decide +kernel
theorem dX11_init_210 : decode cX11_init 210 = .ok (.bipush 14, 2) := by decide +kernel
theorem dX11_init_212 : decode cX11_init 212 = .ok (.bipush 108, 2) := by decide +kernel
theorem dX11_init_214 : decode cX11_init 214 = .ok (.iastore, 1) := by decide +kernel
theorem dX11_init_215 : decode cX11_init 215 = .ok (.dup, 1) := by decide +kernel
theorem dX11_init_216 : decode cX11_init 216 = .ok (.bipush 15, 2) := by decide +kernel
theorem dX11_init_218 : decode cX11_init 218 = .ok (.bipush 117, 2) := by decide +kernel
theorem dX11_init_220 : decode cX11_init 220 = .ok (.iastore, 1) := by decide +kernel
theorem dX11_init_221 : decode cX11_init 221 = .ok (.dup, 1) := by decide +kernel
theorem dX11_init_222 : decode cX11_init 222 = .ok (.bipush 16, 2) := by decide +kernel
theorem dX11_init_224 : decode cX11_init 224 = .ok (.bipush 109, 2) := by decide +kernel
theorem dX11_init_226 : decode cX11_init 226 = .ok (.iastore, 1) := by decide +kernel
theorem dX11_init_227 : decode cX11_init 227 = .ok (.dup, 1) := by decide +kernel
theorem dX11_init_228 : decode cX11_init 228 = .ok (.bipush 17, 2) := by decide +kernel
theorem dX11_init_230 : decode cX11_init 230 = .ok (.bipush 112, 2) := by decide +kernel
theorem dX11_init_232 : decode cX11_init 232 = .ok (.iastore, 1) := by decide +kernel
theorem dX11_init_233 : decode cX11_init 233 = .ok (.dup, 1) := by decide +kernel
theorem dX11_init_234 : decode cX11_init 234 = .ok (.bipush 18, 2) := by decide +kernel
theorem dX11_init_236 : decode cX11_init 236 = .ok (.bipush 32, 2) := by decide +kernel
theorem dX11_init_238 : decode cX11_init 238 = .ok (.iastore, 1) := by decide +kernel
theorem dX11_init_239 : decode cX11_init 239 = .ok (.dup, 1) := by decide +kernel
theorem dX11_init_240 : decode cX11_init 240 = .ok (.bipush 19, 2) := by decide +kernel
theorem dX11_init_242 : decode cX11_init 242 = .ok (.bipush 97, 2) := by decide +kernel
theorem dX11_init_244 : decode cX11_init 244 = .ok (.iastore, 1) := by decide +kernel
theorem dX11_init_245 : decode cX11_init 245 = .ok (.dup, 1) := by decide +kernel
theorem dX11_init_246 : decode cX11_init 246 = .ok (.bipush 20, 2) := by decide +kernel
theorem dX11_init_248 : decode cX11_init 248 = .ok (.bipush 114, 2) := by decide +kernel
theorem dX11_init_250 : decode cX11_init 250 = .ok (.iastore, 1) := by decide +kernel
theorem dX11_init_251 : decode cX11_init 251 = .ok (.dup, 1) := by decide +kernel
theorem dX11_init_252 : decode cX11_init 252 = .ok (.bipush 21, 2) := by decide +kernel
theorem dX11_init_254 : decode cX11_init 254 = .ok (.bipush 114, 2) := by decide +kernel
theorem dX11_init_256 : decode cX11_init 256 = .ok (.iastore, 1) := by decide +kernel
theorem dX11_init_257 : decode cX11_init 257 = .ok (.dup, 1) := by decide +kernel
theorem dX11_init_258 : decode cX11_init 258 = .ok (.bipush 22, 2) := by decide +kernel
theorem dX11_init_260 : decode cX11_init 260 = .ok (.bipush 101, 2) := by decide +kernel
theorem dX11_init_262 : decode cX11_init 262 = .ok (.iastore, 1) := by decide +kernel
theorem dX11_init_263 : decode cX11_init 263 = .ok (.dup, 1) := by decide +kernel
theorem dX11_init_264 : decode cX11_init 264 = .ok (.bipush 23, 2) := by decide +kernel
theorem dX11_init_266 : decode cX11_init 266 = .ok (.bipush 97, 2) := by decide +kernel
theorem dX11_init_268 : decode cX11_init 268 = .ok (.iastore, 1) := by decide +kernel
theorem dX11_init_269 : decode cX11_init 269 = .ok (.dup, 1) := by decide +kernel
theorem dX11_init_270 : decode cX11_init 270 = .ok (.bipush 24, 2) := by decide +kernel
theorem dX11_init_272 : decode cX11_init 272 = .ok (.bipush 114, 2) := by decide +kernel
theorem dX11_init_274 : decode cX11_init 274 = .ok (.iastore, 1) := by decide +kernel
theorem dX11_init_275 : decode cX11_init 275 = .ok (.dup, 1) := by decide +kernel
theorem dX11_init_276 : decode cX11_init 276 = .ok (.bipush 25, 2) := by decide +kernel
theorem dX11_init_278 : decode cX11_init 278 = .ok (.bipush 115, 2) := by decide +kernel
theorem dX11_init_280 : decode cX11_init 280 = .ok (.iastore, 1) := by decide +kernel
theorem dX11_init_281 : decode cX11_init 281 = .ok (.dup, 1) := by decide +kernel
theorem dX11_init_282 : decode cX11_init 282 = .ok (.bipush 26, 2) := by decide +kernel
theorem dX11_init_284 : decode cX11_init 284 = .ok (.bipush 32, 2) := by decide +kernel
theorem dX11_init_286 : decode cX11_init 286 = .ok (.iastore, 1) := by decide +kernel
theorem dX11_init_287 : decode cX11_init 287 = .ok (.dup, 1) := by decide +kernel
theorem dX11_init_288 : decode cX11_init 288 = .ok (.bipush 27, 2) := by decide +kernel
theorem dX11_init_290 : decode cX11_init 290 = .ok (.bipush 119, 2) := by decide +kernel
theorem dX11_init_292 : decode cX11_init 292 = .ok (.iastore, 1) := by decide +kernel
theorem dX11_init_293 : decode cX11_init 293 = .ok (.dup, 1) := by decide +kernel
theorem dX11_init_294 : decode cX11_init 294 = .ok (.bipush 28, 2) := by decide +kernel
theorem dX11_init_296 : decode cX11_init 296 = .ok (.bipush 97, 2) := by decide +kernel
theorem dX11_init_298 : decode cX11_init 298 = .ok (.iastore, 1) := by decide +kernel
theorem dX11_init_299 : decode cX11_init 299 = .ok (.dup, 1) := by decide +kernel
theorem dX11_init_300 : decode cX11_init 300 = .ok (.bipush 29, 2) := by decide +kernel
theorem dX11_init_302 : decode cX11_init 302 = .ok (.bipush 105, 2) := by decide +kernel
theorem dX11_init_304 : decode cX11_init 304 = .ok (.iastore, 1) := by decide +kernel
theorem dX11_init_305 : decode cX11_init 305 = .ok (.dup, 1) := by decide +kernel
theorem dX11_init_306 : decode cX11_init 306 = .ok (.bipush 30, 2) := by decide +kernel
theorem dX11_init_308 : decode cX11_init 308 = .ok (.bipush 116, 2) := by decide +kernel
theorem dX11_init_310 : decode cX11_init 310 = .ok (.iastore, 1) := by decide +kernel
theorem dX11_init_311 : decode cX11_init 311 = .ok (.dup, 1) := by decide +kernel
theorem dX11_init_312 : decode cX11_init 312 = .ok (.bipush 31, 2) := by decide +kernel
theorem dX11_init_314 : decode cX11_init 314 = .ok (.bipush 32, 2) := by decide +kernel
theorem dX11_init_316 : decode cX11_init 316 = .ok (.iastore, 1) := by decide +kernel
theorem dX11_init_317 : decode cX11_init 317 = .ok (.dup, 1) := by decide +kernel
theorem dX11_init_318 : decode cX11_init 318 = .ok (.bipush 32, 2) := by decide +kernel
theorem dX11_init_320 : decode cX11_init 320 = .ok (.bipush 114, 2) := by decide +kernel
theorem dX11_init_322 : decode cX11_init 322 = .ok (.iastore, 1) := by decide +kernel
theorem dX11_init_323 : decode cX11_init 323 = .ok (.dup, 1) := by decide +kernel
theorem dX11_init_324 : decode cX11_init 324 = .ok (.bipush 33, 2) := by decide +kernel
theorem dX11_init_326 : decode cX11_init 326 = .ok (.bipush 97, 2) := by decide +kernel
theorem dX11_init_328 : decode cX11_init 328 = .ok (.iastore, 1) := by decide +kernel
theorem dX11_init_329 : decode cX11_init 329 = .ok (.dup, 1) := by decide +kernel
theorem dX11_init_330 : decode cX11_init 330 = .ok (.bipush 34, 2) := by decide +kernel
theorem dX11_init_332 : decode cX11_init 332 = .ok (.bipush 116, 2) := by decide +kernel
theorem dX11_init_334 : decode cX11_init 334 = .ok (.iastore, 1) := by decide +kernel
theorem dX11_init_335 : decode cX11_init 335 = .ok (.dup, 1) := by decide +kernel
theorem dX11_init_336 : decode cX11_init 336 = .ok (.bipush 35, 2) := by decide +kernel
theorem dX11_init_338 : decode cX11_init 338 = .ok (.bipush 101, 2) := by decide +kernel
theorem dX11_init_340 : decode cX11_init 340 = .ok (.iastore, 1) := by decide +kernel
theorem dX11_init_341 : decode cX11_init 341 = .ok (.dup, 1) := by decide +kernel
theorem dX11_init_342 : decode cX11_init 342 = .ok (.bipush 36, 2) := by decide +kernel
theorem dX11_init_344 : decode cX11_init 344 = .ok (.bipush 32, 2) := by decide +kernel
theorem dX11_init_346 : decode cX11_init 346 = .ok (.iastore, 1) := by decide +kernel
theorem dX11_init_347 : decode cX11_init 347 = .ok (.dup, 1) := by decide +kernel
theorem dX11_init_348 : decode cX11_init 348 = .ok (.bipush 37, 2) := by decide +kernel
theorem dX11_init_350 : decode cX11_init 350 = .ok (.bipush 99, 2) := by decide +kernel
theorem dX11_init_352 : decode cX11_init 352 = .ok (.iastore, 1) := by decide +kernel
theorem dX11_init_353 : decode cX11_init 353 = .ok (.dup, 1) := by decide +kernel
theorem dX11_init_354 : decode cX11_init 354 = .ok (.bipush 38, 2) := by decide +kernel
theorem dX11_init_356 : decode cX11_init 356 = .ok (.bipush 97, 2) := by decide +kernel
theorem dX11_init_358 : decode cX11_init 358 = .ok (.iastore, 1) := by decide +kernel
theorem dX11_init_359 : decode cX11_init 359 = .ok (.dup, 1) := by decide +kernel
theorem dX11_init_360 : decode cX11_init 360 = .ok (.bipush 39, 2) := by decide +kernel
theorem dX11_init_362 : decode cX11_init 362 = .ok (.bipush 112, 2) := by decide +kernel
theorem dX11_init_364 : decode cX11_init 364 = .ok (.iastore, 1) := by decide +kernel
theorem dX11_init_365 : decode cX11_init 365 = .ok (.dup, 1) := by decide +kernel
theorem dX11_init_366 : decode cX11_init 366 = .ok (.bipush 40, 2) := by decide +kernel
theorem dX11_init_368 : decode cX11_init 368 = .ok (.bipush 32, 2) := by decide +kernel
theorem dX11_init_370 : decode cX11_init 370 = .ok (.iastore, 1) := by decide +kernel
theorem dX11_init_371 : decode cX11_init 371 = .ok (.dup, 1) := by decide +kernel
theorem dX11_init_372 : decode cX11_init 372 = .ok (.bipush 41, 2) := by decide +kernel
theorem dX11_init_374 : decode cX11_init 374 = .ok (.bipush 97, 2) := by decide +kernel
theorem dX11_init_376 : decode cX11_init 376 = .ok (.iastore, 1) := by decide +kernel
theorem dX11_init_377 : decode cX11_init 377 = .ok (.dup, 1) := by decide +kernel
theorem dX11_init_378 : decode cX11_init 378 = .ok (.bipush 42, 2) := by decide +kernel
theorem dX11_init_380 : decode cX11_init 380 = .ok (.bipush 103, 2) := by decide +kernel
theorem dX11_init_382 : decode cX11_init 382 = .ok (.iastore, 1) := by decide +kernel
theorem dX11_init_383 : decode cX11_init 383 = .ok (.dup, 1) := by decide +kernel
theorem dX11_init_384 : decode cX11_init 384 = .ok (.bipush 43, 2) := by decide +kernel
theorem dX11_init_386 : decode cX11_init 386 = .ok (.bipush 101, 2) := by decide +kernel
