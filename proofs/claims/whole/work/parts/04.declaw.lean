theorem d_Law_law_0 : decode code 0 = .ok (.new 7, 3) := by decide +kernel
theorem d_Law_law_3 : decode code 3 = .ok (.dup, 1) := by decide +kernel
theorem d_Law_law_4 : decode code 4 = .ok (.invokespecial 9, 3) := by decide +kernel
theorem d_Law_law_7 : decode code 7 = .ok (.astore_n 1, 1) := by decide +kernel
theorem d_Law_law_8 : decode code 8 = .ok (.new 10, 3) := by decide +kernel
theorem d_Law_law_11 : decode code 11 = .ok (.dup, 1) := by decide +kernel
theorem d_Law_law_12 : decode code 12 = .ok (.invokespecial 12, 3) := by decide +kernel
theorem d_Law_law_15 : decode code 15 = .ok (.astore_n 2, 1) := by decide +kernel
theorem d_Law_law_16 : decode code 16 = .ok (.iconst 0, 1) := by decide +kernel
theorem d_Law_law_17 : decode code 17 = .ok (.istore_n 3, 1) := by decide +kernel
theorem d_Law_law_18 : decode code 18 = .ok (.iload_n 3, 1) := by decide +kernel
theorem d_Law_law_19 : decode code 19 = .ok (.aload_n 0, 1) := by decide +kernel
theorem d_Law_law_20 : decode code 20 = .ok (.arraylength, 1) := by decide +kernel
theorem d_Law_law_21 : decode code 21 = .ok (.bipush 8, 2) := by decide +kernel
theorem d_Law_law_23 : decode code 23 = .ok (.isub, 1) := by decide +kernel
theorem d_Law_law_24 : decode code 24 = .ok (.if_icmp .gt 1199, 3) := by decide +kernel
theorem d_Law_law_27 : decode code 27 = .ok (.aload_n 0, 1) := by decide +kernel
theorem d_Law_law_28 : decode code 28 = .ok (.iload_n 3, 1) := by decide +kernel
theorem d_Law_law_29 : decode code 29 = .ok (.iaload, 1) := by decide +kernel
theorem d_Law_law_30 : decode code 30 = .ok (.bipush 31, 2) := by decide +kernel
theorem d_Law_law_32 : decode code 32 = .ok (.iand, 1) := by decide +kernel
theorem d_Law_law_33 : decode code 33 = .ok (.tableswitch 1184 0 21 #[103, 156, 195, 258, 291, 354, 387, 430, 503, 566, 619, 642, 656, 670, 683, 707, 740, 887, 991, 1094, 1128, 1161], 103) := by decide +kernel
theorem d_Law_law_136 : decode code 136 = .ok (.aload_n 1, 1) := by decide +kernel
theorem d_Law_law_137 : decode code 137 = .ok (.aload_n 0, 1) := by decide +kernel
theorem d_Law_law_138 : decode code 138 = .ok (.iload_n 3, 1) := by decide +kernel
theorem d_Law_law_139 : decode code 139 = .ok (.iconst 1, 1) := by decide +kernel
theorem d_Law_law_140 : decode code 140 = .ok (.iadd, 1) := by decide +kernel
theorem d_Law_law_141 : decode code 141 = .ok (.iaload, 1) := by decide +kernel
theorem d_Law_law_142 : decode code 142 = .ok (.i2l, 1) := by decide +kernel
theorem d_Law_law_143 : decode code 143 = .ok (.bipush 32, 2) := by decide +kernel
theorem d_Law_law_145 : decode code 145 = .ok (.lshl, 1) := by decide +kernel
theorem d_Law_law_146 : decode code 146 = .ok (.aload_n 0, 1) := by decide +kernel
theorem d_Law_law_147 : decode code 147 = .ok (.iload_n 3, 1) := by decide +kernel
theorem d_Law_law_148 : decode code 148 = .ok (.iconst 2, 1) := by decide +kernel
theorem d_Law_law_149 : decode code 149 = .ok (.iadd, 1) := by decide +kernel
theorem d_Law_law_150 : decode code 150 = .ok (.iaload, 1) := by decide +kernel
theorem d_Law_law_151 : decode code 151 = .ok (.i2l, 1) := by decide +kernel
theorem d_Law_law_152 : decode code 152 = .ok (.ldc2_w 13, 3) := by decide +kernel
theorem d_Law_law_155 : decode code 155 = .ok (.land, 1) := by decide +kernel
theorem d_Law_law_156 : decode code 156 = .ok (.lor, 1) := by decide +kernel
theorem d_Law_law_157 : decode code 157 = .ok (.invokevirtual 15, 3) := by decide +kernel
theorem d_Law_law_160 : decode code 160 = .ok (.aload_n 2, 1) := by decide +kernel
theorem d_Law_law_161 : decode code 161 = .ok (.aload_n 0, 1) := by decide +kernel
theorem d_Law_law_162 : decode code 162 = .ok (.iload_n 3, 1) := by decide +kernel
theorem d_Law_law_163 : decode code 163 = .ok (.iconst 1, 1) := by decide +kernel
theorem d_Law_law_164 : decode code 164 = .ok (.iadd, 1) := by decide +kernel
theorem d_Law_law_165 : decode code 165 = .ok (.iaload, 1) := by decide +kernel
theorem d_Law_law_166 : decode code 166 = .ok (.i2l, 1) := by decide +kernel
theorem d_Law_law_167 : decode code 167 = .ok (.bipush 32, 2) := by decide +kernel
theorem d_Law_law_169 : decode code 169 = .ok (.lshl, 1) := by decide +kernel
theorem d_Law_law_170 : decode code 170 = .ok (.aload_n 0, 1) := by decide +kernel
theorem d_Law_law_171 : decode code 171 = .ok (.iload_n 3, 1) := by decide +kernel
theorem d_Law_law_172 : decode code 172 = .ok (.iconst 2, 1) := by decide +kernel
theorem d_Law_law_173 : decode code 173 = .ok (.iadd, 1) := by decide +kernel
theorem d_Law_law_174 : decode code 174 = .ok (.iaload, 1) := by decide +kernel
theorem d_Law_law_175 : decode code 175 = .ok (.i2l, 1) := by decide +kernel
theorem d_Law_law_176 : decode code 176 = .ok (.ldc2_w 13, 3) := by decide +kernel
theorem d_Law_law_179 : decode code 179 = .ok (.land, 1) := by decide +kernel
theorem d_Law_law_180 : decode code 180 = .ok (.lor, 1) := by decide +kernel
theorem d_Law_law_181 : decode code 181 = .ok (.invokevirtual 19, 3) := by decide +kernel
theorem d_Law_law_184 : decode code 184 = .ok (.if_icmp .eq 1033, 3) := by decide +kernel
theorem d_Law_law_187 : decode code 187 = .ok (.iconst 0, 1) := by decide +kernel
theorem d_Law_law_188 : decode code 188 = .ok (.ireturn, 1) := by decide +kernel
theorem d_Law_law_189 : decode code 189 = .ok (.aload_n 1, 1) := by decide +kernel
theorem d_Law_law_190 : decode code 190 = .ok (.aload_n 0, 1) := by decide +kernel
theorem d_Law_law_191 : decode code 191 = .ok (.iload_n 3, 1) := by decide +kernel
theorem d_Law_law_192 : decode code 192 = .ok (.iconst 1, 1) := by decide +kernel
theorem d_Law_law_193 : decode code 193 = .ok (.iadd, 1) := by decide +kernel
theorem d_Law_law_194 : decode code 194 = .ok (.iaload, 1) := by decide +kernel
theorem d_Law_law_195 : decode code 195 = .ok (.ifCond .eq 7, 3) := by decide +kernel
theorem d_Law_law_198 : decode code 198 = .ok (.iconst 1, 1) := by decide +kernel
theorem d_Law_law_199 : decode code 199 = .ok (.goto 4, 3) := by decide +kernel
theorem d_Law_law_202 : decode code 202 = .ok (.iconst 0, 1) := by decide +kernel
theorem d_Law_law_203 : decode code 203 = .ok (.invokevirtual 20, 3) := by decide +kernel
theorem d_Law_law_206 : decode code 206 = .ok (.aload_n 2, 1) := by decide +kernel
theorem d_Law_law_207 : decode code 207 = .ok (.aload_n 0, 1) := by decide +kernel
theorem d_Law_law_208 : decode code 208 = .ok (.iload_n 3, 1) := by decide +kernel
theorem d_Law_law_209 : decode code 209 = .ok (.iconst 1, 1) := by decide +kernel
theorem d_Law_law_210 : decode code 210 = .ok (.iadd, 1) := by decide +kernel
theorem d_Law_law_211 : decode code 211 = .ok (.iaload, 1) := by decide +kernel
theorem d_Law_law_212 : decode code 212 = .ok (.ifCond .eq 7, 3) := by decide +kernel
theorem d_Law_law_215 : decode code 215 = .ok (.iconst 1, 1) := by decide +kernel
theorem d_Law_law_216 : decode code 216 = .ok (.goto 4, 3) := by decide +kernel
theorem d_Law_law_219 : decode code 219 = .ok (.iconst 0, 1) := by decide +kernel
theorem d_Law_law_220 : decode code 220 = .ok (.invokevirtual 24, 3) := by decide +kernel
theorem d_Law_law_223 : decode code 223 = .ok (.if_icmp .eq 994, 3) := by decide +kernel
theorem d_Law_law_226 : decode code 226 = .ok (.iconst 0, 1) := by decide +kernel
theorem d_Law_law_227 : decode code 227 = .ok (.ireturn, 1) := by decide +kernel
theorem d_Law_law_228 : decode code 228 = .ok (.aload_n 1, 1) := by decide +kernel
theorem d_Law_law_229 : decode code 229 = .ok (.aload_n 0, 1) := by decide +kernel
theorem d_Law_law_230 : decode code 230 = .ok (.iload_n 3, 1) := by decide +kernel
theorem d_Law_law_231 : decode code 231 = .ok (.iconst 1, 1) := by decide +kernel
theorem d_Law_law_232 : decode code 232 = .ok (.iadd, 1) := by decide +kernel
theorem d_Law_law_233 : decode code 233 = .ok (.iaload, 1) := by decide +kernel
theorem d_Law_law_234 : decode code 234 = .ok (.aload_n 0, 1) := by decide +kernel
theorem d_Law_law_235 : decode code 235 = .ok (.iload_n 3, 1) := by decide +kernel
theorem d_Law_law_236 : decode code 236 = .ok (.iconst 2, 1) := by decide +kernel
theorem d_Law_law_237 : decode code 237 = .ok (.iadd, 1) := by decide +kernel
theorem d_Law_law_238 : decode code 238 = .ok (.iaload, 1) := by decide +kernel
theorem d_Law_law_239 : decode code 239 = .ok (.i2l, 1) := by decide +kernel
theorem d_Law_law_240 : decode code 240 = .ok (.bipush 32, 2) := by decide +kernel
theorem d_Law_law_242 : decode code 242 = .ok (.lshl, 1) := by decide +kernel
theorem d_Law_law_243 : decode code 243 = .ok (.aload_n 0, 1) := by decide +kernel
theorem d_Law_law_244 : decode code 244 = .ok (.iload_n 3, 1) := by decide +kernel
theorem d_Law_law_245 : decode code 245 = .ok (.iconst 3, 1) := by decide +kernel
theorem d_Law_law_246 : decode code 246 = .ok (.iadd, 1) := by decide +kernel
theorem d_Law_law_247 : decode code 247 = .ok (.iaload, 1) := by decide +kernel
theorem d_Law_law_248 : decode code 248 = .ok (.i2l, 1) := by decide +kernel
theorem d_Law_law_249 : decode code 249 = .ok (.ldc2_w 13, 3) := by decide +kernel
theorem d_Law_law_252 : decode code 252 = .ok (.land, 1) := by decide +kernel
theorem d_Law_law_253 : decode code 253 = .ok (.lor, 1) := by decide +kernel
theorem d_Law_law_254 : decode code 254 = .ok (.invokevirtual 25, 3) := by decide +kernel
theorem d_Law_law_257 : decode code 257 = .ok (.aload_n 2, 1) := by decide +kernel
theorem d_Law_law_258 : decode code 258 = .ok (.aload_n 0, 1) := by decide +kernel
theorem d_Law_law_259 : decode code 259 = .ok (.iload_n 3, 1) := by decide +kernel
theorem d_Law_law_260 : decode code 260 = .ok (.iconst 1, 1) := by decide +kernel
theorem d_Law_law_261 : decode code 261 = .ok (.iadd, 1) := by decide +kernel
theorem d_Law_law_262 : decode code 262 = .ok (.iaload, 1) := by decide +kernel
theorem d_Law_law_263 : decode code 263 = .ok (.aload_n 0, 1) := by decide +kernel
theorem d_Law_law_264 : decode code 264 = .ok (.iload_n 3, 1) := by decide +kernel
theorem d_Law_law_265 : decode code 265 = .ok (.iconst 2, 1) := by decide +kernel
theorem d_Law_law_266 : decode code 266 = .ok (.iadd, 1) := by decide +kernel
theorem d_Law_law_267 : decode code 267 = .ok (.iaload, 1) := by decide +kernel
theorem d_Law_law_268 : decode code 268 = .ok (.i2l, 1) := by decide +kernel
theorem d_Law_law_269 : decode code 269 = .ok (.bipush 32, 2) := by decide +kernel
theorem d_Law_law_271 : decode code 271 = .ok (.lshl, 1) := by decide +kernel
theorem d_Law_law_272 : decode code 272 = .ok (.aload_n 0, 1) := by decide +kernel
theorem d_Law_law_273 : decode code 273 = .ok (.iload_n 3, 1) := by decide +kernel
theorem d_Law_law_274 : decode code 274 = .ok (.iconst 3, 1) := by decide +kernel
theorem d_Law_law_275 : decode code 275 = .ok (.iadd, 1) := by decide +kernel
theorem d_Law_law_276 : decode code 276 = .ok (.iaload, 1) := by decide +kernel
theorem d_Law_law_277 : decode code 277 = .ok (.i2l, 1) := by decide +kernel
theorem d_Law_law_278 : decode code 278 = .ok (.ldc2_w 13, 3) := by decide +kernel
theorem d_Law_law_281 : decode code 281 = .ok (.land, 1) := by decide +kernel
theorem d_Law_law_282 : decode code 282 = .ok (.lor, 1) := by decide +kernel
theorem d_Law_law_283 : decode code 283 = .ok (.invokevirtual 29, 3) := by decide +kernel
theorem d_Law_law_286 : decode code 286 = .ok (.if_icmp .eq 931, 3) := by decide +kernel
theorem d_Law_law_289 : decode code 289 = .ok (.iconst 0, 1) := by decide +kernel
theorem d_Law_law_290 : decode code 290 = .ok (.ireturn, 1) := by decide +kernel
theorem d_Law_law_291 : decode code 291 = .ok (.aload_n 1, 1) := by decide +kernel
theorem d_Law_law_292 : decode code 292 = .ok (.aload_n 0, 1) := by decide +kernel
theorem d_Law_law_293 : decode code 293 = .ok (.iload_n 3, 1) := by decide +kernel
theorem d_Law_law_294 : decode code 294 = .ok (.iconst 1, 1) := by decide +kernel
theorem d_Law_law_295 : decode code 295 = .ok (.iadd, 1) := by decide +kernel
theorem d_Law_law_296 : decode code 296 = .ok (.iaload, 1) := by decide +kernel
theorem d_Law_law_297 : decode code 297 = .ok (.aload_n 0, 1) := by decide +kernel
theorem d_Law_law_298 : decode code 298 = .ok (.iload_n 3, 1) := by decide +kernel
theorem d_Law_law_299 : decode code 299 = .ok (.iconst 2, 1) := by decide +kernel
theorem d_Law_law_300 : decode code 300 = .ok (.iadd, 1) := by decide +kernel
theorem d_Law_law_301 : decode code 301 = .ok (.iaload, 1) := by decide +kernel
theorem d_Law_law_302 : decode code 302 = .ok (.invokevirtual 30, 3) := by decide +kernel
theorem d_Law_law_305 : decode code 305 = .ok (.aload_n 2, 1) := by decide +kernel
theorem d_Law_law_306 : decode code 306 = .ok (.aload_n 0, 1) := by decide +kernel
theorem d_Law_law_307 : decode code 307 = .ok (.iload_n 3, 1) := by decide +kernel
theorem d_Law_law_308 : decode code 308 = .ok (.iconst 1, 1) := by decide +kernel
theorem d_Law_law_309 : decode code 309 = .ok (.iadd, 1) := by decide +kernel
theorem d_Law_law_310 : decode code 310 = .ok (.iaload, 1) := by decide +kernel
theorem d_Law_law_311 : decode code 311 = .ok (.aload_n 0, 1) := by decide +kernel
theorem d_Law_law_312 : decode code 312 = .ok (.iload_n 3, 1) := by decide +kernel
theorem d_Law_law_313 : decode code 313 = .ok (.iconst 2, 1) := by decide +kernel
theorem d_Law_law_314 : decode code 314 = .ok (.iadd, 1) := by decide +kernel
theorem d_Law_law_315 : decode code 315 = .ok (.iaload, 1) := by decide +kernel
theorem d_Law_law_316 : decode code 316 = .ok (.invokevirtual 34, 3) := by decide +kernel
theorem d_Law_law_319 : decode code 319 = .ok (.if_icmp .eq 898, 3) := by decide +kernel
theorem d_Law_law_322 : decode code 322 = .ok (.iconst 0, 1) := by decide +kernel
theorem d_Law_law_323 : decode code 323 = .ok (.ireturn, 1) := by decide +kernel
theorem d_Law_law_324 : decode code 324 = .ok (.aload_n 1, 1) := by decide +kernel
theorem d_Law_law_325 : decode code 325 = .ok (.aload_n 0, 1) := by decide +kernel
theorem d_Law_law_326 : decode code 326 = .ok (.iload_n 3, 1) := by decide +kernel
theorem d_Law_law_327 : decode code 327 = .ok (.iconst 1, 1) := by decide +kernel
theorem d_Law_law_328 : decode code 328 = .ok (.iadd, 1) := by decide +kernel
theorem d_Law_law_329 : decode code 329 = .ok (.iaload, 1) := by decide +kernel
theorem d_Law_law_330 : decode code 330 = .ok (.aload_n 0, 1) := by decide +kernel
theorem d_Law_law_331 : decode code 331 = .ok (.iload_n 3, 1) := by decide +kernel
theorem d_Law_law_332 : decode code 332 = .ok (.iconst 2, 1) := by decide +kernel
theorem d_Law_law_333 : decode code 333 = .ok (.iadd, 1) := by decide +kernel
theorem d_Law_law_334 : decode code 334 = .ok (.iaload, 1) := by decide +kernel
theorem d_Law_law_335 : decode code 335 = .ok (.i2l, 1) := by decide +kernel
theorem d_Law_law_336 : decode code 336 = .ok (.bipush 32, 2) := by decide +kernel
theorem d_Law_law_338 : decode code 338 = .ok (.lshl, 1) := by decide +kernel
theorem d_Law_law_339 : decode code 339 = .ok (.aload_n 0, 1) := by decide +kernel
theorem d_Law_law_340 : decode code 340 = .ok (.iload_n 3, 1) := by decide +kernel
theorem d_Law_law_341 : decode code 341 = .ok (.iconst 3, 1) := by decide +kernel
theorem d_Law_law_342 : decode code 342 = .ok (.iadd, 1) := by decide +kernel
theorem d_Law_law_343 : decode code 343 = .ok (.iaload, 1) := by decide +kernel
theorem d_Law_law_344 : decode code 344 = .ok (.i2l, 1) := by decide +kernel
theorem d_Law_law_345 : decode code 345 = .ok (.ldc2_w 13, 3) := by decide +kernel
theorem d_Law_law_348 : decode code 348 = .ok (.land, 1) := by decide +kernel
theorem d_Law_law_349 : decode code 349 = .ok (.lor, 1) := by decide +kernel
theorem d_Law_law_350 : decode code 350 = .ok (.invokevirtual 35, 3) := by decide +kernel
theorem d_Law_law_353 : decode code 353 = .ok (.aload_n 2, 1) := by decide +kernel
theorem d_Law_law_354 : decode code 354 = .ok (.aload_n 0, 1) := by decide +kernel
theorem d_Law_law_355 : decode code 355 = .ok (.iload_n 3, 1) := by decide +kernel
theorem d_Law_law_356 : decode code 356 = .ok (.iconst 1, 1) := by decide +kernel
theorem d_Law_law_357 : decode code 357 = .ok (.iadd, 1) := by decide +kernel
theorem d_Law_law_358 : decode code 358 = .ok (.iaload, 1) := by decide +kernel
theorem d_Law_law_359 : decode code 359 = .ok (.aload_n 0, 1) := by decide +kernel
theorem d_Law_law_360 : decode code 360 = .ok (.iload_n 3, 1) := by decide +kernel
theorem d_Law_law_361 : decode code 361 = .ok (.iconst 2, 1) := by decide +kernel
theorem d_Law_law_362 : decode code 362 = .ok (.iadd, 1) := by decide +kernel
theorem d_Law_law_363 : decode code 363 = .ok (.iaload, 1) := by decide +kernel
theorem d_Law_law_364 : decode code 364 = .ok (.i2l, 1) := by decide +kernel
theorem d_Law_law_365 : decode code 365 = .ok (.bipush 32, 2) := by decide +kernel
theorem d_Law_law_367 : decode code 367 = .ok (.lshl, 1) := by decide +kernel
theorem d_Law_law_368 : decode code 368 = .ok (.aload_n 0, 1) := by decide +kernel
theorem d_Law_law_369 : decode code 369 = .ok (.iload_n 3, 1) := by decide +kernel
theorem d_Law_law_370 : decode code 370 = .ok (.iconst 3, 1) := by decide +kernel
theorem d_Law_law_371 : decode code 371 = .ok (.iadd, 1) := by decide +kernel
theorem d_Law_law_372 : decode code 372 = .ok (.iaload, 1) := by decide +kernel
theorem d_Law_law_373 : decode code 373 = .ok (.i2l, 1) := by decide +kernel
theorem d_Law_law_374 : decode code 374 = .ok (.ldc2_w 13, 3) := by decide +kernel
theorem d_Law_law_377 : decode code 377 = .ok (.land, 1) := by decide +kernel
theorem d_Law_law_378 : decode code 378 = .ok (.lor, 1) := by decide +kernel
theorem d_Law_law_379 : decode code 379 = .ok (.invokevirtual 39, 3) := by decide +kernel
theorem d_Law_law_382 : decode code 382 = .ok (.if_icmp .eq 835, 3) := by decide +kernel
theorem d_Law_law_385 : decode code 385 = .ok (.iconst 0, 1) := by decide +kernel
theorem d_Law_law_386 : decode code 386 = .ok (.ireturn, 1) := by decide +kernel
theorem d_Law_law_387 : decode code 387 = .ok (.aload_n 1, 1) := by decide +kernel
theorem d_Law_law_388 : decode code 388 = .ok (.aload_n 0, 1) := by decide +kernel
theorem d_Law_law_389 : decode code 389 = .ok (.iload_n 3, 1) := by decide +kernel
theorem d_Law_law_390 : decode code 390 = .ok (.iconst 1, 1) := by decide +kernel
theorem d_Law_law_391 : decode code 391 = .ok (.iadd, 1) := by decide +kernel
theorem d_Law_law_392 : decode code 392 = .ok (.iaload, 1) := by decide +kernel
theorem d_Law_law_393 : decode code 393 = .ok (.aload_n 0, 1) := by decide +kernel
theorem d_Law_law_394 : decode code 394 = .ok (.iload_n 3, 1) := by decide +kernel
theorem d_Law_law_395 : decode code 395 = .ok (.iconst 2, 1) := by decide +kernel
theorem d_Law_law_396 : decode code 396 = .ok (.iadd, 1) := by decide +kernel
theorem d_Law_law_397 : decode code 397 = .ok (.iaload, 1) := by decide +kernel
theorem d_Law_law_398 : decode code 398 = .ok (.invokevirtual 40, 3) := by decide +kernel
theorem d_Law_law_401 : decode code 401 = .ok (.aload_n 2, 1) := by decide +kernel
theorem d_Law_law_402 : decode code 402 = .ok (.aload_n 0, 1) := by decide +kernel
theorem d_Law_law_403 : decode code 403 = .ok (.iload_n 3, 1) := by decide +kernel
theorem d_Law_law_404 : decode code 404 = .ok (.iconst 1, 1) := by decide +kernel
theorem d_Law_law_405 : decode code 405 = .ok (.iadd, 1) := by decide +kernel
theorem d_Law_law_406 : decode code 406 = .ok (.iaload, 1) := by decide +kernel
theorem d_Law_law_407 : decode code 407 = .ok (.aload_n 0, 1) := by decide +kernel
theorem d_Law_law_408 : decode code 408 = .ok (.iload_n 3, 1) := by decide +kernel
theorem d_Law_law_409 : decode code 409 = .ok (.iconst 2, 1) := by decide +kernel
theorem d_Law_law_410 : decode code 410 = .ok (.iadd, 1) := by decide +kernel
theorem d_Law_law_411 : decode code 411 = .ok (.iaload, 1) := by decide +kernel
theorem d_Law_law_412 : decode code 412 = .ok (.invokevirtual 43, 3) := by decide +kernel
theorem d_Law_law_415 : decode code 415 = .ok (.if_icmp .eq 802, 3) := by decide +kernel
theorem d_Law_law_418 : decode code 418 = .ok (.iconst 0, 1) := by decide +kernel
theorem d_Law_law_419 : decode code 419 = .ok (.ireturn, 1) := by decide +kernel
theorem d_Law_law_420 : decode code 420 = .ok (.aload_n 1, 1) := by decide +kernel
theorem d_Law_law_421 : decode code 421 = .ok (.aload_n 0, 1) := by decide +kernel
theorem d_Law_law_422 : decode code 422 = .ok (.iload_n 3, 1) := by decide +kernel
theorem d_Law_law_423 : decode code 423 = .ok (.iconst 1, 1) := by decide +kernel
theorem d_Law_law_424 : decode code 424 = .ok (.iadd, 1) := by decide +kernel
theorem d_Law_law_425 : decode code 425 = .ok (.iaload, 1) := by decide +kernel
theorem d_Law_law_426 : decode code 426 = .ok (.aload_n 0, 1) := by decide +kernel
theorem d_Law_law_427 : decode code 427 = .ok (.iload_n 3, 1) := by decide +kernel
theorem d_Law_law_428 : decode code 428 = .ok (.iconst 2, 1) := by decide +kernel
theorem d_Law_law_429 : decode code 429 = .ok (.iadd, 1) := by decide +kernel
theorem d_Law_law_430 : decode code 430 = .ok (.iaload, 1) := by decide +kernel
theorem d_Law_law_431 : decode code 431 = .ok (.aload_n 0, 1) := by decide +kernel
theorem d_Law_law_432 : decode code 432 = .ok (.iload_n 3, 1) := by decide +kernel
theorem d_Law_law_433 : decode code 433 = .ok (.iconst 3, 1) := by decide +kernel
theorem d_Law_law_434 : decode code 434 = .ok (.iadd, 1) := by decide +kernel
theorem d_Law_law_435 : decode code 435 = .ok (.iaload, 1) := by decide +kernel
theorem d_Law_law_436 : decode code 436 = .ok (.invokevirtual 44, 3) := by decide +kernel
theorem d_Law_law_439 : decode code 439 = .ok (.aload_n 2, 1) := by decide +kernel
theorem d_Law_law_440 : decode code 440 = .ok (.aload_n 0, 1) := by decide +kernel
theorem d_Law_law_441 : decode code 441 = .ok (.iload_n 3, 1) := by decide +kernel
theorem d_Law_law_442 : decode code 442 = .ok (.iconst 1, 1) := by decide +kernel
theorem d_Law_law_443 : decode code 443 = .ok (.iadd, 1) := by decide +kernel
theorem d_Law_law_444 : decode code 444 = .ok (.iaload, 1) := by decide +kernel
theorem d_Law_law_445 : decode code 445 = .ok (.aload_n 0, 1) := by decide +kernel
theorem d_Law_law_446 : decode code 446 = .ok (.iload_n 3, 1) := by decide +kernel
theorem d_Law_law_447 : decode code 447 = .ok (.iconst 2, 1) := by decide +kernel
theorem d_Law_law_448 : decode code 448 = .ok (.iadd, 1) := by decide +kernel
theorem d_Law_law_449 : decode code 449 = .ok (.iaload, 1) := by decide +kernel
theorem d_Law_law_450 : decode code 450 = .ok (.aload_n 0, 1) := by decide +kernel
theorem d_Law_law_451 : decode code 451 = .ok (.iload_n 3, 1) := by decide +kernel
theorem d_Law_law_452 : decode code 452 = .ok (.iconst 3, 1) := by decide +kernel
theorem d_Law_law_453 : decode code 453 = .ok (.iadd, 1) := by decide +kernel
theorem d_Law_law_454 : decode code 454 = .ok (.iaload, 1) := by decide +kernel
theorem d_Law_law_455 : decode code 455 = .ok (.invokevirtual 48, 3) := by decide +kernel
theorem d_Law_law_458 : decode code 458 = .ok (.if_icmp .eq 759, 3) := by decide +kernel
theorem d_Law_law_461 : decode code 461 = .ok (.iconst 0, 1) := by decide +kernel
theorem d_Law_law_462 : decode code 462 = .ok (.ireturn, 1) := by decide +kernel
theorem d_Law_law_463 : decode code 463 = .ok (.aload_n 1, 1) := by decide +kernel
theorem d_Law_law_464 : decode code 464 = .ok (.aload_n 0, 1) := by decide +kernel
theorem d_Law_law_465 : decode code 465 = .ok (.iload_n 3, 1) := by decide +kernel
theorem d_Law_law_466 : decode code 466 = .ok (.iconst 1, 1) := by decide +kernel
theorem d_Law_law_467 : decode code 467 = .ok (.iadd, 1) := by decide +kernel
theorem d_Law_law_468 : decode code 468 = .ok (.iaload, 1) := by decide +kernel
theorem d_Law_law_469 : decode code 469 = .ok (.aload_n 0, 1) := by decide +kernel
theorem d_Law_law_470 : decode code 470 = .ok (.iload_n 3, 1) := by decide +kernel
theorem d_Law_law_471 : decode code 471 = .ok (.iconst 2, 1) := by decide +kernel
theorem d_Law_law_472 : decode code 472 = .ok (.iadd, 1) := by decide +kernel
theorem d_Law_law_473 : decode code 473 = .ok (.iaload, 1) := by decide +kernel
theorem d_Law_law_474 : decode code 474 = .ok (.i2l, 1) := by decide +kernel
theorem d_Law_law_475 : decode code 475 = .ok (.bipush 32, 2) := by decide +kernel
theorem d_Law_law_477 : decode code 477 = .ok (.lshl, 1) := by decide +kernel
theorem d_Law_law_478 : decode code 478 = .ok (.aload_n 0, 1) := by decide +kernel
theorem d_Law_law_479 : decode code 479 = .ok (.iload_n 3, 1) := by decide +kernel
theorem d_Law_law_480 : decode code 480 = .ok (.iconst 3, 1) := by decide +kernel
theorem d_Law_law_481 : decode code 481 = .ok (.iadd, 1) := by decide +kernel
theorem d_Law_law_482 : decode code 482 = .ok (.iaload, 1) := by decide +kernel
theorem d_Law_law_483 : decode code 483 = .ok (.i2l, 1) := by decide +kernel
theorem d_Law_law_484 : decode code 484 = .ok (.ldc2_w 13, 3) := by decide +kernel
theorem d_Law_law_487 : decode code 487 = .ok (.land, 1) := by decide +kernel
theorem d_Law_law_488 : decode code 488 = .ok (.lor, 1) := by decide +kernel
theorem d_Law_law_489 : decode code 489 = .ok (.aload_n 0, 1) := by decide +kernel
theorem d_Law_law_490 : decode code 490 = .ok (.iload_n 3, 1) := by decide +kernel
theorem d_Law_law_491 : decode code 491 = .ok (.iconst 4, 1) := by decide +kernel
theorem d_Law_law_492 : decode code 492 = .ok (.iadd, 1) := by decide +kernel
theorem d_Law_law_493 : decode code 493 = .ok (.iaload, 1) := by decide +kernel
theorem d_Law_law_494 : decode code 494 = .ok (.invokevirtual 49, 3) := by decide +kernel
theorem d_Law_law_497 : decode code 497 = .ok (.aload_n 2, 1) := by decide +kernel
theorem d_Law_law_498 : decode code 498 = .ok (.aload_n 0, 1) := by decide +kernel
theorem d_Law_law_499 : decode code 499 = .ok (.iload_n 3, 1) := by decide +kernel
theorem d_Law_law_500 : decode code 500 = .ok (.iconst 1, 1) := by decide +kernel
theorem d_Law_law_501 : decode code 501 = .ok (.iadd, 1) := by decide +kernel
theorem d_Law_law_502 : decode code 502 = .ok (.iaload, 1) := by decide +kernel
theorem d_Law_law_503 : decode code 503 = .ok (.aload_n 0, 1) := by decide +kernel
theorem d_Law_law_504 : decode code 504 = .ok (.iload_n 3, 1) := by decide +kernel
theorem d_Law_law_505 : decode code 505 = .ok (.iconst 2, 1) := by decide +kernel
theorem d_Law_law_506 : decode code 506 = .ok (.iadd, 1) := by decide +kernel
theorem d_Law_law_507 : decode code 507 = .ok (.iaload, 1) := by decide +kernel
theorem d_Law_law_508 : decode code 508 = .ok (.i2l, 1) := by decide +kernel
theorem d_Law_law_509 : decode code 509 = .ok (.bipush 32, 2) := by decide +kernel
theorem d_Law_law_511 : decode code 511 = .ok (.lshl, 1) := by decide +kernel
theorem d_Law_law_512 : decode code 512 = .ok (.aload_n 0, 1) := by decide +kernel
theorem d_Law_law_513 : decode code 513 = .ok (.iload_n 3, 1) := by decide +kernel
theorem d_Law_law_514 : decode code 514 = .ok (.iconst 3, 1) := by decide +kernel
theorem d_Law_law_515 : decode code 515 = .ok (.iadd, 1) := by decide +kernel
theorem d_Law_law_516 : decode code 516 = .ok (.iaload, 1) := by decide +kernel
theorem d_Law_law_517 : decode code 517 = .ok (.i2l, 1) := by decide +kernel
theorem d_Law_law_518 : decode code 518 = .ok (.ldc2_w 13, 3) := by decide +kernel
theorem d_Law_law_521 : decode code 521 = .ok (.land, 1) := by decide +kernel
theorem d_Law_law_522 : decode code 522 = .ok (.lor, 1) := by decide +kernel
theorem d_Law_law_523 : decode code 523 = .ok (.aload_n 0, 1) := by decide +kernel
theorem d_Law_law_524 : decode code 524 = .ok (.iload_n 3, 1) := by decide +kernel
theorem d_Law_law_525 : decode code 525 = .ok (.iconst 4, 1) := by decide +kernel
theorem d_Law_law_526 : decode code 526 = .ok (.iadd, 1) := by decide +kernel
theorem d_Law_law_527 : decode code 527 = .ok (.iaload, 1) := by decide +kernel
theorem d_Law_law_528 : decode code 528 = .ok (.invokevirtual 53, 3) := by decide +kernel
theorem d_Law_law_531 : decode code 531 = .ok (.if_icmp .eq 686, 3) := by decide +kernel
theorem d_Law_law_534 : decode code 534 = .ok (.iconst 0, 1) := by decide +kernel
theorem d_Law_law_535 : decode code 535 = .ok (.ireturn, 1) := by decide +kernel
theorem d_Law_law_536 : decode code 536 = .ok (.aload_n 1, 1) := by decide +kernel
theorem d_Law_law_537 : decode code 537 = .ok (.aload_n 0, 1) := by decide +kernel
theorem d_Law_law_538 : decode code 538 = .ok (.iload_n 3, 1) := by decide +kernel
theorem d_Law_law_539 : decode code 539 = .ok (.iconst 1, 1) := by decide +kernel
theorem d_Law_law_540 : decode code 540 = .ok (.iadd, 1) := by decide +kernel
theorem d_Law_law_541 : decode code 541 = .ok (.iaload, 1) := by decide +kernel
theorem d_Law_law_542 : decode code 542 = .ok (.aload_n 0, 1) := by decide +kernel
theorem d_Law_law_543 : decode code 543 = .ok (.iload_n 3, 1) := by decide +kernel
theorem d_Law_law_544 : decode code 544 = .ok (.iconst 2, 1) := by decide +kernel
theorem d_Law_law_545 : decode code 545 = .ok (.iadd, 1) := by decide +kernel
theorem d_Law_law_546 : decode code 546 = .ok (.iaload, 1) := by decide +kernel
theorem d_Law_law_547 : decode code 547 = .ok (.i2l, 1) := by decide +kernel
theorem d_Law_law_548 : decode code 548 = .ok (.bipush 32, 2) := by decide +kernel
theorem d_Law_law_550 : decode code 550 = .ok (.lshl, 1) := by decide +kernel
theorem d_Law_law_551 : decode code 551 = .ok (.aload_n 0, 1) := by decide +kernel
theorem d_Law_law_552 : decode code 552 = .ok (.iload_n 3, 1) := by decide +kernel
theorem d_Law_law_553 : decode code 553 = .ok (.iconst 3, 1) := by decide +kernel
theorem d_Law_law_554 : decode code 554 = .ok (.iadd, 1) := by decide +kernel
theorem d_Law_law_555 : decode code 555 = .ok (.iaload, 1) := by decide +kernel
theorem d_Law_law_556 : decode code 556 = .ok (.i2l, 1) := by decide +kernel
theorem d_Law_law_557 : decode code 557 = .ok (.ldc2_w 13, 3) := by decide +kernel
theorem d_Law_law_560 : decode code 560 = .ok (.land, 1) := by decide +kernel
theorem d_Law_law_561 : decode code 561 = .ok (.lor, 1) := by decide +kernel
theorem d_Law_law_562 : decode code 562 = .ok (.invokevirtual 54, 3) := by decide +kernel
theorem d_Law_law_565 : decode code 565 = .ok (.aload_n 2, 1) := by decide +kernel
theorem d_Law_law_566 : decode code 566 = .ok (.aload_n 0, 1) := by decide +kernel
theorem d_Law_law_567 : decode code 567 = .ok (.iload_n 3, 1) := by decide +kernel
theorem d_Law_law_568 : decode code 568 = .ok (.iconst 1, 1) := by decide +kernel
theorem d_Law_law_569 : decode code 569 = .ok (.iadd, 1) := by decide +kernel
theorem d_Law_law_570 : decode code 570 = .ok (.iaload, 1) := by decide +kernel
theorem d_Law_law_571 : decode code 571 = .ok (.aload_n 0, 1) := by decide +kernel
theorem d_Law_law_572 : decode code 572 = .ok (.iload_n 3, 1) := by decide +kernel
theorem d_Law_law_573 : decode code 573 = .ok (.iconst 2, 1) := by decide +kernel
theorem d_Law_law_574 : decode code 574 = .ok (.iadd, 1) := by decide +kernel
theorem d_Law_law_575 : decode code 575 = .ok (.iaload, 1) := by decide +kernel
theorem d_Law_law_576 : decode code 576 = .ok (.i2l, 1) := by decide +kernel
theorem d_Law_law_577 : decode code 577 = .ok (.bipush 32, 2) := by decide +kernel
theorem d_Law_law_579 : decode code 579 = .ok (.lshl, 1) := by decide +kernel
theorem d_Law_law_580 : decode code 580 = .ok (.aload_n 0, 1) := by decide +kernel
theorem d_Law_law_581 : decode code 581 = .ok (.iload_n 3, 1) := by decide +kernel
theorem d_Law_law_582 : decode code 582 = .ok (.iconst 3, 1) := by decide +kernel
theorem d_Law_law_583 : decode code 583 = .ok (.iadd, 1) := by decide +kernel
theorem d_Law_law_584 : decode code 584 = .ok (.iaload, 1) := by decide +kernel
theorem d_Law_law_585 : decode code 585 = .ok (.i2l, 1) := by decide +kernel
theorem d_Law_law_586 : decode code 586 = .ok (.ldc2_w 13, 3) := by decide +kernel
theorem d_Law_law_589 : decode code 589 = .ok (.land, 1) := by decide +kernel
theorem d_Law_law_590 : decode code 590 = .ok (.lor, 1) := by decide +kernel
theorem d_Law_law_591 : decode code 591 = .ok (.invokevirtual 57, 3) := by decide +kernel
theorem d_Law_law_594 : decode code 594 = .ok (.if_icmp .eq 623, 3) := by decide +kernel
theorem d_Law_law_597 : decode code 597 = .ok (.iconst 0, 1) := by decide +kernel
theorem d_Law_law_598 : decode code 598 = .ok (.ireturn, 1) := by decide +kernel
theorem d_Law_law_599 : decode code 599 = .ok (.aload_n 1, 1) := by decide +kernel
theorem d_Law_law_600 : decode code 600 = .ok (.aload_n 0, 1) := by decide +kernel
theorem d_Law_law_601 : decode code 601 = .ok (.iload_n 3, 1) := by decide +kernel
theorem d_Law_law_602 : decode code 602 = .ok (.iconst 1, 1) := by decide +kernel
theorem d_Law_law_603 : decode code 603 = .ok (.iadd, 1) := by decide +kernel
theorem d_Law_law_604 : decode code 604 = .ok (.iaload, 1) := by decide +kernel
theorem d_Law_law_605 : decode code 605 = .ok (.i2l, 1) := by decide +kernel
theorem d_Law_law_606 : decode code 606 = .ok (.bipush 32, 2) := by decide +kernel
theorem d_Law_law_608 : decode code 608 = .ok (.lshl, 1) := by decide +kernel
theorem d_Law_law_609 : decode code 609 = .ok (.aload_n 0, 1) := by decide +kernel
theorem d_Law_law_610 : decode code 610 = .ok (.iload_n 3, 1) := by decide +kernel
theorem d_Law_law_611 : decode code 611 = .ok (.iconst 2, 1) := by decide +kernel
theorem d_Law_law_612 : decode code 612 = .ok (.iadd, 1) := by decide +kernel
theorem d_Law_law_613 : decode code 613 = .ok (.iaload, 1) := by decide +kernel
theorem d_Law_law_614 : decode code 614 = .ok (.i2l, 1) := by decide +kernel
theorem d_Law_law_615 : decode code 615 = .ok (.ldc2_w 13, 3) := by decide +kernel
theorem d_Law_law_618 : decode code 618 = .ok (.land, 1) := by decide +kernel
theorem d_Law_law_619 : decode code 619 = .ok (.lor, 1) := by decide +kernel
theorem d_Law_law_620 : decode code 620 = .ok (.invokevirtual 58, 3) := by decide +kernel
theorem d_Law_law_623 : decode code 623 = .ok (.aload_n 2, 1) := by decide +kernel
theorem d_Law_law_624 : decode code 624 = .ok (.aload_n 0, 1) := by decide +kernel
theorem d_Law_law_625 : decode code 625 = .ok (.iload_n 3, 1) := by decide +kernel
theorem d_Law_law_626 : decode code 626 = .ok (.iconst 1, 1) := by decide +kernel
theorem d_Law_law_627 : decode code 627 = .ok (.iadd, 1) := by decide +kernel
theorem d_Law_law_628 : decode code 628 = .ok (.iaload, 1) := by decide +kernel
theorem d_Law_law_629 : decode code 629 = .ok (.i2l, 1) := by decide +kernel
theorem d_Law_law_630 : decode code 630 = .ok (.bipush 32, 2) := by decide +kernel
theorem d_Law_law_632 : decode code 632 = .ok (.lshl, 1) := by decide +kernel
theorem d_Law_law_633 : decode code 633 = .ok (.aload_n 0, 1) := by decide +kernel
theorem d_Law_law_634 : decode code 634 = .ok (.iload_n 3, 1) := by decide +kernel
theorem d_Law_law_635 : decode code 635 = .ok (.iconst 2, 1) := by decide +kernel
theorem d_Law_law_636 : decode code 636 = .ok (.iadd, 1) := by decide +kernel
theorem d_Law_law_637 : decode code 637 = .ok (.iaload, 1) := by decide +kernel
theorem d_Law_law_638 : decode code 638 = .ok (.i2l, 1) := by decide +kernel
theorem d_Law_law_639 : decode code 639 = .ok (.ldc2_w 13, 3) := by decide +kernel
theorem d_Law_law_642 : decode code 642 = .ok (.land, 1) := by decide +kernel
theorem d_Law_law_643 : decode code 643 = .ok (.lor, 1) := by decide +kernel
theorem d_Law_law_644 : decode code 644 = .ok (.invokevirtual 61, 3) := by decide +kernel
theorem d_Law_law_647 : decode code 647 = .ok (.if_icmp .eq 570, 3) := by decide +kernel
theorem d_Law_law_650 : decode code 650 = .ok (.iconst 0, 1) := by decide +kernel
theorem d_Law_law_651 : decode code 651 = .ok (.ireturn, 1) := by decide +kernel
theorem d_Law_law_652 : decode code 652 = .ok (.aload_n 1, 1) := by decide +kernel
theorem d_Law_law_653 : decode code 653 = .ok (.aload_n 0, 1) := by decide +kernel
theorem d_Law_law_654 : decode code 654 = .ok (.iload_n 3, 1) := by decide +kernel
theorem d_Law_law_655 : decode code 655 = .ok (.iconst 1, 1) := by decide +kernel
theorem d_Law_law_656 : decode code 656 = .ok (.iadd, 1) := by decide +kernel
theorem d_Law_law_657 : decode code 657 = .ok (.iaload, 1) := by decide +kernel
theorem d_Law_law_658 : decode code 658 = .ok (.invokevirtual 62, 3) := by decide +kernel
theorem d_Law_law_661 : decode code 661 = .ok (.aload_n 2, 1) := by decide +kernel
theorem d_Law_law_662 : decode code 662 = .ok (.aload_n 0, 1) := by decide +kernel
theorem d_Law_law_663 : decode code 663 = .ok (.iload_n 3, 1) := by decide +kernel
theorem d_Law_law_664 : decode code 664 = .ok (.iconst 1, 1) := by decide +kernel
theorem d_Law_law_665 : decode code 665 = .ok (.iadd, 1) := by decide +kernel
theorem d_Law_law_666 : decode code 666 = .ok (.iaload, 1) := by decide +kernel
theorem d_Law_law_667 : decode code 667 = .ok (.invokevirtual 66, 3) := by decide +kernel
theorem d_Law_law_670 : decode code 670 = .ok (.if_icmp .eq 547, 3) := by decide +kernel
theorem d_Law_law_673 : decode code 673 = .ok (.iconst 0, 1) := by decide +kernel
theorem d_Law_law_674 : decode code 674 = .ok (.ireturn, 1) := by decide +kernel
theorem d_Law_law_675 : decode code 675 = .ok (.aload_n 1, 1) := by decide +kernel
theorem d_Law_law_676 : decode code 676 = .ok (.invokevirtual 67, 3) := by decide +kernel
theorem d_Law_law_679 : decode code 679 = .ok (.aload_n 2, 1) := by decide +kernel
theorem d_Law_law_680 : decode code 680 = .ok (.invokevirtual 71, 3) := by decide +kernel
theorem d_Law_law_683 : decode code 683 = .ok (.lcmp, 1) := by decide +kernel
theorem d_Law_law_684 : decode code 684 = .ok (.ifCond .eq 533, 3) := by decide +kernel
theorem d_Law_law_687 : decode code 687 = .ok (.iconst 0, 1) := by decide +kernel
theorem d_Law_law_688 : decode code 688 = .ok (.ireturn, 1) := by decide +kernel
theorem d_Law_law_689 : decode code 689 = .ok (.aload_n 1, 1) := by decide +kernel
theorem d_Law_law_690 : decode code 690 = .ok (.invokevirtual 72, 3) := by decide +kernel
theorem d_Law_law_693 : decode code 693 = .ok (.aload_n 2, 1) := by decide +kernel
theorem d_Law_law_694 : decode code 694 = .ok (.invokevirtual 75, 3) := by decide +kernel
theorem d_Law_law_697 : decode code 697 = .ok (.lcmp, 1) := by decide +kernel
theorem d_Law_law_698 : decode code 698 = .ok (.ifCond .eq 519, 3) := by decide +kernel
theorem d_Law_law_701 : decode code 701 = .ok (.iconst 0, 1) := by decide +kernel
theorem d_Law_law_702 : decode code 702 = .ok (.ireturn, 1) := by decide +kernel
theorem d_Law_law_703 : decode code 703 = .ok (.aload_n 1, 1) := by decide +kernel
theorem d_Law_law_704 : decode code 704 = .ok (.invokevirtual 76, 3) := by decide +kernel
theorem d_Law_law_707 : decode code 707 = .ok (.aload_n 2, 1) := by decide +kernel
theorem d_Law_law_708 : decode code 708 = .ok (.invokevirtual 80, 3) := by decide +kernel
theorem d_Law_law_711 : decode code 711 = .ok (.if_icmp .eq 506, 3) := by decide +kernel
theorem d_Law_law_714 : decode code 714 = .ok (.iconst 0, 1) := by decide +kernel
theorem d_Law_law_715 : decode code 715 = .ok (.ireturn, 1) := by decide +kernel
theorem d_Law_law_716 : decode code 716 = .ok (.aload_n 1, 1) := by decide +kernel
theorem d_Law_law_717 : decode code 717 = .ok (.aload_n 0, 1) := by decide +kernel
theorem d_Law_law_718 : decode code 718 = .ok (.iload_n 3, 1) := by decide +kernel
theorem d_Law_law_719 : decode code 719 = .ok (.iconst 1, 1) := by decide +kernel
theorem d_Law_law_720 : decode code 720 = .ok (.iadd, 1) := by decide +kernel
theorem d_Law_law_721 : decode code 721 = .ok (.iaload, 1) := by decide +kernel
theorem d_Law_law_722 : decode code 722 = .ok (.invokevirtual 81, 3) := by decide +kernel
theorem d_Law_law_725 : decode code 725 = .ok (.aload_n 2, 1) := by decide +kernel
theorem d_Law_law_726 : decode code 726 = .ok (.aload_n 0, 1) := by decide +kernel
theorem d_Law_law_727 : decode code 727 = .ok (.iload_n 3, 1) := by decide +kernel
theorem d_Law_law_728 : decode code 728 = .ok (.iconst 1, 1) := by decide +kernel
theorem d_Law_law_729 : decode code 729 = .ok (.iadd, 1) := by decide +kernel
theorem d_Law_law_730 : decode code 730 = .ok (.iaload, 1) := by decide +kernel
theorem d_Law_law_731 : decode code 731 = .ok (.invokevirtual 85, 3) := by decide +kernel
theorem d_Law_law_734 : decode code 734 = .ok (.lcmp, 1) := by decide +kernel
theorem d_Law_law_735 : decode code 735 = .ok (.ifCond .eq 482, 3) := by decide +kernel
theorem d_Law_law_738 : decode code 738 = .ok (.iconst 0, 1) := by decide +kernel
theorem d_Law_law_739 : decode code 739 = .ok (.ireturn, 1) := by decide +kernel
theorem d_Law_law_740 : decode code 740 = .ok (.aload_n 1, 1) := by decide +kernel
theorem d_Law_law_741 : decode code 741 = .ok (.aload_n 0, 1) := by decide +kernel
theorem d_Law_law_742 : decode code 742 = .ok (.iload_n 3, 1) := by decide +kernel
theorem d_Law_law_743 : decode code 743 = .ok (.iconst 1, 1) := by decide +kernel
theorem d_Law_law_744 : decode code 744 = .ok (.iadd, 1) := by decide +kernel
theorem d_Law_law_745 : decode code 745 = .ok (.iaload, 1) := by decide +kernel
theorem d_Law_law_746 : decode code 746 = .ok (.aload_n 0, 1) := by decide +kernel
theorem d_Law_law_747 : decode code 747 = .ok (.iload_n 3, 1) := by decide +kernel
theorem d_Law_law_748 : decode code 748 = .ok (.iconst 2, 1) := by decide +kernel
theorem d_Law_law_749 : decode code 749 = .ok (.iadd, 1) := by decide +kernel
theorem d_Law_law_750 : decode code 750 = .ok (.iaload, 1) := by decide +kernel
theorem d_Law_law_751 : decode code 751 = .ok (.invokevirtual 86, 3) := by decide +kernel
theorem d_Law_law_754 : decode code 754 = .ok (.aload_n 2, 1) := by decide +kernel
theorem d_Law_law_755 : decode code 755 = .ok (.aload_n 0, 1) := by decide +kernel
theorem d_Law_law_756 : decode code 756 = .ok (.iload_n 3, 1) := by decide +kernel
theorem d_Law_law_757 : decode code 757 = .ok (.iconst 1, 1) := by decide +kernel
theorem d_Law_law_758 : decode code 758 = .ok (.iadd, 1) := by decide +kernel
theorem d_Law_law_759 : decode code 759 = .ok (.iaload, 1) := by decide +kernel
theorem d_Law_law_760 : decode code 760 = .ok (.aload_n 0, 1) := by decide +kernel
theorem d_Law_law_761 : decode code 761 = .ok (.iload_n 3, 1) := by decide +kernel
theorem d_Law_law_762 : decode code 762 = .ok (.iconst 2, 1) := by decide +kernel
theorem d_Law_law_763 : decode code 763 = .ok (.iadd, 1) := by decide +kernel
theorem d_Law_law_764 : decode code 764 = .ok (.iaload, 1) := by decide +kernel
theorem d_Law_law_765 : decode code 765 = .ok (.invokevirtual 90, 3) := by decide +kernel
theorem d_Law_law_768 : decode code 768 = .ok (.if_icmp .eq 449, 3) := by decide +kernel
theorem d_Law_law_771 : decode code 771 = .ok (.iconst 0, 1) := by decide +kernel
theorem d_Law_law_772 : decode code 772 = .ok (.ireturn, 1) := by decide +kernel
theorem d_Law_law_773 : decode code 773 = .ok (.aload_n 1, 1) := by decide +kernel
theorem d_Law_law_774 : decode code 774 = .ok (.aload_n 0, 1) := by decide +kernel
theorem d_Law_law_775 : decode code 775 = .ok (.iload_n 3, 1) := by decide +kernel
theorem d_Law_law_776 : decode code 776 = .ok (.iconst 1, 1) := by decide +kernel
theorem d_Law_law_777 : decode code 777 = .ok (.iadd, 1) := by decide +kernel
theorem d_Law_law_778 : decode code 778 = .ok (.iaload, 1) := by decide +kernel
theorem d_Law_law_779 : decode code 779 = .ok (.aload_n 0, 1) := by decide +kernel
theorem d_Law_law_780 : decode code 780 = .ok (.iload_n 3, 1) := by decide +kernel
theorem d_Law_law_781 : decode code 781 = .ok (.iconst 2, 1) := by decide +kernel
theorem d_Law_law_782 : decode code 782 = .ok (.iadd, 1) := by decide +kernel
theorem d_Law_law_783 : decode code 783 = .ok (.iaload, 1) := by decide +kernel
theorem d_Law_law_784 : decode code 784 = .ok (.i2l, 1) := by decide +kernel
theorem d_Law_law_785 : decode code 785 = .ok (.bipush 32, 2) := by decide +kernel
theorem d_Law_law_787 : decode code 787 = .ok (.lshl, 1) := by decide +kernel
theorem d_Law_law_788 : decode code 788 = .ok (.aload_n 0, 1) := by decide +kernel
theorem d_Law_law_789 : decode code 789 = .ok (.iload_n 3, 1) := by decide +kernel
theorem d_Law_law_790 : decode code 790 = .ok (.iconst 3, 1) := by decide +kernel
theorem d_Law_law_791 : decode code 791 = .ok (.iadd, 1) := by decide +kernel
theorem d_Law_law_792 : decode code 792 = .ok (.iaload, 1) := by decide +kernel
theorem d_Law_law_793 : decode code 793 = .ok (.i2l, 1) := by decide +kernel
theorem d_Law_law_794 : decode code 794 = .ok (.ldc2_w 13, 3) := by decide +kernel
theorem d_Law_law_797 : decode code 797 = .ok (.land, 1) := by decide +kernel
theorem d_Law_law_798 : decode code 798 = .ok (.lor, 1) := by decide +kernel
theorem d_Law_law_799 : decode code 799 = .ok (.aload_n 0, 1) := by decide +kernel
theorem d_Law_law_800 : decode code 800 = .ok (.iload_n 3, 1) := by decide +kernel
theorem d_Law_law_801 : decode code 801 = .ok (.iconst 4, 1) := by decide +kernel
theorem d_Law_law_802 : decode code 802 = .ok (.iadd, 1) := by decide +kernel
theorem d_Law_law_803 : decode code 803 = .ok (.iaload, 1) := by decide +kernel
theorem d_Law_law_804 : decode code 804 = .ok (.i2l, 1) := by decide +kernel
theorem d_Law_law_805 : decode code 805 = .ok (.bipush 32, 2) := by decide +kernel
theorem d_Law_law_807 : decode code 807 = .ok (.lshl, 1) := by decide +kernel
theorem d_Law_law_808 : decode code 808 = .ok (.aload_n 0, 1) := by decide +kernel
theorem d_Law_law_809 : decode code 809 = .ok (.iload_n 3, 1) := by decide +kernel
theorem d_Law_law_810 : decode code 810 = .ok (.iconst 5, 1) := by decide +kernel
theorem d_Law_law_811 : decode code 811 = .ok (.iadd, 1) := by decide +kernel
theorem d_Law_law_812 : decode code 812 = .ok (.iaload, 1) := by decide +kernel
theorem d_Law_law_813 : decode code 813 = .ok (.i2l, 1) := by decide +kernel
theorem d_Law_law_814 : decode code 814 = .ok (.ldc2_w 13, 3) := by decide +kernel
theorem d_Law_law_817 : decode code 817 = .ok (.land, 1) := by decide +kernel
theorem d_Law_law_818 : decode code 818 = .ok (.lor, 1) := by decide +kernel
theorem d_Law_law_819 : decode code 819 = .ok (.aload_n 0, 1) := by decide +kernel
theorem d_Law_law_820 : decode code 820 = .ok (.iload_n 3, 1) := by decide +kernel
theorem d_Law_law_821 : decode code 821 = .ok (.bipush 6, 2) := by decide +kernel
theorem d_Law_law_823 : decode code 823 = .ok (.iadd, 1) := by decide +kernel
theorem d_Law_law_824 : decode code 824 = .ok (.iaload, 1) := by decide +kernel
theorem d_Law_law_825 : decode code 825 = .ok (.i2l, 1) := by decide +kernel
theorem d_Law_law_826 : decode code 826 = .ok (.bipush 32, 2) := by decide +kernel
theorem d_Law_law_828 : decode code 828 = .ok (.lshl, 1) := by decide +kernel
theorem d_Law_law_829 : decode code 829 = .ok (.aload_n 0, 1) := by decide +kernel
theorem d_Law_law_830 : decode code 830 = .ok (.iload_n 3, 1) := by decide +kernel
theorem d_Law_law_831 : decode code 831 = .ok (.bipush 7, 2) := by decide +kernel
theorem d_Law_law_833 : decode code 833 = .ok (.iadd, 1) := by decide +kernel
theorem d_Law_law_834 : decode code 834 = .ok (.iaload, 1) := by decide +kernel
theorem d_Law_law_835 : decode code 835 = .ok (.i2l, 1) := by decide +kernel
theorem d_Law_law_836 : decode code 836 = .ok (.ldc2_w 13, 3) := by decide +kernel
theorem d_Law_law_839 : decode code 839 = .ok (.land, 1) := by decide +kernel
theorem d_Law_law_840 : decode code 840 = .ok (.lor, 1) := by decide +kernel
theorem d_Law_law_841 : decode code 841 = .ok (.invokevirtual 91, 3) := by decide +kernel
theorem d_Law_law_844 : decode code 844 = .ok (.aload_n 2, 1) := by decide +kernel
theorem d_Law_law_845 : decode code 845 = .ok (.aload_n 0, 1) := by decide +kernel
theorem d_Law_law_846 : decode code 846 = .ok (.iload_n 3, 1) := by decide +kernel
theorem d_Law_law_847 : decode code 847 = .ok (.iconst 1, 1) := by decide +kernel
theorem d_Law_law_848 : decode code 848 = .ok (.iadd, 1) := by decide +kernel
theorem d_Law_law_849 : decode code 849 = .ok (.iaload, 1) := by decide +kernel
theorem d_Law_law_850 : decode code 850 = .ok (.aload_n 0, 1) := by decide +kernel
theorem d_Law_law_851 : decode code 851 = .ok (.iload_n 3, 1) := by decide +kernel
theorem d_Law_law_852 : decode code 852 = .ok (.iconst 2, 1) := by decide +kernel
theorem d_Law_law_853 : decode code 853 = .ok (.iadd, 1) := by decide +kernel
theorem d_Law_law_854 : decode code 854 = .ok (.iaload, 1) := by decide +kernel
theorem d_Law_law_855 : decode code 855 = .ok (.i2l, 1) := by decide +kernel
theorem d_Law_law_856 : decode code 856 = .ok (.bipush 32, 2) := by decide +kernel
theorem d_Law_law_858 : decode code 858 = .ok (.lshl, 1) := by decide +kernel
theorem d_Law_law_859 : decode code 859 = .ok (.aload_n 0, 1) := by decide +kernel
theorem d_Law_law_860 : decode code 860 = .ok (.iload_n 3, 1) := by decide +kernel
theorem d_Law_law_861 : decode code 861 = .ok (.iconst 3, 1) := by decide +kernel
theorem d_Law_law_862 : decode code 862 = .ok (.iadd, 1) := by decide +kernel
theorem d_Law_law_863 : decode code 863 = .ok (.iaload, 1) := by decide +kernel
theorem d_Law_law_864 : decode code 864 = .ok (.i2l, 1) := by decide +kernel
theorem d_Law_law_865 : decode code 865 = .ok (.ldc2_w 13, 3) := by decide +kernel
theorem d_Law_law_868 : decode code 868 = .ok (.land, 1) := by decide +kernel
theorem d_Law_law_869 : decode code 869 = .ok (.lor, 1) := by decide +kernel
theorem d_Law_law_870 : decode code 870 = .ok (.aload_n 0, 1) := by decide +kernel
theorem d_Law_law_871 : decode code 871 = .ok (.iload_n 3, 1) := by decide +kernel
theorem d_Law_law_872 : decode code 872 = .ok (.iconst 4, 1) := by decide +kernel
theorem d_Law_law_873 : decode code 873 = .ok (.iadd, 1) := by decide +kernel
theorem d_Law_law_874 : decode code 874 = .ok (.iaload, 1) := by decide +kernel
theorem d_Law_law_875 : decode code 875 = .ok (.i2l, 1) := by decide +kernel
theorem d_Law_law_876 : decode code 876 = .ok (.bipush 32, 2) := by decide +kernel
theorem d_Law_law_878 : decode code 878 = .ok (.lshl, 1) := by decide +kernel
theorem d_Law_law_879 : decode code 879 = .ok (.aload_n 0, 1) := by decide +kernel
theorem d_Law_law_880 : decode code 880 = .ok (.iload_n 3, 1) := by decide +kernel
theorem d_Law_law_881 : decode code 881 = .ok (.iconst 5, 1) := by decide +kernel
theorem d_Law_law_882 : decode code 882 = .ok (.iadd, 1) := by decide +kernel
theorem d_Law_law_883 : decode code 883 = .ok (.iaload, 1) := by decide +kernel
theorem d_Law_law_884 : decode code 884 = .ok (.i2l, 1) := by decide +kernel
theorem d_Law_law_885 : decode code 885 = .ok (.ldc2_w 13, 3) := by decide +kernel
theorem d_Law_law_888 : decode code 888 = .ok (.land, 1) := by decide +kernel
theorem d_Law_law_889 : decode code 889 = .ok (.lor, 1) := by decide +kernel
theorem d_Law_law_890 : decode code 890 = .ok (.aload_n 0, 1) := by decide +kernel
theorem d_Law_law_891 : decode code 891 = .ok (.iload_n 3, 1) := by decide +kernel
theorem d_Law_law_892 : decode code 892 = .ok (.bipush 6, 2) := by decide +kernel
theorem d_Law_law_894 : decode code 894 = .ok (.iadd, 1) := by decide +kernel
theorem d_Law_law_895 : decode code 895 = .ok (.iaload, 1) := by decide +kernel
theorem d_Law_law_896 : decode code 896 = .ok (.i2l, 1) := by decide +kernel
theorem d_Law_law_897 : decode code 897 = .ok (.bipush 32, 2) := by decide +kernel
theorem d_Law_law_899 : decode code 899 = .ok (.lshl, 1) := by decide +kernel
theorem d_Law_law_900 : decode code 900 = .ok (.aload_n 0, 1) := by decide +kernel
theorem d_Law_law_901 : decode code 901 = .ok (.iload_n 3, 1) := by decide +kernel
theorem d_Law_law_902 : decode code 902 = .ok (.bipush 7, 2) := by decide +kernel
theorem d_Law_law_904 : decode code 904 = .ok (.iadd, 1) := by decide +kernel
theorem d_Law_law_905 : decode code 905 = .ok (.iaload, 1) := by decide +kernel
theorem d_Law_law_906 : decode code 906 = .ok (.i2l, 1) := by decide +kernel
theorem d_Law_law_907 : decode code 907 = .ok (.ldc2_w 13, 3) := by decide +kernel
theorem d_Law_law_910 : decode code 910 = .ok (.land, 1) := by decide +kernel
theorem d_Law_law_911 : decode code 911 = .ok (.lor, 1) := by decide +kernel
theorem d_Law_law_912 : decode code 912 = .ok (.invokevirtual 95, 3) := by decide +kernel
theorem d_Law_law_915 : decode code 915 = .ok (.if_icmp .eq 302, 3) := by decide +kernel
theorem d_Law_law_918 : decode code 918 = .ok (.iconst 0, 1) := by decide +kernel
theorem d_Law_law_919 : decode code 919 = .ok (.ireturn, 1) := by decide +kernel
theorem d_Law_law_920 : decode code 920 = .ok (.aload_n 1, 1) := by decide +kernel
theorem d_Law_law_921 : decode code 921 = .ok (.aload_n 0, 1) := by decide +kernel
theorem d_Law_law_922 : decode code 922 = .ok (.iload_n 3, 1) := by decide +kernel
theorem d_Law_law_923 : decode code 923 = .ok (.iconst 1, 1) := by decide +kernel
theorem d_Law_law_924 : decode code 924 = .ok (.iadd, 1) := by decide +kernel
theorem d_Law_law_925 : decode code 925 = .ok (.iaload, 1) := by decide +kernel
theorem d_Law_law_926 : decode code 926 = .ok (.aload_n 0, 1) := by decide +kernel
theorem d_Law_law_927 : decode code 927 = .ok (.iload_n 3, 1) := by decide +kernel
theorem d_Law_law_928 : decode code 928 = .ok (.iconst 2, 1) := by decide +kernel
theorem d_Law_law_929 : decode code 929 = .ok (.iadd, 1) := by decide +kernel
theorem d_Law_law_930 : decode code 930 = .ok (.iaload, 1) := by decide +kernel
theorem d_Law_law_931 : decode code 931 = .ok (.i2l, 1) := by decide +kernel
theorem d_Law_law_932 : decode code 932 = .ok (.bipush 32, 2) := by decide +kernel
theorem d_Law_law_934 : decode code 934 = .ok (.lshl, 1) := by decide +kernel
theorem d_Law_law_935 : decode code 935 = .ok (.aload_n 0, 1) := by decide +kernel
theorem d_Law_law_936 : decode code 936 = .ok (.iload_n 3, 1) := by decide +kernel
theorem d_Law_law_937 : decode code 937 = .ok (.iconst 3, 1) := by decide +kernel
theorem d_Law_law_938 : decode code 938 = .ok (.iadd, 1) := by decide +kernel
theorem d_Law_law_939 : decode code 939 = .ok (.iaload, 1) := by decide +kernel
theorem d_Law_law_940 : decode code 940 = .ok (.i2l, 1) := by decide +kernel
theorem d_Law_law_941 : decode code 941 = .ok (.ldc2_w 13, 3) := by decide +kernel
theorem d_Law_law_944 : decode code 944 = .ok (.land, 1) := by decide +kernel
theorem d_Law_law_945 : decode code 945 = .ok (.lor, 1) := by decide +kernel
theorem d_Law_law_946 : decode code 946 = .ok (.aload_n 0, 1) := by decide +kernel
theorem d_Law_law_947 : decode code 947 = .ok (.iload_n 3, 1) := by decide +kernel
theorem d_Law_law_948 : decode code 948 = .ok (.iconst 4, 1) := by decide +kernel
theorem d_Law_law_949 : decode code 949 = .ok (.iadd, 1) := by decide +kernel
theorem d_Law_law_950 : decode code 950 = .ok (.iaload, 1) := by decide +kernel
theorem d_Law_law_951 : decode code 951 = .ok (.i2l, 1) := by decide +kernel
theorem d_Law_law_952 : decode code 952 = .ok (.bipush 32, 2) := by decide +kernel
theorem d_Law_law_954 : decode code 954 = .ok (.lshl, 1) := by decide +kernel
theorem d_Law_law_955 : decode code 955 = .ok (.aload_n 0, 1) := by decide +kernel
theorem d_Law_law_956 : decode code 956 = .ok (.iload_n 3, 1) := by decide +kernel
theorem d_Law_law_957 : decode code 957 = .ok (.iconst 5, 1) := by decide +kernel
theorem d_Law_law_958 : decode code 958 = .ok (.iadd, 1) := by decide +kernel
theorem d_Law_law_959 : decode code 959 = .ok (.iaload, 1) := by decide +kernel
theorem d_Law_law_960 : decode code 960 = .ok (.i2l, 1) := by decide +kernel
theorem d_Law_law_961 : decode code 961 = .ok (.ldc2_w 13, 3) := by decide +kernel
theorem d_Law_law_964 : decode code 964 = .ok (.land, 1) := by decide +kernel
theorem d_Law_law_965 : decode code 965 = .ok (.lor, 1) := by decide +kernel
theorem d_Law_law_966 : decode code 966 = .ok (.invokevirtual 96, 3) := by decide +kernel
theorem d_Law_law_969 : decode code 969 = .ok (.aload_n 2, 1) := by decide +kernel
theorem d_Law_law_970 : decode code 970 = .ok (.aload_n 0, 1) := by decide +kernel
theorem d_Law_law_971 : decode code 971 = .ok (.iload_n 3, 1) := by decide +kernel
theorem d_Law_law_972 : decode code 972 = .ok (.iconst 1, 1) := by decide +kernel
theorem d_Law_law_973 : decode code 973 = .ok (.iadd, 1) := by decide +kernel
theorem d_Law_law_974 : decode code 974 = .ok (.iaload, 1) := by decide +kernel
theorem d_Law_law_975 : decode code 975 = .ok (.aload_n 0, 1) := by decide +kernel
theorem d_Law_law_976 : decode code 976 = .ok (.iload_n 3, 1) := by decide +kernel
theorem d_Law_law_977 : decode code 977 = .ok (.iconst 2, 1) := by decide +kernel
theorem d_Law_law_978 : decode code 978 = .ok (.iadd, 1) := by decide +kernel
theorem d_Law_law_979 : decode code 979 = .ok (.iaload, 1) := by decide +kernel
theorem d_Law_law_980 : decode code 980 = .ok (.i2l, 1) := by decide +kernel
theorem d_Law_law_981 : decode code 981 = .ok (.bipush 32, 2) := by decide +kernel
theorem d_Law_law_983 : decode code 983 = .ok (.lshl, 1) := by decide +kernel
theorem d_Law_law_984 : decode code 984 = .ok (.aload_n 0, 1) := by decide +kernel
theorem d_Law_law_985 : decode code 985 = .ok (.iload_n 3, 1) := by decide +kernel
theorem d_Law_law_986 : decode code 986 = .ok (.iconst 3, 1) := by decide +kernel
theorem d_Law_law_987 : decode code 987 = .ok (.iadd, 1) := by decide +kernel
theorem d_Law_law_988 : decode code 988 = .ok (.iaload, 1) := by decide +kernel
theorem d_Law_law_989 : decode code 989 = .ok (.i2l, 1) := by decide +kernel
theorem d_Law_law_990 : decode code 990 = .ok (.ldc2_w 13, 3) := by decide +kernel
theorem d_Law_law_993 : decode code 993 = .ok (.land, 1) := by decide +kernel
theorem d_Law_law_994 : decode code 994 = .ok (.lor, 1) := by decide +kernel
theorem d_Law_law_995 : decode code 995 = .ok (.aload_n 0, 1) := by decide +kernel
theorem d_Law_law_996 : decode code 996 = .ok (.iload_n 3, 1) := by decide +kernel
theorem d_Law_law_997 : decode code 997 = .ok (.iconst 4, 1) := by decide +kernel
theorem d_Law_law_998 : decode code 998 = .ok (.iadd, 1) := by decide +kernel
theorem d_Law_law_999 : decode code 999 = .ok (.iaload, 1) := by decide +kernel
theorem d_Law_law_1000 : decode code 1000 = .ok (.i2l, 1) := by decide +kernel
theorem d_Law_law_1001 : decode code 1001 = .ok (.bipush 32, 2) := by decide +kernel
theorem d_Law_law_1003 : decode code 1003 = .ok (.lshl, 1) := by decide +kernel
theorem d_Law_law_1004 : decode code 1004 = .ok (.aload_n 0, 1) := by decide +kernel
theorem d_Law_law_1005 : decode code 1005 = .ok (.iload_n 3, 1) := by decide +kernel
theorem d_Law_law_1006 : decode code 1006 = .ok (.iconst 5, 1) := by decide +kernel
theorem d_Law_law_1007 : decode code 1007 = .ok (.iadd, 1) := by decide +kernel
theorem d_Law_law_1008 : decode code 1008 = .ok (.iaload, 1) := by decide +kernel
theorem d_Law_law_1009 : decode code 1009 = .ok (.i2l, 1) := by decide +kernel
theorem d_Law_law_1010 : decode code 1010 = .ok (.ldc2_w 13, 3) := by decide +kernel
theorem d_Law_law_1013 : decode code 1013 = .ok (.land, 1) := by decide +kernel
theorem d_Law_law_1014 : decode code 1014 = .ok (.lor, 1) := by decide +kernel
theorem d_Law_law_1015 : decode code 1015 = .ok (.invokevirtual 100, 3) := by decide +kernel
theorem d_Law_law_1018 : decode code 1018 = .ok (.lcmp, 1) := by decide +kernel
theorem d_Law_law_1019 : decode code 1019 = .ok (.ifCond .eq 198, 3) := by decide +kernel
theorem d_Law_law_1022 : decode code 1022 = .ok (.iconst 0, 1) := by decide +kernel
theorem d_Law_law_1023 : decode code 1023 = .ok (.ireturn, 1) := by decide +kernel
theorem d_Law_law_1024 : decode code 1024 = .ok (.aload_n 1, 1) := by decide +kernel
theorem d_Law_law_1025 : decode code 1025 = .ok (.aload_n 0, 1) := by decide +kernel
theorem d_Law_law_1026 : decode code 1026 = .ok (.iload_n 3, 1) := by decide +kernel
theorem d_Law_law_1027 : decode code 1027 = .ok (.iconst 1, 1) := by decide +kernel
theorem d_Law_law_1028 : decode code 1028 = .ok (.iadd, 1) := by decide +kernel
theorem d_Law_law_1029 : decode code 1029 = .ok (.iaload, 1) := by decide +kernel
theorem d_Law_law_1030 : decode code 1030 = .ok (.aload_n 0, 1) := by decide +kernel
theorem d_Law_law_1031 : decode code 1031 = .ok (.iload_n 3, 1) := by decide +kernel
theorem d_Law_law_1032 : decode code 1032 = .ok (.iconst 2, 1) := by decide +kernel
theorem d_Law_law_1033 : decode code 1033 = .ok (.iadd, 1) := by decide +kernel
theorem d_Law_law_1034 : decode code 1034 = .ok (.iaload, 1) := by decide +kernel
theorem d_Law_law_1035 : decode code 1035 = .ok (.i2l, 1) := by decide +kernel
theorem d_Law_law_1036 : decode code 1036 = .ok (.bipush 32, 2) := by decide +kernel
theorem d_Law_law_1038 : decode code 1038 = .ok (.lshl, 1) := by decide +kernel
theorem d_Law_law_1039 : decode code 1039 = .ok (.aload_n 0, 1) := by decide +kernel
theorem d_Law_law_1040 : decode code 1040 = .ok (.iload_n 3, 1) := by decide +kernel
theorem d_Law_law_1041 : decode code 1041 = .ok (.iconst 3, 1) := by decide +kernel
theorem d_Law_law_1042 : decode code 1042 = .ok (.iadd, 1) := by decide +kernel
theorem d_Law_law_1043 : decode code 1043 = .ok (.iaload, 1) := by decide +kernel
theorem d_Law_law_1044 : decode code 1044 = .ok (.i2l, 1) := by decide +kernel
theorem d_Law_law_1045 : decode code 1045 = .ok (.ldc2_w 13, 3) := by decide +kernel
theorem d_Law_law_1048 : decode code 1048 = .ok (.land, 1) := by decide +kernel
theorem d_Law_law_1049 : decode code 1049 = .ok (.lor, 1) := by decide +kernel
theorem d_Law_law_1050 : decode code 1050 = .ok (.aload_n 0, 1) := by decide +kernel
theorem d_Law_law_1051 : decode code 1051 = .ok (.iload_n 3, 1) := by decide +kernel
theorem d_Law_law_1052 : decode code 1052 = .ok (.iconst 4, 1) := by decide +kernel
theorem d_Law_law_1053 : decode code 1053 = .ok (.iadd, 1) := by decide +kernel
theorem d_Law_law_1054 : decode code 1054 = .ok (.iaload, 1) := by decide +kernel
theorem d_Law_law_1055 : decode code 1055 = .ok (.i2l, 1) := by decide +kernel
theorem d_Law_law_1056 : decode code 1056 = .ok (.bipush 32, 2) := by decide +kernel
theorem d_Law_law_1058 : decode code 1058 = .ok (.lshl, 1) := by decide +kernel
theorem d_Law_law_1059 : decode code 1059 = .ok (.aload_n 0, 1) := by decide +kernel
theorem d_Law_law_1060 : decode code 1060 = .ok (.iload_n 3, 1) := by decide +kernel
theorem d_Law_law_1061 : decode code 1061 = .ok (.iconst 5, 1) := by decide +kernel
theorem d_Law_law_1062 : decode code 1062 = .ok (.iadd, 1) := by decide +kernel
theorem d_Law_law_1063 : decode code 1063 = .ok (.iaload, 1) := by decide +kernel
theorem d_Law_law_1064 : decode code 1064 = .ok (.i2l, 1) := by decide +kernel
theorem d_Law_law_1065 : decode code 1065 = .ok (.ldc2_w 13, 3) := by decide +kernel
theorem d_Law_law_1068 : decode code 1068 = .ok (.land, 1) := by decide +kernel
theorem d_Law_law_1069 : decode code 1069 = .ok (.lor, 1) := by decide +kernel
theorem d_Law_law_1070 : decode code 1070 = .ok (.invokevirtual 101, 3) := by decide +kernel
theorem d_Law_law_1073 : decode code 1073 = .ok (.aload_n 2, 1) := by decide +kernel
theorem d_Law_law_1074 : decode code 1074 = .ok (.aload_n 0, 1) := by decide +kernel
theorem d_Law_law_1075 : decode code 1075 = .ok (.iload_n 3, 1) := by decide +kernel
theorem d_Law_law_1076 : decode code 1076 = .ok (.iconst 1, 1) := by decide +kernel
theorem d_Law_law_1077 : decode code 1077 = .ok (.iadd, 1) := by decide +kernel
theorem d_Law_law_1078 : decode code 1078 = .ok (.iaload, 1) := by decide +kernel
theorem d_Law_law_1079 : decode code 1079 = .ok (.aload_n 0, 1) := by decide +kernel
theorem d_Law_law_1080 : decode code 1080 = .ok (.iload_n 3, 1) := by decide +kernel
theorem d_Law_law_1081 : decode code 1081 = .ok (.iconst 2, 1) := by decide +kernel
theorem d_Law_law_1082 : decode code 1082 = .ok (.iadd, 1) := by decide +kernel
theorem d_Law_law_1083 : decode code 1083 = .ok (.iaload, 1) := by decide +kernel
theorem d_Law_law_1084 : decode code 1084 = .ok (.i2l, 1) := by decide +kernel
theorem d_Law_law_1085 : decode code 1085 = .ok (.bipush 32, 2) := by decide +kernel
theorem d_Law_law_1087 : decode code 1087 = .ok (.lshl, 1) := by decide +kernel
theorem d_Law_law_1088 : decode code 1088 = .ok (.aload_n 0, 1) := by decide +kernel
theorem d_Law_law_1089 : decode code 1089 = .ok (.iload_n 3, 1) := by decide +kernel
theorem d_Law_law_1090 : decode code 1090 = .ok (.iconst 3, 1) := by decide +kernel
theorem d_Law_law_1091 : decode code 1091 = .ok (.iadd, 1) := by decide +kernel
theorem d_Law_law_1092 : decode code 1092 = .ok (.iaload, 1) := by decide +kernel
theorem d_Law_law_1093 : decode code 1093 = .ok (.i2l, 1) := by decide +kernel
theorem d_Law_law_1094 : decode code 1094 = .ok (.ldc2_w 13, 3) := by decide +kernel
theorem d_Law_law_1097 : decode code 1097 = .ok (.land, 1) := by decide +kernel
theorem d_Law_law_1098 : decode code 1098 = .ok (.lor, 1) := by decide +kernel
theorem d_Law_law_1099 : decode code 1099 = .ok (.aload_n 0, 1) := by decide +kernel
theorem d_Law_law_1100 : decode code 1100 = .ok (.iload_n 3, 1) := by decide +kernel
theorem d_Law_law_1101 : decode code 1101 = .ok (.iconst 4, 1) := by decide +kernel
theorem d_Law_law_1102 : decode code 1102 = .ok (.iadd, 1) := by decide +kernel
theorem d_Law_law_1103 : decode code 1103 = .ok (.iaload, 1) := by decide +kernel
theorem d_Law_law_1104 : decode code 1104 = .ok (.i2l, 1) := by decide +kernel
theorem d_Law_law_1105 : decode code 1105 = .ok (.bipush 32, 2) := by decide +kernel
theorem d_Law_law_1107 : decode code 1107 = .ok (.lshl, 1) := by decide +kernel
theorem d_Law_law_1108 : decode code 1108 = .ok (.aload_n 0, 1) := by decide +kernel
theorem d_Law_law_1109 : decode code 1109 = .ok (.iload_n 3, 1) := by decide +kernel
theorem d_Law_law_1110 : decode code 1110 = .ok (.iconst 5, 1) := by decide +kernel
theorem d_Law_law_1111 : decode code 1111 = .ok (.iadd, 1) := by decide +kernel
theorem d_Law_law_1112 : decode code 1112 = .ok (.iaload, 1) := by decide +kernel
theorem d_Law_law_1113 : decode code 1113 = .ok (.i2l, 1) := by decide +kernel
theorem d_Law_law_1114 : decode code 1114 = .ok (.ldc2_w 13, 3) := by decide +kernel
theorem d_Law_law_1117 : decode code 1117 = .ok (.land, 1) := by decide +kernel
theorem d_Law_law_1118 : decode code 1118 = .ok (.lor, 1) := by decide +kernel
theorem d_Law_law_1119 : decode code 1119 = .ok (.invokevirtual 105, 3) := by decide +kernel
theorem d_Law_law_1122 : decode code 1122 = .ok (.if_icmp .eq 95, 3) := by decide +kernel
theorem d_Law_law_1125 : decode code 1125 = .ok (.iconst 0, 1) := by decide +kernel
theorem d_Law_law_1126 : decode code 1126 = .ok (.ireturn, 1) := by decide +kernel
theorem d_Law_law_1127 : decode code 1127 = .ok (.aload_n 1, 1) := by decide +kernel
theorem d_Law_law_1128 : decode code 1128 = .ok (.aload_n 0, 1) := by decide +kernel
theorem d_Law_law_1129 : decode code 1129 = .ok (.iload_n 3, 1) := by decide +kernel
theorem d_Law_law_1130 : decode code 1130 = .ok (.iconst 1, 1) := by decide +kernel
theorem d_Law_law_1131 : decode code 1131 = .ok (.iadd, 1) := by decide +kernel
theorem d_Law_law_1132 : decode code 1132 = .ok (.iaload, 1) := by decide +kernel
theorem d_Law_law_1133 : decode code 1133 = .ok (.aload_n 0, 1) := by decide +kernel
theorem d_Law_law_1134 : decode code 1134 = .ok (.iload_n 3, 1) := by decide +kernel
theorem d_Law_law_1135 : decode code 1135 = .ok (.iconst 2, 1) := by decide +kernel
theorem d_Law_law_1136 : decode code 1136 = .ok (.iadd, 1) := by decide +kernel
theorem d_Law_law_1137 : decode code 1137 = .ok (.iaload, 1) := by decide +kernel
theorem d_Law_law_1138 : decode code 1138 = .ok (.invokevirtual 106, 3) := by decide +kernel
theorem d_Law_law_1141 : decode code 1141 = .ok (.aload_n 2, 1) := by decide +kernel
theorem d_Law_law_1142 : decode code 1142 = .ok (.aload_n 0, 1) := by decide +kernel
theorem d_Law_law_1143 : decode code 1143 = .ok (.iload_n 3, 1) := by decide +kernel
theorem d_Law_law_1144 : decode code 1144 = .ok (.iconst 1, 1) := by decide +kernel
theorem d_Law_law_1145 : decode code 1145 = .ok (.iadd, 1) := by decide +kernel
theorem d_Law_law_1146 : decode code 1146 = .ok (.iaload, 1) := by decide +kernel
theorem d_Law_law_1147 : decode code 1147 = .ok (.aload_n 0, 1) := by decide +kernel
theorem d_Law_law_1148 : decode code 1148 = .ok (.iload_n 3, 1) := by decide +kernel
theorem d_Law_law_1149 : decode code 1149 = .ok (.iconst 2, 1) := by decide +kernel
theorem d_Law_law_1150 : decode code 1150 = .ok (.iadd, 1) := by decide +kernel
theorem d_Law_law_1151 : decode code 1151 = .ok (.iaload, 1) := by decide +kernel
theorem d_Law_law_1152 : decode code 1152 = .ok (.invokevirtual 110, 3) := by decide +kernel
theorem d_Law_law_1155 : decode code 1155 = .ok (.lcmp, 1) := by decide +kernel
theorem d_Law_law_1156 : decode code 1156 = .ok (.ifCond .eq 61, 3) := by decide +kernel
theorem d_Law_law_1159 : decode code 1159 = .ok (.iconst 0, 1) := by decide +kernel
theorem d_Law_law_1160 : decode code 1160 = .ok (.ireturn, 1) := by decide +kernel
theorem d_Law_law_1161 : decode code 1161 = .ok (.aload_n 1, 1) := by decide +kernel
theorem d_Law_law_1162 : decode code 1162 = .ok (.aload_n 0, 1) := by decide +kernel
theorem d_Law_law_1163 : decode code 1163 = .ok (.iload_n 3, 1) := by decide +kernel
theorem d_Law_law_1164 : decode code 1164 = .ok (.iconst 1, 1) := by decide +kernel
theorem d_Law_law_1165 : decode code 1165 = .ok (.iadd, 1) := by decide +kernel
theorem d_Law_law_1166 : decode code 1166 = .ok (.iaload, 1) := by decide +kernel
theorem d_Law_law_1167 : decode code 1167 = .ok (.aload_n 0, 1) := by decide +kernel
theorem d_Law_law_1168 : decode code 1168 = .ok (.iload_n 3, 1) := by decide +kernel
theorem d_Law_law_1169 : decode code 1169 = .ok (.iconst 2, 1) := by decide +kernel
theorem d_Law_law_1170 : decode code 1170 = .ok (.iadd, 1) := by decide +kernel
theorem d_Law_law_1171 : decode code 1171 = .ok (.iaload, 1) := by decide +kernel
theorem d_Law_law_1172 : decode code 1172 = .ok (.invokevirtual 111, 3) := by decide +kernel
theorem d_Law_law_1175 : decode code 1175 = .ok (.aload_n 2, 1) := by decide +kernel
theorem d_Law_law_1176 : decode code 1176 = .ok (.aload_n 0, 1) := by decide +kernel
theorem d_Law_law_1177 : decode code 1177 = .ok (.iload_n 3, 1) := by decide +kernel
theorem d_Law_law_1178 : decode code 1178 = .ok (.iconst 1, 1) := by decide +kernel
theorem d_Law_law_1179 : decode code 1179 = .ok (.iadd, 1) := by decide +kernel
theorem d_Law_law_1180 : decode code 1180 = .ok (.iaload, 1) := by decide +kernel
theorem d_Law_law_1181 : decode code 1181 = .ok (.aload_n 0, 1) := by decide +kernel
theorem d_Law_law_1182 : decode code 1182 = .ok (.iload_n 3, 1) := by decide +kernel
theorem d_Law_law_1183 : decode code 1183 = .ok (.iconst 2, 1) := by decide +kernel
theorem d_Law_law_1184 : decode code 1184 = .ok (.iadd, 1) := by decide +kernel
theorem d_Law_law_1185 : decode code 1185 = .ok (.iaload, 1) := by decide +kernel
theorem d_Law_law_1186 : decode code 1186 = .ok (.invokevirtual 114, 3) := by decide +kernel
theorem d_Law_law_1189 : decode code 1189 = .ok (.if_icmp .eq 28, 3) := by decide +kernel
theorem d_Law_law_1192 : decode code 1192 = .ok (.iconst 0, 1) := by decide +kernel
theorem d_Law_law_1193 : decode code 1193 = .ok (.ireturn, 1) := by decide +kernel
theorem d_Law_law_1194 : decode code 1194 = .ok (.aload_n 1, 1) := by decide +kernel
theorem d_Law_law_1195 : decode code 1195 = .ok (.aload_n 0, 1) := by decide +kernel
theorem d_Law_law_1196 : decode code 1196 = .ok (.iload_n 3, 1) := by decide +kernel
theorem d_Law_law_1197 : decode code 1197 = .ok (.iconst 1, 1) := by decide +kernel
theorem d_Law_law_1198 : decode code 1198 = .ok (.iadd, 1) := by decide +kernel
theorem d_Law_law_1199 : decode code 1199 = .ok (.iaload, 1) := by decide +kernel
theorem d_Law_law_1200 : decode code 1200 = .ok (.invokevirtual 115, 3) := by decide +kernel
theorem d_Law_law_1203 : decode code 1203 = .ok (.aload_n 2, 1) := by decide +kernel
theorem d_Law_law_1204 : decode code 1204 = .ok (.aload_n 0, 1) := by decide +kernel
theorem d_Law_law_1205 : decode code 1205 = .ok (.iload_n 3, 1) := by decide +kernel
theorem d_Law_law_1206 : decode code 1206 = .ok (.iconst 1, 1) := by decide +kernel
theorem d_Law_law_1207 : decode code 1207 = .ok (.iadd, 1) := by decide +kernel
theorem d_Law_law_1208 : decode code 1208 = .ok (.iaload, 1) := by decide +kernel
theorem d_Law_law_1209 : decode code 1209 = .ok (.invokevirtual 119, 3) := by decide +kernel
theorem d_Law_law_1212 : decode code 1212 = .ok (.if_icmp .eq 5, 3) := by decide +kernel
theorem d_Law_law_1215 : decode code 1215 = .ok (.iconst 0, 1) := by decide +kernel
theorem d_Law_law_1216 : decode code 1216 = .ok (.ireturn, 1) := by decide +kernel
theorem d_Law_law_1217 : decode code 1217 = .ok (.iinc 3 8, 3) := by decide +kernel
theorem d_Law_law_1220 : decode code 1220 = .ok (.goto (-1202), 3) := by decide +kernel
theorem d_Law_law_1223 : decode code 1223 = .ok (.iconst 1, 1) := by decide +kernel
theorem d_Law_law_1224 : decode code 1224 = .ok (.ireturn, 1) := by decide +kernel
