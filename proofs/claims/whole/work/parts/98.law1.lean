/-! the law: its instructions -/
theorem d_law_0 : decode code 0 = .ok (.new 7, 3) := by decide +kernel
theorem d_law_3 : decode code 3 = .ok (.dup, 1) := by decide +kernel
theorem d_law_4 : decode code 4 = .ok (.invokespecial 9, 3) := by decide +kernel
theorem d_law_7 : decode code 7 = .ok (.astore_n 1, 1) := by decide +kernel
theorem d_law_8 : decode code 8 = .ok (.new 10, 3) := by decide +kernel
theorem d_law_11 : decode code 11 = .ok (.dup, 1) := by decide +kernel
theorem d_law_12 : decode code 12 = .ok (.invokespecial 12, 3) := by decide +kernel
theorem d_law_15 : decode code 15 = .ok (.astore_n 2, 1) := by decide +kernel
theorem d_law_16 : decode code 16 = .ok (.iconst 0, 1) := by decide +kernel
theorem d_law_17 : decode code 17 = .ok (.istore_n 3, 1) := by decide +kernel
theorem d_law_18 : decode code 18 = .ok (.iload_n 3, 1) := by decide +kernel
theorem d_law_19 : decode code 19 = .ok (.aload_n 0, 1) := by decide +kernel
theorem d_law_20 : decode code 20 = .ok (.arraylength, 1) := by decide +kernel
theorem d_law_21 : decode code 21 = .ok (.bipush 6, 2) := by decide +kernel
theorem d_law_23 : decode code 23 = .ok (.isub, 1) := by decide +kernel
theorem d_law_24 : decode code 24 = .ok (.if_icmp .gt 867, 3) := by decide +kernel
theorem d_law_27 : decode code 27 = .ok (.aload_n 0, 1) := by decide +kernel
theorem d_law_28 : decode code 28 = .ok (.iload_n 3, 1) := by decide +kernel
theorem d_law_29 : decode code 29 = .ok (.iaload, 1) := by decide +kernel
theorem d_law_30 : decode code 30 = .ok (.bipush 31, 2) := by decide +kernel
theorem d_law_32 : decode code 32 = .ok (.iand, 1) := by decide +kernel
theorem d_law_33 : decode code 33 = .ok (.tableswitch 852 0 20 #[99, 112, 175, 198, 221, 254, 287, 330, 373, 416, 459, 492, 515, 538, 571, 604, 637, 670, 703, 736, 799], 99) := by decide +kernel
theorem d_law_132 : decode code 132 = .ok (.aload_n 1, 1) := by decide +kernel
theorem d_law_133 : decode code 133 = .ok (.invokevirtual 13, 3) := by decide +kernel
theorem d_law_136 : decode code 136 = .ok (.aload_n 2, 1) := by decide +kernel
theorem d_law_137 : decode code 137 = .ok (.invokevirtual 17, 3) := by decide +kernel
theorem d_law_140 : decode code 140 = .ok (.if_icmp .eq 745, 3) := by decide +kernel
theorem d_law_143 : decode code 143 = .ok (.iconst 0, 1) := by decide +kernel
theorem d_law_144 : decode code 144 = .ok (.ireturn, 1) := by decide +kernel
theorem d_law_145 : decode code 145 = .ok (.aload_n 1, 1) := by decide +kernel
theorem d_law_146 : decode code 146 = .ok (.aload_n 0, 1) := by decide +kernel
theorem d_law_147 : decode code 147 = .ok (.iload_n 3, 1) := by decide +kernel
theorem d_law_148 : decode code 148 = .ok (.iconst 1, 1) := by decide +kernel
theorem d_law_149 : decode code 149 = .ok (.iadd, 1) := by decide +kernel
theorem d_law_150 : decode code 150 = .ok (.iaload, 1) := by decide +kernel
theorem d_law_151 : decode code 151 = .ok (.aload_n 0, 1) := by decide +kernel
theorem d_law_152 : decode code 152 = .ok (.iload_n 3, 1) := by decide +kernel
theorem d_law_153 : decode code 153 = .ok (.iconst 2, 1) := by decide +kernel
theorem d_law_154 : decode code 154 = .ok (.iadd, 1) := by decide +kernel
theorem d_law_155 : decode code 155 = .ok (.iaload, 1) := by decide +kernel
theorem d_law_156 : decode code 156 = .ok (.aload_n 0, 1) := by decide +kernel
theorem d_law_157 : decode code 157 = .ok (.iload_n 3, 1) := by decide +kernel
theorem d_law_158 : decode code 158 = .ok (.iconst 3, 1) := by decide +kernel
theorem d_law_159 : decode code 159 = .ok (.iadd, 1) := by decide +kernel
theorem d_law_160 : decode code 160 = .ok (.iaload, 1) := by decide +kernel
theorem d_law_161 : decode code 161 = .ok (.aload_n 0, 1) := by decide +kernel
theorem d_law_162 : decode code 162 = .ok (.iload_n 3, 1) := by decide +kernel
theorem d_law_163 : decode code 163 = .ok (.iconst 4, 1) := by decide +kernel
theorem d_law_164 : decode code 164 = .ok (.iadd, 1) := by decide +kernel
theorem d_law_165 : decode code 165 = .ok (.iaload, 1) := by decide +kernel
theorem d_law_166 : decode code 166 = .ok (.aload_n 0, 1) := by decide +kernel
theorem d_law_167 : decode code 167 = .ok (.iload_n 3, 1) := by decide +kernel
theorem d_law_168 : decode code 168 = .ok (.iconst 5, 1) := by decide +kernel
theorem d_law_169 : decode code 169 = .ok (.iadd, 1) := by decide +kernel
theorem d_law_170 : decode code 170 = .ok (.iaload, 1) := by decide +kernel
theorem d_law_171 : decode code 171 = .ok (.invokevirtual 18, 3) := by decide +kernel
theorem d_law_174 : decode code 174 = .ok (.aload_n 2, 1) := by decide +kernel
theorem d_law_175 : decode code 175 = .ok (.aload_n 0, 1) := by decide +kernel
theorem d_law_176 : decode code 176 = .ok (.iload_n 3, 1) := by decide +kernel
theorem d_law_177 : decode code 177 = .ok (.iconst 1, 1) := by decide +kernel
theorem d_law_178 : decode code 178 = .ok (.iadd, 1) := by decide +kernel
theorem d_law_179 : decode code 179 = .ok (.iaload, 1) := by decide +kernel
theorem d_law_180 : decode code 180 = .ok (.aload_n 0, 1) := by decide +kernel
theorem d_law_181 : decode code 181 = .ok (.iload_n 3, 1) := by decide +kernel
theorem d_law_182 : decode code 182 = .ok (.iconst 2, 1) := by decide +kernel
theorem d_law_183 : decode code 183 = .ok (.iadd, 1) := by decide +kernel
theorem d_law_184 : decode code 184 = .ok (.iaload, 1) := by decide +kernel
theorem d_law_185 : decode code 185 = .ok (.aload_n 0, 1) := by decide +kernel
theorem d_law_186 : decode code 186 = .ok (.iload_n 3, 1) := by decide +kernel
theorem d_law_187 : decode code 187 = .ok (.iconst 3, 1) := by decide +kernel
theorem d_law_188 : decode code 188 = .ok (.iadd, 1) := by decide +kernel
theorem d_law_189 : decode code 189 = .ok (.iaload, 1) := by decide +kernel
theorem d_law_190 : decode code 190 = .ok (.aload_n 0, 1) := by decide +kernel
theorem d_law_191 : decode code 191 = .ok (.iload_n 3, 1) := by decide +kernel
theorem d_law_192 : decode code 192 = .ok (.iconst 4, 1) := by decide +kernel
theorem d_law_193 : decode code 193 = .ok (.iadd, 1) := by decide +kernel
theorem d_law_194 : decode code 194 = .ok (.iaload, 1) := by decide +kernel
theorem d_law_195 : decode code 195 = .ok (.aload_n 0, 1) := by decide +kernel
theorem d_law_196 : decode code 196 = .ok (.iload_n 3, 1) := by decide +kernel
theorem d_law_197 : decode code 197 = .ok (.iconst 5, 1) := by decide +kernel
theorem d_law_198 : decode code 198 = .ok (.iadd, 1) := by decide +kernel
theorem d_law_199 : decode code 199 = .ok (.iaload, 1) := by decide +kernel
theorem d_law_200 : decode code 200 = .ok (.invokevirtual 22, 3) := by decide +kernel
theorem d_law_203 : decode code 203 = .ok (.if_icmp .eq 682, 3) := by decide +kernel
theorem d_law_206 : decode code 206 = .ok (.iconst 0, 1) := by decide +kernel
theorem d_law_207 : decode code 207 = .ok (.ireturn, 1) := by decide +kernel
theorem d_law_208 : decode code 208 = .ok (.aload_n 1, 1) := by decide +kernel
theorem d_law_209 : decode code 209 = .ok (.aload_n 0, 1) := by decide +kernel
theorem d_law_210 : decode code 210 = .ok (.iload_n 3, 1) := by decide +kernel
theorem d_law_211 : decode code 211 = .ok (.iconst 1, 1) := by decide +kernel
theorem d_law_212 : decode code 212 = .ok (.iadd, 1) := by decide +kernel
theorem d_law_213 : decode code 213 = .ok (.iaload, 1) := by decide +kernel
theorem d_law_214 : decode code 214 = .ok (.invokevirtual 23, 3) := by decide +kernel
theorem d_law_217 : decode code 217 = .ok (.aload_n 2, 1) := by decide +kernel
theorem d_law_218 : decode code 218 = .ok (.aload_n 0, 1) := by decide +kernel
theorem d_law_219 : decode code 219 = .ok (.iload_n 3, 1) := by decide +kernel
theorem d_law_220 : decode code 220 = .ok (.iconst 1, 1) := by decide +kernel
theorem d_law_221 : decode code 221 = .ok (.iadd, 1) := by decide +kernel
theorem d_law_222 : decode code 222 = .ok (.iaload, 1) := by decide +kernel
theorem d_law_223 : decode code 223 = .ok (.invokevirtual 27, 3) := by decide +kernel
theorem d_law_226 : decode code 226 = .ok (.if_icmp .eq 659, 3) := by decide +kernel
theorem d_law_229 : decode code 229 = .ok (.iconst 0, 1) := by decide +kernel
theorem d_law_230 : decode code 230 = .ok (.ireturn, 1) := by decide +kernel
theorem d_law_231 : decode code 231 = .ok (.aload_n 1, 1) := by decide +kernel
theorem d_law_232 : decode code 232 = .ok (.aload_n 0, 1) := by decide +kernel
theorem d_law_233 : decode code 233 = .ok (.iload_n 3, 1) := by decide +kernel
theorem d_law_234 : decode code 234 = .ok (.iconst 1, 1) := by decide +kernel
theorem d_law_235 : decode code 235 = .ok (.iadd, 1) := by decide +kernel
theorem d_law_236 : decode code 236 = .ok (.iaload, 1) := by decide +kernel
theorem d_law_237 : decode code 237 = .ok (.invokevirtual 28, 3) := by decide +kernel
theorem d_law_240 : decode code 240 = .ok (.aload_n 2, 1) := by decide +kernel
theorem d_law_241 : decode code 241 = .ok (.aload_n 0, 1) := by decide +kernel
theorem d_law_242 : decode code 242 = .ok (.iload_n 3, 1) := by decide +kernel
theorem d_law_243 : decode code 243 = .ok (.iconst 1, 1) := by decide +kernel
theorem d_law_244 : decode code 244 = .ok (.iadd, 1) := by decide +kernel
theorem d_law_245 : decode code 245 = .ok (.iaload, 1) := by decide +kernel
theorem d_law_246 : decode code 246 = .ok (.invokevirtual 31, 3) := by decide +kernel
theorem d_law_249 : decode code 249 = .ok (.if_icmp .eq 636, 3) := by decide +kernel
theorem d_law_252 : decode code 252 = .ok (.iconst 0, 1) := by decide +kernel
theorem d_law_253 : decode code 253 = .ok (.ireturn, 1) := by decide +kernel
theorem d_law_254 : decode code 254 = .ok (.aload_n 1, 1) := by decide +kernel
theorem d_law_255 : decode code 255 = .ok (.aload_n 0, 1) := by decide +kernel
theorem d_law_256 : decode code 256 = .ok (.iload_n 3, 1) := by decide +kernel
theorem d_law_257 : decode code 257 = .ok (.iconst 1, 1) := by decide +kernel
theorem d_law_258 : decode code 258 = .ok (.iadd, 1) := by decide +kernel
theorem d_law_259 : decode code 259 = .ok (.iaload, 1) := by decide +kernel
theorem d_law_260 : decode code 260 = .ok (.aload_n 0, 1) := by decide +kernel
theorem d_law_261 : decode code 261 = .ok (.iload_n 3, 1) := by decide +kernel
theorem d_law_262 : decode code 262 = .ok (.iconst 2, 1) := by decide +kernel
theorem d_law_263 : decode code 263 = .ok (.iadd, 1) := by decide +kernel
theorem d_law_264 : decode code 264 = .ok (.iaload, 1) := by decide +kernel
theorem d_law_265 : decode code 265 = .ok (.invokevirtual 32, 3) := by decide +kernel
theorem d_law_268 : decode code 268 = .ok (.aload_n 2, 1) := by decide +kernel
theorem d_law_269 : decode code 269 = .ok (.aload_n 0, 1) := by decide +kernel
theorem d_law_270 : decode code 270 = .ok (.iload_n 3, 1) := by decide +kernel
theorem d_law_271 : decode code 271 = .ok (.iconst 1, 1) := by decide +kernel
theorem d_law_272 : decode code 272 = .ok (.iadd, 1) := by decide +kernel
theorem d_law_273 : decode code 273 = .ok (.iaload, 1) := by decide +kernel
theorem d_law_274 : decode code 274 = .ok (.aload_n 0, 1) := by decide +kernel
theorem d_law_275 : decode code 275 = .ok (.iload_n 3, 1) := by decide +kernel
theorem d_law_276 : decode code 276 = .ok (.iconst 2, 1) := by decide +kernel
theorem d_law_277 : decode code 277 = .ok (.iadd, 1) := by decide +kernel
theorem d_law_278 : decode code 278 = .ok (.iaload, 1) := by decide +kernel
theorem d_law_279 : decode code 279 = .ok (.invokevirtual 36, 3) := by decide +kernel
theorem d_law_282 : decode code 282 = .ok (.if_icmp .eq 603, 3) := by decide +kernel
theorem d_law_285 : decode code 285 = .ok (.iconst 0, 1) := by decide +kernel
theorem d_law_286 : decode code 286 = .ok (.ireturn, 1) := by decide +kernel
theorem d_law_287 : decode code 287 = .ok (.aload_n 1, 1) := by decide +kernel
theorem d_law_288 : decode code 288 = .ok (.aload_n 0, 1) := by decide +kernel
theorem d_law_289 : decode code 289 = .ok (.iload_n 3, 1) := by decide +kernel
theorem d_law_290 : decode code 290 = .ok (.iconst 1, 1) := by decide +kernel
theorem d_law_291 : decode code 291 = .ok (.iadd, 1) := by decide +kernel
theorem d_law_292 : decode code 292 = .ok (.iaload, 1) := by decide +kernel
theorem d_law_293 : decode code 293 = .ok (.aload_n 0, 1) := by decide +kernel
theorem d_law_294 : decode code 294 = .ok (.iload_n 3, 1) := by decide +kernel
theorem d_law_295 : decode code 295 = .ok (.iconst 2, 1) := by decide +kernel
theorem d_law_296 : decode code 296 = .ok (.iadd, 1) := by decide +kernel
theorem d_law_297 : decode code 297 = .ok (.iaload, 1) := by decide +kernel
theorem d_law_298 : decode code 298 = .ok (.invokevirtual 37, 3) := by decide +kernel
theorem d_law_301 : decode code 301 = .ok (.aload_n 2, 1) := by decide +kernel
theorem d_law_302 : decode code 302 = .ok (.aload_n 0, 1) := by decide +kernel
theorem d_law_303 : decode code 303 = .ok (.iload_n 3, 1) := by decide +kernel
theorem d_law_304 : decode code 304 = .ok (.iconst 1, 1) := by decide +kernel
theorem d_law_305 : decode code 305 = .ok (.iadd, 1) := by decide +kernel
theorem d_law_306 : decode code 306 = .ok (.iaload, 1) := by decide +kernel
theorem d_law_307 : decode code 307 = .ok (.aload_n 0, 1) := by decide +kernel
theorem d_law_308 : decode code 308 = .ok (.iload_n 3, 1) := by decide +kernel
theorem d_law_309 : decode code 309 = .ok (.iconst 2, 1) := by decide +kernel
theorem d_law_310 : decode code 310 = .ok (.iadd, 1) := by decide +kernel
theorem d_law_311 : decode code 311 = .ok (.iaload, 1) := by decide +kernel
theorem d_law_312 : decode code 312 = .ok (.invokevirtual 40, 3) := by decide +kernel
theorem d_law_315 : decode code 315 = .ok (.if_icmp .eq 570, 3) := by decide +kernel
theorem d_law_318 : decode code 318 = .ok (.iconst 0, 1) := by decide +kernel
theorem d_law_319 : decode code 319 = .ok (.ireturn, 1) := by decide +kernel
theorem d_law_320 : decode code 320 = .ok (.aload_n 1, 1) := by decide +kernel
theorem d_law_321 : decode code 321 = .ok (.aload_n 0, 1) := by decide +kernel
theorem d_law_322 : decode code 322 = .ok (.iload_n 3, 1) := by decide +kernel
theorem d_law_323 : decode code 323 = .ok (.iconst 1, 1) := by decide +kernel
theorem d_law_324 : decode code 324 = .ok (.iadd, 1) := by decide +kernel
theorem d_law_325 : decode code 325 = .ok (.iaload, 1) := by decide +kernel
theorem d_law_326 : decode code 326 = .ok (.aload_n 0, 1) := by decide +kernel
theorem d_law_327 : decode code 327 = .ok (.iload_n 3, 1) := by decide +kernel
theorem d_law_328 : decode code 328 = .ok (.iconst 2, 1) := by decide +kernel
theorem d_law_329 : decode code 329 = .ok (.iadd, 1) := by decide +kernel
theorem d_law_330 : decode code 330 = .ok (.iaload, 1) := by decide +kernel
theorem d_law_331 : decode code 331 = .ok (.aload_n 0, 1) := by decide +kernel
theorem d_law_332 : decode code 332 = .ok (.iload_n 3, 1) := by decide +kernel
theorem d_law_333 : decode code 333 = .ok (.iconst 3, 1) := by decide +kernel
theorem d_law_334 : decode code 334 = .ok (.iadd, 1) := by decide +kernel
theorem d_law_335 : decode code 335 = .ok (.iaload, 1) := by decide +kernel
theorem d_law_336 : decode code 336 = .ok (.invokevirtual 41, 3) := by decide +kernel
theorem d_law_339 : decode code 339 = .ok (.aload_n 2, 1) := by decide +kernel
theorem d_law_340 : decode code 340 = .ok (.aload_n 0, 1) := by decide +kernel
theorem d_law_341 : decode code 341 = .ok (.iload_n 3, 1) := by decide +kernel
theorem d_law_342 : decode code 342 = .ok (.iconst 1, 1) := by decide +kernel
theorem d_law_343 : decode code 343 = .ok (.iadd, 1) := by decide +kernel
theorem d_law_344 : decode code 344 = .ok (.iaload, 1) := by decide +kernel
theorem d_law_345 : decode code 345 = .ok (.aload_n 0, 1) := by decide +kernel
theorem d_law_346 : decode code 346 = .ok (.iload_n 3, 1) := by decide +kernel
theorem d_law_347 : decode code 347 = .ok (.iconst 2, 1) := by decide +kernel
theorem d_law_348 : decode code 348 = .ok (.iadd, 1) := by decide +kernel
theorem d_law_349 : decode code 349 = .ok (.iaload, 1) := by decide +kernel
theorem d_law_350 : decode code 350 = .ok (.aload_n 0, 1) := by decide +kernel
theorem d_law_351 : decode code 351 = .ok (.iload_n 3, 1) := by decide +kernel
theorem d_law_352 : decode code 352 = .ok (.iconst 3, 1) := by decide +kernel
theorem d_law_353 : decode code 353 = .ok (.iadd, 1) := by decide +kernel
theorem d_law_354 : decode code 354 = .ok (.iaload, 1) := by decide +kernel
theorem d_law_355 : decode code 355 = .ok (.invokevirtual 45, 3) := by decide +kernel
theorem d_law_358 : decode code 358 = .ok (.if_icmp .eq 527, 3) := by decide +kernel
theorem d_law_361 : decode code 361 = .ok (.iconst 0, 1) := by decide +kernel
theorem d_law_362 : decode code 362 = .ok (.ireturn, 1) := by decide +kernel
theorem d_law_363 : decode code 363 = .ok (.aload_n 1, 1) := by decide +kernel
theorem d_law_364 : decode code 364 = .ok (.aload_n 0, 1) := by decide +kernel
theorem d_law_365 : decode code 365 = .ok (.iload_n 3, 1) := by decide +kernel
theorem d_law_366 : decode code 366 = .ok (.iconst 1, 1) := by decide +kernel
theorem d_law_367 : decode code 367 = .ok (.iadd, 1) := by decide +kernel
theorem d_law_368 : decode code 368 = .ok (.iaload, 1) := by decide +kernel
theorem d_law_369 : decode code 369 = .ok (.aload_n 0, 1) := by decide +kernel
theorem d_law_370 : decode code 370 = .ok (.iload_n 3, 1) := by decide +kernel
theorem d_law_371 : decode code 371 = .ok (.iconst 2, 1) := by decide +kernel
theorem d_law_372 : decode code 372 = .ok (.iadd, 1) := by decide +kernel
theorem d_law_373 : decode code 373 = .ok (.iaload, 1) := by decide +kernel
theorem d_law_374 : decode code 374 = .ok (.aload_n 0, 1) := by decide +kernel
theorem d_law_375 : decode code 375 = .ok (.iload_n 3, 1) := by decide +kernel
theorem d_law_376 : decode code 376 = .ok (.iconst 3, 1) := by decide +kernel
theorem d_law_377 : decode code 377 = .ok (.iadd, 1) := by decide +kernel
theorem d_law_378 : decode code 378 = .ok (.iaload, 1) := by decide +kernel
theorem d_law_379 : decode code 379 = .ok (.invokevirtual 46, 3) := by decide +kernel
theorem d_law_382 : decode code 382 = .ok (.aload_n 2, 1) := by decide +kernel
theorem d_law_383 : decode code 383 = .ok (.aload_n 0, 1) := by decide +kernel
theorem d_law_384 : decode code 384 = .ok (.iload_n 3, 1) := by decide +kernel
theorem d_law_385 : decode code 385 = .ok (.iconst 1, 1) := by decide +kernel
theorem d_law_386 : decode code 386 = .ok (.iadd, 1) := by decide +kernel
theorem d_law_387 : decode code 387 = .ok (.iaload, 1) := by decide +kernel
theorem d_law_388 : decode code 388 = .ok (.aload_n 0, 1) := by decide +kernel
theorem d_law_389 : decode code 389 = .ok (.iload_n 3, 1) := by decide +kernel
theorem d_law_390 : decode code 390 = .ok (.iconst 2, 1) := by decide +kernel
theorem d_law_391 : decode code 391 = .ok (.iadd, 1) := by decide +kernel
theorem d_law_392 : decode code 392 = .ok (.iaload, 1) := by decide +kernel
theorem d_law_393 : decode code 393 = .ok (.aload_n 0, 1) := by decide +kernel
theorem d_law_394 : decode code 394 = .ok (.iload_n 3, 1) := by decide +kernel
theorem d_law_395 : decode code 395 = .ok (.iconst 3, 1) := by decide +kernel
theorem d_law_396 : decode code 396 = .ok (.iadd, 1) := by decide +kernel
theorem d_law_397 : decode code 397 = .ok (.iaload, 1) := by decide +kernel
theorem d_law_398 : decode code 398 = .ok (.invokevirtual 49, 3) := by decide +kernel
theorem d_law_401 : decode code 401 = .ok (.if_icmp .eq 484, 3) := by decide +kernel
theorem d_law_404 : decode code 404 = .ok (.iconst 0, 1) := by decide +kernel
theorem d_law_405 : decode code 405 = .ok (.ireturn, 1) := by decide +kernel
theorem d_law_406 : decode code 406 = .ok (.aload_n 1, 1) := by decide +kernel
theorem d_law_407 : decode code 407 = .ok (.aload_n 0, 1) := by decide +kernel
theorem d_law_408 : decode code 408 = .ok (.iload_n 3, 1) := by decide +kernel
theorem d_law_409 : decode code 409 = .ok (.iconst 1, 1) := by decide +kernel
theorem d_law_410 : decode code 410 = .ok (.iadd, 1) := by decide +kernel
theorem d_law_411 : decode code 411 = .ok (.iaload, 1) := by decide +kernel
theorem d_law_412 : decode code 412 = .ok (.aload_n 0, 1) := by decide +kernel
theorem d_law_413 : decode code 413 = .ok (.iload_n 3, 1) := by decide +kernel
theorem d_law_414 : decode code 414 = .ok (.iconst 2, 1) := by decide +kernel
theorem d_law_415 : decode code 415 = .ok (.iadd, 1) := by decide +kernel
theorem d_law_416 : decode code 416 = .ok (.iaload, 1) := by decide +kernel
theorem d_law_417 : decode code 417 = .ok (.aload_n 0, 1) := by decide +kernel
theorem d_law_418 : decode code 418 = .ok (.iload_n 3, 1) := by decide +kernel
theorem d_law_419 : decode code 419 = .ok (.iconst 3, 1) := by decide +kernel
theorem d_law_420 : decode code 420 = .ok (.iadd, 1) := by decide +kernel
theorem d_law_421 : decode code 421 = .ok (.iaload, 1) := by decide +kernel
theorem d_law_422 : decode code 422 = .ok (.invokevirtual 50, 3) := by decide +kernel
theorem d_law_425 : decode code 425 = .ok (.aload_n 2, 1) := by decide +kernel
theorem d_law_426 : decode code 426 = .ok (.aload_n 0, 1) := by decide +kernel
theorem d_law_427 : decode code 427 = .ok (.iload_n 3, 1) := by decide +kernel
theorem d_law_428 : decode code 428 = .ok (.iconst 1, 1) := by decide +kernel
theorem d_law_429 : decode code 429 = .ok (.iadd, 1) := by decide +kernel
theorem d_law_430 : decode code 430 = .ok (.iaload, 1) := by decide +kernel
theorem d_law_431 : decode code 431 = .ok (.aload_n 0, 1) := by decide +kernel
theorem d_law_432 : decode code 432 = .ok (.iload_n 3, 1) := by decide +kernel
theorem d_law_433 : decode code 433 = .ok (.iconst 2, 1) := by decide +kernel
theorem d_law_434 : decode code 434 = .ok (.iadd, 1) := by decide +kernel
theorem d_law_435 : decode code 435 = .ok (.iaload, 1) := by decide +kernel
theorem d_law_436 : decode code 436 = .ok (.aload_n 0, 1) := by decide +kernel
theorem d_law_437 : decode code 437 = .ok (.iload_n 3, 1) := by decide +kernel
theorem d_law_438 : decode code 438 = .ok (.iconst 3, 1) := by decide +kernel
theorem d_law_439 : decode code 439 = .ok (.iadd, 1) := by decide +kernel
theorem d_law_440 : decode code 440 = .ok (.iaload, 1) := by decide +kernel
theorem d_law_441 : decode code 441 = .ok (.invokevirtual 53, 3) := by decide +kernel
theorem d_law_444 : decode code 444 = .ok (.if_icmp .eq 441, 3) := by decide +kernel
theorem d_law_447 : decode code 447 = .ok (.iconst 0, 1) := by decide +kernel
theorem d_law_448 : decode code 448 = .ok (.ireturn, 1) := by decide +kernel
theorem d_law_449 : decode code 449 = .ok (.aload_n 1, 1) := by decide +kernel
theorem d_law_450 : decode code 450 = .ok (.aload_n 0, 1) := by decide +kernel
theorem d_law_451 : decode code 451 = .ok (.iload_n 3, 1) := by decide +kernel
theorem d_law_452 : decode code 452 = .ok (.iconst 1, 1) := by decide +kernel
theorem d_law_453 : decode code 453 = .ok (.iadd, 1) := by decide +kernel
theorem d_law_454 : decode code 454 = .ok (.iaload, 1) := by decide +kernel
theorem d_law_455 : decode code 455 = .ok (.aload_n 0, 1) := by decide +kernel
theorem d_law_456 : decode code 456 = .ok (.iload_n 3, 1) := by decide +kernel
theorem d_law_457 : decode code 457 = .ok (.iconst 2, 1) := by decide +kernel
theorem d_law_458 : decode code 458 = .ok (.iadd, 1) := by decide +kernel
theorem d_law_459 : decode code 459 = .ok (.iaload, 1) := by decide +kernel
theorem d_law_460 : decode code 460 = .ok (.aload_n 0, 1) := by decide +kernel
theorem d_law_461 : decode code 461 = .ok (.iload_n 3, 1) := by decide +kernel
theorem d_law_462 : decode code 462 = .ok (.iconst 3, 1) := by decide +kernel
theorem d_law_463 : decode code 463 = .ok (.iadd, 1) := by decide +kernel
theorem d_law_464 : decode code 464 = .ok (.iaload, 1) := by decide +kernel
theorem d_law_465 : decode code 465 = .ok (.invokevirtual 54, 3) := by decide +kernel
theorem d_law_468 : decode code 468 = .ok (.aload_n 2, 1) := by decide +kernel
theorem d_law_469 : decode code 469 = .ok (.aload_n 0, 1) := by decide +kernel
theorem d_law_470 : decode code 470 = .ok (.iload_n 3, 1) := by decide +kernel
theorem d_law_471 : decode code 471 = .ok (.iconst 1, 1) := by decide +kernel
theorem d_law_472 : decode code 472 = .ok (.iadd, 1) := by decide +kernel
theorem d_law_473 : decode code 473 = .ok (.iaload, 1) := by decide +kernel
theorem d_law_474 : decode code 474 = .ok (.aload_n 0, 1) := by decide +kernel
theorem d_law_475 : decode code 475 = .ok (.iload_n 3, 1) := by decide +kernel
theorem d_law_476 : decode code 476 = .ok (.iconst 2, 1) := by decide +kernel
theorem d_law_477 : decode code 477 = .ok (.iadd, 1) := by decide +kernel
theorem d_law_478 : decode code 478 = .ok (.iaload, 1) := by decide +kernel
theorem d_law_479 : decode code 479 = .ok (.aload_n 0, 1) := by decide +kernel
theorem d_law_480 : decode code 480 = .ok (.iload_n 3, 1) := by decide +kernel
theorem d_law_481 : decode code 481 = .ok (.iconst 3, 1) := by decide +kernel
theorem d_law_482 : decode code 482 = .ok (.iadd, 1) := by decide +kernel
theorem d_law_483 : decode code 483 = .ok (.iaload, 1) := by decide +kernel
theorem d_law_484 : decode code 484 = .ok (.invokevirtual 57, 3) := by decide +kernel
theorem d_law_487 : decode code 487 = .ok (.if_icmp .eq 398, 3) := by decide +kernel
theorem d_law_490 : decode code 490 = .ok (.iconst 0, 1) := by decide +kernel
theorem d_law_491 : decode code 491 = .ok (.ireturn, 1) := by decide +kernel
theorem d_law_492 : decode code 492 = .ok (.aload_n 1, 1) := by decide +kernel
theorem d_law_493 : decode code 493 = .ok (.aload_n 0, 1) := by decide +kernel
theorem d_law_494 : decode code 494 = .ok (.iload_n 3, 1) := by decide +kernel
theorem d_law_495 : decode code 495 = .ok (.iconst 1, 1) := by decide +kernel
theorem d_law_496 : decode code 496 = .ok (.iadd, 1) := by decide +kernel
theorem d_law_497 : decode code 497 = .ok (.iaload, 1) := by decide +kernel
theorem d_law_498 : decode code 498 = .ok (.aload_n 0, 1) := by decide +kernel
theorem d_law_499 : decode code 499 = .ok (.iload_n 3, 1) := by decide +kernel
theorem d_law_500 : decode code 500 = .ok (.iconst 2, 1) := by decide +kernel
theorem d_law_501 : decode code 501 = .ok (.iadd, 1) := by decide +kernel
theorem d_law_502 : decode code 502 = .ok (.iaload, 1) := by decide +kernel
theorem d_law_503 : decode code 503 = .ok (.invokevirtual 58, 3) := by decide +kernel
theorem d_law_506 : decode code 506 = .ok (.aload_n 2, 1) := by decide +kernel
theorem d_law_507 : decode code 507 = .ok (.aload_n 0, 1) := by decide +kernel
theorem d_law_508 : decode code 508 = .ok (.iload_n 3, 1) := by decide +kernel
theorem d_law_509 : decode code 509 = .ok (.iconst 1, 1) := by decide +kernel
theorem d_law_510 : decode code 510 = .ok (.iadd, 1) := by decide +kernel
theorem d_law_511 : decode code 511 = .ok (.iaload, 1) := by decide +kernel
theorem d_law_512 : decode code 512 = .ok (.aload_n 0, 1) := by decide +kernel
theorem d_law_513 : decode code 513 = .ok (.iload_n 3, 1) := by decide +kernel
theorem d_law_514 : decode code 514 = .ok (.iconst 2, 1) := by decide +kernel
theorem d_law_515 : decode code 515 = .ok (.iadd, 1) := by decide +kernel
theorem d_law_516 : decode code 516 = .ok (.iaload, 1) := by decide +kernel
theorem d_law_517 : decode code 517 = .ok (.invokevirtual 61, 3) := by decide +kernel
theorem d_law_520 : decode code 520 = .ok (.if_icmp .eq 365, 3) := by decide +kernel
theorem d_law_523 : decode code 523 = .ok (.iconst 0, 1) := by decide +kernel
theorem d_law_524 : decode code 524 = .ok (.ireturn, 1) := by decide +kernel
theorem d_law_525 : decode code 525 = .ok (.aload_n 1, 1) := by decide +kernel
theorem d_law_526 : decode code 526 = .ok (.aload_n 0, 1) := by decide +kernel
theorem d_law_527 : decode code 527 = .ok (.iload_n 3, 1) := by decide +kernel
theorem d_law_528 : decode code 528 = .ok (.iconst 1, 1) := by decide +kernel
theorem d_law_529 : decode code 529 = .ok (.iadd, 1) := by decide +kernel
theorem d_law_530 : decode code 530 = .ok (.iaload, 1) := by decide +kernel
theorem d_law_531 : decode code 531 = .ok (.invokevirtual 62, 3) := by decide +kernel
theorem d_law_534 : decode code 534 = .ok (.aload_n 2, 1) := by decide +kernel
theorem d_law_535 : decode code 535 = .ok (.aload_n 0, 1) := by decide +kernel
theorem d_law_536 : decode code 536 = .ok (.iload_n 3, 1) := by decide +kernel
theorem d_law_537 : decode code 537 = .ok (.iconst 1, 1) := by decide +kernel
theorem d_law_538 : decode code 538 = .ok (.iadd, 1) := by decide +kernel
theorem d_law_539 : decode code 539 = .ok (.iaload, 1) := by decide +kernel
theorem d_law_540 : decode code 540 = .ok (.invokevirtual 65, 3) := by decide +kernel
theorem d_law_543 : decode code 543 = .ok (.if_icmp .eq 342, 3) := by decide +kernel
theorem d_law_546 : decode code 546 = .ok (.iconst 0, 1) := by decide +kernel
theorem d_law_547 : decode code 547 = .ok (.ireturn, 1) := by decide +kernel
theorem d_law_548 : decode code 548 = .ok (.aload_n 1, 1) := by decide +kernel
theorem d_law_549 : decode code 549 = .ok (.aload_n 0, 1) := by decide +kernel
theorem d_law_550 : decode code 550 = .ok (.iload_n 3, 1) := by decide +kernel
theorem d_law_551 : decode code 551 = .ok (.iconst 1, 1) := by decide +kernel
theorem d_law_552 : decode code 552 = .ok (.iadd, 1) := by decide +kernel
theorem d_law_553 : decode code 553 = .ok (.iaload, 1) := by decide +kernel
theorem d_law_554 : decode code 554 = .ok (.invokevirtual 66, 3) := by decide +kernel
theorem d_law_557 : decode code 557 = .ok (.aload_n 2, 1) := by decide +kernel
theorem d_law_558 : decode code 558 = .ok (.aload_n 0, 1) := by decide +kernel
theorem d_law_559 : decode code 559 = .ok (.iload_n 3, 1) := by decide +kernel
theorem d_law_560 : decode code 560 = .ok (.iconst 1, 1) := by decide +kernel
theorem d_law_561 : decode code 561 = .ok (.iadd, 1) := by decide +kernel
theorem d_law_562 : decode code 562 = .ok (.iaload, 1) := by decide +kernel
theorem d_law_563 : decode code 563 = .ok (.invokevirtual 69, 3) := by decide +kernel
theorem d_law_566 : decode code 566 = .ok (.if_icmp .eq 319, 3) := by decide +kernel
theorem d_law_569 : decode code 569 = .ok (.iconst 0, 1) := by decide +kernel
theorem d_law_570 : decode code 570 = .ok (.ireturn, 1) := by decide +kernel
theorem d_law_571 : decode code 571 = .ok (.aload_n 1, 1) := by decide +kernel
theorem d_law_572 : decode code 572 = .ok (.aload_n 0, 1) := by decide +kernel
theorem d_law_573 : decode code 573 = .ok (.iload_n 3, 1) := by decide +kernel
theorem d_law_574 : decode code 574 = .ok (.iconst 1, 1) := by decide +kernel
theorem d_law_575 : decode code 575 = .ok (.iadd, 1) := by decide +kernel
theorem d_law_576 : decode code 576 = .ok (.iaload, 1) := by decide +kernel
theorem d_law_577 : decode code 577 = .ok (.aload_n 0, 1) := by decide +kernel
theorem d_law_578 : decode code 578 = .ok (.iload_n 3, 1) := by decide +kernel
theorem d_law_579 : decode code 579 = .ok (.iconst 2, 1) := by decide +kernel
theorem d_law_580 : decode code 580 = .ok (.iadd, 1) := by decide +kernel
theorem d_law_581 : decode code 581 = .ok (.iaload, 1) := by decide +kernel
theorem d_law_582 : decode code 582 = .ok (.invokevirtual 70, 3) := by decide +kernel
theorem d_law_585 : decode code 585 = .ok (.aload_n 2, 1) := by decide +kernel
theorem d_law_586 : decode code 586 = .ok (.aload_n 0, 1) := by decide +kernel
theorem d_law_587 : decode code 587 = .ok (.iload_n 3, 1) := by decide +kernel
theorem d_law_588 : decode code 588 = .ok (.iconst 1, 1) := by decide +kernel
theorem d_law_589 : decode code 589 = .ok (.iadd, 1) := by decide +kernel
theorem d_law_590 : decode code 590 = .ok (.iaload, 1) := by decide +kernel
theorem d_law_591 : decode code 591 = .ok (.aload_n 0, 1) := by decide +kernel
theorem d_law_592 : decode code 592 = .ok (.iload_n 3, 1) := by decide +kernel
theorem d_law_593 : decode code 593 = .ok (.iconst 2, 1) := by decide +kernel
theorem d_law_594 : decode code 594 = .ok (.iadd, 1) := by decide +kernel
theorem d_law_595 : decode code 595 = .ok (.iaload, 1) := by decide +kernel
theorem d_law_596 : decode code 596 = .ok (.invokevirtual 74, 3) := by decide +kernel
theorem d_law_599 : decode code 599 = .ok (.if_icmp .eq 286, 3) := by decide +kernel
theorem d_law_602 : decode code 602 = .ok (.iconst 0, 1) := by decide +kernel
theorem d_law_603 : decode code 603 = .ok (.ireturn, 1) := by decide +kernel
theorem d_law_604 : decode code 604 = .ok (.aload_n 1, 1) := by decide +kernel
theorem d_law_605 : decode code 605 = .ok (.aload_n 0, 1) := by decide +kernel
theorem d_law_606 : decode code 606 = .ok (.iload_n 3, 1) := by decide +kernel
theorem d_law_607 : decode code 607 = .ok (.iconst 1, 1) := by decide +kernel
theorem d_law_608 : decode code 608 = .ok (.iadd, 1) := by decide +kernel
theorem d_law_609 : decode code 609 = .ok (.iaload, 1) := by decide +kernel
theorem d_law_610 : decode code 610 = .ok (.aload_n 0, 1) := by decide +kernel
theorem d_law_611 : decode code 611 = .ok (.iload_n 3, 1) := by decide +kernel
theorem d_law_612 : decode code 612 = .ok (.iconst 2, 1) := by decide +kernel
theorem d_law_613 : decode code 613 = .ok (.iadd, 1) := by decide +kernel
theorem d_law_614 : decode code 614 = .ok (.iaload, 1) := by decide +kernel
theorem d_law_615 : decode code 615 = .ok (.invokevirtual 75, 3) := by decide +kernel
theorem d_law_618 : decode code 618 = .ok (.aload_n 2, 1) := by decide +kernel
theorem d_law_619 : decode code 619 = .ok (.aload_n 0, 1) := by decide +kernel
theorem d_law_620 : decode code 620 = .ok (.iload_n 3, 1) := by decide +kernel
theorem d_law_621 : decode code 621 = .ok (.iconst 1, 1) := by decide +kernel
theorem d_law_622 : decode code 622 = .ok (.iadd, 1) := by decide +kernel
theorem d_law_623 : decode code 623 = .ok (.iaload, 1) := by decide +kernel
theorem d_law_624 : decode code 624 = .ok (.aload_n 0, 1) := by decide +kernel
theorem d_law_625 : decode code 625 = .ok (.iload_n 3, 1) := by decide +kernel
theorem d_law_626 : decode code 626 = .ok (.iconst 2, 1) := by decide +kernel
theorem d_law_627 : decode code 627 = .ok (.iadd, 1) := by decide +kernel
theorem d_law_628 : decode code 628 = .ok (.iaload, 1) := by decide +kernel
theorem d_law_629 : decode code 629 = .ok (.invokevirtual 78, 3) := by decide +kernel
theorem d_law_632 : decode code 632 = .ok (.if_icmp .eq 253, 3) := by decide +kernel
theorem d_law_635 : decode code 635 = .ok (.iconst 0, 1) := by decide +kernel
theorem d_law_636 : decode code 636 = .ok (.ireturn, 1) := by decide +kernel
theorem d_law_637 : decode code 637 = .ok (.aload_n 1, 1) := by decide +kernel
theorem d_law_638 : decode code 638 = .ok (.aload_n 0, 1) := by decide +kernel
theorem d_law_639 : decode code 639 = .ok (.iload_n 3, 1) := by decide +kernel
theorem d_law_640 : decode code 640 = .ok (.iconst 1, 1) := by decide +kernel
theorem d_law_641 : decode code 641 = .ok (.iadd, 1) := by decide +kernel
theorem d_law_642 : decode code 642 = .ok (.iaload, 1) := by decide +kernel
theorem d_law_643 : decode code 643 = .ok (.aload_n 0, 1) := by decide +kernel
theorem d_law_644 : decode code 644 = .ok (.iload_n 3, 1) := by decide +kernel
theorem d_law_645 : decode code 645 = .ok (.iconst 2, 1) := by decide +kernel
theorem d_law_646 : decode code 646 = .ok (.iadd, 1) := by decide +kernel
theorem d_law_647 : decode code 647 = .ok (.iaload, 1) := by decide +kernel
theorem d_law_648 : decode code 648 = .ok (.invokevirtual 79, 3) := by decide +kernel
theorem d_law_651 : decode code 651 = .ok (.aload_n 2, 1) := by decide +kernel
theorem d_law_652 : decode code 652 = .ok (.aload_n 0, 1) := by decide +kernel
theorem d_law_653 : decode code 653 = .ok (.iload_n 3, 1) := by decide +kernel
theorem d_law_654 : decode code 654 = .ok (.iconst 1, 1) := by decide +kernel
theorem d_law_655 : decode code 655 = .ok (.iadd, 1) := by decide +kernel
theorem d_law_656 : decode code 656 = .ok (.iaload, 1) := by decide +kernel
theorem d_law_657 : decode code 657 = .ok (.aload_n 0, 1) := by decide +kernel
theorem d_law_658 : decode code 658 = .ok (.iload_n 3, 1) := by decide +kernel
theorem d_law_659 : decode code 659 = .ok (.iconst 2, 1) := by decide +kernel
theorem d_law_660 : decode code 660 = .ok (.iadd, 1) := by decide +kernel
theorem d_law_661 : decode code 661 = .ok (.iaload, 1) := by decide +kernel
theorem d_law_662 : decode code 662 = .ok (.invokevirtual 82, 3) := by decide +kernel
theorem d_law_665 : decode code 665 = .ok (.if_icmp .eq 220, 3) := by decide +kernel
theorem d_law_668 : decode code 668 = .ok (.iconst 0, 1) := by decide +kernel
theorem d_law_669 : decode code 669 = .ok (.ireturn, 1) := by decide +kernel
theorem d_law_670 : decode code 670 = .ok (.aload_n 1, 1) := by decide +kernel
theorem d_law_671 : decode code 671 = .ok (.aload_n 0, 1) := by decide +kernel
theorem d_law_672 : decode code 672 = .ok (.iload_n 3, 1) := by decide +kernel
theorem d_law_673 : decode code 673 = .ok (.iconst 1, 1) := by decide +kernel
theorem d_law_674 : decode code 674 = .ok (.iadd, 1) := by decide +kernel
theorem d_law_675 : decode code 675 = .ok (.iaload, 1) := by decide +kernel
theorem d_law_676 : decode code 676 = .ok (.aload_n 0, 1) := by decide +kernel
theorem d_law_677 : decode code 677 = .ok (.iload_n 3, 1) := by decide +kernel
theorem d_law_678 : decode code 678 = .ok (.iconst 2, 1) := by decide +kernel
theorem d_law_679 : decode code 679 = .ok (.iadd, 1) := by decide +kernel
theorem d_law_680 : decode code 680 = .ok (.iaload, 1) := by decide +kernel
theorem d_law_681 : decode code 681 = .ok (.invokevirtual 83, 3) := by decide +kernel
theorem d_law_684 : decode code 684 = .ok (.aload_n 2, 1) := by decide +kernel
theorem d_law_685 : decode code 685 = .ok (.aload_n 0, 1) := by decide +kernel
theorem d_law_686 : decode code 686 = .ok (.iload_n 3, 1) := by decide +kernel
theorem d_law_687 : decode code 687 = .ok (.iconst 1, 1) := by decide +kernel
theorem d_law_688 : decode code 688 = .ok (.iadd, 1) := by decide +kernel
theorem d_law_689 : decode code 689 = .ok (.iaload, 1) := by decide +kernel
theorem d_law_690 : decode code 690 = .ok (.aload_n 0, 1) := by decide +kernel
theorem d_law_691 : decode code 691 = .ok (.iload_n 3, 1) := by decide +kernel
theorem d_law_692 : decode code 692 = .ok (.iconst 2, 1) := by decide +kernel
theorem d_law_693 : decode code 693 = .ok (.iadd, 1) := by decide +kernel
theorem d_law_694 : decode code 694 = .ok (.iaload, 1) := by decide +kernel
theorem d_law_695 : decode code 695 = .ok (.invokevirtual 86, 3) := by decide +kernel
theorem d_law_698 : decode code 698 = .ok (.if_icmp .eq 187, 3) := by decide +kernel
theorem d_law_701 : decode code 701 = .ok (.iconst 0, 1) := by decide +kernel
theorem d_law_702 : decode code 702 = .ok (.ireturn, 1) := by decide +kernel
theorem d_law_703 : decode code 703 = .ok (.aload_n 1, 1) := by decide +kernel
theorem d_law_704 : decode code 704 = .ok (.aload_n 0, 1) := by decide +kernel
theorem d_law_705 : decode code 705 = .ok (.iload_n 3, 1) := by decide +kernel
theorem d_law_706 : decode code 706 = .ok (.iconst 1, 1) := by decide +kernel
theorem d_law_707 : decode code 707 = .ok (.iadd, 1) := by decide +kernel
theorem d_law_708 : decode code 708 = .ok (.iaload, 1) := by decide +kernel
theorem d_law_709 : decode code 709 = .ok (.aload_n 0, 1) := by decide +kernel
theorem d_law_710 : decode code 710 = .ok (.iload_n 3, 1) := by decide +kernel
theorem d_law_711 : decode code 711 = .ok (.iconst 2, 1) := by decide +kernel
theorem d_law_712 : decode code 712 = .ok (.iadd, 1) := by decide +kernel
theorem d_law_713 : decode code 713 = .ok (.iaload, 1) := by decide +kernel
theorem d_law_714 : decode code 714 = .ok (.invokevirtual 87, 3) := by decide +kernel
theorem d_law_717 : decode code 717 = .ok (.aload_n 2, 1) := by decide +kernel
theorem d_law_718 : decode code 718 = .ok (.aload_n 0, 1) := by decide +kernel
theorem d_law_719 : decode code 719 = .ok (.iload_n 3, 1) := by decide +kernel
theorem d_law_720 : decode code 720 = .ok (.iconst 1, 1) := by decide +kernel
theorem d_law_721 : decode code 721 = .ok (.iadd, 1) := by decide +kernel
theorem d_law_722 : decode code 722 = .ok (.iaload, 1) := by decide +kernel
theorem d_law_723 : decode code 723 = .ok (.aload_n 0, 1) := by decide +kernel
theorem d_law_724 : decode code 724 = .ok (.iload_n 3, 1) := by decide +kernel
theorem d_law_725 : decode code 725 = .ok (.iconst 2, 1) := by decide +kernel
theorem d_law_726 : decode code 726 = .ok (.iadd, 1) := by decide +kernel
theorem d_law_727 : decode code 727 = .ok (.iaload, 1) := by decide +kernel
theorem d_law_728 : decode code 728 = .ok (.invokevirtual 90, 3) := by decide +kernel
theorem d_law_731 : decode code 731 = .ok (.if_icmp .eq 154, 3) := by decide +kernel
theorem d_law_734 : decode code 734 = .ok (.iconst 0, 1) := by decide +kernel
theorem d_law_735 : decode code 735 = .ok (.ireturn, 1) := by decide +kernel
theorem d_law_736 : decode code 736 = .ok (.aload_n 1, 1) := by decide +kernel
theorem d_law_737 : decode code 737 = .ok (.aload_n 0, 1) := by decide +kernel
theorem d_law_738 : decode code 738 = .ok (.iload_n 3, 1) := by decide +kernel
theorem d_law_739 : decode code 739 = .ok (.iconst 1, 1) := by decide +kernel
theorem d_law_740 : decode code 740 = .ok (.iadd, 1) := by decide +kernel
theorem d_law_741 : decode code 741 = .ok (.iaload, 1) := by decide +kernel
theorem d_law_742 : decode code 742 = .ok (.aload_n 0, 1) := by decide +kernel
theorem d_law_743 : decode code 743 = .ok (.iload_n 3, 1) := by decide +kernel
theorem d_law_744 : decode code 744 = .ok (.iconst 2, 1) := by decide +kernel
theorem d_law_745 : decode code 745 = .ok (.iadd, 1) := by decide +kernel
theorem d_law_746 : decode code 746 = .ok (.iaload, 1) := by decide +kernel
theorem d_law_747 : decode code 747 = .ok (.invokevirtual 91, 3) := by decide +kernel
theorem d_law_750 : decode code 750 = .ok (.aload_n 2, 1) := by decide +kernel
theorem d_law_751 : decode code 751 = .ok (.aload_n 0, 1) := by decide +kernel
theorem d_law_752 : decode code 752 = .ok (.iload_n 3, 1) := by decide +kernel
theorem d_law_753 : decode code 753 = .ok (.iconst 1, 1) := by decide +kernel
theorem d_law_754 : decode code 754 = .ok (.iadd, 1) := by decide +kernel
theorem d_law_755 : decode code 755 = .ok (.iaload, 1) := by decide +kernel
theorem d_law_756 : decode code 756 = .ok (.aload_n 0, 1) := by decide +kernel
theorem d_law_757 : decode code 757 = .ok (.iload_n 3, 1) := by decide +kernel
theorem d_law_758 : decode code 758 = .ok (.iconst 2, 1) := by decide +kernel
theorem d_law_759 : decode code 759 = .ok (.iadd, 1) := by decide +kernel
theorem d_law_760 : decode code 760 = .ok (.iaload, 1) := by decide +kernel
theorem d_law_761 : decode code 761 = .ok (.invokevirtual 94, 3) := by decide +kernel
theorem d_law_764 : decode code 764 = .ok (.if_icmp .eq 121, 3) := by decide +kernel
theorem d_law_767 : decode code 767 = .ok (.iconst 0, 1) := by decide +kernel
theorem d_law_768 : decode code 768 = .ok (.ireturn, 1) := by decide +kernel
theorem d_law_769 : decode code 769 = .ok (.aload_n 1, 1) := by decide +kernel
theorem d_law_770 : decode code 770 = .ok (.aload_n 0, 1) := by decide +kernel
theorem d_law_771 : decode code 771 = .ok (.iload_n 3, 1) := by decide +kernel
theorem d_law_772 : decode code 772 = .ok (.iconst 1, 1) := by decide +kernel
theorem d_law_773 : decode code 773 = .ok (.iadd, 1) := by decide +kernel
theorem d_law_774 : decode code 774 = .ok (.iaload, 1) := by decide +kernel
theorem d_law_775 : decode code 775 = .ok (.aload_n 0, 1) := by decide +kernel
theorem d_law_776 : decode code 776 = .ok (.iload_n 3, 1) := by decide +kernel
theorem d_law_777 : decode code 777 = .ok (.iconst 2, 1) := by decide +kernel
theorem d_law_778 : decode code 778 = .ok (.iadd, 1) := by decide +kernel
theorem d_law_779 : decode code 779 = .ok (.iaload, 1) := by decide +kernel
theorem d_law_780 : decode code 780 = .ok (.aload_n 0, 1) := by decide +kernel
theorem d_law_781 : decode code 781 = .ok (.iload_n 3, 1) := by decide +kernel
theorem d_law_782 : decode code 782 = .ok (.iconst 3, 1) := by decide +kernel
theorem d_law_783 : decode code 783 = .ok (.iadd, 1) := by decide +kernel
theorem d_law_784 : decode code 784 = .ok (.iaload, 1) := by decide +kernel
theorem d_law_785 : decode code 785 = .ok (.aload_n 0, 1) := by decide +kernel
theorem d_law_786 : decode code 786 = .ok (.iload_n 3, 1) := by decide +kernel
theorem d_law_787 : decode code 787 = .ok (.iconst 4, 1) := by decide +kernel
theorem d_law_788 : decode code 788 = .ok (.iadd, 1) := by decide +kernel
theorem d_law_789 : decode code 789 = .ok (.iaload, 1) := by decide +kernel
theorem d_law_790 : decode code 790 = .ok (.aload_n 0, 1) := by decide +kernel
theorem d_law_791 : decode code 791 = .ok (.iload_n 3, 1) := by decide +kernel
theorem d_law_792 : decode code 792 = .ok (.iconst 5, 1) := by decide +kernel
theorem d_law_793 : decode code 793 = .ok (.iadd, 1) := by decide +kernel
theorem d_law_794 : decode code 794 = .ok (.iaload, 1) := by decide +kernel
theorem d_law_795 : decode code 795 = .ok (.invokevirtual 95, 3) := by decide +kernel
theorem d_law_798 : decode code 798 = .ok (.aload_n 2, 1) := by decide +kernel
theorem d_law_799 : decode code 799 = .ok (.aload_n 0, 1) := by decide +kernel
theorem d_law_800 : decode code 800 = .ok (.iload_n 3, 1) := by decide +kernel
theorem d_law_801 : decode code 801 = .ok (.iconst 1, 1) := by decide +kernel
theorem d_law_802 : decode code 802 = .ok (.iadd, 1) := by decide +kernel
theorem d_law_803 : decode code 803 = .ok (.iaload, 1) := by decide +kernel
theorem d_law_804 : decode code 804 = .ok (.aload_n 0, 1) := by decide +kernel
theorem d_law_805 : decode code 805 = .ok (.iload_n 3, 1) := by decide +kernel
theorem d_law_806 : decode code 806 = .ok (.iconst 2, 1) := by decide +kernel
theorem d_law_807 : decode code 807 = .ok (.iadd, 1) := by decide +kernel
theorem d_law_808 : decode code 808 = .ok (.iaload, 1) := by decide +kernel
theorem d_law_809 : decode code 809 = .ok (.aload_n 0, 1) := by decide +kernel
theorem d_law_810 : decode code 810 = .ok (.iload_n 3, 1) := by decide +kernel
theorem d_law_811 : decode code 811 = .ok (.iconst 3, 1) := by decide +kernel
theorem d_law_812 : decode code 812 = .ok (.iadd, 1) := by decide +kernel
theorem d_law_813 : decode code 813 = .ok (.iaload, 1) := by decide +kernel
theorem d_law_814 : decode code 814 = .ok (.aload_n 0, 1) := by decide +kernel
theorem d_law_815 : decode code 815 = .ok (.iload_n 3, 1) := by decide +kernel
theorem d_law_816 : decode code 816 = .ok (.iconst 4, 1) := by decide +kernel
theorem d_law_817 : decode code 817 = .ok (.iadd, 1) := by decide +kernel
theorem d_law_818 : decode code 818 = .ok (.iaload, 1) := by decide +kernel
theorem d_law_819 : decode code 819 = .ok (.aload_n 0, 1) := by decide +kernel
theorem d_law_820 : decode code 820 = .ok (.iload_n 3, 1) := by decide +kernel
theorem d_law_821 : decode code 821 = .ok (.iconst 5, 1) := by decide +kernel
theorem d_law_822 : decode code 822 = .ok (.iadd, 1) := by decide +kernel
theorem d_law_823 : decode code 823 = .ok (.iaload, 1) := by decide +kernel
theorem d_law_824 : decode code 824 = .ok (.invokevirtual 99, 3) := by decide +kernel
theorem d_law_827 : decode code 827 = .ok (.if_icmp .eq 58, 3) := by decide +kernel
theorem d_law_830 : decode code 830 = .ok (.iconst 0, 1) := by decide +kernel
theorem d_law_831 : decode code 831 = .ok (.ireturn, 1) := by decide +kernel
theorem d_law_832 : decode code 832 = .ok (.aload_n 1, 1) := by decide +kernel
theorem d_law_833 : decode code 833 = .ok (.aload_n 0, 1) := by decide +kernel
theorem d_law_834 : decode code 834 = .ok (.iload_n 3, 1) := by decide +kernel
theorem d_law_835 : decode code 835 = .ok (.iconst 1, 1) := by decide +kernel
theorem d_law_836 : decode code 836 = .ok (.iadd, 1) := by decide +kernel
theorem d_law_837 : decode code 837 = .ok (.iaload, 1) := by decide +kernel
theorem d_law_838 : decode code 838 = .ok (.aload_n 0, 1) := by decide +kernel
theorem d_law_839 : decode code 839 = .ok (.iload_n 3, 1) := by decide +kernel
theorem d_law_840 : decode code 840 = .ok (.iconst 2, 1) := by decide +kernel
theorem d_law_841 : decode code 841 = .ok (.iadd, 1) := by decide +kernel
theorem d_law_842 : decode code 842 = .ok (.iaload, 1) := by decide +kernel
theorem d_law_843 : decode code 843 = .ok (.aload_n 0, 1) := by decide +kernel
theorem d_law_844 : decode code 844 = .ok (.iload_n 3, 1) := by decide +kernel
theorem d_law_845 : decode code 845 = .ok (.iconst 3, 1) := by decide +kernel
theorem d_law_846 : decode code 846 = .ok (.iadd, 1) := by decide +kernel
theorem d_law_847 : decode code 847 = .ok (.iaload, 1) := by decide +kernel
theorem d_law_848 : decode code 848 = .ok (.aload_n 0, 1) := by decide +kernel
theorem d_law_849 : decode code 849 = .ok (.iload_n 3, 1) := by decide +kernel
theorem d_law_850 : decode code 850 = .ok (.iconst 4, 1) := by decide +kernel
theorem d_law_851 : decode code 851 = .ok (.iadd, 1) := by decide +kernel
theorem d_law_852 : decode code 852 = .ok (.iaload, 1) := by decide +kernel
theorem d_law_853 : decode code 853 = .ok (.invokevirtual 100, 3) := by decide +kernel
theorem d_law_856 : decode code 856 = .ok (.aload_n 2, 1) := by decide +kernel
theorem d_law_857 : decode code 857 = .ok (.aload_n 0, 1) := by decide +kernel
theorem d_law_858 : decode code 858 = .ok (.iload_n 3, 1) := by decide +kernel
theorem d_law_859 : decode code 859 = .ok (.iconst 1, 1) := by decide +kernel
theorem d_law_860 : decode code 860 = .ok (.iadd, 1) := by decide +kernel
theorem d_law_861 : decode code 861 = .ok (.iaload, 1) := by decide +kernel
theorem d_law_862 : decode code 862 = .ok (.aload_n 0, 1) := by decide +kernel
theorem d_law_863 : decode code 863 = .ok (.iload_n 3, 1) := by decide +kernel
theorem d_law_864 : decode code 864 = .ok (.iconst 2, 1) := by decide +kernel
theorem d_law_865 : decode code 865 = .ok (.iadd, 1) := by decide +kernel
theorem d_law_866 : decode code 866 = .ok (.iaload, 1) := by decide +kernel
theorem d_law_867 : decode code 867 = .ok (.aload_n 0, 1) := by decide +kernel
theorem d_law_868 : decode code 868 = .ok (.iload_n 3, 1) := by decide +kernel
theorem d_law_869 : decode code 869 = .ok (.iconst 3, 1) := by decide +kernel
theorem d_law_870 : decode code 870 = .ok (.iadd, 1) := by decide +kernel
theorem d_law_871 : decode code 871 = .ok (.iaload, 1) := by decide +kernel
theorem d_law_872 : decode code 872 = .ok (.aload_n 0, 1) := by decide +kernel
theorem d_law_873 : decode code 873 = .ok (.iload_n 3, 1) := by decide +kernel
theorem d_law_874 : decode code 874 = .ok (.iconst 4, 1) := by decide +kernel
theorem d_law_875 : decode code 875 = .ok (.iadd, 1) := by decide +kernel
theorem d_law_876 : decode code 876 = .ok (.iaload, 1) := by decide +kernel
theorem d_law_877 : decode code 877 = .ok (.invokevirtual 104, 3) := by decide +kernel
theorem d_law_880 : decode code 880 = .ok (.if_icmp .eq 5, 3) := by decide +kernel
theorem d_law_883 : decode code 883 = .ok (.iconst 0, 1) := by decide +kernel
theorem d_law_884 : decode code 884 = .ok (.ireturn, 1) := by decide +kernel
theorem d_law_885 : decode code 885 = .ok (.iinc 3 6, 3) := by decide +kernel
theorem d_law_888 : decode code 888 = .ok (.goto (-870), 3) := by decide +kernel
theorem d_law_891 : decode code 891 = .ok (.iconst 1, 1) := by decide +kernel
theorem d_law_892 : decode code 892 = .ok (.ireturn, 1) := by decide +kernel
/-! THE CLAIM OUT OF ONE WALK OF THE LAW'S BODY. Your part is whole_start (and what it stands on); all else here is the same for every law, but numbers. -/
def R_law : String := "StripClothLaw"
def lw_P (b : Addr) (xs : List Int32) (args : Array Value) (s : State) : Prop := args = #[.ref b] ∧ s.IntsAt b xs ∧ xs.length ≤ 3072 ∧ (Jvm.Cond.and given_1 narrow_1).before args s = true
def lw_Q (_ : Array Value) (s : State) (o : Outcome) (t : State) : Prop := o = .returned (some (.int 1)) ∧ Framed s o t [] 600000 7302250
def lw_Z (below : List Frame) (a : Array Value) (s : State) : State → Prop := fun t => ∃ o, t.status = .running ∧ Ended t below o ∧ lw_Q a s o t
/-- the law's own end, with 1 on the stack, nothing written that was there before, its room as the claim has it -/
theorem lw_ret {p : Program} {l : Launch} {e : Env} {s : State} {m : MethodId} {below : List Frame} {meth : Method} {c : Code} {b : Nat} (hx : p.tables.exec = Jvm.exec) (hb : c.code = code) (hr : meth.sig.returnType = ret) (hlocks : meth.locks = false) {pc : Nat} {H : Heap} {ls : Array Slot} (hdg : decode code pc = .ok (.ireturn, 1)) : W p l e room_1 s m #[Value.ref b] below meth c H [] 600000 7302250 (lw_Z below #[Value.ref b] s) (F0 m pc ls [.int 1]) := by
  intro T hT X
  obtain ⟨fs, hret, hrun, hended, hW, hframe⟩ := X.leave (v := some (.int 1)) (hlocks := hlocks) (fun h => by rw [hr] at h; cases h)
  have hmeth' : T.vm.method? m = some meth := X.method'
  refine ⟨T.setFrames fs, ?_, .returned (some (.int 1)), hrun, hended, rfl, ⟨_, rfl⟩, hW, hframe⟩
  jvm_step X.here [X.here.top, hx, hb, hdg, hmeth', hr, ret, narrow_b1]
  (try refine ⟨rfl, ?_⟩); (try refine ⟨rfl, ?_⟩)
  first | (intro acts; rw [hret _ acts rfl rfl rfl]) | rw [hret _ _ rfl rfl rfl]
  exact Steps.refl _
/-- what holds at the law's entry: the machine, the code, the tables' words (any of lw_tbl by 'hts w (by decide +kernel)'), the script of L ints xs at the cell b, what the Statement gives of the start (any of its parts by flat_of_before) -/
def lw_At (p : Program) (s : State) (m : MethodId) (meth : Method) (c : Code) (b L : Nat) (xs : Nat → Int32) : Prop :=
  p.tables.exec = Jvm.exec ∧ c.code = code ∧ meth.sig.returnType = ret ∧ c.maxLocals = 4 ∧ s.vm.findClass R_law = some m.cls ∧ (∀ w ∈ lw_tbl, w.before #[Value.ref b] s = true) ∧ va_X b L xs s s.heap ∧ b < s.heap.size ∧ meth.locks = false ∧ (Jvm.Cond.and given_1 narrow_1).before #[Value.ref b] s = true
theorem lw_ins (ci : Nat) (h : ci < 14) : Cond.instantiable (pm_R ci) (pm_N ci) ∈ lw_tbl ∧ Cond.initialized (pm_R ci) ∈ lw_tbl := match ci, h with
  | 0, _ => ⟨pm_tb1 (i := 168) rfl, pm_tb1 (i := 8) rfl⟩
  | 1, _ => ⟨pm_tb1 (i := 149) rfl, pm_tb1 (i := 7) rfl⟩
  | 2, _ => ⟨pm_tb1 (i := 108) rfl, pm_tb1 (i := 5) rfl⟩
  | 3, _ => ⟨pm_tb3 (i := 44) rfl, pm_tb1 (i := 20) rfl⟩
  | 4, _ => ⟨pm_tb1 (i := 181) rfl, pm_tb1 (i := 9) rfl⟩
  | 5, _ => ⟨pm_tb3 (i := 85) rfl, pm_tb1 (i := 21) rfl⟩
  | 6, _ => ⟨pm_tb1 (i := 31) rfl, pm_tb1 (i := 2) rfl⟩
  | 7, _ => ⟨pm_tb1 (i := 212) rfl, pm_tb1 (i := 10) rfl⟩
  | 8, _ => ⟨pm_tb1 (i := 134) rfl, pm_tb1 (i := 6) rfl⟩
  | 9, _ => ⟨pm_tb2 (i := 226) rfl, pm_tb1 (i := 17) rfl⟩
  | 10, _ => ⟨pm_tb1 (i := 37) rfl, pm_tb1 (i := 3) rfl⟩
  | 11, _ => ⟨pm_tb1 (i := 66) rfl, pm_tb1 (i := 4) rfl⟩
  | 12, _ => ⟨pm_tb1 (i := 23) rfl, pm_tb1 (i := 1) rfl⟩
  | 13, _ => ⟨pm_tb4 (i := 146) rfl, pm_tb1 (i := 11) rfl⟩
  | n + 14, h => absurd h (by omega)
theorem lw_ao : Cond.arrayOver (.object RX9) ∈ lw_tbl ∧ Cond.arrayOver (.object RX3) ∈ lw_tbl ∧ Cond.arrayOver (.object RX5) ∈ lw_tbl := ⟨pm_tb1 (i := 114) rfl, pm_tb1 (i := 116) rfl, pm_tb3 (i := 50) rfl⟩
theorem lw_sr (i : Nat) (h : i < 3) : Cond.stringRef RX6 (pm_si i) (pm_tx i) ∈ lw_tbl := match i, h with
  | 0, _ => pm_tb2 (i := 81) rfl
  | 1, _ => pm_tb3 (i := 34) rfl
  | 2, _ => pm_tb2 (i := 204) rfl
  | n + 3, h => absurd h (by omega)
theorem lw_st : Cond.laysStatic "java/lang/String" "COMPACT_STRINGS" "Z" ∈ lw_tbl ∧ Cond.initialized "java/lang/String" ∈ lw_tbl ∧ Cond.laysStatic "jdk/internal/util/Preconditions" "SIOOBE_FORMATTER" "Ljava/util/function/BiFunction;" ∈ lw_tbl ∧ Cond.initialized "jdk/internal/util/Preconditions" ∈ lw_tbl := ⟨pm_tb2 (i := 95) rfl, pm_tb1 (i := 13) rfl, pm_tb2 (i := 111) rfl, pm_tb1 (i := 15) rfl⟩
theorem lw_cl : Cond.classLink R_law 7 (pm_R 12) ∈ lw_tbl ∧ Cond.classLink R_law 10 (pm_R 13) ∈ lw_tbl := ⟨pm_tb1 (i := 22) rfl, pm_tb4 (i := 145) rfl⟩
theorem lw_l13 : Cond.methodLink R_law 13 (pm_y 85) ∈ lw_tbl := pm_tb2 (i := 37) rfl
theorem lw_l17 : Cond.methodLink R_law 17 (pm_y 122) ∈ lw_tbl := pm_tb5 (i := 108) rfl
theorem lw_l18 : Cond.methodLink R_law 18 (pm_y 86) ∈ lw_tbl := pm_tb2 (i := 41) rfl
theorem lw_l22 : Cond.methodLink R_law 22 (pm_y 143) ∈ lw_tbl := pm_tb5 (i := 112) rfl
theorem lw_l23 : Cond.methodLink R_law 23 (pm_y 87) ∈ lw_tbl := pm_tb2 (i := 53) rfl
theorem lw_l27 : Cond.methodLink R_law 27 (pm_y 145) ∈ lw_tbl := pm_tb5 (i := 120) rfl
theorem lw_l28 : Cond.methodLink R_law 28 (pm_y 88) ∈ lw_tbl := pm_tb3 (i := 127) rfl
theorem lw_l31 : Cond.methodLink R_law 31 (pm_y 146) ∈ lw_tbl := pm_tb5 (i := 201) rfl
theorem lw_l32 : Cond.methodLink R_law 32 (pm_y 89) ∈ lw_tbl := pm_tb3 (i := 131) rfl
theorem lw_l36 : Cond.methodLink R_law 36 (pm_y 149) ∈ lw_tbl := pm_tb5 (i := 205) rfl
theorem lw_l37 : Cond.methodLink R_law 37 (pm_y 90) ∈ lw_tbl := pm_tb3 (i := 136) rfl
theorem lw_l40 : Cond.methodLink R_law 40 (pm_y 150) ∈ lw_tbl := pm_tb5 (i := 217) rfl
theorem lw_l41 : Cond.methodLink R_law 41 (pm_y 91) ∈ lw_tbl := pm_tb3 (i := 140) rfl
theorem lw_l45 : Cond.methodLink R_law 45 (pm_y 151) ∈ lw_tbl := pm_tb5 (i := 221) rfl
theorem lw_l46 : Cond.methodLink R_law 46 (pm_y 92) ∈ lw_tbl := pm_tb3 (i := 152) rfl
theorem lw_l49 : Cond.methodLink R_law 49 (pm_y 158) ∈ lw_tbl := pm_tb5 (i := 225) rfl
theorem lw_l50 : Cond.methodLink R_law 50 (pm_y 93) ∈ lw_tbl := pm_tb3 (i := 202) rfl
theorem lw_l53 : Cond.methodLink R_law 53 (pm_y 159) ∈ lw_tbl := pm_tb6 (i := 10) rfl
theorem lw_l54 : Cond.methodLink R_law 54 (pm_y 94) ∈ lw_tbl := pm_tb3 (i := 211) rfl
theorem lw_l57 : Cond.methodLink R_law 57 (pm_y 160) ∈ lw_tbl := pm_tb6 (i := 18) rfl
theorem lw_l58 : Cond.methodLink R_law 58 (pm_y 95) ∈ lw_tbl := pm_tb3 (i := 217) rfl
theorem lw_l61 : Cond.methodLink R_law 61 (pm_y 162) ∈ lw_tbl := pm_tb6 (i := 22) rfl
theorem lw_l62 : Cond.methodLink R_law 62 (pm_y 96) ∈ lw_tbl := pm_tb4 (i := 3) rfl
theorem lw_l65 : Cond.methodLink R_law 65 (pm_y 163) ∈ lw_tbl := pm_tb6 (i := 31) rfl
theorem lw_l66 : Cond.methodLink R_law 66 (pm_y 97) ∈ lw_tbl := pm_tb4 (i := 34) rfl
theorem lw_l69 : Cond.methodLink R_law 69 (pm_y 164) ∈ lw_tbl := pm_tb6 (i := 35) rfl
theorem lw_l70 : Cond.methodLink R_law 70 (pm_y 98) ∈ lw_tbl := pm_tb4 (i := 38) rfl
theorem lw_l74 : Cond.methodLink R_law 74 (pm_y 165) ∈ lw_tbl := pm_tb6 (i := 39) rfl
theorem lw_l75 : Cond.methodLink R_law 75 (pm_y 99) ∈ lw_tbl := pm_tb4 (i := 50) rfl
theorem lw_l78 : Cond.methodLink R_law 78 (pm_y 168) ∈ lw_tbl := pm_tb6 (i := 47) rfl
theorem lw_l79 : Cond.methodLink R_law 79 (pm_y 100) ∈ lw_tbl := pm_tb4 (i := 65) rfl
theorem lw_l82 : Cond.methodLink R_law 82 (pm_y 170) ∈ lw_tbl := pm_tb6 (i := 58) rfl
theorem lw_l83 : Cond.methodLink R_law 83 (pm_y 101) ∈ lw_tbl := pm_tb4 (i := 77) rfl
theorem lw_l86 : Cond.methodLink R_law 86 (pm_y 171) ∈ lw_tbl := pm_tb6 (i := 66) rfl
theorem lw_l87 : Cond.methodLink R_law 87 (pm_y 102) ∈ lw_tbl := pm_tb4 (i := 81) rfl
theorem lw_l90 : Cond.methodLink R_law 90 (pm_y 173) ∈ lw_tbl := pm_tb6 (i := 70) rfl
theorem lw_l91 : Cond.methodLink R_law 91 (pm_y 103) ∈ lw_tbl := pm_tb4 (i := 104) rfl
theorem lw_l94 : Cond.methodLink R_law 94 (pm_y 174) ∈ lw_tbl := pm_tb6 (i := 78) rfl
theorem lw_l95 : Cond.methodLink R_law 95 (pm_y 104) ∈ lw_tbl := pm_tb4 (i := 120) rfl
theorem lw_l99 : Cond.methodLink R_law 99 (pm_y 176) ∈ lw_tbl := pm_tb6 (i := 84) rfl
theorem lw_l100 : Cond.methodLink R_law 100 (pm_y 105) ∈ lw_tbl := pm_tb4 (i := 137) rfl
theorem lw_l104 : Cond.methodLink R_law 104 (pm_y 177) ∈ lw_tbl := pm_tb6 (i := 91) rfl
theorem lw_l9 : Cond.methodLink R_law 9 (pm_y 84) ∈ lw_tbl := pm_tb1 (i := 24) rfl
theorem lw_l12 : Cond.methodLink R_law 12 (pm_y 121) ∈ lw_tbl := pm_tb4 (i := 147) rfl
section LAW
variable {p : Program} {l : Launch} {e : Env} {s : State} {m : MethodId} {below : List Frame} {meth : Method} {c : Code} {b L : Nat} {xs : Nat → Int32} {b0 : Nat} {D : va_G} {cA : Nat → ClassId} {ad : Nat → Nat} {h : pm_H} {H : Heap} {locs : List Loc} {ls : Array Slot} {Q : State → Prop} {i pc : Nat} {rest : List Value}
def lw_K (b0 : Nat) (D : va_G) (cA : Nat → ClassId) (ad : Nat → Nat) (s : State) : Prop := b0 = s.heap.size ∧ va_K D pm_vcl (pm_tys cA) s ∧ pm_Sx ad b0 s ∧ pm_Ox s
def lw_lv (b b0 i : Nat) : List (Nat × Value) := [(0, .ref b), (1, .ref (b0 + 0)), (2, .ref (b0 + 35)), (3, .int (nI i))]
theorem lw_arr {ty : FieldType} (h : (Cond.arrayClass ty).before #[Value.ref b] s = true) (ho : ∀ C, ty ≠ .object C) : ∃ cA : ClassId, ArrOfT s cA ty ∧ va_RA s cA ty := by
  obtain ⟨cA, kA, comp, h1, h2, h3⟩ := Cond.arrayClass_spec h
  refine ⟨cA, fun n z => ⟨fun k h => (by cases h), kA, h2, comp, h3⟩, ?_⟩
  cases ty with
  | object C => exact absurd rfl (ho C)
  | _ => exact h1
theorem lw_arO {C : String} (h : (Cond.arrayOver (.object C)).before #[Value.ref b] s = true) : ∃ cA : ClassId, ArrOfT s cA (.object C) ∧ va_RA s cA (.object C) := by
  obtain ⟨comp, cA, kA, h1, -, h2, h3, h4⟩ := Cond.arrayOver_spec h
  exact ⟨cA, fun n z => ⟨fun k h => (by cases h), kA, h2, comp, h3⟩, kA, comp, h2, h3, h1, h4⟩
theorem lw_setup (C0 : lw_At p s m meth c b L xs) : ∃ (D : va_G) (cA : Nat → ClassId) (ad : Nat → Nat), lw_K s.heap.size D cA ad s := by
  obtain ⟨hx, hb, hr, hml, hown, hts, hX, hbl, hlocks, hgv⟩ := C0
  have hA : ∀ a : Nat, a < s.heap.size → ¬ (fun q : Nat => s.heap.size ≤ q) a := fun a h => Nat.not_le.mpr h
  have h0 : ∀ k : Nat, ∃ q : ClassId × (Nat → Nat), k < 14 → u_Kn s (pm_R k) (pm_Tf k) (pm_N k) q.1 q.2 := by
    intro k
    by_cases hk : k < 14
    · obtain ⟨cC, iS, hKn⟩ := u_known (C := pm_R k) (T := pm_Tf k) (N := pm_N k) (n := pm_N k) hts (pm_in k hk) (hts _ (lw_ins k hk).1)
      exact ⟨(cC, iS), fun _ => hKn⟩
    · exact ⟨(default, fun _ => 0), fun h => absurd h hk⟩
  obtain ⟨dd, hdd⟩ := Classical.axiomOfChoice h0
  obtain ⟨a0, a01⟩ := lw_arr (hts _ pm_arr_ws.1) (fun C h => by cases h)
  obtain ⟨a1, a11⟩ := lw_arr (hts _ pm_arr_ws.2.1) (fun C h => by cases h)
  obtain ⟨a2, a21⟩ := lw_arr (hts _ pm_arr_ws.2.2) (fun C h => by cases h)
  obtain ⟨a3, a31⟩ := lw_arO (hts _ lw_ao.1)
  obtain ⟨a4, a41⟩ := lw_arO (hts _ lw_ao.2.1)
  obtain ⟨a5, a51⟩ := lw_arO (hts _ lw_ao.2.2)
  have hs := flat_of_before _ hgv
  obtain ⟨adK, adV, hE, hev⟩ := vk_Sof (args := #[Value.ref b]) (s := s) (N := 3) (tm := fun i => Term.string RX6 (pm_si i)) (len := [5, 5, 4]) (byt := [[115, 116, 114, 105, 112], [99, 108, 111, 116, 104], [116, 117, 114, 110]]) (A := fun q : Nat => s.heap.size ≤ q)
    (by decide)
    (fun i hi => match i, hi with | 0, _ => hs _ (by decide +kernel) | 1, _ => hs _ (by decide +kernel) | 2, _ => hs _ (by decide +kernel))
    (fun i hi => match i, hi with | 0, _ => hs _ (by decide +kernel) | 1, _ => hs _ (by decide +kernel) | 2, _ => hs _ (by decide +kernel))
    (fun i hi => match i, hi with | 0, _ => hs _ (by decide +kernel) | 1, _ => hs _ (by decide +kernel) | 2, _ => hs _ (by decide +kernel))
    (fun i hi => match i, hi with | 0, _ => hs _ (by decide +kernel) | 1, _ => hs _ (by decide +kernel) | 2, _ => hs _ (by decide +kernel))
    (fun i hi => match i, hi with
      | 0, _ => fun j hj => match j, hj with | 0, _ => hs _ (by decide +kernel) | 1, _ => hs _ (by decide +kernel) | 2, _ => hs _ (by decide +kernel) | 3, _ => hs _ (by decide +kernel) | 4, _ => hs _ (by decide +kernel)
      | 1, _ => fun j hj => match j, hj with | 0, _ => hs _ (by decide +kernel) | 1, _ => hs _ (by decide +kernel) | 2, _ => hs _ (by decide +kernel) | 3, _ => hs _ (by decide +kernel) | 4, _ => hs _ (by decide +kernel)
      | 2, _ => fun j hj => match j, hj with | 0, _ => hs _ (by decide +kernel) | 1, _ => hs _ (by decide +kernel) | 2, _ => hs _ (by decide +kernel) | 3, _ => hs _ (by decide +kernel))
    (fun i j hi hj => match i, j, hi, hj with
      | 0, 0, _, _ => fun h => absurd rfl h | 1, 1, _, _ => fun h => absurd rfl h | 2, 2, _, _ => fun h => absurd rfl h
      | 0, 1, _, _ => fun _ => Or.inl (hs _ (by decide +kernel)) | 1, 0, _, _ => fun _ => Or.inr (hs _ (by decide +kernel))
      | 0, 2, _, _ => fun _ => Or.inl (hs _ (by decide +kernel)) | 2, 0, _, _ => fun _ => Or.inr (hs _ (by decide +kernel))
      | 1, 2, _, _ => fun _ => Or.inr (hs _ (by decide +kernel)) | 2, 1, _, _ => fun _ => Or.inl (hs _ (by decide +kernel))) hA
  refine ⟨(fun k => (dd k).1, fun k => (dd k).2), fun t => if t = 100 then a0 else if t = 101 then a1 else if t = 102 then a2 else if t = 103 then a3 else if t = 104 then a4 else a5, adK, rfl, ⟨fun k q hq => ?_, fun k q hq => ?_⟩, ⟨⟨adV, hE⟩, fun i hi => vk_R.of (A := #[Value.ref b]) (hts _ (lw_sr i hi)) (hev i hi), ?_, ?_⟩, ?_⟩
  · have hk : k < 14 := by
      have := (List.getElem?_eq_some_iff.mp hq).1
      exact Nat.lt_of_lt_of_le this (by decide)
    rw [pm_vcl_at k hk] at hq
    cases hq
    exact hdd k hk
  · match k, hq with
    | 0, hq => cases hq; exact a01
    | 1, hq => cases hq; exact a11
    | 2, hq => cases hq; exact a21
    | 3, hq => cases hq; exact a31
    | 4, hq => cases hq; exact a41
    | 5, hq => cases hq; exact a51
    | k + 6, hq => simp [pm_tys] at hq
  · exact va_Zof (args := #[Value.ref b]) (hts _ lw_st.1) (hts _ lw_st.2.1) (va_eqt (hs _ (by decide +kernel))) hA
  · exact va_Zqof (args := #[Value.ref b]) (hts _ lw_st.2.2.1) (hts _ lw_st.2.2.2) (hs _ (by decide +kernel)) hA
  · exact ⟨va_AO.of (hts _ lw_ao.1), va_AO.of (hts _ lw_ao.2.1), va_AO.of (hts _ lw_ao.2.2), va_Nw.of (A := #[Value.ref b]) rfl (hts _ pm_cln_ws.2.2.2.2.2.1)⟩
theorem lw_gd (C0 : lw_At p s m meth c b L xs) : ∀ w ∈ lw_good, w.before #[Value.ref b] s = true := fun w hw => C0.2.2.2.2.2.1 w (List.mem_filter.mp hw).1
theorem lw_pre (Kx : lw_K b0 D cA ad s) (r : pm_Rel b0 D cA h H) (hS : va_S (pm_A b0) s.heap H locs) (as : List Value) : ∀ U : State, U.heap = H → s.WarmedH U.vm → pm_Pc b0 D cA ad h as (as.map (pm_mv b0 ad)).toArray U := by
  intro U hU hW
  obtain ⟨hb0, hK, hSx, hOx⟩ := Kx
  exact ⟨rfl, by rw [hU]; exact r, va_K.moved hW.alike hK, by rw [hU, r.1]; omega, hSx.moved hW (fun a h1 h2 => by rw [hU]; exact hS.2.1 a h1 h2), hOx.moved hW⟩
theorem lw_cb (C0 : lw_At p s m meth c b L xs) {mj idx mc ms : Nat} (hmj : mj < 180) (hlk : Cond.methodLink R_law idx (pm_y mj) ∈ lw_tbl) (hfr : pm_f mj + 1 ≤ 13 ∧ 8 + (pm_L mj + 11) + pm_lo mj ≤ 494) : CallB room_1 s #[Value.ref b] R_law idx (pm_y mj) (pm_b mj) (pm_L mj) (pm_r mj) (pm_ws mj) (pm_rm mj mc ms) mc ms (pm_na mj) := by
  obtain ⟨m1, m2, m3, m4, m5, m6⟩ := pm_m_ok _ hmj
  have hts := C0.2.2.2.2.2.1
  refine callB_of _ (lw_gd C0) (pm_ws_good _ hmj) rfl rfl rfl (hts _ m3) (hts _ hlk) ⟨?_, ?_, m5⟩ hfr
  · rw [m4]; exact (pm_cls_ne _).1
  · rw [m4]; exact (pm_cls_ne _).2
theorem lw_callV {mj idx a : Nat} {as : List Value} {h1 : pm_H} {r1 : Option Value} (C0 : lw_At p s m meth c b L xs) (Kx : lw_K b0 D cA ad s) (Rl : pm_Rel b0 D cA h H) (S : va_S (pm_A b0) s.heap H locs) (hmj : mj < 180) (hsk : pm_sk mj = 1) (hT : zT h a = pm_o mj) (hlk : Cond.methodLink R_law idx (pm_y mj) ∈ lw_tbl) (hna : as.length = pm_na mj) (hao : pm_aok (pm_L mj) (.ref a :: as) = true) (hfr : pm_f mj + 1 ≤ 13 ∧ 8 + (pm_L mj + 11) + pm_lo mj ≤ 494) (hls : ls.size = 4) (hrest : (rest.map fun v => v.category).sum ≤ 8) (hd : decode code pc = .ok (.invokevirtual idx, 3)) (run : pm_Run mj 0 (pm_ent (pm_L mj) (.ref a :: as)) [] h r1 h1) (hz : zn h1 ≤ 600000 ∧ zk h1 ≤ 7302250)
    (kk : ∀ (H1 : Heap) (locs1 : List Loc), pm_Rel b0 D cA h1 H1 → va_S (pm_A b0) s.heap H1 locs1 → W p l e room_1 s m #[Value.ref b] below meth c H1 locs1 (zn h1) (zk h1) Q (F0 m (pc + 3) ls ((r1.map (pm_mv b0 ad)).toList ++ rest))) : W p l e room_1 s m #[Value.ref b] below meth c H locs (zn h) (zk h) Q (F0 m pc ls ((as.map (pm_mv b0 ad)).reverse ++ .ref (b0 + a) :: rest)) := by
  have P := pm_run_P run
  have q := P.1
  have M := sd_met P hmj hao b0 D cA ad l
  obtain ⟨m1, m2, m3, m4, m5, m6⟩ := pm_m_ok _ hmj
  rw [hsk] at m6
  have hts := C0.2.2.2.2.2.1
  have hc : pm_o mj < 14 := pm_o_lt _ hmj hsk
  obtain ⟨cell, q1, q2, q3, q4⟩ := Rl.obj hT hc
  have hK := Kx.2.1.1 _ _ (pm_vcl_at _ hc)
  have hsel : (Cond.selects (pm_R (pm_o mj)) (pm_y mj) (pm_y mj)).before #[Value.ref b] s = true := by rw [← m4]; exact hts _ m6.2
  have K := va_runV (below := below) (e := e) (meth := meth) (locs := locs) (cells := zn h) (slots := zk h) (C := pm_R (pm_o mj)) (b := b0 + a) (As := as.map (pm_mv b0 ad)) (rest := rest) (g := F0 m pc ls ((as.map (pm_mv b0 ad)).reverse ++ .ref (b0 + a) :: rest)) ⟨C0.1, C0.2.1, C0.2.2.2.1, C0.2.2.2.2.1, lw_gd C0⟩ M ⟨lw_cb C0 hmj hlk hfr, hts _ m6.1, hsel⟩ ⟨pm_Pc_blind b0 D cA ad h _, ⟨cell, q1, by rw [q3]; rfl, by rw [q2]; exact hK.2.1⟩, lw_pre Kx Rl S (.ref a :: as)⟩ rfl (by rw [List.length_map]; exact hna) hls rfl (lv_room hrest) hd ⟨by show zn h + (zn h1 - zn h) ≤ 600000; omega, by show zk h + (zk h1 - zk h) ≤ 7302250; omega⟩
  refine sd_cont K (Nat.le_of_eq Kx.1) S (fun H1 locs1 R1 S1 => ?_)
  exact W.cs (by omega) (by omega) (kk H1 locs1 R1 S1)
theorem lw_callI {mj idx a : Nat} {as : List Value} {h1 : pm_H} {r1 : Option Value} (C0 : lw_At p s m meth c b L xs) (Kx : lw_K b0 D cA ad s) (Rl : pm_Rel b0 D cA h H) (S : va_S (pm_A b0) s.heap H locs) (hmj : mj < 180) (hsk : pm_sk mj = 2) (hlk : Cond.methodLink R_law idx (pm_y mj) ∈ lw_tbl) (hna : as.length = pm_na mj) (hao : pm_aok (pm_L mj) (.ref a :: as) = true) (hfr : pm_f mj + 1 ≤ 13 ∧ 8 + (pm_L mj + 11) + pm_lo mj ≤ 494) (hls : ls.size = 4) (hrest : (rest.map fun v => v.category).sum ≤ 8) (hd : decode code pc = .ok (.invokespecial idx, 3)) (run : pm_Run mj 0 (pm_ent (pm_L mj) (.ref a :: as)) [] h r1 h1) (hz : zn h1 ≤ 600000 ∧ zk h1 ≤ 7302250)
    (kk : ∀ (H1 : Heap) (locs1 : List Loc), pm_Rel b0 D cA h1 H1 → va_S (pm_A b0) s.heap H1 locs1 → W p l e room_1 s m #[Value.ref b] below meth c H1 locs1 (zn h1) (zk h1) Q (F0 m (pc + 3) ls ((r1.map (pm_mv b0 ad)).toList ++ rest))) : W p l e room_1 s m #[Value.ref b] below meth c H locs (zn h) (zk h) Q (F0 m pc ls ((as.map (pm_mv b0 ad)).reverse ++ .ref (b0 + a) :: rest)) := by
  have P := pm_run_P run
  have q := P.1
  have M := sd_met P hmj hao b0 D cA ad l
  obtain ⟨m1, m2, m3, m4, m5, m6⟩ := pm_m_ok _ hmj
  rw [hsk] at m6
  have hts := C0.2.2.2.2.2.1
  have cb := lw_cb (mc := zn h1 - zn h) (ms := zk h1 - zk h) C0 hmj hlk hfr
  rw [m6.2.2] at cb
  have K := va_runI (below := below) (e := e) (meth := meth) (locs := locs) (cells := zn h) (slots := zk h) (H := H) (b := b0 + a) (As := as.map (pm_mv b0 ad)) (rest := rest) (g := F0 m pc ls ((as.map (pm_mv b0 ad)).reverse ++ .ref (b0 + a) :: rest)) ⟨C0.1, C0.2.1, C0.2.2.2.1, C0.2.2.2.2.1, lw_gd C0⟩ M ⟨cb, m6.2.1, hts _ m6.1⟩ ⟨pm_Pc_blind b0 D cA ad h _, lw_pre Kx Rl S (.ref a :: as)⟩ rfl (by rw [List.length_map]; exact hna) hls rfl (lv_room hrest) hd ⟨by show zn h + (zn h1 - zn h) ≤ 600000; omega, by show zk h + (zk h1 - zk h) ≤ 7302250; omega⟩
  refine sd_cont K (Nat.le_of_eq Kx.1) S (fun H1 locs1 R1 S1 => ?_)
  exact W.cs (by omega) (by omega) (kk H1 locs1 R1 S1)
theorem lw_new {ci idx : Nat} (C0 : lw_At p s m meth c b L xs) (Kx : lw_K b0 D cA ad s) (r : pm_Rel b0 D cA h H) (hS : va_S (pm_A b0) s.heap H locs) (hc : ci < 14) (hw1 : Cond.classLink R_law idx (pm_R ci) ∈ lw_tbl) (hd : decode code pc = .ok (.new idx, 3)) (hz : zn h + 1 ≤ 600000 ∧ zk h + pm_N ci ≤ 7302250)
    (kk : ∀ H1 : Heap, pm_Rel b0 D cA (yN h ci 0 (pm_N ci)) H1 → va_S (pm_A b0) s.heap H1 locs → W p l e room_1 s m #[Value.ref b] below meth c H1 locs (zn h + 1) (zk h + pm_N ci) Q (F0 m (pc + 3) ls (.ref (b0 + zn h) :: rest))) : W p l e room_1 s m #[Value.ref b] below meth c H locs (zn h) (zk h) Q (F0 m pc ls rest) := by
  obtain ⟨hx, hb, hr, hml, hown, hts, hX, hbl, hlocks, hgv⟩ := id C0
  have hKn := Kx.2.1.1 _ _ (pm_vcl_at _ hc)
  refine W.newcK hx hb hown (hts _ hw1) (hts _ (lw_ins ci hc).1) (hts _ (lw_ins ci hc).2) rfl hd hz.1 hz.2 hKn.2.1 r.1 fun H1 kC hkC f1 z1 o1 => ?_
  have hb1 : t_OB (b0 + zn h) (D.1 ci) (pm_N ci) (D.2 ci) H1 (fun k => defaultValue (pm_ty ci k)) := u_born (pm_ty ci) hts (pm_in ci hc) hKn hkC f1 (pm_tyok _ hc)
  refine kk H1 (r.nw (by rw [z1, r.1]) (fun q hq => o1 q (by rw [← r.1]; exact hq)) (Or.inl ?_)) ⟨Nat.le_trans hS.1 (by rw [z1, r.1]; omega), fun x h1 h2 => (o1 x (by rw [← r.1]; exact Nat.lt_of_lt_of_le h1 hS.1)).trans (hS.2.1 x h1 h2), hS.2.2⟩
  rw [yN_T]
  refine ⟨hc, hb1.to (fun k hk => ?_)⟩
  have hgd := pm_tygd _ hc k hk
  have eI : zI (yN h ci 0 (pm_N ci)) (zn h) k = 0 := congrFun (yN_I _ _ _ _) k
  have eR : zR (yN h ci 0 (pm_N ci)) (zn h) k = none := congrFun (yN_R _ _ _ _) k
  have eJ : zJ (yN h ci 0 (pm_N ci)) (zn h) k = 0 := congrFun (yN_J _ _ _ _) k
  cases hty : pm_ty ci k <;> rw [hty] at hgd <;> first | exact absurd hgd (by decide) | (simp only [pm_kd, pm_fv, eI, eR, eJ]; rfl)
theorem lw_ld {j : Nat} {n0 k0 : Nat} (C0 : lw_At p s m meth c b L xs) (Kx : lw_K b0 D cA ad s) (S : va_S (pm_A b0) s.heap H locs) (hj : i + j < L) (hL : L < 2147483648) (hl : lv_has ls 4 (lw_lv b b0 i)) (d0 : decode code pc = .ok (.aload_n 0, 1)) (d1 : decode code (pc + 1) = .ok (.iload_n 3, 1)) (d2 : decode code (pc + 1 + 1) = .ok (.iconst (j : Int), 1)) (d3 : decode code (pc + 1 + 1 + 1) = .ok (.iadd, 1)) (d4 : decode code (pc + 1 + 1 + 1 + 1) = .ok (.iaload, 1))
    (k : W p l e room_1 s m #[Value.ref b] below meth c H locs n0 k0 Q (F0 m (pc + 1 + 1 + 1 + 1 + 1) ls (.int (xs (i + j)) :: rest))) : W p l e room_1 s m #[Value.ref b] below meth c H locs n0 k0 Q (F0 m pc ls rest) := by
  obtain ⟨hx, hb, hr, hml, hown, hts, hX, hbl, hlocks, hgv⟩ := id C0
  have hbA : ¬ pm_A b0 b := by unfold pm_A; rw [Kx.1]; exact Nat.not_le.mpr hbl
  refine lv_aload_n hx hb d0 rfl (lv_at hl 0 rfl) ?_
  refine lv_iload_n hx hb d1 rfl (lv_at hl 3 rfl) ?_
  refine lv_iconst (v := nI j) hx hb d2 rfl ?_
  refine lv_iadd hx hb d3 ?_
  rw [nIA]
  refine va_sld hx hb hX hbl hbA S (vp_in_nI hj hL) d4 ?_
  rw [nIC (by omega)]
  exact k
theorem lw_c0 (C0 : lw_At p s m meth c b L xs) (Kx : lw_K b0 D cA ad s) (hi : i + 6 ≤ L) (hL : L ≤ 3072) (Rl : pm_Rel b0 D cA h H) (S : va_S (pm_A b0) s.heap H locs) (I : INV h) (hz : zn h + 200 ≤ 600000 ∧ zk h + 14000 ≤ 7302250) (hl : lv_has ls 4 (lw_lv b b0 i)) (kk : ∀ (h2 : pm_H) (H1 : Heap) (locs1 : List Loc), pm_Rel b0 D cA h2 H1 → va_S (pm_A b0) s.heap H1 locs1 → INV h2 → zn h2 ≤ zn h + 200 → zk h2 ≤ zk h + 14000 → W p l e room_1 s m #[Value.ref b] below meth c H1 locs1 (zn h2) (zk h2) Q (F0 m 885 ls [])) : W p l e room_1 s m #[Value.ref b] below meth c H locs (zn h) (zk h) Q (F0 m 132 ls []) := by
  have P := p_status  I
  unfold PAIR at P
  obtain ⟨r1, h1, run1, r2, h2, run2, er, I2, ⟨v, ev⟩, z2, zk2⟩ := P
  subst er
  subst ev
  have o1 := pm_run_Z run1
  have o2 := pm_run_Z run2
  have q1 := (pm_run_P run1).1
  have q2 := (pm_run_P run2).1
  have Sk := I.1
  have z76 := Sk.2.2.2
  obtain ⟨hx, hb, hr, hml, hown, hts, hX, hbl, hlocks, hgv⟩ := id C0
  refine lv_aload_n hx hb d_law_132 rfl (lv_at hl 1 rfl) ?_
  refine lw_callV (as := []) (rest := []) (a := 0) C0 Kx Rl S (by decide : 85 < 180) rfl (Sk.T 0) lw_l13 rfl rfl (by decide) hl.1 (Nat.le_of_ble_eq_true rfl) d_law_133 run1 ⟨by omega, by omega⟩ (fun H1 locs1 R1 S1 => ?_)
  refine lv_aload_n hx hb d_law_136 rfl (lv_at hl 2 rfl) ?_
  refine lw_callV (as := []) (rest := [.int v]) (a := 35) C0 Kx R1 S1 (by decide : 122 < 180) rfl ((o1.2 35 (by omega)).trans (Sk.T 35)) lw_l17 rfl rfl (by decide) hl.1 (Nat.le_of_ble_eq_true rfl) d_law_137 run2 ⟨by omega, by omega⟩ (fun H2 locs2 R2 S2 => ?_)
  refine lv_icmp_eq (tgt := 885) hx hb d_law_140 (by decide) (fun _ => ?_) (fun c => absurd rfl c)
  exact kk h2 H2 locs2 R2 S2 I2 z2 zk2
theorem lw_c1 (C0 : lw_At p s m meth c b L xs) (Kx : lw_K b0 D cA ad s) (hi : i + 6 ≤ L) (hL : L ≤ 3072) (Rl : pm_Rel b0 D cA h H) (S : va_S (pm_A b0) s.heap H locs) (I : INV h) (hz : zn h + 200 ≤ 600000 ∧ zk h + 14000 ≤ 7302250) (hl : lv_has ls 4 (lw_lv b b0 i)) (kk : ∀ (h2 : pm_H) (H1 : Heap) (locs1 : List Loc), pm_Rel b0 D cA h2 H1 → va_S (pm_A b0) s.heap H1 locs1 → INV h2 → zn h2 ≤ zn h + 200 → zk h2 ≤ zk h + 14000 → W p l e room_1 s m #[Value.ref b] below meth c H1 locs1 (zn h2) (zk h2) Q (F0 m 885 ls [])) : W p l e room_1 s m #[Value.ref b] below meth c H locs (zn h) (zk h) Q (F0 m 145 ls []) := by
  have P := p_feed (x1 := xs (i + 1)) (x2 := xs (i + 2)) (x3 := xs (i + 3)) (x4 := xs (i + 4)) (x5 := xs (i + 5)) I
  unfold PAIR at P
  obtain ⟨r1, h1, run1, r2, h2, run2, er, I2, ⟨v, ev⟩, z2, zk2⟩ := P
  subst er
  subst ev
  have o1 := pm_run_Z run1
  have o2 := pm_run_Z run2
  have q1 := (pm_run_P run1).1
  have q2 := (pm_run_P run2).1
  have Sk := I.1
  have z76 := Sk.2.2.2
  obtain ⟨hx, hb, hr, hml, hown, hts, hX, hbl, hlocks, hgv⟩ := id C0
  refine lv_aload_n hx hb d_law_145 rfl (lv_at hl 1 rfl) ?_
  refine lw_ld (j := 1) C0 Kx S (by omega) (by omega) hl d_law_146 d_law_147 d_law_148 d_law_149 d_law_150 ?_
  refine lw_ld (j := 2) C0 Kx S (by omega) (by omega) hl d_law_151 d_law_152 d_law_153 d_law_154 d_law_155 ?_
  refine lw_ld (j := 3) C0 Kx S (by omega) (by omega) hl d_law_156 d_law_157 d_law_158 d_law_159 d_law_160 ?_
  refine lw_ld (j := 4) C0 Kx S (by omega) (by omega) hl d_law_161 d_law_162 d_law_163 d_law_164 d_law_165 ?_
  refine lw_ld (j := 5) C0 Kx S (by omega) (by omega) hl d_law_166 d_law_167 d_law_168 d_law_169 d_law_170 ?_
  refine lw_callV (as := [.int (xs (i + 1)), .int (xs (i + 2)), .int (xs (i + 3)), .int (xs (i + 4)), .int (xs (i + 5))]) (rest := []) (a := 0) C0 Kx Rl S (by decide : 86 < 180) rfl (Sk.T 0) lw_l18 rfl rfl (by decide) hl.1 (Nat.le_of_ble_eq_true rfl) d_law_171 run1 ⟨by omega, by omega⟩ (fun H1 locs1 R1 S1 => ?_)
  refine lv_aload_n hx hb d_law_174 rfl (lv_at hl 2 rfl) ?_
  refine lw_ld (j := 1) C0 Kx S1 (by omega) (by omega) hl d_law_175 d_law_176 d_law_177 d_law_178 d_law_179 ?_
  refine lw_ld (j := 2) C0 Kx S1 (by omega) (by omega) hl d_law_180 d_law_181 d_law_182 d_law_183 d_law_184 ?_
  refine lw_ld (j := 3) C0 Kx S1 (by omega) (by omega) hl d_law_185 d_law_186 d_law_187 d_law_188 d_law_189 ?_
  refine lw_ld (j := 4) C0 Kx S1 (by omega) (by omega) hl d_law_190 d_law_191 d_law_192 d_law_193 d_law_194 ?_
  refine lw_ld (j := 5) C0 Kx S1 (by omega) (by omega) hl d_law_195 d_law_196 d_law_197 d_law_198 d_law_199 ?_
  refine lw_callV (as := [.int (xs (i + 1)), .int (xs (i + 2)), .int (xs (i + 3)), .int (xs (i + 4)), .int (xs (i + 5))]) (rest := [.int v]) (a := 35) C0 Kx R1 S1 (by decide : 143 < 180) rfl ((o1.2 35 (by omega)).trans (Sk.T 35)) lw_l22 rfl rfl (by decide) hl.1 (Nat.le_of_ble_eq_true rfl) d_law_200 run2 ⟨by omega, by omega⟩ (fun H2 locs2 R2 S2 => ?_)
  refine lv_icmp_eq (tgt := 885) hx hb d_law_203 (by decide) (fun _ => ?_) (fun c => absurd rfl c)
  exact kk h2 H2 locs2 R2 S2 I2 z2 zk2
theorem lw_c2 (C0 : lw_At p s m meth c b L xs) (Kx : lw_K b0 D cA ad s) (hi : i + 6 ≤ L) (hL : L ≤ 3072) (Rl : pm_Rel b0 D cA h H) (S : va_S (pm_A b0) s.heap H locs) (I : INV h) (hz : zn h + 200 ≤ 600000 ∧ zk h + 14000 ≤ 7302250) (hl : lv_has ls 4 (lw_lv b b0 i)) (kk : ∀ (h2 : pm_H) (H1 : Heap) (locs1 : List Loc), pm_Rel b0 D cA h2 H1 → va_S (pm_A b0) s.heap H1 locs1 → INV h2 → zn h2 ≤ zn h + 200 → zk h2 ≤ zk h + 14000 → W p l e room_1 s m #[Value.ref b] below meth c H1 locs1 (zn h2) (zk h2) Q (F0 m 885 ls [])) : W p l e room_1 s m #[Value.ref b] below meth c H locs (zn h) (zk h) Q (F0 m 208 ls []) := by
  have P := p_load (x1 := xs (i + 1)) I
  unfold PAIR at P
  obtain ⟨r1, h1, run1, r2, h2, run2, er, I2, ⟨v, ev⟩, z2, zk2⟩ := P
  subst er
  subst ev
  have o1 := pm_run_Z run1
  have o2 := pm_run_Z run2
  have q1 := (pm_run_P run1).1
  have q2 := (pm_run_P run2).1
  have Sk := I.1
  have z76 := Sk.2.2.2
  obtain ⟨hx, hb, hr, hml, hown, hts, hX, hbl, hlocks, hgv⟩ := id C0
  refine lv_aload_n hx hb d_law_208 rfl (lv_at hl 1 rfl) ?_
  refine lw_ld (j := 1) C0 Kx S (by omega) (by omega) hl d_law_209 d_law_210 d_law_211 d_law_212 d_law_213 ?_
  refine lw_callV (as := [.int (xs (i + 1))]) (rest := []) (a := 0) C0 Kx Rl S (by decide : 87 < 180) rfl (Sk.T 0) lw_l23 rfl rfl (by decide) hl.1 (Nat.le_of_ble_eq_true rfl) d_law_214 run1 ⟨by omega, by omega⟩ (fun H1 locs1 R1 S1 => ?_)
  refine lv_aload_n hx hb d_law_217 rfl (lv_at hl 2 rfl) ?_
  refine lw_ld (j := 1) C0 Kx S1 (by omega) (by omega) hl d_law_218 d_law_219 d_law_220 d_law_221 d_law_222 ?_
  refine lw_callV (as := [.int (xs (i + 1))]) (rest := [.int v]) (a := 35) C0 Kx R1 S1 (by decide : 145 < 180) rfl ((o1.2 35 (by omega)).trans (Sk.T 35)) lw_l27 rfl rfl (by decide) hl.1 (Nat.le_of_ble_eq_true rfl) d_law_223 run2 ⟨by omega, by omega⟩ (fun H2 locs2 R2 S2 => ?_)
  refine lv_icmp_eq (tgt := 885) hx hb d_law_226 (by decide) (fun _ => ?_) (fun c => absurd rfl c)
  exact kk h2 H2 locs2 R2 S2 I2 z2 zk2
theorem lw_c3 (C0 : lw_At p s m meth c b L xs) (Kx : lw_K b0 D cA ad s) (hi : i + 6 ≤ L) (hL : L ≤ 3072) (Rl : pm_Rel b0 D cA h H) (S : va_S (pm_A b0) s.heap H locs) (I : INV h) (hz : zn h + 200 ≤ 600000 ∧ zk h + 14000 ≤ 7302250) (hl : lv_has ls 4 (lw_lv b b0 i)) (kk : ∀ (h2 : pm_H) (H1 : Heap) (locs1 : List Loc), pm_Rel b0 D cA h2 H1 → va_S (pm_A b0) s.heap H1 locs1 → INV h2 → zn h2 ≤ zn h + 200 → zk h2 ≤ zk h + 14000 → W p l e room_1 s m #[Value.ref b] below meth c H1 locs1 (zn h2) (zk h2) Q (F0 m 885 ls [])) : W p l e room_1 s m #[Value.ref b] below meth c H locs (zn h) (zk h) Q (F0 m 231 ls []) := by
  have P := p_fault (x1 := xs (i + 1)) I
  unfold PAIR at P
  obtain ⟨r1, h1, run1, r2, h2, run2, er, I2, ⟨v, ev⟩, z2, zk2⟩ := P
  subst er
  subst ev
  have o1 := pm_run_Z run1
  have o2 := pm_run_Z run2
  have q1 := (pm_run_P run1).1
  have q2 := (pm_run_P run2).1
  have Sk := I.1
  have z76 := Sk.2.2.2
  obtain ⟨hx, hb, hr, hml, hown, hts, hX, hbl, hlocks, hgv⟩ := id C0
  refine lv_aload_n hx hb d_law_231 rfl (lv_at hl 1 rfl) ?_
  refine lw_ld (j := 1) C0 Kx S (by omega) (by omega) hl d_law_232 d_law_233 d_law_234 d_law_235 d_law_236 ?_
  refine lw_callV (as := [.int (xs (i + 1))]) (rest := []) (a := 0) C0 Kx Rl S (by decide : 88 < 180) rfl (Sk.T 0) lw_l28 rfl rfl (by decide) hl.1 (Nat.le_of_ble_eq_true rfl) d_law_237 run1 ⟨by omega, by omega⟩ (fun H1 locs1 R1 S1 => ?_)
  refine lv_aload_n hx hb d_law_240 rfl (lv_at hl 2 rfl) ?_
  refine lw_ld (j := 1) C0 Kx S1 (by omega) (by omega) hl d_law_241 d_law_242 d_law_243 d_law_244 d_law_245 ?_
  refine lw_callV (as := [.int (xs (i + 1))]) (rest := [.int v]) (a := 35) C0 Kx R1 S1 (by decide : 146 < 180) rfl ((o1.2 35 (by omega)).trans (Sk.T 35)) lw_l31 rfl rfl (by decide) hl.1 (Nat.le_of_ble_eq_true rfl) d_law_246 run2 ⟨by omega, by omega⟩ (fun H2 locs2 R2 S2 => ?_)
  refine lv_icmp_eq (tgt := 885) hx hb d_law_249 (by decide) (fun _ => ?_) (fun c => absurd rfl c)
  exact kk h2 H2 locs2 R2 S2 I2 z2 zk2
theorem lw_c4 (C0 : lw_At p s m meth c b L xs) (Kx : lw_K b0 D cA ad s) (hi : i + 6 ≤ L) (hL : L ≤ 3072) (Rl : pm_Rel b0 D cA h H) (S : va_S (pm_A b0) s.heap H locs) (I : INV h) (hz : zn h + 200 ≤ 600000 ∧ zk h + 14000 ≤ 7302250) (hl : lv_has ls 4 (lw_lv b b0 i)) (kk : ∀ (h2 : pm_H) (H1 : Heap) (locs1 : List Loc), pm_Rel b0 D cA h2 H1 → va_S (pm_A b0) s.heap H1 locs1 → INV h2 → zn h2 ≤ zn h + 200 → zk h2 ≤ zk h + 14000 → W p l e room_1 s m #[Value.ref b] below meth c H1 locs1 (zn h2) (zk h2) Q (F0 m 885 ls [])) : W p l e room_1 s m #[Value.ref b] below meth c H locs (zn h) (zk h) Q (F0 m 254 ls []) := by
  have P := p_strip (x1 := xs (i + 1)) (x2 := xs (i + 2)) I
  unfold PAIR at P
  obtain ⟨r1, h1, run1, r2, h2, run2, er, I2, ⟨v, ev⟩, z2, zk2⟩ := P
  subst er
  subst ev
  have o1 := pm_run_Z run1
  have o2 := pm_run_Z run2
  have q1 := (pm_run_P run1).1
  have q2 := (pm_run_P run2).1
  have Sk := I.1
  have z76 := Sk.2.2.2
  obtain ⟨hx, hb, hr, hml, hown, hts, hX, hbl, hlocks, hgv⟩ := id C0
  refine lv_aload_n hx hb d_law_254 rfl (lv_at hl 1 rfl) ?_
  refine lw_ld (j := 1) C0 Kx S (by omega) (by omega) hl d_law_255 d_law_256 d_law_257 d_law_258 d_law_259 ?_
  refine lw_ld (j := 2) C0 Kx S (by omega) (by omega) hl d_law_260 d_law_261 d_law_262 d_law_263 d_law_264 ?_
  refine lw_callV (as := [.int (xs (i + 1)), .int (xs (i + 2))]) (rest := []) (a := 0) C0 Kx Rl S (by decide : 89 < 180) rfl (Sk.T 0) lw_l32 rfl rfl (by decide) hl.1 (Nat.le_of_ble_eq_true rfl) d_law_265 run1 ⟨by omega, by omega⟩ (fun H1 locs1 R1 S1 => ?_)
  refine lv_aload_n hx hb d_law_268 rfl (lv_at hl 2 rfl) ?_
  refine lw_ld (j := 1) C0 Kx S1 (by omega) (by omega) hl d_law_269 d_law_270 d_law_271 d_law_272 d_law_273 ?_
  refine lw_ld (j := 2) C0 Kx S1 (by omega) (by omega) hl d_law_274 d_law_275 d_law_276 d_law_277 d_law_278 ?_
  refine lw_callV (as := [.int (xs (i + 1)), .int (xs (i + 2))]) (rest := [.int v]) (a := 35) C0 Kx R1 S1 (by decide : 149 < 180) rfl ((o1.2 35 (by omega)).trans (Sk.T 35)) lw_l36 rfl rfl (by decide) hl.1 (Nat.le_of_ble_eq_true rfl) d_law_279 run2 ⟨by omega, by omega⟩ (fun H2 locs2 R2 S2 => ?_)
  refine lv_icmp_eq (tgt := 885) hx hb d_law_282 (by decide) (fun _ => ?_) (fun c => absurd rfl c)
  exact kk h2 H2 locs2 R2 S2 I2 z2 zk2
theorem lw_c5 (C0 : lw_At p s m meth c b L xs) (Kx : lw_K b0 D cA ad s) (hi : i + 6 ≤ L) (hL : L ≤ 3072) (Rl : pm_Rel b0 D cA h H) (S : va_S (pm_A b0) s.heap H locs) (I : INV h) (hz : zn h + 200 ≤ 600000 ∧ zk h + 14000 ≤ 7302250) (hl : lv_has ls 4 (lw_lv b b0 i)) (kk : ∀ (h2 : pm_H) (H1 : Heap) (locs1 : List Loc), pm_Rel b0 D cA h2 H1 → va_S (pm_A b0) s.heap H1 locs1 → INV h2 → zn h2 ≤ zn h + 200 → zk h2 ≤ zk h + 14000 → W p l e room_1 s m #[Value.ref b] below meth c H1 locs1 (zn h2) (zk h2) Q (F0 m 885 ls [])) : W p l e room_1 s m #[Value.ref b] below meth c H locs (zn h) (zk h) Q (F0 m 287 ls []) := by
  have P := p_pick (x1 := xs (i + 1)) (x2 := xs (i + 2)) I
  unfold PAIR at P
  obtain ⟨r1, h1, run1, r2, h2, run2, er, I2, ⟨v, ev⟩, z2, zk2⟩ := P
  subst er
  subst ev
  have o1 := pm_run_Z run1
  have o2 := pm_run_Z run2
  have q1 := (pm_run_P run1).1
  have q2 := (pm_run_P run2).1
  have Sk := I.1
  have z76 := Sk.2.2.2
  obtain ⟨hx, hb, hr, hml, hown, hts, hX, hbl, hlocks, hgv⟩ := id C0
  refine lv_aload_n hx hb d_law_287 rfl (lv_at hl 1 rfl) ?_
  refine lw_ld (j := 1) C0 Kx S (by omega) (by omega) hl d_law_288 d_law_289 d_law_290 d_law_291 d_law_292 ?_
  refine lw_ld (j := 2) C0 Kx S (by omega) (by omega) hl d_law_293 d_law_294 d_law_295 d_law_296 d_law_297 ?_
  refine lw_callV (as := [.int (xs (i + 1)), .int (xs (i + 2))]) (rest := []) (a := 0) C0 Kx Rl S (by decide : 90 < 180) rfl (Sk.T 0) lw_l37 rfl rfl (by decide) hl.1 (Nat.le_of_ble_eq_true rfl) d_law_298 run1 ⟨by omega, by omega⟩ (fun H1 locs1 R1 S1 => ?_)
  refine lv_aload_n hx hb d_law_301 rfl (lv_at hl 2 rfl) ?_
  refine lw_ld (j := 1) C0 Kx S1 (by omega) (by omega) hl d_law_302 d_law_303 d_law_304 d_law_305 d_law_306 ?_
  refine lw_ld (j := 2) C0 Kx S1 (by omega) (by omega) hl d_law_307 d_law_308 d_law_309 d_law_310 d_law_311 ?_
  refine lw_callV (as := [.int (xs (i + 1)), .int (xs (i + 2))]) (rest := [.int v]) (a := 35) C0 Kx R1 S1 (by decide : 150 < 180) rfl ((o1.2 35 (by omega)).trans (Sk.T 35)) lw_l40 rfl rfl (by decide) hl.1 (Nat.le_of_ble_eq_true rfl) d_law_312 run2 ⟨by omega, by omega⟩ (fun H2 locs2 R2 S2 => ?_)
  refine lv_icmp_eq (tgt := 885) hx hb d_law_315 (by decide) (fun _ => ?_) (fun c => absurd rfl c)
  exact kk h2 H2 locs2 R2 S2 I2 z2 zk2
theorem lw_c6 (C0 : lw_At p s m meth c b L xs) (Kx : lw_K b0 D cA ad s) (hi : i + 6 ≤ L) (hL : L ≤ 3072) (Rl : pm_Rel b0 D cA h H) (S : va_S (pm_A b0) s.heap H locs) (I : INV h) (hz : zn h + 200 ≤ 600000 ∧ zk h + 14000 ≤ 7302250) (hl : lv_has ls 4 (lw_lv b b0 i)) (kk : ∀ (h2 : pm_H) (H1 : Heap) (locs1 : List Loc), pm_Rel b0 D cA h2 H1 → va_S (pm_A b0) s.heap H1 locs1 → INV h2 → zn h2 ≤ zn h + 200 → zk h2 ≤ zk h + 14000 → W p l e room_1 s m #[Value.ref b] below meth c H1 locs1 (zn h2) (zk h2) Q (F0 m 885 ls [])) : W p l e room_1 s m #[Value.ref b] below meth c H locs (zn h) (zk h) Q (F0 m 320 ls []) := by
  have P := p_block (x1 := xs (i + 1)) (x2 := xs (i + 2)) (x3 := xs (i + 3)) I
  unfold PAIR at P
  obtain ⟨r1, h1, run1, r2, h2, run2, er, I2, ⟨v, ev⟩, z2, zk2⟩ := P
  subst er
  subst ev
  have o1 := pm_run_Z run1
  have o2 := pm_run_Z run2
  have q1 := (pm_run_P run1).1
  have q2 := (pm_run_P run2).1
  have Sk := I.1
  have z76 := Sk.2.2.2
  obtain ⟨hx, hb, hr, hml, hown, hts, hX, hbl, hlocks, hgv⟩ := id C0
  refine lv_aload_n hx hb d_law_320 rfl (lv_at hl 1 rfl) ?_
  refine lw_ld (j := 1) C0 Kx S (by omega) (by omega) hl d_law_321 d_law_322 d_law_323 d_law_324 d_law_325 ?_
  refine lw_ld (j := 2) C0 Kx S (by omega) (by omega) hl d_law_326 d_law_327 d_law_328 d_law_329 d_law_330 ?_
  refine lw_ld (j := 3) C0 Kx S (by omega) (by omega) hl d_law_331 d_law_332 d_law_333 d_law_334 d_law_335 ?_
  refine lw_callV (as := [.int (xs (i + 1)), .int (xs (i + 2)), .int (xs (i + 3))]) (rest := []) (a := 0) C0 Kx Rl S (by decide : 91 < 180) rfl (Sk.T 0) lw_l41 rfl rfl (by decide) hl.1 (Nat.le_of_ble_eq_true rfl) d_law_336 run1 ⟨by omega, by omega⟩ (fun H1 locs1 R1 S1 => ?_)
  refine lv_aload_n hx hb d_law_339 rfl (lv_at hl 2 rfl) ?_
  refine lw_ld (j := 1) C0 Kx S1 (by omega) (by omega) hl d_law_340 d_law_341 d_law_342 d_law_343 d_law_344 ?_
  refine lw_ld (j := 2) C0 Kx S1 (by omega) (by omega) hl d_law_345 d_law_346 d_law_347 d_law_348 d_law_349 ?_
  refine lw_ld (j := 3) C0 Kx S1 (by omega) (by omega) hl d_law_350 d_law_351 d_law_352 d_law_353 d_law_354 ?_
  refine lw_callV (as := [.int (xs (i + 1)), .int (xs (i + 2)), .int (xs (i + 3))]) (rest := [.int v]) (a := 35) C0 Kx R1 S1 (by decide : 151 < 180) rfl ((o1.2 35 (by omega)).trans (Sk.T 35)) lw_l45 rfl rfl (by decide) hl.1 (Nat.le_of_ble_eq_true rfl) d_law_355 run2 ⟨by omega, by omega⟩ (fun H2 locs2 R2 S2 => ?_)
  refine lv_icmp_eq (tgt := 885) hx hb d_law_358 (by decide) (fun _ => ?_) (fun c => absurd rfl c)
  exact kk h2 H2 locs2 R2 S2 I2 z2 zk2
theorem lw_c7 (C0 : lw_At p s m meth c b L xs) (Kx : lw_K b0 D cA ad s) (hi : i + 6 ≤ L) (hL : L ≤ 3072) (Rl : pm_Rel b0 D cA h H) (S : va_S (pm_A b0) s.heap H locs) (I : INV h) (hz : zn h + 200 ≤ 600000 ∧ zk h + 14000 ≤ 7302250) (hl : lv_has ls 4 (lw_lv b b0 i)) (kk : ∀ (h2 : pm_H) (H1 : Heap) (locs1 : List Loc), pm_Rel b0 D cA h2 H1 → va_S (pm_A b0) s.heap H1 locs1 → INV h2 → zn h2 ≤ zn h + 200 → zk h2 ≤ zk h + 14000 → W p l e room_1 s m #[Value.ref b] below meth c H1 locs1 (zn h2) (zk h2) Q (F0 m 885 ls [])) : W p l e room_1 s m #[Value.ref b] below meth c H locs (zn h) (zk h) Q (F0 m 363 ls []) := by
  have P := p_cloth (x1 := xs (i + 1)) (x2 := xs (i + 2)) (x3 := xs (i + 3)) I
  unfold PAIR at P
  obtain ⟨r1, h1, run1, r2, h2, run2, er, I2, ⟨v, ev⟩, z2, zk2⟩ := P
  subst er
  subst ev
  have o1 := pm_run_Z run1
  have o2 := pm_run_Z run2
  have q1 := (pm_run_P run1).1
  have q2 := (pm_run_P run2).1
  have Sk := I.1
  have z76 := Sk.2.2.2
  obtain ⟨hx, hb, hr, hml, hown, hts, hX, hbl, hlocks, hgv⟩ := id C0
  refine lv_aload_n hx hb d_law_363 rfl (lv_at hl 1 rfl) ?_
  refine lw_ld (j := 1) C0 Kx S (by omega) (by omega) hl d_law_364 d_law_365 d_law_366 d_law_367 d_law_368 ?_
  refine lw_ld (j := 2) C0 Kx S (by omega) (by omega) hl d_law_369 d_law_370 d_law_371 d_law_372 d_law_373 ?_
  refine lw_ld (j := 3) C0 Kx S (by omega) (by omega) hl d_law_374 d_law_375 d_law_376 d_law_377 d_law_378 ?_
  refine lw_callV (as := [.int (xs (i + 1)), .int (xs (i + 2)), .int (xs (i + 3))]) (rest := []) (a := 0) C0 Kx Rl S (by decide : 92 < 180) rfl (Sk.T 0) lw_l46 rfl rfl (by decide) hl.1 (Nat.le_of_ble_eq_true rfl) d_law_379 run1 ⟨by omega, by omega⟩ (fun H1 locs1 R1 S1 => ?_)
  refine lv_aload_n hx hb d_law_382 rfl (lv_at hl 2 rfl) ?_
  refine lw_ld (j := 1) C0 Kx S1 (by omega) (by omega) hl d_law_383 d_law_384 d_law_385 d_law_386 d_law_387 ?_
  refine lw_ld (j := 2) C0 Kx S1 (by omega) (by omega) hl d_law_388 d_law_389 d_law_390 d_law_391 d_law_392 ?_
  refine lw_ld (j := 3) C0 Kx S1 (by omega) (by omega) hl d_law_393 d_law_394 d_law_395 d_law_396 d_law_397 ?_
  refine lw_callV (as := [.int (xs (i + 1)), .int (xs (i + 2)), .int (xs (i + 3))]) (rest := [.int v]) (a := 35) C0 Kx R1 S1 (by decide : 158 < 180) rfl ((o1.2 35 (by omega)).trans (Sk.T 35)) lw_l49 rfl rfl (by decide) hl.1 (Nat.le_of_ble_eq_true rfl) d_law_398 run2 ⟨by omega, by omega⟩ (fun H2 locs2 R2 S2 => ?_)
  refine lv_icmp_eq (tgt := 885) hx hb d_law_401 (by decide) (fun _ => ?_) (fun c => absurd rfl c)
  exact kk h2 H2 locs2 R2 S2 I2 z2 zk2
theorem lw_c8 (C0 : lw_At p s m meth c b L xs) (Kx : lw_K b0 D cA ad s) (hi : i + 6 ≤ L) (hL : L ≤ 3072) (Rl : pm_Rel b0 D cA h H) (S : va_S (pm_A b0) s.heap H locs) (I : INV h) (hz : zn h + 200 ≤ 600000 ∧ zk h + 14000 ≤ 7302250) (hl : lv_has ls 4 (lw_lv b b0 i)) (kk : ∀ (h2 : pm_H) (H1 : Heap) (locs1 : List Loc), pm_Rel b0 D cA h2 H1 → va_S (pm_A b0) s.heap H1 locs1 → INV h2 → zn h2 ≤ zn h + 200 → zk h2 ≤ zk h + 14000 → W p l e room_1 s m #[Value.ref b] below meth c H1 locs1 (zn h2) (zk h2) Q (F0 m 885 ls [])) : W p l e room_1 s m #[Value.ref b] below meth c H locs (zn h) (zk h) Q (F0 m 406 ls []) := by
  have P := p_at (x1 := xs (i + 1)) (x2 := xs (i + 2)) (x3 := xs (i + 3)) I
  unfold PAIR at P
  obtain ⟨r1, h1, run1, r2, h2, run2, er, I2, ⟨v, ev⟩, z2, zk2⟩ := P
  subst er
  subst ev
  have o1 := pm_run_Z run1
  have o2 := pm_run_Z run2
  have q1 := (pm_run_P run1).1
  have q2 := (pm_run_P run2).1
  have Sk := I.1
  have z76 := Sk.2.2.2
  obtain ⟨hx, hb, hr, hml, hown, hts, hX, hbl, hlocks, hgv⟩ := id C0
  refine lv_aload_n hx hb d_law_406 rfl (lv_at hl 1 rfl) ?_
  refine lw_ld (j := 1) C0 Kx S (by omega) (by omega) hl d_law_407 d_law_408 d_law_409 d_law_410 d_law_411 ?_
  refine lw_ld (j := 2) C0 Kx S (by omega) (by omega) hl d_law_412 d_law_413 d_law_414 d_law_415 d_law_416 ?_
  refine lw_ld (j := 3) C0 Kx S (by omega) (by omega) hl d_law_417 d_law_418 d_law_419 d_law_420 d_law_421 ?_
  refine lw_callV (as := [.int (xs (i + 1)), .int (xs (i + 2)), .int (xs (i + 3))]) (rest := []) (a := 0) C0 Kx Rl S (by decide : 93 < 180) rfl (Sk.T 0) lw_l50 rfl rfl (by decide) hl.1 (Nat.le_of_ble_eq_true rfl) d_law_422 run1 ⟨by omega, by omega⟩ (fun H1 locs1 R1 S1 => ?_)
  refine lv_aload_n hx hb d_law_425 rfl (lv_at hl 2 rfl) ?_
  refine lw_ld (j := 1) C0 Kx S1 (by omega) (by omega) hl d_law_426 d_law_427 d_law_428 d_law_429 d_law_430 ?_
  refine lw_ld (j := 2) C0 Kx S1 (by omega) (by omega) hl d_law_431 d_law_432 d_law_433 d_law_434 d_law_435 ?_
  refine lw_ld (j := 3) C0 Kx S1 (by omega) (by omega) hl d_law_436 d_law_437 d_law_438 d_law_439 d_law_440 ?_
  refine lw_callV (as := [.int (xs (i + 1)), .int (xs (i + 2)), .int (xs (i + 3))]) (rest := [.int v]) (a := 35) C0 Kx R1 S1 (by decide : 159 < 180) rfl ((o1.2 35 (by omega)).trans (Sk.T 35)) lw_l53 rfl rfl (by decide) hl.1 (Nat.le_of_ble_eq_true rfl) d_law_441 run2 ⟨by omega, by omega⟩ (fun H2 locs2 R2 S2 => ?_)
  refine lv_icmp_eq (tgt := 885) hx hb d_law_444 (by decide) (fun _ => ?_) (fun c => absurd rfl c)
  exact kk h2 H2 locs2 R2 S2 I2 z2 zk2
theorem lw_c9 (C0 : lw_At p s m meth c b L xs) (Kx : lw_K b0 D cA ad s) (hi : i + 6 ≤ L) (hL : L ≤ 3072) (Rl : pm_Rel b0 D cA h H) (S : va_S (pm_A b0) s.heap H locs) (I : INV h) (hz : zn h + 200 ≤ 600000 ∧ zk h + 14000 ≤ 7302250) (hl : lv_has ls 4 (lw_lv b b0 i)) (kk : ∀ (h2 : pm_H) (H1 : Heap) (locs1 : List Loc), pm_Rel b0 D cA h2 H1 → va_S (pm_A b0) s.heap H1 locs1 → INV h2 → zn h2 ≤ zn h + 200 → zk h2 ≤ zk h + 14000 → W p l e room_1 s m #[Value.ref b] below meth c H1 locs1 (zn h2) (zk h2) Q (F0 m 885 ls [])) : W p l e room_1 s m #[Value.ref b] below meth c H locs (zn h) (zk h) Q (F0 m 449 ls []) := by
  have P := p_seam (x1 := xs (i + 1)) (x2 := xs (i + 2)) (x3 := xs (i + 3)) I
  unfold PAIR at P
  obtain ⟨r1, h1, run1, r2, h2, run2, er, I2, ⟨v, ev⟩, z2, zk2⟩ := P
  subst er
  subst ev
  have o1 := pm_run_Z run1
  have o2 := pm_run_Z run2
  have q1 := (pm_run_P run1).1
  have q2 := (pm_run_P run2).1
  have Sk := I.1
  have z76 := Sk.2.2.2
  obtain ⟨hx, hb, hr, hml, hown, hts, hX, hbl, hlocks, hgv⟩ := id C0
  refine lv_aload_n hx hb d_law_449 rfl (lv_at hl 1 rfl) ?_
  refine lw_ld (j := 1) C0 Kx S (by omega) (by omega) hl d_law_450 d_law_451 d_law_452 d_law_453 d_law_454 ?_
  refine lw_ld (j := 2) C0 Kx S (by omega) (by omega) hl d_law_455 d_law_456 d_law_457 d_law_458 d_law_459 ?_
  refine lw_ld (j := 3) C0 Kx S (by omega) (by omega) hl d_law_460 d_law_461 d_law_462 d_law_463 d_law_464 ?_
  refine lw_callV (as := [.int (xs (i + 1)), .int (xs (i + 2)), .int (xs (i + 3))]) (rest := []) (a := 0) C0 Kx Rl S (by decide : 94 < 180) rfl (Sk.T 0) lw_l54 rfl rfl (by decide) hl.1 (Nat.le_of_ble_eq_true rfl) d_law_465 run1 ⟨by omega, by omega⟩ (fun H1 locs1 R1 S1 => ?_)
  refine lv_aload_n hx hb d_law_468 rfl (lv_at hl 2 rfl) ?_
  refine lw_ld (j := 1) C0 Kx S1 (by omega) (by omega) hl d_law_469 d_law_470 d_law_471 d_law_472 d_law_473 ?_
  refine lw_ld (j := 2) C0 Kx S1 (by omega) (by omega) hl d_law_474 d_law_475 d_law_476 d_law_477 d_law_478 ?_
  refine lw_ld (j := 3) C0 Kx S1 (by omega) (by omega) hl d_law_479 d_law_480 d_law_481 d_law_482 d_law_483 ?_
  refine lw_callV (as := [.int (xs (i + 1)), .int (xs (i + 2)), .int (xs (i + 3))]) (rest := [.int v]) (a := 35) C0 Kx R1 S1 (by decide : 160 < 180) rfl ((o1.2 35 (by omega)).trans (Sk.T 35)) lw_l57 rfl rfl (by decide) hl.1 (Nat.le_of_ble_eq_true rfl) d_law_484 run2 ⟨by omega, by omega⟩ (fun H2 locs2 R2 S2 => ?_)
  refine lv_icmp_eq (tgt := 885) hx hb d_law_487 (by decide) (fun _ => ?_) (fun c => absurd rfl c)
  exact kk h2 H2 locs2 R2 S2 I2 z2 zk2
theorem lw_c10 (C0 : lw_At p s m meth c b L xs) (Kx : lw_K b0 D cA ad s) (hi : i + 6 ≤ L) (hL : L ≤ 3072) (Rl : pm_Rel b0 D cA h H) (S : va_S (pm_A b0) s.heap H locs) (I : INV h) (hz : zn h + 200 ≤ 600000 ∧ zk h + 14000 ≤ 7302250) (hl : lv_has ls 4 (lw_lv b b0 i)) (kk : ∀ (h2 : pm_H) (H1 : Heap) (locs1 : List Loc), pm_Rel b0 D cA h2 H1 → va_S (pm_A b0) s.heap H1 locs1 → INV h2 → zn h2 ≤ zn h + 200 → zk h2 ≤ zk h + 14000 → W p l e room_1 s m #[Value.ref b] below meth c H1 locs1 (zn h2) (zk h2) Q (F0 m 885 ls [])) : W p l e room_1 s m #[Value.ref b] below meth c H locs (zn h) (zk h) Q (F0 m 492 ls []) := by
  have P := p_shifts (x1 := xs (i + 1)) (x2 := xs (i + 2)) I
  unfold PAIR at P
  obtain ⟨r1, h1, run1, r2, h2, run2, er, I2, ⟨v, ev⟩, z2, zk2⟩ := P
  subst er
  subst ev
  have o1 := pm_run_Z run1
  have o2 := pm_run_Z run2
  have q1 := (pm_run_P run1).1
  have q2 := (pm_run_P run2).1
  have Sk := I.1
  have z76 := Sk.2.2.2
  obtain ⟨hx, hb, hr, hml, hown, hts, hX, hbl, hlocks, hgv⟩ := id C0
  refine lv_aload_n hx hb d_law_492 rfl (lv_at hl 1 rfl) ?_
  refine lw_ld (j := 1) C0 Kx S (by omega) (by omega) hl d_law_493 d_law_494 d_law_495 d_law_496 d_law_497 ?_
  refine lw_ld (j := 2) C0 Kx S (by omega) (by omega) hl d_law_498 d_law_499 d_law_500 d_law_501 d_law_502 ?_
  refine lw_callV (as := [.int (xs (i + 1)), .int (xs (i + 2))]) (rest := []) (a := 0) C0 Kx Rl S (by decide : 95 < 180) rfl (Sk.T 0) lw_l58 rfl rfl (by decide) hl.1 (Nat.le_of_ble_eq_true rfl) d_law_503 run1 ⟨by omega, by omega⟩ (fun H1 locs1 R1 S1 => ?_)
  refine lv_aload_n hx hb d_law_506 rfl (lv_at hl 2 rfl) ?_
  refine lw_ld (j := 1) C0 Kx S1 (by omega) (by omega) hl d_law_507 d_law_508 d_law_509 d_law_510 d_law_511 ?_
  refine lw_ld (j := 2) C0 Kx S1 (by omega) (by omega) hl d_law_512 d_law_513 d_law_514 d_law_515 d_law_516 ?_
  refine lw_callV (as := [.int (xs (i + 1)), .int (xs (i + 2))]) (rest := [.int v]) (a := 35) C0 Kx R1 S1 (by decide : 162 < 180) rfl ((o1.2 35 (by omega)).trans (Sk.T 35)) lw_l61 rfl rfl (by decide) hl.1 (Nat.le_of_ble_eq_true rfl) d_law_517 run2 ⟨by omega, by omega⟩ (fun H2 locs2 R2 S2 => ?_)
  refine lv_icmp_eq (tgt := 885) hx hb d_law_520 (by decide) (fun _ => ?_) (fun c => absurd rfl c)
  exact kk h2 H2 locs2 R2 S2 I2 z2 zk2
theorem lw_c11 (C0 : lw_At p s m meth c b L xs) (Kx : lw_K b0 D cA ad s) (hi : i + 6 ≤ L) (hL : L ≤ 3072) (Rl : pm_Rel b0 D cA h H) (S : va_S (pm_A b0) s.heap H locs) (I : INV h) (hz : zn h + 200 ≤ 600000 ∧ zk h + 14000 ≤ 7302250) (hl : lv_has ls 4 (lw_lv b b0 i)) (kk : ∀ (h2 : pm_H) (H1 : Heap) (locs1 : List Loc), pm_Rel b0 D cA h2 H1 → va_S (pm_A b0) s.heap H1 locs1 → INV h2 → zn h2 ≤ zn h + 200 → zk h2 ≤ zk h + 14000 → W p l e room_1 s m #[Value.ref b] below meth c H1 locs1 (zn h2) (zk h2) Q (F0 m 885 ls [])) : W p l e room_1 s m #[Value.ref b] below meth c H locs (zn h) (zk h) Q (F0 m 525 ls []) := by
  have P := p_order (x1 := xs (i + 1)) I
  unfold PAIR at P
  obtain ⟨r1, h1, run1, r2, h2, run2, er, I2, ⟨v, ev⟩, z2, zk2⟩ := P
  subst er
  subst ev
  have o1 := pm_run_Z run1
  have o2 := pm_run_Z run2
  have q1 := (pm_run_P run1).1
  have q2 := (pm_run_P run2).1
  have Sk := I.1
  have z76 := Sk.2.2.2
  obtain ⟨hx, hb, hr, hml, hown, hts, hX, hbl, hlocks, hgv⟩ := id C0
  refine lv_aload_n hx hb d_law_525 rfl (lv_at hl 1 rfl) ?_
  refine lw_ld (j := 1) C0 Kx S (by omega) (by omega) hl d_law_526 d_law_527 d_law_528 d_law_529 d_law_530 ?_
  refine lw_callV (as := [.int (xs (i + 1))]) (rest := []) (a := 0) C0 Kx Rl S (by decide : 96 < 180) rfl (Sk.T 0) lw_l62 rfl rfl (by decide) hl.1 (Nat.le_of_ble_eq_true rfl) d_law_531 run1 ⟨by omega, by omega⟩ (fun H1 locs1 R1 S1 => ?_)
  refine lv_aload_n hx hb d_law_534 rfl (lv_at hl 2 rfl) ?_
  refine lw_ld (j := 1) C0 Kx S1 (by omega) (by omega) hl d_law_535 d_law_536 d_law_537 d_law_538 d_law_539 ?_
  refine lw_callV (as := [.int (xs (i + 1))]) (rest := [.int v]) (a := 35) C0 Kx R1 S1 (by decide : 163 < 180) rfl ((o1.2 35 (by omega)).trans (Sk.T 35)) lw_l65 rfl rfl (by decide) hl.1 (Nat.le_of_ble_eq_true rfl) d_law_540 run2 ⟨by omega, by omega⟩ (fun H2 locs2 R2 S2 => ?_)
  refine lv_icmp_eq (tgt := 885) hx hb d_law_543 (by decide) (fun _ => ?_) (fun c => absurd rfl c)
  exact kk h2 H2 locs2 R2 S2 I2 z2 zk2
theorem lw_c12 (C0 : lw_At p s m meth c b L xs) (Kx : lw_K b0 D cA ad s) (hi : i + 6 ≤ L) (hL : L ≤ 3072) (Rl : pm_Rel b0 D cA h H) (S : va_S (pm_A b0) s.heap H locs) (I : INV h) (hz : zn h + 200 ≤ 600000 ∧ zk h + 14000 ≤ 7302250) (hl : lv_has ls 4 (lw_lv b b0 i)) (kk : ∀ (h2 : pm_H) (H1 : Heap) (locs1 : List Loc), pm_Rel b0 D cA h2 H1 → va_S (pm_A b0) s.heap H1 locs1 → INV h2 → zn h2 ≤ zn h + 200 → zk h2 ≤ zk h + 14000 → W p l e room_1 s m #[Value.ref b] below meth c H1 locs1 (zn h2) (zk h2) Q (F0 m 885 ls [])) : W p l e room_1 s m #[Value.ref b] below meth c H locs (zn h) (zk h) Q (F0 m 548 ls []) := by
  have P := p_out (x1 := xs (i + 1)) I
  unfold PAIR at P
  obtain ⟨r1, h1, run1, r2, h2, run2, er, I2, ⟨v, ev⟩, z2, zk2⟩ := P
  subst er
  subst ev
  have o1 := pm_run_Z run1
  have o2 := pm_run_Z run2
  have q1 := (pm_run_P run1).1
  have q2 := (pm_run_P run2).1
  have Sk := I.1
  have z76 := Sk.2.2.2
  obtain ⟨hx, hb, hr, hml, hown, hts, hX, hbl, hlocks, hgv⟩ := id C0
  refine lv_aload_n hx hb d_law_548 rfl (lv_at hl 1 rfl) ?_
  refine lw_ld (j := 1) C0 Kx S (by omega) (by omega) hl d_law_549 d_law_550 d_law_551 d_law_552 d_law_553 ?_
  refine lw_callV (as := [.int (xs (i + 1))]) (rest := []) (a := 0) C0 Kx Rl S (by decide : 97 < 180) rfl (Sk.T 0) lw_l66 rfl rfl (by decide) hl.1 (Nat.le_of_ble_eq_true rfl) d_law_554 run1 ⟨by omega, by omega⟩ (fun H1 locs1 R1 S1 => ?_)
  refine lv_aload_n hx hb d_law_557 rfl (lv_at hl 2 rfl) ?_
  refine lw_ld (j := 1) C0 Kx S1 (by omega) (by omega) hl d_law_558 d_law_559 d_law_560 d_law_561 d_law_562 ?_
  refine lw_callV (as := [.int (xs (i + 1))]) (rest := [.int v]) (a := 35) C0 Kx R1 S1 (by decide : 164 < 180) rfl ((o1.2 35 (by omega)).trans (Sk.T 35)) lw_l69 rfl rfl (by decide) hl.1 (Nat.le_of_ble_eq_true rfl) d_law_563 run2 ⟨by omega, by omega⟩ (fun H2 locs2 R2 S2 => ?_)
  refine lv_icmp_eq (tgt := 885) hx hb d_law_566 (by decide) (fun _ => ?_) (fun c => absurd rfl c)
  exact kk h2 H2 locs2 R2 S2 I2 z2 zk2
theorem lw_c13 (C0 : lw_At p s m meth c b L xs) (Kx : lw_K b0 D cA ad s) (hi : i + 6 ≤ L) (hL : L ≤ 3072) (Rl : pm_Rel b0 D cA h H) (S : va_S (pm_A b0) s.heap H locs) (I : INV h) (hz : zn h + 200 ≤ 600000 ∧ zk h + 14000 ≤ 7302250) (hl : lv_has ls 4 (lw_lv b b0 i)) (kk : ∀ (h2 : pm_H) (H1 : Heap) (locs1 : List Loc), pm_Rel b0 D cA h2 H1 → va_S (pm_A b0) s.heap H1 locs1 → INV h2 → zn h2 ≤ zn h + 200 → zk h2 ≤ zk h + 14000 → W p l e room_1 s m #[Value.ref b] below meth c H1 locs1 (zn h2) (zk h2) Q (F0 m 885 ls [])) : W p l e room_1 s m #[Value.ref b] below meth c H locs (zn h) (zk h) Q (F0 m 571 ls []) := by
  have P := p_loom (x1 := xs (i + 1)) (x2 := xs (i + 2)) I
  unfold PAIR at P
  obtain ⟨r1, h1, run1, r2, h2, run2, er, I2, ⟨v, ev⟩, z2, zk2⟩ := P
  subst er
  subst ev
  have o1 := pm_run_Z run1
  have o2 := pm_run_Z run2
  have q1 := (pm_run_P run1).1
  have q2 := (pm_run_P run2).1
  have Sk := I.1
  have z76 := Sk.2.2.2
  obtain ⟨hx, hb, hr, hml, hown, hts, hX, hbl, hlocks, hgv⟩ := id C0
  refine lv_aload_n hx hb d_law_571 rfl (lv_at hl 1 rfl) ?_
  refine lw_ld (j := 1) C0 Kx S (by omega) (by omega) hl d_law_572 d_law_573 d_law_574 d_law_575 d_law_576 ?_
  refine lw_ld (j := 2) C0 Kx S (by omega) (by omega) hl d_law_577 d_law_578 d_law_579 d_law_580 d_law_581 ?_
  refine lw_callV (as := [.int (xs (i + 1)), .int (xs (i + 2))]) (rest := []) (a := 0) C0 Kx Rl S (by decide : 98 < 180) rfl (Sk.T 0) lw_l70 rfl rfl (by decide) hl.1 (Nat.le_of_ble_eq_true rfl) d_law_582 run1 ⟨by omega, by omega⟩ (fun H1 locs1 R1 S1 => ?_)
  refine lv_aload_n hx hb d_law_585 rfl (lv_at hl 2 rfl) ?_
  refine lw_ld (j := 1) C0 Kx S1 (by omega) (by omega) hl d_law_586 d_law_587 d_law_588 d_law_589 d_law_590 ?_
  refine lw_ld (j := 2) C0 Kx S1 (by omega) (by omega) hl d_law_591 d_law_592 d_law_593 d_law_594 d_law_595 ?_
  refine lw_callV (as := [.int (xs (i + 1)), .int (xs (i + 2))]) (rest := [.int v]) (a := 35) C0 Kx R1 S1 (by decide : 165 < 180) rfl ((o1.2 35 (by omega)).trans (Sk.T 35)) lw_l74 rfl rfl (by decide) hl.1 (Nat.le_of_ble_eq_true rfl) d_law_596 run2 ⟨by omega, by omega⟩ (fun H2 locs2 R2 S2 => ?_)
  refine lv_icmp_eq (tgt := 885) hx hb d_law_599 (by decide) (fun _ => ?_) (fun c => absurd rfl c)
  exact kk h2 H2 locs2 R2 S2 I2 z2 zk2
theorem lw_c14 (C0 : lw_At p s m meth c b L xs) (Kx : lw_K b0 D cA ad s) (hi : i + 6 ≤ L) (hL : L ≤ 3072) (Rl : pm_Rel b0 D cA h H) (S : va_S (pm_A b0) s.heap H locs) (I : INV h) (hz : zn h + 200 ≤ 600000 ∧ zk h + 14000 ≤ 7302250) (hl : lv_has ls 4 (lw_lv b b0 i)) (kk : ∀ (h2 : pm_H) (H1 : Heap) (locs1 : List Loc), pm_Rel b0 D cA h2 H1 → va_S (pm_A b0) s.heap H1 locs1 → INV h2 → zn h2 ≤ zn h + 200 → zk h2 ≤ zk h + 14000 → W p l e room_1 s m #[Value.ref b] below meth c H1 locs1 (zn h2) (zk h2) Q (F0 m 885 ls [])) : W p l e room_1 s m #[Value.ref b] below meth c H locs (zn h) (zk h) Q (F0 m 604 ls []) := by
  have P := p_yarn (x1 := xs (i + 1)) (x2 := xs (i + 2)) I
  unfold PAIR at P
  obtain ⟨r1, h1, run1, r2, h2, run2, er, I2, ⟨v, ev⟩, z2, zk2⟩ := P
  subst er
  subst ev
  have o1 := pm_run_Z run1
  have o2 := pm_run_Z run2
  have q1 := (pm_run_P run1).1
  have q2 := (pm_run_P run2).1
  have Sk := I.1
  have z76 := Sk.2.2.2
  obtain ⟨hx, hb, hr, hml, hown, hts, hX, hbl, hlocks, hgv⟩ := id C0
  refine lv_aload_n hx hb d_law_604 rfl (lv_at hl 1 rfl) ?_
  refine lw_ld (j := 1) C0 Kx S (by omega) (by omega) hl d_law_605 d_law_606 d_law_607 d_law_608 d_law_609 ?_
  refine lw_ld (j := 2) C0 Kx S (by omega) (by omega) hl d_law_610 d_law_611 d_law_612 d_law_613 d_law_614 ?_
  refine lw_callV (as := [.int (xs (i + 1)), .int (xs (i + 2))]) (rest := []) (a := 0) C0 Kx Rl S (by decide : 99 < 180) rfl (Sk.T 0) lw_l75 rfl rfl (by decide) hl.1 (Nat.le_of_ble_eq_true rfl) d_law_615 run1 ⟨by omega, by omega⟩ (fun H1 locs1 R1 S1 => ?_)
  refine lv_aload_n hx hb d_law_618 rfl (lv_at hl 2 rfl) ?_
  refine lw_ld (j := 1) C0 Kx S1 (by omega) (by omega) hl d_law_619 d_law_620 d_law_621 d_law_622 d_law_623 ?_
  refine lw_ld (j := 2) C0 Kx S1 (by omega) (by omega) hl d_law_624 d_law_625 d_law_626 d_law_627 d_law_628 ?_
  refine lw_callV (as := [.int (xs (i + 1)), .int (xs (i + 2))]) (rest := [.int v]) (a := 35) C0 Kx R1 S1 (by decide : 168 < 180) rfl ((o1.2 35 (by omega)).trans (Sk.T 35)) lw_l78 rfl rfl (by decide) hl.1 (Nat.le_of_ble_eq_true rfl) d_law_629 run2 ⟨by omega, by omega⟩ (fun H2 locs2 R2 S2 => ?_)
  refine lv_icmp_eq (tgt := 885) hx hb d_law_632 (by decide) (fun _ => ?_) (fun c => absurd rfl c)
  exact kk h2 H2 locs2 R2 S2 I2 z2 zk2
theorem lw_c15 (C0 : lw_At p s m meth c b L xs) (Kx : lw_K b0 D cA ad s) (hi : i + 6 ≤ L) (hL : L ≤ 3072) (Rl : pm_Rel b0 D cA h H) (S : va_S (pm_A b0) s.heap H locs) (I : INV h) (hz : zn h + 200 ≤ 600000 ∧ zk h + 14000 ≤ 7302250) (hl : lv_has ls 4 (lw_lv b b0 i)) (kk : ∀ (h2 : pm_H) (H1 : Heap) (locs1 : List Loc), pm_Rel b0 D cA h2 H1 → va_S (pm_A b0) s.heap H1 locs1 → INV h2 → zn h2 ≤ zn h + 200 → zk h2 ≤ zk h + 14000 → W p l e room_1 s m #[Value.ref b] below meth c H1 locs1 (zn h2) (zk h2) Q (F0 m 885 ls [])) : W p l e room_1 s m #[Value.ref b] below meth c H locs (zn h) (zk h) Q (F0 m 637 ls []) := by
  have P := p_lot (x1 := xs (i + 1)) (x2 := xs (i + 2)) I
  unfold PAIR at P
  obtain ⟨r1, h1, run1, r2, h2, run2, er, I2, ⟨v, ev⟩, z2, zk2⟩ := P
  subst er
  subst ev
  have o1 := pm_run_Z run1
  have o2 := pm_run_Z run2
  have q1 := (pm_run_P run1).1
  have q2 := (pm_run_P run2).1
  have Sk := I.1
  have z76 := Sk.2.2.2
  obtain ⟨hx, hb, hr, hml, hown, hts, hX, hbl, hlocks, hgv⟩ := id C0
  refine lv_aload_n hx hb d_law_637 rfl (lv_at hl 1 rfl) ?_
  refine lw_ld (j := 1) C0 Kx S (by omega) (by omega) hl d_law_638 d_law_639 d_law_640 d_law_641 d_law_642 ?_
  refine lw_ld (j := 2) C0 Kx S (by omega) (by omega) hl d_law_643 d_law_644 d_law_645 d_law_646 d_law_647 ?_
  refine lw_callV (as := [.int (xs (i + 1)), .int (xs (i + 2))]) (rest := []) (a := 0) C0 Kx Rl S (by decide : 100 < 180) rfl (Sk.T 0) lw_l79 rfl rfl (by decide) hl.1 (Nat.le_of_ble_eq_true rfl) d_law_648 run1 ⟨by omega, by omega⟩ (fun H1 locs1 R1 S1 => ?_)
  refine lv_aload_n hx hb d_law_651 rfl (lv_at hl 2 rfl) ?_
  refine lw_ld (j := 1) C0 Kx S1 (by omega) (by omega) hl d_law_652 d_law_653 d_law_654 d_law_655 d_law_656 ?_
  refine lw_ld (j := 2) C0 Kx S1 (by omega) (by omega) hl d_law_657 d_law_658 d_law_659 d_law_660 d_law_661 ?_
  refine lw_callV (as := [.int (xs (i + 1)), .int (xs (i + 2))]) (rest := [.int v]) (a := 35) C0 Kx R1 S1 (by decide : 170 < 180) rfl ((o1.2 35 (by omega)).trans (Sk.T 35)) lw_l82 rfl rfl (by decide) hl.1 (Nat.le_of_ble_eq_true rfl) d_law_662 run2 ⟨by omega, by omega⟩ (fun H2 locs2 R2 S2 => ?_)
  refine lv_icmp_eq (tgt := 885) hx hb d_law_665 (by decide) (fun _ => ?_) (fun c => absurd rfl c)
  exact kk h2 H2 locs2 R2 S2 I2 z2 zk2
theorem lw_c16 (C0 : lw_At p s m meth c b L xs) (Kx : lw_K b0 D cA ad s) (hi : i + 6 ≤ L) (hL : L ≤ 3072) (Rl : pm_Rel b0 D cA h H) (S : va_S (pm_A b0) s.heap H locs) (I : INV h) (hz : zn h + 200 ≤ 600000 ∧ zk h + 14000 ≤ 7302250) (hl : lv_has ls 4 (lw_lv b b0 i)) (kk : ∀ (h2 : pm_H) (H1 : Heap) (locs1 : List Loc), pm_Rel b0 D cA h2 H1 → va_S (pm_A b0) s.heap H1 locs1 → INV h2 → zn h2 ≤ zn h + 200 → zk h2 ≤ zk h + 14000 → W p l e room_1 s m #[Value.ref b] below meth c H1 locs1 (zn h2) (zk h2) Q (F0 m 885 ls [])) : W p l e room_1 s m #[Value.ref b] below meth c H locs (zn h) (zk h) Q (F0 m 670 ls []) := by
  have P := p_stock (x1 := xs (i + 1)) (x2 := xs (i + 2)) I
  unfold PAIR at P
  obtain ⟨r1, h1, run1, r2, h2, run2, er, I2, ⟨v, ev⟩, z2, zk2⟩ := P
  subst er
  subst ev
  have o1 := pm_run_Z run1
  have o2 := pm_run_Z run2
  have q1 := (pm_run_P run1).1
  have q2 := (pm_run_P run2).1
  have Sk := I.1
  have z76 := Sk.2.2.2
  obtain ⟨hx, hb, hr, hml, hown, hts, hX, hbl, hlocks, hgv⟩ := id C0
  refine lv_aload_n hx hb d_law_670 rfl (lv_at hl 1 rfl) ?_
  refine lw_ld (j := 1) C0 Kx S (by omega) (by omega) hl d_law_671 d_law_672 d_law_673 d_law_674 d_law_675 ?_
  refine lw_ld (j := 2) C0 Kx S (by omega) (by omega) hl d_law_676 d_law_677 d_law_678 d_law_679 d_law_680 ?_
  refine lw_callV (as := [.int (xs (i + 1)), .int (xs (i + 2))]) (rest := []) (a := 0) C0 Kx Rl S (by decide : 101 < 180) rfl (Sk.T 0) lw_l83 rfl rfl (by decide) hl.1 (Nat.le_of_ble_eq_true rfl) d_law_681 run1 ⟨by omega, by omega⟩ (fun H1 locs1 R1 S1 => ?_)
  refine lv_aload_n hx hb d_law_684 rfl (lv_at hl 2 rfl) ?_
  refine lw_ld (j := 1) C0 Kx S1 (by omega) (by omega) hl d_law_685 d_law_686 d_law_687 d_law_688 d_law_689 ?_
  refine lw_ld (j := 2) C0 Kx S1 (by omega) (by omega) hl d_law_690 d_law_691 d_law_692 d_law_693 d_law_694 ?_
  refine lw_callV (as := [.int (xs (i + 1)), .int (xs (i + 2))]) (rest := [.int v]) (a := 35) C0 Kx R1 S1 (by decide : 171 < 180) rfl ((o1.2 35 (by omega)).trans (Sk.T 35)) lw_l86 rfl rfl (by decide) hl.1 (Nat.le_of_ble_eq_true rfl) d_law_695 run2 ⟨by omega, by omega⟩ (fun H2 locs2 R2 S2 => ?_)
  refine lv_icmp_eq (tgt := 885) hx hb d_law_698 (by decide) (fun _ => ?_) (fun c => absurd rfl c)
  exact kk h2 H2 locs2 R2 S2 I2 z2 zk2
theorem lw_c17 (C0 : lw_At p s m meth c b L xs) (Kx : lw_K b0 D cA ad s) (hi : i + 6 ≤ L) (hL : L ≤ 3072) (Rl : pm_Rel b0 D cA h H) (S : va_S (pm_A b0) s.heap H locs) (I : INV h) (hz : zn h + 200 ≤ 600000 ∧ zk h + 14000 ≤ 7302250) (hl : lv_has ls 4 (lw_lv b b0 i)) (kk : ∀ (h2 : pm_H) (H1 : Heap) (locs1 : List Loc), pm_Rel b0 D cA h2 H1 → va_S (pm_A b0) s.heap H1 locs1 → INV h2 → zn h2 ≤ zn h + 200 → zk h2 ≤ zk h + 14000 → W p l e room_1 s m #[Value.ref b] below meth c H1 locs1 (zn h2) (zk h2) Q (F0 m 885 ls [])) : W p l e room_1 s m #[Value.ref b] below meth c H locs (zn h) (zk h) Q (F0 m 703 ls []) := by
  have P := p_dye (x1 := xs (i + 1)) (x2 := xs (i + 2)) I
  unfold PAIR at P
  obtain ⟨r1, h1, run1, r2, h2, run2, er, I2, ⟨v, ev⟩, z2, zk2⟩ := P
  subst er
  subst ev
  have o1 := pm_run_Z run1
  have o2 := pm_run_Z run2
  have q1 := (pm_run_P run1).1
  have q2 := (pm_run_P run2).1
  have Sk := I.1
  have z76 := Sk.2.2.2
  obtain ⟨hx, hb, hr, hml, hown, hts, hX, hbl, hlocks, hgv⟩ := id C0
  refine lv_aload_n hx hb d_law_703 rfl (lv_at hl 1 rfl) ?_
  refine lw_ld (j := 1) C0 Kx S (by omega) (by omega) hl d_law_704 d_law_705 d_law_706 d_law_707 d_law_708 ?_
  refine lw_ld (j := 2) C0 Kx S (by omega) (by omega) hl d_law_709 d_law_710 d_law_711 d_law_712 d_law_713 ?_
  refine lw_callV (as := [.int (xs (i + 1)), .int (xs (i + 2))]) (rest := []) (a := 0) C0 Kx Rl S (by decide : 102 < 180) rfl (Sk.T 0) lw_l87 rfl rfl (by decide) hl.1 (Nat.le_of_ble_eq_true rfl) d_law_714 run1 ⟨by omega, by omega⟩ (fun H1 locs1 R1 S1 => ?_)
  refine lv_aload_n hx hb d_law_717 rfl (lv_at hl 2 rfl) ?_
  refine lw_ld (j := 1) C0 Kx S1 (by omega) (by omega) hl d_law_718 d_law_719 d_law_720 d_law_721 d_law_722 ?_
  refine lw_ld (j := 2) C0 Kx S1 (by omega) (by omega) hl d_law_723 d_law_724 d_law_725 d_law_726 d_law_727 ?_
  refine lw_callV (as := [.int (xs (i + 1)), .int (xs (i + 2))]) (rest := [.int v]) (a := 35) C0 Kx R1 S1 (by decide : 173 < 180) rfl ((o1.2 35 (by omega)).trans (Sk.T 35)) lw_l90 rfl rfl (by decide) hl.1 (Nat.le_of_ble_eq_true rfl) d_law_728 run2 ⟨by omega, by omega⟩ (fun H2 locs2 R2 S2 => ?_)
  refine lv_icmp_eq (tgt := 885) hx hb d_law_731 (by decide) (fun _ => ?_) (fun c => absurd rfl c)
  exact kk h2 H2 locs2 R2 S2 I2 z2 zk2
theorem lw_c18 (C0 : lw_At p s m meth c b L xs) (Kx : lw_K b0 D cA ad s) (hi : i + 6 ≤ L) (hL : L ≤ 3072) (Rl : pm_Rel b0 D cA h H) (S : va_S (pm_A b0) s.heap H locs) (I : INV h) (hz : zn h + 200 ≤ 600000 ∧ zk h + 14000 ≤ 7302250) (hl : lv_has ls 4 (lw_lv b b0 i)) (kk : ∀ (h2 : pm_H) (H1 : Heap) (locs1 : List Loc), pm_Rel b0 D cA h2 H1 → va_S (pm_A b0) s.heap H1 locs1 → INV h2 → zn h2 ≤ zn h + 200 → zk h2 ≤ zk h + 14000 → W p l e room_1 s m #[Value.ref b] below meth c H1 locs1 (zn h2) (zk h2) Q (F0 m 885 ls [])) : W p l e room_1 s m #[Value.ref b] below meth c H locs (zn h) (zk h) Q (F0 m 736 ls []) := by
  have P := p_far (x1 := xs (i + 1)) (x2 := xs (i + 2)) I
  unfold PAIR at P
  obtain ⟨r1, h1, run1, r2, h2, run2, er, I2, ⟨v, ev⟩, z2, zk2⟩ := P
  subst er
  subst ev
  have o1 := pm_run_Z run1
  have o2 := pm_run_Z run2
  have q1 := (pm_run_P run1).1
  have q2 := (pm_run_P run2).1
  have Sk := I.1
  have z76 := Sk.2.2.2
  obtain ⟨hx, hb, hr, hml, hown, hts, hX, hbl, hlocks, hgv⟩ := id C0
  refine lv_aload_n hx hb d_law_736 rfl (lv_at hl 1 rfl) ?_
  refine lw_ld (j := 1) C0 Kx S (by omega) (by omega) hl d_law_737 d_law_738 d_law_739 d_law_740 d_law_741 ?_
  refine lw_ld (j := 2) C0 Kx S (by omega) (by omega) hl d_law_742 d_law_743 d_law_744 d_law_745 d_law_746 ?_
  refine lw_callV (as := [.int (xs (i + 1)), .int (xs (i + 2))]) (rest := []) (a := 0) C0 Kx Rl S (by decide : 103 < 180) rfl (Sk.T 0) lw_l91 rfl rfl (by decide) hl.1 (Nat.le_of_ble_eq_true rfl) d_law_747 run1 ⟨by omega, by omega⟩ (fun H1 locs1 R1 S1 => ?_)
  refine lv_aload_n hx hb d_law_750 rfl (lv_at hl 2 rfl) ?_
  refine lw_ld (j := 1) C0 Kx S1 (by omega) (by omega) hl d_law_751 d_law_752 d_law_753 d_law_754 d_law_755 ?_
  refine lw_ld (j := 2) C0 Kx S1 (by omega) (by omega) hl d_law_756 d_law_757 d_law_758 d_law_759 d_law_760 ?_
  refine lw_callV (as := [.int (xs (i + 1)), .int (xs (i + 2))]) (rest := [.int v]) (a := 35) C0 Kx R1 S1 (by decide : 174 < 180) rfl ((o1.2 35 (by omega)).trans (Sk.T 35)) lw_l94 rfl rfl (by decide) hl.1 (Nat.le_of_ble_eq_true rfl) d_law_761 run2 ⟨by omega, by omega⟩ (fun H2 locs2 R2 S2 => ?_)
  refine lv_icmp_eq (tgt := 885) hx hb d_law_764 (by decide) (fun _ => ?_) (fun c => absurd rfl c)
  exact kk h2 H2 locs2 R2 S2 I2 z2 zk2
theorem lw_c19 (C0 : lw_At p s m meth c b L xs) (Kx : lw_K b0 D cA ad s) (hi : i + 6 ≤ L) (hL : L ≤ 3072) (Rl : pm_Rel b0 D cA h H) (S : va_S (pm_A b0) s.heap H locs) (I : INV h) (hz : zn h + 200 ≤ 600000 ∧ zk h + 14000 ≤ 7302250) (hl : lv_has ls 4 (lw_lv b b0 i)) (kk : ∀ (h2 : pm_H) (H1 : Heap) (locs1 : List Loc), pm_Rel b0 D cA h2 H1 → va_S (pm_A b0) s.heap H1 locs1 → INV h2 → zn h2 ≤ zn h + 200 → zk h2 ≤ zk h + 14000 → W p l e room_1 s m #[Value.ref b] below meth c H1 locs1 (zn h2) (zk h2) Q (F0 m 885 ls [])) : W p l e room_1 s m #[Value.ref b] below meth c H locs (zn h) (zk h) Q (F0 m 769 ls []) := by
  have P := p_right (x1 := xs (i + 1)) (x2 := xs (i + 2)) (x3 := xs (i + 3)) (x4 := xs (i + 4)) (x5 := xs (i + 5)) I
  unfold PAIR at P
  obtain ⟨r1, h1, run1, r2, h2, run2, er, I2, ⟨v, ev⟩, z2, zk2⟩ := P
  subst er
  subst ev
  have o1 := pm_run_Z run1
  have o2 := pm_run_Z run2
  have q1 := (pm_run_P run1).1
  have q2 := (pm_run_P run2).1
  have Sk := I.1
  have z76 := Sk.2.2.2
  obtain ⟨hx, hb, hr, hml, hown, hts, hX, hbl, hlocks, hgv⟩ := id C0
  refine lv_aload_n hx hb d_law_769 rfl (lv_at hl 1 rfl) ?_
  refine lw_ld (j := 1) C0 Kx S (by omega) (by omega) hl d_law_770 d_law_771 d_law_772 d_law_773 d_law_774 ?_
  refine lw_ld (j := 2) C0 Kx S (by omega) (by omega) hl d_law_775 d_law_776 d_law_777 d_law_778 d_law_779 ?_
  refine lw_ld (j := 3) C0 Kx S (by omega) (by omega) hl d_law_780 d_law_781 d_law_782 d_law_783 d_law_784 ?_
  refine lw_ld (j := 4) C0 Kx S (by omega) (by omega) hl d_law_785 d_law_786 d_law_787 d_law_788 d_law_789 ?_
  refine lw_ld (j := 5) C0 Kx S (by omega) (by omega) hl d_law_790 d_law_791 d_law_792 d_law_793 d_law_794 ?_
  refine lw_callV (as := [.int (xs (i + 1)), .int (xs (i + 2)), .int (xs (i + 3)), .int (xs (i + 4)), .int (xs (i + 5))]) (rest := []) (a := 0) C0 Kx Rl S (by decide : 104 < 180) rfl (Sk.T 0) lw_l95 rfl rfl (by decide) hl.1 (Nat.le_of_ble_eq_true rfl) d_law_795 run1 ⟨by omega, by omega⟩ (fun H1 locs1 R1 S1 => ?_)
  refine lv_aload_n hx hb d_law_798 rfl (lv_at hl 2 rfl) ?_
  refine lw_ld (j := 1) C0 Kx S1 (by omega) (by omega) hl d_law_799 d_law_800 d_law_801 d_law_802 d_law_803 ?_
  refine lw_ld (j := 2) C0 Kx S1 (by omega) (by omega) hl d_law_804 d_law_805 d_law_806 d_law_807 d_law_808 ?_
  refine lw_ld (j := 3) C0 Kx S1 (by omega) (by omega) hl d_law_809 d_law_810 d_law_811 d_law_812 d_law_813 ?_
  refine lw_ld (j := 4) C0 Kx S1 (by omega) (by omega) hl d_law_814 d_law_815 d_law_816 d_law_817 d_law_818 ?_
  refine lw_ld (j := 5) C0 Kx S1 (by omega) (by omega) hl d_law_819 d_law_820 d_law_821 d_law_822 d_law_823 ?_
  refine lw_callV (as := [.int (xs (i + 1)), .int (xs (i + 2)), .int (xs (i + 3)), .int (xs (i + 4)), .int (xs (i + 5))]) (rest := [.int v]) (a := 35) C0 Kx R1 S1 (by decide : 176 < 180) rfl ((o1.2 35 (by omega)).trans (Sk.T 35)) lw_l99 rfl rfl (by decide) hl.1 (Nat.le_of_ble_eq_true rfl) d_law_824 run2 ⟨by omega, by omega⟩ (fun H2 locs2 R2 S2 => ?_)
  refine lv_icmp_eq (tgt := 885) hx hb d_law_827 (by decide) (fun _ => ?_) (fun c => absurd rfl c)
  exact kk h2 H2 locs2 R2 S2 I2 z2 zk2
theorem lw_c20 (C0 : lw_At p s m meth c b L xs) (Kx : lw_K b0 D cA ad s) (hi : i + 6 ≤ L) (hL : L ≤ 3072) (Rl : pm_Rel b0 D cA h H) (S : va_S (pm_A b0) s.heap H locs) (I : INV h) (hz : zn h + 200 ≤ 600000 ∧ zk h + 14000 ≤ 7302250) (hl : lv_has ls 4 (lw_lv b b0 i)) (kk : ∀ (h2 : pm_H) (H1 : Heap) (locs1 : List Loc), pm_Rel b0 D cA h2 H1 → va_S (pm_A b0) s.heap H1 locs1 → INV h2 → zn h2 ≤ zn h + 200 → zk h2 ≤ zk h + 14000 → W p l e room_1 s m #[Value.ref b] below meth c H1 locs1 (zn h2) (zk h2) Q (F0 m 885 ls [])) : W p l e room_1 s m #[Value.ref b] below meth c H locs (zn h) (zk h) Q (F0 m 832 ls []) := by
  have P := p_may (x1 := xs (i + 1)) (x2 := xs (i + 2)) (x3 := xs (i + 3)) (x4 := xs (i + 4)) I
  unfold PAIR at P
  obtain ⟨r1, h1, run1, r2, h2, run2, er, I2, ⟨v, ev⟩, z2, zk2⟩ := P
  subst er
  subst ev
  have o1 := pm_run_Z run1
  have o2 := pm_run_Z run2
  have q1 := (pm_run_P run1).1
  have q2 := (pm_run_P run2).1
  have Sk := I.1
  have z76 := Sk.2.2.2
  obtain ⟨hx, hb, hr, hml, hown, hts, hX, hbl, hlocks, hgv⟩ := id C0
  refine lv_aload_n hx hb d_law_832 rfl (lv_at hl 1 rfl) ?_
  refine lw_ld (j := 1) C0 Kx S (by omega) (by omega) hl d_law_833 d_law_834 d_law_835 d_law_836 d_law_837 ?_
  refine lw_ld (j := 2) C0 Kx S (by omega) (by omega) hl d_law_838 d_law_839 d_law_840 d_law_841 d_law_842 ?_
  refine lw_ld (j := 3) C0 Kx S (by omega) (by omega) hl d_law_843 d_law_844 d_law_845 d_law_846 d_law_847 ?_
  refine lw_ld (j := 4) C0 Kx S (by omega) (by omega) hl d_law_848 d_law_849 d_law_850 d_law_851 d_law_852 ?_
  refine lw_callV (as := [.int (xs (i + 1)), .int (xs (i + 2)), .int (xs (i + 3)), .int (xs (i + 4))]) (rest := []) (a := 0) C0 Kx Rl S (by decide : 105 < 180) rfl (Sk.T 0) lw_l100 rfl rfl (by decide) hl.1 (Nat.le_of_ble_eq_true rfl) d_law_853 run1 ⟨by omega, by omega⟩ (fun H1 locs1 R1 S1 => ?_)
  refine lv_aload_n hx hb d_law_856 rfl (lv_at hl 2 rfl) ?_
  refine lw_ld (j := 1) C0 Kx S1 (by omega) (by omega) hl d_law_857 d_law_858 d_law_859 d_law_860 d_law_861 ?_
  refine lw_ld (j := 2) C0 Kx S1 (by omega) (by omega) hl d_law_862 d_law_863 d_law_864 d_law_865 d_law_866 ?_
  refine lw_ld (j := 3) C0 Kx S1 (by omega) (by omega) hl d_law_867 d_law_868 d_law_869 d_law_870 d_law_871 ?_
  refine lw_ld (j := 4) C0 Kx S1 (by omega) (by omega) hl d_law_872 d_law_873 d_law_874 d_law_875 d_law_876 ?_
  refine lw_callV (as := [.int (xs (i + 1)), .int (xs (i + 2)), .int (xs (i + 3)), .int (xs (i + 4))]) (rest := [.int v]) (a := 35) C0 Kx R1 S1 (by decide : 177 < 180) rfl ((o1.2 35 (by omega)).trans (Sk.T 35)) lw_l104 rfl rfl (by decide) hl.1 (Nat.le_of_ble_eq_true rfl) d_law_877 run2 ⟨by omega, by omega⟩ (fun H2 locs2 R2 S2 => ?_)
  refine lv_icmp_eq (tgt := 885) hx hb d_law_880 (by decide) (fun _ => ?_) (fun c => absurd rfl c)
  exact kk h2 H2 locs2 R2 S2 I2 z2 zk2
end LAW
