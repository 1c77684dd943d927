theorem d_LW_law_0 : decode code 0 = .ok (.new 7, 3) := by decide +kernel
theorem d_LW_law_3 : decode code 3 = .ok (.dup, 1) := by decide +kernel
theorem d_LW_law_4 : decode code 4 = .ok (.invokespecial 9, 3) := by decide +kernel
theorem d_LW_law_7 : decode code 7 = .ok (.astore_n 1, 1) := by decide +kernel
theorem d_LW_law_8 : decode code 8 = .ok (.new 10, 3) := by decide +kernel
theorem d_LW_law_11 : decode code 11 = .ok (.dup, 1) := by decide +kernel
theorem d_LW_law_12 : decode code 12 = .ok (.invokespecial 12, 3) := by decide +kernel
theorem d_LW_law_15 : decode code 15 = .ok (.astore_n 2, 1) := by decide +kernel
theorem d_LW_law_16 : decode code 16 = .ok (.iconst 0, 1) := by decide +kernel
theorem d_LW_law_17 : decode code 17 = .ok (.istore_n 3, 1) := by decide +kernel
theorem d_LW_law_18 : decode code 18 = .ok (.iload_n 3, 1) := by decide +kernel
theorem d_LW_law_19 : decode code 19 = .ok (.aload_n 0, 1) := by decide +kernel
theorem d_LW_law_20 : decode code 20 = .ok (.arraylength, 1) := by decide +kernel
theorem d_LW_law_21 : decode code 21 = .ok (.iconst 3, 1) := by decide +kernel
theorem d_LW_law_22 : decode code 22 = .ok (.isub, 1) := by decide +kernel
theorem d_LW_law_23 : decode code 23 = .ok (.if_icmp .gt 518, 3) := by decide +kernel
theorem d_LW_law_26 : decode code 26 = .ok (.aload_n 0, 1) := by decide +kernel
theorem d_LW_law_27 : decode code 27 = .ok (.iload_n 3, 1) := by decide +kernel
theorem d_LW_law_28 : decode code 28 = .ok (.iaload, 1) := by decide +kernel
theorem d_LW_law_29 : decode code 29 = .ok (.bipush 31, 2) := by decide +kernel
theorem d_LW_law_31 : decode code 31 = .ok (.iand, 1) := by decide +kernel
theorem d_LW_law_32 : decode code 32 = .ok (.tableswitch 503 0 17 #[88, 111, 134, 157, 180, 193, 216, 239, 272, 305, 318, 341, 364, 387, 410, 433, 457, 490], 88) := by decide +kernel
theorem d_LW_law_120 : decode code 120 = .ok (.aload_n 1, 1) := by decide +kernel
theorem d_LW_law_121 : decode code 121 = .ok (.aload_n 0, 1) := by decide +kernel
theorem d_LW_law_122 : decode code 122 = .ok (.iload_n 3, 1) := by decide +kernel
theorem d_LW_law_123 : decode code 123 = .ok (.iconst 1, 1) := by decide +kernel
theorem d_LW_law_124 : decode code 124 = .ok (.iadd, 1) := by decide +kernel
theorem d_LW_law_125 : decode code 125 = .ok (.iaload, 1) := by decide +kernel
theorem d_LW_law_126 : decode code 126 = .ok (.invokevirtual 13, 3) := by decide +kernel
theorem d_LW_law_129 : decode code 129 = .ok (.aload_n 2, 1) := by decide +kernel
theorem d_LW_law_130 : decode code 130 = .ok (.aload_n 0, 1) := by decide +kernel
theorem d_LW_law_131 : decode code 131 = .ok (.iload_n 3, 1) := by decide +kernel
theorem d_LW_law_132 : decode code 132 = .ok (.iconst 1, 1) := by decide +kernel
theorem d_LW_law_133 : decode code 133 = .ok (.iadd, 1) := by decide +kernel
theorem d_LW_law_134 : decode code 134 = .ok (.iaload, 1) := by decide +kernel
theorem d_LW_law_135 : decode code 135 = .ok (.invokevirtual 17, 3) := by decide +kernel
theorem d_LW_law_138 : decode code 138 = .ok (.if_icmp .eq 397, 3) := by decide +kernel
theorem d_LW_law_141 : decode code 141 = .ok (.iconst 0, 1) := by decide +kernel
theorem d_LW_law_142 : decode code 142 = .ok (.ireturn, 1) := by decide +kernel
theorem d_LW_law_143 : decode code 143 = .ok (.aload_n 1, 1) := by decide +kernel
theorem d_LW_law_144 : decode code 144 = .ok (.aload_n 0, 1) := by decide +kernel
theorem d_LW_law_145 : decode code 145 = .ok (.iload_n 3, 1) := by decide +kernel
theorem d_LW_law_146 : decode code 146 = .ok (.iconst 1, 1) := by decide +kernel
theorem d_LW_law_147 : decode code 147 = .ok (.iadd, 1) := by decide +kernel
theorem d_LW_law_148 : decode code 148 = .ok (.iaload, 1) := by decide +kernel
theorem d_LW_law_149 : decode code 149 = .ok (.invokevirtual 18, 3) := by decide +kernel
theorem d_LW_law_152 : decode code 152 = .ok (.aload_n 2, 1) := by decide +kernel
theorem d_LW_law_153 : decode code 153 = .ok (.aload_n 0, 1) := by decide +kernel
theorem d_LW_law_154 : decode code 154 = .ok (.iload_n 3, 1) := by decide +kernel
theorem d_LW_law_155 : decode code 155 = .ok (.iconst 1, 1) := by decide +kernel
theorem d_LW_law_156 : decode code 156 = .ok (.iadd, 1) := by decide +kernel
theorem d_LW_law_157 : decode code 157 = .ok (.iaload, 1) := by decide +kernel
theorem d_LW_law_158 : decode code 158 = .ok (.invokevirtual 21, 3) := by decide +kernel
theorem d_LW_law_161 : decode code 161 = .ok (.if_icmp .eq 374, 3) := by decide +kernel
theorem d_LW_law_164 : decode code 164 = .ok (.iconst 0, 1) := by decide +kernel
theorem d_LW_law_165 : decode code 165 = .ok (.ireturn, 1) := by decide +kernel
theorem d_LW_law_166 : decode code 166 = .ok (.aload_n 1, 1) := by decide +kernel
theorem d_LW_law_167 : decode code 167 = .ok (.aload_n 0, 1) := by decide +kernel
theorem d_LW_law_168 : decode code 168 = .ok (.iload_n 3, 1) := by decide +kernel
theorem d_LW_law_169 : decode code 169 = .ok (.iconst 1, 1) := by decide +kernel
theorem d_LW_law_170 : decode code 170 = .ok (.iadd, 1) := by decide +kernel
theorem d_LW_law_171 : decode code 171 = .ok (.iaload, 1) := by decide +kernel
theorem d_LW_law_172 : decode code 172 = .ok (.invokevirtual 22, 3) := by decide +kernel
theorem d_LW_law_175 : decode code 175 = .ok (.aload_n 2, 1) := by decide +kernel
theorem d_LW_law_176 : decode code 176 = .ok (.aload_n 0, 1) := by decide +kernel
theorem d_LW_law_177 : decode code 177 = .ok (.iload_n 3, 1) := by decide +kernel
theorem d_LW_law_178 : decode code 178 = .ok (.iconst 1, 1) := by decide +kernel
theorem d_LW_law_179 : decode code 179 = .ok (.iadd, 1) := by decide +kernel
theorem d_LW_law_180 : decode code 180 = .ok (.iaload, 1) := by decide +kernel
theorem d_LW_law_181 : decode code 181 = .ok (.invokevirtual 25, 3) := by decide +kernel
theorem d_LW_law_184 : decode code 184 = .ok (.if_icmp .eq 351, 3) := by decide +kernel
theorem d_LW_law_187 : decode code 187 = .ok (.iconst 0, 1) := by decide +kernel
theorem d_LW_law_188 : decode code 188 = .ok (.ireturn, 1) := by decide +kernel
theorem d_LW_law_189 : decode code 189 = .ok (.aload_n 1, 1) := by decide +kernel
theorem d_LW_law_190 : decode code 190 = .ok (.aload_n 0, 1) := by decide +kernel
theorem d_LW_law_191 : decode code 191 = .ok (.iload_n 3, 1) := by decide +kernel
theorem d_LW_law_192 : decode code 192 = .ok (.iconst 1, 1) := by decide +kernel
theorem d_LW_law_193 : decode code 193 = .ok (.iadd, 1) := by decide +kernel
theorem d_LW_law_194 : decode code 194 = .ok (.iaload, 1) := by decide +kernel
theorem d_LW_law_195 : decode code 195 = .ok (.invokevirtual 26, 3) := by decide +kernel
theorem d_LW_law_198 : decode code 198 = .ok (.aload_n 2, 1) := by decide +kernel
theorem d_LW_law_199 : decode code 199 = .ok (.aload_n 0, 1) := by decide +kernel
theorem d_LW_law_200 : decode code 200 = .ok (.iload_n 3, 1) := by decide +kernel
theorem d_LW_law_201 : decode code 201 = .ok (.iconst 1, 1) := by decide +kernel
theorem d_LW_law_202 : decode code 202 = .ok (.iadd, 1) := by decide +kernel
theorem d_LW_law_203 : decode code 203 = .ok (.iaload, 1) := by decide +kernel
theorem d_LW_law_204 : decode code 204 = .ok (.invokevirtual 29, 3) := by decide +kernel
theorem d_LW_law_207 : decode code 207 = .ok (.if_icmp .eq 328, 3) := by decide +kernel
theorem d_LW_law_210 : decode code 210 = .ok (.iconst 0, 1) := by decide +kernel
theorem d_LW_law_211 : decode code 211 = .ok (.ireturn, 1) := by decide +kernel
theorem d_LW_law_212 : decode code 212 = .ok (.aload_n 1, 1) := by decide +kernel
theorem d_LW_law_213 : decode code 213 = .ok (.invokevirtual 30, 3) := by decide +kernel
theorem d_LW_law_216 : decode code 216 = .ok (.aload_n 2, 1) := by decide +kernel
theorem d_LW_law_217 : decode code 217 = .ok (.invokevirtual 34, 3) := by decide +kernel
theorem d_LW_law_220 : decode code 220 = .ok (.if_icmp .eq 315, 3) := by decide +kernel
theorem d_LW_law_223 : decode code 223 = .ok (.iconst 0, 1) := by decide +kernel
theorem d_LW_law_224 : decode code 224 = .ok (.ireturn, 1) := by decide +kernel
theorem d_LW_law_225 : decode code 225 = .ok (.aload_n 1, 1) := by decide +kernel
theorem d_LW_law_226 : decode code 226 = .ok (.aload_n 0, 1) := by decide +kernel
theorem d_LW_law_227 : decode code 227 = .ok (.iload_n 3, 1) := by decide +kernel
theorem d_LW_law_228 : decode code 228 = .ok (.iconst 1, 1) := by decide +kernel
theorem d_LW_law_229 : decode code 229 = .ok (.iadd, 1) := by decide +kernel
theorem d_LW_law_230 : decode code 230 = .ok (.iaload, 1) := by decide +kernel
theorem d_LW_law_231 : decode code 231 = .ok (.invokevirtual 35, 3) := by decide +kernel
theorem d_LW_law_234 : decode code 234 = .ok (.aload_n 2, 1) := by decide +kernel
theorem d_LW_law_235 : decode code 235 = .ok (.aload_n 0, 1) := by decide +kernel
theorem d_LW_law_236 : decode code 236 = .ok (.iload_n 3, 1) := by decide +kernel
theorem d_LW_law_237 : decode code 237 = .ok (.iconst 1, 1) := by decide +kernel
theorem d_LW_law_238 : decode code 238 = .ok (.iadd, 1) := by decide +kernel
theorem d_LW_law_239 : decode code 239 = .ok (.iaload, 1) := by decide +kernel
theorem d_LW_law_240 : decode code 240 = .ok (.invokevirtual 38, 3) := by decide +kernel
theorem d_LW_law_243 : decode code 243 = .ok (.if_icmp .eq 292, 3) := by decide +kernel
theorem d_LW_law_246 : decode code 246 = .ok (.iconst 0, 1) := by decide +kernel
theorem d_LW_law_247 : decode code 247 = .ok (.ireturn, 1) := by decide +kernel
theorem d_LW_law_248 : decode code 248 = .ok (.aload_n 1, 1) := by decide +kernel
theorem d_LW_law_249 : decode code 249 = .ok (.aload_n 0, 1) := by decide +kernel
theorem d_LW_law_250 : decode code 250 = .ok (.iload_n 3, 1) := by decide +kernel
theorem d_LW_law_251 : decode code 251 = .ok (.iconst 1, 1) := by decide +kernel
theorem d_LW_law_252 : decode code 252 = .ok (.iadd, 1) := by decide +kernel
theorem d_LW_law_253 : decode code 253 = .ok (.iaload, 1) := by decide +kernel
theorem d_LW_law_254 : decode code 254 = .ok (.invokevirtual 39, 3) := by decide +kernel
theorem d_LW_law_257 : decode code 257 = .ok (.aload_n 2, 1) := by decide +kernel
theorem d_LW_law_258 : decode code 258 = .ok (.aload_n 0, 1) := by decide +kernel
theorem d_LW_law_259 : decode code 259 = .ok (.iload_n 3, 1) := by decide +kernel
theorem d_LW_law_260 : decode code 260 = .ok (.iconst 1, 1) := by decide +kernel
theorem d_LW_law_261 : decode code 261 = .ok (.iadd, 1) := by decide +kernel
theorem d_LW_law_262 : decode code 262 = .ok (.iaload, 1) := by decide +kernel
theorem d_LW_law_263 : decode code 263 = .ok (.invokevirtual 42, 3) := by decide +kernel
theorem d_LW_law_266 : decode code 266 = .ok (.if_icmp .eq 269, 3) := by decide +kernel
theorem d_LW_law_269 : decode code 269 = .ok (.iconst 0, 1) := by decide +kernel
theorem d_LW_law_270 : decode code 270 = .ok (.ireturn, 1) := by decide +kernel
theorem d_LW_law_271 : decode code 271 = .ok (.aload_n 1, 1) := by decide +kernel
theorem d_LW_law_272 : decode code 272 = .ok (.aload_n 0, 1) := by decide +kernel
theorem d_LW_law_273 : decode code 273 = .ok (.iload_n 3, 1) := by decide +kernel
theorem d_LW_law_274 : decode code 274 = .ok (.iconst 1, 1) := by decide +kernel
theorem d_LW_law_275 : decode code 275 = .ok (.iadd, 1) := by decide +kernel
theorem d_LW_law_276 : decode code 276 = .ok (.iaload, 1) := by decide +kernel
theorem d_LW_law_277 : decode code 277 = .ok (.aload_n 0, 1) := by decide +kernel
theorem d_LW_law_278 : decode code 278 = .ok (.iload_n 3, 1) := by decide +kernel
theorem d_LW_law_279 : decode code 279 = .ok (.iconst 2, 1) := by decide +kernel
theorem d_LW_law_280 : decode code 280 = .ok (.iadd, 1) := by decide +kernel
theorem d_LW_law_281 : decode code 281 = .ok (.iaload, 1) := by decide +kernel
theorem d_LW_law_282 : decode code 282 = .ok (.invokevirtual 43, 3) := by decide +kernel
theorem d_LW_law_285 : decode code 285 = .ok (.aload_n 2, 1) := by decide +kernel
theorem d_LW_law_286 : decode code 286 = .ok (.aload_n 0, 1) := by decide +kernel
theorem d_LW_law_287 : decode code 287 = .ok (.iload_n 3, 1) := by decide +kernel
theorem d_LW_law_288 : decode code 288 = .ok (.iconst 1, 1) := by decide +kernel
theorem d_LW_law_289 : decode code 289 = .ok (.iadd, 1) := by decide +kernel
theorem d_LW_law_290 : decode code 290 = .ok (.iaload, 1) := by decide +kernel
theorem d_LW_law_291 : decode code 291 = .ok (.aload_n 0, 1) := by decide +kernel
theorem d_LW_law_292 : decode code 292 = .ok (.iload_n 3, 1) := by decide +kernel
theorem d_LW_law_293 : decode code 293 = .ok (.iconst 2, 1) := by decide +kernel
theorem d_LW_law_294 : decode code 294 = .ok (.iadd, 1) := by decide +kernel
theorem d_LW_law_295 : decode code 295 = .ok (.iaload, 1) := by decide +kernel
theorem d_LW_law_296 : decode code 296 = .ok (.invokevirtual 47, 3) := by decide +kernel
theorem d_LW_law_299 : decode code 299 = .ok (.if_icmp .eq 236, 3) := by decide +kernel
theorem d_LW_law_302 : decode code 302 = .ok (.iconst 0, 1) := by decide +kernel
theorem d_LW_law_303 : decode code 303 = .ok (.ireturn, 1) := by decide +kernel
theorem d_LW_law_304 : decode code 304 = .ok (.aload_n 1, 1) := by decide +kernel
theorem d_LW_law_305 : decode code 305 = .ok (.aload_n 0, 1) := by decide +kernel
theorem d_LW_law_306 : decode code 306 = .ok (.iload_n 3, 1) := by decide +kernel
theorem d_LW_law_307 : decode code 307 = .ok (.iconst 1, 1) := by decide +kernel
theorem d_LW_law_308 : decode code 308 = .ok (.iadd, 1) := by decide +kernel
theorem d_LW_law_309 : decode code 309 = .ok (.iaload, 1) := by decide +kernel
theorem d_LW_law_310 : decode code 310 = .ok (.aload_n 0, 1) := by decide +kernel
theorem d_LW_law_311 : decode code 311 = .ok (.iload_n 3, 1) := by decide +kernel
theorem d_LW_law_312 : decode code 312 = .ok (.iconst 2, 1) := by decide +kernel
theorem d_LW_law_313 : decode code 313 = .ok (.iadd, 1) := by decide +kernel
theorem d_LW_law_314 : decode code 314 = .ok (.iaload, 1) := by decide +kernel
theorem d_LW_law_315 : decode code 315 = .ok (.invokevirtual 48, 3) := by decide +kernel
theorem d_LW_law_318 : decode code 318 = .ok (.aload_n 2, 1) := by decide +kernel
theorem d_LW_law_319 : decode code 319 = .ok (.aload_n 0, 1) := by decide +kernel
theorem d_LW_law_320 : decode code 320 = .ok (.iload_n 3, 1) := by decide +kernel
theorem d_LW_law_321 : decode code 321 = .ok (.iconst 1, 1) := by decide +kernel
theorem d_LW_law_322 : decode code 322 = .ok (.iadd, 1) := by decide +kernel
theorem d_LW_law_323 : decode code 323 = .ok (.iaload, 1) := by decide +kernel
theorem d_LW_law_324 : decode code 324 = .ok (.aload_n 0, 1) := by decide +kernel
theorem d_LW_law_325 : decode code 325 = .ok (.iload_n 3, 1) := by decide +kernel
theorem d_LW_law_326 : decode code 326 = .ok (.iconst 2, 1) := by decide +kernel
theorem d_LW_law_327 : decode code 327 = .ok (.iadd, 1) := by decide +kernel
theorem d_LW_law_328 : decode code 328 = .ok (.iaload, 1) := by decide +kernel
theorem d_LW_law_329 : decode code 329 = .ok (.invokevirtual 51, 3) := by decide +kernel
theorem d_LW_law_332 : decode code 332 = .ok (.if_icmp .eq 203, 3) := by decide +kernel
theorem d_LW_law_335 : decode code 335 = .ok (.iconst 0, 1) := by decide +kernel
theorem d_LW_law_336 : decode code 336 = .ok (.ireturn, 1) := by decide +kernel
theorem d_LW_law_337 : decode code 337 = .ok (.aload_n 1, 1) := by decide +kernel
theorem d_LW_law_338 : decode code 338 = .ok (.invokevirtual 52, 3) := by decide +kernel
theorem d_LW_law_341 : decode code 341 = .ok (.aload_n 2, 1) := by decide +kernel
theorem d_LW_law_342 : decode code 342 = .ok (.invokevirtual 55, 3) := by decide +kernel
theorem d_LW_law_345 : decode code 345 = .ok (.if_icmp .eq 190, 3) := by decide +kernel
theorem d_LW_law_348 : decode code 348 = .ok (.iconst 0, 1) := by decide +kernel
theorem d_LW_law_349 : decode code 349 = .ok (.ireturn, 1) := by decide +kernel
theorem d_LW_law_350 : decode code 350 = .ok (.aload_n 1, 1) := by decide +kernel
theorem d_LW_law_351 : decode code 351 = .ok (.aload_n 0, 1) := by decide +kernel
theorem d_LW_law_352 : decode code 352 = .ok (.iload_n 3, 1) := by decide +kernel
theorem d_LW_law_353 : decode code 353 = .ok (.iconst 1, 1) := by decide +kernel
theorem d_LW_law_354 : decode code 354 = .ok (.iadd, 1) := by decide +kernel
theorem d_LW_law_355 : decode code 355 = .ok (.iaload, 1) := by decide +kernel
theorem d_LW_law_356 : decode code 356 = .ok (.invokevirtual 56, 3) := by decide +kernel
theorem d_LW_law_359 : decode code 359 = .ok (.aload_n 2, 1) := by decide +kernel
theorem d_LW_law_360 : decode code 360 = .ok (.aload_n 0, 1) := by decide +kernel
theorem d_LW_law_361 : decode code 361 = .ok (.iload_n 3, 1) := by decide +kernel
theorem d_LW_law_362 : decode code 362 = .ok (.iconst 1, 1) := by decide +kernel
theorem d_LW_law_363 : decode code 363 = .ok (.iadd, 1) := by decide +kernel
theorem d_LW_law_364 : decode code 364 = .ok (.iaload, 1) := by decide +kernel
theorem d_LW_law_365 : decode code 365 = .ok (.invokevirtual 59, 3) := by decide +kernel
theorem d_LW_law_368 : decode code 368 = .ok (.if_icmp .eq 167, 3) := by decide +kernel
theorem d_LW_law_371 : decode code 371 = .ok (.iconst 0, 1) := by decide +kernel
theorem d_LW_law_372 : decode code 372 = .ok (.ireturn, 1) := by decide +kernel
theorem d_LW_law_373 : decode code 373 = .ok (.aload_n 1, 1) := by decide +kernel
theorem d_LW_law_374 : decode code 374 = .ok (.aload_n 0, 1) := by decide +kernel
theorem d_LW_law_375 : decode code 375 = .ok (.iload_n 3, 1) := by decide +kernel
theorem d_LW_law_376 : decode code 376 = .ok (.iconst 1, 1) := by decide +kernel
theorem d_LW_law_377 : decode code 377 = .ok (.iadd, 1) := by decide +kernel
theorem d_LW_law_378 : decode code 378 = .ok (.iaload, 1) := by decide +kernel
theorem d_LW_law_379 : decode code 379 = .ok (.invokevirtual 60, 3) := by decide +kernel
theorem d_LW_law_382 : decode code 382 = .ok (.aload_n 2, 1) := by decide +kernel
theorem d_LW_law_383 : decode code 383 = .ok (.aload_n 0, 1) := by decide +kernel
theorem d_LW_law_384 : decode code 384 = .ok (.iload_n 3, 1) := by decide +kernel
theorem d_LW_law_385 : decode code 385 = .ok (.iconst 1, 1) := by decide +kernel
theorem d_LW_law_386 : decode code 386 = .ok (.iadd, 1) := by decide +kernel
theorem d_LW_law_387 : decode code 387 = .ok (.iaload, 1) := by decide +kernel
theorem d_LW_law_388 : decode code 388 = .ok (.invokevirtual 63, 3) := by decide +kernel
theorem d_LW_law_391 : decode code 391 = .ok (.if_icmp .eq 144, 3) := by decide +kernel
theorem d_LW_law_394 : decode code 394 = .ok (.iconst 0, 1) := by decide +kernel
theorem d_LW_law_395 : decode code 395 = .ok (.ireturn, 1) := by decide +kernel
theorem d_LW_law_396 : decode code 396 = .ok (.aload_n 1, 1) := by decide +kernel
theorem d_LW_law_397 : decode code 397 = .ok (.aload_n 0, 1) := by decide +kernel
theorem d_LW_law_398 : decode code 398 = .ok (.iload_n 3, 1) := by decide +kernel
theorem d_LW_law_399 : decode code 399 = .ok (.iconst 1, 1) := by decide +kernel
theorem d_LW_law_400 : decode code 400 = .ok (.iadd, 1) := by decide +kernel
theorem d_LW_law_401 : decode code 401 = .ok (.iaload, 1) := by decide +kernel
theorem d_LW_law_402 : decode code 402 = .ok (.invokevirtual 64, 3) := by decide +kernel
theorem d_LW_law_405 : decode code 405 = .ok (.aload_n 2, 1) := by decide +kernel
theorem d_LW_law_406 : decode code 406 = .ok (.aload_n 0, 1) := by decide +kernel
theorem d_LW_law_407 : decode code 407 = .ok (.iload_n 3, 1) := by decide +kernel
theorem d_LW_law_408 : decode code 408 = .ok (.iconst 1, 1) := by decide +kernel
theorem d_LW_law_409 : decode code 409 = .ok (.iadd, 1) := by decide +kernel
theorem d_LW_law_410 : decode code 410 = .ok (.iaload, 1) := by decide +kernel
theorem d_LW_law_411 : decode code 411 = .ok (.invokevirtual 67, 3) := by decide +kernel
theorem d_LW_law_414 : decode code 414 = .ok (.if_icmp .eq 121, 3) := by decide +kernel
theorem d_LW_law_417 : decode code 417 = .ok (.iconst 0, 1) := by decide +kernel
theorem d_LW_law_418 : decode code 418 = .ok (.ireturn, 1) := by decide +kernel
theorem d_LW_law_419 : decode code 419 = .ok (.aload_n 1, 1) := by decide +kernel
theorem d_LW_law_420 : decode code 420 = .ok (.aload_n 0, 1) := by decide +kernel
theorem d_LW_law_421 : decode code 421 = .ok (.iload_n 3, 1) := by decide +kernel
theorem d_LW_law_422 : decode code 422 = .ok (.iconst 1, 1) := by decide +kernel
theorem d_LW_law_423 : decode code 423 = .ok (.iadd, 1) := by decide +kernel
theorem d_LW_law_424 : decode code 424 = .ok (.iaload, 1) := by decide +kernel
theorem d_LW_law_425 : decode code 425 = .ok (.invokevirtual 68, 3) := by decide +kernel
theorem d_LW_law_428 : decode code 428 = .ok (.aload_n 2, 1) := by decide +kernel
theorem d_LW_law_429 : decode code 429 = .ok (.aload_n 0, 1) := by decide +kernel
theorem d_LW_law_430 : decode code 430 = .ok (.iload_n 3, 1) := by decide +kernel
theorem d_LW_law_431 : decode code 431 = .ok (.iconst 1, 1) := by decide +kernel
theorem d_LW_law_432 : decode code 432 = .ok (.iadd, 1) := by decide +kernel
theorem d_LW_law_433 : decode code 433 = .ok (.iaload, 1) := by decide +kernel
theorem d_LW_law_434 : decode code 434 = .ok (.invokevirtual 71, 3) := by decide +kernel
theorem d_LW_law_437 : decode code 437 = .ok (.if_icmp .eq 98, 3) := by decide +kernel
theorem d_LW_law_440 : decode code 440 = .ok (.iconst 0, 1) := by decide +kernel
theorem d_LW_law_441 : decode code 441 = .ok (.ireturn, 1) := by decide +kernel
theorem d_LW_law_442 : decode code 442 = .ok (.aload_n 1, 1) := by decide +kernel
theorem d_LW_law_443 : decode code 443 = .ok (.aload_n 0, 1) := by decide +kernel
theorem d_LW_law_444 : decode code 444 = .ok (.iload_n 3, 1) := by decide +kernel
theorem d_LW_law_445 : decode code 445 = .ok (.iconst 1, 1) := by decide +kernel
theorem d_LW_law_446 : decode code 446 = .ok (.iadd, 1) := by decide +kernel
theorem d_LW_law_447 : decode code 447 = .ok (.iaload, 1) := by decide +kernel
theorem d_LW_law_448 : decode code 448 = .ok (.invokevirtual 72, 3) := by decide +kernel
theorem d_LW_law_451 : decode code 451 = .ok (.aload_n 2, 1) := by decide +kernel
theorem d_LW_law_452 : decode code 452 = .ok (.aload_n 0, 1) := by decide +kernel
theorem d_LW_law_453 : decode code 453 = .ok (.iload_n 3, 1) := by decide +kernel
theorem d_LW_law_454 : decode code 454 = .ok (.iconst 1, 1) := by decide +kernel
theorem d_LW_law_455 : decode code 455 = .ok (.iadd, 1) := by decide +kernel
theorem d_LW_law_456 : decode code 456 = .ok (.iaload, 1) := by decide +kernel
theorem d_LW_law_457 : decode code 457 = .ok (.invokevirtual 75, 3) := by decide +kernel
theorem d_LW_law_460 : decode code 460 = .ok (.if_icmp .eq 75, 3) := by decide +kernel
theorem d_LW_law_463 : decode code 463 = .ok (.iconst 0, 1) := by decide +kernel
theorem d_LW_law_464 : decode code 464 = .ok (.ireturn, 1) := by decide +kernel
theorem d_LW_law_465 : decode code 465 = .ok (.aload_n 1, 1) := by decide +kernel
theorem d_LW_law_466 : decode code 466 = .ok (.aload_n 0, 1) := by decide +kernel
theorem d_LW_law_467 : decode code 467 = .ok (.iload_n 3, 1) := by decide +kernel
theorem d_LW_law_468 : decode code 468 = .ok (.iconst 1, 1) := by decide +kernel
theorem d_LW_law_469 : decode code 469 = .ok (.iadd, 1) := by decide +kernel
theorem d_LW_law_470 : decode code 470 = .ok (.iaload, 1) := by decide +kernel
theorem d_LW_law_471 : decode code 471 = .ok (.invokevirtual 76, 3) := by decide +kernel
theorem d_LW_law_474 : decode code 474 = .ok (.aload_n 2, 1) := by decide +kernel
theorem d_LW_law_475 : decode code 475 = .ok (.aload_n 0, 1) := by decide +kernel
theorem d_LW_law_476 : decode code 476 = .ok (.iload_n 3, 1) := by decide +kernel
theorem d_LW_law_477 : decode code 477 = .ok (.iconst 1, 1) := by decide +kernel
theorem d_LW_law_478 : decode code 478 = .ok (.iadd, 1) := by decide +kernel
theorem d_LW_law_479 : decode code 479 = .ok (.iaload, 1) := by decide +kernel
theorem d_LW_law_480 : decode code 480 = .ok (.invokevirtual 80, 3) := by decide +kernel
theorem d_LW_law_483 : decode code 483 = .ok (.lcmp, 1) := by decide +kernel
theorem d_LW_law_484 : decode code 484 = .ok (.ifCond .eq 51, 3) := by decide +kernel
theorem d_LW_law_487 : decode code 487 = .ok (.iconst 0, 1) := by decide +kernel
theorem d_LW_law_488 : decode code 488 = .ok (.ireturn, 1) := by decide +kernel
theorem d_LW_law_489 : decode code 489 = .ok (.aload_n 1, 1) := by decide +kernel
theorem d_LW_law_490 : decode code 490 = .ok (.aload_n 0, 1) := by decide +kernel
theorem d_LW_law_491 : decode code 491 = .ok (.iload_n 3, 1) := by decide +kernel
theorem d_LW_law_492 : decode code 492 = .ok (.iconst 1, 1) := by decide +kernel
theorem d_LW_law_493 : decode code 493 = .ok (.iadd, 1) := by decide +kernel
theorem d_LW_law_494 : decode code 494 = .ok (.iaload, 1) := by decide +kernel
theorem d_LW_law_495 : decode code 495 = .ok (.aload_n 0, 1) := by decide +kernel
theorem d_LW_law_496 : decode code 496 = .ok (.iload_n 3, 1) := by decide +kernel
theorem d_LW_law_497 : decode code 497 = .ok (.iconst 2, 1) := by decide +kernel
theorem d_LW_law_498 : decode code 498 = .ok (.iadd, 1) := by decide +kernel
theorem d_LW_law_499 : decode code 499 = .ok (.iaload, 1) := by decide +kernel
theorem d_LW_law_500 : decode code 500 = .ok (.invokevirtual 81, 3) := by decide +kernel
theorem d_LW_law_503 : decode code 503 = .ok (.aload_n 2, 1) := by decide +kernel
theorem d_LW_law_504 : decode code 504 = .ok (.aload_n 0, 1) := by decide +kernel
theorem d_LW_law_505 : decode code 505 = .ok (.iload_n 3, 1) := by decide +kernel
theorem d_LW_law_506 : decode code 506 = .ok (.iconst 1, 1) := by decide +kernel
theorem d_LW_law_507 : decode code 507 = .ok (.iadd, 1) := by decide +kernel
theorem d_LW_law_508 : decode code 508 = .ok (.iaload, 1) := by decide +kernel
theorem d_LW_law_509 : decode code 509 = .ok (.aload_n 0, 1) := by decide +kernel
theorem d_LW_law_510 : decode code 510 = .ok (.iload_n 3, 1) := by decide +kernel
theorem d_LW_law_511 : decode code 511 = .ok (.iconst 2, 1) := by decide +kernel
theorem d_LW_law_512 : decode code 512 = .ok (.iadd, 1) := by decide +kernel
theorem d_LW_law_513 : decode code 513 = .ok (.iaload, 1) := by decide +kernel
theorem d_LW_law_514 : decode code 514 = .ok (.invokevirtual 84, 3) := by decide +kernel
theorem d_LW_law_517 : decode code 517 = .ok (.if_icmp .eq 18, 3) := by decide +kernel
theorem d_LW_law_520 : decode code 520 = .ok (.iconst 0, 1) := by decide +kernel
theorem d_LW_law_521 : decode code 521 = .ok (.ireturn, 1) := by decide +kernel
theorem d_LW_law_522 : decode code 522 = .ok (.aload_n 1, 1) := by decide +kernel
theorem d_LW_law_523 : decode code 523 = .ok (.invokevirtual 85, 3) := by decide +kernel
theorem d_LW_law_526 : decode code 526 = .ok (.aload_n 2, 1) := by decide +kernel
theorem d_LW_law_527 : decode code 527 = .ok (.invokevirtual 88, 3) := by decide +kernel
theorem d_LW_law_530 : decode code 530 = .ok (.if_icmp .eq 5, 3) := by decide +kernel
theorem d_LW_law_533 : decode code 533 = .ok (.iconst 0, 1) := by decide +kernel
theorem d_LW_law_534 : decode code 534 = .ok (.ireturn, 1) := by decide +kernel
theorem d_LW_law_535 : decode code 535 = .ok (.iinc 3 3, 3) := by decide +kernel
theorem d_LW_law_538 : decode code 538 = .ok (.goto (-520), 3) := by decide +kernel
theorem d_LW_law_541 : decode code 541 = .ok (.iconst 1, 1) := by decide +kernel
theorem d_LW_law_542 : decode code 542 = .ok (.ireturn, 1) := by decide +kernel
