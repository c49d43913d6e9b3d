theorem d_LAW_216 : decode code 216 = .ok (.aload_n 1, 1) := by decide +kernel
theorem d_LAW_217 : decode code 217 = .ok (.aload_n 0, 1) := by decide +kernel
theorem d_LAW_218 : decode code 218 = .ok (.iload 4, 2) := by decide +kernel
theorem d_LAW_220 : decode code 220 = .ok (.iconst 1, 1) := by decide +kernel
theorem d_LAW_221 : decode code 221 = .ok (.iadd, 1) := by decide +kernel
theorem d_LAW_222 : decode code 222 = .ok (.iaload, 1) := by decide +kernel
theorem d_LAW_223 : decode code 223 = .ok (.aload_n 0, 1) := by decide +kernel
theorem d_LAW_224 : decode code 224 = .ok (.iload 4, 2) := by decide +kernel
theorem d_LAW_226 : decode code 226 = .ok (.iconst 2, 1) := by decide +kernel
theorem d_LAW_227 : decode code 227 = .ok (.iadd, 1) := by decide +kernel
theorem d_LAW_228 : decode code 228 = .ok (.iaload, 1) := by decide +kernel
theorem d_LAW_229 : decode code 229 = .ok (.aload_n 0, 1) := by decide +kernel
theorem d_LAW_230 : decode code 230 = .ok (.iload 4, 2) := by decide +kernel
theorem d_LAW_232 : decode code 232 = .ok (.iconst 3, 1) := by decide +kernel
theorem d_LAW_233 : decode code 233 = .ok (.iadd, 1) := by decide +kernel
theorem d_LAW_234 : decode code 234 = .ok (.iaload, 1) := by decide +kernel
theorem d_LAW_235 : decode code 235 = .ok (.invokestatic 63, 3) := by decide +kernel
theorem d_LAW_238 : decode code 238 = .ok (.istore 5, 2) := by decide +kernel
theorem d_LAW_240 : decode code 240 = .ok (.aload_n 2, 1) := by decide +kernel
theorem d_LAW_241 : decode code 241 = .ok (.aload_n 0, 1) := by decide +kernel
theorem d_LAW_242 : decode code 242 = .ok (.iload 4, 2) := by decide +kernel
theorem d_LAW_244 : decode code 244 = .ok (.iconst 1, 1) := by decide +kernel
theorem d_LAW_245 : decode code 245 = .ok (.iadd, 1) := by decide +kernel
theorem d_LAW_246 : decode code 246 = .ok (.iaload, 1) := by decide +kernel
theorem d_LAW_247 : decode code 247 = .ok (.aload_n 0, 1) := by decide +kernel
theorem d_LAW_248 : decode code 248 = .ok (.iload 4, 2) := by decide +kernel
theorem d_LAW_250 : decode code 250 = .ok (.iconst 2, 1) := by decide +kernel
theorem d_LAW_251 : decode code 251 = .ok (.iadd, 1) := by decide +kernel
theorem d_LAW_252 : decode code 252 = .ok (.iaload, 1) := by decide +kernel
theorem d_LAW_253 : decode code 253 = .ok (.aload_n 0, 1) := by decide +kernel
theorem d_LAW_254 : decode code 254 = .ok (.iload 4, 2) := by decide +kernel
theorem d_LAW_256 : decode code 256 = .ok (.iconst 3, 1) := by decide +kernel
theorem d_LAW_257 : decode code 257 = .ok (.iadd, 1) := by decide +kernel
theorem d_LAW_258 : decode code 258 = .ok (.iaload, 1) := by decide +kernel
theorem d_LAW_259 : decode code 259 = .ok (.invokevirtual 66, 3) := by decide +kernel
theorem d_LAW_262 : decode code 262 = .ok (.aload_n 2, 1) := by decide +kernel
theorem d_LAW_263 : decode code 263 = .ok (.invokevirtual 55, 3) := by decide +kernel
theorem d_LAW_266 : decode code 266 = .ok (.iload 5, 2) := by decide +kernel
theorem d_LAW_268 : decode code 268 = .ok (.if_icmp .eq 5, 3) := by decide +kernel
theorem d_LAW_271 : decode code 271 = .ok (.iconst 0, 1) := by decide +kernel
theorem d_LAW_272 : decode code 272 = .ok (.ireturn, 1) := by decide +kernel
theorem d_LAW_273 : decode code 273 = .ok (.goto 422, 3) := by decide +kernel
theorem d_LAW_276 : decode code 276 = .ok (.aload_n 1, 1) := by decide +kernel
theorem d_LAW_277 : decode code 277 = .ok (.aload_n 0, 1) := by decide +kernel
theorem d_LAW_278 : decode code 278 = .ok (.iload 4, 2) := by decide +kernel
theorem d_LAW_280 : decode code 280 = .ok (.iconst 1, 1) := by decide +kernel
theorem d_LAW_281 : decode code 281 = .ok (.iadd, 1) := by decide +kernel
theorem d_LAW_282 : decode code 282 = .ok (.iaload, 1) := by decide +kernel
theorem d_LAW_283 : decode code 283 = .ok (.aload_n 0, 1) := by decide +kernel
theorem d_LAW_284 : decode code 284 = .ok (.iload 4, 2) := by decide +kernel
theorem d_LAW_286 : decode code 286 = .ok (.iconst 2, 1) := by decide +kernel
theorem d_LAW_287 : decode code 287 = .ok (.iadd, 1) := by decide +kernel
theorem d_LAW_288 : decode code 288 = .ok (.iaload, 1) := by decide +kernel
theorem d_LAW_289 : decode code 289 = .ok (.aload_n 3, 1) := by decide +kernel
theorem d_LAW_290 : decode code 290 = .ok (.invokestatic 67, 3) := by decide +kernel
theorem d_LAW_293 : decode code 293 = .ok (.istore 5, 2) := by decide +kernel
theorem d_LAW_295 : decode code 295 = .ok (.aload_n 2, 1) := by decide +kernel
theorem d_LAW_296 : decode code 296 = .ok (.aload_n 0, 1) := by decide +kernel
theorem d_LAW_297 : decode code 297 = .ok (.iload 4, 2) := by decide +kernel
theorem d_LAW_299 : decode code 299 = .ok (.iconst 1, 1) := by decide +kernel
theorem d_LAW_300 : decode code 300 = .ok (.iadd, 1) := by decide +kernel
theorem d_LAW_301 : decode code 301 = .ok (.iaload, 1) := by decide +kernel
theorem d_LAW_302 : decode code 302 = .ok (.aload_n 0, 1) := by decide +kernel
theorem d_LAW_303 : decode code 303 = .ok (.iload 4, 2) := by decide +kernel
theorem d_LAW_305 : decode code 305 = .ok (.iconst 2, 1) := by decide +kernel
theorem d_LAW_306 : decode code 306 = .ok (.iadd, 1) := by decide +kernel
theorem d_LAW_307 : decode code 307 = .ok (.iaload, 1) := by decide +kernel
theorem d_LAW_308 : decode code 308 = .ok (.invokevirtual 69, 3) := by decide +kernel
theorem d_LAW_311 : decode code 311 = .ok (.istore 6, 2) := by decide +kernel
theorem d_LAW_313 : decode code 313 = .ok (.aload_n 2, 1) := by decide +kernel
theorem d_LAW_314 : decode code 314 = .ok (.invokevirtual 55, 3) := by decide +kernel
theorem d_LAW_317 : decode code 317 = .ok (.iload 5, 2) := by decide +kernel
theorem d_LAW_319 : decode code 319 = .ok (.if_icmp .eq 5, 3) := by decide +kernel
theorem d_LAW_322 : decode code 322 = .ok (.iconst 0, 1) := by decide +kernel
theorem d_LAW_323 : decode code 323 = .ok (.ireturn, 1) := by decide +kernel
theorem d_LAW_324 : decode code 324 = .ok (.iload 5, 2) := by decide +kernel
theorem d_LAW_326 : decode code 326 = .ok (.ifCond .ne 15, 3) := by decide +kernel
theorem d_LAW_329 : decode code 329 = .ok (.aload_n 3, 1) := by decide +kernel
theorem d_LAW_330 : decode code 330 = .ok (.iconst 0, 1) := by decide +kernel
theorem d_LAW_331 : decode code 331 = .ok (.laload, 1) := by decide +kernel
theorem d_LAW_332 : decode code 332 = .ok (.iload 6, 2) := by decide +kernel
theorem d_LAW_334 : decode code 334 = .ok (.i2l, 1) := by decide +kernel
theorem d_LAW_335 : decode code 335 = .ok (.lcmp, 1) := by decide +kernel
theorem d_LAW_336 : decode code 336 = .ok (.ifCond .eq 5, 3) := by decide +kernel
theorem d_LAW_339 : decode code 339 = .ok (.iconst 0, 1) := by decide +kernel
theorem d_LAW_340 : decode code 340 = .ok (.ireturn, 1) := by decide +kernel
theorem d_LAW_341 : decode code 341 = .ok (.goto 354, 3) := by decide +kernel
theorem d_LAW_344 : decode code 344 = .ok (.aload_n 1, 1) := by decide +kernel
theorem d_LAW_345 : decode code 345 = .ok (.aload_n 0, 1) := by decide +kernel
theorem d_LAW_346 : decode code 346 = .ok (.iload 4, 2) := by decide +kernel
theorem d_LAW_348 : decode code 348 = .ok (.iconst 1, 1) := by decide +kernel
theorem d_LAW_349 : decode code 349 = .ok (.iadd, 1) := by decide +kernel
theorem d_LAW_350 : decode code 350 = .ok (.iaload, 1) := by decide +kernel
theorem d_LAW_351 : decode code 351 = .ok (.aload_n 0, 1) := by decide +kernel
theorem d_LAW_352 : decode code 352 = .ok (.iload 4, 2) := by decide +kernel
theorem d_LAW_354 : decode code 354 = .ok (.iconst 2, 1) := by decide +kernel
theorem d_LAW_355 : decode code 355 = .ok (.iadd, 1) := by decide +kernel
theorem d_LAW_356 : decode code 356 = .ok (.iaload, 1) := by decide +kernel
theorem d_LAW_357 : decode code 357 = .ok (.ifCond .eq 7, 3) := by decide +kernel
theorem d_LAW_360 : decode code 360 = .ok (.iconst 1, 1) := by decide +kernel
theorem d_LAW_361 : decode code 361 = .ok (.goto 4, 3) := by decide +kernel
theorem d_LAW_364 : decode code 364 = .ok (.iconst 0, 1) := by decide +kernel
theorem d_LAW_365 : decode code 365 = .ok (.aload_n 3, 1) := by decide +kernel
theorem d_LAW_366 : decode code 366 = .ok (.invokestatic 70, 3) := by decide +kernel
theorem d_LAW_369 : decode code 369 = .ok (.istore 5, 2) := by decide +kernel
