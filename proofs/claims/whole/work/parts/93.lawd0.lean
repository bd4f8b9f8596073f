/-! what the law says, byte by byte; written by wip/gen/gen93.py -/
theorem ld_0 : decode (mB 231) 0 = .ok (.new 7, 3) := by decide +kernel
theorem ld_3 : decode (mB 231) 3 = .ok (.dup, 1) := by decide +kernel
theorem ld_4 : decode (mB 231) 4 = .ok (.invokespecial 9, 3) := by decide +kernel
theorem ld_7 : decode (mB 231) 7 = .ok (.astore_n 1, 1) := by decide +kernel
theorem ld_8 : decode (mB 231) 8 = .ok (.new 10, 3) := by decide +kernel
theorem ld_11 : decode (mB 231) 11 = .ok (.dup, 1) := by decide +kernel
theorem ld_12 : decode (mB 231) 12 = .ok (.invokespecial 12, 3) := by decide +kernel
theorem ld_15 : decode (mB 231) 15 = .ok (.astore_n 2, 1) := by decide +kernel
theorem ld_16 : decode (mB 231) 16 = .ok (.iconst 0, 1) := by decide +kernel
theorem ld_17 : decode (mB 231) 17 = .ok (.istore_n 3, 1) := by decide +kernel
theorem ld_18 : decode (mB 231) 18 = .ok (.iload_n 3, 1) := by decide +kernel
theorem ld_19 : decode (mB 231) 19 = .ok (.aload_n 0, 1) := by decide +kernel
theorem ld_20 : decode (mB 231) 20 = .ok (.arraylength, 1) := by decide +kernel
theorem ld_21 : decode (mB 231) 21 = .ok (.bipush 6, 2) := by decide +kernel
theorem ld_23 : decode (mB 231) 23 = .ok (.isub, 1) := by decide +kernel
theorem ld_24 : decode (mB 231) 24 = .ok (.if_icmp .gt 1008, 3) := by decide +kernel
theorem ld_27 : decode (mB 231) 27 = .ok (.aload_n 0, 1) := by decide +kernel
theorem ld_28 : decode (mB 231) 28 = .ok (.iload_n 3, 1) := by decide +kernel
theorem ld_29 : decode (mB 231) 29 = .ok (.iaload, 1) := by decide +kernel
theorem ld_30 : decode (mB 231) 30 = .ok (.bipush 31, 2) := by decide +kernel
theorem ld_32 : decode (mB 231) 32 = .ok (.iand, 1) := by decide +kernel
theorem ld_33 : decode (mB 231) 33 = .ok (.tableswitch 993 0 23 #[111, 154, 207, 240, 273, 296, 359, 382, 405, 438, 471, 534, 557, 580, 643, 666, 679, 712, 765, 808, 841, 864, 907, 960], 111) := by decide +kernel
theorem ld_144 : decode (mB 231) 144 = .ok (.aload_n 1, 1) := by decide +kernel
theorem ld_145 : decode (mB 231) 145 = .ok (.aload_n 0, 1) := by decide +kernel
theorem ld_146 : decode (mB 231) 146 = .ok (.iload_n 3, 1) := by decide +kernel
theorem ld_147 : decode (mB 231) 147 = .ok (.iconst 1, 1) := by decide +kernel
theorem ld_148 : decode (mB 231) 148 = .ok (.iadd, 1) := by decide +kernel
theorem ld_149 : decode (mB 231) 149 = .ok (.iaload, 1) := by decide +kernel
theorem ld_150 : decode (mB 231) 150 = .ok (.aload_n 0, 1) := by decide +kernel
theorem ld_151 : decode (mB 231) 151 = .ok (.iload_n 3, 1) := by decide +kernel
theorem ld_152 : decode (mB 231) 152 = .ok (.iconst 2, 1) := by decide +kernel
theorem ld_153 : decode (mB 231) 153 = .ok (.iadd, 1) := by decide +kernel
theorem ld_154 : decode (mB 231) 154 = .ok (.iaload, 1) := by decide +kernel
theorem ld_155 : decode (mB 231) 155 = .ok (.aload_n 0, 1) := by decide +kernel
theorem ld_156 : decode (mB 231) 156 = .ok (.iload_n 3, 1) := by decide +kernel
theorem ld_157 : decode (mB 231) 157 = .ok (.iconst 3, 1) := by decide +kernel
theorem ld_158 : decode (mB 231) 158 = .ok (.iadd, 1) := by decide +kernel
theorem ld_159 : decode (mB 231) 159 = .ok (.iaload, 1) := by decide +kernel
theorem ld_160 : decode (mB 231) 160 = .ok (.invokevirtual 13, 3) := by decide +kernel
theorem ld_163 : decode (mB 231) 163 = .ok (.aload_n 2, 1) := by decide +kernel
theorem ld_164 : decode (mB 231) 164 = .ok (.aload_n 0, 1) := by decide +kernel
theorem ld_165 : decode (mB 231) 165 = .ok (.iload_n 3, 1) := by decide +kernel
theorem ld_166 : decode (mB 231) 166 = .ok (.iconst 1, 1) := by decide +kernel
theorem ld_167 : decode (mB 231) 167 = .ok (.iadd, 1) := by decide +kernel
theorem ld_168 : decode (mB 231) 168 = .ok (.iaload, 1) := by decide +kernel
theorem ld_169 : decode (mB 231) 169 = .ok (.aload_n 0, 1) := by decide +kernel
theorem ld_170 : decode (mB 231) 170 = .ok (.iload_n 3, 1) := by decide +kernel
theorem ld_171 : decode (mB 231) 171 = .ok (.iconst 2, 1) := by decide +kernel
theorem ld_172 : decode (mB 231) 172 = .ok (.iadd, 1) := by decide +kernel
theorem ld_173 : decode (mB 231) 173 = .ok (.iaload, 1) := by decide +kernel
theorem ld_174 : decode (mB 231) 174 = .ok (.aload_n 0, 1) := by decide +kernel
theorem ld_175 : decode (mB 231) 175 = .ok (.iload_n 3, 1) := by decide +kernel
theorem ld_176 : decode (mB 231) 176 = .ok (.iconst 3, 1) := by decide +kernel
theorem ld_177 : decode (mB 231) 177 = .ok (.iadd, 1) := by decide +kernel
theorem ld_178 : decode (mB 231) 178 = .ok (.iaload, 1) := by decide +kernel
theorem ld_179 : decode (mB 231) 179 = .ok (.invokevirtual 17, 3) := by decide +kernel
theorem ld_182 : decode (mB 231) 182 = .ok (.if_icmp .eq 844, 3) := by decide +kernel
theorem ld_185 : decode (mB 231) 185 = .ok (.iconst 0, 1) := by decide +kernel
theorem ld_186 : decode (mB 231) 186 = .ok (.ireturn, 1) := by decide +kernel
theorem ld_187 : decode (mB 231) 187 = .ok (.aload_n 1, 1) := by decide +kernel
theorem ld_188 : decode (mB 231) 188 = .ok (.aload_n 0, 1) := by decide +kernel
theorem ld_189 : decode (mB 231) 189 = .ok (.iload_n 3, 1) := by decide +kernel
theorem ld_190 : decode (mB 231) 190 = .ok (.iconst 1, 1) := by decide +kernel
theorem ld_191 : decode (mB 231) 191 = .ok (.iadd, 1) := by decide +kernel
theorem ld_192 : decode (mB 231) 192 = .ok (.iaload, 1) := by decide +kernel
theorem ld_193 : decode (mB 231) 193 = .ok (.aload_n 0, 1) := by decide +kernel
theorem ld_194 : decode (mB 231) 194 = .ok (.iload_n 3, 1) := by decide +kernel
theorem ld_195 : decode (mB 231) 195 = .ok (.iconst 2, 1) := by decide +kernel
theorem ld_196 : decode (mB 231) 196 = .ok (.iadd, 1) := by decide +kernel
theorem ld_197 : decode (mB 231) 197 = .ok (.iaload, 1) := by decide +kernel
theorem ld_198 : decode (mB 231) 198 = .ok (.aload_n 0, 1) := by decide +kernel
theorem ld_199 : decode (mB 231) 199 = .ok (.iload_n 3, 1) := by decide +kernel
theorem ld_200 : decode (mB 231) 200 = .ok (.iconst 3, 1) := by decide +kernel
theorem ld_201 : decode (mB 231) 201 = .ok (.iadd, 1) := by decide +kernel
theorem ld_202 : decode (mB 231) 202 = .ok (.iaload, 1) := by decide +kernel
theorem ld_203 : decode (mB 231) 203 = .ok (.aload_n 0, 1) := by decide +kernel
theorem ld_204 : decode (mB 231) 204 = .ok (.iload_n 3, 1) := by decide +kernel
theorem ld_205 : decode (mB 231) 205 = .ok (.iconst 4, 1) := by decide +kernel
theorem ld_206 : decode (mB 231) 206 = .ok (.iadd, 1) := by decide +kernel
theorem ld_207 : decode (mB 231) 207 = .ok (.iaload, 1) := by decide +kernel
theorem ld_208 : decode (mB 231) 208 = .ok (.invokevirtual 18, 3) := by decide +kernel
theorem ld_211 : decode (mB 231) 211 = .ok (.aload_n 2, 1) := by decide +kernel
theorem ld_212 : decode (mB 231) 212 = .ok (.aload_n 0, 1) := by decide +kernel
theorem ld_213 : decode (mB 231) 213 = .ok (.iload_n 3, 1) := by decide +kernel
theorem ld_214 : decode (mB 231) 214 = .ok (.iconst 1, 1) := by decide +kernel
theorem ld_215 : decode (mB 231) 215 = .ok (.iadd, 1) := by decide +kernel
theorem ld_216 : decode (mB 231) 216 = .ok (.iaload, 1) := by decide +kernel
theorem ld_217 : decode (mB 231) 217 = .ok (.aload_n 0, 1) := by decide +kernel
theorem ld_218 : decode (mB 231) 218 = .ok (.iload_n 3, 1) := by decide +kernel
theorem ld_219 : decode (mB 231) 219 = .ok (.iconst 2, 1) := by decide +kernel
theorem ld_220 : decode (mB 231) 220 = .ok (.iadd, 1) := by decide +kernel
theorem ld_221 : decode (mB 231) 221 = .ok (.iaload, 1) := by decide +kernel
theorem ld_222 : decode (mB 231) 222 = .ok (.aload_n 0, 1) := by decide +kernel
theorem ld_223 : decode (mB 231) 223 = .ok (.iload_n 3, 1) := by decide +kernel
theorem ld_224 : decode (mB 231) 224 = .ok (.iconst 3, 1) := by decide +kernel
theorem ld_225 : decode (mB 231) 225 = .ok (.iadd, 1) := by decide +kernel
theorem ld_226 : decode (mB 231) 226 = .ok (.iaload, 1) := by decide +kernel
theorem ld_227 : decode (mB 231) 227 = .ok (.aload_n 0, 1) := by decide +kernel
theorem ld_228 : decode (mB 231) 228 = .ok (.iload_n 3, 1) := by decide +kernel
theorem ld_229 : decode (mB 231) 229 = .ok (.iconst 4, 1) := by decide +kernel
theorem ld_230 : decode (mB 231) 230 = .ok (.iadd, 1) := by decide +kernel
theorem ld_231 : decode (mB 231) 231 = .ok (.iaload, 1) := by decide +kernel
theorem ld_232 : decode (mB 231) 232 = .ok (.invokevirtual 22, 3) := by decide +kernel
theorem ld_235 : decode (mB 231) 235 = .ok (.if_icmp .eq 791, 3) := by decide +kernel
theorem ld_238 : decode (mB 231) 238 = .ok (.iconst 0, 1) := by decide +kernel
theorem ld_239 : decode (mB 231) 239 = .ok (.ireturn, 1) := by decide +kernel
theorem ld_240 : decode (mB 231) 240 = .ok (.aload_n 1, 1) := by decide +kernel
theorem ld_241 : decode (mB 231) 241 = .ok (.aload_n 0, 1) := by decide +kernel
theorem ld_242 : decode (mB 231) 242 = .ok (.iload_n 3, 1) := by decide +kernel
theorem ld_243 : decode (mB 231) 243 = .ok (.iconst 1, 1) := by decide +kernel
theorem ld_244 : decode (mB 231) 244 = .ok (.iadd, 1) := by decide +kernel
theorem ld_245 : decode (mB 231) 245 = .ok (.iaload, 1) := by decide +kernel
theorem ld_246 : decode (mB 231) 246 = .ok (.aload_n 0, 1) := by decide +kernel
theorem ld_247 : decode (mB 231) 247 = .ok (.iload_n 3, 1) := by decide +kernel
theorem ld_248 : decode (mB 231) 248 = .ok (.iconst 2, 1) := by decide +kernel
theorem ld_249 : decode (mB 231) 249 = .ok (.iadd, 1) := by decide +kernel
theorem ld_250 : decode (mB 231) 250 = .ok (.iaload, 1) := by decide +kernel
theorem ld_251 : decode (mB 231) 251 = .ok (.invokevirtual 23, 3) := by decide +kernel
theorem ld_254 : decode (mB 231) 254 = .ok (.aload_n 2, 1) := by decide +kernel
theorem ld_255 : decode (mB 231) 255 = .ok (.aload_n 0, 1) := by decide +kernel
theorem ld_256 : decode (mB 231) 256 = .ok (.iload_n 3, 1) := by decide +kernel
theorem ld_257 : decode (mB 231) 257 = .ok (.iconst 1, 1) := by decide +kernel
theorem ld_258 : decode (mB 231) 258 = .ok (.iadd, 1) := by decide +kernel
theorem ld_259 : decode (mB 231) 259 = .ok (.iaload, 1) := by decide +kernel
theorem ld_260 : decode (mB 231) 260 = .ok (.aload_n 0, 1) := by decide +kernel
theorem ld_261 : decode (mB 231) 261 = .ok (.iload_n 3, 1) := by decide +kernel
theorem ld_262 : decode (mB 231) 262 = .ok (.iconst 2, 1) := by decide +kernel
theorem ld_263 : decode (mB 231) 263 = .ok (.iadd, 1) := by decide +kernel
theorem ld_264 : decode (mB 231) 264 = .ok (.iaload, 1) := by decide +kernel
theorem ld_265 : decode (mB 231) 265 = .ok (.invokevirtual 27, 3) := by decide +kernel
theorem ld_268 : decode (mB 231) 268 = .ok (.if_icmp .eq 758, 3) := by decide +kernel
theorem ld_271 : decode (mB 231) 271 = .ok (.iconst 0, 1) := by decide +kernel
theorem ld_272 : decode (mB 231) 272 = .ok (.ireturn, 1) := by decide +kernel
theorem ld_273 : decode (mB 231) 273 = .ok (.aload_n 1, 1) := by decide +kernel
theorem ld_274 : decode (mB 231) 274 = .ok (.aload_n 0, 1) := by decide +kernel
theorem ld_275 : decode (mB 231) 275 = .ok (.iload_n 3, 1) := by decide +kernel
theorem ld_276 : decode (mB 231) 276 = .ok (.iconst 1, 1) := by decide +kernel
theorem ld_277 : decode (mB 231) 277 = .ok (.iadd, 1) := by decide +kernel
theorem ld_278 : decode (mB 231) 278 = .ok (.iaload, 1) := by decide +kernel
theorem ld_279 : decode (mB 231) 279 = .ok (.aload_n 0, 1) := by decide +kernel
theorem ld_280 : decode (mB 231) 280 = .ok (.iload_n 3, 1) := by decide +kernel
theorem ld_281 : decode (mB 231) 281 = .ok (.iconst 2, 1) := by decide +kernel
theorem ld_282 : decode (mB 231) 282 = .ok (.iadd, 1) := by decide +kernel
theorem ld_283 : decode (mB 231) 283 = .ok (.iaload, 1) := by decide +kernel
theorem ld_284 : decode (mB 231) 284 = .ok (.invokevirtual 28, 3) := by decide +kernel
theorem ld_287 : decode (mB 231) 287 = .ok (.aload_n 2, 1) := by decide +kernel
theorem ld_288 : decode (mB 231) 288 = .ok (.aload_n 0, 1) := by decide +kernel
theorem ld_289 : decode (mB 231) 289 = .ok (.iload_n 3, 1) := by decide +kernel
theorem ld_290 : decode (mB 231) 290 = .ok (.iconst 1, 1) := by decide +kernel
theorem ld_291 : decode (mB 231) 291 = .ok (.iadd, 1) := by decide +kernel
theorem ld_292 : decode (mB 231) 292 = .ok (.iaload, 1) := by decide +kernel
theorem ld_293 : decode (mB 231) 293 = .ok (.aload_n 0, 1) := by decide +kernel
theorem ld_294 : decode (mB 231) 294 = .ok (.iload_n 3, 1) := by decide +kernel
theorem ld_295 : decode (mB 231) 295 = .ok (.iconst 2, 1) := by decide +kernel
theorem ld_296 : decode (mB 231) 296 = .ok (.iadd, 1) := by decide +kernel
theorem ld_297 : decode (mB 231) 297 = .ok (.iaload, 1) := by decide +kernel
theorem ld_298 : decode (mB 231) 298 = .ok (.invokevirtual 31, 3) := by decide +kernel
theorem ld_301 : decode (mB 231) 301 = .ok (.if_icmp .eq 725, 3) := by decide +kernel
theorem ld_304 : decode (mB 231) 304 = .ok (.iconst 0, 1) := by decide +kernel
theorem ld_305 : decode (mB 231) 305 = .ok (.ireturn, 1) := by decide +kernel
theorem ld_306 : decode (mB 231) 306 = .ok (.aload_n 1, 1) := by decide +kernel
theorem ld_307 : decode (mB 231) 307 = .ok (.aload_n 0, 1) := by decide +kernel
theorem ld_308 : decode (mB 231) 308 = .ok (.iload_n 3, 1) := by decide +kernel
theorem ld_309 : decode (mB 231) 309 = .ok (.iconst 1, 1) := by decide +kernel
theorem ld_310 : decode (mB 231) 310 = .ok (.iadd, 1) := by decide +kernel
theorem ld_311 : decode (mB 231) 311 = .ok (.iaload, 1) := by decide +kernel
theorem ld_312 : decode (mB 231) 312 = .ok (.invokevirtual 32, 3) := by decide +kernel
theorem ld_315 : decode (mB 231) 315 = .ok (.aload_n 2, 1) := by decide +kernel
theorem ld_316 : decode (mB 231) 316 = .ok (.aload_n 0, 1) := by decide +kernel
theorem ld_317 : decode (mB 231) 317 = .ok (.iload_n 3, 1) := by decide +kernel
theorem ld_318 : decode (mB 231) 318 = .ok (.iconst 1, 1) := by decide +kernel
theorem ld_319 : decode (mB 231) 319 = .ok (.iadd, 1) := by decide +kernel
theorem ld_320 : decode (mB 231) 320 = .ok (.iaload, 1) := by decide +kernel
theorem ld_321 : decode (mB 231) 321 = .ok (.invokevirtual 36, 3) := by decide +kernel
theorem ld_324 : decode (mB 231) 324 = .ok (.if_icmp .eq 702, 3) := by decide +kernel
theorem ld_327 : decode (mB 231) 327 = .ok (.iconst 0, 1) := by decide +kernel
theorem ld_328 : decode (mB 231) 328 = .ok (.ireturn, 1) := by decide +kernel
theorem ld_329 : decode (mB 231) 329 = .ok (.aload_n 1, 1) := by decide +kernel
theorem ld_330 : decode (mB 231) 330 = .ok (.aload_n 0, 1) := by decide +kernel
theorem ld_331 : decode (mB 231) 331 = .ok (.iload_n 3, 1) := by decide +kernel
theorem ld_332 : decode (mB 231) 332 = .ok (.iconst 1, 1) := by decide +kernel
theorem ld_333 : decode (mB 231) 333 = .ok (.iadd, 1) := by decide +kernel
theorem ld_334 : decode (mB 231) 334 = .ok (.iaload, 1) := by decide +kernel
theorem ld_335 : decode (mB 231) 335 = .ok (.aload_n 0, 1) := by decide +kernel
theorem ld_336 : decode (mB 231) 336 = .ok (.iload_n 3, 1) := by decide +kernel
theorem ld_337 : decode (mB 231) 337 = .ok (.iconst 2, 1) := by decide +kernel
theorem ld_338 : decode (mB 231) 338 = .ok (.iadd, 1) := by decide +kernel
theorem ld_339 : decode (mB 231) 339 = .ok (.iaload, 1) := by decide +kernel
theorem ld_340 : decode (mB 231) 340 = .ok (.aload_n 0, 1) := by decide +kernel
theorem ld_341 : decode (mB 231) 341 = .ok (.iload_n 3, 1) := by decide +kernel
theorem ld_342 : decode (mB 231) 342 = .ok (.iconst 3, 1) := by decide +kernel
theorem ld_343 : decode (mB 231) 343 = .ok (.iadd, 1) := by decide +kernel
theorem ld_344 : decode (mB 231) 344 = .ok (.iaload, 1) := by decide +kernel
theorem ld_345 : decode (mB 231) 345 = .ok (.aload_n 0, 1) := by decide +kernel
theorem ld_346 : decode (mB 231) 346 = .ok (.iload_n 3, 1) := by decide +kernel
theorem ld_347 : decode (mB 231) 347 = .ok (.iconst 4, 1) := by decide +kernel
theorem ld_348 : decode (mB 231) 348 = .ok (.iadd, 1) := by decide +kernel
theorem ld_349 : decode (mB 231) 349 = .ok (.iaload, 1) := by decide +kernel
theorem ld_350 : decode (mB 231) 350 = .ok (.aload_n 0, 1) := by decide +kernel
theorem ld_351 : decode (mB 231) 351 = .ok (.iload_n 3, 1) := by decide +kernel
theorem ld_352 : decode (mB 231) 352 = .ok (.iconst 5, 1) := by decide +kernel
theorem ld_353 : decode (mB 231) 353 = .ok (.iadd, 1) := by decide +kernel
theorem ld_354 : decode (mB 231) 354 = .ok (.iaload, 1) := by decide +kernel
theorem ld_355 : decode (mB 231) 355 = .ok (.invokevirtual 37, 3) := by decide +kernel
theorem ld_358 : decode (mB 231) 358 = .ok (.aload_n 2, 1) := by decide +kernel
theorem ld_359 : decode (mB 231) 359 = .ok (.aload_n 0, 1) := by decide +kernel
theorem ld_360 : decode (mB 231) 360 = .ok (.iload_n 3, 1) := by decide +kernel
theorem ld_361 : decode (mB 231) 361 = .ok (.iconst 1, 1) := by decide +kernel
theorem ld_362 : decode (mB 231) 362 = .ok (.iadd, 1) := by decide +kernel
theorem ld_363 : decode (mB 231) 363 = .ok (.iaload, 1) := by decide +kernel
theorem ld_364 : decode (mB 231) 364 = .ok (.aload_n 0, 1) := by decide +kernel
theorem ld_365 : decode (mB 231) 365 = .ok (.iload_n 3, 1) := by decide +kernel
theorem ld_366 : decode (mB 231) 366 = .ok (.iconst 2, 1) := by decide +kernel
theorem ld_367 : decode (mB 231) 367 = .ok (.iadd, 1) := by decide +kernel
theorem ld_368 : decode (mB 231) 368 = .ok (.iaload, 1) := by decide +kernel
theorem ld_369 : decode (mB 231) 369 = .ok (.aload_n 0, 1) := by decide +kernel
theorem ld_370 : decode (mB 231) 370 = .ok (.iload_n 3, 1) := by decide +kernel
theorem ld_371 : decode (mB 231) 371 = .ok (.iconst 3, 1) := by decide +kernel
theorem ld_372 : decode (mB 231) 372 = .ok (.iadd, 1) := by decide +kernel
theorem ld_373 : decode (mB 231) 373 = .ok (.iaload, 1) := by decide +kernel
theorem ld_374 : decode (mB 231) 374 = .ok (.aload_n 0, 1) := by decide +kernel
theorem ld_375 : decode (mB 231) 375 = .ok (.iload_n 3, 1) := by decide +kernel
theorem ld_376 : decode (mB 231) 376 = .ok (.iconst 4, 1) := by decide +kernel
theorem ld_377 : decode (mB 231) 377 = .ok (.iadd, 1) := by decide +kernel
theorem ld_378 : decode (mB 231) 378 = .ok (.iaload, 1) := by decide +kernel
theorem ld_379 : decode (mB 231) 379 = .ok (.aload_n 0, 1) := by decide +kernel
theorem ld_380 : decode (mB 231) 380 = .ok (.iload_n 3, 1) := by decide +kernel
theorem ld_381 : decode (mB 231) 381 = .ok (.iconst 5, 1) := by decide +kernel
theorem ld_382 : decode (mB 231) 382 = .ok (.iadd, 1) := by decide +kernel
theorem ld_383 : decode (mB 231) 383 = .ok (.iaload, 1) := by decide +kernel
theorem ld_384 : decode (mB 231) 384 = .ok (.invokevirtual 41, 3) := by decide +kernel
theorem ld_387 : decode (mB 231) 387 = .ok (.if_icmp .eq 639, 3) := by decide +kernel
theorem ld_390 : decode (mB 231) 390 = .ok (.iconst 0, 1) := by decide +kernel
theorem ld_391 : decode (mB 231) 391 = .ok (.ireturn, 1) := by decide +kernel
theorem ld_392 : decode (mB 231) 392 = .ok (.aload_n 1, 1) := by decide +kernel
theorem ld_393 : decode (mB 231) 393 = .ok (.aload_n 0, 1) := by decide +kernel
theorem ld_394 : decode (mB 231) 394 = .ok (.iload_n 3, 1) := by decide +kernel
theorem ld_395 : decode (mB 231) 395 = .ok (.iconst 1, 1) := by decide +kernel
theorem ld_396 : decode (mB 231) 396 = .ok (.iadd, 1) := by decide +kernel
theorem ld_397 : decode (mB 231) 397 = .ok (.iaload, 1) := by decide +kernel
theorem ld_398 : decode (mB 231) 398 = .ok (.invokevirtual 42, 3) := by decide +kernel
theorem ld_401 : decode (mB 231) 401 = .ok (.aload_n 2, 1) := by decide +kernel
theorem ld_402 : decode (mB 231) 402 = .ok (.aload_n 0, 1) := by decide +kernel
theorem ld_403 : decode (mB 231) 403 = .ok (.iload_n 3, 1) := by decide +kernel
theorem ld_404 : decode (mB 231) 404 = .ok (.iconst 1, 1) := by decide +kernel
theorem ld_405 : decode (mB 231) 405 = .ok (.iadd, 1) := by decide +kernel
theorem ld_406 : decode (mB 231) 406 = .ok (.iaload, 1) := by decide +kernel
theorem ld_407 : decode (mB 231) 407 = .ok (.invokevirtual 45, 3) := by decide +kernel
theorem ld_410 : decode (mB 231) 410 = .ok (.if_icmp .eq 616, 3) := by decide +kernel
theorem ld_413 : decode (mB 231) 413 = .ok (.iconst 0, 1) := by decide +kernel
theorem ld_414 : decode (mB 231) 414 = .ok (.ireturn, 1) := by decide +kernel
theorem ld_415 : decode (mB 231) 415 = .ok (.aload_n 1, 1) := by decide +kernel
theorem ld_416 : decode (mB 231) 416 = .ok (.aload_n 0, 1) := by decide +kernel
