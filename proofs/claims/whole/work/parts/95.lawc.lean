/-! the calls of the law, one by one; written by wip/gen/gen93.py -/
section
variable {L i ca cb : Nat} {xs : Nat → Int32} {SC SR : Sg}
theorem lw_wire (hL : i + 6 ≤ L) (hL2 : L ≤ 3072) (hc : ca ≤ mMc 231 ∧ cb ≤ mMs 231) (H : INV SC SR) (h : ∀ S R, INV S R → Fin1 (1026, LcL i, [], LW0 L xs S R, (ca, cb))) : Fin1 (144, LcL i, [], LW0 L xs SC SR, (ca, cb)) := by
  obtain ⟨v, SC2, e1, v2, SR2, e2, rfl, hI⟩ := S_wire H (xs (i + 1)) (xs (i + 2)) (xs (i + 3))
  obtain ⟨lw, hr⟩ := h SC2 SR2 hI
  refine ⟨lw, ?_⟩
  refine Rn.step ld_144 rfl ?_
  refine la_arg (k := 1) (n := 1) ld_145 ld_146 ld_147 ld_148 ld_149 hL hL2 (by decide) (by decide) ?_
  refine la_arg (k := 2) (n := 2) ld_150 ld_151 ld_152 ld_153 ld_154 hL hL2 (by decide) (by decide) ?_
  refine la_arg (k := 3) (n := 3) ld_155 ld_156 ld_157 ld_158 ld_159 hL hL2 (by decide) (by decide) ?_
  refine la_callC (as := [.int (xs (i + 1)), .int (xs (i + 2)), .int (xs (i + 3))]) ld_160 lc_13 lf_11 rfl (Nat.le_of_ble_eq_true rfl) (by decide +kernel) (Nat.le_of_ble_eq_true rfl) (TR_wire_ok (xs (i + 1)) (xs (i + 2)) (xs (i + 3)) SC v SC2 e1) hc ?_
  refine Rn.step ld_163 rfl ?_
  refine la_arg (k := 1) (n := 1) ld_164 ld_165 ld_166 ld_167 ld_168 hL hL2 (by decide) (by decide) ?_
  refine la_arg (k := 2) (n := 2) ld_169 ld_170 ld_171 ld_172 ld_173 hL hL2 (by decide) (by decide) ?_
  refine la_arg (k := 3) (n := 3) ld_174 ld_175 ld_176 ld_177 ld_178 hL hL2 (by decide) (by decide) ?_
  refine la_callR (as := [.int (xs (i + 1)), .int (xs (i + 2)), .int (xs (i + 3))]) ld_179 lc_17 lf_135 rfl (Nat.le_of_ble_eq_true rfl) (by decide +kernel) (Nat.le_of_ble_eq_true rfl) (MO_wire_ok (xs (i + 1)) (xs (i + 2)) (xs (i + 3)) SR v SR2 e2) hc ?_
  exact la_eq ld_182 rfl hr
theorem lw_span (hL : i + 6 ≤ L) (hL2 : L ≤ 3072) (hc : ca ≤ mMc 231 ∧ cb ≤ mMs 231) (H : INV SC SR) (h : ∀ S R, INV S R → Fin1 (1026, LcL i, [], LW0 L xs S R, (ca, cb))) : Fin1 (187, LcL i, [], LW0 L xs SC SR, (ca, cb)) := by
  obtain ⟨v, SC2, e1, v2, SR2, e2, rfl, hI⟩ := S_span H (xs (i + 1)) (xs (i + 2)) (xs (i + 3)) (xs (i + 4))
  obtain ⟨lw, hr⟩ := h SC2 SR2 hI
  refine ⟨lw, ?_⟩
  refine Rn.step ld_187 rfl ?_
  refine la_arg (k := 1) (n := 1) ld_188 ld_189 ld_190 ld_191 ld_192 hL hL2 (by decide) (by decide) ?_
  refine la_arg (k := 2) (n := 2) ld_193 ld_194 ld_195 ld_196 ld_197 hL hL2 (by decide) (by decide) ?_
  refine la_arg (k := 3) (n := 3) ld_198 ld_199 ld_200 ld_201 ld_202 hL hL2 (by decide) (by decide) ?_
  refine la_arg (k := 4) (n := 4) ld_203 ld_204 ld_205 ld_206 ld_207 hL hL2 (by decide) (by decide) ?_
  refine la_callC (as := [.int (xs (i + 1)), .int (xs (i + 2)), .int (xs (i + 3)), .int (xs (i + 4))]) ld_208 lc_18 lf_17 rfl (Nat.le_of_ble_eq_true rfl) (by decide +kernel) (Nat.le_of_ble_eq_true rfl) (TR_span_ok (xs (i + 1)) (xs (i + 2)) (xs (i + 3)) (xs (i + 4)) SC v SC2 e1) hc ?_
  refine Rn.step ld_211 rfl ?_
  refine la_arg (k := 1) (n := 1) ld_212 ld_213 ld_214 ld_215 ld_216 hL hL2 (by decide) (by decide) ?_
  refine la_arg (k := 2) (n := 2) ld_217 ld_218 ld_219 ld_220 ld_221 hL hL2 (by decide) (by decide) ?_
  refine la_arg (k := 3) (n := 3) ld_222 ld_223 ld_224 ld_225 ld_226 hL hL2 (by decide) (by decide) ?_
  refine la_arg (k := 4) (n := 4) ld_227 ld_228 ld_229 ld_230 ld_231 hL hL2 (by decide) (by decide) ?_
  refine la_callR (as := [.int (xs (i + 1)), .int (xs (i + 2)), .int (xs (i + 3)), .int (xs (i + 4))]) ld_232 lc_22 lf_139 rfl (Nat.le_of_ble_eq_true rfl) (by decide +kernel) (Nat.le_of_ble_eq_true rfl) (MO_span_ok (xs (i + 1)) (xs (i + 2)) (xs (i + 3)) (xs (i + 4)) SR v SR2 e2) hc ?_
  exact la_eq ld_235 rfl hr
theorem lw_hands (hL : i + 6 ≤ L) (hL2 : L ≤ 3072) (hc : ca ≤ mMc 231 ∧ cb ≤ mMs 231) (H : INV SC SR) (h : ∀ S R, INV S R → Fin1 (1026, LcL i, [], LW0 L xs S R, (ca, cb))) : Fin1 (240, LcL i, [], LW0 L xs SC SR, (ca, cb)) := by
  obtain ⟨v, SC2, e1, v2, SR2, e2, rfl, hI⟩ := S_hands H (xs (i + 1)) (xs (i + 2))
  obtain ⟨lw, hr⟩ := h SC2 SR2 hI
  refine ⟨lw, ?_⟩
  refine Rn.step ld_240 rfl ?_
  refine la_arg (k := 1) (n := 1) ld_241 ld_242 ld_243 ld_244 ld_245 hL hL2 (by decide) (by decide) ?_
  refine la_arg (k := 2) (n := 2) ld_246 ld_247 ld_248 ld_249 ld_250 hL hL2 (by decide) (by decide) ?_
  refine la_callC (as := [.int (xs (i + 1)), .int (xs (i + 2))]) ld_251 lc_23 lf_20 rfl (Nat.le_of_ble_eq_true rfl) (by decide +kernel) (Nat.le_of_ble_eq_true rfl) (TR_hands_ok (xs (i + 1)) (xs (i + 2)) SC v SC2 e1) hc ?_
  refine Rn.step ld_254 rfl ?_
  refine la_arg (k := 1) (n := 1) ld_255 ld_256 ld_257 ld_258 ld_259 hL hL2 (by decide) (by decide) ?_
  refine la_arg (k := 2) (n := 2) ld_260 ld_261 ld_262 ld_263 ld_264 hL hL2 (by decide) (by decide) ?_
  refine la_callR (as := [.int (xs (i + 1)), .int (xs (i + 2))]) ld_265 lc_27 lf_142 rfl (Nat.le_of_ble_eq_true rfl) (by decide +kernel) (Nat.le_of_ble_eq_true rfl) (MO_hands_ok (xs (i + 1)) (xs (i + 2)) SR v SR2 e2) hc ?_
  exact la_eq ld_268 rfl hr
theorem lw_about (hL : i + 6 ≤ L) (hL2 : L ≤ 3072) (hc : ca ≤ mMc 231 ∧ cb ≤ mMs 231) (H : INV SC SR) (h : ∀ S R, INV S R → Fin1 (1026, LcL i, [], LW0 L xs S R, (ca, cb))) : Fin1 (273, LcL i, [], LW0 L xs SC SR, (ca, cb)) := by
  obtain ⟨v, SC2, e1, v2, SR2, e2, rfl, hI⟩ := S_about H (xs (i + 1)) (xs (i + 2))
  obtain ⟨lw, hr⟩ := h SC2 SR2 hI
  refine ⟨lw, ?_⟩
  refine Rn.step ld_273 rfl ?_
  refine la_arg (k := 1) (n := 1) ld_274 ld_275 ld_276 ld_277 ld_278 hL hL2 (by decide) (by decide) ?_
  refine la_arg (k := 2) (n := 2) ld_279 ld_280 ld_281 ld_282 ld_283 hL hL2 (by decide) (by decide) ?_
  refine la_callC (as := [.int (xs (i + 1)), .int (xs (i + 2))]) ld_284 lc_28 lf_21 rfl (Nat.le_of_ble_eq_true rfl) (by decide +kernel) (Nat.le_of_ble_eq_true rfl) (TR_about_ok (xs (i + 1)) (xs (i + 2)) SC v SC2 e1) hc ?_
  refine Rn.step ld_287 rfl ?_
  refine la_arg (k := 1) (n := 1) ld_288 ld_289 ld_290 ld_291 ld_292 hL hL2 (by decide) (by decide) ?_
  refine la_arg (k := 2) (n := 2) ld_293 ld_294 ld_295 ld_296 ld_297 hL hL2 (by decide) (by decide) ?_
  refine la_callR (as := [.int (xs (i + 1)), .int (xs (i + 2))]) ld_298 lc_31 lf_210 rfl (Nat.le_of_ble_eq_true rfl) (by decide +kernel) (Nat.le_of_ble_eq_true rfl) (MO_about_ok (xs (i + 1)) (xs (i + 2)) SR v SR2 e2) hc ?_
  exact la_eq ld_301 rfl hr
theorem lw_count (hL : i + 6 ≤ L) (hL2 : L ≤ 3072) (hc : ca ≤ mMc 231 ∧ cb ≤ mMs 231) (H : INV SC SR) (h : ∀ S R, INV S R → Fin1 (1026, LcL i, [], LW0 L xs S R, (ca, cb))) : Fin1 (306, LcL i, [], LW0 L xs SC SR, (ca, cb)) := by
  obtain ⟨v, SC2, e1, v2, SR2, e2, rfl, hI⟩ := S_count H (xs (i + 1))
  obtain ⟨lw, hr⟩ := h SC2 SR2 hI
  refine ⟨lw, ?_⟩
  refine Rn.step ld_306 rfl ?_
  refine la_arg (k := 1) (n := 1) ld_307 ld_308 ld_309 ld_310 ld_311 hL hL2 (by decide) (by decide) ?_
  refine la_callC (as := [.int (xs (i + 1))]) ld_312 lc_32 lf_24 rfl (Nat.le_of_ble_eq_true rfl) (by decide +kernel) (Nat.le_of_ble_eq_true rfl) (TR_count_ok (xs (i + 1)) SC v SC2 e1) hc ?_
  refine Rn.step ld_315 rfl ?_
  refine la_arg (k := 1) (n := 1) ld_316 ld_317 ld_318 ld_319 ld_320 hL hL2 (by decide) (by decide) ?_
  refine la_callR (as := [.int (xs (i + 1))]) ld_321 lc_36 lf_211 rfl (Nat.le_of_ble_eq_true rfl) (by decide +kernel) (Nat.le_of_ble_eq_true rfl) (MO_count_ok (xs (i + 1)) SR v SR2 e2) hc ?_
  exact la_eq ld_324 rfl hr
theorem lw_book (hL : i + 6 ≤ L) (hL2 : L ≤ 3072) (hc : ca ≤ mMc 231 ∧ cb ≤ mMs 231) (H : INV SC SR) (h : ∀ S R, INV S R → Fin1 (1026, LcL i, [], LW0 L xs S R, (ca, cb))) : Fin1 (329, LcL i, [], LW0 L xs SC SR, (ca, cb)) := by
  obtain ⟨v, SC2, e1, v2, SR2, e2, rfl, hI⟩ := S_book H (xs (i + 1)) (xs (i + 2)) (xs (i + 3)) (xs (i + 4)) (xs (i + 5))
  obtain ⟨lw, hr⟩ := h SC2 SR2 hI
  refine ⟨lw, ?_⟩
  refine Rn.step ld_329 rfl ?_
  refine la_arg (k := 1) (n := 1) ld_330 ld_331 ld_332 ld_333 ld_334 hL hL2 (by decide) (by decide) ?_
  refine la_arg (k := 2) (n := 2) ld_335 ld_336 ld_337 ld_338 ld_339 hL hL2 (by decide) (by decide) ?_
  refine la_arg (k := 3) (n := 3) ld_340 ld_341 ld_342 ld_343 ld_344 hL hL2 (by decide) (by decide) ?_
  refine la_arg (k := 4) (n := 4) ld_345 ld_346 ld_347 ld_348 ld_349 hL hL2 (by decide) (by decide) ?_
  refine la_arg (k := 5) (n := 5) ld_350 ld_351 ld_352 ld_353 ld_354 hL hL2 (by decide) (by decide) ?_
  refine la_callC (as := [.int (xs (i + 1)), .int (xs (i + 2)), .int (xs (i + 3)), .int (xs (i + 4)), .int (xs (i + 5))]) ld_355 lc_37 lf_41 rfl (Nat.le_of_ble_eq_true rfl) (by decide +kernel) (Nat.le_of_ble_eq_true rfl) (TR_book_ok (xs (i + 1)) (xs (i + 2)) (xs (i + 3)) (xs (i + 4)) (xs (i + 5)) SC v SC2 e1) hc ?_
  refine Rn.step ld_358 rfl ?_
  refine la_arg (k := 1) (n := 1) ld_359 ld_360 ld_361 ld_362 ld_363 hL hL2 (by decide) (by decide) ?_
  refine la_arg (k := 2) (n := 2) ld_364 ld_365 ld_366 ld_367 ld_368 hL hL2 (by decide) (by decide) ?_
  refine la_arg (k := 3) (n := 3) ld_369 ld_370 ld_371 ld_372 ld_373 hL hL2 (by decide) (by decide) ?_
  refine la_arg (k := 4) (n := 4) ld_374 ld_375 ld_376 ld_377 ld_378 hL hL2 (by decide) (by decide) ?_
  refine la_arg (k := 5) (n := 5) ld_379 ld_380 ld_381 ld_382 ld_383 hL hL2 (by decide) (by decide) ?_
  refine la_callR (as := [.int (xs (i + 1)), .int (xs (i + 2)), .int (xs (i + 3)), .int (xs (i + 4)), .int (xs (i + 5))]) ld_384 lc_41 lf_175 rfl (Nat.le_of_ble_eq_true rfl) (by decide +kernel) (Nat.le_of_ble_eq_true rfl) (MO_book_ok (xs (i + 1)) (xs (i + 2)) (xs (i + 3)) (xs (i + 4)) (xs (i + 5)) SR v SR2 e2) hc ?_
  exact la_eq ld_387 rfl hr
theorem lw_cancel (hL : i + 6 ≤ L) (hL2 : L ≤ 3072) (hc : ca ≤ mMc 231 ∧ cb ≤ mMs 231) (H : INV SC SR) (h : ∀ S R, INV S R → Fin1 (1026, LcL i, [], LW0 L xs S R, (ca, cb))) : Fin1 (392, LcL i, [], LW0 L xs SC SR, (ca, cb)) := by
  obtain ⟨v, SC2, e1, v2, SR2, e2, rfl, hI⟩ := S_cancel H (xs (i + 1))
  obtain ⟨lw, hr⟩ := h SC2 SR2 hI
  refine ⟨lw, ?_⟩
  refine Rn.step ld_392 rfl ?_
  refine la_arg (k := 1) (n := 1) ld_393 ld_394 ld_395 ld_396 ld_397 hL hL2 (by decide) (by decide) ?_
  refine la_callC (as := [.int (xs (i + 1))]) ld_398 lc_42 lf_49 rfl (Nat.le_of_ble_eq_true rfl) (by decide +kernel) (Nat.le_of_ble_eq_true rfl) (TR_cancel_ok (xs (i + 1)) SC v SC2 e1) hc ?_
  refine Rn.step ld_401 rfl ?_
  refine la_arg (k := 1) (n := 1) ld_402 ld_403 ld_404 ld_405 ld_406 hL hL2 (by decide) (by decide) ?_
  refine la_callR (as := [.int (xs (i + 1))]) ld_407 lc_45 lf_180 rfl (Nat.le_of_ble_eq_true rfl) (by decide +kernel) (Nat.le_of_ble_eq_true rfl) (MO_cancel_ok (xs (i + 1)) SR v SR2 e2) hc ?_
  exact la_eq ld_410 rfl hr
theorem lw_again (hL : i + 6 ≤ L) (hL2 : L ≤ 3072) (hc : ca ≤ mMc 231 ∧ cb ≤ mMs 231) (H : INV SC SR) (h : ∀ S R, INV S R → Fin1 (1026, LcL i, [], LW0 L xs S R, (ca, cb))) : Fin1 (415, LcL i, [], LW0 L xs SC SR, (ca, cb)) := by
  obtain ⟨v, SC2, e1, v2, SR2, e2, rfl, hI⟩ := S_again H (xs (i + 1))
  obtain ⟨lw, hr⟩ := h SC2 SR2 hI
  refine ⟨lw, ?_⟩
  refine Rn.step ld_415 rfl ?_
  refine la_arg (k := 1) (n := 1) ld_416 ld_417 ld_418 ld_419 ld_420 hL hL2 (by decide) (by decide) ?_
  refine la_callC (as := [.int (xs (i + 1))]) ld_421 lc_46 lf_53 rfl (Nat.le_of_ble_eq_true rfl) (by decide +kernel) (Nat.le_of_ble_eq_true rfl) (TR_again_ok (xs (i + 1)) SC v SC2 e1) hc ?_
  refine Rn.step ld_424 rfl ?_
  refine la_arg (k := 1) (n := 1) ld_425 ld_426 ld_427 ld_428 ld_429 hL hL2 (by decide) (by decide) ?_
  refine la_callR (as := [.int (xs (i + 1))]) ld_430 lc_49 lf_183 rfl (Nat.le_of_ble_eq_true rfl) (by decide +kernel) (Nat.le_of_ble_eq_true rfl) (MO_again_ok (xs (i + 1)) SR v SR2 e2) hc ?_
  exact la_eq ld_433 rfl hr
theorem lw_told (hL : i + 6 ≤ L) (hL2 : L ≤ 3072) (hc : ca ≤ mMc 231 ∧ cb ≤ mMs 231) (H : INV SC SR) (h : ∀ S R, INV S R → Fin1 (1026, LcL i, [], LW0 L xs S R, (ca, cb))) : Fin1 (438, LcL i, [], LW0 L xs SC SR, (ca, cb)) := by
  obtain ⟨v, SC2, e1, v2, SR2, e2, rfl, hI⟩ := S_told H (xs (i + 1)) (xs (i + 2))
  obtain ⟨lw, hr⟩ := h SC2 SR2 hI
  refine ⟨lw, ?_⟩
  refine Rn.step ld_438 rfl ?_
  refine la_arg (k := 1) (n := 1) ld_439 ld_440 ld_441 ld_442 ld_443 hL hL2 (by decide) (by decide) ?_
  refine la_arg (k := 2) (n := 2) ld_444 ld_445 ld_446 ld_447 ld_448 hL hL2 (by decide) (by decide) ?_
  refine la_callC (as := [.int (xs (i + 1)), .int (xs (i + 2))]) ld_449 lc_50 lf_54 rfl (Nat.le_of_ble_eq_true rfl) (by decide +kernel) (Nat.le_of_ble_eq_true rfl) (TR_told_ok (xs (i + 1)) (xs (i + 2)) SC v SC2 e1) hc ?_
  refine Rn.step ld_452 rfl ?_
  refine la_arg (k := 1) (n := 1) ld_453 ld_454 ld_455 ld_456 ld_457 hL hL2 (by decide) (by decide) ?_
  refine la_arg (k := 2) (n := 2) ld_458 ld_459 ld_460 ld_461 ld_462 hL hL2 (by decide) (by decide) ?_
  refine la_callR (as := [.int (xs (i + 1)), .int (xs (i + 2))]) ld_463 lc_53 lf_206 rfl (Nat.le_of_ble_eq_true rfl) (by decide +kernel) (Nat.le_of_ble_eq_true rfl) (MO_told_ok (xs (i + 1)) (xs (i + 2)) SR v SR2 e2) hc ?_
  exact la_eq ld_466 rfl hr
theorem lw_way (hL : i + 6 ≤ L) (hL2 : L ≤ 3072) (hc : ca ≤ mMc 231 ∧ cb ≤ mMs 231) (H : INV SC SR) (h : ∀ S R, INV S R → Fin1 (1026, LcL i, [], LW0 L xs S R, (ca, cb))) : Fin1 (471, LcL i, [], LW0 L xs SC SR, (ca, cb)) := by
  obtain ⟨v, SC2, e1, v2, SR2, e2, rfl, hI⟩ := S_way H (xs (i + 1)) (xs (i + 2))
  obtain ⟨lw, hr⟩ := h SC2 SR2 hI
  refine ⟨lw, ?_⟩
  refine Rn.step ld_471 rfl ?_
  refine la_arg (k := 1) (n := 1) ld_472 ld_473 ld_474 ld_475 ld_476 hL hL2 (by decide) (by decide) ?_
  refine la_arg (k := 2) (n := 2) ld_477 ld_478 ld_479 ld_480 ld_481 hL hL2 (by decide) (by decide) ?_
  refine la_callC (as := [.int (xs (i + 1)), .int (xs (i + 2))]) ld_482 lc_54 lf_55 rfl (Nat.le_of_ble_eq_true rfl) (by decide +kernel) (Nat.le_of_ble_eq_true rfl) (TR_way_ok (xs (i + 1)) (xs (i + 2)) SC v SC2 e1) hc ?_
  refine Rn.step ld_485 rfl ?_
  refine la_arg (k := 1) (n := 1) ld_486 ld_487 ld_488 ld_489 ld_490 hL hL2 (by decide) (by decide) ?_
  refine la_arg (k := 2) (n := 2) ld_491 ld_492 ld_493 ld_494 ld_495 hL hL2 (by decide) (by decide) ?_
  refine la_callR (as := [.int (xs (i + 1)), .int (xs (i + 2))]) ld_496 lc_57 lf_209 rfl (Nat.le_of_ble_eq_true rfl) (by decide +kernel) (Nat.le_of_ble_eq_true rfl) (MO_way_ok (xs (i + 1)) (xs (i + 2)) SR v SR2 e2) hc ?_
  exact la_eq ld_499 rfl hr
theorem lw_ways (hL : i + 6 ≤ L) (hL2 : L ≤ 3072) (hc : ca ≤ mMc 231 ∧ cb ≤ mMs 231) (H : INV SC SR) (h : ∀ S R, INV S R → Fin1 (1026, LcL i, [], LW0 L xs S R, (ca, cb))) : Fin1 (504, LcL i, [], LW0 L xs SC SR, (ca, cb)) := by
  obtain ⟨v, SC2, e1, v2, SR2, e2, rfl, hI⟩ := S_ways H (xs (i + 1)) (xs (i + 2)) (xs (i + 3)) (xs (i + 4)) (xs (i + 5))
  obtain ⟨lw, hr⟩ := h SC2 SR2 hI
  refine ⟨lw, ?_⟩
  refine Rn.step ld_504 rfl ?_
  refine la_arg (k := 1) (n := 1) ld_505 ld_506 ld_507 ld_508 ld_509 hL hL2 (by decide) (by decide) ?_
  refine la_arg (k := 2) (n := 2) ld_510 ld_511 ld_512 ld_513 ld_514 hL hL2 (by decide) (by decide) ?_
  refine la_arg (k := 3) (n := 3) ld_515 ld_516 ld_517 ld_518 ld_519 hL hL2 (by decide) (by decide) ?_
  refine la_arg (k := 4) (n := 4) ld_520 ld_521 ld_522 ld_523 ld_524 hL hL2 (by decide) (by decide) ?_
  refine la_arg (k := 5) (n := 5) ld_525 ld_526 ld_527 ld_528 ld_529 hL hL2 (by decide) (by decide) ?_
  refine la_callC (as := [.int (xs (i + 1)), .int (xs (i + 2)), .int (xs (i + 3)), .int (xs (i + 4)), .int (xs (i + 5))]) ld_530 lc_58 lf_57 rfl (Nat.le_of_ble_eq_true rfl) (by decide +kernel) (Nat.le_of_ble_eq_true rfl) (TR_ways_ok (xs (i + 1)) (xs (i + 2)) (xs (i + 3)) (xs (i + 4)) (xs (i + 5)) SC v SC2 e1) hc ?_
  refine Rn.step ld_533 rfl ?_
  refine la_arg (k := 1) (n := 1) ld_534 ld_535 ld_536 ld_537 ld_538 hL hL2 (by decide) (by decide) ?_
  refine la_arg (k := 2) (n := 2) ld_539 ld_540 ld_541 ld_542 ld_543 hL hL2 (by decide) (by decide) ?_
  refine la_arg (k := 3) (n := 3) ld_544 ld_545 ld_546 ld_547 ld_548 hL hL2 (by decide) (by decide) ?_
  refine la_arg (k := 4) (n := 4) ld_549 ld_550 ld_551 ld_552 ld_553 hL hL2 (by decide) (by decide) ?_
  refine la_arg (k := 5) (n := 5) ld_554 ld_555 ld_556 ld_557 ld_558 hL hL2 (by decide) (by decide) ?_
  refine la_callR (as := [.int (xs (i + 1)), .int (xs (i + 2)), .int (xs (i + 3)), .int (xs (i + 4)), .int (xs (i + 5))]) ld_559 lc_61 lf_143 rfl (Nat.le_of_ble_eq_true rfl) (by decide +kernel) (Nat.le_of_ble_eq_true rfl) (MO_ways_ok (xs (i + 1)) (xs (i + 2)) (xs (i + 3)) (xs (i + 4)) (xs (i + 5)) SR v SR2 e2) hc ?_
  exact la_eq ld_562 rfl hr
theorem lw_go (hL : i + 6 ≤ L) (hL2 : L ≤ 3072) (hc : ca ≤ mMc 231 ∧ cb ≤ mMs 231) (H : INV SC SR) (h : ∀ S R, INV S R → Fin1 (1026, LcL i, [], LW0 L xs S R, (ca, cb))) : Fin1 (567, LcL i, [], LW0 L xs SC SR, (ca, cb)) := by
  obtain ⟨v, SC2, e1, v2, SR2, e2, rfl, hI⟩ := S_go H (xs (i + 1))
  obtain ⟨lw, hr⟩ := h SC2 SR2 hI
  refine ⟨lw, ?_⟩
  refine Rn.step ld_567 rfl ?_
  refine la_arg (k := 1) (n := 1) ld_568 ld_569 ld_570 ld_571 ld_572 hL hL2 (by decide) (by decide) ?_
  refine la_callC (as := [.int (xs (i + 1))]) ld_573 lc_62 lf_68 rfl (Nat.le_of_ble_eq_true rfl) (by decide +kernel) (Nat.le_of_ble_eq_true rfl) (TR_go_ok (xs (i + 1)) SC v SC2 e1) hc ?_
  refine Rn.step ld_576 rfl ?_
  refine la_arg (k := 1) (n := 1) ld_577 ld_578 ld_579 ld_580 ld_581 hL hL2 (by decide) (by decide) ?_
  refine la_callR (as := [.int (xs (i + 1))]) ld_582 lc_65 lf_184 rfl (Nat.le_of_ble_eq_true rfl) (by decide +kernel) (Nat.le_of_ble_eq_true rfl) (MO_go_ok (xs (i + 1)) SR v SR2 e2) hc ?_
  exact la_eq ld_585 rfl hr
theorem lw_wrong (hL : i + 6 ≤ L) (hL2 : L ≤ 3072) (hc : ca ≤ mMc 231 ∧ cb ≤ mMs 231) (H : INV SC SR) (h : ∀ S R, INV S R → Fin1 (1026, LcL i, [], LW0 L xs S R, (ca, cb))) : Fin1 (590, LcL i, [], LW0 L xs SC SR, (ca, cb)) := by
  obtain ⟨v, SC2, e1, v2, SR2, e2, rfl, hI⟩ := S_wrong H (xs (i + 1))
  obtain ⟨lw, hr⟩ := h SC2 SR2 hI
  refine ⟨lw, ?_⟩
  refine Rn.step ld_590 rfl ?_
  refine la_arg (k := 1) (n := 1) ld_591 ld_592 ld_593 ld_594 ld_595 hL hL2 (by decide) (by decide) ?_
  refine la_callC (as := [.int (xs (i + 1))]) ld_596 lc_66 lf_90 rfl (Nat.le_of_ble_eq_true rfl) (by decide +kernel) (Nat.le_of_ble_eq_true rfl) (TR_wrong_ok (xs (i + 1)) SC v SC2 e1) hc ?_
  refine Rn.step ld_599 rfl ?_
  refine la_arg (k := 1) (n := 1) ld_600 ld_601 ld_602 ld_603 ld_604 hL hL2 (by decide) (by decide) ?_
  refine la_callR (as := [.int (xs (i + 1))]) ld_605 lc_69 lf_215 rfl (Nat.le_of_ble_eq_true rfl) (by decide +kernel) (Nat.le_of_ble_eq_true rfl) (MO_wrong_ok (xs (i + 1)) SR v SR2 e2) hc ?_
  exact la_eq ld_608 rfl hr
theorem lw_feed (hL : i + 6 ≤ L) (hL2 : L ≤ 3072) (hc : ca ≤ mMc 231 ∧ cb ≤ mMs 231) (H : INV SC SR) (h : ∀ S R, INV S R → Fin1 (1026, LcL i, [], LW0 L xs S R, (ca, cb))) : Fin1 (613, LcL i, [], LW0 L xs SC SR, (ca, cb)) := by
  obtain ⟨v, SC2, e1, v2, SR2, e2, rfl, hI⟩ := S_feed H (xs (i + 1)) ((llsh (Int32.toInt64 (xs (i + 2))) (Int8.ofInt 32).toInt32) ||| ((Int32.toInt64 (xs (i + 3))) &&& (4294967295)))
  obtain ⟨lw, hr⟩ := h SC2 SR2 hI
  refine ⟨lw, ?_⟩
  refine Rn.step ld_613 rfl ?_
  refine la_arg (k := 1) (n := 1) ld_614 ld_615 ld_616 ld_617 ld_618 hL hL2 (by decide) (by decide) ?_
  refine la_arg (k := 2) (n := 2) ld_619 ld_620 ld_621 ld_622 ld_623 hL hL2 (by decide) (by decide) ?_
  refine Rn.step ld_624 rfl ?_
  refine Rn.step ld_625 rfl ?_
  refine Rn.step ld_627 rfl ?_
  refine la_arg (k := 3) (n := 3) ld_628 ld_629 ld_630 ld_631 ld_632 hL hL2 (by decide) (by decide) ?_
  refine Rn.step ld_633 rfl ?_
  refine Rn.step ld_634 (la_ldc2 ll_70) ?_
  refine Rn.step ld_637 rfl ?_
  refine Rn.step ld_638 rfl ?_
  refine la_callC (as := [.int (xs (i + 1)), .long ((llsh (Int32.toInt64 (xs (i + 2))) (Int8.ofInt 32).toInt32) ||| ((Int32.toInt64 (xs (i + 3))) &&& (4294967295)))]) ld_639 lc_72 lf_95 rfl (Nat.le_of_ble_eq_true rfl) (by decide +kernel) (Nat.le_of_ble_eq_true rfl) (TR_feed_ok (xs (i + 1)) ((llsh (Int32.toInt64 (xs (i + 2))) (Int8.ofInt 32).toInt32) ||| ((Int32.toInt64 (xs (i + 3))) &&& (4294967295))) SC v SC2 e1) hc ?_
  refine Rn.step ld_642 rfl ?_
  refine la_arg (k := 1) (n := 1) ld_643 ld_644 ld_645 ld_646 ld_647 hL hL2 (by decide) (by decide) ?_
  refine la_arg (k := 2) (n := 2) ld_648 ld_649 ld_650 ld_651 ld_652 hL hL2 (by decide) (by decide) ?_
  refine Rn.step ld_653 rfl ?_
  refine Rn.step ld_654 rfl ?_
  refine Rn.step ld_656 rfl ?_
  refine la_arg (k := 3) (n := 3) ld_657 ld_658 ld_659 ld_660 ld_661 hL hL2 (by decide) (by decide) ?_
  refine Rn.step ld_662 rfl ?_
  refine Rn.step ld_663 (la_ldc2 ll_70) ?_
  refine Rn.step ld_666 rfl ?_
  refine Rn.step ld_667 rfl ?_
  refine la_callR (as := [.int (xs (i + 1)), .long ((llsh (Int32.toInt64 (xs (i + 2))) (Int8.ofInt 32).toInt32) ||| ((Int32.toInt64 (xs (i + 3))) &&& (4294967295)))]) ld_668 lc_76 lf_155 rfl (Nat.le_of_ble_eq_true rfl) (by decide +kernel) (Nat.le_of_ble_eq_true rfl) (MO_feed_ok (xs (i + 1)) ((llsh (Int32.toInt64 (xs (i + 2))) (Int8.ofInt 32).toInt32) ||| ((Int32.toInt64 (xs (i + 3))) &&& (4294967295))) SR v SR2 e2) hc ?_
  exact la_eq ld_671 rfl hr
theorem lw_order (hL : i + 6 ≤ L) (hL2 : L ≤ 3072) (hc : ca ≤ mMc 231 ∧ cb ≤ mMs 231) (H : INV SC SR) (h : ∀ S R, INV S R → Fin1 (1026, LcL i, [], LW0 L xs S R, (ca, cb))) : Fin1 (676, LcL i, [], LW0 L xs SC SR, (ca, cb)) := by
  obtain ⟨v, SC2, e1, v2, SR2, e2, rfl, hI⟩ := S_order H (xs (i + 1))
  obtain ⟨lw, hr⟩ := h SC2 SR2 hI
  refine ⟨lw, ?_⟩
  refine Rn.step ld_676 rfl ?_
  refine la_arg (k := 1) (n := 1) ld_677 ld_678 ld_679 ld_680 ld_681 hL hL2 (by decide) (by decide) ?_
  refine la_callC (as := [.int (xs (i + 1))]) ld_682 lc_77 lf_97 rfl (Nat.le_of_ble_eq_true rfl) (by decide +kernel) (Nat.le_of_ble_eq_true rfl) (TR_order_ok (xs (i + 1)) SC v SC2 e1) hc ?_
  refine Rn.step ld_685 rfl ?_
  refine la_arg (k := 1) (n := 1) ld_686 ld_687 ld_688 ld_689 ld_690 hL hL2 (by decide) (by decide) ?_
  refine la_callR (as := [.int (xs (i + 1))]) ld_691 lc_80 lf_156 rfl (Nat.le_of_ble_eq_true rfl) (by decide +kernel) (Nat.le_of_ble_eq_true rfl) (MO_order_ok (xs (i + 1)) SR v SR2 e2) hc ?_
  exact la_eq ld_694 rfl hr
theorem lw_fault (hL : i + 6 ≤ L) (hL2 : L ≤ 3072) (hc : ca ≤ mMc 231 ∧ cb ≤ mMs 231) (H : INV SC SR) (h : ∀ S R, INV S R → Fin1 (1026, LcL i, [], LW0 L xs S R, (ca, cb))) : Fin1 (699, LcL i, [], LW0 L xs SC SR, (ca, cb)) := by
  obtain ⟨v, SC2, e1, v2, SR2, e2, rfl, hI⟩ := S_fault H 
  obtain ⟨lw, hr⟩ := h SC2 SR2 hI
  refine ⟨lw, ?_⟩
  refine Rn.step ld_699 rfl ?_
  refine la_callC (as := []) ld_700 lc_81 lf_111 rfl (Nat.le_of_ble_eq_true rfl) (by decide +kernel) (Nat.le_of_ble_eq_true rfl) (TR_fault_ok  SC v SC2 e1) hc ?_
  refine Rn.step ld_703 rfl ?_
  refine la_callR (as := []) ld_704 lc_85 lf_169 rfl (Nat.le_of_ble_eq_true rfl) (by decide +kernel) (Nat.le_of_ble_eq_true rfl) (MO_fault_ok  SR v SR2 e2) hc ?_
  exact la_eq ld_707 rfl hr
theorem lw_force (hL : i + 6 ≤ L) (hL2 : L ≤ 3072) (hc : ca ≤ mMc 231 ∧ cb ≤ mMs 231) (H : INV SC SR) (h : ∀ S R, INV S R → Fin1 (1026, LcL i, [], LW0 L xs S R, (ca, cb))) : Fin1 (712, LcL i, [], LW0 L xs SC SR, (ca, cb)) := by
  obtain ⟨v, SC2, e1, v2, SR2, e2, rfl, hI⟩ := S_force H (xs (i + 1)) (xs (i + 2))
  obtain ⟨lw, hr⟩ := h SC2 SR2 hI
  refine ⟨lw, ?_⟩
  refine Rn.step ld_712 rfl ?_
  refine la_arg (k := 1) (n := 1) ld_713 ld_714 ld_715 ld_716 ld_717 hL hL2 (by decide) (by decide) ?_
  refine la_arg (k := 2) (n := 2) ld_718 ld_719 ld_720 ld_721 ld_722 hL hL2 (by decide) (by decide) ?_
  refine la_callC (as := [.int (xs (i + 1)), .int (xs (i + 2))]) ld_723 lc_86 lf_112 rfl (Nat.le_of_ble_eq_true rfl) (by decide +kernel) (Nat.le_of_ble_eq_true rfl) (TR_force_ok (xs (i + 1)) (xs (i + 2)) SC v SC2 e1) hc ?_
  refine Rn.step ld_726 rfl ?_
  refine la_arg (k := 1) (n := 1) ld_727 ld_728 ld_729 ld_730 ld_731 hL hL2 (by decide) (by decide) ?_
  refine la_arg (k := 2) (n := 2) ld_732 ld_733 ld_734 ld_735 ld_736 hL hL2 (by decide) (by decide) ?_
  refine la_callR (as := [.int (xs (i + 1)), .int (xs (i + 2))]) ld_737 lc_89 lf_170 rfl (Nat.le_of_ble_eq_true rfl) (by decide +kernel) (Nat.le_of_ble_eq_true rfl) (MO_force_ok (xs (i + 1)) (xs (i + 2)) SR v SR2 e2) hc ?_
  exact la_eq ld_740 rfl hr
theorem lw_ticket (hL : i + 6 ≤ L) (hL2 : L ≤ 3072) (hc : ca ≤ mMc 231 ∧ cb ≤ mMs 231) (H : INV SC SR) (h : ∀ S R, INV S R → Fin1 (1026, LcL i, [], LW0 L xs S R, (ca, cb))) : Fin1 (745, LcL i, [], LW0 L xs SC SR, (ca, cb)) := by
  obtain ⟨v, SC2, e1, v2, SR2, e2, rfl, hI⟩ := S_ticket H (xs (i + 1)) (xs (i + 2)) (xs (i + 3)) (xs (i + 4))
  obtain ⟨lw, hr⟩ := h SC2 SR2 hI
  refine ⟨lw, ?_⟩
  refine Rn.step ld_745 rfl ?_
  refine la_arg (k := 1) (n := 1) ld_746 ld_747 ld_748 ld_749 ld_750 hL hL2 (by decide) (by decide) ?_
  refine la_arg (k := 2) (n := 2) ld_751 ld_752 ld_753 ld_754 ld_755 hL hL2 (by decide) (by decide) ?_
  refine la_arg (k := 3) (n := 3) ld_756 ld_757 ld_758 ld_759 ld_760 hL hL2 (by decide) (by decide) ?_
  refine la_arg (k := 4) (n := 4) ld_761 ld_762 ld_763 ld_764 ld_765 hL hL2 (by decide) (by decide) ?_
  refine la_callC (as := [.int (xs (i + 1)), .int (xs (i + 2)), .int (xs (i + 3)), .int (xs (i + 4))]) ld_766 lc_90 lf_114 rfl (Nat.le_of_ble_eq_true rfl) (by decide +kernel) (Nat.le_of_ble_eq_true rfl) (TR_ticket_ok (xs (i + 1)) (xs (i + 2)) (xs (i + 3)) (xs (i + 4)) SC v SC2 e1) hc ?_
  refine Rn.step ld_769 rfl ?_
  refine la_arg (k := 1) (n := 1) ld_770 ld_771 ld_772 ld_773 ld_774 hL hL2 (by decide) (by decide) ?_
  refine la_arg (k := 2) (n := 2) ld_775 ld_776 ld_777 ld_778 ld_779 hL hL2 (by decide) (by decide) ?_
  refine la_arg (k := 3) (n := 3) ld_780 ld_781 ld_782 ld_783 ld_784 hL hL2 (by decide) (by decide) ?_
  refine la_arg (k := 4) (n := 4) ld_785 ld_786 ld_787 ld_788 ld_789 hL hL2 (by decide) (by decide) ?_
  refine la_callR (as := [.int (xs (i + 1)), .int (xs (i + 2)), .int (xs (i + 3)), .int (xs (i + 4))]) ld_790 lc_93 lf_216 rfl (Nat.le_of_ble_eq_true rfl) (by decide +kernel) (Nat.le_of_ble_eq_true rfl) (MO_ticket_ok (xs (i + 1)) (xs (i + 2)) (xs (i + 3)) (xs (i + 4)) SR v SR2 e2) hc ?_
  exact la_eq ld_793 rfl hr
theorem lw_clocks (hL : i + 6 ≤ L) (hL2 : L ≤ 3072) (hc : ca ≤ mMc 231 ∧ cb ≤ mMs 231) (H : INV SC SR) (h : ∀ S R, INV S R → Fin1 (1026, LcL i, [], LW0 L xs S R, (ca, cb))) : Fin1 (798, LcL i, [], LW0 L xs SC SR, (ca, cb)) := by
  obtain ⟨v, SC2, e1, v2, SR2, e2, rfl, hI⟩ := S_clocks H (xs (i + 1)) (xs (i + 2)) (xs (i + 3))
  obtain ⟨lw, hr⟩ := h SC2 SR2 hI
  refine ⟨lw, ?_⟩
  refine Rn.step ld_798 rfl ?_
  refine la_arg (k := 1) (n := 1) ld_799 ld_800 ld_801 ld_802 ld_803 hL hL2 (by decide) (by decide) ?_
  refine la_arg (k := 2) (n := 2) ld_804 ld_805 ld_806 ld_807 ld_808 hL hL2 (by decide) (by decide) ?_
  refine la_arg (k := 3) (n := 3) ld_809 ld_810 ld_811 ld_812 ld_813 hL hL2 (by decide) (by decide) ?_
  refine la_callC (as := [.int (xs (i + 1)), .int (xs (i + 2)), .int (xs (i + 3))]) ld_814 lc_94 lf_118 rfl (Nat.le_of_ble_eq_true rfl) (by decide +kernel) (Nat.le_of_ble_eq_true rfl) (TR_clocks_ok (xs (i + 1)) (xs (i + 2)) (xs (i + 3)) SC v SC2 e1) hc ?_
  refine Rn.step ld_817 rfl ?_
  refine la_arg (k := 1) (n := 1) ld_818 ld_819 ld_820 ld_821 ld_822 hL hL2 (by decide) (by decide) ?_
  refine la_arg (k := 2) (n := 2) ld_823 ld_824 ld_825 ld_826 ld_827 hL hL2 (by decide) (by decide) ?_
  refine la_arg (k := 3) (n := 3) ld_828 ld_829 ld_830 ld_831 ld_832 hL hL2 (by decide) (by decide) ?_
  refine la_callR (as := [.int (xs (i + 1)), .int (xs (i + 2)), .int (xs (i + 3))]) ld_833 lc_97 lf_218 rfl (Nat.le_of_ble_eq_true rfl) (by decide +kernel) (Nat.le_of_ble_eq_true rfl) (MO_clocks_ok (xs (i + 1)) (xs (i + 2)) (xs (i + 3)) SR v SR2 e2) hc ?_
  exact la_eq ld_836 rfl hr
theorem lw_need (hL : i + 6 ≤ L) (hL2 : L ≤ 3072) (hc : ca ≤ mMc 231 ∧ cb ≤ mMs 231) (H : INV SC SR) (h : ∀ S R, INV S R → Fin1 (1026, LcL i, [], LW0 L xs S R, (ca, cb))) : Fin1 (841, LcL i, [], LW0 L xs SC SR, (ca, cb)) := by
  obtain ⟨v, SC2, e1, v2, SR2, e2, rfl, hI⟩ := S_need H (xs (i + 1)) (xs (i + 2))
  obtain ⟨lw, hr⟩ := h SC2 SR2 hI
  refine ⟨lw, ?_⟩
  refine Rn.step ld_841 rfl ?_
  refine la_arg (k := 1) (n := 1) ld_842 ld_843 ld_844 ld_845 ld_846 hL hL2 (by decide) (by decide) ?_
  refine la_arg (k := 2) (n := 2) ld_847 ld_848 ld_849 ld_850 ld_851 hL hL2 (by decide) (by decide) ?_
  refine la_callC (as := [.int (xs (i + 1)), .int (xs (i + 2))]) ld_852 lc_98 lf_121 rfl (Nat.le_of_ble_eq_true rfl) (by decide +kernel) (Nat.le_of_ble_eq_true rfl) (TR_need_ok (xs (i + 1)) (xs (i + 2)) SC v SC2 e1) hc ?_
  refine Rn.step ld_855 rfl ?_
  refine la_arg (k := 1) (n := 1) ld_856 ld_857 ld_858 ld_859 ld_860 hL hL2 (by decide) (by decide) ?_
  refine la_arg (k := 2) (n := 2) ld_861 ld_862 ld_863 ld_864 ld_865 hL hL2 (by decide) (by decide) ?_
  refine la_callR (as := [.int (xs (i + 1)), .int (xs (i + 2))]) ld_866 lc_101 lf_220 rfl (Nat.le_of_ble_eq_true rfl) (by decide +kernel) (Nat.le_of_ble_eq_true rfl) (MO_need_ok (xs (i + 1)) (xs (i + 2)) SR v SR2 e2) hc ?_
  exact la_eq ld_869 rfl hr
theorem lw_shifts (hL : i + 6 ≤ L) (hL2 : L ≤ 3072) (hc : ca ≤ mMc 231 ∧ cb ≤ mMs 231) (H : INV SC SR) (h : ∀ S R, INV S R → Fin1 (1026, LcL i, [], LW0 L xs S R, (ca, cb))) : Fin1 (874, LcL i, [], LW0 L xs SC SR, (ca, cb)) := by
  obtain ⟨v, SC2, e1, v2, SR2, e2, rfl, hI⟩ := S_shifts H (xs (i + 1))
  obtain ⟨lw, hr⟩ := h SC2 SR2 hI
  refine ⟨lw, ?_⟩
  refine Rn.step ld_874 rfl ?_
  refine la_arg (k := 1) (n := 1) ld_875 ld_876 ld_877 ld_878 ld_879 hL hL2 (by decide) (by decide) ?_
  refine la_callC (as := [.int (xs (i + 1))]) ld_880 lc_102 lf_122 rfl (Nat.le_of_ble_eq_true rfl) (by decide +kernel) (Nat.le_of_ble_eq_true rfl) (TR_shifts_ok (xs (i + 1)) SC v SC2 e1) hc ?_
  refine Rn.step ld_883 rfl ?_
  refine la_arg (k := 1) (n := 1) ld_884 ld_885 ld_886 ld_887 ld_888 hL hL2 (by decide) (by decide) ?_
  refine la_callR (as := [.int (xs (i + 1))]) ld_889 lc_105 lf_221 rfl (Nat.le_of_ble_eq_true rfl) (by decide +kernel) (Nat.le_of_ble_eq_true rfl) (MO_shifts_ok (xs (i + 1)) SR v SR2 e2) hc ?_
  exact la_eq ld_892 rfl hr
theorem lw_beside (hL : i + 6 ≤ L) (hL2 : L ≤ 3072) (hc : ca ≤ mMc 231 ∧ cb ≤ mMs 231) (H : INV SC SR) (h : ∀ S R, INV S R → Fin1 (1026, LcL i, [], LW0 L xs S R, (ca, cb))) : Fin1 (897, LcL i, [], LW0 L xs SC SR, (ca, cb)) := by
  obtain ⟨v, SC2, e1, v2, SR2, e2, rfl, hI⟩ := R_beside H (xs (i + 1)) (xs (i + 2)) (xs (i + 3))
  obtain ⟨lw, hr⟩ := h SC2 SR2 hI
  refine ⟨lw, ?_⟩
  refine Rn.step ld_897 rfl ?_
  refine la_arg (k := 1) (n := 1) ld_898 ld_899 ld_900 ld_901 ld_902 hL hL2 (by decide) (by decide) ?_
  refine la_arg (k := 2) (n := 2) ld_903 ld_904 ld_905 ld_906 ld_907 hL hL2 (by decide) (by decide) ?_
  refine la_arg (k := 3) (n := 3) ld_908 ld_909 ld_910 ld_911 ld_912 hL hL2 (by decide) (by decide) ?_
  refine la_callC (as := [.int (xs (i + 1)), .int (xs (i + 2)), .int (xs (i + 3))]) ld_913 lc_106 lf_126 rfl (Nat.le_of_ble_eq_true rfl) (by decide +kernel) (Nat.le_of_ble_eq_true rfl) (TR_beside_ok (xs (i + 1)) (xs (i + 2)) (xs (i + 3)) SC v SC2 e1) hc ?_
  refine Rn.step ld_916 rfl ?_
  refine la_arg (k := 1) (n := 1) ld_917 ld_918 ld_919 ld_920 ld_921 hL hL2 (by decide) (by decide) ?_
  refine la_arg (k := 2) (n := 2) ld_922 ld_923 ld_924 ld_925 ld_926 hL hL2 (by decide) (by decide) ?_
  refine la_arg (k := 3) (n := 3) ld_927 ld_928 ld_929 ld_930 ld_931 hL hL2 (by decide) (by decide) ?_
  refine la_callR (as := [.int (xs (i + 1)), .int (xs (i + 2)), .int (xs (i + 3))]) ld_932 lc_109 lf_225 rfl (Nat.le_of_ble_eq_true rfl) (by decide +kernel) (Nat.le_of_ble_eq_true rfl) (MO_beside_ok (xs (i + 1)) (xs (i + 2)) (xs (i + 3)) SR v SR2 e2) hc ?_
  exact la_eq ld_935 rfl hr
theorem lw_offer (hL : i + 6 ≤ L) (hL2 : L ≤ 3072) (hc : ca ≤ mMc 231 ∧ cb ≤ mMs 231) (H : INV SC SR) (h : ∀ S R, INV S R → Fin1 (1026, LcL i, [], LW0 L xs S R, (ca, cb))) : Fin1 (940, LcL i, [], LW0 L xs SC SR, (ca, cb)) := by
  obtain ⟨v, SC2, e1, v2, SR2, e2, rfl, hI⟩ := S_offer H (xs (i + 1)) (xs (i + 2)) (xs (i + 3)) (xs (i + 4))
  obtain ⟨lw, hr⟩ := h SC2 SR2 hI
  refine ⟨lw, ?_⟩
  refine Rn.step ld_940 rfl ?_
  refine la_arg (k := 1) (n := 1) ld_941 ld_942 ld_943 ld_944 ld_945 hL hL2 (by decide) (by decide) ?_
  refine la_arg (k := 2) (n := 2) ld_946 ld_947 ld_948 ld_949 ld_950 hL hL2 (by decide) (by decide) ?_
  refine la_arg (k := 3) (n := 3) ld_951 ld_952 ld_953 ld_954 ld_955 hL hL2 (by decide) (by decide) ?_
  refine la_arg (k := 4) (n := 4) ld_956 ld_957 ld_958 ld_959 ld_960 hL hL2 (by decide) (by decide) ?_
  refine la_callC (as := [.int (xs (i + 1)), .int (xs (i + 2)), .int (xs (i + 3)), .int (xs (i + 4))]) ld_961 lc_110 lf_130 rfl (Nat.le_of_ble_eq_true rfl) (by decide +kernel) (Nat.le_of_ble_eq_true rfl) (TR_offer_ok (xs (i + 1)) (xs (i + 2)) (xs (i + 3)) (xs (i + 4)) SC v SC2 e1) hc ?_
  refine Rn.step ld_964 rfl ?_
  refine la_arg (k := 1) (n := 1) ld_965 ld_966 ld_967 ld_968 ld_969 hL hL2 (by decide) (by decide) ?_
  refine la_arg (k := 2) (n := 2) ld_970 ld_971 ld_972 ld_973 ld_974 hL hL2 (by decide) (by decide) ?_
  refine la_arg (k := 3) (n := 3) ld_975 ld_976 ld_977 ld_978 ld_979 hL hL2 (by decide) (by decide) ?_
  refine la_arg (k := 4) (n := 4) ld_980 ld_981 ld_982 ld_983 ld_984 hL hL2 (by decide) (by decide) ?_
  refine la_callR (as := [.int (xs (i + 1)), .int (xs (i + 2)), .int (xs (i + 3)), .int (xs (i + 4))]) ld_985 lc_113 lf_224 rfl (Nat.le_of_ble_eq_true rfl) (by decide +kernel) (Nat.le_of_ble_eq_true rfl) (MO_offer_ok (xs (i + 1)) (xs (i + 2)) (xs (i + 3)) (xs (i + 4)) SR v SR2 e2) hc ?_
  exact la_eq ld_988 rfl hr
theorem lw_plan (hL : i + 6 ≤ L) (hL2 : L ≤ 3072) (hc : ca ≤ mMc 231 ∧ cb ≤ mMs 231) (H : INV SC SR) (h : ∀ S R, INV S R → Fin1 (1026, LcL i, [], LW0 L xs S R, (ca, cb))) : Fin1 (993, LcL i, [], LW0 L xs SC SR, (ca, cb)) := by
  obtain ⟨v, SC2, e1, v2, SR2, e2, rfl, hI⟩ := R_plan H (xs (i + 1)) (xs (i + 2))
  obtain ⟨lw, hr⟩ := h SC2 SR2 hI
  refine ⟨lw, ?_⟩
  refine Rn.step ld_993 rfl ?_
  refine la_arg (k := 1) (n := 1) ld_994 ld_995 ld_996 ld_997 ld_998 hL hL2 (by decide) (by decide) ?_
  refine la_arg (k := 2) (n := 2) ld_999 ld_1000 ld_1001 ld_1002 ld_1003 hL hL2 (by decide) (by decide) ?_
  refine la_callC (as := [.int (xs (i + 1)), .int (xs (i + 2))]) ld_1004 lc_114 lf_131 rfl (Nat.le_of_ble_eq_true rfl) (by decide +kernel) (Nat.le_of_ble_eq_true rfl) (TR_plan_ok (xs (i + 1)) (xs (i + 2)) SC v SC2 e1) hc ?_
  refine Rn.step ld_1007 rfl ?_
  refine la_arg (k := 1) (n := 1) ld_1008 ld_1009 ld_1010 ld_1011 ld_1012 hL hL2 (by decide) (by decide) ?_
  refine la_arg (k := 2) (n := 2) ld_1013 ld_1014 ld_1015 ld_1016 ld_1017 hL hL2 (by decide) (by decide) ?_
  refine la_callR (as := [.int (xs (i + 1)), .int (xs (i + 2))]) ld_1018 lc_117 lf_230 rfl (Nat.le_of_ble_eq_true rfl) (by decide +kernel) (Nat.le_of_ble_eq_true rfl) (MO_plan_ok (xs (i + 1)) (xs (i + 2)) SR v SR2 e2) hc ?_
  exact la_eq ld_1021 rfl hr
end
