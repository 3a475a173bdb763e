/-! the law: its script, its cases -/
section Ls
variable {Θ : Th} {d mc ms : Nat} {y : MethodName} {cc : ByteArray} {nL : Nat} {ret : Option FieldType} {cl sl n : Nat} {G : HP} {pc pc' : Nat} {ls : LV} {st : List Value} {Q : QT} {b L : Nat} {xs : Nat → Int32}
theorem E_sld {j : Nat} {x : Int32} (hX : ∀ U H, tX Θ U H → XS b L xs (tb Θ) U H) (hd : Dc cc pc .iaload 1 pc') (hx : x = nI j) (hj : j < L) (hL : L < 2 ^ 31) (K : E Θ d mc ms y cc nL ret cl sl n G pc' ls (.int (xs j) :: st) Q) : E Θ d mc ms y cc nL ret cl sl n G pc ls (.int x :: .ref b :: st) Q := by
  obtain ⟨hd, rfl⟩ := hd
  subst hx
  intro a a' p e R s m args below meth c hE hn H locs la hH hS hl Z hz
  obtain ⟨h1, hbl⟩ := hX s s.heap hE.2.2.2.2.2.2.2.2.1
  refine va_sld hE.1 hE.2.1 h1 (Nat.lt_of_lt_of_le hbl hE.2.2.2.2.2.2.2.2.2.1) (Nat.not_le.mpr hbl) hS (vp_in_nI hj hL) hd ?_
  rw [nI_clamp (Nat.lt_trans hj hL)]
  exact K a a' p e R s m args below meth c hE hn H locs la hH hS hl Z hz
theorem E_slen (hX : ∀ U H, tX Θ U H → XS b L xs (tb Θ) U H) (hd : Dc cc pc .arraylength 1 pc') (K : E Θ d mc ms y cc nL ret cl sl n G pc' ls (.int (nI L) :: st) Q) : E Θ d mc ms y cc nL ret cl sl n G pc ls (.ref b :: st) Q := by
  obtain ⟨hd, rfl⟩ := hd
  intro a a' p e R s m args below meth c hE hn H locs la hH hS hl Z hz
  obtain ⟨h1, hbl⟩ := hX s s.heap hE.2.2.2.2.2.2.2.2.1
  exact va_slen hE.1 hE.2.1 h1 (Nat.lt_of_lt_of_le hbl hE.2.2.2.2.2.2.2.2.2.1) (Nat.not_le.mpr hbl) hS hd (K a a' p e R s m args below meth c hE hn H locs la hH hS hl Z hz)
end Ls
section Lc
variable {Θ : Th} {S : SS} {b L i : Nat} {xs : Nat → Int32} {adK adV : Nat → Nat} {fv : Value}
theorem c_one (hX : ∀ U H, tX Θ U H → XS b L xs (tb Θ) U H) (hL : L ≤ 3072) (hi : i + 6 ≤ L) (h : JJ S) (K : ∀ S2, JJ S2 → E Θ 130 183 10392 yL_law cL_law 4 (some .boolean) 183 10392 183 (lay Θ S2) 1549 [(3, .int (nI i)), (0, .ref b), (1, .ref (tb Θ + 0)), (2, .ref (tb Θ + 159))] [] (Qi (fun r _ => r = 1))) : E Θ 130 183 10392 yL_law cL_law 4 (some .boolean) 183 10392 183 (lay Θ S) 220 [(3, .int (nI i)), (0, .ref b), (1, .ref (tb Θ + 0)), (2, .ref (tb Θ + 159))] [] (Qi (fun r _ => r = 1)) := by
  refine E_aload_n dL_law_220 rfl ?_
  refine E_aload_n dL_law_221 rfl ?_
  refine E_iload_n dL_law_222 rfl ?_
  refine E_ic (v := 1) dL_law_223 (by decide) ?_
  refine E_iadd dL_law_224 ?_
  refine E_sld (j := i + 1) hX dL_law_225 (nI_add i 1) (by omega) (by omega) ?_
  refine E_aload_n dL_law_226 rfl ?_
  refine E_iload_n dL_law_227 rfl ?_
  refine E_ic (v := 2) dL_law_228 (by decide) ?_
  refine E_iadd dL_law_229 ?_
  refine E_sld (j := i + 2) hX dL_law_230 (nI_add i 2) (by omega) (by omega) ?_
  refine E_V2i vL_13_11 dL_law_231 (Nat.le_of_ble_eq_true rfl) (by decide) (sh_0 _) (j_one h (fun r S1 h1 => ?_))
  refine E_aload_n dL_law_234 rfl ?_
  refine E_aload_n dL_law_235 rfl ?_
  refine E_iload_n dL_law_236 rfl ?_
  refine E_ic (v := 1) dL_law_237 (by decide) ?_
  refine E_iadd dL_law_238 ?_
  refine E_sld (j := i + 1) hX dL_law_239 (nI_add i 1) (by omega) (by omega) ?_
  refine E_aload_n dL_law_240 rfl ?_
  refine E_iload_n dL_law_241 rfl ?_
  refine E_ic (v := 2) dL_law_242 (by decide) ?_
  refine E_iadd dL_law_243 ?_
  refine E_sld (j := i + 2) hX dL_law_244 (nI_add i 2) (by omega) (by omega) ?_
  refine E_V2i vL_17_12 dL_law_245 (Nat.le_of_ble_eq_true rfl) (by decide) (sh_159 _) (h1 (fun S2 h2 => ?_))
  exact E_icmp_eq dL_law_248 (fun _ => K S2 h2) (fun c => absurd rfl c)
theorem c_told (hX : ∀ U H, tX Θ U H → XS b L xs (tb Θ) U H) (hL : L ≤ 3072) (hi : i + 6 ≤ L) (h : JJ S) (K : ∀ S2, JJ S2 → E Θ 130 183 10392 yL_law cL_law 4 (some .boolean) 183 10392 183 (lay Θ S2) 1549 [(3, .int (nI i)), (0, .ref b), (1, .ref (tb Θ + 0)), (2, .ref (tb Θ + 159))] [] (Qi (fun r _ => r = 1))) : E Θ 130 183 10392 yL_law cL_law 4 (some .boolean) 183 10392 183 (lay Θ S) 253 [(3, .int (nI i)), (0, .ref b), (1, .ref (tb Θ + 0)), (2, .ref (tb Θ + 159))] [] (Qi (fun r _ => r = 1)) := by
  refine E_aload_n dL_law_253 rfl ?_
  refine E_aload_n dL_law_254 rfl ?_
  refine E_iload_n dL_law_255 rfl ?_
  refine E_ic (v := 1) dL_law_256 (by decide) ?_
  refine E_iadd dL_law_257 ?_
  refine E_sld (j := i + 1) hX dL_law_258 (nI_add i 1) (by omega) (by omega) ?_
  refine E_aload_n dL_law_259 rfl ?_
  refine E_iload_n dL_law_260 rfl ?_
  refine E_ic (v := 2) dL_law_261 (by decide) ?_
  refine E_iadd dL_law_262 ?_
  refine E_sld (j := i + 2) hX dL_law_263 (nI_add i 2) (by omega) (by omega) ?_
  refine E_V2i vL_18_11 dL_law_264 (Nat.le_of_ble_eq_true rfl) (by decide) (sh_0 _) (j_told h (fun r S1 h1 => ?_))
  refine E_aload_n dL_law_267 rfl ?_
  refine E_aload_n dL_law_268 rfl ?_
  refine E_iload_n dL_law_269 rfl ?_
  refine E_ic (v := 1) dL_law_270 (by decide) ?_
  refine E_iadd dL_law_271 ?_
  refine E_sld (j := i + 1) hX dL_law_272 (nI_add i 1) (by omega) (by omega) ?_
  refine E_aload_n dL_law_273 rfl ?_
  refine E_iload_n dL_law_274 rfl ?_
  refine E_ic (v := 2) dL_law_275 (by decide) ?_
  refine E_iadd dL_law_276 ?_
  refine E_sld (j := i + 2) hX dL_law_277 (nI_add i 2) (by omega) (by omega) ?_
  refine E_V2i vL_21_12 dL_law_278 (Nat.le_of_ble_eq_true rfl) (by decide) (sh_159 _) (h1 (fun S2 h2 => ?_))
  exact E_icmp_eq dL_law_281 (fun _ => K S2 h2) (fun c => absurd rfl c)
theorem c_view (hX : ∀ U H, tX Θ U H → XS b L xs (tb Θ) U H) (hL : L ≤ 3072) (hi : i + 6 ≤ L) (h : JJ S) (K : ∀ S2, JJ S2 → E Θ 130 183 10392 yL_law cL_law 4 (some .boolean) 183 10392 183 (lay Θ S2) 1549 [(3, .int (nI i)), (0, .ref b), (1, .ref (tb Θ + 0)), (2, .ref (tb Θ + 159))] [] (Qi (fun r _ => r = 1))) : E Θ 130 183 10392 yL_law cL_law 4 (some .boolean) 183 10392 183 (lay Θ S) 286 [(3, .int (nI i)), (0, .ref b), (1, .ref (tb Θ + 0)), (2, .ref (tb Θ + 159))] [] (Qi (fun r _ => r = 1)) := by
  refine E_aload_n dL_law_286 rfl ?_
  refine E_aload_n dL_law_287 rfl ?_
  refine E_iload_n dL_law_288 rfl ?_
  refine E_ic (v := 1) dL_law_289 (by decide) ?_
  refine E_iadd dL_law_290 ?_
  refine E_sld (j := i + 1) hX dL_law_291 (nI_add i 1) (by omega) (by omega) ?_
  refine E_aload_n dL_law_292 rfl ?_
  refine E_iload_n dL_law_293 rfl ?_
  refine E_ic (v := 2) dL_law_294 (by decide) ?_
  refine E_iadd dL_law_295 ?_
  refine E_sld (j := i + 2) hX dL_law_296 (nI_add i 2) (by omega) (by omega) ?_
  refine E_V2i vL_22_11 dL_law_297 (Nat.le_of_ble_eq_true rfl) (by decide) (sh_0 _) (j_view h (fun r S1 h1 => ?_))
  refine E_aload_n dL_law_300 rfl ?_
  refine E_aload_n dL_law_301 rfl ?_
  refine E_iload_n dL_law_302 rfl ?_
  refine E_ic (v := 1) dL_law_303 (by decide) ?_
  refine E_iadd dL_law_304 ?_
  refine E_sld (j := i + 1) hX dL_law_305 (nI_add i 1) (by omega) (by omega) ?_
  refine E_aload_n dL_law_306 rfl ?_
  refine E_iload_n dL_law_307 rfl ?_
  refine E_ic (v := 2) dL_law_308 (by decide) ?_
  refine E_iadd dL_law_309 ?_
  refine E_sld (j := i + 2) hX dL_law_310 (nI_add i 2) (by omega) (by omega) ?_
  refine E_V2i vL_25_12 dL_law_311 (Nat.le_of_ble_eq_true rfl) (by decide) (sh_159 _) (h1 (fun S2 h2 => ?_))
  exact E_icmp_eq dL_law_314 (fun _ => K S2 h2) (fun c => absurd rfl c)
theorem c_believes (hX : ∀ U H, tX Θ U H → XS b L xs (tb Θ) U H) (hL : L ≤ 3072) (hi : i + 6 ≤ L) (h : JJ S) (K : ∀ S2, JJ S2 → E Θ 130 183 10392 yL_law cL_law 4 (some .boolean) 183 10392 183 (lay Θ S2) 1549 [(3, .int (nI i)), (0, .ref b), (1, .ref (tb Θ + 0)), (2, .ref (tb Θ + 159))] [] (Qi (fun r _ => r = 1))) : E Θ 130 183 10392 yL_law cL_law 4 (some .boolean) 183 10392 183 (lay Θ S) 319 [(3, .int (nI i)), (0, .ref b), (1, .ref (tb Θ + 0)), (2, .ref (tb Θ + 159))] [] (Qi (fun r _ => r = 1)) := by
  refine E_aload_n dL_law_319 rfl ?_
  refine E_aload_n dL_law_320 rfl ?_
  refine E_iload_n dL_law_321 rfl ?_
  refine E_ic (v := 1) dL_law_322 (by decide) ?_
  refine E_iadd dL_law_323 ?_
  refine E_sld (j := i + 1) hX dL_law_324 (nI_add i 1) (by omega) (by omega) ?_
  refine E_aload_n dL_law_325 rfl ?_
  refine E_iload_n dL_law_326 rfl ?_
  refine E_ic (v := 2) dL_law_327 (by decide) ?_
  refine E_iadd dL_law_328 ?_
  refine E_sld (j := i + 2) hX dL_law_329 (nI_add i 2) (by omega) (by omega) ?_
  refine E_aload_n dL_law_330 rfl ?_
  refine E_iload_n dL_law_331 rfl ?_
  refine E_ic (v := 3) dL_law_332 (by decide) ?_
  refine E_iadd dL_law_333 ?_
  refine E_sld (j := i + 3) hX dL_law_334 (nI_add i 3) (by omega) (by omega) ?_
  refine E_V3i vL_26_11 dL_law_335 (Nat.le_of_ble_eq_true rfl) (by decide) (sh_0 _) (j_believes h (fun r S1 h1 => ?_))
  refine E_aload_n dL_law_338 rfl ?_
  refine E_aload_n dL_law_339 rfl ?_
  refine E_iload_n dL_law_340 rfl ?_
  refine E_ic (v := 1) dL_law_341 (by decide) ?_
  refine E_iadd dL_law_342 ?_
  refine E_sld (j := i + 1) hX dL_law_343 (nI_add i 1) (by omega) (by omega) ?_
  refine E_aload_n dL_law_344 rfl ?_
  refine E_iload_n dL_law_345 rfl ?_
  refine E_ic (v := 2) dL_law_346 (by decide) ?_
  refine E_iadd dL_law_347 ?_
  refine E_sld (j := i + 2) hX dL_law_348 (nI_add i 2) (by omega) (by omega) ?_
  refine E_aload_n dL_law_349 rfl ?_
  refine E_iload_n dL_law_350 rfl ?_
  refine E_ic (v := 3) dL_law_351 (by decide) ?_
  refine E_iadd dL_law_352 ?_
  refine E_sld (j := i + 3) hX dL_law_353 (nI_add i 3) (by omega) (by omega) ?_
  refine E_V3i vL_30_12 dL_law_354 (Nat.le_of_ble_eq_true rfl) (by decide) (sh_159 _) (h1 (fun S2 h2 => ?_))
  exact E_icmp_eq dL_law_357 (fun _ => K S2 h2) (fun c => absurd rfl c)
theorem c_as (hX : ∀ U H, tX Θ U H → XS b L xs (tb Θ) U H) (hL : L ≤ 3072) (hi : i + 6 ≤ L) (h : JJ S) (K : ∀ S2, JJ S2 → E Θ 130 183 10392 yL_law cL_law 4 (some .boolean) 183 10392 183 (lay Θ S2) 1549 [(3, .int (nI i)), (0, .ref b), (1, .ref (tb Θ + 0)), (2, .ref (tb Θ + 159))] [] (Qi (fun r _ => r = 1))) : E Θ 130 183 10392 yL_law cL_law 4 (some .boolean) 183 10392 183 (lay Θ S) 362 [(3, .int (nI i)), (0, .ref b), (1, .ref (tb Θ + 0)), (2, .ref (tb Θ + 159))] [] (Qi (fun r _ => r = 1)) := by
  refine E_aload_n dL_law_362 rfl ?_
  refine E_aload_n dL_law_363 rfl ?_
  refine E_iload_n dL_law_364 rfl ?_
  refine E_ic (v := 1) dL_law_365 (by decide) ?_
  refine E_iadd dL_law_366 ?_
  refine E_sld (j := i + 1) hX dL_law_367 (nI_add i 1) (by omega) (by omega) ?_
  refine E_aload_n dL_law_368 rfl ?_
  refine E_iload_n dL_law_369 rfl ?_
  refine E_ic (v := 2) dL_law_370 (by decide) ?_
  refine E_iadd dL_law_371 ?_
  refine E_sld (j := i + 2) hX dL_law_372 (nI_add i 2) (by omega) (by omega) ?_
  refine E_V2i vL_31_11 dL_law_373 (Nat.le_of_ble_eq_true rfl) (by decide) (sh_0 _) (j_as h (fun r S1 h1 => ?_))
  refine E_aload_n dL_law_376 rfl ?_
  refine E_aload_n dL_law_377 rfl ?_
  refine E_iload_n dL_law_378 rfl ?_
  refine E_ic (v := 1) dL_law_379 (by decide) ?_
  refine E_iadd dL_law_380 ?_
  refine E_sld (j := i + 1) hX dL_law_381 (nI_add i 1) (by omega) (by omega) ?_
  refine E_aload_n dL_law_382 rfl ?_
  refine E_iload_n dL_law_383 rfl ?_
  refine E_ic (v := 2) dL_law_384 (by decide) ?_
  refine E_iadd dL_law_385 ?_
  refine E_sld (j := i + 2) hX dL_law_386 (nI_add i 2) (by omega) (by omega) ?_
  refine E_V2i vL_34_12 dL_law_387 (Nat.le_of_ble_eq_true rfl) (by decide) (sh_159 _) (h1 (fun S2 h2 => ?_))
  exact E_icmp_eq dL_law_390 (fun _ => K S2 h2) (fun c => absurd rfl c)
theorem c_turns (hX : ∀ U H, tX Θ U H → XS b L xs (tb Θ) U H) (hL : L ≤ 3072) (hi : i + 6 ≤ L) (h : JJ S) (K : ∀ S2, JJ S2 → E Θ 130 183 10392 yL_law cL_law 4 (some .boolean) 183 10392 183 (lay Θ S2) 1549 [(3, .int (nI i)), (0, .ref b), (1, .ref (tb Θ + 0)), (2, .ref (tb Θ + 159))] [] (Qi (fun r _ => r = 1))) : E Θ 130 183 10392 yL_law cL_law 4 (some .boolean) 183 10392 183 (lay Θ S) 395 [(3, .int (nI i)), (0, .ref b), (1, .ref (tb Θ + 0)), (2, .ref (tb Θ + 159))] [] (Qi (fun r _ => r = 1)) := by
  refine E_aload_n dL_law_395 rfl ?_
  refine E_aload_n dL_law_396 rfl ?_
  refine E_iload_n dL_law_397 rfl ?_
  refine E_ic (v := 1) dL_law_398 (by decide) ?_
  refine E_iadd dL_law_399 ?_
  refine E_sld (j := i + 1) hX dL_law_400 (nI_add i 1) (by omega) (by omega) ?_
  refine E_aload_n dL_law_401 rfl ?_
  refine E_iload_n dL_law_402 rfl ?_
  refine E_ic (v := 2) dL_law_403 (by decide) ?_
  refine E_iadd dL_law_404 ?_
  refine E_sld (j := i + 2) hX dL_law_405 (nI_add i 2) (by omega) (by omega) ?_
  refine E_V2i vL_35_11 dL_law_406 (Nat.le_of_ble_eq_true rfl) (by decide) (sh_0 _) (j_turns h (fun r S1 h1 => ?_))
  refine E_aload_n dL_law_409 rfl ?_
  refine E_aload_n dL_law_410 rfl ?_
  refine E_iload_n dL_law_411 rfl ?_
  refine E_ic (v := 1) dL_law_412 (by decide) ?_
  refine E_iadd dL_law_413 ?_
  refine E_sld (j := i + 1) hX dL_law_414 (nI_add i 1) (by omega) (by omega) ?_
  refine E_aload_n dL_law_415 rfl ?_
  refine E_iload_n dL_law_416 rfl ?_
  refine E_ic (v := 2) dL_law_417 (by decide) ?_
  refine E_iadd dL_law_418 ?_
  refine E_sld (j := i + 2) hX dL_law_419 (nI_add i 2) (by omega) (by omega) ?_
  refine E_V2i vL_38_12 dL_law_420 (Nat.le_of_ble_eq_true rfl) (by decide) (sh_159 _) (h1 (fun S2 h2 => ?_))
  exact E_icmp_eq dL_law_423 (fun _ => K S2 h2) (fun c => absurd rfl c)
theorem c_set (hX : ∀ U H, tX Θ U H → XS b L xs (tb Θ) U H) (hL : L ≤ 3072) (hi : i + 6 ≤ L) (h : JJ S) (K : ∀ S2, JJ S2 → E Θ 130 183 10392 yL_law cL_law 4 (some .boolean) 183 10392 183 (lay Θ S2) 1549 [(3, .int (nI i)), (0, .ref b), (1, .ref (tb Θ + 0)), (2, .ref (tb Θ + 159))] [] (Qi (fun r _ => r = 1))) : E Θ 130 183 10392 yL_law cL_law 4 (some .boolean) 183 10392 183 (lay Θ S) 428 [(3, .int (nI i)), (0, .ref b), (1, .ref (tb Θ + 0)), (2, .ref (tb Θ + 159))] [] (Qi (fun r _ => r = 1)) := by
  refine E_aload_n dL_law_428 rfl ?_
  refine E_aload_n dL_law_429 rfl ?_
  refine E_iload_n dL_law_430 rfl ?_
  refine E_ic (v := 1) dL_law_431 (by decide) ?_
  refine E_iadd dL_law_432 ?_
  refine E_sld (j := i + 1) hX dL_law_433 (nI_add i 1) (by omega) (by omega) ?_
  refine E_aload_n dL_law_434 rfl ?_
  refine E_iload_n dL_law_435 rfl ?_
  refine E_ic (v := 2) dL_law_436 (by decide) ?_
  refine E_iadd dL_law_437 ?_
  refine E_sld (j := i + 2) hX dL_law_438 (nI_add i 2) (by omega) (by omega) ?_
  refine E_aload_n dL_law_439 rfl ?_
  refine E_iload_n dL_law_440 rfl ?_
  refine E_ic (v := 3) dL_law_441 (by decide) ?_
  refine E_iadd dL_law_442 ?_
  refine E_sld (j := i + 3) hX dL_law_443 (nI_add i 3) (by omega) (by omega) ?_
  refine E_V3i vL_39_11 dL_law_444 (Nat.le_of_ble_eq_true rfl) (by decide) (sh_0 _) (j_set h (fun r S1 h1 => ?_))
  refine E_aload_n dL_law_447 rfl ?_
  refine E_aload_n dL_law_448 rfl ?_
  refine E_iload_n dL_law_449 rfl ?_
  refine E_ic (v := 1) dL_law_450 (by decide) ?_
  refine E_iadd dL_law_451 ?_
  refine E_sld (j := i + 1) hX dL_law_452 (nI_add i 1) (by omega) (by omega) ?_
  refine E_aload_n dL_law_453 rfl ?_
  refine E_iload_n dL_law_454 rfl ?_
  refine E_ic (v := 2) dL_law_455 (by decide) ?_
  refine E_iadd dL_law_456 ?_
  refine E_sld (j := i + 2) hX dL_law_457 (nI_add i 2) (by omega) (by omega) ?_
  refine E_aload_n dL_law_458 rfl ?_
  refine E_iload_n dL_law_459 rfl ?_
  refine E_ic (v := 3) dL_law_460 (by decide) ?_
  refine E_iadd dL_law_461 ?_
  refine E_sld (j := i + 3) hX dL_law_462 (nI_add i 3) (by omega) (by omega) ?_
  refine E_V3i vL_42_12 dL_law_463 (Nat.le_of_ble_eq_true rfl) (by decide) (sh_159 _) (h1 (fun S2 h2 => ?_))
  exact E_icmp_eq dL_law_466 (fun _ => K S2 h2) (fun c => absurd rfl c)
theorem c_rule (hX : ∀ U H, tX Θ U H → XS b L xs (tb Θ) U H) (hL : L ≤ 3072) (hi : i + 6 ≤ L) (h : JJ S) (K : ∀ S2, JJ S2 → E Θ 130 183 10392 yL_law cL_law 4 (some .boolean) 183 10392 183 (lay Θ S2) 1549 [(3, .int (nI i)), (0, .ref b), (1, .ref (tb Θ + 0)), (2, .ref (tb Θ + 159))] [] (Qi (fun r _ => r = 1))) : E Θ 130 183 10392 yL_law cL_law 4 (some .boolean) 183 10392 183 (lay Θ S) 471 [(3, .int (nI i)), (0, .ref b), (1, .ref (tb Θ + 0)), (2, .ref (tb Θ + 159))] [] (Qi (fun r _ => r = 1)) := by
  refine E_aload_n dL_law_471 rfl ?_
  refine E_aload_n dL_law_472 rfl ?_
  refine E_iload_n dL_law_473 rfl ?_
  refine E_ic (v := 1) dL_law_474 (by decide) ?_
  refine E_iadd dL_law_475 ?_
  refine E_sld (j := i + 1) hX dL_law_476 (nI_add i 1) (by omega) (by omega) ?_
  refine E_aload_n dL_law_477 rfl ?_
  refine E_iload_n dL_law_478 rfl ?_
  refine E_ic (v := 2) dL_law_479 (by decide) ?_
  refine E_iadd dL_law_480 ?_
  refine E_sld (j := i + 2) hX dL_law_481 (nI_add i 2) (by omega) (by omega) ?_
  refine E_V2i vL_43_11 dL_law_482 (Nat.le_of_ble_eq_true rfl) (by decide) (sh_0 _) (j_rule h (fun r S1 h1 => ?_))
  refine E_aload_n dL_law_485 rfl ?_
  refine E_aload_n dL_law_486 rfl ?_
  refine E_iload_n dL_law_487 rfl ?_
  refine E_ic (v := 1) dL_law_488 (by decide) ?_
  refine E_iadd dL_law_489 ?_
  refine E_sld (j := i + 1) hX dL_law_490 (nI_add i 1) (by omega) (by omega) ?_
  refine E_aload_n dL_law_491 rfl ?_
  refine E_iload_n dL_law_492 rfl ?_
  refine E_ic (v := 2) dL_law_493 (by decide) ?_
  refine E_iadd dL_law_494 ?_
  refine E_sld (j := i + 2) hX dL_law_495 (nI_add i 2) (by omega) (by omega) ?_
  refine E_V2i vL_46_12 dL_law_496 (Nat.le_of_ble_eq_true rfl) (by decide) (sh_159 _) (h1 (fun S2 h2 => ?_))
  exact E_icmp_eq dL_law_499 (fun _ => K S2 h2) (fun c => absurd rfl c)
theorem c_deal (hX : ∀ U H, tX Θ U H → XS b L xs (tb Θ) U H) (hL : L ≤ 3072) (hi : i + 6 ≤ L) (h : JJ S) (K : ∀ S2, JJ S2 → E Θ 130 183 10392 yL_law cL_law 4 (some .boolean) 183 10392 183 (lay Θ S2) 1549 [(3, .int (nI i)), (0, .ref b), (1, .ref (tb Θ + 0)), (2, .ref (tb Θ + 159))] [] (Qi (fun r _ => r = 1))) : E Θ 130 183 10392 yL_law cL_law 4 (some .boolean) 183 10392 183 (lay Θ S) 504 [(3, .int (nI i)), (0, .ref b), (1, .ref (tb Θ + 0)), (2, .ref (tb Θ + 159))] [] (Qi (fun r _ => r = 1)) := by
  refine E_aload_n dL_law_504 rfl ?_
  refine E_aload_n dL_law_505 rfl ?_
  refine E_iload_n dL_law_506 rfl ?_
  refine E_ic (v := 1) dL_law_507 (by decide) ?_
  refine E_iadd dL_law_508 ?_
  refine E_sld (j := i + 1) hX dL_law_509 (nI_add i 1) (by omega) (by omega) ?_
  refine E_V1i vL_47_11 dL_law_510 (Nat.le_of_ble_eq_true rfl) (by decide) (sh_0 _) (j_deal h (fun r S1 h1 => ?_))
  refine E_aload_n dL_law_513 rfl ?_
  refine E_aload_n dL_law_514 rfl ?_
  refine E_iload_n dL_law_515 rfl ?_
  refine E_ic (v := 1) dL_law_516 (by decide) ?_
  refine E_iadd dL_law_517 ?_
  refine E_sld (j := i + 1) hX dL_law_518 (nI_add i 1) (by omega) (by omega) ?_
  refine E_V1i vL_51_12 dL_law_519 (Nat.le_of_ble_eq_true rfl) (by decide) (sh_159 _) (h1 (fun S2 h2 => ?_))
  exact E_icmp_eq dL_law_522 (fun _ => K S2 h2) (fun c => absurd rfl c)
theorem c_seed (hX : ∀ U H, tX Θ U H → XS b L xs (tb Θ) U H) (hL : L ≤ 3072) (hi : i + 6 ≤ L) (h : JJ S) (K : ∀ S2, JJ S2 → E Θ 130 183 10392 yL_law cL_law 4 (some .boolean) 183 10392 183 (lay Θ S2) 1549 [(3, .int (nI i)), (0, .ref b), (1, .ref (tb Θ + 0)), (2, .ref (tb Θ + 159))] [] (Qi (fun r _ => r = 1))) : E Θ 130 183 10392 yL_law cL_law 4 (some .boolean) 183 10392 183 (lay Θ S) 527 [(3, .int (nI i)), (0, .ref b), (1, .ref (tb Θ + 0)), (2, .ref (tb Θ + 159))] [] (Qi (fun r _ => r = 1)) := by
  refine E_aload_n dL_law_527 rfl ?_
  refine E_aload_n dL_law_528 rfl ?_
  refine E_iload_n dL_law_529 rfl ?_
  refine E_ic (v := 1) dL_law_530 (by decide) ?_
  refine E_iadd dL_law_531 ?_
  refine E_sld (j := i + 1) hX dL_law_532 (nI_add i 1) (by omega) (by omega) ?_
  refine E_V1i vL_52_11 dL_law_533 (Nat.le_of_ble_eq_true rfl) (by decide) (sh_0 _) (j_seed h (fun r S1 h1 => ?_))
  refine E_aload_n dL_law_536 rfl ?_
  refine E_aload_n dL_law_537 rfl ?_
  refine E_iload_n dL_law_538 rfl ?_
  refine E_ic (v := 1) dL_law_539 (by decide) ?_
  refine E_iadd dL_law_540 ?_
  refine E_sld (j := i + 1) hX dL_law_541 (nI_add i 1) (by omega) (by omega) ?_
  refine E_V1i vL_55_12 dL_law_542 (Nat.le_of_ble_eq_true rfl) (by decide) (sh_159 _) (h1 (fun S2 h2 => ?_))
  exact E_icmp_eq dL_law_545 (fun _ => K S2 h2) (fun c => absurd rfl c)
theorem c_boat (hX : ∀ U H, tX Θ U H → XS b L xs (tb Θ) U H) (hL : L ≤ 3072) (hi : i + 6 ≤ L) (h : JJ S) (K : ∀ S2, JJ S2 → E Θ 130 183 10392 yL_law cL_law 4 (some .boolean) 183 10392 183 (lay Θ S2) 1549 [(3, .int (nI i)), (0, .ref b), (1, .ref (tb Θ + 0)), (2, .ref (tb Θ + 159))] [] (Qi (fun r _ => r = 1))) : E Θ 130 183 10392 yL_law cL_law 4 (some .boolean) 183 10392 183 (lay Θ S) 550 [(3, .int (nI i)), (0, .ref b), (1, .ref (tb Θ + 0)), (2, .ref (tb Θ + 159))] [] (Qi (fun r _ => r = 1)) := by
  refine E_aload_n dL_law_550 rfl ?_
  refine E_aload_n dL_law_551 rfl ?_
  refine E_iload_n dL_law_552 rfl ?_
  refine E_ic (v := 1) dL_law_553 (by decide) ?_
  refine E_iadd dL_law_554 ?_
  refine E_sld (j := i + 1) hX dL_law_555 (nI_add i 1) (by omega) (by omega) ?_
  refine E_V1i vL_56_11 dL_law_556 (Nat.le_of_ble_eq_true rfl) (by decide) (sh_0 _) (j_boat h (fun r S1 h1 => ?_))
  refine E_aload_n dL_law_559 rfl ?_
  refine E_aload_n dL_law_560 rfl ?_
  refine E_iload_n dL_law_561 rfl ?_
  refine E_ic (v := 1) dL_law_562 (by decide) ?_
  refine E_iadd dL_law_563 ?_
  refine E_sld (j := i + 1) hX dL_law_564 (nI_add i 1) (by omega) (by omega) ?_
  refine E_V1i vL_59_12 dL_law_565 (Nat.le_of_ble_eq_true rfl) (by decide) (sh_159 _) (h1 (fun S2 h2 => ?_))
  exact E_icmp_eq dL_law_568 (fun _ => K S2 h2) (fun c => absurd rfl c)
theorem c_argues (hX : ∀ U H, tX Θ U H → XS b L xs (tb Θ) U H) (hL : L ≤ 3072) (hi : i + 6 ≤ L) (h : JJ S) (K : ∀ S2, JJ S2 → E Θ 130 183 10392 yL_law cL_law 4 (some .boolean) 183 10392 183 (lay Θ S2) 1549 [(3, .int (nI i)), (0, .ref b), (1, .ref (tb Θ + 0)), (2, .ref (tb Θ + 159))] [] (Qi (fun r _ => r = 1))) : E Θ 130 183 10392 yL_law cL_law 4 (some .boolean) 183 10392 183 (lay Θ S) 573 [(3, .int (nI i)), (0, .ref b), (1, .ref (tb Θ + 0)), (2, .ref (tb Θ + 159))] [] (Qi (fun r _ => r = 1)) := by
  refine E_aload_n dL_law_573 rfl ?_
  refine E_aload_n dL_law_574 rfl ?_
  refine E_iload_n dL_law_575 rfl ?_
  refine E_ic (v := 1) dL_law_576 (by decide) ?_
  refine E_iadd dL_law_577 ?_
  refine E_sld (j := i + 1) hX dL_law_578 (nI_add i 1) (by omega) (by omega) ?_
  refine E_aload_n dL_law_579 rfl ?_
  refine E_iload_n dL_law_580 rfl ?_
  refine E_ic (v := 2) dL_law_581 (by decide) ?_
  refine E_iadd dL_law_582 ?_
  refine E_sld (j := i + 2) hX dL_law_583 (nI_add i 2) (by omega) (by omega) ?_
  refine E_aload_n dL_law_584 rfl ?_
  refine E_iload_n dL_law_585 rfl ?_
  refine E_ic (v := 3) dL_law_586 (by decide) ?_
  refine E_iadd dL_law_587 ?_
  refine E_sld (j := i + 3) hX dL_law_588 (nI_add i 3) (by omega) (by omega) ?_
  refine E_aload_n dL_law_589 rfl ?_
  refine E_iload_n dL_law_590 rfl ?_
  refine E_ic (v := 4) dL_law_591 (by decide) ?_
  refine E_iadd dL_law_592 ?_
  refine E_sld (j := i + 4) hX dL_law_593 (nI_add i 4) (by omega) (by omega) ?_
  refine E_V4i vL_60_11 dL_law_594 (Nat.le_of_ble_eq_true rfl) (by decide) (sh_0 _) (j_argues h (fun r S1 h1 => ?_))
  refine E_aload_n dL_law_597 rfl ?_
  refine E_aload_n dL_law_598 rfl ?_
  refine E_iload_n dL_law_599 rfl ?_
  refine E_ic (v := 1) dL_law_600 (by decide) ?_
  refine E_iadd dL_law_601 ?_
  refine E_sld (j := i + 1) hX dL_law_602 (nI_add i 1) (by omega) (by omega) ?_
  refine E_aload_n dL_law_603 rfl ?_
  refine E_iload_n dL_law_604 rfl ?_
  refine E_ic (v := 2) dL_law_605 (by decide) ?_
  refine E_iadd dL_law_606 ?_
  refine E_sld (j := i + 2) hX dL_law_607 (nI_add i 2) (by omega) (by omega) ?_
  refine E_aload_n dL_law_608 rfl ?_
  refine E_iload_n dL_law_609 rfl ?_
  refine E_ic (v := 3) dL_law_610 (by decide) ?_
  refine E_iadd dL_law_611 ?_
  refine E_sld (j := i + 3) hX dL_law_612 (nI_add i 3) (by omega) (by omega) ?_
  refine E_aload_n dL_law_613 rfl ?_
  refine E_iload_n dL_law_614 rfl ?_
  refine E_ic (v := 4) dL_law_615 (by decide) ?_
  refine E_iadd dL_law_616 ?_
  refine E_sld (j := i + 4) hX dL_law_617 (nI_add i 4) (by omega) (by omega) ?_
  refine E_V4i vL_64_12 dL_law_618 (Nat.le_of_ble_eq_true rfl) (by decide) (sh_159 _) (h1 (fun S2 h2 => ?_))
  exact E_icmp_eq dL_law_621 (fun _ => K S2 h2) (fun c => absurd rfl c)
theorem c_minutes (hX : ∀ U H, tX Θ U H → XS b L xs (tb Θ) U H) (hL : L ≤ 3072) (hi : i + 6 ≤ L) (h : JJ S) (K : ∀ S2, JJ S2 → E Θ 130 183 10392 yL_law cL_law 4 (some .boolean) 183 10392 183 (lay Θ S2) 1549 [(3, .int (nI i)), (0, .ref b), (1, .ref (tb Θ + 0)), (2, .ref (tb Θ + 159))] [] (Qi (fun r _ => r = 1))) : E Θ 130 183 10392 yL_law cL_law 4 (some .boolean) 183 10392 183 (lay Θ S) 626 [(3, .int (nI i)), (0, .ref b), (1, .ref (tb Θ + 0)), (2, .ref (tb Θ + 159))] [] (Qi (fun r _ => r = 1)) := by
  refine E_aload_n dL_law_626 rfl ?_
  refine E_aload_n dL_law_627 rfl ?_
  refine E_iload_n dL_law_628 rfl ?_
  refine E_ic (v := 1) dL_law_629 (by decide) ?_
  refine E_iadd dL_law_630 ?_
  refine E_sld (j := i + 1) hX dL_law_631 (nI_add i 1) (by omega) (by omega) ?_
  refine E_V1i vL_65_11 dL_law_632 (Nat.le_of_ble_eq_true rfl) (by decide) (sh_0 _) (j_minutes h (fun r S1 h1 => ?_))
  refine E_aload_n dL_law_635 rfl ?_
  refine E_aload_n dL_law_636 rfl ?_
  refine E_iload_n dL_law_637 rfl ?_
  refine E_ic (v := 1) dL_law_638 (by decide) ?_
  refine E_iadd dL_law_639 ?_
  refine E_sld (j := i + 1) hX dL_law_640 (nI_add i 1) (by omega) (by omega) ?_
  refine E_V1i vL_68_12 dL_law_641 (Nat.le_of_ble_eq_true rfl) (by decide) (sh_159 _) (h1 (fun S2 h2 => ?_))
  exact E_icmp_eq dL_law_644 (fun _ => K S2 h2) (fun c => absurd rfl c)
theorem c_ferry (hX : ∀ U H, tX Θ U H → XS b L xs (tb Θ) U H) (hL : L ≤ 3072) (hi : i + 6 ≤ L) (h : JJ S) (K : ∀ S2, JJ S2 → E Θ 130 183 10392 yL_law cL_law 4 (some .boolean) 183 10392 183 (lay Θ S2) 1549 [(3, .int (nI i)), (0, .ref b), (1, .ref (tb Θ + 0)), (2, .ref (tb Θ + 159))] [] (Qi (fun r _ => r = 1))) : E Θ 130 183 10392 yL_law cL_law 4 (some .boolean) 183 10392 183 (lay Θ S) 649 [(3, .int (nI i)), (0, .ref b), (1, .ref (tb Θ + 0)), (2, .ref (tb Θ + 159))] [] (Qi (fun r _ => r = 1)) := by
  refine E_aload_n dL_law_649 rfl ?_
  refine E_aload_n dL_law_650 rfl ?_
  refine E_iload_n dL_law_651 rfl ?_
  refine E_ic (v := 1) dL_law_652 (by decide) ?_
  refine E_iadd dL_law_653 ?_
  refine E_sld (j := i + 1) hX dL_law_654 (nI_add i 1) (by omega) (by omega) ?_
  refine E_V1i vL_69_11 dL_law_655 (Nat.le_of_ble_eq_true rfl) (by decide) (sh_0 _) (j_ferry h (fun r S1 h1 => ?_))
  refine E_aload_n dL_law_658 rfl ?_
  refine E_aload_n dL_law_659 rfl ?_
  refine E_iload_n dL_law_660 rfl ?_
  refine E_ic (v := 1) dL_law_661 (by decide) ?_
  refine E_iadd dL_law_662 ?_
  refine E_sld (j := i + 1) hX dL_law_663 (nI_add i 1) (by omega) (by omega) ?_
  refine E_V1i vL_72_12 dL_law_664 (Nat.le_of_ble_eq_true rfl) (by decide) (sh_159 _) (h1 (fun S2 h2 => ?_))
  exact E_icmp_eq dL_law_667 (fun _ => K S2 h2) (fun c => absurd rfl c)
theorem c_over (hX : ∀ U H, tX Θ U H → XS b L xs (tb Θ) U H) (hL : L ≤ 3072) (hi : i + 6 ≤ L) (h : JJ S) (K : ∀ S2, JJ S2 → E Θ 130 183 10392 yL_law cL_law 4 (some .boolean) 183 10392 183 (lay Θ S2) 1549 [(3, .int (nI i)), (0, .ref b), (1, .ref (tb Θ + 0)), (2, .ref (tb Θ + 159))] [] (Qi (fun r _ => r = 1))) : E Θ 130 183 10392 yL_law cL_law 4 (some .boolean) 183 10392 183 (lay Θ S) 672 [(3, .int (nI i)), (0, .ref b), (1, .ref (tb Θ + 0)), (2, .ref (tb Θ + 159))] [] (Qi (fun r _ => r = 1)) := by
  refine E_aload_n dL_law_672 rfl ?_
  refine E_aload_n dL_law_673 rfl ?_
  refine E_iload_n dL_law_674 rfl ?_
  refine E_ic (v := 1) dL_law_675 (by decide) ?_
  refine E_iadd dL_law_676 ?_
  refine E_sld (j := i + 1) hX dL_law_677 (nI_add i 1) (by omega) (by omega) ?_
  refine E_aload_n dL_law_678 rfl ?_
  refine E_iload_n dL_law_679 rfl ?_
  refine E_ic (v := 2) dL_law_680 (by decide) ?_
  refine E_iadd dL_law_681 ?_
  refine E_sld (j := i + 2) hX dL_law_682 (nI_add i 2) (by omega) (by omega) ?_
  refine E_aload_n dL_law_683 rfl ?_
  refine E_iload_n dL_law_684 rfl ?_
  refine E_ic (v := 3) dL_law_685 (by decide) ?_
  refine E_iadd dL_law_686 ?_
  refine E_sld (j := i + 3) hX dL_law_687 (nI_add i 3) (by omega) (by omega) ?_
  refine E_V3i vL_73_11 dL_law_688 (Nat.le_of_ble_eq_true rfl) (by decide) (sh_0 _) (j_over h (fun r S1 h1 => ?_))
  refine E_aload_n dL_law_691 rfl ?_
  refine E_aload_n dL_law_692 rfl ?_
  refine E_iload_n dL_law_693 rfl ?_
  refine E_ic (v := 1) dL_law_694 (by decide) ?_
  refine E_iadd dL_law_695 ?_
  refine E_sld (j := i + 1) hX dL_law_696 (nI_add i 1) (by omega) (by omega) ?_
  refine E_aload_n dL_law_697 rfl ?_
  refine E_iload_n dL_law_698 rfl ?_
  refine E_ic (v := 2) dL_law_699 (by decide) ?_
  refine E_iadd dL_law_700 ?_
  refine E_sld (j := i + 2) hX dL_law_701 (nI_add i 2) (by omega) (by omega) ?_
  refine E_aload_n dL_law_702 rfl ?_
  refine E_iload_n dL_law_703 rfl ?_
  refine E_ic (v := 3) dL_law_704 (by decide) ?_
  refine E_iadd dL_law_705 ?_
  refine E_sld (j := i + 3) hX dL_law_706 (nI_add i 3) (by omega) (by omega) ?_
  refine E_V3i vL_76_12 dL_law_707 (Nat.le_of_ble_eq_true rfl) (by decide) (sh_159 _) (h1 (fun S2 h2 => ?_))
  exact E_icmp_eq dL_law_710 (fun _ => K S2 h2) (fun c => absurd rfl c)
theorem c_settles (hX : ∀ U H, tX Θ U H → XS b L xs (tb Θ) U H) (hL : L ≤ 3072) (hi : i + 6 ≤ L) (h : JJ S) (K : ∀ S2, JJ S2 → E Θ 130 183 10392 yL_law cL_law 4 (some .boolean) 183 10392 183 (lay Θ S2) 1549 [(3, .int (nI i)), (0, .ref b), (1, .ref (tb Θ + 0)), (2, .ref (tb Θ + 159))] [] (Qi (fun r _ => r = 1))) : E Θ 130 183 10392 yL_law cL_law 4 (some .boolean) 183 10392 183 (lay Θ S) 715 [(3, .int (nI i)), (0, .ref b), (1, .ref (tb Θ + 0)), (2, .ref (tb Θ + 159))] [] (Qi (fun r _ => r = 1)) := by
  refine E_aload_n dL_law_715 rfl ?_
  refine E_aload_n dL_law_716 rfl ?_
  refine E_iload_n dL_law_717 rfl ?_
  refine E_ic (v := 1) dL_law_718 (by decide) ?_
  refine E_iadd dL_law_719 ?_
  refine E_sld (j := i + 1) hX dL_law_720 (nI_add i 1) (by omega) (by omega) ?_
  refine E_aload_n dL_law_721 rfl ?_
  refine E_iload_n dL_law_722 rfl ?_
  refine E_ic (v := 2) dL_law_723 (by decide) ?_
  refine E_iadd dL_law_724 ?_
  refine E_sld (j := i + 2) hX dL_law_725 (nI_add i 2) (by omega) (by omega) ?_
  refine E_aload_n dL_law_726 rfl ?_
  refine E_iload_n dL_law_727 rfl ?_
  refine E_ic (v := 3) dL_law_728 (by decide) ?_
  refine E_iadd dL_law_729 ?_
  refine E_sld (j := i + 3) hX dL_law_730 (nI_add i 3) (by omega) (by omega) ?_
  refine E_V3i vL_77_11 dL_law_731 (Nat.le_of_ble_eq_true rfl) (by decide) (sh_0 _) (j_settles h (fun r S1 h1 => ?_))
  refine E_aload_n dL_law_734 rfl ?_
  refine E_aload_n dL_law_735 rfl ?_
  refine E_iload_n dL_law_736 rfl ?_
  refine E_ic (v := 1) dL_law_737 (by decide) ?_
  refine E_iadd dL_law_738 ?_
  refine E_sld (j := i + 1) hX dL_law_739 (nI_add i 1) (by omega) (by omega) ?_
  refine E_aload_n dL_law_740 rfl ?_
  refine E_iload_n dL_law_741 rfl ?_
  refine E_ic (v := 2) dL_law_742 (by decide) ?_
  refine E_iadd dL_law_743 ?_
  refine E_sld (j := i + 2) hX dL_law_744 (nI_add i 2) (by omega) (by omega) ?_
  refine E_aload_n dL_law_745 rfl ?_
  refine E_iload_n dL_law_746 rfl ?_
  refine E_ic (v := 3) dL_law_747 (by decide) ?_
  refine E_iadd dL_law_748 ?_
  refine E_sld (j := i + 3) hX dL_law_749 (nI_add i 3) (by omega) (by omega) ?_
  refine E_V3i vL_80_12 dL_law_750 (Nat.le_of_ble_eq_true rfl) (by decide) (sh_159 _) (h1 (fun S2 h2 => ?_))
  exact E_icmp_eq dL_law_753 (fun _ => K S2 h2) (fun c => absurd rfl c)
theorem c_pairs (hX : ∀ U H, tX Θ U H → XS b L xs (tb Θ) U H) (hL : L ≤ 3072) (hi : i + 6 ≤ L) (h : JJ S) (K : ∀ S2, JJ S2 → E Θ 130 183 10392 yL_law cL_law 4 (some .boolean) 183 10392 183 (lay Θ S2) 1549 [(3, .int (nI i)), (0, .ref b), (1, .ref (tb Θ + 0)), (2, .ref (tb Θ + 159))] [] (Qi (fun r _ => r = 1))) : E Θ 130 183 10392 yL_law cL_law 4 (some .boolean) 183 10392 183 (lay Θ S) 758 [(3, .int (nI i)), (0, .ref b), (1, .ref (tb Θ + 0)), (2, .ref (tb Θ + 159))] [] (Qi (fun r _ => r = 1)) := by
  refine E_aload_n dL_law_758 rfl ?_
  refine E_aload_n dL_law_759 rfl ?_
  refine E_iload_n dL_law_760 rfl ?_
  refine E_ic (v := 1) dL_law_761 (by decide) ?_
  refine E_iadd dL_law_762 ?_
  refine E_sld (j := i + 1) hX dL_law_763 (nI_add i 1) (by omega) (by omega) ?_
  refine E_V1i vL_81_11 dL_law_764 (Nat.le_of_ble_eq_true rfl) (by decide) (sh_0 _) (j_pairs h (fun r S1 h1 => ?_))
  refine E_aload_n dL_law_767 rfl ?_
  refine E_aload_n dL_law_768 rfl ?_
  refine E_iload_n dL_law_769 rfl ?_
  refine E_ic (v := 1) dL_law_770 (by decide) ?_
  refine E_iadd dL_law_771 ?_
  refine E_sld (j := i + 1) hX dL_law_772 (nI_add i 1) (by omega) (by omega) ?_
  refine E_V1i vL_84_12 dL_law_773 (Nat.le_of_ble_eq_true rfl) (by decide) (sh_159 _) (h1 (fun S2 h2 => ?_))
  exact E_icmp_eq dL_law_776 (fun _ => K S2 h2) (fun c => absurd rfl c)
theorem c_behind (hX : ∀ U H, tX Θ U H → XS b L xs (tb Θ) U H) (hL : L ≤ 3072) (hi : i + 6 ≤ L) (h : JJ S) (K : ∀ S2, JJ S2 → E Θ 130 183 10392 yL_law cL_law 4 (some .boolean) 183 10392 183 (lay Θ S2) 1549 [(3, .int (nI i)), (0, .ref b), (1, .ref (tb Θ + 0)), (2, .ref (tb Θ + 159))] [] (Qi (fun r _ => r = 1))) : E Θ 130 183 10392 yL_law cL_law 4 (some .boolean) 183 10392 183 (lay Θ S) 781 [(3, .int (nI i)), (0, .ref b), (1, .ref (tb Θ + 0)), (2, .ref (tb Θ + 159))] [] (Qi (fun r _ => r = 1)) := by
  refine E_aload_n dL_law_781 rfl ?_
  refine E_aload_n dL_law_782 rfl ?_
  refine E_iload_n dL_law_783 rfl ?_
  refine E_ic (v := 1) dL_law_784 (by decide) ?_
  refine E_iadd dL_law_785 ?_
  refine E_sld (j := i + 1) hX dL_law_786 (nI_add i 1) (by omega) (by omega) ?_
  refine E_aload_n dL_law_787 rfl ?_
  refine E_iload_n dL_law_788 rfl ?_
  refine E_ic (v := 2) dL_law_789 (by decide) ?_
  refine E_iadd dL_law_790 ?_
  refine E_sld (j := i + 2) hX dL_law_791 (nI_add i 2) (by omega) (by omega) ?_
  refine E_V2i vL_85_11 dL_law_792 (Nat.le_of_ble_eq_true rfl) (by decide) (sh_0 _) (j_behind h (fun r S1 h1 => ?_))
  refine E_aload_n dL_law_795 rfl ?_
  refine E_aload_n dL_law_796 rfl ?_
  refine E_iload_n dL_law_797 rfl ?_
  refine E_ic (v := 1) dL_law_798 (by decide) ?_
  refine E_iadd dL_law_799 ?_
  refine E_sld (j := i + 1) hX dL_law_800 (nI_add i 1) (by omega) (by omega) ?_
  refine E_aload_n dL_law_801 rfl ?_
  refine E_iload_n dL_law_802 rfl ?_
  refine E_ic (v := 2) dL_law_803 (by decide) ?_
  refine E_iadd dL_law_804 ?_
  refine E_sld (j := i + 2) hX dL_law_805 (nI_add i 2) (by omega) (by omega) ?_
  refine E_V2i vL_88_12 dL_law_806 (Nat.le_of_ble_eq_true rfl) (by decide) (sh_159 _) (h1 (fun S2 h2 => ?_))
  exact E_icmp_eq dL_law_809 (fun _ => K S2 h2) (fun c => absurd rfl c)
theorem c_lands (hX : ∀ U H, tX Θ U H → XS b L xs (tb Θ) U H) (hL : L ≤ 3072) (hi : i + 6 ≤ L) (h : JJ S) (K : ∀ S2, JJ S2 → E Θ 130 183 10392 yL_law cL_law 4 (some .boolean) 183 10392 183 (lay Θ S2) 1549 [(3, .int (nI i)), (0, .ref b), (1, .ref (tb Θ + 0)), (2, .ref (tb Θ + 159))] [] (Qi (fun r _ => r = 1))) : E Θ 130 183 10392 yL_law cL_law 4 (some .boolean) 183 10392 183 (lay Θ S) 814 [(3, .int (nI i)), (0, .ref b), (1, .ref (tb Θ + 0)), (2, .ref (tb Θ + 159))] [] (Qi (fun r _ => r = 1)) := by
  refine E_aload_n dL_law_814 rfl ?_
  refine E_aload_n dL_law_815 rfl ?_
  refine E_iload_n dL_law_816 rfl ?_
  refine E_ic (v := 1) dL_law_817 (by decide) ?_
  refine E_iadd dL_law_818 ?_
  refine E_sld (j := i + 1) hX dL_law_819 (nI_add i 1) (by omega) (by omega) ?_
  refine E_V1i vL_89_11 dL_law_820 (Nat.le_of_ble_eq_true rfl) (by decide) (sh_0 _) (j_lands h (fun r S1 h1 => ?_))
  refine E_aload_n dL_law_823 rfl ?_
  refine E_aload_n dL_law_824 rfl ?_
  refine E_iload_n dL_law_825 rfl ?_
  refine E_ic (v := 1) dL_law_826 (by decide) ?_
  refine E_iadd dL_law_827 ?_
  refine E_sld (j := i + 1) hX dL_law_828 (nI_add i 1) (by omega) (by omega) ?_
  refine E_V1i vL_92_12 dL_law_829 (Nat.le_of_ble_eq_true rfl) (by decide) (sh_159 _) (h1 (fun S2 h2 => ?_))
  exact E_icmp_eq dL_law_832 (fun _ => K S2 h2) (fun c => absurd rfl c)
theorem c_calm (hX : ∀ U H, tX Θ U H → XS b L xs (tb Θ) U H) (hL : L ≤ 3072) (hi : i + 6 ≤ L) (h : JJ S) (K : ∀ S2, JJ S2 → E Θ 130 183 10392 yL_law cL_law 4 (some .boolean) 183 10392 183 (lay Θ S2) 1549 [(3, .int (nI i)), (0, .ref b), (1, .ref (tb Θ + 0)), (2, .ref (tb Θ + 159))] [] (Qi (fun r _ => r = 1))) : E Θ 130 183 10392 yL_law cL_law 4 (some .boolean) 183 10392 183 (lay Θ S) 837 [(3, .int (nI i)), (0, .ref b), (1, .ref (tb Θ + 0)), (2, .ref (tb Θ + 159))] [] (Qi (fun r _ => r = 1)) := by
  refine E_aload_n dL_law_837 rfl ?_
  refine E_aload_n dL_law_838 rfl ?_
  refine E_iload_n dL_law_839 rfl ?_
  refine E_ic (v := 1) dL_law_840 (by decide) ?_
  refine E_iadd dL_law_841 ?_
  refine E_sld (j := i + 1) hX dL_law_842 (nI_add i 1) (by omega) (by omega) ?_
  refine E_aload_n dL_law_843 rfl ?_
  refine E_iload_n dL_law_844 rfl ?_
  refine E_ic (v := 2) dL_law_845 (by decide) ?_
  refine E_iadd dL_law_846 ?_
  refine E_sld (j := i + 2) hX dL_law_847 (nI_add i 2) (by omega) (by omega) ?_
  refine E_V2i vL_93_11 dL_law_848 (Nat.le_of_ble_eq_true rfl) (by decide) (sh_0 _) (j_calm h (fun r S1 h1 => ?_))
  refine E_aload_n dL_law_851 rfl ?_
  refine E_aload_n dL_law_852 rfl ?_
  refine E_iload_n dL_law_853 rfl ?_
  refine E_ic (v := 1) dL_law_854 (by decide) ?_
  refine E_iadd dL_law_855 ?_
  refine E_sld (j := i + 1) hX dL_law_856 (nI_add i 1) (by omega) (by omega) ?_
  refine E_aload_n dL_law_857 rfl ?_
  refine E_iload_n dL_law_858 rfl ?_
  refine E_ic (v := 2) dL_law_859 (by decide) ?_
  refine E_iadd dL_law_860 ?_
  refine E_sld (j := i + 2) hX dL_law_861 (nI_add i 2) (by omega) (by omega) ?_
  refine E_V2i vL_96_12 dL_law_862 (Nat.le_of_ble_eq_true rfl) (by decide) (sh_159 _) (h1 (fun S2 h2 => ?_))
  exact E_icmp_eq dL_law_865 (fun _ => K S2 h2) (fun c => absurd rfl c)
theorem c_becomes (hX : ∀ U H, tX Θ U H → XS b L xs (tb Θ) U H) (hL : L ≤ 3072) (hi : i + 6 ≤ L) (h : JJ S) (K : ∀ S2, JJ S2 → E Θ 130 183 10392 yL_law cL_law 4 (some .boolean) 183 10392 183 (lay Θ S2) 1549 [(3, .int (nI i)), (0, .ref b), (1, .ref (tb Θ + 0)), (2, .ref (tb Θ + 159))] [] (Qi (fun r _ => r = 1))) : E Θ 130 183 10392 yL_law cL_law 4 (some .boolean) 183 10392 183 (lay Θ S) 870 [(3, .int (nI i)), (0, .ref b), (1, .ref (tb Θ + 0)), (2, .ref (tb Θ + 159))] [] (Qi (fun r _ => r = 1)) := by
  refine E_aload_n dL_law_870 rfl ?_
  refine E_aload_n dL_law_871 rfl ?_
  refine E_iload_n dL_law_872 rfl ?_
  refine E_ic (v := 1) dL_law_873 (by decide) ?_
  refine E_iadd dL_law_874 ?_
  refine E_sld (j := i + 1) hX dL_law_875 (nI_add i 1) (by omega) (by omega) ?_
  refine E_aload_n dL_law_876 rfl ?_
  refine E_iload_n dL_law_877 rfl ?_
  refine E_ic (v := 2) dL_law_878 (by decide) ?_
  refine E_iadd dL_law_879 ?_
  refine E_sld (j := i + 2) hX dL_law_880 (nI_add i 2) (by omega) (by omega) ?_
  refine E_aload_n dL_law_881 rfl ?_
  refine E_iload_n dL_law_882 rfl ?_
  refine E_ic (v := 3) dL_law_883 (by decide) ?_
  refine E_iadd dL_law_884 ?_
  refine E_sld (j := i + 3) hX dL_law_885 (nI_add i 3) (by omega) (by omega) ?_
  refine E_V3i vL_97_11 dL_law_886 (Nat.le_of_ble_eq_true rfl) (by decide) (sh_0 _) (j_becomes h (fun r S1 h1 => ?_))
  refine E_aload_n dL_law_889 rfl ?_
  refine E_aload_n dL_law_890 rfl ?_
  refine E_iload_n dL_law_891 rfl ?_
  refine E_ic (v := 1) dL_law_892 (by decide) ?_
  refine E_iadd dL_law_893 ?_
  refine E_sld (j := i + 1) hX dL_law_894 (nI_add i 1) (by omega) (by omega) ?_
  refine E_aload_n dL_law_895 rfl ?_
  refine E_iload_n dL_law_896 rfl ?_
  refine E_ic (v := 2) dL_law_897 (by decide) ?_
  refine E_iadd dL_law_898 ?_
  refine E_sld (j := i + 2) hX dL_law_899 (nI_add i 2) (by omega) (by omega) ?_
  refine E_aload_n dL_law_900 rfl ?_
  refine E_iload_n dL_law_901 rfl ?_
  refine E_ic (v := 3) dL_law_902 (by decide) ?_
  refine E_iadd dL_law_903 ?_
  refine E_sld (j := i + 3) hX dL_law_904 (nI_add i 3) (by omega) (by omega) ?_
  refine E_V3i vL_100_12 dL_law_905 (Nat.le_of_ble_eq_true rfl) (by decide) (sh_159 _) (h1 (fun S2 h2 => ?_))
  exact E_icmp_eq dL_law_908 (fun _ => K S2 h2) (fun c => absurd rfl c)
theorem c_like (hX : ∀ U H, tX Θ U H → XS b L xs (tb Θ) U H) (hL : L ≤ 3072) (hi : i + 6 ≤ L) (h : JJ S) (K : ∀ S2, JJ S2 → E Θ 130 183 10392 yL_law cL_law 4 (some .boolean) 183 10392 183 (lay Θ S2) 1549 [(3, .int (nI i)), (0, .ref b), (1, .ref (tb Θ + 0)), (2, .ref (tb Θ + 159))] [] (Qi (fun r _ => r = 1))) : E Θ 130 183 10392 yL_law cL_law 4 (some .boolean) 183 10392 183 (lay Θ S) 913 [(3, .int (nI i)), (0, .ref b), (1, .ref (tb Θ + 0)), (2, .ref (tb Θ + 159))] [] (Qi (fun r _ => r = 1)) := by
  refine E_aload_n dL_law_913 rfl ?_
  refine E_aload_n dL_law_914 rfl ?_
  refine E_iload_n dL_law_915 rfl ?_
  refine E_ic (v := 1) dL_law_916 (by decide) ?_
  refine E_iadd dL_law_917 ?_
  refine E_sld (j := i + 1) hX dL_law_918 (nI_add i 1) (by omega) (by omega) ?_
  refine E_aload_n dL_law_919 rfl ?_
  refine E_iload_n dL_law_920 rfl ?_
  refine E_ic (v := 2) dL_law_921 (by decide) ?_
  refine E_iadd dL_law_922 ?_
  refine E_sld (j := i + 2) hX dL_law_923 (nI_add i 2) (by omega) (by omega) ?_
  refine E_V2i vL_101_11 dL_law_924 (Nat.le_of_ble_eq_true rfl) (by decide) (sh_0 _) (j_like h (fun r S1 h1 => ?_))
  refine E_aload_n dL_law_927 rfl ?_
  refine E_aload_n dL_law_928 rfl ?_
  refine E_iload_n dL_law_929 rfl ?_
  refine E_ic (v := 1) dL_law_930 (by decide) ?_
  refine E_iadd dL_law_931 ?_
  refine E_sld (j := i + 1) hX dL_law_932 (nI_add i 1) (by omega) (by omega) ?_
  refine E_aload_n dL_law_933 rfl ?_
  refine E_iload_n dL_law_934 rfl ?_
  refine E_ic (v := 2) dL_law_935 (by decide) ?_
  refine E_iadd dL_law_936 ?_
  refine E_sld (j := i + 2) hX dL_law_937 (nI_add i 2) (by omega) (by omega) ?_
  refine E_V2i vL_104_12 dL_law_938 (Nat.le_of_ble_eq_true rfl) (by decide) (sh_159 _) (h1 (fun S2 h2 => ?_))
  exact E_icmp_eq dL_law_941 (fun _ => K S2 h2) (fun c => absurd rfl c)
theorem c_fee (hX : ∀ U H, tX Θ U H → XS b L xs (tb Θ) U H) (hL : L ≤ 3072) (hi : i + 6 ≤ L) (h : JJ S) (K : ∀ S2, JJ S2 → E Θ 130 183 10392 yL_law cL_law 4 (some .boolean) 183 10392 183 (lay Θ S2) 1549 [(3, .int (nI i)), (0, .ref b), (1, .ref (tb Θ + 0)), (2, .ref (tb Θ + 159))] [] (Qi (fun r _ => r = 1))) : E Θ 130 183 10392 yL_law cL_law 4 (some .boolean) 183 10392 183 (lay Θ S) 946 [(3, .int (nI i)), (0, .ref b), (1, .ref (tb Θ + 0)), (2, .ref (tb Θ + 159))] [] (Qi (fun r _ => r = 1)) := by
  refine E_aload_n dL_law_946 rfl ?_
  refine E_V0i vL_105_11 dL_law_947 (Nat.le_of_ble_eq_true rfl) (by decide) (sh_0 _) (j_fee h (fun r S1 h1 => ?_))
  refine E_aload_n dL_law_950 rfl ?_
  refine E_V0i vL_109_12 dL_law_951 (Nat.le_of_ble_eq_true rfl) (by decide) (sh_159 _) (h1 (fun S2 h2 => ?_))
  exact E_icmp_eq dL_law_954 (fun _ => K S2 h2) (fun c => absurd rfl c)
theorem c_fine (hX : ∀ U H, tX Θ U H → XS b L xs (tb Θ) U H) (hL : L ≤ 3072) (hi : i + 6 ≤ L) (h : JJ S) (K : ∀ S2, JJ S2 → E Θ 130 183 10392 yL_law cL_law 4 (some .boolean) 183 10392 183 (lay Θ S2) 1549 [(3, .int (nI i)), (0, .ref b), (1, .ref (tb Θ + 0)), (2, .ref (tb Θ + 159))] [] (Qi (fun r _ => r = 1))) : E Θ 130 183 10392 yL_law cL_law 4 (some .boolean) 183 10392 183 (lay Θ S) 959 [(3, .int (nI i)), (0, .ref b), (1, .ref (tb Θ + 0)), (2, .ref (tb Θ + 159))] [] (Qi (fun r _ => r = 1)) := by
  refine E_aload_n dL_law_959 rfl ?_
  refine E_aload_n dL_law_960 rfl ?_
  refine E_iload_n dL_law_961 rfl ?_
  refine E_ic (v := 1) dL_law_962 (by decide) ?_
  refine E_iadd dL_law_963 ?_
  refine E_sld (j := i + 1) hX dL_law_964 (nI_add i 1) (by omega) (by omega) ?_
  refine E_V1i vL_110_11 dL_law_965 (Nat.le_of_ble_eq_true rfl) (by decide) (sh_0 _) (j_fine h (fun r S1 h1 => ?_))
  refine E_aload_n dL_law_968 rfl ?_
  refine E_aload_n dL_law_969 rfl ?_
  refine E_iload_n dL_law_970 rfl ?_
  refine E_ic (v := 1) dL_law_971 (by decide) ?_
  refine E_iadd dL_law_972 ?_
  refine E_sld (j := i + 1) hX dL_law_973 (nI_add i 1) (by omega) (by omega) ?_
  refine E_V1i vL_113_12 dL_law_974 (Nat.le_of_ble_eq_true rfl) (by decide) (sh_159 _) (h1 (fun S2 h2 => ?_))
  exact E_icmp_eq dL_law_977 (fun _ => K S2 h2) (fun c => absurd rfl c)
theorem c_feed (hX : ∀ U H, tX Θ U H → XS b L xs (tb Θ) U H) (hL : L ≤ 3072) (hi : i + 6 ≤ L) (h : JJ S) (K : ∀ S2, JJ S2 → E Θ 130 183 10392 yL_law cL_law 4 (some .boolean) 183 10392 183 (lay Θ S2) 1549 [(3, .int (nI i)), (0, .ref b), (1, .ref (tb Θ + 0)), (2, .ref (tb Θ + 159))] [] (Qi (fun r _ => r = 1))) : E Θ 130 183 10392 yL_law cL_law 4 (some .boolean) 183 10392 183 (lay Θ S) 982 [(3, .int (nI i)), (0, .ref b), (1, .ref (tb Θ + 0)), (2, .ref (tb Θ + 159))] [] (Qi (fun r _ => r = 1)) := by
  refine E_aload_n dL_law_982 rfl ?_
  refine E_aload_n dL_law_983 rfl ?_
  refine E_iload_n dL_law_984 rfl ?_
  refine E_ic (v := 1) dL_law_985 (by decide) ?_
  refine E_iadd dL_law_986 ?_
  refine E_sld (j := i + 1) hX dL_law_987 (nI_add i 1) (by omega) (by omega) ?_
  refine E_aload_n dL_law_988 rfl ?_
  refine E_iload_n dL_law_989 rfl ?_
  refine E_ic (v := 2) dL_law_990 (by decide) ?_
  refine E_iadd dL_law_991 ?_
  refine E_sld (j := i + 2) hX dL_law_992 (nI_add i 2) (by omega) (by omega) ?_
  refine E_aload_n dL_law_993 rfl ?_
  refine E_iload_n dL_law_994 rfl ?_
  refine E_ic (v := 3) dL_law_995 (by decide) ?_
  refine E_iadd dL_law_996 ?_
  refine E_sld (j := i + 3) hX dL_law_997 (nI_add i 3) (by omega) (by omega) ?_
  refine E_V3i vL_114_11 dL_law_998 (Nat.le_of_ble_eq_true rfl) (by decide) (sh_0 _) (j_feed h (fun r S1 h1 => ?_))
  refine E_aload_n dL_law_1001 rfl ?_
  refine E_aload_n dL_law_1002 rfl ?_
  refine E_iload_n dL_law_1003 rfl ?_
  refine E_ic (v := 1) dL_law_1004 (by decide) ?_
  refine E_iadd dL_law_1005 ?_
  refine E_sld (j := i + 1) hX dL_law_1006 (nI_add i 1) (by omega) (by omega) ?_
  refine E_aload_n dL_law_1007 rfl ?_
  refine E_iload_n dL_law_1008 rfl ?_
  refine E_ic (v := 2) dL_law_1009 (by decide) ?_
  refine E_iadd dL_law_1010 ?_
  refine E_sld (j := i + 2) hX dL_law_1011 (nI_add i 2) (by omega) (by omega) ?_
  refine E_aload_n dL_law_1012 rfl ?_
  refine E_iload_n dL_law_1013 rfl ?_
  refine E_ic (v := 3) dL_law_1014 (by decide) ?_
  refine E_iadd dL_law_1015 ?_
  refine E_sld (j := i + 3) hX dL_law_1016 (nI_add i 3) (by omega) (by omega) ?_
  refine E_V3i vL_117_12 dL_law_1017 (Nat.le_of_ble_eq_true rfl) (by decide) (sh_159 _) (h1 (fun S2 h2 => ?_))
  exact E_icmp_eq dL_law_1020 (fun _ => K S2 h2) (fun c => absurd rfl c)
theorem c_trim (hX : ∀ U H, tX Θ U H → XS b L xs (tb Θ) U H) (hL : L ≤ 3072) (hi : i + 6 ≤ L) (h : JJ S) (K : ∀ S2, JJ S2 → E Θ 130 183 10392 yL_law cL_law 4 (some .boolean) 183 10392 183 (lay Θ S2) 1549 [(3, .int (nI i)), (0, .ref b), (1, .ref (tb Θ + 0)), (2, .ref (tb Θ + 159))] [] (Qi (fun r _ => r = 1))) : E Θ 130 183 10392 yL_law cL_law 4 (some .boolean) 183 10392 183 (lay Θ S) 1025 [(3, .int (nI i)), (0, .ref b), (1, .ref (tb Θ + 0)), (2, .ref (tb Θ + 159))] [] (Qi (fun r _ => r = 1)) := by
  refine E_aload_n dL_law_1025 rfl ?_
  refine E_aload_n dL_law_1026 rfl ?_
  refine E_iload_n dL_law_1027 rfl ?_
  refine E_ic (v := 1) dL_law_1028 (by decide) ?_
  refine E_iadd dL_law_1029 ?_
  refine E_sld (j := i + 1) hX dL_law_1030 (nI_add i 1) (by omega) (by omega) ?_
  refine E_V1i vL_118_11 dL_law_1031 (Nat.le_of_ble_eq_true rfl) (by decide) (sh_0 _) (j_trim h (fun r S1 h1 => ?_))
  refine E_aload_n dL_law_1034 rfl ?_
  refine E_aload_n dL_law_1035 rfl ?_
  refine E_iload_n dL_law_1036 rfl ?_
  refine E_ic (v := 1) dL_law_1037 (by decide) ?_
  refine E_iadd dL_law_1038 ?_
  refine E_sld (j := i + 1) hX dL_law_1039 (nI_add i 1) (by omega) (by omega) ?_
  refine E_V1i vL_121_12 dL_law_1040 (Nat.le_of_ble_eq_true rfl) (by decide) (sh_159 _) (h1 (fun S2 h2 => ?_))
  exact E_icmp_eq dL_law_1043 (fun _ => K S2 h2) (fun c => absurd rfl c)
theorem c_text (hS : HasS Θ adK adV fv) (hX : ∀ U H, tX Θ U H → XS b L xs (tb Θ) U H) (hL : L ≤ 3072) (hi : i + 6 ≤ L) (h : JJ S) (K : ∀ S2, JJ S2 → E Θ 130 183 10392 yL_law cL_law 4 (some .boolean) 183 10392 183 (lay Θ S2) 1549 [(3, .int (nI i)), (0, .ref b), (1, .ref (tb Θ + 0)), (2, .ref (tb Θ + 159))] [] (Qi (fun r _ => r = 1))) : E Θ 130 183 10392 yL_law cL_law 4 (some .boolean) 183 10392 183 (lay Θ S) 1048 [(3, .int (nI i)), (0, .ref b), (1, .ref (tb Θ + 0)), (2, .ref (tb Θ + 159))] [] (Qi (fun r _ => r = 1)) := by
  refine E_aload_n dL_law_1048 rfl ?_
  refine E_V0i vL_122_11 dL_law_1049 (Nat.le_of_ble_eq_true rfl) (by decide) (sh_0 _) (j_text hS h (fun r S1 h1 => ?_))
  refine E_aload_n dL_law_1052 rfl ?_
  refine E_V0i vL_125_12 dL_law_1053 (Nat.le_of_ble_eq_true rfl) (by decide) (sh_159 _) (h1 (fun S2 h2 => ?_))
  exact E_icmp_eq dL_law_1056 (fun _ => K S2 h2) (fun c => absurd rfl c)
theorem c_textTold (hX : ∀ U H, tX Θ U H → XS b L xs (tb Θ) U H) (hL : L ≤ 3072) (hi : i + 6 ≤ L) (h : JJ S) (K : ∀ S2, JJ S2 → E Θ 130 183 10392 yL_law cL_law 4 (some .boolean) 183 10392 183 (lay Θ S2) 1549 [(3, .int (nI i)), (0, .ref b), (1, .ref (tb Θ + 0)), (2, .ref (tb Θ + 159))] [] (Qi (fun r _ => r = 1))) : E Θ 130 183 10392 yL_law cL_law 4 (some .boolean) 183 10392 183 (lay Θ S) 1061 [(3, .int (nI i)), (0, .ref b), (1, .ref (tb Θ + 0)), (2, .ref (tb Θ + 159))] [] (Qi (fun r _ => r = 1)) := by
  refine E_aload_n dL_law_1061 rfl ?_
  refine E_aload_n dL_law_1062 rfl ?_
  refine E_iload_n dL_law_1063 rfl ?_
  refine E_ic (v := 1) dL_law_1064 (by decide) ?_
  refine E_iadd dL_law_1065 ?_
  refine E_sld (j := i + 1) hX dL_law_1066 (nI_add i 1) (by omega) (by omega) ?_
  refine E_aload_n dL_law_1067 rfl ?_
  refine E_iload_n dL_law_1068 rfl ?_
  refine E_ic (v := 2) dL_law_1069 (by decide) ?_
  refine E_iadd dL_law_1070 ?_
  refine E_sld (j := i + 2) hX dL_law_1071 (nI_add i 2) (by omega) (by omega) ?_
  refine E_V2i vL_126_11 dL_law_1072 (Nat.le_of_ble_eq_true rfl) (by decide) (sh_0 _) (j_textTold h (fun r S1 h1 => ?_))
  refine E_aload_n dL_law_1075 rfl ?_
  refine E_aload_n dL_law_1076 rfl ?_
  refine E_iload_n dL_law_1077 rfl ?_
  refine E_ic (v := 1) dL_law_1078 (by decide) ?_
  refine E_iadd dL_law_1079 ?_
  refine E_sld (j := i + 1) hX dL_law_1080 (nI_add i 1) (by omega) (by omega) ?_
  refine E_aload_n dL_law_1081 rfl ?_
  refine E_iload_n dL_law_1082 rfl ?_
  refine E_ic (v := 2) dL_law_1083 (by decide) ?_
  refine E_iadd dL_law_1084 ?_
  refine E_sld (j := i + 2) hX dL_law_1085 (nI_add i 2) (by omega) (by omega) ?_
  refine E_V2i vL_129_12 dL_law_1086 (Nat.le_of_ble_eq_true rfl) (by decide) (sh_159 _) (h1 (fun S2 h2 => ?_))
  exact E_icmp_eq dL_law_1089 (fun _ => K S2 h2) (fun c => absurd rfl c)
theorem c_why (hX : ∀ U H, tX Θ U H → XS b L xs (tb Θ) U H) (hL : L ≤ 3072) (hi : i + 6 ≤ L) (h : JJ S) (K : ∀ S2, JJ S2 → E Θ 130 183 10392 yL_law cL_law 4 (some .boolean) 183 10392 183 (lay Θ S2) 1549 [(3, .int (nI i)), (0, .ref b), (1, .ref (tb Θ + 0)), (2, .ref (tb Θ + 159))] [] (Qi (fun r _ => r = 1))) : E Θ 130 183 10392 yL_law cL_law 4 (some .boolean) 183 10392 183 (lay Θ S) 1094 [(3, .int (nI i)), (0, .ref b), (1, .ref (tb Θ + 0)), (2, .ref (tb Θ + 159))] [] (Qi (fun r _ => r = 1)) := by
  refine E_aload_n dL_law_1094 rfl ?_
  refine E_aload_n dL_law_1095 rfl ?_
  refine E_iload_n dL_law_1096 rfl ?_
  refine E_ic (v := 1) dL_law_1097 (by decide) ?_
  refine E_iadd dL_law_1098 ?_
  refine E_sld (j := i + 1) hX dL_law_1099 (nI_add i 1) (by omega) (by omega) ?_
  refine E_V1i vL_130_11 dL_law_1100 (Nat.le_of_ble_eq_true rfl) (by decide) (sh_0 _) (j_why h (fun r S1 h1 => ?_))
  refine E_aload_n dL_law_1103 rfl ?_
  refine E_aload_n dL_law_1104 rfl ?_
  refine E_iload_n dL_law_1105 rfl ?_
  refine E_ic (v := 1) dL_law_1106 (by decide) ?_
  refine E_iadd dL_law_1107 ?_
  refine E_sld (j := i + 1) hX dL_law_1108 (nI_add i 1) (by omega) (by omega) ?_
  refine E_V1i vL_133_12 dL_law_1109 (Nat.le_of_ble_eq_true rfl) (by decide) (sh_159 _) (h1 (fun S2 h2 => ?_))
  exact E_icmp_eq dL_law_1112 (fun _ => K S2 h2) (fun c => absurd rfl c)
theorem c_sheet (hX : ∀ U H, tX Θ U H → XS b L xs (tb Θ) U H) (hL : L ≤ 3072) (hi : i + 6 ≤ L) (h : JJ S) (K : ∀ S2, JJ S2 → E Θ 130 183 10392 yL_law cL_law 4 (some .boolean) 183 10392 183 (lay Θ S2) 1549 [(3, .int (nI i)), (0, .ref b), (1, .ref (tb Θ + 0)), (2, .ref (tb Θ + 159))] [] (Qi (fun r _ => r = 1))) : E Θ 130 183 10392 yL_law cL_law 4 (some .boolean) 183 10392 183 (lay Θ S) 1117 [(3, .int (nI i)), (0, .ref b), (1, .ref (tb Θ + 0)), (2, .ref (tb Θ + 159))] [] (Qi (fun r _ => r = 1)) := by
  refine E_aload_n dL_law_1117 rfl ?_
  refine E_aload_n dL_law_1118 rfl ?_
  refine E_iload_n dL_law_1119 rfl ?_
  refine E_ic (v := 1) dL_law_1120 (by decide) ?_
  refine E_iadd dL_law_1121 ?_
  refine E_sld (j := i + 1) hX dL_law_1122 (nI_add i 1) (by omega) (by omega) ?_
  refine E_aload_n dL_law_1123 rfl ?_
  refine E_iload_n dL_law_1124 rfl ?_
  refine E_ic (v := 2) dL_law_1125 (by decide) ?_
  refine E_iadd dL_law_1126 ?_
  refine E_sld (j := i + 2) hX dL_law_1127 (nI_add i 2) (by omega) (by omega) ?_
  refine E_aload_n dL_law_1128 rfl ?_
  refine E_iload_n dL_law_1129 rfl ?_
  refine E_ic (v := 3) dL_law_1130 (by decide) ?_
  refine E_iadd dL_law_1131 ?_
  refine E_sld (j := i + 3) hX dL_law_1132 (nI_add i 3) (by omega) (by omega) ?_
  refine E_V3i vL_134_11 dL_law_1133 (Nat.le_of_ble_eq_true rfl) (by decide) (sh_0 _) (j_sheet h (fun r S1 h1 => ?_))
  refine E_aload_n dL_law_1136 rfl ?_
  refine E_aload_n dL_law_1137 rfl ?_
  refine E_iload_n dL_law_1138 rfl ?_
  refine E_ic (v := 1) dL_law_1139 (by decide) ?_
  refine E_iadd dL_law_1140 ?_
  refine E_sld (j := i + 1) hX dL_law_1141 (nI_add i 1) (by omega) (by omega) ?_
  refine E_aload_n dL_law_1142 rfl ?_
  refine E_iload_n dL_law_1143 rfl ?_
  refine E_ic (v := 2) dL_law_1144 (by decide) ?_
  refine E_iadd dL_law_1145 ?_
  refine E_sld (j := i + 2) hX dL_law_1146 (nI_add i 2) (by omega) (by omega) ?_
  refine E_aload_n dL_law_1147 rfl ?_
  refine E_iload_n dL_law_1148 rfl ?_
  refine E_ic (v := 3) dL_law_1149 (by decide) ?_
  refine E_iadd dL_law_1150 ?_
  refine E_sld (j := i + 3) hX dL_law_1151 (nI_add i 3) (by omega) (by omega) ?_
  refine E_V3i vL_137_12 dL_law_1152 (Nat.le_of_ble_eq_true rfl) (by decide) (sh_159 _) (h1 (fun S2 h2 => ?_))
  exact E_icmp_eq dL_law_1155 (fun _ => K S2 h2) (fun c => absurd rfl c)
theorem c_mark (hX : ∀ U H, tX Θ U H → XS b L xs (tb Θ) U H) (hL : L ≤ 3072) (hi : i + 6 ≤ L) (h : JJ S) (K : ∀ S2, JJ S2 → E Θ 130 183 10392 yL_law cL_law 4 (some .boolean) 183 10392 183 (lay Θ S2) 1549 [(3, .int (nI i)), (0, .ref b), (1, .ref (tb Θ + 0)), (2, .ref (tb Θ + 159))] [] (Qi (fun r _ => r = 1))) : E Θ 130 183 10392 yL_law cL_law 4 (some .boolean) 183 10392 183 (lay Θ S) 1160 [(3, .int (nI i)), (0, .ref b), (1, .ref (tb Θ + 0)), (2, .ref (tb Θ + 159))] [] (Qi (fun r _ => r = 1)) := by
  refine E_aload_n dL_law_1160 rfl ?_
  refine E_aload_n dL_law_1161 rfl ?_
  refine E_iload_n dL_law_1162 rfl ?_
  refine E_ic (v := 1) dL_law_1163 (by decide) ?_
  refine E_iadd dL_law_1164 ?_
  refine E_sld (j := i + 1) hX dL_law_1165 (nI_add i 1) (by omega) (by omega) ?_
  refine E_aload_n dL_law_1166 rfl ?_
  refine E_iload_n dL_law_1167 rfl ?_
  refine E_ic (v := 2) dL_law_1168 (by decide) ?_
  refine E_iadd dL_law_1169 ?_
  refine E_sld (j := i + 2) hX dL_law_1170 (nI_add i 2) (by omega) (by omega) ?_
  refine E_aload_n dL_law_1171 rfl ?_
  refine E_iload_n dL_law_1172 rfl ?_
  refine E_ic (v := 3) dL_law_1173 (by decide) ?_
  refine E_iadd dL_law_1174 ?_
  refine E_sld (j := i + 3) hX dL_law_1175 (nI_add i 3) (by omega) (by omega) ?_
  refine E_V3i vL_138_11 dL_law_1176 (Nat.le_of_ble_eq_true rfl) (by decide) (sh_0 _) (j_mark h (fun r S1 h1 => ?_))
  refine E_aload_n dL_law_1179 rfl ?_
  refine E_aload_n dL_law_1180 rfl ?_
  refine E_iload_n dL_law_1181 rfl ?_
  refine E_ic (v := 1) dL_law_1182 (by decide) ?_
  refine E_iadd dL_law_1183 ?_
  refine E_sld (j := i + 1) hX dL_law_1184 (nI_add i 1) (by omega) (by omega) ?_
  refine E_aload_n dL_law_1185 rfl ?_
  refine E_iload_n dL_law_1186 rfl ?_
  refine E_ic (v := 2) dL_law_1187 (by decide) ?_
  refine E_iadd dL_law_1188 ?_
  refine E_sld (j := i + 2) hX dL_law_1189 (nI_add i 2) (by omega) (by omega) ?_
  refine E_aload_n dL_law_1190 rfl ?_
  refine E_iload_n dL_law_1191 rfl ?_
  refine E_ic (v := 3) dL_law_1192 (by decide) ?_
  refine E_iadd dL_law_1193 ?_
  refine E_sld (j := i + 3) hX dL_law_1194 (nI_add i 3) (by omega) (by omega) ?_
  refine E_V3i vL_141_12 dL_law_1195 (Nat.le_of_ble_eq_true rfl) (by decide) (sh_159 _) (h1 (fun S2 h2 => ?_))
  exact E_icmp_eq dL_law_1198 (fun _ => K S2 h2) (fun c => absurd rfl c)
theorem c_pour (hX : ∀ U H, tX Θ U H → XS b L xs (tb Θ) U H) (hL : L ≤ 3072) (hi : i + 6 ≤ L) (h : JJ S) (K : ∀ S2, JJ S2 → E Θ 130 183 10392 yL_law cL_law 4 (some .boolean) 183 10392 183 (lay Θ S2) 1549 [(3, .int (nI i)), (0, .ref b), (1, .ref (tb Θ + 0)), (2, .ref (tb Θ + 159))] [] (Qi (fun r _ => r = 1))) : E Θ 130 183 10392 yL_law cL_law 4 (some .boolean) 183 10392 183 (lay Θ S) 1203 [(3, .int (nI i)), (0, .ref b), (1, .ref (tb Θ + 0)), (2, .ref (tb Θ + 159))] [] (Qi (fun r _ => r = 1)) := by
  refine E_aload_n dL_law_1203 rfl ?_
  refine E_aload_n dL_law_1204 rfl ?_
  refine E_iload_n dL_law_1205 rfl ?_
  refine E_ic (v := 1) dL_law_1206 (by decide) ?_
  refine E_iadd dL_law_1207 ?_
  refine E_sld (j := i + 1) hX dL_law_1208 (nI_add i 1) (by omega) (by omega) ?_
  refine E_V1i vL_142_11 dL_law_1209 (Nat.le_of_ble_eq_true rfl) (by decide) (sh_0 _) (j_pour h (fun r S1 h1 => ?_))
  refine E_aload_n dL_law_1212 rfl ?_
  refine E_aload_n dL_law_1213 rfl ?_
  refine E_iload_n dL_law_1214 rfl ?_
  refine E_ic (v := 1) dL_law_1215 (by decide) ?_
  refine E_iadd dL_law_1216 ?_
  refine E_sld (j := i + 1) hX dL_law_1217 (nI_add i 1) (by omega) (by omega) ?_
  refine E_V1i vL_145_12 dL_law_1218 (Nat.le_of_ble_eq_true rfl) (by decide) (sh_159 _) (h1 (fun S2 h2 => ?_))
  exact E_icmp_eq dL_law_1221 (fun _ => K S2 h2) (fun c => absurd rfl c)
theorem c_reads (hX : ∀ U H, tX Θ U H → XS b L xs (tb Θ) U H) (hL : L ≤ 3072) (hi : i + 6 ≤ L) (h : JJ S) (K : ∀ S2, JJ S2 → E Θ 130 183 10392 yL_law cL_law 4 (some .boolean) 183 10392 183 (lay Θ S2) 1549 [(3, .int (nI i)), (0, .ref b), (1, .ref (tb Θ + 0)), (2, .ref (tb Θ + 159))] [] (Qi (fun r _ => r = 1))) : E Θ 130 183 10392 yL_law cL_law 4 (some .boolean) 183 10392 183 (lay Θ S) 1226 [(3, .int (nI i)), (0, .ref b), (1, .ref (tb Θ + 0)), (2, .ref (tb Θ + 159))] [] (Qi (fun r _ => r = 1)) := by
  refine E_aload_n dL_law_1226 rfl ?_
  refine E_aload_n dL_law_1227 rfl ?_
  refine E_iload_n dL_law_1228 rfl ?_
  refine E_ic (v := 1) dL_law_1229 (by decide) ?_
  refine E_iadd dL_law_1230 ?_
  refine E_sld (j := i + 1) hX dL_law_1231 (nI_add i 1) (by omega) (by omega) ?_
  refine E_V1i vL_146_11 dL_law_1232 (Nat.le_of_ble_eq_true rfl) (by decide) (sh_0 _) (j_reads h (fun r S1 h1 => ?_))
  refine E_aload_n dL_law_1235 rfl ?_
  refine E_aload_n dL_law_1236 rfl ?_
  refine E_iload_n dL_law_1237 rfl ?_
  refine E_ic (v := 1) dL_law_1238 (by decide) ?_
  refine E_iadd dL_law_1239 ?_
  refine E_sld (j := i + 1) hX dL_law_1240 (nI_add i 1) (by omega) (by omega) ?_
  refine E_V1i vL_149_12 dL_law_1241 (Nat.le_of_ble_eq_true rfl) (by decide) (sh_159 _) (h1 (fun S2 h2 => ?_))
  exact E_icmp_eq dL_law_1244 (fun _ => K S2 h2) (fun c => absurd rfl c)
theorem c_copy (hX : ∀ U H, tX Θ U H → XS b L xs (tb Θ) U H) (hL : L ≤ 3072) (hi : i + 6 ≤ L) (h : JJ S) (K : ∀ S2, JJ S2 → E Θ 130 183 10392 yL_law cL_law 4 (some .boolean) 183 10392 183 (lay Θ S2) 1549 [(3, .int (nI i)), (0, .ref b), (1, .ref (tb Θ + 0)), (2, .ref (tb Θ + 159))] [] (Qi (fun r _ => r = 1))) : E Θ 130 183 10392 yL_law cL_law 4 (some .boolean) 183 10392 183 (lay Θ S) 1249 [(3, .int (nI i)), (0, .ref b), (1, .ref (tb Θ + 0)), (2, .ref (tb Θ + 159))] [] (Qi (fun r _ => r = 1)) := by
  refine E_aload_n dL_law_1249 rfl ?_
  refine E_aload_n dL_law_1250 rfl ?_
  refine E_iload_n dL_law_1251 rfl ?_
  refine E_ic (v := 1) dL_law_1252 (by decide) ?_
  refine E_iadd dL_law_1253 ?_
  refine E_sld (j := i + 1) hX dL_law_1254 (nI_add i 1) (by omega) (by omega) ?_
  refine E_aload_n dL_law_1255 rfl ?_
  refine E_iload_n dL_law_1256 rfl ?_
  refine E_ic (v := 2) dL_law_1257 (by decide) ?_
  refine E_iadd dL_law_1258 ?_
  refine E_sld (j := i + 2) hX dL_law_1259 (nI_add i 2) (by omega) (by omega) ?_
  refine E_aload_n dL_law_1260 rfl ?_
  refine E_iload_n dL_law_1261 rfl ?_
  refine E_ic (v := 3) dL_law_1262 (by decide) ?_
  refine E_iadd dL_law_1263 ?_
  refine E_sld (j := i + 3) hX dL_law_1264 (nI_add i 3) (by omega) (by omega) ?_
  refine E_aload_n dL_law_1265 rfl ?_
  refine E_iload_n dL_law_1266 rfl ?_
  refine E_ic (v := 4) dL_law_1267 (by decide) ?_
  refine E_iadd dL_law_1268 ?_
  refine E_sld (j := i + 4) hX dL_law_1269 (nI_add i 4) (by omega) (by omega) ?_
  refine E_aload_n dL_law_1270 rfl ?_
  refine E_iload_n dL_law_1271 rfl ?_
  refine E_ic (v := 5) dL_law_1272 (by decide) ?_
  refine E_iadd dL_law_1273 ?_
  refine E_sld (j := i + 5) hX dL_law_1274 (nI_add i 5) (by omega) (by omega) ?_
  refine E_V5i vL_150_11 dL_law_1275 (Nat.le_of_ble_eq_true rfl) (by decide) (sh_0 _) (j_copy h (fun r S1 h1 => ?_))
  refine E_aload_n dL_law_1278 rfl ?_
  refine E_aload_n dL_law_1279 rfl ?_
  refine E_iload_n dL_law_1280 rfl ?_
  refine E_ic (v := 1) dL_law_1281 (by decide) ?_
  refine E_iadd dL_law_1282 ?_
  refine E_sld (j := i + 1) hX dL_law_1283 (nI_add i 1) (by omega) (by omega) ?_
  refine E_aload_n dL_law_1284 rfl ?_
  refine E_iload_n dL_law_1285 rfl ?_
  refine E_ic (v := 2) dL_law_1286 (by decide) ?_
  refine E_iadd dL_law_1287 ?_
  refine E_sld (j := i + 2) hX dL_law_1288 (nI_add i 2) (by omega) (by omega) ?_
  refine E_aload_n dL_law_1289 rfl ?_
  refine E_iload_n dL_law_1290 rfl ?_
  refine E_ic (v := 3) dL_law_1291 (by decide) ?_
  refine E_iadd dL_law_1292 ?_
  refine E_sld (j := i + 3) hX dL_law_1293 (nI_add i 3) (by omega) (by omega) ?_
  refine E_aload_n dL_law_1294 rfl ?_
  refine E_iload_n dL_law_1295 rfl ?_
  refine E_ic (v := 4) dL_law_1296 (by decide) ?_
  refine E_iadd dL_law_1297 ?_
  refine E_sld (j := i + 4) hX dL_law_1298 (nI_add i 4) (by omega) (by omega) ?_
  refine E_aload_n dL_law_1299 rfl ?_
  refine E_iload_n dL_law_1300 rfl ?_
  refine E_ic (v := 5) dL_law_1301 (by decide) ?_
  refine E_iadd dL_law_1302 ?_
  refine E_sld (j := i + 5) hX dL_law_1303 (nI_add i 5) (by omega) (by omega) ?_
  refine E_V5i vL_154_12 dL_law_1304 (Nat.le_of_ble_eq_true rfl) (by decide) (sh_159 _) (h1 (fun S2 h2 => ?_))
  exact E_icmp_eq dL_law_1307 (fun _ => K S2 h2) (fun c => absurd rfl c)
theorem c_lay (hX : ∀ U H, tX Θ U H → XS b L xs (tb Θ) U H) (hL : L ≤ 3072) (hi : i + 6 ≤ L) (h : JJ S) (K : ∀ S2, JJ S2 → E Θ 130 183 10392 yL_law cL_law 4 (some .boolean) 183 10392 183 (lay Θ S2) 1549 [(3, .int (nI i)), (0, .ref b), (1, .ref (tb Θ + 0)), (2, .ref (tb Θ + 159))] [] (Qi (fun r _ => r = 1))) : E Θ 130 183 10392 yL_law cL_law 4 (some .boolean) 183 10392 183 (lay Θ S) 1312 [(3, .int (nI i)), (0, .ref b), (1, .ref (tb Θ + 0)), (2, .ref (tb Θ + 159))] [] (Qi (fun r _ => r = 1)) := by
  refine E_aload_n dL_law_1312 rfl ?_
  refine E_aload_n dL_law_1313 rfl ?_
  refine E_iload_n dL_law_1314 rfl ?_
  refine E_ic (v := 1) dL_law_1315 (by decide) ?_
  refine E_iadd dL_law_1316 ?_
  refine E_sld (j := i + 1) hX dL_law_1317 (nI_add i 1) (by omega) (by omega) ?_
  refine E_aload_n dL_law_1318 rfl ?_
  refine E_iload_n dL_law_1319 rfl ?_
  refine E_ic (v := 2) dL_law_1320 (by decide) ?_
  refine E_iadd dL_law_1321 ?_
  refine E_sld (j := i + 2) hX dL_law_1322 (nI_add i 2) (by omega) (by omega) ?_
  refine E_aload_n dL_law_1323 rfl ?_
  refine E_iload_n dL_law_1324 rfl ?_
  refine E_ic (v := 3) dL_law_1325 (by decide) ?_
  refine E_iadd dL_law_1326 ?_
  refine E_sld (j := i + 3) hX dL_law_1327 (nI_add i 3) (by omega) (by omega) ?_
  refine E_V3i vL_155_11 dL_law_1328 (Nat.le_of_ble_eq_true rfl) (by decide) (sh_0 _) (j_lay h (fun r S1 h1 => ?_))
  refine E_aload_n dL_law_1331 rfl ?_
  refine E_aload_n dL_law_1332 rfl ?_
  refine E_iload_n dL_law_1333 rfl ?_
  refine E_ic (v := 1) dL_law_1334 (by decide) ?_
  refine E_iadd dL_law_1335 ?_
  refine E_sld (j := i + 1) hX dL_law_1336 (nI_add i 1) (by omega) (by omega) ?_
  refine E_aload_n dL_law_1337 rfl ?_
  refine E_iload_n dL_law_1338 rfl ?_
  refine E_ic (v := 2) dL_law_1339 (by decide) ?_
  refine E_iadd dL_law_1340 ?_
  refine E_sld (j := i + 2) hX dL_law_1341 (nI_add i 2) (by omega) (by omega) ?_
  refine E_aload_n dL_law_1342 rfl ?_
  refine E_iload_n dL_law_1343 rfl ?_
  refine E_ic (v := 3) dL_law_1344 (by decide) ?_
  refine E_iadd dL_law_1345 ?_
  refine E_sld (j := i + 3) hX dL_law_1346 (nI_add i 3) (by omega) (by omega) ?_
  refine E_V3i vL_158_12 dL_law_1347 (Nat.le_of_ble_eq_true rfl) (by decide) (sh_159 _) (h1 (fun S2 h2 => ?_))
  exact E_icmp_eq dL_law_1350 (fun _ => K S2 h2) (fun c => absurd rfl c)
theorem c_ask (hX : ∀ U H, tX Θ U H → XS b L xs (tb Θ) U H) (hL : L ≤ 3072) (hi : i + 6 ≤ L) (h : JJ S) (K : ∀ S2, JJ S2 → E Θ 130 183 10392 yL_law cL_law 4 (some .boolean) 183 10392 183 (lay Θ S2) 1549 [(3, .int (nI i)), (0, .ref b), (1, .ref (tb Θ + 0)), (2, .ref (tb Θ + 159))] [] (Qi (fun r _ => r = 1))) : E Θ 130 183 10392 yL_law cL_law 4 (some .boolean) 183 10392 183 (lay Θ S) 1355 [(3, .int (nI i)), (0, .ref b), (1, .ref (tb Θ + 0)), (2, .ref (tb Θ + 159))] [] (Qi (fun r _ => r = 1)) := by
  refine E_aload_n dL_law_1355 rfl ?_
  refine E_aload_n dL_law_1356 rfl ?_
  refine E_iload_n dL_law_1357 rfl ?_
  refine E_ic (v := 1) dL_law_1358 (by decide) ?_
  refine E_iadd dL_law_1359 ?_
  refine E_sld (j := i + 1) hX dL_law_1360 (nI_add i 1) (by omega) (by omega) ?_
  refine E_aload_n dL_law_1361 rfl ?_
  refine E_iload_n dL_law_1362 rfl ?_
  refine E_ic (v := 2) dL_law_1363 (by decide) ?_
  refine E_iadd dL_law_1364 ?_
  refine E_sld (j := i + 2) hX dL_law_1365 (nI_add i 2) (by omega) (by omega) ?_
  refine E_V2i vL_159_11 dL_law_1366 (Nat.le_of_ble_eq_true rfl) (by decide) (sh_0 _) (j_ask h (fun r S1 h1 => ?_))
  refine E_aload_n dL_law_1369 rfl ?_
  refine E_aload_n dL_law_1370 rfl ?_
  refine E_iload_n dL_law_1371 rfl ?_
  refine E_ic (v := 1) dL_law_1372 (by decide) ?_
  refine E_iadd dL_law_1373 ?_
  refine E_sld (j := i + 1) hX dL_law_1374 (nI_add i 1) (by omega) (by omega) ?_
  refine E_aload_n dL_law_1375 rfl ?_
  refine E_iload_n dL_law_1376 rfl ?_
  refine E_ic (v := 2) dL_law_1377 (by decide) ?_
  refine E_iadd dL_law_1378 ?_
  refine E_sld (j := i + 2) hX dL_law_1379 (nI_add i 2) (by omega) (by omega) ?_
  refine E_V2i vL_162_12 dL_law_1380 (Nat.le_of_ble_eq_true rfl) (by decide) (sh_159 _) (h1 (fun S2 h2 => ?_))
  exact E_icmp_eq dL_law_1383 (fun _ => K S2 h2) (fun c => absurd rfl c)
theorem c_item (hX : ∀ U H, tX Θ U H → XS b L xs (tb Θ) U H) (hL : L ≤ 3072) (hi : i + 6 ≤ L) (h : JJ S) (K : ∀ S2, JJ S2 → E Θ 130 183 10392 yL_law cL_law 4 (some .boolean) 183 10392 183 (lay Θ S2) 1549 [(3, .int (nI i)), (0, .ref b), (1, .ref (tb Θ + 0)), (2, .ref (tb Θ + 159))] [] (Qi (fun r _ => r = 1))) : E Θ 130 183 10392 yL_law cL_law 4 (some .boolean) 183 10392 183 (lay Θ S) 1388 [(3, .int (nI i)), (0, .ref b), (1, .ref (tb Θ + 0)), (2, .ref (tb Θ + 159))] [] (Qi (fun r _ => r = 1)) := by
  refine E_aload_n dL_law_1388 rfl ?_
  refine E_aload_n dL_law_1389 rfl ?_
  refine E_iload_n dL_law_1390 rfl ?_
  refine E_ic (v := 1) dL_law_1391 (by decide) ?_
  refine E_iadd dL_law_1392 ?_
  refine E_sld (j := i + 1) hX dL_law_1393 (nI_add i 1) (by omega) (by omega) ?_
  refine E_aload_n dL_law_1394 rfl ?_
  refine E_iload_n dL_law_1395 rfl ?_
  refine E_ic (v := 2) dL_law_1396 (by decide) ?_
  refine E_iadd dL_law_1397 ?_
  refine E_sld (j := i + 2) hX dL_law_1398 (nI_add i 2) (by omega) (by omega) ?_
  refine E_V2i vL_163_11 dL_law_1399 (Nat.le_of_ble_eq_true rfl) (by decide) (sh_0 _) (j_item h (fun r S1 h1 => ?_))
  refine E_aload_n dL_law_1402 rfl ?_
  refine E_aload_n dL_law_1403 rfl ?_
  refine E_iload_n dL_law_1404 rfl ?_
  refine E_ic (v := 1) dL_law_1405 (by decide) ?_
  refine E_iadd dL_law_1406 ?_
  refine E_sld (j := i + 1) hX dL_law_1407 (nI_add i 1) (by omega) (by omega) ?_
  refine E_aload_n dL_law_1408 rfl ?_
  refine E_iload_n dL_law_1409 rfl ?_
  refine E_ic (v := 2) dL_law_1410 (by decide) ?_
  refine E_iadd dL_law_1411 ?_
  refine E_sld (j := i + 2) hX dL_law_1412 (nI_add i 2) (by omega) (by omega) ?_
  refine E_V2i vL_166_12 dL_law_1413 (Nat.le_of_ble_eq_true rfl) (by decide) (sh_159 _) (h1 (fun S2 h2 => ?_))
  exact E_icmp_eq dL_law_1416 (fun _ => K S2 h2) (fun c => absurd rfl c)
theorem c_rest (hX : ∀ U H, tX Θ U H → XS b L xs (tb Θ) U H) (hL : L ≤ 3072) (hi : i + 6 ≤ L) (h : JJ S) (K : ∀ S2, JJ S2 → E Θ 130 183 10392 yL_law cL_law 4 (some .boolean) 183 10392 183 (lay Θ S2) 1549 [(3, .int (nI i)), (0, .ref b), (1, .ref (tb Θ + 0)), (2, .ref (tb Θ + 159))] [] (Qi (fun r _ => r = 1))) : E Θ 130 183 10392 yL_law cL_law 4 (some .boolean) 183 10392 183 (lay Θ S) 1421 [(3, .int (nI i)), (0, .ref b), (1, .ref (tb Θ + 0)), (2, .ref (tb Θ + 159))] [] (Qi (fun r _ => r = 1)) := by
  refine E_aload_n dL_law_1421 rfl ?_
  refine E_aload_n dL_law_1422 rfl ?_
  refine E_iload_n dL_law_1423 rfl ?_
  refine E_ic (v := 1) dL_law_1424 (by decide) ?_
  refine E_iadd dL_law_1425 ?_
  refine E_sld (j := i + 1) hX dL_law_1426 (nI_add i 1) (by omega) (by omega) ?_
  refine E_aload_n dL_law_1427 rfl ?_
  refine E_iload_n dL_law_1428 rfl ?_
  refine E_ic (v := 2) dL_law_1429 (by decide) ?_
  refine E_iadd dL_law_1430 ?_
  refine E_sld (j := i + 2) hX dL_law_1431 (nI_add i 2) (by omega) (by omega) ?_
  refine E_V2i vL_167_11 dL_law_1432 (Nat.le_of_ble_eq_true rfl) (by decide) (sh_0 _) (j_rest h (fun r S1 h1 => ?_))
  refine E_aload_n dL_law_1435 rfl ?_
  refine E_aload_n dL_law_1436 rfl ?_
  refine E_iload_n dL_law_1437 rfl ?_
  refine E_ic (v := 1) dL_law_1438 (by decide) ?_
  refine E_iadd dL_law_1439 ?_
  refine E_sld (j := i + 1) hX dL_law_1440 (nI_add i 1) (by omega) (by omega) ?_
  refine E_aload_n dL_law_1441 rfl ?_
  refine E_iload_n dL_law_1442 rfl ?_
  refine E_ic (v := 2) dL_law_1443 (by decide) ?_
  refine E_iadd dL_law_1444 ?_
  refine E_sld (j := i + 2) hX dL_law_1445 (nI_add i 2) (by omega) (by omega) ?_
  refine E_V2i vL_170_12 dL_law_1446 (Nat.le_of_ble_eq_true rfl) (by decide) (sh_159 _) (h1 (fun S2 h2 => ?_))
  exact E_icmp_eq dL_law_1449 (fun _ => K S2 h2) (fun c => absurd rfl c)
theorem c_tell (hX : ∀ U H, tX Θ U H → XS b L xs (tb Θ) U H) (hL : L ≤ 3072) (hi : i + 6 ≤ L) (h : JJ S) (K : ∀ S2, JJ S2 → E Θ 130 183 10392 yL_law cL_law 4 (some .boolean) 183 10392 183 (lay Θ S2) 1549 [(3, .int (nI i)), (0, .ref b), (1, .ref (tb Θ + 0)), (2, .ref (tb Θ + 159))] [] (Qi (fun r _ => r = 1))) : E Θ 130 183 10392 yL_law cL_law 4 (some .boolean) 183 10392 183 (lay Θ S) 1454 [(3, .int (nI i)), (0, .ref b), (1, .ref (tb Θ + 0)), (2, .ref (tb Θ + 159))] [] (Qi (fun r _ => r = 1)) := by
  refine E_aload_n dL_law_1454 rfl ?_
  refine E_aload_n dL_law_1455 rfl ?_
  refine E_iload_n dL_law_1456 rfl ?_
  refine E_ic (v := 1) dL_law_1457 (by decide) ?_
  refine E_iadd dL_law_1458 ?_
  refine E_sld (j := i + 1) hX dL_law_1459 (nI_add i 1) (by omega) (by omega) ?_
  refine E_V1i vL_171_11 dL_law_1460 (Nat.le_of_ble_eq_true rfl) (by decide) (sh_0 _) (j_tell h (fun r S1 h1 => ?_))
  refine E_aload_n dL_law_1463 rfl ?_
  refine E_aload_n dL_law_1464 rfl ?_
  refine E_iload_n dL_law_1465 rfl ?_
  refine E_ic (v := 1) dL_law_1466 (by decide) ?_
  refine E_iadd dL_law_1467 ?_
  refine E_sld (j := i + 1) hX dL_law_1468 (nI_add i 1) (by omega) (by omega) ?_
  refine E_V1i vL_174_12 dL_law_1469 (Nat.le_of_ble_eq_true rfl) (by decide) (sh_159 _) (h1 (fun S2 h2 => ?_))
  exact E_icmp_eq dL_law_1472 (fun _ => K S2 h2) (fun c => absurd rfl c)
theorem c_check (hX : ∀ U H, tX Θ U H → XS b L xs (tb Θ) U H) (hL : L ≤ 3072) (hi : i + 6 ≤ L) (h : JJ S) (K : ∀ S2, JJ S2 → E Θ 130 183 10392 yL_law cL_law 4 (some .boolean) 183 10392 183 (lay Θ S2) 1549 [(3, .int (nI i)), (0, .ref b), (1, .ref (tb Θ + 0)), (2, .ref (tb Θ + 159))] [] (Qi (fun r _ => r = 1))) : E Θ 130 183 10392 yL_law cL_law 4 (some .boolean) 183 10392 183 (lay Θ S) 1477 [(3, .int (nI i)), (0, .ref b), (1, .ref (tb Θ + 0)), (2, .ref (tb Θ + 159))] [] (Qi (fun r _ => r = 1)) := by
  refine E_aload_n dL_law_1477 rfl ?_
  refine E_aload_n dL_law_1478 rfl ?_
  refine E_iload_n dL_law_1479 rfl ?_
  refine E_ic (v := 1) dL_law_1480 (by decide) ?_
  refine E_iadd dL_law_1481 ?_
  refine E_sld (j := i + 1) hX dL_law_1482 (nI_add i 1) (by omega) (by omega) ?_
  refine E_V1i vL_175_11 dL_law_1483 (Nat.le_of_ble_eq_true rfl) (by decide) (sh_0 _) (j_check h (fun r S1 h1 => ?_))
  refine E_aload_n dL_law_1486 rfl ?_
  refine E_aload_n dL_law_1487 rfl ?_
  refine E_iload_n dL_law_1488 rfl ?_
  refine E_ic (v := 1) dL_law_1489 (by decide) ?_
  refine E_iadd dL_law_1490 ?_
  refine E_sld (j := i + 1) hX dL_law_1491 (nI_add i 1) (by omega) (by omega) ?_
  refine E_V1i vL_178_12 dL_law_1492 (Nat.le_of_ble_eq_true rfl) (by decide) (sh_159 _) (h1 (fun S2 h2 => ?_))
  exact E_icmp_eq dL_law_1495 (fun _ => K S2 h2) (fun c => absurd rfl c)
theorem c_keep (hX : ∀ U H, tX Θ U H → XS b L xs (tb Θ) U H) (hL : L ≤ 3072) (hi : i + 6 ≤ L) (h : JJ S) (K : ∀ S2, JJ S2 → E Θ 130 183 10392 yL_law cL_law 4 (some .boolean) 183 10392 183 (lay Θ S2) 1549 [(3, .int (nI i)), (0, .ref b), (1, .ref (tb Θ + 0)), (2, .ref (tb Θ + 159))] [] (Qi (fun r _ => r = 1))) : E Θ 130 183 10392 yL_law cL_law 4 (some .boolean) 183 10392 183 (lay Θ S) 1500 [(3, .int (nI i)), (0, .ref b), (1, .ref (tb Θ + 0)), (2, .ref (tb Θ + 159))] [] (Qi (fun r _ => r = 1)) := by
  refine E_aload_n dL_law_1500 rfl ?_
  refine E_V0i vL_179_11 dL_law_1501 (Nat.le_of_ble_eq_true rfl) (by decide) (sh_0 _) (j_keep h (fun r S1 h1 => ?_))
  refine E_aload_n dL_law_1504 rfl ?_
  refine E_V0i vL_182_12 dL_law_1505 (Nat.le_of_ble_eq_true rfl) (by decide) (sh_159 _) (h1 (fun S2 h2 => ?_))
  exact E_icmp_eq dL_law_1508 (fun _ => K S2 h2) (fun c => absurd rfl c)
theorem c_back (hX : ∀ U H, tX Θ U H → XS b L xs (tb Θ) U H) (hL : L ≤ 3072) (hi : i + 6 ≤ L) (h : JJ S) (K : ∀ S2, JJ S2 → E Θ 130 183 10392 yL_law cL_law 4 (some .boolean) 183 10392 183 (lay Θ S2) 1549 [(3, .int (nI i)), (0, .ref b), (1, .ref (tb Θ + 0)), (2, .ref (tb Θ + 159))] [] (Qi (fun r _ => r = 1))) : E Θ 130 183 10392 yL_law cL_law 4 (some .boolean) 183 10392 183 (lay Θ S) 1513 [(3, .int (nI i)), (0, .ref b), (1, .ref (tb Θ + 0)), (2, .ref (tb Θ + 159))] [] (Qi (fun r _ => r = 1)) := by
  refine E_aload_n dL_law_1513 rfl ?_
  refine E_V0i vL_183_11 dL_law_1514 (Nat.le_of_ble_eq_true rfl) (by decide) (sh_0 _) (j_back h (fun r S1 h1 => ?_))
  refine E_aload_n dL_law_1517 rfl ?_
  refine E_V0i vL_186_12 dL_law_1518 (Nat.le_of_ble_eq_true rfl) (by decide) (sh_159 _) (h1 (fun S2 h2 => ?_))
  exact E_icmp_eq dL_law_1521 (fun _ => K S2 h2) (fun c => absurd rfl c)
theorem c_count (hX : ∀ U H, tX Θ U H → XS b L xs (tb Θ) U H) (hL : L ≤ 3072) (hi : i + 6 ≤ L) (h : JJ S) (K : ∀ S2, JJ S2 → E Θ 130 183 10392 yL_law cL_law 4 (some .boolean) 183 10392 183 (lay Θ S2) 1549 [(3, .int (nI i)), (0, .ref b), (1, .ref (tb Θ + 0)), (2, .ref (tb Θ + 159))] [] (Qi (fun r _ => r = 1))) : E Θ 130 183 10392 yL_law cL_law 4 (some .boolean) 183 10392 183 (lay Θ S) 1526 [(3, .int (nI i)), (0, .ref b), (1, .ref (tb Θ + 0)), (2, .ref (tb Θ + 159))] [] (Qi (fun r _ => r = 1)) := by
  refine E_aload_n dL_law_1526 rfl ?_
  refine E_aload_n dL_law_1527 rfl ?_
  refine E_iload_n dL_law_1528 rfl ?_
  refine E_ic (v := 1) dL_law_1529 (by decide) ?_
  refine E_iadd dL_law_1530 ?_
  refine E_sld (j := i + 1) hX dL_law_1531 (nI_add i 1) (by omega) (by omega) ?_
  refine E_V1i vL_187_11 dL_law_1532 (Nat.le_of_ble_eq_true rfl) (by decide) (sh_0 _) (j_count h (fun r S1 h1 => ?_))
  refine E_aload_n dL_law_1535 rfl ?_
  refine E_aload_n dL_law_1536 rfl ?_
  refine E_iload_n dL_law_1537 rfl ?_
  refine E_ic (v := 1) dL_law_1538 (by decide) ?_
  refine E_iadd dL_law_1539 ?_
  refine E_sld (j := i + 1) hX dL_law_1540 (nI_add i 1) (by omega) (by omega) ?_
  refine E_V1i vL_190_12 dL_law_1541 (Nat.le_of_ble_eq_true rfl) (by decide) (sh_159 _) (h1 (fun S2 h2 => ?_))
  exact E_icmp_eq dL_law_1544 (fun _ => K S2 h2) (fun c => absurd rfl c)
end Lc
