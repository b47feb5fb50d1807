section
variable {g : G0} {D : DD} {n : Nat}
theorem l_home {i : Int} (hI : IV n D) (hn : n ≤ 600) (hN : g.2.1.2.1 < 2147483648) (hi : 0 ≤ i ∧ i + 6 ≤ g.2.1.2.1) (K : ∀ D2, IV (n + 1) D2 → T g mL_law room_1 599919 7300437 lw_Z 1247 [some (.float 0), some (.ref 0), some (.ref 57), some (iI i)] [] SH D2) : T g mL_law room_1 599919 7300437 lw_Z 180 [some (.float 0), some (.ref 0), some (.ref 57), some (iI i)] [] SH D := by
  refine T_aload_n dL_law_180 rfl ?_
  refine T_aloadS dL_law_181 rfl ?_
  refine T_iload_n dL_law_182 rfl ?_
  refine T_iconst dL_law_183 ?_
  refine T_iadd dL_law_184 ?_
  refine T_sld dL_law_185 rfl hN (by first | omega | (simp [st2]; omega)) (by first | omega | (simp [st2]; omega)) ?_
  refine T_aloadS dL_law_186 rfl ?_
  refine T_iload_n dL_law_187 rfl ?_
  refine T_iconst dL_law_188 ?_
  refine T_iadd dL_law_189 ?_
  refine T_sld dL_law_190 rfl hN (by first | omega | (simp [st2]; omega)) (by first | omega | (simp [st2]; omega)) ?_
  refine T_aloadS dL_law_191 rfl ?_
  refine T_iload_n dL_law_192 rfl ?_
  refine T_iconst dL_law_193 ?_
  refine T_iadd dL_law_194 ?_
  refine T_sld dL_law_195 rfl hN (by first | omega | (simp [st2]; omega)) (by first | omega | (simp [st2]; omega)) ?_
  refine T_cV_3 dL_law_196 lkL_13 rfl (Nat.le_of_ble_eq_true rfl) (RO_l (d := 20) (by decide)) (Nat.le_of_ble_eq_true rfl) ?_
  refine o_home hI hn (inR_s _) (inR_s _) (inR_s _) (fun v D1 rf => ?_)
  refine T_aload_n dL_law_199 rfl ?_
  refine T_aloadS dL_law_200 rfl ?_
  refine T_iload_n dL_law_201 rfl ?_
  refine T_iconst dL_law_202 ?_
  refine T_iadd dL_law_203 ?_
  refine T_sld dL_law_204 rfl hN (by first | omega | (simp [st2]; omega)) (by first | omega | (simp [st2]; omega)) ?_
  refine T_aloadS dL_law_205 rfl ?_
  refine T_iload_n dL_law_206 rfl ?_
  refine T_iconst dL_law_207 ?_
  refine T_iadd dL_law_208 ?_
  refine T_sld dL_law_209 rfl hN (by first | omega | (simp [st2]; omega)) (by first | omega | (simp [st2]; omega)) ?_
  refine T_aloadS dL_law_210 rfl ?_
  refine T_iload_n dL_law_211 rfl ?_
  refine T_iconst dL_law_212 ?_
  refine T_iadd dL_law_213 ?_
  refine T_sld dL_law_214 rfl hN (by first | omega | (simp [st2]; omega)) (by first | omega | (simp [st2]; omega)) ?_
  refine T_cV_3 dL_law_215 lkL_17 rfl (Nat.le_of_ble_eq_true rfl) (RO_l (d := 20) (by decide)) (Nat.le_of_ble_eq_true rfl) ?_
  refine rf _ (fun D2 h2 => ?_)
  exact T_same 1247 dL_law_218 (by decide) (K D2 h2)
theorem l_church {i : Int} (hI : IV n D) (hn : n ≤ 600) (hN : g.2.1.2.1 < 2147483648) (hi : 0 ≤ i ∧ i + 6 ≤ g.2.1.2.1) (K : ∀ D2, IV (n + 1) D2 → T g mL_law room_1 599919 7300437 lw_Z 1247 [some (.float 0), some (.ref 0), some (.ref 57), some (iI i)] [] SH D2) : T g mL_law room_1 599919 7300437 lw_Z 223 [some (.float 0), some (.ref 0), some (.ref 57), some (iI i)] [] SH D := by
  refine T_aload_n dL_law_223 rfl ?_
  refine T_aloadS dL_law_224 rfl ?_
  refine T_iload_n dL_law_225 rfl ?_
  refine T_iconst dL_law_226 ?_
  refine T_iadd dL_law_227 ?_
  refine T_sld dL_law_228 rfl hN (by first | omega | (simp [st2]; omega)) (by first | omega | (simp [st2]; omega)) ?_
  refine T_aloadS dL_law_229 rfl ?_
  refine T_iload_n dL_law_230 rfl ?_
  refine T_iconst dL_law_231 ?_
  refine T_iadd dL_law_232 ?_
  refine T_sld dL_law_233 rfl hN (by first | omega | (simp [st2]; omega)) (by first | omega | (simp [st2]; omega)) ?_
  refine T_aloadS dL_law_234 rfl ?_
  refine T_iload_n dL_law_235 rfl ?_
  refine T_iconst dL_law_236 ?_
  refine T_iadd dL_law_237 ?_
  refine T_sld dL_law_238 rfl hN (by first | omega | (simp [st2]; omega)) (by first | omega | (simp [st2]; omega)) ?_
  refine T_aloadS dL_law_239 rfl ?_
  refine T_iload_n dL_law_240 rfl ?_
  refine T_iconst dL_law_241 ?_
  refine T_iadd dL_law_242 ?_
  refine T_sld dL_law_243 rfl hN (by first | omega | (simp [st2]; omega)) (by first | omega | (simp [st2]; omega)) ?_
  refine T_cV_4 dL_law_244 lkL_18 rfl (Nat.le_of_ble_eq_true rfl) (RO_l (d := 20) (by decide)) (Nat.le_of_ble_eq_true rfl) ?_
  refine o_church hI hn (inR_s _) (inR_s _) (inR_s _) (inR_s _) (fun v D1 rf => ?_)
  refine T_aload_n dL_law_247 rfl ?_
  refine T_aloadS dL_law_248 rfl ?_
  refine T_iload_n dL_law_249 rfl ?_
  refine T_iconst dL_law_250 ?_
  refine T_iadd dL_law_251 ?_
  refine T_sld dL_law_252 rfl hN (by first | omega | (simp [st2]; omega)) (by first | omega | (simp [st2]; omega)) ?_
  refine T_aloadS dL_law_253 rfl ?_
  refine T_iload_n dL_law_254 rfl ?_
  refine T_iconst dL_law_255 ?_
  refine T_iadd dL_law_256 ?_
  refine T_sld dL_law_257 rfl hN (by first | omega | (simp [st2]; omega)) (by first | omega | (simp [st2]; omega)) ?_
  refine T_aloadS dL_law_258 rfl ?_
  refine T_iload_n dL_law_259 rfl ?_
  refine T_iconst dL_law_260 ?_
  refine T_iadd dL_law_261 ?_
  refine T_sld dL_law_262 rfl hN (by first | omega | (simp [st2]; omega)) (by first | omega | (simp [st2]; omega)) ?_
  refine T_aloadS dL_law_263 rfl ?_
  refine T_iload_n dL_law_264 rfl ?_
  refine T_iconst dL_law_265 ?_
  refine T_iadd dL_law_266 ?_
  refine T_sld dL_law_267 rfl hN (by first | omega | (simp [st2]; omega)) (by first | omega | (simp [st2]; omega)) ?_
  refine T_cV_4 dL_law_268 lkL_22 rfl (Nat.le_of_ble_eq_true rfl) (RO_l (d := 20) (by decide)) (Nat.le_of_ble_eq_true rfl) ?_
  refine rf _ (fun D2 h2 => ?_)
  exact T_same 1247 dL_law_271 (by decide) (K D2 h2)
theorem l_land {i : Int} (hI : IV n D) (hn : n ≤ 600) (hN : g.2.1.2.1 < 2147483648) (hi : 0 ≤ i ∧ i + 6 ≤ g.2.1.2.1) (K : ∀ D2, IV (n + 1) D2 → T g mL_law room_1 599919 7300437 lw_Z 1247 [some (.float 0), some (.ref 0), some (.ref 57), some (iI i)] [] SH D2) : T g mL_law room_1 599919 7300437 lw_Z 276 [some (.float 0), some (.ref 0), some (.ref 57), some (iI i)] [] SH D := by
  refine T_aload_n dL_law_276 rfl ?_
  refine T_aloadS dL_law_277 rfl ?_
  refine T_iload_n dL_law_278 rfl ?_
  refine T_iconst dL_law_279 ?_
  refine T_iadd dL_law_280 ?_
  refine T_sld dL_law_281 rfl hN (by first | omega | (simp [st2]; omega)) (by first | omega | (simp [st2]; omega)) ?_
  refine T_aloadS dL_law_282 rfl ?_
  refine T_iload_n dL_law_283 rfl ?_
  refine T_iconst dL_law_284 ?_
  refine T_iadd dL_law_285 ?_
  refine T_sld dL_law_286 rfl hN (by first | omega | (simp [st2]; omega)) (by first | omega | (simp [st2]; omega)) ?_
  refine T_aloadS dL_law_287 rfl ?_
  refine T_iload_n dL_law_288 rfl ?_
  refine T_iconst dL_law_289 ?_
  refine T_iadd dL_law_290 ?_
  refine T_sld dL_law_291 rfl hN (by first | omega | (simp [st2]; omega)) (by first | omega | (simp [st2]; omega)) ?_
  refine T_aloadS dL_law_292 rfl ?_
  refine T_iload_n dL_law_293 rfl ?_
  refine T_iconst dL_law_294 ?_
  refine T_iadd dL_law_295 ?_
  refine T_sld dL_law_296 rfl hN (by first | omega | (simp [st2]; omega)) (by first | omega | (simp [st2]; omega)) ?_
  refine T_cV_4 dL_law_297 lkL_23 rfl (Nat.le_of_ble_eq_true rfl) (RO_l (d := 20) (by decide)) (Nat.le_of_ble_eq_true rfl) ?_
  refine o_land hI hn (inR_s _) (inR_s _) (inR_s _) (inR_s _) (fun v D1 rf => ?_)
  refine T_aload_n dL_law_300 rfl ?_
  refine T_aloadS dL_law_301 rfl ?_
  refine T_iload_n dL_law_302 rfl ?_
  refine T_iconst dL_law_303 ?_
  refine T_iadd dL_law_304 ?_
  refine T_sld dL_law_305 rfl hN (by first | omega | (simp [st2]; omega)) (by first | omega | (simp [st2]; omega)) ?_
  refine T_aloadS dL_law_306 rfl ?_
  refine T_iload_n dL_law_307 rfl ?_
  refine T_iconst dL_law_308 ?_
  refine T_iadd dL_law_309 ?_
  refine T_sld dL_law_310 rfl hN (by first | omega | (simp [st2]; omega)) (by first | omega | (simp [st2]; omega)) ?_
  refine T_aloadS dL_law_311 rfl ?_
  refine T_iload_n dL_law_312 rfl ?_
  refine T_iconst dL_law_313 ?_
  refine T_iadd dL_law_314 ?_
  refine T_sld dL_law_315 rfl hN (by first | omega | (simp [st2]; omega)) (by first | omega | (simp [st2]; omega)) ?_
  refine T_aloadS dL_law_316 rfl ?_
  refine T_iload_n dL_law_317 rfl ?_
  refine T_iconst dL_law_318 ?_
  refine T_iadd dL_law_319 ?_
  refine T_sld dL_law_320 rfl hN (by first | omega | (simp [st2]; omega)) (by first | omega | (simp [st2]; omega)) ?_
  refine T_cV_4 dL_law_321 lkL_26 rfl (Nat.le_of_ble_eq_true rfl) (RO_l (d := 20) (by decide)) (Nat.le_of_ble_eq_true rfl) ?_
  refine rf _ (fun D2 h2 => ?_)
  exact T_same 1247 dL_law_324 (by decide) (K D2 h2)
theorem l_ofHome {i : Int} (hI : IV n D) (hn : n ≤ 600) (hN : g.2.1.2.1 < 2147483648) (hi : 0 ≤ i ∧ i + 6 ≤ g.2.1.2.1) (K : ∀ D2, IV (n + 1) D2 → T g mL_law room_1 599919 7300437 lw_Z 1247 [some (.float 0), some (.ref 0), some (.ref 57), some (iI i)] [] SH D2) : T g mL_law room_1 599919 7300437 lw_Z 329 [some (.float 0), some (.ref 0), some (.ref 57), some (iI i)] [] SH D := by
  refine T_aload_n dL_law_329 rfl ?_
  refine T_aloadS dL_law_330 rfl ?_
  refine T_iload_n dL_law_331 rfl ?_
  refine T_iconst dL_law_332 ?_
  refine T_iadd dL_law_333 ?_
  refine T_sld dL_law_334 rfl hN (by first | omega | (simp [st2]; omega)) (by first | omega | (simp [st2]; omega)) ?_
  refine T_aloadS dL_law_335 rfl ?_
  refine T_iload_n dL_law_336 rfl ?_
  refine T_iconst dL_law_337 ?_
  refine T_iadd dL_law_338 ?_
  refine T_sld dL_law_339 rfl hN (by first | omega | (simp [st2]; omega)) (by first | omega | (simp [st2]; omega)) ?_
  refine T_cV_2 dL_law_340 lkL_27 rfl (Nat.le_of_ble_eq_true rfl) (RO_l (d := 20) (by decide)) (Nat.le_of_ble_eq_true rfl) ?_
  refine o_ofHome hI (inR_s _) (inR_s _) (fun v D1 rf => ?_)
  refine T_aload_n dL_law_343 rfl ?_
  refine T_aloadS dL_law_344 rfl ?_
  refine T_iload_n dL_law_345 rfl ?_
  refine T_iconst dL_law_346 ?_
  refine T_iadd dL_law_347 ?_
  refine T_sld dL_law_348 rfl hN (by first | omega | (simp [st2]; omega)) (by first | omega | (simp [st2]; omega)) ?_
  refine T_aloadS dL_law_349 rfl ?_
  refine T_iload_n dL_law_350 rfl ?_
  refine T_iconst dL_law_351 ?_
  refine T_iadd dL_law_352 ?_
  refine T_sld dL_law_353 rfl hN (by first | omega | (simp [st2]; omega)) (by first | omega | (simp [st2]; omega)) ?_
  refine T_cV_2 dL_law_354 lkL_31 rfl (Nat.le_of_ble_eq_true rfl) (RO_l (d := 20) (by decide)) (Nat.le_of_ble_eq_true rfl) ?_
  refine rf _ (fun D2 h2 => ?_)
  exact T_same 1247 dL_law_357 (by decide) (K D2 h2)
theorem l_ofChurch {i : Int} (hI : IV n D) (hn : n ≤ 600) (hN : g.2.1.2.1 < 2147483648) (hi : 0 ≤ i ∧ i + 6 ≤ g.2.1.2.1) (K : ∀ D2, IV (n + 1) D2 → T g mL_law room_1 599919 7300437 lw_Z 1247 [some (.float 0), some (.ref 0), some (.ref 57), some (iI i)] [] SH D2) : T g mL_law room_1 599919 7300437 lw_Z 362 [some (.float 0), some (.ref 0), some (.ref 57), some (iI i)] [] SH D := by
  refine T_aload_n dL_law_362 rfl ?_
  refine T_aloadS dL_law_363 rfl ?_
  refine T_iload_n dL_law_364 rfl ?_
  refine T_iconst dL_law_365 ?_
  refine T_iadd dL_law_366 ?_
  refine T_sld dL_law_367 rfl hN (by first | omega | (simp [st2]; omega)) (by first | omega | (simp [st2]; omega)) ?_
  refine T_aloadS dL_law_368 rfl ?_
  refine T_iload_n dL_law_369 rfl ?_
  refine T_iconst dL_law_370 ?_
  refine T_iadd dL_law_371 ?_
  refine T_sld dL_law_372 rfl hN (by first | omega | (simp [st2]; omega)) (by first | omega | (simp [st2]; omega)) ?_
  refine T_cV_2 dL_law_373 lkL_32 rfl (Nat.le_of_ble_eq_true rfl) (RO_l (d := 20) (by decide)) (Nat.le_of_ble_eq_true rfl) ?_
  refine o_ofChurch hI (inR_s _) (inR_s _) (fun v D1 rf => ?_)
  refine T_aload_n dL_law_376 rfl ?_
  refine T_aloadS dL_law_377 rfl ?_
  refine T_iload_n dL_law_378 rfl ?_
  refine T_iconst dL_law_379 ?_
  refine T_iadd dL_law_380 ?_
  refine T_sld dL_law_381 rfl hN (by first | omega | (simp [st2]; omega)) (by first | omega | (simp [st2]; omega)) ?_
  refine T_aloadS dL_law_382 rfl ?_
  refine T_iload_n dL_law_383 rfl ?_
  refine T_iconst dL_law_384 ?_
  refine T_iadd dL_law_385 ?_
  refine T_sld dL_law_386 rfl hN (by first | omega | (simp [st2]; omega)) (by first | omega | (simp [st2]; omega)) ?_
  refine T_cV_2 dL_law_387 lkL_35 rfl (Nat.le_of_ble_eq_true rfl) (RO_l (d := 20) (by decide)) (Nat.le_of_ble_eq_true rfl) ?_
  refine rf _ (fun D2 h2 => ?_)
  exact T_same 1247 dL_law_390 (by decide) (K D2 h2)
theorem l_bar {i : Int} (hI : IV n D) (hn : n ≤ 600) (hN : g.2.1.2.1 < 2147483648) (hi : 0 ≤ i ∧ i + 6 ≤ g.2.1.2.1) (K : ∀ D2, IV (n + 1) D2 → T g mL_law room_1 599919 7300437 lw_Z 1247 [some (.float 0), some (.ref 0), some (.ref 57), some (iI i)] [] SH D2) : T g mL_law room_1 599919 7300437 lw_Z 395 [some (.float 0), some (.ref 0), some (.ref 57), some (iI i)] [] SH D := by
  by_cases hz : (g.2.1.2.2 (i + 3).toNat).toInt = 0
  · skip
    refine T_aload_n dL_law_395 rfl ?_
    refine T_aloadS dL_law_396 rfl ?_
    refine T_iload_n dL_law_397 rfl ?_
    refine T_iconst dL_law_398 ?_
    refine T_iadd dL_law_399 ?_
    refine T_sld dL_law_400 rfl hN (by first | omega | (simp [st2]; omega)) (by first | omega | (simp [st2]; omega)) ?_
    refine T_aloadS dL_law_401 rfl ?_
    refine T_iload_n dL_law_402 rfl ?_
    refine T_iconst dL_law_403 ?_
    refine T_iadd dL_law_404 ?_
    refine T_sld dL_law_405 rfl hN (by first | omega | (simp [st2]; omega)) (by first | omega | (simp [st2]; omega)) ?_
    refine T_aloadS dL_law_406 rfl ?_
    refine T_iload_n dL_law_407 rfl ?_
    refine T_iconst dL_law_408 ?_
    refine T_iadd dL_law_409 ?_
    refine T_sld dL_law_410 rfl hN (by first | omega | (simp [st2]; omega)) (by first | omega | (simp [st2]; omega)) ?_
    refine T_if_eq 418 dL_law_411 (by decide) (inR_s _) (fun hc411 => ?_) (fun hc411 => (by exfalso; omega))
    refine T_iconst dL_law_418 ?_
    refine T_cV_3 dL_law_419 lkL_36 rfl (Nat.le_of_ble_eq_true rfl) (RO_l (d := 20) (by decide)) (Nat.le_of_ble_eq_true rfl) ?_
    refine o_bar hI hn (inR_s _) (inR_s _) (by omega) (fun v D1 rf => ?_)
    refine T_aload_n dL_law_422 rfl ?_
    refine T_aloadS dL_law_423 rfl ?_
    refine T_iload_n dL_law_424 rfl ?_
    refine T_iconst dL_law_425 ?_
    refine T_iadd dL_law_426 ?_
    refine T_sld dL_law_427 rfl hN (by first | omega | (simp [st2]; omega)) (by first | omega | (simp [st2]; omega)) ?_
    refine T_aloadS dL_law_428 rfl ?_
    refine T_iload_n dL_law_429 rfl ?_
    refine T_iconst dL_law_430 ?_
    refine T_iadd dL_law_431 ?_
    refine T_sld dL_law_432 rfl hN (by first | omega | (simp [st2]; omega)) (by first | omega | (simp [st2]; omega)) ?_
    refine T_aloadS dL_law_433 rfl ?_
    refine T_iload_n dL_law_434 rfl ?_
    refine T_iconst dL_law_435 ?_
    refine T_iadd dL_law_436 ?_
    refine T_sld dL_law_437 rfl hN (by first | omega | (simp [st2]; omega)) (by first | omega | (simp [st2]; omega)) ?_
    refine T_if_eq 445 dL_law_438 (by decide) (inR_s _) (fun hc438 => ?_) (fun hc438 => (by exfalso; omega))
    refine T_iconst dL_law_445 ?_
    refine T_cV_3 dL_law_446 lkL_40 rfl (Nat.le_of_ble_eq_true rfl) (RO_l (d := 20) (by decide)) (Nat.le_of_ble_eq_true rfl) ?_
    refine rf _ (fun D2 h2 => ?_)
    exact T_same 1247 dL_law_449 (by decide) (K D2 h2)
  · skip
    refine T_aload_n dL_law_395 rfl ?_
    refine T_aloadS dL_law_396 rfl ?_
    refine T_iload_n dL_law_397 rfl ?_
    refine T_iconst dL_law_398 ?_
    refine T_iadd dL_law_399 ?_
    refine T_sld dL_law_400 rfl hN (by first | omega | (simp [st2]; omega)) (by first | omega | (simp [st2]; omega)) ?_
    refine T_aloadS dL_law_401 rfl ?_
    refine T_iload_n dL_law_402 rfl ?_
    refine T_iconst dL_law_403 ?_
    refine T_iadd dL_law_404 ?_
    refine T_sld dL_law_405 rfl hN (by first | omega | (simp [st2]; omega)) (by first | omega | (simp [st2]; omega)) ?_
    refine T_aloadS dL_law_406 rfl ?_
    refine T_iload_n dL_law_407 rfl ?_
    refine T_iconst dL_law_408 ?_
    refine T_iadd dL_law_409 ?_
    refine T_sld dL_law_410 rfl hN (by first | omega | (simp [st2]; omega)) (by first | omega | (simp [st2]; omega)) ?_
    refine T_if_eq 418 dL_law_411 (by decide) (inR_s _) (fun hc411 => (by exfalso; omega)) (fun hc411 => ?_)
    refine T_iconst dL_law_414 ?_
    refine T_goto (tgt := 419) dL_law_415 (by decide) ?_
    refine T_cV_3 dL_law_419 lkL_36 rfl (Nat.le_of_ble_eq_true rfl) (RO_l (d := 20) (by decide)) (Nat.le_of_ble_eq_true rfl) ?_
    refine o_bar hI hn (inR_s _) (inR_s _) (by omega) (fun v D1 rf => ?_)
    refine T_aload_n dL_law_422 rfl ?_
    refine T_aloadS dL_law_423 rfl ?_
    refine T_iload_n dL_law_424 rfl ?_
    refine T_iconst dL_law_425 ?_
    refine T_iadd dL_law_426 ?_
    refine T_sld dL_law_427 rfl hN (by first | omega | (simp [st2]; omega)) (by first | omega | (simp [st2]; omega)) ?_
    refine T_aloadS dL_law_428 rfl ?_
    refine T_iload_n dL_law_429 rfl ?_
    refine T_iconst dL_law_430 ?_
    refine T_iadd dL_law_431 ?_
    refine T_sld dL_law_432 rfl hN (by first | omega | (simp [st2]; omega)) (by first | omega | (simp [st2]; omega)) ?_
    refine T_aloadS dL_law_433 rfl ?_
    refine T_iload_n dL_law_434 rfl ?_
    refine T_iconst dL_law_435 ?_
    refine T_iadd dL_law_436 ?_
    refine T_sld dL_law_437 rfl hN (by first | omega | (simp [st2]; omega)) (by first | omega | (simp [st2]; omega)) ?_
    refine T_if_eq 445 dL_law_438 (by decide) (inR_s _) (fun hc438 => (by exfalso; omega)) (fun hc438 => ?_)
    refine T_iconst dL_law_441 ?_
    refine T_goto (tgt := 446) dL_law_442 (by decide) ?_
    refine T_cV_3 dL_law_446 lkL_40 rfl (Nat.le_of_ble_eq_true rfl) (RO_l (d := 20) (by decide)) (Nat.le_of_ble_eq_true rfl) ?_
    refine rf _ (fun D2 h2 => ?_)
    exact T_same 1247 dL_law_449 (by decide) (K D2 h2)
theorem l_seats {i : Int} (hI : IV n D) (hn : n ≤ 600) (hN : g.2.1.2.1 < 2147483648) (hi : 0 ≤ i ∧ i + 6 ≤ g.2.1.2.1) (K : ∀ D2, IV (n + 1) D2 → T g mL_law room_1 599919 7300437 lw_Z 1247 [some (.float 0), some (.ref 0), some (.ref 57), some (iI i)] [] SH D2) : T g mL_law room_1 599919 7300437 lw_Z 454 [some (.float 0), some (.ref 0), some (.ref 57), some (iI i)] [] SH D := by
  refine T_aload_n dL_law_454 rfl ?_
  refine T_aloadS dL_law_455 rfl ?_
  refine T_iload_n dL_law_456 rfl ?_
  refine T_iconst dL_law_457 ?_
  refine T_iadd dL_law_458 ?_
  refine T_sld dL_law_459 rfl hN (by first | omega | (simp [st2]; omega)) (by first | omega | (simp [st2]; omega)) ?_
  refine T_aloadS dL_law_460 rfl ?_
  refine T_iload_n dL_law_461 rfl ?_
  refine T_iconst dL_law_462 ?_
  refine T_iadd dL_law_463 ?_
  refine T_sld dL_law_464 rfl hN (by first | omega | (simp [st2]; omega)) (by first | omega | (simp [st2]; omega)) ?_
  refine T_cV_2 dL_law_465 lkL_41 rfl (Nat.le_of_ble_eq_true rfl) (RO_l (d := 20) (by decide)) (Nat.le_of_ble_eq_true rfl) ?_
  refine o_seats hI hn (inR_s _) (inR_s _) (fun v D1 rf => ?_)
  refine T_aload_n dL_law_468 rfl ?_
  refine T_aloadS dL_law_469 rfl ?_
  refine T_iload_n dL_law_470 rfl ?_
  refine T_iconst dL_law_471 ?_
  refine T_iadd dL_law_472 ?_
  refine T_sld dL_law_473 rfl hN (by first | omega | (simp [st2]; omega)) (by first | omega | (simp [st2]; omega)) ?_
  refine T_aloadS dL_law_474 rfl ?_
  refine T_iload_n dL_law_475 rfl ?_
  refine T_iconst dL_law_476 ?_
  refine T_iadd dL_law_477 ?_
  refine T_sld dL_law_478 rfl hN (by first | omega | (simp [st2]; omega)) (by first | omega | (simp [st2]; omega)) ?_
  refine T_cV_2 dL_law_479 lkL_44 rfl (Nat.le_of_ble_eq_true rfl) (RO_l (d := 20) (by decide)) (Nat.le_of_ble_eq_true rfl) ?_
  refine rf _ (fun D2 h2 => ?_)
  exact T_same 1247 dL_law_482 (by decide) (K D2 h2)
theorem l_toll {i : Int} (hI : IV n D) (hn : n ≤ 600) (hN : g.2.1.2.1 < 2147483648) (hi : 0 ≤ i ∧ i + 6 ≤ g.2.1.2.1) (K : ∀ D2, IV (n + 1) D2 → T g mL_law room_1 599919 7300437 lw_Z 1247 [some (.float 0), some (.ref 0), some (.ref 57), some (iI i)] [] SH D2) : T g mL_law room_1 599919 7300437 lw_Z 487 [some (.float 0), some (.ref 0), some (.ref 57), some (iI i)] [] SH D := by
  refine T_aload_n dL_law_487 rfl ?_
  refine T_aloadS dL_law_488 rfl ?_
  refine T_iload_n dL_law_489 rfl ?_
  refine T_iconst dL_law_490 ?_
  refine T_iadd dL_law_491 ?_
  refine T_sld dL_law_492 rfl hN (by first | omega | (simp [st2]; omega)) (by first | omega | (simp [st2]; omega)) ?_
  refine T_cV_1 dL_law_493 lkL_45 rfl (Nat.le_of_ble_eq_true rfl) (RO_l (d := 20) (by decide)) (Nat.le_of_ble_eq_true rfl) ?_
  refine o_toll hI hn (inR_s _) (fun v D1 rf => ?_)
  refine T_aload_n dL_law_496 rfl ?_
  refine T_aloadS dL_law_497 rfl ?_
  refine T_iload_n dL_law_498 rfl ?_
  refine T_iconst dL_law_499 ?_
  refine T_iadd dL_law_500 ?_
  refine T_sld dL_law_501 rfl hN (by first | omega | (simp [st2]; omega)) (by first | omega | (simp [st2]; omega)) ?_
  refine T_cV_1 dL_law_502 lkL_49 rfl (Nat.le_of_ble_eq_true rfl) (RO_l (d := 20) (by decide)) (Nat.le_of_ble_eq_true rfl) ?_
  refine rf _ (fun D2 h2 => ?_)
  exact T_same 1247 dL_law_505 (by decide) (K D2 h2)
theorem l_far {i : Int} (hI : IV n D) (hn : n ≤ 600) (hN : g.2.1.2.1 < 2147483648) (hi : 0 ≤ i ∧ i + 6 ≤ g.2.1.2.1) (K : ∀ D2, IV (n + 1) D2 → T g mL_law room_1 599919 7300437 lw_Z 1247 [some (.float 0), some (.ref 0), some (.ref 57), some (iI i)] [] SH D2) : T g mL_law room_1 599919 7300437 lw_Z 510 [some (.float 0), some (.ref 0), some (.ref 57), some (iI i)] [] SH D := by
  refine T_aload_n dL_law_510 rfl ?_
  refine T_aloadS dL_law_511 rfl ?_
  refine T_iload_n dL_law_512 rfl ?_
  refine T_iconst dL_law_513 ?_
  refine T_iadd dL_law_514 ?_
  refine T_sld dL_law_515 rfl hN (by first | omega | (simp [st2]; omega)) (by first | omega | (simp [st2]; omega)) ?_
  refine T_aloadS dL_law_516 rfl ?_
  refine T_iload_n dL_law_517 rfl ?_
  refine T_iconst dL_law_518 ?_
  refine T_iadd dL_law_519 ?_
  refine T_sld dL_law_520 rfl hN (by first | omega | (simp [st2]; omega)) (by first | omega | (simp [st2]; omega)) ?_
  refine T_aloadS dL_law_521 rfl ?_
  refine T_iload_n dL_law_522 rfl ?_
  refine T_iconst dL_law_523 ?_
  refine T_iadd dL_law_524 ?_
  refine T_sld dL_law_525 rfl hN (by first | omega | (simp [st2]; omega)) (by first | omega | (simp [st2]; omega)) ?_
  refine T_cV_3 dL_law_526 lkL_50 rfl (Nat.le_of_ble_eq_true rfl) (RO_l (d := 20) (by decide)) (Nat.le_of_ble_eq_true rfl) ?_
  refine o_far hI (inR_s _) (inR_s _) (inR_s _) (fun v D1 rf => ?_)
  refine T_aload_n dL_law_529 rfl ?_
  refine T_aloadS dL_law_530 rfl ?_
  refine T_iload_n dL_law_531 rfl ?_
  refine T_iconst dL_law_532 ?_
  refine T_iadd dL_law_533 ?_
  refine T_sld dL_law_534 rfl hN (by first | omega | (simp [st2]; omega)) (by first | omega | (simp [st2]; omega)) ?_
  refine T_aloadS dL_law_535 rfl ?_
  refine T_iload_n dL_law_536 rfl ?_
  refine T_iconst dL_law_537 ?_
  refine T_iadd dL_law_538 ?_
  refine T_sld dL_law_539 rfl hN (by first | omega | (simp [st2]; omega)) (by first | omega | (simp [st2]; omega)) ?_
  refine T_aloadS dL_law_540 rfl ?_
  refine T_iload_n dL_law_541 rfl ?_
  refine T_iconst dL_law_542 ?_
  refine T_iadd dL_law_543 ?_
  refine T_sld dL_law_544 rfl hN (by first | omega | (simp [st2]; omega)) (by first | omega | (simp [st2]; omega)) ?_
  refine T_cV_3 dL_law_545 lkL_53 rfl (Nat.le_of_ble_eq_true rfl) (RO_l (d := 20) (by decide)) (Nat.le_of_ble_eq_true rfl) ?_
  refine rf _ (fun D2 h2 => ?_)
  exact T_same 1247 dL_law_548 (by decide) (K D2 h2)
theorem l_miles {i : Int} (hI : IV n D) (hn : n ≤ 600) (hN : g.2.1.2.1 < 2147483648) (hi : 0 ≤ i ∧ i + 6 ≤ g.2.1.2.1) (K : ∀ D2, IV (n + 1) D2 → T g mL_law room_1 599919 7300437 lw_Z 1247 [some (.float 0), some (.ref 0), some (.ref 57), some (iI i)] [] SH D2) : T g mL_law room_1 599919 7300437 lw_Z 553 [some (.float 0), some (.ref 0), some (.ref 57), some (iI i)] [] SH D := by
  refine T_aload_n dL_law_553 rfl ?_
  refine T_cV_0 dL_law_554 lkL_54 rfl (Nat.le_of_ble_eq_true rfl) (RO_l (d := 20) (by decide)) (Nat.le_of_ble_eq_true rfl) ?_
  refine o_miles hI (fun v D1 rf => ?_)
  refine T_aload_n dL_law_557 rfl ?_
  refine T_cV_0 dL_law_558 lkL_58 rfl (Nat.le_of_ble_eq_true rfl) (RO_l (d := 20) (by decide)) (Nat.le_of_ble_eq_true rfl) ?_
  refine rf _ (fun D2 h2 => ?_)
  exact T_same 1247 dL_law_561 (by decide) (K D2 h2)
theorem l_few {i : Int} (hI : IV n D) (hn : n ≤ 600) (hN : g.2.1.2.1 < 2147483648) (hi : 0 ≤ i ∧ i + 6 ≤ g.2.1.2.1) (K : ∀ D2, IV (n + 1) D2 → T g mL_law room_1 599919 7300437 lw_Z 1247 [some (.float 0), some (.ref 0), some (.ref 57), some (iI i)] [] SH D2) : T g mL_law room_1 599919 7300437 lw_Z 566 [some (.float 0), some (.ref 0), some (.ref 57), some (iI i)] [] SH D := by
  refine T_aload_n dL_law_566 rfl ?_
  refine T_cV_0 dL_law_567 lkL_59 rfl (Nat.le_of_ble_eq_true rfl) (RO_l (d := 20) (by decide)) (Nat.le_of_ble_eq_true rfl) ?_
  refine o_few hI (fun v D1 rf => ?_)
  refine T_aload_n dL_law_570 rfl ?_
  refine T_cV_0 dL_law_571 lkL_62 rfl (Nat.le_of_ble_eq_true rfl) (RO_l (d := 20) (by decide)) (Nat.le_of_ble_eq_true rfl) ?_
  refine rf _ (fun D2 h2 => ?_)
  exact T_same 1247 dL_law_574 (by decide) (K D2 h2)
theorem l_weight {i : Int} (hI : IV n D) (hn : n ≤ 600) (hN : g.2.1.2.1 < 2147483648) (hi : 0 ≤ i ∧ i + 6 ≤ g.2.1.2.1) (K : ∀ D2, IV (n + 1) D2 → T g mL_law room_1 599919 7300437 lw_Z 1247 [some (.float 0), some (.ref 0), some (.ref 57), some (iI i)] [] SH D2) : T g mL_law room_1 599919 7300437 lw_Z 579 [some (.float 0), some (.ref 0), some (.ref 57), some (iI i)] [] SH D := by
  refine T_aload_n dL_law_579 rfl ?_
  refine T_aloadS dL_law_580 rfl ?_
  refine T_iload_n dL_law_581 rfl ?_
  refine T_iconst dL_law_582 ?_
  refine T_iadd dL_law_583 ?_
  refine T_sld dL_law_584 rfl hN (by first | omega | (simp [st2]; omega)) (by first | omega | (simp [st2]; omega)) ?_
  refine T_cV_1 dL_law_585 lkL_63 rfl (Nat.le_of_ble_eq_true rfl) (RO_l (d := 20) (by decide)) (Nat.le_of_ble_eq_true rfl) ?_
  refine o_weight hI (inR_s _) (fun v D1 rf => ?_)
  refine T_aload_n dL_law_588 rfl ?_
  refine T_aloadS dL_law_589 rfl ?_
  refine T_iload_n dL_law_590 rfl ?_
  refine T_iconst dL_law_591 ?_
  refine T_iadd dL_law_592 ?_
  refine T_sld dL_law_593 rfl hN (by first | omega | (simp [st2]; omega)) (by first | omega | (simp [st2]; omega)) ?_
  refine T_cV_1 dL_law_594 lkL_66 rfl (Nat.le_of_ble_eq_true rfl) (RO_l (d := 20) (by decide)) (Nat.le_of_ble_eq_true rfl) ?_
  refine rf _ (fun D2 h2 => ?_)
  exact T_same 1247 dL_law_597 (by decide) (K D2 h2)
theorem l_line {i : Int} (hI : IV n D) (hn : n ≤ 600) (hN : g.2.1.2.1 < 2147483648) (hi : 0 ≤ i ∧ i + 6 ≤ g.2.1.2.1) (K : ∀ D2, IV (n + 1) D2 → T g mL_law room_1 599919 7300437 lw_Z 1247 [some (.float 0), some (.ref 0), some (.ref 57), some (iI i)] [] SH D2) : T g mL_law room_1 599919 7300437 lw_Z 602 [some (.float 0), some (.ref 0), some (.ref 57), some (iI i)] [] SH D := by
  refine T_aload_n dL_law_602 rfl ?_
  refine T_aloadS dL_law_603 rfl ?_
  refine T_iload_n dL_law_604 rfl ?_
  refine T_iconst dL_law_605 ?_
  refine T_iadd dL_law_606 ?_
  refine T_sld dL_law_607 rfl hN (by first | omega | (simp [st2]; omega)) (by first | omega | (simp [st2]; omega)) ?_
  refine T_cV_1 dL_law_608 lkL_67 rfl (Nat.le_of_ble_eq_true rfl) (RO_l (d := 20) (by decide)) (Nat.le_of_ble_eq_true rfl) ?_
  refine o_line hI (inR_s _) (fun v D1 rf => ?_)
  refine T_aload_n dL_law_611 rfl ?_
  refine T_aloadS dL_law_612 rfl ?_
  refine T_iload_n dL_law_613 rfl ?_
  refine T_iconst dL_law_614 ?_
  refine T_iadd dL_law_615 ?_
  refine T_sld dL_law_616 rfl hN (by first | omega | (simp [st2]; omega)) (by first | omega | (simp [st2]; omega)) ?_
  refine T_cV_1 dL_law_617 lkL_70 rfl (Nat.le_of_ble_eq_true rfl) (RO_l (d := 20) (by decide)) (Nat.le_of_ble_eq_true rfl) ?_
  refine rf _ (fun D2 h2 => ?_)
  exact T_same 1247 dL_law_620 (by decide) (K D2 h2)
theorem l_check {i : Int} (hI : IV n D) (hn : n ≤ 600) (hN : g.2.1.2.1 < 2147483648) (hi : 0 ≤ i ∧ i + 6 ≤ g.2.1.2.1) (K : ∀ D2, IV (n + 1) D2 → T g mL_law room_1 599919 7300437 lw_Z 1247 [some (.float 0), some (.ref 0), some (.ref 57), some (iI i)] [] SH D2) : T g mL_law room_1 599919 7300437 lw_Z 625 [some (.float 0), some (.ref 0), some (.ref 57), some (iI i)] [] SH D := by
  refine T_aload_n dL_law_625 rfl ?_
  refine T_aloadS dL_law_626 rfl ?_
  refine T_iload_n dL_law_627 rfl ?_
  refine T_iconst dL_law_628 ?_
  refine T_iadd dL_law_629 ?_
  refine T_sld dL_law_630 rfl hN (by first | omega | (simp [st2]; omega)) (by first | omega | (simp [st2]; omega)) ?_
  refine T_aloadS dL_law_631 rfl ?_
  refine T_iload_n dL_law_632 rfl ?_
  refine T_iconst dL_law_633 ?_
  refine T_iadd dL_law_634 ?_
  refine T_sld dL_law_635 rfl hN (by first | omega | (simp [st2]; omega)) (by first | omega | (simp [st2]; omega)) ?_
  refine T_aloadS dL_law_636 rfl ?_
  refine T_iload_n dL_law_637 rfl ?_
  refine T_iconst dL_law_638 ?_
  refine T_iadd dL_law_639 ?_
  refine T_sld dL_law_640 rfl hN (by first | omega | (simp [st2]; omega)) (by first | omega | (simp [st2]; omega)) ?_
  refine T_aloadS dL_law_641 rfl ?_
  refine T_iload_n dL_law_642 rfl ?_
  refine T_iconst dL_law_643 ?_
  refine T_iadd dL_law_644 ?_
  refine T_sld dL_law_645 rfl hN (by first | omega | (simp [st2]; omega)) (by first | omega | (simp [st2]; omega)) ?_
  refine T_cV_4 dL_law_646 lkL_71 rfl (Nat.le_of_ble_eq_true rfl) (RO_l (d := 20) (by decide)) (Nat.le_of_ble_eq_true rfl) ?_
  refine o_check hI (inR_s _) (inR_s _) (inR_s _) (inR_s _) (fun v D1 rf => ?_)
  refine T_aload_n dL_law_649 rfl ?_
  refine T_aloadS dL_law_650 rfl ?_
  refine T_iload_n dL_law_651 rfl ?_
  refine T_iconst dL_law_652 ?_
  refine T_iadd dL_law_653 ?_
  refine T_sld dL_law_654 rfl hN (by first | omega | (simp [st2]; omega)) (by first | omega | (simp [st2]; omega)) ?_
  refine T_aloadS dL_law_655 rfl ?_
  refine T_iload_n dL_law_656 rfl ?_
  refine T_iconst dL_law_657 ?_
  refine T_iadd dL_law_658 ?_
  refine T_sld dL_law_659 rfl hN (by first | omega | (simp [st2]; omega)) (by first | omega | (simp [st2]; omega)) ?_
  refine T_aloadS dL_law_660 rfl ?_
  refine T_iload_n dL_law_661 rfl ?_
  refine T_iconst dL_law_662 ?_
  refine T_iadd dL_law_663 ?_
  refine T_sld dL_law_664 rfl hN (by first | omega | (simp [st2]; omega)) (by first | omega | (simp [st2]; omega)) ?_
  refine T_aloadS dL_law_665 rfl ?_
  refine T_iload_n dL_law_666 rfl ?_
  refine T_iconst dL_law_667 ?_
  refine T_iadd dL_law_668 ?_
  refine T_sld dL_law_669 rfl hN (by first | omega | (simp [st2]; omega)) (by first | omega | (simp [st2]; omega)) ?_
  refine T_cV_4 dL_law_670 lkL_74 rfl (Nat.le_of_ble_eq_true rfl) (RO_l (d := 20) (by decide)) (Nat.le_of_ble_eq_true rfl) ?_
  refine rf _ (fun D2 h2 => ?_)
  exact T_same 1247 dL_law_673 (by decide) (K D2 h2)
theorem l_family {i : Int} (hI : IV n D) (hn : n ≤ 600) (hN : g.2.1.2.1 < 2147483648) (hi : 0 ≤ i ∧ i + 6 ≤ g.2.1.2.1) (K : ∀ D2, IV (n + 1) D2 → T g mL_law room_1 599919 7300437 lw_Z 1247 [some (.float 0), some (.ref 0), some (.ref 57), some (iI i)] [] SH D2) : T g mL_law room_1 599919 7300437 lw_Z 678 [some (.float 0), some (.ref 0), some (.ref 57), some (iI i)] [] SH D := by
  refine T_aload_n dL_law_678 rfl ?_
  refine T_aloadS dL_law_679 rfl ?_
  refine T_iload_n dL_law_680 rfl ?_
  refine T_iconst dL_law_681 ?_
  refine T_iadd dL_law_682 ?_
  refine T_sld dL_law_683 rfl hN (by first | omega | (simp [st2]; omega)) (by first | omega | (simp [st2]; omega)) ?_
  refine T_cV_1 dL_law_684 lkL_75 rfl (Nat.le_of_ble_eq_true rfl) (RO_l (d := 20) (by decide)) (Nat.le_of_ble_eq_true rfl) ?_
  refine o_family hI (inR_s _) (fun v D1 rf => ?_)
  refine T_aload_n dL_law_687 rfl ?_
  refine T_aloadS dL_law_688 rfl ?_
  refine T_iload_n dL_law_689 rfl ?_
  refine T_iconst dL_law_690 ?_
  refine T_iadd dL_law_691 ?_
  refine T_sld dL_law_692 rfl hN (by first | omega | (simp [st2]; omega)) (by first | omega | (simp [st2]; omega)) ?_
  refine T_cV_1 dL_law_693 lkL_78 rfl (Nat.le_of_ble_eq_true rfl) (RO_l (d := 20) (by decide)) (Nat.le_of_ble_eq_true rfl) ?_
  refine rf _ (fun D2 h2 => ?_)
  exact T_same 1247 dL_law_696 (by decide) (K D2 h2)
theorem l_even {i : Int} (hI : IV n D) (hn : n ≤ 600) (hN : g.2.1.2.1 < 2147483648) (hi : 0 ≤ i ∧ i + 6 ≤ g.2.1.2.1) (K : ∀ D2, IV (n + 1) D2 → T g mL_law room_1 599919 7300437 lw_Z 1247 [some (.float 0), some (.ref 0), some (.ref 57), some (iI i)] [] SH D2) : T g mL_law room_1 599919 7300437 lw_Z 701 [some (.float 0), some (.ref 0), some (.ref 57), some (iI i)] [] SH D := by
  refine T_aload_n dL_law_701 rfl ?_
  refine T_aloadS dL_law_702 rfl ?_
  refine T_iload_n dL_law_703 rfl ?_
  refine T_iconst dL_law_704 ?_
  refine T_iadd dL_law_705 ?_
  refine T_sld dL_law_706 rfl hN (by first | omega | (simp [st2]; omega)) (by first | omega | (simp [st2]; omega)) ?_
  refine T_cV_1 dL_law_707 lkL_79 rfl (Nat.le_of_ble_eq_true rfl) (RO_l (d := 20) (by decide)) (Nat.le_of_ble_eq_true rfl) ?_
  refine o_even hI (inR_s _) (fun v D1 rf => ?_)
  refine T_aload_n dL_law_710 rfl ?_
  refine T_aloadS dL_law_711 rfl ?_
  refine T_iload_n dL_law_712 rfl ?_
  refine T_iconst dL_law_713 ?_
  refine T_iadd dL_law_714 ?_
  refine T_sld dL_law_715 rfl hN (by first | omega | (simp [st2]; omega)) (by first | omega | (simp [st2]; omega)) ?_
  refine T_cV_1 dL_law_716 lkL_82 rfl (Nat.le_of_ble_eq_true rfl) (RO_l (d := 20) (by decide)) (Nat.le_of_ble_eq_true rfl) ?_
  refine rf _ (fun D2 h2 => ?_)
  exact T_same 1247 dL_law_719 (by decide) (K D2 h2)
theorem l_border {i : Int} (hI : IV n D) (hn : n ≤ 600) (hN : g.2.1.2.1 < 2147483648) (hi : 0 ≤ i ∧ i + 6 ≤ g.2.1.2.1) (K : ∀ D2, IV (n + 1) D2 → T g mL_law room_1 599919 7300437 lw_Z 1247 [some (.float 0), some (.ref 0), some (.ref 57), some (iI i)] [] SH D2) : T g mL_law room_1 599919 7300437 lw_Z 724 [some (.float 0), some (.ref 0), some (.ref 57), some (iI i)] [] SH D := by
  refine T_aload_n dL_law_724 rfl ?_
  refine T_aloadS dL_law_725 rfl ?_
  refine T_iload_n dL_law_726 rfl ?_
  refine T_iconst dL_law_727 ?_
  refine T_iadd dL_law_728 ?_
  refine T_sld dL_law_729 rfl hN (by first | omega | (simp [st2]; omega)) (by first | omega | (simp [st2]; omega)) ?_
  refine T_aloadS dL_law_730 rfl ?_
  refine T_iload_n dL_law_731 rfl ?_
  refine T_iconst dL_law_732 ?_
  refine T_iadd dL_law_733 ?_
  refine T_sld dL_law_734 rfl hN (by first | omega | (simp [st2]; omega)) (by first | omega | (simp [st2]; omega)) ?_
  refine T_aloadS dL_law_735 rfl ?_
  refine T_iload_n dL_law_736 rfl ?_
  refine T_iconst dL_law_737 ?_
  refine T_iadd dL_law_738 ?_
  refine T_sld dL_law_739 rfl hN (by first | omega | (simp [st2]; omega)) (by first | omega | (simp [st2]; omega)) ?_
  refine T_cV_3 dL_law_740 lkL_83 rfl (Nat.le_of_ble_eq_true rfl) (RO_l (d := 20) (by decide)) (Nat.le_of_ble_eq_true rfl) ?_
  refine o_border hI (inR_s _) (inR_s _) (inR_s _) (fun v D1 rf => ?_)
  refine T_aload_n dL_law_743 rfl ?_
  refine T_aloadS dL_law_744 rfl ?_
  refine T_iload_n dL_law_745 rfl ?_
  refine T_iconst dL_law_746 ?_
  refine T_iadd dL_law_747 ?_
  refine T_sld dL_law_748 rfl hN (by first | omega | (simp [st2]; omega)) (by first | omega | (simp [st2]; omega)) ?_
  refine T_aloadS dL_law_749 rfl ?_
  refine T_iload_n dL_law_750 rfl ?_
  refine T_iconst dL_law_751 ?_
  refine T_iadd dL_law_752 ?_
  refine T_sld dL_law_753 rfl hN (by first | omega | (simp [st2]; omega)) (by first | omega | (simp [st2]; omega)) ?_
  refine T_aloadS dL_law_754 rfl ?_
  refine T_iload_n dL_law_755 rfl ?_
  refine T_iconst dL_law_756 ?_
  refine T_iadd dL_law_757 ?_
  refine T_sld dL_law_758 rfl hN (by first | omega | (simp [st2]; omega)) (by first | omega | (simp [st2]; omega)) ?_
  refine T_cV_3 dL_law_759 lkL_87 rfl (Nat.le_of_ble_eq_true rfl) (RO_l (d := 20) (by decide)) (Nat.le_of_ble_eq_true rfl) ?_
  refine rf _ (fun D2 h2 => ?_)
  exact T_sameL 1247 dL_law_762 dL_law_763 (by decide) (K D2 h2)
theorem l_who {i : Int} (hI : IV n D) (hn : n ≤ 600) (hN : g.2.1.2.1 < 2147483648) (hi : 0 ≤ i ∧ i + 6 ≤ g.2.1.2.1) (K : ∀ D2, IV (n + 1) D2 → T g mL_law room_1 599919 7300437 lw_Z 1247 [some (.float 0), some (.ref 0), some (.ref 57), some (iI i)] [] SH D2) : T g mL_law room_1 599919 7300437 lw_Z 768 [some (.float 0), some (.ref 0), some (.ref 57), some (iI i)] [] SH D := by
  refine T_aload_n dL_law_768 rfl ?_
  refine T_aloadS dL_law_769 rfl ?_
  refine T_iload_n dL_law_770 rfl ?_
  refine T_iconst dL_law_771 ?_
  refine T_iadd dL_law_772 ?_
  refine T_sld dL_law_773 rfl hN (by first | omega | (simp [st2]; omega)) (by first | omega | (simp [st2]; omega)) ?_
  refine T_aloadS dL_law_774 rfl ?_
  refine T_iload_n dL_law_775 rfl ?_
  refine T_iconst dL_law_776 ?_
  refine T_iadd dL_law_777 ?_
  refine T_sld dL_law_778 rfl hN (by first | omega | (simp [st2]; omega)) (by first | omega | (simp [st2]; omega)) ?_
  refine T_cV_2 dL_law_779 lkL_88 rfl (Nat.le_of_ble_eq_true rfl) (RO_l (d := 20) (by decide)) (Nat.le_of_ble_eq_true rfl) ?_
  refine o_who hI (inR_s _) (inR_s _) (fun v D1 rf => ?_)
  refine T_aload_n dL_law_782 rfl ?_
  refine T_aloadS dL_law_783 rfl ?_
  refine T_iload_n dL_law_784 rfl ?_
  refine T_iconst dL_law_785 ?_
  refine T_iadd dL_law_786 ?_
  refine T_sld dL_law_787 rfl hN (by first | omega | (simp [st2]; omega)) (by first | omega | (simp [st2]; omega)) ?_
  refine T_aloadS dL_law_788 rfl ?_
  refine T_iload_n dL_law_789 rfl ?_
  refine T_iconst dL_law_790 ?_
  refine T_iadd dL_law_791 ?_
  refine T_sld dL_law_792 rfl hN (by first | omega | (simp [st2]; omega)) (by first | omega | (simp [st2]; omega)) ?_
  refine T_cV_2 dL_law_793 lkL_91 rfl (Nat.le_of_ble_eq_true rfl) (RO_l (d := 20) (by decide)) (Nat.le_of_ble_eq_true rfl) ?_
  refine rf _ (fun D2 h2 => ?_)
  exact T_same 1247 dL_law_796 (by decide) (K D2 h2)
theorem l_place {i : Int} (hI : IV n D) (hn : n ≤ 600) (hN : g.2.1.2.1 < 2147483648) (hi : 0 ≤ i ∧ i + 6 ≤ g.2.1.2.1) (K : ∀ D2, IV (n + 1) D2 → T g mL_law room_1 599919 7300437 lw_Z 1247 [some (.float 0), some (.ref 0), some (.ref 57), some (iI i)] [] SH D2) : T g mL_law room_1 599919 7300437 lw_Z 801 [some (.float 0), some (.ref 0), some (.ref 57), some (iI i)] [] SH D := by
  refine T_aload_n dL_law_801 rfl ?_
  refine T_aloadS dL_law_802 rfl ?_
  refine T_iload_n dL_law_803 rfl ?_
  refine T_iconst dL_law_804 ?_
  refine T_iadd dL_law_805 ?_
  refine T_sld dL_law_806 rfl hN (by first | omega | (simp [st2]; omega)) (by first | omega | (simp [st2]; omega)) ?_
  refine T_aloadS dL_law_807 rfl ?_
  refine T_iload_n dL_law_808 rfl ?_
  refine T_iconst dL_law_809 ?_
  refine T_iadd dL_law_810 ?_
  refine T_sld dL_law_811 rfl hN (by first | omega | (simp [st2]; omega)) (by first | omega | (simp [st2]; omega)) ?_
  refine T_cV_2 dL_law_812 lkL_92 rfl (Nat.le_of_ble_eq_true rfl) (RO_l (d := 20) (by decide)) (Nat.le_of_ble_eq_true rfl) ?_
  refine o_place hI (inR_s _) (inR_s _) (fun v D1 rf => ?_)
  refine T_aload_n dL_law_815 rfl ?_
  refine T_aloadS dL_law_816 rfl ?_
  refine T_iload_n dL_law_817 rfl ?_
  refine T_iconst dL_law_818 ?_
  refine T_iadd dL_law_819 ?_
  refine T_sld dL_law_820 rfl hN (by first | omega | (simp [st2]; omega)) (by first | omega | (simp [st2]; omega)) ?_
  refine T_aloadS dL_law_821 rfl ?_
  refine T_iload_n dL_law_822 rfl ?_
  refine T_iconst dL_law_823 ?_
  refine T_iadd dL_law_824 ?_
  refine T_sld dL_law_825 rfl hN (by first | omega | (simp [st2]; omega)) (by first | omega | (simp [st2]; omega)) ?_
  refine T_cV_2 dL_law_826 lkL_95 rfl (Nat.le_of_ble_eq_true rfl) (RO_l (d := 20) (by decide)) (Nat.le_of_ble_eq_true rfl) ?_
  refine rf _ (fun D2 h2 => ?_)
  exact T_same 1247 dL_law_829 (by decide) (K D2 h2)
theorem l_move {i : Int} (hI : IV n D) (hn : n ≤ 600) (hN : g.2.1.2.1 < 2147483648) (hi : 0 ≤ i ∧ i + 6 ≤ g.2.1.2.1) (K : ∀ D2, IV (n + 1) D2 → T g mL_law room_1 599919 7300437 lw_Z 1247 [some (.float 0), some (.ref 0), some (.ref 57), some (iI i)] [] SH D2) : T g mL_law room_1 599919 7300437 lw_Z 834 [some (.float 0), some (.ref 0), some (.ref 57), some (iI i)] [] SH D := by
  refine T_aload_n dL_law_834 rfl ?_
  refine T_aloadS dL_law_835 rfl ?_
  refine T_iload_n dL_law_836 rfl ?_
  refine T_iconst dL_law_837 ?_
  refine T_iadd dL_law_838 ?_
  refine T_sld dL_law_839 rfl hN (by first | omega | (simp [st2]; omega)) (by first | omega | (simp [st2]; omega)) ?_
  refine T_cV_1 dL_law_840 lkL_96 rfl (Nat.le_of_ble_eq_true rfl) (RO_l (d := 20) (by decide)) (Nat.le_of_ble_eq_true rfl) ?_
  refine o_move hI hn (inR_s _) (fun v D1 rf => ?_)
  refine T_aload_n dL_law_843 rfl ?_
  refine T_aloadS dL_law_844 rfl ?_
  refine T_iload_n dL_law_845 rfl ?_
  refine T_iconst dL_law_846 ?_
  refine T_iadd dL_law_847 ?_
  refine T_sld dL_law_848 rfl hN (by first | omega | (simp [st2]; omega)) (by first | omega | (simp [st2]; omega)) ?_
  refine T_cV_1 dL_law_849 lkL_99 rfl (Nat.le_of_ble_eq_true rfl) (RO_l (d := 20) (by decide)) (Nat.le_of_ble_eq_true rfl) ?_
  refine rf _ (fun D2 h2 => ?_)
  exact T_same 1247 dL_law_852 (by decide) (K D2 h2)
theorem l_open {i : Int} (hI : IV n D) (hn : n ≤ 600) (hN : g.2.1.2.1 < 2147483648) (hi : 0 ≤ i ∧ i + 6 ≤ g.2.1.2.1) (K : ∀ D2, IV (n + 1) D2 → T g mL_law room_1 599919 7300437 lw_Z 1247 [some (.float 0), some (.ref 0), some (.ref 57), some (iI i)] [] SH D2) : T g mL_law room_1 599919 7300437 lw_Z 857 [some (.float 0), some (.ref 0), some (.ref 57), some (iI i)] [] SH D := by
  refine T_aload_n dL_law_857 rfl ?_
  refine T_aloadS dL_law_858 rfl ?_
  refine T_iload_n dL_law_859 rfl ?_
  refine T_iconst dL_law_860 ?_
  refine T_iadd dL_law_861 ?_
  refine T_sld dL_law_862 rfl hN (by first | omega | (simp [st2]; omega)) (by first | omega | (simp [st2]; omega)) ?_
  refine T_cV_1 dL_law_863 lkL_100 rfl (Nat.le_of_ble_eq_true rfl) (RO_l (d := 20) (by decide)) (Nat.le_of_ble_eq_true rfl) ?_
  refine o_open hI (inR_s _) (fun v D1 rf => ?_)
  refine T_aload_n dL_law_866 rfl ?_
  refine T_aloadS dL_law_867 rfl ?_
  refine T_iload_n dL_law_868 rfl ?_
  refine T_iconst dL_law_869 ?_
  refine T_iadd dL_law_870 ?_
  refine T_sld dL_law_871 rfl hN (by first | omega | (simp [st2]; omega)) (by first | omega | (simp [st2]; omega)) ?_
  refine T_cV_1 dL_law_872 lkL_103 rfl (Nat.le_of_ble_eq_true rfl) (RO_l (d := 20) (by decide)) (Nat.le_of_ble_eq_true rfl) ?_
  refine rf _ (fun D2 h2 => ?_)
  exact T_same 1247 dL_law_875 (by decide) (K D2 h2)
theorem l_best {i : Int} (hI : IV n D) (hn : n ≤ 600) (hN : g.2.1.2.1 < 2147483648) (hi : 0 ≤ i ∧ i + 6 ≤ g.2.1.2.1) (K : ∀ D2, IV (n + 1) D2 → T g mL_law room_1 599919 7300437 lw_Z 1247 [some (.float 0), some (.ref 0), some (.ref 57), some (iI i)] [] SH D2) : T g mL_law room_1 599919 7300437 lw_Z 880 [some (.float 0), some (.ref 0), some (.ref 57), some (iI i)] [] SH D := by
  refine T_aload_n dL_law_880 rfl ?_
  refine T_aloadS dL_law_881 rfl ?_
  refine T_iload_n dL_law_882 rfl ?_
  refine T_iconst dL_law_883 ?_
  refine T_iadd dL_law_884 ?_
  refine T_sld dL_law_885 rfl hN (by first | omega | (simp [st2]; omega)) (by first | omega | (simp [st2]; omega)) ?_
  refine T_cV_1 dL_law_886 lkL_104 rfl (Nat.le_of_ble_eq_true rfl) (RO_l (d := 20) (by decide)) (Nat.le_of_ble_eq_true rfl) ?_
  refine o_best hI (inR_s _) (fun v D1 rf => ?_)
  refine T_aload_n dL_law_889 rfl ?_
  refine T_aloadS dL_law_890 rfl ?_
  refine T_iload_n dL_law_891 rfl ?_
  refine T_iconst dL_law_892 ?_
  refine T_iadd dL_law_893 ?_
  refine T_sld dL_law_894 rfl hN (by first | omega | (simp [st2]; omega)) (by first | omega | (simp [st2]; omega)) ?_
  refine T_cV_1 dL_law_895 lkL_107 rfl (Nat.le_of_ble_eq_true rfl) (RO_l (d := 20) (by decide)) (Nat.le_of_ble_eq_true rfl) ?_
  refine rf _ (fun D2 h2 => ?_)
  exact T_same 1247 dL_law_898 (by decide) (K D2 h2)
theorem l_sheet {i : Int} (hI : IV n D) (hn : n ≤ 600) (hN : g.2.1.2.1 < 2147483648) (hi : 0 ≤ i ∧ i + 6 ≤ g.2.1.2.1) (K : ∀ D2, IV (n + 1) D2 → T g mL_law room_1 599919 7300437 lw_Z 1247 [some (.float 0), some (.ref 0), some (.ref 57), some (iI i)] [] SH D2) : T g mL_law room_1 599919 7300437 lw_Z 903 [some (.float 0), some (.ref 0), some (.ref 57), some (iI i)] [] SH D := by
  refine T_aload_n dL_law_903 rfl ?_
  refine T_aloadS dL_law_904 rfl ?_
  refine T_iload_n dL_law_905 rfl ?_
  refine T_iconst dL_law_906 ?_
  refine T_iadd dL_law_907 ?_
  refine T_sld dL_law_908 rfl hN (by first | omega | (simp [st2]; omega)) (by first | omega | (simp [st2]; omega)) ?_
  refine T_aloadS dL_law_909 rfl ?_
  refine T_iload_n dL_law_910 rfl ?_
  refine T_iconst dL_law_911 ?_
  refine T_iadd dL_law_912 ?_
  refine T_sld dL_law_913 rfl hN (by first | omega | (simp [st2]; omega)) (by first | omega | (simp [st2]; omega)) ?_
  refine T_aloadS dL_law_914 rfl ?_
  refine T_iload_n dL_law_915 rfl ?_
  refine T_iconst dL_law_916 ?_
  refine T_iadd dL_law_917 ?_
  refine T_sld dL_law_918 rfl hN (by first | omega | (simp [st2]; omega)) (by first | omega | (simp [st2]; omega)) ?_
  refine T_cV_3 dL_law_919 lkL_108 rfl (Nat.le_of_ble_eq_true rfl) (RO_l (d := 20) (by decide)) (Nat.le_of_ble_eq_true rfl) ?_
  refine o_sheet hI (inR_s _) (inR_s _) (inR_s _) (fun v D1 rf => ?_)
  refine T_aload_n dL_law_922 rfl ?_
  refine T_aloadS dL_law_923 rfl ?_
  refine T_iload_n dL_law_924 rfl ?_
  refine T_iconst dL_law_925 ?_
  refine T_iadd dL_law_926 ?_
  refine T_sld dL_law_927 rfl hN (by first | omega | (simp [st2]; omega)) (by first | omega | (simp [st2]; omega)) ?_
  refine T_aloadS dL_law_928 rfl ?_
  refine T_iload_n dL_law_929 rfl ?_
  refine T_iconst dL_law_930 ?_
  refine T_iadd dL_law_931 ?_
  refine T_sld dL_law_932 rfl hN (by first | omega | (simp [st2]; omega)) (by first | omega | (simp [st2]; omega)) ?_
  refine T_aloadS dL_law_933 rfl ?_
  refine T_iload_n dL_law_934 rfl ?_
  refine T_iconst dL_law_935 ?_
  refine T_iadd dL_law_936 ?_
  refine T_sld dL_law_937 rfl hN (by first | omega | (simp [st2]; omega)) (by first | omega | (simp [st2]; omega)) ?_
  refine T_cV_3 dL_law_938 lkL_111 rfl (Nat.le_of_ble_eq_true rfl) (RO_l (d := 20) (by decide)) (Nat.le_of_ble_eq_true rfl) ?_
  refine rf _ (fun D2 h2 => ?_)
  exact T_same 1247 dL_law_941 (by decide) (K D2 h2)
theorem l_lose {i : Int} (hI : IV n D) (hn : n ≤ 600) (hN : g.2.1.2.1 < 2147483648) (hi : 0 ≤ i ∧ i + 6 ≤ g.2.1.2.1) (K : ∀ D2, IV (n + 1) D2 → T g mL_law room_1 599919 7300437 lw_Z 1247 [some (.float 0), some (.ref 0), some (.ref 57), some (iI i)] [] SH D2) : T g mL_law room_1 599919 7300437 lw_Z 946 [some (.float 0), some (.ref 0), some (.ref 57), some (iI i)] [] SH D := by
  refine T_aload_n dL_law_946 rfl ?_
  refine T_aloadS dL_law_947 rfl ?_
  refine T_iload_n dL_law_948 rfl ?_
  refine T_iconst dL_law_949 ?_
  refine T_iadd dL_law_950 ?_
  refine T_sld dL_law_951 rfl hN (by first | omega | (simp [st2]; omega)) (by first | omega | (simp [st2]; omega)) ?_
  refine T_cV_1 dL_law_952 lkL_112 rfl (Nat.le_of_ble_eq_true rfl) (RO_l (d := 20) (by decide)) (Nat.le_of_ble_eq_true rfl) ?_
  refine o_lose hI (inR_s _) (fun v D1 rf => ?_)
  refine T_aload_n dL_law_955 rfl ?_
  refine T_aloadS dL_law_956 rfl ?_
  refine T_iload_n dL_law_957 rfl ?_
  refine T_iconst dL_law_958 ?_
  refine T_iadd dL_law_959 ?_
  refine T_sld dL_law_960 rfl hN (by first | omega | (simp [st2]; omega)) (by first | omega | (simp [st2]; omega)) ?_
  refine T_cV_1 dL_law_961 lkL_115 rfl (Nat.le_of_ble_eq_true rfl) (RO_l (d := 20) (by decide)) (Nat.le_of_ble_eq_true rfl) ?_
  refine rf _ (fun D2 h2 => ?_)
  exact T_same 1247 dL_law_964 (by decide) (K D2 h2)
theorem l_put {i : Int} (hI : IV n D) (hn : n ≤ 600) (hN : g.2.1.2.1 < 2147483648) (hi : 0 ≤ i ∧ i + 6 ≤ g.2.1.2.1) (K : ∀ D2, IV (n + 1) D2 → T g mL_law room_1 599919 7300437 lw_Z 1247 [some (.float 0), some (.ref 0), some (.ref 57), some (iI i)] [] SH D2) : T g mL_law room_1 599919 7300437 lw_Z 969 [some (.float 0), some (.ref 0), some (.ref 57), some (iI i)] [] SH D := by
  refine T_aload_n dL_law_969 rfl ?_
  refine T_aloadS dL_law_970 rfl ?_
  refine T_iload_n dL_law_971 rfl ?_
  refine T_iconst dL_law_972 ?_
  refine T_iadd dL_law_973 ?_
  refine T_sld dL_law_974 rfl hN (by first | omega | (simp [st2]; omega)) (by first | omega | (simp [st2]; omega)) ?_
  refine T_aloadS dL_law_975 rfl ?_
  refine T_iload_n dL_law_976 rfl ?_
  refine T_iconst dL_law_977 ?_
  refine T_iadd dL_law_978 ?_
  refine T_sld dL_law_979 rfl hN (by first | omega | (simp [st2]; omega)) (by first | omega | (simp [st2]; omega)) ?_
  refine T_aloadS dL_law_980 rfl ?_
  refine T_iload_n dL_law_981 rfl ?_
  refine T_iconst dL_law_982 ?_
  refine T_iadd dL_law_983 ?_
  refine T_sld dL_law_984 rfl hN (by first | omega | (simp [st2]; omega)) (by first | omega | (simp [st2]; omega)) ?_
  refine T_cV_3 dL_law_985 lkL_116 rfl (Nat.le_of_ble_eq_true rfl) (RO_l (d := 20) (by decide)) (Nat.le_of_ble_eq_true rfl) ?_
  refine o_put hI (inR_s _) (inR_s _) (inR_s _) (fun v D1 rf => ?_)
  refine T_aload_n dL_law_988 rfl ?_
  refine T_aloadS dL_law_989 rfl ?_
  refine T_iload_n dL_law_990 rfl ?_
  refine T_iconst dL_law_991 ?_
  refine T_iadd dL_law_992 ?_
  refine T_sld dL_law_993 rfl hN (by first | omega | (simp [st2]; omega)) (by first | omega | (simp [st2]; omega)) ?_
  refine T_aloadS dL_law_994 rfl ?_
  refine T_iload_n dL_law_995 rfl ?_
  refine T_iconst dL_law_996 ?_
  refine T_iadd dL_law_997 ?_
  refine T_sld dL_law_998 rfl hN (by first | omega | (simp [st2]; omega)) (by first | omega | (simp [st2]; omega)) ?_
  refine T_aloadS dL_law_999 rfl ?_
  refine T_iload_n dL_law_1000 rfl ?_
  refine T_iconst dL_law_1001 ?_
  refine T_iadd dL_law_1002 ?_
  refine T_sld dL_law_1003 rfl hN (by first | omega | (simp [st2]; omega)) (by first | omega | (simp [st2]; omega)) ?_
  refine T_cV_3 dL_law_1004 lkL_119 rfl (Nat.le_of_ble_eq_true rfl) (RO_l (d := 20) (by decide)) (Nat.le_of_ble_eq_true rfl) ?_
  refine rf _ (fun D2 h2 => ?_)
  exact T_same 1247 dL_law_1007 (by decide) (K D2 h2)
theorem l_cell {i : Int} (hI : IV n D) (hn : n ≤ 600) (hN : g.2.1.2.1 < 2147483648) (hi : 0 ≤ i ∧ i + 6 ≤ g.2.1.2.1) (K : ∀ D2, IV (n + 1) D2 → T g mL_law room_1 599919 7300437 lw_Z 1247 [some (.float 0), some (.ref 0), some (.ref 57), some (iI i)] [] SH D2) : T g mL_law room_1 599919 7300437 lw_Z 1012 [some (.float 0), some (.ref 0), some (.ref 57), some (iI i)] [] SH D := by
  refine T_aload_n dL_law_1012 rfl ?_
  refine T_aloadS dL_law_1013 rfl ?_
  refine T_iload_n dL_law_1014 rfl ?_
  refine T_iconst dL_law_1015 ?_
  refine T_iadd dL_law_1016 ?_
  refine T_sld dL_law_1017 rfl hN (by first | omega | (simp [st2]; omega)) (by first | omega | (simp [st2]; omega)) ?_
  refine T_aloadS dL_law_1018 rfl ?_
  refine T_iload_n dL_law_1019 rfl ?_
  refine T_iconst dL_law_1020 ?_
  refine T_iadd dL_law_1021 ?_
  refine T_sld dL_law_1022 rfl hN (by first | omega | (simp [st2]; omega)) (by first | omega | (simp [st2]; omega)) ?_
  refine T_aloadS dL_law_1023 rfl ?_
  refine T_iload_n dL_law_1024 rfl ?_
  refine T_iconst dL_law_1025 ?_
  refine T_iadd dL_law_1026 ?_
  refine T_sld dL_law_1027 rfl hN (by first | omega | (simp [st2]; omega)) (by first | omega | (simp [st2]; omega)) ?_
  refine T_cV_3 dL_law_1028 lkL_120 rfl (Nat.le_of_ble_eq_true rfl) (RO_l (d := 20) (by decide)) (Nat.le_of_ble_eq_true rfl) ?_
  refine o_cell hI (inR_s _) (inR_s _) (inR_s _) (fun v D1 rf => ?_)
  refine T_aload_n dL_law_1031 rfl ?_
  refine T_aloadS dL_law_1032 rfl ?_
  refine T_iload_n dL_law_1033 rfl ?_
  refine T_iconst dL_law_1034 ?_
  refine T_iadd dL_law_1035 ?_
  refine T_sld dL_law_1036 rfl hN (by first | omega | (simp [st2]; omega)) (by first | omega | (simp [st2]; omega)) ?_
  refine T_aloadS dL_law_1037 rfl ?_
  refine T_iload_n dL_law_1038 rfl ?_
  refine T_iconst dL_law_1039 ?_
  refine T_iadd dL_law_1040 ?_
  refine T_sld dL_law_1041 rfl hN (by first | omega | (simp [st2]; omega)) (by first | omega | (simp [st2]; omega)) ?_
  refine T_aloadS dL_law_1042 rfl ?_
  refine T_iload_n dL_law_1043 rfl ?_
  refine T_iconst dL_law_1044 ?_
  refine T_iadd dL_law_1045 ?_
  refine T_sld dL_law_1046 rfl hN (by first | omega | (simp [st2]; omega)) (by first | omega | (simp [st2]; omega)) ?_
  refine T_cV_3 dL_law_1047 lkL_123 rfl (Nat.le_of_ble_eq_true rfl) (RO_l (d := 20) (by decide)) (Nat.le_of_ble_eq_true rfl) ?_
  refine rf _ (fun D2 h2 => ?_)
  exact T_sameL 1247 dL_law_1050 dL_law_1051 (by decide) (K D2 h2)
theorem l_copy {i : Int} (hI : IV n D) (hn : n ≤ 600) (hN : g.2.1.2.1 < 2147483648) (hi : 0 ≤ i ∧ i + 6 ≤ g.2.1.2.1) (K : ∀ D2, IV (n + 1) D2 → T g mL_law room_1 599919 7300437 lw_Z 1247 [some (.float 0), some (.ref 0), some (.ref 57), some (iI i)] [] SH D2) : T g mL_law room_1 599919 7300437 lw_Z 1056 [some (.float 0), some (.ref 0), some (.ref 57), some (iI i)] [] SH D := by
  refine T_aload_n dL_law_1056 rfl ?_
  refine T_aloadS dL_law_1057 rfl ?_
  refine T_iload_n dL_law_1058 rfl ?_
  refine T_iconst dL_law_1059 ?_
  refine T_iadd dL_law_1060 ?_
  refine T_sld dL_law_1061 rfl hN (by first | omega | (simp [st2]; omega)) (by first | omega | (simp [st2]; omega)) ?_
  refine T_aloadS dL_law_1062 rfl ?_
  refine T_iload_n dL_law_1063 rfl ?_
  refine T_iconst dL_law_1064 ?_
  refine T_iadd dL_law_1065 ?_
  refine T_sld dL_law_1066 rfl hN (by first | omega | (simp [st2]; omega)) (by first | omega | (simp [st2]; omega)) ?_
  refine T_aloadS dL_law_1067 rfl ?_
  refine T_iload_n dL_law_1068 rfl ?_
  refine T_iconst dL_law_1069 ?_
  refine T_iadd dL_law_1070 ?_
  refine T_sld dL_law_1071 rfl hN (by first | omega | (simp [st2]; omega)) (by first | omega | (simp [st2]; omega)) ?_
  refine T_aloadS dL_law_1072 rfl ?_
  refine T_iload_n dL_law_1073 rfl ?_
  refine T_iconst dL_law_1074 ?_
  refine T_iadd dL_law_1075 ?_
  refine T_sld dL_law_1076 rfl hN (by first | omega | (simp [st2]; omega)) (by first | omega | (simp [st2]; omega)) ?_
  refine T_aloadS dL_law_1077 rfl ?_
  refine T_iload_n dL_law_1078 rfl ?_
  refine T_iconst dL_law_1079 ?_
  refine T_iadd dL_law_1080 ?_
  refine T_sld dL_law_1081 rfl hN (by first | omega | (simp [st2]; omega)) (by first | omega | (simp [st2]; omega)) ?_
  refine T_cV_5 dL_law_1082 lkL_124 rfl (Nat.le_of_ble_eq_true rfl) (RO_l (d := 20) (by decide)) (Nat.le_of_ble_eq_true rfl) ?_
  refine o_copy hI (inR_s _) (inR_s _) (inR_s _) (inR_s _) (inR_s _) (fun v D1 rf => ?_)
  refine T_aload_n dL_law_1085 rfl ?_
  refine T_aloadS dL_law_1086 rfl ?_
  refine T_iload_n dL_law_1087 rfl ?_
  refine T_iconst dL_law_1088 ?_
  refine T_iadd dL_law_1089 ?_
  refine T_sld dL_law_1090 rfl hN (by first | omega | (simp [st2]; omega)) (by first | omega | (simp [st2]; omega)) ?_
  refine T_aloadS dL_law_1091 rfl ?_
  refine T_iload_n dL_law_1092 rfl ?_
  refine T_iconst dL_law_1093 ?_
  refine T_iadd dL_law_1094 ?_
  refine T_sld dL_law_1095 rfl hN (by first | omega | (simp [st2]; omega)) (by first | omega | (simp [st2]; omega)) ?_
  refine T_aloadS dL_law_1096 rfl ?_
  refine T_iload_n dL_law_1097 rfl ?_
  refine T_iconst dL_law_1098 ?_
  refine T_iadd dL_law_1099 ?_
  refine T_sld dL_law_1100 rfl hN (by first | omega | (simp [st2]; omega)) (by first | omega | (simp [st2]; omega)) ?_
  refine T_aloadS dL_law_1101 rfl ?_
  refine T_iload_n dL_law_1102 rfl ?_
  refine T_iconst dL_law_1103 ?_
  refine T_iadd dL_law_1104 ?_
  refine T_sld dL_law_1105 rfl hN (by first | omega | (simp [st2]; omega)) (by first | omega | (simp [st2]; omega)) ?_
  refine T_aloadS dL_law_1106 rfl ?_
  refine T_iload_n dL_law_1107 rfl ?_
  refine T_iconst dL_law_1108 ?_
  refine T_iadd dL_law_1109 ?_
  refine T_sld dL_law_1110 rfl hN (by first | omega | (simp [st2]; omega)) (by first | omega | (simp [st2]; omega)) ?_
  refine T_cV_5 dL_law_1111 lkL_128 rfl (Nat.le_of_ble_eq_true rfl) (RO_l (d := 20) (by decide)) (Nat.le_of_ble_eq_true rfl) ?_
  refine rf _ (fun D2 h2 => ?_)
  exact T_same 1247 dL_law_1114 (by decide) (K D2 h2)
theorem l_tell {i : Int} (hI : IV n D) (hn : n ≤ 600) (hN : g.2.1.2.1 < 2147483648) (hi : 0 ≤ i ∧ i + 6 ≤ g.2.1.2.1) (K : ∀ D2, IV (n + 1) D2 → T g mL_law room_1 599919 7300437 lw_Z 1247 [some (.float 0), some (.ref 0), some (.ref 57), some (iI i)] [] SH D2) : T g mL_law room_1 599919 7300437 lw_Z 1119 [some (.float 0), some (.ref 0), some (.ref 57), some (iI i)] [] SH D := by
  refine T_aload_n dL_law_1119 rfl ?_
  refine T_aloadS dL_law_1120 rfl ?_
  refine T_iload_n dL_law_1121 rfl ?_
  refine T_iconst dL_law_1122 ?_
  refine T_iadd dL_law_1123 ?_
  refine T_sld dL_law_1124 rfl hN (by first | omega | (simp [st2]; omega)) (by first | omega | (simp [st2]; omega)) ?_
  refine T_cV_1 dL_law_1125 lkL_129 rfl (Nat.le_of_ble_eq_true rfl) (RO_l (d := 20) (by decide)) (Nat.le_of_ble_eq_true rfl) ?_
  refine o_tell hI (inR_s _) (fun v D1 rf => ?_)
  refine T_aload_n dL_law_1128 rfl ?_
  refine T_aloadS dL_law_1129 rfl ?_
  refine T_iload_n dL_law_1130 rfl ?_
  refine T_iconst dL_law_1131 ?_
  refine T_iadd dL_law_1132 ?_
  refine T_sld dL_law_1133 rfl hN (by first | omega | (simp [st2]; omega)) (by first | omega | (simp [st2]; omega)) ?_
  refine T_cV_1 dL_law_1134 lkL_132 rfl (Nat.le_of_ble_eq_true rfl) (RO_l (d := 20) (by decide)) (Nat.le_of_ble_eq_true rfl) ?_
  refine rf _ (fun D2 h2 => ?_)
  exact T_same 1247 dL_law_1137 (by decide) (K D2 h2)
theorem l_ring {i : Int} (hI : IV n D) (hn : n ≤ 600) (hN : g.2.1.2.1 < 2147483648) (hi : 0 ≤ i ∧ i + 6 ≤ g.2.1.2.1) (K : ∀ D2, IV (n + 1) D2 → T g mL_law room_1 599919 7300437 lw_Z 1247 [some (.float 0), some (.ref 0), some (.ref 57), some (iI i)] [] SH D2) : T g mL_law room_1 599919 7300437 lw_Z 1142 [some (.float 0), some (.ref 0), some (.ref 57), some (iI i)] [] SH D := by
  refine T_aload_n dL_law_1142 rfl ?_
  refine T_aloadS dL_law_1143 rfl ?_
  refine T_iload_n dL_law_1144 rfl ?_
  refine T_iconst dL_law_1145 ?_
  refine T_iadd dL_law_1146 ?_
  refine T_sld dL_law_1147 rfl hN (by first | omega | (simp [st2]; omega)) (by first | omega | (simp [st2]; omega)) ?_
  refine T_cV_1 dL_law_1148 lkL_133 rfl (Nat.le_of_ble_eq_true rfl) (RO_l (d := 20) (by decide)) (Nat.le_of_ble_eq_true rfl) ?_
  refine o_ring hI (inR_s _) (fun v D1 rf => ?_)
  refine T_aload_n dL_law_1151 rfl ?_
  refine T_aloadS dL_law_1152 rfl ?_
  refine T_iload_n dL_law_1153 rfl ?_
  refine T_iconst dL_law_1154 ?_
  refine T_iadd dL_law_1155 ?_
  refine T_sld dL_law_1156 rfl hN (by first | omega | (simp [st2]; omega)) (by first | omega | (simp [st2]; omega)) ?_
  refine T_cV_1 dL_law_1157 lkL_136 rfl (Nat.le_of_ble_eq_true rfl) (RO_l (d := 20) (by decide)) (Nat.le_of_ble_eq_true rfl) ?_
  refine rf _ (fun D2 h2 => ?_)
  exact T_same 1247 dL_law_1160 (by decide) (K D2 h2)
theorem l_as {i : Int} (hI : IV n D) (hn : n ≤ 600) (hN : g.2.1.2.1 < 2147483648) (hi : 0 ≤ i ∧ i + 6 ≤ g.2.1.2.1) (K : ∀ D2, IV (n + 1) D2 → T g mL_law room_1 599919 7300437 lw_Z 1247 [some (.float 0), some (.ref 0), some (.ref 57), some (iI i)] [] SH D2) : T g mL_law room_1 599919 7300437 lw_Z 1165 [some (.float 0), some (.ref 0), some (.ref 57), some (iI i)] [] SH D := by
  refine T_aload_n dL_law_1165 rfl ?_
  refine T_aloadS dL_law_1166 rfl ?_
  refine T_iload_n dL_law_1167 rfl ?_
  refine T_iconst dL_law_1168 ?_
  refine T_iadd dL_law_1169 ?_
  refine T_sld dL_law_1170 rfl hN (by first | omega | (simp [st2]; omega)) (by first | omega | (simp [st2]; omega)) ?_
  refine T_aloadS dL_law_1171 rfl ?_
  refine T_iload_n dL_law_1172 rfl ?_
  refine T_iconst dL_law_1173 ?_
  refine T_iadd dL_law_1174 ?_
  refine T_sld dL_law_1175 rfl hN (by first | omega | (simp [st2]; omega)) (by first | omega | (simp [st2]; omega)) ?_
  refine T_cV_2 dL_law_1176 lkL_137 rfl (Nat.le_of_ble_eq_true rfl) (RO_l (d := 20) (by decide)) (Nat.le_of_ble_eq_true rfl) ?_
  refine o_as hI (inR_s _) (inR_s _) (fun v D1 rf => ?_)
  refine T_aload_n dL_law_1179 rfl ?_
  refine T_aloadS dL_law_1180 rfl ?_
  refine T_iload_n dL_law_1181 rfl ?_
  refine T_iconst dL_law_1182 ?_
  refine T_iadd dL_law_1183 ?_
  refine T_sld dL_law_1184 rfl hN (by first | omega | (simp [st2]; omega)) (by first | omega | (simp [st2]; omega)) ?_
  refine T_aloadS dL_law_1185 rfl ?_
  refine T_iload_n dL_law_1186 rfl ?_
  refine T_iconst dL_law_1187 ?_
  refine T_iadd dL_law_1188 ?_
  refine T_sld dL_law_1189 rfl hN (by first | omega | (simp [st2]; omega)) (by first | omega | (simp [st2]; omega)) ?_
  refine T_cV_2 dL_law_1190 lkL_140 rfl (Nat.le_of_ble_eq_true rfl) (RO_l (d := 20) (by decide)) (Nat.le_of_ble_eq_true rfl) ?_
  refine rf _ (fun D2 h2 => ?_)
  exact T_same 1247 dL_law_1193 (by decide) (K D2 h2)
theorem l_trace {i : Int} (hI : IV n D) (hn : n ≤ 600) (hN : g.2.1.2.1 < 2147483648) (hi : 0 ≤ i ∧ i + 6 ≤ g.2.1.2.1) (K : ∀ D2, IV (n + 1) D2 → T g mL_law room_1 599919 7300437 lw_Z 1247 [some (.float 0), some (.ref 0), some (.ref 57), some (iI i)] [] SH D2) : T g mL_law room_1 599919 7300437 lw_Z 1198 [some (.float 0), some (.ref 0), some (.ref 57), some (iI i)] [] SH D := by
  refine T_aload_n dL_law_1198 rfl ?_
  refine T_cV_0 dL_law_1199 lkL_141 rfl (Nat.le_of_ble_eq_true rfl) (RO_l (d := 20) (by decide)) (Nat.le_of_ble_eq_true rfl) ?_
  refine o_trace hI (fun v D1 rf => ?_)
  refine T_aload_n dL_law_1202 rfl ?_
  refine T_cV_0 dL_law_1203 lkL_144 rfl (Nat.le_of_ble_eq_true rfl) (RO_l (d := 20) (by decide)) (Nat.le_of_ble_eq_true rfl) ?_
  refine rf _ (fun D2 h2 => ?_)
  exact T_same 1247 dL_law_1206 (by decide) (K D2 h2)
theorem l_fault {i : Int} (hI : IV n D) (hn : n ≤ 600) (hN : g.2.1.2.1 < 2147483648) (hi : 0 ≤ i ∧ i + 6 ≤ g.2.1.2.1) (K : ∀ D2, IV (n + 1) D2 → T g mL_law room_1 599919 7300437 lw_Z 1247 [some (.float 0), some (.ref 0), some (.ref 57), some (iI i)] [] SH D2) : T g mL_law room_1 599919 7300437 lw_Z 1211 [some (.float 0), some (.ref 0), some (.ref 57), some (iI i)] [] SH D := by
  refine T_aload_n dL_law_1211 rfl ?_
  refine T_cV_0 dL_law_1212 lkL_145 rfl (Nat.le_of_ble_eq_true rfl) (RO_l (d := 20) (by decide)) (Nat.le_of_ble_eq_true rfl) ?_
  refine o_fault hI (fun v D1 rf => ?_)
  refine T_aload_n dL_law_1215 rfl ?_
  refine T_cV_0 dL_law_1216 lkL_148 rfl (Nat.le_of_ble_eq_true rfl) (RO_l (d := 20) (by decide)) (Nat.le_of_ble_eq_true rfl) ?_
  refine rf _ (fun D2 h2 => ?_)
  exact T_same 1247 dL_law_1219 (by decide) (K D2 h2)
theorem l_many {i : Int} (hI : IV n D) (hn : n ≤ 600) (hN : g.2.1.2.1 < 2147483648) (hi : 0 ≤ i ∧ i + 6 ≤ g.2.1.2.1) (K : ∀ D2, IV (n + 1) D2 → T g mL_law room_1 599919 7300437 lw_Z 1247 [some (.float 0), some (.ref 0), some (.ref 57), some (iI i)] [] SH D2) : T g mL_law room_1 599919 7300437 lw_Z 1224 [some (.float 0), some (.ref 0), some (.ref 57), some (iI i)] [] SH D := by
  refine T_aload_n dL_law_1224 rfl ?_
  refine T_aloadS dL_law_1225 rfl ?_
  refine T_iload_n dL_law_1226 rfl ?_
  refine T_iconst dL_law_1227 ?_
  refine T_iadd dL_law_1228 ?_
  refine T_sld dL_law_1229 rfl hN (by first | omega | (simp [st2]; omega)) (by first | omega | (simp [st2]; omega)) ?_
  refine T_cV_1 dL_law_1230 lkL_149 rfl (Nat.le_of_ble_eq_true rfl) (RO_l (d := 20) (by decide)) (Nat.le_of_ble_eq_true rfl) ?_
  refine o_many hI (inR_s _) (fun v D1 rf => ?_)
  refine T_aload_n dL_law_1233 rfl ?_
  refine T_aloadS dL_law_1234 rfl ?_
  refine T_iload_n dL_law_1235 rfl ?_
  refine T_iconst dL_law_1236 ?_
  refine T_iadd dL_law_1237 ?_
  refine T_sld dL_law_1238 rfl hN (by first | omega | (simp [st2]; omega)) (by first | omega | (simp [st2]; omega)) ?_
  refine T_cV_1 dL_law_1239 lkL_152 rfl (Nat.le_of_ble_eq_true rfl) (RO_l (d := 20) (by decide)) (Nat.le_of_ble_eq_true rfl) ?_
  refine rf _ (fun D2 h2 => ?_)
  exact T_same 1247 dL_law_1242 (by decide) (K D2 h2)
end

