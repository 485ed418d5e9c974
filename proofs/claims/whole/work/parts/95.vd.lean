theorem MS.t2 {T : List (Nat × Nat)} {rf rf2 : Nat → Nat → Option Nat} {la n9 : Nat} (h : MS T rf) (hr2 : ∀ a, a ≠ la → a ≠ 39 → rf2 a = rf a) (hla : 77 ≤ la) : MS (T ++ [(4, 0)] ++ [(20, 4)] ++ [(20, n9)] ++ [(20, n9)]) rf2 := by
  refine ⟨fun a x hx => tA (tA (tA (tA (h.1 a x hx)))), fun a k b hb => ?_⟩
  have ha : a = 53 := by
    rcases Nat.decEq a 53 with z | z
    · unfold MRf at hb
      rw [show Nat.beq a 53 = false from Bool.eq_false_iff.mpr (fun y => z (Nat.eq_of_beq_eq_true y))] at hb
      cases hb
    · exact z
  rw [hr2 a (by omega) (by omega)]
  exact h.2 a k b hb
theorem st_count {d : Nat} {sc : Nat × (Nat → Int32)} {F : Int32 → AH → Prop} {mc ms kc ks i : Nat} {T : List (Nat × Nat)} {rf : Nat → Nat → Option Nat} {g : Nat → Nat → Int32} {o : OV} {nc t tc : Nat} {css : Nat → Nat → List Int32} {sh : Nat → Nat → Int32} {tp : List Int32} {ko : OV} {kn kt : Nat} (hL9 : sc.1 ≤ 3584) (hi7 : i + 7 ≤ sc.1) (hkc : kc + 4 ≤ mc) (hks : ks + 328 ≤ ms) (hR : RLg T rf g o nc t tc css sh tp ko kn kt) (hN : ∀ {T : List (Nat × Nat)} {rf : Nat → Nat → Option Nat} {g : Nat → Nat → Int32} {o : OV} {nc t tc : Nat} {css : Nat → Nat → List Int32} {sh : Nat → Nat → Int32} {tp : List Int32} {ko : OV} {kn kt : Nat} {kc2 ks2 : Nat}, RLg T rf g o nc t tc css sh tp ko kn kt → kc2 ≤ kc + 4 → ks2 ≤ ks + 328 → Wp (d + 68) mc ms sc kL_law (Qi F) 18 [some (.ref 1000200), some (.ref 0), some (.ref 53), some (.int (nI (i + 7)))] [] (T, rf, g) kc2 ks2) : Wp (d + 68) mc ms sc kL_law (Qi F) 228 [some (.ref 1000200), some (.ref 0), some (.ref 53), some (.int (nI i))] [] (T, rf, g) kc ks := by
  have hkb : Nat.ble kc mc = true := ble (by omega)
  have hsb : Nat.ble ks ms = true := ble (by omega)
  have hkb4 : Nat.ble (kc + 4) mc = true := ble (by omega)
  have hsb4 : Nat.ble (ks + 328) ms = true := ble (by omega)
  have hX0 := hR.1.1.1
  have hT0 : T[0]? = some (11, 0) := hX0.1 _ _ rfl
  have hT5 : T[53]? = some (12, 0) := hR.2.1.1.1 _ _ rfl
  have hO := hR.1.1
  have hG := hR.2.2.2.1
  have htt := hR.2.2.2.2.1
  have h6 := hR.2.2.2.2.2.1
  have hSz := hR.2.2.2.2.2.2.1
  have hTB := hR.2.2.2.2.2.2.2.1
  have hTl := hR.2.2.2.2.2.2.2.2.1
  have hK := hR.2.2.2.2.2.2.2.2.2
  have hC := RL.mc hR (fun _ _ => rfl) (fun _ _ _ => rfl)
  refine xL_law_228 ?_
  refine xL_law_229 ?_
  refine xL_law_230 ?_
  refine xL_law_231 ?_
  refine xL_law_232 ?_
  refine xL_law_233 (j := i + 1) (nI_add i 1) (by omega) (by omega) rfl ?_
  refine xL_law_234 hT0 rfl hkb hsb (s_X11_count hO hR.1.2.2.2.1 hR.1.2.2.1.1 ?_)
  refine xL_law_237 ?_
  refine xL_law_238 ?_
  refine xL_law_239 ?_
  refine xL_law_240 ?_
  refine xL_law_241 ?_
  refine xL_law_242 (j := i + 1) (nI_add i 1) (by omega) (by omega) rfl ?_
  refine xL_law_243 hT5 rfl hkb hsb (s_X12_count hC hR.2.1.2.2.2.2.1 hR.2.1.2.2.2.1.1 ?_)
  have hR3 := hR
  refine xL_law_246_t rfl ?_
  refine xL_law_1637 rfl (nI_add i 7) ?_
  refine xL_law_1640 ?_
  exact hN hR3 (by omega) (by omega)
theorem st_set {d : Nat} {sc : Nat × (Nat → Int32)} {F : Int32 → AH → Prop} {mc ms kc ks i : Nat} {T : List (Nat × Nat)} {rf : Nat → Nat → Option Nat} {g : Nat → Nat → Int32} {o : OV} {nc t tc : Nat} {css : Nat → Nat → List Int32} {sh : Nat → Nat → Int32} {tp : List Int32} {ko : OV} {kn kt : Nat} (hL9 : sc.1 ≤ 3584) (hi7 : i + 7 ≤ sc.1) (hkc : kc + 4 ≤ mc) (hks : ks + 328 ≤ ms) (hR : RLg T rf g o nc t tc css sh tp ko kn kt) (hN : ∀ {T : List (Nat × Nat)} {rf : Nat → Nat → Option Nat} {g : Nat → Nat → Int32} {o : OV} {nc t tc : Nat} {css : Nat → Nat → List Int32} {sh : Nat → Nat → Int32} {tp : List Int32} {ko : OV} {kn kt : Nat} {kc2 ks2 : Nat}, RLg T rf g o nc t tc css sh tp ko kn kt → kc2 ≤ kc + 4 → ks2 ≤ ks + 328 → Wp (d + 68) mc ms sc kL_law (Qi F) 18 [some (.ref 1000200), some (.ref 0), some (.ref 53), some (.int (nI (i + 7)))] [] (T, rf, g) kc2 ks2) : Wp (d + 68) mc ms sc kL_law (Qi F) 251 [some (.ref 1000200), some (.ref 0), some (.ref 53), some (.int (nI i))] [] (T, rf, g) kc ks := by
  have hkb : Nat.ble kc mc = true := ble (by omega)
  have hsb : Nat.ble ks ms = true := ble (by omega)
  have hkb4 : Nat.ble (kc + 4) mc = true := ble (by omega)
  have hsb4 : Nat.ble (ks + 328) ms = true := ble (by omega)
  have hX0 := hR.1.1.1
  have hT0 : T[0]? = some (11, 0) := hX0.1 _ _ rfl
  have hT5 : T[53]? = some (12, 0) := hR.2.1.1.1 _ _ rfl
  have hO := hR.1.1
  have hG := hR.2.2.2.1
  have htt := hR.2.2.2.2.1
  have h6 := hR.2.2.2.2.2.1
  have hSz := hR.2.2.2.2.2.2.1
  have hTB := hR.2.2.2.2.2.2.2.1
  have hTl := hR.2.2.2.2.2.2.2.2.1
  have hK := hR.2.2.2.2.2.2.2.2.2
  refine xL_law_251 ?_
  refine xL_law_252 ?_
  refine xL_law_253 ?_
  refine xL_law_254 ?_
  refine xL_law_255 ?_
  refine xL_law_256 (j := i + 1) (nI_add i 1) (by omega) (by omega) rfl ?_
  refine xL_law_257 ?_
  refine xL_law_258 ?_
  refine xL_law_259 ?_
  refine xL_law_260 ?_
  refine xL_law_261 (j := i + 2) (nI_add i 2) (by omega) (by omega) rfl ?_
  refine xL_law_262 ?_
  refine xL_law_263 ?_
  refine xL_law_264 ?_
  refine xL_law_265 ?_
  refine xL_law_266 (j := i + 3) (nI_add i 3) (by omega) (by omega) rfl ?_
  refine xL_law_267 hT0 rfl hkb hsb (s_X11_set hO (fun g2 hx hu => ?_))
  have hC := RL.mc hR (fun _ _ => rfl) hu.m5
  refine xL_law_270 ?_
  refine xL_law_271 ?_
  refine xL_law_272 ?_
  refine xL_law_273 ?_
  refine xL_law_274 ?_
  refine xL_law_275 (j := i + 1) (nI_add i 1) (by omega) (by omega) rfl ?_
  refine xL_law_276 ?_
  refine xL_law_277 ?_
  refine xL_law_278 ?_
  refine xL_law_279 ?_
  refine xL_law_280 (j := i + 2) (nI_add i 2) (by omega) (by omega) rfl ?_
  refine xL_law_281 ?_
  refine xL_law_282 ?_
  refine xL_law_283 ?_
  refine xL_law_284 ?_
  refine xL_law_285 (j := i + 3) (nI_add i 3) (by omega) (by omega) rfl ?_
  refine xL_law_286 hT5 rfl hkb hsb (s_X12_set hC (fun g3 he hm => ?_))
  have hR3 := RL.ch hR hu hx hm he (Gd_set hG).1 htt (Nat.le_refl _) (fun _ hk => (Gd_set hG).2 hk)
  refine xL_law_289_t rfl ?_
  refine xL_law_1637 rfl (nI_add i 7) ?_
  refine xL_law_1640 ?_
  exact hN hR3 (by omega) (by omega)
theorem st_hot {d : Nat} {sc : Nat × (Nat → Int32)} {F : Int32 → AH → Prop} {mc ms kc ks i : Nat} {T : List (Nat × Nat)} {rf : Nat → Nat → Option Nat} {g : Nat → Nat → Int32} {o : OV} {nc t tc : Nat} {css : Nat → Nat → List Int32} {sh : Nat → Nat → Int32} {tp : List Int32} {ko : OV} {kn kt : Nat} (hL9 : sc.1 ≤ 3584) (hi7 : i + 7 ≤ sc.1) (hkc : kc + 4 ≤ mc) (hks : ks + 328 ≤ ms) (hR : RLg T rf g o nc t tc css sh tp ko kn kt) (hN : ∀ {T : List (Nat × Nat)} {rf : Nat → Nat → Option Nat} {g : Nat → Nat → Int32} {o : OV} {nc t tc : Nat} {css : Nat → Nat → List Int32} {sh : Nat → Nat → Int32} {tp : List Int32} {ko : OV} {kn kt : Nat} {kc2 ks2 : Nat}, RLg T rf g o nc t tc css sh tp ko kn kt → kc2 ≤ kc + 4 → ks2 ≤ ks + 328 → Wp (d + 68) mc ms sc kL_law (Qi F) 18 [some (.ref 1000200), some (.ref 0), some (.ref 53), some (.int (nI (i + 7)))] [] (T, rf, g) kc2 ks2) : Wp (d + 68) mc ms sc kL_law (Qi F) 294 [some (.ref 1000200), some (.ref 0), some (.ref 53), some (.int (nI i))] [] (T, rf, g) kc ks := by
  have hkb : Nat.ble kc mc = true := ble (by omega)
  have hsb : Nat.ble ks ms = true := ble (by omega)
  have hkb4 : Nat.ble (kc + 4) mc = true := ble (by omega)
  have hsb4 : Nat.ble (ks + 328) ms = true := ble (by omega)
  have hX0 := hR.1.1.1
  have hT0 : T[0]? = some (11, 0) := hX0.1 _ _ rfl
  have hT5 : T[53]? = some (12, 0) := hR.2.1.1.1 _ _ rfl
  have hO := hR.1.1
  have hG := hR.2.2.2.1
  have htt := hR.2.2.2.2.1
  have h6 := hR.2.2.2.2.2.1
  have hSz := hR.2.2.2.2.2.2.1
  have hTB := hR.2.2.2.2.2.2.2.1
  have hTl := hR.2.2.2.2.2.2.2.2.1
  have hK := hR.2.2.2.2.2.2.2.2.2
  have hC := RL.mc hR (fun _ _ => rfl) (fun _ _ _ => rfl)
  refine xL_law_294 ?_
  refine xL_law_295 ?_
  refine xL_law_296 ?_
  refine xL_law_297 ?_
  refine xL_law_298 ?_
  refine xL_law_299 (j := i + 1) (nI_add i 1) (by omega) (by omega) rfl ?_
  refine xL_law_300 hT0 rfl hkb hsb (s_X11_hot hO ?_)
  refine xL_law_303 ?_
  refine xL_law_304 ?_
  refine xL_law_305 ?_
  refine xL_law_306 ?_
  refine xL_law_307 ?_
  refine xL_law_308 (j := i + 1) (nI_add i 1) (by omega) (by omega) rfl ?_
  refine xL_law_309 hT5 rfl hkb hsb (s_X12_hot hC ?_)
  have hR3 := hR
  refine xL_law_312_t rfl ?_
  refine xL_law_1637 rfl (nI_add i 7) ?_
  refine xL_law_1640 ?_
  exact hN hR3 (by omega) (by omega)
theorem st_spot {d : Nat} {sc : Nat × (Nat → Int32)} {F : Int32 → AH → Prop} {mc ms kc ks i : Nat} {T : List (Nat × Nat)} {rf : Nat → Nat → Option Nat} {g : Nat → Nat → Int32} {o : OV} {nc t tc : Nat} {css : Nat → Nat → List Int32} {sh : Nat → Nat → Int32} {tp : List Int32} {ko : OV} {kn kt : Nat} (hL9 : sc.1 ≤ 3584) (hi7 : i + 7 ≤ sc.1) (hkc : kc + 4 ≤ mc) (hks : ks + 328 ≤ ms) (hR : RLg T rf g o nc t tc css sh tp ko kn kt) (hN : ∀ {T : List (Nat × Nat)} {rf : Nat → Nat → Option Nat} {g : Nat → Nat → Int32} {o : OV} {nc t tc : Nat} {css : Nat → Nat → List Int32} {sh : Nat → Nat → Int32} {tp : List Int32} {ko : OV} {kn kt : Nat} {kc2 ks2 : Nat}, RLg T rf g o nc t tc css sh tp ko kn kt → kc2 ≤ kc + 4 → ks2 ≤ ks + 328 → Wp (d + 68) mc ms sc kL_law (Qi F) 18 [some (.ref 1000200), some (.ref 0), some (.ref 53), some (.int (nI (i + 7)))] [] (T, rf, g) kc2 ks2) : Wp (d + 68) mc ms sc kL_law (Qi F) 317 [some (.ref 1000200), some (.ref 0), some (.ref 53), some (.int (nI i))] [] (T, rf, g) kc ks := by
  have hkb : Nat.ble kc mc = true := ble (by omega)
  have hsb : Nat.ble ks ms = true := ble (by omega)
  have hkb4 : Nat.ble (kc + 4) mc = true := ble (by omega)
  have hsb4 : Nat.ble (ks + 328) ms = true := ble (by omega)
  have hX0 := hR.1.1.1
  have hT0 : T[0]? = some (11, 0) := hX0.1 _ _ rfl
  have hT5 : T[53]? = some (12, 0) := hR.2.1.1.1 _ _ rfl
  have hO := hR.1.1
  have hG := hR.2.2.2.1
  have htt := hR.2.2.2.2.1
  have h6 := hR.2.2.2.2.2.1
  have hSz := hR.2.2.2.2.2.2.1
  have hTB := hR.2.2.2.2.2.2.2.1
  have hTl := hR.2.2.2.2.2.2.2.2.1
  have hK := hR.2.2.2.2.2.2.2.2.2
  have hC := RL.mc hR (fun _ _ => rfl) (fun _ _ _ => rfl)
  refine xL_law_317 ?_
  refine xL_law_318 ?_
  refine xL_law_319 ?_
  refine xL_law_320 ?_
  refine xL_law_321 ?_
  refine xL_law_322 (j := i + 1) (nI_add i 1) (by omega) (by omega) rfl ?_
  refine xL_law_323 ?_
  refine xL_law_324 ?_
  refine xL_law_325 ?_
  refine xL_law_326 ?_
  refine xL_law_327 (j := i + 2) (nI_add i 2) (by omega) (by omega) rfl ?_
  refine xL_law_328 hT0 rfl hkb hsb (s_X11_spot  ?_)
  refine xL_law_331 ?_
  refine xL_law_332 ?_
  refine xL_law_333 ?_
  refine xL_law_334 ?_
  refine xL_law_335 ?_
  refine xL_law_336 (j := i + 1) (nI_add i 1) (by omega) (by omega) rfl ?_
  refine xL_law_337 ?_
  refine xL_law_338 ?_
  refine xL_law_339 ?_
  refine xL_law_340 ?_
  refine xL_law_341 (j := i + 2) (nI_add i 2) (by omega) (by omega) rfl ?_
  refine xL_law_342 hT5 rfl hkb hsb (s_X12_spot  ?_)
  have hR3 := hR
  refine xL_law_345_t rfl ?_
  refine xL_law_1637 rfl (nI_add i 7) ?_
  refine xL_law_1640 ?_
  exact hN hR3 (by omega) (by omega)
theorem st_feed {d : Nat} {sc : Nat × (Nat → Int32)} {F : Int32 → AH → Prop} {mc ms kc ks i : Nat} {T : List (Nat × Nat)} {rf : Nat → Nat → Option Nat} {g : Nat → Nat → Int32} {o : OV} {nc t tc : Nat} {css : Nat → Nat → List Int32} {sh : Nat → Nat → Int32} {tp : List Int32} {ko : OV} {kn kt : Nat} (hL9 : sc.1 ≤ 3584) (hi7 : i + 7 ≤ sc.1) (hkc : kc + 4 ≤ mc) (hks : ks + 328 ≤ ms) (hR : RLg T rf g o nc t tc css sh tp ko kn kt) (hN : ∀ {T : List (Nat × Nat)} {rf : Nat → Nat → Option Nat} {g : Nat → Nat → Int32} {o : OV} {nc t tc : Nat} {css : Nat → Nat → List Int32} {sh : Nat → Nat → Int32} {tp : List Int32} {ko : OV} {kn kt : Nat} {kc2 ks2 : Nat}, RLg T rf g o nc t tc css sh tp ko kn kt → kc2 ≤ kc + 4 → ks2 ≤ ks + 328 → Wp (d + 68) mc ms sc kL_law (Qi F) 18 [some (.ref 1000200), some (.ref 0), some (.ref 53), some (.int (nI (i + 7)))] [] (T, rf, g) kc2 ks2) : Wp (d + 68) mc ms sc kL_law (Qi F) 350 [some (.ref 1000200), some (.ref 0), some (.ref 53), some (.int (nI i))] [] (T, rf, g) kc ks := by
  have hkb : Nat.ble kc mc = true := ble (by omega)
  have hsb : Nat.ble ks ms = true := ble (by omega)
  have hkb4 : Nat.ble (kc + 4) mc = true := ble (by omega)
  have hsb4 : Nat.ble (ks + 328) ms = true := ble (by omega)
  have hX0 := hR.1.1.1
  have hT0 : T[0]? = some (11, 0) := hX0.1 _ _ rfl
  have hT5 : T[53]? = some (12, 0) := hR.2.1.1.1 _ _ rfl
  have hO := hR.1.1
  have hG := hR.2.2.2.1
  have htt := hR.2.2.2.2.1
  have h6 := hR.2.2.2.2.2.1
  have hSz := hR.2.2.2.2.2.2.1
  have hTB := hR.2.2.2.2.2.2.2.1
  have hTl := hR.2.2.2.2.2.2.2.2.1
  have hK := hR.2.2.2.2.2.2.2.2.2
  refine xL_law_350 ?_
  refine xL_law_351 ?_
  refine xL_law_352 ?_
  refine xL_law_353 ?_
  refine xL_law_354 ?_
  refine xL_law_355 (j := i + 1) (nI_add i 1) (by omega) (by omega) rfl ?_
  refine xL_law_356 ?_
  refine xL_law_357 ?_
  refine xL_law_358 ?_
  refine xL_law_359 ?_
  refine xL_law_360 (j := i + 2) (nI_add i 2) (by omega) (by omega) rfl ?_
  refine xL_law_361 ?_
  refine xL_law_362 ?_
  refine xL_law_363 ?_
  refine xL_law_364 ?_
  refine xL_law_365 (j := i + 3) (nI_add i 3) (by omega) (by omega) rfl ?_
  refine xL_law_366 ?_
  refine xL_law_367 ?_
  refine xL_law_368 ?_
  refine xL_law_369 ?_
  refine xL_law_370 (j := i + 4) (nI_add i 4) (by omega) (by omega) rfl ?_
  refine xL_law_371 ?_
  refine xL_law_372 ?_
  refine xL_law_373 ?_
  refine xL_law_374 ?_
  refine xL_law_375 (j := i + 5) (nI_add i 5) (by omega) (by omega) rfl ?_
  refine xL_law_376 ?_
  refine xL_law_377 ?_
  refine xL_law_378 ?_
  refine xL_law_380 ?_
  refine xL_law_381 (j := i + 6) (nI_add i 6) (by omega) (by omega) rfl ?_
  refine xL_law_382 hT0 rfl hkb hsb (s_X11_feed hX0 hR.1.2.2.1 (fun g2 r2 tp2 hx hy hf => ?_))
  refine xL_law_385 ?_
  refine xL_law_386 ?_
  refine xL_law_387 ?_
  refine xL_law_388 ?_
  refine xL_law_389 ?_
  refine xL_law_390 (j := i + 1) (nI_add i 1) (by omega) (by omega) rfl ?_
  refine xL_law_391 ?_
  refine xL_law_392 ?_
  refine xL_law_393 ?_
  refine xL_law_394 ?_
  refine xL_law_395 (j := i + 2) (nI_add i 2) (by omega) (by omega) rfl ?_
  refine xL_law_396 ?_
  refine xL_law_397 ?_
  refine xL_law_398 ?_
  refine xL_law_399 ?_
  refine xL_law_400 (j := i + 3) (nI_add i 3) (by omega) (by omega) rfl ?_
  refine xL_law_401 ?_
  refine xL_law_402 ?_
  refine xL_law_403 ?_
  refine xL_law_404 ?_
  refine xL_law_405 (j := i + 4) (nI_add i 4) (by omega) (by omega) rfl ?_
  refine xL_law_406 ?_
  refine xL_law_407 ?_
  refine xL_law_408 ?_
  refine xL_law_409 ?_
  refine xL_law_410 (j := i + 5) (nI_add i 5) (by omega) (by omega) rfl ?_
  refine xL_law_411 ?_
  refine xL_law_412 ?_
  refine xL_law_413 ?_
  refine xL_law_415 ?_
  refine xL_law_416 (j := i + 6) (nI_add i 6) (by omega) (by omega) rfl ?_
  refine xL_law_417 hT5 rfl hkb hsb (s_X12_feed (RL.ms hR (fun _ _ => rfl)) (hR.2.1.2.2.2.1.m5 hf.m5) (fun g3 r3 tp3 hx3 hy3 hm => ?_))
  obtain ⟨rfl, rfl⟩ := feed_det hx hx3
  have hR3 := RL.fe hR hf hy hm hy3 (TB_feed hTB hx)
  refine xL_law_420_t rfl ?_
  refine xL_law_1637 rfl (nI_add i 7) ?_
  refine xL_law_1640 ?_
  exact hN hR3 (by omega) (by omega)
theorem st_text {d : Nat} {sc : Nat × (Nat → Int32)} {F : Int32 → AH → Prop} {mc ms kc ks i : Nat} {T : List (Nat × Nat)} {rf : Nat → Nat → Option Nat} {g : Nat → Nat → Int32} {o : OV} {nc t tc : Nat} {css : Nat → Nat → List Int32} {sh : Nat → Nat → Int32} {tp : List Int32} {ko : OV} {kn kt : Nat} (hL9 : sc.1 ≤ 3584) (hi7 : i + 7 ≤ sc.1) (hkc : kc + 4 ≤ mc) (hks : ks + 328 ≤ ms) (hR : RLg T rf g o nc t tc css sh tp ko kn kt) (hN : ∀ {T : List (Nat × Nat)} {rf : Nat → Nat → Option Nat} {g : Nat → Nat → Int32} {o : OV} {nc t tc : Nat} {css : Nat → Nat → List Int32} {sh : Nat → Nat → Int32} {tp : List Int32} {ko : OV} {kn kt : Nat} {kc2 ks2 : Nat}, RLg T rf g o nc t tc css sh tp ko kn kt → kc2 ≤ kc + 4 → ks2 ≤ ks + 328 → Wp (d + 68) mc ms sc kL_law (Qi F) 18 [some (.ref 1000200), some (.ref 0), some (.ref 53), some (.int (nI (i + 7)))] [] (T, rf, g) kc2 ks2) : Wp (d + 68) mc ms sc kL_law (Qi F) 425 [some (.ref 1000200), some (.ref 0), some (.ref 53), some (.int (nI i))] [] (T, rf, g) kc ks := by
  have hkb : Nat.ble kc mc = true := ble (by omega)
  have hsb : Nat.ble ks ms = true := ble (by omega)
  have hkb4 : Nat.ble (kc + 4) mc = true := ble (by omega)
  have hsb4 : Nat.ble (ks + 328) ms = true := ble (by omega)
  have hX0 := hR.1.1.1
  have hT0 : T[0]? = some (11, 0) := hX0.1 _ _ rfl
  have hT5 : T[53]? = some (12, 0) := hR.2.1.1.1 _ _ rfl
  have hO := hR.1.1
  have hG := hR.2.2.2.1
  have htt := hR.2.2.2.2.1
  have h6 := hR.2.2.2.2.2.1
  have hSz := hR.2.2.2.2.2.2.1
  have hTB := hR.2.2.2.2.2.2.2.1
  have hTl := hR.2.2.2.2.2.2.2.2.1
  have hK := hR.2.2.2.2.2.2.2.2.2
  have hla : 77 ≤ 73 + 4 * tc := by omega
  have hxm : ∀ {g2 : Nat → Nat → Int32}, TXF (73 + 4 * tc) g g2 → M53 g g2 := fun hf a p q => hf.1 a (by omega) (by omega) (by omega) (by omega) (by omega) (by omega)
  refine xL_law_425 ?_
  refine xL_law_426A hT0 (mc1 := 4) (ms1 := 328) (kc1 := kc + 4) (ks1 := ks + 328) rfl rfl rfl hkb4 hsb4 (s_X11_text (la := 73 + 4 * tc) hX0 hR.1.2.2.1 hTB hTl (by omega) (by omega) (by omega) (by omega) hR.1.2.2.2.1 hO.2.2.1 (fun h9 => ?_) (fun ht6 g2 bz hRz hp2 hf2 h72 => ?_) (fun ht6 rf2 g2 cz hRz hcl hw hfl hp2 hx2 hr2 hf2 h72 hS2 => ?_))
  · refine xL_law_429 ?_
    refine xL_law_430 hT5 rfl hkb4 hsb4 (s_X12_text (RL.ms hR (fun _ _ => rfl)) hR.2.1.2.2.2.2.2.2.1 hR.2.1.2.2.2.1 hR.2.1.2.2.2.2.1 h6 rfl (fun z => absurd z (by omega)) (fun e9 => ?_) (fun hq6 b3 hRb g3 q1 q2 q3 => ?_) (fun hq6 c3 hRc g3 q1 q2 q3 q4 => ?_))
    · have hR3 := hR
      refine xL_law_433_t rfl ?_
      refine xL_law_1637 rfl (nI_add i 7) ?_
      refine xL_law_1640 ?_
      exact hN hR3 (by omega) (by omega)
    · exact absurd hq6 (by omega)
    · exact absurd hq6 (by omega)
  · have hm5 := hxm hf2
    refine xL_law_429 ?_
    refine xL_law_430 hT5 rfl hkb4 hsb4 (s_X12_text (RL.ms hR (fun _ _ => rfl)) (hR.2.1.2.2.2.2.2.2.1.m5 hm5) (hR.2.1.2.2.2.1.m5 hm5) (by rw [hm5 53 (by omega) (by omega)]; exact hR.2.1.2.2.2.2.1) h6 hRz (fun _ css h => by cases h) (fun e9 => ?_) (fun hq6 b3 hRb g3 q1 q2 q3 => ?_) (fun hq6 c3 hRc g3 q1 q2 q3 q4 => ?_))
    · exact absurd e9 (by omega)
    · have eb : b3 = bz := by injection hRb with h; exact h.symm
      subst eb
      have hR3 := RL.t0 hR hTl hla hf2 hp2 h72 q1 q2 q3
      refine xL_law_433_t rfl ?_
      refine xL_law_1637 rfl (nI_add i 7) ?_
      refine xL_law_1640 ?_
      exact hN hR3 (by omega) (by omega)
    · cases hRc
  · have hm5 := hxm hf2
    have hT5 := tA (x := (20, cz.flatten.length)) (tA (x := (20, cz.flatten.length)) (tA (x := (20, 4)) (tA (x := (4, 0)) hT5)))
    have hM2 := MS.t2 hR.2.1.1 (n9 := cz.flatten.length) hr2 (by omega)
    refine xL_law_429 ?_
    refine xL_law_430 hT5 rfl hkb4 hsb4 (s_X12_text hM2 (hR.2.1.2.2.2.2.2.2.1.m5 hm5) (hR.2.1.2.2.2.1.m5 hm5) (by rw [hm5 53 (by omega) (by omega)]; exact hR.2.1.2.2.2.2.1) h6 hRz (fun _ css h => by injection h with h; subst h; exact ⟨hcl, hw, by omega⟩) (fun e9 => ?_) (fun hq6 b3 hRb g3 q1 q2 q3 => ?_) (fun hq6 c3 hRc g3 q1 q2 q3 q4 => ?_))
    · exact absurd e9 (by omega)
    · cases hRb
    · have ec : c3 = cz := by injection hRc with h; exact h.symm
      subst ec
      have hR3 := RL.t1 hR hTl hla hf2 hp2 h72 hx2 hr2 hS2 ht6 q1 q2 q3 q4
      refine xL_law_433_t rfl ?_
      refine xL_law_1637 rfl (nI_add i 7) ?_
      refine xL_law_1640 ?_
      exact hN hR3 (by omega) (by omega)
theorem st_force {d : Nat} {sc : Nat × (Nat → Int32)} {F : Int32 → AH → Prop} {mc ms kc ks i : Nat} {T : List (Nat × Nat)} {rf : Nat → Nat → Option Nat} {g : Nat → Nat → Int32} {o : OV} {nc t tc : Nat} {css : Nat → Nat → List Int32} {sh : Nat → Nat → Int32} {tp : List Int32} {ko : OV} {kn kt : Nat} (hL9 : sc.1 ≤ 3584) (hi7 : i + 7 ≤ sc.1) (hkc : kc + 4 ≤ mc) (hks : ks + 328 ≤ ms) (hR : RLg T rf g o nc t tc css sh tp ko kn kt) (hN : ∀ {T : List (Nat × Nat)} {rf : Nat → Nat → Option Nat} {g : Nat → Nat → Int32} {o : OV} {nc t tc : Nat} {css : Nat → Nat → List Int32} {sh : Nat → Nat → Int32} {tp : List Int32} {ko : OV} {kn kt : Nat} {kc2 ks2 : Nat}, RLg T rf g o nc t tc css sh tp ko kn kt → kc2 ≤ kc + 4 → ks2 ≤ ks + 328 → Wp (d + 68) mc ms sc kL_law (Qi F) 18 [some (.ref 1000200), some (.ref 0), some (.ref 53), some (.int (nI (i + 7)))] [] (T, rf, g) kc2 ks2) : Wp (d + 68) mc ms sc kL_law (Qi F) 438 [some (.ref 1000200), some (.ref 0), some (.ref 53), some (.int (nI i))] [] (T, rf, g) kc ks := by
  have hkb : Nat.ble kc mc = true := ble (by omega)
  have hsb : Nat.ble ks ms = true := ble (by omega)
  have hkb4 : Nat.ble (kc + 4) mc = true := ble (by omega)
  have hsb4 : Nat.ble (ks + 328) ms = true := ble (by omega)
  have hX0 := hR.1.1.1
  have hT0 : T[0]? = some (11, 0) := hX0.1 _ _ rfl
  have hT5 : T[53]? = some (12, 0) := hR.2.1.1.1 _ _ rfl
  have hO := hR.1.1
  have hG := hR.2.2.2.1
  have htt := hR.2.2.2.2.1
  have h6 := hR.2.2.2.2.2.1
  have hSz := hR.2.2.2.2.2.2.1
  have hTB := hR.2.2.2.2.2.2.2.1
  have hTl := hR.2.2.2.2.2.2.2.2.1
  have hK := hR.2.2.2.2.2.2.2.2.2
  refine xL_law_438 ?_
  refine xL_law_439 ?_
  refine xL_law_440 ?_
  refine xL_law_441 ?_
  refine xL_law_442 ?_
  refine xL_law_443 (j := i + 1) (nI_add i 1) (by omega) (by omega) rfl ?_
  refine xL_law_444 hT0 rfl hkb hsb (s_X11_force hO hR.1.2.2.2.1 (fun g2 hx hu => ?_))
  have hC := RL.mc hR (fun _ _ => rfl) hu.m5
  refine xL_law_447 ?_
  refine xL_law_448 ?_
  refine xL_law_449 ?_
  refine xL_law_450 ?_
  refine xL_law_451 ?_
  refine xL_law_452 (j := i + 1) (nI_add i 1) (by omega) (by omega) rfl ?_
  refine xL_law_453 hT5 rfl hkb hsb (s_X12_force hC (by rw [hu.m5 53 (by omega) (by omega)]; exact hR.2.1.2.2.2.2.1) (fun g3 he hm => ?_))
  obtain ⟨⟨t9, ht9, hG9⟩, hK9⟩ := Gd_force (v := (sc.2 (i + 1))) hG htt h6
  have hR3 := RL.ch hR hu hx hm he hG9 ht9 (Nat.le_refl _) (fun _ hk => hK9 hk)
  refine xL_law_456_t rfl ?_
  refine xL_law_1637 rfl (nI_add i 7) ?_
  refine xL_law_1640 ?_
  exact hN hR3 (by omega) (by omega)
theorem st_asks {d : Nat} {sc : Nat × (Nat → Int32)} {F : Int32 → AH → Prop} {mc ms kc ks i : Nat} {T : List (Nat × Nat)} {rf : Nat → Nat → Option Nat} {g : Nat → Nat → Int32} {o : OV} {nc t tc : Nat} {css : Nat → Nat → List Int32} {sh : Nat → Nat → Int32} {tp : List Int32} {ko : OV} {kn kt : Nat} (hL9 : sc.1 ≤ 3584) (hi7 : i + 7 ≤ sc.1) (hkc : kc + 4 ≤ mc) (hks : ks + 328 ≤ ms) (hR : RLg T rf g o nc t tc css sh tp ko kn kt) (hN : ∀ {T : List (Nat × Nat)} {rf : Nat → Nat → Option Nat} {g : Nat → Nat → Int32} {o : OV} {nc t tc : Nat} {css : Nat → Nat → List Int32} {sh : Nat → Nat → Int32} {tp : List Int32} {ko : OV} {kn kt : Nat} {kc2 ks2 : Nat}, RLg T rf g o nc t tc css sh tp ko kn kt → kc2 ≤ kc + 4 → ks2 ≤ ks + 328 → Wp (d + 68) mc ms sc kL_law (Qi F) 18 [some (.ref 1000200), some (.ref 0), some (.ref 53), some (.int (nI (i + 7)))] [] (T, rf, g) kc2 ks2) : Wp (d + 68) mc ms sc kL_law (Qi F) 461 [some (.ref 1000200), some (.ref 0), some (.ref 53), some (.int (nI i))] [] (T, rf, g) kc ks := by
  have hkb : Nat.ble kc mc = true := ble (by omega)
  have hsb : Nat.ble ks ms = true := ble (by omega)
  have hkb4 : Nat.ble (kc + 4) mc = true := ble (by omega)
  have hsb4 : Nat.ble (ks + 328) ms = true := ble (by omega)
  have hX0 := hR.1.1.1
  have hT0 : T[0]? = some (11, 0) := hX0.1 _ _ rfl
  have hT5 : T[53]? = some (12, 0) := hR.2.1.1.1 _ _ rfl
  have hO := hR.1.1
  have hG := hR.2.2.2.1
  have htt := hR.2.2.2.2.1
  have h6 := hR.2.2.2.2.2.1
  have hSz := hR.2.2.2.2.2.2.1
  have hTB := hR.2.2.2.2.2.2.2.1
  have hTl := hR.2.2.2.2.2.2.2.2.1
  have hK := hR.2.2.2.2.2.2.2.2.2
  refine xL_law_461 ?_
  refine xL_law_462 ?_
  refine xL_law_463 ?_
  refine xL_law_464 ?_
  refine xL_law_465 ?_
  refine xL_law_466 (j := i + 1) (nI_add i 1) (by omega) (by omega) rfl ?_
  refine xL_law_467 ?_
  refine xL_law_468 ?_
  refine xL_law_469 ?_
  refine xL_law_470 ?_
  refine xL_law_471 (j := i + 2) (nI_add i 2) (by omega) (by omega) rfl ?_
  refine xL_law_472 ?_
  refine xL_law_473 ?_
  refine xL_law_474 ?_
  refine xL_law_475 ?_
  refine xL_law_476 (j := i + 3) (nI_add i 3) (by omega) (by omega) rfl ?_
  refine xL_law_477 ?_
  refine xL_law_478 ?_
  refine xL_law_479 ?_
  refine xL_law_480 ?_
  refine xL_law_481 (j := i + 4) (nI_add i 4) (by omega) (by omega) rfl ?_
  refine xL_law_482 hT0 rfl hkb hsb (s_X11_asks hO (fun rf2 g2 hz hv => ?_))
  have hR2 := RL.tx hR hz hv
  have hC := RL.mc hR2 (fun _ _ => rfl) (fun _ _ _ => rfl)
  refine xL_law_485 ?_
  refine xL_law_486 ?_
  refine xL_law_487 ?_
  refine xL_law_488 ?_
  refine xL_law_489 ?_
  refine xL_law_490 (j := i + 1) (nI_add i 1) (by omega) (by omega) rfl ?_
  refine xL_law_491 ?_
  refine xL_law_492 ?_
  refine xL_law_493 ?_
  refine xL_law_494 ?_
  refine xL_law_495 (j := i + 2) (nI_add i 2) (by omega) (by omega) rfl ?_
  refine xL_law_496 ?_
  refine xL_law_497 ?_
  refine xL_law_498 ?_
  refine xL_law_499 ?_
  refine xL_law_500 (j := i + 3) (nI_add i 3) (by omega) (by omega) rfl ?_
  refine xL_law_501 ?_
  refine xL_law_502 ?_
  refine xL_law_503 ?_
  refine xL_law_504 ?_
  refine xL_law_505 (j := i + 4) (nI_add i 4) (by omega) (by omega) rfl ?_
  refine xL_law_506 hT5 rfl hkb hsb (s_X12_asks hC (fun g3 he hm => ?_))
  have hR3 := RL.tm hR2 he hm
  refine xL_law_509_t rfl ?_
  refine xL_law_1637 rfl (nI_add i 7) ?_
  refine xL_law_1640 ?_
  exact hN hR3 (by omega) (by omega)
theorem st_cake {d : Nat} {sc : Nat × (Nat → Int32)} {F : Int32 → AH → Prop} {mc ms kc ks i : Nat} {T : List (Nat × Nat)} {rf : Nat → Nat → Option Nat} {g : Nat → Nat → Int32} {o : OV} {nc t tc : Nat} {css : Nat → Nat → List Int32} {sh : Nat → Nat → Int32} {tp : List Int32} {ko : OV} {kn kt : Nat} (hL9 : sc.1 ≤ 3584) (hi7 : i + 7 ≤ sc.1) (hkc : kc + 4 ≤ mc) (hks : ks + 328 ≤ ms) (hR : RLg T rf g o nc t tc css sh tp ko kn kt) (hN : ∀ {T : List (Nat × Nat)} {rf : Nat → Nat → Option Nat} {g : Nat → Nat → Int32} {o : OV} {nc t tc : Nat} {css : Nat → Nat → List Int32} {sh : Nat → Nat → Int32} {tp : List Int32} {ko : OV} {kn kt : Nat} {kc2 ks2 : Nat}, RLg T rf g o nc t tc css sh tp ko kn kt → kc2 ≤ kc + 4 → ks2 ≤ ks + 328 → Wp (d + 68) mc ms sc kL_law (Qi F) 18 [some (.ref 1000200), some (.ref 0), some (.ref 53), some (.int (nI (i + 7)))] [] (T, rf, g) kc2 ks2) : Wp (d + 68) mc ms sc kL_law (Qi F) 514 [some (.ref 1000200), some (.ref 0), some (.ref 53), some (.int (nI i))] [] (T, rf, g) kc ks := by
  have hkb : Nat.ble kc mc = true := ble (by omega)
  have hsb : Nat.ble ks ms = true := ble (by omega)
  have hkb4 : Nat.ble (kc + 4) mc = true := ble (by omega)
  have hsb4 : Nat.ble (ks + 328) ms = true := ble (by omega)
  have hX0 := hR.1.1.1
  have hT0 : T[0]? = some (11, 0) := hX0.1 _ _ rfl
  have hT5 : T[53]? = some (12, 0) := hR.2.1.1.1 _ _ rfl
  have hO := hR.1.1
  have hG := hR.2.2.2.1
  have htt := hR.2.2.2.2.1
  have h6 := hR.2.2.2.2.2.1
  have hSz := hR.2.2.2.2.2.2.1
  have hTB := hR.2.2.2.2.2.2.2.1
  have hTl := hR.2.2.2.2.2.2.2.2.1
  have hK := hR.2.2.2.2.2.2.2.2.2
  refine xL_law_514 ?_
  refine xL_law_515 ?_
  refine xL_law_516 ?_
  refine xL_law_517 ?_
  refine xL_law_518 ?_
  refine xL_law_519 (j := i + 1) (nI_add i 1) (by omega) (by omega) rfl ?_
  refine xL_law_520 ?_
  refine xL_law_521 ?_
  refine xL_law_522 ?_
  refine xL_law_523 ?_
  refine xL_law_524 (j := i + 2) (nI_add i 2) (by omega) (by omega) rfl ?_
  refine xL_law_525 ?_
  refine xL_law_526 ?_
  refine xL_law_527 ?_
  refine xL_law_528 ?_
  refine xL_law_529 (j := i + 3) (nI_add i 3) (by omega) (by omega) rfl ?_
  refine xL_law_530 hT0 rfl hkb hsb (s_X11_cake hO (fun g2 o2 n2 hx he hu => ?_))
  have hC := RL.mc hR (fun _ _ => rfl) hu.m5
  refine xL_law_533 ?_
  refine xL_law_534 ?_
  refine xL_law_535 ?_
  refine xL_law_536 ?_
  refine xL_law_537 ?_
  refine xL_law_538 (j := i + 1) (nI_add i 1) (by omega) (by omega) rfl ?_
  refine xL_law_539 ?_
  refine xL_law_540 ?_
  refine xL_law_541 ?_
  refine xL_law_542 ?_
  refine xL_law_543 (j := i + 2) (nI_add i 2) (by omega) (by omega) rfl ?_
  refine xL_law_544 ?_
  refine xL_law_545 ?_
  refine xL_law_546 ?_
  refine xL_law_547 ?_
  refine xL_law_548 (j := i + 3) (nI_add i 3) (by omega) (by omega) rfl ?_
  refine xL_law_549 hT5 rfl hkb hsb (s_X12_cake hC (fun g3 o3 n3 hx3 he3 hm => ?_))
  obtain ⟨rfl, rfl⟩ := cakeX_det hx hx3
  obtain ⟨a1, a2, a3⟩ := Gd_cake hG hx
  have hR3 := RL.ch hR hu he hm he3 a1 htt a2 (fun hk hK => a3 hk hK)
  refine xL_law_552_t rfl ?_
  refine xL_law_1637 rfl (nI_add i 7) ?_
  refine xL_law_1640 ?_
  exact hN hR3 (by omega) (by omega)
theorem st_move {d : Nat} {sc : Nat × (Nat → Int32)} {F : Int32 → AH → Prop} {mc ms kc ks i : Nat} {T : List (Nat × Nat)} {rf : Nat → Nat → Option Nat} {g : Nat → Nat → Int32} {o : OV} {nc t tc : Nat} {css : Nat → Nat → List Int32} {sh : Nat → Nat → Int32} {tp : List Int32} {ko : OV} {kn kt : Nat} (hL9 : sc.1 ≤ 3584) (hi7 : i + 7 ≤ sc.1) (hkc : kc + 4 ≤ mc) (hks : ks + 328 ≤ ms) (hR : RLg T rf g o nc t tc css sh tp ko kn kt) (hN : ∀ {T : List (Nat × Nat)} {rf : Nat → Nat → Option Nat} {g : Nat → Nat → Int32} {o : OV} {nc t tc : Nat} {css : Nat → Nat → List Int32} {sh : Nat → Nat → Int32} {tp : List Int32} {ko : OV} {kn kt : Nat} {kc2 ks2 : Nat}, RLg T rf g o nc t tc css sh tp ko kn kt → kc2 ≤ kc + 4 → ks2 ≤ ks + 328 → Wp (d + 68) mc ms sc kL_law (Qi F) 18 [some (.ref 1000200), some (.ref 0), some (.ref 53), some (.int (nI (i + 7)))] [] (T, rf, g) kc2 ks2) : Wp (d + 68) mc ms sc kL_law (Qi F) 557 [some (.ref 1000200), some (.ref 0), some (.ref 53), some (.int (nI i))] [] (T, rf, g) kc ks := by
  have hkb : Nat.ble kc mc = true := ble (by omega)
  have hsb : Nat.ble ks ms = true := ble (by omega)
  have hkb4 : Nat.ble (kc + 4) mc = true := ble (by omega)
  have hsb4 : Nat.ble (ks + 328) ms = true := ble (by omega)
  have hX0 := hR.1.1.1
  have hT0 : T[0]? = some (11, 0) := hX0.1 _ _ rfl
  have hT5 : T[53]? = some (12, 0) := hR.2.1.1.1 _ _ rfl
  have hO := hR.1.1
  have hG := hR.2.2.2.1
  have htt := hR.2.2.2.2.1
  have h6 := hR.2.2.2.2.2.1
  have hSz := hR.2.2.2.2.2.2.1
  have hTB := hR.2.2.2.2.2.2.2.1
  have hTl := hR.2.2.2.2.2.2.2.2.1
  have hK := hR.2.2.2.2.2.2.2.2.2
  refine xL_law_557 ?_
  refine xL_law_558 ?_
  refine xL_law_559 ?_
  refine xL_law_560 ?_
  refine xL_law_561 ?_
  refine xL_law_562 (j := i + 1) (nI_add i 1) (by omega) (by omega) rfl ?_
  refine xL_law_563 ?_
  refine xL_law_564 ?_
  refine xL_law_565 ?_
  refine xL_law_566 ?_
  refine xL_law_567 (j := i + 2) (nI_add i 2) (by omega) (by omega) rfl ?_
  refine xL_law_568 hT0 rfl hkb hsb (s_X11_move hO (fun g2 hx hu => ?_))
  have hC := RL.mc hR (fun _ _ => rfl) hu.m5
  refine xL_law_571 ?_
  refine xL_law_572 ?_
  refine xL_law_573 ?_
  refine xL_law_574 ?_
  refine xL_law_575 ?_
  refine xL_law_576 (j := i + 1) (nI_add i 1) (by omega) (by omega) rfl ?_
  refine xL_law_577 ?_
  refine xL_law_578 ?_
  refine xL_law_579 ?_
  refine xL_law_580 ?_
  refine xL_law_581 (j := i + 2) (nI_add i 2) (by omega) (by omega) rfl ?_
  refine xL_law_582 hT5 rfl hkb hsb (s_X12_move hC (fun g3 he hm => ?_))
  have hR3 := RL.ch hR hu hx hm he (Gd_move hG).1 htt (Nat.le_refl _) (fun _ hk => (Gd_move hG).2 hk)
  refine xL_law_585_t rfl ?_
  refine xL_law_1637 rfl (nI_add i 7) ?_
  refine xL_law_1640 ?_
  exact hN hR3 (by omega) (by omega)
theorem st_told {d : Nat} {sc : Nat × (Nat → Int32)} {F : Int32 → AH → Prop} {mc ms kc ks i : Nat} {T : List (Nat × Nat)} {rf : Nat → Nat → Option Nat} {g : Nat → Nat → Int32} {o : OV} {nc t tc : Nat} {css : Nat → Nat → List Int32} {sh : Nat → Nat → Int32} {tp : List Int32} {ko : OV} {kn kt : Nat} (hL9 : sc.1 ≤ 3584) (hi7 : i + 7 ≤ sc.1) (hkc : kc + 4 ≤ mc) (hks : ks + 328 ≤ ms) (hR : RLg T rf g o nc t tc css sh tp ko kn kt) (hN : ∀ {T : List (Nat × Nat)} {rf : Nat → Nat → Option Nat} {g : Nat → Nat → Int32} {o : OV} {nc t tc : Nat} {css : Nat → Nat → List Int32} {sh : Nat → Nat → Int32} {tp : List Int32} {ko : OV} {kn kt : Nat} {kc2 ks2 : Nat}, RLg T rf g o nc t tc css sh tp ko kn kt → kc2 ≤ kc + 4 → ks2 ≤ ks + 328 → Wp (d + 68) mc ms sc kL_law (Qi F) 18 [some (.ref 1000200), some (.ref 0), some (.ref 53), some (.int (nI (i + 7)))] [] (T, rf, g) kc2 ks2) : Wp (d + 68) mc ms sc kL_law (Qi F) 590 [some (.ref 1000200), some (.ref 0), some (.ref 53), some (.int (nI i))] [] (T, rf, g) kc ks := by
  have hkb : Nat.ble kc mc = true := ble (by omega)
  have hsb : Nat.ble ks ms = true := ble (by omega)
  have hkb4 : Nat.ble (kc + 4) mc = true := ble (by omega)
  have hsb4 : Nat.ble (ks + 328) ms = true := ble (by omega)
  have hX0 := hR.1.1.1
  have hT0 : T[0]? = some (11, 0) := hX0.1 _ _ rfl
  have hT5 : T[53]? = some (12, 0) := hR.2.1.1.1 _ _ rfl
  have hO := hR.1.1
  have hG := hR.2.2.2.1
  have htt := hR.2.2.2.2.1
  have h6 := hR.2.2.2.2.2.1
  have hSz := hR.2.2.2.2.2.2.1
  have hTB := hR.2.2.2.2.2.2.2.1
  have hTl := hR.2.2.2.2.2.2.2.2.1
  have hK := hR.2.2.2.2.2.2.2.2.2
  have hC := RL.mc hR (fun _ _ => rfl) (fun _ _ _ => rfl)
  refine xL_law_590 ?_
  refine xL_law_591 ?_
  refine xL_law_592 ?_
  refine xL_law_593 ?_
  refine xL_law_594 ?_
  refine xL_law_595 (j := i + 1) (nI_add i 1) (by omega) (by omega) rfl ?_
  refine xL_law_596 ?_
  refine xL_law_597 ?_
  refine xL_law_598 ?_
  refine xL_law_599 ?_
  refine xL_law_600 (j := i + 2) (nI_add i 2) (by omega) (by omega) rfl ?_
  refine xL_law_601 hT0 rfl hkb hsb (s_X11_told hO ?_)
  refine xL_law_604 ?_
  refine xL_law_605 ?_
  refine xL_law_606 ?_
  refine xL_law_607 ?_
  refine xL_law_608 ?_
  refine xL_law_609 (j := i + 1) (nI_add i 1) (by omega) (by omega) rfl ?_
  refine xL_law_610 ?_
  refine xL_law_611 ?_
  refine xL_law_612 ?_
  refine xL_law_613 ?_
  refine xL_law_614 (j := i + 2) (nI_add i 2) (by omega) (by omega) rfl ?_
  refine xL_law_615 hT5 rfl hkb hsb (s_X12_told hC ?_)
  have hR3 := hR
  refine xL_law_618_t rfl ?_
  refine xL_law_1637 rfl (nI_add i 7) ?_
  refine xL_law_1640 ?_
  exact hN hR3 (by omega) (by omega)
theorem st_open {d : Nat} {sc : Nat × (Nat → Int32)} {F : Int32 → AH → Prop} {mc ms kc ks i : Nat} {T : List (Nat × Nat)} {rf : Nat → Nat → Option Nat} {g : Nat → Nat → Int32} {o : OV} {nc t tc : Nat} {css : Nat → Nat → List Int32} {sh : Nat → Nat → Int32} {tp : List Int32} {ko : OV} {kn kt : Nat} (hL9 : sc.1 ≤ 3584) (hi7 : i + 7 ≤ sc.1) (hkc : kc + 4 ≤ mc) (hks : ks + 328 ≤ ms) (hR : RLg T rf g o nc t tc css sh tp ko kn kt) (hN : ∀ {T : List (Nat × Nat)} {rf : Nat → Nat → Option Nat} {g : Nat → Nat → Int32} {o : OV} {nc t tc : Nat} {css : Nat → Nat → List Int32} {sh : Nat → Nat → Int32} {tp : List Int32} {ko : OV} {kn kt : Nat} {kc2 ks2 : Nat}, RLg T rf g o nc t tc css sh tp ko kn kt → kc2 ≤ kc + 4 → ks2 ≤ ks + 328 → Wp (d + 68) mc ms sc kL_law (Qi F) 18 [some (.ref 1000200), some (.ref 0), some (.ref 53), some (.int (nI (i + 7)))] [] (T, rf, g) kc2 ks2) : Wp (d + 68) mc ms sc kL_law (Qi F) 623 [some (.ref 1000200), some (.ref 0), some (.ref 53), some (.int (nI i))] [] (T, rf, g) kc ks := by
  have hkb : Nat.ble kc mc = true := ble (by omega)
  have hsb : Nat.ble ks ms = true := ble (by omega)
  have hkb4 : Nat.ble (kc + 4) mc = true := ble (by omega)
  have hsb4 : Nat.ble (ks + 328) ms = true := ble (by omega)
  have hX0 := hR.1.1.1
  have hT0 : T[0]? = some (11, 0) := hX0.1 _ _ rfl
  have hT5 : T[53]? = some (12, 0) := hR.2.1.1.1 _ _ rfl
  have hO := hR.1.1
  have hG := hR.2.2.2.1
  have htt := hR.2.2.2.2.1
  have h6 := hR.2.2.2.2.2.1
  have hSz := hR.2.2.2.2.2.2.1
  have hTB := hR.2.2.2.2.2.2.2.1
  have hTl := hR.2.2.2.2.2.2.2.2.1
  have hK := hR.2.2.2.2.2.2.2.2.2
  refine xL_law_623 ?_
  refine xL_law_624 ?_
  refine xL_law_625 ?_
  refine xL_law_626 ?_
  refine xL_law_627 ?_
  refine xL_law_628 (j := i + 1) (nI_add i 1) (by omega) (by omega) rfl ?_
  refine xL_law_629 ?_
  refine xL_law_630 ?_
  refine xL_law_631 ?_
  refine xL_law_632 ?_
  refine xL_law_633 (j := i + 2) (nI_add i 2) (by omega) (by omega) rfl ?_
  refine xL_law_634 hT0 rfl hkb hsb (s_X11_open hO (fun g2 hx hu => ?_))
  have hC := RL.mc hR (fun _ _ => rfl) hu.m5
  refine xL_law_637 ?_
  refine xL_law_638 ?_
  refine xL_law_639 ?_
  refine xL_law_640 ?_
  refine xL_law_641 ?_
  refine xL_law_642 (j := i + 1) (nI_add i 1) (by omega) (by omega) rfl ?_
  refine xL_law_643 ?_
  refine xL_law_644 ?_
  refine xL_law_645 ?_
  refine xL_law_646 ?_
  refine xL_law_647 (j := i + 2) (nI_add i 2) (by omega) (by omega) rfl ?_
  refine xL_law_648 hT5 rfl hkb hsb (s_X12_open hC (fun g3 he hm => ?_))
  have hR3 := RL.ch hR hu hx hm he (Gd_open hG).1 htt (Nat.le_refl _) (fun _ hk => (Gd_open hG).2 hk)
  refine xL_law_651_t rfl ?_
  refine xL_law_1637 rfl (nI_add i 7) ?_
  refine xL_law_1640 ?_
  exact hN hR3 (by omega) (by omega)
theorem st_opening {d : Nat} {sc : Nat × (Nat → Int32)} {F : Int32 → AH → Prop} {mc ms kc ks i : Nat} {T : List (Nat × Nat)} {rf : Nat → Nat → Option Nat} {g : Nat → Nat → Int32} {o : OV} {nc t tc : Nat} {css : Nat → Nat → List Int32} {sh : Nat → Nat → Int32} {tp : List Int32} {ko : OV} {kn kt : Nat} (hL9 : sc.1 ≤ 3584) (hi7 : i + 7 ≤ sc.1) (hkc : kc + 4 ≤ mc) (hks : ks + 328 ≤ ms) (hR : RLg T rf g o nc t tc css sh tp ko kn kt) (hN : ∀ {T : List (Nat × Nat)} {rf : Nat → Nat → Option Nat} {g : Nat → Nat → Int32} {o : OV} {nc t tc : Nat} {css : Nat → Nat → List Int32} {sh : Nat → Nat → Int32} {tp : List Int32} {ko : OV} {kn kt : Nat} {kc2 ks2 : Nat}, RLg T rf g o nc t tc css sh tp ko kn kt → kc2 ≤ kc + 4 → ks2 ≤ ks + 328 → Wp (d + 68) mc ms sc kL_law (Qi F) 18 [some (.ref 1000200), some (.ref 0), some (.ref 53), some (.int (nI (i + 7)))] [] (T, rf, g) kc2 ks2) : Wp (d + 68) mc ms sc kL_law (Qi F) 656 [some (.ref 1000200), some (.ref 0), some (.ref 53), some (.int (nI i))] [] (T, rf, g) kc ks := by
  have hkb : Nat.ble kc mc = true := ble (by omega)
  have hsb : Nat.ble ks ms = true := ble (by omega)
  have hkb4 : Nat.ble (kc + 4) mc = true := ble (by omega)
  have hsb4 : Nat.ble (ks + 328) ms = true := ble (by omega)
  have hX0 := hR.1.1.1
  have hT0 : T[0]? = some (11, 0) := hX0.1 _ _ rfl
  have hT5 : T[53]? = some (12, 0) := hR.2.1.1.1 _ _ rfl
  have hO := hR.1.1
  have hG := hR.2.2.2.1
  have htt := hR.2.2.2.2.1
  have h6 := hR.2.2.2.2.2.1
  have hSz := hR.2.2.2.2.2.2.1
  have hTB := hR.2.2.2.2.2.2.2.1
  have hTl := hR.2.2.2.2.2.2.2.2.1
  have hK := hR.2.2.2.2.2.2.2.2.2
  have hC := RL.mc hR (fun _ _ => rfl) (fun _ _ _ => rfl)
  refine xL_law_656 ?_
  refine xL_law_657 ?_
  refine xL_law_658 ?_
  refine xL_law_659 ?_
  refine xL_law_660 ?_
  refine xL_law_661 (j := i + 1) (nI_add i 1) (by omega) (by omega) rfl ?_
  refine xL_law_662 ?_
  refine xL_law_663 ?_
  refine xL_law_664 ?_
  refine xL_law_665 ?_
  refine xL_law_666 (j := i + 2) (nI_add i 2) (by omega) (by omega) rfl ?_
  refine xL_law_667 hT0 rfl hkb hsb (s_X11_opening hO ?_)
  refine xL_law_670 ?_
  refine xL_law_671 ?_
  refine xL_law_672 ?_
  refine xL_law_673 ?_
  refine xL_law_674 ?_
  refine xL_law_675 (j := i + 1) (nI_add i 1) (by omega) (by omega) rfl ?_
  refine xL_law_676 ?_
  refine xL_law_677 ?_
  refine xL_law_678 ?_
  refine xL_law_679 ?_
  refine xL_law_680 (j := i + 2) (nI_add i 2) (by omega) (by omega) rfl ?_
  refine xL_law_681 hT5 rfl hkb hsb (s_X12_opening hC ?_)
  have hR3 := hR
  refine xL_law_684_t rfl ?_
  refine xL_law_1637 rfl (nI_add i 7) ?_
  refine xL_law_1640 ?_
  exact hN hR3 (by omega) (by omega)
theorem st_shut {d : Nat} {sc : Nat × (Nat → Int32)} {F : Int32 → AH → Prop} {mc ms kc ks i : Nat} {T : List (Nat × Nat)} {rf : Nat → Nat → Option Nat} {g : Nat → Nat → Int32} {o : OV} {nc t tc : Nat} {css : Nat → Nat → List Int32} {sh : Nat → Nat → Int32} {tp : List Int32} {ko : OV} {kn kt : Nat} (hL9 : sc.1 ≤ 3584) (hi7 : i + 7 ≤ sc.1) (hkc : kc + 4 ≤ mc) (hks : ks + 328 ≤ ms) (hR : RLg T rf g o nc t tc css sh tp ko kn kt) (hN : ∀ {T : List (Nat × Nat)} {rf : Nat → Nat → Option Nat} {g : Nat → Nat → Int32} {o : OV} {nc t tc : Nat} {css : Nat → Nat → List Int32} {sh : Nat → Nat → Int32} {tp : List Int32} {ko : OV} {kn kt : Nat} {kc2 ks2 : Nat}, RLg T rf g o nc t tc css sh tp ko kn kt → kc2 ≤ kc + 4 → ks2 ≤ ks + 328 → Wp (d + 68) mc ms sc kL_law (Qi F) 18 [some (.ref 1000200), some (.ref 0), some (.ref 53), some (.int (nI (i + 7)))] [] (T, rf, g) kc2 ks2) : Wp (d + 68) mc ms sc kL_law (Qi F) 689 [some (.ref 1000200), some (.ref 0), some (.ref 53), some (.int (nI i))] [] (T, rf, g) kc ks := by
  have hkb : Nat.ble kc mc = true := ble (by omega)
  have hsb : Nat.ble ks ms = true := ble (by omega)
  have hkb4 : Nat.ble (kc + 4) mc = true := ble (by omega)
  have hsb4 : Nat.ble (ks + 328) ms = true := ble (by omega)
  have hX0 := hR.1.1.1
  have hT0 : T[0]? = some (11, 0) := hX0.1 _ _ rfl
  have hT5 : T[53]? = some (12, 0) := hR.2.1.1.1 _ _ rfl
  have hO := hR.1.1
  have hG := hR.2.2.2.1
  have htt := hR.2.2.2.2.1
  have h6 := hR.2.2.2.2.2.1
  have hSz := hR.2.2.2.2.2.2.1
  have hTB := hR.2.2.2.2.2.2.2.1
  have hTl := hR.2.2.2.2.2.2.2.2.1
  have hK := hR.2.2.2.2.2.2.2.2.2
  refine xL_law_689 ?_
  refine xL_law_690 hT0 rfl hkb hsb (s_X11_shut hO (fun g2 hx hu => ?_))
  have hC := RL.mc hR (fun _ _ => rfl) hu.m5
  refine xL_law_693 ?_
  refine xL_law_694 hT5 rfl hkb hsb (s_X12_shut hC (fun g3 he hm => ?_))
  have hR3 := RL.ch hR hu hx hm he (Gd_shut hG).1 htt (Nat.le_refl _) (fun _ hk => (Gd_shut hG).2 hk)
  refine xL_law_697_t rfl ?_
  refine xL_law_1637 rfl (nI_add i 7) ?_
  refine xL_law_1640 ?_
  exact hN hR3 (by omega) (by omega)
theorem st_at {d : Nat} {sc : Nat × (Nat → Int32)} {F : Int32 → AH → Prop} {mc ms kc ks i : Nat} {T : List (Nat × Nat)} {rf : Nat → Nat → Option Nat} {g : Nat → Nat → Int32} {o : OV} {nc t tc : Nat} {css : Nat → Nat → List Int32} {sh : Nat → Nat → Int32} {tp : List Int32} {ko : OV} {kn kt : Nat} (hL9 : sc.1 ≤ 3584) (hi7 : i + 7 ≤ sc.1) (hkc : kc + 4 ≤ mc) (hks : ks + 328 ≤ ms) (hR : RLg T rf g o nc t tc css sh tp ko kn kt) (hN : ∀ {T : List (Nat × Nat)} {rf : Nat → Nat → Option Nat} {g : Nat → Nat → Int32} {o : OV} {nc t tc : Nat} {css : Nat → Nat → List Int32} {sh : Nat → Nat → Int32} {tp : List Int32} {ko : OV} {kn kt : Nat} {kc2 ks2 : Nat}, RLg T rf g o nc t tc css sh tp ko kn kt → kc2 ≤ kc + 4 → ks2 ≤ ks + 328 → Wp (d + 68) mc ms sc kL_law (Qi F) 18 [some (.ref 1000200), some (.ref 0), some (.ref 53), some (.int (nI (i + 7)))] [] (T, rf, g) kc2 ks2) : Wp (d + 68) mc ms sc kL_law (Qi F) 702 [some (.ref 1000200), some (.ref 0), some (.ref 53), some (.int (nI i))] [] (T, rf, g) kc ks := by
  have hkb : Nat.ble kc mc = true := ble (by omega)
  have hsb : Nat.ble ks ms = true := ble (by omega)
  have hkb4 : Nat.ble (kc + 4) mc = true := ble (by omega)
  have hsb4 : Nat.ble (ks + 328) ms = true := ble (by omega)
  have hX0 := hR.1.1.1
  have hT0 : T[0]? = some (11, 0) := hX0.1 _ _ rfl
  have hT5 : T[53]? = some (12, 0) := hR.2.1.1.1 _ _ rfl
  have hO := hR.1.1
  have hG := hR.2.2.2.1
  have htt := hR.2.2.2.2.1
  have h6 := hR.2.2.2.2.2.1
  have hSz := hR.2.2.2.2.2.2.1
  have hTB := hR.2.2.2.2.2.2.2.1
  have hTl := hR.2.2.2.2.2.2.2.2.1
  have hK := hR.2.2.2.2.2.2.2.2.2
  refine xL_law_702 ?_
  refine xL_law_703 ?_
  refine xL_law_704 ?_
  refine xL_law_705 ?_
  refine xL_law_706 ?_
  refine xL_law_707 (j := i + 1) (nI_add i 1) (by omega) (by omega) rfl ?_
  refine xL_law_708 ?_
  refine xL_law_709 ?_
  refine xL_law_710 ?_
  refine xL_law_711 ?_
  refine xL_law_712 (j := i + 2) (nI_add i 2) (by omega) (by omega) rfl ?_
  refine xL_law_713 hT0 rfl hkb hsb (s_X11_at hO (fun rf2 g2 hz hv => ?_))
  have hR2 := RL.tx hR hz hv
  have hC := RL.mc hR2 (fun _ _ => rfl) (fun _ _ _ => rfl)
  refine xL_law_716 ?_
  refine xL_law_717 ?_
  refine xL_law_718 ?_
  refine xL_law_719 ?_
  refine xL_law_720 ?_
  refine xL_law_721 (j := i + 1) (nI_add i 1) (by omega) (by omega) rfl ?_
  refine xL_law_722 ?_
  refine xL_law_723 ?_
  refine xL_law_724 ?_
  refine xL_law_725 ?_
  refine xL_law_726 (j := i + 2) (nI_add i 2) (by omega) (by omega) rfl ?_
  refine xL_law_727 hT5 rfl hkb hsb (s_X12_at hC (fun g3 he hm => ?_))
  have hR3 := RL.tm hR2 he hm
  refine xL_law_730_t rfl ?_
  refine xL_law_1637 rfl (nI_add i 7) ?_
  refine xL_law_1640 ?_
  exact hN hR3 (by omega) (by omega)
theorem st_end {d : Nat} {sc : Nat × (Nat → Int32)} {F : Int32 → AH → Prop} {mc ms kc ks i : Nat} {T : List (Nat × Nat)} {rf : Nat → Nat → Option Nat} {g : Nat → Nat → Int32} {o : OV} {nc t tc : Nat} {css : Nat → Nat → List Int32} {sh : Nat → Nat → Int32} {tp : List Int32} {ko : OV} {kn kt : Nat} (hL9 : sc.1 ≤ 3584) (hi7 : i + 7 ≤ sc.1) (hkc : kc + 4 ≤ mc) (hks : ks + 328 ≤ ms) (hR : RLg T rf g o nc t tc css sh tp ko kn kt) (hN : ∀ {T : List (Nat × Nat)} {rf : Nat → Nat → Option Nat} {g : Nat → Nat → Int32} {o : OV} {nc t tc : Nat} {css : Nat → Nat → List Int32} {sh : Nat → Nat → Int32} {tp : List Int32} {ko : OV} {kn kt : Nat} {kc2 ks2 : Nat}, RLg T rf g o nc t tc css sh tp ko kn kt → kc2 ≤ kc + 4 → ks2 ≤ ks + 328 → Wp (d + 68) mc ms sc kL_law (Qi F) 18 [some (.ref 1000200), some (.ref 0), some (.ref 53), some (.int (nI (i + 7)))] [] (T, rf, g) kc2 ks2) : Wp (d + 68) mc ms sc kL_law (Qi F) 735 [some (.ref 1000200), some (.ref 0), some (.ref 53), some (.int (nI i))] [] (T, rf, g) kc ks := by
  have hkb : Nat.ble kc mc = true := ble (by omega)
  have hsb : Nat.ble ks ms = true := ble (by omega)
  have hkb4 : Nat.ble (kc + 4) mc = true := ble (by omega)
  have hsb4 : Nat.ble (ks + 328) ms = true := ble (by omega)
  have hX0 := hR.1.1.1
  have hT0 : T[0]? = some (11, 0) := hX0.1 _ _ rfl
  have hT5 : T[53]? = some (12, 0) := hR.2.1.1.1 _ _ rfl
  have hO := hR.1.1
  have hG := hR.2.2.2.1
  have htt := hR.2.2.2.2.1
  have h6 := hR.2.2.2.2.2.1
  have hSz := hR.2.2.2.2.2.2.1
  have hTB := hR.2.2.2.2.2.2.2.1
  have hTl := hR.2.2.2.2.2.2.2.2.1
  have hK := hR.2.2.2.2.2.2.2.2.2
  refine xL_law_735 ?_
  refine xL_law_736 ?_
  refine xL_law_737 ?_
  refine xL_law_738 ?_
  refine xL_law_739 ?_
  refine xL_law_740 (j := i + 1) (nI_add i 1) (by omega) (by omega) rfl ?_
  refine xL_law_741 hT0 rfl hkb hsb (s_X11_end hO (fun rf2 g2 hz hv => ?_))
  have hR2 := RL.tx hR hz hv
  have hC := RL.mc hR2 (fun _ _ => rfl) (fun _ _ _ => rfl)
  refine xL_law_744 ?_
  refine xL_law_745 ?_
  refine xL_law_746 ?_
  refine xL_law_747 ?_
  refine xL_law_748 ?_
  refine xL_law_749 (j := i + 1) (nI_add i 1) (by omega) (by omega) rfl ?_
  refine xL_law_750 hT5 rfl hkb hsb (s_X12_end hC (fun g3 he hm => ?_))
  have hR3 := RL.tm hR2 he hm
  refine xL_law_753_t rfl ?_
  refine xL_law_1637 rfl (nI_add i 7) ?_
  refine xL_law_1640 ?_
  exact hN hR3 (by omega) (by omega)
theorem st_off {d : Nat} {sc : Nat × (Nat → Int32)} {F : Int32 → AH → Prop} {mc ms kc ks i : Nat} {T : List (Nat × Nat)} {rf : Nat → Nat → Option Nat} {g : Nat → Nat → Int32} {o : OV} {nc t tc : Nat} {css : Nat → Nat → List Int32} {sh : Nat → Nat → Int32} {tp : List Int32} {ko : OV} {kn kt : Nat} (hL9 : sc.1 ≤ 3584) (hi7 : i + 7 ≤ sc.1) (hkc : kc + 4 ≤ mc) (hks : ks + 328 ≤ ms) (hR : RLg T rf g o nc t tc css sh tp ko kn kt) (hN : ∀ {T : List (Nat × Nat)} {rf : Nat → Nat → Option Nat} {g : Nat → Nat → Int32} {o : OV} {nc t tc : Nat} {css : Nat → Nat → List Int32} {sh : Nat → Nat → Int32} {tp : List Int32} {ko : OV} {kn kt : Nat} {kc2 ks2 : Nat}, RLg T rf g o nc t tc css sh tp ko kn kt → kc2 ≤ kc + 4 → ks2 ≤ ks + 328 → Wp (d + 68) mc ms sc kL_law (Qi F) 18 [some (.ref 1000200), some (.ref 0), some (.ref 53), some (.int (nI (i + 7)))] [] (T, rf, g) kc2 ks2) : Wp (d + 68) mc ms sc kL_law (Qi F) 758 [some (.ref 1000200), some (.ref 0), some (.ref 53), some (.int (nI i))] [] (T, rf, g) kc ks := by
  have hkb : Nat.ble kc mc = true := ble (by omega)
  have hsb : Nat.ble ks ms = true := ble (by omega)
  have hkb4 : Nat.ble (kc + 4) mc = true := ble (by omega)
  have hsb4 : Nat.ble (ks + 328) ms = true := ble (by omega)
  have hX0 := hR.1.1.1
  have hT0 : T[0]? = some (11, 0) := hX0.1 _ _ rfl
  have hT5 : T[53]? = some (12, 0) := hR.2.1.1.1 _ _ rfl
  have hO := hR.1.1
  have hG := hR.2.2.2.1
  have htt := hR.2.2.2.2.1
  have h6 := hR.2.2.2.2.2.1
  have hSz := hR.2.2.2.2.2.2.1
  have hTB := hR.2.2.2.2.2.2.2.1
  have hTl := hR.2.2.2.2.2.2.2.2.1
  have hK := hR.2.2.2.2.2.2.2.2.2
  refine xL_law_758 ?_
  refine xL_law_759 ?_
  refine xL_law_760 ?_
  refine xL_law_761 ?_
  refine xL_law_762 ?_
  refine xL_law_763 (j := i + 1) (nI_add i 1) (by omega) (by omega) rfl ?_
  refine xL_law_764 ?_
  refine xL_law_765 ?_
  refine xL_law_766 ?_
  refine xL_law_767 ?_
  refine xL_law_768 (j := i + 2) (nI_add i 2) (by omega) (by omega) rfl ?_
  refine xL_law_769 hT0 rfl hkb hsb (s_X11_off hO (fun rf2 g2 hz hv => ?_))
  have hR2 := RL.tx hR hz hv
  have hC := RL.mc hR2 (fun _ _ => rfl) (fun _ _ _ => rfl)
  refine xL_law_772 ?_
  refine xL_law_773 ?_
  refine xL_law_774 ?_
  refine xL_law_775 ?_
  refine xL_law_776 ?_
  refine xL_law_777 (j := i + 1) (nI_add i 1) (by omega) (by omega) rfl ?_
  refine xL_law_778 ?_
  refine xL_law_779 ?_
  refine xL_law_780 ?_
  refine xL_law_781 ?_
  refine xL_law_782 (j := i + 2) (nI_add i 2) (by omega) (by omega) rfl ?_
  refine xL_law_783 hT5 rfl hkb hsb (s_X12_off hC (fun g3 he hm => ?_))
  have hR3 := RL.tm hR2 he hm
  refine xL_law_786_t rfl ?_
  refine xL_law_1637 rfl (nI_add i 7) ?_
  refine xL_law_1640 ?_
  exact hN hR3 (by omega) (by omega)
theorem st_when {d : Nat} {sc : Nat × (Nat → Int32)} {F : Int32 → AH → Prop} {mc ms kc ks i : Nat} {T : List (Nat × Nat)} {rf : Nat → Nat → Option Nat} {g : Nat → Nat → Int32} {o : OV} {nc t tc : Nat} {css : Nat → Nat → List Int32} {sh : Nat → Nat → Int32} {tp : List Int32} {ko : OV} {kn kt : Nat} (hL9 : sc.1 ≤ 3584) (hi7 : i + 7 ≤ sc.1) (hkc : kc + 4 ≤ mc) (hks : ks + 328 ≤ ms) (hR : RLg T rf g o nc t tc css sh tp ko kn kt) (hN : ∀ {T : List (Nat × Nat)} {rf : Nat → Nat → Option Nat} {g : Nat → Nat → Int32} {o : OV} {nc t tc : Nat} {css : Nat → Nat → List Int32} {sh : Nat → Nat → Int32} {tp : List Int32} {ko : OV} {kn kt : Nat} {kc2 ks2 : Nat}, RLg T rf g o nc t tc css sh tp ko kn kt → kc2 ≤ kc + 4 → ks2 ≤ ks + 328 → Wp (d + 68) mc ms sc kL_law (Qi F) 18 [some (.ref 1000200), some (.ref 0), some (.ref 53), some (.int (nI (i + 7)))] [] (T, rf, g) kc2 ks2) : Wp (d + 68) mc ms sc kL_law (Qi F) 791 [some (.ref 1000200), some (.ref 0), some (.ref 53), some (.int (nI i))] [] (T, rf, g) kc ks := by
  have hkb : Nat.ble kc mc = true := ble (by omega)
  have hsb : Nat.ble ks ms = true := ble (by omega)
  have hkb4 : Nat.ble (kc + 4) mc = true := ble (by omega)
  have hsb4 : Nat.ble (ks + 328) ms = true := ble (by omega)
  have hX0 := hR.1.1.1
  have hT0 : T[0]? = some (11, 0) := hX0.1 _ _ rfl
  have hT5 : T[53]? = some (12, 0) := hR.2.1.1.1 _ _ rfl
  have hO := hR.1.1
  have hG := hR.2.2.2.1
  have htt := hR.2.2.2.2.1
  have h6 := hR.2.2.2.2.2.1
  have hSz := hR.2.2.2.2.2.2.1
  have hTB := hR.2.2.2.2.2.2.2.1
  have hTl := hR.2.2.2.2.2.2.2.2.1
  have hK := hR.2.2.2.2.2.2.2.2.2
  refine xL_law_791 ?_
  refine xL_law_792 ?_
  refine xL_law_793 ?_
  refine xL_law_794 ?_
  refine xL_law_795 ?_
  refine xL_law_796 (j := i + 1) (nI_add i 1) (by omega) (by omega) rfl ?_
  refine xL_law_797 ?_
  refine xL_law_798 ?_
  refine xL_law_799 ?_
  refine xL_law_800 ?_
  refine xL_law_801 (j := i + 2) (nI_add i 2) (by omega) (by omega) rfl ?_
  refine xL_law_802 hT0 rfl hkb hsb (s_X11_when hO (fun rf2 g2 hz hv => ?_))
  have hR2 := RL.tx hR hz hv
  have hC := RL.mc hR2 (fun _ _ => rfl) (fun _ _ _ => rfl)
  refine xL_law_805 ?_
  refine xL_law_806 ?_
  refine xL_law_807 ?_
  refine xL_law_808 ?_
  refine xL_law_809 ?_
  refine xL_law_810 (j := i + 1) (nI_add i 1) (by omega) (by omega) rfl ?_
  refine xL_law_811 ?_
  refine xL_law_812 ?_
  refine xL_law_813 ?_
  refine xL_law_814 ?_
  refine xL_law_815 (j := i + 2) (nI_add i 2) (by omega) (by omega) rfl ?_
  refine xL_law_816 hT5 rfl hkb hsb (s_X12_when hC (fun g3 he hm => ?_))
  have hR3 := RL.tm hR2 he hm
  refine xL_law_819_t rfl ?_
  refine xL_law_1637 rfl (nI_add i 7) ?_
  refine xL_law_1640 ?_
  exact hN hR3 (by omega) (by omega)
theorem st_twice {d : Nat} {sc : Nat × (Nat → Int32)} {F : Int32 → AH → Prop} {mc ms kc ks i : Nat} {T : List (Nat × Nat)} {rf : Nat → Nat → Option Nat} {g : Nat → Nat → Int32} {o : OV} {nc t tc : Nat} {css : Nat → Nat → List Int32} {sh : Nat → Nat → Int32} {tp : List Int32} {ko : OV} {kn kt : Nat} (hL9 : sc.1 ≤ 3584) (hi7 : i + 7 ≤ sc.1) (hkc : kc + 4 ≤ mc) (hks : ks + 328 ≤ ms) (hR : RLg T rf g o nc t tc css sh tp ko kn kt) (hN : ∀ {T : List (Nat × Nat)} {rf : Nat → Nat → Option Nat} {g : Nat → Nat → Int32} {o : OV} {nc t tc : Nat} {css : Nat → Nat → List Int32} {sh : Nat → Nat → Int32} {tp : List Int32} {ko : OV} {kn kt : Nat} {kc2 ks2 : Nat}, RLg T rf g o nc t tc css sh tp ko kn kt → kc2 ≤ kc + 4 → ks2 ≤ ks + 328 → Wp (d + 68) mc ms sc kL_law (Qi F) 18 [some (.ref 1000200), some (.ref 0), some (.ref 53), some (.int (nI (i + 7)))] [] (T, rf, g) kc2 ks2) : Wp (d + 68) mc ms sc kL_law (Qi F) 824 [some (.ref 1000200), some (.ref 0), some (.ref 53), some (.int (nI i))] [] (T, rf, g) kc ks := by
  have hkb : Nat.ble kc mc = true := ble (by omega)
  have hsb : Nat.ble ks ms = true := ble (by omega)
  have hkb4 : Nat.ble (kc + 4) mc = true := ble (by omega)
  have hsb4 : Nat.ble (ks + 328) ms = true := ble (by omega)
  have hX0 := hR.1.1.1
  have hT0 : T[0]? = some (11, 0) := hX0.1 _ _ rfl
  have hT5 : T[53]? = some (12, 0) := hR.2.1.1.1 _ _ rfl
  have hO := hR.1.1
  have hG := hR.2.2.2.1
  have htt := hR.2.2.2.2.1
  have h6 := hR.2.2.2.2.2.1
  have hSz := hR.2.2.2.2.2.2.1
  have hTB := hR.2.2.2.2.2.2.2.1
  have hTl := hR.2.2.2.2.2.2.2.2.1
  have hK := hR.2.2.2.2.2.2.2.2.2
  refine xL_law_824 ?_
  refine xL_law_825 ?_
  refine xL_law_826 ?_
  refine xL_law_827 ?_
  refine xL_law_828 ?_
  refine xL_law_829 (j := i + 1) (nI_add i 1) (by omega) (by omega) rfl ?_
  refine xL_law_830 hT0 rfl hkb hsb (s_X11_twice hO (fun rf2 g2 hz hv => ?_))
  have hR2 := RL.tx hR hz hv
  have hC := RL.mc hR2 (fun _ _ => rfl) (fun _ _ _ => rfl)
  refine xL_law_833 ?_
  refine xL_law_834 ?_
  refine xL_law_835 ?_
  refine xL_law_836 ?_
  refine xL_law_837 ?_
  refine xL_law_838 (j := i + 1) (nI_add i 1) (by omega) (by omega) rfl ?_
  refine xL_law_839 hT5 rfl hkb hsb (s_X12_twice hC (fun g3 he hm => ?_))
  have hR3 := RL.tm hR2 he hm
  refine xL_law_842_t rfl ?_
  refine xL_law_1637 rfl (nI_add i 7) ?_
  refine xL_law_1640 ?_
  exact hN hR3 (by omega) (by omega)
theorem st_until {d : Nat} {sc : Nat × (Nat → Int32)} {F : Int32 → AH → Prop} {mc ms kc ks i : Nat} {T : List (Nat × Nat)} {rf : Nat → Nat → Option Nat} {g : Nat → Nat → Int32} {o : OV} {nc t tc : Nat} {css : Nat → Nat → List Int32} {sh : Nat → Nat → Int32} {tp : List Int32} {ko : OV} {kn kt : Nat} (hL9 : sc.1 ≤ 3584) (hi7 : i + 7 ≤ sc.1) (hkc : kc + 4 ≤ mc) (hks : ks + 328 ≤ ms) (hR : RLg T rf g o nc t tc css sh tp ko kn kt) (hN : ∀ {T : List (Nat × Nat)} {rf : Nat → Nat → Option Nat} {g : Nat → Nat → Int32} {o : OV} {nc t tc : Nat} {css : Nat → Nat → List Int32} {sh : Nat → Nat → Int32} {tp : List Int32} {ko : OV} {kn kt : Nat} {kc2 ks2 : Nat}, RLg T rf g o nc t tc css sh tp ko kn kt → kc2 ≤ kc + 4 → ks2 ≤ ks + 328 → Wp (d + 68) mc ms sc kL_law (Qi F) 18 [some (.ref 1000200), some (.ref 0), some (.ref 53), some (.int (nI (i + 7)))] [] (T, rf, g) kc2 ks2) : Wp (d + 68) mc ms sc kL_law (Qi F) 847 [some (.ref 1000200), some (.ref 0), some (.ref 53), some (.int (nI i))] [] (T, rf, g) kc ks := by
  have hkb : Nat.ble kc mc = true := ble (by omega)
  have hsb : Nat.ble ks ms = true := ble (by omega)
  have hkb4 : Nat.ble (kc + 4) mc = true := ble (by omega)
  have hsb4 : Nat.ble (ks + 328) ms = true := ble (by omega)
  have hX0 := hR.1.1.1
  have hT0 : T[0]? = some (11, 0) := hX0.1 _ _ rfl
  have hT5 : T[53]? = some (12, 0) := hR.2.1.1.1 _ _ rfl
  have hO := hR.1.1
  have hG := hR.2.2.2.1
  have htt := hR.2.2.2.2.1
  have h6 := hR.2.2.2.2.2.1
  have hSz := hR.2.2.2.2.2.2.1
  have hTB := hR.2.2.2.2.2.2.2.1
  have hTl := hR.2.2.2.2.2.2.2.2.1
  have hK := hR.2.2.2.2.2.2.2.2.2
  refine xL_law_847 ?_
  refine xL_law_848 ?_
  refine xL_law_849 ?_
  refine xL_law_850 ?_
  refine xL_law_851 ?_
  refine xL_law_852 (j := i + 1) (nI_add i 1) (by omega) (by omega) rfl ?_
  refine xL_law_853 hT0 rfl hkb hsb (s_X11_until hO (fun rf2 g2 hz hv => ?_))
  have hR2 := RL.tx hR hz hv
  have hC := RL.mc hR2 (fun _ _ => rfl) (fun _ _ _ => rfl)
  refine xL_law_856 ?_
  refine xL_law_857 ?_
  refine xL_law_858 ?_
  refine xL_law_859 ?_
  refine xL_law_860 ?_
  refine xL_law_861 (j := i + 1) (nI_add i 1) (by omega) (by omega) rfl ?_
  refine xL_law_862 hT5 rfl hkb hsb (s_X12_until hC (fun g3 he hm => ?_))
  have hR3 := RL.tm hR2 he hm
  refine xL_law_865_t rfl ?_
  refine xL_law_1637 rfl (nI_add i 7) ?_
  refine xL_law_1640 ?_
  exact hN hR3 (by omega) (by omega)
theorem st_out {d : Nat} {sc : Nat × (Nat → Int32)} {F : Int32 → AH → Prop} {mc ms kc ks i : Nat} {T : List (Nat × Nat)} {rf : Nat → Nat → Option Nat} {g : Nat → Nat → Int32} {o : OV} {nc t tc : Nat} {css : Nat → Nat → List Int32} {sh : Nat → Nat → Int32} {tp : List Int32} {ko : OV} {kn kt : Nat} (hL9 : sc.1 ≤ 3584) (hi7 : i + 7 ≤ sc.1) (hkc : kc + 4 ≤ mc) (hks : ks + 328 ≤ ms) (hR : RLg T rf g o nc t tc css sh tp ko kn kt) (hN : ∀ {T : List (Nat × Nat)} {rf : Nat → Nat → Option Nat} {g : Nat → Nat → Int32} {o : OV} {nc t tc : Nat} {css : Nat → Nat → List Int32} {sh : Nat → Nat → Int32} {tp : List Int32} {ko : OV} {kn kt : Nat} {kc2 ks2 : Nat}, RLg T rf g o nc t tc css sh tp ko kn kt → kc2 ≤ kc + 4 → ks2 ≤ ks + 328 → Wp (d + 68) mc ms sc kL_law (Qi F) 18 [some (.ref 1000200), some (.ref 0), some (.ref 53), some (.int (nI (i + 7)))] [] (T, rf, g) kc2 ks2) : Wp (d + 68) mc ms sc kL_law (Qi F) 870 [some (.ref 1000200), some (.ref 0), some (.ref 53), some (.int (nI i))] [] (T, rf, g) kc ks := by
  have hkb : Nat.ble kc mc = true := ble (by omega)
  have hsb : Nat.ble ks ms = true := ble (by omega)
  have hkb4 : Nat.ble (kc + 4) mc = true := ble (by omega)
  have hsb4 : Nat.ble (ks + 328) ms = true := ble (by omega)
  have hX0 := hR.1.1.1
  have hT0 : T[0]? = some (11, 0) := hX0.1 _ _ rfl
  have hT5 : T[53]? = some (12, 0) := hR.2.1.1.1 _ _ rfl
  have hO := hR.1.1
  have hG := hR.2.2.2.1
  have htt := hR.2.2.2.2.1
  have h6 := hR.2.2.2.2.2.1
  have hSz := hR.2.2.2.2.2.2.1
  have hTB := hR.2.2.2.2.2.2.2.1
  have hTl := hR.2.2.2.2.2.2.2.2.1
  have hK := hR.2.2.2.2.2.2.2.2.2
  refine xL_law_870 ?_
  refine xL_law_871 ?_
  refine xL_law_872 ?_
  refine xL_law_873 ?_
  refine xL_law_874 ?_
  refine xL_law_875 (j := i + 1) (nI_add i 1) (by omega) (by omega) rfl ?_
  refine xL_law_876 ?_
  refine xL_law_877 ?_
  refine xL_law_878 ?_
  refine xL_law_879 ?_
  refine xL_law_880 (j := i + 2) (nI_add i 2) (by omega) (by omega) rfl ?_
  refine xL_law_881 hT0 rfl hkb hsb (s_X11_out hO (fun rf2 g2 hz hv => ?_))
  have hR2 := RL.tx hR hz hv
  have hC := RL.mc hR2 (fun _ _ => rfl) (fun _ _ _ => rfl)
  refine xL_law_884 ?_
  refine xL_law_885 ?_
  refine xL_law_886 ?_
  refine xL_law_887 ?_
  refine xL_law_888 ?_
  refine xL_law_889 (j := i + 1) (nI_add i 1) (by omega) (by omega) rfl ?_
  refine xL_law_890 ?_
  refine xL_law_891 ?_
  refine xL_law_892 ?_
  refine xL_law_893 ?_
  refine xL_law_894 (j := i + 2) (nI_add i 2) (by omega) (by omega) rfl ?_
  refine xL_law_895 hT5 rfl hkb hsb (s_X12_out hC (fun g3 he hm => ?_))
  have hR3 := RL.tm hR2 he hm
  refine xL_law_898_t rfl ?_
  refine xL_law_1637 rfl (nI_add i 7) ?_
  refine xL_law_1640 ?_
  exact hN hR3 (by omega) (by omega)
theorem st_singly {d : Nat} {sc : Nat × (Nat → Int32)} {F : Int32 → AH → Prop} {mc ms kc ks i : Nat} {T : List (Nat × Nat)} {rf : Nat → Nat → Option Nat} {g : Nat → Nat → Int32} {o : OV} {nc t tc : Nat} {css : Nat → Nat → List Int32} {sh : Nat → Nat → Int32} {tp : List Int32} {ko : OV} {kn kt : Nat} (hL9 : sc.1 ≤ 3584) (hi7 : i + 7 ≤ sc.1) (hkc : kc + 4 ≤ mc) (hks : ks + 328 ≤ ms) (hR : RLg T rf g o nc t tc css sh tp ko kn kt) (hN : ∀ {T : List (Nat × Nat)} {rf : Nat → Nat → Option Nat} {g : Nat → Nat → Int32} {o : OV} {nc t tc : Nat} {css : Nat → Nat → List Int32} {sh : Nat → Nat → Int32} {tp : List Int32} {ko : OV} {kn kt : Nat} {kc2 ks2 : Nat}, RLg T rf g o nc t tc css sh tp ko kn kt → kc2 ≤ kc + 4 → ks2 ≤ ks + 328 → Wp (d + 68) mc ms sc kL_law (Qi F) 18 [some (.ref 1000200), some (.ref 0), some (.ref 53), some (.int (nI (i + 7)))] [] (T, rf, g) kc2 ks2) : Wp (d + 68) mc ms sc kL_law (Qi F) 903 [some (.ref 1000200), some (.ref 0), some (.ref 53), some (.int (nI i))] [] (T, rf, g) kc ks := by
  have hkb : Nat.ble kc mc = true := ble (by omega)
  have hsb : Nat.ble ks ms = true := ble (by omega)
  have hkb4 : Nat.ble (kc + 4) mc = true := ble (by omega)
  have hsb4 : Nat.ble (ks + 328) ms = true := ble (by omega)
  have hX0 := hR.1.1.1
  have hT0 : T[0]? = some (11, 0) := hX0.1 _ _ rfl
  have hT5 : T[53]? = some (12, 0) := hR.2.1.1.1 _ _ rfl
  have hO := hR.1.1
  have hG := hR.2.2.2.1
  have htt := hR.2.2.2.2.1
  have h6 := hR.2.2.2.2.2.1
  have hSz := hR.2.2.2.2.2.2.1
  have hTB := hR.2.2.2.2.2.2.2.1
  have hTl := hR.2.2.2.2.2.2.2.2.1
  have hK := hR.2.2.2.2.2.2.2.2.2
  refine xL_law_903 ?_
  refine xL_law_904 hT0 rfl hkb hsb (s_X11_singly hO (fun rf2 g2 hz hv => ?_))
  have hR2 := RL.tx hR hz hv
  have hC := RL.mc hR2 (fun _ _ => rfl) (fun _ _ _ => rfl)
  refine xL_law_907 ?_
  refine xL_law_908 hT5 rfl hkb hsb (s_X12_singly hC (fun g3 he hm => ?_))
  have hR3 := RL.tm hR2 he hm
  refine xL_law_911_t rfl ?_
  refine xL_law_1637 rfl (nI_add i 7) ?_
  refine xL_law_1640 ?_
  exact hN hR3 (by omega) (by omega)
theorem st_soon {d : Nat} {sc : Nat × (Nat → Int32)} {F : Int32 → AH → Prop} {mc ms kc ks i : Nat} {T : List (Nat × Nat)} {rf : Nat → Nat → Option Nat} {g : Nat → Nat → Int32} {o : OV} {nc t tc : Nat} {css : Nat → Nat → List Int32} {sh : Nat → Nat → Int32} {tp : List Int32} {ko : OV} {kn kt : Nat} (hL9 : sc.1 ≤ 3584) (hi7 : i + 7 ≤ sc.1) (hkc : kc + 4 ≤ mc) (hks : ks + 328 ≤ ms) (hR : RLg T rf g o nc t tc css sh tp ko kn kt) (hN : ∀ {T : List (Nat × Nat)} {rf : Nat → Nat → Option Nat} {g : Nat → Nat → Int32} {o : OV} {nc t tc : Nat} {css : Nat → Nat → List Int32} {sh : Nat → Nat → Int32} {tp : List Int32} {ko : OV} {kn kt : Nat} {kc2 ks2 : Nat}, RLg T rf g o nc t tc css sh tp ko kn kt → kc2 ≤ kc + 4 → ks2 ≤ ks + 328 → Wp (d + 68) mc ms sc kL_law (Qi F) 18 [some (.ref 1000200), some (.ref 0), some (.ref 53), some (.int (nI (i + 7)))] [] (T, rf, g) kc2 ks2) : Wp (d + 68) mc ms sc kL_law (Qi F) 916 [some (.ref 1000200), some (.ref 0), some (.ref 53), some (.int (nI i))] [] (T, rf, g) kc ks := by
  have hkb : Nat.ble kc mc = true := ble (by omega)
  have hsb : Nat.ble ks ms = true := ble (by omega)
  have hkb4 : Nat.ble (kc + 4) mc = true := ble (by omega)
  have hsb4 : Nat.ble (ks + 328) ms = true := ble (by omega)
  have hX0 := hR.1.1.1
  have hT0 : T[0]? = some (11, 0) := hX0.1 _ _ rfl
  have hT5 : T[53]? = some (12, 0) := hR.2.1.1.1 _ _ rfl
  have hO := hR.1.1
  have hG := hR.2.2.2.1
  have htt := hR.2.2.2.2.1
  have h6 := hR.2.2.2.2.2.1
  have hSz := hR.2.2.2.2.2.2.1
  have hTB := hR.2.2.2.2.2.2.2.1
  have hTl := hR.2.2.2.2.2.2.2.2.1
  have hK := hR.2.2.2.2.2.2.2.2.2
  refine xL_law_916 ?_
  refine xL_law_917 ?_
  refine xL_law_918 ?_
  refine xL_law_919 ?_
  refine xL_law_920 ?_
  refine xL_law_921 (j := i + 1) (nI_add i 1) (by omega) (by omega) rfl ?_
  refine xL_law_922 ?_
  refine xL_law_923 ?_
  refine xL_law_924 ?_
  refine xL_law_925 ?_
  refine xL_law_926 (j := i + 2) (nI_add i 2) (by omega) (by omega) rfl ?_
  refine xL_law_927 hT0 rfl hkb hsb (s_X11_soon hO (fun rf2 g2 hz hv => ?_))
  have hR2 := RL.tx hR hz hv
  have hC := RL.mc hR2 (fun _ _ => rfl) (fun _ _ _ => rfl)
  refine xL_law_930 ?_
  refine xL_law_931 ?_
  refine xL_law_932 ?_
  refine xL_law_933 ?_
  refine xL_law_934 ?_
  refine xL_law_935 (j := i + 1) (nI_add i 1) (by omega) (by omega) rfl ?_
  refine xL_law_936 ?_
  refine xL_law_937 ?_
  refine xL_law_938 ?_
  refine xL_law_939 ?_
  refine xL_law_940 (j := i + 2) (nI_add i 2) (by omega) (by omega) rfl ?_
  refine xL_law_941 hT5 rfl hkb hsb (s_X12_soon hC (fun g3 he hm => ?_))
  have hR3 := RL.tm hR2 he hm
  refine xL_law_944_t rfl ?_
  refine xL_law_1637 rfl (nI_add i 7) ?_
  refine xL_law_1640 ?_
  exact hN hR3 (by omega) (by omega)
theorem st_few {d : Nat} {sc : Nat × (Nat → Int32)} {F : Int32 → AH → Prop} {mc ms kc ks i : Nat} {T : List (Nat × Nat)} {rf : Nat → Nat → Option Nat} {g : Nat → Nat → Int32} {o : OV} {nc t tc : Nat} {css : Nat → Nat → List Int32} {sh : Nat → Nat → Int32} {tp : List Int32} {ko : OV} {kn kt : Nat} (hL9 : sc.1 ≤ 3584) (hi7 : i + 7 ≤ sc.1) (hkc : kc + 4 ≤ mc) (hks : ks + 328 ≤ ms) (hR : RLg T rf g o nc t tc css sh tp ko kn kt) (hN : ∀ {T : List (Nat × Nat)} {rf : Nat → Nat → Option Nat} {g : Nat → Nat → Int32} {o : OV} {nc t tc : Nat} {css : Nat → Nat → List Int32} {sh : Nat → Nat → Int32} {tp : List Int32} {ko : OV} {kn kt : Nat} {kc2 ks2 : Nat}, RLg T rf g o nc t tc css sh tp ko kn kt → kc2 ≤ kc + 4 → ks2 ≤ ks + 328 → Wp (d + 68) mc ms sc kL_law (Qi F) 18 [some (.ref 1000200), some (.ref 0), some (.ref 53), some (.int (nI (i + 7)))] [] (T, rf, g) kc2 ks2) : Wp (d + 68) mc ms sc kL_law (Qi F) 949 [some (.ref 1000200), some (.ref 0), some (.ref 53), some (.int (nI i))] [] (T, rf, g) kc ks := by
  have hkb : Nat.ble kc mc = true := ble (by omega)
  have hsb : Nat.ble ks ms = true := ble (by omega)
  have hkb4 : Nat.ble (kc + 4) mc = true := ble (by omega)
  have hsb4 : Nat.ble (ks + 328) ms = true := ble (by omega)
  have hX0 := hR.1.1.1
  have hT0 : T[0]? = some (11, 0) := hX0.1 _ _ rfl
  have hT5 : T[53]? = some (12, 0) := hR.2.1.1.1 _ _ rfl
  have hO := hR.1.1
  have hG := hR.2.2.2.1
  have htt := hR.2.2.2.2.1
  have h6 := hR.2.2.2.2.2.1
  have hSz := hR.2.2.2.2.2.2.1
  have hTB := hR.2.2.2.2.2.2.2.1
  have hTl := hR.2.2.2.2.2.2.2.2.1
  have hK := hR.2.2.2.2.2.2.2.2.2
  refine xL_law_949 ?_
  refine xL_law_950 ?_
  refine xL_law_951 ?_
  refine xL_law_952 ?_
  refine xL_law_953 ?_
  refine xL_law_954 (j := i + 1) (nI_add i 1) (by omega) (by omega) rfl ?_
  refine xL_law_955 hT0 rfl hkb hsb (s_X11_few hO (fun rf2 g2 hz hv => ?_))
  have hR2 := RL.tx hR hz hv
  have hC := RL.mc hR2 (fun _ _ => rfl) (fun _ _ _ => rfl)
  refine xL_law_958 ?_
  refine xL_law_959 ?_
  refine xL_law_960 ?_
  refine xL_law_961 ?_
  refine xL_law_962 ?_
  refine xL_law_963 (j := i + 1) (nI_add i 1) (by omega) (by omega) rfl ?_
  refine xL_law_964 hT5 rfl hkb hsb (s_X12_few hC (fun g3 he hm => ?_))
  have hR3 := RL.tm hR2 he hm
  refine xL_law_967_t rfl ?_
  refine xL_law_1637 rfl (nI_add i 7) ?_
  refine xL_law_1640 ?_
  exact hN hR3 (by omega) (by omega)
theorem st_fan {d : Nat} {sc : Nat × (Nat → Int32)} {F : Int32 → AH → Prop} {mc ms kc ks i : Nat} {T : List (Nat × Nat)} {rf : Nat → Nat → Option Nat} {g : Nat → Nat → Int32} {o : OV} {nc t tc : Nat} {css : Nat → Nat → List Int32} {sh : Nat → Nat → Int32} {tp : List Int32} {ko : OV} {kn kt : Nat} (hL9 : sc.1 ≤ 3584) (hi7 : i + 7 ≤ sc.1) (hkc : kc + 4 ≤ mc) (hks : ks + 328 ≤ ms) (hR : RLg T rf g o nc t tc css sh tp ko kn kt) (hN : ∀ {T : List (Nat × Nat)} {rf : Nat → Nat → Option Nat} {g : Nat → Nat → Int32} {o : OV} {nc t tc : Nat} {css : Nat → Nat → List Int32} {sh : Nat → Nat → Int32} {tp : List Int32} {ko : OV} {kn kt : Nat} {kc2 ks2 : Nat}, RLg T rf g o nc t tc css sh tp ko kn kt → kc2 ≤ kc + 4 → ks2 ≤ ks + 328 → Wp (d + 68) mc ms sc kL_law (Qi F) 18 [some (.ref 1000200), some (.ref 0), some (.ref 53), some (.int (nI (i + 7)))] [] (T, rf, g) kc2 ks2) : Wp (d + 68) mc ms sc kL_law (Qi F) 972 [some (.ref 1000200), some (.ref 0), some (.ref 53), some (.int (nI i))] [] (T, rf, g) kc ks := by
  have hkb : Nat.ble kc mc = true := ble (by omega)
  have hsb : Nat.ble ks ms = true := ble (by omega)
  have hkb4 : Nat.ble (kc + 4) mc = true := ble (by omega)
  have hsb4 : Nat.ble (ks + 328) ms = true := ble (by omega)
  have hX0 := hR.1.1.1
  have hT0 : T[0]? = some (11, 0) := hX0.1 _ _ rfl
  have hT5 : T[53]? = some (12, 0) := hR.2.1.1.1 _ _ rfl
  have hO := hR.1.1
  have hG := hR.2.2.2.1
  have htt := hR.2.2.2.2.1
  have h6 := hR.2.2.2.2.2.1
  have hSz := hR.2.2.2.2.2.2.1
  have hTB := hR.2.2.2.2.2.2.2.1
  have hTl := hR.2.2.2.2.2.2.2.2.1
  have hK := hR.2.2.2.2.2.2.2.2.2
  refine xL_law_972 ?_
  refine xL_law_973 hT0 rfl hkb hsb (s_X11_fan hO (fun rf2 g2 hz hv => ?_))
  have hR2 := RL.tx hR hz hv
  have hC := RL.mc hR2 (fun _ _ => rfl) (fun _ _ _ => rfl)
  refine xL_law_976 ?_
  refine xL_law_977 hT5 rfl hkb hsb (s_X12_fan hC (fun g3 he hm => ?_))
  have hR3 := RL.tm hR2 he hm
  refine xL_law_980_t rfl ?_
  refine xL_law_1637 rfl (nI_add i 7) ?_
  refine xL_law_1640 ?_
  exact hN hR3 (by omega) (by omega)
theorem st_cost {d : Nat} {sc : Nat × (Nat → Int32)} {F : Int32 → AH → Prop} {mc ms kc ks i : Nat} {T : List (Nat × Nat)} {rf : Nat → Nat → Option Nat} {g : Nat → Nat → Int32} {o : OV} {nc t tc : Nat} {css : Nat → Nat → List Int32} {sh : Nat → Nat → Int32} {tp : List Int32} {ko : OV} {kn kt : Nat} (hL9 : sc.1 ≤ 3584) (hi7 : i + 7 ≤ sc.1) (hkc : kc + 4 ≤ mc) (hks : ks + 328 ≤ ms) (hR : RLg T rf g o nc t tc css sh tp ko kn kt) (hN : ∀ {T : List (Nat × Nat)} {rf : Nat → Nat → Option Nat} {g : Nat → Nat → Int32} {o : OV} {nc t tc : Nat} {css : Nat → Nat → List Int32} {sh : Nat → Nat → Int32} {tp : List Int32} {ko : OV} {kn kt : Nat} {kc2 ks2 : Nat}, RLg T rf g o nc t tc css sh tp ko kn kt → kc2 ≤ kc + 4 → ks2 ≤ ks + 328 → Wp (d + 68) mc ms sc kL_law (Qi F) 18 [some (.ref 1000200), some (.ref 0), some (.ref 53), some (.int (nI (i + 7)))] [] (T, rf, g) kc2 ks2) : Wp (d + 68) mc ms sc kL_law (Qi F) 985 [some (.ref 1000200), some (.ref 0), some (.ref 53), some (.int (nI i))] [] (T, rf, g) kc ks := by
  have hkb : Nat.ble kc mc = true := ble (by omega)
  have hsb : Nat.ble ks ms = true := ble (by omega)
  have hkb4 : Nat.ble (kc + 4) mc = true := ble (by omega)
  have hsb4 : Nat.ble (ks + 328) ms = true := ble (by omega)
  have hX0 := hR.1.1.1
  have hT0 : T[0]? = some (11, 0) := hX0.1 _ _ rfl
  have hT5 : T[53]? = some (12, 0) := hR.2.1.1.1 _ _ rfl
  have hO := hR.1.1
  have hG := hR.2.2.2.1
  have htt := hR.2.2.2.2.1
  have h6 := hR.2.2.2.2.2.1
  have hSz := hR.2.2.2.2.2.2.1
  have hTB := hR.2.2.2.2.2.2.2.1
  have hTl := hR.2.2.2.2.2.2.2.2.1
  have hK := hR.2.2.2.2.2.2.2.2.2
  refine xL_law_985 ?_
  refine xL_law_986 hT0 rfl hkb hsb (s_X11_cost hO (fun rf2 g2 hz hv => ?_))
  have hR2 := RL.tx hR hz hv
  have hC := RL.mc hR2 (fun _ _ => rfl) (fun _ _ _ => rfl)
  refine xL_law_989 ?_
  refine xL_law_990 hT5 rfl hkb hsb (s_X12_cost hC (fun g3 he hm => ?_))
  have hR3 := RL.tm hR2 he hm
  refine xL_law_993_t rfl ?_
  refine xL_law_1637 rfl (nI_add i 7) ?_
  refine xL_law_1640 ?_
  exact hN hR3 (by omega) (by omega)
theorem st_lay {d : Nat} {sc : Nat × (Nat → Int32)} {F : Int32 → AH → Prop} {mc ms kc ks i : Nat} {T : List (Nat × Nat)} {rf : Nat → Nat → Option Nat} {g : Nat → Nat → Int32} {o : OV} {nc t tc : Nat} {css : Nat → Nat → List Int32} {sh : Nat → Nat → Int32} {tp : List Int32} {ko : OV} {kn kt : Nat} (hL9 : sc.1 ≤ 3584) (hi7 : i + 7 ≤ sc.1) (hkc : kc + 4 ≤ mc) (hks : ks + 328 ≤ ms) (hR : RLg T rf g o nc t tc css sh tp ko kn kt) (hN : ∀ {T : List (Nat × Nat)} {rf : Nat → Nat → Option Nat} {g : Nat → Nat → Int32} {o : OV} {nc t tc : Nat} {css : Nat → Nat → List Int32} {sh : Nat → Nat → Int32} {tp : List Int32} {ko : OV} {kn kt : Nat} {kc2 ks2 : Nat}, RLg T rf g o nc t tc css sh tp ko kn kt → kc2 ≤ kc + 4 → ks2 ≤ ks + 328 → Wp (d + 68) mc ms sc kL_law (Qi F) 18 [some (.ref 1000200), some (.ref 0), some (.ref 53), some (.int (nI (i + 7)))] [] (T, rf, g) kc2 ks2) : Wp (d + 68) mc ms sc kL_law (Qi F) 998 [some (.ref 1000200), some (.ref 0), some (.ref 53), some (.int (nI i))] [] (T, rf, g) kc ks := by
  have hkb : Nat.ble kc mc = true := ble (by omega)
  have hsb : Nat.ble ks ms = true := ble (by omega)
  have hkb4 : Nat.ble (kc + 4) mc = true := ble (by omega)
  have hsb4 : Nat.ble (ks + 328) ms = true := ble (by omega)
  have hX0 := hR.1.1.1
  have hT0 : T[0]? = some (11, 0) := hX0.1 _ _ rfl
  have hT5 : T[53]? = some (12, 0) := hR.2.1.1.1 _ _ rfl
  have hO := hR.1.1
  have hG := hR.2.2.2.1
  have htt := hR.2.2.2.2.1
  have h6 := hR.2.2.2.2.2.1
  have hSz := hR.2.2.2.2.2.2.1
  have hTB := hR.2.2.2.2.2.2.2.1
  have hTl := hR.2.2.2.2.2.2.2.2.1
  have hK := hR.2.2.2.2.2.2.2.2.2
  refine xL_law_998 ?_
  refine xL_law_999 ?_
  refine xL_law_1000 ?_
  refine xL_law_1001 ?_
  refine xL_law_1002 ?_
  refine xL_law_1003 (j := i + 1) (nI_add i 1) (by omega) (by omega) rfl ?_
  refine xL_law_1004 ?_
  refine xL_law_1005 ?_
  refine xL_law_1006 ?_
  refine xL_law_1007 ?_
  refine xL_law_1008 (j := i + 2) (nI_add i 2) (by omega) (by omega) rfl ?_
  refine xL_law_1009 hT0 rfl hkb hsb (s_X11_lay hO (fun rf2 g2 hz hv => ?_))
  have hR2 := RL.tx hR hz hv
  have hC := RL.mc hR2 (fun _ _ => rfl) (fun _ _ _ => rfl)
  refine xL_law_1012 ?_
  refine xL_law_1013 ?_
  refine xL_law_1014 ?_
  refine xL_law_1015 ?_
  refine xL_law_1016 ?_
  refine xL_law_1017 (j := i + 1) (nI_add i 1) (by omega) (by omega) rfl ?_
  refine xL_law_1018 ?_
  refine xL_law_1019 ?_
  refine xL_law_1020 ?_
  refine xL_law_1021 ?_
  refine xL_law_1022 (j := i + 2) (nI_add i 2) (by omega) (by omega) rfl ?_
  refine xL_law_1023 hT5 rfl hkb hsb (s_X12_lay hC hR2.2.2.2.1.2.2.2 (fun g3 he hm => ?_))
  have hR3 := RL.tm hR2 he hm
  refine xL_law_1026_t rfl ?_
  refine xL_law_1637 rfl (nI_add i 7) ?_
  refine xL_law_1640 ?_
  exact hN hR3 (by omega) (by omega)
theorem st_swap {d : Nat} {sc : Nat × (Nat → Int32)} {F : Int32 → AH → Prop} {mc ms kc ks i : Nat} {T : List (Nat × Nat)} {rf : Nat → Nat → Option Nat} {g : Nat → Nat → Int32} {o : OV} {nc t tc : Nat} {css : Nat → Nat → List Int32} {sh : Nat → Nat → Int32} {tp : List Int32} {ko : OV} {kn kt : Nat} (hL9 : sc.1 ≤ 3584) (hi7 : i + 7 ≤ sc.1) (hkc : kc + 4 ≤ mc) (hks : ks + 328 ≤ ms) (hR : RLg T rf g o nc t tc css sh tp ko kn kt) (hN : ∀ {T : List (Nat × Nat)} {rf : Nat → Nat → Option Nat} {g : Nat → Nat → Int32} {o : OV} {nc t tc : Nat} {css : Nat → Nat → List Int32} {sh : Nat → Nat → Int32} {tp : List Int32} {ko : OV} {kn kt : Nat} {kc2 ks2 : Nat}, RLg T rf g o nc t tc css sh tp ko kn kt → kc2 ≤ kc + 4 → ks2 ≤ ks + 328 → Wp (d + 68) mc ms sc kL_law (Qi F) 18 [some (.ref 1000200), some (.ref 0), some (.ref 53), some (.int (nI (i + 7)))] [] (T, rf, g) kc2 ks2) : Wp (d + 68) mc ms sc kL_law (Qi F) 1031 [some (.ref 1000200), some (.ref 0), some (.ref 53), some (.int (nI i))] [] (T, rf, g) kc ks := by
  have hkb : Nat.ble kc mc = true := ble (by omega)
  have hsb : Nat.ble ks ms = true := ble (by omega)
  have hkb4 : Nat.ble (kc + 4) mc = true := ble (by omega)
  have hsb4 : Nat.ble (ks + 328) ms = true := ble (by omega)
  have hX0 := hR.1.1.1
  have hT0 : T[0]? = some (11, 0) := hX0.1 _ _ rfl
  have hT5 : T[53]? = some (12, 0) := hR.2.1.1.1 _ _ rfl
  have hO := hR.1.1
  have hG := hR.2.2.2.1
  have htt := hR.2.2.2.2.1
  have h6 := hR.2.2.2.2.2.1
  have hSz := hR.2.2.2.2.2.2.1
  have hTB := hR.2.2.2.2.2.2.2.1
  have hTl := hR.2.2.2.2.2.2.2.2.1
  have hK := hR.2.2.2.2.2.2.2.2.2
  refine xL_law_1031 ?_
  refine xL_law_1032 ?_
  refine xL_law_1033 ?_
  refine xL_law_1034 ?_
  refine xL_law_1035 ?_
  refine xL_law_1036 (j := i + 1) (nI_add i 1) (by omega) (by omega) rfl ?_
  refine xL_law_1037 hT0 rfl hkb hsb (s_X11_swap hO (fun rf2 g2 hz hv => ?_))
  have hR2 := RL.tx hR hz hv
  have hC := RL.mc hR2 (fun _ _ => rfl) (fun _ _ _ => rfl)
  refine xL_law_1040 ?_
  refine xL_law_1041 ?_
  refine xL_law_1042 ?_
  refine xL_law_1043 ?_
  refine xL_law_1044 ?_
  refine xL_law_1045 (j := i + 1) (nI_add i 1) (by omega) (by omega) rfl ?_
  refine xL_law_1046 hT5 rfl hkb hsb (s_X12_swap hC (fun g3 he hm => ?_))
  have hR3 := RL.tm hR2 he hm
  refine xL_law_1049_t rfl ?_
  refine xL_law_1637 rfl (nI_add i 7) ?_
  refine xL_law_1640 ?_
  exact hN hR3 (by omega) (by omega)
theorem st_which {d : Nat} {sc : Nat × (Nat → Int32)} {F : Int32 → AH → Prop} {mc ms kc ks i : Nat} {T : List (Nat × Nat)} {rf : Nat → Nat → Option Nat} {g : Nat → Nat → Int32} {o : OV} {nc t tc : Nat} {css : Nat → Nat → List Int32} {sh : Nat → Nat → Int32} {tp : List Int32} {ko : OV} {kn kt : Nat} (hL9 : sc.1 ≤ 3584) (hi7 : i + 7 ≤ sc.1) (hkc : kc + 4 ≤ mc) (hks : ks + 328 ≤ ms) (hR : RLg T rf g o nc t tc css sh tp ko kn kt) (hN : ∀ {T : List (Nat × Nat)} {rf : Nat → Nat → Option Nat} {g : Nat → Nat → Int32} {o : OV} {nc t tc : Nat} {css : Nat → Nat → List Int32} {sh : Nat → Nat → Int32} {tp : List Int32} {ko : OV} {kn kt : Nat} {kc2 ks2 : Nat}, RLg T rf g o nc t tc css sh tp ko kn kt → kc2 ≤ kc + 4 → ks2 ≤ ks + 328 → Wp (d + 68) mc ms sc kL_law (Qi F) 18 [some (.ref 1000200), some (.ref 0), some (.ref 53), some (.int (nI (i + 7)))] [] (T, rf, g) kc2 ks2) : Wp (d + 68) mc ms sc kL_law (Qi F) 1054 [some (.ref 1000200), some (.ref 0), some (.ref 53), some (.int (nI i))] [] (T, rf, g) kc ks := by
  have hkb : Nat.ble kc mc = true := ble (by omega)
  have hsb : Nat.ble ks ms = true := ble (by omega)
  have hkb4 : Nat.ble (kc + 4) mc = true := ble (by omega)
  have hsb4 : Nat.ble (ks + 328) ms = true := ble (by omega)
  have hX0 := hR.1.1.1
  have hT0 : T[0]? = some (11, 0) := hX0.1 _ _ rfl
  have hT5 : T[53]? = some (12, 0) := hR.2.1.1.1 _ _ rfl
  have hO := hR.1.1
  have hG := hR.2.2.2.1
  have htt := hR.2.2.2.2.1
  have h6 := hR.2.2.2.2.2.1
  have hSz := hR.2.2.2.2.2.2.1
  have hTB := hR.2.2.2.2.2.2.2.1
  have hTl := hR.2.2.2.2.2.2.2.2.1
  have hK := hR.2.2.2.2.2.2.2.2.2
  refine xL_law_1054 ?_
  refine xL_law_1055 ?_
  refine xL_law_1056 ?_
  refine xL_law_1057 ?_
  refine xL_law_1058 ?_
  refine xL_law_1059 (j := i + 1) (nI_add i 1) (by omega) (by omega) rfl ?_
  refine xL_law_1060 hT0 rfl hkb hsb (s_X11_which hO (fun rf2 g2 hz hv => ?_))
  have hR2 := RL.tx hR hz hv
  have hC := RL.mc hR2 (fun _ _ => rfl) (fun _ _ _ => rfl)
  refine xL_law_1063 ?_
  refine xL_law_1064 ?_
  refine xL_law_1065 ?_
  refine xL_law_1066 ?_
  refine xL_law_1067 ?_
  refine xL_law_1068 (j := i + 1) (nI_add i 1) (by omega) (by omega) rfl ?_
  refine xL_law_1069 hT5 rfl hkb hsb (s_X12_which hC (fun g3 he hm => ?_))
  have hR3 := RL.tm hR2 he hm
  refine xL_law_1072_t rfl ?_
  refine xL_law_1637 rfl (nI_add i 7) ?_
  refine xL_law_1640 ?_
  exact hN hR3 (by omega) (by omega)
theorem st_judge {d : Nat} {sc : Nat × (Nat → Int32)} {F : Int32 → AH → Prop} {mc ms kc ks i : Nat} {T : List (Nat × Nat)} {rf : Nat → Nat → Option Nat} {g : Nat → Nat → Int32} {o : OV} {nc t tc : Nat} {css : Nat → Nat → List Int32} {sh : Nat → Nat → Int32} {tp : List Int32} {ko : OV} {kn kt : Nat} (hL9 : sc.1 ≤ 3584) (hi7 : i + 7 ≤ sc.1) (hkc : kc + 4 ≤ mc) (hks : ks + 328 ≤ ms) (hR : RLg T rf g o nc t tc css sh tp ko kn kt) (hN : ∀ {T : List (Nat × Nat)} {rf : Nat → Nat → Option Nat} {g : Nat → Nat → Int32} {o : OV} {nc t tc : Nat} {css : Nat → Nat → List Int32} {sh : Nat → Nat → Int32} {tp : List Int32} {ko : OV} {kn kt : Nat} {kc2 ks2 : Nat}, RLg T rf g o nc t tc css sh tp ko kn kt → kc2 ≤ kc + 4 → ks2 ≤ ks + 328 → Wp (d + 68) mc ms sc kL_law (Qi F) 18 [some (.ref 1000200), some (.ref 0), some (.ref 53), some (.int (nI (i + 7)))] [] (T, rf, g) kc2 ks2) : Wp (d + 68) mc ms sc kL_law (Qi F) 1077 [some (.ref 1000200), some (.ref 0), some (.ref 53), some (.int (nI i))] [] (T, rf, g) kc ks := by
  have hkb : Nat.ble kc mc = true := ble (by omega)
  have hsb : Nat.ble ks ms = true := ble (by omega)
  have hkb4 : Nat.ble (kc + 4) mc = true := ble (by omega)
  have hsb4 : Nat.ble (ks + 328) ms = true := ble (by omega)
  have hX0 := hR.1.1.1
  have hT0 : T[0]? = some (11, 0) := hX0.1 _ _ rfl
  have hT5 : T[53]? = some (12, 0) := hR.2.1.1.1 _ _ rfl
  have hO := hR.1.1
  have hG := hR.2.2.2.1
  have htt := hR.2.2.2.2.1
  have h6 := hR.2.2.2.2.2.1
  have hSz := hR.2.2.2.2.2.2.1
  have hTB := hR.2.2.2.2.2.2.2.1
  have hTl := hR.2.2.2.2.2.2.2.2.1
  have hK := hR.2.2.2.2.2.2.2.2.2
  refine xL_law_1077 ?_
  refine xL_law_1078 ?_
  refine xL_law_1079 ?_
  refine xL_law_1080 ?_
  refine xL_law_1081 ?_
  refine xL_law_1082 (j := i + 1) (nI_add i 1) (by omega) (by omega) rfl ?_
  refine xL_law_1083 hT0 rfl hkb hsb (s_X11_judge hO hR.1.2.1 (fun rf2 g2 hz hv => ?_))
  have hR2 := RL.tx hR hz hv
  have hC := RL.mc hR2 (fun _ _ => rfl) (fun _ _ _ => rfl)
  refine xL_law_1086 ?_
  refine xL_law_1087 ?_
  refine xL_law_1088 ?_
  refine xL_law_1089 ?_
  refine xL_law_1090 ?_
  refine xL_law_1091 (j := i + 1) (nI_add i 1) (by omega) (by omega) rfl ?_
  refine xL_law_1092 hT5 rfl hkb hsb (s_X12_judge hC hR2.2.1.2.2.1 (fun g3 he hm => ?_))
  have hR3 := RL.tm hR2 he hm
  refine xL_law_1095_t rfl ?_
  refine xL_law_1637 rfl (nI_add i 7) ?_
  refine xL_law_1640 ?_
  exact hN hR3 (by omega) (by omega)
theorem st_how {d : Nat} {sc : Nat × (Nat → Int32)} {F : Int32 → AH → Prop} {mc ms kc ks i : Nat} {T : List (Nat × Nat)} {rf : Nat → Nat → Option Nat} {g : Nat → Nat → Int32} {o : OV} {nc t tc : Nat} {css : Nat → Nat → List Int32} {sh : Nat → Nat → Int32} {tp : List Int32} {ko : OV} {kn kt : Nat} (hL9 : sc.1 ≤ 3584) (hi7 : i + 7 ≤ sc.1) (hkc : kc + 4 ≤ mc) (hks : ks + 328 ≤ ms) (hR : RLg T rf g o nc t tc css sh tp ko kn kt) (hN : ∀ {T : List (Nat × Nat)} {rf : Nat → Nat → Option Nat} {g : Nat → Nat → Int32} {o : OV} {nc t tc : Nat} {css : Nat → Nat → List Int32} {sh : Nat → Nat → Int32} {tp : List Int32} {ko : OV} {kn kt : Nat} {kc2 ks2 : Nat}, RLg T rf g o nc t tc css sh tp ko kn kt → kc2 ≤ kc + 4 → ks2 ≤ ks + 328 → Wp (d + 68) mc ms sc kL_law (Qi F) 18 [some (.ref 1000200), some (.ref 0), some (.ref 53), some (.int (nI (i + 7)))] [] (T, rf, g) kc2 ks2) : Wp (d + 68) mc ms sc kL_law (Qi F) 1100 [some (.ref 1000200), some (.ref 0), some (.ref 53), some (.int (nI i))] [] (T, rf, g) kc ks := by
  have hkb : Nat.ble kc mc = true := ble (by omega)
  have hsb : Nat.ble ks ms = true := ble (by omega)
  have hkb4 : Nat.ble (kc + 4) mc = true := ble (by omega)
  have hsb4 : Nat.ble (ks + 328) ms = true := ble (by omega)
  have hX0 := hR.1.1.1
  have hT0 : T[0]? = some (11, 0) := hX0.1 _ _ rfl
  have hT5 : T[53]? = some (12, 0) := hR.2.1.1.1 _ _ rfl
  have hO := hR.1.1
  have hG := hR.2.2.2.1
  have htt := hR.2.2.2.2.1
  have h6 := hR.2.2.2.2.2.1
  have hSz := hR.2.2.2.2.2.2.1
  have hTB := hR.2.2.2.2.2.2.2.1
  have hTl := hR.2.2.2.2.2.2.2.2.1
  have hK := hR.2.2.2.2.2.2.2.2.2
  refine xL_law_1100 ?_
  refine xL_law_1101 ?_
  refine xL_law_1102 ?_
  refine xL_law_1103 ?_
  refine xL_law_1104 ?_
  refine xL_law_1105 (j := i + 1) (nI_add i 1) (by omega) (by omega) rfl ?_
  refine xL_law_1106 hT0 rfl hkb hsb (s_X11_how hO hR.1.2.1 (fun rf2 g2 hz hv => ?_))
  have hR2 := RL.tx hR hz hv
  have hC := RL.mc hR2 (fun _ _ => rfl) (fun _ _ _ => rfl)
  refine xL_law_1109 ?_
  refine xL_law_1110 ?_
  refine xL_law_1111 ?_
  refine xL_law_1112 ?_
  refine xL_law_1113 ?_
  refine xL_law_1114 (j := i + 1) (nI_add i 1) (by omega) (by omega) rfl ?_
  refine xL_law_1115 hT5 rfl hkb hsb (s_X12_how hC hR2.2.1.2.2.1 (fun g3 he hm => ?_))
  have hR3 := RL.tm hR2 he hm
  refine xL_law_1118_t rfl ?_
  refine xL_law_1637 rfl (nI_add i 7) ?_
  refine xL_law_1640 ?_
  exact hN hR3 (by omega) (by omega)
theorem st_kinds {d : Nat} {sc : Nat × (Nat → Int32)} {F : Int32 → AH → Prop} {mc ms kc ks i : Nat} {T : List (Nat × Nat)} {rf : Nat → Nat → Option Nat} {g : Nat → Nat → Int32} {o : OV} {nc t tc : Nat} {css : Nat → Nat → List Int32} {sh : Nat → Nat → Int32} {tp : List Int32} {ko : OV} {kn kt : Nat} (hL9 : sc.1 ≤ 3584) (hi7 : i + 7 ≤ sc.1) (hkc : kc + 4 ≤ mc) (hks : ks + 328 ≤ ms) (hR : RLg T rf g o nc t tc css sh tp ko kn kt) (hN : ∀ {T : List (Nat × Nat)} {rf : Nat → Nat → Option Nat} {g : Nat → Nat → Int32} {o : OV} {nc t tc : Nat} {css : Nat → Nat → List Int32} {sh : Nat → Nat → Int32} {tp : List Int32} {ko : OV} {kn kt : Nat} {kc2 ks2 : Nat}, RLg T rf g o nc t tc css sh tp ko kn kt → kc2 ≤ kc + 4 → ks2 ≤ ks + 328 → Wp (d + 68) mc ms sc kL_law (Qi F) 18 [some (.ref 1000200), some (.ref 0), some (.ref 53), some (.int (nI (i + 7)))] [] (T, rf, g) kc2 ks2) : Wp (d + 68) mc ms sc kL_law (Qi F) 1123 [some (.ref 1000200), some (.ref 0), some (.ref 53), some (.int (nI i))] [] (T, rf, g) kc ks := by
  have hkb : Nat.ble kc mc = true := ble (by omega)
  have hsb : Nat.ble ks ms = true := ble (by omega)
  have hkb4 : Nat.ble (kc + 4) mc = true := ble (by omega)
  have hsb4 : Nat.ble (ks + 328) ms = true := ble (by omega)
  have hX0 := hR.1.1.1
  have hT0 : T[0]? = some (11, 0) := hX0.1 _ _ rfl
  have hT5 : T[53]? = some (12, 0) := hR.2.1.1.1 _ _ rfl
  have hO := hR.1.1
  have hG := hR.2.2.2.1
  have htt := hR.2.2.2.2.1
  have h6 := hR.2.2.2.2.2.1
  have hSz := hR.2.2.2.2.2.2.1
  have hTB := hR.2.2.2.2.2.2.2.1
  have hTl := hR.2.2.2.2.2.2.2.2.1
  have hK := hR.2.2.2.2.2.2.2.2.2
  refine xL_law_1123 ?_
  refine xL_law_1124 ?_
  refine xL_law_1125 ?_
  refine xL_law_1126 ?_
  refine xL_law_1127 ?_
  refine xL_law_1128 (j := i + 1) (nI_add i 1) (by omega) (by omega) rfl ?_
  refine xL_law_1129 ?_
  refine xL_law_1130 ?_
  refine xL_law_1131 ?_
  refine xL_law_1132 ?_
  refine xL_law_1133 (j := i + 2) (nI_add i 2) (by omega) (by omega) rfl ?_
  refine xL_law_1134 ?_
  refine xL_law_1135 ?_
  refine xL_law_1136 ?_
  refine xL_law_1137 ?_
  refine xL_law_1138 (j := i + 3) (nI_add i 3) (by omega) (by omega) rfl ?_
  refine xL_law_1139 hT0 rfl hkb hsb (s_X11_kinds hO hR.1.2.1 (fun rf2 g2 hz hv => ?_))
  have hR2 := RL.tx hR hz hv
  have hC := RL.mc hR2 (fun _ _ => rfl) (fun _ _ _ => rfl)
  refine xL_law_1142 ?_
  refine xL_law_1143 ?_
  refine xL_law_1144 ?_
  refine xL_law_1145 ?_
  refine xL_law_1146 ?_
  refine xL_law_1147 (j := i + 1) (nI_add i 1) (by omega) (by omega) rfl ?_
  refine xL_law_1148 ?_
  refine xL_law_1149 ?_
  refine xL_law_1150 ?_
  refine xL_law_1151 ?_
  refine xL_law_1152 (j := i + 2) (nI_add i 2) (by omega) (by omega) rfl ?_
  refine xL_law_1153 ?_
  refine xL_law_1154 ?_
  refine xL_law_1155 ?_
  refine xL_law_1156 ?_
  refine xL_law_1157 (j := i + 3) (nI_add i 3) (by omega) (by omega) rfl ?_
  refine xL_law_1158 hT5 rfl hkb hsb (s_X12_kinds hC hR2.2.1.2.2.1 (fun g3 he hm => ?_))
  have hR3 := RL.tm hR2 he hm
  refine xL_law_1161_t rfl ?_
  refine xL_law_1637 rfl (nI_add i 7) ?_
  refine xL_law_1640 ?_
  exact hN hR3 (by omega) (by omega)
theorem st_heats {d : Nat} {sc : Nat × (Nat → Int32)} {F : Int32 → AH → Prop} {mc ms kc ks i : Nat} {T : List (Nat × Nat)} {rf : Nat → Nat → Option Nat} {g : Nat → Nat → Int32} {o : OV} {nc t tc : Nat} {css : Nat → Nat → List Int32} {sh : Nat → Nat → Int32} {tp : List Int32} {ko : OV} {kn kt : Nat} (hL9 : sc.1 ≤ 3584) (hi7 : i + 7 ≤ sc.1) (hkc : kc + 4 ≤ mc) (hks : ks + 328 ≤ ms) (hR : RLg T rf g o nc t tc css sh tp ko kn kt) (hN : ∀ {T : List (Nat × Nat)} {rf : Nat → Nat → Option Nat} {g : Nat → Nat → Int32} {o : OV} {nc t tc : Nat} {css : Nat → Nat → List Int32} {sh : Nat → Nat → Int32} {tp : List Int32} {ko : OV} {kn kt : Nat} {kc2 ks2 : Nat}, RLg T rf g o nc t tc css sh tp ko kn kt → kc2 ≤ kc + 4 → ks2 ≤ ks + 328 → Wp (d + 68) mc ms sc kL_law (Qi F) 18 [some (.ref 1000200), some (.ref 0), some (.ref 53), some (.int (nI (i + 7)))] [] (T, rf, g) kc2 ks2) : Wp (d + 68) mc ms sc kL_law (Qi F) 1166 [some (.ref 1000200), some (.ref 0), some (.ref 53), some (.int (nI i))] [] (T, rf, g) kc ks := by
  have hkb : Nat.ble kc mc = true := ble (by omega)
  have hsb : Nat.ble ks ms = true := ble (by omega)
  have hkb4 : Nat.ble (kc + 4) mc = true := ble (by omega)
  have hsb4 : Nat.ble (ks + 328) ms = true := ble (by omega)
  have hX0 := hR.1.1.1
  have hT0 : T[0]? = some (11, 0) := hX0.1 _ _ rfl
  have hT5 : T[53]? = some (12, 0) := hR.2.1.1.1 _ _ rfl
  have hO := hR.1.1
  have hG := hR.2.2.2.1
  have htt := hR.2.2.2.2.1
  have h6 := hR.2.2.2.2.2.1
  have hSz := hR.2.2.2.2.2.2.1
  have hTB := hR.2.2.2.2.2.2.2.1
  have hTl := hR.2.2.2.2.2.2.2.2.1
  have hK := hR.2.2.2.2.2.2.2.2.2
  refine xL_law_1166 ?_
  refine xL_law_1167 ?_
  refine xL_law_1168 ?_
  refine xL_law_1169 ?_
  refine xL_law_1170 ?_
  refine xL_law_1171 (j := i + 1) (nI_add i 1) (by omega) (by omega) rfl ?_
  refine xL_law_1172 ?_
  refine xL_law_1173 ?_
  refine xL_law_1174 ?_
  refine xL_law_1175 ?_
  refine xL_law_1176 (j := i + 2) (nI_add i 2) (by omega) (by omega) rfl ?_
  refine xL_law_1177 ?_
  refine xL_law_1178 ?_
  refine xL_law_1179 ?_
  refine xL_law_1180 ?_
  refine xL_law_1181 (j := i + 3) (nI_add i 3) (by omega) (by omega) rfl ?_
  refine xL_law_1182 hT0 rfl hkb hsb (s_X11_heats hO hR.1.2.1 (fun rf2 g2 hz hv => ?_))
  have hR2 := RL.tx hR hz hv
  have hC := RL.mc hR2 (fun _ _ => rfl) (fun _ _ _ => rfl)
  refine xL_law_1185 ?_
  refine xL_law_1186 ?_
  refine xL_law_1187 ?_
  refine xL_law_1188 ?_
  refine xL_law_1189 ?_
  refine xL_law_1190 (j := i + 1) (nI_add i 1) (by omega) (by omega) rfl ?_
  refine xL_law_1191 ?_
  refine xL_law_1192 ?_
  refine xL_law_1193 ?_
  refine xL_law_1194 ?_
  refine xL_law_1195 (j := i + 2) (nI_add i 2) (by omega) (by omega) rfl ?_
  refine xL_law_1196 ?_
  refine xL_law_1197 ?_
  refine xL_law_1198 ?_
  refine xL_law_1199 ?_
  refine xL_law_1200 (j := i + 3) (nI_add i 3) (by omega) (by omega) rfl ?_
  refine xL_law_1201 hT5 rfl hkb hsb (s_X12_heats hC hR2.2.1.2.2.1 (fun g3 he hm => ?_))
  have hR3 := RL.tm hR2 he hm
  refine xL_law_1204_t rfl ?_
  refine xL_law_1637 rfl (nI_add i 7) ?_
  refine xL_law_1640 ?_
  exact hN hR3 (by omega) (by omega)
theorem st_turned {d : Nat} {sc : Nat × (Nat → Int32)} {F : Int32 → AH → Prop} {mc ms kc ks i : Nat} {T : List (Nat × Nat)} {rf : Nat → Nat → Option Nat} {g : Nat → Nat → Int32} {o : OV} {nc t tc : Nat} {css : Nat → Nat → List Int32} {sh : Nat → Nat → Int32} {tp : List Int32} {ko : OV} {kn kt : Nat} (hL9 : sc.1 ≤ 3584) (hi7 : i + 7 ≤ sc.1) (hkc : kc + 4 ≤ mc) (hks : ks + 328 ≤ ms) (hR : RLg T rf g o nc t tc css sh tp ko kn kt) (hN : ∀ {T : List (Nat × Nat)} {rf : Nat → Nat → Option Nat} {g : Nat → Nat → Int32} {o : OV} {nc t tc : Nat} {css : Nat → Nat → List Int32} {sh : Nat → Nat → Int32} {tp : List Int32} {ko : OV} {kn kt : Nat} {kc2 ks2 : Nat}, RLg T rf g o nc t tc css sh tp ko kn kt → kc2 ≤ kc + 4 → ks2 ≤ ks + 328 → Wp (d + 68) mc ms sc kL_law (Qi F) 18 [some (.ref 1000200), some (.ref 0), some (.ref 53), some (.int (nI (i + 7)))] [] (T, rf, g) kc2 ks2) : Wp (d + 68) mc ms sc kL_law (Qi F) 1209 [some (.ref 1000200), some (.ref 0), some (.ref 53), some (.int (nI i))] [] (T, rf, g) kc ks := by
  have hkb : Nat.ble kc mc = true := ble (by omega)
  have hsb : Nat.ble ks ms = true := ble (by omega)
  have hkb4 : Nat.ble (kc + 4) mc = true := ble (by omega)
  have hsb4 : Nat.ble (ks + 328) ms = true := ble (by omega)
  have hX0 := hR.1.1.1
  have hT0 : T[0]? = some (11, 0) := hX0.1 _ _ rfl
  have hT5 : T[53]? = some (12, 0) := hR.2.1.1.1 _ _ rfl
  have hO := hR.1.1
  have hG := hR.2.2.2.1
  have htt := hR.2.2.2.2.1
  have h6 := hR.2.2.2.2.2.1
  have hSz := hR.2.2.2.2.2.2.1
  have hTB := hR.2.2.2.2.2.2.2.1
  have hTl := hR.2.2.2.2.2.2.2.2.1
  have hK := hR.2.2.2.2.2.2.2.2.2
  refine xL_law_1209 ?_
  refine xL_law_1210 ?_
  refine xL_law_1211 ?_
  refine xL_law_1212 ?_
  refine xL_law_1213 ?_
  refine xL_law_1214 (j := i + 1) (nI_add i 1) (by omega) (by omega) rfl ?_
  refine xL_law_1215 hT0 rfl hkb hsb (s_X11_turned hO hR.1.2.1 (fun rf2 g2 hz hv => ?_))
  have hR2 := RL.tx hR hz hv
  have hC := RL.mc hR2 (fun _ _ => rfl) (fun _ _ _ => rfl)
  refine xL_law_1218 ?_
  refine xL_law_1219 ?_
  refine xL_law_1220 ?_
  refine xL_law_1221 ?_
  refine xL_law_1222 ?_
  refine xL_law_1223 (j := i + 1) (nI_add i 1) (by omega) (by omega) rfl ?_
  refine xL_law_1224 hT5 rfl hkb hsb (s_X12_turned hC hR2.2.1.2.2.1 (fun g3 he hm => ?_))
  have hR3 := RL.tm hR2 he hm
  refine xL_law_1227 ?_
  refine xL_law_1228_t (lg_self _) ?_
  refine xL_law_1637 rfl (nI_add i 7) ?_
  refine xL_law_1640 ?_
  exact hN hR3 (by omega) (by omega)
theorem st_laws {d : Nat} {sc : Nat × (Nat → Int32)} {F : Int32 → AH → Prop} {mc ms kc ks i : Nat} {T : List (Nat × Nat)} {rf : Nat → Nat → Option Nat} {g : Nat → Nat → Int32} {o : OV} {nc t tc : Nat} {css : Nat → Nat → List Int32} {sh : Nat → Nat → Int32} {tp : List Int32} {ko : OV} {kn kt : Nat} (hL9 : sc.1 ≤ 3584) (hi7 : i + 7 ≤ sc.1) (hkc : kc + 4 ≤ mc) (hks : ks + 328 ≤ ms) (hR : RLg T rf g o nc t tc css sh tp ko kn kt) (hN : ∀ {T : List (Nat × Nat)} {rf : Nat → Nat → Option Nat} {g : Nat → Nat → Int32} {o : OV} {nc t tc : Nat} {css : Nat → Nat → List Int32} {sh : Nat → Nat → Int32} {tp : List Int32} {ko : OV} {kn kt : Nat} {kc2 ks2 : Nat}, RLg T rf g o nc t tc css sh tp ko kn kt → kc2 ≤ kc + 4 → ks2 ≤ ks + 328 → Wp (d + 68) mc ms sc kL_law (Qi F) 18 [some (.ref 1000200), some (.ref 0), some (.ref 53), some (.int (nI (i + 7)))] [] (T, rf, g) kc2 ks2) : Wp (d + 68) mc ms sc kL_law (Qi F) 1233 [some (.ref 1000200), some (.ref 0), some (.ref 53), some (.int (nI i))] [] (T, rf, g) kc ks := by
  have hkb : Nat.ble kc mc = true := ble (by omega)
  have hsb : Nat.ble ks ms = true := ble (by omega)
  have hkb4 : Nat.ble (kc + 4) mc = true := ble (by omega)
  have hsb4 : Nat.ble (ks + 328) ms = true := ble (by omega)
  have hX0 := hR.1.1.1
  have hT0 : T[0]? = some (11, 0) := hX0.1 _ _ rfl
  have hT5 : T[53]? = some (12, 0) := hR.2.1.1.1 _ _ rfl
  have hO := hR.1.1
  have hG := hR.2.2.2.1
  have htt := hR.2.2.2.2.1
  have h6 := hR.2.2.2.2.2.1
  have hSz := hR.2.2.2.2.2.2.1
  have hTB := hR.2.2.2.2.2.2.2.1
  have hTl := hR.2.2.2.2.2.2.2.2.1
  have hK := hR.2.2.2.2.2.2.2.2.2
  refine xL_law_1233 ?_
  refine xL_law_1234 ?_
  refine xL_law_1235 ?_
  refine xL_law_1236 ?_
  refine xL_law_1237 ?_
  refine xL_law_1238 (j := i + 1) (nI_add i 1) (by omega) (by omega) rfl ?_
  refine xL_law_1239 hT0 rfl hkb hsb (s_X11_laws hO hR.1.2.1 hR.1.2.2.2.1 (fun rf2 g2 hz hv => ?_))
  have hR2 := RL.tx hR hz hv
  have hC := RL.mc hR2 (fun _ _ => rfl) (fun _ _ _ => rfl)
  refine xL_law_1242 ?_
  refine xL_law_1243 ?_
  refine xL_law_1244 ?_
  refine xL_law_1245 ?_
  refine xL_law_1246 ?_
  refine xL_law_1247 (j := i + 1) (nI_add i 1) (by omega) (by omega) rfl ?_
  refine xL_law_1248 hT5 rfl hkb hsb (s_X12_laws hC hR2.2.1.2.2.1 hR2.2.1.2.2.2.2.1 hR2.2.2.2.2.2.1 hR2.2.1.2.2.2.2.2.1 (fun g3 he hm => ?_))
  have hR3 := RL.tm hR2 he hm
  refine xL_law_1251_t rfl ?_
  refine xL_law_1637 rfl (nI_add i 7) ?_
  refine xL_law_1640 ?_
  exact hN hR3 (by omega) (by omega)
theorem st_film {d : Nat} {sc : Nat × (Nat → Int32)} {F : Int32 → AH → Prop} {mc ms kc ks i : Nat} {T : List (Nat × Nat)} {rf : Nat → Nat → Option Nat} {g : Nat → Nat → Int32} {o : OV} {nc t tc : Nat} {css : Nat → Nat → List Int32} {sh : Nat → Nat → Int32} {tp : List Int32} {ko : OV} {kn kt : Nat} (hL9 : sc.1 ≤ 3584) (hi7 : i + 7 ≤ sc.1) (hkc : kc + 4 ≤ mc) (hks : ks + 328 ≤ ms) (hR : RLg T rf g o nc t tc css sh tp ko kn kt) (hN : ∀ {T : List (Nat × Nat)} {rf : Nat → Nat → Option Nat} {g : Nat → Nat → Int32} {o : OV} {nc t tc : Nat} {css : Nat → Nat → List Int32} {sh : Nat → Nat → Int32} {tp : List Int32} {ko : OV} {kn kt : Nat} {kc2 ks2 : Nat}, RLg T rf g o nc t tc css sh tp ko kn kt → kc2 ≤ kc + 4 → ks2 ≤ ks + 328 → Wp (d + 68) mc ms sc kL_law (Qi F) 18 [some (.ref 1000200), some (.ref 0), some (.ref 53), some (.int (nI (i + 7)))] [] (T, rf, g) kc2 ks2) : Wp (d + 68) mc ms sc kL_law (Qi F) 1256 [some (.ref 1000200), some (.ref 0), some (.ref 53), some (.int (nI i))] [] (T, rf, g) kc ks := by
  have hkb : Nat.ble kc mc = true := ble (by omega)
  have hsb : Nat.ble ks ms = true := ble (by omega)
  have hkb4 : Nat.ble (kc + 4) mc = true := ble (by omega)
  have hsb4 : Nat.ble (ks + 328) ms = true := ble (by omega)
  have hX0 := hR.1.1.1
  have hT0 : T[0]? = some (11, 0) := hX0.1 _ _ rfl
  have hT5 : T[53]? = some (12, 0) := hR.2.1.1.1 _ _ rfl
  have hO := hR.1.1
  have hG := hR.2.2.2.1
  have htt := hR.2.2.2.2.1
  have h6 := hR.2.2.2.2.2.1
  have hSz := hR.2.2.2.2.2.2.1
  have hTB := hR.2.2.2.2.2.2.2.1
  have hTl := hR.2.2.2.2.2.2.2.2.1
  have hK := hR.2.2.2.2.2.2.2.2.2
  refine xL_law_1256 ?_
  refine xL_law_1257 ?_
  refine xL_law_1258 ?_
  refine xL_law_1259 ?_
  refine xL_law_1260 ?_
  refine xL_law_1261 (j := i + 1) (nI_add i 1) (by omega) (by omega) rfl ?_
  refine xL_law_1262 ?_
  refine xL_law_1263 ?_
  refine xL_law_1264 ?_
  refine xL_law_1265 ?_
  refine xL_law_1266 (j := i + 2) (nI_add i 2) (by omega) (by omega) rfl ?_
  refine xL_law_1267 hT0 rfl hkb hsb (s_X11_film hO hR.1.2.1 (fun rf2 g2 hz hx hv => ?_))
  have hC := RL.mc hR hz.2 hv.m5
  refine xL_law_1270 ?_
  refine xL_law_1271 ?_
  refine xL_law_1272 ?_
  refine xL_law_1273 ?_
  refine xL_law_1274 ?_
  refine xL_law_1275 (j := i + 1) (nI_add i 1) (by omega) (by omega) rfl ?_
  refine xL_law_1276 ?_
  refine xL_law_1277 ?_
  refine xL_law_1278 ?_
  refine xL_law_1279 ?_
  refine xL_law_1280 (j := i + 2) (nI_add i 2) (by omega) (by omega) rfl ?_
  refine xL_law_1281 hT5 rfl hkb hsb (s_X12_film hC (RL.mh hR hv.m5) (fun g3 he hy hq => ?_))
  have hR3 := RL.sq hR hz hv hx hq he hy (Sz_film hSz hG.1.2.1)
  refine xL_law_1284_t rfl ?_
  refine xL_law_1637 rfl (nI_add i 7) ?_
  refine xL_law_1640 ?_
  exact hN hR3 (by omega) (by omega)
theorem st_drawn {d : Nat} {sc : Nat × (Nat → Int32)} {F : Int32 → AH → Prop} {mc ms kc ks i : Nat} {T : List (Nat × Nat)} {rf : Nat → Nat → Option Nat} {g : Nat → Nat → Int32} {o : OV} {nc t tc : Nat} {css : Nat → Nat → List Int32} {sh : Nat → Nat → Int32} {tp : List Int32} {ko : OV} {kn kt : Nat} (hL9 : sc.1 ≤ 3584) (hi7 : i + 7 ≤ sc.1) (hkc : kc + 4 ≤ mc) (hks : ks + 328 ≤ ms) (hR : RLg T rf g o nc t tc css sh tp ko kn kt) (hN : ∀ {T : List (Nat × Nat)} {rf : Nat → Nat → Option Nat} {g : Nat → Nat → Int32} {o : OV} {nc t tc : Nat} {css : Nat → Nat → List Int32} {sh : Nat → Nat → Int32} {tp : List Int32} {ko : OV} {kn kt : Nat} {kc2 ks2 : Nat}, RLg T rf g o nc t tc css sh tp ko kn kt → kc2 ≤ kc + 4 → ks2 ≤ ks + 328 → Wp (d + 68) mc ms sc kL_law (Qi F) 18 [some (.ref 1000200), some (.ref 0), some (.ref 53), some (.int (nI (i + 7)))] [] (T, rf, g) kc2 ks2) : Wp (d + 68) mc ms sc kL_law (Qi F) 1289 [some (.ref 1000200), some (.ref 0), some (.ref 53), some (.int (nI i))] [] (T, rf, g) kc ks := by
  have hkb : Nat.ble kc mc = true := ble (by omega)
  have hsb : Nat.ble ks ms = true := ble (by omega)
  have hkb4 : Nat.ble (kc + 4) mc = true := ble (by omega)
  have hsb4 : Nat.ble (ks + 328) ms = true := ble (by omega)
  have hX0 := hR.1.1.1
  have hT0 : T[0]? = some (11, 0) := hX0.1 _ _ rfl
  have hT5 : T[53]? = some (12, 0) := hR.2.1.1.1 _ _ rfl
  have hO := hR.1.1
  have hG := hR.2.2.2.1
  have htt := hR.2.2.2.2.1
  have h6 := hR.2.2.2.2.2.1
  have hSz := hR.2.2.2.2.2.2.1
  have hTB := hR.2.2.2.2.2.2.2.1
  have hTl := hR.2.2.2.2.2.2.2.2.1
  have hK := hR.2.2.2.2.2.2.2.2.2
  refine xL_law_1289 ?_
  refine xL_law_1290 ?_
  refine xL_law_1291 ?_
  refine xL_law_1292 ?_
  refine xL_law_1293 ?_
  refine xL_law_1294 (j := i + 1) (nI_add i 1) (by omega) (by omega) rfl ?_
  refine xL_law_1295 ?_
  refine xL_law_1296 ?_
  refine xL_law_1297 ?_
  refine xL_law_1298 ?_
  refine xL_law_1299 (j := i + 2) (nI_add i 2) (by omega) (by omega) rfl ?_
  refine xL_law_1300 hT0 rfl hkb hsb (s_X11_drawn hO (fun rf2 g2 hz hv => ?_))
  have hR2 := RL.tx hR hz hv
  have hC := RL.mc hR2 (fun _ _ => rfl) (fun _ _ _ => rfl)
  refine xL_law_1303 ?_
  refine xL_law_1304 ?_
  refine xL_law_1305 ?_
  refine xL_law_1306 ?_
  refine xL_law_1307 ?_
  refine xL_law_1308 (j := i + 1) (nI_add i 1) (by omega) (by omega) rfl ?_
  refine xL_law_1309 ?_
  refine xL_law_1310 ?_
  refine xL_law_1311 ?_
  refine xL_law_1312 ?_
  refine xL_law_1313 (j := i + 2) (nI_add i 2) (by omega) (by omega) rfl ?_
  refine xL_law_1314 hT5 rfl hkb hsb (s_X12_drawn hC (fun g3 he hm => ?_))
  have hR3 := RL.tm hR2 he hm
  refine xL_law_1317_t rfl ?_
  refine xL_law_1637 rfl (nI_add i 7) ?_
  refine xL_law_1640 ?_
  exact hN hR3 (by omega) (by omega)
theorem st_odds {d : Nat} {sc : Nat × (Nat → Int32)} {F : Int32 → AH → Prop} {mc ms kc ks i : Nat} {T : List (Nat × Nat)} {rf : Nat → Nat → Option Nat} {g : Nat → Nat → Int32} {o : OV} {nc t tc : Nat} {css : Nat → Nat → List Int32} {sh : Nat → Nat → Int32} {tp : List Int32} {ko : OV} {kn kt : Nat} (hL9 : sc.1 ≤ 3584) (hi7 : i + 7 ≤ sc.1) (hkc : kc + 4 ≤ mc) (hks : ks + 328 ≤ ms) (hR : RLg T rf g o nc t tc css sh tp ko kn kt) (hN : ∀ {T : List (Nat × Nat)} {rf : Nat → Nat → Option Nat} {g : Nat → Nat → Int32} {o : OV} {nc t tc : Nat} {css : Nat → Nat → List Int32} {sh : Nat → Nat → Int32} {tp : List Int32} {ko : OV} {kn kt : Nat} {kc2 ks2 : Nat}, RLg T rf g o nc t tc css sh tp ko kn kt → kc2 ≤ kc + 4 → ks2 ≤ ks + 328 → Wp (d + 68) mc ms sc kL_law (Qi F) 18 [some (.ref 1000200), some (.ref 0), some (.ref 53), some (.int (nI (i + 7)))] [] (T, rf, g) kc2 ks2) : Wp (d + 68) mc ms sc kL_law (Qi F) 1322 [some (.ref 1000200), some (.ref 0), some (.ref 53), some (.int (nI i))] [] (T, rf, g) kc ks := by
  have hkb : Nat.ble kc mc = true := ble (by omega)
  have hsb : Nat.ble ks ms = true := ble (by omega)
  have hkb4 : Nat.ble (kc + 4) mc = true := ble (by omega)
  have hsb4 : Nat.ble (ks + 328) ms = true := ble (by omega)
  have hX0 := hR.1.1.1
  have hT0 : T[0]? = some (11, 0) := hX0.1 _ _ rfl
  have hT5 : T[53]? = some (12, 0) := hR.2.1.1.1 _ _ rfl
  have hO := hR.1.1
  have hG := hR.2.2.2.1
  have htt := hR.2.2.2.2.1
  have h6 := hR.2.2.2.2.2.1
  have hSz := hR.2.2.2.2.2.2.1
  have hTB := hR.2.2.2.2.2.2.2.1
  have hTl := hR.2.2.2.2.2.2.2.2.1
  have hK := hR.2.2.2.2.2.2.2.2.2
  refine xL_law_1322 ?_
  refine xL_law_1323 ?_
  refine xL_law_1324 ?_
  refine xL_law_1325 ?_
  refine xL_law_1326 ?_
  refine xL_law_1327 (j := i + 1) (nI_add i 1) (by omega) (by omega) rfl ?_
  refine xL_law_1328 ?_
  refine xL_law_1329 ?_
  refine xL_law_1330 ?_
  refine xL_law_1331 ?_
  refine xL_law_1332 (j := i + 2) (nI_add i 2) (by omega) (by omega) rfl ?_
  refine xL_law_1333 ?_
  refine xL_law_1334 ?_
  refine xL_law_1335 ?_
  refine xL_law_1336 ?_
  refine xL_law_1337 (j := i + 3) (nI_add i 3) (by omega) (by omega) rfl ?_
  refine xL_law_1338 ?_
  refine xL_law_1339 ?_
  refine xL_law_1340 ?_
  refine xL_law_1341 ?_
  refine xL_law_1342 (j := i + 4) (nI_add i 4) (by omega) (by omega) rfl ?_
  refine xL_law_1343 hT0 rfl hkb hsb (s_X11_odds hO (fun rf2 g2 hz hv => ?_))
  have hR2 := RL.tx hR hz hv
  have hC := RL.mc hR2 (fun _ _ => rfl) (fun _ _ _ => rfl)
  refine xL_law_1346 ?_
  refine xL_law_1347 ?_
  refine xL_law_1348 ?_
  refine xL_law_1349 ?_
  refine xL_law_1350 ?_
  refine xL_law_1351 (j := i + 1) (nI_add i 1) (by omega) (by omega) rfl ?_
  refine xL_law_1352 ?_
  refine xL_law_1353 ?_
  refine xL_law_1354 ?_
  refine xL_law_1355 ?_
  refine xL_law_1356 (j := i + 2) (nI_add i 2) (by omega) (by omega) rfl ?_
  refine xL_law_1357 ?_
  refine xL_law_1358 ?_
  refine xL_law_1359 ?_
  refine xL_law_1360 ?_
  refine xL_law_1361 (j := i + 3) (nI_add i 3) (by omega) (by omega) rfl ?_
  refine xL_law_1362 ?_
  refine xL_law_1363 ?_
  refine xL_law_1364 ?_
  refine xL_law_1365 ?_
  refine xL_law_1366 (j := i + 4) (nI_add i 4) (by omega) (by omega) rfl ?_
  refine xL_law_1367 hT5 rfl hkb hsb (s_X12_odds hC (fun g3 he hm => ?_))
  have hR3 := RL.tm hR2 he hm
  refine xL_law_1370 ?_
  refine xL_law_1371_t (lg_self _) ?_
  refine xL_law_1637 rfl (nI_add i 7) ?_
  refine xL_law_1640 ?_
  exact hN hR3 (by omega) (by omega)
theorem st_image {d : Nat} {sc : Nat × (Nat → Int32)} {F : Int32 → AH → Prop} {mc ms kc ks i : Nat} {T : List (Nat × Nat)} {rf : Nat → Nat → Option Nat} {g : Nat → Nat → Int32} {o : OV} {nc t tc : Nat} {css : Nat → Nat → List Int32} {sh : Nat → Nat → Int32} {tp : List Int32} {ko : OV} {kn kt : Nat} (hL9 : sc.1 ≤ 3584) (hi7 : i + 7 ≤ sc.1) (hkc : kc + 4 ≤ mc) (hks : ks + 328 ≤ ms) (hR : RLg T rf g o nc t tc css sh tp ko kn kt) (hN : ∀ {T : List (Nat × Nat)} {rf : Nat → Nat → Option Nat} {g : Nat → Nat → Int32} {o : OV} {nc t tc : Nat} {css : Nat → Nat → List Int32} {sh : Nat → Nat → Int32} {tp : List Int32} {ko : OV} {kn kt : Nat} {kc2 ks2 : Nat}, RLg T rf g o nc t tc css sh tp ko kn kt → kc2 ≤ kc + 4 → ks2 ≤ ks + 328 → Wp (d + 68) mc ms sc kL_law (Qi F) 18 [some (.ref 1000200), some (.ref 0), some (.ref 53), some (.int (nI (i + 7)))] [] (T, rf, g) kc2 ks2) : Wp (d + 68) mc ms sc kL_law (Qi F) 1376 [some (.ref 1000200), some (.ref 0), some (.ref 53), some (.int (nI i))] [] (T, rf, g) kc ks := by
  have hkb : Nat.ble kc mc = true := ble (by omega)
  have hsb : Nat.ble ks ms = true := ble (by omega)
  have hkb4 : Nat.ble (kc + 4) mc = true := ble (by omega)
  have hsb4 : Nat.ble (ks + 328) ms = true := ble (by omega)
  have hX0 := hR.1.1.1
  have hT0 : T[0]? = some (11, 0) := hX0.1 _ _ rfl
  have hT5 : T[53]? = some (12, 0) := hR.2.1.1.1 _ _ rfl
  have hO := hR.1.1
  have hG := hR.2.2.2.1
  have htt := hR.2.2.2.2.1
  have h6 := hR.2.2.2.2.2.1
  have hSz := hR.2.2.2.2.2.2.1
  have hTB := hR.2.2.2.2.2.2.2.1
  have hTl := hR.2.2.2.2.2.2.2.2.1
  have hK := hR.2.2.2.2.2.2.2.2.2
  refine xL_law_1376 ?_
  refine xL_law_1377 hT0 rfl hkb hsb (s_X11_image hO (fun g2 h17 h3 hf hf0 => ?_))
  have hm5 : M53 g g2 := fun a p q => hf a (by omega) (by omega)
  have hC := RL.mc hR (fun _ _ => rfl) hm5
  refine xL_law_1380 ?_
  refine xL_law_1381 hT5 rfl hkb hsb (s_X12_image hC (fun g3 he hi hk hq => ?_))
  have hR3 := RL.im hR h17 h3 hf hf0 he hi hk hq
  refine xL_law_1384_t rfl ?_
  refine xL_law_1637 rfl (nI_add i 7) ?_
  refine xL_law_1640 ?_
  exact hN hR3 (by omega) (by omega)
theorem st_back {d : Nat} {sc : Nat × (Nat → Int32)} {F : Int32 → AH → Prop} {mc ms kc ks i : Nat} {T : List (Nat × Nat)} {rf : Nat → Nat → Option Nat} {g : Nat → Nat → Int32} {o : OV} {nc t tc : Nat} {css : Nat → Nat → List Int32} {sh : Nat → Nat → Int32} {tp : List Int32} {ko : OV} {kn kt : Nat} (hL9 : sc.1 ≤ 3584) (hi7 : i + 7 ≤ sc.1) (hkc : kc + 4 ≤ mc) (hks : ks + 328 ≤ ms) (hR : RLg T rf g o nc t tc css sh tp ko kn kt) (hN : ∀ {T : List (Nat × Nat)} {rf : Nat → Nat → Option Nat} {g : Nat → Nat → Int32} {o : OV} {nc t tc : Nat} {css : Nat → Nat → List Int32} {sh : Nat → Nat → Int32} {tp : List Int32} {ko : OV} {kn kt : Nat} {kc2 ks2 : Nat}, RLg T rf g o nc t tc css sh tp ko kn kt → kc2 ≤ kc + 4 → ks2 ≤ ks + 328 → Wp (d + 68) mc ms sc kL_law (Qi F) 18 [some (.ref 1000200), some (.ref 0), some (.ref 53), some (.int (nI (i + 7)))] [] (T, rf, g) kc2 ks2) : Wp (d + 68) mc ms sc kL_law (Qi F) 1389 [some (.ref 1000200), some (.ref 0), some (.ref 53), some (.int (nI i))] [] (T, rf, g) kc ks := by
  have hkb : Nat.ble kc mc = true := ble (by omega)
  have hsb : Nat.ble ks ms = true := ble (by omega)
  have hkb4 : Nat.ble (kc + 4) mc = true := ble (by omega)
  have hsb4 : Nat.ble (ks + 328) ms = true := ble (by omega)
  have hX0 := hR.1.1.1
  have hT0 : T[0]? = some (11, 0) := hX0.1 _ _ rfl
  have hT5 : T[53]? = some (12, 0) := hR.2.1.1.1 _ _ rfl
  have hO := hR.1.1
  have hG := hR.2.2.2.1
  have htt := hR.2.2.2.2.1
  have h6 := hR.2.2.2.2.2.1
  have hSz := hR.2.2.2.2.2.2.1
  have hTB := hR.2.2.2.2.2.2.2.1
  have hTl := hR.2.2.2.2.2.2.2.2.1
  have hK := hR.2.2.2.2.2.2.2.2.2
  have hk0 : g 0 3 ≠ 0 → g 53 17 ≠ 0 := fun z y => z (hR.2.2.1.mpr y)
  have hKM : ∀ g', M53 g g' → g' 53 17 ≠ 0 → IMg g' ko kn ∧ kn ≤ 8 ∧ ko 0 5 = nI kn ∧ ∀ c, c < kn → g' 55 c = ko 2 c ∧ g' 56 c = ko 3 c ∧ g' 57 c = ko 4 c := by
    intro g' hm z
    rw [hm 53 (by omega) (by omega)] at z
    obtain ⟨k1, k2, k3, k4⟩ := hK z
    refine ⟨(hR.2.1.2.2.2.2.2.2.2 z).of (fun k _ _ => by rw [hm 53 (by omega) (by omega)]) (hm 64 (by omega) (by omega)), k1.1.2.1, k1.1.1, fun c hc => ?_⟩
    obtain ⟨a1, a2, a3⟩ := k4 c hc
    obtain ⟨b1, b2, b3, -⟩ := hR.2.1.2.1.2.2.1 c (by omega)
    rw [hm 55 (by omega) (by omega), hm 56 (by omega) (by omega), hm 57 (by omega) (by omega)]
    exact ⟨Eq.trans b1 a1, Eq.trans b2 a2, Eq.trans b3 a3⟩
  refine xL_law_1389 ?_
  refine xL_law_1390 hT0 rfl hkb hsb (s_X11_back hX0 (fun z => ⟨hR.1.2.2.2.2 z, (hK (hk0 z)).1.1.2.1, (hK (hk0 z)).1.1.1⟩) (fun h0 => ?_) (fun h1 g2 hx hu => ?_))
  · refine xL_law_1393 ?_
    refine xL_law_1394 hT5 rfl hkb hsb (s_X12_back (RL.ms hR (fun _ _ => rfl)) (hKM g (fun _ _ _ => rfl)) (fun hz => ?_) (fun hz g3 he hm => ?_))
    · have hR3 := hR
      refine xL_law_1397_t rfl ?_
      refine xL_law_1637 rfl (nI_add i 7) ?_
      refine xL_law_1640 ?_
      exact hN hR3 (by omega) (by omega)
    · exact absurd (hR.2.2.1.mp h0) hz
  · refine xL_law_1393 ?_
    refine xL_law_1394 hT5 rfl hkb hsb (s_X12_back (RL.ms hR (fun _ _ => rfl)) (hKM g2 hu.m5) (fun hz => ?_) (fun hz g3 he hm => ?_))
    · exact absurd hz (by rw [hu.m5 53 (by omega) (by omega)]; exact hk0 h1)
    · have hR3 := RL.bk hR (hk0 h1) hu hx hm he
      refine xL_law_1397_t rfl ?_
      refine xL_law_1637 rfl (nI_add i 7) ?_
      refine xL_law_1640 ?_
      exact hN hR3 (by omega) (by omega)
theorem st_sheet {d : Nat} {sc : Nat × (Nat → Int32)} {F : Int32 → AH → Prop} {mc ms kc ks i : Nat} {T : List (Nat × Nat)} {rf : Nat → Nat → Option Nat} {g : Nat → Nat → Int32} {o : OV} {nc t tc : Nat} {css : Nat → Nat → List Int32} {sh : Nat → Nat → Int32} {tp : List Int32} {ko : OV} {kn kt : Nat} (hL9 : sc.1 ≤ 3584) (hi7 : i + 7 ≤ sc.1) (hkc : kc + 4 ≤ mc) (hks : ks + 328 ≤ ms) (hR : RLg T rf g o nc t tc css sh tp ko kn kt) (hN : ∀ {T : List (Nat × Nat)} {rf : Nat → Nat → Option Nat} {g : Nat → Nat → Int32} {o : OV} {nc t tc : Nat} {css : Nat → Nat → List Int32} {sh : Nat → Nat → Int32} {tp : List Int32} {ko : OV} {kn kt : Nat} {kc2 ks2 : Nat}, RLg T rf g o nc t tc css sh tp ko kn kt → kc2 ≤ kc + 4 → ks2 ≤ ks + 328 → Wp (d + 68) mc ms sc kL_law (Qi F) 18 [some (.ref 1000200), some (.ref 0), some (.ref 53), some (.int (nI (i + 7)))] [] (T, rf, g) kc2 ks2) : Wp (d + 68) mc ms sc kL_law (Qi F) 1402 [some (.ref 1000200), some (.ref 0), some (.ref 53), some (.int (nI i))] [] (T, rf, g) kc ks := by
  have hkb : Nat.ble kc mc = true := ble (by omega)
  have hsb : Nat.ble ks ms = true := ble (by omega)
  have hkb4 : Nat.ble (kc + 4) mc = true := ble (by omega)
  have hsb4 : Nat.ble (ks + 328) ms = true := ble (by omega)
  have hX0 := hR.1.1.1
  have hT0 : T[0]? = some (11, 0) := hX0.1 _ _ rfl
  have hT5 : T[53]? = some (12, 0) := hR.2.1.1.1 _ _ rfl
  have hO := hR.1.1
  have hG := hR.2.2.2.1
  have htt := hR.2.2.2.2.1
  have h6 := hR.2.2.2.2.2.1
  have hSz := hR.2.2.2.2.2.2.1
  have hTB := hR.2.2.2.2.2.2.2.1
  have hTl := hR.2.2.2.2.2.2.2.2.1
  have hK := hR.2.2.2.2.2.2.2.2.2
  refine xL_law_1402 ?_
  refine xL_law_1403 ?_
  refine xL_law_1404 ?_
  refine xL_law_1405 ?_
  refine xL_law_1406 ?_
  refine xL_law_1407 (j := i + 1) (nI_add i 1) (by omega) (by omega) rfl ?_
  refine xL_law_1408 ?_
  refine xL_law_1409 ?_
  refine xL_law_1410 ?_
  refine xL_law_1411 ?_
  refine xL_law_1412 (j := i + 2) (nI_add i 2) (by omega) (by omega) rfl ?_
  refine xL_law_1413 ?_
  refine xL_law_1414 ?_
  refine xL_law_1415 ?_
  refine xL_law_1416 ?_
  refine xL_law_1417 (j := i + 3) (nI_add i 3) (by omega) (by omega) rfl ?_
  refine xL_law_1418 hT0 rfl hkb hsb (s_X11_sheet hX0 hR.1.2.1 (fun g2 hx hf => ?_))
  refine xL_law_1421 ?_
  refine xL_law_1422 ?_
  refine xL_law_1423 ?_
  refine xL_law_1424 ?_
  refine xL_law_1425 ?_
  refine xL_law_1426 (j := i + 1) (nI_add i 1) (by omega) (by omega) rfl ?_
  refine xL_law_1427 ?_
  refine xL_law_1428 ?_
  refine xL_law_1429 ?_
  refine xL_law_1430 ?_
  refine xL_law_1431 (j := i + 2) (nI_add i 2) (by omega) (by omega) rfl ?_
  refine xL_law_1432 ?_
  refine xL_law_1433 ?_
  refine xL_law_1434 ?_
  refine xL_law_1435 ?_
  refine xL_law_1436 (j := i + 3) (nI_add i 3) (by omega) (by omega) rfl ?_
  refine xL_law_1437 hT5 rfl hkb hsb (s_X12_sheet (RL.ms hR (fun _ _ => rfl)) (RL.mh hR hf.m5) (fun g3 hy hm => ?_))
  have hR3 := RL.sh hR hf hx hm hy (Sz_sheet hSz)
  refine xL_law_1440_t rfl ?_
  refine xL_law_1637 rfl (nI_add i 7) ?_
  refine xL_law_1640 ?_
  exact hN hR3 (by omega) (by omega)
theorem st_cell {d : Nat} {sc : Nat × (Nat → Int32)} {F : Int32 → AH → Prop} {mc ms kc ks i : Nat} {T : List (Nat × Nat)} {rf : Nat → Nat → Option Nat} {g : Nat → Nat → Int32} {o : OV} {nc t tc : Nat} {css : Nat → Nat → List Int32} {sh : Nat → Nat → Int32} {tp : List Int32} {ko : OV} {kn kt : Nat} (hL9 : sc.1 ≤ 3584) (hi7 : i + 7 ≤ sc.1) (hkc : kc + 4 ≤ mc) (hks : ks + 328 ≤ ms) (hR : RLg T rf g o nc t tc css sh tp ko kn kt) (hN : ∀ {T : List (Nat × Nat)} {rf : Nat → Nat → Option Nat} {g : Nat → Nat → Int32} {o : OV} {nc t tc : Nat} {css : Nat → Nat → List Int32} {sh : Nat → Nat → Int32} {tp : List Int32} {ko : OV} {kn kt : Nat} {kc2 ks2 : Nat}, RLg T rf g o nc t tc css sh tp ko kn kt → kc2 ≤ kc + 4 → ks2 ≤ ks + 328 → Wp (d + 68) mc ms sc kL_law (Qi F) 18 [some (.ref 1000200), some (.ref 0), some (.ref 53), some (.int (nI (i + 7)))] [] (T, rf, g) kc2 ks2) : Wp (d + 68) mc ms sc kL_law (Qi F) 1445 [some (.ref 1000200), some (.ref 0), some (.ref 53), some (.int (nI i))] [] (T, rf, g) kc ks := by
  have hkb : Nat.ble kc mc = true := ble (by omega)
  have hsb : Nat.ble ks ms = true := ble (by omega)
  have hkb4 : Nat.ble (kc + 4) mc = true := ble (by omega)
  have hsb4 : Nat.ble (ks + 328) ms = true := ble (by omega)
  have hX0 := hR.1.1.1
  have hT0 : T[0]? = some (11, 0) := hX0.1 _ _ rfl
  have hT5 : T[53]? = some (12, 0) := hR.2.1.1.1 _ _ rfl
  have hO := hR.1.1
  have hG := hR.2.2.2.1
  have htt := hR.2.2.2.2.1
  have h6 := hR.2.2.2.2.2.1
  have hSz := hR.2.2.2.2.2.2.1
  have hTB := hR.2.2.2.2.2.2.2.1
  have hTl := hR.2.2.2.2.2.2.2.2.1
  have hK := hR.2.2.2.2.2.2.2.2.2
  refine xL_law_1445 ?_
  refine xL_law_1446 ?_
  refine xL_law_1447 ?_
  refine xL_law_1448 ?_
  refine xL_law_1449 ?_
  refine xL_law_1450 (j := i + 1) (nI_add i 1) (by omega) (by omega) rfl ?_
  refine xL_law_1451 ?_
  refine xL_law_1452 ?_
  refine xL_law_1453 ?_
  refine xL_law_1454 ?_
  refine xL_law_1455 (j := i + 2) (nI_add i 2) (by omega) (by omega) rfl ?_
  refine xL_law_1456 ?_
  refine xL_law_1457 ?_
  refine xL_law_1458 ?_
  refine xL_law_1459 ?_
  refine xL_law_1460 (j := i + 3) (nI_add i 3) (by omega) (by omega) rfl ?_
  refine xL_law_1461 hT0 rfl hkb hsb (s_X11_cell hX0 hR.1.2.1 hSz (fun g2 hx hf => ?_))
  refine xL_law_1464 ?_
  refine xL_law_1465 ?_
  refine xL_law_1466 ?_
  refine xL_law_1467 ?_
  refine xL_law_1468 ?_
  refine xL_law_1469 (j := i + 1) (nI_add i 1) (by omega) (by omega) rfl ?_
  refine xL_law_1470 ?_
  refine xL_law_1471 ?_
  refine xL_law_1472 ?_
  refine xL_law_1473 ?_
  refine xL_law_1474 (j := i + 2) (nI_add i 2) (by omega) (by omega) rfl ?_
  refine xL_law_1475 ?_
  refine xL_law_1476 ?_
  refine xL_law_1477 ?_
  refine xL_law_1478 ?_
  refine xL_law_1479 (j := i + 3) (nI_add i 3) (by omega) (by omega) rfl ?_
  refine xL_law_1480 hT5 rfl hkb hsb (s_X12_cell (RL.ms hR (fun _ _ => rfl)) (RL.mh hR hf.m5) hSz (fun g3 hy hm => ?_))
  have hR3 := RL.sh hR hf hx hm hy (Sz_cell hSz)
  refine xL_law_1483_t rfl ?_
  refine xL_law_1637 rfl (nI_add i 7) ?_
  refine xL_law_1640 ?_
  exact hN hR3 (by omega) (by omega)
theorem st_copy {d : Nat} {sc : Nat × (Nat → Int32)} {F : Int32 → AH → Prop} {mc ms kc ks i : Nat} {T : List (Nat × Nat)} {rf : Nat → Nat → Option Nat} {g : Nat → Nat → Int32} {o : OV} {nc t tc : Nat} {css : Nat → Nat → List Int32} {sh : Nat → Nat → Int32} {tp : List Int32} {ko : OV} {kn kt : Nat} (hL9 : sc.1 ≤ 3584) (hi7 : i + 7 ≤ sc.1) (hkc : kc + 4 ≤ mc) (hks : ks + 328 ≤ ms) (hR : RLg T rf g o nc t tc css sh tp ko kn kt) (hN : ∀ {T : List (Nat × Nat)} {rf : Nat → Nat → Option Nat} {g : Nat → Nat → Int32} {o : OV} {nc t tc : Nat} {css : Nat → Nat → List Int32} {sh : Nat → Nat → Int32} {tp : List Int32} {ko : OV} {kn kt : Nat} {kc2 ks2 : Nat}, RLg T rf g o nc t tc css sh tp ko kn kt → kc2 ≤ kc + 4 → ks2 ≤ ks + 328 → Wp (d + 68) mc ms sc kL_law (Qi F) 18 [some (.ref 1000200), some (.ref 0), some (.ref 53), some (.int (nI (i + 7)))] [] (T, rf, g) kc2 ks2) : Wp (d + 68) mc ms sc kL_law (Qi F) 1488 [some (.ref 1000200), some (.ref 0), some (.ref 53), some (.int (nI i))] [] (T, rf, g) kc ks := by
  have hkb : Nat.ble kc mc = true := ble (by omega)
  have hsb : Nat.ble ks ms = true := ble (by omega)
  have hkb4 : Nat.ble (kc + 4) mc = true := ble (by omega)
  have hsb4 : Nat.ble (ks + 328) ms = true := ble (by omega)
  have hX0 := hR.1.1.1
  have hT0 : T[0]? = some (11, 0) := hX0.1 _ _ rfl
  have hT5 : T[53]? = some (12, 0) := hR.2.1.1.1 _ _ rfl
  have hO := hR.1.1
  have hG := hR.2.2.2.1
  have htt := hR.2.2.2.2.1
  have h6 := hR.2.2.2.2.2.1
  have hSz := hR.2.2.2.2.2.2.1
  have hTB := hR.2.2.2.2.2.2.2.1
  have hTl := hR.2.2.2.2.2.2.2.2.1
  have hK := hR.2.2.2.2.2.2.2.2.2
  refine xL_law_1488 ?_
  refine xL_law_1489 ?_
  refine xL_law_1490 ?_
  refine xL_law_1491 ?_
  refine xL_law_1492 ?_
  refine xL_law_1493 (j := i + 1) (nI_add i 1) (by omega) (by omega) rfl ?_
  refine xL_law_1494 ?_
  refine xL_law_1495 ?_
  refine xL_law_1496 ?_
  refine xL_law_1497 ?_
  refine xL_law_1498 (j := i + 2) (nI_add i 2) (by omega) (by omega) rfl ?_
  refine xL_law_1499 ?_
  refine xL_law_1500 ?_
  refine xL_law_1501 ?_
  refine xL_law_1502 ?_
  refine xL_law_1503 (j := i + 3) (nI_add i 3) (by omega) (by omega) rfl ?_
  refine xL_law_1504 ?_
  refine xL_law_1505 ?_
  refine xL_law_1506 ?_
  refine xL_law_1507 ?_
  refine xL_law_1508 (j := i + 4) (nI_add i 4) (by omega) (by omega) rfl ?_
  refine xL_law_1509 ?_
  refine xL_law_1510 ?_
  refine xL_law_1511 ?_
  refine xL_law_1512 ?_
  refine xL_law_1513 (j := i + 5) (nI_add i 5) (by omega) (by omega) rfl ?_
  refine xL_law_1514 hT0 rfl hkb hsb (s_X11_copy hX0 hR.1.2.1 hSz (fun g2 hx hf => ?_))
  refine xL_law_1517 ?_
  refine xL_law_1518 ?_
  refine xL_law_1519 ?_
  refine xL_law_1520 ?_
  refine xL_law_1521 ?_
  refine xL_law_1522 (j := i + 1) (nI_add i 1) (by omega) (by omega) rfl ?_
  refine xL_law_1523 ?_
  refine xL_law_1524 ?_
  refine xL_law_1525 ?_
  refine xL_law_1526 ?_
  refine xL_law_1527 (j := i + 2) (nI_add i 2) (by omega) (by omega) rfl ?_
  refine xL_law_1528 ?_
  refine xL_law_1529 ?_
  refine xL_law_1530 ?_
  refine xL_law_1531 ?_
  refine xL_law_1532 (j := i + 3) (nI_add i 3) (by omega) (by omega) rfl ?_
  refine xL_law_1533 ?_
  refine xL_law_1534 ?_
  refine xL_law_1535 ?_
  refine xL_law_1536 ?_
  refine xL_law_1537 (j := i + 4) (nI_add i 4) (by omega) (by omega) rfl ?_
  refine xL_law_1538 ?_
  refine xL_law_1539 ?_
  refine xL_law_1540 ?_
  refine xL_law_1541 ?_
  refine xL_law_1542 (j := i + 5) (nI_add i 5) (by omega) (by omega) rfl ?_
  refine xL_law_1543 hT5 rfl hkb hsb (s_X12_copy (RL.ms hR (fun _ _ => rfl)) (RL.mh hR hf.m5) hSz (fun g3 hy hm => ?_))
  have hR3 := RL.sh hR hf hx hm hy (Sz_copy hSz)
  refine xL_law_1546_t rfl ?_
  refine xL_law_1637 rfl (nI_add i 7) ?_
  refine xL_law_1640 ?_
  exact hN hR3 (by omega) (by omega)
theorem st_cakesBy {d : Nat} {sc : Nat × (Nat → Int32)} {F : Int32 → AH → Prop} {mc ms kc ks i : Nat} {T : List (Nat × Nat)} {rf : Nat → Nat → Option Nat} {g : Nat → Nat → Int32} {o : OV} {nc t tc : Nat} {css : Nat → Nat → List Int32} {sh : Nat → Nat → Int32} {tp : List Int32} {ko : OV} {kn kt : Nat} (hL9 : sc.1 ≤ 3584) (hi7 : i + 7 ≤ sc.1) (hkc : kc + 4 ≤ mc) (hks : ks + 328 ≤ ms) (hR : RLg T rf g o nc t tc css sh tp ko kn kt) (hN : ∀ {T : List (Nat × Nat)} {rf : Nat → Nat → Option Nat} {g : Nat → Nat → Int32} {o : OV} {nc t tc : Nat} {css : Nat → Nat → List Int32} {sh : Nat → Nat → Int32} {tp : List Int32} {ko : OV} {kn kt : Nat} {kc2 ks2 : Nat}, RLg T rf g o nc t tc css sh tp ko kn kt → kc2 ≤ kc + 4 → ks2 ≤ ks + 328 → Wp (d + 68) mc ms sc kL_law (Qi F) 18 [some (.ref 1000200), some (.ref 0), some (.ref 53), some (.int (nI (i + 7)))] [] (T, rf, g) kc2 ks2) : Wp (d + 68) mc ms sc kL_law (Qi F) 1551 [some (.ref 1000200), some (.ref 0), some (.ref 53), some (.int (nI i))] [] (T, rf, g) kc ks := by
  have hkb : Nat.ble kc mc = true := ble (by omega)
  have hsb : Nat.ble ks ms = true := ble (by omega)
  have hkb4 : Nat.ble (kc + 4) mc = true := ble (by omega)
  have hsb4 : Nat.ble (ks + 328) ms = true := ble (by omega)
  have hX0 := hR.1.1.1
  have hT0 : T[0]? = some (11, 0) := hX0.1 _ _ rfl
  have hT5 : T[53]? = some (12, 0) := hR.2.1.1.1 _ _ rfl
  have hO := hR.1.1
  have hG := hR.2.2.2.1
  have htt := hR.2.2.2.2.1
  have h6 := hR.2.2.2.2.2.1
  have hSz := hR.2.2.2.2.2.2.1
  have hTB := hR.2.2.2.2.2.2.2.1
  have hTl := hR.2.2.2.2.2.2.2.2.1
  have hK := hR.2.2.2.2.2.2.2.2.2
  refine xL_law_1551 ?_
  refine xL_law_1552 ?_
  refine xL_law_1553 ?_
  refine xL_law_1554 ?_
  refine xL_law_1555 ?_
  refine xL_law_1556 (j := i + 1) (nI_add i 1) (by omega) (by omega) rfl ?_
  refine xL_law_1557 ?_
  refine xL_law_1558 ?_
  refine xL_law_1559 ?_
  refine xL_law_1560 ?_
  refine xL_law_1561 (j := i + 2) (nI_add i 2) (by omega) (by omega) rfl ?_
  refine xL_law_1562 ?_
  refine xL_law_1563 ?_
  refine xL_law_1564 ?_
  refine xL_law_1565 ?_
  refine xL_law_1566 (j := i + 3) (nI_add i 3) (by omega) (by omega) rfl ?_
  refine xL_law_1567 ?_
  refine xL_law_1568 ?_
  refine xL_law_1569 ?_
  refine xL_law_1570 ?_
  refine xL_law_1571 (j := i + 4) (nI_add i 4) (by omega) (by omega) rfl ?_
  refine xL_law_1572 hT0 rfl hkb hsb (s_X11_cakesBy hO hR.1.2.1 hSz (fun g2 o2 n2 r2 hx he hu => ?_))
  have hC := RL.mc hR (fun _ _ => rfl) hu.m5
  refine xL_law_1575 ?_
  refine xL_law_1576 ?_
  refine xL_law_1577 ?_
  refine xL_law_1578 ?_
  refine xL_law_1579 ?_
  refine xL_law_1580 (j := i + 1) (nI_add i 1) (by omega) (by omega) rfl ?_
  refine xL_law_1581 ?_
  refine xL_law_1582 ?_
  refine xL_law_1583 ?_
  refine xL_law_1584 ?_
  refine xL_law_1585 (j := i + 2) (nI_add i 2) (by omega) (by omega) rfl ?_
  refine xL_law_1586 ?_
  refine xL_law_1587 ?_
  refine xL_law_1588 ?_
  refine xL_law_1589 ?_
  refine xL_law_1590 (j := i + 3) (nI_add i 3) (by omega) (by omega) rfl ?_
  refine xL_law_1591 ?_
  refine xL_law_1592 ?_
  refine xL_law_1593 ?_
  refine xL_law_1594 ?_
  refine xL_law_1595 (j := i + 4) (nI_add i 4) (by omega) (by omega) rfl ?_
  refine xL_law_1596 hT5 rfl hkb hsb (s_X12_cakesBy hC (RL.mh hR hu.m5) hSz (fun g3 o3 n3 r3 hx3 he3 hm => ?_))
  obtain ⟨rfl, rfl, rfl⟩ := cbyX_det hx hx3
  obtain ⟨a1, a2, a3⟩ := Gd_cbyX hG hx
  have hR3 := RL.ch hR hu he hm he3 a1 htt a2 (fun hk hK => a3 hk hK)
  refine xL_law_1599_t rfl ?_
  refine xL_law_1637 rfl (nI_add i 7) ?_
  refine xL_law_1640 ?_
  exact hN hR3 (by omega) (by omega)
theorem st_taken {d : Nat} {sc : Nat × (Nat → Int32)} {F : Int32 → AH → Prop} {mc ms kc ks i : Nat} {T : List (Nat × Nat)} {rf : Nat → Nat → Option Nat} {g : Nat → Nat → Int32} {o : OV} {nc t tc : Nat} {css : Nat → Nat → List Int32} {sh : Nat → Nat → Int32} {tp : List Int32} {ko : OV} {kn kt : Nat} (hL9 : sc.1 ≤ 3584) (hi7 : i + 7 ≤ sc.1) (hkc : kc + 4 ≤ mc) (hks : ks + 328 ≤ ms) (hR : RLg T rf g o nc t tc css sh tp ko kn kt) (hN : ∀ {T : List (Nat × Nat)} {rf : Nat → Nat → Option Nat} {g : Nat → Nat → Int32} {o : OV} {nc t tc : Nat} {css : Nat → Nat → List Int32} {sh : Nat → Nat → Int32} {tp : List Int32} {ko : OV} {kn kt : Nat} {kc2 ks2 : Nat}, RLg T rf g o nc t tc css sh tp ko kn kt → kc2 ≤ kc + 4 → ks2 ≤ ks + 328 → Wp (d + 68) mc ms sc kL_law (Qi F) 18 [some (.ref 1000200), some (.ref 0), some (.ref 53), some (.int (nI (i + 7)))] [] (T, rf, g) kc2 ks2) : Wp (d + 68) mc ms sc kL_law (Qi F) 1604 [some (.ref 1000200), some (.ref 0), some (.ref 53), some (.int (nI i))] [] (T, rf, g) kc ks := by
  have hkb : Nat.ble kc mc = true := ble (by omega)
  have hsb : Nat.ble ks ms = true := ble (by omega)
  have hkb4 : Nat.ble (kc + 4) mc = true := ble (by omega)
  have hsb4 : Nat.ble (ks + 328) ms = true := ble (by omega)
  have hX0 := hR.1.1.1
  have hT0 : T[0]? = some (11, 0) := hX0.1 _ _ rfl
  have hT5 : T[53]? = some (12, 0) := hR.2.1.1.1 _ _ rfl
  have hO := hR.1.1
  have hG := hR.2.2.2.1
  have htt := hR.2.2.2.2.1
  have h6 := hR.2.2.2.2.2.1
  have hSz := hR.2.2.2.2.2.2.1
  have hTB := hR.2.2.2.2.2.2.2.1
  have hTl := hR.2.2.2.2.2.2.2.2.1
  have hK := hR.2.2.2.2.2.2.2.2.2
  have hC := RL.mc hR (fun _ _ => rfl) (fun _ _ _ => rfl)
  refine xL_law_1604 ?_
  refine xL_law_1605 ?_
  refine xL_law_1606 ?_
  refine xL_law_1607 ?_
  refine xL_law_1608 ?_
  refine xL_law_1609 (j := i + 1) (nI_add i 1) (by omega) (by omega) rfl ?_
  refine xL_law_1610 ?_
  refine xL_law_1611 ?_
  refine xL_law_1612 ?_
  refine xL_law_1613 ?_
  refine xL_law_1614 (j := i + 2) (nI_add i 2) (by omega) (by omega) rfl ?_
  refine xL_law_1615 hT0 rfl hkb hsb (s_X11_taken hO ?_)
  refine xL_law_1618 ?_
  refine xL_law_1619 ?_
  refine xL_law_1620 ?_
  refine xL_law_1621 ?_
  refine xL_law_1622 ?_
  refine xL_law_1623 (j := i + 1) (nI_add i 1) (by omega) (by omega) rfl ?_
  refine xL_law_1624 ?_
  refine xL_law_1625 ?_
  refine xL_law_1626 ?_
  refine xL_law_1627 ?_
  refine xL_law_1628 (j := i + 2) (nI_add i 2) (by omega) (by omega) rfl ?_
  refine xL_law_1629 hT5 rfl hkb hsb (s_X12_taken hC ?_)
  have hR3 := hR
  refine xL_law_1632_t rfl ?_
  refine xL_law_1637 rfl (nI_add i 7) ?_
  refine xL_law_1640 ?_
  exact hN hR3 (by omega) (by omega)
