/-! THE LAW: its cases -/
set_option maxHeartbeats 4000000 in
theorem lc_0 {G : Cx} {yl : MethodName} {cn sn c k : Nat} {h : List va_E} {b : MB} {v : Cv} {F : Lf} {p : MP} {t : MT} {o : MO} {Z : List Frame → Array Value → State → State → Prop} (hy : yl.cls = RL) (hz : gz G = false) (hL : gL G ≤ 3072) (hk : 6 * k + 6 ≤ gL G) (hc9 : c + 1 < 100000) (I : LI G h b v F c p t o) (K : ∀ h2 b2 v2 F2 c2 p2 t2 o2, c2 ≤ c + 1 → LI G h2 b2 v2 F2 c2 p2 t2 o2 → AW G yl cL_law 4 (some .boolean) room_1 Z cn sn 1403 [some (.ref (gs G 6)), some (.ref (gB G + 0)), some (.ref (gB G + 80)), some (.int (nI (6 * k)))] [] h2) : AW G yl cL_law 4 (some .boolean) room_1 Z cn sn 204 [some (.ref (gs G 6)), some (.ref (gB G + 0)), some (.ref (gB G + 80)), some (.int (nI (6 * k)))] [] h := by
  refine a_aloadn_1 dL_law_204 ?_
  refine a_aloadn_0 dL_law_205 ?_
  refine a_iloadn_3 dL_law_206 ?_
  refine a_iconst (v := nI 1) dL_law_207 (by decide) ?_
  refine n_iadd dL_law_208 ?_
  refine a_scl (by omega) (6 * k + 1) dL_law_209 rfl (by omega) ?_
  refine a_aloadn_0 dL_law_210 ?_
  refine a_iloadn_3 dL_law_211 ?_
  refine a_iconst (v := nI 2) dL_law_212 (by decide) ?_
  refine n_iadd dL_law_213 ?_
  refine a_scl (by omega) (6 * k + 2) dL_law_214 rfl (by omega) ?_
  refine a_aloadn_0 dL_law_215 ?_
  refine a_iloadn_3 dL_law_216 ?_
  refine a_iconst (v := nI 3) dL_law_217 (by decide) ?_
  refine n_iadd dL_law_218 ?_
  refine a_scl (by omega) (6 * k + 3) dL_law_219 rfl (by omega) ?_
  refine cv_L_13 (d := 1000) (Nat.le_refl _) hy dL_law_220 I.1.c0 (Nat.le_of_ble_eq_true rfl) (bo_rooms (by decide) hz hc9 I (fun y h1 hfs M => ?_))
  obtain ⟨fs, hfs⟩ := hfs
  refine a_aloadn_2 dL_law_223 ?_
  refine a_aloadn_0 dL_law_224 ?_
  refine a_iloadn_3 dL_law_225 ?_
  refine a_iconst (v := nI 1) dL_law_226 (by decide) ?_
  refine n_iadd dL_law_227 ?_
  refine a_scl (by omega) (6 * k + 1) dL_law_228 rfl (by omega) ?_
  refine a_aloadn_0 dL_law_229 ?_
  refine a_iloadn_3 dL_law_230 ?_
  refine a_iconst (v := nI 2) dL_law_231 (by decide) ?_
  refine n_iadd dL_law_232 ?_
  refine a_scl (by omega) (6 * k + 2) dL_law_233 rfl (by omega) ?_
  refine a_aloadn_0 dL_law_234 ?_
  refine a_iloadn_3 dL_law_235 ?_
  refine a_iconst (v := nI 3) dL_law_236 (by decide) ?_
  refine n_iadd dL_law_237 ?_
  refine a_scl (by omega) (6 * k + 3) dL_law_238 rfl (by omega) ?_
  refine cv_L_17 (d := 1000) (Nat.le_refl _) hy dL_law_239 hfs (Nat.le_of_ble_eq_true rfl) (M _ (fun h2 b2 v2 F2 c2 p2 t2 o2 hc2 I2 => ?_))
  exact a_icmp_eq (tgt := 1403) dL_law_242 (by decide) (fun _ => K _ _ _ _ _ _ _ _ hc2 I2) (fun ne => absurd rfl ne)
set_option maxHeartbeats 4000000 in
theorem lc_1 {G : Cx} {yl : MethodName} {cn sn c k : Nat} {h : List va_E} {b : MB} {v : Cv} {F : Lf} {p : MP} {t : MT} {o : MO} {Z : List Frame → Array Value → State → State → Prop} (hy : yl.cls = RL) (hz : gz G = false) (hL : gL G ≤ 3072) (hk : 6 * k + 6 ≤ gL G) (hc9 : c + 1 < 100000) (I : LI G h b v F c p t o) (K : ∀ h2 b2 v2 F2 c2 p2 t2 o2, c2 ≤ c + 1 → LI G h2 b2 v2 F2 c2 p2 t2 o2 → AW G yl cL_law 4 (some .boolean) room_1 Z cn sn 1403 [some (.ref (gs G 6)), some (.ref (gB G + 0)), some (.ref (gB G + 80)), some (.int (nI (6 * k)))] [] h2) : AW G yl cL_law 4 (some .boolean) room_1 Z cn sn 247 [some (.ref (gs G 6)), some (.ref (gB G + 0)), some (.ref (gB G + 80)), some (.int (nI (6 * k)))] [] h := by
  refine a_aloadn_1 dL_law_247 ?_
  refine a_aloadn_0 dL_law_248 ?_
  refine a_iloadn_3 dL_law_249 ?_
  refine a_iconst (v := nI 1) dL_law_250 (by decide) ?_
  refine n_iadd dL_law_251 ?_
  refine a_scl (by omega) (6 * k + 1) dL_law_252 rfl (by omega) ?_
  refine a_aloadn_0 dL_law_253 ?_
  refine a_iloadn_3 dL_law_254 ?_
  refine a_iconst (v := nI 2) dL_law_255 (by decide) ?_
  refine n_iadd dL_law_256 ?_
  refine a_scl (by omega) (6 * k + 2) dL_law_257 rfl (by omega) ?_
  refine a_aloadn_0 dL_law_258 ?_
  refine a_iloadn_3 dL_law_259 ?_
  refine a_iconst (v := nI 3) dL_law_260 (by decide) ?_
  refine n_iadd dL_law_261 ?_
  refine a_scl (by omega) (6 * k + 3) dL_law_262 rfl (by omega) ?_
  refine cv_L_18 (d := 1000) (Nat.le_refl _) hy dL_law_263 I.1.c0 (Nat.le_of_ble_eq_true rfl) (bo_mend (by decide) hz hc9 I (fun y h1 hfs M => ?_))
  obtain ⟨fs, hfs⟩ := hfs
  refine a_aloadn_2 dL_law_266 ?_
  refine a_aloadn_0 dL_law_267 ?_
  refine a_iloadn_3 dL_law_268 ?_
  refine a_iconst (v := nI 1) dL_law_269 (by decide) ?_
  refine n_iadd dL_law_270 ?_
  refine a_scl (by omega) (6 * k + 1) dL_law_271 rfl (by omega) ?_
  refine a_aloadn_0 dL_law_272 ?_
  refine a_iloadn_3 dL_law_273 ?_
  refine a_iconst (v := nI 2) dL_law_274 (by decide) ?_
  refine n_iadd dL_law_275 ?_
  refine a_scl (by omega) (6 * k + 2) dL_law_276 rfl (by omega) ?_
  refine a_aloadn_0 dL_law_277 ?_
  refine a_iloadn_3 dL_law_278 ?_
  refine a_iconst (v := nI 3) dL_law_279 (by decide) ?_
  refine n_iadd dL_law_280 ?_
  refine a_scl (by omega) (6 * k + 3) dL_law_281 rfl (by omega) ?_
  refine cv_L_21 (d := 1000) (Nat.le_refl _) hy dL_law_282 hfs (Nat.le_of_ble_eq_true rfl) (M _ (fun h2 b2 v2 F2 c2 p2 t2 o2 hc2 I2 => ?_))
  exact a_icmp_eq (tgt := 1403) dL_law_285 (by decide) (fun _ => K _ _ _ _ _ _ _ _ hc2 I2) (fun ne => absurd rfl ne)
set_option maxHeartbeats 4000000 in
theorem lc_2 {G : Cx} {yl : MethodName} {cn sn c k : Nat} {h : List va_E} {b : MB} {v : Cv} {F : Lf} {p : MP} {t : MT} {o : MO} {Z : List Frame → Array Value → State → State → Prop} (hy : yl.cls = RL) (hz : gz G = false) (hL : gL G ≤ 3072) (hk : 6 * k + 6 ≤ gL G) (hc9 : c + 1 < 100000) (I : LI G h b v F c p t o) (K : ∀ h2 b2 v2 F2 c2 p2 t2 o2, c2 ≤ c + 1 → LI G h2 b2 v2 F2 c2 p2 t2 o2 → AW G yl cL_law 4 (some .boolean) room_1 Z cn sn 1403 [some (.ref (gs G 6)), some (.ref (gB G + 0)), some (.ref (gB G + 80)), some (.int (nI (6 * k)))] [] h2) : AW G yl cL_law 4 (some .boolean) room_1 Z cn sn 290 [some (.ref (gs G 6)), some (.ref (gB G + 0)), some (.ref (gB G + 80)), some (.int (nI (6 * k)))] [] h := by
  refine a_aloadn_1 dL_law_290 ?_
  refine a_aloadn_0 dL_law_291 ?_
  refine a_iloadn_3 dL_law_292 ?_
  refine a_iconst (v := nI 1) dL_law_293 (by decide) ?_
  refine n_iadd dL_law_294 ?_
  refine a_scl (by omega) (6 * k + 1) dL_law_295 rfl (by omega) ?_
  refine a_aloadn_0 dL_law_296 ?_
  refine a_iloadn_3 dL_law_297 ?_
  refine a_iconst (v := nI 2) dL_law_298 (by decide) ?_
  refine n_iadd dL_law_299 ?_
  refine a_scl (by omega) (6 * k + 2) dL_law_300 rfl (by omega) ?_
  refine cv_L_22 (d := 1000) (Nat.le_refl _) hy dL_law_301 I.1.c0 (Nat.le_of_ble_eq_true rfl) (bo_of (by decide) hz hc9 I (fun y h1 hfs M => ?_))
  obtain ⟨fs, hfs⟩ := hfs
  refine a_aloadn_2 dL_law_304 ?_
  refine a_aloadn_0 dL_law_305 ?_
  refine a_iloadn_3 dL_law_306 ?_
  refine a_iconst (v := nI 1) dL_law_307 (by decide) ?_
  refine n_iadd dL_law_308 ?_
  refine a_scl (by omega) (6 * k + 1) dL_law_309 rfl (by omega) ?_
  refine a_aloadn_0 dL_law_310 ?_
  refine a_iloadn_3 dL_law_311 ?_
  refine a_iconst (v := nI 2) dL_law_312 (by decide) ?_
  refine n_iadd dL_law_313 ?_
  refine a_scl (by omega) (6 * k + 2) dL_law_314 rfl (by omega) ?_
  refine cv_L_26 (d := 1000) (Nat.le_refl _) hy dL_law_315 hfs (Nat.le_of_ble_eq_true rfl) (M _ (fun h2 b2 v2 F2 c2 p2 t2 o2 hc2 I2 => ?_))
  exact a_icmp_eq (tgt := 1403) dL_law_318 (by decide) (fun _ => K _ _ _ _ _ _ _ _ hc2 I2) (fun ne => absurd rfl ne)
set_option maxHeartbeats 4000000 in
theorem lc_3 {G : Cx} {yl : MethodName} {cn sn c k : Nat} {h : List va_E} {b : MB} {v : Cv} {F : Lf} {p : MP} {t : MT} {o : MO} {Z : List Frame → Array Value → State → State → Prop} (hy : yl.cls = RL) (hz : gz G = false) (hL : gL G ≤ 3072) (hk : 6 * k + 6 ≤ gL G) (hc9 : c + 1 < 100000) (I : LI G h b v F c p t o) (K : ∀ h2 b2 v2 F2 c2 p2 t2 o2, c2 ≤ c + 1 → LI G h2 b2 v2 F2 c2 p2 t2 o2 → AW G yl cL_law 4 (some .boolean) room_1 Z cn sn 1403 [some (.ref (gs G 6)), some (.ref (gB G + 0)), some (.ref (gB G + 80)), some (.int (nI (6 * k)))] [] h2) : AW G yl cL_law 4 (some .boolean) room_1 Z cn sn 323 [some (.ref (gs G 6)), some (.ref (gB G + 0)), some (.ref (gB G + 80)), some (.int (nI (6 * k)))] [] h := by
  refine a_aloadn_1 dL_law_323 ?_
  refine a_aloadn_0 dL_law_324 ?_
  refine a_iloadn_3 dL_law_325 ?_
  refine a_iconst (v := nI 1) dL_law_326 (by decide) ?_
  refine n_iadd dL_law_327 ?_
  refine a_scl (by omega) (6 * k + 1) dL_law_328 rfl (by omega) ?_
  refine cv_L_27 (d := 1000) (Nat.le_refl _) hy dL_law_329 I.1.c0 (Nat.le_of_ble_eq_true rfl) (bo_feed (by decide) hz hc9 I (fun y h1 hfs M => ?_))
  obtain ⟨fs, hfs⟩ := hfs
  refine a_aloadn_2 dL_law_332 ?_
  refine a_aloadn_0 dL_law_333 ?_
  refine a_iloadn_3 dL_law_334 ?_
  refine a_iconst (v := nI 1) dL_law_335 (by decide) ?_
  refine n_iadd dL_law_336 ?_
  refine a_scl (by omega) (6 * k + 1) dL_law_337 rfl (by omega) ?_
  refine cv_L_31 (d := 1000) (Nat.le_refl _) hy dL_law_338 hfs (Nat.le_of_ble_eq_true rfl) (M _ (fun h2 b2 v2 F2 c2 p2 t2 o2 hc2 I2 => ?_))
  exact a_icmp_eq (tgt := 1403) dL_law_341 (by decide) (fun _ => K _ _ _ _ _ _ _ _ hc2 I2) (fun ne => absurd rfl ne)
set_option maxHeartbeats 4000000 in
theorem lc_4 {G : Cx} {yl : MethodName} {cn sn c k : Nat} {h : List va_E} {b : MB} {v : Cv} {F : Lf} {p : MP} {t : MT} {o : MO} {Z : List Frame → Array Value → State → State → Prop} (hy : yl.cls = RL) (hz : gz G = false) (hL : gL G ≤ 3072) (hk : 6 * k + 6 ≤ gL G) (hc9 : c + 1 < 100000) (I : LI G h b v F c p t o) (K : ∀ h2 b2 v2 F2 c2 p2 t2 o2, c2 ≤ c + 1 → LI G h2 b2 v2 F2 c2 p2 t2 o2 → AW G yl cL_law 4 (some .boolean) room_1 Z cn sn 1403 [some (.ref (gs G 6)), some (.ref (gB G + 0)), some (.ref (gB G + 80)), some (.int (nI (6 * k)))] [] h2) : AW G yl cL_law 4 (some .boolean) room_1 Z cn sn 346 [some (.ref (gs G 6)), some (.ref (gB G + 0)), some (.ref (gB G + 80)), some (.int (nI (6 * k)))] [] h := by
  refine a_aloadn_1 dL_law_346 ?_
  refine cv_L_32 (d := 1000) (Nat.le_refl _) hy dL_law_347 I.1.c0 (Nat.le_of_ble_eq_true rfl) (bo_law (by decide) hz hc9 I (fun y h1 hfs M => ?_))
  obtain ⟨fs, hfs⟩ := hfs
  refine a_aloadn_2 dL_law_350 ?_
  refine cv_L_36 (d := 1000) (Nat.le_refl _) hy dL_law_351 hfs (Nat.le_of_ble_eq_true rfl) (M _ (fun h2 b2 v2 F2 c2 p2 t2 o2 hc2 I2 => ?_))
  exact a_icmp_eq (tgt := 1403) dL_law_354 (by decide) (fun _ => K _ _ _ _ _ _ _ _ hc2 I2) (fun ne => absurd rfl ne)
set_option maxHeartbeats 4000000 in
theorem lc_5 {G : Cx} {yl : MethodName} {cn sn c k : Nat} {h : List va_E} {b : MB} {v : Cv} {F : Lf} {p : MP} {t : MT} {o : MO} {Z : List Frame → Array Value → State → State → Prop} (hy : yl.cls = RL) (hz : gz G = false) (hL : gL G ≤ 3072) (hk : 6 * k + 6 ≤ gL G) (hc9 : c + 1 < 100000) (I : LI G h b v F c p t o) (K : ∀ h2 b2 v2 F2 c2 p2 t2 o2, c2 ≤ c + 1 → LI G h2 b2 v2 F2 c2 p2 t2 o2 → AW G yl cL_law 4 (some .boolean) room_1 Z cn sn 1403 [some (.ref (gs G 6)), some (.ref (gB G + 0)), some (.ref (gB G + 80)), some (.int (nI (6 * k)))] [] h2) : AW G yl cL_law 4 (some .boolean) room_1 Z cn sn 359 [some (.ref (gs G 6)), some (.ref (gB G + 0)), some (.ref (gB G + 80)), some (.int (nI (6 * k)))] [] h := by
  refine a_aloadn_1 dL_law_359 ?_
  refine a_aloadn_0 dL_law_360 ?_
  refine a_iloadn_3 dL_law_361 ?_
  refine a_iconst (v := nI 1) dL_law_362 (by decide) ?_
  refine n_iadd dL_law_363 ?_
  refine a_scl (by omega) (6 * k + 1) dL_law_364 rfl (by omega) ?_
  refine cv_L_37 (d := 1000) (Nat.le_refl _) hy dL_law_365 I.1.c0 (Nat.le_of_ble_eq_true rfl) (bo_press (by decide) hz hc9 I (fun y h1 hfs M => ?_))
  obtain ⟨fs, hfs⟩ := hfs
  refine a_aloadn_2 dL_law_368 ?_
  refine a_aloadn_0 dL_law_369 ?_
  refine a_iloadn_3 dL_law_370 ?_
  refine a_iconst (v := nI 1) dL_law_371 (by decide) ?_
  refine n_iadd dL_law_372 ?_
  refine a_scl (by omega) (6 * k + 1) dL_law_373 rfl (by omega) ?_
  refine cv_L_40 (d := 1000) (Nat.le_refl _) hy dL_law_374 hfs (Nat.le_of_ble_eq_true rfl) (M _ (fun h2 b2 v2 F2 c2 p2 t2 o2 hc2 I2 => ?_))
  exact a_icmp_eq (tgt := 1403) dL_law_377 (by decide) (fun _ => K _ _ _ _ _ _ _ _ hc2 I2) (fun ne => absurd rfl ne)
set_option maxHeartbeats 4000000 in
theorem lc_6 {G : Cx} {yl : MethodName} {cn sn c k : Nat} {h : List va_E} {b : MB} {v : Cv} {F : Lf} {p : MP} {t : MT} {o : MO} {Z : List Frame → Array Value → State → State → Prop} (hy : yl.cls = RL) (hz : gz G = false) (hL : gL G ≤ 3072) (hk : 6 * k + 6 ≤ gL G) (hc9 : c + 1 < 100000) (I : LI G h b v F c p t o) (K : ∀ h2 b2 v2 F2 c2 p2 t2 o2, c2 ≤ c + 1 → LI G h2 b2 v2 F2 c2 p2 t2 o2 → AW G yl cL_law 4 (some .boolean) room_1 Z cn sn 1403 [some (.ref (gs G 6)), some (.ref (gB G + 0)), some (.ref (gB G + 80)), some (.int (nI (6 * k)))] [] h2) : AW G yl cL_law 4 (some .boolean) room_1 Z cn sn 382 [some (.ref (gs G 6)), some (.ref (gB G + 0)), some (.ref (gB G + 80)), some (.int (nI (6 * k)))] [] h := by
  refine a_aloadn_1 dL_law_382 ?_
  refine a_aloadn_0 dL_law_383 ?_
  refine a_iloadn_3 dL_law_384 ?_
  refine a_iconst (v := nI 1) dL_law_385 (by decide) ?_
  refine n_iadd dL_law_386 ?_
  refine a_scl (by omega) (6 * k + 1) dL_law_387 rfl (by omega) ?_
  refine a_aloadn_0 dL_law_388 ?_
  refine a_iloadn_3 dL_law_389 ?_
  refine a_iconst (v := nI 2) dL_law_390 (by decide) ?_
  refine n_iadd dL_law_391 ?_
  refine a_scl (by omega) (6 * k + 2) dL_law_392 rfl (by omega) ?_
  refine a_aloadn_0 dL_law_393 ?_
  refine a_iloadn_3 dL_law_394 ?_
  refine a_iconst (v := nI 3) dL_law_395 (by decide) ?_
  refine n_iadd dL_law_396 ?_
  refine a_scl (by omega) (6 * k + 3) dL_law_397 rfl (by omega) ?_
  refine cv_L_41 (d := 1000) (Nat.le_refl _) hy dL_law_398 I.1.c0 (Nat.le_of_ble_eq_true rfl) (bo_later (by decide) hz hc9 I (fun y h1 hfs M => ?_))
  obtain ⟨fs, hfs⟩ := hfs
  refine a_aloadn_2 dL_law_401 ?_
  refine a_aloadn_0 dL_law_402 ?_
  refine a_iloadn_3 dL_law_403 ?_
  refine a_iconst (v := nI 1) dL_law_404 (by decide) ?_
  refine n_iadd dL_law_405 ?_
  refine a_scl (by omega) (6 * k + 1) dL_law_406 rfl (by omega) ?_
  refine a_aloadn_0 dL_law_407 ?_
  refine a_iloadn_3 dL_law_408 ?_
  refine a_iconst (v := nI 2) dL_law_409 (by decide) ?_
  refine n_iadd dL_law_410 ?_
  refine a_scl (by omega) (6 * k + 2) dL_law_411 rfl (by omega) ?_
  refine a_aloadn_0 dL_law_412 ?_
  refine a_iloadn_3 dL_law_413 ?_
  refine a_iconst (v := nI 3) dL_law_414 (by decide) ?_
  refine n_iadd dL_law_415 ?_
  refine a_scl (by omega) (6 * k + 3) dL_law_416 rfl (by omega) ?_
  refine cv_L_44 (d := 1000) (Nat.le_refl _) hy dL_law_417 hfs (Nat.le_of_ble_eq_true rfl) (M _ (fun h2 b2 v2 F2 c2 p2 t2 o2 hc2 I2 => ?_))
  exact a_icmp_eq (tgt := 1403) dL_law_420 (by decide) (fun _ => K _ _ _ _ _ _ _ _ hc2 I2) (fun ne => absurd rfl ne)
set_option maxHeartbeats 4000000 in
theorem lc_7 {G : Cx} {yl : MethodName} {cn sn c k : Nat} {h : List va_E} {b : MB} {v : Cv} {F : Lf} {p : MP} {t : MT} {o : MO} {Z : List Frame → Array Value → State → State → Prop} (hy : yl.cls = RL) (hz : gz G = false) (hL : gL G ≤ 3072) (hk : 6 * k + 6 ≤ gL G) (hc9 : c + 1 < 100000) (I : LI G h b v F c p t o) (K : ∀ h2 b2 v2 F2 c2 p2 t2 o2, c2 ≤ c + 1 → LI G h2 b2 v2 F2 c2 p2 t2 o2 → AW G yl cL_law 4 (some .boolean) room_1 Z cn sn 1403 [some (.ref (gs G 6)), some (.ref (gB G + 0)), some (.ref (gB G + 80)), some (.int (nI (6 * k)))] [] h2) : AW G yl cL_law 4 (some .boolean) room_1 Z cn sn 425 [some (.ref (gs G 6)), some (.ref (gB G + 0)), some (.ref (gB G + 80)), some (.int (nI (6 * k)))] [] h := by
  refine a_aloadn_1 dL_law_425 ?_
  refine a_aloadn_0 dL_law_426 ?_
  refine a_iloadn_3 dL_law_427 ?_
  refine a_iconst (v := nI 1) dL_law_428 (by decide) ?_
  refine n_iadd dL_law_429 ?_
  refine a_scl (by omega) (6 * k + 1) dL_law_430 rfl (by omega) ?_
  refine a_aloadn_0 dL_law_431 ?_
  refine a_iloadn_3 dL_law_432 ?_
  refine a_iconst (v := nI 2) dL_law_433 (by decide) ?_
  refine n_iadd dL_law_434 ?_
  refine a_scl (by omega) (6 * k + 2) dL_law_435 rfl (by omega) ?_
  refine cv_L_45 (d := 1000) (Nat.le_refl _) hy dL_law_436 I.1.c0 (Nat.le_of_ble_eq_true rfl) (bo_dark (by decide) hz hc9 I (fun y h1 hfs M => ?_))
  obtain ⟨fs, hfs⟩ := hfs
  refine a_aloadn_2 dL_law_439 ?_
  refine a_aloadn_0 dL_law_440 ?_
  refine a_iloadn_3 dL_law_441 ?_
  refine a_iconst (v := nI 1) dL_law_442 (by decide) ?_
  refine n_iadd dL_law_443 ?_
  refine a_scl (by omega) (6 * k + 1) dL_law_444 rfl (by omega) ?_
  refine a_aloadn_0 dL_law_445 ?_
  refine a_iloadn_3 dL_law_446 ?_
  refine a_iconst (v := nI 2) dL_law_447 (by decide) ?_
  refine n_iadd dL_law_448 ?_
  refine a_scl (by omega) (6 * k + 2) dL_law_449 rfl (by omega) ?_
  refine cv_L_48 (d := 1000) (Nat.le_refl _) hy dL_law_450 hfs (Nat.le_of_ble_eq_true rfl) (M _ (fun h2 b2 v2 F2 c2 p2 t2 o2 hc2 I2 => ?_))
  exact a_icmp_eq (tgt := 1403) dL_law_453 (by decide) (fun _ => K _ _ _ _ _ _ _ _ hc2 I2) (fun ne => absurd rfl ne)
set_option maxHeartbeats 4000000 in
theorem lc_8 {G : Cx} {yl : MethodName} {cn sn c k : Nat} {h : List va_E} {b : MB} {v : Cv} {F : Lf} {p : MP} {t : MT} {o : MO} {Z : List Frame → Array Value → State → State → Prop} (hy : yl.cls = RL) (hz : gz G = false) (hL : gL G ≤ 3072) (hk : 6 * k + 6 ≤ gL G) (hc9 : c + 1 < 100000) (I : LI G h b v F c p t o) (K : ∀ h2 b2 v2 F2 c2 p2 t2 o2, c2 ≤ c + 1 → LI G h2 b2 v2 F2 c2 p2 t2 o2 → AW G yl cL_law 4 (some .boolean) room_1 Z cn sn 1403 [some (.ref (gs G 6)), some (.ref (gB G + 0)), some (.ref (gB G + 80)), some (.int (nI (6 * k)))] [] h2) : AW G yl cL_law 4 (some .boolean) room_1 Z cn sn 458 [some (.ref (gs G 6)), some (.ref (gB G + 0)), some (.ref (gB G + 80)), some (.int (nI (6 * k)))] [] h := by
  refine a_aloadn_1 dL_law_458 ?_
  refine a_aloadn_0 dL_law_459 ?_
  refine a_iloadn_3 dL_law_460 ?_
  refine a_iconst (v := nI 1) dL_law_461 (by decide) ?_
  refine n_iadd dL_law_462 ?_
  refine a_scl (by omega) (6 * k + 1) dL_law_463 rfl (by omega) ?_
  refine cv_L_49 (d := 1000) (Nat.le_refl _) hy dL_law_464 I.1.c0 (Nat.le_of_ble_eq_true rfl) (bo_map (by decide) hz hc9 I (fun y h1 hfs M => ?_))
  obtain ⟨fs, hfs⟩ := hfs
  refine a_aloadn_2 dL_law_467 ?_
  refine a_aloadn_0 dL_law_468 ?_
  refine a_iloadn_3 dL_law_469 ?_
  refine a_iconst (v := nI 1) dL_law_470 (by decide) ?_
  refine n_iadd dL_law_471 ?_
  refine a_scl (by omega) (6 * k + 1) dL_law_472 rfl (by omega) ?_
  refine cv_L_53 (d := 1000) (Nat.le_refl _) hy dL_law_473 hfs (Nat.le_of_ble_eq_true rfl) (M _ (fun h2 b2 v2 F2 c2 p2 t2 o2 hc2 I2 => ?_))
  refine a_lcmp dL_law_476 ?_
  exact a_if_eq (tgt := 1403) dL_law_477 (by decide) (fun _ => K _ _ _ _ _ _ _ _ hc2 I2) (fun ne => absurd ((lg_cmp0 y y).mpr rfl) ne)
set_option maxHeartbeats 4000000 in
theorem lc_9 {G : Cx} {yl : MethodName} {cn sn c k : Nat} {h : List va_E} {b : MB} {v : Cv} {F : Lf} {p : MP} {t : MT} {o : MO} {Z : List Frame → Array Value → State → State → Prop} (hy : yl.cls = RL) (hz : gz G = false) (hL : gL G ≤ 3072) (hk : 6 * k + 6 ≤ gL G) (hc9 : c + 1 < 100000) (I : LI G h b v F c p t o) (K : ∀ h2 b2 v2 F2 c2 p2 t2 o2, c2 ≤ c + 1 → LI G h2 b2 v2 F2 c2 p2 t2 o2 → AW G yl cL_law 4 (some .boolean) room_1 Z cn sn 1403 [some (.ref (gs G 6)), some (.ref (gB G + 0)), some (.ref (gB G + 80)), some (.int (nI (6 * k)))] [] h2) : AW G yl cL_law 4 (some .boolean) room_1 Z cn sn 482 [some (.ref (gs G 6)), some (.ref (gB G + 0)), some (.ref (gB G + 80)), some (.int (nI (6 * k)))] [] h := by
  refine a_aloadn_1 dL_law_482 ?_
  refine a_aloadn_0 dL_law_483 ?_
  refine a_iloadn_3 dL_law_484 ?_
  refine a_iconst (v := nI 1) dL_law_485 (by decide) ?_
  refine n_iadd dL_law_486 ?_
  refine a_scl (by omega) (6 * k + 1) dL_law_487 rfl (by omega) ?_
  refine cv_L_54 (d := 1000) (Nat.le_refl _) hy dL_law_488 I.1.c0 (Nat.le_of_ble_eq_true rfl) (bo_falls (by decide) hz hc9 I (fun y h1 hfs M => ?_))
  obtain ⟨fs, hfs⟩ := hfs
  refine a_aloadn_2 dL_law_491 ?_
  refine a_aloadn_0 dL_law_492 ?_
  refine a_iloadn_3 dL_law_493 ?_
  refine a_iconst (v := nI 1) dL_law_494 (by decide) ?_
  refine n_iadd dL_law_495 ?_
  refine a_scl (by omega) (6 * k + 1) dL_law_496 rfl (by omega) ?_
  refine cv_L_57 (d := 1000) (Nat.le_refl _) hy dL_law_497 hfs (Nat.le_of_ble_eq_true rfl) (M _ (fun h2 b2 v2 F2 c2 p2 t2 o2 hc2 I2 => ?_))
  exact a_icmp_eq (tgt := 1403) dL_law_500 (by decide) (fun _ => K _ _ _ _ _ _ _ _ hc2 I2) (fun ne => absurd rfl ne)
set_option maxHeartbeats 4000000 in
theorem lc_10 {G : Cx} {yl : MethodName} {cn sn c k : Nat} {h : List va_E} {b : MB} {v : Cv} {F : Lf} {p : MP} {t : MT} {o : MO} {Z : List Frame → Array Value → State → State → Prop} (hy : yl.cls = RL) (hz : gz G = false) (hL : gL G ≤ 3072) (hk : 6 * k + 6 ≤ gL G) (hc9 : c + 1 < 100000) (I : LI G h b v F c p t o) (K : ∀ h2 b2 v2 F2 c2 p2 t2 o2, c2 ≤ c + 1 → LI G h2 b2 v2 F2 c2 p2 t2 o2 → AW G yl cL_law 4 (some .boolean) room_1 Z cn sn 1403 [some (.ref (gs G 6)), some (.ref (gB G + 0)), some (.ref (gB G + 80)), some (.int (nI (6 * k)))] [] h2) : AW G yl cL_law 4 (some .boolean) room_1 Z cn sn 505 [some (.ref (gs G 6)), some (.ref (gB G + 0)), some (.ref (gB G + 80)), some (.int (nI (6 * k)))] [] h := by
  refine a_aloadn_1 dL_law_505 ?_
  refine cv_L_58 (d := 1000) (Nat.le_refl _) hy dL_law_506 I.1.c0 (Nat.le_of_ble_eq_true rfl) (bo_still (by decide) hz hc9 I (fun y h1 hfs M => ?_))
  obtain ⟨fs, hfs⟩ := hfs
  refine a_aloadn_2 dL_law_509 ?_
  refine cv_L_61 (d := 1000) (Nat.le_refl _) hy dL_law_510 hfs (Nat.le_of_ble_eq_true rfl) (M _ (fun h2 b2 v2 F2 c2 p2 t2 o2 hc2 I2 => ?_))
  exact a_icmp_eq (tgt := 1403) dL_law_513 (by decide) (fun _ => K _ _ _ _ _ _ _ _ hc2 I2) (fun ne => absurd rfl ne)
set_option maxHeartbeats 4000000 in
theorem lc_11 {G : Cx} {yl : MethodName} {cn sn c k : Nat} {h : List va_E} {b : MB} {v : Cv} {F : Lf} {p : MP} {t : MT} {o : MO} {Z : List Frame → Array Value → State → State → Prop} (hy : yl.cls = RL) (hz : gz G = false) (hL : gL G ≤ 3072) (hk : 6 * k + 6 ≤ gL G) (hc9 : c + 1 < 100000) (I : LI G h b v F c p t o) (K : ∀ h2 b2 v2 F2 c2 p2 t2 o2, c2 ≤ c + 1 → LI G h2 b2 v2 F2 c2 p2 t2 o2 → AW G yl cL_law 4 (some .boolean) room_1 Z cn sn 1403 [some (.ref (gs G 6)), some (.ref (gB G + 0)), some (.ref (gB G + 80)), some (.int (nI (6 * k)))] [] h2) : AW G yl cL_law 4 (some .boolean) room_1 Z cn sn 518 [some (.ref (gs G 6)), some (.ref (gB G + 0)), some (.ref (gB G + 80)), some (.int (nI (6 * k)))] [] h := by
  refine a_aloadn_1 dL_law_518 ?_
  refine a_aloadn_0 dL_law_519 ?_
  refine a_iloadn_3 dL_law_520 ?_
  refine a_iconst (v := nI 1) dL_law_521 (by decide) ?_
  refine n_iadd dL_law_522 ?_
  refine a_scl (by omega) (6 * k + 1) dL_law_523 rfl (by omega) ?_
  refine a_aloadn_0 dL_law_524 ?_
  refine a_iloadn_3 dL_law_525 ?_
  refine a_iconst (v := nI 2) dL_law_526 (by decide) ?_
  refine n_iadd dL_law_527 ?_
  refine a_scl (by omega) (6 * k + 2) dL_law_528 rfl (by omega) ?_
  refine cv_L_62 (d := 1000) (Nat.le_refl _) hy dL_law_529 I.1.c0 (Nat.le_of_ble_eq_true rfl) (bo_enough (by decide) hz hc9 I (fun y h1 hfs M => ?_))
  obtain ⟨fs, hfs⟩ := hfs
  refine a_aloadn_2 dL_law_532 ?_
  refine a_aloadn_0 dL_law_533 ?_
  refine a_iloadn_3 dL_law_534 ?_
  refine a_iconst (v := nI 1) dL_law_535 (by decide) ?_
  refine n_iadd dL_law_536 ?_
  refine a_scl (by omega) (6 * k + 1) dL_law_537 rfl (by omega) ?_
  refine a_aloadn_0 dL_law_538 ?_
  refine a_iloadn_3 dL_law_539 ?_
  refine a_iconst (v := nI 2) dL_law_540 (by decide) ?_
  refine n_iadd dL_law_541 ?_
  refine a_scl (by omega) (6 * k + 2) dL_law_542 rfl (by omega) ?_
  refine cv_L_65 (d := 1000) (Nat.le_refl _) hy dL_law_543 hfs (Nat.le_of_ble_eq_true rfl) (M _ (fun h2 b2 v2 F2 c2 p2 t2 o2 hc2 I2 => ?_))
  exact a_icmp_eq (tgt := 1403) dL_law_546 (by decide) (fun _ => K _ _ _ _ _ _ _ _ hc2 I2) (fun ne => absurd rfl ne)
set_option maxHeartbeats 4000000 in
theorem lc_12 {G : Cx} {yl : MethodName} {cn sn c k : Nat} {h : List va_E} {b : MB} {v : Cv} {F : Lf} {p : MP} {t : MT} {o : MO} {Z : List Frame → Array Value → State → State → Prop} (hy : yl.cls = RL) (hz : gz G = false) (hL : gL G ≤ 3072) (hk : 6 * k + 6 ≤ gL G) (hc9 : c + 1 < 100000) (I : LI G h b v F c p t o) (K : ∀ h2 b2 v2 F2 c2 p2 t2 o2, c2 ≤ c + 1 → LI G h2 b2 v2 F2 c2 p2 t2 o2 → AW G yl cL_law 4 (some .boolean) room_1 Z cn sn 1403 [some (.ref (gs G 6)), some (.ref (gB G + 0)), some (.ref (gB G + 80)), some (.int (nI (6 * k)))] [] h2) : AW G yl cL_law 4 (some .boolean) room_1 Z cn sn 551 [some (.ref (gs G 6)), some (.ref (gB G + 0)), some (.ref (gB G + 80)), some (.int (nI (6 * k)))] [] h := by
  refine a_aloadn_1 dL_law_551 ?_
  refine a_aloadn_0 dL_law_552 ?_
  refine a_iloadn_3 dL_law_553 ?_
  refine a_iconst (v := nI 1) dL_law_554 (by decide) ?_
  refine n_iadd dL_law_555 ?_
  refine a_scl (by omega) (6 * k + 1) dL_law_556 rfl (by omega) ?_
  refine a_aloadn_0 dL_law_557 ?_
  refine a_iloadn_3 dL_law_558 ?_
  refine a_iconst (v := nI 2) dL_law_559 (by decide) ?_
  refine n_iadd dL_law_560 ?_
  refine a_scl (by omega) (6 * k + 2) dL_law_561 rfl (by omega) ?_
  refine a_aloadn_0 dL_law_562 ?_
  refine a_iloadn_3 dL_law_563 ?_
  refine a_iconst (v := nI 3) dL_law_564 (by decide) ?_
  refine n_iadd dL_law_565 ?_
  refine a_scl (by omega) (6 * k + 3) dL_law_566 rfl (by omega) ?_
  refine cv_L_66 (d := 1000) (Nat.le_refl _) hy dL_law_567 I.1.c0 (Nat.le_of_ble_eq_true rfl) (bo_stubs (by decide) hz hc9 I (fun y h1 hfs M => ?_))
  obtain ⟨fs, hfs⟩ := hfs
  refine a_aloadn_2 dL_law_570 ?_
  refine a_aloadn_0 dL_law_571 ?_
  refine a_iloadn_3 dL_law_572 ?_
  refine a_iconst (v := nI 1) dL_law_573 (by decide) ?_
  refine n_iadd dL_law_574 ?_
  refine a_scl (by omega) (6 * k + 1) dL_law_575 rfl (by omega) ?_
  refine a_aloadn_0 dL_law_576 ?_
  refine a_iloadn_3 dL_law_577 ?_
  refine a_iconst (v := nI 2) dL_law_578 (by decide) ?_
  refine n_iadd dL_law_579 ?_
  refine a_scl (by omega) (6 * k + 2) dL_law_580 rfl (by omega) ?_
  refine a_aloadn_0 dL_law_581 ?_
  refine a_iloadn_3 dL_law_582 ?_
  refine a_iconst (v := nI 3) dL_law_583 (by decide) ?_
  refine n_iadd dL_law_584 ?_
  refine a_scl (by omega) (6 * k + 3) dL_law_585 rfl (by omega) ?_
  refine cv_L_69 (d := 1000) (Nat.le_refl _) hy dL_law_586 hfs (Nat.le_of_ble_eq_true rfl) (M _ (fun h2 b2 v2 F2 c2 p2 t2 o2 hc2 I2 => ?_))
  exact a_icmp_eq (tgt := 1403) dL_law_589 (by decide) (fun _ => K _ _ _ _ _ _ _ _ hc2 I2) (fun ne => absurd rfl ne)
set_option maxHeartbeats 4000000 in
theorem lc_13 {G : Cx} {yl : MethodName} {cn sn c k : Nat} {h : List va_E} {b : MB} {v : Cv} {F : Lf} {p : MP} {t : MT} {o : MO} {Z : List Frame → Array Value → State → State → Prop} (hy : yl.cls = RL) (hz : gz G = false) (hL : gL G ≤ 3072) (hk : 6 * k + 6 ≤ gL G) (hc9 : c + 1 < 100000) (I : LI G h b v F c p t o) (K : ∀ h2 b2 v2 F2 c2 p2 t2 o2, c2 ≤ c + 1 → LI G h2 b2 v2 F2 c2 p2 t2 o2 → AW G yl cL_law 4 (some .boolean) room_1 Z cn sn 1403 [some (.ref (gs G 6)), some (.ref (gB G + 0)), some (.ref (gB G + 80)), some (.int (nI (6 * k)))] [] h2) : AW G yl cL_law 4 (some .boolean) room_1 Z cn sn 594 [some (.ref (gs G 6)), some (.ref (gB G + 0)), some (.ref (gB G + 80)), some (.int (nI (6 * k)))] [] h := by
  refine a_aloadn_1 dL_law_594 ?_
  refine a_aloadn_0 dL_law_595 ?_
  refine a_iloadn_3 dL_law_596 ?_
  refine a_iconst (v := nI 1) dL_law_597 (by decide) ?_
  refine n_iadd dL_law_598 ?_
  refine a_scl (by omega) (6 * k + 1) dL_law_599 rfl (by omega) ?_
  refine a_aloadn_0 dL_law_600 ?_
  refine a_iloadn_3 dL_law_601 ?_
  refine a_iconst (v := nI 2) dL_law_602 (by decide) ?_
  refine n_iadd dL_law_603 ?_
  refine a_scl (by omega) (6 * k + 2) dL_law_604 rfl (by omega) ?_
  refine cv_L_70 (d := 1000) (Nat.le_refl _) hy dL_law_605 I.1.c0 (Nat.le_of_ble_eq_true rfl) (bo_wayIn (by decide) hz hc9 I (fun y h1 hfs M => ?_))
  obtain ⟨fs, hfs⟩ := hfs
  refine a_aloadn_2 dL_law_608 ?_
  refine a_aloadn_0 dL_law_609 ?_
  refine a_iloadn_3 dL_law_610 ?_
  refine a_iconst (v := nI 1) dL_law_611 (by decide) ?_
  refine n_iadd dL_law_612 ?_
  refine a_scl (by omega) (6 * k + 1) dL_law_613 rfl (by omega) ?_
  refine a_aloadn_0 dL_law_614 ?_
  refine a_iloadn_3 dL_law_615 ?_
  refine a_iconst (v := nI 2) dL_law_616 (by decide) ?_
  refine n_iadd dL_law_617 ?_
  refine a_scl (by omega) (6 * k + 2) dL_law_618 rfl (by omega) ?_
  refine cv_L_73 (d := 1000) (Nat.le_refl _) hy dL_law_619 hfs (Nat.le_of_ble_eq_true rfl) (M _ (fun h2 b2 v2 F2 c2 p2 t2 o2 hc2 I2 => ?_))
  exact a_icmp_eq (tgt := 1403) dL_law_622 (by decide) (fun _ => K _ _ _ _ _ _ _ _ hc2 I2) (fun ne => absurd rfl ne)
set_option maxHeartbeats 4000000 in
theorem lc_14 {G : Cx} {yl : MethodName} {cn sn c k : Nat} {h : List va_E} {b : MB} {v : Cv} {F : Lf} {p : MP} {t : MT} {o : MO} {Z : List Frame → Array Value → State → State → Prop} (hy : yl.cls = RL) (hz : gz G = false) (hL : gL G ≤ 3072) (hk : 6 * k + 6 ≤ gL G) (hc9 : c + 1 < 100000) (I : LI G h b v F c p t o) (K : ∀ h2 b2 v2 F2 c2 p2 t2 o2, c2 ≤ c + 1 → LI G h2 b2 v2 F2 c2 p2 t2 o2 → AW G yl cL_law 4 (some .boolean) room_1 Z cn sn 1403 [some (.ref (gs G 6)), some (.ref (gB G + 0)), some (.ref (gB G + 80)), some (.int (nI (6 * k)))] [] h2) : AW G yl cL_law 4 (some .boolean) room_1 Z cn sn 627 [some (.ref (gs G 6)), some (.ref (gB G + 0)), some (.ref (gB G + 80)), some (.int (nI (6 * k)))] [] h := by
  refine a_aloadn_1 dL_law_627 ?_
  refine a_aloadn_0 dL_law_628 ?_
  refine a_iloadn_3 dL_law_629 ?_
  refine a_iconst (v := nI 1) dL_law_630 (by decide) ?_
  refine n_iadd dL_law_631 ?_
  refine a_scl (by omega) (6 * k + 1) dL_law_632 rfl (by omega) ?_
  refine a_aloadn_0 dL_law_633 ?_
  refine a_iloadn_3 dL_law_634 ?_
  refine a_iconst (v := nI 2) dL_law_635 (by decide) ?_
  refine n_iadd dL_law_636 ?_
  refine a_scl (by omega) (6 * k + 2) dL_law_637 rfl (by omega) ?_
  refine a_aloadn_0 dL_law_638 ?_
  refine a_iloadn_3 dL_law_639 ?_
  refine a_iconst (v := nI 3) dL_law_640 (by decide) ?_
  refine n_iadd dL_law_641 ?_
  refine a_scl (by omega) (6 * k + 3) dL_law_642 rfl (by omega) ?_
  refine cv_L_74 (d := 1000) (Nat.le_refl _) hy dL_law_643 I.1.c0 (Nat.le_of_ble_eq_true rfl) (bo_round (by decide) hz hc9 I (fun y h1 hfs M => ?_))
  obtain ⟨fs, hfs⟩ := hfs
  refine a_aloadn_2 dL_law_646 ?_
  refine a_aloadn_0 dL_law_647 ?_
  refine a_iloadn_3 dL_law_648 ?_
  refine a_iconst (v := nI 1) dL_law_649 (by decide) ?_
  refine n_iadd dL_law_650 ?_
  refine a_scl (by omega) (6 * k + 1) dL_law_651 rfl (by omega) ?_
  refine a_aloadn_0 dL_law_652 ?_
  refine a_iloadn_3 dL_law_653 ?_
  refine a_iconst (v := nI 2) dL_law_654 (by decide) ?_
  refine n_iadd dL_law_655 ?_
  refine a_scl (by omega) (6 * k + 2) dL_law_656 rfl (by omega) ?_
  refine a_aloadn_0 dL_law_657 ?_
  refine a_iloadn_3 dL_law_658 ?_
  refine a_iconst (v := nI 3) dL_law_659 (by decide) ?_
  refine n_iadd dL_law_660 ?_
  refine a_scl (by omega) (6 * k + 3) dL_law_661 rfl (by omega) ?_
  refine cv_L_77 (d := 1000) (Nat.le_refl _) hy dL_law_662 hfs (Nat.le_of_ble_eq_true rfl) (M _ (fun h2 b2 v2 F2 c2 p2 t2 o2 hc2 I2 => ?_))
  exact a_icmp_eq (tgt := 1403) dL_law_665 (by decide) (fun _ => K _ _ _ _ _ _ _ _ hc2 I2) (fun ne => absurd rfl ne)
set_option maxHeartbeats 4000000 in
theorem lc_15 {G : Cx} {yl : MethodName} {cn sn c k : Nat} {h : List va_E} {b : MB} {v : Cv} {F : Lf} {p : MP} {t : MT} {o : MO} {Z : List Frame → Array Value → State → State → Prop} (hy : yl.cls = RL) (hz : gz G = false) (hL : gL G ≤ 3072) (hk : 6 * k + 6 ≤ gL G) (hc9 : c + 1 < 100000) (I : LI G h b v F c p t o) (K : ∀ h2 b2 v2 F2 c2 p2 t2 o2, c2 ≤ c + 1 → LI G h2 b2 v2 F2 c2 p2 t2 o2 → AW G yl cL_law 4 (some .boolean) room_1 Z cn sn 1403 [some (.ref (gs G 6)), some (.ref (gB G + 0)), some (.ref (gB G + 80)), some (.int (nI (6 * k)))] [] h2) : AW G yl cL_law 4 (some .boolean) room_1 Z cn sn 670 [some (.ref (gs G 6)), some (.ref (gB G + 0)), some (.ref (gB G + 80)), some (.int (nI (6 * k)))] [] h := by
  refine a_aloadn_1 dL_law_670 ?_
  refine a_aloadn_0 dL_law_671 ?_
  refine a_iloadn_3 dL_law_672 ?_
  refine a_iconst (v := nI 1) dL_law_673 (by decide) ?_
  refine n_iadd dL_law_674 ?_
  refine a_scl (by omega) (6 * k + 1) dL_law_675 rfl (by omega) ?_
  refine cv_L_78 (d := 1000) (Nat.le_refl _) hy dL_law_676 I.1.c0 (Nat.le_of_ble_eq_true rfl) (bo_judge (by decide) hz hc9 I (fun y h1 hfs M => ?_))
  obtain ⟨fs, hfs⟩ := hfs
  refine a_aloadn_2 dL_law_679 ?_
  refine a_aloadn_0 dL_law_680 ?_
  refine a_iloadn_3 dL_law_681 ?_
  refine a_iconst (v := nI 1) dL_law_682 (by decide) ?_
  refine n_iadd dL_law_683 ?_
  refine a_scl (by omega) (6 * k + 1) dL_law_684 rfl (by omega) ?_
  refine cv_L_81 (d := 1000) (Nat.le_refl _) hy dL_law_685 hfs (Nat.le_of_ble_eq_true rfl) (M _ (fun h2 b2 v2 F2 c2 p2 t2 o2 hc2 I2 => ?_))
  exact a_icmp_eq (tgt := 1403) dL_law_688 (by decide) (fun _ => K _ _ _ _ _ _ _ _ hc2 I2) (fun ne => absurd rfl ne)
set_option maxHeartbeats 4000000 in
theorem lc_16 {G : Cx} {yl : MethodName} {cn sn c k : Nat} {h : List va_E} {b : MB} {v : Cv} {F : Lf} {p : MP} {t : MT} {o : MO} {Z : List Frame → Array Value → State → State → Prop} (hy : yl.cls = RL) (hz : gz G = false) (hL : gL G ≤ 3072) (hk : 6 * k + 6 ≤ gL G) (hc9 : c + 1 < 100000) (I : LI G h b v F c p t o) (K : ∀ h2 b2 v2 F2 c2 p2 t2 o2, c2 ≤ c + 1 → LI G h2 b2 v2 F2 c2 p2 t2 o2 → AW G yl cL_law 4 (some .boolean) room_1 Z cn sn 1403 [some (.ref (gs G 6)), some (.ref (gB G + 0)), some (.ref (gB G + 80)), some (.int (nI (6 * k)))] [] h2) : AW G yl cL_law 4 (some .boolean) room_1 Z cn sn 693 [some (.ref (gs G 6)), some (.ref (gB G + 0)), some (.ref (gB G + 80)), some (.int (nI (6 * k)))] [] h := by
  refine a_aloadn_1 dL_law_693 ?_
  refine a_aloadn_0 dL_law_694 ?_
  refine a_iloadn_3 dL_law_695 ?_
  refine a_iconst (v := nI 1) dL_law_696 (by decide) ?_
  refine n_iadd dL_law_697 ?_
  refine a_scl (by omega) (6 * k + 1) dL_law_698 rfl (by omega) ?_
  refine a_aloadn_0 dL_law_699 ?_
  refine a_iloadn_3 dL_law_700 ?_
  refine a_iconst (v := nI 2) dL_law_701 (by decide) ?_
  refine n_iadd dL_law_702 ?_
  refine a_scl (by omega) (6 * k + 2) dL_law_703 rfl (by omega) ?_
  refine a_aloadn_0 dL_law_704 ?_
  refine a_iloadn_3 dL_law_705 ?_
  refine a_iconst (v := nI 3) dL_law_706 (by decide) ?_
  refine n_iadd dL_law_707 ?_
  refine a_scl (by omega) (6 * k + 3) dL_law_708 rfl (by omega) ?_
  refine cv_L_82 (d := 1000) (Nat.le_refl _) hy dL_law_709 I.1.c0 (Nat.le_of_ble_eq_true rfl) (bo_draughts (by decide) hz hc9 I (fun y h1 hfs M => ?_))
  obtain ⟨fs, hfs⟩ := hfs
  refine a_aloadn_2 dL_law_712 ?_
  refine a_aloadn_0 dL_law_713 ?_
  refine a_iloadn_3 dL_law_714 ?_
  refine a_iconst (v := nI 1) dL_law_715 (by decide) ?_
  refine n_iadd dL_law_716 ?_
  refine a_scl (by omega) (6 * k + 1) dL_law_717 rfl (by omega) ?_
  refine a_aloadn_0 dL_law_718 ?_
  refine a_iloadn_3 dL_law_719 ?_
  refine a_iconst (v := nI 2) dL_law_720 (by decide) ?_
  refine n_iadd dL_law_721 ?_
  refine a_scl (by omega) (6 * k + 2) dL_law_722 rfl (by omega) ?_
  refine a_aloadn_0 dL_law_723 ?_
  refine a_iloadn_3 dL_law_724 ?_
  refine a_iconst (v := nI 3) dL_law_725 (by decide) ?_
  refine n_iadd dL_law_726 ?_
  refine a_scl (by omega) (6 * k + 3) dL_law_727 rfl (by omega) ?_
  refine cv_L_85 (d := 1000) (Nat.le_refl _) hy dL_law_728 hfs (Nat.le_of_ble_eq_true rfl) (M _ (fun h2 b2 v2 F2 c2 p2 t2 o2 hc2 I2 => ?_))
  exact a_icmp_eq (tgt := 1403) dL_law_731 (by decide) (fun _ => K _ _ _ _ _ _ _ _ hc2 I2) (fun ne => absurd rfl ne)
set_option maxHeartbeats 4000000 in
theorem lc_17 {G : Cx} {yl : MethodName} {cn sn c k : Nat} {h : List va_E} {b : MB} {v : Cv} {F : Lf} {p : MP} {t : MT} {o : MO} {Z : List Frame → Array Value → State → State → Prop} (hy : yl.cls = RL) (hz : gz G = false) (hL : gL G ≤ 3072) (hk : 6 * k + 6 ≤ gL G) (hc9 : c + 1 < 100000) (I : LI G h b v F c p t o) (K : ∀ h2 b2 v2 F2 c2 p2 t2 o2, c2 ≤ c + 1 → LI G h2 b2 v2 F2 c2 p2 t2 o2 → AW G yl cL_law 4 (some .boolean) room_1 Z cn sn 1403 [some (.ref (gs G 6)), some (.ref (gB G + 0)), some (.ref (gB G + 80)), some (.int (nI (6 * k)))] [] h2) : AW G yl cL_law 4 (some .boolean) room_1 Z cn sn 736 [some (.ref (gs G 6)), some (.ref (gB G + 0)), some (.ref (gB G + 80)), some (.int (nI (6 * k)))] [] h := by
  refine a_aloadn_1 dL_law_736 ?_
  refine a_aloadn_0 dL_law_737 ?_
  refine a_iloadn_3 dL_law_738 ?_
  refine a_iconst (v := nI 1) dL_law_739 (by decide) ?_
  refine n_iadd dL_law_740 ?_
  refine a_scl (by omega) (6 * k + 1) dL_law_741 rfl (by omega) ?_
  refine a_aloadn_0 dL_law_742 ?_
  refine a_iloadn_3 dL_law_743 ?_
  refine a_iconst (v := nI 2) dL_law_744 (by decide) ?_
  refine n_iadd dL_law_745 ?_
  refine a_scl (by omega) (6 * k + 2) dL_law_746 rfl (by omega) ?_
  refine cv_L_86 (d := 1000) (Nat.le_refl _) hy dL_law_747 I.1.c0 (Nat.le_of_ble_eq_true rfl) (bo_holds (by decide) hz hc9 I (fun y h1 hfs M => ?_))
  obtain ⟨fs, hfs⟩ := hfs
  refine a_aloadn_2 dL_law_750 ?_
  refine a_aloadn_0 dL_law_751 ?_
  refine a_iloadn_3 dL_law_752 ?_
  refine a_iconst (v := nI 1) dL_law_753 (by decide) ?_
  refine n_iadd dL_law_754 ?_
  refine a_scl (by omega) (6 * k + 1) dL_law_755 rfl (by omega) ?_
  refine a_aloadn_0 dL_law_756 ?_
  refine a_iloadn_3 dL_law_757 ?_
  refine a_iconst (v := nI 2) dL_law_758 (by decide) ?_
  refine n_iadd dL_law_759 ?_
  refine a_scl (by omega) (6 * k + 2) dL_law_760 rfl (by omega) ?_
  refine cv_L_89 (d := 1000) (Nat.le_refl _) hy dL_law_761 hfs (Nat.le_of_ble_eq_true rfl) (M _ (fun h2 b2 v2 F2 c2 p2 t2 o2 hc2 I2 => ?_))
  exact a_icmp_eq (tgt := 1403) dL_law_764 (by decide) (fun _ => K _ _ _ _ _ _ _ _ hc2 I2) (fun ne => absurd rfl ne)
set_option maxHeartbeats 4000000 in
theorem lc_18 {G : Cx} {yl : MethodName} {cn sn c k : Nat} {h : List va_E} {b : MB} {v : Cv} {F : Lf} {p : MP} {t : MT} {o : MO} {Z : List Frame → Array Value → State → State → Prop} (hy : yl.cls = RL) (hz : gz G = false) (hL : gL G ≤ 3072) (hk : 6 * k + 6 ≤ gL G) (hc9 : c + 1 < 100000) (I : LI G h b v F c p t o) (K : ∀ h2 b2 v2 F2 c2 p2 t2 o2, c2 ≤ c + 1 → LI G h2 b2 v2 F2 c2 p2 t2 o2 → AW G yl cL_law 4 (some .boolean) room_1 Z cn sn 1403 [some (.ref (gs G 6)), some (.ref (gB G + 0)), some (.ref (gB G + 80)), some (.int (nI (6 * k)))] [] h2) : AW G yl cL_law 4 (some .boolean) room_1 Z cn sn 769 [some (.ref (gs G 6)), some (.ref (gB G + 0)), some (.ref (gB G + 80)), some (.int (nI (6 * k)))] [] h := by
  refine a_aloadn_1 dL_law_769 ?_
  refine a_aloadn_0 dL_law_770 ?_
  refine a_iloadn_3 dL_law_771 ?_
  refine a_iconst (v := nI 1) dL_law_772 (by decide) ?_
  refine n_iadd dL_law_773 ?_
  refine a_scl (by omega) (6 * k + 1) dL_law_774 rfl (by omega) ?_
  refine a_aloadn_0 dL_law_775 ?_
  refine a_iloadn_3 dL_law_776 ?_
  refine a_iconst (v := nI 2) dL_law_777 (by decide) ?_
  refine n_iadd dL_law_778 ?_
  refine a_scl (by omega) (6 * k + 2) dL_law_779 rfl (by omega) ?_
  refine cv_L_90 (d := 1000) (Nat.le_refl _) hy dL_law_780 I.1.c0 (Nat.le_of_ble_eq_true rfl) (bo_byTurns (by decide) hz hc9 I (fun y h1 hfs M => ?_))
  obtain ⟨fs, hfs⟩ := hfs
  refine a_aloadn_2 dL_law_783 ?_
  refine a_aloadn_0 dL_law_784 ?_
  refine a_iloadn_3 dL_law_785 ?_
  refine a_iconst (v := nI 1) dL_law_786 (by decide) ?_
  refine n_iadd dL_law_787 ?_
  refine a_scl (by omega) (6 * k + 1) dL_law_788 rfl (by omega) ?_
  refine a_aloadn_0 dL_law_789 ?_
  refine a_iloadn_3 dL_law_790 ?_
  refine a_iconst (v := nI 2) dL_law_791 (by decide) ?_
  refine n_iadd dL_law_792 ?_
  refine a_scl (by omega) (6 * k + 2) dL_law_793 rfl (by omega) ?_
  refine cv_L_93 (d := 1000) (Nat.le_refl _) hy dL_law_794 hfs (Nat.le_of_ble_eq_true rfl) (M _ (fun h2 b2 v2 F2 c2 p2 t2 o2 hc2 I2 => ?_))
  exact a_icmp_eq (tgt := 1403) dL_law_797 (by decide) (fun _ => K _ _ _ _ _ _ _ _ hc2 I2) (fun ne => absurd rfl ne)
set_option maxHeartbeats 4000000 in
theorem lc_19 {G : Cx} {yl : MethodName} {cn sn c k : Nat} {h : List va_E} {b : MB} {v : Cv} {F : Lf} {p : MP} {t : MT} {o : MO} {Z : List Frame → Array Value → State → State → Prop} (hy : yl.cls = RL) (hz : gz G = false) (hL : gL G ≤ 3072) (hk : 6 * k + 6 ≤ gL G) (hc9 : c + 1 < 100000) (I : LI G h b v F c p t o) (K : ∀ h2 b2 v2 F2 c2 p2 t2 o2, c2 ≤ c + 1 → LI G h2 b2 v2 F2 c2 p2 t2 o2 → AW G yl cL_law 4 (some .boolean) room_1 Z cn sn 1403 [some (.ref (gs G 6)), some (.ref (gB G + 0)), some (.ref (gB G + 80)), some (.int (nI (6 * k)))] [] h2) : AW G yl cL_law 4 (some .boolean) room_1 Z cn sn 802 [some (.ref (gs G 6)), some (.ref (gB G + 0)), some (.ref (gB G + 80)), some (.int (nI (6 * k)))] [] h := by
  refine a_aloadn_1 dL_law_802 ?_
  refine a_aloadn_0 dL_law_803 ?_
  refine a_iloadn_3 dL_law_804 ?_
  refine a_iconst (v := nI 1) dL_law_805 (by decide) ?_
  refine n_iadd dL_law_806 ?_
  refine a_scl (by omega) (6 * k + 1) dL_law_807 rfl (by omega) ?_
  refine a_aloadn_0 dL_law_808 ?_
  refine a_iloadn_3 dL_law_809 ?_
  refine a_iconst (v := nI 2) dL_law_810 (by decide) ?_
  refine n_iadd dL_law_811 ?_
  refine a_scl (by omega) (6 * k + 2) dL_law_812 rfl (by omega) ?_
  refine a_aloadn_0 dL_law_813 ?_
  refine a_iloadn_3 dL_law_814 ?_
  refine a_iconst (v := nI 3) dL_law_815 (by decide) ?_
  refine n_iadd dL_law_816 ?_
  refine a_scl (by omega) (6 * k + 3) dL_law_817 rfl (by omega) ?_
  refine cv_L_94 (d := 1000) (Nat.le_refl _) hy dL_law_818 I.1.c0 (Nat.le_of_ble_eq_true rfl) (bo_drawn (by decide) hz hc9 I (fun y h1 hfs M => ?_))
  obtain ⟨fs, hfs⟩ := hfs
  refine a_aloadn_2 dL_law_821 ?_
  refine a_aloadn_0 dL_law_822 ?_
  refine a_iloadn_3 dL_law_823 ?_
  refine a_iconst (v := nI 1) dL_law_824 (by decide) ?_
  refine n_iadd dL_law_825 ?_
  refine a_scl (by omega) (6 * k + 1) dL_law_826 rfl (by omega) ?_
  refine a_aloadn_0 dL_law_827 ?_
  refine a_iloadn_3 dL_law_828 ?_
  refine a_iconst (v := nI 2) dL_law_829 (by decide) ?_
  refine n_iadd dL_law_830 ?_
  refine a_scl (by omega) (6 * k + 2) dL_law_831 rfl (by omega) ?_
  refine a_aloadn_0 dL_law_832 ?_
  refine a_iloadn_3 dL_law_833 ?_
  refine a_iconst (v := nI 3) dL_law_834 (by decide) ?_
  refine n_iadd dL_law_835 ?_
  refine a_scl (by omega) (6 * k + 3) dL_law_836 rfl (by omega) ?_
  refine cv_L_97 (d := 1000) (Nat.le_refl _) hy dL_law_837 hfs (Nat.le_of_ble_eq_true rfl) (M _ (fun h2 b2 v2 F2 c2 p2 t2 o2 hc2 I2 => ?_))
  exact a_icmp_eq (tgt := 1403) dL_law_840 (by decide) (fun _ => K _ _ _ _ _ _ _ _ hc2 I2) (fun ne => absurd rfl ne)
set_option maxHeartbeats 4000000 in
theorem lc_20 {G : Cx} {yl : MethodName} {cn sn c k : Nat} {h : List va_E} {b : MB} {v : Cv} {F : Lf} {p : MP} {t : MT} {o : MO} {Z : List Frame → Array Value → State → State → Prop} (hy : yl.cls = RL) (hz : gz G = false) (hL : gL G ≤ 3072) (hk : 6 * k + 6 ≤ gL G) (hc9 : c + 1 < 100000) (I : LI G h b v F c p t o) (K : ∀ h2 b2 v2 F2 c2 p2 t2 o2, c2 ≤ c + 1 → LI G h2 b2 v2 F2 c2 p2 t2 o2 → AW G yl cL_law 4 (some .boolean) room_1 Z cn sn 1403 [some (.ref (gs G 6)), some (.ref (gB G + 0)), some (.ref (gB G + 80)), some (.int (nI (6 * k)))] [] h2) : AW G yl cL_law 4 (some .boolean) room_1 Z cn sn 845 [some (.ref (gs G 6)), some (.ref (gB G + 0)), some (.ref (gB G + 80)), some (.int (nI (6 * k)))] [] h := by
  refine a_aloadn_1 dL_law_845 ?_
  refine cv_L_98 (d := 1000) (Nat.le_refl _) hy dL_law_846 I.1.c0 (Nat.le_of_ble_eq_true rfl) (bo_hour (by decide) hz hc9 I (fun y h1 hfs M => ?_))
  obtain ⟨fs, hfs⟩ := hfs
  refine a_aloadn_2 dL_law_849 ?_
  refine cv_L_101 (d := 1000) (Nat.le_refl _) hy dL_law_850 hfs (Nat.le_of_ble_eq_true rfl) (M _ (fun h2 b2 v2 F2 c2 p2 t2 o2 hc2 I2 => ?_))
  exact a_icmp_eq (tgt := 1403) dL_law_853 (by decide) (fun _ => K _ _ _ _ _ _ _ _ hc2 I2) (fun ne => absurd rfl ne)
set_option maxHeartbeats 4000000 in
theorem lc_21 {G : Cx} {yl : MethodName} {cn sn c k : Nat} {h : List va_E} {b : MB} {v : Cv} {F : Lf} {p : MP} {t : MT} {o : MO} {Z : List Frame → Array Value → State → State → Prop} (hy : yl.cls = RL) (hz : gz G = false) (hL : gL G ≤ 3072) (hk : 6 * k + 6 ≤ gL G) (hc9 : c + 1 < 100000) (I : LI G h b v F c p t o) (K : ∀ h2 b2 v2 F2 c2 p2 t2 o2, c2 ≤ c + 1 → LI G h2 b2 v2 F2 c2 p2 t2 o2 → AW G yl cL_law 4 (some .boolean) room_1 Z cn sn 1403 [some (.ref (gs G 6)), some (.ref (gB G + 0)), some (.ref (gB G + 80)), some (.int (nI (6 * k)))] [] h2) : AW G yl cL_law 4 (some .boolean) room_1 Z cn sn 858 [some (.ref (gs G 6)), some (.ref (gB G + 0)), some (.ref (gB G + 80)), some (.int (nI (6 * k)))] [] h := by
  refine a_aloadn_1 dL_law_858 ?_
  refine a_aloadn_0 dL_law_859 ?_
  refine a_iloadn_3 dL_law_860 ?_
  refine a_iconst (v := nI 1) dL_law_861 (by decide) ?_
  refine n_iadd dL_law_862 ?_
  refine a_scl (by omega) (6 * k + 1) dL_law_863 rfl (by omega) ?_
  refine a_aloadn_0 dL_law_864 ?_
  refine a_iloadn_3 dL_law_865 ?_
  refine a_iconst (v := nI 2) dL_law_866 (by decide) ?_
  refine n_iadd dL_law_867 ?_
  refine a_scl (by omega) (6 * k + 2) dL_law_868 rfl (by omega) ?_
  refine cv_L_102 (d := 1000) (Nat.le_refl _) hy dL_law_869 I.1.c0 (Nat.le_of_ble_eq_true rfl) (bo_stub (by decide) hz hc9 I (fun y h1 hfs M => ?_))
  obtain ⟨fs, hfs⟩ := hfs
  refine a_aloadn_2 dL_law_872 ?_
  refine a_aloadn_0 dL_law_873 ?_
  refine a_iloadn_3 dL_law_874 ?_
  refine a_iconst (v := nI 1) dL_law_875 (by decide) ?_
  refine n_iadd dL_law_876 ?_
  refine a_scl (by omega) (6 * k + 1) dL_law_877 rfl (by omega) ?_
  refine a_aloadn_0 dL_law_878 ?_
  refine a_iloadn_3 dL_law_879 ?_
  refine a_iconst (v := nI 2) dL_law_880 (by decide) ?_
  refine n_iadd dL_law_881 ?_
  refine a_scl (by omega) (6 * k + 2) dL_law_882 rfl (by omega) ?_
  refine cv_L_105 (d := 1000) (Nat.le_refl _) hy dL_law_883 hfs (Nat.le_of_ble_eq_true rfl) (M _ (fun h2 b2 v2 F2 c2 p2 t2 o2 hc2 I2 => ?_))
  exact a_icmp_eq (tgt := 1403) dL_law_886 (by decide) (fun _ => K _ _ _ _ _ _ _ _ hc2 I2) (fun ne => absurd rfl ne)
set_option maxHeartbeats 4000000 in
theorem lc_22 {G : Cx} {yl : MethodName} {cn sn c k : Nat} {h : List va_E} {b : MB} {v : Cv} {F : Lf} {p : MP} {t : MT} {o : MO} {Z : List Frame → Array Value → State → State → Prop} (hy : yl.cls = RL) (hz : gz G = false) (hL : gL G ≤ 3072) (hk : 6 * k + 6 ≤ gL G) (hc9 : c + 1 < 100000) (I : LI G h b v F c p t o) (K : ∀ h2 b2 v2 F2 c2 p2 t2 o2, c2 ≤ c + 1 → LI G h2 b2 v2 F2 c2 p2 t2 o2 → AW G yl cL_law 4 (some .boolean) room_1 Z cn sn 1403 [some (.ref (gs G 6)), some (.ref (gB G + 0)), some (.ref (gB G + 80)), some (.int (nI (6 * k)))] [] h2) : AW G yl cL_law 4 (some .boolean) room_1 Z cn sn 891 [some (.ref (gs G 6)), some (.ref (gB G + 0)), some (.ref (gB G + 80)), some (.int (nI (6 * k)))] [] h := by
  refine a_aloadn_1 dL_law_891 ?_
  refine a_aloadn_0 dL_law_892 ?_
  refine a_iloadn_3 dL_law_893 ?_
  refine a_iconst (v := nI 1) dL_law_894 (by decide) ?_
  refine n_iadd dL_law_895 ?_
  refine a_scl (by omega) (6 * k + 1) dL_law_896 rfl (by omega) ?_
  refine cv_L_106 (d := 1000) (Nat.le_refl _) hy dL_law_897 I.1.c0 (Nat.le_of_ble_eq_true rfl) (bo_blow (by decide) hz hc9 I (fun y h1 hfs M => ?_))
  obtain ⟨fs, hfs⟩ := hfs
  refine a_aloadn_2 dL_law_900 ?_
  refine a_aloadn_0 dL_law_901 ?_
  refine a_iloadn_3 dL_law_902 ?_
  refine a_iconst (v := nI 1) dL_law_903 (by decide) ?_
  refine n_iadd dL_law_904 ?_
  refine a_scl (by omega) (6 * k + 1) dL_law_905 rfl (by omega) ?_
  refine cv_L_109 (d := 1000) (Nat.le_refl _) hy dL_law_906 hfs (Nat.le_of_ble_eq_true rfl) (M _ (fun h2 b2 v2 F2 c2 p2 t2 o2 hc2 I2 => ?_))
  exact a_icmp_eq (tgt := 1403) dL_law_909 (by decide) (fun _ => K _ _ _ _ _ _ _ _ hc2 I2) (fun ne => absurd rfl ne)
set_option maxHeartbeats 4000000 in
theorem lc_23 {G : Cx} {yl : MethodName} {cn sn c k : Nat} {h : List va_E} {b : MB} {v : Cv} {F : Lf} {p : MP} {t : MT} {o : MO} {Z : List Frame → Array Value → State → State → Prop} (hy : yl.cls = RL) (hz : gz G = false) (hL : gL G ≤ 3072) (hk : 6 * k + 6 ≤ gL G) (hc9 : c + 1 < 100000) (I : LI G h b v F c p t o) (K : ∀ h2 b2 v2 F2 c2 p2 t2 o2, c2 ≤ c + 1 → LI G h2 b2 v2 F2 c2 p2 t2 o2 → AW G yl cL_law 4 (some .boolean) room_1 Z cn sn 1403 [some (.ref (gs G 6)), some (.ref (gB G + 0)), some (.ref (gB G + 80)), some (.int (nI (6 * k)))] [] h2) : AW G yl cL_law 4 (some .boolean) room_1 Z cn sn 914 [some (.ref (gs G 6)), some (.ref (gB G + 0)), some (.ref (gB G + 80)), some (.int (nI (6 * k)))] [] h := by
  refine a_aloadn_1 dL_law_914 ?_
  refine a_aloadn_0 dL_law_915 ?_
  refine a_iloadn_3 dL_law_916 ?_
  refine a_iconst (v := nI 1) dL_law_917 (by decide) ?_
  refine n_iadd dL_law_918 ?_
  refine a_scl (by omega) (6 * k + 1) dL_law_919 rfl (by omega) ?_
  refine cv_L_110 (d := 1000) (Nat.le_refl _) hy dL_law_920 I.1.c0 (Nat.le_of_ble_eq_true rfl) (bo_song (by decide) hz hc9 I (fun y h1 hfs M => ?_))
  obtain ⟨fs, hfs⟩ := hfs
  refine a_aloadn_2 dL_law_923 ?_
  refine a_aloadn_0 dL_law_924 ?_
  refine a_iloadn_3 dL_law_925 ?_
  refine a_iconst (v := nI 1) dL_law_926 (by decide) ?_
  refine n_iadd dL_law_927 ?_
  refine a_scl (by omega) (6 * k + 1) dL_law_928 rfl (by omega) ?_
  refine cv_L_113 (d := 1000) (Nat.le_refl _) hy dL_law_929 hfs (Nat.le_of_ble_eq_true rfl) (M _ (fun h2 b2 v2 F2 c2 p2 t2 o2 hc2 I2 => ?_))
  exact a_icmp_eq (tgt := 1403) dL_law_932 (by decide) (fun _ => K _ _ _ _ _ _ _ _ hc2 I2) (fun ne => absurd rfl ne)
set_option maxHeartbeats 4000000 in
theorem lc_24 {G : Cx} {yl : MethodName} {cn sn c k : Nat} {h : List va_E} {b : MB} {v : Cv} {F : Lf} {p : MP} {t : MT} {o : MO} {Z : List Frame → Array Value → State → State → Prop} (hy : yl.cls = RL) (hz : gz G = false) (hL : gL G ≤ 3072) (hk : 6 * k + 6 ≤ gL G) (hc9 : c + 1 < 100000) (I : LI G h b v F c p t o) (K : ∀ h2 b2 v2 F2 c2 p2 t2 o2, c2 ≤ c + 1 → LI G h2 b2 v2 F2 c2 p2 t2 o2 → AW G yl cL_law 4 (some .boolean) room_1 Z cn sn 1403 [some (.ref (gs G 6)), some (.ref (gB G + 0)), some (.ref (gB G + 80)), some (.int (nI (6 * k)))] [] h2) : AW G yl cL_law 4 (some .boolean) room_1 Z cn sn 937 [some (.ref (gs G 6)), some (.ref (gB G + 0)), some (.ref (gB G + 80)), some (.int (nI (6 * k)))] [] h := by
  refine a_aloadn_1 dL_law_937 ?_
  refine a_aloadn_0 dL_law_938 ?_
  refine a_iloadn_3 dL_law_939 ?_
  refine a_iconst (v := nI 1) dL_law_940 (by decide) ?_
  refine n_iadd dL_law_941 ?_
  refine a_scl (by omega) (6 * k + 1) dL_law_942 rfl (by omega) ?_
  refine cv_L_114 (d := 1000) (Nat.le_refl _) hy dL_law_943 I.1.c0 (Nat.le_of_ble_eq_true rfl) (bo_led (by decide) hz hc9 I (fun y h1 hfs M => ?_))
  obtain ⟨fs, hfs⟩ := hfs
  refine a_aloadn_2 dL_law_946 ?_
  refine a_aloadn_0 dL_law_947 ?_
  refine a_iloadn_3 dL_law_948 ?_
  refine a_iconst (v := nI 1) dL_law_949 (by decide) ?_
  refine n_iadd dL_law_950 ?_
  refine a_scl (by omega) (6 * k + 1) dL_law_951 rfl (by omega) ?_
  refine cv_L_117 (d := 1000) (Nat.le_refl _) hy dL_law_952 hfs (Nat.le_of_ble_eq_true rfl) (M _ (fun h2 b2 v2 F2 c2 p2 t2 o2 hc2 I2 => ?_))
  exact a_icmp_eq (tgt := 1403) dL_law_955 (by decide) (fun _ => K _ _ _ _ _ _ _ _ hc2 I2) (fun ne => absurd rfl ne)
set_option maxHeartbeats 4000000 in
theorem lc_25 {G : Cx} {yl : MethodName} {cn sn c k : Nat} {h : List va_E} {b : MB} {v : Cv} {F : Lf} {p : MP} {t : MT} {o : MO} {Z : List Frame → Array Value → State → State → Prop} (hy : yl.cls = RL) (hz : gz G = false) (hL : gL G ≤ 3072) (hk : 6 * k + 6 ≤ gL G) (hc9 : c + 1 < 100000) (I : LI G h b v F c p t o) (K : ∀ h2 b2 v2 F2 c2 p2 t2 o2, c2 ≤ c + 1 → LI G h2 b2 v2 F2 c2 p2 t2 o2 → AW G yl cL_law 4 (some .boolean) room_1 Z cn sn 1403 [some (.ref (gs G 6)), some (.ref (gB G + 0)), some (.ref (gB G + 80)), some (.int (nI (6 * k)))] [] h2) : AW G yl cL_law 4 (some .boolean) room_1 Z cn sn 960 [some (.ref (gs G 6)), some (.ref (gB G + 0)), some (.ref (gB G + 80)), some (.int (nI (6 * k)))] [] h := by
  refine a_aloadn_1 dL_law_960 ?_
  refine cv_L_118 (d := 1000) (Nat.le_refl _) hy dL_law_961 I.1.c0 (Nat.le_of_ble_eq_true rfl) (bo_image (by decide) hz hc9 I (fun y h1 hfs M => ?_))
  obtain ⟨fs, hfs⟩ := hfs
  refine a_aloadn_2 dL_law_964 ?_
  refine cv_L_121 (d := 1000) (Nat.le_refl _) hy dL_law_965 hfs (Nat.le_of_ble_eq_true rfl) (M _ (fun h2 b2 v2 F2 c2 p2 t2 o2 hc2 I2 => ?_))
  exact a_icmp_eq (tgt := 1403) dL_law_968 (by decide) (fun _ => K _ _ _ _ _ _ _ _ hc2 I2) (fun ne => absurd rfl ne)
set_option maxHeartbeats 4000000 in
theorem lc_26 {G : Cx} {yl : MethodName} {cn sn c k : Nat} {h : List va_E} {b : MB} {v : Cv} {F : Lf} {p : MP} {t : MT} {o : MO} {Z : List Frame → Array Value → State → State → Prop} (hy : yl.cls = RL) (hz : gz G = false) (hL : gL G ≤ 3072) (hk : 6 * k + 6 ≤ gL G) (hc9 : c + 1 < 100000) (I : LI G h b v F c p t o) (K : ∀ h2 b2 v2 F2 c2 p2 t2 o2, c2 ≤ c + 1 → LI G h2 b2 v2 F2 c2 p2 t2 o2 → AW G yl cL_law 4 (some .boolean) room_1 Z cn sn 1403 [some (.ref (gs G 6)), some (.ref (gB G + 0)), some (.ref (gB G + 80)), some (.int (nI (6 * k)))] [] h2) : AW G yl cL_law 4 (some .boolean) room_1 Z cn sn 973 [some (.ref (gs G 6)), some (.ref (gB G + 0)), some (.ref (gB G + 80)), some (.int (nI (6 * k)))] [] h := by
  refine a_aloadn_1 dL_law_973 ?_
  refine cv_L_122 (d := 1000) (Nat.le_refl _) hy dL_law_974 I.1.c0 (Nat.le_of_ble_eq_true rfl) (bo_back (by decide) hz hc9 I (fun y h1 hfs M => ?_))
  obtain ⟨fs, hfs⟩ := hfs
  refine a_aloadn_2 dL_law_977 ?_
  refine cv_L_125 (d := 1000) (Nat.le_refl _) hy dL_law_978 hfs (Nat.le_of_ble_eq_true rfl) (M _ (fun h2 b2 v2 F2 c2 p2 t2 o2 hc2 I2 => ?_))
  exact a_icmp_eq (tgt := 1403) dL_law_981 (by decide) (fun _ => K _ _ _ _ _ _ _ _ hc2 I2) (fun ne => absurd rfl ne)
set_option maxHeartbeats 4000000 in
theorem lc_27 {G : Cx} {yl : MethodName} {cn sn c k : Nat} {h : List va_E} {b : MB} {v : Cv} {F : Lf} {p : MP} {t : MT} {o : MO} {Z : List Frame → Array Value → State → State → Prop} (hy : yl.cls = RL) (hz : gz G = false) (hL : gL G ≤ 3072) (hk : 6 * k + 6 ≤ gL G) (hc9 : c + 1 < 100000) (I : LI G h b v F c p t o) (K : ∀ h2 b2 v2 F2 c2 p2 t2 o2, c2 ≤ c + 1 → LI G h2 b2 v2 F2 c2 p2 t2 o2 → AW G yl cL_law 4 (some .boolean) room_1 Z cn sn 1403 [some (.ref (gs G 6)), some (.ref (gB G + 0)), some (.ref (gB G + 80)), some (.int (nI (6 * k)))] [] h2) : AW G yl cL_law 4 (some .boolean) room_1 Z cn sn 986 [some (.ref (gs G 6)), some (.ref (gB G + 0)), some (.ref (gB G + 80)), some (.int (nI (6 * k)))] [] h := by
  refine a_aloadn_1 dL_law_986 ?_
  refine cv_L_126 (d := 1000) (Nat.le_refl _) hy dL_law_987 I.1.c0 (Nat.le_of_ble_eq_true rfl) (bo_undo (by decide) hz hc9 I (fun y h1 hfs M => ?_))
  obtain ⟨fs, hfs⟩ := hfs
  refine a_aloadn_2 dL_law_990 ?_
  refine cv_L_129 (d := 1000) (Nat.le_refl _) hy dL_law_991 hfs (Nat.le_of_ble_eq_true rfl) (M _ (fun h2 b2 v2 F2 c2 p2 t2 o2 hc2 I2 => ?_))
  exact a_icmp_eq (tgt := 1403) dL_law_994 (by decide) (fun _ => K _ _ _ _ _ _ _ _ hc2 I2) (fun ne => absurd rfl ne)
set_option maxHeartbeats 4000000 in
theorem lc_28 {G : Cx} {yl : MethodName} {cn sn c k : Nat} {h : List va_E} {b : MB} {v : Cv} {F : Lf} {p : MP} {t : MT} {o : MO} {Z : List Frame → Array Value → State → State → Prop} (hy : yl.cls = RL) (hz : gz G = false) (hL : gL G ≤ 3072) (hk : 6 * k + 6 ≤ gL G) (hc9 : c + 1 < 100000) (I : LI G h b v F c p t o) (K : ∀ h2 b2 v2 F2 c2 p2 t2 o2, c2 ≤ c + 1 → LI G h2 b2 v2 F2 c2 p2 t2 o2 → AW G yl cL_law 4 (some .boolean) room_1 Z cn sn 1403 [some (.ref (gs G 6)), some (.ref (gB G + 0)), some (.ref (gB G + 80)), some (.int (nI (6 * k)))] [] h2) : AW G yl cL_law 4 (some .boolean) room_1 Z cn sn 999 [some (.ref (gs G 6)), some (.ref (gB G + 0)), some (.ref (gB G + 80)), some (.int (nI (6 * k)))] [] h := by
  refine a_aloadn_1 dL_law_999 ?_
  refine cv_L_130 (d := 1000) (Nat.le_refl _) hy dL_law_1000 I.1.c0 (Nat.le_of_ble_eq_true rfl) (bo_redo (by decide) hz hc9 I (fun y h1 hfs M => ?_))
  obtain ⟨fs, hfs⟩ := hfs
  refine a_aloadn_2 dL_law_1003 ?_
  refine cv_L_133 (d := 1000) (Nat.le_refl _) hy dL_law_1004 hfs (Nat.le_of_ble_eq_true rfl) (M _ (fun h2 b2 v2 F2 c2 p2 t2 o2 hc2 I2 => ?_))
  exact a_icmp_eq (tgt := 1403) dL_law_1007 (by decide) (fun _ => K _ _ _ _ _ _ _ _ hc2 I2) (fun ne => absurd rfl ne)
set_option maxHeartbeats 4000000 in
theorem lc_29 {G : Cx} {yl : MethodName} {cn sn c k : Nat} {h : List va_E} {b : MB} {v : Cv} {F : Lf} {p : MP} {t : MT} {o : MO} {Z : List Frame → Array Value → State → State → Prop} (hy : yl.cls = RL) (hz : gz G = false) (hL : gL G ≤ 3072) (hk : 6 * k + 6 ≤ gL G) (hc9 : c + 1 < 100000) (I : LI G h b v F c p t o) (K : ∀ h2 b2 v2 F2 c2 p2 t2 o2, c2 ≤ c + 1 → LI G h2 b2 v2 F2 c2 p2 t2 o2 → AW G yl cL_law 4 (some .boolean) room_1 Z cn sn 1403 [some (.ref (gs G 6)), some (.ref (gB G + 0)), some (.ref (gB G + 80)), some (.int (nI (6 * k)))] [] h2) : AW G yl cL_law 4 (some .boolean) room_1 Z cn sn 1012 [some (.ref (gs G 6)), some (.ref (gB G + 0)), some (.ref (gB G + 80)), some (.int (nI (6 * k)))] [] h := by
  refine a_aloadn_1 dL_law_1012 ?_
  refine a_aloadn_0 dL_law_1013 ?_
  refine a_iloadn_3 dL_law_1014 ?_
  refine a_iconst (v := nI 1) dL_law_1015 (by decide) ?_
  refine n_iadd dL_law_1016 ?_
  refine a_scl (by omega) (6 * k + 1) dL_law_1017 rfl (by omega) ?_
  refine cv_L_134 (d := 1000) (Nat.le_refl _) hy dL_law_1018 I.1.c0 (Nat.le_of_ble_eq_true rfl) (bo_body (by decide) hz hc9 I (fun y h1 hfs M => ?_))
  obtain ⟨fs, hfs⟩ := hfs
  refine a_aloadn_2 dL_law_1021 ?_
  refine a_aloadn_0 dL_law_1022 ?_
  refine a_iloadn_3 dL_law_1023 ?_
  refine a_iconst (v := nI 1) dL_law_1024 (by decide) ?_
  refine n_iadd dL_law_1025 ?_
  refine a_scl (by omega) (6 * k + 1) dL_law_1026 rfl (by omega) ?_
  refine cv_L_137 (d := 1000) (Nat.le_refl _) hy dL_law_1027 hfs (Nat.le_of_ble_eq_true rfl) (M _ (fun h2 b2 v2 F2 c2 p2 t2 o2 hc2 I2 => ?_))
  exact a_icmp_eq (tgt := 1403) dL_law_1030 (by decide) (fun _ => K _ _ _ _ _ _ _ _ hc2 I2) (fun ne => absurd rfl ne)
set_option maxHeartbeats 4000000 in
theorem lc_30 {G : Cx} {yl : MethodName} {cn sn c k : Nat} {h : List va_E} {b : MB} {v : Cv} {F : Lf} {p : MP} {t : MT} {o : MO} {Z : List Frame → Array Value → State → State → Prop} (hy : yl.cls = RL) (hz : gz G = false) (hL : gL G ≤ 3072) (hk : 6 * k + 6 ≤ gL G) (hc9 : c + 1 < 100000) (I : LI G h b v F c p t o) (K : ∀ h2 b2 v2 F2 c2 p2 t2 o2, c2 ≤ c + 1 → LI G h2 b2 v2 F2 c2 p2 t2 o2 → AW G yl cL_law 4 (some .boolean) room_1 Z cn sn 1403 [some (.ref (gs G 6)), some (.ref (gB G + 0)), some (.ref (gB G + 80)), some (.int (nI (6 * k)))] [] h2) : AW G yl cL_law 4 (some .boolean) room_1 Z cn sn 1035 [some (.ref (gs G 6)), some (.ref (gB G + 0)), some (.ref (gB G + 80)), some (.int (nI (6 * k)))] [] h := by
  refine a_aloadn_1 dL_law_1035 ?_
  refine a_aloadn_0 dL_law_1036 ?_
  refine a_iloadn_3 dL_law_1037 ?_
  refine a_iconst (v := nI 1) dL_law_1038 (by decide) ?_
  refine n_iadd dL_law_1039 ?_
  refine a_scl (by omega) (6 * k + 1) dL_law_1040 rfl (by omega) ?_
  refine a_aloadn_0 dL_law_1041 ?_
  refine a_iloadn_3 dL_law_1042 ?_
  refine a_iconst (v := nI 2) dL_law_1043 (by decide) ?_
  refine n_iadd dL_law_1044 ?_
  refine a_scl (by omega) (6 * k + 2) dL_law_1045 rfl (by omega) ?_
  refine a_aloadn_0 dL_law_1046 ?_
  refine a_iloadn_3 dL_law_1047 ?_
  refine a_iconst (v := nI 3) dL_law_1048 (by decide) ?_
  refine n_iadd dL_law_1049 ?_
  refine a_scl (by omega) (6 * k + 3) dL_law_1050 rfl (by omega) ?_
  refine cv_L_138 (d := 1000) (Nat.le_refl _) hy dL_law_1051 I.1.c0 (Nat.le_of_ble_eq_true rfl) (bo_act (by decide) hz hc9 I (fun y h1 hfs M => ?_))
  obtain ⟨fs, hfs⟩ := hfs
  refine a_aloadn_2 dL_law_1054 ?_
  refine a_aloadn_0 dL_law_1055 ?_
  refine a_iloadn_3 dL_law_1056 ?_
  refine a_iconst (v := nI 1) dL_law_1057 (by decide) ?_
  refine n_iadd dL_law_1058 ?_
  refine a_scl (by omega) (6 * k + 1) dL_law_1059 rfl (by omega) ?_
  refine a_aloadn_0 dL_law_1060 ?_
  refine a_iloadn_3 dL_law_1061 ?_
  refine a_iconst (v := nI 2) dL_law_1062 (by decide) ?_
  refine n_iadd dL_law_1063 ?_
  refine a_scl (by omega) (6 * k + 2) dL_law_1064 rfl (by omega) ?_
  refine a_aloadn_0 dL_law_1065 ?_
  refine a_iloadn_3 dL_law_1066 ?_
  refine a_iconst (v := nI 3) dL_law_1067 (by decide) ?_
  refine n_iadd dL_law_1068 ?_
  refine a_scl (by omega) (6 * k + 3) dL_law_1069 rfl (by omega) ?_
  refine cv_L_141 (d := 1000) (Nat.le_refl _) hy dL_law_1070 hfs (Nat.le_of_ble_eq_true rfl) (M _ (fun h2 b2 v2 F2 c2 p2 t2 o2 hc2 I2 => ?_))
  exact a_icmp_eq (tgt := 1403) dL_law_1073 (by decide) (fun _ => K _ _ _ _ _ _ _ _ hc2 I2) (fun ne => absurd rfl ne)
set_option maxHeartbeats 4000000 in
theorem lc_31 {G : Cx} {yl : MethodName} {cn sn c k : Nat} {h : List va_E} {b : MB} {v : Cv} {F : Lf} {p : MP} {t : MT} {o : MO} {Z : List Frame → Array Value → State → State → Prop} (hy : yl.cls = RL) (hz : gz G = false) (hL : gL G ≤ 3072) (hk : 6 * k + 6 ≤ gL G) (hc9 : c + 1 < 100000) (I : LI G h b v F c p t o) (K : ∀ h2 b2 v2 F2 c2 p2 t2 o2, c2 ≤ c + 1 → LI G h2 b2 v2 F2 c2 p2 t2 o2 → AW G yl cL_law 4 (some .boolean) room_1 Z cn sn 1403 [some (.ref (gs G 6)), some (.ref (gB G + 0)), some (.ref (gB G + 80)), some (.int (nI (6 * k)))] [] h2) : AW G yl cL_law 4 (some .boolean) room_1 Z cn sn 1078 [some (.ref (gs G 6)), some (.ref (gB G + 0)), some (.ref (gB G + 80)), some (.int (nI (6 * k)))] [] h := by
  refine a_aloadn_1 dL_law_1078 ?_
  refine a_aloadn_0 dL_law_1079 ?_
  refine a_iloadn_3 dL_law_1080 ?_
  refine a_iconst (v := nI 1) dL_law_1081 (by decide) ?_
  refine n_iadd dL_law_1082 ?_
  refine a_scl (by omega) (6 * k + 1) dL_law_1083 rfl (by omega) ?_
  refine cv_L_142 (d := 1000) (Nat.le_refl _) hy dL_law_1084 I.1.c0 (Nat.le_of_ble_eq_true rfl) (bo_trace (by decide) hz hc9 I (fun y h1 hfs M => ?_))
  obtain ⟨fs, hfs⟩ := hfs
  refine a_aloadn_2 dL_law_1087 ?_
  refine a_aloadn_0 dL_law_1088 ?_
  refine a_iloadn_3 dL_law_1089 ?_
  refine a_iconst (v := nI 1) dL_law_1090 (by decide) ?_
  refine n_iadd dL_law_1091 ?_
  refine a_scl (by omega) (6 * k + 1) dL_law_1092 rfl (by omega) ?_
  refine cv_L_145 (d := 1000) (Nat.le_refl _) hy dL_law_1093 hfs (Nat.le_of_ble_eq_true rfl) (M _ (fun h2 b2 v2 F2 c2 p2 t2 o2 hc2 I2 => ?_))
  exact a_icmp_eq (tgt := 1403) dL_law_1096 (by decide) (fun _ => K _ _ _ _ _ _ _ _ hc2 I2) (fun ne => absurd rfl ne)
set_option maxHeartbeats 4000000 in
theorem lc_32 {G : Cx} {yl : MethodName} {cn sn c k : Nat} {h : List va_E} {b : MB} {v : Cv} {F : Lf} {p : MP} {t : MT} {o : MO} {Z : List Frame → Array Value → State → State → Prop} (hy : yl.cls = RL) (hz : gz G = false) (hL : gL G ≤ 3072) (hk : 6 * k + 6 ≤ gL G) (hc9 : c + 1 < 100000) (I : LI G h b v F c p t o) (K : ∀ h2 b2 v2 F2 c2 p2 t2 o2, c2 ≤ c + 1 → LI G h2 b2 v2 F2 c2 p2 t2 o2 → AW G yl cL_law 4 (some .boolean) room_1 Z cn sn 1403 [some (.ref (gs G 6)), some (.ref (gB G + 0)), some (.ref (gB G + 80)), some (.int (nI (6 * k)))] [] h2) : AW G yl cL_law 4 (some .boolean) room_1 Z cn sn 1101 [some (.ref (gs G 6)), some (.ref (gB G + 0)), some (.ref (gB G + 80)), some (.int (nI (6 * k)))] [] h := by
  refine a_aloadn_1 dL_law_1101 ?_
  refine a_aloadn_0 dL_law_1102 ?_
  refine a_iloadn_3 dL_law_1103 ?_
  refine a_iconst (v := nI 1) dL_law_1104 (by decide) ?_
  refine n_iadd dL_law_1105 ?_
  refine a_scl (by omega) (6 * k + 1) dL_law_1106 rfl (by omega) ?_
  refine a_aloadn_0 dL_law_1107 ?_
  refine a_iloadn_3 dL_law_1108 ?_
  refine a_iconst (v := nI 2) dL_law_1109 (by decide) ?_
  refine n_iadd dL_law_1110 ?_
  refine a_scl (by omega) (6 * k + 2) dL_law_1111 rfl (by omega) ?_
  refine cv_L_146 (d := 1000) (Nat.le_refl _) hy dL_law_1112 I.1.c0 (Nat.le_of_ble_eq_true rfl) (bo_keep (by decide) hz hc9 I (fun y h1 hfs M => ?_))
  obtain ⟨fs, hfs⟩ := hfs
  refine a_aloadn_2 dL_law_1115 ?_
  refine a_aloadn_0 dL_law_1116 ?_
  refine a_iloadn_3 dL_law_1117 ?_
  refine a_iconst (v := nI 1) dL_law_1118 (by decide) ?_
  refine n_iadd dL_law_1119 ?_
  refine a_scl (by omega) (6 * k + 1) dL_law_1120 rfl (by omega) ?_
  refine a_aloadn_0 dL_law_1121 ?_
  refine a_iloadn_3 dL_law_1122 ?_
  refine a_iconst (v := nI 2) dL_law_1123 (by decide) ?_
  refine n_iadd dL_law_1124 ?_
  refine a_scl (by omega) (6 * k + 2) dL_law_1125 rfl (by omega) ?_
  refine cv_L_149 (d := 1000) (Nat.le_refl _) hy dL_law_1126 hfs (Nat.le_of_ble_eq_true rfl) (M _ (fun h2 b2 v2 F2 c2 p2 t2 o2 hc2 I2 => ?_))
  exact a_icmp_eq (tgt := 1403) dL_law_1129 (by decide) (fun _ => K _ _ _ _ _ _ _ _ hc2 I2) (fun ne => absurd rfl ne)
set_option maxHeartbeats 4000000 in
theorem lc_33 {G : Cx} {yl : MethodName} {cn sn c k : Nat} {h : List va_E} {b : MB} {v : Cv} {F : Lf} {p : MP} {t : MT} {o : MO} {Z : List Frame → Array Value → State → State → Prop} (hy : yl.cls = RL) (hz : gz G = false) (hL : gL G ≤ 3072) (hk : 6 * k + 6 ≤ gL G) (hc9 : c + 1 < 100000) (I : LI G h b v F c p t o) (K : ∀ h2 b2 v2 F2 c2 p2 t2 o2, c2 ≤ c + 1 → LI G h2 b2 v2 F2 c2 p2 t2 o2 → AW G yl cL_law 4 (some .boolean) room_1 Z cn sn 1403 [some (.ref (gs G 6)), some (.ref (gB G + 0)), some (.ref (gB G + 80)), some (.int (nI (6 * k)))] [] h2) : AW G yl cL_law 4 (some .boolean) room_1 Z cn sn 1134 [some (.ref (gs G 6)), some (.ref (gB G + 0)), some (.ref (gB G + 80)), some (.int (nI (6 * k)))] [] h := by
  refine a_aloadn_1 dL_law_1134 ?_
  refine a_aloadn_0 dL_law_1135 ?_
  refine a_iloadn_3 dL_law_1136 ?_
  refine a_iconst (v := nI 1) dL_law_1137 (by decide) ?_
  refine n_iadd dL_law_1138 ?_
  refine a_scl (by omega) (6 * k + 1) dL_law_1139 rfl (by omega) ?_
  refine a_aloadn_0 dL_law_1140 ?_
  refine a_iloadn_3 dL_law_1141 ?_
  refine a_iconst (v := nI 2) dL_law_1142 (by decide) ?_
  refine n_iadd dL_law_1143 ?_
  refine a_scl (by omega) (6 * k + 2) dL_law_1144 rfl (by omega) ?_
  refine a_aloadn_0 dL_law_1145 ?_
  refine a_iloadn_3 dL_law_1146 ?_
  refine a_iconst (v := nI 3) dL_law_1147 (by decide) ?_
  refine n_iadd dL_law_1148 ?_
  refine a_scl (by omega) (6 * k + 3) dL_law_1149 rfl (by omega) ?_
  refine cv_L_150 (d := 1000) (Nat.le_refl _) hy dL_law_1150 I.1.c0 (Nat.le_of_ble_eq_true rfl) (bo_row (by decide) hz hc9 I (fun y h1 hfs M => ?_))
  obtain ⟨fs, hfs⟩ := hfs
  refine a_aloadn_2 dL_law_1153 ?_
  refine a_aloadn_0 dL_law_1154 ?_
  refine a_iloadn_3 dL_law_1155 ?_
  refine a_iconst (v := nI 1) dL_law_1156 (by decide) ?_
  refine n_iadd dL_law_1157 ?_
  refine a_scl (by omega) (6 * k + 1) dL_law_1158 rfl (by omega) ?_
  refine a_aloadn_0 dL_law_1159 ?_
  refine a_iloadn_3 dL_law_1160 ?_
  refine a_iconst (v := nI 2) dL_law_1161 (by decide) ?_
  refine n_iadd dL_law_1162 ?_
  refine a_scl (by omega) (6 * k + 2) dL_law_1163 rfl (by omega) ?_
  refine a_aloadn_0 dL_law_1164 ?_
  refine a_iloadn_3 dL_law_1165 ?_
  refine a_iconst (v := nI 3) dL_law_1166 (by decide) ?_
  refine n_iadd dL_law_1167 ?_
  refine a_scl (by omega) (6 * k + 3) dL_law_1168 rfl (by omega) ?_
  refine cv_L_153 (d := 1000) (Nat.le_refl _) hy dL_law_1169 hfs (Nat.le_of_ble_eq_true rfl) (M _ (fun h2 b2 v2 F2 c2 p2 t2 o2 hc2 I2 => ?_))
  exact a_icmp_eq (tgt := 1403) dL_law_1172 (by decide) (fun _ => K _ _ _ _ _ _ _ _ hc2 I2) (fun ne => absurd rfl ne)
set_option maxHeartbeats 4000000 in
theorem lc_34 {G : Cx} {yl : MethodName} {cn sn c k : Nat} {h : List va_E} {b : MB} {v : Cv} {F : Lf} {p : MP} {t : MT} {o : MO} {Z : List Frame → Array Value → State → State → Prop} (hy : yl.cls = RL) (hz : gz G = false) (hL : gL G ≤ 3072) (hk : 6 * k + 6 ≤ gL G) (hc9 : c + 1 < 100000) (I : LI G h b v F c p t o) (K : ∀ h2 b2 v2 F2 c2 p2 t2 o2, c2 ≤ c + 1 → LI G h2 b2 v2 F2 c2 p2 t2 o2 → AW G yl cL_law 4 (some .boolean) room_1 Z cn sn 1403 [some (.ref (gs G 6)), some (.ref (gB G + 0)), some (.ref (gB G + 80)), some (.int (nI (6 * k)))] [] h2) : AW G yl cL_law 4 (some .boolean) room_1 Z cn sn 1177 [some (.ref (gs G 6)), some (.ref (gB G + 0)), some (.ref (gB G + 80)), some (.int (nI (6 * k)))] [] h := by
  refine a_aloadn_1 dL_law_1177 ?_
  refine a_aloadn_0 dL_law_1178 ?_
  refine a_iloadn_3 dL_law_1179 ?_
  refine a_iconst (v := nI 1) dL_law_1180 (by decide) ?_
  refine n_iadd dL_law_1181 ?_
  refine a_scl (by omega) (6 * k + 1) dL_law_1182 rfl (by omega) ?_
  refine a_aloadn_0 dL_law_1183 ?_
  refine a_iloadn_3 dL_law_1184 ?_
  refine a_iconst (v := nI 2) dL_law_1185 (by decide) ?_
  refine n_iadd dL_law_1186 ?_
  refine a_scl (by omega) (6 * k + 2) dL_law_1187 rfl (by omega) ?_
  refine a_aloadn_0 dL_law_1188 ?_
  refine a_iloadn_3 dL_law_1189 ?_
  refine a_iconst (v := nI 3) dL_law_1190 (by decide) ?_
  refine n_iadd dL_law_1191 ?_
  refine a_scl (by omega) (6 * k + 3) dL_law_1192 rfl (by omega) ?_
  refine a_i2l dL_law_1193 ?_
  refine a_bipush (v := nI 32) dL_law_1194 (by decide) ?_
  refine a_lshl dL_law_1196 ?_
  refine a_aloadn_0 dL_law_1197 ?_
  refine a_iloadn_3 dL_law_1198 ?_
  refine a_iconst (v := nI 4) dL_law_1199 (by decide) ?_
  refine n_iadd dL_law_1200 ?_
  refine a_scl (by omega) (6 * k + 4) dL_law_1201 rfl (by omega) ?_
  refine a_i2l dL_law_1202 ?_
  refine a_ldc2 dL_law_1203 (by rw [hy]; exact w_1487) ?_
  refine a_land dL_law_1206 ?_
  refine a_lor dL_law_1207 ?_
  refine cv_L_156 (d := 1000) (Nat.le_refl _) hy dL_law_1208 I.1.c0 (Nat.le_of_ble_eq_true rfl) (bo_put (by decide) hz hc9 I (fun y h1 hfs M => ?_))
  obtain ⟨fs, hfs⟩ := hfs
  refine a_aloadn_2 dL_law_1211 ?_
  refine a_aloadn_0 dL_law_1212 ?_
  refine a_iloadn_3 dL_law_1213 ?_
  refine a_iconst (v := nI 1) dL_law_1214 (by decide) ?_
  refine n_iadd dL_law_1215 ?_
  refine a_scl (by omega) (6 * k + 1) dL_law_1216 rfl (by omega) ?_
  refine a_aloadn_0 dL_law_1217 ?_
  refine a_iloadn_3 dL_law_1218 ?_
  refine a_iconst (v := nI 2) dL_law_1219 (by decide) ?_
  refine n_iadd dL_law_1220 ?_
  refine a_scl (by omega) (6 * k + 2) dL_law_1221 rfl (by omega) ?_
  refine a_aloadn_0 dL_law_1222 ?_
  refine a_iloadn_3 dL_law_1223 ?_
  refine a_iconst (v := nI 3) dL_law_1224 (by decide) ?_
  refine n_iadd dL_law_1225 ?_
  refine a_scl (by omega) (6 * k + 3) dL_law_1226 rfl (by omega) ?_
  refine a_i2l dL_law_1227 ?_
  refine a_bipush (v := nI 32) dL_law_1228 (by decide) ?_
  refine a_lshl dL_law_1230 ?_
  refine a_aloadn_0 dL_law_1231 ?_
  refine a_iloadn_3 dL_law_1232 ?_
  refine a_iconst (v := nI 4) dL_law_1233 (by decide) ?_
  refine n_iadd dL_law_1234 ?_
  refine a_scl (by omega) (6 * k + 4) dL_law_1235 rfl (by omega) ?_
  refine a_i2l dL_law_1236 ?_
  refine a_ldc2 dL_law_1237 (by rw [hy]; exact w_1487) ?_
  refine a_land dL_law_1240 ?_
  refine a_lor dL_law_1241 ?_
  refine cv_L_160 (d := 1000) (Nat.le_refl _) hy dL_law_1242 hfs (Nat.le_of_ble_eq_true rfl) (M _ (fun h2 b2 v2 F2 c2 p2 t2 o2 hc2 I2 => ?_))
  exact a_icmp_eq (tgt := 1403) dL_law_1245 (by decide) (fun _ => K _ _ _ _ _ _ _ _ hc2 I2) (fun ne => absurd rfl ne)
set_option maxHeartbeats 4000000 in
theorem lc_35 {G : Cx} {yl : MethodName} {cn sn c k : Nat} {h : List va_E} {b : MB} {v : Cv} {F : Lf} {p : MP} {t : MT} {o : MO} {Z : List Frame → Array Value → State → State → Prop} (hy : yl.cls = RL) (hz : gz G = false) (hL : gL G ≤ 3072) (hk : 6 * k + 6 ≤ gL G) (hc9 : c + 1 < 100000) (I : LI G h b v F c p t o) (K : ∀ h2 b2 v2 F2 c2 p2 t2 o2, c2 ≤ c + 1 → LI G h2 b2 v2 F2 c2 p2 t2 o2 → AW G yl cL_law 4 (some .boolean) room_1 Z cn sn 1403 [some (.ref (gs G 6)), some (.ref (gB G + 0)), some (.ref (gB G + 80)), some (.int (nI (6 * k)))] [] h2) : AW G yl cL_law 4 (some .boolean) room_1 Z cn sn 1250 [some (.ref (gs G 6)), some (.ref (gB G + 0)), some (.ref (gB G + 80)), some (.int (nI (6 * k)))] [] h := by
  refine a_aloadn_1 dL_law_1250 ?_
  refine a_aloadn_0 dL_law_1251 ?_
  refine a_iloadn_3 dL_law_1252 ?_
  refine a_iconst (v := nI 1) dL_law_1253 (by decide) ?_
  refine n_iadd dL_law_1254 ?_
  refine a_scl (by omega) (6 * k + 1) dL_law_1255 rfl (by omega) ?_
  refine a_aloadn_0 dL_law_1256 ?_
  refine a_iloadn_3 dL_law_1257 ?_
  refine a_iconst (v := nI 2) dL_law_1258 (by decide) ?_
  refine n_iadd dL_law_1259 ?_
  refine a_scl (by omega) (6 * k + 2) dL_law_1260 rfl (by omega) ?_
  refine cv_L_161 (d := 1000) (Nat.le_refl _) hy dL_law_1261 I.1.c0 (Nat.le_of_ble_eq_true rfl) (bo_element (by decide) hz hc9 I (fun y h1 hfs M => ?_))
  obtain ⟨fs, hfs⟩ := hfs
  refine a_aloadn_2 dL_law_1264 ?_
  refine a_aloadn_0 dL_law_1265 ?_
  refine a_iloadn_3 dL_law_1266 ?_
  refine a_iconst (v := nI 1) dL_law_1267 (by decide) ?_
  refine n_iadd dL_law_1268 ?_
  refine a_scl (by omega) (6 * k + 1) dL_law_1269 rfl (by omega) ?_
  refine a_aloadn_0 dL_law_1270 ?_
  refine a_iloadn_3 dL_law_1271 ?_
  refine a_iconst (v := nI 2) dL_law_1272 (by decide) ?_
  refine n_iadd dL_law_1273 ?_
  refine a_scl (by omega) (6 * k + 2) dL_law_1274 rfl (by omega) ?_
  refine cv_L_165 (d := 1000) (Nat.le_refl _) hy dL_law_1275 hfs (Nat.le_of_ble_eq_true rfl) (M _ (fun h2 b2 v2 F2 c2 p2 t2 o2 hc2 I2 => ?_))
  refine a_lcmp dL_law_1278 ?_
  exact a_if_eq (tgt := 1403) dL_law_1279 (by decide) (fun _ => K _ _ _ _ _ _ _ _ hc2 I2) (fun ne => absurd ((lg_cmp0 y y).mpr rfl) ne)
set_option maxHeartbeats 4000000 in
theorem lc_36 {G : Cx} {yl : MethodName} {cn sn c k : Nat} {h : List va_E} {b : MB} {v : Cv} {F : Lf} {p : MP} {t : MT} {o : MO} {Z : List Frame → Array Value → State → State → Prop} (hy : yl.cls = RL) (hz : gz G = false) (hL : gL G ≤ 3072) (hk : 6 * k + 6 ≤ gL G) (hc9 : c + 1 < 100000) (I : LI G h b v F c p t o) (K : ∀ h2 b2 v2 F2 c2 p2 t2 o2, c2 ≤ c + 1 → LI G h2 b2 v2 F2 c2 p2 t2 o2 → AW G yl cL_law 4 (some .boolean) room_1 Z cn sn 1403 [some (.ref (gs G 6)), some (.ref (gB G + 0)), some (.ref (gB G + 80)), some (.int (nI (6 * k)))] [] h2) : AW G yl cL_law 4 (some .boolean) room_1 Z cn sn 1284 [some (.ref (gs G 6)), some (.ref (gB G + 0)), some (.ref (gB G + 80)), some (.int (nI (6 * k)))] [] h := by
  refine a_aloadn_1 dL_law_1284 ?_
  refine a_aloadn_0 dL_law_1285 ?_
  refine a_iloadn_3 dL_law_1286 ?_
  refine a_iconst (v := nI 1) dL_law_1287 (by decide) ?_
  refine n_iadd dL_law_1288 ?_
  refine a_scl (by omega) (6 * k + 1) dL_law_1289 rfl (by omega) ?_
  refine a_aloadn_0 dL_law_1290 ?_
  refine a_iloadn_3 dL_law_1291 ?_
  refine a_iconst (v := nI 2) dL_law_1292 (by decide) ?_
  refine n_iadd dL_law_1293 ?_
  refine a_scl (by omega) (6 * k + 2) dL_law_1294 rfl (by omega) ?_
  refine a_aloadn_0 dL_law_1295 ?_
  refine a_iloadn_3 dL_law_1296 ?_
  refine a_iconst (v := nI 3) dL_law_1297 (by decide) ?_
  refine n_iadd dL_law_1298 ?_
  refine a_scl (by omega) (6 * k + 3) dL_law_1299 rfl (by omega) ?_
  refine a_aloadn_0 dL_law_1300 ?_
  refine a_iloadn_3 dL_law_1301 ?_
  refine a_iconst (v := nI 4) dL_law_1302 (by decide) ?_
  refine n_iadd dL_law_1303 ?_
  refine a_scl (by omega) (6 * k + 4) dL_law_1304 rfl (by omega) ?_
  refine a_aloadn_0 dL_law_1305 ?_
  refine a_iloadn_3 dL_law_1306 ?_
  refine a_iconst (v := nI 5) dL_law_1307 (by decide) ?_
  refine n_iadd dL_law_1308 ?_
  refine a_scl (by omega) (6 * k + 5) dL_law_1309 rfl (by omega) ?_
  refine cv_L_166 (d := 1000) (Nat.le_refl _) hy dL_law_1310 I.1.c0 (Nat.le_of_ble_eq_true rfl) (bo_shift (by decide) hz hc9 I (fun y h1 hfs M => ?_))
  obtain ⟨fs, hfs⟩ := hfs
  refine a_aloadn_2 dL_law_1313 ?_
  refine a_aloadn_0 dL_law_1314 ?_
  refine a_iloadn_3 dL_law_1315 ?_
  refine a_iconst (v := nI 1) dL_law_1316 (by decide) ?_
  refine n_iadd dL_law_1317 ?_
  refine a_scl (by omega) (6 * k + 1) dL_law_1318 rfl (by omega) ?_
  refine a_aloadn_0 dL_law_1319 ?_
  refine a_iloadn_3 dL_law_1320 ?_
  refine a_iconst (v := nI 2) dL_law_1321 (by decide) ?_
  refine n_iadd dL_law_1322 ?_
  refine a_scl (by omega) (6 * k + 2) dL_law_1323 rfl (by omega) ?_
  refine a_aloadn_0 dL_law_1324 ?_
  refine a_iloadn_3 dL_law_1325 ?_
  refine a_iconst (v := nI 3) dL_law_1326 (by decide) ?_
  refine n_iadd dL_law_1327 ?_
  refine a_scl (by omega) (6 * k + 3) dL_law_1328 rfl (by omega) ?_
  refine a_aloadn_0 dL_law_1329 ?_
  refine a_iloadn_3 dL_law_1330 ?_
  refine a_iconst (v := nI 4) dL_law_1331 (by decide) ?_
  refine n_iadd dL_law_1332 ?_
  refine a_scl (by omega) (6 * k + 4) dL_law_1333 rfl (by omega) ?_
  refine a_aloadn_0 dL_law_1334 ?_
  refine a_iloadn_3 dL_law_1335 ?_
  refine a_iconst (v := nI 5) dL_law_1336 (by decide) ?_
  refine n_iadd dL_law_1337 ?_
  refine a_scl (by omega) (6 * k + 5) dL_law_1338 rfl (by omega) ?_
  refine cv_L_170 (d := 1000) (Nat.le_refl _) hy dL_law_1339 hfs (Nat.le_of_ble_eq_true rfl) (M _ (fun h2 b2 v2 F2 c2 p2 t2 o2 hc2 I2 => ?_))
  exact a_icmp_eq (tgt := 1403) dL_law_1342 (by decide) (fun _ => K _ _ _ _ _ _ _ _ hc2 I2) (fun ne => absurd rfl ne)
set_option maxHeartbeats 4000000 in
theorem lc_37 {G : Cx} {yl : MethodName} {cn sn c k : Nat} {h : List va_E} {b : MB} {v : Cv} {F : Lf} {p : MP} {t : MT} {o : MO} {Z : List Frame → Array Value → State → State → Prop} (hy : yl.cls = RL) (hz : gz G = false) (hL : gL G ≤ 3072) (hk : 6 * k + 6 ≤ gL G) (hc9 : c + 1 < 100000) (I : LI G h b v F c p t o) (K : ∀ h2 b2 v2 F2 c2 p2 t2 o2, c2 ≤ c + 1 → LI G h2 b2 v2 F2 c2 p2 t2 o2 → AW G yl cL_law 4 (some .boolean) room_1 Z cn sn 1403 [some (.ref (gs G 6)), some (.ref (gB G + 0)), some (.ref (gB G + 80)), some (.int (nI (6 * k)))] [] h2) : AW G yl cL_law 4 (some .boolean) room_1 Z cn sn 1347 [some (.ref (gs G 6)), some (.ref (gB G + 0)), some (.ref (gB G + 80)), some (.int (nI (6 * k)))] [] h := by
  refine a_aloadn_1 dL_law_1347 ?_
  refine a_aloadn_0 dL_law_1348 ?_
  refine a_iloadn_3 dL_law_1349 ?_
  refine a_iconst (v := nI 1) dL_law_1350 (by decide) ?_
  refine n_iadd dL_law_1351 ?_
  refine a_scl (by omega) (6 * k + 1) dL_law_1352 rfl (by omega) ?_
  refine a_aloadn_0 dL_law_1353 ?_
  refine a_iloadn_3 dL_law_1354 ?_
  refine a_iconst (v := nI 2) dL_law_1355 (by decide) ?_
  refine n_iadd dL_law_1356 ?_
  refine a_scl (by omega) (6 * k + 2) dL_law_1357 rfl (by omega) ?_
  refine cv_L_171 (d := 1000) (Nat.le_refl _) hy dL_law_1358 I.1.c0 (Nat.le_of_ble_eq_true rfl) (bo_taken (by decide) hz hc9 I (fun y h1 hfs M => ?_))
  obtain ⟨fs, hfs⟩ := hfs
  refine a_aloadn_2 dL_law_1361 ?_
  refine a_aloadn_0 dL_law_1362 ?_
  refine a_iloadn_3 dL_law_1363 ?_
  refine a_iconst (v := nI 1) dL_law_1364 (by decide) ?_
  refine n_iadd dL_law_1365 ?_
  refine a_scl (by omega) (6 * k + 1) dL_law_1366 rfl (by omega) ?_
  refine a_aloadn_0 dL_law_1367 ?_
  refine a_iloadn_3 dL_law_1368 ?_
  refine a_iconst (v := nI 2) dL_law_1369 (by decide) ?_
  refine n_iadd dL_law_1370 ?_
  refine a_scl (by omega) (6 * k + 2) dL_law_1371 rfl (by omega) ?_
  refine cv_L_174 (d := 1000) (Nat.le_refl _) hy dL_law_1372 hfs (Nat.le_of_ble_eq_true rfl) (M _ (fun h2 b2 v2 F2 c2 p2 t2 o2 hc2 I2 => ?_))
  exact a_icmp_eq (tgt := 1403) dL_law_1375 (by decide) (fun _ => K _ _ _ _ _ _ _ _ hc2 I2) (fun ne => absurd rfl ne)
set_option maxHeartbeats 4000000 in
theorem lc_38 {G : Cx} {yl : MethodName} {cn sn c k : Nat} {h : List va_E} {b : MB} {v : Cv} {F : Lf} {p : MP} {t : MT} {o : MO} {Z : List Frame → Array Value → State → State → Prop} (hy : yl.cls = RL) (hz : gz G = false) (hL : gL G ≤ 3072) (hk : 6 * k + 6 ≤ gL G) (hc9 : c + 1 < 100000) (I : LI G h b v F c p t o) (K : ∀ h2 b2 v2 F2 c2 p2 t2 o2, c2 ≤ c + 1 → LI G h2 b2 v2 F2 c2 p2 t2 o2 → AW G yl cL_law 4 (some .boolean) room_1 Z cn sn 1403 [some (.ref (gs G 6)), some (.ref (gB G + 0)), some (.ref (gB G + 80)), some (.int (nI (6 * k)))] [] h2) : AW G yl cL_law 4 (some .boolean) room_1 Z cn sn 1380 [some (.ref (gs G 6)), some (.ref (gB G + 0)), some (.ref (gB G + 80)), some (.int (nI (6 * k)))] [] h := by
  refine a_aloadn_1 dL_law_1380 ?_
  refine a_aloadn_0 dL_law_1381 ?_
  refine a_iloadn_3 dL_law_1382 ?_
  refine a_iconst (v := nI 1) dL_law_1383 (by decide) ?_
  refine n_iadd dL_law_1384 ?_
  refine a_scl (by omega) (6 * k + 1) dL_law_1385 rfl (by omega) ?_
  refine cv_L_175 (d := 1000) (Nat.le_refl _) hy dL_law_1386 I.1.c0 (Nat.le_of_ble_eq_true rfl) (bo_count (by decide) hz hc9 I (fun y h1 hfs M => ?_))
  obtain ⟨fs, hfs⟩ := hfs
  refine a_aloadn_2 dL_law_1389 ?_
  refine a_aloadn_0 dL_law_1390 ?_
  refine a_iloadn_3 dL_law_1391 ?_
  refine a_iconst (v := nI 1) dL_law_1392 (by decide) ?_
  refine n_iadd dL_law_1393 ?_
  refine a_scl (by omega) (6 * k + 1) dL_law_1394 rfl (by omega) ?_
  refine cv_L_178 (d := 1000) (Nat.le_refl _) hy dL_law_1395 hfs (Nat.le_of_ble_eq_true rfl) (M _ (fun h2 b2 v2 F2 c2 p2 t2 o2 hc2 I2 => ?_))
  exact a_icmp_eq (tgt := 1403) dL_law_1398 (by decide) (fun _ => K _ _ _ _ _ _ _ _ hc2 I2) (fun ne => absurd rfl ne)
theorem and63 (x : Int32) : ∃ n, n ≤ 63 ∧ x &&& nI 63 = nI n := by
  refine ⟨(x &&& nI 63).toBitVec.toNat, ?_, ?_⟩
  · rw [Int32.toBitVec_and, BitVec.toNat_and]
    exact Nat.and_le_right
  · refine Int32.toBitVec_inj.mp ?_
    show _ = BitVec.ofNat 32 _
    rw [BitVec.ofNat_toNat, BitVec.setWidth_eq]
theorem lm_le {m i : Nat} (hm : m ≤ 3072) (hi : i ≤ 6000) : nI m - nI 6 < nI i ↔ ¬ i + 6 ≤ m := by
  rw [Int32.lt_iff_toInt_lt, nI_toInt (by omega), Int32.toInt_sub, nI_toInt (by omega), nI_toInt (by omega), Int.bmod_eq_of_le (by omega) (by omega)]
  omega
set_option maxHeartbeats 4000000 in
theorem lc_all {G : Cx} {yl : MethodName} {cn sn c k : Nat} {h : List va_E} {b : MB} {v : Cv} {F : Lf} {p : MP} {t : MT} {o : MO} {Z : List Frame → Array Value → State → State → Prop} (hy : yl.cls = RL) (hz : gz G = false) (hL : gL G ≤ 3072) (hk : 6 * k + 6 ≤ gL G) (hc9 : c + 1 < 100000) (I : LI G h b v F c p t o) (K : ∀ h2 b2 v2 F2 c2 p2 t2 o2, c2 ≤ c + 1 → LI G h2 b2 v2 F2 c2 p2 t2 o2 → AW G yl cL_law 4 (some .boolean) room_1 Z cn sn 1403 [some (.ref (gs G 6)), some (.ref (gB G + 0)), some (.ref (gB G + 80)), some (.int (nI (6 * k)))] [] h2) : AW G yl cL_law 4 (some .boolean) room_1 Z cn sn 27 [some (.ref (gs G 6)), some (.ref (gB G + 0)), some (.ref (gB G + 80)), some (.int (nI (6 * k)))] [] h := by
  refine a_aloadn_0 dL_law_27 ?_
  refine a_iloadn_3 dL_law_28 ?_
  refine a_scl (by omega) (6 * k) dL_law_29 rfl (by omega) ?_
  refine a_bipush (v := nI 63) dL_law_30 (by decide) ?_
  refine a_iand dL_law_32 ?_
  obtain ⟨n, hn, e⟩ := and63 (gX G (6 * k))
  refine a_topi (nI n) e ?_
  clear e
  rcases (show n = 0 ∨ n = 1 ∨ n = 2 ∨ n = 3 ∨ n = 4 ∨ n = 5 ∨ n = 6 ∨ n = 7 ∨ n = 8 ∨ n = 9 ∨ n = 10 ∨ n = 11 ∨ n = 12 ∨ n = 13 ∨ n = 14 ∨ n = 15 ∨ n = 16 ∨ n = 17 ∨ n = 18 ∨ n = 19 ∨ n = 20 ∨ n = 21 ∨ n = 22 ∨ n = 23 ∨ n = 24 ∨ n = 25 ∨ n = 26 ∨ n = 27 ∨ n = 28 ∨ n = 29 ∨ n = 30 ∨ n = 31 ∨ n = 32 ∨ n = 33 ∨ n = 34 ∨ n = 35 ∨ n = 36 ∨ n = 37 ∨ n = 38 ∨ 39 ≤ n by omega) with rfl | rfl | rfl | rfl | rfl | rfl | rfl | rfl | rfl | rfl | rfl | rfl | rfl | rfl | rfl | rfl | rfl | rfl | rfl | rfl | rfl | rfl | rfl | rfl | rfl | rfl | rfl | rfl | rfl | rfl | rfl | rfl | rfl | rfl | rfl | rfl | rfl | rfl | rfl | h39
  · refine a_tableIn (off := 171) (tgt := 204) dL_law_33 (by decide) (by decide) (by decide) (by decide) ?_
    exact lc_0 hy hz hL hk (by omega) I (fun h2 b2 v2 F2 c2 p2 t2 o2 hc2 I2 => K h2 b2 v2 F2 c2 p2 t2 o2 hc2 I2)
  · refine a_tableIn (off := 214) (tgt := 247) dL_law_33 (by decide) (by decide) (by decide) (by decide) ?_
    exact lc_1 hy hz hL hk (by omega) I (fun h2 b2 v2 F2 c2 p2 t2 o2 hc2 I2 => K h2 b2 v2 F2 c2 p2 t2 o2 hc2 I2)
  · refine a_tableIn (off := 257) (tgt := 290) dL_law_33 (by decide) (by decide) (by decide) (by decide) ?_
    exact lc_2 hy hz hL hk (by omega) I (fun h2 b2 v2 F2 c2 p2 t2 o2 hc2 I2 => K h2 b2 v2 F2 c2 p2 t2 o2 hc2 I2)
  · refine a_tableIn (off := 290) (tgt := 323) dL_law_33 (by decide) (by decide) (by decide) (by decide) ?_
    exact lc_3 hy hz hL hk (by omega) I (fun h2 b2 v2 F2 c2 p2 t2 o2 hc2 I2 => K h2 b2 v2 F2 c2 p2 t2 o2 hc2 I2)
  · refine a_tableIn (off := 313) (tgt := 346) dL_law_33 (by decide) (by decide) (by decide) (by decide) ?_
    exact lc_4 hy hz hL hk (by omega) I (fun h2 b2 v2 F2 c2 p2 t2 o2 hc2 I2 => K h2 b2 v2 F2 c2 p2 t2 o2 hc2 I2)
  · refine a_tableIn (off := 326) (tgt := 359) dL_law_33 (by decide) (by decide) (by decide) (by decide) ?_
    exact lc_5 hy hz hL hk (by omega) I (fun h2 b2 v2 F2 c2 p2 t2 o2 hc2 I2 => K h2 b2 v2 F2 c2 p2 t2 o2 hc2 I2)
  · refine a_tableIn (off := 349) (tgt := 382) dL_law_33 (by decide) (by decide) (by decide) (by decide) ?_
    exact lc_6 hy hz hL hk (by omega) I (fun h2 b2 v2 F2 c2 p2 t2 o2 hc2 I2 => K h2 b2 v2 F2 c2 p2 t2 o2 hc2 I2)
  · refine a_tableIn (off := 392) (tgt := 425) dL_law_33 (by decide) (by decide) (by decide) (by decide) ?_
    exact lc_7 hy hz hL hk (by omega) I (fun h2 b2 v2 F2 c2 p2 t2 o2 hc2 I2 => K h2 b2 v2 F2 c2 p2 t2 o2 hc2 I2)
  · refine a_tableIn (off := 425) (tgt := 458) dL_law_33 (by decide) (by decide) (by decide) (by decide) ?_
    exact lc_8 hy hz hL hk (by omega) I (fun h2 b2 v2 F2 c2 p2 t2 o2 hc2 I2 => K h2 b2 v2 F2 c2 p2 t2 o2 hc2 I2)
  · refine a_tableIn (off := 449) (tgt := 482) dL_law_33 (by decide) (by decide) (by decide) (by decide) ?_
    exact lc_9 hy hz hL hk (by omega) I (fun h2 b2 v2 F2 c2 p2 t2 o2 hc2 I2 => K h2 b2 v2 F2 c2 p2 t2 o2 hc2 I2)
  · refine a_tableIn (off := 472) (tgt := 505) dL_law_33 (by decide) (by decide) (by decide) (by decide) ?_
    exact lc_10 hy hz hL hk (by omega) I (fun h2 b2 v2 F2 c2 p2 t2 o2 hc2 I2 => K h2 b2 v2 F2 c2 p2 t2 o2 hc2 I2)
  · refine a_tableIn (off := 485) (tgt := 518) dL_law_33 (by decide) (by decide) (by decide) (by decide) ?_
    exact lc_11 hy hz hL hk (by omega) I (fun h2 b2 v2 F2 c2 p2 t2 o2 hc2 I2 => K h2 b2 v2 F2 c2 p2 t2 o2 hc2 I2)
  · refine a_tableIn (off := 518) (tgt := 551) dL_law_33 (by decide) (by decide) (by decide) (by decide) ?_
    exact lc_12 hy hz hL hk (by omega) I (fun h2 b2 v2 F2 c2 p2 t2 o2 hc2 I2 => K h2 b2 v2 F2 c2 p2 t2 o2 hc2 I2)
  · refine a_tableIn (off := 561) (tgt := 594) dL_law_33 (by decide) (by decide) (by decide) (by decide) ?_
    exact lc_13 hy hz hL hk (by omega) I (fun h2 b2 v2 F2 c2 p2 t2 o2 hc2 I2 => K h2 b2 v2 F2 c2 p2 t2 o2 hc2 I2)
  · refine a_tableIn (off := 594) (tgt := 627) dL_law_33 (by decide) (by decide) (by decide) (by decide) ?_
    exact lc_14 hy hz hL hk (by omega) I (fun h2 b2 v2 F2 c2 p2 t2 o2 hc2 I2 => K h2 b2 v2 F2 c2 p2 t2 o2 hc2 I2)
  · refine a_tableIn (off := 637) (tgt := 670) dL_law_33 (by decide) (by decide) (by decide) (by decide) ?_
    exact lc_15 hy hz hL hk (by omega) I (fun h2 b2 v2 F2 c2 p2 t2 o2 hc2 I2 => K h2 b2 v2 F2 c2 p2 t2 o2 hc2 I2)
  · refine a_tableIn (off := 660) (tgt := 693) dL_law_33 (by decide) (by decide) (by decide) (by decide) ?_
    exact lc_16 hy hz hL hk (by omega) I (fun h2 b2 v2 F2 c2 p2 t2 o2 hc2 I2 => K h2 b2 v2 F2 c2 p2 t2 o2 hc2 I2)
  · refine a_tableIn (off := 703) (tgt := 736) dL_law_33 (by decide) (by decide) (by decide) (by decide) ?_
    exact lc_17 hy hz hL hk (by omega) I (fun h2 b2 v2 F2 c2 p2 t2 o2 hc2 I2 => K h2 b2 v2 F2 c2 p2 t2 o2 hc2 I2)
  · refine a_tableIn (off := 736) (tgt := 769) dL_law_33 (by decide) (by decide) (by decide) (by decide) ?_
    exact lc_18 hy hz hL hk (by omega) I (fun h2 b2 v2 F2 c2 p2 t2 o2 hc2 I2 => K h2 b2 v2 F2 c2 p2 t2 o2 hc2 I2)
  · refine a_tableIn (off := 769) (tgt := 802) dL_law_33 (by decide) (by decide) (by decide) (by decide) ?_
    exact lc_19 hy hz hL hk (by omega) I (fun h2 b2 v2 F2 c2 p2 t2 o2 hc2 I2 => K h2 b2 v2 F2 c2 p2 t2 o2 hc2 I2)
  · refine a_tableIn (off := 812) (tgt := 845) dL_law_33 (by decide) (by decide) (by decide) (by decide) ?_
    exact lc_20 hy hz hL hk (by omega) I (fun h2 b2 v2 F2 c2 p2 t2 o2 hc2 I2 => K h2 b2 v2 F2 c2 p2 t2 o2 hc2 I2)
  · refine a_tableIn (off := 825) (tgt := 858) dL_law_33 (by decide) (by decide) (by decide) (by decide) ?_
    exact lc_21 hy hz hL hk (by omega) I (fun h2 b2 v2 F2 c2 p2 t2 o2 hc2 I2 => K h2 b2 v2 F2 c2 p2 t2 o2 hc2 I2)
  · refine a_tableIn (off := 858) (tgt := 891) dL_law_33 (by decide) (by decide) (by decide) (by decide) ?_
    exact lc_22 hy hz hL hk (by omega) I (fun h2 b2 v2 F2 c2 p2 t2 o2 hc2 I2 => K h2 b2 v2 F2 c2 p2 t2 o2 hc2 I2)
  · refine a_tableIn (off := 881) (tgt := 914) dL_law_33 (by decide) (by decide) (by decide) (by decide) ?_
    exact lc_23 hy hz hL hk (by omega) I (fun h2 b2 v2 F2 c2 p2 t2 o2 hc2 I2 => K h2 b2 v2 F2 c2 p2 t2 o2 hc2 I2)
  · refine a_tableIn (off := 904) (tgt := 937) dL_law_33 (by decide) (by decide) (by decide) (by decide) ?_
    exact lc_24 hy hz hL hk (by omega) I (fun h2 b2 v2 F2 c2 p2 t2 o2 hc2 I2 => K h2 b2 v2 F2 c2 p2 t2 o2 hc2 I2)
  · refine a_tableIn (off := 927) (tgt := 960) dL_law_33 (by decide) (by decide) (by decide) (by decide) ?_
    exact lc_25 hy hz hL hk (by omega) I (fun h2 b2 v2 F2 c2 p2 t2 o2 hc2 I2 => K h2 b2 v2 F2 c2 p2 t2 o2 hc2 I2)
  · refine a_tableIn (off := 940) (tgt := 973) dL_law_33 (by decide) (by decide) (by decide) (by decide) ?_
    exact lc_26 hy hz hL hk (by omega) I (fun h2 b2 v2 F2 c2 p2 t2 o2 hc2 I2 => K h2 b2 v2 F2 c2 p2 t2 o2 hc2 I2)
  · refine a_tableIn (off := 953) (tgt := 986) dL_law_33 (by decide) (by decide) (by decide) (by decide) ?_
    exact lc_27 hy hz hL hk (by omega) I (fun h2 b2 v2 F2 c2 p2 t2 o2 hc2 I2 => K h2 b2 v2 F2 c2 p2 t2 o2 hc2 I2)
  · refine a_tableIn (off := 966) (tgt := 999) dL_law_33 (by decide) (by decide) (by decide) (by decide) ?_
    exact lc_28 hy hz hL hk (by omega) I (fun h2 b2 v2 F2 c2 p2 t2 o2 hc2 I2 => K h2 b2 v2 F2 c2 p2 t2 o2 hc2 I2)
  · refine a_tableIn (off := 979) (tgt := 1012) dL_law_33 (by decide) (by decide) (by decide) (by decide) ?_
    exact lc_29 hy hz hL hk (by omega) I (fun h2 b2 v2 F2 c2 p2 t2 o2 hc2 I2 => K h2 b2 v2 F2 c2 p2 t2 o2 hc2 I2)
  · refine a_tableIn (off := 1002) (tgt := 1035) dL_law_33 (by decide) (by decide) (by decide) (by decide) ?_
    exact lc_30 hy hz hL hk (by omega) I (fun h2 b2 v2 F2 c2 p2 t2 o2 hc2 I2 => K h2 b2 v2 F2 c2 p2 t2 o2 hc2 I2)
  · refine a_tableIn (off := 1045) (tgt := 1078) dL_law_33 (by decide) (by decide) (by decide) (by decide) ?_
    exact lc_31 hy hz hL hk (by omega) I (fun h2 b2 v2 F2 c2 p2 t2 o2 hc2 I2 => K h2 b2 v2 F2 c2 p2 t2 o2 hc2 I2)
  · refine a_tableIn (off := 1068) (tgt := 1101) dL_law_33 (by decide) (by decide) (by decide) (by decide) ?_
    exact lc_32 hy hz hL hk (by omega) I (fun h2 b2 v2 F2 c2 p2 t2 o2 hc2 I2 => K h2 b2 v2 F2 c2 p2 t2 o2 hc2 I2)
  · refine a_tableIn (off := 1101) (tgt := 1134) dL_law_33 (by decide) (by decide) (by decide) (by decide) ?_
    exact lc_33 hy hz hL hk (by omega) I (fun h2 b2 v2 F2 c2 p2 t2 o2 hc2 I2 => K h2 b2 v2 F2 c2 p2 t2 o2 hc2 I2)
  · refine a_tableIn (off := 1144) (tgt := 1177) dL_law_33 (by decide) (by decide) (by decide) (by decide) ?_
    exact lc_34 hy hz hL hk (by omega) I (fun h2 b2 v2 F2 c2 p2 t2 o2 hc2 I2 => K h2 b2 v2 F2 c2 p2 t2 o2 hc2 I2)
  · refine a_tableIn (off := 1217) (tgt := 1250) dL_law_33 (by decide) (by decide) (by decide) (by decide) ?_
    exact lc_35 hy hz hL hk (by omega) I (fun h2 b2 v2 F2 c2 p2 t2 o2 hc2 I2 => K h2 b2 v2 F2 c2 p2 t2 o2 hc2 I2)
  · refine a_tableIn (off := 1251) (tgt := 1284) dL_law_33 (by decide) (by decide) (by decide) (by decide) ?_
    exact lc_36 hy hz hL hk (by omega) I (fun h2 b2 v2 F2 c2 p2 t2 o2 hc2 I2 => K h2 b2 v2 F2 c2 p2 t2 o2 hc2 I2)
  · refine a_tableIn (off := 1314) (tgt := 1347) dL_law_33 (by decide) (by decide) (by decide) (by decide) ?_
    exact lc_37 hy hz hL hk (by omega) I (fun h2 b2 v2 F2 c2 p2 t2 o2 hc2 I2 => K h2 b2 v2 F2 c2 p2 t2 o2 hc2 I2)
  · refine a_tableIn (off := 1347) (tgt := 1380) dL_law_33 (by decide) (by decide) (by decide) (by decide) ?_
    exact lc_38 hy hz hL hk (by omega) I (fun h2 b2 v2 F2 c2 p2 t2 o2 hc2 I2 => K h2 b2 v2 F2 c2 p2 t2 o2 hc2 I2)
  · refine a_tableOut (tgt := 1403) dL_law_33 (Or.inr (by rw [nI_toInt (by omega)]; omega)) (by decide) ?_
    exact K _ _ _ _ _ _ _ _ (Nat.le_succ _) I
set_option maxHeartbeats 4000000 in
theorem law_loop {G : Cx} {yl : MethodName} {cn sn : Nat} {Z : List Frame → Array Value → State → State → Prop} (hy : yl.cls = RL) (hz : gz G = false) (hL : gL G ≤ 3072) (E : ∀ ls h, AW G yl cL_law 4 (some .boolean) room_1 Z cn sn 1410 ls [.int 1] h) : ∀ (N k c : Nat) (h : List va_E) (b : MB) (v : Cv) (F : Lf) (p : MP) (t : MT) (o : MO), 600 - k < N → 6 * k ≤ gL G → c ≤ k → LI G h b v F c p t o → AW G yl cL_law 4 (some .boolean) room_1 Z cn sn 18 [some (.ref (gs G 6)), some (.ref (gB G + 0)), some (.ref (gB G + 80)), some (.int (nI (6 * k)))] [] h := by
  intro N
  induction N with
  | zero => intro k c h b v F p t o hN; exact absurd hN (Nat.not_lt_zero _)
  | succ N ih =>
    intro k c h b v F p t o hN hk hck I
    refine a_iloadn_3 dL_law_18 ?_
    refine a_aloadn_0 dL_law_19 ?_
    refine a_sclen dL_law_20 ?_
    refine a_bipush (v := nI 6) dL_law_21 (by decide) ?_
    refine a_isub dL_law_23 ?_
    refine a_icmp_gt (tgt := 1409) dL_law_24 (by decide) (fun c_24 => ?_) (fun c_24 => ?_)
    · refine a_iconst (v := 1) dL_law_1409 (by decide) ?_
      exact E _ _
    · have hk6 : 6 * k + 6 ≤ gL G := Classical.byContradiction (fun z => c_24 ((lm_le hL (by omega)).mpr z))
      refine lc_all hy hz hL hk6 (by omega) I (fun h2 b2 v2 F2 c2 p2 t2 o2 hc2 I2 => ?_)
      refine a_iinc_3 (v := nI (6 * (k + 1))) dL_law_1403 (nI_add _ _) (by decide) (by first | rfl | trivial) ?_
      refine a_goto (tgt := 18) dL_law_1406 (by decide) ?_
      exact ih (k + 1) c2 h2 b2 v2 F2 p2 t2 o2 (by omega) (by omega) (by omega) I2
