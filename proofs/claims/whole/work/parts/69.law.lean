/-! THE LAW'S CASES -/
abbrev mL_law (nm : String) : Mi := (RL, code, 4, ret, room_1, nm, true)
abbrev LL (k : Nat) : List (Nat × Value) := [(0, .ref 8), (1, .ref 20), (2, .ref 400), (3, .int (nI (7 * k)))]
theorem sc_in {k n : Nat} (j : Nat) (h : 7 * k + 7 ≤ n) (hj : j < 7) (hn : n ≤ 3584) : vp_in (nI (7 * k) + nI j) n := pk_in (7 * k + j) n (by omega) ((Int32.ofNat_add (7 * k) j).symm)
theorem sc_0 {k n : Nat} (h : 7 * k + 7 ≤ n) (hn : n ≤ 3584) : vp_in (nI (7 * k)) n := pk_in (7 * k) n (by omega)
theorem lg_self (x : Int64) : lg_cmp x x = 0 := by unfold lg_cmp; simp [Int64.lt_irrefl]
theorem V_lcmp_eq {M : Mi} {X : Cx} {Q : State → Prop} {pc : Nat} {L : List (Nat × Value)} {st : List Value} {w : Wd} {cs : Nat × Nat} {x : Int64} {off : Int} {tgt : Nat} (h1 : decode M.2.1 pc = .ok (.lcmp, 1)) (hd : decode M.2.1 (pc + 1) = .ok (.ifCond .eq off, 3)) (ht : ((pc + 1 : Nat) : Int) + off = (tgt : Int)) (kt : V M X Q tgt L st w cs) : V M X Q pc L (.long x :: .long x :: st) w cs :=
  V_lcmp h1 (V_if_eq hd ht (fun _ => kt) (fun c => absurd (lg_self x) c))
set_option maxRecDepth 100000 in
theorem law_about {nm : String} {X : Cx} {Q : State → Prop} {n k : Nat} {f : Nat → Int32} {z : St} {w : Wd} {cs : Nat × Nat} (hs : xsc X = some (n, f)) (hk : 7 * k + 7 ≤ n) (hn : n ≤ 3584) (h : Lg k z w) (hc : cs.1 ≤ 600000 ∧ cs.2 ≤ 7302250) (next : ∀ z' w', Lg (k + 1) z' w' → V (mL_law nm) X Q 1606 (LL k) [] w' cs) : V (mL_law nm) X Q 233 (LL k) [] w cs := by
  have i1 : vp_in (nI (7 * k) + 1) n := sc_in 1 hk (by decide) hn
  have i2 : vp_in (nI (7 * k) + 2) n := sc_in 2 hk (by decide) hn
  have i3 : vp_in (nI (7 * k) + 3) n := sc_in 3 hk (by decide) hn
  have i4 : vp_in (nI (7 * k) + 4) n := sc_in 4 hk (by decide) hn
  have i5 : vp_in (nI (7 * k) + 5) n := sc_in 5 hk (by decide) hn
  have i6 : vp_in (nI (7 * k) + 6) n := sc_in 6 hk (by decide) hn
  first | refine V_aload_n dL_law_233 rfl rfl ?_ | refine V_aload_nN dL_law_233 rfl rfl ?_
  first | refine V_aload_n dL_law_234 rfl rfl ?_ | refine V_aload_nN dL_law_234 rfl rfl ?_
  refine V_iload_n dL_law_235 rfl rfl ?_
  refine V_iconst (v := 1) dL_law_236 (by decide) ?_
  refine V_iadd dL_law_237 ?_
  refine V_sld hs (by exact i1) dL_law_238 ?_
  first | refine V_aload_n dL_law_239 rfl rfl ?_ | refine V_aload_nN dL_law_239 rfl rfl ?_
  refine V_iload_n dL_law_240 rfl rfl ?_
  refine V_iconst (v := 2) dL_law_241 (by decide) ?_
  refine V_iadd dL_law_242 ?_
  refine V_sld hs (by exact i2) dL_law_243 ?_
  refine V_callV (As := [_, _]) (st := _) (c_X8_about z _ _ w h.1) kL_18 (by exact h.kx) ⟨rfl, rfl, rfl⟩ ⟨(Nat.le_of_ble_eq_true rfl), (Nat.le_of_ble_eq_true rfl)⟩ dL_law_244 rfl rfl (Nat.le_of_ble_eq_true rfl) hc ?_
  first | refine V_aload_n dL_law_247 rfl rfl ?_ | refine V_aload_nN dL_law_247 rfl rfl ?_
  first | refine V_aload_n dL_law_248 rfl rfl ?_ | refine V_aload_nN dL_law_248 rfl rfl ?_
  refine V_iload_n dL_law_249 rfl rfl ?_
  refine V_iconst (v := 1) dL_law_250 (by decide) ?_
  refine V_iadd dL_law_251 ?_
  refine V_sld hs (by exact i1) dL_law_252 ?_
  first | refine V_aload_n dL_law_253 rfl rfl ?_ | refine V_aload_nN dL_law_253 rfl rfl ?_
  refine V_iload_n dL_law_254 rfl rfl ?_
  refine V_iconst (v := 2) dL_law_255 (by decide) ?_
  refine V_iadd dL_law_256 ?_
  refine V_sld hs (by exact i2) dL_law_257 ?_
  refine V_callV (As := [_, _]) (st := _) (c_X9_about z _ _ w h.2.1) kL_22 (by exact h.km) ⟨rfl, rfl, rfl⟩ ⟨(Nat.le_of_ble_eq_true rfl), (Nat.le_of_ble_eq_true rfl)⟩ dL_law_258 rfl rfl (Nat.le_of_ble_eq_true rfl) hc ?_
  refine V_icmp_eq (tgt := 1606) dL_law_261 (by decide) (fun c261 => ?_) (fun c261 => False.elim (by exact c261 rfl))
  exact next z w h.stay

set_option maxRecDepth 100000 in
theorem law_turn {nm : String} {X : Cx} {Q : State → Prop} {n k : Nat} {f : Nat → Int32} {z : St} {w : Wd} {cs : Nat × Nat} (hs : xsc X = some (n, f)) (hk : 7 * k + 7 ≤ n) (hn : n ≤ 3584) (h : Lg k z w) (hc : cs.1 ≤ 600000 ∧ cs.2 ≤ 7302250) (next : ∀ z' w', Lg (k + 1) z' w' → V (mL_law nm) X Q 1606 (LL k) [] w' cs) : V (mL_law nm) X Q 266 (LL k) [] w cs := by
  have i1 : vp_in (nI (7 * k) + 1) n := sc_in 1 hk (by decide) hn
  have i2 : vp_in (nI (7 * k) + 2) n := sc_in 2 hk (by decide) hn
  have i3 : vp_in (nI (7 * k) + 3) n := sc_in 3 hk (by decide) hn
  have i4 : vp_in (nI (7 * k) + 4) n := sc_in 4 hk (by decide) hn
  have i5 : vp_in (nI (7 * k) + 5) n := sc_in 5 hk (by decide) hn
  have i6 : vp_in (nI (7 * k) + 6) n := sc_in 6 hk (by decide) hn
  first | refine V_aload_n dL_law_266 rfl rfl ?_ | refine V_aload_nN dL_law_266 rfl rfl ?_
  first | refine V_aload_n dL_law_267 rfl rfl ?_ | refine V_aload_nN dL_law_267 rfl rfl ?_
  refine V_iload_n dL_law_268 rfl rfl ?_
  refine V_iconst (v := 1) dL_law_269 (by decide) ?_
  refine V_iadd dL_law_270 ?_
  refine V_sld hs (by exact i1) dL_law_271 ?_
  first | refine V_aload_n dL_law_272 rfl rfl ?_ | refine V_aload_nN dL_law_272 rfl rfl ?_
  refine V_iload_n dL_law_273 rfl rfl ?_
  refine V_iconst (v := 2) dL_law_274 (by decide) ?_
  refine V_iadd dL_law_275 ?_
  refine V_sld hs (by exact i2) dL_law_276 ?_
  refine V_callVr (As := [_, _]) (st := _) (c_X8_turn z _ _ w h.1) kL_23 (by exact h.kx) ⟨rfl, rfl, rfl⟩ ⟨(Nat.le_of_ble_eq_true rfl), (Nat.le_of_ble_eq_true rfl)⟩ dL_law_277 rfl rfl (Nat.le_of_ble_eq_true rfl) hc (fun v1 w1 q1 => ?_)
  obtain ⟨rfl, x1, g1⟩ := q1
  first | refine V_aload_n dL_law_280 rfl rfl ?_ | refine V_aload_nN dL_law_280 rfl rfl ?_
  first | refine V_aload_n dL_law_281 rfl rfl ?_ | refine V_aload_nN dL_law_281 rfl rfl ?_
  refine V_iload_n dL_law_282 rfl rfl ?_
  refine V_iconst (v := 1) dL_law_283 (by decide) ?_
  refine V_iadd dL_law_284 ?_
  refine V_sld hs (by exact i1) dL_law_285 ?_
  first | refine V_aload_n dL_law_286 rfl rfl ?_ | refine V_aload_nN dL_law_286 rfl rfl ?_
  refine V_iload_n dL_law_287 rfl rfl ?_
  refine V_iconst (v := 2) dL_law_288 (by decide) ?_
  refine V_iadd dL_law_289 ?_
  refine V_sld hs (by exact i2) dL_law_290 ?_
  refine V_callVr (As := [_, _]) (st := _) (c_X9_turn z _ _ w1 (h.mid g1)) kL_26 (by exact (h.mid g1).1.1.k 400 rfl rfl) ⟨rfl, rfl, rfl⟩ ⟨(Nat.le_of_ble_eq_true rfl), (Nat.le_of_ble_eq_true rfl)⟩ dL_law_291 rfl rfl (Nat.le_of_ble_eq_true rfl) hc (fun v2 w2 q2 => ?_)
  obtain ⟨rfl, m2, g2⟩ := q2
  refine V_icmp_eq (tgt := 1606) dL_law_294 (by decide) (fun c294 => ?_) (fun c294 => False.elim (by exact c294 rfl))
  exact next _ w2 (h.next (by omega) (adv_Turn z _ _) x1 g1 m2 g2)

set_option maxRecDepth 100000 in
theorem law_root {nm : String} {X : Cx} {Q : State → Prop} {n k : Nat} {f : Nat → Int32} {z : St} {w : Wd} {cs : Nat × Nat} (hs : xsc X = some (n, f)) (hk : 7 * k + 7 ≤ n) (hn : n ≤ 3584) (h : Lg k z w) (hc : cs.1 ≤ 600000 ∧ cs.2 ≤ 7302250) (next : ∀ z' w', Lg (k + 1) z' w' → V (mL_law nm) X Q 1606 (LL k) [] w' cs) : V (mL_law nm) X Q 299 (LL k) [] w cs := by
  have i1 : vp_in (nI (7 * k) + 1) n := sc_in 1 hk (by decide) hn
  have i2 : vp_in (nI (7 * k) + 2) n := sc_in 2 hk (by decide) hn
  have i3 : vp_in (nI (7 * k) + 3) n := sc_in 3 hk (by decide) hn
  have i4 : vp_in (nI (7 * k) + 4) n := sc_in 4 hk (by decide) hn
  have i5 : vp_in (nI (7 * k) + 5) n := sc_in 5 hk (by decide) hn
  have i6 : vp_in (nI (7 * k) + 6) n := sc_in 6 hk (by decide) hn
  first | refine V_aload_n dL_law_299 rfl rfl ?_ | refine V_aload_nN dL_law_299 rfl rfl ?_
  first | refine V_aload_n dL_law_300 rfl rfl ?_ | refine V_aload_nN dL_law_300 rfl rfl ?_
  refine V_iload_n dL_law_301 rfl rfl ?_
  refine V_iconst (v := 1) dL_law_302 (by decide) ?_
  refine V_iadd dL_law_303 ?_
  refine V_sld hs (by exact i1) dL_law_304 ?_
  refine V_i2l dL_law_305 ?_
  refine V_bipush (v := 32) dL_law_306 (by decide) ?_
  refine V_lshl dL_law_308 rfl ?_
  first | refine V_aload_n dL_law_309 rfl rfl ?_ | refine V_aload_nN dL_law_309 rfl rfl ?_
  refine V_iload_n dL_law_310 rfl rfl ?_
  refine V_iconst (v := 2) dL_law_311 (by decide) ?_
  refine V_iadd dL_law_312 ?_
  refine V_sld hs (by exact i2) dL_law_313 ?_
  refine V_i2l dL_law_314 ?_
  refine V_ldc2 ctL_27 dL_law_315 ?_
  refine V_land dL_law_318 ?_
  refine V_lor dL_law_319 ?_
  first | refine V_aload_n dL_law_320 rfl rfl ?_ | refine V_aload_nN dL_law_320 rfl rfl ?_
  refine V_iload_n dL_law_321 rfl rfl ?_
  refine V_iconst (v := 3) dL_law_322 (by decide) ?_
  refine V_iadd dL_law_323 ?_
  refine V_sld hs (by exact i3) dL_law_324 ?_
  refine V_i2l dL_law_325 ?_
  refine V_bipush (v := 32) dL_law_326 (by decide) ?_
  refine V_lshl dL_law_328 rfl ?_
  first | refine V_aload_n dL_law_329 rfl rfl ?_ | refine V_aload_nN dL_law_329 rfl rfl ?_
  refine V_iload_n dL_law_330 rfl rfl ?_
  refine V_iconst (v := 4) dL_law_331 (by decide) ?_
  refine V_iadd dL_law_332 ?_
  refine V_sld hs (by exact i4) dL_law_333 ?_
  refine V_i2l dL_law_334 ?_
  refine V_ldc2 ctL_27 dL_law_335 ?_
  refine V_land dL_law_338 ?_
  refine V_lor dL_law_339 ?_
  refine V_callVr (As := [_, _]) (st := _) (c_X8_root z _ _ w h.1) kL_29 (by exact h.kx) ⟨rfl, rfl, rfl⟩ ⟨(Nat.le_of_ble_eq_true rfl), (Nat.le_of_ble_eq_true rfl)⟩ dL_law_340 rfl rfl (Nat.le_of_ble_eq_true rfl) hc (fun v1 w1 q1 => ?_)
  obtain ⟨rfl, x1, g1⟩ := q1
  first | refine V_aload_n dL_law_343 rfl rfl ?_ | refine V_aload_nN dL_law_343 rfl rfl ?_
  first | refine V_aload_n dL_law_344 rfl rfl ?_ | refine V_aload_nN dL_law_344 rfl rfl ?_
  refine V_iload_n dL_law_345 rfl rfl ?_
  refine V_iconst (v := 1) dL_law_346 (by decide) ?_
  refine V_iadd dL_law_347 ?_
  refine V_sld hs (by exact i1) dL_law_348 ?_
  refine V_i2l dL_law_349 ?_
  refine V_bipush (v := 32) dL_law_350 (by decide) ?_
  refine V_lshl dL_law_352 rfl ?_
  first | refine V_aload_n dL_law_353 rfl rfl ?_ | refine V_aload_nN dL_law_353 rfl rfl ?_
  refine V_iload_n dL_law_354 rfl rfl ?_
  refine V_iconst (v := 2) dL_law_355 (by decide) ?_
  refine V_iadd dL_law_356 ?_
  refine V_sld hs (by exact i2) dL_law_357 ?_
  refine V_i2l dL_law_358 ?_
  refine V_ldc2 ctL_27 dL_law_359 ?_
  refine V_land dL_law_362 ?_
  refine V_lor dL_law_363 ?_
  first | refine V_aload_n dL_law_364 rfl rfl ?_ | refine V_aload_nN dL_law_364 rfl rfl ?_
  refine V_iload_n dL_law_365 rfl rfl ?_
  refine V_iconst (v := 3) dL_law_366 (by decide) ?_
  refine V_iadd dL_law_367 ?_
  refine V_sld hs (by exact i3) dL_law_368 ?_
  refine V_i2l dL_law_369 ?_
  refine V_bipush (v := 32) dL_law_370 (by decide) ?_
  refine V_lshl dL_law_372 rfl ?_
  first | refine V_aload_n dL_law_373 rfl rfl ?_ | refine V_aload_nN dL_law_373 rfl rfl ?_
  refine V_iload_n dL_law_374 rfl rfl ?_
  refine V_iconst (v := 4) dL_law_375 (by decide) ?_
  refine V_iadd dL_law_376 ?_
  refine V_sld hs (by exact i4) dL_law_377 ?_
  refine V_i2l dL_law_378 ?_
  refine V_ldc2 ctL_27 dL_law_379 ?_
  refine V_land dL_law_382 ?_
  refine V_lor dL_law_383 ?_
  refine V_callVr (As := [_, _]) (st := _) (c_X9_root z _ _ w1 (h.mid g1)) kL_33 (by exact (h.mid g1).1.1.k 400 rfl rfl) ⟨rfl, rfl, rfl⟩ ⟨(Nat.le_of_ble_eq_true rfl), (Nat.le_of_ble_eq_true rfl)⟩ dL_law_384 rfl rfl (Nat.le_of_ble_eq_true rfl) hc (fun v2 w2 q2 => ?_)
  obtain ⟨rfl, m2, g2⟩ := q2
  refine V_icmp_eq (tgt := 1606) dL_law_387 (by decide) (fun c387 => ?_) (fun c387 => False.elim (by exact c387 rfl))
  exact next _ w2 (h.next (by omega) (adv_Root z _ _) x1 g1 m2 g2)

set_option maxRecDepth 100000 in
theorem law_end {nm : String} {X : Cx} {Q : State → Prop} {n k : Nat} {f : Nat → Int32} {z : St} {w : Wd} {cs : Nat × Nat} (hs : xsc X = some (n, f)) (hk : 7 * k + 7 ≤ n) (hn : n ≤ 3584) (h : Lg k z w) (hc : cs.1 ≤ 600000 ∧ cs.2 ≤ 7302250) (next : ∀ z' w', Lg (k + 1) z' w' → V (mL_law nm) X Q 1606 (LL k) [] w' cs) : V (mL_law nm) X Q 392 (LL k) [] w cs := by
  have i1 : vp_in (nI (7 * k) + 1) n := sc_in 1 hk (by decide) hn
  have i2 : vp_in (nI (7 * k) + 2) n := sc_in 2 hk (by decide) hn
  have i3 : vp_in (nI (7 * k) + 3) n := sc_in 3 hk (by decide) hn
  have i4 : vp_in (nI (7 * k) + 4) n := sc_in 4 hk (by decide) hn
  have i5 : vp_in (nI (7 * k) + 5) n := sc_in 5 hk (by decide) hn
  have i6 : vp_in (nI (7 * k) + 6) n := sc_in 6 hk (by decide) hn
  first | refine V_aload_n dL_law_392 rfl rfl ?_ | refine V_aload_nN dL_law_392 rfl rfl ?_
  first | refine V_aload_n dL_law_393 rfl rfl ?_ | refine V_aload_nN dL_law_393 rfl rfl ?_
  refine V_iload_n dL_law_394 rfl rfl ?_
  refine V_iconst (v := 1) dL_law_395 (by decide) ?_
  refine V_iadd dL_law_396 ?_
  refine V_sld hs (by exact i1) dL_law_397 ?_
  first | refine V_aload_n dL_law_398 rfl rfl ?_ | refine V_aload_nN dL_law_398 rfl rfl ?_
  refine V_iload_n dL_law_399 rfl rfl ?_
  refine V_iconst (v := 2) dL_law_400 (by decide) ?_
  refine V_iadd dL_law_401 ?_
  refine V_sld hs (by exact i2) dL_law_402 ?_
  refine V_callV (As := [_, _]) (st := _) (c_X8_end z _ _ w h.1) kL_34 (by exact h.kx) ⟨rfl, rfl, rfl⟩ ⟨(Nat.le_of_ble_eq_true rfl), (Nat.le_of_ble_eq_true rfl)⟩ dL_law_403 rfl rfl (Nat.le_of_ble_eq_true rfl) hc ?_
  first | refine V_aload_n dL_law_406 rfl rfl ?_ | refine V_aload_nN dL_law_406 rfl rfl ?_
  first | refine V_aload_n dL_law_407 rfl rfl ?_ | refine V_aload_nN dL_law_407 rfl rfl ?_
  refine V_iload_n dL_law_408 rfl rfl ?_
  refine V_iconst (v := 1) dL_law_409 (by decide) ?_
  refine V_iadd dL_law_410 ?_
  refine V_sld hs (by exact i1) dL_law_411 ?_
  first | refine V_aload_n dL_law_412 rfl rfl ?_ | refine V_aload_nN dL_law_412 rfl rfl ?_
  refine V_iload_n dL_law_413 rfl rfl ?_
  refine V_iconst (v := 2) dL_law_414 (by decide) ?_
  refine V_iadd dL_law_415 ?_
  refine V_sld hs (by exact i2) dL_law_416 ?_
  refine V_callVr (As := [_, _]) (st := _) (c_X9_end z _ _ w h.2.1) kL_38 (by exact h.km) ⟨rfl, rfl, rfl⟩ ⟨(Nat.le_of_ble_eq_true rfl), (Nat.le_of_ble_eq_true rfl)⟩ dL_law_417 rfl rfl (Nat.le_of_ble_eq_true rfl) hc (fun v2 w2 q2 => ?_)
  obtain ⟨rfl, m2, g2⟩ := q2
  refine V_lcmp_eq (tgt := 1606) dL_law_420 dL_law_421 (by decide) ?_
  exact next z w2 (h.read m2 g2)

set_option maxRecDepth 100000 in
theorem law_far {nm : String} {X : Cx} {Q : State → Prop} {n k : Nat} {f : Nat → Int32} {z : St} {w : Wd} {cs : Nat × Nat} (hs : xsc X = some (n, f)) (hk : 7 * k + 7 ≤ n) (hn : n ≤ 3584) (h : Lg k z w) (hc : cs.1 ≤ 600000 ∧ cs.2 ≤ 7302250) (next : ∀ z' w', Lg (k + 1) z' w' → V (mL_law nm) X Q 1606 (LL k) [] w' cs) : V (mL_law nm) X Q 426 (LL k) [] w cs := by
  have i1 : vp_in (nI (7 * k) + 1) n := sc_in 1 hk (by decide) hn
  have i2 : vp_in (nI (7 * k) + 2) n := sc_in 2 hk (by decide) hn
  have i3 : vp_in (nI (7 * k) + 3) n := sc_in 3 hk (by decide) hn
  have i4 : vp_in (nI (7 * k) + 4) n := sc_in 4 hk (by decide) hn
  have i5 : vp_in (nI (7 * k) + 5) n := sc_in 5 hk (by decide) hn
  have i6 : vp_in (nI (7 * k) + 6) n := sc_in 6 hk (by decide) hn
  first | refine V_aload_n dL_law_426 rfl rfl ?_ | refine V_aload_nN dL_law_426 rfl rfl ?_
  first | refine V_aload_n dL_law_427 rfl rfl ?_ | refine V_aload_nN dL_law_427 rfl rfl ?_
  refine V_iload_n dL_law_428 rfl rfl ?_
  refine V_iconst (v := 1) dL_law_429 (by decide) ?_
  refine V_iadd dL_law_430 ?_
  refine V_sld hs (by exact i1) dL_law_431 ?_
  first | refine V_aload_n dL_law_432 rfl rfl ?_ | refine V_aload_nN dL_law_432 rfl rfl ?_
  refine V_iload_n dL_law_433 rfl rfl ?_
  refine V_iconst (v := 2) dL_law_434 (by decide) ?_
  refine V_iadd dL_law_435 ?_
  refine V_sld hs (by exact i2) dL_law_436 ?_
  refine V_i2l dL_law_437 ?_
  refine V_bipush (v := 32) dL_law_438 (by decide) ?_
  refine V_lshl dL_law_440 rfl ?_
  first | refine V_aload_n dL_law_441 rfl rfl ?_ | refine V_aload_nN dL_law_441 rfl rfl ?_
  refine V_iload_n dL_law_442 rfl rfl ?_
  refine V_iconst (v := 3) dL_law_443 (by decide) ?_
  refine V_iadd dL_law_444 ?_
  refine V_sld hs (by exact i3) dL_law_445 ?_
  refine V_i2l dL_law_446 ?_
  refine V_ldc2 ctL_27 dL_law_447 ?_
  refine V_land dL_law_450 ?_
  refine V_lor dL_law_451 ?_
  first | refine V_aload_n dL_law_452 rfl rfl ?_ | refine V_aload_nN dL_law_452 rfl rfl ?_
  refine V_iload_n dL_law_453 rfl rfl ?_
  refine V_iconst (v := 4) dL_law_454 (by decide) ?_
  refine V_iadd dL_law_455 ?_
  refine V_sld hs (by exact i4) dL_law_456 ?_
  refine V_i2l dL_law_457 ?_
  refine V_bipush (v := 32) dL_law_458 (by decide) ?_
  refine V_lshl dL_law_460 rfl ?_
  first | refine V_aload_n dL_law_461 rfl rfl ?_ | refine V_aload_nN dL_law_461 rfl rfl ?_
  refine V_iload_n dL_law_462 rfl rfl ?_
  refine V_iconst (v := 5) dL_law_463 (by decide) ?_
  refine V_iadd dL_law_464 ?_
  refine V_sld hs (by exact i5) dL_law_465 ?_
  refine V_i2l dL_law_466 ?_
  refine V_ldc2 ctL_27 dL_law_467 ?_
  refine V_land dL_law_470 ?_
  refine V_lor dL_law_471 ?_
  refine V_callV (As := [_, _, _]) (st := _) (c_X8_far z _ _ _ w h.1) kL_39 (by exact h.kx) ⟨rfl, rfl, rfl⟩ ⟨(Nat.le_of_ble_eq_true rfl), (Nat.le_of_ble_eq_true rfl)⟩ dL_law_472 rfl rfl (Nat.le_of_ble_eq_true rfl) hc ?_
  first | refine V_aload_n dL_law_475 rfl rfl ?_ | refine V_aload_nN dL_law_475 rfl rfl ?_
  first | refine V_aload_n dL_law_476 rfl rfl ?_ | refine V_aload_nN dL_law_476 rfl rfl ?_
  refine V_iload_n dL_law_477 rfl rfl ?_
  refine V_iconst (v := 1) dL_law_478 (by decide) ?_
  refine V_iadd dL_law_479 ?_
  refine V_sld hs (by exact i1) dL_law_480 ?_
  first | refine V_aload_n dL_law_481 rfl rfl ?_ | refine V_aload_nN dL_law_481 rfl rfl ?_
  refine V_iload_n dL_law_482 rfl rfl ?_
  refine V_iconst (v := 2) dL_law_483 (by decide) ?_
  refine V_iadd dL_law_484 ?_
  refine V_sld hs (by exact i2) dL_law_485 ?_
  refine V_i2l dL_law_486 ?_
  refine V_bipush (v := 32) dL_law_487 (by decide) ?_
  refine V_lshl dL_law_489 rfl ?_
  first | refine V_aload_n dL_law_490 rfl rfl ?_ | refine V_aload_nN dL_law_490 rfl rfl ?_
  refine V_iload_n dL_law_491 rfl rfl ?_
  refine V_iconst (v := 3) dL_law_492 (by decide) ?_
  refine V_iadd dL_law_493 ?_
  refine V_sld hs (by exact i3) dL_law_494 ?_
  refine V_i2l dL_law_495 ?_
  refine V_ldc2 ctL_27 dL_law_496 ?_
  refine V_land dL_law_499 ?_
  refine V_lor dL_law_500 ?_
  first | refine V_aload_n dL_law_501 rfl rfl ?_ | refine V_aload_nN dL_law_501 rfl rfl ?_
  refine V_iload_n dL_law_502 rfl rfl ?_
  refine V_iconst (v := 4) dL_law_503 (by decide) ?_
  refine V_iadd dL_law_504 ?_
  refine V_sld hs (by exact i4) dL_law_505 ?_
  refine V_i2l dL_law_506 ?_
  refine V_bipush (v := 32) dL_law_507 (by decide) ?_
  refine V_lshl dL_law_509 rfl ?_
  first | refine V_aload_n dL_law_510 rfl rfl ?_ | refine V_aload_nN dL_law_510 rfl rfl ?_
  refine V_iload_n dL_law_511 rfl rfl ?_
  refine V_iconst (v := 5) dL_law_512 (by decide) ?_
  refine V_iadd dL_law_513 ?_
  refine V_sld hs (by exact i5) dL_law_514 ?_
  refine V_i2l dL_law_515 ?_
  refine V_ldc2 ctL_27 dL_law_516 ?_
  refine V_land dL_law_519 ?_
  refine V_lor dL_law_520 ?_
  refine V_callVr (As := [_, _, _]) (st := _) (c_X9_far z _ _ _ w h.2.1 (h.hB (by omega))) kL_43 (by exact h.km) ⟨rfl, rfl, rfl⟩ ⟨(Nat.le_of_ble_eq_true rfl), (Nat.le_of_ble_eq_true rfl)⟩ dL_law_521 rfl rfl (Nat.le_of_ble_eq_true rfl) hc (fun v2 w2 q2 => ?_)
  obtain ⟨rfl, m2, g2⟩ := q2
  refine V_lcmp_eq (tgt := 1606) dL_law_524 dL_law_525 (by decide) ?_
  exact next z w2 (h.read m2 g2)

set_option maxRecDepth 100000 in
theorem law_lock {nm : String} {X : Cx} {Q : State → Prop} {n k : Nat} {f : Nat → Int32} {z : St} {w : Wd} {cs : Nat × Nat} (hs : xsc X = some (n, f)) (hk : 7 * k + 7 ≤ n) (hn : n ≤ 3584) (h : Lg k z w) (hc : cs.1 ≤ 600000 ∧ cs.2 ≤ 7302250) (next : ∀ z' w', Lg (k + 1) z' w' → V (mL_law nm) X Q 1606 (LL k) [] w' cs) : V (mL_law nm) X Q 530 (LL k) [] w cs := by
  have i1 : vp_in (nI (7 * k) + 1) n := sc_in 1 hk (by decide) hn
  have i2 : vp_in (nI (7 * k) + 2) n := sc_in 2 hk (by decide) hn
  have i3 : vp_in (nI (7 * k) + 3) n := sc_in 3 hk (by decide) hn
  have i4 : vp_in (nI (7 * k) + 4) n := sc_in 4 hk (by decide) hn
  have i5 : vp_in (nI (7 * k) + 5) n := sc_in 5 hk (by decide) hn
  have i6 : vp_in (nI (7 * k) + 6) n := sc_in 6 hk (by decide) hn
  first | refine V_aload_n dL_law_530 rfl rfl ?_ | refine V_aload_nN dL_law_530 rfl rfl ?_
  first | refine V_aload_n dL_law_531 rfl rfl ?_ | refine V_aload_nN dL_law_531 rfl rfl ?_
  refine V_iload_n dL_law_532 rfl rfl ?_
  refine V_iconst (v := 1) dL_law_533 (by decide) ?_
  refine V_iadd dL_law_534 ?_
  refine V_sld hs (by exact i1) dL_law_535 ?_
  refine V_callVr (As := [_]) (st := _) (c_X8_lock z _ w h.1) kL_44 (by exact h.kx) ⟨rfl, rfl, rfl⟩ ⟨(Nat.le_of_ble_eq_true rfl), (Nat.le_of_ble_eq_true rfl)⟩ dL_law_536 rfl rfl (Nat.le_of_ble_eq_true rfl) hc (fun v1 w1 q1 => ?_)
  obtain ⟨rfl, x1, g1⟩ := q1
  first | refine V_aload_n dL_law_539 rfl rfl ?_ | refine V_aload_nN dL_law_539 rfl rfl ?_
  first | refine V_aload_n dL_law_540 rfl rfl ?_ | refine V_aload_nN dL_law_540 rfl rfl ?_
  refine V_iload_n dL_law_541 rfl rfl ?_
  refine V_iconst (v := 1) dL_law_542 (by decide) ?_
  refine V_iadd dL_law_543 ?_
  refine V_sld hs (by exact i1) dL_law_544 ?_
  refine V_callVr (As := [_]) (st := _) (c_X9_lock z _ w1 (h.mid g1)) kL_48 (by exact (h.mid g1).1.1.k 400 rfl rfl) ⟨rfl, rfl, rfl⟩ ⟨(Nat.le_of_ble_eq_true rfl), (Nat.le_of_ble_eq_true rfl)⟩ dL_law_545 rfl rfl (Nat.le_of_ble_eq_true rfl) hc (fun v2 w2 q2 => ?_)
  obtain ⟨rfl, m2, g2⟩ := q2
  refine V_icmp_eq (tgt := 1606) dL_law_548 (by decide) (fun c548 => ?_) (fun c548 => False.elim (by exact c548 rfl))
  exact next _ w2 (h.next (by omega) (adv_Lock z _) x1 g1 m2 g2)

set_option maxRecDepth 100000 in
theorem law_two {nm : String} {X : Cx} {Q : State → Prop} {n k : Nat} {f : Nat → Int32} {z : St} {w : Wd} {cs : Nat × Nat} (hs : xsc X = some (n, f)) (hk : 7 * k + 7 ≤ n) (hn : n ≤ 3584) (h : Lg k z w) (hc : cs.1 ≤ 600000 ∧ cs.2 ≤ 7302250) (next : ∀ z' w', Lg (k + 1) z' w' → V (mL_law nm) X Q 1606 (LL k) [] w' cs) : V (mL_law nm) X Q 553 (LL k) [] w cs := by
  have i1 : vp_in (nI (7 * k) + 1) n := sc_in 1 hk (by decide) hn
  have i2 : vp_in (nI (7 * k) + 2) n := sc_in 2 hk (by decide) hn
  have i3 : vp_in (nI (7 * k) + 3) n := sc_in 3 hk (by decide) hn
  have i4 : vp_in (nI (7 * k) + 4) n := sc_in 4 hk (by decide) hn
  have i5 : vp_in (nI (7 * k) + 5) n := sc_in 5 hk (by decide) hn
  have i6 : vp_in (nI (7 * k) + 6) n := sc_in 6 hk (by decide) hn
  first | refine V_aload_n dL_law_553 rfl rfl ?_ | refine V_aload_nN dL_law_553 rfl rfl ?_
  first | refine V_aload_n dL_law_554 rfl rfl ?_ | refine V_aload_nN dL_law_554 rfl rfl ?_
  refine V_iload_n dL_law_555 rfl rfl ?_
  refine V_iconst (v := 1) dL_law_556 (by decide) ?_
  refine V_iadd dL_law_557 ?_
  refine V_sld hs (by exact i1) dL_law_558 ?_
  first | refine V_aload_n dL_law_559 rfl rfl ?_ | refine V_aload_nN dL_law_559 rfl rfl ?_
  refine V_iload_n dL_law_560 rfl rfl ?_
  refine V_iconst (v := 2) dL_law_561 (by decide) ?_
  refine V_iadd dL_law_562 ?_
  refine V_sld hs (by exact i2) dL_law_563 ?_
  refine V_i2l dL_law_564 ?_
  refine V_bipush (v := 32) dL_law_565 (by decide) ?_
  refine V_lshl dL_law_567 rfl ?_
  first | refine V_aload_n dL_law_568 rfl rfl ?_ | refine V_aload_nN dL_law_568 rfl rfl ?_
  refine V_iload_n dL_law_569 rfl rfl ?_
  refine V_iconst (v := 3) dL_law_570 (by decide) ?_
  refine V_iadd dL_law_571 ?_
  refine V_sld hs (by exact i3) dL_law_572 ?_
  refine V_i2l dL_law_573 ?_
  refine V_ldc2 ctL_27 dL_law_574 ?_
  refine V_land dL_law_577 ?_
  refine V_lor dL_law_578 ?_
  first | refine V_aload_n dL_law_579 rfl rfl ?_ | refine V_aload_nN dL_law_579 rfl rfl ?_
  refine V_iload_n dL_law_580 rfl rfl ?_
  refine V_iconst (v := 4) dL_law_581 (by decide) ?_
  refine V_iadd dL_law_582 ?_
  refine V_sld hs (by exact i4) dL_law_583 ?_
  refine V_i2l dL_law_584 ?_
  refine V_bipush (v := 32) dL_law_585 (by decide) ?_
  refine V_lshl dL_law_587 rfl ?_
  first | refine V_aload_n dL_law_588 rfl rfl ?_ | refine V_aload_nN dL_law_588 rfl rfl ?_
  refine V_iload_n dL_law_589 rfl rfl ?_
  refine V_iconst (v := 5) dL_law_590 (by decide) ?_
  refine V_iadd dL_law_591 ?_
  refine V_sld hs (by exact i5) dL_law_592 ?_
  refine V_i2l dL_law_593 ?_
  refine V_ldc2 ctL_27 dL_law_594 ?_
  refine V_land dL_law_597 ?_
  refine V_lor dL_law_598 ?_
  refine V_callVr (As := [_, _, _]) (st := _) (c_X8_two z _ _ _ w h.1) kL_49 (by exact h.kx) ⟨rfl, rfl, rfl⟩ ⟨(Nat.le_of_ble_eq_true rfl), (Nat.le_of_ble_eq_true rfl)⟩ dL_law_599 rfl rfl (Nat.le_of_ble_eq_true rfl) hc (fun v1 w1 q1 => ?_)
  obtain ⟨rfl, x1, g1⟩ := q1
  first | refine V_aload_n dL_law_602 rfl rfl ?_ | refine V_aload_nN dL_law_602 rfl rfl ?_
  first | refine V_aload_n dL_law_603 rfl rfl ?_ | refine V_aload_nN dL_law_603 rfl rfl ?_
  refine V_iload_n dL_law_604 rfl rfl ?_
  refine V_iconst (v := 1) dL_law_605 (by decide) ?_
  refine V_iadd dL_law_606 ?_
  refine V_sld hs (by exact i1) dL_law_607 ?_
  first | refine V_aload_n dL_law_608 rfl rfl ?_ | refine V_aload_nN dL_law_608 rfl rfl ?_
  refine V_iload_n dL_law_609 rfl rfl ?_
  refine V_iconst (v := 2) dL_law_610 (by decide) ?_
  refine V_iadd dL_law_611 ?_
  refine V_sld hs (by exact i2) dL_law_612 ?_
  refine V_i2l dL_law_613 ?_
  refine V_bipush (v := 32) dL_law_614 (by decide) ?_
  refine V_lshl dL_law_616 rfl ?_
  first | refine V_aload_n dL_law_617 rfl rfl ?_ | refine V_aload_nN dL_law_617 rfl rfl ?_
  refine V_iload_n dL_law_618 rfl rfl ?_
  refine V_iconst (v := 3) dL_law_619 (by decide) ?_
  refine V_iadd dL_law_620 ?_
  refine V_sld hs (by exact i3) dL_law_621 ?_
  refine V_i2l dL_law_622 ?_
  refine V_ldc2 ctL_27 dL_law_623 ?_
  refine V_land dL_law_626 ?_
  refine V_lor dL_law_627 ?_
  first | refine V_aload_n dL_law_628 rfl rfl ?_ | refine V_aload_nN dL_law_628 rfl rfl ?_
  refine V_iload_n dL_law_629 rfl rfl ?_
  refine V_iconst (v := 4) dL_law_630 (by decide) ?_
  refine V_iadd dL_law_631 ?_
  refine V_sld hs (by exact i4) dL_law_632 ?_
  refine V_i2l dL_law_633 ?_
  refine V_bipush (v := 32) dL_law_634 (by decide) ?_
  refine V_lshl dL_law_636 rfl ?_
  first | refine V_aload_n dL_law_637 rfl rfl ?_ | refine V_aload_nN dL_law_637 rfl rfl ?_
  refine V_iload_n dL_law_638 rfl rfl ?_
  refine V_iconst (v := 5) dL_law_639 (by decide) ?_
  refine V_iadd dL_law_640 ?_
  refine V_sld hs (by exact i5) dL_law_641 ?_
  refine V_i2l dL_law_642 ?_
  refine V_ldc2 ctL_27 dL_law_643 ?_
  refine V_land dL_law_646 ?_
  refine V_lor dL_law_647 ?_
  refine V_callVr (As := [_, _, _]) (st := _) (c_X9_two z _ _ _ w1 (h.mid g1) (h.hB (by omega))) kL_52 (by exact (h.mid g1).1.1.k 400 rfl rfl) ⟨rfl, rfl, rfl⟩ ⟨(Nat.le_of_ble_eq_true rfl), (Nat.le_of_ble_eq_true rfl)⟩ dL_law_648 rfl rfl (Nat.le_of_ble_eq_true rfl) hc (fun v2 w2 q2 => ?_)
  obtain ⟨rfl, m2, g2⟩ := q2
  refine V_lcmp_eq (tgt := 1606) dL_law_651 dL_law_652 (by decide) ?_
  exact next _ w2 (h.next (by omega) (adv_Two z _ _ _) x1 g1 m2 g2)

set_option maxRecDepth 100000 in
theorem law_rounds {nm : String} {X : Cx} {Q : State → Prop} {n k : Nat} {f : Nat → Int32} {z : St} {w : Wd} {cs : Nat × Nat} (hs : xsc X = some (n, f)) (hk : 7 * k + 7 ≤ n) (hn : n ≤ 3584) (h : Lg k z w) (hc : cs.1 ≤ 600000 ∧ cs.2 ≤ 7302250) (next : ∀ z' w', Lg (k + 1) z' w' → V (mL_law nm) X Q 1606 (LL k) [] w' cs) : V (mL_law nm) X Q 657 (LL k) [] w cs := by
  have i1 : vp_in (nI (7 * k) + 1) n := sc_in 1 hk (by decide) hn
  have i2 : vp_in (nI (7 * k) + 2) n := sc_in 2 hk (by decide) hn
  have i3 : vp_in (nI (7 * k) + 3) n := sc_in 3 hk (by decide) hn
  have i4 : vp_in (nI (7 * k) + 4) n := sc_in 4 hk (by decide) hn
  have i5 : vp_in (nI (7 * k) + 5) n := sc_in 5 hk (by decide) hn
  have i6 : vp_in (nI (7 * k) + 6) n := sc_in 6 hk (by decide) hn
  first | refine V_aload_n dL_law_657 rfl rfl ?_ | refine V_aload_nN dL_law_657 rfl rfl ?_
  first | refine V_aload_n dL_law_658 rfl rfl ?_ | refine V_aload_nN dL_law_658 rfl rfl ?_
  refine V_iload_n dL_law_659 rfl rfl ?_
  refine V_iconst (v := 1) dL_law_660 (by decide) ?_
  refine V_iadd dL_law_661 ?_
  refine V_sld hs (by exact i1) dL_law_662 ?_
  first | refine V_aload_n dL_law_663 rfl rfl ?_ | refine V_aload_nN dL_law_663 rfl rfl ?_
  refine V_iload_n dL_law_664 rfl rfl ?_
  refine V_iconst (v := 2) dL_law_665 (by decide) ?_
  refine V_iadd dL_law_666 ?_
  refine V_sld hs (by exact i2) dL_law_667 ?_
  refine V_i2l dL_law_668 ?_
  refine V_bipush (v := 32) dL_law_669 (by decide) ?_
  refine V_lshl dL_law_671 rfl ?_
  first | refine V_aload_n dL_law_672 rfl rfl ?_ | refine V_aload_nN dL_law_672 rfl rfl ?_
  refine V_iload_n dL_law_673 rfl rfl ?_
  refine V_iconst (v := 3) dL_law_674 (by decide) ?_
  refine V_iadd dL_law_675 ?_
  refine V_sld hs (by exact i3) dL_law_676 ?_
  refine V_i2l dL_law_677 ?_
  refine V_ldc2 ctL_27 dL_law_678 ?_
  refine V_land dL_law_681 ?_
  refine V_lor dL_law_682 ?_
  first | refine V_aload_n dL_law_683 rfl rfl ?_ | refine V_aload_nN dL_law_683 rfl rfl ?_
  refine V_iload_n dL_law_684 rfl rfl ?_
  refine V_iconst (v := 4) dL_law_685 (by decide) ?_
  refine V_iadd dL_law_686 ?_
  refine V_sld hs (by exact i4) dL_law_687 ?_
  refine V_i2l dL_law_688 ?_
  refine V_bipush (v := 32) dL_law_689 (by decide) ?_
  refine V_lshl dL_law_691 rfl ?_
  first | refine V_aload_n dL_law_692 rfl rfl ?_ | refine V_aload_nN dL_law_692 rfl rfl ?_
  refine V_iload_n dL_law_693 rfl rfl ?_
  refine V_iconst (v := 5) dL_law_694 (by decide) ?_
  refine V_iadd dL_law_695 ?_
  refine V_sld hs (by exact i5) dL_law_696 ?_
  refine V_i2l dL_law_697 ?_
  refine V_ldc2 ctL_27 dL_law_698 ?_
  refine V_land dL_law_701 ?_
  refine V_lor dL_law_702 ?_
  first | refine V_aload_n dL_law_703 rfl rfl ?_ | refine V_aload_nN dL_law_703 rfl rfl ?_
  refine V_iload_n dL_law_704 rfl rfl ?_
  refine V_bipush (v := 6) dL_law_705 (by decide) ?_
  refine V_iadd dL_law_707 ?_
  refine V_sld hs (by exact i6) dL_law_708 ?_
  refine V_callVr (As := [_, _, _, _]) (st := _) (c_X8_rounds z _ _ _ _ w h.1) kL_53 (by exact h.kx) ⟨rfl, rfl, rfl⟩ ⟨(Nat.le_of_ble_eq_true rfl), (Nat.le_of_ble_eq_true rfl)⟩ dL_law_709 rfl rfl (Nat.le_of_ble_eq_true rfl) hc (fun v1 w1 q1 => ?_)
  obtain ⟨rfl, x1, g1⟩ := q1
  first | refine V_aload_n dL_law_712 rfl rfl ?_ | refine V_aload_nN dL_law_712 rfl rfl ?_
  first | refine V_aload_n dL_law_713 rfl rfl ?_ | refine V_aload_nN dL_law_713 rfl rfl ?_
  refine V_iload_n dL_law_714 rfl rfl ?_
  refine V_iconst (v := 1) dL_law_715 (by decide) ?_
  refine V_iadd dL_law_716 ?_
  refine V_sld hs (by exact i1) dL_law_717 ?_
  first | refine V_aload_n dL_law_718 rfl rfl ?_ | refine V_aload_nN dL_law_718 rfl rfl ?_
  refine V_iload_n dL_law_719 rfl rfl ?_
  refine V_iconst (v := 2) dL_law_720 (by decide) ?_
  refine V_iadd dL_law_721 ?_
  refine V_sld hs (by exact i2) dL_law_722 ?_
  refine V_i2l dL_law_723 ?_
  refine V_bipush (v := 32) dL_law_724 (by decide) ?_
  refine V_lshl dL_law_726 rfl ?_
  first | refine V_aload_n dL_law_727 rfl rfl ?_ | refine V_aload_nN dL_law_727 rfl rfl ?_
  refine V_iload_n dL_law_728 rfl rfl ?_
  refine V_iconst (v := 3) dL_law_729 (by decide) ?_
  refine V_iadd dL_law_730 ?_
  refine V_sld hs (by exact i3) dL_law_731 ?_
  refine V_i2l dL_law_732 ?_
  refine V_ldc2 ctL_27 dL_law_733 ?_
  refine V_land dL_law_736 ?_
  refine V_lor dL_law_737 ?_
  first | refine V_aload_n dL_law_738 rfl rfl ?_ | refine V_aload_nN dL_law_738 rfl rfl ?_
  refine V_iload_n dL_law_739 rfl rfl ?_
  refine V_iconst (v := 4) dL_law_740 (by decide) ?_
  refine V_iadd dL_law_741 ?_
  refine V_sld hs (by exact i4) dL_law_742 ?_
  refine V_i2l dL_law_743 ?_
  refine V_bipush (v := 32) dL_law_744 (by decide) ?_
  refine V_lshl dL_law_746 rfl ?_
  first | refine V_aload_n dL_law_747 rfl rfl ?_ | refine V_aload_nN dL_law_747 rfl rfl ?_
  refine V_iload_n dL_law_748 rfl rfl ?_
  refine V_iconst (v := 5) dL_law_749 (by decide) ?_
  refine V_iadd dL_law_750 ?_
  refine V_sld hs (by exact i5) dL_law_751 ?_
  refine V_i2l dL_law_752 ?_
  refine V_ldc2 ctL_27 dL_law_753 ?_
  refine V_land dL_law_756 ?_
  refine V_lor dL_law_757 ?_
  first | refine V_aload_n dL_law_758 rfl rfl ?_ | refine V_aload_nN dL_law_758 rfl rfl ?_
  refine V_iload_n dL_law_759 rfl rfl ?_
  refine V_bipush (v := 6) dL_law_760 (by decide) ?_
  refine V_iadd dL_law_762 ?_
  refine V_sld hs (by exact i6) dL_law_763 ?_
  refine V_callVr (As := [_, _, _, _]) (st := _) (c_X9_rounds z _ _ _ _ w1 (h.mid g1) (h.hB (by omega))) kL_57 (by exact (h.mid g1).1.1.k 400 rfl rfl) ⟨rfl, rfl, rfl⟩ ⟨(Nat.le_of_ble_eq_true rfl), (Nat.le_of_ble_eq_true rfl)⟩ dL_law_764 rfl rfl (Nat.le_of_ble_eq_true rfl) hc (fun v2 w2 q2 => ?_)
  obtain ⟨rfl, m2, g2⟩ := q2
  refine V_lcmp_eq (tgt := 1606) dL_law_767 dL_law_768 (by decide) ?_
  exact next _ w2 (h.next (by omega) (adv_Rounds z _ _ _ _) x1 g1 m2 g2)

set_option maxRecDepth 100000 in
theorem law_frame {nm : String} {X : Cx} {Q : State → Prop} {n k : Nat} {f : Nat → Int32} {z : St} {w : Wd} {cs : Nat × Nat} (hs : xsc X = some (n, f)) (hk : 7 * k + 7 ≤ n) (hn : n ≤ 3584) (h : Lg k z w) (hc : cs.1 ≤ 600000 ∧ cs.2 ≤ 7302250) (next : ∀ z' w', Lg (k + 1) z' w' → V (mL_law nm) X Q 1606 (LL k) [] w' cs) : V (mL_law nm) X Q 773 (LL k) [] w cs := by
  have i1 : vp_in (nI (7 * k) + 1) n := sc_in 1 hk (by decide) hn
  have i2 : vp_in (nI (7 * k) + 2) n := sc_in 2 hk (by decide) hn
  have i3 : vp_in (nI (7 * k) + 3) n := sc_in 3 hk (by decide) hn
  have i4 : vp_in (nI (7 * k) + 4) n := sc_in 4 hk (by decide) hn
  have i5 : vp_in (nI (7 * k) + 5) n := sc_in 5 hk (by decide) hn
  have i6 : vp_in (nI (7 * k) + 6) n := sc_in 6 hk (by decide) hn
  first | refine V_aload_n dL_law_773 rfl rfl ?_ | refine V_aload_nN dL_law_773 rfl rfl ?_
  first | refine V_aload_n dL_law_774 rfl rfl ?_ | refine V_aload_nN dL_law_774 rfl rfl ?_
  refine V_iload_n dL_law_775 rfl rfl ?_
  refine V_iconst (v := 1) dL_law_776 (by decide) ?_
  refine V_iadd dL_law_777 ?_
  refine V_sld hs (by exact i1) dL_law_778 ?_
  refine V_callVr (As := [_]) (st := _) (c_X8_frame z _ w h.1) kL_58 (by exact h.kx) ⟨rfl, rfl, rfl⟩ ⟨(Nat.le_of_ble_eq_true rfl), (Nat.le_of_ble_eq_true rfl)⟩ dL_law_779 rfl rfl (Nat.le_of_ble_eq_true rfl) hc (fun v1 w1 q1 => ?_)
  obtain ⟨rfl, x1, g1⟩ := q1
  first | refine V_aload_n dL_law_782 rfl rfl ?_ | refine V_aload_nN dL_law_782 rfl rfl ?_
  first | refine V_aload_n dL_law_783 rfl rfl ?_ | refine V_aload_nN dL_law_783 rfl rfl ?_
  refine V_iload_n dL_law_784 rfl rfl ?_
  refine V_iconst (v := 1) dL_law_785 (by decide) ?_
  refine V_iadd dL_law_786 ?_
  refine V_sld hs (by exact i1) dL_law_787 ?_
  refine V_callVr (As := [_]) (st := _) (c_X9_frame z _ w1 (h.mid g1)) kL_61 (by exact (h.mid g1).1.1.k 400 rfl rfl) ⟨rfl, rfl, rfl⟩ ⟨(Nat.le_of_ble_eq_true rfl), (Nat.le_of_ble_eq_true rfl)⟩ dL_law_788 rfl rfl (Nat.le_of_ble_eq_true rfl) hc (fun v2 w2 q2 => ?_)
  obtain ⟨rfl, m2, g2⟩ := q2
  refine V_icmp_eq (tgt := 1606) dL_law_791 (by decide) (fun c791 => ?_) (fun c791 => False.elim (by exact c791 rfl))
  exact next _ w2 (h.next (by omega) (adv_Frame z _) x1 g1 m2 g2)

set_option maxRecDepth 100000 in
theorem law_clear {nm : String} {X : Cx} {Q : State → Prop} {n k : Nat} {f : Nat → Int32} {z : St} {w : Wd} {cs : Nat × Nat} (hs : xsc X = some (n, f)) (hk : 7 * k + 7 ≤ n) (hn : n ≤ 3584) (h : Lg k z w) (hc : cs.1 ≤ 600000 ∧ cs.2 ≤ 7302250) (next : ∀ z' w', Lg (k + 1) z' w' → V (mL_law nm) X Q 1606 (LL k) [] w' cs) : V (mL_law nm) X Q 796 (LL k) [] w cs := by
  have i1 : vp_in (nI (7 * k) + 1) n := sc_in 1 hk (by decide) hn
  have i2 : vp_in (nI (7 * k) + 2) n := sc_in 2 hk (by decide) hn
  have i3 : vp_in (nI (7 * k) + 3) n := sc_in 3 hk (by decide) hn
  have i4 : vp_in (nI (7 * k) + 4) n := sc_in 4 hk (by decide) hn
  have i5 : vp_in (nI (7 * k) + 5) n := sc_in 5 hk (by decide) hn
  have i6 : vp_in (nI (7 * k) + 6) n := sc_in 6 hk (by decide) hn
  first | refine V_aload_n dL_law_796 rfl rfl ?_ | refine V_aload_nN dL_law_796 rfl rfl ?_
  first | refine V_aload_n dL_law_797 rfl rfl ?_ | refine V_aload_nN dL_law_797 rfl rfl ?_
  refine V_iload_n dL_law_798 rfl rfl ?_
  refine V_iconst (v := 1) dL_law_799 (by decide) ?_
  refine V_iadd dL_law_800 ?_
  refine V_sld hs (by exact i1) dL_law_801 ?_
  refine V_callVr (As := [_]) (st := _) (c_X8_clear z _ w h.1) kL_62 (by exact h.kx) ⟨rfl, rfl, rfl⟩ ⟨(Nat.le_of_ble_eq_true rfl), (Nat.le_of_ble_eq_true rfl)⟩ dL_law_802 rfl rfl (Nat.le_of_ble_eq_true rfl) hc (fun v1 w1 q1 => ?_)
  obtain ⟨rfl, x1, g1⟩ := q1
  first | refine V_aload_n dL_law_805 rfl rfl ?_ | refine V_aload_nN dL_law_805 rfl rfl ?_
  first | refine V_aload_n dL_law_806 rfl rfl ?_ | refine V_aload_nN dL_law_806 rfl rfl ?_
  refine V_iload_n dL_law_807 rfl rfl ?_
  refine V_iconst (v := 1) dL_law_808 (by decide) ?_
  refine V_iadd dL_law_809 ?_
  refine V_sld hs (by exact i1) dL_law_810 ?_
  refine V_callVr (As := [_]) (st := _) (c_X9_clear z _ w1 (h.mid g1)) kL_65 (by exact (h.mid g1).1.1.k 400 rfl rfl) ⟨rfl, rfl, rfl⟩ ⟨(Nat.le_of_ble_eq_true rfl), (Nat.le_of_ble_eq_true rfl)⟩ dL_law_811 rfl rfl (Nat.le_of_ble_eq_true rfl) hc (fun v2 w2 q2 => ?_)
  obtain ⟨rfl, m2, g2⟩ := q2
  refine V_icmp_eq (tgt := 1606) dL_law_814 (by decide) (fun c814 => ?_) (fun c814 => False.elim (by exact c814 rfl))
  exact next _ w2 (h.next (by omega) (adv_Clear z _) x1 g1 m2 g2)

set_option maxRecDepth 100000 in
theorem law_show {nm : String} {X : Cx} {Q : State → Prop} {n k : Nat} {f : Nat → Int32} {z : St} {w : Wd} {cs : Nat × Nat} (hs : xsc X = some (n, f)) (hk : 7 * k + 7 ≤ n) (hn : n ≤ 3584) (h : Lg k z w) (hc : cs.1 ≤ 600000 ∧ cs.2 ≤ 7302250) (next : ∀ z' w', Lg (k + 1) z' w' → V (mL_law nm) X Q 1606 (LL k) [] w' cs) : V (mL_law nm) X Q 819 (LL k) [] w cs := by
  have i1 : vp_in (nI (7 * k) + 1) n := sc_in 1 hk (by decide) hn
  have i2 : vp_in (nI (7 * k) + 2) n := sc_in 2 hk (by decide) hn
  have i3 : vp_in (nI (7 * k) + 3) n := sc_in 3 hk (by decide) hn
  have i4 : vp_in (nI (7 * k) + 4) n := sc_in 4 hk (by decide) hn
  have i5 : vp_in (nI (7 * k) + 5) n := sc_in 5 hk (by decide) hn
  have i6 : vp_in (nI (7 * k) + 6) n := sc_in 6 hk (by decide) hn
  first | refine V_aload_n dL_law_819 rfl rfl ?_ | refine V_aload_nN dL_law_819 rfl rfl ?_
  first | refine V_aload_n dL_law_820 rfl rfl ?_ | refine V_aload_nN dL_law_820 rfl rfl ?_
  refine V_iload_n dL_law_821 rfl rfl ?_
  refine V_iconst (v := 1) dL_law_822 (by decide) ?_
  refine V_iadd dL_law_823 ?_
  refine V_sld hs (by exact i1) dL_law_824 ?_
  first | refine V_aload_n dL_law_825 rfl rfl ?_ | refine V_aload_nN dL_law_825 rfl rfl ?_
  refine V_iload_n dL_law_826 rfl rfl ?_
  refine V_iconst (v := 2) dL_law_827 (by decide) ?_
  refine V_iadd dL_law_828 ?_
  refine V_sld hs (by exact i2) dL_law_829 ?_
  refine V_callVr (As := [_, _]) (st := _) (c_X8_show z _ _ w h.1) kL_66 (by exact h.kx) ⟨rfl, rfl, rfl⟩ ⟨(Nat.le_of_ble_eq_true rfl), (Nat.le_of_ble_eq_true rfl)⟩ dL_law_830 rfl rfl (Nat.le_of_ble_eq_true rfl) hc (fun v1 w1 q1 => ?_)
  obtain ⟨rfl, x1, g1⟩ := q1
  first | refine V_aload_n dL_law_833 rfl rfl ?_ | refine V_aload_nN dL_law_833 rfl rfl ?_
  first | refine V_aload_n dL_law_834 rfl rfl ?_ | refine V_aload_nN dL_law_834 rfl rfl ?_
  refine V_iload_n dL_law_835 rfl rfl ?_
  refine V_iconst (v := 1) dL_law_836 (by decide) ?_
  refine V_iadd dL_law_837 ?_
  refine V_sld hs (by exact i1) dL_law_838 ?_
  first | refine V_aload_n dL_law_839 rfl rfl ?_ | refine V_aload_nN dL_law_839 rfl rfl ?_
  refine V_iload_n dL_law_840 rfl rfl ?_
  refine V_iconst (v := 2) dL_law_841 (by decide) ?_
  refine V_iadd dL_law_842 ?_
  refine V_sld hs (by exact i2) dL_law_843 ?_
  refine V_callVr (As := [_, _]) (st := _) (c_X9_show z _ _ w1 (h.mid g1)) kL_69 (by exact (h.mid g1).1.1.k 400 rfl rfl) ⟨rfl, rfl, rfl⟩ ⟨(Nat.le_of_ble_eq_true rfl), (Nat.le_of_ble_eq_true rfl)⟩ dL_law_844 rfl rfl (Nat.le_of_ble_eq_true rfl) hc (fun v2 w2 q2 => ?_)
  obtain ⟨rfl, m2, g2⟩ := q2
  refine V_icmp_eq (tgt := 1606) dL_law_847 (by decide) (fun c847 => ?_) (fun c847 => False.elim (by exact c847 rfl))
  exact next _ w2 (h.next (by omega) (adv_Show z _ _) x1 g1 m2 g2)

set_option maxRecDepth 100000 in
theorem law_at {nm : String} {X : Cx} {Q : State → Prop} {n k : Nat} {f : Nat → Int32} {z : St} {w : Wd} {cs : Nat × Nat} (hs : xsc X = some (n, f)) (hk : 7 * k + 7 ≤ n) (hn : n ≤ 3584) (h : Lg k z w) (hc : cs.1 ≤ 600000 ∧ cs.2 ≤ 7302250) (next : ∀ z' w', Lg (k + 1) z' w' → V (mL_law nm) X Q 1606 (LL k) [] w' cs) : V (mL_law nm) X Q 852 (LL k) [] w cs := by
  have i1 : vp_in (nI (7 * k) + 1) n := sc_in 1 hk (by decide) hn
  have i2 : vp_in (nI (7 * k) + 2) n := sc_in 2 hk (by decide) hn
  have i3 : vp_in (nI (7 * k) + 3) n := sc_in 3 hk (by decide) hn
  have i4 : vp_in (nI (7 * k) + 4) n := sc_in 4 hk (by decide) hn
  have i5 : vp_in (nI (7 * k) + 5) n := sc_in 5 hk (by decide) hn
  have i6 : vp_in (nI (7 * k) + 6) n := sc_in 6 hk (by decide) hn
  first | refine V_aload_n dL_law_852 rfl rfl ?_ | refine V_aload_nN dL_law_852 rfl rfl ?_
  first | refine V_aload_n dL_law_853 rfl rfl ?_ | refine V_aload_nN dL_law_853 rfl rfl ?_
  refine V_iload_n dL_law_854 rfl rfl ?_
  refine V_iconst (v := 1) dL_law_855 (by decide) ?_
  refine V_iadd dL_law_856 ?_
  refine V_sld hs (by exact i1) dL_law_857 ?_
  first | refine V_aload_n dL_law_858 rfl rfl ?_ | refine V_aload_nN dL_law_858 rfl rfl ?_
  refine V_iload_n dL_law_859 rfl rfl ?_
  refine V_iconst (v := 2) dL_law_860 (by decide) ?_
  refine V_iadd dL_law_861 ?_
  refine V_sld hs (by exact i2) dL_law_862 ?_
  first | refine V_aload_n dL_law_863 rfl rfl ?_ | refine V_aload_nN dL_law_863 rfl rfl ?_
  refine V_iload_n dL_law_864 rfl rfl ?_
  refine V_iconst (v := 3) dL_law_865 (by decide) ?_
  refine V_iadd dL_law_866 ?_
  refine V_sld hs (by exact i3) dL_law_867 ?_
  refine V_callV (As := [_, _, _]) (st := _) (c_X8_at z _ _ _ w h.1) kL_70 (by exact h.kx) ⟨rfl, rfl, rfl⟩ ⟨(Nat.le_of_ble_eq_true rfl), (Nat.le_of_ble_eq_true rfl)⟩ dL_law_868 rfl rfl (Nat.le_of_ble_eq_true rfl) hc ?_
  first | refine V_aload_n dL_law_871 rfl rfl ?_ | refine V_aload_nN dL_law_871 rfl rfl ?_
  first | refine V_aload_n dL_law_872 rfl rfl ?_ | refine V_aload_nN dL_law_872 rfl rfl ?_
  refine V_iload_n dL_law_873 rfl rfl ?_
  refine V_iconst (v := 1) dL_law_874 (by decide) ?_
  refine V_iadd dL_law_875 ?_
  refine V_sld hs (by exact i1) dL_law_876 ?_
  first | refine V_aload_n dL_law_877 rfl rfl ?_ | refine V_aload_nN dL_law_877 rfl rfl ?_
  refine V_iload_n dL_law_878 rfl rfl ?_
  refine V_iconst (v := 2) dL_law_879 (by decide) ?_
  refine V_iadd dL_law_880 ?_
  refine V_sld hs (by exact i2) dL_law_881 ?_
  first | refine V_aload_n dL_law_882 rfl rfl ?_ | refine V_aload_nN dL_law_882 rfl rfl ?_
  refine V_iload_n dL_law_883 rfl rfl ?_
  refine V_iconst (v := 3) dL_law_884 (by decide) ?_
  refine V_iadd dL_law_885 ?_
  refine V_sld hs (by exact i3) dL_law_886 ?_
  refine V_callV (As := [_, _, _]) (st := _) (c_X9_at z _ _ _ w h.2.1) kL_74 (by exact h.km) ⟨rfl, rfl, rfl⟩ ⟨(Nat.le_of_ble_eq_true rfl), (Nat.le_of_ble_eq_true rfl)⟩ dL_law_887 rfl rfl (Nat.le_of_ble_eq_true rfl) hc ?_
  refine V_icmp_eq (tgt := 1606) dL_law_890 (by decide) (fun c890 => ?_) (fun c890 => False.elim (by exact c890 rfl))
  exact next z w h.stay

set_option maxRecDepth 100000 in
theorem law_blend {nm : String} {X : Cx} {Q : State → Prop} {n k : Nat} {f : Nat → Int32} {z : St} {w : Wd} {cs : Nat × Nat} (hs : xsc X = some (n, f)) (hk : 7 * k + 7 ≤ n) (hn : n ≤ 3584) (h : Lg k z w) (hc : cs.1 ≤ 600000 ∧ cs.2 ≤ 7302250) (next : ∀ z' w', Lg (k + 1) z' w' → V (mL_law nm) X Q 1606 (LL k) [] w' cs) : V (mL_law nm) X Q 895 (LL k) [] w cs := by
  have i1 : vp_in (nI (7 * k) + 1) n := sc_in 1 hk (by decide) hn
  have i2 : vp_in (nI (7 * k) + 2) n := sc_in 2 hk (by decide) hn
  have i3 : vp_in (nI (7 * k) + 3) n := sc_in 3 hk (by decide) hn
  have i4 : vp_in (nI (7 * k) + 4) n := sc_in 4 hk (by decide) hn
  have i5 : vp_in (nI (7 * k) + 5) n := sc_in 5 hk (by decide) hn
  have i6 : vp_in (nI (7 * k) + 6) n := sc_in 6 hk (by decide) hn
  first | refine V_aload_n dL_law_895 rfl rfl ?_ | refine V_aload_nN dL_law_895 rfl rfl ?_
  first | refine V_aload_n dL_law_896 rfl rfl ?_ | refine V_aload_nN dL_law_896 rfl rfl ?_
  refine V_iload_n dL_law_897 rfl rfl ?_
  refine V_iconst (v := 1) dL_law_898 (by decide) ?_
  refine V_iadd dL_law_899 ?_
  refine V_sld hs (by exact i1) dL_law_900 ?_
  first | refine V_aload_n dL_law_901 rfl rfl ?_ | refine V_aload_nN dL_law_901 rfl rfl ?_
  refine V_iload_n dL_law_902 rfl rfl ?_
  refine V_iconst (v := 2) dL_law_903 (by decide) ?_
  refine V_iadd dL_law_904 ?_
  refine V_sld hs (by exact i2) dL_law_905 ?_
  first | refine V_aload_n dL_law_906 rfl rfl ?_ | refine V_aload_nN dL_law_906 rfl rfl ?_
  refine V_iload_n dL_law_907 rfl rfl ?_
  refine V_iconst (v := 3) dL_law_908 (by decide) ?_
  refine V_iadd dL_law_909 ?_
  refine V_sld hs (by exact i3) dL_law_910 ?_
  first | refine V_aload_n dL_law_911 rfl rfl ?_ | refine V_aload_nN dL_law_911 rfl rfl ?_
  refine V_iload_n dL_law_912 rfl rfl ?_
  refine V_iconst (v := 4) dL_law_913 (by decide) ?_
  refine V_iadd dL_law_914 ?_
  refine V_sld hs (by exact i4) dL_law_915 ?_
  refine V_callVr (As := [_, _, _, _]) (st := _) (c_X8_blend z _ _ _ _ w h.1) kL_75 (by exact h.kx) ⟨rfl, rfl, rfl⟩ ⟨(Nat.le_of_ble_eq_true rfl), (Nat.le_of_ble_eq_true rfl)⟩ dL_law_916 rfl rfl (Nat.le_of_ble_eq_true rfl) hc (fun v1 w1 q1 => ?_)
  obtain ⟨rfl, x1, g1⟩ := q1
  first | refine V_aload_n dL_law_919 rfl rfl ?_ | refine V_aload_nN dL_law_919 rfl rfl ?_
  first | refine V_aload_n dL_law_920 rfl rfl ?_ | refine V_aload_nN dL_law_920 rfl rfl ?_
  refine V_iload_n dL_law_921 rfl rfl ?_
  refine V_iconst (v := 1) dL_law_922 (by decide) ?_
  refine V_iadd dL_law_923 ?_
  refine V_sld hs (by exact i1) dL_law_924 ?_
  first | refine V_aload_n dL_law_925 rfl rfl ?_ | refine V_aload_nN dL_law_925 rfl rfl ?_
  refine V_iload_n dL_law_926 rfl rfl ?_
  refine V_iconst (v := 2) dL_law_927 (by decide) ?_
  refine V_iadd dL_law_928 ?_
  refine V_sld hs (by exact i2) dL_law_929 ?_
  first | refine V_aload_n dL_law_930 rfl rfl ?_ | refine V_aload_nN dL_law_930 rfl rfl ?_
  refine V_iload_n dL_law_931 rfl rfl ?_
  refine V_iconst (v := 3) dL_law_932 (by decide) ?_
  refine V_iadd dL_law_933 ?_
  refine V_sld hs (by exact i3) dL_law_934 ?_
  first | refine V_aload_n dL_law_935 rfl rfl ?_ | refine V_aload_nN dL_law_935 rfl rfl ?_
  refine V_iload_n dL_law_936 rfl rfl ?_
  refine V_iconst (v := 4) dL_law_937 (by decide) ?_
  refine V_iadd dL_law_938 ?_
  refine V_sld hs (by exact i4) dL_law_939 ?_
  refine V_callVr (As := [_, _, _, _]) (st := _) (c_X9_blend z _ _ _ _ w1 (h.mid g1)) kL_78 (by exact (h.mid g1).1.1.k 400 rfl rfl) ⟨rfl, rfl, rfl⟩ ⟨(Nat.le_of_ble_eq_true rfl), (Nat.le_of_ble_eq_true rfl)⟩ dL_law_940 rfl rfl (Nat.le_of_ble_eq_true rfl) hc (fun v2 w2 q2 => ?_)
  obtain ⟨rfl, m2, g2⟩ := q2
  refine V_icmp_eq (tgt := 1606) dL_law_943 (by decide) (fun c943 => ?_) (fun c943 => False.elim (by exact c943 rfl))
  exact next _ w2 (h.next (by omega) (adv_Blend z _ _ _ _) x1 g1 m2 g2)

set_option maxRecDepth 100000 in
theorem law_add {nm : String} {X : Cx} {Q : State → Prop} {n k : Nat} {f : Nat → Int32} {z : St} {w : Wd} {cs : Nat × Nat} (hs : xsc X = some (n, f)) (hk : 7 * k + 7 ≤ n) (hn : n ≤ 3584) (h : Lg k z w) (hc : cs.1 ≤ 600000 ∧ cs.2 ≤ 7302250) (next : ∀ z' w', Lg (k + 1) z' w' → V (mL_law nm) X Q 1606 (LL k) [] w' cs) : V (mL_law nm) X Q 948 (LL k) [] w cs := by
  have i1 : vp_in (nI (7 * k) + 1) n := sc_in 1 hk (by decide) hn
  have i2 : vp_in (nI (7 * k) + 2) n := sc_in 2 hk (by decide) hn
  have i3 : vp_in (nI (7 * k) + 3) n := sc_in 3 hk (by decide) hn
  have i4 : vp_in (nI (7 * k) + 4) n := sc_in 4 hk (by decide) hn
  have i5 : vp_in (nI (7 * k) + 5) n := sc_in 5 hk (by decide) hn
  have i6 : vp_in (nI (7 * k) + 6) n := sc_in 6 hk (by decide) hn
  first | refine V_aload_n dL_law_948 rfl rfl ?_ | refine V_aload_nN dL_law_948 rfl rfl ?_
  first | refine V_aload_n dL_law_949 rfl rfl ?_ | refine V_aload_nN dL_law_949 rfl rfl ?_
  refine V_iload_n dL_law_950 rfl rfl ?_
  refine V_iconst (v := 1) dL_law_951 (by decide) ?_
  refine V_iadd dL_law_952 ?_
  refine V_sld hs (by exact i1) dL_law_953 ?_
  first | refine V_aload_n dL_law_954 rfl rfl ?_ | refine V_aload_nN dL_law_954 rfl rfl ?_
  refine V_iload_n dL_law_955 rfl rfl ?_
  refine V_iconst (v := 2) dL_law_956 (by decide) ?_
  refine V_iadd dL_law_957 ?_
  refine V_sld hs (by exact i2) dL_law_958 ?_
  first | refine V_aload_n dL_law_959 rfl rfl ?_ | refine V_aload_nN dL_law_959 rfl rfl ?_
  refine V_iload_n dL_law_960 rfl rfl ?_
  refine V_iconst (v := 3) dL_law_961 (by decide) ?_
  refine V_iadd dL_law_962 ?_
  refine V_sld hs (by exact i3) dL_law_963 ?_
  refine V_callVr (As := [_, _, _]) (st := _) (c_X8_add z _ _ _ w h.1) kL_79 (by exact h.kx) ⟨rfl, rfl, rfl⟩ ⟨(Nat.le_of_ble_eq_true rfl), (Nat.le_of_ble_eq_true rfl)⟩ dL_law_964 rfl rfl (Nat.le_of_ble_eq_true rfl) hc (fun v1 w1 q1 => ?_)
  obtain ⟨rfl, x1, g1⟩ := q1
  first | refine V_aload_n dL_law_967 rfl rfl ?_ | refine V_aload_nN dL_law_967 rfl rfl ?_
  first | refine V_aload_n dL_law_968 rfl rfl ?_ | refine V_aload_nN dL_law_968 rfl rfl ?_
  refine V_iload_n dL_law_969 rfl rfl ?_
  refine V_iconst (v := 1) dL_law_970 (by decide) ?_
  refine V_iadd dL_law_971 ?_
  refine V_sld hs (by exact i1) dL_law_972 ?_
  first | refine V_aload_n dL_law_973 rfl rfl ?_ | refine V_aload_nN dL_law_973 rfl rfl ?_
  refine V_iload_n dL_law_974 rfl rfl ?_
  refine V_iconst (v := 2) dL_law_975 (by decide) ?_
  refine V_iadd dL_law_976 ?_
  refine V_sld hs (by exact i2) dL_law_977 ?_
  first | refine V_aload_n dL_law_978 rfl rfl ?_ | refine V_aload_nN dL_law_978 rfl rfl ?_
  refine V_iload_n dL_law_979 rfl rfl ?_
  refine V_iconst (v := 3) dL_law_980 (by decide) ?_
  refine V_iadd dL_law_981 ?_
  refine V_sld hs (by exact i3) dL_law_982 ?_
  refine V_callVr (As := [_, _, _]) (st := _) (c_X9_add z _ _ _ w1 (h.mid g1)) kL_82 (by exact (h.mid g1).1.1.k 400 rfl rfl) ⟨rfl, rfl, rfl⟩ ⟨(Nat.le_of_ble_eq_true rfl), (Nat.le_of_ble_eq_true rfl)⟩ dL_law_983 rfl rfl (Nat.le_of_ble_eq_true rfl) hc (fun v2 w2 q2 => ?_)
  obtain ⟨rfl, m2, g2⟩ := q2
  refine V_icmp_eq (tgt := 1606) dL_law_986 (by decide) (fun c986 => ?_) (fun c986 => False.elim (by exact c986 rfl))
  exact next _ w2 (h.next (by omega) (adv_Add z _ _ _) x1 g1 m2 g2)

set_option maxRecDepth 100000 in
theorem law_like {nm : String} {X : Cx} {Q : State → Prop} {n k : Nat} {f : Nat → Int32} {z : St} {w : Wd} {cs : Nat × Nat} (hs : xsc X = some (n, f)) (hk : 7 * k + 7 ≤ n) (hn : n ≤ 3584) (h : Lg k z w) (hc : cs.1 ≤ 600000 ∧ cs.2 ≤ 7302250) (next : ∀ z' w', Lg (k + 1) z' w' → V (mL_law nm) X Q 1606 (LL k) [] w' cs) : V (mL_law nm) X Q 991 (LL k) [] w cs := by
  have i1 : vp_in (nI (7 * k) + 1) n := sc_in 1 hk (by decide) hn
  have i2 : vp_in (nI (7 * k) + 2) n := sc_in 2 hk (by decide) hn
  have i3 : vp_in (nI (7 * k) + 3) n := sc_in 3 hk (by decide) hn
  have i4 : vp_in (nI (7 * k) + 4) n := sc_in 4 hk (by decide) hn
  have i5 : vp_in (nI (7 * k) + 5) n := sc_in 5 hk (by decide) hn
  have i6 : vp_in (nI (7 * k) + 6) n := sc_in 6 hk (by decide) hn
  first | refine V_aload_n dL_law_991 rfl rfl ?_ | refine V_aload_nN dL_law_991 rfl rfl ?_
  first | refine V_aload_n dL_law_992 rfl rfl ?_ | refine V_aload_nN dL_law_992 rfl rfl ?_
  refine V_iload_n dL_law_993 rfl rfl ?_
  refine V_iconst (v := 1) dL_law_994 (by decide) ?_
  refine V_iadd dL_law_995 ?_
  refine V_sld hs (by exact i1) dL_law_996 ?_
  first | refine V_aload_n dL_law_997 rfl rfl ?_ | refine V_aload_nN dL_law_997 rfl rfl ?_
  refine V_iload_n dL_law_998 rfl rfl ?_
  refine V_iconst (v := 2) dL_law_999 (by decide) ?_
  refine V_iadd dL_law_1000 ?_
  refine V_sld hs (by exact i2) dL_law_1001 ?_
  first | refine V_aload_n dL_law_1002 rfl rfl ?_ | refine V_aload_nN dL_law_1002 rfl rfl ?_
  refine V_iload_n dL_law_1003 rfl rfl ?_
  refine V_iconst (v := 3) dL_law_1004 (by decide) ?_
  refine V_iadd dL_law_1005 ?_
  refine V_sld hs (by exact i3) dL_law_1006 ?_
  first | refine V_aload_n dL_law_1007 rfl rfl ?_ | refine V_aload_nN dL_law_1007 rfl rfl ?_
  refine V_iload_n dL_law_1008 rfl rfl ?_
  refine V_iconst (v := 4) dL_law_1009 (by decide) ?_
  refine V_iadd dL_law_1010 ?_
  refine V_sld hs (by exact i4) dL_law_1011 ?_
  refine V_callV (As := [_, _, _, _]) (st := _) (c_X8_like z _ _ _ _ w h.1) kL_83 (by exact h.kx) ⟨rfl, rfl, rfl⟩ ⟨(Nat.le_of_ble_eq_true rfl), (Nat.le_of_ble_eq_true rfl)⟩ dL_law_1012 rfl rfl (Nat.le_of_ble_eq_true rfl) hc ?_
  first | refine V_aload_n dL_law_1015 rfl rfl ?_ | refine V_aload_nN dL_law_1015 rfl rfl ?_
  first | refine V_aload_n dL_law_1016 rfl rfl ?_ | refine V_aload_nN dL_law_1016 rfl rfl ?_
  refine V_iload_n dL_law_1017 rfl rfl ?_
  refine V_iconst (v := 1) dL_law_1018 (by decide) ?_
  refine V_iadd dL_law_1019 ?_
  refine V_sld hs (by exact i1) dL_law_1020 ?_
  first | refine V_aload_n dL_law_1021 rfl rfl ?_ | refine V_aload_nN dL_law_1021 rfl rfl ?_
  refine V_iload_n dL_law_1022 rfl rfl ?_
  refine V_iconst (v := 2) dL_law_1023 (by decide) ?_
  refine V_iadd dL_law_1024 ?_
  refine V_sld hs (by exact i2) dL_law_1025 ?_
  first | refine V_aload_n dL_law_1026 rfl rfl ?_ | refine V_aload_nN dL_law_1026 rfl rfl ?_
  refine V_iload_n dL_law_1027 rfl rfl ?_
  refine V_iconst (v := 3) dL_law_1028 (by decide) ?_
  refine V_iadd dL_law_1029 ?_
  refine V_sld hs (by exact i3) dL_law_1030 ?_
  first | refine V_aload_n dL_law_1031 rfl rfl ?_ | refine V_aload_nN dL_law_1031 rfl rfl ?_
  refine V_iload_n dL_law_1032 rfl rfl ?_
  refine V_iconst (v := 4) dL_law_1033 (by decide) ?_
  refine V_iadd dL_law_1034 ?_
  refine V_sld hs (by exact i4) dL_law_1035 ?_
  refine V_callV (As := [_, _, _, _]) (st := _) (c_X9_like z _ _ _ _ w h.2.1) kL_86 (by exact h.km) ⟨rfl, rfl, rfl⟩ ⟨(Nat.le_of_ble_eq_true rfl), (Nat.le_of_ble_eq_true rfl)⟩ dL_law_1036 rfl rfl (Nat.le_of_ble_eq_true rfl) hc ?_
  refine V_icmp_eq (tgt := 1606) dL_law_1039 (by decide) (fun c1039 => ?_) (fun c1039 => False.elim (by exact c1039 rfl))
  exact next z w h.stay

set_option maxRecDepth 100000 in
theorem law_pack {nm : String} {X : Cx} {Q : State → Prop} {n k : Nat} {f : Nat → Int32} {z : St} {w : Wd} {cs : Nat × Nat} (hs : xsc X = some (n, f)) (hk : 7 * k + 7 ≤ n) (hn : n ≤ 3584) (h : Lg k z w) (hc : cs.1 ≤ 600000 ∧ cs.2 ≤ 7302250) (next : ∀ z' w', Lg (k + 1) z' w' → V (mL_law nm) X Q 1606 (LL k) [] w' cs) : V (mL_law nm) X Q 1044 (LL k) [] w cs := by
  have i1 : vp_in (nI (7 * k) + 1) n := sc_in 1 hk (by decide) hn
  have i2 : vp_in (nI (7 * k) + 2) n := sc_in 2 hk (by decide) hn
  have i3 : vp_in (nI (7 * k) + 3) n := sc_in 3 hk (by decide) hn
  have i4 : vp_in (nI (7 * k) + 4) n := sc_in 4 hk (by decide) hn
  have i5 : vp_in (nI (7 * k) + 5) n := sc_in 5 hk (by decide) hn
  have i6 : vp_in (nI (7 * k) + 6) n := sc_in 6 hk (by decide) hn
  first | refine V_aload_n dL_law_1044 rfl rfl ?_ | refine V_aload_nN dL_law_1044 rfl rfl ?_
  first | refine V_aload_n dL_law_1045 rfl rfl ?_ | refine V_aload_nN dL_law_1045 rfl rfl ?_
  refine V_iload_n dL_law_1046 rfl rfl ?_
  refine V_iconst (v := 1) dL_law_1047 (by decide) ?_
  refine V_iadd dL_law_1048 ?_
  refine V_sld hs (by exact i1) dL_law_1049 ?_
  first | refine V_aload_n dL_law_1050 rfl rfl ?_ | refine V_aload_nN dL_law_1050 rfl rfl ?_
  refine V_iload_n dL_law_1051 rfl rfl ?_
  refine V_iconst (v := 2) dL_law_1052 (by decide) ?_
  refine V_iadd dL_law_1053 ?_
  refine V_sld hs (by exact i2) dL_law_1054 ?_
  refine V_callVr (As := [_, _]) (st := _) (c_X8_pack z _ _ w h.1) kL_87 (by exact h.kx) ⟨rfl, rfl, rfl⟩ ⟨(Nat.le_of_ble_eq_true rfl), (Nat.le_of_ble_eq_true rfl)⟩ dL_law_1055 rfl rfl (Nat.le_of_ble_eq_true rfl) hc (fun v1 w1 q1 => ?_)
  obtain ⟨rfl, x1, g1⟩ := q1
  first | refine V_aload_n dL_law_1058 rfl rfl ?_ | refine V_aload_nN dL_law_1058 rfl rfl ?_
  first | refine V_aload_n dL_law_1059 rfl rfl ?_ | refine V_aload_nN dL_law_1059 rfl rfl ?_
  refine V_iload_n dL_law_1060 rfl rfl ?_
  refine V_iconst (v := 1) dL_law_1061 (by decide) ?_
  refine V_iadd dL_law_1062 ?_
  refine V_sld hs (by exact i1) dL_law_1063 ?_
  first | refine V_aload_n dL_law_1064 rfl rfl ?_ | refine V_aload_nN dL_law_1064 rfl rfl ?_
  refine V_iload_n dL_law_1065 rfl rfl ?_
  refine V_iconst (v := 2) dL_law_1066 (by decide) ?_
  refine V_iadd dL_law_1067 ?_
  refine V_sld hs (by exact i2) dL_law_1068 ?_
  refine V_callVr (As := [_, _]) (st := _) (c_X9_pack z _ _ w1 (h.mid g1)) kL_90 (by exact (h.mid g1).1.1.k 400 rfl rfl) ⟨rfl, rfl, rfl⟩ ⟨(Nat.le_of_ble_eq_true rfl), (Nat.le_of_ble_eq_true rfl)⟩ dL_law_1069 rfl rfl (Nat.le_of_ble_eq_true rfl) hc (fun v2 w2 q2 => ?_)
  obtain ⟨rfl, m2, g2⟩ := q2
  refine V_icmp_eq (tgt := 1606) dL_law_1072 (by decide) (fun c1072 => ?_) (fun c1072 => False.elim (by exact c1072 rfl))
  exact next _ w2 (h.next (by omega) (adv_Pack z _ _) x1 g1 m2 g2)

set_option maxRecDepth 100000 in
theorem law_key {nm : String} {X : Cx} {Q : State → Prop} {n k : Nat} {f : Nat → Int32} {z : St} {w : Wd} {cs : Nat × Nat} (hs : xsc X = some (n, f)) (hk : 7 * k + 7 ≤ n) (hn : n ≤ 3584) (h : Lg k z w) (hc : cs.1 ≤ 600000 ∧ cs.2 ≤ 7302250) (next : ∀ z' w', Lg (k + 1) z' w' → V (mL_law nm) X Q 1606 (LL k) [] w' cs) : V (mL_law nm) X Q 1077 (LL k) [] w cs := by
  have i1 : vp_in (nI (7 * k) + 1) n := sc_in 1 hk (by decide) hn
  have i2 : vp_in (nI (7 * k) + 2) n := sc_in 2 hk (by decide) hn
  have i3 : vp_in (nI (7 * k) + 3) n := sc_in 3 hk (by decide) hn
  have i4 : vp_in (nI (7 * k) + 4) n := sc_in 4 hk (by decide) hn
  have i5 : vp_in (nI (7 * k) + 5) n := sc_in 5 hk (by decide) hn
  have i6 : vp_in (nI (7 * k) + 6) n := sc_in 6 hk (by decide) hn
  first | refine V_aload_n dL_law_1077 rfl rfl ?_ | refine V_aload_nN dL_law_1077 rfl rfl ?_
  first | refine V_aload_n dL_law_1078 rfl rfl ?_ | refine V_aload_nN dL_law_1078 rfl rfl ?_
  refine V_iload_n dL_law_1079 rfl rfl ?_
  refine V_iconst (v := 1) dL_law_1080 (by decide) ?_
  refine V_iadd dL_law_1081 ?_
  refine V_sld hs (by exact i1) dL_law_1082 ?_
  refine V_callV (As := [_]) (st := _) (c_X8_key z _ w h.1) kL_91 (by exact h.kx) ⟨rfl, rfl, rfl⟩ ⟨(Nat.le_of_ble_eq_true rfl), (Nat.le_of_ble_eq_true rfl)⟩ dL_law_1083 rfl rfl (Nat.le_of_ble_eq_true rfl) hc ?_
  first | refine V_aload_n dL_law_1086 rfl rfl ?_ | refine V_aload_nN dL_law_1086 rfl rfl ?_
  first | refine V_aload_n dL_law_1087 rfl rfl ?_ | refine V_aload_nN dL_law_1087 rfl rfl ?_
  refine V_iload_n dL_law_1088 rfl rfl ?_
  refine V_iconst (v := 1) dL_law_1089 (by decide) ?_
  refine V_iadd dL_law_1090 ?_
  refine V_sld hs (by exact i1) dL_law_1091 ?_
  refine V_callV (As := [_]) (st := _) (c_X9_key z _ w h.2.1) kL_94 (by exact h.km) ⟨rfl, rfl, rfl⟩ ⟨(Nat.le_of_ble_eq_true rfl), (Nat.le_of_ble_eq_true rfl)⟩ dL_law_1092 rfl rfl (Nat.le_of_ble_eq_true rfl) hc ?_
  refine V_icmp_eq (tgt := 1606) dL_law_1095 (by decide) (fun c1095 => ?_) (fun c1095 => False.elim (by exact c1095 rfl))
  exact next z w h.stay

set_option maxRecDepth 100000 in
theorem law_thin {nm : String} {X : Cx} {Q : State → Prop} {n k : Nat} {f : Nat → Int32} {z : St} {w : Wd} {cs : Nat × Nat} (hs : xsc X = some (n, f)) (hk : 7 * k + 7 ≤ n) (hn : n ≤ 3584) (h : Lg k z w) (hc : cs.1 ≤ 600000 ∧ cs.2 ≤ 7302250) (next : ∀ z' w', Lg (k + 1) z' w' → V (mL_law nm) X Q 1606 (LL k) [] w' cs) : V (mL_law nm) X Q 1100 (LL k) [] w cs := by
  have i1 : vp_in (nI (7 * k) + 1) n := sc_in 1 hk (by decide) hn
  have i2 : vp_in (nI (7 * k) + 2) n := sc_in 2 hk (by decide) hn
  have i3 : vp_in (nI (7 * k) + 3) n := sc_in 3 hk (by decide) hn
  have i4 : vp_in (nI (7 * k) + 4) n := sc_in 4 hk (by decide) hn
  have i5 : vp_in (nI (7 * k) + 5) n := sc_in 5 hk (by decide) hn
  have i6 : vp_in (nI (7 * k) + 6) n := sc_in 6 hk (by decide) hn
  first | refine V_aload_n dL_law_1100 rfl rfl ?_ | refine V_aload_nN dL_law_1100 rfl rfl ?_
  first | refine V_aload_n dL_law_1101 rfl rfl ?_ | refine V_aload_nN dL_law_1101 rfl rfl ?_
  refine V_iload_n dL_law_1102 rfl rfl ?_
  refine V_iconst (v := 1) dL_law_1103 (by decide) ?_
  refine V_iadd dL_law_1104 ?_
  refine V_sld hs (by exact i1) dL_law_1105 ?_
  first | refine V_aload_n dL_law_1106 rfl rfl ?_ | refine V_aload_nN dL_law_1106 rfl rfl ?_
  refine V_iload_n dL_law_1107 rfl rfl ?_
  refine V_iconst (v := 2) dL_law_1108 (by decide) ?_
  refine V_iadd dL_law_1109 ?_
  refine V_sld hs (by exact i2) dL_law_1110 ?_
  refine V_callVr (As := [_, _]) (st := _) (c_X8_thin z _ _ w h.1) kL_95 (by exact h.kx) ⟨rfl, rfl, rfl⟩ ⟨(Nat.le_of_ble_eq_true rfl), (Nat.le_of_ble_eq_true rfl)⟩ dL_law_1111 rfl rfl (Nat.le_of_ble_eq_true rfl) hc (fun v1 w1 q1 => ?_)
  obtain ⟨rfl, x1, g1⟩ := q1
  first | refine V_aload_n dL_law_1114 rfl rfl ?_ | refine V_aload_nN dL_law_1114 rfl rfl ?_
  first | refine V_aload_n dL_law_1115 rfl rfl ?_ | refine V_aload_nN dL_law_1115 rfl rfl ?_
  refine V_iload_n dL_law_1116 rfl rfl ?_
  refine V_iconst (v := 1) dL_law_1117 (by decide) ?_
  refine V_iadd dL_law_1118 ?_
  refine V_sld hs (by exact i1) dL_law_1119 ?_
  first | refine V_aload_n dL_law_1120 rfl rfl ?_ | refine V_aload_nN dL_law_1120 rfl rfl ?_
  refine V_iload_n dL_law_1121 rfl rfl ?_
  refine V_iconst (v := 2) dL_law_1122 (by decide) ?_
  refine V_iadd dL_law_1123 ?_
  refine V_sld hs (by exact i2) dL_law_1124 ?_
  refine V_callVr (As := [_, _]) (st := _) (c_X9_thin z _ _ w1 (h.mid g1)) kL_98 (by exact (h.mid g1).1.1.k 400 rfl rfl) ⟨rfl, rfl, rfl⟩ ⟨(Nat.le_of_ble_eq_true rfl), (Nat.le_of_ble_eq_true rfl)⟩ dL_law_1125 rfl rfl (Nat.le_of_ble_eq_true rfl) hc (fun v2 w2 q2 => ?_)
  obtain ⟨rfl, m2, g2⟩ := q2
  refine V_icmp_eq (tgt := 1606) dL_law_1128 (by decide) (fun c1128 => ?_) (fun c1128 => False.elim (by exact c1128 rfl))
  exact next _ w2 (h.next (by omega) (adv_Thin z _ _) x1 g1 m2 g2)

set_option maxRecDepth 100000 in
theorem law_join {nm : String} {X : Cx} {Q : State → Prop} {n k : Nat} {f : Nat → Int32} {z : St} {w : Wd} {cs : Nat × Nat} (hs : xsc X = some (n, f)) (hk : 7 * k + 7 ≤ n) (hn : n ≤ 3584) (h : Lg k z w) (hc : cs.1 ≤ 600000 ∧ cs.2 ≤ 7302250) (next : ∀ z' w', Lg (k + 1) z' w' → V (mL_law nm) X Q 1606 (LL k) [] w' cs) : V (mL_law nm) X Q 1133 (LL k) [] w cs := by
  have i1 : vp_in (nI (7 * k) + 1) n := sc_in 1 hk (by decide) hn
  have i2 : vp_in (nI (7 * k) + 2) n := sc_in 2 hk (by decide) hn
  have i3 : vp_in (nI (7 * k) + 3) n := sc_in 3 hk (by decide) hn
  have i4 : vp_in (nI (7 * k) + 4) n := sc_in 4 hk (by decide) hn
  have i5 : vp_in (nI (7 * k) + 5) n := sc_in 5 hk (by decide) hn
  have i6 : vp_in (nI (7 * k) + 6) n := sc_in 6 hk (by decide) hn
  first | refine V_aload_n dL_law_1133 rfl rfl ?_ | refine V_aload_nN dL_law_1133 rfl rfl ?_
  first | refine V_aload_n dL_law_1134 rfl rfl ?_ | refine V_aload_nN dL_law_1134 rfl rfl ?_
  refine V_iload_n dL_law_1135 rfl rfl ?_
  refine V_iconst (v := 1) dL_law_1136 (by decide) ?_
  refine V_iadd dL_law_1137 ?_
  refine V_sld hs (by exact i1) dL_law_1138 ?_
  refine V_callVr (As := [_]) (st := _) (c_X8_join z _ w h.1) kL_99 (by exact h.kx) ⟨rfl, rfl, rfl⟩ ⟨(Nat.le_of_ble_eq_true rfl), (Nat.le_of_ble_eq_true rfl)⟩ dL_law_1139 rfl rfl (Nat.le_of_ble_eq_true rfl) hc (fun v1 w1 q1 => ?_)
  obtain ⟨rfl, x1, g1⟩ := q1
  first | refine V_aload_n dL_law_1142 rfl rfl ?_ | refine V_aload_nN dL_law_1142 rfl rfl ?_
  first | refine V_aload_n dL_law_1143 rfl rfl ?_ | refine V_aload_nN dL_law_1143 rfl rfl ?_
  refine V_iload_n dL_law_1144 rfl rfl ?_
  refine V_iconst (v := 1) dL_law_1145 (by decide) ?_
  refine V_iadd dL_law_1146 ?_
  refine V_sld hs (by exact i1) dL_law_1147 ?_
  refine V_callVr (As := [_]) (st := _) (c_X9_join z _ w1 (h.mid g1)) kL_102 (by exact (h.mid g1).1.1.k 400 rfl rfl) ⟨rfl, rfl, rfl⟩ ⟨(Nat.le_of_ble_eq_true rfl), (Nat.le_of_ble_eq_true rfl)⟩ dL_law_1148 rfl rfl (Nat.le_of_ble_eq_true rfl) hc (fun v2 w2 q2 => ?_)
  obtain ⟨rfl, m2, g2⟩ := q2
  refine V_icmp_eq (tgt := 1606) dL_law_1151 (by decide) (fun c1151 => ?_) (fun c1151 => False.elim (by exact c1151 rfl))
  exact next _ w2 (h.next (by omega) (adv_Join z _) x1 g1 m2 g2)

set_option maxRecDepth 100000 in
theorem law_live {nm : String} {X : Cx} {Q : State → Prop} {n k : Nat} {f : Nat → Int32} {z : St} {w : Wd} {cs : Nat × Nat} (hs : xsc X = some (n, f)) (hk : 7 * k + 7 ≤ n) (hn : n ≤ 3584) (h : Lg k z w) (hc : cs.1 ≤ 600000 ∧ cs.2 ≤ 7302250) (next : ∀ z' w', Lg (k + 1) z' w' → V (mL_law nm) X Q 1606 (LL k) [] w' cs) : V (mL_law nm) X Q 1156 (LL k) [] w cs := by
  have i1 : vp_in (nI (7 * k) + 1) n := sc_in 1 hk (by decide) hn
  have i2 : vp_in (nI (7 * k) + 2) n := sc_in 2 hk (by decide) hn
  have i3 : vp_in (nI (7 * k) + 3) n := sc_in 3 hk (by decide) hn
  have i4 : vp_in (nI (7 * k) + 4) n := sc_in 4 hk (by decide) hn
  have i5 : vp_in (nI (7 * k) + 5) n := sc_in 5 hk (by decide) hn
  have i6 : vp_in (nI (7 * k) + 6) n := sc_in 6 hk (by decide) hn
  first | refine V_aload_n dL_law_1156 rfl rfl ?_ | refine V_aload_nN dL_law_1156 rfl rfl ?_
  refine V_callV (As := []) (st := _) (c_X8_live z w h.1) kL_103 (by exact h.kx) ⟨rfl, rfl, rfl⟩ ⟨(Nat.le_of_ble_eq_true rfl), (Nat.le_of_ble_eq_true rfl)⟩ dL_law_1157 rfl rfl (Nat.le_of_ble_eq_true rfl) hc ?_
  first | refine V_aload_n dL_law_1160 rfl rfl ?_ | refine V_aload_nN dL_law_1160 rfl rfl ?_
  refine V_callVr (As := []) (st := _) (c_X9_live z w h.2.1) kL_107 (by exact h.km) ⟨rfl, rfl, rfl⟩ ⟨(Nat.le_of_ble_eq_true rfl), (Nat.le_of_ble_eq_true rfl)⟩ dL_law_1161 rfl rfl (Nat.le_of_ble_eq_true rfl) hc (fun v2 w2 q2 => ?_)
  obtain ⟨rfl, m2, g2⟩ := q2
  refine V_icmp_eq (tgt := 1606) dL_law_1164 (by decide) (fun c1164 => ?_) (fun c1164 => False.elim (by exact c1164 rfl))
  exact next z w2 (h.read m2 g2)

set_option maxRecDepth 100000 in
theorem law_isLive {nm : String} {X : Cx} {Q : State → Prop} {n k : Nat} {f : Nat → Int32} {z : St} {w : Wd} {cs : Nat × Nat} (hs : xsc X = some (n, f)) (hk : 7 * k + 7 ≤ n) (hn : n ≤ 3584) (h : Lg k z w) (hc : cs.1 ≤ 600000 ∧ cs.2 ≤ 7302250) (next : ∀ z' w', Lg (k + 1) z' w' → V (mL_law nm) X Q 1606 (LL k) [] w' cs) : V (mL_law nm) X Q 1169 (LL k) [] w cs := by
  have i1 : vp_in (nI (7 * k) + 1) n := sc_in 1 hk (by decide) hn
  have i2 : vp_in (nI (7 * k) + 2) n := sc_in 2 hk (by decide) hn
  have i3 : vp_in (nI (7 * k) + 3) n := sc_in 3 hk (by decide) hn
  have i4 : vp_in (nI (7 * k) + 4) n := sc_in 4 hk (by decide) hn
  have i5 : vp_in (nI (7 * k) + 5) n := sc_in 5 hk (by decide) hn
  have i6 : vp_in (nI (7 * k) + 6) n := sc_in 6 hk (by decide) hn
  first | refine V_aload_n dL_law_1169 rfl rfl ?_ | refine V_aload_nN dL_law_1169 rfl rfl ?_
  first | refine V_aload_n dL_law_1170 rfl rfl ?_ | refine V_aload_nN dL_law_1170 rfl rfl ?_
  refine V_iload_n dL_law_1171 rfl rfl ?_
  refine V_iconst (v := 1) dL_law_1172 (by decide) ?_
  refine V_iadd dL_law_1173 ?_
  refine V_sld hs (by exact i1) dL_law_1174 ?_
  first | refine V_aload_n dL_law_1175 rfl rfl ?_ | refine V_aload_nN dL_law_1175 rfl rfl ?_
  refine V_iload_n dL_law_1176 rfl rfl ?_
  refine V_iconst (v := 2) dL_law_1177 (by decide) ?_
  refine V_iadd dL_law_1178 ?_
  refine V_sld hs (by exact i2) dL_law_1179 ?_
  refine V_callV (As := [_, _]) (st := _) (c_X8_isLive z _ _ w h.1) kL_108 (by exact h.kx) ⟨rfl, rfl, rfl⟩ ⟨(Nat.le_of_ble_eq_true rfl), (Nat.le_of_ble_eq_true rfl)⟩ dL_law_1180 rfl rfl (Nat.le_of_ble_eq_true rfl) hc ?_
  first | refine V_aload_n dL_law_1183 rfl rfl ?_ | refine V_aload_nN dL_law_1183 rfl rfl ?_
  first | refine V_aload_n dL_law_1184 rfl rfl ?_ | refine V_aload_nN dL_law_1184 rfl rfl ?_
  refine V_iload_n dL_law_1185 rfl rfl ?_
  refine V_iconst (v := 1) dL_law_1186 (by decide) ?_
  refine V_iadd dL_law_1187 ?_
  refine V_sld hs (by exact i1) dL_law_1188 ?_
  first | refine V_aload_n dL_law_1189 rfl rfl ?_ | refine V_aload_nN dL_law_1189 rfl rfl ?_
  refine V_iload_n dL_law_1190 rfl rfl ?_
  refine V_iconst (v := 2) dL_law_1191 (by decide) ?_
  refine V_iadd dL_law_1192 ?_
  refine V_sld hs (by exact i2) dL_law_1193 ?_
  refine V_callVr (As := [_, _]) (st := _) (c_X9_isLive z _ _ w h.2.1) kL_111 (by exact h.km) ⟨rfl, rfl, rfl⟩ ⟨(Nat.le_of_ble_eq_true rfl), (Nat.le_of_ble_eq_true rfl)⟩ dL_law_1194 rfl rfl (Nat.le_of_ble_eq_true rfl) hc (fun v2 w2 q2 => ?_)
  obtain ⟨rfl, m2, g2⟩ := q2
  refine V_icmp_eq (tgt := 1606) dL_law_1197 (by decide) (fun c1197 => ?_) (fun c1197 => False.elim (by exact c1197 rfl))
  exact next z w2 (h.read m2 g2)

set_option maxRecDepth 100000 in
theorem law_walk {nm : String} {X : Cx} {Q : State → Prop} {n k : Nat} {f : Nat → Int32} {z : St} {w : Wd} {cs : Nat × Nat} (hs : xsc X = some (n, f)) (hk : 7 * k + 7 ≤ n) (hn : n ≤ 3584) (h : Lg k z w) (hc : cs.1 ≤ 600000 ∧ cs.2 ≤ 7302250) (next : ∀ z' w', Lg (k + 1) z' w' → V (mL_law nm) X Q 1606 (LL k) [] w' cs) : V (mL_law nm) X Q 1202 (LL k) [] w cs := by
  have i1 : vp_in (nI (7 * k) + 1) n := sc_in 1 hk (by decide) hn
  have i2 : vp_in (nI (7 * k) + 2) n := sc_in 2 hk (by decide) hn
  have i3 : vp_in (nI (7 * k) + 3) n := sc_in 3 hk (by decide) hn
  have i4 : vp_in (nI (7 * k) + 4) n := sc_in 4 hk (by decide) hn
  have i5 : vp_in (nI (7 * k) + 5) n := sc_in 5 hk (by decide) hn
  have i6 : vp_in (nI (7 * k) + 6) n := sc_in 6 hk (by decide) hn
  obtain ⟨D, hD⟩ := BE_ex (egZ z) (30 * bN (f (nI (7 * k) + 3).toNatClampNeg) + bN (f (nI (7 * k) + 4).toNatClampNeg))
  first | refine V_aload_n dL_law_1202 rfl rfl ?_ | refine V_aload_nN dL_law_1202 rfl rfl ?_
  first | refine V_aload_n dL_law_1203 rfl rfl ?_ | refine V_aload_nN dL_law_1203 rfl rfl ?_
  refine V_iload_n dL_law_1204 rfl rfl ?_
  refine V_iconst (v := 1) dL_law_1205 (by decide) ?_
  refine V_iadd dL_law_1206 ?_
  refine V_sld hs (by exact i1) dL_law_1207 ?_
  first | refine V_aload_n dL_law_1208 rfl rfl ?_ | refine V_aload_nN dL_law_1208 rfl rfl ?_
  refine V_iload_n dL_law_1209 rfl rfl ?_
  refine V_iconst (v := 2) dL_law_1210 (by decide) ?_
  refine V_iadd dL_law_1211 ?_
  refine V_sld hs (by exact i2) dL_law_1212 ?_
  first | refine V_aload_n dL_law_1213 rfl rfl ?_ | refine V_aload_nN dL_law_1213 rfl rfl ?_
  refine V_iload_n dL_law_1214 rfl rfl ?_
  refine V_iconst (v := 3) dL_law_1215 (by decide) ?_
  refine V_iadd dL_law_1216 ?_
  refine V_sld hs (by exact i3) dL_law_1217 ?_
  first | refine V_aload_n dL_law_1218 rfl rfl ?_ | refine V_aload_nN dL_law_1218 rfl rfl ?_
  refine V_iload_n dL_law_1219 rfl rfl ?_
  refine V_iconst (v := 4) dL_law_1220 (by decide) ?_
  refine V_iadd dL_law_1221 ?_
  refine V_sld hs (by exact i4) dL_law_1222 ?_
  refine V_callVr (As := [_, _, _, _]) (st := _) (c_X8_walk z D _ _ _ _ w h.1 hD) kL_112 (by exact h.kx) ⟨rfl, rfl, rfl⟩ ⟨(Nat.le_of_ble_eq_true rfl), (Nat.le_of_ble_eq_true rfl)⟩ dL_law_1223 rfl rfl (Nat.le_of_ble_eq_true rfl) hc (fun v1 w1 q1 => ?_)
  obtain ⟨rfl, x1, g1⟩ := q1
  first | refine V_aload_n dL_law_1226 rfl rfl ?_ | refine V_aload_nN dL_law_1226 rfl rfl ?_
  first | refine V_aload_n dL_law_1227 rfl rfl ?_ | refine V_aload_nN dL_law_1227 rfl rfl ?_
  refine V_iload_n dL_law_1228 rfl rfl ?_
  refine V_iconst (v := 1) dL_law_1229 (by decide) ?_
  refine V_iadd dL_law_1230 ?_
  refine V_sld hs (by exact i1) dL_law_1231 ?_
  first | refine V_aload_n dL_law_1232 rfl rfl ?_ | refine V_aload_nN dL_law_1232 rfl rfl ?_
  refine V_iload_n dL_law_1233 rfl rfl ?_
  refine V_iconst (v := 2) dL_law_1234 (by decide) ?_
  refine V_iadd dL_law_1235 ?_
  refine V_sld hs (by exact i2) dL_law_1236 ?_
  first | refine V_aload_n dL_law_1237 rfl rfl ?_ | refine V_aload_nN dL_law_1237 rfl rfl ?_
  refine V_iload_n dL_law_1238 rfl rfl ?_
  refine V_iconst (v := 3) dL_law_1239 (by decide) ?_
  refine V_iadd dL_law_1240 ?_
  refine V_sld hs (by exact i3) dL_law_1241 ?_
  first | refine V_aload_n dL_law_1242 rfl rfl ?_ | refine V_aload_nN dL_law_1242 rfl rfl ?_
  refine V_iload_n dL_law_1243 rfl rfl ?_
  refine V_iconst (v := 4) dL_law_1244 (by decide) ?_
  refine V_iadd dL_law_1245 ?_
  refine V_sld hs (by exact i4) dL_law_1246 ?_
  refine V_callVr (As := [_, _, _, _]) (st := _) (c_X9_walk z D _ _ _ _ w1 (h.mid g1) hD) kL_115 (by exact (h.mid g1).1.1.k 400 rfl rfl) ⟨rfl, rfl, rfl⟩ ⟨(Nat.le_of_ble_eq_true rfl), (Nat.le_of_ble_eq_true rfl)⟩ dL_law_1247 rfl rfl (Nat.le_of_ble_eq_true rfl) hc (fun v2 w2 q2 => ?_)
  obtain ⟨rfl, m2, g2⟩ := q2
  refine V_icmp_eq (tgt := 1606) dL_law_1250 (by decide) (fun c1250 => ?_) (fun c1250 => False.elim (by exact c1250 rfl))
  exact next _ w2 (h.next (by omega) (adv_Walk z D _ _ _ _) x1 g1 m2 g2)

set_option maxRecDepth 100000 in
theorem law_step {nm : String} {X : Cx} {Q : State → Prop} {n k : Nat} {f : Nat → Int32} {z : St} {w : Wd} {cs : Nat × Nat} (hs : xsc X = some (n, f)) (hk : 7 * k + 7 ≤ n) (hn : n ≤ 3584) (h : Lg k z w) (hc : cs.1 ≤ 600000 ∧ cs.2 ≤ 7302250) (next : ∀ z' w', Lg (k + 1) z' w' → V (mL_law nm) X Q 1606 (LL k) [] w' cs) : V (mL_law nm) X Q 1255 (LL k) [] w cs := by
  have i1 : vp_in (nI (7 * k) + 1) n := sc_in 1 hk (by decide) hn
  have i2 : vp_in (nI (7 * k) + 2) n := sc_in 2 hk (by decide) hn
  have i3 : vp_in (nI (7 * k) + 3) n := sc_in 3 hk (by decide) hn
  have i4 : vp_in (nI (7 * k) + 4) n := sc_in 4 hk (by decide) hn
  have i5 : vp_in (nI (7 * k) + 5) n := sc_in 5 hk (by decide) hn
  have i6 : vp_in (nI (7 * k) + 6) n := sc_in 6 hk (by decide) hn
  first | refine V_aload_n dL_law_1255 rfl rfl ?_ | refine V_aload_nN dL_law_1255 rfl rfl ?_
  first | refine V_aload_n dL_law_1256 rfl rfl ?_ | refine V_aload_nN dL_law_1256 rfl rfl ?_
  refine V_iload_n dL_law_1257 rfl rfl ?_
  refine V_iconst (v := 1) dL_law_1258 (by decide) ?_
  refine V_iadd dL_law_1259 ?_
  refine V_sld hs (by exact i1) dL_law_1260 ?_
  refine V_callV (As := [_]) (st := _) (c_X8_step z _ w h.1) kL_116 (by exact h.kx) ⟨rfl, rfl, rfl⟩ ⟨(Nat.le_of_ble_eq_true rfl), (Nat.le_of_ble_eq_true rfl)⟩ dL_law_1261 rfl rfl (Nat.le_of_ble_eq_true rfl) hc ?_
  first | refine V_aload_n dL_law_1264 rfl rfl ?_ | refine V_aload_nN dL_law_1264 rfl rfl ?_
  first | refine V_aload_n dL_law_1265 rfl rfl ?_ | refine V_aload_nN dL_law_1265 rfl rfl ?_
  refine V_iload_n dL_law_1266 rfl rfl ?_
  refine V_iconst (v := 1) dL_law_1267 (by decide) ?_
  refine V_iadd dL_law_1268 ?_
  refine V_sld hs (by exact i1) dL_law_1269 ?_
  refine V_callV (As := [_]) (st := _) (c_X9_step z _ w h.2.1) kL_119 (by exact h.km) ⟨rfl, rfl, rfl⟩ ⟨(Nat.le_of_ble_eq_true rfl), (Nat.le_of_ble_eq_true rfl)⟩ dL_law_1270 rfl rfl (Nat.le_of_ble_eq_true rfl) hc ?_
  refine V_icmp_eq (tgt := 1606) dL_law_1273 (by decide) (fun c1273 => ?_) (fun c1273 => False.elim (by exact c1273 rfl))
  exact next z w h.stay

set_option maxRecDepth 100000 in
theorem law_sheet {nm : String} {X : Cx} {Q : State → Prop} {n k : Nat} {f : Nat → Int32} {z : St} {w : Wd} {cs : Nat × Nat} (hs : xsc X = some (n, f)) (hk : 7 * k + 7 ≤ n) (hn : n ≤ 3584) (h : Lg k z w) (hc : cs.1 ≤ 600000 ∧ cs.2 ≤ 7302250) (next : ∀ z' w', Lg (k + 1) z' w' → V (mL_law nm) X Q 1606 (LL k) [] w' cs) : V (mL_law nm) X Q 1278 (LL k) [] w cs := by
  have i1 : vp_in (nI (7 * k) + 1) n := sc_in 1 hk (by decide) hn
  have i2 : vp_in (nI (7 * k) + 2) n := sc_in 2 hk (by decide) hn
  have i3 : vp_in (nI (7 * k) + 3) n := sc_in 3 hk (by decide) hn
  have i4 : vp_in (nI (7 * k) + 4) n := sc_in 4 hk (by decide) hn
  have i5 : vp_in (nI (7 * k) + 5) n := sc_in 5 hk (by decide) hn
  have i6 : vp_in (nI (7 * k) + 6) n := sc_in 6 hk (by decide) hn
  first | refine V_aload_n dL_law_1278 rfl rfl ?_ | refine V_aload_nN dL_law_1278 rfl rfl ?_
  first | refine V_aload_n dL_law_1279 rfl rfl ?_ | refine V_aload_nN dL_law_1279 rfl rfl ?_
  refine V_iload_n dL_law_1280 rfl rfl ?_
  refine V_iconst (v := 1) dL_law_1281 (by decide) ?_
  refine V_iadd dL_law_1282 ?_
  refine V_sld hs (by exact i1) dL_law_1283 ?_
  first | refine V_aload_n dL_law_1284 rfl rfl ?_ | refine V_aload_nN dL_law_1284 rfl rfl ?_
  refine V_iload_n dL_law_1285 rfl rfl ?_
  refine V_iconst (v := 2) dL_law_1286 (by decide) ?_
  refine V_iadd dL_law_1287 ?_
  refine V_sld hs (by exact i2) dL_law_1288 ?_
  first | refine V_aload_n dL_law_1289 rfl rfl ?_ | refine V_aload_nN dL_law_1289 rfl rfl ?_
  refine V_iload_n dL_law_1290 rfl rfl ?_
  refine V_iconst (v := 3) dL_law_1291 (by decide) ?_
  refine V_iadd dL_law_1292 ?_
  refine V_sld hs (by exact i3) dL_law_1293 ?_
  refine V_callVr (As := [_, _, _]) (st := _) (c_X8_sheet z _ _ _ w h.1) kL_120 (by exact h.kx) ⟨rfl, rfl, rfl⟩ ⟨(Nat.le_of_ble_eq_true rfl), (Nat.le_of_ble_eq_true rfl)⟩ dL_law_1294 rfl rfl (Nat.le_of_ble_eq_true rfl) hc (fun v1 w1 q1 => ?_)
  obtain ⟨rfl, x1, g1⟩ := q1
  first | refine V_aload_n dL_law_1297 rfl rfl ?_ | refine V_aload_nN dL_law_1297 rfl rfl ?_
  first | refine V_aload_n dL_law_1298 rfl rfl ?_ | refine V_aload_nN dL_law_1298 rfl rfl ?_
  refine V_iload_n dL_law_1299 rfl rfl ?_
  refine V_iconst (v := 1) dL_law_1300 (by decide) ?_
  refine V_iadd dL_law_1301 ?_
  refine V_sld hs (by exact i1) dL_law_1302 ?_
  first | refine V_aload_n dL_law_1303 rfl rfl ?_ | refine V_aload_nN dL_law_1303 rfl rfl ?_
  refine V_iload_n dL_law_1304 rfl rfl ?_
  refine V_iconst (v := 2) dL_law_1305 (by decide) ?_
  refine V_iadd dL_law_1306 ?_
  refine V_sld hs (by exact i2) dL_law_1307 ?_
  first | refine V_aload_n dL_law_1308 rfl rfl ?_ | refine V_aload_nN dL_law_1308 rfl rfl ?_
  refine V_iload_n dL_law_1309 rfl rfl ?_
  refine V_iconst (v := 3) dL_law_1310 (by decide) ?_
  refine V_iadd dL_law_1311 ?_
  refine V_sld hs (by exact i3) dL_law_1312 ?_
  refine V_callVr (As := [_, _, _]) (st := _) (c_X9_sheet z _ _ _ w1 (h.mid g1)) kL_123 (by exact (h.mid g1).1.1.k 400 rfl rfl) ⟨rfl, rfl, rfl⟩ ⟨(Nat.le_of_ble_eq_true rfl), (Nat.le_of_ble_eq_true rfl)⟩ dL_law_1313 rfl rfl (Nat.le_of_ble_eq_true rfl) hc (fun v2 w2 q2 => ?_)
  obtain ⟨rfl, m2, g2⟩ := q2
  refine V_icmp_eq (tgt := 1606) dL_law_1316 (by decide) (fun c1316 => ?_) (fun c1316 => False.elim (by exact c1316 rfl))
  exact next _ w2 (h.next (by omega) (adv_Sheet z _ _ _) x1 g1 m2 g2)

set_option maxRecDepth 100000 in
theorem law_lose {nm : String} {X : Cx} {Q : State → Prop} {n k : Nat} {f : Nat → Int32} {z : St} {w : Wd} {cs : Nat × Nat} (hs : xsc X = some (n, f)) (hk : 7 * k + 7 ≤ n) (hn : n ≤ 3584) (h : Lg k z w) (hc : cs.1 ≤ 600000 ∧ cs.2 ≤ 7302250) (next : ∀ z' w', Lg (k + 1) z' w' → V (mL_law nm) X Q 1606 (LL k) [] w' cs) : V (mL_law nm) X Q 1321 (LL k) [] w cs := by
  have i1 : vp_in (nI (7 * k) + 1) n := sc_in 1 hk (by decide) hn
  have i2 : vp_in (nI (7 * k) + 2) n := sc_in 2 hk (by decide) hn
  have i3 : vp_in (nI (7 * k) + 3) n := sc_in 3 hk (by decide) hn
  have i4 : vp_in (nI (7 * k) + 4) n := sc_in 4 hk (by decide) hn
  have i5 : vp_in (nI (7 * k) + 5) n := sc_in 5 hk (by decide) hn
  have i6 : vp_in (nI (7 * k) + 6) n := sc_in 6 hk (by decide) hn
  first | refine V_aload_n dL_law_1321 rfl rfl ?_ | refine V_aload_nN dL_law_1321 rfl rfl ?_
  first | refine V_aload_n dL_law_1322 rfl rfl ?_ | refine V_aload_nN dL_law_1322 rfl rfl ?_
  refine V_iload_n dL_law_1323 rfl rfl ?_
  refine V_iconst (v := 1) dL_law_1324 (by decide) ?_
  refine V_iadd dL_law_1325 ?_
  refine V_sld hs (by exact i1) dL_law_1326 ?_
  refine V_callVr (As := [_]) (st := _) (c_X8_lose z _ w h.1) kL_124 (by exact h.kx) ⟨rfl, rfl, rfl⟩ ⟨(Nat.le_of_ble_eq_true rfl), (Nat.le_of_ble_eq_true rfl)⟩ dL_law_1327 rfl rfl (Nat.le_of_ble_eq_true rfl) hc (fun v1 w1 q1 => ?_)
  obtain ⟨rfl, x1, g1⟩ := q1
  first | refine V_aload_n dL_law_1330 rfl rfl ?_ | refine V_aload_nN dL_law_1330 rfl rfl ?_
  first | refine V_aload_n dL_law_1331 rfl rfl ?_ | refine V_aload_nN dL_law_1331 rfl rfl ?_
  refine V_iload_n dL_law_1332 rfl rfl ?_
  refine V_iconst (v := 1) dL_law_1333 (by decide) ?_
  refine V_iadd dL_law_1334 ?_
  refine V_sld hs (by exact i1) dL_law_1335 ?_
  refine V_callVr (As := [_]) (st := _) (c_X9_lose z _ w1 (h.mid g1)) kL_127 (by exact (h.mid g1).1.1.k 400 rfl rfl) ⟨rfl, rfl, rfl⟩ ⟨(Nat.le_of_ble_eq_true rfl), (Nat.le_of_ble_eq_true rfl)⟩ dL_law_1336 rfl rfl (Nat.le_of_ble_eq_true rfl) hc (fun v2 w2 q2 => ?_)
  obtain ⟨rfl, m2, g2⟩ := q2
  refine V_icmp_eq (tgt := 1606) dL_law_1339 (by decide) (fun c1339 => ?_) (fun c1339 => False.elim (by exact c1339 rfl))
  exact next _ w2 (h.next (by omega) (adv_Lose z _) x1 g1 m2 g2)

set_option maxRecDepth 100000 in
theorem law_put {nm : String} {X : Cx} {Q : State → Prop} {n k : Nat} {f : Nat → Int32} {z : St} {w : Wd} {cs : Nat × Nat} (hs : xsc X = some (n, f)) (hk : 7 * k + 7 ≤ n) (hn : n ≤ 3584) (h : Lg k z w) (hc : cs.1 ≤ 600000 ∧ cs.2 ≤ 7302250) (next : ∀ z' w', Lg (k + 1) z' w' → V (mL_law nm) X Q 1606 (LL k) [] w' cs) : V (mL_law nm) X Q 1344 (LL k) [] w cs := by
  have i1 : vp_in (nI (7 * k) + 1) n := sc_in 1 hk (by decide) hn
  have i2 : vp_in (nI (7 * k) + 2) n := sc_in 2 hk (by decide) hn
  have i3 : vp_in (nI (7 * k) + 3) n := sc_in 3 hk (by decide) hn
  have i4 : vp_in (nI (7 * k) + 4) n := sc_in 4 hk (by decide) hn
  have i5 : vp_in (nI (7 * k) + 5) n := sc_in 5 hk (by decide) hn
  have i6 : vp_in (nI (7 * k) + 6) n := sc_in 6 hk (by decide) hn
  first | refine V_aload_n dL_law_1344 rfl rfl ?_ | refine V_aload_nN dL_law_1344 rfl rfl ?_
  first | refine V_aload_n dL_law_1345 rfl rfl ?_ | refine V_aload_nN dL_law_1345 rfl rfl ?_
  refine V_iload_n dL_law_1346 rfl rfl ?_
  refine V_iconst (v := 1) dL_law_1347 (by decide) ?_
  refine V_iadd dL_law_1348 ?_
  refine V_sld hs (by exact i1) dL_law_1349 ?_
  first | refine V_aload_n dL_law_1350 rfl rfl ?_ | refine V_aload_nN dL_law_1350 rfl rfl ?_
  refine V_iload_n dL_law_1351 rfl rfl ?_
  refine V_iconst (v := 2) dL_law_1352 (by decide) ?_
  refine V_iadd dL_law_1353 ?_
  refine V_sld hs (by exact i2) dL_law_1354 ?_
  first | refine V_aload_n dL_law_1355 rfl rfl ?_ | refine V_aload_nN dL_law_1355 rfl rfl ?_
  refine V_iload_n dL_law_1356 rfl rfl ?_
  refine V_iconst (v := 3) dL_law_1357 (by decide) ?_
  refine V_iadd dL_law_1358 ?_
  refine V_sld hs (by exact i3) dL_law_1359 ?_
  first | refine V_aload_n dL_law_1360 rfl rfl ?_ | refine V_aload_nN dL_law_1360 rfl rfl ?_
  refine V_iload_n dL_law_1361 rfl rfl ?_
  refine V_iconst (v := 4) dL_law_1362 (by decide) ?_
  refine V_iadd dL_law_1363 ?_
  refine V_sld hs (by exact i4) dL_law_1364 ?_
  refine V_callVr (As := [_, _, _, _]) (st := _) (c_X8_put z _ _ _ _ w h.1) kL_128 (by exact h.kx) ⟨rfl, rfl, rfl⟩ ⟨(Nat.le_of_ble_eq_true rfl), (Nat.le_of_ble_eq_true rfl)⟩ dL_law_1365 rfl rfl (Nat.le_of_ble_eq_true rfl) hc (fun v1 w1 q1 => ?_)
  obtain ⟨rfl, x1, g1⟩ := q1
  first | refine V_aload_n dL_law_1368 rfl rfl ?_ | refine V_aload_nN dL_law_1368 rfl rfl ?_
  first | refine V_aload_n dL_law_1369 rfl rfl ?_ | refine V_aload_nN dL_law_1369 rfl rfl ?_
  refine V_iload_n dL_law_1370 rfl rfl ?_
  refine V_iconst (v := 1) dL_law_1371 (by decide) ?_
  refine V_iadd dL_law_1372 ?_
  refine V_sld hs (by exact i1) dL_law_1373 ?_
  first | refine V_aload_n dL_law_1374 rfl rfl ?_ | refine V_aload_nN dL_law_1374 rfl rfl ?_
  refine V_iload_n dL_law_1375 rfl rfl ?_
  refine V_iconst (v := 2) dL_law_1376 (by decide) ?_
  refine V_iadd dL_law_1377 ?_
  refine V_sld hs (by exact i2) dL_law_1378 ?_
  first | refine V_aload_n dL_law_1379 rfl rfl ?_ | refine V_aload_nN dL_law_1379 rfl rfl ?_
  refine V_iload_n dL_law_1380 rfl rfl ?_
  refine V_iconst (v := 3) dL_law_1381 (by decide) ?_
  refine V_iadd dL_law_1382 ?_
  refine V_sld hs (by exact i3) dL_law_1383 ?_
  first | refine V_aload_n dL_law_1384 rfl rfl ?_ | refine V_aload_nN dL_law_1384 rfl rfl ?_
  refine V_iload_n dL_law_1385 rfl rfl ?_
  refine V_iconst (v := 4) dL_law_1386 (by decide) ?_
  refine V_iadd dL_law_1387 ?_
  refine V_sld hs (by exact i4) dL_law_1388 ?_
  refine V_callVr (As := [_, _, _, _]) (st := _) (c_X9_put z _ _ _ _ w1 (h.mid g1)) kL_131 (by exact (h.mid g1).1.1.k 400 rfl rfl) ⟨rfl, rfl, rfl⟩ ⟨(Nat.le_of_ble_eq_true rfl), (Nat.le_of_ble_eq_true rfl)⟩ dL_law_1389 rfl rfl (Nat.le_of_ble_eq_true rfl) hc (fun v2 w2 q2 => ?_)
  obtain ⟨rfl, m2, g2⟩ := q2
  refine V_icmp_eq (tgt := 1606) dL_law_1392 (by decide) (fun c1392 => ?_) (fun c1392 => False.elim (by exact c1392 rfl))
  exact next _ w2 (h.next (by omega) (adv_Put z _ _ _ _) x1 g1 m2 g2)

set_option maxRecDepth 100000 in
theorem law_get {nm : String} {X : Cx} {Q : State → Prop} {n k : Nat} {f : Nat → Int32} {z : St} {w : Wd} {cs : Nat × Nat} (hs : xsc X = some (n, f)) (hk : 7 * k + 7 ≤ n) (hn : n ≤ 3584) (h : Lg k z w) (hc : cs.1 ≤ 600000 ∧ cs.2 ≤ 7302250) (next : ∀ z' w', Lg (k + 1) z' w' → V (mL_law nm) X Q 1606 (LL k) [] w' cs) : V (mL_law nm) X Q 1397 (LL k) [] w cs := by
  have i1 : vp_in (nI (7 * k) + 1) n := sc_in 1 hk (by decide) hn
  have i2 : vp_in (nI (7 * k) + 2) n := sc_in 2 hk (by decide) hn
  have i3 : vp_in (nI (7 * k) + 3) n := sc_in 3 hk (by decide) hn
  have i4 : vp_in (nI (7 * k) + 4) n := sc_in 4 hk (by decide) hn
  have i5 : vp_in (nI (7 * k) + 5) n := sc_in 5 hk (by decide) hn
  have i6 : vp_in (nI (7 * k) + 6) n := sc_in 6 hk (by decide) hn
  first | refine V_aload_n dL_law_1397 rfl rfl ?_ | refine V_aload_nN dL_law_1397 rfl rfl ?_
  first | refine V_aload_n dL_law_1398 rfl rfl ?_ | refine V_aload_nN dL_law_1398 rfl rfl ?_
  refine V_iload_n dL_law_1399 rfl rfl ?_
  refine V_iconst (v := 1) dL_law_1400 (by decide) ?_
  refine V_iadd dL_law_1401 ?_
  refine V_sld hs (by exact i1) dL_law_1402 ?_
  first | refine V_aload_n dL_law_1403 rfl rfl ?_ | refine V_aload_nN dL_law_1403 rfl rfl ?_
  refine V_iload_n dL_law_1404 rfl rfl ?_
  refine V_iconst (v := 2) dL_law_1405 (by decide) ?_
  refine V_iadd dL_law_1406 ?_
  refine V_sld hs (by exact i2) dL_law_1407 ?_
  first | refine V_aload_n dL_law_1408 rfl rfl ?_ | refine V_aload_nN dL_law_1408 rfl rfl ?_
  refine V_iload_n dL_law_1409 rfl rfl ?_
  refine V_iconst (v := 3) dL_law_1410 (by decide) ?_
  refine V_iadd dL_law_1411 ?_
  refine V_sld hs (by exact i3) dL_law_1412 ?_
  refine V_callVr (As := [_, _, _]) (st := _) (c_X8_get z _ _ _ w h.1) kL_132 (by exact h.kx) ⟨rfl, rfl, rfl⟩ ⟨(Nat.le_of_ble_eq_true rfl), (Nat.le_of_ble_eq_true rfl)⟩ dL_law_1413 rfl rfl (Nat.le_of_ble_eq_true rfl) hc (fun v1 w1 q1 => ?_)
  obtain ⟨rfl, x1, g1⟩ := q1
  first | refine V_aload_n dL_law_1416 rfl rfl ?_ | refine V_aload_nN dL_law_1416 rfl rfl ?_
  first | refine V_aload_n dL_law_1417 rfl rfl ?_ | refine V_aload_nN dL_law_1417 rfl rfl ?_
  refine V_iload_n dL_law_1418 rfl rfl ?_
  refine V_iconst (v := 1) dL_law_1419 (by decide) ?_
  refine V_iadd dL_law_1420 ?_
  refine V_sld hs (by exact i1) dL_law_1421 ?_
  first | refine V_aload_n dL_law_1422 rfl rfl ?_ | refine V_aload_nN dL_law_1422 rfl rfl ?_
  refine V_iload_n dL_law_1423 rfl rfl ?_
  refine V_iconst (v := 2) dL_law_1424 (by decide) ?_
  refine V_iadd dL_law_1425 ?_
  refine V_sld hs (by exact i2) dL_law_1426 ?_
  first | refine V_aload_n dL_law_1427 rfl rfl ?_ | refine V_aload_nN dL_law_1427 rfl rfl ?_
  refine V_iload_n dL_law_1428 rfl rfl ?_
  refine V_iconst (v := 3) dL_law_1429 (by decide) ?_
  refine V_iadd dL_law_1430 ?_
  refine V_sld hs (by exact i3) dL_law_1431 ?_
  refine V_callVr (As := [_, _, _]) (st := _) (c_X9_get z _ _ _ w1 (h.mid g1)) kL_135 (by exact (h.mid g1).1.1.k 400 rfl rfl) ⟨rfl, rfl, rfl⟩ ⟨(Nat.le_of_ble_eq_true rfl), (Nat.le_of_ble_eq_true rfl)⟩ dL_law_1432 rfl rfl (Nat.le_of_ble_eq_true rfl) hc (fun v2 w2 q2 => ?_)
  obtain ⟨rfl, m2, g2⟩ := q2
  refine V_icmp_eq (tgt := 1606) dL_law_1435 (by decide) (fun c1435 => ?_) (fun c1435 => False.elim (by exact c1435 rfl))
  exact next _ w2 (h.next (by omega) (adv_Get z _ _ _) x1 g1 m2 g2)

set_option maxRecDepth 100000 in
theorem law_copy {nm : String} {X : Cx} {Q : State → Prop} {n k : Nat} {f : Nat → Int32} {z : St} {w : Wd} {cs : Nat × Nat} (hs : xsc X = some (n, f)) (hk : 7 * k + 7 ≤ n) (hn : n ≤ 3584) (h : Lg k z w) (hc : cs.1 ≤ 600000 ∧ cs.2 ≤ 7302250) (next : ∀ z' w', Lg (k + 1) z' w' → V (mL_law nm) X Q 1606 (LL k) [] w' cs) : V (mL_law nm) X Q 1440 (LL k) [] w cs := by
  have i1 : vp_in (nI (7 * k) + 1) n := sc_in 1 hk (by decide) hn
  have i2 : vp_in (nI (7 * k) + 2) n := sc_in 2 hk (by decide) hn
  have i3 : vp_in (nI (7 * k) + 3) n := sc_in 3 hk (by decide) hn
  have i4 : vp_in (nI (7 * k) + 4) n := sc_in 4 hk (by decide) hn
  have i5 : vp_in (nI (7 * k) + 5) n := sc_in 5 hk (by decide) hn
  have i6 : vp_in (nI (7 * k) + 6) n := sc_in 6 hk (by decide) hn
  first | refine V_aload_n dL_law_1440 rfl rfl ?_ | refine V_aload_nN dL_law_1440 rfl rfl ?_
  first | refine V_aload_n dL_law_1441 rfl rfl ?_ | refine V_aload_nN dL_law_1441 rfl rfl ?_
  refine V_iload_n dL_law_1442 rfl rfl ?_
  refine V_iconst (v := 1) dL_law_1443 (by decide) ?_
  refine V_iadd dL_law_1444 ?_
  refine V_sld hs (by exact i1) dL_law_1445 ?_
  first | refine V_aload_n dL_law_1446 rfl rfl ?_ | refine V_aload_nN dL_law_1446 rfl rfl ?_
  refine V_iload_n dL_law_1447 rfl rfl ?_
  refine V_iconst (v := 2) dL_law_1448 (by decide) ?_
  refine V_iadd dL_law_1449 ?_
  refine V_sld hs (by exact i2) dL_law_1450 ?_
  first | refine V_aload_n dL_law_1451 rfl rfl ?_ | refine V_aload_nN dL_law_1451 rfl rfl ?_
  refine V_iload_n dL_law_1452 rfl rfl ?_
  refine V_iconst (v := 3) dL_law_1453 (by decide) ?_
  refine V_iadd dL_law_1454 ?_
  refine V_sld hs (by exact i3) dL_law_1455 ?_
  first | refine V_aload_n dL_law_1456 rfl rfl ?_ | refine V_aload_nN dL_law_1456 rfl rfl ?_
  refine V_iload_n dL_law_1457 rfl rfl ?_
  refine V_iconst (v := 4) dL_law_1458 (by decide) ?_
  refine V_iadd dL_law_1459 ?_
  refine V_sld hs (by exact i4) dL_law_1460 ?_
  first | refine V_aload_n dL_law_1461 rfl rfl ?_ | refine V_aload_nN dL_law_1461 rfl rfl ?_
  refine V_iload_n dL_law_1462 rfl rfl ?_
  refine V_iconst (v := 5) dL_law_1463 (by decide) ?_
  refine V_iadd dL_law_1464 ?_
  refine V_sld hs (by exact i5) dL_law_1465 ?_
  refine V_callVr (As := [_, _, _, _, _]) (st := _) (c_X8_copy z _ _ _ _ _ w h.1) kL_136 (by exact h.kx) ⟨rfl, rfl, rfl⟩ ⟨(Nat.le_of_ble_eq_true rfl), (Nat.le_of_ble_eq_true rfl)⟩ dL_law_1466 rfl rfl (Nat.le_of_ble_eq_true rfl) hc (fun v1 w1 q1 => ?_)
  obtain ⟨rfl, x1, g1⟩ := q1
  first | refine V_aload_n dL_law_1469 rfl rfl ?_ | refine V_aload_nN dL_law_1469 rfl rfl ?_
  first | refine V_aload_n dL_law_1470 rfl rfl ?_ | refine V_aload_nN dL_law_1470 rfl rfl ?_
  refine V_iload_n dL_law_1471 rfl rfl ?_
  refine V_iconst (v := 1) dL_law_1472 (by decide) ?_
  refine V_iadd dL_law_1473 ?_
  refine V_sld hs (by exact i1) dL_law_1474 ?_
  first | refine V_aload_n dL_law_1475 rfl rfl ?_ | refine V_aload_nN dL_law_1475 rfl rfl ?_
  refine V_iload_n dL_law_1476 rfl rfl ?_
  refine V_iconst (v := 2) dL_law_1477 (by decide) ?_
  refine V_iadd dL_law_1478 ?_
  refine V_sld hs (by exact i2) dL_law_1479 ?_
  first | refine V_aload_n dL_law_1480 rfl rfl ?_ | refine V_aload_nN dL_law_1480 rfl rfl ?_
  refine V_iload_n dL_law_1481 rfl rfl ?_
  refine V_iconst (v := 3) dL_law_1482 (by decide) ?_
  refine V_iadd dL_law_1483 ?_
  refine V_sld hs (by exact i3) dL_law_1484 ?_
  first | refine V_aload_n dL_law_1485 rfl rfl ?_ | refine V_aload_nN dL_law_1485 rfl rfl ?_
  refine V_iload_n dL_law_1486 rfl rfl ?_
  refine V_iconst (v := 4) dL_law_1487 (by decide) ?_
  refine V_iadd dL_law_1488 ?_
  refine V_sld hs (by exact i4) dL_law_1489 ?_
  first | refine V_aload_n dL_law_1490 rfl rfl ?_ | refine V_aload_nN dL_law_1490 rfl rfl ?_
  refine V_iload_n dL_law_1491 rfl rfl ?_
  refine V_iconst (v := 5) dL_law_1492 (by decide) ?_
  refine V_iadd dL_law_1493 ?_
  refine V_sld hs (by exact i5) dL_law_1494 ?_
  refine V_callVr (As := [_, _, _, _, _]) (st := _) (c_X9_copy z _ _ _ _ _ w1 (h.mid g1)) kL_140 (by exact (h.mid g1).1.1.k 400 rfl rfl) ⟨rfl, rfl, rfl⟩ ⟨(Nat.le_of_ble_eq_true rfl), (Nat.le_of_ble_eq_true rfl)⟩ dL_law_1495 rfl rfl (Nat.le_of_ble_eq_true rfl) hc (fun v2 w2 q2 => ?_)
  obtain ⟨rfl, m2, g2⟩ := q2
  refine V_icmp_eq (tgt := 1606) dL_law_1498 (by decide) (fun c1498 => ?_) (fun c1498 => False.elim (by exact c1498 rfl))
  exact next _ w2 (h.next (by omega) (adv_Copy z _ _ _ _ _) x1 g1 m2 g2)

set_option maxRecDepth 100000 in
theorem law_pose {nm : String} {X : Cx} {Q : State → Prop} {n k : Nat} {f : Nat → Int32} {z : St} {w : Wd} {cs : Nat × Nat} (hs : xsc X = some (n, f)) (hk : 7 * k + 7 ≤ n) (hn : n ≤ 3584) (h : Lg k z w) (hc : cs.1 ≤ 600000 ∧ cs.2 ≤ 7302250) (next : ∀ z' w', Lg (k + 1) z' w' → V (mL_law nm) X Q 1606 (LL k) [] w' cs) : V (mL_law nm) X Q 1503 (LL k) [] w cs := by
  have i1 : vp_in (nI (7 * k) + 1) n := sc_in 1 hk (by decide) hn
  have i2 : vp_in (nI (7 * k) + 2) n := sc_in 2 hk (by decide) hn
  have i3 : vp_in (nI (7 * k) + 3) n := sc_in 3 hk (by decide) hn
  have i4 : vp_in (nI (7 * k) + 4) n := sc_in 4 hk (by decide) hn
  have i5 : vp_in (nI (7 * k) + 5) n := sc_in 5 hk (by decide) hn
  have i6 : vp_in (nI (7 * k) + 6) n := sc_in 6 hk (by decide) hn
  first | refine V_aload_n dL_law_1503 rfl rfl ?_ | refine V_aload_nN dL_law_1503 rfl rfl ?_
  first | refine V_aload_n dL_law_1504 rfl rfl ?_ | refine V_aload_nN dL_law_1504 rfl rfl ?_
  refine V_iload_n dL_law_1505 rfl rfl ?_
  refine V_iconst (v := 1) dL_law_1506 (by decide) ?_
  refine V_iadd dL_law_1507 ?_
  refine V_sld hs (by exact i1) dL_law_1508 ?_
  first | refine V_aload_n dL_law_1509 rfl rfl ?_ | refine V_aload_nN dL_law_1509 rfl rfl ?_
  refine V_iload_n dL_law_1510 rfl rfl ?_
  refine V_iconst (v := 2) dL_law_1511 (by decide) ?_
  refine V_iadd dL_law_1512 ?_
  refine V_sld hs (by exact i2) dL_law_1513 ?_
  refine V_callVr (As := [_, _]) (st := _) (c_X8_pose z _ _ w h.1) kL_141 (by exact h.kx) ⟨rfl, rfl, rfl⟩ ⟨(Nat.le_of_ble_eq_true rfl), (Nat.le_of_ble_eq_true rfl)⟩ dL_law_1514 rfl rfl (Nat.le_of_ble_eq_true rfl) hc (fun v1 w1 q1 => ?_)
  obtain ⟨rfl, x1, g1⟩ := q1
  first | refine V_aload_n dL_law_1517 rfl rfl ?_ | refine V_aload_nN dL_law_1517 rfl rfl ?_
  first | refine V_aload_n dL_law_1518 rfl rfl ?_ | refine V_aload_nN dL_law_1518 rfl rfl ?_
  refine V_iload_n dL_law_1519 rfl rfl ?_
  refine V_iconst (v := 1) dL_law_1520 (by decide) ?_
  refine V_iadd dL_law_1521 ?_
  refine V_sld hs (by exact i1) dL_law_1522 ?_
  first | refine V_aload_n dL_law_1523 rfl rfl ?_ | refine V_aload_nN dL_law_1523 rfl rfl ?_
  refine V_iload_n dL_law_1524 rfl rfl ?_
  refine V_iconst (v := 2) dL_law_1525 (by decide) ?_
  refine V_iadd dL_law_1526 ?_
  refine V_sld hs (by exact i2) dL_law_1527 ?_
  refine V_callVr (As := [_, _]) (st := _) (c_X9_pose z _ _ w1 (h.mid g1)) kL_144 (by exact (h.mid g1).1.1.k 400 rfl rfl) ⟨rfl, rfl, rfl⟩ ⟨(Nat.le_of_ble_eq_true rfl), (Nat.le_of_ble_eq_true rfl)⟩ dL_law_1528 rfl rfl (Nat.le_of_ble_eq_true rfl) hc (fun v2 w2 q2 => ?_)
  obtain ⟨rfl, m2, g2⟩ := q2
  refine V_icmp_eq (tgt := 1606) dL_law_1531 (by decide) (fun c1531 => ?_) (fun c1531 => False.elim (by exact c1531 rfl))
  exact next _ w2 (h.next (by omega) (adv_Pose z _ _) x1 g1 m2 g2)

set_option maxRecDepth 100000 in
theorem law_write {nm : String} {X : Cx} {Q : State → Prop} {n k : Nat} {f : Nat → Int32} {z : St} {w : Wd} {cs : Nat × Nat} (hs : xsc X = some (n, f)) (hk : 7 * k + 7 ≤ n) (hn : n ≤ 3584) (h : Lg k z w) (hc : cs.1 ≤ 600000 ∧ cs.2 ≤ 7302250) (next : ∀ z' w', Lg (k + 1) z' w' → V (mL_law nm) X Q 1606 (LL k) [] w' cs) : V (mL_law nm) X Q 1536 (LL k) [] w cs := by
  have i1 : vp_in (nI (7 * k) + 1) n := sc_in 1 hk (by decide) hn
  have i2 : vp_in (nI (7 * k) + 2) n := sc_in 2 hk (by decide) hn
  have i3 : vp_in (nI (7 * k) + 3) n := sc_in 3 hk (by decide) hn
  have i4 : vp_in (nI (7 * k) + 4) n := sc_in 4 hk (by decide) hn
  have i5 : vp_in (nI (7 * k) + 5) n := sc_in 5 hk (by decide) hn
  have i6 : vp_in (nI (7 * k) + 6) n := sc_in 6 hk (by decide) hn
  first | refine V_aload_n dL_law_1536 rfl rfl ?_ | refine V_aload_nN dL_law_1536 rfl rfl ?_
  first | refine V_aload_n dL_law_1537 rfl rfl ?_ | refine V_aload_nN dL_law_1537 rfl rfl ?_
  refine V_iload_n dL_law_1538 rfl rfl ?_
  refine V_iconst (v := 1) dL_law_1539 (by decide) ?_
  refine V_iadd dL_law_1540 ?_
  refine V_sld hs (by exact i1) dL_law_1541 ?_
  first | refine V_aload_n dL_law_1542 rfl rfl ?_ | refine V_aload_nN dL_law_1542 rfl rfl ?_
  refine V_iload_n dL_law_1543 rfl rfl ?_
  refine V_iconst (v := 2) dL_law_1544 (by decide) ?_
  refine V_iadd dL_law_1545 ?_
  refine V_sld hs (by exact i2) dL_law_1546 ?_
  refine V_callVr (As := [_, _]) (st := _) (c_X8_write z _ _ w h.1) kL_145 (by exact h.kx) ⟨rfl, rfl, rfl⟩ ⟨(Nat.le_of_ble_eq_true rfl), (Nat.le_of_ble_eq_true rfl)⟩ dL_law_1547 rfl rfl (Nat.le_of_ble_eq_true rfl) hc (fun v1 w1 q1 => ?_)
  obtain ⟨rfl, x1, g1⟩ := q1
  first | refine V_aload_n dL_law_1550 rfl rfl ?_ | refine V_aload_nN dL_law_1550 rfl rfl ?_
  first | refine V_aload_n dL_law_1551 rfl rfl ?_ | refine V_aload_nN dL_law_1551 rfl rfl ?_
  refine V_iload_n dL_law_1552 rfl rfl ?_
  refine V_iconst (v := 1) dL_law_1553 (by decide) ?_
  refine V_iadd dL_law_1554 ?_
  refine V_sld hs (by exact i1) dL_law_1555 ?_
  first | refine V_aload_n dL_law_1556 rfl rfl ?_ | refine V_aload_nN dL_law_1556 rfl rfl ?_
  refine V_iload_n dL_law_1557 rfl rfl ?_
  refine V_iconst (v := 2) dL_law_1558 (by decide) ?_
  refine V_iadd dL_law_1559 ?_
  refine V_sld hs (by exact i2) dL_law_1560 ?_
  refine V_callVr (As := [_, _]) (st := _) (c_X9_write z _ _ w1 (h.mid g1)) kL_148 (by exact (h.mid g1).1.1.k 400 rfl rfl) ⟨rfl, rfl, rfl⟩ ⟨(Nat.le_of_ble_eq_true rfl), (Nat.le_of_ble_eq_true rfl)⟩ dL_law_1561 rfl rfl (Nat.le_of_ble_eq_true rfl) hc (fun v2 w2 q2 => ?_)
  obtain ⟨rfl, m2, g2⟩ := q2
  refine V_icmp_eq (tgt := 1606) dL_law_1564 (by decide) (fun c1564 => ?_) (fun c1564 => False.elim (by exact c1564 rfl))
  exact next _ w2 (h.next (by omega) (adv_Write z _ _) x1 g1 m2 g2)

set_option maxRecDepth 100000 in
theorem law_count {nm : String} {X : Cx} {Q : State → Prop} {n k : Nat} {f : Nat → Int32} {z : St} {w : Wd} {cs : Nat × Nat} (hs : xsc X = some (n, f)) (hk : 7 * k + 7 ≤ n) (hn : n ≤ 3584) (h : Lg k z w) (hc : cs.1 ≤ 600000 ∧ cs.2 ≤ 7302250) (next : ∀ z' w', Lg (k + 1) z' w' → V (mL_law nm) X Q 1606 (LL k) [] w' cs) : V (mL_law nm) X Q 1569 (LL k) [] w cs := by
  have i1 : vp_in (nI (7 * k) + 1) n := sc_in 1 hk (by decide) hn
  have i2 : vp_in (nI (7 * k) + 2) n := sc_in 2 hk (by decide) hn
  have i3 : vp_in (nI (7 * k) + 3) n := sc_in 3 hk (by decide) hn
  have i4 : vp_in (nI (7 * k) + 4) n := sc_in 4 hk (by decide) hn
  have i5 : vp_in (nI (7 * k) + 5) n := sc_in 5 hk (by decide) hn
  have i6 : vp_in (nI (7 * k) + 6) n := sc_in 6 hk (by decide) hn
  first | refine V_aload_n dL_law_1569 rfl rfl ?_ | refine V_aload_nN dL_law_1569 rfl rfl ?_
  first | refine V_aload_n dL_law_1570 rfl rfl ?_ | refine V_aload_nN dL_law_1570 rfl rfl ?_
  refine V_iload_n dL_law_1571 rfl rfl ?_
  refine V_iconst (v := 1) dL_law_1572 (by decide) ?_
  refine V_iadd dL_law_1573 ?_
  refine V_sld hs (by exact i1) dL_law_1574 ?_
  refine V_callV (As := [_]) (st := _) (c_X8_count z _ w h.1) kL_149 (by exact h.kx) ⟨rfl, rfl, rfl⟩ ⟨(Nat.le_of_ble_eq_true rfl), (Nat.le_of_ble_eq_true rfl)⟩ dL_law_1575 rfl rfl (Nat.le_of_ble_eq_true rfl) hc ?_
  first | refine V_aload_n dL_law_1578 rfl rfl ?_ | refine V_aload_nN dL_law_1578 rfl rfl ?_
  first | refine V_aload_n dL_law_1579 rfl rfl ?_ | refine V_aload_nN dL_law_1579 rfl rfl ?_
  refine V_iload_n dL_law_1580 rfl rfl ?_
  refine V_iconst (v := 1) dL_law_1581 (by decide) ?_
  refine V_iadd dL_law_1582 ?_
  refine V_sld hs (by exact i1) dL_law_1583 ?_
  refine V_callV (As := [_]) (st := _) (c_X9_count z _ w h.2.1) kL_152 (by exact h.km) ⟨rfl, rfl, rfl⟩ ⟨(Nat.le_of_ble_eq_true rfl), (Nat.le_of_ble_eq_true rfl)⟩ dL_law_1584 rfl rfl (Nat.le_of_ble_eq_true rfl) hc ?_
  refine V_icmp_eq (tgt := 1606) dL_law_1587 (by decide) (fun c1587 => ?_) (fun c1587 => False.elim (by exact c1587 rfl))
  exact next z w h.stay

set_option maxRecDepth 100000 in
theorem law_digest {nm : String} {X : Cx} {Q : State → Prop} {n k : Nat} {f : Nat → Int32} {z : St} {w : Wd} {cs : Nat × Nat} (hs : xsc X = some (n, f)) (hk : 7 * k + 7 ≤ n) (hn : n ≤ 3584) (h : Lg k z w) (hc : cs.1 ≤ 600000 ∧ cs.2 ≤ 7302250) (next : ∀ z' w', Lg (k + 1) z' w' → V (mL_law nm) X Q 1606 (LL k) [] w' cs) : V (mL_law nm) X Q 1592 (LL k) [] w cs := by
  have i1 : vp_in (nI (7 * k) + 1) n := sc_in 1 hk (by decide) hn
  have i2 : vp_in (nI (7 * k) + 2) n := sc_in 2 hk (by decide) hn
  have i3 : vp_in (nI (7 * k) + 3) n := sc_in 3 hk (by decide) hn
  have i4 : vp_in (nI (7 * k) + 4) n := sc_in 4 hk (by decide) hn
  have i5 : vp_in (nI (7 * k) + 5) n := sc_in 5 hk (by decide) hn
  have i6 : vp_in (nI (7 * k) + 6) n := sc_in 6 hk (by decide) hn
  first | refine V_aload_n dL_law_1592 rfl rfl ?_ | refine V_aload_nN dL_law_1592 rfl rfl ?_
  refine V_callV (As := []) (st := _) (c_X8_digest z w h.1) kL_153 (by exact h.kx) ⟨rfl, rfl, rfl⟩ ⟨(Nat.le_of_ble_eq_true rfl), (Nat.le_of_ble_eq_true rfl)⟩ dL_law_1593 rfl rfl (Nat.le_of_ble_eq_true rfl) hc ?_
  first | refine V_aload_n dL_law_1596 rfl rfl ?_ | refine V_aload_nN dL_law_1596 rfl rfl ?_
  refine V_callVr (As := []) (st := _) (c_X9_digest z w h.2.1) kL_157 (by exact h.km) ⟨rfl, rfl, rfl⟩ ⟨(Nat.le_of_ble_eq_true rfl), (Nat.le_of_ble_eq_true rfl)⟩ dL_law_1597 rfl rfl (Nat.le_of_ble_eq_true rfl) hc (fun v2 w2 q2 => ?_)
  obtain ⟨rfl, m2, g2⟩ := q2
  refine V_lcmp_eq (tgt := 1606) dL_law_1600 dL_law_1601 (by decide) ?_
  exact next z w2 (h.read m2 g2)
