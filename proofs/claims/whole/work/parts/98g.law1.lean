/-! the law: one step of the script -/
def XS (L : Nat) (xs : Nat → Int32) : CX → Prop
  | (_, _, _, _, s, _, _, _, _, _, _, _, _, E) => va_X (E.1 101) L xs s s.heap ∧ E.1 101 < s.heap.size ∧ ¬ AE E (E.1 101)
theorem w_sld {d : Nat} {M : MT} {X : CX} {pc : Nat} {ls : List (Option Value)} {st : List Value} {σ : Hp} {L : Nat} {xs : Nat → Int32} {x : Int32} (hX : XS L xs X) (hd : decode M.2.1 pc = .ok (.iaload, 1)) (hx : vp_in x L) (k : SW d M X (pc + 1) ls (.int (xs x.toNatClampNeg) :: st) σ) : SW d M X pc ls (.int x :: .ref 101 :: st) σ := by
  obtain ⟨p, l, e, R, s, m, args, below, meth, c, cells, slots, Q, E⟩ := X
  intro ok hc0 H locs L2 hP hD hS hL
  exact va_sld ok.1 ok.2.1 hX.1 hX.2.1 hX.2.2 hS hx hd (k ok hc0 H locs L2 hP hD hS hL)
theorem w_slen {d : Nat} {M : MT} {X : CX} {pc : Nat} {ls : List (Option Value)} {st : List Value} {σ : Hp} {L : Nat} {xs : Nat → Int32} (hX : XS L xs X) (hd : decode M.2.1 pc = .ok (.arraylength, 1)) (k : SW d M X (pc + 1) ls (.int (nI L) :: st) σ) : SW d M X pc ls (.ref 101 :: st) σ := by
  obtain ⟨p, l, e, R, s, m, args, below, meth, c, cells, slots, Q, E⟩ := X
  intro ok hc0 H locs L2 hP hD hS hL
  exact va_slen ok.1 ok.2.1 hX.1 hX.2.1 hX.2.2 hS hd (k ok hc0 H locs L2 hP hD hS hL)
theorem vp_nI {j L : Nat} (h : j < L) (hL : L ≤ 3072) : vp_in (nI j) L := by
  rintro (h1 | h1)
  · exact absurd h1 (Int32.not_lt.mpr (nI_pos' (by omega)))
  · rw [nI_clamp (by omega)] at h1; omega
theorem CompRep.frM {A : AA} {σ τ : Hp} (h : CompRep A σ) (e : ∀ q j, q < 49 → τ q j = σ q j) : CompRep A τ := by
  obtain ⟨h1, h2, h3, h4, h5, h6⟩ := h
  have er : ∀ q, q < 49 → τ q = σ q := fun q hq => funext fun j => e q j hq
  exact ⟨h1.keep (fun q hq => er q (by omega)), ⟨fun x => by rw [er 0 (by decide)]; exact h2.1 x, fun k hk => ⟨by rw [er 0 (by decide)]; exact (h2.2 k hk).1, (h2.2 k hk).2.keep (fun q hq => er q (by omega))⟩⟩, fun i hi => by rw [e 39 i (by omega)]; exact h3 i hi, ⟨by rw [e 36 1 (by omega)]; exact h4.1, fun k hk => by rw [e 37 k (by omega)]; exact h4.2 k hk⟩, fun s hs => ⟨by rw [e _ _ (by omega)]; exact (h5 s hs).1, by rw [e _ _ (by omega)]; exact (h5 s hs).2.1, fun k hk => by rw [e _ _ (by omega)]; exact (h5 s hs).2.2 k hk⟩, fun v hv => by rw [e _ _ (by omega)]; exact h6 v hv⟩
theorem ModRep.frC {A : AA} {σ τ : Hp} (h : ModRep A σ) (e : ∀ q j, 49 ≤ q → τ q j = σ q j) : ModRep A τ := by
  obtain ⟨h1, h2, h3, h4, h5⟩ := h
  exact ⟨h1.keep (funext fun j => e 50 j (by omega)), ⟨fun x => by rw [e 49 3 (by omega)]; exact h2.1 x, fun k hk => ⟨by rw [e 49 3 (by omega)]; exact (h2.2 k hk).1, (h2.2 k hk).2.keep (funext fun j => e 51 j (by omega))⟩⟩, fun i hi => by rw [e 53 i (by omega)]; exact h3 i hi, ⟨by rw [e 49 16 (by omega)]; exact h4.1, fun k hk => by rw [e 57 k (by omega)]; exact h4.2 k hk⟩, fun s hs => ⟨by rw [e 59 s (by omega)]; exact (h5 s hs).1, by rw [e 58 s (by omega)]; exact (h5 s hs).2.1, fun k hk => by rw [e 60 _ (by omega)]; exact (h5 s hs).2.2 k hk⟩⟩
theorem law_ft {X : CX} {L : Nat} {xs : Nat → Int32} (hX : XS L xs X) (hL : L ≤ 3072) {i k pc : Nat} {n : Int} {st : List Value} {σ : Hp} {l1 l2 : Option Value} (h0 : decode cL_law pc = .ok (.aload_n 0, 1)) (h1 : decode cL_law (pc + 1) = .ok (.iload_n 3, 1)) (h2 : decode cL_law (pc + 2) = .ok (.iconst n, 1)) (h3 : decode cL_law (pc + 3) = .ok (.iadd, 1)) (h4 : decode cL_law (pc + 4) = .ok (.iaload, 1)) (hv : Int32.ofInt n = nI k) (hk : i + k < L) (kk : SW 11 mL_law X (pc + 5) [some (.ref 101), l1, l2, some (.int (nI i))] (.int (xs (i + k)) :: st) σ) : SW 11 mL_law X pc [some (.ref 101), l1, l2, some (.int (nI i))] st σ := by
  refine w_aload_n h0 rfl ?_
  refine w_iload_n h1 rfl ?_
  refine w_iconst (nI k) h2 hv ?_
  refine w_iaddN h3 ?_
  refine w_sld hX h4 (vp_nI hk hL) ?_
  rw [nI_clamp (by omega)]
  exact kk
theorem law_0 {X : CX} {L : Nat} {xs : Nat → Int32} (hX : XS L xs X) (hL : L ≤ 3072) {i : Nat} (hi : i + 6 ≤ L) {A : AA} (hW : WF A) {σ : Hp} (hC : CompRep A σ) (hM : ModRep A σ) (hn : ∀ A1 τ, WF A1 → CompRep A1 τ → ModRep A1 τ → SW 11 mL_law X 1886 [some (.ref 101), some (.ref 0), some (.ref 49), some (.int (nI i))] [] τ) : SW 11 mL_law X 272 [some (.ref 101), some (.ref 0), some (.ref 49), some (.int (nI i))] [] σ := by
  refine w_aload_n dL_law_272 rfl ?_
  refine law_ft hX hL (k := 1) dL_law_273 dL_law_274 dL_law_275 dL_law_276 dL_law_277 (by decide) (by omega) ?_
  refine law_ft hX hL (k := 2) dL_law_278 dL_law_279 dL_law_280 dL_law_281 dL_law_282 (by decide) (by omega) ?_
  refine law_ft hX hL (k := 3) dL_law_283 dL_law_284 dL_law_285 dL_law_286 dL_law_287 (by decide) (by omega) ?_
  refine w_callV (as := [.int (xs (i + 1)), .int (xs (i + 2)), .int (xs (i + 3))]) dL_law_288 lk_L_13 rfl ⟨_, _, rfl, rfl, rfl⟩ (by decide) (Nat.le_of_ble_eq_true rfl) (C_word hW (xs (i + 1)) (xs (i + 2)) (xs (i + 3)) σ hC) (fun v τ h => ?_)
  obtain ⟨rfl, hC1, hf⟩ := h
  refine w_aload_n dL_law_291 rfl ?_
  refine law_ft hX hL (k := 1) dL_law_292 dL_law_293 dL_law_294 dL_law_295 dL_law_296 (by decide) (by omega) ?_
  refine law_ft hX hL (k := 2) dL_law_297 dL_law_298 dL_law_299 dL_law_300 dL_law_301 (by decide) (by omega) ?_
  refine law_ft hX hL (k := 3) dL_law_302 dL_law_303 dL_law_304 dL_law_305 dL_law_306 (by decide) (by omega) ?_
  refine w_callV (as := [.int (xs (i + 1)), .int (xs (i + 2)), .int (xs (i + 3))]) dL_law_307 lk_L_17 rfl ⟨_, _, rfl, rfl, rfl⟩ (by decide) (Nat.le_of_ble_eq_true rfl) (M_word hW (xs (i + 1)) (xs (i + 2)) (xs (i + 3)) τ (hM.frC hf)) (fun v υ h => ?_)
  obtain ⟨rfl, hM2, hf2⟩ := h
  refine w_icmp_eq 1886 dL_law_310 (by decide) (fun _ => ?_) (fun h => absurd rfl h)
  exact hn _ υ (wf_word hW (xs (i + 1)) (xs (i + 2)) (xs (i + 3))) (hC1.frM hf2) hM2
theorem law_1 {X : CX} {L : Nat} {xs : Nat → Int32} (hX : XS L xs X) (hL : L ≤ 3072) {i : Nat} (hi : i + 6 ≤ L) {A : AA} (hW : WF A) {σ : Hp} (hC : CompRep A σ) (hM : ModRep A σ) (hn : ∀ A1 τ, WF A1 → CompRep A1 τ → ModRep A1 τ → SW 11 mL_law X 1886 [some (.ref 101), some (.ref 0), some (.ref 49), some (.int (nI i))] [] τ) : SW 11 mL_law X 315 [some (.ref 101), some (.ref 0), some (.ref 49), some (.int (nI i))] [] σ := by
  refine w_aload_n dL_law_315 rfl ?_
  refine law_ft hX hL (k := 1) dL_law_316 dL_law_317 dL_law_318 dL_law_319 dL_law_320 (by decide) (by omega) ?_
  refine law_ft hX hL (k := 2) dL_law_321 dL_law_322 dL_law_323 dL_law_324 dL_law_325 (by decide) (by omega) ?_
  refine w_callV (as := [.int (xs (i + 1)), .int (xs (i + 2))]) dL_law_326 lk_L_18 rfl ⟨_, _, rfl, rfl, rfl⟩ (by decide) (Nat.le_of_ble_eq_true rfl) (C_wordOf hW (xs (i + 1)) (xs (i + 2)) σ hC) (fun v τ h => ?_)
  obtain ⟨rfl, hC1, hf⟩ := h
  refine w_aload_n dL_law_329 rfl ?_
  refine law_ft hX hL (k := 1) dL_law_330 dL_law_331 dL_law_332 dL_law_333 dL_law_334 (by decide) (by omega) ?_
  refine law_ft hX hL (k := 2) dL_law_335 dL_law_336 dL_law_337 dL_law_338 dL_law_339 (by decide) (by omega) ?_
  refine w_callV (as := [.int (xs (i + 1)), .int (xs (i + 2))]) dL_law_340 lk_L_22 rfl ⟨_, _, rfl, rfl, rfl⟩ (by decide) (Nat.le_of_ble_eq_true rfl) (M_wordOf hW (xs (i + 1)) (xs (i + 2)) τ (hM.frC hf)) (fun v υ h => ?_)
  obtain ⟨rfl, hM2, hf2⟩ := h
  refine w_icmp_eq 1886 dL_law_343 (by decide) (fun _ => ?_) (fun h => absurd rfl h)
  exact hn _ υ (wf_wordOf hW (xs (i + 1)) (xs (i + 2))) (hC1.frM hf2) hM2
theorem law_2 {X : CX} {L : Nat} {xs : Nat → Int32} (hX : XS L xs X) (hL : L ≤ 3072) {i : Nat} (hi : i + 6 ≤ L) {A : AA} (hW : WF A) {σ : Hp} (hC : CompRep A σ) (hM : ModRep A σ) (hn : ∀ A1 τ, WF A1 → CompRep A1 τ → ModRep A1 τ → SW 11 mL_law X 1886 [some (.ref 101), some (.ref 0), some (.ref 49), some (.int (nI i))] [] τ) : SW 11 mL_law X 348 [some (.ref 101), some (.ref 0), some (.ref 49), some (.int (nI i))] [] σ := by
  refine w_aload_n dL_law_348 rfl ?_
  refine law_ft hX hL (k := 1) dL_law_349 dL_law_350 dL_law_351 dL_law_352 dL_law_353 (by decide) (by omega) ?_
  refine law_ft hX hL (k := 2) dL_law_354 dL_law_355 dL_law_356 dL_law_357 dL_law_358 (by decide) (by omega) ?_
  refine law_ft hX hL (k := 3) dL_law_359 dL_law_360 dL_law_361 dL_law_362 dL_law_363 (by decide) (by omega) ?_
  refine w_callV (as := [.int (xs (i + 1)), .int (xs (i + 2)), .int (xs (i + 3))]) dL_law_364 lk_L_23 rfl ⟨_, _, rfl, rfl, rfl⟩ (by decide) (Nat.le_of_ble_eq_true rfl) (C_change hW (xs (i + 1)) (xs (i + 2)) (xs (i + 3)) σ hC) (fun v τ h => ?_)
  obtain ⟨rfl, hC1, hf⟩ := h
  refine w_aload_n dL_law_367 rfl ?_
  refine law_ft hX hL (k := 1) dL_law_368 dL_law_369 dL_law_370 dL_law_371 dL_law_372 (by decide) (by omega) ?_
  refine law_ft hX hL (k := 2) dL_law_373 dL_law_374 dL_law_375 dL_law_376 dL_law_377 (by decide) (by omega) ?_
  refine law_ft hX hL (k := 3) dL_law_378 dL_law_379 dL_law_380 dL_law_381 dL_law_382 (by decide) (by omega) ?_
  refine w_callV (as := [.int (xs (i + 1)), .int (xs (i + 2)), .int (xs (i + 3))]) dL_law_383 lk_L_26 rfl ⟨_, _, rfl, rfl, rfl⟩ (by decide) (Nat.le_of_ble_eq_true rfl) (M_change hW (xs (i + 1)) (xs (i + 2)) (xs (i + 3)) τ (hM.frC hf)) (fun v υ h => ?_)
  obtain ⟨rfl, hM2, hf2⟩ := h
  refine w_icmp_eq 1886 dL_law_386 (by decide) (fun _ => ?_) (fun h => absurd rfl h)
  exact hn _ υ (wf_change hW (xs (i + 1)) (xs (i + 2)) (xs (i + 3))) (hC1.frM hf2) hM2
theorem law_3 {X : CX} {L : Nat} {xs : Nat → Int32} (hX : XS L xs X) (hL : L ≤ 3072) {i : Nat} (hi : i + 6 ≤ L) {A : AA} (hW : WF A) {σ : Hp} (hC : CompRep A σ) (hM : ModRep A σ) (hn : ∀ A1 τ, WF A1 → CompRep A1 τ → ModRep A1 τ → SW 11 mL_law X 1886 [some (.ref 101), some (.ref 0), some (.ref 49), some (.int (nI i))] [] τ) : SW 11 mL_law X 391 [some (.ref 101), some (.ref 0), some (.ref 49), some (.int (nI i))] [] σ := by
  refine w_aload_n dL_law_391 rfl ?_
  refine law_ft hX hL (k := 1) dL_law_392 dL_law_393 dL_law_394 dL_law_395 dL_law_396 (by decide) (by omega) ?_
  refine w_callV (as := [.int (xs (i + 1))]) dL_law_397 lk_L_27 rfl ⟨_, _, rfl, rfl, rfl⟩ (by decide) (Nat.le_of_ble_eq_true rfl) (C_title hW (xs (i + 1)) σ hC) (fun v τ h => ?_)
  obtain ⟨rfl, hC1, hf⟩ := h
  refine w_aload_n dL_law_400 rfl ?_
  refine law_ft hX hL (k := 1) dL_law_401 dL_law_402 dL_law_403 dL_law_404 dL_law_405 (by decide) (by omega) ?_
  refine w_callV (as := [.int (xs (i + 1))]) dL_law_406 lk_L_31 rfl ⟨_, _, rfl, rfl, rfl⟩ (by decide) (Nat.le_of_ble_eq_true rfl) (M_title hW (xs (i + 1)) τ (hM.frC hf)) (fun v υ h => ?_)
  obtain ⟨rfl, hM2, hf2⟩ := h
  refine w_icmp_eq 1886 dL_law_409 (by decide) (fun _ => ?_) (fun h => absurd rfl h)
  exact hn _ υ (wf_title hW (xs (i + 1))) (hC1.frM hf2) hM2
theorem law_4 {X : CX} {L : Nat} {xs : Nat → Int32} (hX : XS L xs X) (hL : L ≤ 3072) {i : Nat} (hi : i + 6 ≤ L) {A : AA} (hW : WF A) {σ : Hp} (hC : CompRep A σ) (hM : ModRep A σ) (hn : ∀ A1 τ, WF A1 → CompRep A1 τ → ModRep A1 τ → SW 11 mL_law X 1886 [some (.ref 101), some (.ref 0), some (.ref 49), some (.int (nI i))] [] τ) : SW 11 mL_law X 414 [some (.ref 101), some (.ref 0), some (.ref 49), some (.int (nI i))] [] σ := by
  refine w_aload_n dL_law_414 rfl ?_
  refine law_ft hX hL (k := 1) dL_law_415 dL_law_416 dL_law_417 dL_law_418 dL_law_419 (by decide) (by omega) ?_
  refine law_ft hX hL (k := 2) dL_law_420 dL_law_421 dL_law_422 dL_law_423 dL_law_424 (by decide) (by omega) ?_
  refine w_callV (as := [.int (xs (i + 1)), .int (xs (i + 2))]) dL_law_425 lk_L_32 rfl ⟨_, _, rfl, rfl, rfl⟩ (by decide) (Nat.le_of_ble_eq_true rfl) (C_more hW (xs (i + 1)) (xs (i + 2)) σ hC) (fun v τ h => ?_)
  obtain ⟨rfl, hC1, hf⟩ := h
  refine w_aload_n dL_law_428 rfl ?_
  refine law_ft hX hL (k := 1) dL_law_429 dL_law_430 dL_law_431 dL_law_432 dL_law_433 (by decide) (by omega) ?_
  refine law_ft hX hL (k := 2) dL_law_434 dL_law_435 dL_law_436 dL_law_437 dL_law_438 (by decide) (by omega) ?_
  refine w_callV (as := [.int (xs (i + 1)), .int (xs (i + 2))]) dL_law_439 lk_L_35 rfl ⟨_, _, rfl, rfl, rfl⟩ (by decide) (Nat.le_of_ble_eq_true rfl) (M_more hW (xs (i + 1)) (xs (i + 2)) τ (hM.frC hf)) (fun v υ h => ?_)
  obtain ⟨rfl, hM2, hf2⟩ := h
  refine w_icmp_eq 1886 dL_law_442 (by decide) (fun _ => ?_) (fun h => absurd rfl h)
  exact hn _ υ (wf_more hW (xs (i + 1)) (xs (i + 2))) (hC1.frM hf2) hM2
theorem law_5 {X : CX} {L : Nat} {xs : Nat → Int32} (hX : XS L xs X) (hL : L ≤ 3072) {i : Nat} (hi : i + 6 ≤ L) {A : AA} (hW : WF A) {σ : Hp} (hC : CompRep A σ) (hM : ModRep A σ) (hn : ∀ A1 τ, WF A1 → CompRep A1 τ → ModRep A1 τ → SW 11 mL_law X 1886 [some (.ref 101), some (.ref 0), some (.ref 49), some (.int (nI i))] [] τ) : SW 11 mL_law X 447 [some (.ref 101), some (.ref 0), some (.ref 49), some (.int (nI i))] [] σ := by
  refine w_aload_n dL_law_447 rfl ?_
  refine law_ft hX hL (k := 1) dL_law_448 dL_law_449 dL_law_450 dL_law_451 dL_law_452 (by decide) (by omega) ?_
  refine law_ft hX hL (k := 2) dL_law_453 dL_law_454 dL_law_455 dL_law_456 dL_law_457 (by decide) (by omega) ?_
  refine w_callV (as := [.int (xs (i + 1)), .int (xs (i + 2))]) dL_law_458 lk_L_36 rfl ⟨_, _, rfl, rfl, rfl⟩ (by decide) (Nat.le_of_ble_eq_true rfl) (C_ith hW (xs (i + 1)) (xs (i + 2)) σ hC) (fun v τ h => ?_)
  obtain ⟨rfl, hC1, hf⟩ := h
  refine w_aload_n dL_law_461 rfl ?_
  refine law_ft hX hL (k := 1) dL_law_462 dL_law_463 dL_law_464 dL_law_465 dL_law_466 (by decide) (by omega) ?_
  refine law_ft hX hL (k := 2) dL_law_467 dL_law_468 dL_law_469 dL_law_470 dL_law_471 (by decide) (by omega) ?_
  refine w_callV (as := [.int (xs (i + 1)), .int (xs (i + 2))]) dL_law_472 lk_L_39 rfl ⟨_, _, rfl, rfl, rfl⟩ (by decide) (Nat.le_of_ble_eq_true rfl) (M_ith hW (xs (i + 1)) (xs (i + 2)) τ (hM.frC hf)) (fun v υ h => ?_)
  obtain ⟨rfl, hM2, hf2⟩ := h
  refine w_icmp_eq 1886 dL_law_475 (by decide) (fun _ => ?_) (fun h => absurd rfl h)
  exact hn _ υ (wf_ith hW (xs (i + 1)) (xs (i + 2))) (hC1.frM hf2) hM2
theorem law_6 {X : CX} {L : Nat} {xs : Nat → Int32} (hX : XS L xs X) (hL : L ≤ 3072) {i : Nat} (hi : i + 6 ≤ L) {A : AA} (hW : WF A) {σ : Hp} (hC : CompRep A σ) (hM : ModRep A σ) (hn : ∀ A1 τ, WF A1 → CompRep A1 τ → ModRep A1 τ → SW 11 mL_law X 1886 [some (.ref 101), some (.ref 0), some (.ref 49), some (.int (nI i))] [] τ) : SW 11 mL_law X 480 [some (.ref 101), some (.ref 0), some (.ref 49), some (.int (nI i))] [] σ := by
  by_cases hz : xs (i + 3) = 0
  · refine w_aload_n dL_law_480 rfl ?_
    refine law_ft hX hL (k := 1) dL_law_481 dL_law_482 dL_law_483 dL_law_484 dL_law_485 (by decide) (by omega) ?_
    refine law_ft hX hL (k := 2) dL_law_486 dL_law_487 dL_law_488 dL_law_489 dL_law_490 (by decide) (by omega) ?_
    refine law_ft hX hL (k := 3) dL_law_491 dL_law_492 dL_law_493 dL_law_494 dL_law_495 (by decide) (by omega) ?_
    refine w_if_eq 503 dL_law_496 (by decide) (fun _ => ?_) (fun h => absurd hz h)
    refine w_iconst (nI 0) dL_law_503 (by decide) ?_
    refine w_callV (as := [.int (xs (i + 1)), .int (xs (i + 2)), .int (nI 0)]) dL_law_504 lk_L_40 rfl ⟨_, _, rfl, rfl, rfl⟩ (by decide) (Nat.le_of_ble_eq_true rfl) (C_know hW (xs (i + 1)) (xs (i + 2)) false σ hC) (fun v τ h => ?_)
    obtain ⟨rfl, hC1, hf⟩ := h
    refine w_aload_n dL_law_507 rfl ?_
    refine law_ft hX hL (k := 1) dL_law_508 dL_law_509 dL_law_510 dL_law_511 dL_law_512 (by decide) (by omega) ?_
    refine law_ft hX hL (k := 2) dL_law_513 dL_law_514 dL_law_515 dL_law_516 dL_law_517 (by decide) (by omega) ?_
    refine law_ft hX hL (k := 3) dL_law_518 dL_law_519 dL_law_520 dL_law_521 dL_law_522 (by decide) (by omega) ?_
    refine w_if_eq 530 dL_law_523 (by decide) (fun _ => ?_) (fun h => absurd hz h)
    refine w_iconst (nI 0) dL_law_530 (by decide) ?_
    refine w_callV (as := [.int (xs (i + 1)), .int (xs (i + 2)), .int (nI 0)]) dL_law_531 lk_L_44 rfl ⟨_, _, rfl, rfl, rfl⟩ (by decide) (Nat.le_of_ble_eq_true rfl) (M_know hW (xs (i + 1)) (xs (i + 2)) false τ (hM.frC hf)) (fun v υ h => ?_)
    obtain ⟨rfl, hM2, hf2⟩ := h
    refine w_icmp_eq 1886 dL_law_534 (by decide) (fun _ => ?_) (fun h => absurd rfl h)
    exact hn _ υ (wf_know hW (xs (i + 1)) (xs (i + 2)) false) (hC1.frM hf2) hM2
  · refine w_aload_n dL_law_480 rfl ?_
    refine law_ft hX hL (k := 1) dL_law_481 dL_law_482 dL_law_483 dL_law_484 dL_law_485 (by decide) (by omega) ?_
    refine law_ft hX hL (k := 2) dL_law_486 dL_law_487 dL_law_488 dL_law_489 dL_law_490 (by decide) (by omega) ?_
    refine law_ft hX hL (k := 3) dL_law_491 dL_law_492 dL_law_493 dL_law_494 dL_law_495 (by decide) (by omega) ?_
    refine w_if_eq 503 dL_law_496 (by decide) (fun h => absurd h hz) (fun _ => ?_)
    refine w_iconst (nI 1) dL_law_499 (by decide) ?_
    refine w_goto 504 dL_law_500 (by decide) ?_
    refine w_callV (as := [.int (xs (i + 1)), .int (xs (i + 2)), .int (nI 1)]) dL_law_504 lk_L_40 rfl ⟨_, _, rfl, rfl, rfl⟩ (by decide) (Nat.le_of_ble_eq_true rfl) (C_know hW (xs (i + 1)) (xs (i + 2)) true σ hC) (fun v τ h => ?_)
    obtain ⟨rfl, hC1, hf⟩ := h
    refine w_aload_n dL_law_507 rfl ?_
    refine law_ft hX hL (k := 1) dL_law_508 dL_law_509 dL_law_510 dL_law_511 dL_law_512 (by decide) (by omega) ?_
    refine law_ft hX hL (k := 2) dL_law_513 dL_law_514 dL_law_515 dL_law_516 dL_law_517 (by decide) (by omega) ?_
    refine law_ft hX hL (k := 3) dL_law_518 dL_law_519 dL_law_520 dL_law_521 dL_law_522 (by decide) (by omega) ?_
    refine w_if_eq 530 dL_law_523 (by decide) (fun h => absurd h hz) (fun _ => ?_)
    refine w_iconst (nI 1) dL_law_526 (by decide) ?_
    refine w_goto 531 dL_law_527 (by decide) ?_
    refine w_callV (as := [.int (xs (i + 1)), .int (xs (i + 2)), .int (nI 1)]) dL_law_531 lk_L_44 rfl ⟨_, _, rfl, rfl, rfl⟩ (by decide) (Nat.le_of_ble_eq_true rfl) (M_know hW (xs (i + 1)) (xs (i + 2)) true τ (hM.frC hf)) (fun v υ h => ?_)
    obtain ⟨rfl, hM2, hf2⟩ := h
    refine w_icmp_eq 1886 dL_law_534 (by decide) (fun _ => ?_) (fun h => absurd rfl h)
    exact hn _ υ (wf_know hW (xs (i + 1)) (xs (i + 2)) true) (hC1.frM hf2) hM2
theorem law_7 {X : CX} {L : Nat} {xs : Nat → Int32} (hX : XS L xs X) (hL : L ≤ 3072) {i : Nat} (hi : i + 6 ≤ L) {A : AA} (hW : WF A) {σ : Hp} (hC : CompRep A σ) (hM : ModRep A σ) (hn : ∀ A1 τ, WF A1 → CompRep A1 τ → ModRep A1 τ → SW 11 mL_law X 1886 [some (.ref 101), some (.ref 0), some (.ref 49), some (.int (nI i))] [] τ) : SW 11 mL_law X 539 [some (.ref 101), some (.ref 0), some (.ref 49), some (.int (nI i))] [] σ := by
  refine w_aload_n dL_law_539 rfl ?_
  refine law_ft hX hL (k := 1) dL_law_540 dL_law_541 dL_law_542 dL_law_543 dL_law_544 (by decide) (by omega) ?_
  refine w_callV (as := [.int (xs (i + 1))]) dL_law_545 lk_L_45 rfl ⟨_, _, rfl, rfl, rfl⟩ (by decide) (Nat.le_of_ble_eq_true rfl) (C_known hW (xs (i + 1)) σ hC) (fun v τ h => ?_)
  obtain ⟨rfl, hC1, hf⟩ := h
  refine w_aload_n dL_law_548 rfl ?_
  refine law_ft hX hL (k := 1) dL_law_549 dL_law_550 dL_law_551 dL_law_552 dL_law_553 (by decide) (by omega) ?_
  refine w_callV (as := [.int (xs (i + 1))]) dL_law_554 lk_L_48 rfl ⟨_, _, rfl, rfl, rfl⟩ (by decide) (Nat.le_of_ble_eq_true rfl) (M_known hW (xs (i + 1)) τ (hM.frC hf)) (fun v υ h => ?_)
  obtain ⟨rfl, hM2, hf2⟩ := h
  refine w_icmp_eq 1886 dL_law_557 (by decide) (fun _ => ?_) (fun h => absurd rfl h)
  exact hn _ υ (wf_known hW (xs (i + 1))) (hC1.frM hf2) hM2
theorem law_8 {X : CX} {L : Nat} {xs : Nat → Int32} (hX : XS L xs X) (hL : L ≤ 3072) {i : Nat} (hi : i + 6 ≤ L) {A : AA} (hW : WF A) {σ : Hp} (hC : CompRep A σ) (hM : ModRep A σ) (hn : ∀ A1 τ, WF A1 → CompRep A1 τ → ModRep A1 τ → SW 11 mL_law X 1886 [some (.ref 101), some (.ref 0), some (.ref 49), some (.int (nI i))] [] τ) : SW 11 mL_law X 562 [some (.ref 101), some (.ref 0), some (.ref 49), some (.int (nI i))] [] σ := by
  refine w_aload_n dL_law_562 rfl ?_
  refine law_ft hX hL (k := 1) dL_law_563 dL_law_564 dL_law_565 dL_law_566 dL_law_567 (by decide) (by omega) ?_
  refine w_callV (as := [.int (xs (i + 1))]) dL_law_568 lk_L_49 rfl ⟨_, _, rfl, rfl, rfl⟩ (by decide) (Nat.le_of_ble_eq_true rfl) (C_ofSize hW (xs (i + 1)) σ hC) (fun v τ h => ?_)
  obtain ⟨rfl, hC1, hf⟩ := h
  refine w_aload_n dL_law_571 rfl ?_
  refine law_ft hX hL (k := 1) dL_law_572 dL_law_573 dL_law_574 dL_law_575 dL_law_576 (by decide) (by omega) ?_
  refine w_callV (as := [.int (xs (i + 1))]) dL_law_577 lk_L_52 rfl ⟨_, _, rfl, rfl, rfl⟩ (by decide) (Nat.le_of_ble_eq_true rfl) (M_ofSize hW (xs (i + 1)) τ (hM.frC hf)) (fun v υ h => ?_)
  obtain ⟨rfl, hM2, hf2⟩ := h
  refine w_icmp_eq 1886 dL_law_580 (by decide) (fun _ => ?_) (fun h => absurd rfl h)
  exact hn _ υ (wf_ofSize hW (xs (i + 1))) (hC1.frM hf2) hM2
theorem law_9 {X : CX} {L : Nat} {xs : Nat → Int32} (hX : XS L xs X) (hL : L ≤ 3072) {i : Nat} (hi : i + 6 ≤ L) {A : AA} (hW : WF A) {σ : Hp} (hC : CompRep A σ) (hM : ModRep A σ) (hn : ∀ A1 τ, WF A1 → CompRep A1 τ → ModRep A1 τ → SW 11 mL_law X 1886 [some (.ref 101), some (.ref 0), some (.ref 49), some (.int (nI i))] [] τ) : SW 11 mL_law X 585 [some (.ref 101), some (.ref 0), some (.ref 49), some (.int (nI i))] [] σ := by
  refine w_aload_n dL_law_585 rfl ?_
  refine law_ft hX hL (k := 1) dL_law_586 dL_law_587 dL_law_588 dL_law_589 dL_law_590 (by decide) (by omega) ?_
  refine law_ft hX hL (k := 2) dL_law_591 dL_law_592 dL_law_593 dL_law_594 dL_law_595 (by decide) (by omega) ?_
  refine law_ft hX hL (k := 3) dL_law_596 dL_law_597 dL_law_598 dL_law_599 dL_law_600 (by decide) (by omega) ?_
  refine w_callV (as := [.int (xs (i + 1)), .int (xs (i + 2)), .int (xs (i + 3))]) dL_law_601 lk_L_53 rfl ⟨_, _, rfl, rfl, rfl⟩ (by decide) (Nat.le_of_ble_eq_true rfl) (C_tells hW (xs (i + 1)) (xs (i + 2)) (xs (i + 3)) σ hC) (fun v τ h => ?_)
  obtain ⟨rfl, hC1, hf⟩ := h
  refine w_aload_n dL_law_604 rfl ?_
  refine law_ft hX hL (k := 1) dL_law_605 dL_law_606 dL_law_607 dL_law_608 dL_law_609 (by decide) (by omega) ?_
  refine law_ft hX hL (k := 2) dL_law_610 dL_law_611 dL_law_612 dL_law_613 dL_law_614 (by decide) (by omega) ?_
  refine law_ft hX hL (k := 3) dL_law_615 dL_law_616 dL_law_617 dL_law_618 dL_law_619 (by decide) (by omega) ?_
  refine w_callV (as := [.int (xs (i + 1)), .int (xs (i + 2)), .int (xs (i + 3))]) dL_law_620 lk_L_56 rfl ⟨_, _, rfl, rfl, rfl⟩ (by decide) (Nat.le_of_ble_eq_true rfl) (M_tells hW (xs (i + 1)) (xs (i + 2)) (xs (i + 3)) τ (hM.frC hf)) (fun v υ h => ?_)
  obtain ⟨rfl, hM2, hf2⟩ := h
  refine w_icmp_eq 1886 dL_law_623 (by decide) (fun _ => ?_) (fun h => absurd rfl h)
  exact hn _ υ (wf_tells hW (xs (i + 1)) (xs (i + 2)) (xs (i + 3))) (hC1.frM hf2) hM2
theorem law_10 {X : CX} {L : Nat} {xs : Nat → Int32} (hX : XS L xs X) (hL : L ≤ 3072) {i : Nat} (hi : i + 6 ≤ L) {A : AA} (hW : WF A) {σ : Hp} (hC : CompRep A σ) (hM : ModRep A σ) (hn : ∀ A1 τ, WF A1 → CompRep A1 τ → ModRep A1 τ → SW 11 mL_law X 1886 [some (.ref 101), some (.ref 0), some (.ref 49), some (.int (nI i))] [] τ) : SW 11 mL_law X 628 [some (.ref 101), some (.ref 0), some (.ref 49), some (.int (nI i))] [] σ := by
  refine w_aload_n dL_law_628 rfl ?_
  refine law_ft hX hL (k := 1) dL_law_629 dL_law_630 dL_law_631 dL_law_632 dL_law_633 (by decide) (by omega) ?_
  refine law_ft hX hL (k := 2) dL_law_634 dL_law_635 dL_law_636 dL_law_637 dL_law_638 (by decide) (by omega) ?_
  refine w_callV (as := [.int (xs (i + 1)), .int (xs (i + 2))]) dL_law_639 lk_L_57 rfl ⟨_, _, rfl, rfl, rfl⟩ (by decide) (Nat.le_of_ble_eq_true rfl) (C_takes hW (xs (i + 1)) (xs (i + 2)) σ hC) (fun v τ h => ?_)
  obtain ⟨rfl, hC1, hf⟩ := h
  refine w_aload_n dL_law_642 rfl ?_
  refine law_ft hX hL (k := 1) dL_law_643 dL_law_644 dL_law_645 dL_law_646 dL_law_647 (by decide) (by omega) ?_
  refine law_ft hX hL (k := 2) dL_law_648 dL_law_649 dL_law_650 dL_law_651 dL_law_652 (by decide) (by omega) ?_
  refine w_callV (as := [.int (xs (i + 1)), .int (xs (i + 2))]) dL_law_653 lk_L_60 rfl ⟨_, _, rfl, rfl, rfl⟩ (by decide) (Nat.le_of_ble_eq_true rfl) (M_takes hW (xs (i + 1)) (xs (i + 2)) τ (hM.frC hf)) (fun v υ h => ?_)
  obtain ⟨rfl, hM2, hf2⟩ := h
  refine w_icmp_eq 1886 dL_law_656 (by decide) (fun _ => ?_) (fun h => absurd rfl h)
  exact hn _ υ (wf_takes hW (xs (i + 1)) (xs (i + 2))) (hC1.frM hf2) hM2
theorem law_11 {X : CX} {L : Nat} {xs : Nat → Int32} (hX : XS L xs X) (hL : L ≤ 3072) {i : Nat} (hi : i + 6 ≤ L) {A : AA} (hW : WF A) {σ : Hp} (hC : CompRep A σ) (hM : ModRep A σ) (hn : ∀ A1 τ, WF A1 → CompRep A1 τ → ModRep A1 τ → SW 11 mL_law X 1886 [some (.ref 101), some (.ref 0), some (.ref 49), some (.int (nI i))] [] τ) : SW 11 mL_law X 661 [some (.ref 101), some (.ref 0), some (.ref 49), some (.int (nI i))] [] σ := by
  refine w_aload_n dL_law_661 rfl ?_
  refine law_ft hX hL (k := 1) dL_law_662 dL_law_663 dL_law_664 dL_law_665 dL_law_666 (by decide) (by omega) ?_
  refine law_ft hX hL (k := 2) dL_law_667 dL_law_668 dL_law_669 dL_law_670 dL_law_671 (by decide) (by omega) ?_
  refine law_ft hX hL (k := 3) dL_law_672 dL_law_673 dL_law_674 dL_law_675 dL_law_676 (by decide) (by omega) ?_
  refine w_callV (as := [.int (xs (i + 1)), .int (xs (i + 2)), .int (xs (i + 3))]) dL_law_677 lk_L_61 rfl ⟨_, _, rfl, rfl, rfl⟩ (by decide) (Nat.le_of_ble_eq_true rfl) (C_parts hW (xs (i + 1)) (xs (i + 2)) (xs (i + 3)) σ hC) (fun v τ h => ?_)
  obtain ⟨rfl, hC1, hf⟩ := h
  refine w_aload_n dL_law_680 rfl ?_
  refine law_ft hX hL (k := 1) dL_law_681 dL_law_682 dL_law_683 dL_law_684 dL_law_685 (by decide) (by omega) ?_
  refine law_ft hX hL (k := 2) dL_law_686 dL_law_687 dL_law_688 dL_law_689 dL_law_690 (by decide) (by omega) ?_
  refine law_ft hX hL (k := 3) dL_law_691 dL_law_692 dL_law_693 dL_law_694 dL_law_695 (by decide) (by omega) ?_
  refine w_callV (as := [.int (xs (i + 1)), .int (xs (i + 2)), .int (xs (i + 3))]) dL_law_696 lk_L_64 rfl ⟨_, _, rfl, rfl, rfl⟩ (by decide) (Nat.le_of_ble_eq_true rfl) (M_parts hW (xs (i + 1)) (xs (i + 2)) (xs (i + 3)) τ (hM.frC hf)) (fun v υ h => ?_)
  obtain ⟨rfl, hM2, hf2⟩ := h
  refine w_icmp_eq 1886 dL_law_699 (by decide) (fun _ => ?_) (fun h => absurd rfl h)
  exact hn _ υ (wf_parts hW (xs (i + 1)) (xs (i + 2)) (xs (i + 3))) (hC1.frM hf2) hM2
theorem law_12 {X : CX} {L : Nat} {xs : Nat → Int32} (hX : XS L xs X) (hL : L ≤ 3072) {i : Nat} (hi : i + 6 ≤ L) {A : AA} (hW : WF A) {σ : Hp} (hC : CompRep A σ) (hM : ModRep A σ) (hn : ∀ A1 τ, WF A1 → CompRep A1 τ → ModRep A1 τ → SW 11 mL_law X 1886 [some (.ref 101), some (.ref 0), some (.ref 49), some (.int (nI i))] [] τ) : SW 11 mL_law X 704 [some (.ref 101), some (.ref 0), some (.ref 49), some (.int (nI i))] [] σ := by
  refine w_aload_n dL_law_704 rfl ?_
  refine law_ft hX hL (k := 1) dL_law_705 dL_law_706 dL_law_707 dL_law_708 dL_law_709 (by decide) (by omega) ?_
  refine law_ft hX hL (k := 2) dL_law_710 dL_law_711 dL_law_712 dL_law_713 dL_law_714 (by decide) (by omega) ?_
  refine law_ft hX hL (k := 3) dL_law_715 dL_law_716 dL_law_717 dL_law_718 dL_law_719 (by decide) (by omega) ?_
  refine w_callV (as := [.int (xs (i + 1)), .int (xs (i + 2)), .int (xs (i + 3))]) dL_law_720 lk_L_65 rfl ⟨_, _, rfl, rfl, rfl⟩ (by decide) (Nat.le_of_ble_eq_true rfl) (C_worst hW (xs (i + 1)) (xs (i + 2)) (xs (i + 3)) σ hC) (fun v τ h => ?_)
  obtain ⟨rfl, hC1, hf⟩ := h
  refine w_aload_n dL_law_723 rfl ?_
  refine law_ft hX hL (k := 1) dL_law_724 dL_law_725 dL_law_726 dL_law_727 dL_law_728 (by decide) (by omega) ?_
  refine law_ft hX hL (k := 2) dL_law_729 dL_law_730 dL_law_731 dL_law_732 dL_law_733 (by decide) (by omega) ?_
  refine law_ft hX hL (k := 3) dL_law_734 dL_law_735 dL_law_736 dL_law_737 dL_law_738 (by decide) (by omega) ?_
  refine w_callV (as := [.int (xs (i + 1)), .int (xs (i + 2)), .int (xs (i + 3))]) dL_law_739 lk_L_68 rfl ⟨_, _, rfl, rfl, rfl⟩ (by decide) (Nat.le_of_ble_eq_true rfl) (M_worst hW (xs (i + 1)) (xs (i + 2)) (xs (i + 3)) τ (hM.frC hf)) (fun v υ h => ?_)
  obtain ⟨rfl, hM2, hf2⟩ := h
  refine w_icmp_eq 1886 dL_law_742 (by decide) (fun _ => ?_) (fun h => absurd rfl h)
  exact hn _ υ (wf_worst hW (xs (i + 1)) (xs (i + 2)) (xs (i + 3))) (hC1.frM hf2) hM2
theorem law_13 {X : CX} {L : Nat} {xs : Nat → Int32} (hX : XS L xs X) (hL : L ≤ 3072) {i : Nat} (hi : i + 6 ≤ L) {A : AA} (hW : WF A) {σ : Hp} (hC : CompRep A σ) (hM : ModRep A σ) (hn : ∀ A1 τ, WF A1 → CompRep A1 τ → ModRep A1 τ → SW 11 mL_law X 1886 [some (.ref 101), some (.ref 0), some (.ref 49), some (.int (nI i))] [] τ) : SW 11 mL_law X 747 [some (.ref 101), some (.ref 0), some (.ref 49), some (.int (nI i))] [] σ := by
  refine w_aload_n dL_law_747 rfl ?_
  refine law_ft hX hL (k := 1) dL_law_748 dL_law_749 dL_law_750 dL_law_751 dL_law_752 (by decide) (by omega) ?_
  refine law_ft hX hL (k := 2) dL_law_753 dL_law_754 dL_law_755 dL_law_756 dL_law_757 (by decide) (by omega) ?_
  refine law_ft hX hL (k := 3) dL_law_758 dL_law_759 dL_law_760 dL_law_761 dL_law_762 (by decide) (by omega) ?_
  refine w_callV (as := [.int (xs (i + 1)), .int (xs (i + 2)), .int (xs (i + 3))]) dL_law_763 lk_L_69 rfl ⟨_, _, rfl, rfl, rfl⟩ (by decide) (Nat.le_of_ble_eq_true rfl) (C_sum hW (xs (i + 1)) (xs (i + 2)) (xs (i + 3)) σ hC) (fun v τ h => ?_)
  obtain ⟨rfl, hC1, hf⟩ := h
  refine w_aload_n dL_law_766 rfl ?_
  refine law_ft hX hL (k := 1) dL_law_767 dL_law_768 dL_law_769 dL_law_770 dL_law_771 (by decide) (by omega) ?_
  refine law_ft hX hL (k := 2) dL_law_772 dL_law_773 dL_law_774 dL_law_775 dL_law_776 (by decide) (by omega) ?_
  refine law_ft hX hL (k := 3) dL_law_777 dL_law_778 dL_law_779 dL_law_780 dL_law_781 (by decide) (by omega) ?_
  refine w_callV (as := [.int (xs (i + 1)), .int (xs (i + 2)), .int (xs (i + 3))]) dL_law_782 lk_L_72 rfl ⟨_, _, rfl, rfl, rfl⟩ (by decide) (Nat.le_of_ble_eq_true rfl) (M_sum hW (xs (i + 1)) (xs (i + 2)) (xs (i + 3)) τ (hM.frC hf)) (fun v υ h => ?_)
  obtain ⟨rfl, hM2, hf2⟩ := h
  refine w_icmp_eq 1886 dL_law_785 (by decide) (fun _ => ?_) (fun h => absurd rfl h)
  exact hn _ υ (wf_sum hW (xs (i + 1)) (xs (i + 2)) (xs (i + 3))) (hC1.frM hf2) hM2
theorem law_14 {X : CX} {L : Nat} {xs : Nat → Int32} (hX : XS L xs X) (hL : L ≤ 3072) {i : Nat} (hi : i + 6 ≤ L) {A : AA} (hW : WF A) {σ : Hp} (hC : CompRep A σ) (hM : ModRep A σ) (hn : ∀ A1 τ, WF A1 → CompRep A1 τ → ModRep A1 τ → SW 11 mL_law X 1886 [some (.ref 101), some (.ref 0), some (.ref 49), some (.int (nI i))] [] τ) : SW 11 mL_law X 790 [some (.ref 101), some (.ref 0), some (.ref 49), some (.int (nI i))] [] σ := by
  refine w_aload_n dL_law_790 rfl ?_
  refine law_ft hX hL (k := 1) dL_law_791 dL_law_792 dL_law_793 dL_law_794 dL_law_795 (by decide) (by omega) ?_
  refine law_ft hX hL (k := 2) dL_law_796 dL_law_797 dL_law_798 dL_law_799 dL_law_800 (by decide) (by omega) ?_
  refine w_callV (as := [.int (xs (i + 1)), .int (xs (i + 2))]) dL_law_801 lk_L_73 rfl ⟨_, _, rfl, rfl, rfl⟩ (by decide) (Nat.le_of_ble_eq_true rfl) (C_slip hW (xs (i + 1)) (xs (i + 2)) σ hC) (fun v τ h => ?_)
  obtain ⟨rfl, hC1, hf⟩ := h
  refine w_aload_n dL_law_804 rfl ?_
  refine law_ft hX hL (k := 1) dL_law_805 dL_law_806 dL_law_807 dL_law_808 dL_law_809 (by decide) (by omega) ?_
  refine law_ft hX hL (k := 2) dL_law_810 dL_law_811 dL_law_812 dL_law_813 dL_law_814 (by decide) (by omega) ?_
  refine w_callV (as := [.int (xs (i + 1)), .int (xs (i + 2))]) dL_law_815 lk_L_76 rfl ⟨_, _, rfl, rfl, rfl⟩ (by decide) (Nat.le_of_ble_eq_true rfl) (M_slip hW (xs (i + 1)) (xs (i + 2)) τ (hM.frC hf)) (fun v υ h => ?_)
  obtain ⟨rfl, hM2, hf2⟩ := h
  refine w_icmp_eq 1886 dL_law_818 (by decide) (fun _ => ?_) (fun h => absurd rfl h)
  exact hn _ υ (wf_slip hW (xs (i + 1)) (xs (i + 2))) (hC1.frM hf2) hM2
theorem law_15 {X : CX} {L : Nat} {xs : Nat → Int32} (hX : XS L xs X) (hL : L ≤ 3072) {i : Nat} (hi : i + 6 ≤ L) {A : AA} (hW : WF A) {σ : Hp} (hC : CompRep A σ) (hM : ModRep A σ) (hn : ∀ A1 τ, WF A1 → CompRep A1 τ → ModRep A1 τ → SW 11 mL_law X 1886 [some (.ref 101), some (.ref 0), some (.ref 49), some (.int (nI i))] [] τ) : SW 11 mL_law X 823 [some (.ref 101), some (.ref 0), some (.ref 49), some (.int (nI i))] [] σ := by
  refine w_aload_n dL_law_823 rfl ?_
  refine law_ft hX hL (k := 1) dL_law_824 dL_law_825 dL_law_826 dL_law_827 dL_law_828 (by decide) (by omega) ?_
  refine law_ft hX hL (k := 2) dL_law_829 dL_law_830 dL_law_831 dL_law_832 dL_law_833 (by decide) (by omega) ?_
  refine w_callV (as := [.int (xs (i + 1)), .int (xs (i + 2))]) dL_law_834 lk_L_77 rfl ⟨_, _, rfl, rfl, rfl⟩ (by decide) (Nat.le_of_ble_eq_true rfl) (C_show hW (xs (i + 1)) (xs (i + 2)) σ hC) (fun v τ h => ?_)
  obtain ⟨rfl, hC1, hf⟩ := h
  refine w_aload_n dL_law_837 rfl ?_
  refine law_ft hX hL (k := 1) dL_law_838 dL_law_839 dL_law_840 dL_law_841 dL_law_842 (by decide) (by omega) ?_
  refine law_ft hX hL (k := 2) dL_law_843 dL_law_844 dL_law_845 dL_law_846 dL_law_847 (by decide) (by omega) ?_
  refine w_callV (as := [.int (xs (i + 1)), .int (xs (i + 2))]) dL_law_848 lk_L_80 rfl ⟨_, _, rfl, rfl, rfl⟩ (by decide) (Nat.le_of_ble_eq_true rfl) (M_show hW (xs (i + 1)) (xs (i + 2)) τ (hM.frC hf)) (fun v υ h => ?_)
  obtain ⟨rfl, hM2, hf2⟩ := h
  refine w_icmp_eq 1886 dL_law_851 (by decide) (fun _ => ?_) (fun h => absurd rfl h)
  exact hn _ υ (wf_show hW (xs (i + 1)) (xs (i + 2))) (hC1.frM hf2) hM2
theorem law_16 {X : CX} {L : Nat} {xs : Nat → Int32} (hX : XS L xs X) (hL : L ≤ 3072) {i : Nat} (hi : i + 6 ≤ L) {A : AA} (hW : WF A) {σ : Hp} (hC : CompRep A σ) (hM : ModRep A σ) (hn : ∀ A1 τ, WF A1 → CompRep A1 τ → ModRep A1 τ → SW 11 mL_law X 1886 [some (.ref 101), some (.ref 0), some (.ref 49), some (.int (nI i))] [] τ) : SW 11 mL_law X 856 [some (.ref 101), some (.ref 0), some (.ref 49), some (.int (nI i))] [] σ := by
  refine w_aload_n dL_law_856 rfl ?_
  refine law_ft hX hL (k := 1) dL_law_857 dL_law_858 dL_law_859 dL_law_860 dL_law_861 (by decide) (by omega) ?_
  refine w_callV (as := [.int (xs (i + 1))]) dL_law_862 lk_L_81 rfl ⟨_, _, rfl, rfl, rfl⟩ (by decide) (Nat.le_of_ble_eq_true rfl) (C_now hW (xs (i + 1)) σ hC) (fun v τ h => ?_)
  obtain ⟨rfl, hC1, hf⟩ := h
  refine w_aload_n dL_law_865 rfl ?_
  refine law_ft hX hL (k := 1) dL_law_866 dL_law_867 dL_law_868 dL_law_869 dL_law_870 (by decide) (by omega) ?_
  refine w_callV (as := [.int (xs (i + 1))]) dL_law_871 lk_L_84 rfl ⟨_, _, rfl, rfl, rfl⟩ (by decide) (Nat.le_of_ble_eq_true rfl) (M_now hW (xs (i + 1)) τ (hM.frC hf)) (fun v υ h => ?_)
  obtain ⟨rfl, hM2, hf2⟩ := h
  refine w_icmp_eq 1886 dL_law_874 (by decide) (fun _ => ?_) (fun h => absurd rfl h)
  exact hn _ υ (wf_now hW (xs (i + 1))) (hC1.frM hf2) hM2
theorem law_17 {X : CX} {L : Nat} {xs : Nat → Int32} (hX : XS L xs X) (hL : L ≤ 3072) {i : Nat} (hi : i + 6 ≤ L) {A : AA} (hW : WF A) {σ : Hp} (hC : CompRep A σ) (hM : ModRep A σ) (hn : ∀ A1 τ, WF A1 → CompRep A1 τ → ModRep A1 τ → SW 11 mL_law X 1886 [some (.ref 101), some (.ref 0), some (.ref 49), some (.int (nI i))] [] τ) : SW 11 mL_law X 879 [some (.ref 101), some (.ref 0), some (.ref 49), some (.int (nI i))] [] σ := by
  refine w_aload_n dL_law_879 rfl ?_
  refine law_ft hX hL (k := 1) dL_law_880 dL_law_881 dL_law_882 dL_law_883 dL_law_884 (by decide) (by omega) ?_
  refine w_callV (as := [.int (xs (i + 1))]) dL_law_885 lk_L_85 rfl ⟨_, _, rfl, rfl, rfl⟩ (by decide) (Nat.le_of_ble_eq_true rfl) (C_shout hW (xs (i + 1)) σ hC) (fun v τ h => ?_)
  obtain ⟨rfl, hC1, hf⟩ := h
  refine w_aload_n dL_law_888 rfl ?_
  refine law_ft hX hL (k := 1) dL_law_889 dL_law_890 dL_law_891 dL_law_892 dL_law_893 (by decide) (by omega) ?_
  refine w_callV (as := [.int (xs (i + 1))]) dL_law_894 lk_L_88 rfl ⟨_, _, rfl, rfl, rfl⟩ (by decide) (Nat.le_of_ble_eq_true rfl) (M_shout hW (xs (i + 1)) τ (hM.frC hf)) (fun v υ h => ?_)
  obtain ⟨rfl, hM2, hf2⟩ := h
  refine w_icmp_eq 1886 dL_law_897 (by decide) (fun _ => ?_) (fun h => absurd rfl h)
  exact hn _ υ (wf_shout hW (xs (i + 1))) (hC1.frM hf2) hM2
theorem law_18 {X : CX} {L : Nat} {xs : Nat → Int32} (hX : XS L xs X) (hL : L ≤ 3072) {i : Nat} (hi : i + 6 ≤ L) {A : AA} (hW : WF A) {σ : Hp} (hC : CompRep A σ) (hM : ModRep A σ) (hn : ∀ A1 τ, WF A1 → CompRep A1 τ → ModRep A1 τ → SW 11 mL_law X 1886 [some (.ref 101), some (.ref 0), some (.ref 49), some (.int (nI i))] [] τ) : SW 11 mL_law X 902 [some (.ref 101), some (.ref 0), some (.ref 49), some (.int (nI i))] [] σ := by
  refine w_aload_n dL_law_902 rfl ?_
  refine w_callV (as := []) dL_law_903 lk_L_89 rfl ⟨_, _, rfl, rfl, rfl⟩ (by decide) (Nat.le_of_ble_eq_true rfl) (C_end hW  σ hC) (fun v τ h => ?_)
  obtain ⟨rfl, hC1, hf⟩ := h
  refine w_aload_n dL_law_906 rfl ?_
  refine w_callV (as := []) dL_law_907 lk_L_93 rfl ⟨_, _, rfl, rfl, rfl⟩ (by decide) (Nat.le_of_ble_eq_true rfl) (M_end hW  τ (hM.frC hf)) (fun v υ h => ?_)
  obtain ⟨rfl, hM2, hf2⟩ := h
  refine w_icmp_eq 1886 dL_law_910 (by decide) (fun _ => ?_) (fun h => absurd rfl h)
  exact hn _ υ (wf_end hW ) (hC1.frM hf2) hM2
theorem law_19 {X : CX} {L : Nat} {xs : Nat → Int32} (hX : XS L xs X) (hL : L ≤ 3072) {i : Nat} (hi : i + 6 ≤ L) {A : AA} (hW : WF A) {σ : Hp} (hC : CompRep A σ) (hM : ModRep A σ) (hn : ∀ A1 τ, WF A1 → CompRep A1 τ → ModRep A1 τ → SW 11 mL_law X 1886 [some (.ref 101), some (.ref 0), some (.ref 49), some (.int (nI i))] [] τ) : SW 11 mL_law X 915 [some (.ref 101), some (.ref 0), some (.ref 49), some (.int (nI i))] [] σ := by
  refine w_aload_n dL_law_915 rfl ?_
  refine law_ft hX hL (k := 1) dL_law_916 dL_law_917 dL_law_918 dL_law_919 dL_law_920 (by decide) (by omega) ?_
  refine w_callV (as := [.int (xs (i + 1))]) dL_law_921 lk_L_94 rfl ⟨_, _, rfl, rfl, rfl⟩ (by decide) (Nat.le_of_ble_eq_true rfl) (C_score hW (xs (i + 1)) σ hC) (fun v τ h => ?_)
  obtain ⟨rfl, hC1, hf⟩ := h
  refine w_aload_n dL_law_924 rfl ?_
  refine law_ft hX hL (k := 1) dL_law_925 dL_law_926 dL_law_927 dL_law_928 dL_law_929 (by decide) (by omega) ?_
  refine w_callV (as := [.int (xs (i + 1))]) dL_law_930 lk_L_97 rfl ⟨_, _, rfl, rfl, rfl⟩ (by decide) (Nat.le_of_ble_eq_true rfl) (M_score hW (xs (i + 1)) τ (hM.frC hf)) (fun v υ h => ?_)
  obtain ⟨rfl, hM2, hf2⟩ := h
  refine w_icmp_eq 1886 dL_law_933 (by decide) (fun _ => ?_) (fun h => absurd rfl h)
  exact hn _ υ (wf_score hW (xs (i + 1))) (hC1.frM hf2) hM2
theorem law_20 {X : CX} {L : Nat} {xs : Nat → Int32} (hX : XS L xs X) (hL : L ≤ 3072) {i : Nat} (hi : i + 6 ≤ L) {A : AA} (hW : WF A) {σ : Hp} (hC : CompRep A σ) (hM : ModRep A σ) (hn : ∀ A1 τ, WF A1 → CompRep A1 τ → ModRep A1 τ → SW 11 mL_law X 1886 [some (.ref 101), some (.ref 0), some (.ref 49), some (.int (nI i))] [] τ) : SW 11 mL_law X 938 [some (.ref 101), some (.ref 0), some (.ref 49), some (.int (nI i))] [] σ := by
  refine w_aload_n dL_law_938 rfl ?_
  refine law_ft hX hL (k := 1) dL_law_939 dL_law_940 dL_law_941 dL_law_942 dL_law_943 (by decide) (by omega) ?_
  refine w_callV (as := [.int (xs (i + 1))]) dL_law_944 lk_L_98 rfl ⟨_, _, rfl, rfl, rfl⟩ (by decide) (Nat.le_of_ble_eq_true rfl) (C_best hW (xs (i + 1)) σ hC) (fun v τ h => ?_)
  obtain ⟨rfl, hC1, hf⟩ := h
  refine w_aload_n dL_law_947 rfl ?_
  refine law_ft hX hL (k := 1) dL_law_948 dL_law_949 dL_law_950 dL_law_951 dL_law_952 (by decide) (by omega) ?_
  refine w_callV (as := [.int (xs (i + 1))]) dL_law_953 lk_L_101 rfl ⟨_, _, rfl, rfl, rfl⟩ (by decide) (Nat.le_of_ble_eq_true rfl) (M_best hW (xs (i + 1)) τ (hM.frC hf)) (fun v υ h => ?_)
  obtain ⟨rfl, hM2, hf2⟩ := h
  refine w_icmp_eq 1886 dL_law_956 (by decide) (fun _ => ?_) (fun h => absurd rfl h)
  exact hn _ υ (wf_best hW (xs (i + 1)) 0) (hC1.frM hf2) hM2
theorem law_21 {X : CX} {L : Nat} {xs : Nat → Int32} (hX : XS L xs X) (hL : L ≤ 3072) {i : Nat} (hi : i + 6 ≤ L) {A : AA} (hW : WF A) {σ : Hp} (hC : CompRep A σ) (hM : ModRep A σ) (hn : ∀ A1 τ, WF A1 → CompRep A1 τ → ModRep A1 τ → SW 11 mL_law X 1886 [some (.ref 101), some (.ref 0), some (.ref 49), some (.int (nI i))] [] τ) : SW 11 mL_law X 961 [some (.ref 101), some (.ref 0), some (.ref 49), some (.int (nI i))] [] σ := by
  refine w_aload_n dL_law_961 rfl ?_
  refine law_ft hX hL (k := 1) dL_law_962 dL_law_963 dL_law_964 dL_law_965 dL_law_966 (by decide) (by omega) ?_
  refine w_callV (as := [.int (xs (i + 1))]) dL_law_967 lk_L_102 rfl ⟨_, _, rfl, rfl, rfl⟩ (by decide) (Nat.le_of_ble_eq_true rfl) (C_mean hW (xs (i + 1)) σ hC) (fun v τ h => ?_)
  obtain ⟨rfl, hC1, hf⟩ := h
  refine w_aload_n dL_law_970 rfl ?_
  refine law_ft hX hL (k := 1) dL_law_971 dL_law_972 dL_law_973 dL_law_974 dL_law_975 (by decide) (by omega) ?_
  refine w_callV (as := [.int (xs (i + 1))]) dL_law_976 lk_L_105 rfl ⟨_, _, rfl, rfl, rfl⟩ (by decide) (Nat.le_of_ble_eq_true rfl) (M_mean hW (xs (i + 1)) τ (hM.frC hf)) (fun v υ h => ?_)
  obtain ⟨rfl, hM2, hf2⟩ := h
  refine w_icmp_eq 1886 dL_law_979 (by decide) (fun _ => ?_) (fun h => absurd rfl h)
  exact hn _ υ (wf_best hW (xs (i + 1)) 1) (hC1.frM hf2) hM2
theorem law_22 {X : CX} {L : Nat} {xs : Nat → Int32} (hX : XS L xs X) (hL : L ≤ 3072) {i : Nat} (hi : i + 6 ≤ L) {A : AA} (hW : WF A) {σ : Hp} (hC : CompRep A σ) (hM : ModRep A σ) (hn : ∀ A1 τ, WF A1 → CompRep A1 τ → ModRep A1 τ → SW 11 mL_law X 1886 [some (.ref 101), some (.ref 0), some (.ref 49), some (.int (nI i))] [] τ) : SW 11 mL_law X 984 [some (.ref 101), some (.ref 0), some (.ref 49), some (.int (nI i))] [] σ := by
  refine w_aload_n dL_law_984 rfl ?_
  refine law_ft hX hL (k := 1) dL_law_985 dL_law_986 dL_law_987 dL_law_988 dL_law_989 (by decide) (by omega) ?_
  refine w_callV (as := [.int (xs (i + 1))]) dL_law_990 lk_L_106 rfl ⟨_, _, rfl, rfl, rfl⟩ (by decide) (Nat.le_of_ble_eq_true rfl) (C_two hW (xs (i + 1)) σ hC) (fun v τ h => ?_)
  obtain ⟨rfl, hC1, hf⟩ := h
  refine w_aload_n dL_law_993 rfl ?_
  refine law_ft hX hL (k := 1) dL_law_994 dL_law_995 dL_law_996 dL_law_997 dL_law_998 (by decide) (by omega) ?_
  refine w_callV (as := [.int (xs (i + 1))]) dL_law_999 lk_L_109 rfl ⟨_, _, rfl, rfl, rfl⟩ (by decide) (Nat.le_of_ble_eq_true rfl) (M_two hW (xs (i + 1)) τ (hM.frC hf)) (fun v υ h => ?_)
  obtain ⟨rfl, hM2, hf2⟩ := h
  refine w_icmp_eq 1886 dL_law_1002 (by decide) (fun _ => ?_) (fun h => absurd rfl h)
  exact hn _ υ (wf_two hW (xs (i + 1))) (hC1.frM hf2) hM2
theorem law_23 {X : CX} {L : Nat} {xs : Nat → Int32} (hX : XS L xs X) (hL : L ≤ 3072) {i : Nat} (hi : i + 6 ≤ L) {A : AA} (hW : WF A) {σ : Hp} (hC : CompRep A σ) (hM : ModRep A σ) (hn : ∀ A1 τ, WF A1 → CompRep A1 τ → ModRep A1 τ → SW 11 mL_law X 1886 [some (.ref 101), some (.ref 0), some (.ref 49), some (.int (nI i))] [] τ) : SW 11 mL_law X 1007 [some (.ref 101), some (.ref 0), some (.ref 49), some (.int (nI i))] [] σ := by
  refine w_aload_n dL_law_1007 rfl ?_
  refine law_ft hX hL (k := 1) dL_law_1008 dL_law_1009 dL_law_1010 dL_law_1011 dL_law_1012 (by decide) (by omega) ?_
  refine w_callV (as := [.int (xs (i + 1))]) dL_law_1013 lk_L_110 rfl ⟨_, _, rfl, rfl, rfl⟩ (by decide) (Nat.le_of_ble_eq_true rfl) (C_twoWorst hW (xs (i + 1)) σ hC) (fun v τ h => ?_)
  obtain ⟨rfl, hC1, hf⟩ := h
  refine w_aload_n dL_law_1016 rfl ?_
  refine law_ft hX hL (k := 1) dL_law_1017 dL_law_1018 dL_law_1019 dL_law_1020 dL_law_1021 (by decide) (by omega) ?_
  refine w_callV (as := [.int (xs (i + 1))]) dL_law_1022 lk_L_113 rfl ⟨_, _, rfl, rfl, rfl⟩ (by decide) (Nat.le_of_ble_eq_true rfl) (M_twoWorst hW (xs (i + 1)) τ (hM.frC hf)) (fun v υ h => ?_)
  obtain ⟨rfl, hM2, hf2⟩ := h
  refine w_icmp_eq 1886 dL_law_1025 (by decide) (fun _ => ?_) (fun h => absurd rfl h)
  exact hn _ υ (wf_twoWorst hW (xs (i + 1))) (hC1.frM hf2) hM2
theorem law_24 {X : CX} {L : Nat} {xs : Nat → Int32} (hX : XS L xs X) (hL : L ≤ 3072) {i : Nat} (hi : i + 6 ≤ L) {A : AA} (hW : WF A) {σ : Hp} (hC : CompRep A σ) (hM : ModRep A σ) (hn : ∀ A1 τ, WF A1 → CompRep A1 τ → ModRep A1 τ → SW 11 mL_law X 1886 [some (.ref 101), some (.ref 0), some (.ref 49), some (.int (nI i))] [] τ) : SW 11 mL_law X 1030 [some (.ref 101), some (.ref 0), some (.ref 49), some (.int (nI i))] [] σ := by
  refine w_aload_n dL_law_1030 rfl ?_
  refine law_ft hX hL (k := 1) dL_law_1031 dL_law_1032 dL_law_1033 dL_law_1034 dL_law_1035 (by decide) (by omega) ?_
  refine law_ft hX hL (k := 2) dL_law_1036 dL_law_1037 dL_law_1038 dL_law_1039 dL_law_1040 (by decide) (by omega) ?_
  refine w_callV (as := [.int (xs (i + 1)), .int (xs (i + 2))]) dL_law_1041 lk_L_114 rfl ⟨_, _, rfl, rfl, rfl⟩ (by decide) (Nat.le_of_ble_eq_true rfl) (C_quick hW (xs (i + 1)) (xs (i + 2)) σ hC) (fun v τ h => ?_)
  obtain ⟨rfl, hC1, hf⟩ := h
  refine w_aload_n dL_law_1044 rfl ?_
  refine law_ft hX hL (k := 1) dL_law_1045 dL_law_1046 dL_law_1047 dL_law_1048 dL_law_1049 (by decide) (by omega) ?_
  refine law_ft hX hL (k := 2) dL_law_1050 dL_law_1051 dL_law_1052 dL_law_1053 dL_law_1054 (by decide) (by omega) ?_
  refine w_callV (as := [.int (xs (i + 1)), .int (xs (i + 2))]) dL_law_1055 lk_L_117 rfl ⟨_, _, rfl, rfl, rfl⟩ (by decide) (Nat.le_of_ble_eq_true rfl) (M_quick hW (xs (i + 1)) (xs (i + 2)) τ (hM.frC hf)) (fun v υ h => ?_)
  obtain ⟨rfl, hM2, hf2⟩ := h
  refine w_icmp_eq 1886 dL_law_1058 (by decide) (fun _ => ?_) (fun h => absurd rfl h)
  exact hn _ υ (wf_quick hW (xs (i + 1)) (xs (i + 2))) (hC1.frM hf2) hM2
theorem law_25 {X : CX} {L : Nat} {xs : Nat → Int32} (hX : XS L xs X) (hL : L ≤ 3072) {i : Nat} (hi : i + 6 ≤ L) {A : AA} (hW : WF A) {σ : Hp} (hC : CompRep A σ) (hM : ModRep A σ) (hn : ∀ A1 τ, WF A1 → CompRep A1 τ → ModRep A1 τ → SW 11 mL_law X 1886 [some (.ref 101), some (.ref 0), some (.ref 49), some (.int (nI i))] [] τ) : SW 11 mL_law X 1063 [some (.ref 101), some (.ref 0), some (.ref 49), some (.int (nI i))] [] σ := by
  refine w_aload_n dL_law_1063 rfl ?_
  refine law_ft hX hL (k := 1) dL_law_1064 dL_law_1065 dL_law_1066 dL_law_1067 dL_law_1068 (by decide) (by omega) ?_
  refine law_ft hX hL (k := 2) dL_law_1069 dL_law_1070 dL_law_1071 dL_law_1072 dL_law_1073 (by decide) (by omega) ?_
  refine w_callV (as := [.int (xs (i + 1)), .int (xs (i + 2))]) dL_law_1074 lk_L_118 rfl ⟨_, _, rfl, rfl, rfl⟩ (by decide) (Nat.le_of_ble_eq_true rfl) (C_fewest hW (xs (i + 1)) (xs (i + 2)) σ hC) (fun v τ h => ?_)
  obtain ⟨rfl, hC1, hf⟩ := h
  refine w_aload_n dL_law_1077 rfl ?_
  refine law_ft hX hL (k := 1) dL_law_1078 dL_law_1079 dL_law_1080 dL_law_1081 dL_law_1082 (by decide) (by omega) ?_
  refine law_ft hX hL (k := 2) dL_law_1083 dL_law_1084 dL_law_1085 dL_law_1086 dL_law_1087 (by decide) (by omega) ?_
  refine w_callV (as := [.int (xs (i + 1)), .int (xs (i + 2))]) dL_law_1088 lk_L_121 rfl ⟨_, _, rfl, rfl, rfl⟩ (by decide) (Nat.le_of_ble_eq_true rfl) (M_fewest hW (xs (i + 1)) (xs (i + 2)) τ (hM.frC hf)) (fun v υ h => ?_)
  obtain ⟨rfl, hM2, hf2⟩ := h
  refine w_icmp_eq 1886 dL_law_1091 (by decide) (fun _ => ?_) (fun h => absurd rfl h)
  exact hn _ υ (wf_fewest hW (xs (i + 1)) (xs (i + 2))) (hC1.frM hf2) hM2
theorem law_26 {X : CX} {L : Nat} {xs : Nat → Int32} (hX : XS L xs X) (hL : L ≤ 3072) {i : Nat} (hi : i + 6 ≤ L) {A : AA} (hW : WF A) {σ : Hp} (hC : CompRep A σ) (hM : ModRep A σ) (hn : ∀ A1 τ, WF A1 → CompRep A1 τ → ModRep A1 τ → SW 11 mL_law X 1886 [some (.ref 101), some (.ref 0), some (.ref 49), some (.int (nI i))] [] τ) : SW 11 mL_law X 1096 [some (.ref 101), some (.ref 0), some (.ref 49), some (.int (nI i))] [] σ := by
  refine w_aload_n dL_law_1096 rfl ?_
  refine law_ft hX hL (k := 1) dL_law_1097 dL_law_1098 dL_law_1099 dL_law_1100 dL_law_1101 (by decide) (by omega) ?_
  refine law_ft hX hL (k := 2) dL_law_1102 dL_law_1103 dL_law_1104 dL_law_1105 dL_law_1106 (by decide) (by omega) ?_
  refine w_callV (as := [.int (xs (i + 1)), .int (xs (i + 2))]) dL_law_1107 lk_L_122 rfl ⟨_, _, rfl, rfl, rfl⟩ (by decide) (Nat.le_of_ble_eq_true rfl) (C_seconds hW (xs (i + 1)) (xs (i + 2)) σ hC) (fun v τ h => ?_)
  obtain ⟨rfl, hC1, hf⟩ := h
  refine w_aload_n dL_law_1110 rfl ?_
  refine law_ft hX hL (k := 1) dL_law_1111 dL_law_1112 dL_law_1113 dL_law_1114 dL_law_1115 (by decide) (by omega) ?_
  refine law_ft hX hL (k := 2) dL_law_1116 dL_law_1117 dL_law_1118 dL_law_1119 dL_law_1120 (by decide) (by omega) ?_
  refine w_callV (as := [.int (xs (i + 1)), .int (xs (i + 2))]) dL_law_1121 lk_L_125 rfl ⟨_, _, rfl, rfl, rfl⟩ (by decide) (Nat.le_of_ble_eq_true rfl) (M_seconds hW (xs (i + 1)) (xs (i + 2)) τ (hM.frC hf)) (fun v υ h => ?_)
  obtain ⟨rfl, hM2, hf2⟩ := h
  refine w_icmp_eq 1886 dL_law_1124 (by decide) (fun _ => ?_) (fun h => absurd rfl h)
  exact hn _ υ (wf_seconds hW (xs (i + 1)) (xs (i + 2))) (hC1.frM hf2) hM2
theorem law_27 {X : CX} {L : Nat} {xs : Nat → Int32} (hX : XS L xs X) (hL : L ≤ 3072) {i : Nat} (hi : i + 6 ≤ L) {A : AA} (hW : WF A) {σ : Hp} (hC : CompRep A σ) (hM : ModRep A σ) (hn : ∀ A1 τ, WF A1 → CompRep A1 τ → ModRep A1 τ → SW 11 mL_law X 1886 [some (.ref 101), some (.ref 0), some (.ref 49), some (.int (nI i))] [] τ) : SW 11 mL_law X 1129 [some (.ref 101), some (.ref 0), some (.ref 49), some (.int (nI i))] [] σ := by
  refine w_aload_n dL_law_1129 rfl ?_
  refine law_ft hX hL (k := 1) dL_law_1130 dL_law_1131 dL_law_1132 dL_law_1133 dL_law_1134 (by decide) (by omega) ?_
  refine w_callV (as := [.int (xs (i + 1))]) dL_law_1135 lk_L_126 rfl ⟨_, _, rfl, rfl, rfl⟩ (by decide) (Nat.le_of_ble_eq_true rfl) (C_hardest hW (xs (i + 1)) σ hC) (fun v τ h => ?_)
  obtain ⟨rfl, hC1, hf⟩ := h
  refine w_aload_n dL_law_1138 rfl ?_
  refine law_ft hX hL (k := 1) dL_law_1139 dL_law_1140 dL_law_1141 dL_law_1142 dL_law_1143 (by decide) (by omega) ?_
  refine w_callV (as := [.int (xs (i + 1))]) dL_law_1144 lk_L_129 rfl ⟨_, _, rfl, rfl, rfl⟩ (by decide) (Nat.le_of_ble_eq_true rfl) (M_hardest hW (xs (i + 1)) τ (hM.frC hf)) (fun v υ h => ?_)
  obtain ⟨rfl, hM2, hf2⟩ := h
  refine w_icmp_eq 1886 dL_law_1147 (by decide) (fun _ => ?_) (fun h => absurd rfl h)
  exact hn _ υ (wf_hardest hW (xs (i + 1))) (hC1.frM hf2) hM2
theorem law_28 {X : CX} {L : Nat} {xs : Nat → Int32} (hX : XS L xs X) (hL : L ≤ 3072) {i : Nat} (hi : i + 6 ≤ L) {A : AA} (hW : WF A) {σ : Hp} (hC : CompRep A σ) (hM : ModRep A σ) (hn : ∀ A1 τ, WF A1 → CompRep A1 τ → ModRep A1 τ → SW 11 mL_law X 1886 [some (.ref 101), some (.ref 0), some (.ref 49), some (.int (nI i))] [] τ) : SW 11 mL_law X 1152 [some (.ref 101), some (.ref 0), some (.ref 49), some (.int (nI i))] [] σ := by
  refine w_aload_n dL_law_1152 rfl ?_
  refine law_ft hX hL (k := 1) dL_law_1153 dL_law_1154 dL_law_1155 dL_law_1156 dL_law_1157 (by decide) (by omega) ?_
  refine w_callV (as := [.int (xs (i + 1))]) dL_law_1158 lk_L_130 rfl ⟨_, _, rfl, rfl, rfl⟩ (by decide) (Nat.le_of_ble_eq_true rfl) (C_alike hW (xs (i + 1)) σ hC) (fun v τ h => ?_)
  obtain ⟨rfl, hC1, hf⟩ := h
  refine w_aload_n dL_law_1161 rfl ?_
  refine law_ft hX hL (k := 1) dL_law_1162 dL_law_1163 dL_law_1164 dL_law_1165 dL_law_1166 (by decide) (by omega) ?_
  refine w_callV (as := [.int (xs (i + 1))]) dL_law_1167 lk_L_133 rfl ⟨_, _, rfl, rfl, rfl⟩ (by decide) (Nat.le_of_ble_eq_true rfl) (M_alike hW (xs (i + 1)) τ (hM.frC hf)) (fun v υ h => ?_)
  obtain ⟨rfl, hM2, hf2⟩ := h
  refine w_icmp_eq 1886 dL_law_1170 (by decide) (fun _ => ?_) (fun h => absurd rfl h)
  exact hn _ υ (wf_alike hW (xs (i + 1))) (hC1.frM hf2) hM2
theorem law_29 {X : CX} {L : Nat} {xs : Nat → Int32} (hX : XS L xs X) (hL : L ≤ 3072) {i : Nat} (hi : i + 6 ≤ L) {A : AA} (hW : WF A) {σ : Hp} (hC : CompRep A σ) (hM : ModRep A σ) (hn : ∀ A1 τ, WF A1 → CompRep A1 τ → ModRep A1 τ → SW 11 mL_law X 1886 [some (.ref 101), some (.ref 0), some (.ref 49), some (.int (nI i))] [] τ) : SW 11 mL_law X 1175 [some (.ref 101), some (.ref 0), some (.ref 49), some (.int (nI i))] [] σ := by
  refine w_aload_n dL_law_1175 rfl ?_
  refine law_ft hX hL (k := 1) dL_law_1176 dL_law_1177 dL_law_1178 dL_law_1179 dL_law_1180 (by decide) (by omega) ?_
  refine w_callV (as := [.int (xs (i + 1))]) dL_law_1181 lk_L_134 rfl ⟨_, _, rfl, rfl, rfl⟩ (by decide) (Nat.le_of_ble_eq_true rfl) (C_like hW (xs (i + 1)) σ hC) (fun v τ h => ?_)
  obtain ⟨rfl, hC1, hf⟩ := h
  refine w_aload_n dL_law_1184 rfl ?_
  refine law_ft hX hL (k := 1) dL_law_1185 dL_law_1186 dL_law_1187 dL_law_1188 dL_law_1189 (by decide) (by omega) ?_
  refine w_callV (as := [.int (xs (i + 1))]) dL_law_1190 lk_L_137 rfl ⟨_, _, rfl, rfl, rfl⟩ (by decide) (Nat.le_of_ble_eq_true rfl) (M_like hW (xs (i + 1)) τ (hM.frC hf)) (fun v υ h => ?_)
  obtain ⟨rfl, hM2, hf2⟩ := h
  refine w_icmp_eq 1886 dL_law_1193 (by decide) (fun _ => ?_) (fun h => absurd rfl h)
  exact hn _ υ (wf_like hW (xs (i + 1))) (hC1.frM hf2) hM2
theorem law_30 {X : CX} {L : Nat} {xs : Nat → Int32} (hX : XS L xs X) (hL : L ≤ 3072) {i : Nat} (hi : i + 6 ≤ L) {A : AA} (hW : WF A) {σ : Hp} (hC : CompRep A σ) (hM : ModRep A σ) (hn : ∀ A1 τ, WF A1 → CompRep A1 τ → ModRep A1 τ → SW 11 mL_law X 1886 [some (.ref 101), some (.ref 0), some (.ref 49), some (.int (nI i))] [] τ) : SW 11 mL_law X 1198 [some (.ref 101), some (.ref 0), some (.ref 49), some (.int (nI i))] [] σ := by
  refine w_aload_n dL_law_1198 rfl ?_
  refine law_ft hX hL (k := 1) dL_law_1199 dL_law_1200 dL_law_1201 dL_law_1202 dL_law_1203 (by decide) (by omega) ?_
  refine w_callV (as := [.int (xs (i + 1))]) dL_law_1204 lk_L_138 rfl ⟨_, _, rfl, rfl, rfl⟩ (by decide) (Nat.le_of_ble_eq_true rfl) (C_sense hW (xs (i + 1)) σ hC) (fun v τ h => ?_)
  obtain ⟨rfl, hC1, hf⟩ := h
  refine w_aload_n dL_law_1207 rfl ?_
  refine law_ft hX hL (k := 1) dL_law_1208 dL_law_1209 dL_law_1210 dL_law_1211 dL_law_1212 (by decide) (by omega) ?_
  refine w_callV (as := [.int (xs (i + 1))]) dL_law_1213 lk_L_141 rfl ⟨_, _, rfl, rfl, rfl⟩ (by decide) (Nat.le_of_ble_eq_true rfl) (M_sense hW (xs (i + 1)) τ (hM.frC hf)) (fun v υ h => ?_)
  obtain ⟨rfl, hM2, hf2⟩ := h
  refine w_icmp_eq 1886 dL_law_1216 (by decide) (fun _ => ?_) (fun h => absurd rfl h)
  exact hn _ υ (wf_sense hW (xs (i + 1))) (hC1.frM hf2) hM2
theorem law_31 {X : CX} {L : Nat} {xs : Nat → Int32} (hX : XS L xs X) (hL : L ≤ 3072) {i : Nat} (hi : i + 6 ≤ L) {A : AA} (hW : WF A) {σ : Hp} (hC : CompRep A σ) (hM : ModRep A σ) (hn : ∀ A1 τ, WF A1 → CompRep A1 τ → ModRep A1 τ → SW 11 mL_law X 1886 [some (.ref 101), some (.ref 0), some (.ref 49), some (.int (nI i))] [] τ) : SW 11 mL_law X 1221 [some (.ref 101), some (.ref 0), some (.ref 49), some (.int (nI i))] [] σ := by
  refine w_aload_n dL_law_1221 rfl ?_
  refine law_ft hX hL (k := 1) dL_law_1222 dL_law_1223 dL_law_1224 dL_law_1225 dL_law_1226 (by decide) (by omega) ?_
  refine w_callV (as := [.int (xs (i + 1))]) dL_law_1227 lk_L_142 rfl ⟨_, _, rfl, rfl, rfl⟩ (by decide) (Nat.le_of_ble_eq_true rfl) (C_length hW (xs (i + 1)) σ hC) (fun v τ h => ?_)
  obtain ⟨rfl, hC1, hf⟩ := h
  refine w_aload_n dL_law_1230 rfl ?_
  refine law_ft hX hL (k := 1) dL_law_1231 dL_law_1232 dL_law_1233 dL_law_1234 dL_law_1235 (by decide) (by omega) ?_
  refine w_callV (as := [.int (xs (i + 1))]) dL_law_1236 lk_L_145 rfl ⟨_, _, rfl, rfl, rfl⟩ (by decide) (Nat.le_of_ble_eq_true rfl) (M_length hW (xs (i + 1)) τ (hM.frC hf)) (fun v υ h => ?_)
  obtain ⟨rfl, hM2, hf2⟩ := h
  refine w_icmp_eq 1886 dL_law_1239 (by decide) (fun _ => ?_) (fun h => absurd rfl h)
  exact hn _ υ (wf_length hW (xs (i + 1))) (hC1.frM hf2) hM2
theorem law_32 {X : CX} {L : Nat} {xs : Nat → Int32} (hX : XS L xs X) (hL : L ≤ 3072) {i : Nat} (hi : i + 6 ≤ L) {A : AA} (hW : WF A) {σ : Hp} (hC : CompRep A σ) (hM : ModRep A σ) (hn : ∀ A1 τ, WF A1 → CompRep A1 τ → ModRep A1 τ → SW 11 mL_law X 1886 [some (.ref 101), some (.ref 0), some (.ref 49), some (.int (nI i))] [] τ) : SW 11 mL_law X 1244 [some (.ref 101), some (.ref 0), some (.ref 49), some (.int (nI i))] [] σ := by
  refine w_aload_n dL_law_1244 rfl ?_
  refine law_ft hX hL (k := 1) dL_law_1245 dL_law_1246 dL_law_1247 dL_law_1248 dL_law_1249 (by decide) (by omega) ?_
  refine w_callV (as := [.int (xs (i + 1))]) dL_law_1250 lk_L_146 rfl ⟨_, _, rfl, rfl, rfl⟩ (by decide) (Nat.le_of_ble_eq_true rfl) (C_rare hW (xs (i + 1)) σ hC) (fun v τ h => ?_)
  obtain ⟨rfl, hC1, hf⟩ := h
  refine w_aload_n dL_law_1253 rfl ?_
  refine law_ft hX hL (k := 1) dL_law_1254 dL_law_1255 dL_law_1256 dL_law_1257 dL_law_1258 (by decide) (by omega) ?_
  refine w_callV (as := [.int (xs (i + 1))]) dL_law_1259 lk_L_149 rfl ⟨_, _, rfl, rfl, rfl⟩ (by decide) (Nat.le_of_ble_eq_true rfl) (M_rare hW (xs (i + 1)) τ (hM.frC hf)) (fun v υ h => ?_)
  obtain ⟨rfl, hM2, hf2⟩ := h
  refine w_icmp_eq 1886 dL_law_1262 (by decide) (fun _ => ?_) (fun h => absurd rfl h)
  exact hn _ υ (wf_rare hW (xs (i + 1))) (hC1.frM hf2) hM2
theorem law_33 {X : CX} {L : Nat} {xs : Nat → Int32} (hX : XS L xs X) (hL : L ≤ 3072) {i : Nat} (hi : i + 6 ≤ L) {A : AA} (hW : WF A) {σ : Hp} (hC : CompRep A σ) (hM : ModRep A σ) (hn : ∀ A1 τ, WF A1 → CompRep A1 τ → ModRep A1 τ → SW 11 mL_law X 1886 [some (.ref 101), some (.ref 0), some (.ref 49), some (.int (nI i))] [] τ) : SW 11 mL_law X 1267 [some (.ref 101), some (.ref 0), some (.ref 49), some (.int (nI i))] [] σ := by
  refine w_aload_n dL_law_1267 rfl ?_
  refine law_ft hX hL (k := 1) dL_law_1268 dL_law_1269 dL_law_1270 dL_law_1271 dL_law_1272 (by decide) (by omega) ?_
  refine law_ft hX hL (k := 2) dL_law_1273 dL_law_1274 dL_law_1275 dL_law_1276 dL_law_1277 (by decide) (by omega) ?_
  refine w_callV (as := [.int (xs (i + 1)), .int (xs (i + 2))]) dL_law_1278 lk_L_150 rfl ⟨_, _, rfl, rfl, rfl⟩ (by decide) (Nat.le_of_ble_eq_true rfl) (C_minute hW (xs (i + 1)) (xs (i + 2)) σ hC) (fun v τ h => ?_)
  obtain ⟨rfl, hC1, hf⟩ := h
  refine w_aload_n dL_law_1281 rfl ?_
  refine law_ft hX hL (k := 1) dL_law_1282 dL_law_1283 dL_law_1284 dL_law_1285 dL_law_1286 (by decide) (by omega) ?_
  refine law_ft hX hL (k := 2) dL_law_1287 dL_law_1288 dL_law_1289 dL_law_1290 dL_law_1291 (by decide) (by omega) ?_
  refine w_callV (as := [.int (xs (i + 1)), .int (xs (i + 2))]) dL_law_1292 lk_L_153 rfl ⟨_, _, rfl, rfl, rfl⟩ (by decide) (Nat.le_of_ble_eq_true rfl) (M_minute hW (xs (i + 1)) (xs (i + 2)) τ (hM.frC hf)) (fun v υ h => ?_)
  obtain ⟨rfl, hM2, hf2⟩ := h
  refine w_icmp_eq 1886 dL_law_1295 (by decide) (fun _ => ?_) (fun h => absurd rfl h)
  exact hn _ υ (wf_minute hW (xs (i + 1)) (xs (i + 2))) (hC1.frM hf2) hM2
theorem law_34 {X : CX} {L : Nat} {xs : Nat → Int32} (hX : XS L xs X) (hL : L ≤ 3072) {i : Nat} (hi : i + 6 ≤ L) {A : AA} (hW : WF A) {σ : Hp} (hC : CompRep A σ) (hM : ModRep A σ) (hn : ∀ A1 τ, WF A1 → CompRep A1 τ → ModRep A1 τ → SW 11 mL_law X 1886 [some (.ref 101), some (.ref 0), some (.ref 49), some (.int (nI i))] [] τ) : SW 11 mL_law X 1300 [some (.ref 101), some (.ref 0), some (.ref 49), some (.int (nI i))] [] σ := by
  refine w_aload_n dL_law_1300 rfl ?_
  refine law_ft hX hL (k := 1) dL_law_1301 dL_law_1302 dL_law_1303 dL_law_1304 dL_law_1305 (by decide) (by omega) ?_
  refine law_ft hX hL (k := 2) dL_law_1306 dL_law_1307 dL_law_1308 dL_law_1309 dL_law_1310 (by decide) (by omega) ?_
  refine w_callV (as := [.int (xs (i + 1)), .int (xs (i + 2))]) dL_law_1311 lk_L_154 rfl ⟨_, _, rfl, rfl, rfl⟩ (by decide) (Nat.le_of_ble_eq_true rfl) (C_points hW (xs (i + 1)) (xs (i + 2)) σ hC) (fun v τ h => ?_)
  obtain ⟨rfl, hC1, hf⟩ := h
  refine w_aload_n dL_law_1314 rfl ?_
  refine law_ft hX hL (k := 1) dL_law_1315 dL_law_1316 dL_law_1317 dL_law_1318 dL_law_1319 (by decide) (by omega) ?_
  refine law_ft hX hL (k := 2) dL_law_1320 dL_law_1321 dL_law_1322 dL_law_1323 dL_law_1324 (by decide) (by omega) ?_
  refine w_callV (as := [.int (xs (i + 1)), .int (xs (i + 2))]) dL_law_1325 lk_L_157 rfl ⟨_, _, rfl, rfl, rfl⟩ (by decide) (Nat.le_of_ble_eq_true rfl) (M_points hW (xs (i + 1)) (xs (i + 2)) τ (hM.frC hf)) (fun v υ h => ?_)
  obtain ⟨rfl, hM2, hf2⟩ := h
  refine w_icmp_eq 1886 dL_law_1328 (by decide) (fun _ => ?_) (fun h => absurd rfl h)
  exact hn _ υ (wf_points hW (xs (i + 1)) (xs (i + 2))) (hC1.frM hf2) hM2
theorem law_35 {X : CX} {L : Nat} {xs : Nat → Int32} (hX : XS L xs X) (hL : L ≤ 3072) {i : Nat} (hi : i + 6 ≤ L) {A : AA} (hW : WF A) {σ : Hp} (hC : CompRep A σ) (hM : ModRep A σ) (hn : ∀ A1 τ, WF A1 → CompRep A1 τ → ModRep A1 τ → SW 11 mL_law X 1886 [some (.ref 101), some (.ref 0), some (.ref 49), some (.int (nI i))] [] τ) : SW 11 mL_law X 1333 [some (.ref 101), some (.ref 0), some (.ref 49), some (.int (nI i))] [] σ := by
  refine w_aload_n dL_law_1333 rfl ?_
  refine law_ft hX hL (k := 1) dL_law_1334 dL_law_1335 dL_law_1336 dL_law_1337 dL_law_1338 (by decide) (by omega) ?_
  refine w_callV (as := [.int (xs (i + 1))]) dL_law_1339 lk_L_158 rfl ⟨_, _, rfl, rfl, rfl⟩ (by decide) (Nat.le_of_ble_eq_true rfl) (C_had hW (xs (i + 1)) σ hC) (fun v τ h => ?_)
  obtain ⟨rfl, hC1, hf⟩ := h
  refine w_aload_n dL_law_1342 rfl ?_
  refine law_ft hX hL (k := 1) dL_law_1343 dL_law_1344 dL_law_1345 dL_law_1346 dL_law_1347 (by decide) (by omega) ?_
  refine w_callV (as := [.int (xs (i + 1))]) dL_law_1348 lk_L_161 rfl ⟨_, _, rfl, rfl, rfl⟩ (by decide) (Nat.le_of_ble_eq_true rfl) (M_had hW (xs (i + 1)) τ (hM.frC hf)) (fun v υ h => ?_)
  obtain ⟨rfl, hM2, hf2⟩ := h
  refine w_icmp_eq 1886 dL_law_1351 (by decide) (fun _ => ?_) (fun h => absurd rfl h)
  exact hn _ υ (wf_had hW (xs (i + 1))) (hC1.frM hf2) hM2
theorem law_36 {X : CX} {L : Nat} {xs : Nat → Int32} (hX : XS L xs X) (hL : L ≤ 3072) {i : Nat} (hi : i + 6 ≤ L) {A : AA} (hW : WF A) {σ : Hp} (hC : CompRep A σ) (hM : ModRep A σ) (hn : ∀ A1 τ, WF A1 → CompRep A1 τ → ModRep A1 τ → SW 11 mL_law X 1886 [some (.ref 101), some (.ref 0), some (.ref 49), some (.int (nI i))] [] τ) : SW 11 mL_law X 1356 [some (.ref 101), some (.ref 0), some (.ref 49), some (.int (nI i))] [] σ := by
  refine w_aload_n dL_law_1356 rfl ?_
  refine law_ft hX hL (k := 1) dL_law_1357 dL_law_1358 dL_law_1359 dL_law_1360 dL_law_1361 (by decide) (by omega) ?_
  refine law_ft hX hL (k := 2) dL_law_1362 dL_law_1363 dL_law_1364 dL_law_1365 dL_law_1366 (by decide) (by omega) ?_
  refine w_callV (as := [.int (xs (i + 1)), .int (xs (i + 2))]) dL_law_1367 lk_L_162 rfl ⟨_, _, rfl, rfl, rfl⟩ (by decide) (Nat.le_of_ble_eq_true rfl) (C_evening hW (xs (i + 1)) (xs (i + 2)) σ hC) (fun v τ h => ?_)
  obtain ⟨rfl, hC1, hf⟩ := h
  refine w_aload_n dL_law_1370 rfl ?_
  refine law_ft hX hL (k := 1) dL_law_1371 dL_law_1372 dL_law_1373 dL_law_1374 dL_law_1375 (by decide) (by omega) ?_
  refine law_ft hX hL (k := 2) dL_law_1376 dL_law_1377 dL_law_1378 dL_law_1379 dL_law_1380 (by decide) (by omega) ?_
  refine w_callV (as := [.int (xs (i + 1)), .int (xs (i + 2))]) dL_law_1381 lk_L_165 rfl ⟨_, _, rfl, rfl, rfl⟩ (by decide) (Nat.le_of_ble_eq_true rfl) (M_evening hW (xs (i + 1)) (xs (i + 2)) τ (hM.frC hf)) (fun v υ h => ?_)
  obtain ⟨rfl, hM2, hf2⟩ := h
  refine w_icmp_eq 1886 dL_law_1384 (by decide) (fun _ => ?_) (fun h => absurd rfl h)
  exact hn _ υ (wf_evening hW (xs (i + 1)) (xs (i + 2))) (hC1.frM hf2) hM2
theorem law_37 {X : CX} {L : Nat} {xs : Nat → Int32} (hX : XS L xs X) (hL : L ≤ 3072) {i : Nat} (hi : i + 6 ≤ L) {A : AA} (hW : WF A) {σ : Hp} (hC : CompRep A σ) (hM : ModRep A σ) (hn : ∀ A1 τ, WF A1 → CompRep A1 τ → ModRep A1 τ → SW 11 mL_law X 1886 [some (.ref 101), some (.ref 0), some (.ref 49), some (.int (nI i))] [] τ) : SW 11 mL_law X 1389 [some (.ref 101), some (.ref 0), some (.ref 49), some (.int (nI i))] [] σ := by
  refine w_aload_n dL_law_1389 rfl ?_
  refine law_ft hX hL (k := 1) dL_law_1390 dL_law_1391 dL_law_1392 dL_law_1393 dL_law_1394 (by decide) (by omega) ?_
  refine law_ft hX hL (k := 2) dL_law_1395 dL_law_1396 dL_law_1397 dL_law_1398 dL_law_1399 (by decide) (by omega) ?_
  refine w_callV (as := [.int (xs (i + 1)), .int (xs (i + 2))]) dL_law_1400 lk_L_166 rfl ⟨_, _, rfl, rfl, rfl⟩ (by decide) (Nat.le_of_ble_eq_true rfl) (C_ahead hW (xs (i + 1)) (xs (i + 2)) σ hC) (fun v τ h => ?_)
  obtain ⟨rfl, hC1, hf⟩ := h
  refine w_aload_n dL_law_1403 rfl ?_
  refine law_ft hX hL (k := 1) dL_law_1404 dL_law_1405 dL_law_1406 dL_law_1407 dL_law_1408 (by decide) (by omega) ?_
  refine law_ft hX hL (k := 2) dL_law_1409 dL_law_1410 dL_law_1411 dL_law_1412 dL_law_1413 (by decide) (by omega) ?_
  refine w_callV (as := [.int (xs (i + 1)), .int (xs (i + 2))]) dL_law_1414 lk_L_169 rfl ⟨_, _, rfl, rfl, rfl⟩ (by decide) (Nat.le_of_ble_eq_true rfl) (M_ahead hW (xs (i + 1)) (xs (i + 2)) τ (hM.frC hf)) (fun v υ h => ?_)
  obtain ⟨rfl, hM2, hf2⟩ := h
  refine w_icmp_eq 1886 dL_law_1417 (by decide) (fun _ => ?_) (fun h => absurd rfl h)
  exact hn _ υ (wf_ahead hW (xs (i + 1)) (xs (i + 2))) (hC1.frM hf2) hM2
theorem law_38 {X : CX} {L : Nat} {xs : Nat → Int32} (hX : XS L xs X) (hL : L ≤ 3072) {i : Nat} (hi : i + 6 ≤ L) {A : AA} (hW : WF A) {σ : Hp} (hC : CompRep A σ) (hM : ModRep A σ) (hn : ∀ A1 τ, WF A1 → CompRep A1 τ → ModRep A1 τ → SW 11 mL_law X 1886 [some (.ref 101), some (.ref 0), some (.ref 49), some (.int (nI i))] [] τ) : SW 11 mL_law X 1422 [some (.ref 101), some (.ref 0), some (.ref 49), some (.int (nI i))] [] σ := by
  refine w_aload_n dL_law_1422 rfl ?_
  refine law_ft hX hL (k := 1) dL_law_1423 dL_law_1424 dL_law_1425 dL_law_1426 dL_law_1427 (by decide) (by omega) ?_
  refine w_callV (as := [.int (xs (i + 1))]) dL_law_1428 lk_L_170 rfl ⟨_, _, rfl, rfl, rfl⟩ (by decide) (Nat.le_of_ble_eq_true rfl) (C_hat hW (xs (i + 1)) σ hC) (fun v τ h => ?_)
  obtain ⟨rfl, hC1, hf⟩ := h
  refine w_aload_n dL_law_1431 rfl ?_
  refine law_ft hX hL (k := 1) dL_law_1432 dL_law_1433 dL_law_1434 dL_law_1435 dL_law_1436 (by decide) (by omega) ?_
  refine w_callV (as := [.int (xs (i + 1))]) dL_law_1437 lk_L_173 rfl ⟨_, _, rfl, rfl, rfl⟩ (by decide) (Nat.le_of_ble_eq_true rfl) (M_hat hW (xs (i + 1)) τ (hM.frC hf)) (fun v υ h => ?_)
  obtain ⟨rfl, hM2, hf2⟩ := h
  refine w_icmp_eq 1886 dL_law_1440 (by decide) (fun _ => ?_) (fun h => absurd rfl h)
  exact hn _ υ (wf_hat hW (xs (i + 1))) (hC1.frM hf2) hM2
theorem law_39 {X : CX} {L : Nat} {xs : Nat → Int32} (hX : XS L xs X) (hL : L ≤ 3072) {i : Nat} (hi : i + 6 ≤ L) {A : AA} (hW : WF A) {σ : Hp} (hC : CompRep A σ) (hM : ModRep A σ) (hn : ∀ A1 τ, WF A1 → CompRep A1 τ → ModRep A1 τ → SW 11 mL_law X 1886 [some (.ref 101), some (.ref 0), some (.ref 49), some (.int (nI i))] [] τ) : SW 11 mL_law X 1445 [some (.ref 101), some (.ref 0), some (.ref 49), some (.int (nI i))] [] σ := by
  refine w_aload_n dL_law_1445 rfl ?_
  refine w_callV (as := []) dL_law_1446 lk_L_174 rfl ⟨_, _, rfl, rfl, rfl⟩ (by decide) (Nat.le_of_ble_eq_true rfl) (C_unfair hW  σ hC) (fun v τ h => ?_)
  obtain ⟨rfl, hC1, hf⟩ := h
  refine w_aload_n dL_law_1449 rfl ?_
  refine w_callV (as := []) dL_law_1450 lk_L_177 rfl ⟨_, _, rfl, rfl, rfl⟩ (by decide) (Nat.le_of_ble_eq_true rfl) (M_unfair hW  τ (hM.frC hf)) (fun v υ h => ?_)
  obtain ⟨rfl, hM2, hf2⟩ := h
  refine w_icmp_eq 1886 dL_law_1453 (by decide) (fun _ => ?_) (fun h => absurd rfl h)
  exact hn _ υ (wf_unfair hW ) (hC1.frM hf2) hM2
theorem law_40 {X : CX} {L : Nat} {xs : Nat → Int32} (hX : XS L xs X) (hL : L ≤ 3072) {i : Nat} (hi : i + 6 ≤ L) {A : AA} (hW : WF A) {σ : Hp} (hC : CompRep A σ) (hM : ModRep A σ) (hn : ∀ A1 τ, WF A1 → CompRep A1 τ → ModRep A1 τ → SW 11 mL_law X 1886 [some (.ref 101), some (.ref 0), some (.ref 49), some (.int (nI i))] [] τ) : SW 11 mL_law X 1458 [some (.ref 101), some (.ref 0), some (.ref 49), some (.int (nI i))] [] σ := by
  refine w_aload_n dL_law_1458 rfl ?_
  refine law_ft hX hL (k := 1) dL_law_1459 dL_law_1460 dL_law_1461 dL_law_1462 dL_law_1463 (by decide) (by omega) ?_
  refine w_callV (as := [.int (xs (i + 1))]) dL_law_1464 lk_L_178 rfl ⟨_, _, rfl, rfl, rfl⟩ (by decide) (Nat.le_of_ble_eq_true rfl) (C_seed hW (xs (i + 1)) σ hC) (fun v τ h => ?_)
  obtain ⟨rfl, hC1, hf⟩ := h
  refine w_aload_n dL_law_1467 rfl ?_
  refine law_ft hX hL (k := 1) dL_law_1468 dL_law_1469 dL_law_1470 dL_law_1471 dL_law_1472 (by decide) (by omega) ?_
  refine w_callV (as := [.int (xs (i + 1))]) dL_law_1473 lk_L_181 rfl ⟨_, _, rfl, rfl, rfl⟩ (by decide) (Nat.le_of_ble_eq_true rfl) (M_seed hW (xs (i + 1)) τ (hM.frC hf)) (fun v υ h => ?_)
  obtain ⟨rfl, hM2, hf2⟩ := h
  refine w_icmp_eq 1886 dL_law_1476 (by decide) (fun _ => ?_) (fun h => absurd rfl h)
  exact hn _ υ (wf_seed hW (xs (i + 1))) (hC1.frM hf2) hM2
theorem law_41 {X : CX} {L : Nat} {xs : Nat → Int32} (hX : XS L xs X) (hL : L ≤ 3072) {i : Nat} (hi : i + 6 ≤ L) {A : AA} (hW : WF A) {σ : Hp} (hC : CompRep A σ) (hM : ModRep A σ) (hn : ∀ A1 τ, WF A1 → CompRep A1 τ → ModRep A1 τ → SW 11 mL_law X 1886 [some (.ref 101), some (.ref 0), some (.ref 49), some (.int (nI i))] [] τ) : SW 11 mL_law X 1481 [some (.ref 101), some (.ref 0), some (.ref 49), some (.int (nI i))] [] σ := by
  refine w_aload_n dL_law_1481 rfl ?_
  refine law_ft hX hL (k := 1) dL_law_1482 dL_law_1483 dL_law_1484 dL_law_1485 dL_law_1486 (by decide) (by omega) ?_
  refine law_ft hX hL (k := 2) dL_law_1487 dL_law_1488 dL_law_1489 dL_law_1490 dL_law_1491 (by decide) (by omega) ?_
  refine w_callV (as := [.int (xs (i + 1)), .int (xs (i + 2))]) dL_law_1492 lk_L_182 rfl ⟨_, _, rfl, rfl, rfl⟩ (by decide) (Nat.le_of_ble_eq_true rfl) (C_feed hW (xs (i + 1)) (xs (i + 2)) σ hC) (fun v τ h => ?_)
  obtain ⟨rfl, hC1, hf⟩ := h
  refine w_aload_n dL_law_1495 rfl ?_
  refine law_ft hX hL (k := 1) dL_law_1496 dL_law_1497 dL_law_1498 dL_law_1499 dL_law_1500 (by decide) (by omega) ?_
  refine law_ft hX hL (k := 2) dL_law_1501 dL_law_1502 dL_law_1503 dL_law_1504 dL_law_1505 (by decide) (by omega) ?_
  refine w_callV (as := [.int (xs (i + 1)), .int (xs (i + 2))]) dL_law_1506 lk_L_185 rfl ⟨_, _, rfl, rfl, rfl⟩ (by decide) (Nat.le_of_ble_eq_true rfl) (M_feed hW (xs (i + 1)) (xs (i + 2)) τ (hM.frC hf)) (fun v υ h => ?_)
  obtain ⟨rfl, hM2, hf2⟩ := h
  refine w_icmp_eq 1886 dL_law_1509 (by decide) (fun _ => ?_) (fun h => absurd rfl h)
  exact hn _ υ (wf_feed hW (xs (i + 1)) (xs (i + 2))) (hC1.frM hf2) hM2
theorem law_42 {X : CX} {L : Nat} {xs : Nat → Int32} (hX : XS L xs X) (hL : L ≤ 3072) {i : Nat} (hi : i + 6 ≤ L) {A : AA} (hW : WF A) {σ : Hp} (hC : CompRep A σ) (hM : ModRep A σ) (hn : ∀ A1 τ, WF A1 → CompRep A1 τ → ModRep A1 τ → SW 11 mL_law X 1886 [some (.ref 101), some (.ref 0), some (.ref 49), some (.int (nI i))] [] τ) : SW 11 mL_law X 1514 [some (.ref 101), some (.ref 0), some (.ref 49), some (.int (nI i))] [] σ := by
  refine w_aload_n dL_law_1514 rfl ?_
  refine w_callV (as := []) dL_law_1515 lk_L_186 rfl ⟨_, _, rfl, rfl, rfl⟩ (by decide) (Nat.le_of_ble_eq_true rfl) (C_wipe hW  σ hC) (fun v τ h => ?_)
  obtain ⟨rfl, hC1, hf⟩ := h
  refine w_aload_n dL_law_1518 rfl ?_
  refine w_callV (as := []) dL_law_1519 lk_L_189 rfl ⟨_, _, rfl, rfl, rfl⟩ (by decide) (Nat.le_of_ble_eq_true rfl) (M_wipe hW  τ (hM.frC hf)) (fun v υ h => ?_)
  obtain ⟨rfl, hM2, hf2⟩ := h
  refine w_icmp_eq 1886 dL_law_1522 (by decide) (fun _ => ?_) (fun h => absurd rfl h)
  exact hn _ υ (wf_wipe hW ) (hC1.frM hf2) hM2
theorem law_43 {X : CX} {L : Nat} {xs : Nat → Int32} (hX : XS L xs X) (hL : L ≤ 3072) {i : Nat} (hi : i + 6 ≤ L) {A : AA} (hW : WF A) {σ : Hp} (hC : CompRep A σ) (hM : ModRep A σ) (hn : ∀ A1 τ, WF A1 → CompRep A1 τ → ModRep A1 τ → SW 11 mL_law X 1886 [some (.ref 101), some (.ref 0), some (.ref 49), some (.int (nI i))] [] τ) : SW 11 mL_law X 1527 [some (.ref 101), some (.ref 0), some (.ref 49), some (.int (nI i))] [] σ := by
  refine w_aload_n dL_law_1527 rfl ?_
  refine w_callV (as := []) dL_law_1528 lk_L_190 rfl ⟨_, _, rfl, rfl, rfl⟩ (by decide) (Nat.le_of_ble_eq_true rfl) (C_text hW  σ hC) (fun v τ h => ?_)
  obtain ⟨rfl, hC1, hf⟩ := h
  refine w_aload_n dL_law_1531 rfl ?_
  refine w_callV (as := []) dL_law_1532 lk_L_193 rfl ⟨_, _, rfl, rfl, rfl⟩ (by decide) (Nat.le_of_ble_eq_true rfl) (M_text hW  τ (hM.frC hf)) (fun v υ h => ?_)
  obtain ⟨rfl, hM2, hf2⟩ := h
  refine w_icmp_eq 1886 dL_law_1535 (by decide) (fun _ => ?_) (fun h => absurd rfl h)
  exact hn _ υ (wf_text hW ) (hC1.frM hf2) hM2
theorem law_44 {X : CX} {L : Nat} {xs : Nat → Int32} (hX : XS L xs X) (hL : L ≤ 3072) {i : Nat} (hi : i + 6 ≤ L) {A : AA} (hW : WF A) {σ : Hp} (hC : CompRep A σ) (hM : ModRep A σ) (hn : ∀ A1 τ, WF A1 → CompRep A1 τ → ModRep A1 τ → SW 11 mL_law X 1886 [some (.ref 101), some (.ref 0), some (.ref 49), some (.int (nI i))] [] τ) : SW 11 mL_law X 1540 [some (.ref 101), some (.ref 0), some (.ref 49), some (.int (nI i))] [] σ := by
  refine w_aload_n dL_law_1540 rfl ?_
  refine law_ft hX hL (k := 1) dL_law_1541 dL_law_1542 dL_law_1543 dL_law_1544 dL_law_1545 (by decide) (by omega) ?_
  refine law_ft hX hL (k := 2) dL_law_1546 dL_law_1547 dL_law_1548 dL_law_1549 dL_law_1550 (by decide) (by omega) ?_
  refine w_callV (as := [.int (xs (i + 1)), .int (xs (i + 2))]) dL_law_1551 lk_L_194 rfl ⟨_, _, rfl, rfl, rfl⟩ (by decide) (Nat.le_of_ble_eq_true rfl) (C_hold hW (xs (i + 1)) (xs (i + 2)) σ hC) (fun v τ h => ?_)
  obtain ⟨rfl, hC1, hf⟩ := h
  refine w_aload_n dL_law_1554 rfl ?_
  refine law_ft hX hL (k := 1) dL_law_1555 dL_law_1556 dL_law_1557 dL_law_1558 dL_law_1559 (by decide) (by omega) ?_
  refine law_ft hX hL (k := 2) dL_law_1560 dL_law_1561 dL_law_1562 dL_law_1563 dL_law_1564 (by decide) (by omega) ?_
  refine w_callV (as := [.int (xs (i + 1)), .int (xs (i + 2))]) dL_law_1565 lk_L_197 rfl ⟨_, _, rfl, rfl, rfl⟩ (by decide) (Nat.le_of_ble_eq_true rfl) (M_hold hW (xs (i + 1)) (xs (i + 2)) τ (hM.frC hf)) (fun v υ h => ?_)
  obtain ⟨rfl, hM2, hf2⟩ := h
  refine w_icmp_eq 1886 dL_law_1568 (by decide) (fun _ => ?_) (fun h => absurd rfl h)
  exact hn _ υ (wf_hold hW (xs (i + 1)) (xs (i + 2))) (hC1.frM hf2) hM2
theorem law_45 {X : CX} {L : Nat} {xs : Nat → Int32} (hX : XS L xs X) (hL : L ≤ 3072) {i : Nat} (hi : i + 6 ≤ L) {A : AA} (hW : WF A) {σ : Hp} (hC : CompRep A σ) (hM : ModRep A σ) (hn : ∀ A1 τ, WF A1 → CompRep A1 τ → ModRep A1 τ → SW 11 mL_law X 1886 [some (.ref 101), some (.ref 0), some (.ref 49), some (.int (nI i))] [] τ) : SW 11 mL_law X 1573 [some (.ref 101), some (.ref 0), some (.ref 49), some (.int (nI i))] [] σ := by
  refine w_aload_n dL_law_1573 rfl ?_
  refine law_ft hX hL (k := 1) dL_law_1574 dL_law_1575 dL_law_1576 dL_law_1577 dL_law_1578 (by decide) (by omega) ?_
  refine law_ft hX hL (k := 2) dL_law_1579 dL_law_1580 dL_law_1581 dL_law_1582 dL_law_1583 (by decide) (by omega) ?_
  refine w_callV (as := [.int (xs (i + 1)), .int (xs (i + 2))]) dL_law_1584 lk_L_198 rfl ⟨_, _, rfl, rfl, rfl⟩ (by decide) (Nat.le_of_ble_eq_true rfl) (C_as hW (xs (i + 1)) (xs (i + 2)) σ hC) (fun v τ h => ?_)
  obtain ⟨rfl, hC1, hf⟩ := h
  refine w_aload_n dL_law_1587 rfl ?_
  refine law_ft hX hL (k := 1) dL_law_1588 dL_law_1589 dL_law_1590 dL_law_1591 dL_law_1592 (by decide) (by omega) ?_
  refine law_ft hX hL (k := 2) dL_law_1593 dL_law_1594 dL_law_1595 dL_law_1596 dL_law_1597 (by decide) (by omega) ?_
  refine w_callV (as := [.int (xs (i + 1)), .int (xs (i + 2))]) dL_law_1598 lk_L_201 rfl ⟨_, _, rfl, rfl, rfl⟩ (by decide) (Nat.le_of_ble_eq_true rfl) (M_as hW (xs (i + 1)) (xs (i + 2)) τ (hM.frC hf)) (fun v υ h => ?_)
  obtain ⟨rfl, hM2, hf2⟩ := h
  refine w_icmp_eq 1886 dL_law_1601 (by decide) (fun _ => ?_) (fun h => absurd rfl h)
  exact hn _ υ (wf_as hW (xs (i + 1)) (xs (i + 2))) (hC1.frM hf2) hM2
theorem law_46 {X : CX} {L : Nat} {xs : Nat → Int32} (hX : XS L xs X) (hL : L ≤ 3072) {i : Nat} (hi : i + 6 ≤ L) {A : AA} (hW : WF A) {σ : Hp} (hC : CompRep A σ) (hM : ModRep A σ) (hn : ∀ A1 τ, WF A1 → CompRep A1 τ → ModRep A1 τ → SW 11 mL_law X 1886 [some (.ref 101), some (.ref 0), some (.ref 49), some (.int (nI i))] [] τ) : SW 11 mL_law X 1606 [some (.ref 101), some (.ref 0), some (.ref 49), some (.int (nI i))] [] σ := by
  refine w_aload_n dL_law_1606 rfl ?_
  refine law_ft hX hL (k := 1) dL_law_1607 dL_law_1608 dL_law_1609 dL_law_1610 dL_law_1611 (by decide) (by omega) ?_
  refine law_ft hX hL (k := 2) dL_law_1612 dL_law_1613 dL_law_1614 dL_law_1615 dL_law_1616 (by decide) (by omega) ?_
  refine law_ft hX hL (k := 3) dL_law_1617 dL_law_1618 dL_law_1619 dL_law_1620 dL_law_1621 (by decide) (by omega) ?_
  refine w_callV (as := [.int (xs (i + 1)), .int (xs (i + 2)), .int (xs (i + 3))]) dL_law_1622 lk_L_202 rfl ⟨_, _, rfl, rfl, rfl⟩ (by decide) (Nat.le_of_ble_eq_true rfl) (C_sheet hW (xs (i + 1)) (xs (i + 2)) (xs (i + 3)) σ hC) (fun v τ h => ?_)
  obtain ⟨rfl, hC1, hf⟩ := h
  refine w_aload_n dL_law_1625 rfl ?_
  refine law_ft hX hL (k := 1) dL_law_1626 dL_law_1627 dL_law_1628 dL_law_1629 dL_law_1630 (by decide) (by omega) ?_
  refine law_ft hX hL (k := 2) dL_law_1631 dL_law_1632 dL_law_1633 dL_law_1634 dL_law_1635 (by decide) (by omega) ?_
  refine law_ft hX hL (k := 3) dL_law_1636 dL_law_1637 dL_law_1638 dL_law_1639 dL_law_1640 (by decide) (by omega) ?_
  refine w_callV (as := [.int (xs (i + 1)), .int (xs (i + 2)), .int (xs (i + 3))]) dL_law_1641 lk_L_205 rfl ⟨_, _, rfl, rfl, rfl⟩ (by decide) (Nat.le_of_ble_eq_true rfl) (M_sheet hW (xs (i + 1)) (xs (i + 2)) (xs (i + 3)) τ (hM.frC hf)) (fun v υ h => ?_)
  obtain ⟨rfl, hM2, hf2⟩ := h
  refine w_icmp_eq 1886 dL_law_1644 (by decide) (fun _ => ?_) (fun h => absurd rfl h)
  exact hn _ υ (wf_sheet hW (xs (i + 1)) (xs (i + 2)) (xs (i + 3))) (hC1.frM hf2) hM2
theorem law_47 {X : CX} {L : Nat} {xs : Nat → Int32} (hX : XS L xs X) (hL : L ≤ 3072) {i : Nat} (hi : i + 6 ≤ L) {A : AA} (hW : WF A) {σ : Hp} (hC : CompRep A σ) (hM : ModRep A σ) (hn : ∀ A1 τ, WF A1 → CompRep A1 τ → ModRep A1 τ → SW 11 mL_law X 1886 [some (.ref 101), some (.ref 0), some (.ref 49), some (.int (nI i))] [] τ) : SW 11 mL_law X 1649 [some (.ref 101), some (.ref 0), some (.ref 49), some (.int (nI i))] [] σ := by
  refine w_aload_n dL_law_1649 rfl ?_
  refine law_ft hX hL (k := 1) dL_law_1650 dL_law_1651 dL_law_1652 dL_law_1653 dL_law_1654 (by decide) (by omega) ?_
  refine law_ft hX hL (k := 2) dL_law_1655 dL_law_1656 dL_law_1657 dL_law_1658 dL_law_1659 (by decide) (by omega) ?_
  refine law_ft hX hL (k := 3) dL_law_1660 dL_law_1661 dL_law_1662 dL_law_1663 dL_law_1664 (by decide) (by omega) ?_
  refine w_callV (as := [.int (xs (i + 1)), .int (xs (i + 2)), .int (xs (i + 3))]) dL_law_1665 lk_L_206 rfl ⟨_, _, rfl, rfl, rfl⟩ (by decide) (Nat.le_of_ble_eq_true rfl) (C_write hW (xs (i + 1)) (xs (i + 2)) (xs (i + 3)) σ hC) (fun v τ h => ?_)
  obtain ⟨rfl, hC1, hf⟩ := h
  refine w_aload_n dL_law_1668 rfl ?_
  refine law_ft hX hL (k := 1) dL_law_1669 dL_law_1670 dL_law_1671 dL_law_1672 dL_law_1673 (by decide) (by omega) ?_
  refine law_ft hX hL (k := 2) dL_law_1674 dL_law_1675 dL_law_1676 dL_law_1677 dL_law_1678 (by decide) (by omega) ?_
  refine law_ft hX hL (k := 3) dL_law_1679 dL_law_1680 dL_law_1681 dL_law_1682 dL_law_1683 (by decide) (by omega) ?_
  refine w_callV (as := [.int (xs (i + 1)), .int (xs (i + 2)), .int (xs (i + 3))]) dL_law_1684 lk_L_209 rfl ⟨_, _, rfl, rfl, rfl⟩ (by decide) (Nat.le_of_ble_eq_true rfl) (M_write hW (xs (i + 1)) (xs (i + 2)) (xs (i + 3)) τ (hM.frC hf)) (fun v υ h => ?_)
  obtain ⟨rfl, hM2, hf2⟩ := h
  refine w_icmp_eq 1886 dL_law_1687 (by decide) (fun _ => ?_) (fun h => absurd rfl h)
  exact hn _ υ (wf_write hW (xs (i + 1)) (xs (i + 2)) (xs (i + 3))) (hC1.frM hf2) hM2
theorem law_48 {X : CX} {L : Nat} {xs : Nat → Int32} (hX : XS L xs X) (hL : L ≤ 3072) {i : Nat} (hi : i + 6 ≤ L) {A : AA} (hW : WF A) {σ : Hp} (hC : CompRep A σ) (hM : ModRep A σ) (hn : ∀ A1 τ, WF A1 → CompRep A1 τ → ModRep A1 τ → SW 11 mL_law X 1886 [some (.ref 101), some (.ref 0), some (.ref 49), some (.int (nI i))] [] τ) : SW 11 mL_law X 1692 [some (.ref 101), some (.ref 0), some (.ref 49), some (.int (nI i))] [] σ := by
  refine w_aload_n dL_law_1692 rfl ?_
  refine law_ft hX hL (k := 1) dL_law_1693 dL_law_1694 dL_law_1695 dL_law_1696 dL_law_1697 (by decide) (by omega) ?_
  refine law_ft hX hL (k := 2) dL_law_1698 dL_law_1699 dL_law_1700 dL_law_1701 dL_law_1702 (by decide) (by omega) ?_
  refine law_ft hX hL (k := 3) dL_law_1703 dL_law_1704 dL_law_1705 dL_law_1706 dL_law_1707 (by decide) (by omega) ?_
  refine law_ft hX hL (k := 4) dL_law_1708 dL_law_1709 dL_law_1710 dL_law_1711 dL_law_1712 (by decide) (by omega) ?_
  refine law_ft hX hL (k := 5) dL_law_1713 dL_law_1714 dL_law_1715 dL_law_1716 dL_law_1717 (by decide) (by omega) ?_
  refine w_callV (as := [.int (xs (i + 1)), .int (xs (i + 2)), .int (xs (i + 3)), .int (xs (i + 4)), .int (xs (i + 5))]) dL_law_1718 lk_L_210 rfl ⟨_, _, rfl, rfl, rfl⟩ (by decide) (Nat.le_of_ble_eq_true rfl) (C_copy hW (xs (i + 1)) (xs (i + 2)) (xs (i + 3)) (xs (i + 4)) (xs (i + 5)) σ hC) (fun v τ h => ?_)
  obtain ⟨rfl, hC1, hf⟩ := h
  refine w_aload_n dL_law_1721 rfl ?_
  refine law_ft hX hL (k := 1) dL_law_1722 dL_law_1723 dL_law_1724 dL_law_1725 dL_law_1726 (by decide) (by omega) ?_
  refine law_ft hX hL (k := 2) dL_law_1727 dL_law_1728 dL_law_1729 dL_law_1730 dL_law_1731 (by decide) (by omega) ?_
  refine law_ft hX hL (k := 3) dL_law_1732 dL_law_1733 dL_law_1734 dL_law_1735 dL_law_1736 (by decide) (by omega) ?_
  refine law_ft hX hL (k := 4) dL_law_1737 dL_law_1738 dL_law_1739 dL_law_1740 dL_law_1741 (by decide) (by omega) ?_
  refine law_ft hX hL (k := 5) dL_law_1742 dL_law_1743 dL_law_1744 dL_law_1745 dL_law_1746 (by decide) (by omega) ?_
  refine w_callV (as := [.int (xs (i + 1)), .int (xs (i + 2)), .int (xs (i + 3)), .int (xs (i + 4)), .int (xs (i + 5))]) dL_law_1747 lk_L_214 rfl ⟨_, _, rfl, rfl, rfl⟩ (by decide) (Nat.le_of_ble_eq_true rfl) (M_copy hW (xs (i + 1)) (xs (i + 2)) (xs (i + 3)) (xs (i + 4)) (xs (i + 5)) τ (hM.frC hf)) (fun v υ h => ?_)
  obtain ⟨rfl, hM2, hf2⟩ := h
  refine w_icmp_eq 1886 dL_law_1750 (by decide) (fun _ => ?_) (fun h => absurd rfl h)
  exact hn _ υ (wf_copy hW (xs (i + 1)) (xs (i + 2)) (xs (i + 3)) (xs (i + 4)) (xs (i + 5))) (hC1.frM hf2) hM2
theorem law_49 {X : CX} {L : Nat} {xs : Nat → Int32} (hX : XS L xs X) (hL : L ≤ 3072) {i : Nat} (hi : i + 6 ≤ L) {A : AA} (hW : WF A) {σ : Hp} (hC : CompRep A σ) (hM : ModRep A σ) (hn : ∀ A1 τ, WF A1 → CompRep A1 τ → ModRep A1 τ → SW 11 mL_law X 1886 [some (.ref 101), some (.ref 0), some (.ref 49), some (.int (nI i))] [] τ) : SW 11 mL_law X 1755 [some (.ref 101), some (.ref 0), some (.ref 49), some (.int (nI i))] [] σ := by
  refine w_aload_n dL_law_1755 rfl ?_
  refine law_ft hX hL (k := 1) dL_law_1756 dL_law_1757 dL_law_1758 dL_law_1759 dL_law_1760 (by decide) (by omega) ?_
  refine w_callV (as := [.int (xs (i + 1))]) dL_law_1761 lk_L_215 rfl ⟨_, _, rfl, rfl, rfl⟩ (by decide) (Nat.le_of_ble_eq_true rfl) (C_load hW (xs (i + 1)) σ hC) (fun v τ h => ?_)
  obtain ⟨rfl, hC1, hf⟩ := h
  refine w_aload_n dL_law_1764 rfl ?_
  refine law_ft hX hL (k := 1) dL_law_1765 dL_law_1766 dL_law_1767 dL_law_1768 dL_law_1769 (by decide) (by omega) ?_
  refine w_callV (as := [.int (xs (i + 1))]) dL_law_1770 lk_L_218 rfl ⟨_, _, rfl, rfl, rfl⟩ (by decide) (Nat.le_of_ble_eq_true rfl) (M_load hW (xs (i + 1)) τ (hM.frC hf)) (fun v υ h => ?_)
  obtain ⟨rfl, hM2, hf2⟩ := h
  refine w_icmp_eq 1886 dL_law_1773 (by decide) (fun _ => ?_) (fun h => absurd rfl h)
  exact hn _ υ (wf_load hW (xs (i + 1))) (hC1.frM hf2) hM2
theorem law_50 {X : CX} {L : Nat} {xs : Nat → Int32} (hX : XS L xs X) (hL : L ≤ 3072) {i : Nat} (hi : i + 6 ≤ L) {A : AA} (hW : WF A) {σ : Hp} (hC : CompRep A σ) (hM : ModRep A σ) (hn : ∀ A1 τ, WF A1 → CompRep A1 τ → ModRep A1 τ → SW 11 mL_law X 1886 [some (.ref 101), some (.ref 0), some (.ref 49), some (.int (nI i))] [] τ) : SW 11 mL_law X 1778 [some (.ref 101), some (.ref 0), some (.ref 49), some (.int (nI i))] [] σ := by
  refine w_aload_n dL_law_1778 rfl ?_
  refine law_ft hX hL (k := 1) dL_law_1779 dL_law_1780 dL_law_1781 dL_law_1782 dL_law_1783 (by decide) (by omega) ?_
  refine w_callV (as := [.int (xs (i + 1))]) dL_law_1784 lk_L_219 rfl ⟨_, _, rfl, rfl, rfl⟩ (by decide) (Nat.le_of_ble_eq_true rfl) (C_judge hW (xs (i + 1)) σ hC) (fun v τ h => ?_)
  obtain ⟨rfl, hC1, hf⟩ := h
  refine w_aload_n dL_law_1787 rfl ?_
  refine law_ft hX hL (k := 1) dL_law_1788 dL_law_1789 dL_law_1790 dL_law_1791 dL_law_1792 (by decide) (by omega) ?_
  refine w_callV (as := [.int (xs (i + 1))]) dL_law_1793 lk_L_222 rfl ⟨_, _, rfl, rfl, rfl⟩ (by decide) (Nat.le_of_ble_eq_true rfl) (M_judge hW (xs (i + 1)) τ (hM.frC hf)) (fun v υ h => ?_)
  obtain ⟨rfl, hM2, hf2⟩ := h
  refine w_icmp_eq 1886 dL_law_1796 (by decide) (fun _ => ?_) (fun h => absurd rfl h)
  exact hn _ υ (wf_judge hW (xs (i + 1))) (hC1.frM hf2) hM2
theorem law_51 {X : CX} {L : Nat} {xs : Nat → Int32} (hX : XS L xs X) (hL : L ≤ 3072) {i : Nat} (hi : i + 6 ≤ L) {A : AA} (hW : WF A) {σ : Hp} (hC : CompRep A σ) (hM : ModRep A σ) (hn : ∀ A1 τ, WF A1 → CompRep A1 τ → ModRep A1 τ → SW 11 mL_law X 1886 [some (.ref 101), some (.ref 0), some (.ref 49), some (.int (nI i))] [] τ) : SW 11 mL_law X 1801 [some (.ref 101), some (.ref 0), some (.ref 49), some (.int (nI i))] [] σ := by
  refine w_aload_n dL_law_1801 rfl ?_
  refine w_callV (as := []) dL_law_1802 lk_L_223 rfl ⟨_, _, rfl, rfl, rfl⟩ (by decide) (Nat.le_of_ble_eq_true rfl) (C_image hW  σ hC) (fun v τ h => ?_)
  obtain ⟨rfl, hC1, hf⟩ := h
  refine w_aload_n dL_law_1805 rfl ?_
  refine w_callV (as := []) dL_law_1806 lk_L_226 rfl ⟨_, _, rfl, rfl, rfl⟩ (by decide) (Nat.le_of_ble_eq_true rfl) (M_image hW  τ (hM.frC hf)) (fun v υ h => ?_)
  obtain ⟨rfl, hM2, hf2⟩ := h
  refine w_icmp_eq 1886 dL_law_1809 (by decide) (fun _ => ?_) (fun h => absurd rfl h)
  exact hn _ υ (wf_image hW ) (hC1.frM hf2) hM2
theorem law_52 {X : CX} {L : Nat} {xs : Nat → Int32} (hX : XS L xs X) (hL : L ≤ 3072) {i : Nat} (hi : i + 6 ≤ L) {A : AA} (hW : WF A) {σ : Hp} (hC : CompRep A σ) (hM : ModRep A σ) (hn : ∀ A1 τ, WF A1 → CompRep A1 τ → ModRep A1 τ → SW 11 mL_law X 1886 [some (.ref 101), some (.ref 0), some (.ref 49), some (.int (nI i))] [] τ) : SW 11 mL_law X 1814 [some (.ref 101), some (.ref 0), some (.ref 49), some (.int (nI i))] [] σ := by
  refine w_aload_n dL_law_1814 rfl ?_
  refine w_callV (as := []) dL_law_1815 lk_L_227 rfl ⟨_, _, rfl, rfl, rfl⟩ (by decide) (Nat.le_of_ble_eq_true rfl) (C_undo hW  σ hC) (fun v τ h => ?_)
  obtain ⟨rfl, hC1, hf⟩ := h
  refine w_aload_n dL_law_1818 rfl ?_
  refine w_callV (as := []) dL_law_1819 lk_L_230 rfl ⟨_, _, rfl, rfl, rfl⟩ (by decide) (Nat.le_of_ble_eq_true rfl) (M_undo hW  τ (hM.frC hf)) (fun v υ h => ?_)
  obtain ⟨rfl, hM2, hf2⟩ := h
  refine w_icmp_eq 1886 dL_law_1822 (by decide) (fun _ => ?_) (fun h => absurd rfl h)
  exact hn _ υ (wf_undo hW ) (hC1.frM hf2) hM2
theorem law_53 {X : CX} {L : Nat} {xs : Nat → Int32} (hX : XS L xs X) (hL : L ≤ 3072) {i : Nat} (hi : i + 6 ≤ L) {A : AA} (hW : WF A) {σ : Hp} (hC : CompRep A σ) (hM : ModRep A σ) (hn : ∀ A1 τ, WF A1 → CompRep A1 τ → ModRep A1 τ → SW 11 mL_law X 1886 [some (.ref 101), some (.ref 0), some (.ref 49), some (.int (nI i))] [] τ) : SW 11 mL_law X 1827 [some (.ref 101), some (.ref 0), some (.ref 49), some (.int (nI i))] [] σ := by
  refine w_aload_n dL_law_1827 rfl ?_
  refine w_callV (as := []) dL_law_1828 lk_L_231 rfl ⟨_, _, rfl, rfl, rfl⟩ (by decide) (Nat.le_of_ble_eq_true rfl) (C_tear hW  σ hC) (fun v τ h => ?_)
  obtain ⟨rfl, hC1, hf⟩ := h
  refine w_aload_n dL_law_1831 rfl ?_
  refine w_callV (as := []) dL_law_1832 lk_L_234 rfl ⟨_, _, rfl, rfl, rfl⟩ (by decide) (Nat.le_of_ble_eq_true rfl) (M_tear hW  τ (hM.frC hf)) (fun v υ h => ?_)
  obtain ⟨rfl, hM2, hf2⟩ := h
  refine w_icmp_eq 1886 dL_law_1835 (by decide) (fun _ => ?_) (fun h => absurd rfl h)
  exact hn _ υ (wf_tear hW ) (hC1.frM hf2) hM2
theorem law_54 {X : CX} {L : Nat} {xs : Nat → Int32} (hX : XS L xs X) (hL : L ≤ 3072) {i : Nat} (hi : i + 6 ≤ L) {A : AA} (hW : WF A) {σ : Hp} (hC : CompRep A σ) (hM : ModRep A σ) (hn : ∀ A1 τ, WF A1 → CompRep A1 τ → ModRep A1 τ → SW 11 mL_law X 1886 [some (.ref 101), some (.ref 0), some (.ref 49), some (.int (nI i))] [] τ) : SW 11 mL_law X 1840 [some (.ref 101), some (.ref 0), some (.ref 49), some (.int (nI i))] [] σ := by
  refine w_aload_n dL_law_1840 rfl ?_
  refine law_ft hX hL (k := 1) dL_law_1841 dL_law_1842 dL_law_1843 dL_law_1844 dL_law_1845 (by decide) (by omega) ?_
  refine w_callV (as := [.int (xs (i + 1))]) dL_law_1846 lk_L_235 rfl ⟨_, _, rfl, rfl, rfl⟩ (by decide) (Nat.le_of_ble_eq_true rfl) (C_count hW (xs (i + 1)) σ hC) (fun v τ h => ?_)
  obtain ⟨rfl, hC1, hf⟩ := h
  refine w_aload_n dL_law_1849 rfl ?_
  refine law_ft hX hL (k := 1) dL_law_1850 dL_law_1851 dL_law_1852 dL_law_1853 dL_law_1854 (by decide) (by omega) ?_
  refine w_callV (as := [.int (xs (i + 1))]) dL_law_1855 lk_L_238 rfl ⟨_, _, rfl, rfl, rfl⟩ (by decide) (Nat.le_of_ble_eq_true rfl) (M_count hW (xs (i + 1)) τ (hM.frC hf)) (fun v υ h => ?_)
  obtain ⟨rfl, hM2, hf2⟩ := h
  refine w_icmp_eq 1886 dL_law_1858 (by decide) (fun _ => ?_) (fun h => absurd rfl h)
  exact hn _ υ (wf_count hW (xs (i + 1))) (hC1.frM hf2) hM2
theorem law_55 {X : CX} {L : Nat} {xs : Nat → Int32} (hX : XS L xs X) (hL : L ≤ 3072) {i : Nat} (hi : i + 6 ≤ L) {A : AA} (hW : WF A) {σ : Hp} (hC : CompRep A σ) (hM : ModRep A σ) (hn : ∀ A1 τ, WF A1 → CompRep A1 τ → ModRep A1 τ → SW 11 mL_law X 1886 [some (.ref 101), some (.ref 0), some (.ref 49), some (.int (nI i))] [] τ) : SW 11 mL_law X 1863 [some (.ref 101), some (.ref 0), some (.ref 49), some (.int (nI i))] [] σ := by
  refine w_aload_n dL_law_1863 rfl ?_
  refine law_ft hX hL (k := 1) dL_law_1864 dL_law_1865 dL_law_1866 dL_law_1867 dL_law_1868 (by decide) (by omega) ?_
  refine w_callV (as := [.int (xs (i + 1))]) dL_law_1869 lk_L_239 rfl ⟨_, _, rfl, rfl, rfl⟩ (by decide) (Nat.le_of_ble_eq_true rfl) (C_status hW (xs (i + 1)) σ hC) (fun v τ h => ?_)
  obtain ⟨rfl, hC1, hf⟩ := h
  refine w_aload_n dL_law_1872 rfl ?_
  refine law_ft hX hL (k := 1) dL_law_1873 dL_law_1874 dL_law_1875 dL_law_1876 dL_law_1877 (by decide) (by omega) ?_
  refine w_callV (as := [.int (xs (i + 1))]) dL_law_1878 lk_L_242 rfl ⟨_, _, rfl, rfl, rfl⟩ (by decide) (Nat.le_of_ble_eq_true rfl) (M_status hW (xs (i + 1)) τ (hM.frC hf)) (fun v υ h => ?_)
  obtain ⟨rfl, hM2, hf2⟩ := h
  refine w_icmp_eq 1886 dL_law_1881 (by decide) (fun _ => ?_) (fun h => absurd rfl h)
  exact hn _ υ (wf_status hW (xs (i + 1))) (hC1.frM hf2) hM2
