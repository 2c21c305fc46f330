/-! the law, call by call -/
theorem CI.hl {gi g' gl gl' : gF} {sh : gSh} {la oa : Int} (h : CI gi gl sh la oa) (e : ∀ b : Int, b < 190 → g' b = gi b) (el : ∀ b : Int, b < 190 → gl' b = gl b) : CI g' gl' sh la oa := by
  obtain ⟨⟨hs, hct, hcs, hch, hcf⟩, hvd⟩ := h.hi e
  refine ⟨⟨hs, hct, ?_, ⟨hch.1, hch.2.1, fun u u0 u1 => ?_⟩, ?_⟩, hvd⟩
  · unfold CS0 at hcs ⊢; rw [el 5 (by decide)]; exact hcs
  · have hm : 0 ≤ (g' 7 2 - u) % 6 ∧ (g' 7 2 - u) % 6 < 6 := by omega
    have := hch.2.2 u u0 u1
    rw [el (hsp (g' 7 2) u + 1) (by unfold hsp; omega)]
    exact this
  · unfold CF0 at hcf ⊢; rw [el 5 (by decide)]; exact hcf
theorem LI.tf {gi g' gl : gF} {sh : gSh} {la oa : Int} (h : LI gi gl sh la oa) (f : TF gi g') : LI g' gl sh la oa := by
  obtain ⟨hc, hM, ht, hr⟩ := h
  have hla := hc.1.1.1.2.2.2.2.2.2.2.2.2.2
  refine ⟨hc.hi (fun b hb => f.1 b (by omega) (by omega) (by omega) (by omega)), hM, ?_, hr.fr (fun b hb => f.1 b (by omega) (by omega) (by omega) (by omega)) (f.2 1 (by decide) (by decide)) (f.2 5 (by decide) (by decide))⟩
  unfold RT
  rw [f.2 7 (by decide) (by decide), f.1 1 (by decide) (by decide) (by decide) (by decide), f.1 195 (by decide) (by decide) (by decide) (by decide), f.1 2 (by decide) (by decide) (by decide) (by decide)]
  exact ht
def QL : gQ := fun r _ _ _ => r = some (vI 1)
section LAW1
variable {L : Nat} {xs : Nat → Int32} {gi gl : gF} {sh : gSh} {la oa i : Int}

set_option maxRecDepth 20000 in
set_option maxHeartbeats 2000000 in
theorem k_blob (hL : L ≤ 2048) (hi : 0 ≤ i ∧ i + 4 ≤ (L : Int)) (hI : LI gi gl sh la oa) (hn : ∀ (g l : gF) (s : gSh) (la oa : Int), LI g l s la oa → Go (mdL_law L xs) 0 0 510 [some vS, some (vR 0), some (vR 190), some (vI i)] [] g l s QL) : Go (mdL_law L xs) 0 0 286 [some vS, some (vR 0), some (vR 190), some (vI i)] [] gi gl sh QL := by
  have hc := hI.1
  have hM := hI.2.1
  have hk0 := hc.1.1.1.1
  have hla := hc.1.1.1.2.2.2.2.2.2.2.2.2.2
  refine g_aload_n dL_law_286 rfl ?_
  refine g_aload_nS dL_law_287 rfl ?_
  refine g_iload_n dL_law_288 rfl ?_
  refine g_iconst dL_law_289 (by decide) ?_
  refine g_iadd dL_law_290 (by omega) (by omega) ?_
  refine g_sload dL_law_291 rfl (by omega) (by omega) ?_
  refine g_aload_nS dL_law_292 rfl ?_
  refine g_iload_n dL_law_293 rfl ?_
  refine g_iconst dL_law_294 (by decide) ?_
  refine g_iadd dL_law_295 (by omega) (by omega) ?_
  refine g_sload dL_law_296 rfl (by omega) (by omega) ?_
  refine g_cVi [_, _] dL_law_297 mlL_51 mvX8_blob (by decide) (by first | exact hk0 | exact hM.o) ⟨(Nat.le_of_ble_eq_true rfl), (Nat.le_of_ble_eq_true rfl), (Nat.le_of_ble_eq_true rfl)⟩ rfl rfl (Nat.le_of_ble_eq_true rfl) rfl (Nat.le_of_ble_eq_true rfl) (c_blob hc _ _) ?_
  refine g_aload_n dL_law_300 rfl ?_
  refine g_aload_nS dL_law_301 rfl ?_
  refine g_iload_n dL_law_302 rfl ?_
  refine g_iconst dL_law_303 (by decide) ?_
  refine g_iadd dL_law_304 (by omega) (by omega) ?_
  refine g_sload dL_law_305 rfl (by omega) (by omega) ?_
  refine g_aload_nS dL_law_306 rfl ?_
  refine g_iload_n dL_law_307 rfl ?_
  refine g_iconst dL_law_308 (by decide) ?_
  refine g_iadd dL_law_309 (by omega) (by omega) ?_
  refine g_sload dL_law_310 rfl (by omega) (by omega) ?_
  refine g_callV_i [_, _] dL_law_311 mlL_54 mvX9_blob (by decide) (by first | exact hk0 | exact hM.o) ⟨(Nat.le_of_ble_eq_true rfl), (Nat.le_of_ble_eq_true rfl), (Nat.le_of_ble_eq_true rfl)⟩ rfl rfl (Nat.le_of_ble_eq_true rfl) rfl (Nat.le_of_ble_eq_true rfl) (m_blob hM hI.mn hI.fs _) (fun _ _ _ _ q => ⟨_, q.1⟩) (fun y g1 l1 s1 q w1 w2 => ?_)
  obtain ⟨q1, q2, q3, f1⟩ := q
  subst q2 q3
  cases q1
  refine g_icmp_eq 510 dL_law_314 (by decide) (fun h314 => ?_) (fun h314 => ?_)
  · skip
    exact hn _ _ _ _ _ (hI.fa f1)
  · exact absurd (bo_eq hc _ _) h314
set_option maxRecDepth 20000 in
set_option maxHeartbeats 2000000 in
theorem k_open (hL : L ≤ 2048) (hi : 0 ≤ i ∧ i + 4 ≤ (L : Int)) (hI : LI gi gl sh la oa) (hn : ∀ (g l : gF) (s : gSh) (la oa : Int), LI g l s la oa → Go (mdL_law L xs) 0 0 510 [some vS, some (vR 0), some (vR 190), some (vI i)] [] g l s QL) : Go (mdL_law L xs) 0 0 319 [some vS, some (vR 0), some (vR 190), some (vI i)] [] gi gl sh QL := by
  have hc := hI.1
  have hM := hI.2.1
  have hk0 := hc.1.1.1.1
  have hla := hc.1.1.1.2.2.2.2.2.2.2.2.2.2
  refine g_aload_n dL_law_319 rfl ?_
  refine g_aload_nS dL_law_320 rfl ?_
  refine g_iload_n dL_law_321 rfl ?_
  refine g_iconst dL_law_322 (by decide) ?_
  refine g_iadd dL_law_323 (by omega) (by omega) ?_
  refine g_sload dL_law_324 rfl (by omega) (by omega) ?_
  refine g_cVi [_] dL_law_325 mlL_55 mvX8_open (by decide) (by first | exact hk0 | exact hM.o) ⟨(Nat.le_of_ble_eq_true rfl), (Nat.le_of_ble_eq_true rfl), (Nat.le_of_ble_eq_true rfl)⟩ rfl rfl (Nat.le_of_ble_eq_true rfl) rfl (Nat.le_of_ble_eq_true rfl) (c_open hc _) ?_
  refine g_aload_n dL_law_328 rfl ?_
  refine g_aload_nS dL_law_329 rfl ?_
  refine g_iload_n dL_law_330 rfl ?_
  refine g_iconst dL_law_331 (by decide) ?_
  refine g_iadd dL_law_332 (by omega) (by omega) ?_
  refine g_sload dL_law_333 rfl (by omega) (by omega) ?_
  refine g_callV_i [_] dL_law_334 mlL_58 mvX9_open (by decide) (by first | exact hk0 | exact hM.o) ⟨(Nat.le_of_ble_eq_true rfl), (Nat.le_of_ble_eq_true rfl), (Nat.le_of_ble_eq_true rfl)⟩ rfl rfl (Nat.le_of_ble_eq_true rfl) rfl (Nat.le_of_ble_eq_true rfl) (m_open hM hI.mn hI.fs _) (fun _ _ _ _ q => ⟨_, q.1⟩) (fun y g1 l1 s1 q w1 w2 => ?_)
  obtain ⟨q1, q2, q3, f1⟩ := q
  subst q2 q3
  cases q1
  refine g_icmp_eq 510 dL_law_337 (by decide) (fun h337 => ?_) (fun h337 => ?_)
  · skip
    exact hn _ _ _ _ _ (hI.fa f1)
  · exact absurd (rfl) h337
set_option maxRecDepth 20000 in
set_option maxHeartbeats 2000000 in
theorem k_opening (hL : L ≤ 2048) (hi : 0 ≤ i ∧ i + 4 ≤ (L : Int)) (hI : LI gi gl sh la oa) (hn : ∀ (g l : gF) (s : gSh) (la oa : Int), LI g l s la oa → Go (mdL_law L xs) 0 0 510 [some vS, some (vR 0), some (vR 190), some (vI i)] [] g l s QL) : Go (mdL_law L xs) 0 0 342 [some vS, some (vR 0), some (vR 190), some (vI i)] [] gi gl sh QL := by
  have hc := hI.1
  have hM := hI.2.1
  have hk0 := hc.1.1.1.1
  have hla := hc.1.1.1.2.2.2.2.2.2.2.2.2.2
  refine g_aload_n dL_law_342 rfl ?_
  refine g_aload_nS dL_law_343 rfl ?_
  refine g_iload_n dL_law_344 rfl ?_
  refine g_iconst dL_law_345 (by decide) ?_
  refine g_iadd dL_law_346 (by omega) (by omega) ?_
  refine g_sload dL_law_347 rfl (by omega) (by omega) ?_
  refine g_aload_nS dL_law_348 rfl ?_
  refine g_iload_n dL_law_349 rfl ?_
  refine g_iconst dL_law_350 (by decide) ?_
  refine g_iadd dL_law_351 (by omega) (by omega) ?_
  refine g_sload dL_law_352 rfl (by omega) (by omega) ?_
  refine g_aload_nS dL_law_353 rfl ?_
  refine g_iload_n dL_law_354 rfl ?_
  refine g_iconst dL_law_355 (by decide) ?_
  refine g_iadd dL_law_356 (by omega) (by omega) ?_
  refine g_sload dL_law_357 rfl (by omega) (by omega) ?_
  refine g_cVi [_, _, _] dL_law_358 mlL_59 mvX8_opening (by decide) (by first | exact hk0 | exact hM.o) ⟨(Nat.le_of_ble_eq_true rfl), (Nat.le_of_ble_eq_true rfl), (Nat.le_of_ble_eq_true rfl)⟩ rfl rfl (Nat.le_of_ble_eq_true rfl) rfl (Nat.le_of_ble_eq_true rfl) (c_opening hc _ _ _) ?_
  refine g_aload_n dL_law_361 rfl ?_
  refine g_aload_nS dL_law_362 rfl ?_
  refine g_iload_n dL_law_363 rfl ?_
  refine g_iconst dL_law_364 (by decide) ?_
  refine g_iadd dL_law_365 (by omega) (by omega) ?_
  refine g_sload dL_law_366 rfl (by omega) (by omega) ?_
  refine g_aload_nS dL_law_367 rfl ?_
  refine g_iload_n dL_law_368 rfl ?_
  refine g_iconst dL_law_369 (by decide) ?_
  refine g_iadd dL_law_370 (by omega) (by omega) ?_
  refine g_sload dL_law_371 rfl (by omega) (by omega) ?_
  refine g_aload_nS dL_law_372 rfl ?_
  refine g_iload_n dL_law_373 rfl ?_
  refine g_iconst dL_law_374 (by decide) ?_
  refine g_iadd dL_law_375 (by omega) (by omega) ?_
  refine g_sload dL_law_376 rfl (by omega) (by omega) ?_
  refine g_callV_i [_, _, _] dL_law_377 mlL_63 mvX9_opening (by decide) (by first | exact hk0 | exact hM.o) ⟨(Nat.le_of_ble_eq_true rfl), (Nat.le_of_ble_eq_true rfl), (Nat.le_of_ble_eq_true rfl)⟩ rfl rfl (Nat.le_of_ble_eq_true rfl) rfl (Nat.le_of_ble_eq_true rfl) (m_opening hM hI.mn hI.fs _ _ _) (fun _ _ _ _ q => ⟨_, q.1⟩) (fun y g1 l1 s1 q w1 w2 => ?_)
  obtain ⟨q1, q2, q3, f1⟩ := q
  subst q2 q3
  cases q1
  refine g_icmp_eq 510 dL_law_380 (by decide) (fun h380 => ?_) (fun h380 => ?_)
  · skip
    exact hn _ _ _ _ _ (hI.fa f1)
  · exact absurd (op_eq hc _ _ _) h380
set_option maxRecDepth 20000 in
set_option maxHeartbeats 2000000 in
theorem k_air (hL : L ≤ 2048) (hi : 0 ≤ i ∧ i + 4 ≤ (L : Int)) (hI : LI gi gl sh la oa) (hn : ∀ (g l : gF) (s : gSh) (la oa : Int), LI g l s la oa → Go (mdL_law L xs) 0 0 510 [some vS, some (vR 0), some (vR 190), some (vI i)] [] g l s QL) : Go (mdL_law L xs) 0 0 385 [some vS, some (vR 0), some (vR 190), some (vI i)] [] gi gl sh QL := by
  have hc := hI.1
  have hM := hI.2.1
  have hk0 := hc.1.1.1.1
  have hla := hc.1.1.1.2.2.2.2.2.2.2.2.2.2
  refine g_aload_n dL_law_385 rfl ?_
  refine g_aload_nS dL_law_386 rfl ?_
  refine g_iload_n dL_law_387 rfl ?_
  refine g_iconst dL_law_388 (by decide) ?_
  refine g_iadd dL_law_389 (by omega) (by omega) ?_
  refine g_sload dL_law_390 rfl (by omega) (by omega) ?_
  refine g_cVi [_] dL_law_391 mlL_64 mvX8_air (by decide) (by first | exact hk0 | exact hM.o) ⟨(Nat.le_of_ble_eq_true rfl), (Nat.le_of_ble_eq_true rfl), (Nat.le_of_ble_eq_true rfl)⟩ rfl rfl (Nat.le_of_ble_eq_true rfl) rfl (Nat.le_of_ble_eq_true rfl) (c_air hc _) ?_
  refine g_aload_n dL_law_394 rfl ?_
  refine g_aload_nS dL_law_395 rfl ?_
  refine g_iload_n dL_law_396 rfl ?_
  refine g_iconst dL_law_397 (by decide) ?_
  refine g_iadd dL_law_398 (by omega) (by omega) ?_
  refine g_sload dL_law_399 rfl (by omega) (by omega) ?_
  refine g_callV_i [_] dL_law_400 mlL_67 mvX9_air (by decide) (by first | exact hk0 | exact hM.o) ⟨(Nat.le_of_ble_eq_true rfl), (Nat.le_of_ble_eq_true rfl), (Nat.le_of_ble_eq_true rfl)⟩ rfl rfl (Nat.le_of_ble_eq_true rfl) rfl (Nat.le_of_ble_eq_true rfl) (m_air hM hI.mn hI.fs _) (fun _ _ _ _ q => ⟨_, q.1⟩) (fun y g1 l1 s1 q w1 w2 => ?_)
  obtain ⟨q1, q2, q3, f1⟩ := q
  subst q2 q3
  cases q1
  refine g_icmp_eq 510 dL_law_403 (by decide) (fun h403 => ?_) (fun h403 => ?_)
  · skip
    exact hn _ _ _ _ _ (hI.fa f1)
  · exact absurd (ai_eq hc _) h403
set_option maxRecDepth 20000 in
set_option maxHeartbeats 2000000 in
theorem k_gain (hL : L ≤ 2048) (hi : 0 ≤ i ∧ i + 4 ≤ (L : Int)) (hI : LI gi gl sh la oa) (hn : ∀ (g l : gF) (s : gSh) (la oa : Int), LI g l s la oa → Go (mdL_law L xs) 0 0 510 [some vS, some (vR 0), some (vR 190), some (vI i)] [] g l s QL) : Go (mdL_law L xs) 0 0 408 [some vS, some (vR 0), some (vR 190), some (vI i)] [] gi gl sh QL := by
  have hc := hI.1
  have hM := hI.2.1
  have hk0 := hc.1.1.1.1
  have hla := hc.1.1.1.2.2.2.2.2.2.2.2.2.2
  refine g_aload_n dL_law_408 rfl ?_
  refine g_cVi [] dL_law_409 mlL_68 mvX8_gain (by decide) (by first | exact hk0 | exact hM.o) ⟨(Nat.le_of_ble_eq_true rfl), (Nat.le_of_ble_eq_true rfl), (Nat.le_of_ble_eq_true rfl)⟩ rfl rfl (Nat.le_of_ble_eq_true rfl) rfl (Nat.le_of_ble_eq_true rfl) (c_gain hc) ?_
  refine g_aload_n dL_law_412 rfl ?_
  refine g_callV_i [] dL_law_413 mlL_71 mvX9_gain (by decide) (by first | exact hk0 | exact hM.o) ⟨(Nat.le_of_ble_eq_true rfl), (Nat.le_of_ble_eq_true rfl), (Nat.le_of_ble_eq_true rfl)⟩ rfl rfl (Nat.le_of_ble_eq_true rfl) rfl (Nat.le_of_ble_eq_true rfl) (m_gain hM hI.mn hI.fs) (fun _ _ _ _ q => ⟨_, q.1⟩) (fun y g1 l1 s1 q w1 w2 => ?_)
  obtain ⟨q1, q2, q3, f1⟩ := q
  subst q2 q3
  cases q1
  refine g_icmp_eq 510 dL_law_416 (by decide) (fun h416 => ?_) (fun h416 => ?_)
  · skip
    exact hn _ _ _ _ _ (hI.fa f1)
  · exact absurd (by rw [ga_eq hc]) h416
set_option maxRecDepth 20000 in
set_option maxHeartbeats 2000000 in
theorem k_count (hL : L ≤ 2048) (hi : 0 ≤ i ∧ i + 4 ≤ (L : Int)) (hI : LI gi gl sh la oa) (hn : ∀ (g l : gF) (s : gSh) (la oa : Int), LI g l s la oa → Go (mdL_law L xs) 0 0 510 [some vS, some (vR 0), some (vR 190), some (vI i)] [] g l s QL) : Go (mdL_law L xs) 0 0 454 [some vS, some (vR 0), some (vR 190), some (vI i)] [] gi gl sh QL := by
  have hc := hI.1
  have hM := hI.2.1
  have hk0 := hc.1.1.1.1
  have hla := hc.1.1.1.2.2.2.2.2.2.2.2.2.2
  refine g_aload_n dL_law_454 rfl ?_
  refine g_aload_nS dL_law_455 rfl ?_
  refine g_iload_n dL_law_456 rfl ?_
  refine g_iconst dL_law_457 (by decide) ?_
  refine g_iadd dL_law_458 (by omega) (by omega) ?_
  refine g_sload dL_law_459 rfl (by omega) (by omega) ?_
  refine g_cVi [_] dL_law_460 mlL_76 mvX8_count (by decide) (by first | exact hk0 | exact hM.o) ⟨(Nat.le_of_ble_eq_true rfl), (Nat.le_of_ble_eq_true rfl), (Nat.le_of_ble_eq_true rfl)⟩ rfl rfl (Nat.le_of_ble_eq_true rfl) rfl (Nat.le_of_ble_eq_true rfl) (c_count hc _) ?_
  refine g_aload_n dL_law_463 rfl ?_
  refine g_aload_nS dL_law_464 rfl ?_
  refine g_iload_n dL_law_465 rfl ?_
  refine g_iconst dL_law_466 (by decide) ?_
  refine g_iadd dL_law_467 (by omega) (by omega) ?_
  refine g_sload dL_law_468 rfl (by omega) (by omega) ?_
  refine g_callV_i [_] dL_law_469 mlL_79 mvX9_count (by decide) (by first | exact hk0 | exact hM.o) ⟨(Nat.le_of_ble_eq_true rfl), (Nat.le_of_ble_eq_true rfl), (Nat.le_of_ble_eq_true rfl)⟩ rfl rfl (Nat.le_of_ble_eq_true rfl) rfl (Nat.le_of_ble_eq_true rfl) (m_count hM hI.mn hI.fs (gi 7 1) (gi 1 2) _ hI.2.2.2.2.2.1 hI.2.2.1.1) (fun _ _ _ _ q => ⟨_, q.1⟩) (fun y g1 l1 s1 q w1 w2 => ?_)
  obtain ⟨q1, q2, q3, f1⟩ := q
  subst q2 q3
  cases q1
  refine g_icmp_eq 510 dL_law_472 (by decide) (fun h472 => ?_) (fun h472 => ?_)
  · skip
    exact hn _ _ _ _ _ (hI.fa f1)
  · exact absurd (co_eq hc _) h472
set_option maxRecDepth 20000 in
set_option maxHeartbeats 2000000 in
theorem k_told (hL : L ≤ 2048) (hi : 0 ≤ i ∧ i + 4 ≤ (L : Int)) (hI : LI gi gl sh la oa) (hn : ∀ (g l : gF) (s : gSh) (la oa : Int), LI g l s la oa → Go (mdL_law L xs) 0 0 510 [some vS, some (vR 0), some (vR 190), some (vI i)] [] g l s QL) : Go (mdL_law L xs) 0 0 477 [some vS, some (vR 0), some (vR 190), some (vI i)] [] gi gl sh QL := by
  have hc := hI.1
  have hM := hI.2.1
  have hk0 := hc.1.1.1.1
  have hla := hc.1.1.1.2.2.2.2.2.2.2.2.2.2
  refine g_aload_n dL_law_477 rfl ?_
  refine g_aload_nS dL_law_478 rfl ?_
  refine g_iload_n dL_law_479 rfl ?_
  refine g_iconst dL_law_480 (by decide) ?_
  refine g_iadd dL_law_481 (by omega) (by omega) ?_
  refine g_sload dL_law_482 rfl (by omega) (by omega) ?_
  refine g_aload_nS dL_law_483 rfl ?_
  refine g_iload_n dL_law_484 rfl ?_
  refine g_iconst dL_law_485 (by decide) ?_
  refine g_iadd dL_law_486 (by omega) (by omega) ?_
  refine g_sload dL_law_487 rfl (by omega) (by omega) ?_
  refine g_cVi [_, _] dL_law_488 mlL_80 mvX8_told (by decide) (by first | exact hk0 | exact hM.o) ⟨(Nat.le_of_ble_eq_true rfl), (Nat.le_of_ble_eq_true rfl), (Nat.le_of_ble_eq_true rfl)⟩ rfl rfl (Nat.le_of_ble_eq_true rfl) rfl (Nat.le_of_ble_eq_true rfl) (c_told hc _ _) ?_
  refine g_aload_n dL_law_491 rfl ?_
  refine g_aload_nS dL_law_492 rfl ?_
  refine g_iload_n dL_law_493 rfl ?_
  refine g_iconst dL_law_494 (by decide) ?_
  refine g_iadd dL_law_495 (by omega) (by omega) ?_
  refine g_sload dL_law_496 rfl (by omega) (by omega) ?_
  refine g_aload_nS dL_law_497 rfl ?_
  refine g_iload_n dL_law_498 rfl ?_
  refine g_iconst dL_law_499 (by decide) ?_
  refine g_iadd dL_law_500 (by omega) (by omega) ?_
  refine g_sload dL_law_501 rfl (by omega) (by omega) ?_
  refine g_callV_i [_, _] dL_law_502 mlL_83 mvX9_told (by decide) (by first | exact hk0 | exact hM.o) ⟨(Nat.le_of_ble_eq_true rfl), (Nat.le_of_ble_eq_true rfl), (Nat.le_of_ble_eq_true rfl)⟩ rfl rfl (Nat.le_of_ble_eq_true rfl) rfl (Nat.le_of_ble_eq_true rfl) (m_told hM hI.mn hI.fs _ _) (fun _ _ _ _ q => ⟨_, q.1⟩) (fun y g1 l1 s1 q w1 w2 => ?_)
  obtain ⟨q1, q2, q3, f1⟩ := q
  subst q2 q3
  cases q1
  refine g_icmp_eq 510 dL_law_505 (by decide) (fun h505 => ?_) (fun h505 => ?_)
  · skip
    exact hn _ _ _ _ _ (hI.fa f1)
  · exact absurd (to_eq hc _ _) h505
set_option maxRecDepth 20000 in
set_option maxHeartbeats 2000000 in
theorem k_best (hL : L ≤ 2048) (hi : 0 ≤ i ∧ i + 4 ≤ (L : Int)) (hI : LI gi gl sh la oa) (hn : ∀ (g l : gF) (s : gSh) (la oa : Int), LI g l s la oa → Go (mdL_law L xs) 0 0 510 [some vS, some (vR 0), some (vR 190), some (vI i)] [] g l s QL) : Go (mdL_law L xs) 0 0 421 [some vS, some (vR 0), some (vR 190), some (vI i)] [] gi gl sh QL := by
  have hc := hI.1
  have hM := hI.2.1
  have hk0 := hc.1.1.1.1
  have hla := hc.1.1.1.2.2.2.2.2.2.2.2.2.2
  refine g_aload_n dL_law_421 rfl ?_
  refine g_aload_nS dL_law_422 rfl ?_
  refine g_iload_n dL_law_423 rfl ?_
  refine g_iconst dL_law_424 (by decide) ?_
  refine g_iadd dL_law_425 (by omega) (by omega) ?_
  refine g_sload dL_law_426 rfl (by omega) (by omega) ?_
  refine g_aload_nS dL_law_427 rfl ?_
  refine g_iload_n dL_law_428 rfl ?_
  refine g_iconst dL_law_429 (by decide) ?_
  refine g_iadd dL_law_430 (by omega) (by omega) ?_
  refine g_sload dL_law_431 rfl (by omega) (by omega) ?_
  refine g_callV_i [_, _] dL_law_432 mlL_72 mvX8_best (by decide) (by first | exact hk0 | exact hM.o) ⟨(Nat.le_of_ble_eq_true rfl), (Nat.le_of_ble_eq_true rfl), (Nat.le_of_ble_eq_true rfl)⟩ rfl rfl (Nat.le_of_ble_eq_true rfl) rfl (Nat.le_of_ble_eq_true rfl) (c_best hc _ _) (fun _ _ _ _ q => ⟨_, q.1⟩) (fun y0 g0 l0 s0 q w1 w2 => ?_)
  obtain ⟨q1, q2, q3, hc1, f0⟩ := q
  subst q2 q3
  cases q1
  have hI1 : LI g0 l0 s0 la oa := by
    refine ⟨hc1, hM, ?_, hI.2.2.2.fr (fun b hb => f0 b (by omega)) (by rw [f0 190 (by decide)]) (by rw [f0 190 (by decide)])⟩
    have ht := hI.2.2.1
    unfold RT at ht ⊢
    rw [f0 190 (by decide), f0 1 (by decide), f0 195 (by decide), f0 2 (by decide)]
    exact ht
  have hN1 := hI.mn.fr (g' := g0) (G := l0) (by rw [f0 190 (by decide)]) (f0 191 (by decide)) (f0 192 (by decide)) rfl
  refine g_aload_n dL_law_435 rfl ?_
  refine g_aload_nS dL_law_436 rfl ?_
  refine g_iload_n dL_law_437 rfl ?_
  refine g_iconst dL_law_438 (by decide) ?_
  refine g_iadd dL_law_439 (by omega) (by omega) ?_
  refine g_sload dL_law_440 rfl (by omega) (by omega) ?_
  refine g_aload_nS dL_law_441 rfl ?_
  refine g_iload_n dL_law_442 rfl ?_
  refine g_iconst dL_law_443 (by decide) ?_
  refine g_iadd dL_law_444 (by omega) (by omega) ?_
  refine g_sload dL_law_445 rfl (by omega) (by omega) ?_
  refine g_callV_i [_, _] dL_law_446 mlL_75 mvX9_best (by decide) (by first | exact hk0 | exact hM.o) ⟨(Nat.le_of_ble_eq_true rfl), (Nat.le_of_ble_eq_true rfl), (Nat.le_of_ble_eq_true rfl)⟩ rfl rfl (Nat.le_of_ble_eq_true rfl) rfl (Nat.le_of_ble_eq_true rfl) (m_best hM hN1 hI.fs _ _) (fun _ _ _ _ q => ⟨_, q.1⟩) (fun y g1 l1 s1 q w1 w2 => ?_)
  obtain ⟨q1, q2, q3, f1⟩ := q
  subst q2 q3
  cases q1
  refine g_icmp_eq 510 dL_law_449 (by decide) (fun h449 => ?_) (fun h449 => ?_)
  · skip
    exact hn _ _ _ _ _ (hI1.fa f1)
  · exact absurd rfl h449
set_option maxRecDepth 20000 in
set_option maxHeartbeats 2000000 in
theorem k_write (hL : L ≤ 2048) (hi : 0 ≤ i ∧ i + 4 ≤ (L : Int)) (hI : LI gi gl sh la oa) (hn : ∀ (g l : gF) (s : gSh) (la oa : Int), LI g l s la oa → Go (mdL_law L xs) 0 0 510 [some vS, some (vR 0), some (vR 190), some (vI i)] [] g l s QL) : Go (mdL_law L xs) 0 0 112 [some vS, some (vR 0), some (vR 190), some (vI i)] [] gi gl sh QL := by
  have hc := hI.1
  have hM := hI.2.1
  have hk0 := hc.1.1.1.1
  have hla := hc.1.1.1.2.2.2.2.2.2.2.2.2.2
  refine g_aload_n dL_law_112 rfl ?_
  refine g_aload_nS dL_law_113 rfl ?_
  refine g_iload_n dL_law_114 rfl ?_
  refine g_iconst dL_law_115 (by decide) ?_
  refine g_iadd dL_law_116 (by omega) (by omega) ?_
  refine g_sload dL_law_117 rfl (by omega) (by omega) ?_
  refine g_callV_i [_] dL_law_118 mlL_13 mvX8_write (by decide) (by first | exact hk0 | exact hM.o) ⟨(Nat.le_of_ble_eq_true rfl), (Nat.le_of_ble_eq_true rfl), (Nat.le_of_ble_eq_true rfl)⟩ rfl rfl (Nat.le_of_ble_eq_true rfl) rfl (Nat.le_of_ble_eq_true rfl) (c_write hc _) (fun _ _ _ _ q => q.2.2.2.2.elim (fun q => ⟨_, q.2.1⟩) (fun q => q.elim (fun q => ⟨_, q.2.2.1⟩) (fun q => ⟨_, q.2.2.1⟩))) (fun y g1 l1 s1 q w1 w2 => ?_)
  obtain ⟨q1, q2, hc1, f1, qc⟩ := q
  subst q1 q2
  have e190 := f1 190 (by decide) (by decide)
  have ht := hI.2.2.1
  refine g_aload_n dL_law_121 rfl ?_
  refine g_aload_nS dL_law_122 rfl ?_
  refine g_iload_n dL_law_123 rfl ?_
  refine g_iconst dL_law_124 (by decide) ?_
  refine g_iadd dL_law_125 (by omega) (by omega) ?_
  refine g_sload dL_law_126 rfl (by omega) (by omega) ?_
  refine g_callV_i [_] dL_law_127 mlL_17 mvX9_write (by decide) (by first | exact hk0 | exact hM.o) ⟨(Nat.le_of_ble_eq_true rfl), (Nat.le_of_ble_eq_true rfl), (Nat.le_of_ble_eq_true rfl)⟩ rfl rfl (Nat.le_of_ble_eq_true rfl) rfl (Nat.le_of_ble_eq_true rfl) (m_write (n := gi 1 2) hM _ (by rw [e190]; exact ht.1) hc.1.2.1.1) (fun _ _ _ _ q => q.2.2.elim (fun q => ⟨_, q.2.1⟩) (fun q => q.elim (fun q => ⟨_, q.2.2.1⟩) (fun q => ⟨_, q.2.2.1⟩))) (fun y2 g2 l2 s2 p w3 w4 => ?_)
  obtain ⟨p1, p2, pc⟩ := p
  subst p1 p2
  have key : y = y2 ∧ LI g2 l2 s2 la oa := by
    rcases qc with ⟨a1, a2, a3⟩ | ⟨a1, a2, a3, a4⟩ | ⟨a1, a2, a3, a4, a5⟩
    · rcases pc with ⟨b1, b2, b3⟩ | ⟨b1, b2, b3, b4⟩ | ⟨b1, b2, b3, b4⟩
      · cases a2; cases b2; rw [b3, a3]; exact ⟨rfl, hI⟩
      · omega
      · omega
    · rcases pc with ⟨b1, b2, b3⟩ | ⟨b1, b2, b3, b4⟩ | ⟨b1, b2, b3, b4⟩
      · omega
      · cases a3; cases b3; rw [b4, a4]; exact ⟨rfl, hI⟩
      · omega
    · rcases pc with ⟨b1, b2, b3⟩ | ⟨b1, b2, b3, b4⟩ | ⟨b1, b2, b3, b4⟩
      · omega
      · omega
      · cases a3; cases b3
        have eg : ∀ b : Int, b ≠ 190 → b ≠ 195 → g2 b = g1 b := fun b h1 h2 => by rw [b4, g_up_row h1, g_up_row h2]
        have e19 : ∀ k : Int, k ≠ 7 → g2 190 k = gi 190 k := fun k hk => by rw [b4, g_up_ne hk, g_up_row (by decide), e190]
        refine ⟨rfl, hc1.hi (fun b hb => eg b (by omega) (by omega)), hM, ⟨?_, fun j j0 j1 => ?_⟩, hI.2.2.2.fr (fun b hb => by rw [eg b (by omega) (by omega)]; exact f1 b (by omega) (by omega)) (e19 1 (by decide)) (e19 5 (by decide))⟩
        · rw [b4, g_up_at, g_up_row (by decide), g_up_row (by decide), a4]
        · rw [eg 1 (by decide) (by decide), a4] at j1
          rw [eg 2 (by decide) (by decide), a5, b4, g_up_row (by decide), g_up_r, f1 195 (by decide) (by decide)]
          by_cases c : j = gi 1 2
          · rw [c, r_up_at, r_up_at]
          · rw [r_up_ne c, r_up_ne c]; exact ht.2 j j0 (by omega)
  refine g_icmp_eq 510 dL_law_130 (by decide) (fun h130 => ?_) (fun h130 => ?_)
  · skip
    exact hn _ _ _ _ _ key.2
  · exact absurd key.1 h130
set_option maxRecDepth 20000 in
set_option maxHeartbeats 2000000 in
theorem k_wipe (hL : L ≤ 2048) (hi : 0 ≤ i ∧ i + 4 ≤ (L : Int)) (hI : LI gi gl sh la oa) (hn : ∀ (g l : gF) (s : gSh) (la oa : Int), LI g l s la oa → Go (mdL_law L xs) 0 0 510 [some vS, some (vR 0), some (vR 190), some (vI i)] [] g l s QL) : Go (mdL_law L xs) 0 0 135 [some vS, some (vR 0), some (vR 190), some (vI i)] [] gi gl sh QL := by
  have hc := hI.1
  have hM := hI.2.1
  have hk0 := hc.1.1.1.1
  have hla := hc.1.1.1.2.2.2.2.2.2.2.2.2.2
  refine g_aload_n dL_law_135 rfl ?_
  refine g_callV_i [] dL_law_136 mlL_18 mvX8_wipe (by decide) (by first | exact hk0 | exact hM.o) ⟨(Nat.le_of_ble_eq_true rfl), (Nat.le_of_ble_eq_true rfl), (Nat.le_of_ble_eq_true rfl)⟩ rfl rfl (Nat.le_of_ble_eq_true rfl) rfl (Nat.le_of_ble_eq_true rfl) (c_wipe hc) (fun _ _ _ _ q => ⟨_, q.2.2.2.2.1⟩) (fun y g1 l1 s1 q w1 w2 => ?_)
  obtain ⟨q1, q2, hc1, f1, q5, q6⟩ := q
  subst q1 q2
  cases q5
  have ht := hI.2.2.1
  refine g_aload_n dL_law_139 rfl ?_
  refine g_cVi [] dL_law_140 mlL_22 mvX9_wipe (by decide) (by first | exact hk0 | exact hM.o) ⟨(Nat.le_of_ble_eq_true rfl), (Nat.le_of_ble_eq_true rfl), (Nat.le_of_ble_eq_true rfl)⟩ rfl rfl (Nat.le_of_ble_eq_true rfl) rfl (Nat.le_of_ble_eq_true rfl) (m_wipe hM) ?_
  refine g_icmp_eq 510 dL_law_143 (by decide) (fun h143 => ?_) (fun h143 => ?_)
  · skip
    have eg : ∀ b : Int, b ≠ 190 → g_up g1 190 7 0 b = g1 b := fun b hb => g_up_row hb
    have e19 : ∀ k : Int, k ≠ 7 → g_up g1 190 7 0 190 k = gi 190 k := fun k hk => by rw [g_up_ne hk, f1 190 (by decide)]
    refine hn _ _ _ la oa ⟨hc1.hi (fun b hb => eg b (by omega)), hM, ⟨?_, fun j j0 j1 => ?_⟩, hI.2.2.2.fr (fun b hb => by rw [eg b (by omega)]; exact f1 b (by omega)) (e19 1 (by decide)) (e19 5 (by decide))⟩
    · rw [g_up_at, eg 1 (by decide), q6]
    · rw [eg 1 (by decide), q6] at j1; omega
  · exact absurd (by rw [f1 190 (by decide)]; exact ht.1.symm) h143
set_option maxRecDepth 20000 in
set_option maxHeartbeats 2000000 in
theorem k_fault (hL : L ≤ 2048) (hi : 0 ≤ i ∧ i + 4 ≤ (L : Int)) (hI : LI gi gl sh la oa) (hn : ∀ (g l : gF) (s : gSh) (la oa : Int), LI g l s la oa → Go (mdL_law L xs) 0 0 510 [some vS, some (vR 0), some (vR 190), some (vI i)] [] g l s QL) : Go (mdL_law L xs) 0 0 148 [some vS, some (vR 0), some (vR 190), some (vI i)] [] gi gl sh QL := by
  have hc := hI.1
  have hM := hI.2.1
  have hk0 := hc.1.1.1.1
  have hla := hc.1.1.1.2.2.2.2.2.2.2.2.2.2
  refine g_aload_n dL_law_148 rfl ?_
  refine g_callV_i [] dL_law_149 mlL_23 mvX8_fault (by decide) (by first | exact hk0 | exact hM.o) ⟨(Nat.le_of_ble_eq_true rfl), (Nat.le_of_ble_eq_true rfl), (Nat.le_of_ble_eq_true rfl)⟩ rfl rfl (Nat.le_of_ble_eq_true rfl) rfl (Nat.le_of_ble_eq_true rfl) (c_fault hc) (fun _ _ _ _ q => ⟨_, q.2.2.2.2.2⟩) (fun y g1 l1 s1 q w1 w2 => ?_)
  obtain ⟨q1, q2, hc1, f1, q5, q6⟩ := q
  subst q1 q2
  cases q6
  have ht := hI.2.2.1
  have e190 : g1 190 = gi 190 := f1 190 (by decide) (by decide) (by omega) (by omega) (by omega)
  have e195 : g1 195 = gi 195 := f1 195 (by decide) (by decide) (by omega) (by omega) (by omega)
  have e2 : g1 2 = gi 2 := f1 2 (by decide) (by decide) (by omega) (by omega) (by omega)
  have hI1 : LI g1 l1 s1 la oa := by
    refine ⟨hc1, hM, ?_, hI.2.2.2.fr (fun b hb => f1 b (by omega) (by omega) (by omega) (by omega) (by omega)) (by rw [e190]) (by rw [e190])⟩
    unfold RT at ht ⊢
    rw [e190, e195, e2, q5]
    exact ht
  have hp := t_parse_c (t_at_c (n := gi 1 2) ht.2) 200 0 (t_pl0 (gi (371 - la))) (gi (371 - la + 1)) (gi (371 - la + 2))
  refine g_aload_n dL_law_152 rfl ?_
  refine g_callV_i [] dL_law_153 mlL_26 mvX9_fault (by decide) (by first | exact hk0 | exact hM.o) ⟨(Nat.le_of_ble_eq_true rfl), (Nat.le_of_ble_eq_true rfl), (Nat.le_of_ble_eq_true rfl)⟩ rfl rfl (Nat.le_of_ble_eq_true rfl) rfl (Nat.le_of_ble_eq_true rfl) (m_fault (tx := gi 195) (n := gi 1 2) hM e195 (by rw [e190]; exact ht.1) hc.1.2.1.1 (gi (371 - la)) (gi (371 - la + 1)) (gi (371 - la + 2))) (fun _ _ _ _ q => ⟨_, q.1⟩) (fun y2 g2 l2 s2 p w3 w4 => ?_)
  rw [hp] at p
  obtain ⟨p1, p2, p3, tf, -⟩ := p
  subst p2 p3
  cases p1
  refine g_icmp_eq 510 dL_law_156 (by decide) (fun h156 => ?_) (fun h156 => ?_)
  · skip
    exact hn _ _ _ _ _ (hI1.tf tf)
  · exact absurd rfl h156
set_option maxRecDepth 20000 in
set_option maxHeartbeats 2000000 in
theorem k_lay (hL : L ≤ 2048) (hi : 0 ≤ i ∧ i + 4 ≤ (L : Int)) (hI : LI gi gl sh la oa) (hn : ∀ (g l : gF) (s : gSh) (la oa : Int), LI g l s la oa → Go (mdL_law L xs) 0 0 510 [some vS, some (vR 0), some (vR 190), some (vI i)] [] g l s QL) : Go (mdL_law L xs) 0 0 161 [some vS, some (vR 0), some (vR 190), some (vI i)] [] gi gl sh QL := by
  have hc := hI.1
  have hM := hI.2.1
  have hk0 := hc.1.1.1.1
  have hla := hc.1.1.1.2.2.2.2.2.2.2.2.2.2
  refine g_aload_n dL_law_161 rfl ?_
  refine g_callV_i [] dL_law_162 mlL_27 mvX8_lay (by decide) (by first | exact hk0 | exact hM.o) ⟨(Nat.le_of_ble_eq_true rfl), (Nat.le_of_ble_eq_true rfl), (Nat.le_of_ble_eq_true rfl)⟩ rfl rfl (Nat.le_of_ble_eq_true rfl) rfl (Nat.le_of_ble_eq_true rfl) (c_lay hc) (fun _ _ _ _ q => q.2.2.2.2.elim (fun q => ⟨_, q.2.1⟩) (fun q => ⟨_, q.2.1⟩)) (fun y g1 l1 s1 q w1 w2 => ?_)
  have ht := hI.2.2.1
  have hp := t_parse_c (t_at_c (n := gi 1 2) ht.2) 200 0 (t_pl0 (gi (371 - la))) (gi (371 - la + 1)) (gi (371 - la + 2))
  have hpk : pl_ok (t_parse (gi 2) (gi 1 2) 200 0 (t_pl0 (gi (371 - la))) (gi (371 - la + 1)) (gi (371 - la + 2))).2.1 (t_parse (gi 2) (gi 1 2) 200 0 (t_pl0 (gi (371 - la))) (gi (371 - la + 1)) (gi (371 - la + 2))).2.2.1 (t_parse (gi 2) (gi 1 2) 200 0 (t_pl0 (gi (371 - la))) (gi (371 - la + 1)) (gi (371 - la + 2))).2.2.2 := t_parse_ok 200 0 _ _ _ (t_pl0_ok _ _ _)
  generalize t_parse (gi 2) (gi 1 2) 200 0 (t_pl0 (gi (371 - la))) (gi (371 - la + 1)) (gi (371 - la + 2)) = res at q hp hpk
  obtain ⟨q1, f9, q3, q4, qc⟩ := q
  subst q1
  have e190 : g1 190 = gi 190 := f9 190 (by decide)
  have e195 : g1 195 = gi 195 := f9 195 (by decide)
  have hM1 : isMd s1 := by
    rcases qc with qc | qc
    · rw [qc.2.2.1]; exact hM
    · rw [qc.2.2.1]; exact hM.eq rfl (fun b hb => by unfold sh_lay; dsimp only; rw [g_up_row (by omega), g_up_row (by omega)])
  refine g_aload_n dL_law_165 rfl ?_
  refine g_callV_i [] dL_law_166 mlL_30 mvX9_lay (by decide) (by exact hM1.o) ⟨(Nat.le_of_ble_eq_true rfl), (Nat.le_of_ble_eq_true rfl), (Nat.le_of_ble_eq_true rfl)⟩ rfl rfl (Nat.le_of_ble_eq_true rfl) rfl (Nat.le_of_ble_eq_true rfl) (m_lay (tx := gi 195) (n := gi 1 2) hM1 e195 (by rw [e190]; exact ht.1) hc.1.2.1.1 (gi (371 - la)) (gi (371 - la + 1)) (gi (371 - la + 2)) res hp) (fun _ _ _ _ q => q.2.elim (fun q => ⟨_, q.2.1⟩) (fun q => ⟨_, q.2.1⟩)) (fun y2 g2 l2 s2 p w3 w4 => ?_)
  obtain ⟨p1, pc⟩ := p
  subst p1
  have key : y = y2 ∧ ∃ la2, LI g2 l2 s2 la2 oa := by
    rcases qc with ⟨a1, a2, a3, a4, a5⟩ | ⟨a1, a2, a3, a4, a5, a6, a7, a8, a9⟩
    · rcases pc with ⟨b1, b2, b3, b4⟩ | ⟨b1, b2, b3⟩
      · cases a2; cases b2; rw [b4, a3]
        have hI1 : LI g1 l1 sh la oa := by
          refine ⟨a4, hM, ?_, hI.2.2.2.fr (fun b hb => ?_) (by rw [e190]) (by rw [e190])⟩
          · unfold RT at ht ⊢; rw [e190, e195, q3, q4]; exact ht
          · exact a5 b (by omega) (by omega) (by omega) (by omega) (by omega)
        exact ⟨rfl, la, hI1.tf b3⟩
      · exfalso; rcases a1 with a1 | a1; exact a1 b1.1; exact b1.2 a1
    · rcases pc with ⟨b1, b2, b3, b4⟩ | ⟨b1, b2, b3, b4, b5, b6, b7, b8, b9, b10⟩
      · exfalso; rcases b1 with b1 | b1; exact b1 a1.1; exact a1.2 b1
      · cases a2; cases b2
        have hla2 : 371 - la < 189 := by omega
        have h4 := hpk.2.2.2.2.2.2.2.1
        refine ⟨rfl, 371 - la, a4.hl b3 (fun b hb => b8 b (by omega)), hM1, ⟨?_, fun j j0 j1 => ?_⟩, ?_, ⟨?_, ?_, ?_⟩, ?_, ?_⟩
        · rw [b5, e190, b3 1 (by decide), q3]; exact ht.1
        · rw [b3 1 (by decide), q3] at j1
          rw [b4, e195, b3 2 (by decide), q4]; exact ht.2 j j0 j1
        · rw [b3 (371 - la) (by omega), b3 (371 - la + 1) (by omega), a5, a6]; exact b7
        · show l2 193 0 = g2 4 2; rw [b9, b3 4 (by decide), a8]
        · intro t t0 t1
          have t2 : t < g2 4 2 := t1
          rw [b3 4 (by decide), a8] at t2
          omega
        · intro k k0 k1
          rw [b3 (371 - la) (by omega), a5] at k1
          show l2 193 (61 + k) = g2 6 k
          rw [b10 k k0 k1, b3 6 (by decide), a7 k k0 (by omega)]
        · rw [b6, b3 7 (by decide), a9]
        · intro u u0 u1
          rw [b3 7 (by decide), a9] at u1
          omega
  refine g_icmp_eq 510 dL_law_169 (by decide) (fun h169 => ?_) (fun h169 => ?_)
  · skip
    obtain ⟨la2, hI2⟩ := key.2
    exact hn _ _ _ _ _ hI2
  · exact absurd key.1 h169
end LAW1
