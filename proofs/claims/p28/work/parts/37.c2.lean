theorem tz_S {τ : Tau} {nw ns nl nc sc : Nat} (hI : Iv τ nw ns nl nc) (hsc : sc < ns) : okS τ (nI sc) := ix_ok hI.2.1.1 (by have := hI.2.1.2.2; omega) hsc
theorem tz_20 {τ : Tau} {nw ns nl nc : Nat} (hI : Iv τ nw ns nl nc) (h6 : nl < 6) : ¬ τ 0 2 = 20 := by
  rw [hI.2.2.1.1]
  intro h
  have := neq_of (n := 20) rfl (by omega) (by omega) h
  omega
theorem tz_once {τ : Tau} {nw ns nl nc sc rk q r : Nat} (hI : Iv τ nw ns nl nc) (h6 : nl < 6) (hsc : sc < ns) (h1 : 1 ≤ rk) (h2 : rk < 4) (hq : q < r) (hr : r ≤ 672) : th_once τ (nI sc) (nI q) (nI r) (nI rk) = 0 := by
  unfold th_once
  have e1 : 0 ≤ nI q ∧ nI q ≤ 671 := ⟨nI_pos' (by omega), nI_le (b := 671) (by omega) (by omega)⟩
  rw [if_neg (fun h => h (tz_S hI hsc)), if_neg (fun h => h ⟨e1, nI_lt hq (by omega), nI_le (b := 672) hr (by omega), tz_R h1 h2⟩), if_neg (tz_20 hI h6)]
theorem tz_23 {q : Nat} (hq : q < 24) : 0 ≤ nI q ∧ nI q ≤ 23 := ⟨nI_pos' (by omega), nI_le (b := 23) (by omega) (by omega)⟩
theorem tz_daily {τ : Tau} {nw ns nl nc sc la rk q r : Nat} (hI : Iv τ nw ns nl nc) (h6 : nl < 6) (hsc : sc < ns) (hla : la < 4) (h1 : 1 ≤ rk) (h2 : rk < 4) (hq : q < 24) (hr : r < 24) : th_daily τ (nI sc) (nI la) (nI q) (nI r) (nI rk) = 0 := by
  unfold th_daily
  rw [if_neg (fun h => h.elim (fun h => h (tz_S hI hsc)) (fun h => h (tz_L hla))), if_neg (fun h => h ⟨tz_23 hq, tz_23 hr, tz_R h1 h2⟩), if_neg (tz_20 hI h6)]
theorem tz_feasts {τ : Tau} {nw ns nl nc sc la rk : Nat} (hI : Iv τ nw ns nl nc) (h6 : nl < 6) (hsc : sc < ns) (hla : la < 4) (h1 : 1 ≤ rk) (h2 : rk < 4) : th_feasts τ (nI sc) (nI la) (nI rk) = 0 := by
  unfold th_feasts
  rw [if_neg (fun h => h.elim (fun h => h (tz_S hI hsc)) (fun h => h (tz_L hla))), if_neg (fun h => h (tz_R h1 h2)), if_neg (tz_20 hI h6)]
theorem tz_lays {τ : Tau} {nw ns nl nc : Nat} (hI : Iv τ nw ns nl nc) (h6 : nl < 6) {how s d a b r : Int32} : th_hours (nx_lays τ how s d a b r) (nI nl) = 0 := by
  have hcs : cx (τ 0 2) = nl := by rw [hI.2.2.1.1]; exact cx_nI (by omega)
  refine if_pos ⟨ix_ok (n_lays hI).1.2.2.1 (by omega) (by omega), ?_⟩
  rw [cx_nI (by omega)]
  exact hI.2.2.2.2.2.2.2.2.1 nl (Nat.le_refl _) (by omega)
theorem rz_hours {τ : Tau} {k : Nat} (hk : k < 100) : rt_hours τ (nI k) = nI (ct (fun h => hoB τ k (nI h)) 672) := by rw [rt_hours, cx_nI (by omega)]
theorem tf_lift0 {τ : Tau} {nw ns nl nc : Nat} (hI : Iv τ nw ns nl nc) {k : Nat} (hk : k < 100) (h : ¬ (k < nl ∧ τ 4 k = 0)) : ¬ okF τ (nI k) := by
  rintro ⟨h1, h2⟩
  obtain ⟨q, hq, hqe, -⟩ := hI.n h1
  have := neq_of (n := q) rfl (by omega) (by have := hI.2.2.1.2; omega) hqe
  subst this
  rw [cx_nI (by omega)] at h2
  exact h ⟨hq, h2⟩
theorem ct_b {p : Nat → Bool} {x : Int32} {i : Nat} (h : p i = (x == 0)) : nI (ct p i) + bI (x = 0) = nI (ct p (i + 1)) := by
  by_cases hx : x = 0
  · rw [bI_t hx]; exact ct_t (by rw [h, hx]; rfl)
  · rw [bI_f hx]; exact ct_f (by rw [h]; exact beq_eq_false_iff_ne.mpr hx)
theorem rz_lift {τ : Tau} {nw ns nl nc : Nat} (hI : Iv τ nw ns nl nc) {k : Int32} : rt_lift τ k = nI (ct (fun j => nx_lift τ k 4 j == 0) nl) := by
  have hcs : cx (τ 0 2) = nl := by rw [hI.2.2.1.1]; exact cx_nI (by have := hI.2.2.1.2; omega)
  unfold rt_lift
  show nI (ct _ (cx (τ 0 2))) = _
  rw [hcs]
theorem n_lift {τ : Tau} {nw ns nl nc : Nat} (hI : Iv τ nw ns nl nc) {k : Int32} : iN (nx_lift τ k) nw ns nl nc := n_same hI rfl
theorem tz_F {τ : Tau} {nw ns nl nc : Nat} (hI : Iv τ nw ns nl nc) {k : Nat} (hk : k < nl) (h4 : τ 4 k = 0) : okF τ (nI k) := ⟨ix_ok hI.2.2.1.1 (by have := hI.2.2.1.2; omega) hk, by rw [cx_nI (by have := hI.2.2.1.2; omega)]; exact h4⟩
set_option maxHeartbeats 4000000 in
set_option maxRecDepth 100000 in
theorem l_once {p : Program} {l : Launch} (hl9 : l.stackTraces = false) {e : Env} {R : Room} {s : State} {m : MethodId} {args : Array Value} {below : List Frame} {meth : Method} {c : Code} {H : Heap} {locs : List Loc} {cells slots : Nat} {Q : State → Prop} {D : va_G} {ids : Nat → ClassId} {n0 b t9 : Nat} {aa : Nat → Nat} {τ : Tau} {nw ns nl nc : Nat} {A : Tau} (MC : ro_C p s m args meth c cL_law 28 "FrostCalendarLaw" D ids n0) (HS : va_S (fun q => n0 ≤ q) s.heap H locs) (hB : wB D ids n0 aa τ nw ns nl nc A H) (hO : wOk τ ns nl nc A) (hR : 11 ≤ R.frames ∧ 400 ≤ R.locals) {sc la rk n9 k9 : Nat} {x9 y9 : Int32} (hsc : sc < ns) (hla : la < 4) (hrk1 : 1 ≤ rk) (hrk : rk < 4) (hn9 : (nc = 0 ∧ n9 = 0) ∨ n9 < nc) (hk9 : (nl = 0 ∧ k9 = 0) ∨ k9 < nl) (hcl : cells + 400 ≤ R.cells) (hsl : slots + 2400 ≤ R.slots) {ls : Array Slot} (hl : lv_has ls 28 [(0, .ref b), (1, .ref (aa 0)), (2, .ref (aa 11)), (3, .ref (aa 12)), (4, .ref (aa 13)), (5, .ref (aa 14)), (6, .ref (aa 15)), (7, .ref (aa 16)), (8, .ref (aa 17)), (9, .int (nI t9)), (10, .int x9), (11, .int y9), (12, .int 4), (13, .int (nI sc)), (14, .int (nI la)), (15, .int (nI rk)), (16, .int (nI n9)), (17, .int (nI k9)), (18, .int (nI (7 * nl)))])
    (kk : ∀ (c9 s9 : Nat) (H1 : Heap) (locs1 : List Loc) (ls1 : Array Slot), c9 ≤ cells + 400 → s9 ≤ slots + 2400 → wI D ids n0 aa H1 → va_S (fun q => n0 ≤ q) s.heap H1 locs1 → lv_has ls1 28 (lL b aa t9) → W p l e R s m args below meth c H1 locs1 c9 s9 Q (F0 m 2092 ls1 [])) : W p l e R s m args below meth c H locs cells slots Q (F0 m 372 ls []) := by
  have hx := MC.1.1
  have hb := MC.1.2.1
  have hI := hB.1
  obtain ⟨⟨hns, hnl, hnc⟩, ⟨hg0, hg1, hg2, hg3⟩, hF, hC, hin, hof, hfe, hle⟩ := id hO
  refine lv_aload hx hb dL_law_372 (lv_at hl 8 rfl) ?_
  refine lv_iconst (v := 2) hx hb dL_law_374 (by decide) ?_
  refine wb_iald MC hB 6 (by decide) 2 (show 2 < 4 by omega) rfl (hg2.trans hI.2.2.1.1) dL_law_375 ?_
  refine lv_bipush (v := 6) hx hb dL_law_376 (by decide) ?_
  refine lv_icmp_ne (tgt := 384) hx hb dL_law_378 (by decide) (fun c_378 => ?_) (fun c_378 => ?_)
  · have h6 : nl < 6 := by have : nl ≠ 6 := fun e9 => c_378 (by rw [e9]; rfl); omega
    refine lv_aload_n hx hb dL_law_384 rfl (lv_at hl 2 rfl) ?_
    refine lv_iload hx hb dL_law_385 (lv_at hl 18 rfl) ?_
    refine lv_iconst (v := 1) hx hb dL_law_387 (by decide) ?_
    refine wb_iast MC hB HS 0 (by decide) (7 * nl) (show 7 * nl < 42 by omega) rfl dL_law_388 (fun H1 lH1 hB HS => ?_)
    refine lv_aload_n hx hb dL_law_389 rfl (lv_at hl 2 rfl) ?_
    refine lv_iload hx hb dL_law_390 (lv_at hl 18 rfl) ?_
    refine lv_iconst (v := 1) hx hb dL_law_392 (by decide) ?_
    refine lv_iadd hx hb dL_law_393 ?_
    refine lv_iload hx hb dL_law_394 (lv_at hl 12 rfl) ?_
    refine lv_iconst (v := 4) hx hb dL_law_396 (by decide) ?_
    refine lv_isub hx hb dL_law_397 ?_
    refine wb_iast MC hB HS 0 (by decide) (7 * nl + 1) (show 7 * nl + 1 < 42 by omega) (ix_add rfl rfl) dL_law_398 (fun H2 lH2 hB HS => ?_)
    refine lv_aload_n hx hb dL_law_399 rfl (lv_at hl 2 rfl) ?_
    refine lv_iload hx hb dL_law_400 (lv_at hl 18 rfl) ?_
    refine lv_iconst (v := 2) hx hb dL_law_402 (by decide) ?_
    refine lv_iadd hx hb dL_law_403 ?_
    refine lv_iload hx hb dL_law_404 (lv_at hl 13 rfl) ?_
    refine wb_iast MC hB HS 0 (by decide) (7 * nl + 2) (show 7 * nl + 2 < 42 by omega) (ix_add rfl rfl) dL_law_406 (fun H3 lH3 hB HS => ?_)
    refine lv_aload_n hx hb dL_law_407 rfl (lv_at hl 2 rfl) ?_
    refine lv_iload hx hb dL_law_408 (lv_at hl 18 rfl) ?_
    refine lv_iconst (v := 3) hx hb dL_law_410 (by decide) ?_
    refine lv_iadd hx hb dL_law_411 ?_
    refine lv_iload hx hb dL_law_412 (lv_at hl 12 rfl) ?_
    refine lv_iconst (v := 4) hx hb dL_law_414 (by decide) ?_
    refine lv_icmp_ne (tgt := 422) hx hb dL_law_415 (by decide) (fun c_415 => absurd c_415 (by decide)) (fun c_415 => ?_)
    refine lv_iconst (v := 0) hx hb dL_law_418 (by decide) ?_
    refine lv_goto (tgt := 424) hx hb dL_law_419 (by decide) ?_
    refine wb_iast MC hB HS 0 (by decide) (7 * nl + 3) (show 7 * nl + 3 < 42 by omega) (ix_add rfl rfl) dL_law_424 (fun H4 lH4 hB HS => ?_)
    refine lv_aload_n hx hb dL_law_425 rfl (lv_at hl 2 rfl) ?_
    refine lv_iload hx hb dL_law_426 (lv_at hl 18 rfl) ?_
    refine lv_iconst (v := 4) hx hb dL_law_428 (by decide) ?_
    refine lv_iadd hx hb dL_law_429 ?_
    refine lv_iload hx hb dL_law_430 (lv_at hl 12 rfl) ?_
    refine lv_iconst (v := 4) hx hb dL_law_432 (by decide) ?_
    refine lv_icmp_ne (tgt := 447) hx hb dL_law_433 (by decide) (fun c_433 => absurd c_433 (by decide)) (fun c_433 => ?_)
    refine lv_iload hx hb dL_law_436 (lv_at hl 11 rfl) ?_
    refine lv_sipush (v := 672) hx hb dL_law_438 (by decide) ?_
    refine wb_s MC HS (rest := [.int ((nI (7 * nl) + 4)), .ref (aa 11)]) (As := [.int y9, .int 672]) (by rw [show 672 = nI (672) from rfl]; exact y_low D ids n0 y9 (by omega) (by omega)) lkL_84 kw505 ⟨rfl, rfl, Nat.le_of_ble_eq_true rfl, Nat.le_of_ble_eq_true rfl, Nat.le_of_ble_eq_true rfl⟩ hR hl.1 rfl (Nat.le_of_ble_eq_true rfl) dL_law_441 (by omega) (by omega) (fun v9 H6 lH6 hp HS => ?_)
    obtain ⟨q5, hq5, rfl, rfl⟩ := hp
    refine lv_goto (tgt := 454) hx hb dL_law_444 (by decide) ?_
    refine wb_iast MC hB HS 0 (by decide) (7 * nl + 4) (show 7 * nl + 4 < 42 by omega) (ix_add rfl rfl) dL_law_454 (fun H7 lH7 hB HS => ?_)
    refine lv_aload_n hx hb dL_law_455 rfl (lv_at hl 2 rfl) ?_
    refine lv_iload hx hb dL_law_456 (lv_at hl 18 rfl) ?_
    refine lv_iconst (v := 5) hx hb dL_law_458 (by decide) ?_
    refine lv_iadd hx hb dL_law_459 ?_
    refine lv_iload hx hb dL_law_460 (lv_at hl 12 rfl) ?_
    refine lv_iconst (v := 4) hx hb dL_law_462 (by decide) ?_
    refine lv_icmp_ne (tgt := 496) hx hb dL_law_463 (by decide) (fun c_463 => absurd c_463 (by decide)) (fun c_463 => ?_)
    refine lv_aload_n hx hb dL_law_466 rfl (lv_at hl 2 rfl) ?_
    refine lv_iload hx hb dL_law_467 (lv_at hl 18 rfl) ?_
    refine lv_iconst (v := 4) hx hb dL_law_469 (by decide) ?_
    refine lv_iadd hx hb dL_law_470 ?_
    refine wb_iald MC hB 0 (by decide) (7 * nl + 4) (show 7 * nl + 4 < 42 by omega) (ix_add rfl rfl) ((congrFun (va_up_self ..) _).trans pk_us) dL_law_471 ?_
    refine lv_iconst (v := 1) hx hb dL_law_472 (by decide) ?_
    refine lv_iadd hx hb dL_law_473 ?_
    refine lv_iload hx hb dL_law_474 (lv_at hl 11 rfl) ?_
    refine lv_bipush (v := 12) hx hb dL_law_476 (by decide) ?_
    refine lv_ishr hx hb dL_law_478 ?_
    refine lv_sipush (v := 672) hx hb dL_law_479 (by decide) ?_
    refine lv_aload_n hx hb dL_law_482 rfl (lv_at hl 2 rfl) ?_
    refine lv_iload hx hb dL_law_483 (lv_at hl 18 rfl) ?_
    refine lv_iconst (v := 4) hx hb dL_law_485 (by decide) ?_
    refine lv_iadd hx hb dL_law_486 ?_
    refine wb_iald MC hB 0 (by decide) (7 * nl + 4) (show 7 * nl + 4 < 42 by omega) (ix_add rfl rfl) ((congrFun (va_up_self ..) _).trans pk_us) dL_law_487 ?_
    refine lv_isub hx hb dL_law_488 ?_
    rw [show (672 - nI q5) = nI (672 - q5) from ix_sub (x := 672) rfl rfl (by omega)]
    refine wb_s MC HS (rest := [.int ((nI q5 + 1)), .int ((nI (7 * nl) + 5)), .ref (aa 11)]) (As := [.int (y9 >>> (12 &&& 31)), .int (nI (672 - q5))]) (by rw [show (nI (672 - q5)) = nI (672 - q5) from rfl]; exact y_low D ids n0 (y9 >>> (12 &&& 31)) (by omega) (by omega)) lkL_84 kw505 ⟨rfl, rfl, Nat.le_of_ble_eq_true rfl, Nat.le_of_ble_eq_true rfl, Nat.le_of_ble_eq_true rfl⟩ hR hl.1 rfl (Nat.le_of_ble_eq_true rfl) dL_law_489 (by omega) (by omega) (fun v9 H9 lH9 hp HS => ?_)
    obtain ⟨q8, hq8, rfl, rfl⟩ := hp
    refine lv_iadd hx hb dL_law_492 ?_
    rw [show ((nI q5 + 1) + nI q8) = nI (q5 + 1 + q8) from (ix_add (ix_add rfl rfl) rfl)]
    refine lv_goto (tgt := 506) hx hb dL_law_493 (by decide) ?_
    refine wb_iast MC hB HS 0 (by decide) (7 * nl + 5) (show 7 * nl + 5 < 42 by omega) (ix_add rfl rfl) dL_law_506 (fun H10 lH10 hB HS => ?_)
    refine lv_aload_n hx hb dL_law_507 rfl (lv_at hl 2 rfl) ?_
    refine lv_iload hx hb dL_law_508 (lv_at hl 18 rfl) ?_
    refine lv_bipush (v := 6) hx hb dL_law_510 (by decide) ?_
    refine lv_iadd hx hb dL_law_512 ?_
    refine lv_iload hx hb dL_law_513 (lv_at hl 15 rfl) ?_
    refine wb_iast MC hB HS 0 (by decide) (7 * nl + 6) (show 7 * nl + 6 < 42 by omega) (ix_add rfl rfl) dL_law_515 (fun H11 lH11 hB HS => ?_)
    refine lv_aload hx hb dL_law_516 (lv_at hl 8 rfl) ?_
    refine lv_iconst (v := 2) hx hb dL_law_518 (by decide) ?_
    refine lv_dup2_11 hx hb dL_law_519 rfl rfl ?_
    refine wb_iald MC hB 6 (by decide) 2 (show 2 < 4 by omega) rfl ((congrFun (va_up_ne _ _ (by decide)) _).trans ((congrFun (va_up_ne _ _ (by decide)) _).trans ((congrFun (va_up_ne _ _ (by decide)) _).trans ((congrFun (va_up_ne _ _ (by decide)) _).trans ((congrFun (va_up_ne _ _ (by decide)) _).trans ((congrFun (va_up_ne _ _ (by decide)) _).trans ((congrFun (va_up_ne _ _ (by decide)) _).trans (hg2.trans hI.2.2.1.1)))))))) dL_law_520 ?_
    refine lv_iconst (v := 1) hx hb dL_law_521 (by decide) ?_
    refine lv_iadd hx hb dL_law_522 ?_
    refine wb_iast MC hB HS 6 (by decide) 2 (show 2 < 4 by omega) rfl dL_law_523 (fun H12 lH12 hB HS => ?_)
    refine lv_iload hx hb dL_law_524 (lv_at hl 12 rfl) ?_
    refine lv_iconst (v := 4) hx hb dL_law_526 (by decide) ?_
    refine lv_icmp_ne (tgt := 553) hx hb dL_law_527 (by decide) (fun c_527 => absurd c_527 (by decide)) (fun c_527 => ?_)
    refine lv_aload_n hx hb dL_law_530 rfl (lv_at hl 1 rfl) ?_
    refine lv_iload hx hb dL_law_531 (lv_at hl 13 rfl) ?_
    refine lv_aload_n hx hb dL_law_533 rfl (lv_at hl 2 rfl) ?_
    refine lv_iload hx hb dL_law_534 (lv_at hl 18 rfl) ?_
    refine lv_iconst (v := 4) hx hb dL_law_536 (by decide) ?_
    refine lv_iadd hx hb dL_law_537 ?_
    refine wb_iald MC hB 0 (by decide) (7 * nl + 4) (show 7 * nl + 4 < 42 by omega) (ix_add rfl rfl) ((congrFun (va_up_ne _ _ (by decide)) _).trans ((congrFun (va_up_self ..) _).trans ((pk_un (by omega)).trans ((congrFun (va_up_self ..) _).trans ((pk_un (by omega)).trans ((congrFun (va_up_self ..) _).trans pk_us)))))) dL_law_538 ?_
    refine lv_aload_n hx hb dL_law_539 rfl (lv_at hl 2 rfl) ?_
    refine lv_iload hx hb dL_law_540 (lv_at hl 18 rfl) ?_
    refine lv_iconst (v := 5) hx hb dL_law_542 (by decide) ?_
    refine lv_iadd hx hb dL_law_543 ?_
    refine wb_iald MC hB 0 (by decide) (7 * nl + 5) (show 7 * nl + 5 < 42 by omega) (ix_add rfl rfl) ((congrFun (va_up_ne _ _ (by decide)) _).trans ((congrFun (va_up_self ..) _).trans ((pk_un (by omega)).trans ((congrFun (va_up_self ..) _).trans pk_us)))) dL_law_544 ?_
    refine lv_iload hx hb dL_law_545 (lv_at hl 15 rfl) ?_
    refine wb_q MC HS hB (rest := []) (As := [.int (nI sc), .int (nI q5), .int (nI (q5 + 1 + q8)), .int (nI rk)]) (th := th_once τ (nI sc) (nI q5) (nI (q5 + 1 + q8)) (nI rk)) (rt := rt_once τ (nI sc) (nI q5) (nI (q5 + 1 + q8)) (nI rk)) (τ2 := (nx_once τ (nI sc) (nI q5) (nI (q5 + 1 + q8)) (nI rk))) (fun RR ad cn hX => q_once hl9 hX hB.1) (fun E9 H9 hp => by obtain ⟨-, hp⟩ := hp; rcases hp with h9 | h9 | h9 <;> exact absurd ((tz_once hI h6 hsc hrk1 hrk (q := q5) (r := (q5 + 1 + q8)) (by omega) (by omega)).symm.trans h9.1) (by decide)) rfl lkL_97 kw241 kw242 ⟨rfl, rfl, Nat.le_of_ble_eq_true rfl, Nat.le_of_ble_eq_true rfl, Nat.le_of_ble_eq_true rfl⟩ hR hl.1 rfl (Nat.le_of_ble_eq_true rfl) dL_law_547 (by omega) (by omega) (fun nw8 ns8 nl8 nc8 H13 lH13 hB8 HS => ?_)
    have hB := hB8.at (n_lays hI)
    clear hB8
    rw [show rt_once τ _ _ _ _ = nI nl from hI.2.2.1.1]
    refine lv_goto (tgt := 594) hx hb dL_law_550 (by decide) ?_
    refine lv_istore (lv' := [(19, .int (nI nl)), (0, .ref b), (1, .ref (aa 0)), (2, .ref (aa 11)), (3, .ref (aa 12)), (4, .ref (aa 13)), (5, .ref (aa 14)), (6, .ref (aa 15)), (7, .ref (aa 16)), (8, .ref (aa 17)), (9, .int (nI t9)), (10, .int x9), (11, .int y9), (12, .int 4), (13, .int (nI sc)), (14, .int (nI la)), (15, .int (nI rk)), (16, .int (nI n9)), (17, .int (nI k9)), (18, .int (nI (7 * nl)))]) hx hb dL_law_594 hl (by decide) rfl (fun ls hl => ?_)
    refine lv_iload hx hb dL_law_596 (lv_at hl 0 rfl) ?_
    refine lv_aload hx hb dL_law_598 (lv_at hl 9 rfl) ?_
    refine lv_iconst (v := 2) hx hb dL_law_600 (by decide) ?_
    refine wb_iald MC hB 6 (by decide) 2 (show 2 < 4 by omega) rfl ((congrFun (va_up_self ..) _).trans pk_us) dL_law_601 ?_
    refine lv_iconst (v := 1) hx hb dL_law_602 (by decide) ?_
    refine lv_isub hx hb dL_law_603 ?_
    refine lv_icmp_eq (tgt := 609) hx hb dL_law_604 (by decide) (fun c_604 => ?_) (fun c_604 => absurd (s1_eq _) c_604)
    refine lv_iconst (v := 0) hx hb dL_law_609 (by decide) ?_
    refine lv_istore (lv' := [(20, .int 0), (19, .int (nI nl)), (0, .ref b), (1, .ref (aa 0)), (2, .ref (aa 11)), (3, .ref (aa 12)), (4, .ref (aa 13)), (5, .ref (aa 14)), (6, .ref (aa 15)), (7, .ref (aa 16)), (8, .ref (aa 17)), (9, .int (nI t9)), (10, .int x9), (11, .int y9), (12, .int 4), (13, .int (nI sc)), (14, .int (nI la)), (15, .int (nI rk)), (16, .int (nI n9)), (17, .int (nI k9)), (18, .int (nI (7 * nl)))]) hx hb dL_law_610 hl (by decide) rfl (fun ls hl => ?_)
    refine lv_iconst (v := 0) hx hb dL_law_612 (by decide) ?_
    refine lv_istore (lv' := [(21, .int 0), (20, .int 0), (19, .int (nI nl)), (0, .ref b), (1, .ref (aa 0)), (2, .ref (aa 11)), (3, .ref (aa 12)), (4, .ref (aa 13)), (5, .ref (aa 14)), (6, .ref (aa 15)), (7, .ref (aa 16)), (8, .ref (aa 17)), (9, .int (nI t9)), (10, .int x9), (11, .int y9), (12, .int 4), (13, .int (nI sc)), (14, .int (nI la)), (15, .int (nI rk)), (16, .int (nI n9)), (17, .int (nI k9)), (18, .int (nI (7 * nl)))]) hx hb dL_law_613 hl (by decide) rfl (fun ls hl => ?_)
    have hO1 : wOk (nx_once τ (nI sc) (nI q5) (nI (q5 + 1 + q8)) (nI rk)) ns (nl + 1) nc (ti (ti (ti (ti (ti (ti (ti (ti A 0 (7 * nl) 1) 0 (7 * nl + 1) (4 - 4)) 0 (7 * nl + 2) (nI sc)) 0 (7 * nl + 3) 0) 0 (7 * nl + 4) (nI q5)) 0 (7 * nl + 5) (nI (q5 + 1 + q8))) 0 (7 * nl + 6) (nI rk)) 6 2 (nI nl + 1)) := ok_lays hI hO h6 (how := 0) (d := 0) (by decide) (fun _ => ⟨rfl, rfl⟩) (fun h9 => absurd h9 (by decide))
    have loop : ∀ h : Nat, h ≤ 672 → ∀ (locs : List Loc) (ls : Array Slot), va_S (fun q => n0 ≤ q) s.heap H13 locs → lv_has ls 28 [(21, .int (nI h)), (20, .int (nI (ct (fun h9 => hoB (nx_once τ (nI sc) (nI q5) (nI (q5 + 1 + q8)) (nI rk)) nl (nI h9)) h))), (19, .int (nI nl)), (0, .ref b), (1, .ref (aa 0)), (2, .ref (aa 11)), (3, .ref (aa 12)), (4, .ref (aa 13)), (5, .ref (aa 14)), (6, .ref (aa 15)), (7, .ref (aa 16)), (8, .ref (aa 17)), (9, .int (nI t9)), (10, .int x9), (11, .int y9), (12, .int 4), (13, .int (nI sc)), (14, .int (nI la)), (15, .int (nI rk)), (16, .int (nI n9)), (17, .int (nI k9)), (18, .int (nI (7 * nl)))] → W p l e R s m args below meth c H13 locs (cells + 8) (slots + 48) Q (F0 m 615 ls []) := by
      refine ro_loop (672) (fun h : Nat => ∀ (locs : List Loc) (ls : Array Slot), va_S (fun q => n0 ≤ q) s.heap H13 locs → lv_has ls 28 [(21, .int (nI h)), (20, .int (nI (ct (fun h9 => hoB (nx_once τ (nI sc) (nI q5) (nI (q5 + 1 + q8)) (nI rk)) nl (nI h9)) h))), (19, .int (nI nl)), (0, .ref b), (1, .ref (aa 0)), (2, .ref (aa 11)), (3, .ref (aa 12)), (4, .ref (aa 13)), (5, .ref (aa 14)), (6, .ref (aa 15)), (7, .ref (aa 16)), (8, .ref (aa 17)), (9, .int (nI t9)), (10, .int x9), (11, .int y9), (12, .int 4), (13, .int (nI sc)), (14, .int (nI la)), (15, .int (nI rk)), (16, .int (nI n9)), (17, .int (nI k9)), (18, .int (nI (7 * nl)))] → W p l e R s m args below meth c H13 locs (cells + 8) (slots + 48) Q (F0 m 615 ls [])) ?_ ?_
      · intro locs ls HS hl
        refine lv_iload hx hb dL_law_615 (lv_at hl 0 rfl) ?_
        refine lv_sipush (v := 672) hx hb dL_law_617 (by decide) ?_
        refine lv_icmp_ge (tgt := 658) hx hb dL_law_620 (by decide) (fun c_620 => ?_) (fun c_620 => absurd (nI_le (Nat.le_refl 672) (by omega)) c_620)
        refine lv_aload_n hx hb dL_law_658 rfl (lv_at hl 4 rfl) ?_
        refine lv_iload hx hb dL_law_659 (lv_at hl 2 rfl) ?_
        refine wb_q MC HS hB (rest := []) (As := [.int (nI nl)]) (th := th_hours (nx_once τ (nI sc) (nI q5) (nI (q5 + 1 + q8)) (nI rk)) (nI nl)) (rt := rt_hours (nx_once τ (nI sc) (nI q5) (nI (q5 + 1 + q8)) (nI rk)) (nI nl)) (τ2 := (nx_once τ (nI sc) (nI q5) (nI (q5 + 1 + q8)) (nI rk))) (fun RR ad cn hX => q_hours hl9 hX hB.1) (fun E9 H9 hp => by obtain ⟨-, hp⟩ := hp; exact absurd ((tz_lays hI h6).symm.trans hp.1) (by decide)) rfl lkL_46 kw384 kw385 ⟨rfl, rfl, Nat.le_of_ble_eq_true rfl, Nat.le_of_ble_eq_true rfl, Nat.le_of_ble_eq_true rfl⟩ hR hl.1 rfl (Nat.le_of_ble_eq_true rfl) dL_law_661 (by omega) (by omega) (fun nw8 ns8 nl8 nc8 H14 lH14 hB8 HS => ?_)
        have hB := hB8.at hB.1.iN
        clear hB8
        rw [rz_hours (τ := (nx_once τ (nI sc) (nI q5) (nI (q5 + 1 + q8)) (nI rk))) (k := nl) (by omega)]
        refine lv_iload hx hb dL_law_664 (lv_at hl 1 rfl) ?_
        refine lv_icmp_eq (tgt := 671) hx hb dL_law_666 (by decide) (fun c_666 => ?_) (fun c_666 => absurd (rfl) c_666)
        refine lv_goto (tgt := 2040) hx hb dL_law_671 (by decide) ?_
        exact l_chk hl9 MC HS hB (hO1) hR (by omega) (by omega) (lv_sub hl [3, 4, 5, 6, 7, 8, 9, 10, 11, 12] rfl) (fun c9 s9 H1 locs1 ls1 h1 h2 => kk c9 s9 H1 locs1 ls1 (by omega) (by omega))
      · intro h hkh ih locs ls HS hl
        refine lv_iload hx hb dL_law_615 (lv_at hl 0 rfl) ?_
        refine lv_sipush (v := 672) hx hb dL_law_617 (by decide) ?_
        refine lv_icmp_ge (tgt := 658) hx hb dL_law_620 (by decide) (fun c_620 => absurd c_620 (nI_ge (b := 672) hkh (by omega))) (fun c_620 => ?_)
        refine lv_iload hx hb dL_law_623 (lv_at hl 1 rfl) ?_
        refine lv_aload_n hx hb dL_law_625 rfl (lv_at hl 5 rfl) ?_
        refine lv_aload hx hb dL_law_626 (lv_at hl 11 rfl) ?_
        refine lv_iconst (v := 2) hx hb dL_law_628 (by decide) ?_
        refine wb_iald MC hB 6 (by decide) 2 (show 2 < 4 by omega) rfl ((congrFun (va_up_self ..) _).trans pk_us) dL_law_629 ?_
        refine lv_iconst (v := 1) hx hb dL_law_630 (by decide) ?_
        refine lv_isub hx hb dL_law_631 ?_
        rw [show ((nI nl + 1) - 1) = nI (nl) from (s1_eq _).symm]
        refine lv_iload hx hb dL_law_632 (lv_at hl 0 rfl) ?_
        refine lv_aload hx hb dL_law_634 (lv_at hl 8 rfl) ?_
        refine lv_aload hx hb dL_law_636 (lv_at hl 9 rfl) ?_
        refine wb_s MC HS (rest := [.int (nI (ct (fun h9 => hoB (nx_once τ (nI sc) (nI q5) (nI (q5 + 1 + q8)) (nI rk)) nl (nI h9)) h))]) (As := [.ref (aa 11), .int (nI (nl)), .int (nI h), .ref (aa 14), .ref (aa 15)]) (y_holds hB hO1 (Nat.lt_succ_self nl) (by omega)) lkL_20 kw509 ⟨rfl, rfl, Nat.le_of_ble_eq_true rfl, Nat.le_of_ble_eq_true rfl, Nat.le_of_ble_eq_true rfl⟩ hR hl.1 rfl (Nat.le_of_ble_eq_true rfl) dL_law_638 (by omega) (by omega) (fun v9 H15 lH15 hp HS => ?_)
        obtain ⟨rfl, rfl⟩ := hp
        refine lv_if_eq (tgt := 648) hx hb dL_law_641 (by decide) (fun c_641 => ?_) (fun c_641 => ?_)
        · have f_641 := bI_0.mp c_641
          refine lv_iconst (v := 0) hx hb dL_law_648 (by decide) ?_
          refine lv_iadd hx hb dL_law_649 ?_
          refine lv_istore (lv' := [(20, .int ((nI (ct (fun h9 => hoB (nx_once τ (nI sc) (nI q5) (nI (q5 + 1 + q8)) (nI rk)) nl (nI h9)) h) + 0))), (21, .int (nI h)), (19, .int (nI nl)), (0, .ref b), (1, .ref (aa 0)), (2, .ref (aa 11)), (3, .ref (aa 12)), (4, .ref (aa 13)), (5, .ref (aa 14)), (6, .ref (aa 15)), (7, .ref (aa 16)), (8, .ref (aa 17)), (9, .int (nI t9)), (10, .int x9), (11, .int y9), (12, .int 4), (13, .int (nI sc)), (14, .int (nI la)), (15, .int (nI rk)), (16, .int (nI n9)), (17, .int (nI k9)), (18, .int (nI (7 * nl)))]) hx hb dL_law_650 hl (by decide) rfl (fun ls hl => ?_)
          refine lv_iinc (v := nI h + 1) (lv' := [(21, .int (nI h + 1)), (20, .int ((nI (ct (fun h9 => hoB (nx_once τ (nI sc) (nI q5) (nI (q5 + 1 + q8)) (nI rk)) nl (nI h9)) h) + 0))), (19, .int (nI nl)), (0, .ref b), (1, .ref (aa 0)), (2, .ref (aa 11)), (3, .ref (aa 12)), (4, .ref (aa 13)), (5, .ref (aa 14)), (6, .ref (aa 15)), (7, .ref (aa 16)), (8, .ref (aa 17)), (9, .int (nI t9)), (10, .int x9), (11, .int y9), (12, .int 4), (13, .int (nI sc)), (14, .int (nI la)), (15, .int (nI rk)), (16, .int (nI n9)), (17, .int (nI k9)), (18, .int (nI (7 * nl)))]) hx hb dL_law_652 hl (k := 1) rfl rfl (by decide) rfl (fun ls hl => ?_)
          refine lv_goto (tgt := 615) hx hb dL_law_655 (by decide) ?_
          rw [ct_f (p := fun h9 => hoB (nx_once τ (nI sc) (nI q5) (nI (q5 + 1 + q8)) (nI rk)) nl (nI h9)) (by simpa using f_641), nI_1] at hl
          exact ih _ ls HS (lv_sub hl [0, 1, 2, 3, 4, 5, 6, 7, 8, 9, 10, 11, 12, 13, 14, 15, 16, 17, 18, 19, 20, 21] rfl)
        · have f_641 := bI_n0.mp c_641
          refine lv_iconst (v := 1) hx hb dL_law_644 (by decide) ?_
          refine lv_goto (tgt := 649) hx hb dL_law_645 (by decide) ?_
          refine lv_iadd hx hb dL_law_649 ?_
          refine lv_istore (lv' := [(20, .int ((nI (ct (fun h9 => hoB (nx_once τ (nI sc) (nI q5) (nI (q5 + 1 + q8)) (nI rk)) nl (nI h9)) h) + 1))), (21, .int (nI h)), (19, .int (nI nl)), (0, .ref b), (1, .ref (aa 0)), (2, .ref (aa 11)), (3, .ref (aa 12)), (4, .ref (aa 13)), (5, .ref (aa 14)), (6, .ref (aa 15)), (7, .ref (aa 16)), (8, .ref (aa 17)), (9, .int (nI t9)), (10, .int x9), (11, .int y9), (12, .int 4), (13, .int (nI sc)), (14, .int (nI la)), (15, .int (nI rk)), (16, .int (nI n9)), (17, .int (nI k9)), (18, .int (nI (7 * nl)))]) hx hb dL_law_650 hl (by decide) rfl (fun ls hl => ?_)
          refine lv_iinc (v := nI h + 1) (lv' := [(21, .int (nI h + 1)), (20, .int ((nI (ct (fun h9 => hoB (nx_once τ (nI sc) (nI q5) (nI (q5 + 1 + q8)) (nI rk)) nl (nI h9)) h) + 1))), (19, .int (nI nl)), (0, .ref b), (1, .ref (aa 0)), (2, .ref (aa 11)), (3, .ref (aa 12)), (4, .ref (aa 13)), (5, .ref (aa 14)), (6, .ref (aa 15)), (7, .ref (aa 16)), (8, .ref (aa 17)), (9, .int (nI t9)), (10, .int x9), (11, .int y9), (12, .int 4), (13, .int (nI sc)), (14, .int (nI la)), (15, .int (nI rk)), (16, .int (nI n9)), (17, .int (nI k9)), (18, .int (nI (7 * nl)))]) hx hb dL_law_652 hl (k := 1) rfl rfl (by decide) rfl (fun ls hl => ?_)
          refine lv_goto (tgt := 615) hx hb dL_law_655 (by decide) ?_
          rw [ct_t (p := fun h9 => hoB (nx_once τ (nI sc) (nI q5) (nI (q5 + 1 + q8)) (nI rk)) nl (nI h9)) f_641, nI_1] at hl
          exact ih _ ls HS (lv_sub hl [0, 1, 2, 3, 4, 5, 6, 7, 8, 9, 10, 11, 12, 13, 14, 15, 16, 17, 18, 19, 20, 21] rfl)
    exact loop 0 (Nat.zero_le _) _ ls HS (lv_sub hl [0, 1, 2, 3, 4, 5, 6, 7, 8, 9, 10, 11, 12, 13, 14, 15, 16, 17, 18, 19, 20, 21] (by rfl))
  · refine lv_goto (tgt := 2092) hx hb dL_law_381 (by decide) ?_
    exact kk _ _ _ _ ls (by omega) (by omega) ⟨_, _, _, _, _, _, hB, hO⟩ HS (lv_sub hl [0, 1, 2, 3, 4, 5, 6, 7, 8, 9] rfl)
set_option maxHeartbeats 4000000 in
set_option maxRecDepth 100000 in
theorem l_daily {p : Program} {l : Launch} (hl9 : l.stackTraces = false) {e : Env} {R : Room} {s : State} {m : MethodId} {args : Array Value} {below : List Frame} {meth : Method} {c : Code} {H : Heap} {locs : List Loc} {cells slots : Nat} {Q : State → Prop} {D : va_G} {ids : Nat → ClassId} {n0 b t9 : Nat} {aa : Nat → Nat} {τ : Tau} {nw ns nl nc : Nat} {A : Tau} (MC : ro_C p s m args meth c cL_law 28 "FrostCalendarLaw" D ids n0) (HS : va_S (fun q => n0 ≤ q) s.heap H locs) (hB : wB D ids n0 aa τ nw ns nl nc A H) (hO : wOk τ ns nl nc A) (hR : 11 ≤ R.frames ∧ 400 ≤ R.locals) {sc la rk n9 k9 : Nat} {x9 y9 : Int32} (hsc : sc < ns) (hla : la < 4) (hrk1 : 1 ≤ rk) (hrk : rk < 4) (hn9 : (nc = 0 ∧ n9 = 0) ∨ n9 < nc) (hk9 : (nl = 0 ∧ k9 = 0) ∨ k9 < nl) (hcl : cells + 400 ≤ R.cells) (hsl : slots + 2400 ≤ R.slots) {ls : Array Slot} (hl : lv_has ls 28 [(0, .ref b), (1, .ref (aa 0)), (2, .ref (aa 11)), (3, .ref (aa 12)), (4, .ref (aa 13)), (5, .ref (aa 14)), (6, .ref (aa 15)), (7, .ref (aa 16)), (8, .ref (aa 17)), (9, .int (nI t9)), (10, .int x9), (11, .int y9), (12, .int 5), (13, .int (nI sc)), (14, .int (nI la)), (15, .int (nI rk)), (16, .int (nI n9)), (17, .int (nI k9)), (18, .int (nI (7 * nl)))])
    (kk : ∀ (c9 s9 : Nat) (H1 : Heap) (locs1 : List Loc) (ls1 : Array Slot), c9 ≤ cells + 400 → s9 ≤ slots + 2400 → wI D ids n0 aa H1 → va_S (fun q => n0 ≤ q) s.heap H1 locs1 → lv_has ls1 28 (lL b aa t9) → W p l e R s m args below meth c H1 locs1 c9 s9 Q (F0 m 2092 ls1 [])) : W p l e R s m args below meth c H locs cells slots Q (F0 m 372 ls []) := by
  have hx := MC.1.1
  have hb := MC.1.2.1
  have hI := hB.1
  obtain ⟨⟨hns, hnl, hnc⟩, ⟨hg0, hg1, hg2, hg3⟩, hF, hC, hin, hof, hfe, hle⟩ := id hO
  refine lv_aload hx hb dL_law_372 (lv_at hl 8 rfl) ?_
  refine lv_iconst (v := 2) hx hb dL_law_374 (by decide) ?_
  refine wb_iald MC hB 6 (by decide) 2 (show 2 < 4 by omega) rfl (hg2.trans hI.2.2.1.1) dL_law_375 ?_
  refine lv_bipush (v := 6) hx hb dL_law_376 (by decide) ?_
  refine lv_icmp_ne (tgt := 384) hx hb dL_law_378 (by decide) (fun c_378 => ?_) (fun c_378 => ?_)
  · have h6 : nl < 6 := by have : nl ≠ 6 := fun e9 => c_378 (by rw [e9]; rfl); omega
    refine lv_aload_n hx hb dL_law_384 rfl (lv_at hl 2 rfl) ?_
    refine lv_iload hx hb dL_law_385 (lv_at hl 18 rfl) ?_
    refine lv_iconst (v := 1) hx hb dL_law_387 (by decide) ?_
    refine wb_iast MC hB HS 0 (by decide) (7 * nl) (show 7 * nl < 42 by omega) rfl dL_law_388 (fun H1 lH1 hB HS => ?_)
    refine lv_aload_n hx hb dL_law_389 rfl (lv_at hl 2 rfl) ?_
    refine lv_iload hx hb dL_law_390 (lv_at hl 18 rfl) ?_
    refine lv_iconst (v := 1) hx hb dL_law_392 (by decide) ?_
    refine lv_iadd hx hb dL_law_393 ?_
    refine lv_iload hx hb dL_law_394 (lv_at hl 12 rfl) ?_
    refine lv_iconst (v := 4) hx hb dL_law_396 (by decide) ?_
    refine lv_isub hx hb dL_law_397 ?_
    refine wb_iast MC hB HS 0 (by decide) (7 * nl + 1) (show 7 * nl + 1 < 42 by omega) (ix_add rfl rfl) dL_law_398 (fun H2 lH2 hB HS => ?_)
    refine lv_aload_n hx hb dL_law_399 rfl (lv_at hl 2 rfl) ?_
    refine lv_iload hx hb dL_law_400 (lv_at hl 18 rfl) ?_
    refine lv_iconst (v := 2) hx hb dL_law_402 (by decide) ?_
    refine lv_iadd hx hb dL_law_403 ?_
    refine lv_iload hx hb dL_law_404 (lv_at hl 13 rfl) ?_
    refine wb_iast MC hB HS 0 (by decide) (7 * nl + 2) (show 7 * nl + 2 < 42 by omega) (ix_add rfl rfl) dL_law_406 (fun H3 lH3 hB HS => ?_)
    refine lv_aload_n hx hb dL_law_407 rfl (lv_at hl 2 rfl) ?_
    refine lv_iload hx hb dL_law_408 (lv_at hl 18 rfl) ?_
    refine lv_iconst (v := 3) hx hb dL_law_410 (by decide) ?_
    refine lv_iadd hx hb dL_law_411 ?_
    refine lv_iload hx hb dL_law_412 (lv_at hl 12 rfl) ?_
    refine lv_iconst (v := 4) hx hb dL_law_414 (by decide) ?_
    refine lv_icmp_ne (tgt := 422) hx hb dL_law_415 (by decide) (fun c_415 => ?_) (fun c_415 => absurd c_415 (by decide))
    refine lv_iload hx hb dL_law_422 (lv_at hl 14 rfl) ?_
    refine wb_iast MC hB HS 0 (by decide) (7 * nl + 3) (show 7 * nl + 3 < 42 by omega) (ix_add rfl rfl) dL_law_424 (fun H4 lH4 hB HS => ?_)
    refine lv_aload_n hx hb dL_law_425 rfl (lv_at hl 2 rfl) ?_
    refine lv_iload hx hb dL_law_426 (lv_at hl 18 rfl) ?_
    refine lv_iconst (v := 4) hx hb dL_law_428 (by decide) ?_
    refine lv_iadd hx hb dL_law_429 ?_
    refine lv_iload hx hb dL_law_430 (lv_at hl 12 rfl) ?_
    refine lv_iconst (v := 4) hx hb dL_law_432 (by decide) ?_
    refine lv_icmp_ne (tgt := 447) hx hb dL_law_433 (by decide) (fun c_433 => ?_) (fun c_433 => absurd c_433 (by decide))
    refine lv_iload hx hb dL_law_447 (lv_at hl 11 rfl) ?_
    refine lv_bipush (v := 24) hx hb dL_law_449 (by decide) ?_
    refine wb_s MC HS (rest := [.int ((nI (7 * nl) + 4)), .ref (aa 11)]) (As := [.int y9, .int 24]) (by rw [show 24 = nI (24) from rfl]; exact y_low D ids n0 y9 (by omega) (by omega)) lkL_84 kw505 ⟨rfl, rfl, Nat.le_of_ble_eq_true rfl, Nat.le_of_ble_eq_true rfl, Nat.le_of_ble_eq_true rfl⟩ hR hl.1 rfl (Nat.le_of_ble_eq_true rfl) dL_law_451 (by omega) (by omega) (fun v9 H6 lH6 hp HS => ?_)
    obtain ⟨q5, hq5, rfl, rfl⟩ := hp
    refine wb_iast MC hB HS 0 (by decide) (7 * nl + 4) (show 7 * nl + 4 < 42 by omega) (ix_add rfl rfl) dL_law_454 (fun H7 lH7 hB HS => ?_)
    refine lv_aload_n hx hb dL_law_455 rfl (lv_at hl 2 rfl) ?_
    refine lv_iload hx hb dL_law_456 (lv_at hl 18 rfl) ?_
    refine lv_iconst (v := 5) hx hb dL_law_458 (by decide) ?_
    refine lv_iadd hx hb dL_law_459 ?_
    refine lv_iload hx hb dL_law_460 (lv_at hl 12 rfl) ?_
    refine lv_iconst (v := 4) hx hb dL_law_462 (by decide) ?_
    refine lv_icmp_ne (tgt := 496) hx hb dL_law_463 (by decide) (fun c_463 => ?_) (fun c_463 => absurd c_463 (by decide))
    refine lv_iload hx hb dL_law_496 (lv_at hl 11 rfl) ?_
    refine lv_bipush (v := 8) hx hb dL_law_498 (by decide) ?_
    refine lv_ishr hx hb dL_law_500 ?_
    refine lv_bipush (v := 24) hx hb dL_law_501 (by decide) ?_
    refine wb_s MC HS (rest := [.int ((nI (7 * nl) + 5)), .ref (aa 11)]) (As := [.int (y9 >>> (8 &&& 31)), .int 24]) (by rw [show 24 = nI (24) from rfl]; exact y_low D ids n0 (y9 >>> (8 &&& 31)) (by omega) (by omega)) lkL_84 kw505 ⟨rfl, rfl, Nat.le_of_ble_eq_true rfl, Nat.le_of_ble_eq_true rfl, Nat.le_of_ble_eq_true rfl⟩ hR hl.1 rfl (Nat.le_of_ble_eq_true rfl) dL_law_503 (by omega) (by omega) (fun v9 H9 lH9 hp HS => ?_)
    obtain ⟨q8, hq8, rfl, rfl⟩ := hp
    refine wb_iast MC hB HS 0 (by decide) (7 * nl + 5) (show 7 * nl + 5 < 42 by omega) (ix_add rfl rfl) dL_law_506 (fun H10 lH10 hB HS => ?_)
    refine lv_aload_n hx hb dL_law_507 rfl (lv_at hl 2 rfl) ?_
    refine lv_iload hx hb dL_law_508 (lv_at hl 18 rfl) ?_
    refine lv_bipush (v := 6) hx hb dL_law_510 (by decide) ?_
    refine lv_iadd hx hb dL_law_512 ?_
    refine lv_iload hx hb dL_law_513 (lv_at hl 15 rfl) ?_
    refine wb_iast MC hB HS 0 (by decide) (7 * nl + 6) (show 7 * nl + 6 < 42 by omega) (ix_add rfl rfl) dL_law_515 (fun H11 lH11 hB HS => ?_)
    refine lv_aload hx hb dL_law_516 (lv_at hl 8 rfl) ?_
    refine lv_iconst (v := 2) hx hb dL_law_518 (by decide) ?_
    refine lv_dup2_11 hx hb dL_law_519 rfl rfl ?_
    refine wb_iald MC hB 6 (by decide) 2 (show 2 < 4 by omega) rfl ((congrFun (va_up_ne _ _ (by decide)) _).trans ((congrFun (va_up_ne _ _ (by decide)) _).trans ((congrFun (va_up_ne _ _ (by decide)) _).trans ((congrFun (va_up_ne _ _ (by decide)) _).trans ((congrFun (va_up_ne _ _ (by decide)) _).trans ((congrFun (va_up_ne _ _ (by decide)) _).trans ((congrFun (va_up_ne _ _ (by decide)) _).trans (hg2.trans hI.2.2.1.1)))))))) dL_law_520 ?_
    refine lv_iconst (v := 1) hx hb dL_law_521 (by decide) ?_
    refine lv_iadd hx hb dL_law_522 ?_
    refine wb_iast MC hB HS 6 (by decide) 2 (show 2 < 4 by omega) rfl dL_law_523 (fun H12 lH12 hB HS => ?_)
    refine lv_iload hx hb dL_law_524 (lv_at hl 12 rfl) ?_
    refine lv_iconst (v := 4) hx hb dL_law_526 (by decide) ?_
    refine lv_icmp_ne (tgt := 553) hx hb dL_law_527 (by decide) (fun c_527 => ?_) (fun c_527 => absurd c_527 (by decide))
    refine lv_iload hx hb dL_law_553 (lv_at hl 12 rfl) ?_
    refine lv_iconst (v := 5) hx hb dL_law_555 (by decide) ?_
    refine lv_icmp_ne (tgt := 584) hx hb dL_law_556 (by decide) (fun c_556 => absurd c_556 (by decide)) (fun c_556 => ?_)
    refine lv_aload_n hx hb dL_law_559 rfl (lv_at hl 1 rfl) ?_
    refine lv_iload hx hb dL_law_560 (lv_at hl 13 rfl) ?_
    refine lv_iload hx hb dL_law_562 (lv_at hl 14 rfl) ?_
    refine lv_aload_n hx hb dL_law_564 rfl (lv_at hl 2 rfl) ?_
    refine lv_iload hx hb dL_law_565 (lv_at hl 18 rfl) ?_
    refine lv_iconst (v := 4) hx hb dL_law_567 (by decide) ?_
    refine lv_iadd hx hb dL_law_568 ?_
    refine wb_iald MC hB 0 (by decide) (7 * nl + 4) (show 7 * nl + 4 < 42 by omega) (ix_add rfl rfl) ((congrFun (va_up_ne _ _ (by decide)) _).trans ((congrFun (va_up_self ..) _).trans ((pk_un (by omega)).trans ((congrFun (va_up_self ..) _).trans ((pk_un (by omega)).trans ((congrFun (va_up_self ..) _).trans pk_us)))))) dL_law_569 ?_
    refine lv_aload_n hx hb dL_law_570 rfl (lv_at hl 2 rfl) ?_
    refine lv_iload hx hb dL_law_571 (lv_at hl 18 rfl) ?_
    refine lv_iconst (v := 5) hx hb dL_law_573 (by decide) ?_
    refine lv_iadd hx hb dL_law_574 ?_
    refine wb_iald MC hB 0 (by decide) (7 * nl + 5) (show 7 * nl + 5 < 42 by omega) (ix_add rfl rfl) ((congrFun (va_up_ne _ _ (by decide)) _).trans ((congrFun (va_up_self ..) _).trans ((pk_un (by omega)).trans ((congrFun (va_up_self ..) _).trans pk_us)))) dL_law_575 ?_
    refine lv_iload hx hb dL_law_576 (lv_at hl 15 rfl) ?_
    refine wb_q MC HS hB (rest := []) (As := [.int (nI sc), .int (nI la), .int (nI q5), .int (nI q8), .int (nI rk)]) (th := th_daily τ (nI sc) (nI la) (nI q5) (nI q8) (nI rk)) (rt := rt_daily τ (nI sc) (nI la) (nI q5) (nI q8) (nI rk)) (τ2 := (nx_daily τ (nI sc) (nI la) (nI q5) (nI q8) (nI rk))) (fun RR ad cn hX => q_daily hl9 hX hB.1) (fun E9 H9 hp => by obtain ⟨-, hp⟩ := hp; rcases hp with h9 | h9 | h9 <;> exact absurd ((tz_daily hI h6 hsc hla hrk1 hrk (by omega) (by omega)).symm.trans h9.1) (by decide)) rfl lkL_101 kw278 kw279 ⟨rfl, rfl, Nat.le_of_ble_eq_true rfl, Nat.le_of_ble_eq_true rfl, Nat.le_of_ble_eq_true rfl⟩ hR hl.1 rfl (Nat.le_of_ble_eq_true rfl) dL_law_578 (by omega) (by omega) (fun nw8 ns8 nl8 nc8 H13 lH13 hB8 HS => ?_)
    have hB := hB8.at (n_lays hI)
    clear hB8
    rw [show rt_daily τ _ _ _ _ _ = nI nl from hI.2.2.1.1]
    refine lv_goto (tgt := 594) hx hb dL_law_581 (by decide) ?_
    refine lv_istore (lv' := [(19, .int (nI nl)), (0, .ref b), (1, .ref (aa 0)), (2, .ref (aa 11)), (3, .ref (aa 12)), (4, .ref (aa 13)), (5, .ref (aa 14)), (6, .ref (aa 15)), (7, .ref (aa 16)), (8, .ref (aa 17)), (9, .int (nI t9)), (10, .int x9), (11, .int y9), (12, .int 5), (13, .int (nI sc)), (14, .int (nI la)), (15, .int (nI rk)), (16, .int (nI n9)), (17, .int (nI k9)), (18, .int (nI (7 * nl)))]) hx hb dL_law_594 hl (by decide) rfl (fun ls hl => ?_)
    refine lv_iload hx hb dL_law_596 (lv_at hl 0 rfl) ?_
    refine lv_aload hx hb dL_law_598 (lv_at hl 9 rfl) ?_
    refine lv_iconst (v := 2) hx hb dL_law_600 (by decide) ?_
    refine wb_iald MC hB 6 (by decide) 2 (show 2 < 4 by omega) rfl ((congrFun (va_up_self ..) _).trans pk_us) dL_law_601 ?_
    refine lv_iconst (v := 1) hx hb dL_law_602 (by decide) ?_
    refine lv_isub hx hb dL_law_603 ?_
    refine lv_icmp_eq (tgt := 609) hx hb dL_law_604 (by decide) (fun c_604 => ?_) (fun c_604 => absurd (s1_eq _) c_604)
    refine lv_iconst (v := 0) hx hb dL_law_609 (by decide) ?_
    refine lv_istore (lv' := [(20, .int 0), (19, .int (nI nl)), (0, .ref b), (1, .ref (aa 0)), (2, .ref (aa 11)), (3, .ref (aa 12)), (4, .ref (aa 13)), (5, .ref (aa 14)), (6, .ref (aa 15)), (7, .ref (aa 16)), (8, .ref (aa 17)), (9, .int (nI t9)), (10, .int x9), (11, .int y9), (12, .int 5), (13, .int (nI sc)), (14, .int (nI la)), (15, .int (nI rk)), (16, .int (nI n9)), (17, .int (nI k9)), (18, .int (nI (7 * nl)))]) hx hb dL_law_610 hl (by decide) rfl (fun ls hl => ?_)
    refine lv_iconst (v := 0) hx hb dL_law_612 (by decide) ?_
    refine lv_istore (lv' := [(21, .int 0), (20, .int 0), (19, .int (nI nl)), (0, .ref b), (1, .ref (aa 0)), (2, .ref (aa 11)), (3, .ref (aa 12)), (4, .ref (aa 13)), (5, .ref (aa 14)), (6, .ref (aa 15)), (7, .ref (aa 16)), (8, .ref (aa 17)), (9, .int (nI t9)), (10, .int x9), (11, .int y9), (12, .int 5), (13, .int (nI sc)), (14, .int (nI la)), (15, .int (nI rk)), (16, .int (nI n9)), (17, .int (nI k9)), (18, .int (nI (7 * nl)))]) hx hb dL_law_613 hl (by decide) rfl (fun ls hl => ?_)
    have hO1 : wOk (nx_daily τ (nI sc) (nI la) (nI q5) (nI q8) (nI rk)) ns (nl + 1) nc (ti (ti (ti (ti (ti (ti (ti (ti A 0 (7 * nl) 1) 0 (7 * nl + 1) (5 - 4)) 0 (7 * nl + 2) (nI sc)) 0 (7 * nl + 3) (nI la)) 0 (7 * nl + 4) (nI q5)) 0 (7 * nl + 5) (nI q8)) 0 (7 * nl + 6) (nI rk)) 6 2 (nI nl + 1)) := ok_lays hI hO h6 (how := 1) (by decide) (fun _ => ⟨rfl, rfl⟩) (fun _ => ⟨⟨q5, by omega, rfl⟩, q8, by omega, rfl⟩)
    have loop : ∀ h : Nat, h ≤ 672 → ∀ (locs : List Loc) (ls : Array Slot), va_S (fun q => n0 ≤ q) s.heap H13 locs → lv_has ls 28 [(21, .int (nI h)), (20, .int (nI (ct (fun h9 => hoB (nx_daily τ (nI sc) (nI la) (nI q5) (nI q8) (nI rk)) nl (nI h9)) h))), (19, .int (nI nl)), (0, .ref b), (1, .ref (aa 0)), (2, .ref (aa 11)), (3, .ref (aa 12)), (4, .ref (aa 13)), (5, .ref (aa 14)), (6, .ref (aa 15)), (7, .ref (aa 16)), (8, .ref (aa 17)), (9, .int (nI t9)), (10, .int x9), (11, .int y9), (12, .int 5), (13, .int (nI sc)), (14, .int (nI la)), (15, .int (nI rk)), (16, .int (nI n9)), (17, .int (nI k9)), (18, .int (nI (7 * nl)))] → W p l e R s m args below meth c H13 locs (cells + 8) (slots + 48) Q (F0 m 615 ls []) := by
      refine ro_loop (672) (fun h : Nat => ∀ (locs : List Loc) (ls : Array Slot), va_S (fun q => n0 ≤ q) s.heap H13 locs → lv_has ls 28 [(21, .int (nI h)), (20, .int (nI (ct (fun h9 => hoB (nx_daily τ (nI sc) (nI la) (nI q5) (nI q8) (nI rk)) nl (nI h9)) h))), (19, .int (nI nl)), (0, .ref b), (1, .ref (aa 0)), (2, .ref (aa 11)), (3, .ref (aa 12)), (4, .ref (aa 13)), (5, .ref (aa 14)), (6, .ref (aa 15)), (7, .ref (aa 16)), (8, .ref (aa 17)), (9, .int (nI t9)), (10, .int x9), (11, .int y9), (12, .int 5), (13, .int (nI sc)), (14, .int (nI la)), (15, .int (nI rk)), (16, .int (nI n9)), (17, .int (nI k9)), (18, .int (nI (7 * nl)))] → W p l e R s m args below meth c H13 locs (cells + 8) (slots + 48) Q (F0 m 615 ls [])) ?_ ?_
      · intro locs ls HS hl
        refine lv_iload hx hb dL_law_615 (lv_at hl 0 rfl) ?_
        refine lv_sipush (v := 672) hx hb dL_law_617 (by decide) ?_
        refine lv_icmp_ge (tgt := 658) hx hb dL_law_620 (by decide) (fun c_620 => ?_) (fun c_620 => absurd (nI_le (Nat.le_refl 672) (by omega)) c_620)
        refine lv_aload_n hx hb dL_law_658 rfl (lv_at hl 4 rfl) ?_
        refine lv_iload hx hb dL_law_659 (lv_at hl 2 rfl) ?_
        refine wb_q MC HS hB (rest := []) (As := [.int (nI nl)]) (th := th_hours (nx_daily τ (nI sc) (nI la) (nI q5) (nI q8) (nI rk)) (nI nl)) (rt := rt_hours (nx_daily τ (nI sc) (nI la) (nI q5) (nI q8) (nI rk)) (nI nl)) (τ2 := (nx_daily τ (nI sc) (nI la) (nI q5) (nI q8) (nI rk))) (fun RR ad cn hX => q_hours hl9 hX hB.1) (fun E9 H9 hp => by obtain ⟨-, hp⟩ := hp; exact absurd ((tz_lays hI h6).symm.trans hp.1) (by decide)) rfl lkL_46 kw384 kw385 ⟨rfl, rfl, Nat.le_of_ble_eq_true rfl, Nat.le_of_ble_eq_true rfl, Nat.le_of_ble_eq_true rfl⟩ hR hl.1 rfl (Nat.le_of_ble_eq_true rfl) dL_law_661 (by omega) (by omega) (fun nw8 ns8 nl8 nc8 H14 lH14 hB8 HS => ?_)
        have hB := hB8.at hB.1.iN
        clear hB8
        rw [rz_hours (τ := (nx_daily τ (nI sc) (nI la) (nI q5) (nI q8) (nI rk))) (k := nl) (by omega)]
        refine lv_iload hx hb dL_law_664 (lv_at hl 1 rfl) ?_
        refine lv_icmp_eq (tgt := 671) hx hb dL_law_666 (by decide) (fun c_666 => ?_) (fun c_666 => absurd (rfl) c_666)
        refine lv_goto (tgt := 2040) hx hb dL_law_671 (by decide) ?_
        exact l_chk hl9 MC HS hB (hO1) hR (by omega) (by omega) (lv_sub hl [3, 4, 5, 6, 7, 8, 9, 10, 11, 12] rfl) (fun c9 s9 H1 locs1 ls1 h1 h2 => kk c9 s9 H1 locs1 ls1 (by omega) (by omega))
      · intro h hkh ih locs ls HS hl
        refine lv_iload hx hb dL_law_615 (lv_at hl 0 rfl) ?_
        refine lv_sipush (v := 672) hx hb dL_law_617 (by decide) ?_
        refine lv_icmp_ge (tgt := 658) hx hb dL_law_620 (by decide) (fun c_620 => absurd c_620 (nI_ge (b := 672) hkh (by omega))) (fun c_620 => ?_)
        refine lv_iload hx hb dL_law_623 (lv_at hl 1 rfl) ?_
        refine lv_aload_n hx hb dL_law_625 rfl (lv_at hl 5 rfl) ?_
        refine lv_aload hx hb dL_law_626 (lv_at hl 11 rfl) ?_
        refine lv_iconst (v := 2) hx hb dL_law_628 (by decide) ?_
        refine wb_iald MC hB 6 (by decide) 2 (show 2 < 4 by omega) rfl ((congrFun (va_up_self ..) _).trans pk_us) dL_law_629 ?_
        refine lv_iconst (v := 1) hx hb dL_law_630 (by decide) ?_
        refine lv_isub hx hb dL_law_631 ?_
        rw [show ((nI nl + 1) - 1) = nI (nl) from (s1_eq _).symm]
        refine lv_iload hx hb dL_law_632 (lv_at hl 0 rfl) ?_
        refine lv_aload hx hb dL_law_634 (lv_at hl 8 rfl) ?_
        refine lv_aload hx hb dL_law_636 (lv_at hl 9 rfl) ?_
        refine wb_s MC HS (rest := [.int (nI (ct (fun h9 => hoB (nx_daily τ (nI sc) (nI la) (nI q5) (nI q8) (nI rk)) nl (nI h9)) h))]) (As := [.ref (aa 11), .int (nI (nl)), .int (nI h), .ref (aa 14), .ref (aa 15)]) (y_holds hB hO1 (Nat.lt_succ_self nl) (by omega)) lkL_20 kw509 ⟨rfl, rfl, Nat.le_of_ble_eq_true rfl, Nat.le_of_ble_eq_true rfl, Nat.le_of_ble_eq_true rfl⟩ hR hl.1 rfl (Nat.le_of_ble_eq_true rfl) dL_law_638 (by omega) (by omega) (fun v9 H15 lH15 hp HS => ?_)
        obtain ⟨rfl, rfl⟩ := hp
        refine lv_if_eq (tgt := 648) hx hb dL_law_641 (by decide) (fun c_641 => ?_) (fun c_641 => ?_)
        · have f_641 := bI_0.mp c_641
          refine lv_iconst (v := 0) hx hb dL_law_648 (by decide) ?_
          refine lv_iadd hx hb dL_law_649 ?_
          refine lv_istore (lv' := [(20, .int ((nI (ct (fun h9 => hoB (nx_daily τ (nI sc) (nI la) (nI q5) (nI q8) (nI rk)) nl (nI h9)) h) + 0))), (21, .int (nI h)), (19, .int (nI nl)), (0, .ref b), (1, .ref (aa 0)), (2, .ref (aa 11)), (3, .ref (aa 12)), (4, .ref (aa 13)), (5, .ref (aa 14)), (6, .ref (aa 15)), (7, .ref (aa 16)), (8, .ref (aa 17)), (9, .int (nI t9)), (10, .int x9), (11, .int y9), (12, .int 5), (13, .int (nI sc)), (14, .int (nI la)), (15, .int (nI rk)), (16, .int (nI n9)), (17, .int (nI k9)), (18, .int (nI (7 * nl)))]) hx hb dL_law_650 hl (by decide) rfl (fun ls hl => ?_)
          refine lv_iinc (v := nI h + 1) (lv' := [(21, .int (nI h + 1)), (20, .int ((nI (ct (fun h9 => hoB (nx_daily τ (nI sc) (nI la) (nI q5) (nI q8) (nI rk)) nl (nI h9)) h) + 0))), (19, .int (nI nl)), (0, .ref b), (1, .ref (aa 0)), (2, .ref (aa 11)), (3, .ref (aa 12)), (4, .ref (aa 13)), (5, .ref (aa 14)), (6, .ref (aa 15)), (7, .ref (aa 16)), (8, .ref (aa 17)), (9, .int (nI t9)), (10, .int x9), (11, .int y9), (12, .int 5), (13, .int (nI sc)), (14, .int (nI la)), (15, .int (nI rk)), (16, .int (nI n9)), (17, .int (nI k9)), (18, .int (nI (7 * nl)))]) hx hb dL_law_652 hl (k := 1) rfl rfl (by decide) rfl (fun ls hl => ?_)
          refine lv_goto (tgt := 615) hx hb dL_law_655 (by decide) ?_
          rw [ct_f (p := fun h9 => hoB (nx_daily τ (nI sc) (nI la) (nI q5) (nI q8) (nI rk)) nl (nI h9)) (by simpa using f_641), nI_1] at hl
          exact ih _ ls HS (lv_sub hl [0, 1, 2, 3, 4, 5, 6, 7, 8, 9, 10, 11, 12, 13, 14, 15, 16, 17, 18, 19, 20, 21] rfl)
        · have f_641 := bI_n0.mp c_641
          refine lv_iconst (v := 1) hx hb dL_law_644 (by decide) ?_
          refine lv_goto (tgt := 649) hx hb dL_law_645 (by decide) ?_
          refine lv_iadd hx hb dL_law_649 ?_
          refine lv_istore (lv' := [(20, .int ((nI (ct (fun h9 => hoB (nx_daily τ (nI sc) (nI la) (nI q5) (nI q8) (nI rk)) nl (nI h9)) h) + 1))), (21, .int (nI h)), (19, .int (nI nl)), (0, .ref b), (1, .ref (aa 0)), (2, .ref (aa 11)), (3, .ref (aa 12)), (4, .ref (aa 13)), (5, .ref (aa 14)), (6, .ref (aa 15)), (7, .ref (aa 16)), (8, .ref (aa 17)), (9, .int (nI t9)), (10, .int x9), (11, .int y9), (12, .int 5), (13, .int (nI sc)), (14, .int (nI la)), (15, .int (nI rk)), (16, .int (nI n9)), (17, .int (nI k9)), (18, .int (nI (7 * nl)))]) hx hb dL_law_650 hl (by decide) rfl (fun ls hl => ?_)
          refine lv_iinc (v := nI h + 1) (lv' := [(21, .int (nI h + 1)), (20, .int ((nI (ct (fun h9 => hoB (nx_daily τ (nI sc) (nI la) (nI q5) (nI q8) (nI rk)) nl (nI h9)) h) + 1))), (19, .int (nI nl)), (0, .ref b), (1, .ref (aa 0)), (2, .ref (aa 11)), (3, .ref (aa 12)), (4, .ref (aa 13)), (5, .ref (aa 14)), (6, .ref (aa 15)), (7, .ref (aa 16)), (8, .ref (aa 17)), (9, .int (nI t9)), (10, .int x9), (11, .int y9), (12, .int 5), (13, .int (nI sc)), (14, .int (nI la)), (15, .int (nI rk)), (16, .int (nI n9)), (17, .int (nI k9)), (18, .int (nI (7 * nl)))]) hx hb dL_law_652 hl (k := 1) rfl rfl (by decide) rfl (fun ls hl => ?_)
          refine lv_goto (tgt := 615) hx hb dL_law_655 (by decide) ?_
          rw [ct_t (p := fun h9 => hoB (nx_daily τ (nI sc) (nI la) (nI q5) (nI q8) (nI rk)) nl (nI h9)) f_641, nI_1] at hl
          exact ih _ ls HS (lv_sub hl [0, 1, 2, 3, 4, 5, 6, 7, 8, 9, 10, 11, 12, 13, 14, 15, 16, 17, 18, 19, 20, 21] rfl)
    exact loop 0 (Nat.zero_le _) _ ls HS (lv_sub hl [0, 1, 2, 3, 4, 5, 6, 7, 8, 9, 10, 11, 12, 13, 14, 15, 16, 17, 18, 19, 20, 21] (by rfl))
  · refine lv_goto (tgt := 2092) hx hb dL_law_381 (by decide) ?_
    exact kk _ _ _ _ ls (by omega) (by omega) ⟨_, _, _, _, _, _, hB, hO⟩ HS (lv_sub hl [0, 1, 2, 3, 4, 5, 6, 7, 8, 9] rfl)
set_option maxHeartbeats 4000000 in
set_option maxRecDepth 100000 in
theorem l_feasts {p : Program} {l : Launch} (hl9 : l.stackTraces = false) {e : Env} {R : Room} {s : State} {m : MethodId} {args : Array Value} {below : List Frame} {meth : Method} {c : Code} {H : Heap} {locs : List Loc} {cells slots : Nat} {Q : State → Prop} {D : va_G} {ids : Nat → ClassId} {n0 b t9 : Nat} {aa : Nat → Nat} {τ : Tau} {nw ns nl nc : Nat} {A : Tau} (MC : ro_C p s m args meth c cL_law 28 "FrostCalendarLaw" D ids n0) (HS : va_S (fun q => n0 ≤ q) s.heap H locs) (hB : wB D ids n0 aa τ nw ns nl nc A H) (hO : wOk τ ns nl nc A) (hR : 11 ≤ R.frames ∧ 400 ≤ R.locals) {sc la rk n9 k9 : Nat} {x9 y9 : Int32} (hsc : sc < ns) (hla : la < 4) (hrk1 : 1 ≤ rk) (hrk : rk < 4) (hn9 : (nc = 0 ∧ n9 = 0) ∨ n9 < nc) (hk9 : (nl = 0 ∧ k9 = 0) ∨ k9 < nl) (hcl : cells + 400 ≤ R.cells) (hsl : slots + 2400 ≤ R.slots) {ls : Array Slot} (hl : lv_has ls 28 [(0, .ref b), (1, .ref (aa 0)), (2, .ref (aa 11)), (3, .ref (aa 12)), (4, .ref (aa 13)), (5, .ref (aa 14)), (6, .ref (aa 15)), (7, .ref (aa 16)), (8, .ref (aa 17)), (9, .int (nI t9)), (10, .int x9), (11, .int y9), (12, .int 6), (13, .int (nI sc)), (14, .int (nI la)), (15, .int (nI rk)), (16, .int (nI n9)), (17, .int (nI k9)), (18, .int (nI (7 * nl)))])
    (kk : ∀ (c9 s9 : Nat) (H1 : Heap) (locs1 : List Loc) (ls1 : Array Slot), c9 ≤ cells + 400 → s9 ≤ slots + 2400 → wI D ids n0 aa H1 → va_S (fun q => n0 ≤ q) s.heap H1 locs1 → lv_has ls1 28 (lL b aa t9) → W p l e R s m args below meth c H1 locs1 c9 s9 Q (F0 m 2092 ls1 [])) : W p l e R s m args below meth c H locs cells slots Q (F0 m 372 ls []) := by
  have hx := MC.1.1
  have hb := MC.1.2.1
  have hI := hB.1
  obtain ⟨⟨hns, hnl, hnc⟩, ⟨hg0, hg1, hg2, hg3⟩, hF, hC, hin, hof, hfe, hle⟩ := id hO
  refine lv_aload hx hb dL_law_372 (lv_at hl 8 rfl) ?_
  refine lv_iconst (v := 2) hx hb dL_law_374 (by decide) ?_
  refine wb_iald MC hB 6 (by decide) 2 (show 2 < 4 by omega) rfl (hg2.trans hI.2.2.1.1) dL_law_375 ?_
  refine lv_bipush (v := 6) hx hb dL_law_376 (by decide) ?_
  refine lv_icmp_ne (tgt := 384) hx hb dL_law_378 (by decide) (fun c_378 => ?_) (fun c_378 => ?_)
  · have h6 : nl < 6 := by have : nl ≠ 6 := fun e9 => c_378 (by rw [e9]; rfl); omega
    refine lv_aload_n hx hb dL_law_384 rfl (lv_at hl 2 rfl) ?_
    refine lv_iload hx hb dL_law_385 (lv_at hl 18 rfl) ?_
    refine lv_iconst (v := 1) hx hb dL_law_387 (by decide) ?_
    refine wb_iast MC hB HS 0 (by decide) (7 * nl) (show 7 * nl < 42 by omega) rfl dL_law_388 (fun H1 lH1 hB HS => ?_)
    refine lv_aload_n hx hb dL_law_389 rfl (lv_at hl 2 rfl) ?_
    refine lv_iload hx hb dL_law_390 (lv_at hl 18 rfl) ?_
    refine lv_iconst (v := 1) hx hb dL_law_392 (by decide) ?_
    refine lv_iadd hx hb dL_law_393 ?_
    refine lv_iload hx hb dL_law_394 (lv_at hl 12 rfl) ?_
    refine lv_iconst (v := 4) hx hb dL_law_396 (by decide) ?_
    refine lv_isub hx hb dL_law_397 ?_
    refine wb_iast MC hB HS 0 (by decide) (7 * nl + 1) (show 7 * nl + 1 < 42 by omega) (ix_add rfl rfl) dL_law_398 (fun H2 lH2 hB HS => ?_)
    refine lv_aload_n hx hb dL_law_399 rfl (lv_at hl 2 rfl) ?_
    refine lv_iload hx hb dL_law_400 (lv_at hl 18 rfl) ?_
    refine lv_iconst (v := 2) hx hb dL_law_402 (by decide) ?_
    refine lv_iadd hx hb dL_law_403 ?_
    refine lv_iload hx hb dL_law_404 (lv_at hl 13 rfl) ?_
    refine wb_iast MC hB HS 0 (by decide) (7 * nl + 2) (show 7 * nl + 2 < 42 by omega) (ix_add rfl rfl) dL_law_406 (fun H3 lH3 hB HS => ?_)
    refine lv_aload_n hx hb dL_law_407 rfl (lv_at hl 2 rfl) ?_
    refine lv_iload hx hb dL_law_408 (lv_at hl 18 rfl) ?_
    refine lv_iconst (v := 3) hx hb dL_law_410 (by decide) ?_
    refine lv_iadd hx hb dL_law_411 ?_
    refine lv_iload hx hb dL_law_412 (lv_at hl 12 rfl) ?_
    refine lv_iconst (v := 4) hx hb dL_law_414 (by decide) ?_
    refine lv_icmp_ne (tgt := 422) hx hb dL_law_415 (by decide) (fun c_415 => ?_) (fun c_415 => absurd c_415 (by decide))
    refine lv_iload hx hb dL_law_422 (lv_at hl 14 rfl) ?_
    refine wb_iast MC hB HS 0 (by decide) (7 * nl + 3) (show 7 * nl + 3 < 42 by omega) (ix_add rfl rfl) dL_law_424 (fun H4 lH4 hB HS => ?_)
    refine lv_aload_n hx hb dL_law_425 rfl (lv_at hl 2 rfl) ?_
    refine lv_iload hx hb dL_law_426 (lv_at hl 18 rfl) ?_
    refine lv_iconst (v := 4) hx hb dL_law_428 (by decide) ?_
    refine lv_iadd hx hb dL_law_429 ?_
    refine lv_iload hx hb dL_law_430 (lv_at hl 12 rfl) ?_
    refine lv_iconst (v := 4) hx hb dL_law_432 (by decide) ?_
    refine lv_icmp_ne (tgt := 447) hx hb dL_law_433 (by decide) (fun c_433 => ?_) (fun c_433 => absurd c_433 (by decide))
    refine lv_iload hx hb dL_law_447 (lv_at hl 11 rfl) ?_
    refine lv_bipush (v := 24) hx hb dL_law_449 (by decide) ?_
    refine wb_s MC HS (rest := [.int ((nI (7 * nl) + 4)), .ref (aa 11)]) (As := [.int y9, .int 24]) (by rw [show 24 = nI (24) from rfl]; exact y_low D ids n0 y9 (by omega) (by omega)) lkL_84 kw505 ⟨rfl, rfl, Nat.le_of_ble_eq_true rfl, Nat.le_of_ble_eq_true rfl, Nat.le_of_ble_eq_true rfl⟩ hR hl.1 rfl (Nat.le_of_ble_eq_true rfl) dL_law_451 (by omega) (by omega) (fun v9 H6 lH6 hp HS => ?_)
    obtain ⟨q5, hq5, rfl, rfl⟩ := hp
    refine wb_iast MC hB HS 0 (by decide) (7 * nl + 4) (show 7 * nl + 4 < 42 by omega) (ix_add rfl rfl) dL_law_454 (fun H7 lH7 hB HS => ?_)
    refine lv_aload_n hx hb dL_law_455 rfl (lv_at hl 2 rfl) ?_
    refine lv_iload hx hb dL_law_456 (lv_at hl 18 rfl) ?_
    refine lv_iconst (v := 5) hx hb dL_law_458 (by decide) ?_
    refine lv_iadd hx hb dL_law_459 ?_
    refine lv_iload hx hb dL_law_460 (lv_at hl 12 rfl) ?_
    refine lv_iconst (v := 4) hx hb dL_law_462 (by decide) ?_
    refine lv_icmp_ne (tgt := 496) hx hb dL_law_463 (by decide) (fun c_463 => ?_) (fun c_463 => absurd c_463 (by decide))
    refine lv_iload hx hb dL_law_496 (lv_at hl 11 rfl) ?_
    refine lv_bipush (v := 8) hx hb dL_law_498 (by decide) ?_
    refine lv_ishr hx hb dL_law_500 ?_
    refine lv_bipush (v := 24) hx hb dL_law_501 (by decide) ?_
    refine wb_s MC HS (rest := [.int ((nI (7 * nl) + 5)), .ref (aa 11)]) (As := [.int (y9 >>> (8 &&& 31)), .int 24]) (by rw [show 24 = nI (24) from rfl]; exact y_low D ids n0 (y9 >>> (8 &&& 31)) (by omega) (by omega)) lkL_84 kw505 ⟨rfl, rfl, Nat.le_of_ble_eq_true rfl, Nat.le_of_ble_eq_true rfl, Nat.le_of_ble_eq_true rfl⟩ hR hl.1 rfl (Nat.le_of_ble_eq_true rfl) dL_law_503 (by omega) (by omega) (fun v9 H9 lH9 hp HS => ?_)
    obtain ⟨q8, hq8, rfl, rfl⟩ := hp
    refine wb_iast MC hB HS 0 (by decide) (7 * nl + 5) (show 7 * nl + 5 < 42 by omega) (ix_add rfl rfl) dL_law_506 (fun H10 lH10 hB HS => ?_)
    refine lv_aload_n hx hb dL_law_507 rfl (lv_at hl 2 rfl) ?_
    refine lv_iload hx hb dL_law_508 (lv_at hl 18 rfl) ?_
    refine lv_bipush (v := 6) hx hb dL_law_510 (by decide) ?_
    refine lv_iadd hx hb dL_law_512 ?_
    refine lv_iload hx hb dL_law_513 (lv_at hl 15 rfl) ?_
    refine wb_iast MC hB HS 0 (by decide) (7 * nl + 6) (show 7 * nl + 6 < 42 by omega) (ix_add rfl rfl) dL_law_515 (fun H11 lH11 hB HS => ?_)
    refine lv_aload hx hb dL_law_516 (lv_at hl 8 rfl) ?_
    refine lv_iconst (v := 2) hx hb dL_law_518 (by decide) ?_
    refine lv_dup2_11 hx hb dL_law_519 rfl rfl ?_
    refine wb_iald MC hB 6 (by decide) 2 (show 2 < 4 by omega) rfl ((congrFun (va_up_ne _ _ (by decide)) _).trans ((congrFun (va_up_ne _ _ (by decide)) _).trans ((congrFun (va_up_ne _ _ (by decide)) _).trans ((congrFun (va_up_ne _ _ (by decide)) _).trans ((congrFun (va_up_ne _ _ (by decide)) _).trans ((congrFun (va_up_ne _ _ (by decide)) _).trans ((congrFun (va_up_ne _ _ (by decide)) _).trans (hg2.trans hI.2.2.1.1)))))))) dL_law_520 ?_
    refine lv_iconst (v := 1) hx hb dL_law_521 (by decide) ?_
    refine lv_iadd hx hb dL_law_522 ?_
    refine wb_iast MC hB HS 6 (by decide) 2 (show 2 < 4 by omega) rfl dL_law_523 (fun H12 lH12 hB HS => ?_)
    refine lv_iload hx hb dL_law_524 (lv_at hl 12 rfl) ?_
    refine lv_iconst (v := 4) hx hb dL_law_526 (by decide) ?_
    refine lv_icmp_ne (tgt := 553) hx hb dL_law_527 (by decide) (fun c_527 => ?_) (fun c_527 => absurd c_527 (by decide))
    refine lv_iload hx hb dL_law_553 (lv_at hl 12 rfl) ?_
    refine lv_iconst (v := 5) hx hb dL_law_555 (by decide) ?_
    refine lv_icmp_ne (tgt := 584) hx hb dL_law_556 (by decide) (fun c_556 => ?_) (fun c_556 => absurd c_556 (by decide))
    refine lv_aload_n hx hb dL_law_584 rfl (lv_at hl 1 rfl) ?_
    refine lv_iload hx hb dL_law_585 (lv_at hl 13 rfl) ?_
    refine lv_iload hx hb dL_law_587 (lv_at hl 14 rfl) ?_
    refine lv_iload hx hb dL_law_589 (lv_at hl 15 rfl) ?_
    refine wb_q MC HS hB (rest := []) (As := [.int (nI sc), .int (nI la), .int (nI rk)]) (th := th_feasts τ (nI sc) (nI la) (nI rk)) (rt := rt_feasts τ (nI sc) (nI la) (nI rk)) (τ2 := (nx_feasts τ (nI sc) (nI la) (nI rk))) (fun RR ad cn hX => q_feasts hl9 hX hB.1) (fun E9 H9 hp => by obtain ⟨-, hp⟩ := hp; rcases hp with h9 | h9 | h9 <;> exact absurd ((tz_feasts hI h6 hsc hla hrk1 hrk).symm.trans h9.1) (by decide)) rfl lkL_105 kw300 kw301 ⟨rfl, rfl, Nat.le_of_ble_eq_true rfl, Nat.le_of_ble_eq_true rfl, Nat.le_of_ble_eq_true rfl⟩ hR hl.1 rfl (Nat.le_of_ble_eq_true rfl) dL_law_591 (by omega) (by omega) (fun nw8 ns8 nl8 nc8 H13 lH13 hB8 HS => ?_)
    have hB := hB8.at (n_lays hI)
    clear hB8
    rw [show rt_feasts τ _ _ _ = nI nl from hI.2.2.1.1]
    refine lv_istore (lv' := [(19, .int (nI nl)), (0, .ref b), (1, .ref (aa 0)), (2, .ref (aa 11)), (3, .ref (aa 12)), (4, .ref (aa 13)), (5, .ref (aa 14)), (6, .ref (aa 15)), (7, .ref (aa 16)), (8, .ref (aa 17)), (9, .int (nI t9)), (10, .int x9), (11, .int y9), (12, .int 6), (13, .int (nI sc)), (14, .int (nI la)), (15, .int (nI rk)), (16, .int (nI n9)), (17, .int (nI k9)), (18, .int (nI (7 * nl)))]) hx hb dL_law_594 hl (by decide) rfl (fun ls hl => ?_)
    refine lv_iload hx hb dL_law_596 (lv_at hl 0 rfl) ?_
    refine lv_aload hx hb dL_law_598 (lv_at hl 9 rfl) ?_
    refine lv_iconst (v := 2) hx hb dL_law_600 (by decide) ?_
    refine wb_iald MC hB 6 (by decide) 2 (show 2 < 4 by omega) rfl ((congrFun (va_up_self ..) _).trans pk_us) dL_law_601 ?_
    refine lv_iconst (v := 1) hx hb dL_law_602 (by decide) ?_
    refine lv_isub hx hb dL_law_603 ?_
    refine lv_icmp_eq (tgt := 609) hx hb dL_law_604 (by decide) (fun c_604 => ?_) (fun c_604 => absurd (s1_eq _) c_604)
    refine lv_iconst (v := 0) hx hb dL_law_609 (by decide) ?_
    refine lv_istore (lv' := [(20, .int 0), (19, .int (nI nl)), (0, .ref b), (1, .ref (aa 0)), (2, .ref (aa 11)), (3, .ref (aa 12)), (4, .ref (aa 13)), (5, .ref (aa 14)), (6, .ref (aa 15)), (7, .ref (aa 16)), (8, .ref (aa 17)), (9, .int (nI t9)), (10, .int x9), (11, .int y9), (12, .int 6), (13, .int (nI sc)), (14, .int (nI la)), (15, .int (nI rk)), (16, .int (nI n9)), (17, .int (nI k9)), (18, .int (nI (7 * nl)))]) hx hb dL_law_610 hl (by decide) rfl (fun ls hl => ?_)
    refine lv_iconst (v := 0) hx hb dL_law_612 (by decide) ?_
    refine lv_istore (lv' := [(21, .int 0), (20, .int 0), (19, .int (nI nl)), (0, .ref b), (1, .ref (aa 0)), (2, .ref (aa 11)), (3, .ref (aa 12)), (4, .ref (aa 13)), (5, .ref (aa 14)), (6, .ref (aa 15)), (7, .ref (aa 16)), (8, .ref (aa 17)), (9, .int (nI t9)), (10, .int x9), (11, .int y9), (12, .int 6), (13, .int (nI sc)), (14, .int (nI la)), (15, .int (nI rk)), (16, .int (nI n9)), (17, .int (nI k9)), (18, .int (nI (7 * nl)))]) hx hb dL_law_613 hl (by decide) rfl (fun ls hl => ?_)
    have hO1 : wOk (nx_feasts τ (nI sc) (nI la) (nI rk)) ns (nl + 1) nc (ti (ti (ti (ti (ti (ti (ti (ti A 0 (7 * nl) 1) 0 (7 * nl + 1) (6 - 4)) 0 (7 * nl + 2) (nI sc)) 0 (7 * nl + 3) (nI la)) 0 (7 * nl + 4) (nI q5)) 0 (7 * nl + 5) (nI q8)) 0 (7 * nl + 6) (nI rk)) 6 2 (nI nl + 1)) := ok_lays hI hO h6 (how := 2) (one := 0) (two := 0) (by decide) (fun h9 => absurd rfl h9) (fun h9 => absurd h9 (by decide))
    have loop : ∀ h : Nat, h ≤ 672 → ∀ (locs : List Loc) (ls : Array Slot), va_S (fun q => n0 ≤ q) s.heap H13 locs → lv_has ls 28 [(21, .int (nI h)), (20, .int (nI (ct (fun h9 => hoB (nx_feasts τ (nI sc) (nI la) (nI rk)) nl (nI h9)) h))), (19, .int (nI nl)), (0, .ref b), (1, .ref (aa 0)), (2, .ref (aa 11)), (3, .ref (aa 12)), (4, .ref (aa 13)), (5, .ref (aa 14)), (6, .ref (aa 15)), (7, .ref (aa 16)), (8, .ref (aa 17)), (9, .int (nI t9)), (10, .int x9), (11, .int y9), (12, .int 6), (13, .int (nI sc)), (14, .int (nI la)), (15, .int (nI rk)), (16, .int (nI n9)), (17, .int (nI k9)), (18, .int (nI (7 * nl)))] → W p l e R s m args below meth c H13 locs (cells + 8) (slots + 48) Q (F0 m 615 ls []) := by
      refine ro_loop (672) (fun h : Nat => ∀ (locs : List Loc) (ls : Array Slot), va_S (fun q => n0 ≤ q) s.heap H13 locs → lv_has ls 28 [(21, .int (nI h)), (20, .int (nI (ct (fun h9 => hoB (nx_feasts τ (nI sc) (nI la) (nI rk)) nl (nI h9)) h))), (19, .int (nI nl)), (0, .ref b), (1, .ref (aa 0)), (2, .ref (aa 11)), (3, .ref (aa 12)), (4, .ref (aa 13)), (5, .ref (aa 14)), (6, .ref (aa 15)), (7, .ref (aa 16)), (8, .ref (aa 17)), (9, .int (nI t9)), (10, .int x9), (11, .int y9), (12, .int 6), (13, .int (nI sc)), (14, .int (nI la)), (15, .int (nI rk)), (16, .int (nI n9)), (17, .int (nI k9)), (18, .int (nI (7 * nl)))] → W p l e R s m args below meth c H13 locs (cells + 8) (slots + 48) Q (F0 m 615 ls [])) ?_ ?_
      · intro locs ls HS hl
        refine lv_iload hx hb dL_law_615 (lv_at hl 0 rfl) ?_
        refine lv_sipush (v := 672) hx hb dL_law_617 (by decide) ?_
        refine lv_icmp_ge (tgt := 658) hx hb dL_law_620 (by decide) (fun c_620 => ?_) (fun c_620 => absurd (nI_le (Nat.le_refl 672) (by omega)) c_620)
        refine lv_aload_n hx hb dL_law_658 rfl (lv_at hl 4 rfl) ?_
        refine lv_iload hx hb dL_law_659 (lv_at hl 2 rfl) ?_
        refine wb_q MC HS hB (rest := []) (As := [.int (nI nl)]) (th := th_hours (nx_feasts τ (nI sc) (nI la) (nI rk)) (nI nl)) (rt := rt_hours (nx_feasts τ (nI sc) (nI la) (nI rk)) (nI nl)) (τ2 := (nx_feasts τ (nI sc) (nI la) (nI rk))) (fun RR ad cn hX => q_hours hl9 hX hB.1) (fun E9 H9 hp => by obtain ⟨-, hp⟩ := hp; exact absurd ((tz_lays hI h6).symm.trans hp.1) (by decide)) rfl lkL_46 kw384 kw385 ⟨rfl, rfl, Nat.le_of_ble_eq_true rfl, Nat.le_of_ble_eq_true rfl, Nat.le_of_ble_eq_true rfl⟩ hR hl.1 rfl (Nat.le_of_ble_eq_true rfl) dL_law_661 (by omega) (by omega) (fun nw8 ns8 nl8 nc8 H14 lH14 hB8 HS => ?_)
        have hB := hB8.at hB.1.iN
        clear hB8
        rw [rz_hours (τ := (nx_feasts τ (nI sc) (nI la) (nI rk))) (k := nl) (by omega)]
        refine lv_iload hx hb dL_law_664 (lv_at hl 1 rfl) ?_
        refine lv_icmp_eq (tgt := 671) hx hb dL_law_666 (by decide) (fun c_666 => ?_) (fun c_666 => absurd (rfl) c_666)
        refine lv_goto (tgt := 2040) hx hb dL_law_671 (by decide) ?_
        exact l_chk hl9 MC HS hB (hO1) hR (by omega) (by omega) (lv_sub hl [3, 4, 5, 6, 7, 8, 9, 10, 11, 12] rfl) (fun c9 s9 H1 locs1 ls1 h1 h2 => kk c9 s9 H1 locs1 ls1 (by omega) (by omega))
      · intro h hkh ih locs ls HS hl
        refine lv_iload hx hb dL_law_615 (lv_at hl 0 rfl) ?_
        refine lv_sipush (v := 672) hx hb dL_law_617 (by decide) ?_
        refine lv_icmp_ge (tgt := 658) hx hb dL_law_620 (by decide) (fun c_620 => absurd c_620 (nI_ge (b := 672) hkh (by omega))) (fun c_620 => ?_)
        refine lv_iload hx hb dL_law_623 (lv_at hl 1 rfl) ?_
        refine lv_aload_n hx hb dL_law_625 rfl (lv_at hl 5 rfl) ?_
        refine lv_aload hx hb dL_law_626 (lv_at hl 11 rfl) ?_
        refine lv_iconst (v := 2) hx hb dL_law_628 (by decide) ?_
        refine wb_iald MC hB 6 (by decide) 2 (show 2 < 4 by omega) rfl ((congrFun (va_up_self ..) _).trans pk_us) dL_law_629 ?_
        refine lv_iconst (v := 1) hx hb dL_law_630 (by decide) ?_
        refine lv_isub hx hb dL_law_631 ?_
        rw [show ((nI nl + 1) - 1) = nI (nl) from (s1_eq _).symm]
        refine lv_iload hx hb dL_law_632 (lv_at hl 0 rfl) ?_
        refine lv_aload hx hb dL_law_634 (lv_at hl 8 rfl) ?_
        refine lv_aload hx hb dL_law_636 (lv_at hl 9 rfl) ?_
        refine wb_s MC HS (rest := [.int (nI (ct (fun h9 => hoB (nx_feasts τ (nI sc) (nI la) (nI rk)) nl (nI h9)) h))]) (As := [.ref (aa 11), .int (nI (nl)), .int (nI h), .ref (aa 14), .ref (aa 15)]) (y_holds hB hO1 (Nat.lt_succ_self nl) (by omega)) lkL_20 kw509 ⟨rfl, rfl, Nat.le_of_ble_eq_true rfl, Nat.le_of_ble_eq_true rfl, Nat.le_of_ble_eq_true rfl⟩ hR hl.1 rfl (Nat.le_of_ble_eq_true rfl) dL_law_638 (by omega) (by omega) (fun v9 H15 lH15 hp HS => ?_)
        obtain ⟨rfl, rfl⟩ := hp
        refine lv_if_eq (tgt := 648) hx hb dL_law_641 (by decide) (fun c_641 => ?_) (fun c_641 => ?_)
        · have f_641 := bI_0.mp c_641
          refine lv_iconst (v := 0) hx hb dL_law_648 (by decide) ?_
          refine lv_iadd hx hb dL_law_649 ?_
          refine lv_istore (lv' := [(20, .int ((nI (ct (fun h9 => hoB (nx_feasts τ (nI sc) (nI la) (nI rk)) nl (nI h9)) h) + 0))), (21, .int (nI h)), (19, .int (nI nl)), (0, .ref b), (1, .ref (aa 0)), (2, .ref (aa 11)), (3, .ref (aa 12)), (4, .ref (aa 13)), (5, .ref (aa 14)), (6, .ref (aa 15)), (7, .ref (aa 16)), (8, .ref (aa 17)), (9, .int (nI t9)), (10, .int x9), (11, .int y9), (12, .int 6), (13, .int (nI sc)), (14, .int (nI la)), (15, .int (nI rk)), (16, .int (nI n9)), (17, .int (nI k9)), (18, .int (nI (7 * nl)))]) hx hb dL_law_650 hl (by decide) rfl (fun ls hl => ?_)
          refine lv_iinc (v := nI h + 1) (lv' := [(21, .int (nI h + 1)), (20, .int ((nI (ct (fun h9 => hoB (nx_feasts τ (nI sc) (nI la) (nI rk)) nl (nI h9)) h) + 0))), (19, .int (nI nl)), (0, .ref b), (1, .ref (aa 0)), (2, .ref (aa 11)), (3, .ref (aa 12)), (4, .ref (aa 13)), (5, .ref (aa 14)), (6, .ref (aa 15)), (7, .ref (aa 16)), (8, .ref (aa 17)), (9, .int (nI t9)), (10, .int x9), (11, .int y9), (12, .int 6), (13, .int (nI sc)), (14, .int (nI la)), (15, .int (nI rk)), (16, .int (nI n9)), (17, .int (nI k9)), (18, .int (nI (7 * nl)))]) hx hb dL_law_652 hl (k := 1) rfl rfl (by decide) rfl (fun ls hl => ?_)
          refine lv_goto (tgt := 615) hx hb dL_law_655 (by decide) ?_
          rw [ct_f (p := fun h9 => hoB (nx_feasts τ (nI sc) (nI la) (nI rk)) nl (nI h9)) (by simpa using f_641), nI_1] at hl
          exact ih _ ls HS (lv_sub hl [0, 1, 2, 3, 4, 5, 6, 7, 8, 9, 10, 11, 12, 13, 14, 15, 16, 17, 18, 19, 20, 21] rfl)
        · have f_641 := bI_n0.mp c_641
          refine lv_iconst (v := 1) hx hb dL_law_644 (by decide) ?_
          refine lv_goto (tgt := 649) hx hb dL_law_645 (by decide) ?_
          refine lv_iadd hx hb dL_law_649 ?_
          refine lv_istore (lv' := [(20, .int ((nI (ct (fun h9 => hoB (nx_feasts τ (nI sc) (nI la) (nI rk)) nl (nI h9)) h) + 1))), (21, .int (nI h)), (19, .int (nI nl)), (0, .ref b), (1, .ref (aa 0)), (2, .ref (aa 11)), (3, .ref (aa 12)), (4, .ref (aa 13)), (5, .ref (aa 14)), (6, .ref (aa 15)), (7, .ref (aa 16)), (8, .ref (aa 17)), (9, .int (nI t9)), (10, .int x9), (11, .int y9), (12, .int 6), (13, .int (nI sc)), (14, .int (nI la)), (15, .int (nI rk)), (16, .int (nI n9)), (17, .int (nI k9)), (18, .int (nI (7 * nl)))]) hx hb dL_law_650 hl (by decide) rfl (fun ls hl => ?_)
          refine lv_iinc (v := nI h + 1) (lv' := [(21, .int (nI h + 1)), (20, .int ((nI (ct (fun h9 => hoB (nx_feasts τ (nI sc) (nI la) (nI rk)) nl (nI h9)) h) + 1))), (19, .int (nI nl)), (0, .ref b), (1, .ref (aa 0)), (2, .ref (aa 11)), (3, .ref (aa 12)), (4, .ref (aa 13)), (5, .ref (aa 14)), (6, .ref (aa 15)), (7, .ref (aa 16)), (8, .ref (aa 17)), (9, .int (nI t9)), (10, .int x9), (11, .int y9), (12, .int 6), (13, .int (nI sc)), (14, .int (nI la)), (15, .int (nI rk)), (16, .int (nI n9)), (17, .int (nI k9)), (18, .int (nI (7 * nl)))]) hx hb dL_law_652 hl (k := 1) rfl rfl (by decide) rfl (fun ls hl => ?_)
          refine lv_goto (tgt := 615) hx hb dL_law_655 (by decide) ?_
          rw [ct_t (p := fun h9 => hoB (nx_feasts τ (nI sc) (nI la) (nI rk)) nl (nI h9)) f_641, nI_1] at hl
          exact ih _ ls HS (lv_sub hl [0, 1, 2, 3, 4, 5, 6, 7, 8, 9, 10, 11, 12, 13, 14, 15, 16, 17, 18, 19, 20, 21] rfl)
    exact loop 0 (Nat.zero_le _) _ ls HS (lv_sub hl [0, 1, 2, 3, 4, 5, 6, 7, 8, 9, 10, 11, 12, 13, 14, 15, 16, 17, 18, 19, 20, 21] (by rfl))
  · refine lv_goto (tgt := 2092) hx hb dL_law_381 (by decide) ?_
    exact kk _ _ _ _ ls (by omega) (by omega) ⟨_, _, _, _, _, _, hB, hO⟩ HS (lv_sub hl [0, 1, 2, 3, 4, 5, 6, 7, 8, 9] rfl)
set_option maxHeartbeats 4000000 in
set_option maxRecDepth 100000 in
theorem l_lift {p : Program} {l : Launch} (hl9 : l.stackTraces = false) {e : Env} {R : Room} {s : State} {m : MethodId} {args : Array Value} {below : List Frame} {meth : Method} {c : Code} {H : Heap} {locs : List Loc} {cells slots : Nat} {Q : State → Prop} {D : va_G} {ids : Nat → ClassId} {n0 b t9 : Nat} {aa : Nat → Nat} {τ : Tau} {nw ns nl nc : Nat} {A : Tau} (MC : ro_C p s m args meth c cL_law 28 "FrostCalendarLaw" D ids n0) (HS : va_S (fun q => n0 ≤ q) s.heap H locs) (hB : wB D ids n0 aa τ nw ns nl nc A H) (hO : wOk τ ns nl nc A) (hR : 11 ≤ R.frames ∧ 400 ≤ R.locals) {sc la rk n9 k9 : Nat} {x9 y9 kd : Int32} (hsc : sc < ns) (hla : la < 4) (hrk1 : 1 ≤ rk) (hrk : rk < 4) (hn9 : (nc = 0 ∧ n9 = 0) ∨ n9 < nc) (hk9 : (nl = 0 ∧ k9 = 0) ∨ k9 < nl) (hcl : cells + 400 ≤ R.cells) (hsl : slots + 2400 ≤ R.slots) {ls : Array Slot} (hl : lv_has ls 28 [(0, .ref b), (1, .ref (aa 0)), (2, .ref (aa 11)), (3, .ref (aa 12)), (4, .ref (aa 13)), (5, .ref (aa 14)), (6, .ref (aa 15)), (7, .ref (aa 16)), (8, .ref (aa 17)), (9, .int (nI t9)), (10, .int x9), (11, .int y9), (12, .int kd), (13, .int (nI sc)), (14, .int (nI la)), (15, .int (nI rk)), (16, .int (nI n9)), (17, .int (nI k9)), (18, .int (nI (7 * nl)))])
    (kk : ∀ (c9 s9 : Nat) (H1 : Heap) (locs1 : List Loc) (ls1 : Array Slot), c9 ≤ cells + 400 → s9 ≤ slots + 2400 → wI D ids n0 aa H1 → va_S (fun q => n0 ≤ q) s.heap H1 locs1 → lv_has ls1 28 (lL b aa t9) → W p l e R s m args below meth c H1 locs1 c9 s9 Q (F0 m 2092 ls1 [])) : W p l e R s m args below meth c H locs cells slots Q (F0 m 681 ls []) := by
  have hx := MC.1.1
  have hb := MC.1.2.1
  have hI := hB.1
  obtain ⟨⟨hns, hnl, hnc⟩, ⟨hg0, hg1, hg2, hg3⟩, hF, hC, hin, hof, hfe, hle⟩ := id hO
  refine lv_iload hx hb dL_law_681 (lv_at hl 11 rfl) ?_
  refine lv_iconst (v := 3) hx hb dL_law_683 (by decide) ?_
  refine wb_s MC HS (rest := []) (As := [.int y9, .int 3]) (by rw [show 3 = nI (3) from rfl]; exact y_low D ids n0 y9 (by omega) (by omega)) lkL_84 kw505 ⟨rfl, rfl, Nat.le_of_ble_eq_true rfl, Nat.le_of_ble_eq_true rfl, Nat.le_of_ble_eq_true rfl⟩ hR hl.1 rfl (Nat.le_of_ble_eq_true rfl) dL_law_684 (by omega) (by omega) (fun v9 H2 lH2 hp HS => ?_)
  obtain ⟨q1, hq1, rfl, rfl⟩ := hp
  refine lv_if_le (tgt := 693) hx hb dL_law_687 (by decide) (fun c_687 => ?_) (fun c_687 => ?_)
  · refine lv_aload hx hb dL_law_693 (lv_at hl 8 rfl) ?_
    refine lv_iconst (v := 2) hx hb dL_law_695 (by decide) ?_
    refine wb_iald MC hB 6 (by decide) 2 (show 2 < 4 by omega) rfl (hg2.trans hI.2.2.1.1) dL_law_696 ?_
    refine lv_if_eq (tgt := 710) hx hb dL_law_697 (by decide) (fun c_697 => ?_) (fun c_697 => ?_)
    · have h0 : nl = 0 := neq_of (n := 0) rfl (by omega) (by omega) c_697
      have hnF : ¬ okF τ (nI k9) := tf_lift0 hI (by omega) (fun h9 => by omega)
      refine lv_aload_n hx hb dL_law_710 rfl (lv_at hl 1 rfl) ?_
      refine lv_iconst (v := 3) hx hb dL_law_711 (by decide) ?_
      refine lv_iload hx hb dL_law_712 (lv_at hl 17 rfl) ?_
      refine lv_iconst (v := 0) hx hb dL_law_714 (by decide) ?_
      refine wb_r MC HS (rest := []) (r_lift hl9 hB (a9 := nI k9) (b9 := 0) (by rw [show th_lift τ (nI k9) = 1 from if_neg hnF]; decide)) lwr hR hl.1 (Nat.le_of_ble_eq_true rfl) dL_law_715 (by omega) (by omega) (fun H3 lH3 hB HS => ?_)
      refine lv_iconst (v := 2) hx hb dL_law_718 (by decide) ?_
      refine lv_icmp_ne (tgt := 735) hx hb dL_law_719 (by decide) (fun c_719 => absurd (rfl) c_719) (fun c_719 => ?_)
      refine lv_aload_n hx hb dL_law_722 rfl (lv_at hl 1 rfl) ?_
      refine lv_bipush (v := 6) hx hb dL_law_723 (by decide) ?_
      refine lv_iload hx hb dL_law_725 (lv_at hl 17 rfl) ?_
      refine lv_iconst (v := 0) hx hb dL_law_727 (by decide) ?_
      refine wb_r MC HS (rest := []) (r_hours hl9 hB (a9 := nI k9) (b9 := 0) (by rw [show th_hours τ (nI k9) = 1 from if_neg hnF]; decide)) lwr hR hl.1 (Nat.le_of_ble_eq_true rfl) dL_law_728 (by omega) (by omega) (fun H4 lH4 hB HS => ?_)
      refine lv_iconst (v := 2) hx hb dL_law_731 (by decide) ?_
      refine lv_icmp_eq (tgt := 2092) hx hb dL_law_732 (by decide) (fun c_732 => ?_) (fun c_732 => absurd (rfl) c_732)
      exact kk _ _ _ _ ls (by omega) (by omega) ⟨_, _, _, _, _, _, hB, hO⟩ HS (lv_sub hl [0, 1, 2, 3, 4, 5, 6, 7, 8, 9] rfl)
    · have h0 : ¬ nl = 0 := nneq_of (n := 0) rfl c_697
      have hk : k9 < nl := by omega
      refine lv_aload_n hx hb dL_law_700 rfl (lv_at hl 2 rfl) ?_
      refine lv_bipush (v := 7) hx hb dL_law_701 (by decide) ?_
      refine lv_iload hx hb dL_law_703 (lv_at hl 17 rfl) ?_
      refine lv_imul hx hb dL_law_705 ?_
      refine wb_iald MC hB 0 (by decide) (7 * k9) (show 7 * k9 < 42 by omega) (ix_mul rfl rfl) ((hF k9 hk).1) dL_law_706 ?_
      refine lv_if_ne (tgt := 737) hx hb dL_law_707 (by decide) (fun c_707 => ?_) (fun c_707 => ?_)
      · have f_707 := bI_n0.mp c_707
        have hokF := tz_F hI hk f_707
        refine lv_aload_n hx hb dL_law_737 rfl (lv_at hl 2 rfl) ?_
        refine lv_bipush (v := 7) hx hb dL_law_738 (by decide) ?_
        refine lv_iload hx hb dL_law_740 (lv_at hl 17 rfl) ?_
        refine lv_imul hx hb dL_law_742 ?_
        refine lv_iconst (v := 0) hx hb dL_law_743 (by decide) ?_
        refine wb_iast MC hB HS 0 (by decide) (7 * k9) (show 7 * k9 < 42 by omega) (ix_mul rfl rfl) dL_law_744 (fun H5 lH5 hB HS => ?_)
        refine lv_iconst (v := 0) hx hb dL_law_745 (by decide) ?_
        refine lv_istore (lv' := [(19, .int 0), (0, .ref b), (1, .ref (aa 0)), (2, .ref (aa 11)), (3, .ref (aa 12)), (4, .ref (aa 13)), (5, .ref (aa 14)), (6, .ref (aa 15)), (7, .ref (aa 16)), (8, .ref (aa 17)), (9, .int (nI t9)), (10, .int x9), (11, .int y9), (12, .int kd), (13, .int (nI sc)), (14, .int (nI la)), (15, .int (nI rk)), (16, .int (nI n9)), (17, .int (nI k9)), (18, .int (nI (7 * nl)))]) hx hb dL_law_746 hl (by decide) rfl (fun ls hl => ?_)
        refine lv_iconst (v := 0) hx hb dL_law_748 (by decide) ?_
        refine lv_istore (lv' := [(20, .int 0), (19, .int 0), (0, .ref b), (1, .ref (aa 0)), (2, .ref (aa 11)), (3, .ref (aa 12)), (4, .ref (aa 13)), (5, .ref (aa 14)), (6, .ref (aa 15)), (7, .ref (aa 16)), (8, .ref (aa 17)), (9, .int (nI t9)), (10, .int x9), (11, .int y9), (12, .int kd), (13, .int (nI sc)), (14, .int (nI la)), (15, .int (nI rk)), (16, .int (nI n9)), (17, .int (nI k9)), (18, .int (nI (7 * nl)))]) hx hb dL_law_749 hl (by decide) rfl (fun ls hl => ?_)
        have hO1 : wOk (nx_lift τ (nI k9)) ns nl nc (ti A 0 (7 * k9) 0) := ok_lift hO hk
        have loop : ∀ i : Nat, i ≤ nl → ∀ (locs : List Loc) (ls : Array Slot), va_S (fun q => n0 ≤ q) s.heap H5 locs → lv_has ls 28 [(20, .int (nI i)), (19, .int (nI (ct (fun j => nx_lift τ (nI k9) 4 j == 0) i))), (0, .ref b), (1, .ref (aa 0)), (2, .ref (aa 11)), (3, .ref (aa 12)), (4, .ref (aa 13)), (5, .ref (aa 14)), (6, .ref (aa 15)), (7, .ref (aa 16)), (8, .ref (aa 17)), (9, .int (nI t9)), (10, .int x9), (11, .int y9), (12, .int kd), (13, .int (nI sc)), (14, .int (nI la)), (15, .int (nI rk)), (16, .int (nI n9)), (17, .int (nI k9)), (18, .int (nI (7 * nl)))] → W p l e R s m args below meth c H5 locs cells slots Q (F0 m 751 ls []) := by
          refine ro_loop (nl) (fun i : Nat => ∀ (locs : List Loc) (ls : Array Slot), va_S (fun q => n0 ≤ q) s.heap H5 locs → lv_has ls 28 [(20, .int (nI i)), (19, .int (nI (ct (fun j => nx_lift τ (nI k9) 4 j == 0) i))), (0, .ref b), (1, .ref (aa 0)), (2, .ref (aa 11)), (3, .ref (aa 12)), (4, .ref (aa 13)), (5, .ref (aa 14)), (6, .ref (aa 15)), (7, .ref (aa 16)), (8, .ref (aa 17)), (9, .int (nI t9)), (10, .int x9), (11, .int y9), (12, .int kd), (13, .int (nI sc)), (14, .int (nI la)), (15, .int (nI rk)), (16, .int (nI n9)), (17, .int (nI k9)), (18, .int (nI (7 * nl)))] → W p l e R s m args below meth c H5 locs cells slots Q (F0 m 751 ls [])) ?_ ?_
          · intro locs ls HS hl
            refine lv_iload hx hb dL_law_751 (lv_at hl 0 rfl) ?_
            refine lv_aload hx hb dL_law_753 (lv_at hl 10 rfl) ?_
            refine lv_iconst (v := 2) hx hb dL_law_755 (by decide) ?_
            refine wb_iald MC hB 6 (by decide) 2 (show 2 < 4 by omega) rfl ((congrFun (va_up_ne _ _ (by decide)) _).trans (hg2.trans hI.2.2.1.1)) dL_law_756 ?_
            refine lv_icmp_ge (tgt := 778) hx hb dL_law_757 (by decide) (fun c_757 => ?_) (fun c_757 => absurd (nI_le (Nat.le_refl nl) (by omega)) c_757)
            refine lv_aload_n hx hb dL_law_778 rfl (lv_at hl 3 rfl) ?_
            refine lv_iload hx hb dL_law_779 (lv_at hl 19 rfl) ?_
            refine wb_q MC HS hB (rest := []) (As := [.int (nI k9)]) (th := th_lift τ (nI k9)) (rt := rt_lift τ (nI k9)) (τ2 := (nx_lift τ (nI k9))) (fun RR ad cn hX => q_lift hl9 hX hB.1) (fun E9 H9 hp => by obtain ⟨-, hp⟩ := hp; exact absurd ((if_pos hokF : th_lift τ (nI k9) = 0).symm.trans hp.1) (by decide)) rfl lkL_37 kw316 kw317 ⟨rfl, rfl, Nat.le_of_ble_eq_true rfl, Nat.le_of_ble_eq_true rfl, Nat.le_of_ble_eq_true rfl⟩ hR hl.1 rfl (Nat.le_of_ble_eq_true rfl) dL_law_781 (by omega) (by omega) (fun nw8 ns8 nl8 nc8 H6 lH6 hB8 HS => ?_)
            have hB := hB8.at (n_lift hI)
            clear hB8
            rw [rz_lift hI (k := nI k9)]
            refine lv_iload hx hb dL_law_784 (lv_at hl 1 rfl) ?_
            refine lv_icmp_eq (tgt := 791) hx hb dL_law_786 (by decide) (fun c_786 => ?_) (fun c_786 => absurd (rfl) c_786)
            refine lv_goto (tgt := 2040) hx hb dL_law_791 (by decide) ?_
            exact l_chk hl9 MC HS hB (hO1) hR (by omega) (by omega) (lv_sub hl [2, 3, 4, 5, 6, 7, 8, 9, 10, 11] rfl) (fun c9 s9 H1 locs1 ls1 h1 h2 => kk c9 s9 H1 locs1 ls1 (by omega) (by omega))
          · intro i hki ih locs ls HS hl
            refine lv_iload hx hb dL_law_751 (lv_at hl 0 rfl) ?_
            refine lv_aload hx hb dL_law_753 (lv_at hl 10 rfl) ?_
            refine lv_iconst (v := 2) hx hb dL_law_755 (by decide) ?_
            refine wb_iald MC hB 6 (by decide) 2 (show 2 < 4 by omega) rfl ((congrFun (va_up_ne _ _ (by decide)) _).trans (hg2.trans hI.2.2.1.1)) dL_law_756 ?_
            refine lv_icmp_ge (tgt := 778) hx hb dL_law_757 (by decide) (fun c_757 => absurd c_757 (nI_ge hki (by omega))) (fun c_757 => ?_)
            refine lv_iload hx hb dL_law_760 (lv_at hl 1 rfl) ?_
            refine lv_aload_n hx hb dL_law_762 rfl (lv_at hl 4 rfl) ?_
            refine lv_bipush (v := 7) hx hb dL_law_763 (by decide) ?_
            refine lv_iload hx hb dL_law_765 (lv_at hl 0 rfl) ?_
            refine lv_imul hx hb dL_law_767 ?_
            refine wb_iald MC hB 0 (by decide) (7 * i) (show 7 * i < 42 by omega) (ix_mul rfl rfl) ((hO1.2.2.1 i hki).1) dL_law_768 ?_
            refine lv_iadd hx hb dL_law_769 ?_
            refine lv_istore (lv' := [(19, .int ((nI (ct (fun j => nx_lift τ (nI k9) 4 j == 0) i) + bI ((nx_lift τ (nI k9)) 4 i = 0)))), (20, .int (nI i)), (0, .ref b), (1, .ref (aa 0)), (2, .ref (aa 11)), (3, .ref (aa 12)), (4, .ref (aa 13)), (5, .ref (aa 14)), (6, .ref (aa 15)), (7, .ref (aa 16)), (8, .ref (aa 17)), (9, .int (nI t9)), (10, .int x9), (11, .int y9), (12, .int kd), (13, .int (nI sc)), (14, .int (nI la)), (15, .int (nI rk)), (16, .int (nI n9)), (17, .int (nI k9)), (18, .int (nI (7 * nl)))]) hx hb dL_law_770 hl (by decide) rfl (fun ls hl => ?_)
            refine lv_iinc (v := nI i + 1) (lv' := [(20, .int (nI i + 1)), (19, .int ((nI (ct (fun j => nx_lift τ (nI k9) 4 j == 0) i) + bI ((nx_lift τ (nI k9)) 4 i = 0)))), (0, .ref b), (1, .ref (aa 0)), (2, .ref (aa 11)), (3, .ref (aa 12)), (4, .ref (aa 13)), (5, .ref (aa 14)), (6, .ref (aa 15)), (7, .ref (aa 16)), (8, .ref (aa 17)), (9, .int (nI t9)), (10, .int x9), (11, .int y9), (12, .int kd), (13, .int (nI sc)), (14, .int (nI la)), (15, .int (nI rk)), (16, .int (nI n9)), (17, .int (nI k9)), (18, .int (nI (7 * nl)))]) hx hb dL_law_772 hl (k := 1) rfl rfl (by decide) rfl (fun ls hl => ?_)
            refine lv_goto (tgt := 751) hx hb dL_law_775 (by decide) ?_
            rw [ct_b (p := fun j => nx_lift τ (nI k9) 4 j == 0) rfl, nI_1] at hl
            exact ih _ ls HS (lv_sub hl [0, 1, 2, 3, 4, 5, 6, 7, 8, 9, 10, 11, 12, 13, 14, 15, 16, 17, 18, 19, 20] rfl)
        exact loop 0 (Nat.zero_le _) _ ls HS (lv_sub hl [0, 1, 2, 3, 4, 5, 6, 7, 8, 9, 10, 11, 12, 13, 14, 15, 16, 17, 18, 19, 20] (by rfl))
      · have f_707 := bI_0.mp c_707
        have hnF : ¬ okF τ (nI k9) := tf_lift0 hI (by omega) (fun h9 => f_707 h9.2)
        refine lv_aload_n hx hb dL_law_710 rfl (lv_at hl 1 rfl) ?_
        refine lv_iconst (v := 3) hx hb dL_law_711 (by decide) ?_
        refine lv_iload hx hb dL_law_712 (lv_at hl 17 rfl) ?_
        refine lv_iconst (v := 0) hx hb dL_law_714 (by decide) ?_
        refine wb_r MC HS (rest := []) (r_lift hl9 hB (a9 := nI k9) (b9 := 0) (by rw [show th_lift τ (nI k9) = 1 from if_neg hnF]; decide)) lwr hR hl.1 (Nat.le_of_ble_eq_true rfl) dL_law_715 (by omega) (by omega) (fun H7 lH7 hB HS => ?_)
        refine lv_iconst (v := 2) hx hb dL_law_718 (by decide) ?_
        refine lv_icmp_ne (tgt := 735) hx hb dL_law_719 (by decide) (fun c_719 => absurd (rfl) c_719) (fun c_719 => ?_)
        refine lv_aload_n hx hb dL_law_722 rfl (lv_at hl 1 rfl) ?_
        refine lv_bipush (v := 6) hx hb dL_law_723 (by decide) ?_
        refine lv_iload hx hb dL_law_725 (lv_at hl 17 rfl) ?_
        refine lv_iconst (v := 0) hx hb dL_law_727 (by decide) ?_
        refine wb_r MC HS (rest := []) (r_hours hl9 hB (a9 := nI k9) (b9 := 0) (by rw [show th_hours τ (nI k9) = 1 from if_neg hnF]; decide)) lwr hR hl.1 (Nat.le_of_ble_eq_true rfl) dL_law_728 (by omega) (by omega) (fun H8 lH8 hB HS => ?_)
        refine lv_iconst (v := 2) hx hb dL_law_731 (by decide) ?_
        refine lv_icmp_eq (tgt := 2092) hx hb dL_law_732 (by decide) (fun c_732 => ?_) (fun c_732 => absurd (rfl) c_732)
        exact kk _ _ _ _ ls (by omega) (by omega) ⟨_, _, _, _, _, _, hB, hO⟩ HS (lv_sub hl [0, 1, 2, 3, 4, 5, 6, 7, 8, 9] rfl)
  · refine lv_goto (tgt := 2092) hx hb dL_law_690 (by decide) ?_
    exact kk _ _ _ _ ls (by omega) (by omega) ⟨_, _, _, _, _, _, hB, hO⟩ HS (lv_sub hl [0, 1, 2, 3, 4, 5, 6, 7, 8, 9] rfl)
