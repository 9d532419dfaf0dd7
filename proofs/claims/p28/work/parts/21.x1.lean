theorem ay_floorMod_7cf53_0 {t : Nat} (ht : t < 720) (c_7 : 0 ≤ ((nI t - 24) ^^^ 24)) : ((nI t - 24) - (nI t - 24) / 24 * 24) = nI (t % 24) := by
  exact fm_v2 t ht (Or.inl c_7)
theorem ay_floorMod_7cf53_1 {t : Nat} (ht : t < 720) (c_7 : ¬ (0 ≤ ((nI t - 24) ^^^ 24))) (c_11 : ((nI t - 24) - (nI t - 24) / 24 * 24) = 0) : ((nI t - 24) - (nI t - 24) / 24 * 24) = nI (t % 24) := by
  exact fm_v2 t ht (Or.inr c_11)
theorem ay_floorMod_7cf53_2 {t : Nat} (ht : t < 720) (c_7 : ¬ (0 ≤ ((nI t - 24) ^^^ 24))) (c_11 : ¬ (((nI t - 24) - (nI t - 24) / 24 * 24) = 0)) : (((nI t - 24) - (nI t - 24) / 24 * 24) + 24) = nI (t % 24) := by
  exact fm_v1 t ht c_7 c_11
theorem ay_floorDiv_7cf53_0 {t : Nat} (ht : t < 720) (c_7 : 0 ≤ ((nI t - 24) ^^^ 24)) : ((nI t - 24) / 24) = nI (t / 24) - 1 := by
  exact fd_v2 t ht (Or.inl c_7)
theorem ay_floorDiv_7cf53_1 {t : Nat} (ht : t < 720) (c_7 : ¬ (0 ≤ ((nI t - 24) ^^^ 24))) (c_14 : (((nI t - 24) / 24) * 24) = (nI t - 24)) : ((nI t - 24) / 24) = nI (t / 24) - 1 := by
  exact fd_v2 t ht (Or.inr c_14)
theorem ay_floorDiv_7cf53_2 {t : Nat} (ht : t < 720) (c_7 : ¬ (0 ≤ ((nI t - 24) ^^^ 24))) (c_14 : ¬ ((((nI t - 24) / 24) * 24) = (nI t - 24))) : (((nI t - 24) / 24) - 1) = nI (t / 24) - 1 := by
  exact fd_v1 t ht c_7 c_14
set_option maxHeartbeats 4000000 in
set_option maxRecDepth 100000 in
theorem j_floorMod {l : Launch} (D : va_G) (ids : Nat → ClassId) (n0 : Nat) {Hh : Heap} {t : Nat} (ht : t < 720) : ro_M l yJ9_floorMod_7cf53 cJ9_floorMod_7cf53 3 (some FieldType.int) { frames := 0, cells := 0, slots := 0, locals := 0 } D ids n0 [.int ((nI t - 24)), .int 24] Hh (fun v H1 => v = some (.int (nI (t % 24))) ∧ Hh = H1) := by
  refine ro_ofMF (by decide +kernel) (Nat.le_of_ble_eq_true rfl) ?_
  intro p e s m below meth c MC hhp hr hnm HS ls hl
  have hx := MC.1.1
  have hb := MC.1.2.1
  have hl : lv_has ls 3 [(0, .int ((nI t - 24))), (1, .int 24)] := hl
  refine lv_iload_n hx hb dJ9_floorMod_7cf53_0 rfl (lv_at hl 0 rfl) ?_
  refine lv_iload_n hx hb dJ9_floorMod_7cf53_1 rfl (lv_at hl 1 rfl) ?_
  refine lv_irem hx hb dJ9_floorMod_7cf53_2 (by decide) ?_
  refine lv_istore_n (lv' := [(2, .int (((nI t - 24) - (nI t - 24) / 24 * 24))), (0, .int ((nI t - 24))), (1, .int 24)]) hx hb dJ9_floorMod_7cf53_3 rfl hl (by decide) rfl (fun ls hl => ?_)
  refine lv_iload_n hx hb dJ9_floorMod_7cf53_4 rfl (lv_at hl 1 rfl) ?_
  refine lv_iload_n hx hb dJ9_floorMod_7cf53_5 rfl (lv_at hl 2 rfl) ?_
  refine lv_ixor hx hb dJ9_floorMod_7cf53_6 ?_
  refine lv_if_ge (tgt := 18) hx hb dJ9_floorMod_7cf53_7 (by decide) (fun c_7 => ?_) (fun c_7 => ?_)
  · refine lv_iload_n hx hb dJ9_floorMod_7cf53_18 rfl (lv_at hl 0 rfl) ?_
    exact ro_iretM MC HS hr (⟨by rw [ay_floorMod_7cf53_0 ht c_7], rfl⟩) (Nat.le_of_ble_eq_true rfl) (Nat.le_of_ble_eq_true rfl) dJ9_floorMod_7cf53_19
  · refine lv_iload_n hx hb dJ9_floorMod_7cf53_10 rfl (lv_at hl 0 rfl) ?_
    refine lv_if_eq (tgt := 18) hx hb dJ9_floorMod_7cf53_11 (by decide) (fun c_11 => ?_) (fun c_11 => ?_)
    · refine lv_iload_n hx hb dJ9_floorMod_7cf53_18 rfl (lv_at hl 0 rfl) ?_
      exact ro_iretM MC HS hr (⟨by rw [ay_floorMod_7cf53_1 ht c_7 c_11], rfl⟩) (Nat.le_of_ble_eq_true rfl) (Nat.le_of_ble_eq_true rfl) dJ9_floorMod_7cf53_19
    · refine lv_iload_n hx hb dJ9_floorMod_7cf53_14 rfl (lv_at hl 0 rfl) ?_
      refine lv_iload_n hx hb dJ9_floorMod_7cf53_15 rfl (lv_at hl 2 rfl) ?_
      refine lv_iadd hx hb dJ9_floorMod_7cf53_16 ?_
      exact ro_iretM MC HS hr (⟨by rw [ay_floorMod_7cf53_2 ht c_7 c_11], rfl⟩) (Nat.le_of_ble_eq_true rfl) (Nat.le_of_ble_eq_true rfl) dJ9_floorMod_7cf53_17
set_option maxHeartbeats 4000000 in
set_option maxRecDepth 100000 in
theorem j_floorDiv {l : Launch} (D : va_G) (ids : Nat → ClassId) (n0 : Nat) {Hh : Heap} {t : Nat} (ht : t < 720) : ro_M l yJ9_floorDiv_7cf53 cJ9_floorDiv_7cf53 3 (some FieldType.int) { frames := 0, cells := 0, slots := 0, locals := 0 } D ids n0 [.int ((nI t - 24)), .int 24] Hh (fun v H1 => v = some (.int (nI (t / 24) - 1)) ∧ Hh = H1) := by
  refine ro_ofMF (by decide +kernel) (Nat.le_of_ble_eq_true rfl) ?_
  intro p e s m below meth c MC hhp hr hnm HS ls hl
  have hx := MC.1.1
  have hb := MC.1.2.1
  have hl : lv_has ls 3 [(0, .int ((nI t - 24))), (1, .int 24)] := hl
  refine lv_iload_n hx hb dJ9_floorDiv_7cf53_0 rfl (lv_at hl 0 rfl) ?_
  refine lv_iload_n hx hb dJ9_floorDiv_7cf53_1 rfl (lv_at hl 1 rfl) ?_
  refine lv_idiv hx hb dJ9_floorDiv_7cf53_2 (by decide) ?_
  refine lv_istore_n (lv' := [(2, .int (((nI t - 24) / 24))), (0, .int ((nI t - 24))), (1, .int 24)]) hx hb dJ9_floorDiv_7cf53_3 rfl hl (by decide) rfl (fun ls hl => ?_)
  refine lv_iload_n hx hb dJ9_floorDiv_7cf53_4 rfl (lv_at hl 1 rfl) ?_
  refine lv_iload_n hx hb dJ9_floorDiv_7cf53_5 rfl (lv_at hl 2 rfl) ?_
  refine lv_ixor hx hb dJ9_floorDiv_7cf53_6 ?_
  refine lv_if_ge (tgt := 21) hx hb dJ9_floorDiv_7cf53_7 (by decide) (fun c_7 => ?_) (fun c_7 => ?_)
  · refine lv_iload_n hx hb dJ9_floorDiv_7cf53_21 rfl (lv_at hl 0 rfl) ?_
    exact ro_iretM MC HS hr (⟨by rw [ay_floorDiv_7cf53_0 ht c_7], rfl⟩) (Nat.le_of_ble_eq_true rfl) (Nat.le_of_ble_eq_true rfl) dJ9_floorDiv_7cf53_22
  · refine lv_iload_n hx hb dJ9_floorDiv_7cf53_10 rfl (lv_at hl 0 rfl) ?_
    refine lv_iload_n hx hb dJ9_floorDiv_7cf53_11 rfl (lv_at hl 2 rfl) ?_
    refine lv_imul hx hb dJ9_floorDiv_7cf53_12 ?_
    refine lv_iload_n hx hb dJ9_floorDiv_7cf53_13 rfl (lv_at hl 1 rfl) ?_
    refine lv_icmp_eq (tgt := 21) hx hb dJ9_floorDiv_7cf53_14 (by decide) (fun c_14 => ?_) (fun c_14 => ?_)
    · refine lv_iload_n hx hb dJ9_floorDiv_7cf53_21 rfl (lv_at hl 0 rfl) ?_
      exact ro_iretM MC HS hr (⟨by rw [ay_floorDiv_7cf53_1 ht c_7 c_14], rfl⟩) (Nat.le_of_ble_eq_true rfl) (Nat.le_of_ble_eq_true rfl) dJ9_floorDiv_7cf53_22
    · refine lv_iload_n hx hb dJ9_floorDiv_7cf53_17 rfl (lv_at hl 0 rfl) ?_
      refine lv_iconst (v := 1) hx hb dJ9_floorDiv_7cf53_18 (by decide) ?_
      refine lv_isub hx hb dJ9_floorDiv_7cf53_19 ?_
      exact ro_iretM MC HS hr (⟨by rw [ay_floorDiv_7cf53_2 ht c_7 c_14], rfl⟩) (Nat.le_of_ble_eq_true rfl) (Nat.le_of_ble_eq_true rfl) dJ9_floorDiv_7cf53_20
set_option maxHeartbeats 4000000 in
set_option maxRecDepth 100000 in
theorem x_isInSet {l : Launch} (D : va_G) (ids : Nat → ClassId) (n0 : Nat) {Hh : Heap} (a : Int32) (k : Nat) : ro_M l yX6_isInSet cX6_isInSet 2 (some FieldType.boolean) { frames := 0, cells := 0, slots := 0, locals := 0 } D ids n0 [.int a, .int (nI k)] Hh (fun v H1 => v = some (.int (bI (bit a k = true))) ∧ Hh = H1) := by
  refine ro_ofM (by decide +kernel) (Nat.le_of_ble_eq_true rfl) ?_
  intro p e s m below meth c MC hhp hr hnm HS ls hl
  have hx := MC.1.1
  have hb := MC.1.2.1
  have hl : lv_has ls 2 [(0, .int a), (1, .int (nI k))] := hl
  refine lv_iload_n hx hb dX6_isInSet_0 rfl (lv_at hl 0 rfl) ?_
  refine lv_iload_n hx hb dX6_isInSet_1 rfl (lv_at hl 1 rfl) ?_
  refine lv_ishr hx hb dX6_isInSet_2 ?_
  refine lv_iconst (v := 1) hx hb dX6_isInSet_3 (by decide) ?_
  refine lv_iand hx hb dX6_isInSet_4 ?_
  refine lv_if_eq (tgt := 12) hx hb dX6_isInSet_5 (by decide) (fun c_5 => ?_) (fun c_5 => ?_)
  · refine lv_iconst (v := 0) hx hb dX6_isInSet_12 (by decide) ?_
    exact ro_zretM MC HS hr (by first | rfl | exact bI_nar) (⟨by rw [bI_f (by unfold bit; simp [c_5])], rfl⟩) (Nat.le_of_ble_eq_true rfl) (Nat.le_of_ble_eq_true rfl) dX6_isInSet_13
  · refine lv_iconst (v := 1) hx hb dX6_isInSet_8 (by decide) ?_
    refine lv_goto (tgt := 13) hx hb dX6_isInSet_9 (by decide) ?_
    exact ro_zretM MC HS hr (by first | rfl | exact bI_nar) (⟨by rw [bI_t (by unfold bit; simp [c_5])], rfl⟩) (Nat.le_of_ble_eq_true rfl) (Nat.le_of_ble_eq_true rfl) dX6_isInSet_13
set_option maxHeartbeats 4000000 in
set_option maxRecDepth 100000 in
theorem x_hourBehind {l : Launch} {D : va_G} {ids : Nat → ClassId} {n0 : Nat} {RR : List Nat} {ad : Nat → Nat} {cn : Nat → va_E} {τ : Tau} {ns nl nc : Nat} {Hh : Heap} (hX : xH D ids n0 RR ad cn τ ns nl nc Hh) {k : Nat} (hk : k < nc) : ro_M l yX0_hourBehind cX0_hourBehind 1 (some FieldType.int) { frames := 0, cells := 0, slots := 0, locals := 0 } D ids n0 [.ref (ad (60 + k))] Hh (fun v H1 => v = some (.int (τ 12 k + τ 13 k)) ∧ Hh = H1) := by
  refine ro_ofM (by decide +kernel) (Nat.le_of_ble_eq_true rfl) ?_
  intro p e s m below meth c MC hhp hr hnm HS ls hl
  have hx := MC.1.1
  have hb := MC.1.2.1
  have hl : lv_has ls 1 [(0, .ref (ad (60 + k)))] := hl
  obtain ⟨HP, hRR, sa, bm, fm, lf, ff, cf, h0, h1, h1b, h2, h2b, h7, h7b, h3, h3b, h40, h4, h4b, h60, h5, h6⟩ := id hX
  refine lv_aload_n hx hb dX0_hourBehind_0 rfl (lv_at hl 0 rfl) ?_
  refine ro_get MC HP (hRR.c (show k < nc by omega)) (h60 k (by omega)) (rfl : vwCl[0]? = some (RX0, TX0, 8)) inU0 3 (by decide) kw407 rfl rfl dX0_hourBehind_1 ?_
  refine lv_aload_n hx hb dX0_hourBehind_4 rfl (lv_at hl 0 rfl) ?_
  refine ro_get MC HP (hRR.c (show k < nc by omega)) (h60 k (by omega)) (rfl : vwCl[0]? = some (RX0, TX0, 8)) inU0 1 (by decide) kw403 rfl rfl dX0_hourBehind_5 ?_
  refine lv_iadd hx hb dX0_hourBehind_8 ?_
  exact ro_iretM MC HS hr (⟨rfl, rfl⟩) (Nat.le_of_ble_eq_true rfl) (Nat.le_of_ble_eq_true rfl) dX0_hourBehind_9
set_option maxHeartbeats 4000000 in
set_option maxRecDepth 100000 in
theorem x_hourOfDay {l : Launch} {D : va_G} {ids : Nat → ClassId} {n0 : Nat} {RR : List Nat} {ad : Nat → Nat} {cn : Nat → va_E} {τ : Tau} {ns nl nc : Nat} {Hh : Heap} (hX : xH D ids n0 RR ad cn τ ns nl nc Hh) {j t : Nat} {h : Int32} (hj : j < 4) (ht : t < 720) (hte : h + τ 2 j = nI t - 24) : ro_M l yX5_hourOfDay cX5_hourOfDay 2 (some FieldType.int) { frames := 1, cells := 0, slots := 0, locals := 30 } D ids n0 [.ref (ad (7 + j)), .int h] Hh (fun v H1 => v = some (.int (nI (t % 24))) ∧ Hh = H1) := by
  refine ro_ofM (by decide +kernel) (Nat.le_of_ble_eq_true rfl) ?_
  intro p e s m below meth c MC hhp hr hnm HS ls hl
  have hx := MC.1.1
  have hb := MC.1.2.1
  have hl : lv_has ls 2 [(0, .ref (ad (7 + j))), (1, .int h)] := hl
  obtain ⟨HP, hRR, sa, bm, fm, lf, ff, cf, h0, h1, h1b, h2, h2b, h7, h7b, h3, h3b, h40, h4, h4b, h60, h5, h6⟩ := id hX
  refine lv_iload_n hx hb dX5_hourOfDay_0 rfl (lv_at hl 1 rfl) ?_
  refine lv_aload_n hx hb dX5_hourOfDay_1 rfl (lv_at hl 0 rfl) ?_
  refine ro_get MC HP (hRR.l (show 7 + j < 18 by omega)) (h7 j (by omega)) (rfl : vwCl[4]? = some (RX5, TX5, 2)) inU5 0 (by decide) kw51 rfl rfl dX5_hourOfDay_2 ?_
  refine lv_iadd hx hb dX5_hourOfDay_5 ?_
  refine lv_bipush (v := 24) hx hb dX5_hourOfDay_6 (by decide) ?_
  refine ro_callS MC HS (rest := []) (As := [.int ((h + τ 2 j)), .int 24]) (by rw [hte]; exact j_floorMod D ids n0 ht) (lkX5_15) (kw367) ⟨Nat.le_of_ble_eq_true rfl, Nat.le_of_ble_eq_true rfl⟩ hl.1 rfl (Nat.le_of_ble_eq_true rfl) dX5_hourOfDay_8 ⟨Nat.le_of_ble_eq_true rfl, Nat.le_of_ble_eq_true rfl⟩ (fun v9 H1 lH1 hp hz HS => ?_)
  obtain ⟨rfl, rfl⟩ := hp
  exact ro_iretM MC HS hr (⟨rfl, rfl⟩) (Nat.le_of_ble_eq_true rfl) (Nat.le_of_ble_eq_true rfl) dX5_hourOfDay_11
set_option maxHeartbeats 4000000 in
set_option maxRecDepth 100000 in
theorem x_dayOf {l : Launch} {D : va_G} {ids : Nat → ClassId} {n0 : Nat} {RR : List Nat} {ad : Nat → Nat} {cn : Nat → va_E} {τ : Tau} {ns nl nc : Nat} {Hh : Heap} (hX : xH D ids n0 RR ad cn τ ns nl nc Hh) {j t : Nat} {h : Int32} (hj : j < 4) (ht : t < 720) (hte : h + τ 2 j = nI t - 24) : ro_M l yX5_dayOf cX5_dayOf 2 (some FieldType.int) { frames := 1, cells := 0, slots := 0, locals := 30 } D ids n0 [.ref (ad (7 + j)), .int h] Hh (fun v H1 => v = some (.int (nI (t / 24) - 1)) ∧ Hh = H1) := by
  refine ro_ofM (by decide +kernel) (Nat.le_of_ble_eq_true rfl) ?_
  intro p e s m below meth c MC hhp hr hnm HS ls hl
  have hx := MC.1.1
  have hb := MC.1.2.1
  have hl : lv_has ls 2 [(0, .ref (ad (7 + j))), (1, .int h)] := hl
  obtain ⟨HP, hRR, sa, bm, fm, lf, ff, cf, h0, h1, h1b, h2, h2b, h7, h7b, h3, h3b, h40, h4, h4b, h60, h5, h6⟩ := id hX
  refine lv_iload_n hx hb dX5_dayOf_0 rfl (lv_at hl 1 rfl) ?_
  refine lv_aload_n hx hb dX5_dayOf_1 rfl (lv_at hl 0 rfl) ?_
  refine ro_get MC HP (hRR.l (show 7 + j < 18 by omega)) (h7 j (by omega)) (rfl : vwCl[4]? = some (RX5, TX5, 2)) inU5 0 (by decide) kw51 rfl rfl dX5_dayOf_2 ?_
  refine lv_iadd hx hb dX5_dayOf_5 ?_
  refine lv_bipush (v := 24) hx hb dX5_dayOf_6 (by decide) ?_
  refine ro_callS MC HS (rest := []) (As := [.int ((h + τ 2 j)), .int 24]) (by rw [hte]; exact j_floorDiv D ids n0 ht) (lkX5_21) (kw377) ⟨Nat.le_of_ble_eq_true rfl, Nat.le_of_ble_eq_true rfl⟩ hl.1 rfl (Nat.le_of_ble_eq_true rfl) dX5_dayOf_8 ⟨Nat.le_of_ble_eq_true rfl, Nat.le_of_ble_eq_true rfl⟩ (fun v9 H1 lH1 hp hz HS => ?_)
  obtain ⟨rfl, rfl⟩ := hp
  exact ro_iretM MC HS hr (⟨rfl, rfl⟩) (Nat.le_of_ble_eq_true rfl) (Nat.le_of_ble_eq_true rfl) dX5_dayOf_11
set_option maxHeartbeats 4000000 in
set_option maxRecDepth 100000 in
theorem x_isFeastDay {l : Launch} {D : va_G} {ids : Nat → ClassId} {n0 : Nat} {RR : List Nat} {ad : Nat → Nat} {cn : Nat → va_E} {τ : Tau} {ns nl nc : Nat} {Hh : Heap} (hX : xH D ids n0 RR ad cn τ ns nl nc Hh) {j t : Nat} {d9 : Int32} (hj : j < 4) (ht : t < 30) (hte : d9 - (-1) = nI t) : ro_M l yX5_isFeastDay cX5_isFeastDay 2 (some FieldType.boolean) { frames := 1, cells := 0, slots := 0, locals := 30 } D ids n0 [.ref (ad (7 + j)), .int d9] Hh (fun v H1 => v = some (.int (bI ((!(τ 3 (30 * j + t) == 0)) = true))) ∧ Hh = H1) := by
  refine ro_ofM (by decide +kernel) (Nat.le_of_ble_eq_true rfl) ?_
  intro p e s m below meth c MC hhp hr hnm HS ls hl
  have hx := MC.1.1
  have hb := MC.1.2.1
  have hl : lv_has ls 2 [(0, .ref (ad (7 + j))), (1, .int d9)] := hl
  obtain ⟨HP, hRR, sa, bm, fm, lf, ff, cf, h0, h1, h1b, h2, h2b, h7, h7b, h3, h3b, h40, h4, h4b, h60, h5, h6⟩ := id hX
  refine lv_aload_n hx hb dX5_isFeastDay_0 rfl (lv_at hl 0 rfl) ?_
  refine ro_get MC HP (hRR.l (show 7 + j < 18 by omega)) (h7 j (by omega)) (rfl : vwCl[4]? = some (RX5, TX5, 2)) inU5 1 (by decide) kw53 rfl rfl dX5_isFeastDay_1 ?_
  refine lv_iload_n hx hb dX5_isFeastDay_4 rfl (lv_at hl 1 rfl) ?_
  refine lv_iconst (v := (-1)) hx hb dX5_isFeastDay_5 (by decide) ?_
  refine lv_isub hx hb dX5_isFeastDay_6 ?_
  refine ro_callSN MC HS (rest := []) (As := [.int (fm j), .int ((d9 - (-1)))]) (by rw [hte]; exact x_isInSet D ids n0 (fm j) t) (lnX5_27) (kw229) ⟨Nat.le_of_ble_eq_true rfl, Nat.le_of_ble_eq_true rfl⟩ hl.1 rfl (Nat.le_of_ble_eq_true rfl) dX5_isFeastDay_7 ⟨Nat.le_of_ble_eq_true rfl, Nat.le_of_ble_eq_true rfl⟩ (fun v9 H1 lH1 hp hz HS => ?_)
  obtain ⟨rfl, rfl⟩ := hp
  exact ro_zretM MC HS hr (by first | rfl | exact bI_nar) (⟨by rw [h7b j hj t ht], rfl⟩) (Nat.le_of_ble_eq_true rfl) (Nat.le_of_ble_eq_true rfl) dX5_isFeastDay_10
