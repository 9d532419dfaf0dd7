set_option maxHeartbeats 4000000 in
set_option maxRecDepth 100000 in
theorem x_iChange {l : Launch} {D : va_G} {ids : Nat → ClassId} {n0 : Nat} {RR : List Nat} {ad : Nat → Nat} {cn : Nat → va_E} {Hh : Heap} (HP : ro_P D n0 RR ad cn Hh) {r : Nat} (hr9 : r ∈ RR) {s1 : Int32} {b1 : Int32} {n1 : Int32} {r1 : Int32} (hf : cn r = .inr (0, [.int 0, .int 0, .int 0, .int 0, .int 0, .int 0, .int 0, .int 0])) : ro_M l yX0_init cX0_init 5 none { frames := 1, cells := 0, slots := 0, locals := 30 } D ids n0 [.ref (ad r), .int s1, .int b1, .int n1, .int r1] Hh (fun v H1 => v = none ∧ ∃ cn1, ro_P D n0 RR ad cn1 H1 ∧ cn1 r = .inr (0, [.int s1, .int n1, .int r1, .int b1, .int 0, .int 0, .int 0, .int 20]) ∧ ∀ j, j ≠ r → cn1 j = cn j) := by
  refine ro_ofM (by decide +kernel) (Nat.le_of_ble_eq_true rfl) ?_
  intro p e s m below meth c MC hhp hr hnm HS ls hl
  have hx := MC.1.1
  have hb := MC.1.2.1
  have hl : lv_has ls 5 [(0, .ref (ad r)), (1, .int s1), (2, .int b1), (3, .int n1), (4, .int r1)] := hl
  refine lv_aload_n hx hb dX0_init_0 rfl (lv_at hl 0 rfl) ?_
  refine ro_obj MC kw400 kw38 kw39 hl.1 dX0_init_1 ⟨Nat.le_of_ble_eq_true rfl, Nat.le_of_ble_eq_true rfl⟩ ?_
  refine lv_aload_n hx hb dX0_init_4 rfl (lv_at hl 0 rfl) ?_
  refine lv_bipush (v := 20) hx hb dX0_init_5 (by decide) ?_
  refine ro_put MC HP HS hr9 hf (rfl : vwCl[0]? = some (RX0, TX0, 8)) inU0 tyX0_ok nmX0 7 (by decide) kw412 rfl rfl rfl rfl (Nat.le_of_ble_eq_true rfl) dX0_init_7 (fun H1 lH1 HP HS => ?_)
  refine lv_aload_n hx hb dX0_init_10 rfl (lv_at hl 0 rfl) ?_
  refine lv_iload_n hx hb dX0_init_11 rfl (lv_at hl 1 rfl) ?_
  refine ro_putF MC (hnm.trans rfl) HP HS hr9 (va_up_self ..) (rfl : vwCl[0]? = some (RX0, TX0, 8)) inU0 tyX0_ok nmX0 0 (by decide) kw401 rfl rfl rfl rfl (Nat.le_of_ble_eq_true rfl) dX0_init_12 (fun H2 lH2 HP HS => ?_)
  refine lv_aload_n hx hb dX0_init_15 rfl (lv_at hl 0 rfl) ?_
  refine lv_iload_n hx hb dX0_init_16 rfl (lv_at hl 2 rfl) ?_
  refine ro_put MC HP HS hr9 (va_up_self ..) (rfl : vwCl[0]? = some (RX0, TX0, 8)) inU0 tyX0_ok nmX0 3 (by decide) kw407 rfl rfl rfl rfl (Nat.le_of_ble_eq_true rfl) dX0_init_17 (fun H3 lH3 HP HS => ?_)
  refine lv_aload_n hx hb dX0_init_20 rfl (lv_at hl 0 rfl) ?_
  refine lv_iload_n hx hb dX0_init_21 rfl (lv_at hl 3 rfl) ?_
  refine ro_putF MC (hnm.trans rfl) HP HS hr9 (va_up_self ..) (rfl : vwCl[0]? = some (RX0, TX0, 8)) inU0 tyX0_ok nmX0 1 (by decide) kw403 rfl rfl rfl rfl (Nat.le_of_ble_eq_true rfl) dX0_init_22 (fun H4 lH4 HP HS => ?_)
  refine lv_aload_n hx hb dX0_init_25 rfl (lv_at hl 0 rfl) ?_
  refine lv_iload hx hb dX0_init_26 (lv_at hl 4 rfl) ?_
  refine ro_putF MC (hnm.trans rfl) HP HS hr9 (va_up_self ..) (rfl : vwCl[0]? = some (RX0, TX0, 8)) inU0 tyX0_ok nmX0 2 (by decide) kw405 rfl rfl rfl rfl (Nat.le_of_ble_eq_true rfl) dX0_init_28 (fun H5 lH5 HP HS => ?_)
  exact ro_vretM MC HS hr (⟨rfl, _, HP, va_up_self .., fun j hj => ((va_up_ne _ _ hj).trans ((va_up_ne _ _ hj).trans ((va_up_ne _ _ hj).trans ((va_up_ne _ _ hj).trans (va_up_ne _ _ hj)))))⟩) (Nat.le_of_ble_eq_true rfl) (Nat.le_of_ble_eq_true rfl) dX0_init_31
set_option maxHeartbeats 4000000 in
set_option maxRecDepth 100000 in
theorem x_iLand {l : Launch} {D : va_G} {ids : Nat → ClassId} {n0 : Nat} {RR : List Nat} {ad : Nat → Nat} {cn : Nat → va_E} {Hh : Heap} (HP : ro_P D n0 RR ad cn Hh) {r : Nat} (hr9 : r ∈ RR)  (hf : cn r = .inr (4, [.int 0, .int 0])) : ro_M l yX5_init cX5_init 1 none { frames := 1, cells := 0, slots := 0, locals := 30 } D ids n0 [.ref (ad r)] Hh (fun v H1 => v = none ∧ ∃ cn1, ro_P D n0 RR ad cn1 H1 ∧ cn1 r = .inr (4, [.int 0, .int 0]) ∧ ∀ j, j ≠ r → cn1 j = cn j) := by
  refine ro_ofM (by decide +kernel) (Nat.le_of_ble_eq_true rfl) ?_
  intro p e s m below meth c MC hhp hr hnm HS ls hl
  have hx := MC.1.1
  have hb := MC.1.2.1
  have hl : lv_has ls 1 [(0, .ref (ad r))] := hl
  refine lv_aload_n hx hb dX5_init_0 rfl (lv_at hl 0 rfl) ?_
  refine ro_obj MC kw50 kw38 kw39 hl.1 dX5_init_1 ⟨Nat.le_of_ble_eq_true rfl, Nat.le_of_ble_eq_true rfl⟩ ?_
  exact ro_vretM MC HS hr (⟨rfl, _, HP, hf, fun j hj => rfl⟩) (Nat.le_of_ble_eq_true rfl) (Nat.le_of_ble_eq_true rfl) dX5_init_4
set_option maxHeartbeats 4000000 in
set_option maxRecDepth 100000 in
theorem x_iF1 {l : Launch} {D : va_G} {ids : Nat → ClassId} {n0 : Nat} {RR : List Nat} {ad : Nat → Nat} {cn : Nat → va_E} {Hh : Heap} (HP : ro_P D n0 RR ad cn Hh) {r : Nat} (hr9 : r ∈ RR) {s1 : Int32} {r1 : Int32} (hf : cn r = .inr (1, [.int 0, .int 0, .null, .int 0, .int 0])) : ro_M l yX1_init cX1_init 3 none { frames := 1, cells := 0, slots := 0, locals := 30 } D ids n0 [.ref (ad r), .int s1, .int r1] Hh (fun v H1 => v = none ∧ ∃ cn1, ro_P D n0 RR ad cn1 H1 ∧ cn1 r = .inr (1, [.int s1, .int r1, .null, .int 0, .int 0]) ∧ ∀ j, j ≠ r → cn1 j = cn j) := by
  refine ro_ofM (by decide +kernel) (Nat.le_of_ble_eq_true rfl) ?_
  intro p e s m below meth c MC hhp hr hnm HS ls hl
  have hx := MC.1.1
  have hb := MC.1.2.1
  have hl : lv_has ls 3 [(0, .ref (ad r)), (1, .int s1), (2, .int r1)] := hl
  refine lv_aload_n hx hb dX1_init_0 rfl (lv_at hl 0 rfl) ?_
  refine ro_obj MC kw257 kw38 kw39 hl.1 dX1_init_1 ⟨Nat.le_of_ble_eq_true rfl, Nat.le_of_ble_eq_true rfl⟩ ?_
  refine lv_aload_n hx hb dX1_init_4 rfl (lv_at hl 0 rfl) ?_
  refine lv_iload_n hx hb dX1_init_5 rfl (lv_at hl 1 rfl) ?_
  refine ro_putF MC (hnm.trans rfl) HP HS hr9 hf (rfl : vwCl[1]? = some (RX2, TX2, 5)) inU2 tyX2_ok nmX2 0 (by decide) kw260 rfl rfl rfl rfl (Nat.le_of_ble_eq_true rfl) dX1_init_6 (fun H1 lH1 HP HS => ?_)
  refine lv_aload_n hx hb dX1_init_9 rfl (lv_at hl 0 rfl) ?_
  refine lv_iload_n hx hb dX1_init_10 rfl (lv_at hl 2 rfl) ?_
  refine ro_putF MC (hnm.trans rfl) HP HS hr9 (va_up_self ..) (rfl : vwCl[1]? = some (RX2, TX2, 5)) inU2 tyX2_ok nmX2 1 (by decide) kw262 rfl rfl rfl rfl (Nat.le_of_ble_eq_true rfl) dX1_init_11 (fun H2 lH2 HP HS => ?_)
  exact ro_vretM MC HS hr (⟨rfl, _, HP, va_up_self .., fun j hj => ((va_up_ne _ _ hj).trans (va_up_ne _ _ hj))⟩) (Nat.le_of_ble_eq_true rfl) (Nat.le_of_ble_eq_true rfl) dX1_init_14
set_option maxHeartbeats 4000000 in
set_option maxRecDepth 100000 in
theorem x_iF2 {l : Launch} {D : va_G} {ids : Nat → ClassId} {n0 : Nat} {RR : List Nat} {ad : Nat → Nat} {cn : Nat → va_E} {Hh : Heap} (HP : ro_P D n0 RR ad cn Hh) {r : Nat} (hr9 : r ∈ RR) {s1 : Int32} {r1 : Int32} (hf : cn r = .inr (2, [.int 0, .int 0, .null])) : ro_M l yX1_init cX1_init 3 none { frames := 1, cells := 0, slots := 0, locals := 30 } D ids n0 [.ref (ad r), .int s1, .int r1] Hh (fun v H1 => v = none ∧ ∃ cn1, ro_P D n0 RR ad cn1 H1 ∧ cn1 r = .inr (2, [.int s1, .int r1, .null]) ∧ ∀ j, j ≠ r → cn1 j = cn j) := by
  refine ro_ofM (by decide +kernel) (Nat.le_of_ble_eq_true rfl) ?_
  intro p e s m below meth c MC hhp hr hnm HS ls hl
  have hx := MC.1.1
  have hb := MC.1.2.1
  have hl : lv_has ls 3 [(0, .ref (ad r)), (1, .int s1), (2, .int r1)] := hl
  refine lv_aload_n hx hb dX1_init_0 rfl (lv_at hl 0 rfl) ?_
  refine ro_obj MC kw257 kw38 kw39 hl.1 dX1_init_1 ⟨Nat.le_of_ble_eq_true rfl, Nat.le_of_ble_eq_true rfl⟩ ?_
  refine lv_aload_n hx hb dX1_init_4 rfl (lv_at hl 0 rfl) ?_
  refine lv_iload_n hx hb dX1_init_5 rfl (lv_at hl 1 rfl) ?_
  refine ro_putF MC (hnm.trans rfl) HP HS hr9 hf (rfl : vwCl[2]? = some (RX3, TX3, 3)) inU3 tyX3_ok nmX3 0 (by decide) kw260 rfl rfl rfl rfl (Nat.le_of_ble_eq_true rfl) dX1_init_6 (fun H1 lH1 HP HS => ?_)
  refine lv_aload_n hx hb dX1_init_9 rfl (lv_at hl 0 rfl) ?_
  refine lv_iload_n hx hb dX1_init_10 rfl (lv_at hl 2 rfl) ?_
  refine ro_putF MC (hnm.trans rfl) HP HS hr9 (va_up_self ..) (rfl : vwCl[2]? = some (RX3, TX3, 3)) inU3 tyX3_ok nmX3 1 (by decide) kw262 rfl rfl rfl rfl (Nat.le_of_ble_eq_true rfl) dX1_init_11 (fun H2 lH2 HP HS => ?_)
  exact ro_vretM MC HS hr (⟨rfl, _, HP, va_up_self .., fun j hj => ((va_up_ne _ _ hj).trans (va_up_ne _ _ hj))⟩) (Nat.le_of_ble_eq_true rfl) (Nat.le_of_ble_eq_true rfl) dX1_init_14
set_option maxHeartbeats 4000000 in
set_option maxRecDepth 100000 in
theorem x_iF3 {l : Launch} {D : va_G} {ids : Nat → ClassId} {n0 : Nat} {RR : List Nat} {ad : Nat → Nat} {cn : Nat → va_E} {Hh : Heap} (HP : ro_P D n0 RR ad cn Hh) {r : Nat} (hr9 : r ∈ RR) {s1 : Int32} {r1 : Int32} (hf : cn r = .inr (3, [.int 0, .int 0, .int 0, .int 0])) : ro_M l yX1_init cX1_init 3 none { frames := 1, cells := 0, slots := 0, locals := 30 } D ids n0 [.ref (ad r), .int s1, .int r1] Hh (fun v H1 => v = none ∧ ∃ cn1, ro_P D n0 RR ad cn1 H1 ∧ cn1 r = .inr (3, [.int s1, .int r1, .int 0, .int 0]) ∧ ∀ j, j ≠ r → cn1 j = cn j) := by
  refine ro_ofM (by decide +kernel) (Nat.le_of_ble_eq_true rfl) ?_
  intro p e s m below meth c MC hhp hr hnm HS ls hl
  have hx := MC.1.1
  have hb := MC.1.2.1
  have hl : lv_has ls 3 [(0, .ref (ad r)), (1, .int s1), (2, .int r1)] := hl
  refine lv_aload_n hx hb dX1_init_0 rfl (lv_at hl 0 rfl) ?_
  refine ro_obj MC kw257 kw38 kw39 hl.1 dX1_init_1 ⟨Nat.le_of_ble_eq_true rfl, Nat.le_of_ble_eq_true rfl⟩ ?_
  refine lv_aload_n hx hb dX1_init_4 rfl (lv_at hl 0 rfl) ?_
  refine lv_iload_n hx hb dX1_init_5 rfl (lv_at hl 1 rfl) ?_
  refine ro_putF MC (hnm.trans rfl) HP HS hr9 hf (rfl : vwCl[3]? = some (RX4, TX4, 4)) inU4 tyX4_ok nmX4 0 (by decide) kw260 rfl rfl rfl rfl (Nat.le_of_ble_eq_true rfl) dX1_init_6 (fun H1 lH1 HP HS => ?_)
  refine lv_aload_n hx hb dX1_init_9 rfl (lv_at hl 0 rfl) ?_
  refine lv_iload_n hx hb dX1_init_10 rfl (lv_at hl 2 rfl) ?_
  refine ro_putF MC (hnm.trans rfl) HP HS hr9 (va_up_self ..) (rfl : vwCl[3]? = some (RX4, TX4, 4)) inU4 tyX4_ok nmX4 1 (by decide) kw262 rfl rfl rfl rfl (Nat.le_of_ble_eq_true rfl) dX1_init_11 (fun H2 lH2 HP HS => ?_)
  exact ro_vretM MC HS hr (⟨rfl, _, HP, va_up_self .., fun j hj => ((va_up_ne _ _ hj).trans (va_up_ne _ _ hj))⟩) (Nat.le_of_ble_eq_true rfl) (Nat.le_of_ble_eq_true rfl) dX1_init_14
set_option maxHeartbeats 4000000 in
set_option maxRecDepth 100000 in
theorem x_iOnce {l : Launch} {D : va_G} {ids : Nat → ClassId} {n0 : Nat} {RR : List Nat} {ad : Nat → Nat} {cn : Nat → va_E} {Hh : Heap} (HP : ro_P D n0 RR ad cn Hh) {r : Nat} (hr9 : r ∈ RR) {s1 : Int32} {r1 : Int32} {f1 : Int32} {t1 : Int32} (hf : cn r = .inr (3, [.int 0, .int 0, .int 0, .int 0])) : ro_M l yX4_init cX4_init 5 none { frames := 2, cells := 0, slots := 0, locals := 60 } D ids n0 [.ref (ad r), .int s1, .int r1, .int f1, .int t1] Hh (fun v H1 => v = none ∧ ∃ cn1, ro_P D n0 RR ad cn1 H1 ∧ cn1 r = .inr (3, [.int s1, .int r1, .int f1, .int t1]) ∧ ∀ j, j ≠ r → cn1 j = cn j) := by
  refine ro_ofM (by decide +kernel) (Nat.le_of_ble_eq_true rfl) ?_
  intro p e s m below meth c MC hhp hr hnm HS ls hl
  have hx := MC.1.1
  have hb := MC.1.2.1
  have hl : lv_has ls 5 [(0, .ref (ad r)), (1, .int s1), (2, .int r1), (3, .int f1), (4, .int t1)] := hl
  refine lv_aload_n hx hb dX4_init_0 rfl (lv_at hl 0 rfl) ?_
  refine lv_iload_n hx hb dX4_init_1 rfl (lv_at hl 1 rfl) ?_
  refine lv_iload_n hx hb dX4_init_2 rfl (lv_at hl 2 rfl) ?_
  refine ro_callI MC HS (rest := []) (As := [.int s1, .int r1]) (x_iF3 HP hr9 hf) (lkX4_1) (kw255) (rfl) ⟨Nat.le_of_ble_eq_true rfl, Nat.le_of_ble_eq_true rfl⟩ hl.1 rfl (Nat.le_of_ble_eq_true rfl) dX4_init_3 ⟨Nat.le_of_ble_eq_true rfl, Nat.le_of_ble_eq_true rfl⟩ (fun v9 H1 lH1 hp hz HS => ?_)
  obtain ⟨rfl, cn1, HP, hf1, hn1⟩ := hp
  refine lv_aload_n hx hb dX4_init_6 rfl (lv_at hl 0 rfl) ?_
  refine lv_iload_n hx hb dX4_init_7 rfl (lv_at hl 3 rfl) ?_
  refine ro_putF MC (hnm.trans rfl) HP HS hr9 hf1 (rfl : vwCl[3]? = some (RX4, TX4, 4)) inU4 tyX4_ok nmX4 2 (by decide) kw258 rfl rfl rfl rfl (Nat.le_of_ble_eq_true rfl) dX4_init_8 (fun H2 lH2 HP HS => ?_)
  refine lv_aload_n hx hb dX4_init_11 rfl (lv_at hl 0 rfl) ?_
  refine lv_iload hx hb dX4_init_12 (lv_at hl 4 rfl) ?_
  refine ro_putF MC (hnm.trans rfl) HP HS hr9 (va_up_self ..) (rfl : vwCl[3]? = some (RX4, TX4, 4)) inU4 tyX4_ok nmX4 3 (by decide) kw259 rfl rfl rfl rfl (Nat.le_of_ble_eq_true rfl) dX4_init_14 (fun H3 lH3 HP HS => ?_)
  exact ro_vretM MC HS hr (⟨rfl, _, HP, va_up_self .., fun j hj => ((va_up_ne _ _ hj).trans ((va_up_ne _ _ hj).trans (hn1 j hj)))⟩) (Nat.le_of_ble_eq_true rfl) (Nat.le_of_ble_eq_true rfl) dX4_init_17
set_option maxHeartbeats 4000000 in
set_option maxRecDepth 100000 in
theorem x_iDaily {l : Launch} {D : va_G} {ids : Nat → ClassId} {n0 : Nat} {RR : List Nat} {ad : Nat → Nat} {cn : Nat → va_E} {Hh : Heap} (HP : ro_P D n0 RR ad cn Hh) {r : Nat} (hr9 : r ∈ RR) {s1 : Int32} {r1 : Int32} {b1 : Nat} {f1 : Int32} {t1 : Int32} (hf : cn r = .inr (1, [.int 0, .int 0, .null, .int 0, .int 0])) : ro_M l yX2_init cX2_init 6 none { frames := 2, cells := 0, slots := 0, locals := 60 } D ids n0 [.ref (ad r), .int s1, .int r1, .ref b1, .int f1, .int t1] Hh (fun v H1 => v = none ∧ ∃ cn1, ro_P D n0 RR ad cn1 H1 ∧ cn1 r = .inr (1, [.int s1, .int r1, .ref b1, .int f1, .int t1]) ∧ ∀ j, j ≠ r → cn1 j = cn j) := by
  refine ro_ofM (by decide +kernel) (Nat.le_of_ble_eq_true rfl) ?_
  intro p e s m below meth c MC hhp hr hnm HS ls hl
  have hx := MC.1.1
  have hb := MC.1.2.1
  have hl : lv_has ls 6 [(0, .ref (ad r)), (1, .int s1), (2, .int r1), (3, .ref b1), (4, .int f1), (5, .int t1)] := hl
  refine lv_aload_n hx hb dX2_init_0 rfl (lv_at hl 0 rfl) ?_
  refine lv_iload_n hx hb dX2_init_1 rfl (lv_at hl 1 rfl) ?_
  refine lv_iload_n hx hb dX2_init_2 rfl (lv_at hl 2 rfl) ?_
  refine ro_callI MC HS (rest := []) (As := [.int s1, .int r1]) (x_iF1 HP hr9 hf) (lkX2_1) (kw255) (rfl) ⟨Nat.le_of_ble_eq_true rfl, Nat.le_of_ble_eq_true rfl⟩ hl.1 rfl (Nat.le_of_ble_eq_true rfl) dX2_init_3 ⟨Nat.le_of_ble_eq_true rfl, Nat.le_of_ble_eq_true rfl⟩ (fun v9 H1 lH1 hp hz HS => ?_)
  obtain ⟨rfl, cn1, HP, hf1, hn1⟩ := hp
  refine lv_aload_n hx hb dX2_init_6 rfl (lv_at hl 0 rfl) ?_
  refine lv_aload_n hx hb dX2_init_7 rfl (lv_at hl 3 rfl) ?_
  refine ro_putF MC (hnm.trans rfl) HP HS hr9 hf1 (rfl : vwCl[1]? = some (RX2, TX2, 5)) inU2 tyX2_ok nmX2 2 (by decide) kw287 rfl rfl rfl rfl (Nat.le_of_ble_eq_true rfl) dX2_init_8 (fun H2 lH2 HP HS => ?_)
  refine lv_aload_n hx hb dX2_init_11 rfl (lv_at hl 0 rfl) ?_
  refine lv_iload hx hb dX2_init_12 (lv_at hl 4 rfl) ?_
  refine ro_putF MC (hnm.trans rfl) HP HS hr9 (va_up_self ..) (rfl : vwCl[1]? = some (RX2, TX2, 5)) inU2 tyX2_ok nmX2 3 (by decide) kw288 rfl rfl rfl rfl (Nat.le_of_ble_eq_true rfl) dX2_init_14 (fun H3 lH3 HP HS => ?_)
  refine lv_aload_n hx hb dX2_init_17 rfl (lv_at hl 0 rfl) ?_
  refine lv_iload hx hb dX2_init_18 (lv_at hl 5 rfl) ?_
  refine ro_putF MC (hnm.trans rfl) HP HS hr9 (va_up_self ..) (rfl : vwCl[1]? = some (RX2, TX2, 5)) inU2 tyX2_ok nmX2 4 (by decide) kw289 rfl rfl rfl rfl (Nat.le_of_ble_eq_true rfl) dX2_init_20 (fun H4 lH4 HP HS => ?_)
  exact ro_vretM MC HS hr (⟨rfl, _, HP, va_up_self .., fun j hj => ((va_up_ne _ _ hj).trans ((va_up_ne _ _ hj).trans ((va_up_ne _ _ hj).trans (hn1 j hj))))⟩) (Nat.le_of_ble_eq_true rfl) (Nat.le_of_ble_eq_true rfl) dX2_init_23
set_option maxHeartbeats 4000000 in
set_option maxRecDepth 100000 in
theorem x_iFeasts {l : Launch} {D : va_G} {ids : Nat → ClassId} {n0 : Nat} {RR : List Nat} {ad : Nat → Nat} {cn : Nat → va_E} {Hh : Heap} (HP : ro_P D n0 RR ad cn Hh) {r : Nat} (hr9 : r ∈ RR) {s1 : Int32} {r1 : Int32} {b1 : Nat} (hf : cn r = .inr (2, [.int 0, .int 0, .null])) : ro_M l yX3_init cX3_init 4 none { frames := 2, cells := 0, slots := 0, locals := 60 } D ids n0 [.ref (ad r), .int s1, .int r1, .ref b1] Hh (fun v H1 => v = none ∧ ∃ cn1, ro_P D n0 RR ad cn1 H1 ∧ cn1 r = .inr (2, [.int s1, .int r1, .ref b1]) ∧ ∀ j, j ≠ r → cn1 j = cn j) := by
  refine ro_ofM (by decide +kernel) (Nat.le_of_ble_eq_true rfl) ?_
  intro p e s m below meth c MC hhp hr hnm HS ls hl
  have hx := MC.1.1
  have hb := MC.1.2.1
  have hl : lv_has ls 4 [(0, .ref (ad r)), (1, .int s1), (2, .int r1), (3, .ref b1)] := hl
  refine lv_aload_n hx hb dX3_init_0 rfl (lv_at hl 0 rfl) ?_
  refine lv_iload_n hx hb dX3_init_1 rfl (lv_at hl 1 rfl) ?_
  refine lv_iload_n hx hb dX3_init_2 rfl (lv_at hl 2 rfl) ?_
  refine ro_callI MC HS (rest := []) (As := [.int s1, .int r1]) (x_iF2 HP hr9 hf) (lkX3_1) (kw255) (rfl) ⟨Nat.le_of_ble_eq_true rfl, Nat.le_of_ble_eq_true rfl⟩ hl.1 rfl (Nat.le_of_ble_eq_true rfl) dX3_init_3 ⟨Nat.le_of_ble_eq_true rfl, Nat.le_of_ble_eq_true rfl⟩ (fun v9 H1 lH1 hp hz HS => ?_)
  obtain ⟨rfl, cn1, HP, hf1, hn1⟩ := hp
  refine lv_aload_n hx hb dX3_init_6 rfl (lv_at hl 0 rfl) ?_
  refine lv_aload_n hx hb dX3_init_7 rfl (lv_at hl 3 rfl) ?_
  refine ro_putF MC (hnm.trans rfl) HP HS hr9 hf1 (rfl : vwCl[2]? = some (RX3, TX3, 3)) inU3 tyX3_ok nmX3 2 (by decide) kw309 rfl rfl rfl rfl (Nat.le_of_ble_eq_true rfl) dX3_init_8 (fun H2 lH2 HP HS => ?_)
  exact ro_vretM MC HS hr (⟨rfl, _, HP, va_up_self .., fun j hj => ((va_up_ne _ _ hj).trans (hn1 j hj))⟩) (Nat.le_of_ble_eq_true rfl) (Nat.le_of_ble_eq_true rfl) dX3_init_11
set_option maxHeartbeats 4000000 in
set_option maxRecDepth 100000 in
theorem x_lay {l : Launch} {D : va_G} {ids : Nat → ClassId} {n0 : Nat} {RR : List Nat} {ad : Nat → Nat} {cn : Nat → va_E} {Hh : Heap} (HP : ro_P D n0 RR ad cn Hh) {τ : Tau} {nw ns nl nc : Nat} (hI : Iv τ nw ns nl nc) (hlt : nl < 20) {ff : Nat → Option Nat} (h0R : 0 ∈ RR) (h3R : 3 ∈ RR) (hFR : 40 + nl ∈ RR) (h0 : cn 0 = .inr (5, xoF τ ad)) (h3 : cn 3 = .inl (ids 4, 20, .inr (.inr (.inr (.inr ff))))) {ci : Nat} {vs : List Value} {q9 : vw_C} (hF : cn (40 + nl) = .inr (ci, vs)) (hvc : vwCl[ci]? = some q9) (hcast : (q9.1, "FrostCalendar$Freeze") ∈ uNc) : ro_M l yX6_lay cX6_lay 3 (some FieldType.int) { frames := 0, cells := 0, slots := 0, locals := 0 } D ids n0 [.ref (ad 0), .ref (ad (40 + nl))] Hh (fun v H1 => v = some (.int (τ 0 2)) ∧ ∃ cn1, ro_P D n0 RR ad cn1 H1 ∧ cn1 0 = .inr (5, ((xoF τ ad).set 5 (.int (τ 0 2 + 1))).set 6 (.int (nI (cntS τ) + 1))) ∧ cn1 3 = .inl (ids 4, 20, .inr (.inr (.inr (.inr (va_up ff nl (some (ad (40 + nl)))))))) ∧ ∀ j, j ≠ 0 → j ≠ 3 → cn1 j = cn j) := by
  refine ro_ofM (by decide +kernel) (Nat.le_of_ble_eq_true rfl) ?_
  intro p e s m below meth c MC hhp hr hnm HS ls hl
  have hx := MC.1.1
  have hb := MC.1.2.1
  have hl : lv_has ls 3 [(0, .ref (ad 0)), (1, .ref (ad (40 + nl)))] := hl
  refine lv_aload_n hx hb dX6_lay_0 rfl (lv_at hl 0 rfl) ?_
  refine ro_get MC HP h0R h0 (rfl : vwCl[5]? = some (RX6, TX6, 11)) inU6 5 (by decide) kw66 rfl rfl dX6_lay_1 ?_
  refine lv_istore_n (lv' := [(2, .int (τ 0 2)), (0, .ref (ad 0)), (1, .ref (ad (40 + nl)))]) hx hb dX6_lay_4 rfl hl (by decide) rfl (fun ls hl => ?_)
  refine lv_aload_n hx hb dX6_lay_5 rfl (lv_at hl 1 rfl) ?_
  refine ro_get MC HP h0R h0 (rfl : vwCl[5]? = some (RX6, TX6, 11)) inU6 4 (by decide) kw65 rfl rfl dX6_lay_6 ?_
  refine lv_iload_n hx hb dX6_lay_9 rfl (lv_at hl 0 rfl) ?_
  refine lv_aload_n hx hb dX6_lay_10 rfl (lv_at hl 2 rfl) ?_
  refine xo_aastM MC HP HS 4 h3R h3 rfl (ro_any MC.2.1 HP hFR hF hvc hcast) nl (show nl < 20 by omega) (by omega) hI.2.2.1.1 dX6_lay_11 (fun H1 lH1 HP HS => ?_)
  refine lv_aload_n hx hb dX6_lay_12 rfl (lv_at hl 1 rfl) ?_
  refine lv_iload_n hx hb dX6_lay_13 rfl (lv_at hl 0 rfl) ?_
  refine lv_iconst (v := 1) hx hb dX6_lay_14 (by decide) ?_
  refine lv_iadd hx hb dX6_lay_15 ?_
  refine ro_put MC HP HS h0R ((va_up_ne _ _ (by omega)).trans h0) (rfl : vwCl[5]? = some (RX6, TX6, 11)) inU6 tyX6_ok nmX6 5 (by decide) kw66 rfl rfl rfl rfl (Nat.le_of_ble_eq_true rfl) dX6_lay_16 (fun H2 lH2 HP HS => ?_)
  refine lv_aload_n hx hb dX6_lay_19 rfl (lv_at hl 1 rfl) ?_
  refine lv_dup hx hb dX6_lay_20 rfl ?_
  refine ro_get MC HP h0R (va_up_self ..) (rfl : vwCl[5]? = some (RX6, TX6, 11)) inU6 6 (by decide) kw67 rfl rfl dX6_lay_21 ?_
  refine lv_iconst (v := 1) hx hb dX6_lay_24 (by decide) ?_
  refine lv_iadd hx hb dX6_lay_25 ?_
  refine ro_put MC HP HS h0R (va_up_self ..) (rfl : vwCl[5]? = some (RX6, TX6, 11)) inU6 tyX6_ok nmX6 6 (by decide) kw67 rfl rfl rfl rfl (Nat.le_of_ble_eq_true rfl) dX6_lay_26 (fun H3 lH3 HP HS => ?_)
  refine lv_iload_n hx hb dX6_lay_29 rfl (lv_at hl 0 rfl) ?_
  exact ro_iretM MC HS hr (⟨rfl, _, HP, va_up_self .., ((va_up_ne _ _ (by omega)).trans ((va_up_ne _ _ (by omega)).trans (va_up_self ..))), fun j hj0 hj3 => ((va_up_ne _ _ hj0).trans ((va_up_ne _ _ hj0).trans (va_up_ne _ _ hj3)))⟩) (Nat.le_of_ble_eq_true rfl) (Nat.le_of_ble_eq_true rfl) dX6_lay_30
