set_option maxHeartbeats 4000000 in
set_option maxRecDepth 100000 in
theorem x_init {l : Launch} {D : va_G} {ids : Nat → ClassId} {n0 : Nat} {ad : Nat → Nat} {cn : Nat → va_E} {Hh : Heap} (HP : ro_P D n0 [0] ad cn Hh) (f0 : cn 0 = .inr (5, [.null, .int 0, .null, .int 0, .null, .int 0, .int 0, .null, .int 0, .null, .null])) : ro_M l yX6_init cX6_init 2 none { frames := 3, cells := 10, slots := 182, locals := 90 } D ids n0 [.ref (ad 0)] Hh (fun v H1 => v = none ∧ ∃ (ad1 : Nat → Nat) (cn1 : Nat → va_E) (sa bm fm : Nat → Int32) (lf ff cf : Nat → Option Nat), ro_P D n0 ([0] ++ [1] ++ [2] ++ [3] ++ [4] ++ [5] ++ [6] ++ [7] ++ [8] ++ [9] ++ [10]) ad1 cn1 H1 ∧ ad1 0 = ad 0 ∧ isX ids ad1 cn1 taI 1 0 0 sa bm fm lf ff cf) := by
  refine ro_ofM (by decide +kernel) (Nat.le_of_ble_eq_true rfl) ?_
  intro p e s m below meth c MC hhp hr hnm HS ls hl
  have hx := MC.1.1
  have hb := MC.1.2.1
  have hl : lv_has ls 2 [(0, .ref (ad 0))] := hl
  have ha0 : ad 0 = ad 0 := rfl
  refine lv_aload_n hx hb dX6_init_0 rfl (lv_at hl 0 rfl) ?_
  refine ro_obj MC kw37 kw38 kw39 hl.1 dX6_init_1 ⟨Nat.le_of_ble_eq_true rfl, Nat.le_of_ble_eq_true rfl⟩ ?_
  refine lv_aload_n hx hb dX6_init_4 rfl (lv_at hl 0 rfl) ?_
  refine lv_bipush (v := 16) hx hb dX6_init_5 (by decide) ?_
  refine ro_newaG (atype := .int) (ty := .int) MC HP HS 1 (by decide) 0 rfl kw59 rfl (x := (16, .inl (fun _ => 0))) (fun C h => by cases h) rfl (by decide) rfl (by decide) (Nat.le_of_ble_eq_true rfl) (Nat.le_of_ble_eq_true rfl) dX6_init_7 (fun ad1 cn1 H1 HP had hcn hself HS => ?_)
  have f0 : cn1 0 = .inr (5, [.null, .int 0, .null, .int 0, .null, .int 0, .int 0, .null, .int 0, .null, .null]) := by rw [hcn 0 (by omega), f0]
  have ha0 : ad1 0 = ad 0 := (had 0 (by omega)).trans ha0
  have e1 := hself
  refine ro_putFG MC (hnm.trans rfl) HP HS ha0 (by decide) f0 (rfl : vwCl[5]? = some (RX6, TX6, 11)) inU6 tyX6_ok nmX6 0 (by decide) kw61 rfl rfl rfl rfl (Nat.le_of_ble_eq_true rfl) dX6_init_9 (fun cn2 H2 lH2 HP hcn f0 HS => ?_)
  have f0 : cn2 0 = .inr (5, [.ref (ad1 1), .int 0, .null, .int 0, .null, .int 0, .int 0, .null, .int 0, .null, .null]) := f0
  have e1 := (hcn 1 (by omega)).trans e1
  refine lv_aload_n hx hb dX6_init_12 rfl (lv_at hl 0 rfl) ?_
  refine lv_iconst (v := 4) hx hb dX6_init_13 (by decide) ?_
  refine ro_newqG MC HP HS 2 (by decide) kw40 (by decide +kernel) 3 rfl 4 (by decide) rfl (by decide) (Nat.le_of_ble_eq_true rfl) (Nat.le_of_ble_eq_true rfl) dX6_init_14 (fun ad3 cn3 H3 HP had hcn hself HS => ?_)
  have f0 : cn3 0 = .inr (5, [.ref (ad3 1), .int 0, .null, .int 0, .null, .int 0, .int 0, .null, .int 0, .null, .null]) := by rw [hcn 0 (by omega), f0, had 1 (by omega)]
  have e1 := (hcn 1 (by omega)).trans e1
  have ha0 : ad3 0 = ad 0 := (had 0 (by omega)).trans ha0
  have e2 := hself
  have h2b : ∀ j, j < 0 → (fun _ => none : Nat → Option Nat) j = some (ad3 (7 + j)) := fun j hj => absurd hj (by omega)
  refine ro_putFG MC (hnm.trans rfl) HP HS ha0 (by decide) f0 (rfl : vwCl[5]? = some (RX6, TX6, 11)) inU6 tyX6_ok nmX6 2 (by decide) kw63 rfl rfl rfl rfl (Nat.le_of_ble_eq_true rfl) dX6_init_17 (fun cn4 H4 lH4 HP hcn f0 HS => ?_)
  have f0 : cn4 0 = .inr (5, [.ref (ad3 1), .int 0, .ref (ad3 2), .int 0, .null, .int 0, .int 0, .null, .int 0, .null, .null]) := f0
  have e1 := (hcn 1 (by omega)).trans e1
  have e2 := (hcn 2 (by omega)).trans e2
  refine lv_aload_n hx hb dX6_init_20 rfl (lv_at hl 0 rfl) ?_
  refine lv_bipush (v := 20) hx hb dX6_init_21 (by decide) ?_
  refine ro_newqG MC HP HS 3 (by decide) kw42 (by decide +kernel) 4 rfl 20 (by decide) rfl (by decide) (Nat.le_of_ble_eq_true rfl) (Nat.le_of_ble_eq_true rfl) dX6_init_23 (fun ad5 cn5 H5 HP had hcn hself HS => ?_)
  have f0 : cn5 0 = .inr (5, [.ref (ad5 1), .int 0, .ref (ad5 2), .int 0, .null, .int 0, .int 0, .null, .int 0, .null, .null]) := by rw [hcn 0 (by omega), f0, had 1 (by omega), had 2 (by omega)]
  have e1 := (hcn 1 (by omega)).trans e1
  have e2 := (hcn 2 (by omega)).trans e2
  have ha0 : ad5 0 = ad 0 := (had 0 (by omega)).trans ha0
  have h2b : ∀ j, j < 0 → (fun _ => none : Nat → Option Nat) j = some (ad5 (7 + j)) := fun j hj => by rw [h2b j hj, had (7 + j) (by omega)]
  have e3 := hself
  refine ro_putFG MC (hnm.trans rfl) HP HS ha0 (by decide) f0 (rfl : vwCl[5]? = some (RX6, TX6, 11)) inU6 tyX6_ok nmX6 4 (by decide) kw65 rfl rfl rfl rfl (Nat.le_of_ble_eq_true rfl) dX6_init_26 (fun cn6 H6 lH6 HP hcn f0 HS => ?_)
  have f0 : cn6 0 = .inr (5, [.ref (ad5 1), .int 0, .ref (ad5 2), .int 0, .ref (ad5 3), .int 0, .int 0, .null, .int 0, .null, .null]) := f0
  have e1 := (hcn 1 (by omega)).trans e1
  have e2 := (hcn 2 (by omega)).trans e2
  have e3 := (hcn 3 (by omega)).trans e3
  refine lv_aload_n hx hb dX6_init_29 rfl (lv_at hl 0 rfl) ?_
  refine lv_bipush (v := 30) hx hb dX6_init_30 (by decide) ?_
  refine ro_newqG MC HP HS 4 (by decide) kw44 (by decide +kernel) 5 rfl 30 (by decide) rfl (by decide) (Nat.le_of_ble_eq_true rfl) (Nat.le_of_ble_eq_true rfl) dX6_init_32 (fun ad7 cn7 H7 HP had hcn hself HS => ?_)
  have f0 : cn7 0 = .inr (5, [.ref (ad7 1), .int 0, .ref (ad7 2), .int 0, .ref (ad7 3), .int 0, .int 0, .null, .int 0, .null, .null]) := by rw [hcn 0 (by omega), f0, had 1 (by omega), had 2 (by omega), had 3 (by omega)]
  have e1 := (hcn 1 (by omega)).trans e1
  have e2 := (hcn 2 (by omega)).trans e2
  have e3 := (hcn 3 (by omega)).trans e3
  have ha0 : ad7 0 = ad 0 := (had 0 (by omega)).trans ha0
  have h2b : ∀ j, j < 0 → (fun _ => none : Nat → Option Nat) j = some (ad7 (7 + j)) := fun j hj => by rw [h2b j hj, had (7 + j) (by omega)]
  have e4 := hself
  refine ro_putFG MC (hnm.trans rfl) HP HS ha0 (by decide) f0 (rfl : vwCl[5]? = some (RX6, TX6, 11)) inU6 tyX6_ok nmX6 7 (by decide) kw68 rfl rfl rfl rfl (Nat.le_of_ble_eq_true rfl) dX6_init_35 (fun cn8 H8 lH8 HP hcn f0 HS => ?_)
  have f0 : cn8 0 = .inr (5, [.ref (ad7 1), .int 0, .ref (ad7 2), .int 0, .ref (ad7 3), .int 0, .int 0, .ref (ad7 4), .int 0, .null, .null]) := f0
  have e1 := (hcn 1 (by omega)).trans e1
  have e2 := (hcn 2 (by omega)).trans e2
  have e3 := (hcn 3 (by omega)).trans e3
  have e4 := (hcn 4 (by omega)).trans e4
  refine lv_aload_n hx hb dX6_init_38 rfl (lv_at hl 0 rfl) ?_
  refine lv_iconst (v := 4) hx hb dX6_init_39 (by decide) ?_
  refine ro_newaG (atype := .int) (ty := .int) MC HP HS 5 (by decide) 0 rfl kw59 rfl (x := (4, .inl (fun _ => 0))) (fun C h => by cases h) rfl (by decide) rfl (by decide) (Nat.le_of_ble_eq_true rfl) (Nat.le_of_ble_eq_true rfl) dX6_init_40 (fun ad9 cn9 H9 HP had hcn hself HS => ?_)
  have f0 : cn9 0 = .inr (5, [.ref (ad9 1), .int 0, .ref (ad9 2), .int 0, .ref (ad9 3), .int 0, .int 0, .ref (ad9 4), .int 0, .null, .null]) := by rw [hcn 0 (by omega), f0, had 1 (by omega), had 2 (by omega), had 3 (by omega), had 4 (by omega)]
  have e1 := (hcn 1 (by omega)).trans e1
  have e2 := (hcn 2 (by omega)).trans e2
  have e3 := (hcn 3 (by omega)).trans e3
  have e4 := (hcn 4 (by omega)).trans e4
  have ha0 : ad9 0 = ad 0 := (had 0 (by omega)).trans ha0
  have h2b : ∀ j, j < 0 → (fun _ => none : Nat → Option Nat) j = some (ad9 (7 + j)) := fun j hj => by rw [h2b j hj, had (7 + j) (by omega)]
  have e5 := hself
  refine ro_putFG MC (hnm.trans rfl) HP HS ha0 (by decide) f0 (rfl : vwCl[5]? = some (RX6, TX6, 11)) inU6 tyX6_ok nmX6 9 (by decide) kw70 rfl rfl rfl rfl (Nat.le_of_ble_eq_true rfl) dX6_init_42 (fun cn10 H10 lH10 HP hcn f0 HS => ?_)
  have f0 : cn10 0 = .inr (5, [.ref (ad9 1), .int 0, .ref (ad9 2), .int 0, .ref (ad9 3), .int 0, .int 0, .ref (ad9 4), .int 0, .ref (ad9 5), .null]) := f0
  have e1 := (hcn 1 (by omega)).trans e1
  have e2 := (hcn 2 (by omega)).trans e2
  have e3 := (hcn 3 (by omega)).trans e3
  have e4 := (hcn 4 (by omega)).trans e4
  have e5 := (hcn 5 (by omega)).trans e5
  refine lv_aload_n hx hb dX6_init_45 rfl (lv_at hl 0 rfl) ?_
  refine lv_bipush (v := 100) hx hb dX6_init_46 (by decide) ?_
  refine ro_newaG (atype := .boolean) (ty := .boolean) MC HP HS 6 (by decide) 1 rfl kw60 rfl (x := (100, .inl (fun _ => 0))) (fun C h => by cases h) rfl (by decide) rfl (by decide) (Nat.le_of_ble_eq_true rfl) (Nat.le_of_ble_eq_true rfl) dX6_init_48 (fun ad11 cn11 H11 HP had hcn hself HS => ?_)
  have f0 : cn11 0 = .inr (5, [.ref (ad11 1), .int 0, .ref (ad11 2), .int 0, .ref (ad11 3), .int 0, .int 0, .ref (ad11 4), .int 0, .ref (ad11 5), .null]) := by rw [hcn 0 (by omega), f0, had 1 (by omega), had 2 (by omega), had 3 (by omega), had 4 (by omega), had 5 (by omega)]
  have e1 := (hcn 1 (by omega)).trans e1
  have e2 := (hcn 2 (by omega)).trans e2
  have e3 := (hcn 3 (by omega)).trans e3
  have e4 := (hcn 4 (by omega)).trans e4
  have e5 := (hcn 5 (by omega)).trans e5
  have ha0 : ad11 0 = ad 0 := (had 0 (by omega)).trans ha0
  have h2b : ∀ j, j < 0 → (fun _ => none : Nat → Option Nat) j = some (ad11 (7 + j)) := fun j hj => by rw [h2b j hj, had (7 + j) (by omega)]
  have e6 := hself
  refine ro_putFG MC (hnm.trans rfl) HP HS ha0 (by decide) f0 (rfl : vwCl[5]? = some (RX6, TX6, 11)) inU6 tyX6_ok nmX6 10 (by decide) kw71 rfl rfl rfl rfl (Nat.le_of_ble_eq_true rfl) dX6_init_50 (fun cn12 H12 lH12 HP hcn f0 HS => ?_)
  have f0 : cn12 0 = .inr (5, [.ref (ad11 1), .int 0, .ref (ad11 2), .int 0, .ref (ad11 3), .int 0, .int 0, .ref (ad11 4), .int 0, .ref (ad11 5), .ref (ad11 6)]) := f0
  have e1 := (hcn 1 (by omega)).trans e1
  have e2 := (hcn 2 (by omega)).trans e2
  have e3 := (hcn 3 (by omega)).trans e3
  have e4 := (hcn 4 (by omega)).trans e4
  have e5 := (hcn 5 (by omega)).trans e5
  have e6 := (hcn 6 (by omega)).trans e6
  refine lv_aload_n hx hb dX6_init_53 rfl (lv_at hl 0 rfl) ?_
  refine ro_getE MC HP ha0 (by decide) f0 (rfl : vwCl[5]? = some (RX6, TX6, 11)) inU6 0 (by decide) kw61 rfl rfl dX6_init_54 ?_
  refine lv_iconst (v := 0) hx hb dX6_init_57 (by decide) ?_
  refine lv_iconst (v := 1) hx hb dX6_init_58 (by decide) ?_
  refine xo_iast MC HP HS (r := 1) (by decide) e1 0 (by omega) (by omega) rfl dX6_init_59 (fun H13 lH13 HP HS => ?_)
  obtain ⟨cn13, hc9⟩ : ∃ c9, c9 = va_up cn12 1 (.inl (ids 0, 16, .inl (upd (fun _ => 0) 0 1))) := ⟨_, rfl⟩
  rw [← hc9] at HP
  have hcn : ∀ j, j ≠ 1 → cn13 j = cn12 j := fun j hj => by rw [hc9]; exact va_up_ne _ _ hj
  have hself : cn13 1 = (.inl (ids 0, 16, .inl (upd (fun _ => 0) 0 1))) := by rw [hc9]; exact va_up_self ..
  have f0 : cn13 0 = .inr (5, [.ref (ad11 1), .int 0, .ref (ad11 2), .int 0, .ref (ad11 3), .int 0, .int 0, .ref (ad11 4), .int 0, .ref (ad11 5), .ref (ad11 6)]) := (hcn 0 (by omega)).trans f0
  have e2 := (hcn 2 (by omega)).trans e2
  have e3 := (hcn 3 (by omega)).trans e3
  have e4 := (hcn 4 (by omega)).trans e4
  have e5 := (hcn 5 (by omega)).trans e5
  have e6 := (hcn 6 (by omega)).trans e6
  have e1 := hself
  refine lv_aload_n hx hb dX6_init_60 rfl (lv_at hl 0 rfl) ?_
  refine lv_iconst (v := 1) hx hb dX6_init_61 (by decide) ?_
  refine ro_putG MC HP HS ha0 (by decide) f0 (rfl : vwCl[5]? = some (RX6, TX6, 11)) inU6 tyX6_ok nmX6 1 (by decide) kw62 rfl rfl rfl rfl (Nat.le_of_ble_eq_true rfl) dX6_init_62 (fun cn14 H14 lH14 HP hcn f0 HS => ?_)
  have f0 : cn14 0 = .inr (5, [.ref (ad11 1), .int 1, .ref (ad11 2), .int 0, .ref (ad11 3), .int 0, .int 0, .ref (ad11 4), .int 0, .ref (ad11 5), .ref (ad11 6)]) := f0
  have e1 := (hcn 1 (by omega)).trans e1
  have e2 := (hcn 2 (by omega)).trans e2
  have e3 := (hcn 3 (by omega)).trans e3
  have e4 := (hcn 4 (by omega)).trans e4
  have e5 := (hcn 5 (by omega)).trans e5
  have e6 := (hcn 6 (by omega)).trans e6
  refine lv_iconst (v := 0) hx hb dX6_init_65 (by decide) ?_
  refine lv_istore_n (lv' := [(1, .int 0), (0, .ref (ad 0))]) hx hb dX6_init_66 rfl hl (by decide) rfl (fun ls hl => ?_)
  refine lv_iload_n hx hb dX6_init_67 rfl (lv_at hl 0 rfl) ?_
  refine lv_iconst (v := 4) hx hb dX6_init_68 (by decide) ?_
  refine lv_icmp_ge (tgt := 91) hx hb dX6_init_69 (by decide) (fun c_69 => absurd c_69 (by decide)) (fun c_69 => ?_)
  refine lv_aload_n hx hb dX6_init_72 rfl (lv_at hl 1 rfl) ?_
  refine ro_getE MC HP ha0 (by decide) f0 (rfl : vwCl[5]? = some (RX6, TX6, 11)) inU6 2 (by decide) kw63 rfl rfl dX6_init_73 ?_
  refine lv_iload_n hx hb dX6_init_76 rfl (lv_at hl 0 rfl) ?_
  refine ro_newG MC HP HS 7 (by decide) [.int 0, .int 0] (rfl : vwCl[4]? = some (RX5, TX5, 2)) inU5 tyX5_ok kw40 kw46 kw18 (fun j hj => by rcases j with _ | _ | j <;> first | rfl | omega) (Nat.le_of_ble_eq_true rfl) (Nat.le_of_ble_eq_true rfl) dX6_init_77 (fun ad15 cn15 H15 HP had hcn hself HS => ?_)
  have f0 : cn15 0 = .inr (5, [.ref (ad15 1), .int 1, .ref (ad15 2), .int 0, .ref (ad15 3), .int 0, .int 0, .ref (ad15 4), .int 0, .ref (ad15 5), .ref (ad15 6)]) := by rw [hcn 0 (by omega), f0, had 1 (by omega), had 2 (by omega), had 3 (by omega), had 4 (by omega), had 5 (by omega), had 6 (by omega)]
  have e1 := (hcn 1 (by omega)).trans e1
  have e2 := (hcn 2 (by omega)).trans e2
  have e3 := (hcn 3 (by omega)).trans e3
  have e4 := (hcn 4 (by omega)).trans e4
  have e5 := (hcn 5 (by omega)).trans e5
  have e6 := (hcn 6 (by omega)).trans e6
  have ha0 : ad15 0 = ad 0 := (had 0 (by omega)).trans ha0
  have h2b : ∀ j, j < 0 → (fun _ => none : Nat → Option Nat) j = some (ad15 (7 + j)) := fun j hj => by rw [h2b j hj, had (7 + j) (by omega)]
  have e7 := hself
  have ha2 := had 2 (by omega)
  refine lv_dup hx hb dX6_init_80 rfl ?_
  refine ro_callIN MC HS (rest := [.ref (ad15 7), .int 0, .ref (ad11 2)]) (As := []) (x_iLand HP (r := 7) (by decide) e7) (lnX6_42) (kw48) (rfl) ⟨Nat.le_of_ble_eq_true rfl, Nat.le_of_ble_eq_true rfl⟩ hl.1 rfl (Nat.le_of_ble_eq_true rfl) dX6_init_81 ⟨Nat.le_of_ble_eq_true rfl, Nat.le_of_ble_eq_true rfl⟩ (fun v9 H1 lH1 hp hz HS => ?_)
  obtain ⟨rfl, cn16, HP, hself, hcn⟩ := hp
  have f0 : cn16 0 = .inr (5, [.ref (ad15 1), .int 1, .ref (ad15 2), .int 0, .ref (ad15 3), .int 0, .int 0, .ref (ad15 4), .int 0, .ref (ad15 5), .ref (ad15 6)]) := (hcn 0 (by omega)).trans f0
  have e1 := (hcn 1 (by omega)).trans e1
  have e2 := (hcn 2 (by omega)).trans e2
  have e3 := (hcn 3 (by omega)).trans e3
  have e4 := (hcn 4 (by omega)).trans e4
  have e5 := (hcn 5 (by omega)).trans e5
  have e6 := (hcn 6 (by omega)).trans e6
  have e7 := hself
  refine xo_aastE MC HP HS 3 ha2 (r := 2) (by decide) e2 rfl (rv := 7) rfl (by decide) e7 (rfl : vwCl[4]? = some (RX5, TX5, 2)) 0 (by omega) (by omega) rfl dX6_init_84 (fun H17 lH17 HP HS => ?_)
  obtain ⟨cn17, hc9⟩ : ∃ c9, c9 = va_up cn16 2 (.inl (ids 3, 4, .inr (.inr (.inr (.inr (va_up (fun _ => none : Nat → Option Nat) 0 (some (ad15 7)))))))) := ⟨_, rfl⟩
  rw [← hc9] at HP
  have hcn : ∀ j, j ≠ 2 → cn17 j = cn16 j := fun j hj => by rw [hc9]; exact va_up_ne _ _ hj
  have hself : cn17 2 = (.inl (ids 3, 4, .inr (.inr (.inr (.inr (va_up (fun _ => none : Nat → Option Nat) 0 (some (ad15 7)))))))) := by rw [hc9]; exact va_up_self ..
  have f0 : cn17 0 = .inr (5, [.ref (ad15 1), .int 1, .ref (ad15 2), .int 0, .ref (ad15 3), .int 0, .int 0, .ref (ad15 4), .int 0, .ref (ad15 5), .ref (ad15 6)]) := (hcn 0 (by omega)).trans f0
  have e1 := (hcn 1 (by omega)).trans e1
  have e3 := (hcn 3 (by omega)).trans e3
  have e4 := (hcn 4 (by omega)).trans e4
  have e5 := (hcn 5 (by omega)).trans e5
  have e6 := (hcn 6 (by omega)).trans e6
  have e7 := (hcn 7 (by omega)).trans e7
  have e2 := hself
  obtain ⟨lf0, hlf⟩ : ∃ f, f = (va_up (fun _ => none : Nat → Option Nat) 0 (some (ad15 7))) := ⟨_, rfl⟩
  rw [← hlf] at e2
  have h2b : ∀ j, j < 1 → lf0 j = some (ad15 (7 + j)) := fun j hj => by
    rw [hlf]
    by_cases h9 : j = 0
    · rw [h9, va_up_self]
    · rw [va_up_ne _ _ h9]; exact h2b j (by omega)
  refine lv_iinc (v := 1) (lv' := [(1, .int 1), (0, .ref (ad 0))]) hx hb dX6_init_85 hl (k := 0) rfl rfl (by decide) rfl (fun ls hl => ?_)
  refine lv_goto (tgt := 67) hx hb dX6_init_88 (by decide) ?_
  refine lv_iload_n hx hb dX6_init_67 rfl (lv_at hl 0 rfl) ?_
  refine lv_iconst (v := 4) hx hb dX6_init_68 (by decide) ?_
  refine lv_icmp_ge (tgt := 91) hx hb dX6_init_69 (by decide) (fun c_69 => absurd c_69 (by decide)) (fun c_69 => ?_)
  refine lv_aload_n hx hb dX6_init_72 rfl (lv_at hl 1 rfl) ?_
  refine ro_getE MC HP ha0 (by decide) f0 (rfl : vwCl[5]? = some (RX6, TX6, 11)) inU6 2 (by decide) kw63 rfl rfl dX6_init_73 ?_
  refine lv_iload_n hx hb dX6_init_76 rfl (lv_at hl 0 rfl) ?_
  refine ro_newG MC HP HS 8 (by decide) [.int 0, .int 0] (rfl : vwCl[4]? = some (RX5, TX5, 2)) inU5 tyX5_ok kw40 kw46 kw18 (fun j hj => by rcases j with _ | _ | j <;> first | rfl | omega) (Nat.le_of_ble_eq_true rfl) (Nat.le_of_ble_eq_true rfl) dX6_init_77 (fun ad18 cn18 H18 HP had hcn hself HS => ?_)
  have f0 : cn18 0 = .inr (5, [.ref (ad18 1), .int 1, .ref (ad18 2), .int 0, .ref (ad18 3), .int 0, .int 0, .ref (ad18 4), .int 0, .ref (ad18 5), .ref (ad18 6)]) := by rw [hcn 0 (by omega), f0, had 1 (by omega), had 2 (by omega), had 3 (by omega), had 4 (by omega), had 5 (by omega), had 6 (by omega)]
  have e1 := (hcn 1 (by omega)).trans e1
  have e2 := (hcn 2 (by omega)).trans e2
  have e3 := (hcn 3 (by omega)).trans e3
  have e4 := (hcn 4 (by omega)).trans e4
  have e5 := (hcn 5 (by omega)).trans e5
  have e6 := (hcn 6 (by omega)).trans e6
  have e7 := (hcn 7 (by omega)).trans e7
  have ha0 : ad18 0 = ad 0 := (had 0 (by omega)).trans ha0
  have h2b : ∀ j, j < 1 → lf0 j = some (ad18 (7 + j)) := fun j hj => by rw [h2b j hj, had (7 + j) (by omega)]
  have e8 := hself
  have ha2 := had 2 (by omega)
  refine lv_dup hx hb dX6_init_80 rfl ?_
  refine ro_callIN MC HS (rest := [.ref (ad18 8), .int 1, .ref (ad15 2)]) (As := []) (x_iLand HP (r := 8) (by decide) e8) (lnX6_42) (kw48) (rfl) ⟨Nat.le_of_ble_eq_true rfl, Nat.le_of_ble_eq_true rfl⟩ hl.1 rfl (Nat.le_of_ble_eq_true rfl) dX6_init_81 ⟨Nat.le_of_ble_eq_true rfl, Nat.le_of_ble_eq_true rfl⟩ (fun v9 H2 lH2 hp hz HS => ?_)
  obtain ⟨rfl, cn19, HP, hself, hcn⟩ := hp
  have f0 : cn19 0 = .inr (5, [.ref (ad18 1), .int 1, .ref (ad18 2), .int 0, .ref (ad18 3), .int 0, .int 0, .ref (ad18 4), .int 0, .ref (ad18 5), .ref (ad18 6)]) := (hcn 0 (by omega)).trans f0
  have e1 := (hcn 1 (by omega)).trans e1
  have e2 := (hcn 2 (by omega)).trans e2
  have e3 := (hcn 3 (by omega)).trans e3
  have e4 := (hcn 4 (by omega)).trans e4
  have e5 := (hcn 5 (by omega)).trans e5
  have e6 := (hcn 6 (by omega)).trans e6
  have e7 := (hcn 7 (by omega)).trans e7
  have e8 := hself
  refine xo_aastE MC HP HS 3 ha2 (r := 2) (by decide) e2 rfl (rv := 8) rfl (by decide) e8 (rfl : vwCl[4]? = some (RX5, TX5, 2)) 1 (by omega) (by omega) rfl dX6_init_84 (fun H20 lH20 HP HS => ?_)
  obtain ⟨cn20, hc9⟩ : ∃ c9, c9 = va_up cn19 2 (.inl (ids 3, 4, .inr (.inr (.inr (.inr (va_up lf0 1 (some (ad18 8)))))))) := ⟨_, rfl⟩
  rw [← hc9] at HP
  have hcn : ∀ j, j ≠ 2 → cn20 j = cn19 j := fun j hj => by rw [hc9]; exact va_up_ne _ _ hj
  have hself : cn20 2 = (.inl (ids 3, 4, .inr (.inr (.inr (.inr (va_up lf0 1 (some (ad18 8)))))))) := by rw [hc9]; exact va_up_self ..
  have f0 : cn20 0 = .inr (5, [.ref (ad18 1), .int 1, .ref (ad18 2), .int 0, .ref (ad18 3), .int 0, .int 0, .ref (ad18 4), .int 0, .ref (ad18 5), .ref (ad18 6)]) := (hcn 0 (by omega)).trans f0
  have e1 := (hcn 1 (by omega)).trans e1
  have e3 := (hcn 3 (by omega)).trans e3
  have e4 := (hcn 4 (by omega)).trans e4
  have e5 := (hcn 5 (by omega)).trans e5
  have e6 := (hcn 6 (by omega)).trans e6
  have e7 := (hcn 7 (by omega)).trans e7
  have e8 := (hcn 8 (by omega)).trans e8
  have e2 := hself
  obtain ⟨lf1, hlf⟩ : ∃ f, f = (va_up lf0 1 (some (ad18 8))) := ⟨_, rfl⟩
  rw [← hlf] at e2
  have h2b : ∀ j, j < 2 → lf1 j = some (ad18 (7 + j)) := fun j hj => by
    rw [hlf]
    by_cases h9 : j = 1
    · rw [h9, va_up_self]
    · rw [va_up_ne _ _ h9]; exact h2b j (by omega)
  refine lv_iinc (v := 2) (lv' := [(1, .int 2), (0, .ref (ad 0))]) hx hb dX6_init_85 hl (k := 0) rfl rfl (by decide) rfl (fun ls hl => ?_)
  refine lv_goto (tgt := 67) hx hb dX6_init_88 (by decide) ?_
  refine lv_iload_n hx hb dX6_init_67 rfl (lv_at hl 0 rfl) ?_
  refine lv_iconst (v := 4) hx hb dX6_init_68 (by decide) ?_
  refine lv_icmp_ge (tgt := 91) hx hb dX6_init_69 (by decide) (fun c_69 => absurd c_69 (by decide)) (fun c_69 => ?_)
  refine lv_aload_n hx hb dX6_init_72 rfl (lv_at hl 1 rfl) ?_
  refine ro_getE MC HP ha0 (by decide) f0 (rfl : vwCl[5]? = some (RX6, TX6, 11)) inU6 2 (by decide) kw63 rfl rfl dX6_init_73 ?_
  refine lv_iload_n hx hb dX6_init_76 rfl (lv_at hl 0 rfl) ?_
  refine ro_newG MC HP HS 9 (by decide) [.int 0, .int 0] (rfl : vwCl[4]? = some (RX5, TX5, 2)) inU5 tyX5_ok kw40 kw46 kw18 (fun j hj => by rcases j with _ | _ | j <;> first | rfl | omega) (Nat.le_of_ble_eq_true rfl) (Nat.le_of_ble_eq_true rfl) dX6_init_77 (fun ad21 cn21 H21 HP had hcn hself HS => ?_)
  have f0 : cn21 0 = .inr (5, [.ref (ad21 1), .int 1, .ref (ad21 2), .int 0, .ref (ad21 3), .int 0, .int 0, .ref (ad21 4), .int 0, .ref (ad21 5), .ref (ad21 6)]) := by rw [hcn 0 (by omega), f0, had 1 (by omega), had 2 (by omega), had 3 (by omega), had 4 (by omega), had 5 (by omega), had 6 (by omega)]
  have e1 := (hcn 1 (by omega)).trans e1
  have e2 := (hcn 2 (by omega)).trans e2
  have e3 := (hcn 3 (by omega)).trans e3
  have e4 := (hcn 4 (by omega)).trans e4
  have e5 := (hcn 5 (by omega)).trans e5
  have e6 := (hcn 6 (by omega)).trans e6
  have e7 := (hcn 7 (by omega)).trans e7
  have e8 := (hcn 8 (by omega)).trans e8
  have ha0 : ad21 0 = ad 0 := (had 0 (by omega)).trans ha0
  have h2b : ∀ j, j < 2 → lf1 j = some (ad21 (7 + j)) := fun j hj => by rw [h2b j hj, had (7 + j) (by omega)]
  have e9 := hself
  have ha2 := had 2 (by omega)
  refine lv_dup hx hb dX6_init_80 rfl ?_
  refine ro_callIN MC HS (rest := [.ref (ad21 9), .int 2, .ref (ad18 2)]) (As := []) (x_iLand HP (r := 9) (by decide) e9) (lnX6_42) (kw48) (rfl) ⟨Nat.le_of_ble_eq_true rfl, Nat.le_of_ble_eq_true rfl⟩ hl.1 rfl (Nat.le_of_ble_eq_true rfl) dX6_init_81 ⟨Nat.le_of_ble_eq_true rfl, Nat.le_of_ble_eq_true rfl⟩ (fun v9 H3 lH3 hp hz HS => ?_)
  obtain ⟨rfl, cn22, HP, hself, hcn⟩ := hp
  have f0 : cn22 0 = .inr (5, [.ref (ad21 1), .int 1, .ref (ad21 2), .int 0, .ref (ad21 3), .int 0, .int 0, .ref (ad21 4), .int 0, .ref (ad21 5), .ref (ad21 6)]) := (hcn 0 (by omega)).trans f0
  have e1 := (hcn 1 (by omega)).trans e1
  have e2 := (hcn 2 (by omega)).trans e2
  have e3 := (hcn 3 (by omega)).trans e3
  have e4 := (hcn 4 (by omega)).trans e4
  have e5 := (hcn 5 (by omega)).trans e5
  have e6 := (hcn 6 (by omega)).trans e6
  have e7 := (hcn 7 (by omega)).trans e7
  have e8 := (hcn 8 (by omega)).trans e8
  have e9 := hself
  refine xo_aastE MC HP HS 3 ha2 (r := 2) (by decide) e2 rfl (rv := 9) rfl (by decide) e9 (rfl : vwCl[4]? = some (RX5, TX5, 2)) 2 (by omega) (by omega) rfl dX6_init_84 (fun H23 lH23 HP HS => ?_)
  obtain ⟨cn23, hc9⟩ : ∃ c9, c9 = va_up cn22 2 (.inl (ids 3, 4, .inr (.inr (.inr (.inr (va_up lf1 2 (some (ad21 9)))))))) := ⟨_, rfl⟩
  rw [← hc9] at HP
  have hcn : ∀ j, j ≠ 2 → cn23 j = cn22 j := fun j hj => by rw [hc9]; exact va_up_ne _ _ hj
  have hself : cn23 2 = (.inl (ids 3, 4, .inr (.inr (.inr (.inr (va_up lf1 2 (some (ad21 9)))))))) := by rw [hc9]; exact va_up_self ..
  have f0 : cn23 0 = .inr (5, [.ref (ad21 1), .int 1, .ref (ad21 2), .int 0, .ref (ad21 3), .int 0, .int 0, .ref (ad21 4), .int 0, .ref (ad21 5), .ref (ad21 6)]) := (hcn 0 (by omega)).trans f0
  have e1 := (hcn 1 (by omega)).trans e1
  have e3 := (hcn 3 (by omega)).trans e3
  have e4 := (hcn 4 (by omega)).trans e4
  have e5 := (hcn 5 (by omega)).trans e5
  have e6 := (hcn 6 (by omega)).trans e6
  have e7 := (hcn 7 (by omega)).trans e7
  have e8 := (hcn 8 (by omega)).trans e8
  have e9 := (hcn 9 (by omega)).trans e9
  have e2 := hself
  obtain ⟨lf2, hlf⟩ : ∃ f, f = (va_up lf1 2 (some (ad21 9))) := ⟨_, rfl⟩
  rw [← hlf] at e2
  have h2b : ∀ j, j < 3 → lf2 j = some (ad21 (7 + j)) := fun j hj => by
    rw [hlf]
    by_cases h9 : j = 2
    · rw [h9, va_up_self]
    · rw [va_up_ne _ _ h9]; exact h2b j (by omega)
  refine lv_iinc (v := 3) (lv' := [(1, .int 3), (0, .ref (ad 0))]) hx hb dX6_init_85 hl (k := 0) rfl rfl (by decide) rfl (fun ls hl => ?_)
  refine lv_goto (tgt := 67) hx hb dX6_init_88 (by decide) ?_
  refine lv_iload_n hx hb dX6_init_67 rfl (lv_at hl 0 rfl) ?_
  refine lv_iconst (v := 4) hx hb dX6_init_68 (by decide) ?_
  refine lv_icmp_ge (tgt := 91) hx hb dX6_init_69 (by decide) (fun c_69 => absurd c_69 (by decide)) (fun c_69 => ?_)
  refine lv_aload_n hx hb dX6_init_72 rfl (lv_at hl 1 rfl) ?_
  refine ro_getE MC HP ha0 (by decide) f0 (rfl : vwCl[5]? = some (RX6, TX6, 11)) inU6 2 (by decide) kw63 rfl rfl dX6_init_73 ?_
  refine lv_iload_n hx hb dX6_init_76 rfl (lv_at hl 0 rfl) ?_
  refine ro_newG MC HP HS 10 (by decide) [.int 0, .int 0] (rfl : vwCl[4]? = some (RX5, TX5, 2)) inU5 tyX5_ok kw40 kw46 kw18 (fun j hj => by rcases j with _ | _ | j <;> first | rfl | omega) (Nat.le_of_ble_eq_true rfl) (Nat.le_of_ble_eq_true rfl) dX6_init_77 (fun ad24 cn24 H24 HP had hcn hself HS => ?_)
  have f0 : cn24 0 = .inr (5, [.ref (ad24 1), .int 1, .ref (ad24 2), .int 0, .ref (ad24 3), .int 0, .int 0, .ref (ad24 4), .int 0, .ref (ad24 5), .ref (ad24 6)]) := by rw [hcn 0 (by omega), f0, had 1 (by omega), had 2 (by omega), had 3 (by omega), had 4 (by omega), had 5 (by omega), had 6 (by omega)]
  have e1 := (hcn 1 (by omega)).trans e1
  have e2 := (hcn 2 (by omega)).trans e2
  have e3 := (hcn 3 (by omega)).trans e3
  have e4 := (hcn 4 (by omega)).trans e4
  have e5 := (hcn 5 (by omega)).trans e5
  have e6 := (hcn 6 (by omega)).trans e6
  have e7 := (hcn 7 (by omega)).trans e7
  have e8 := (hcn 8 (by omega)).trans e8
  have e9 := (hcn 9 (by omega)).trans e9
  have ha0 : ad24 0 = ad 0 := (had 0 (by omega)).trans ha0
  have h2b : ∀ j, j < 3 → lf2 j = some (ad24 (7 + j)) := fun j hj => by rw [h2b j hj, had (7 + j) (by omega)]
  have e10 := hself
  have ha2 := had 2 (by omega)
  refine lv_dup hx hb dX6_init_80 rfl ?_
  refine ro_callIN MC HS (rest := [.ref (ad24 10), .int 3, .ref (ad21 2)]) (As := []) (x_iLand HP (r := 10) (by decide) e10) (lnX6_42) (kw48) (rfl) ⟨Nat.le_of_ble_eq_true rfl, Nat.le_of_ble_eq_true rfl⟩ hl.1 rfl (Nat.le_of_ble_eq_true rfl) dX6_init_81 ⟨Nat.le_of_ble_eq_true rfl, Nat.le_of_ble_eq_true rfl⟩ (fun v9 H4 lH4 hp hz HS => ?_)
  obtain ⟨rfl, cn25, HP, hself, hcn⟩ := hp
  have f0 : cn25 0 = .inr (5, [.ref (ad24 1), .int 1, .ref (ad24 2), .int 0, .ref (ad24 3), .int 0, .int 0, .ref (ad24 4), .int 0, .ref (ad24 5), .ref (ad24 6)]) := (hcn 0 (by omega)).trans f0
  have e1 := (hcn 1 (by omega)).trans e1
  have e2 := (hcn 2 (by omega)).trans e2
  have e3 := (hcn 3 (by omega)).trans e3
  have e4 := (hcn 4 (by omega)).trans e4
  have e5 := (hcn 5 (by omega)).trans e5
  have e6 := (hcn 6 (by omega)).trans e6
  have e7 := (hcn 7 (by omega)).trans e7
  have e8 := (hcn 8 (by omega)).trans e8
  have e9 := (hcn 9 (by omega)).trans e9
  have e10 := hself
  refine xo_aastE MC HP HS 3 ha2 (r := 2) (by decide) e2 rfl (rv := 10) rfl (by decide) e10 (rfl : vwCl[4]? = some (RX5, TX5, 2)) 3 (by omega) (by omega) rfl dX6_init_84 (fun H26 lH26 HP HS => ?_)
  obtain ⟨cn26, hc9⟩ : ∃ c9, c9 = va_up cn25 2 (.inl (ids 3, 4, .inr (.inr (.inr (.inr (va_up lf2 3 (some (ad24 10)))))))) := ⟨_, rfl⟩
  rw [← hc9] at HP
  have hcn : ∀ j, j ≠ 2 → cn26 j = cn25 j := fun j hj => by rw [hc9]; exact va_up_ne _ _ hj
  have hself : cn26 2 = (.inl (ids 3, 4, .inr (.inr (.inr (.inr (va_up lf2 3 (some (ad24 10)))))))) := by rw [hc9]; exact va_up_self ..
  have f0 : cn26 0 = .inr (5, [.ref (ad24 1), .int 1, .ref (ad24 2), .int 0, .ref (ad24 3), .int 0, .int 0, .ref (ad24 4), .int 0, .ref (ad24 5), .ref (ad24 6)]) := (hcn 0 (by omega)).trans f0
  have e1 := (hcn 1 (by omega)).trans e1
  have e3 := (hcn 3 (by omega)).trans e3
  have e4 := (hcn 4 (by omega)).trans e4
  have e5 := (hcn 5 (by omega)).trans e5
  have e6 := (hcn 6 (by omega)).trans e6
  have e7 := (hcn 7 (by omega)).trans e7
  have e8 := (hcn 8 (by omega)).trans e8
  have e9 := (hcn 9 (by omega)).trans e9
  have e10 := (hcn 10 (by omega)).trans e10
  have e2 := hself
  obtain ⟨lf3, hlf⟩ : ∃ f, f = (va_up lf2 3 (some (ad24 10))) := ⟨_, rfl⟩
  rw [← hlf] at e2
  have h2b : ∀ j, j < 4 → lf3 j = some (ad24 (7 + j)) := fun j hj => by
    rw [hlf]
    by_cases h9 : j = 3
    · rw [h9, va_up_self]
    · rw [va_up_ne _ _ h9]; exact h2b j (by omega)
  refine lv_iinc (v := 4) (lv' := [(1, .int 4), (0, .ref (ad 0))]) hx hb dX6_init_85 hl (k := 0) rfl rfl (by decide) rfl (fun ls hl => ?_)
  refine lv_goto (tgt := 67) hx hb dX6_init_88 (by decide) ?_
  refine lv_iload_n hx hb dX6_init_67 rfl (lv_at hl 0 rfl) ?_
  refine lv_iconst (v := 4) hx hb dX6_init_68 (by decide) ?_
  refine lv_icmp_ge (tgt := 91) hx hb dX6_init_69 (by decide) (fun c_69 => ?_) (fun c_69 => absurd c_69 (by decide))
  have hb1 : ∀ b, b < 16 → bit 1 b = (0 == b) := by decide +kernel
  have h1b : ∀ k, k < 1 → ∀ b, b < 16 → bit (upd (fun _ => 0) 0 1 k) b = bel (taI 1) 16 k b := fun k hk b hb => by
    have hk0 : k = 0 := by omega
    subst hk0
    rw [upd_at, hb1 b hb, bel, show (taI 1 0 == -1) = true from rfl]
    simp
  have h7 : ∀ j, j < 4 → cn26 (7 + j) = .inr (4, [.int (taI 2 j), .int ((fun _ => 0 : Nat → Int32) j)]) := fun j hj => by
    rcases j with _ | _ | _ | _ | j
    · exact e7
    · exact e8
    · exact e9
    · exact e10
    · omega
  have h7b : ∀ j, j < 4 → ∀ d, d < 30 → bit ((fun _ => 0 : Nat → Int32) j) d = !(taI 3 (30 * j + d) == 0) := fun j hj d hd => by rw [taI_row (by omega)]; exact bit_0 d (by omega)
  exact ro_vretM MC HS hr (⟨rfl, ad24, cn26, _, _, _, _, _, _, HP, ha0, ⟨f0, e1, h1b, e2, h2b, h7, h7b, e3, fun k hk => (if_neg (fun h9 => absurd h9.1 (by omega))).symm, fun k hk => absurd hk (by omega), e4, fun k hk => (if_neg (by omega)).symm, fun k hk => absurd hk (by omega), by rw [taI_row (by omega)]; exact e5, e6⟩⟩) (Nat.le_of_ble_eq_true rfl) (Nat.le_of_ble_eq_true rfl) dX6_init_91
set_option maxHeartbeats 4000000 in
set_option maxRecDepth 100000 in
theorem q_now {l : Launch} {D : va_G} {ids : Nat → ClassId} {n0 : Nat} {RR : List Nat} {ad : Nat → Nat} {cn : Nat → va_E} {τ : Tau} {ns nl nc : Nat} {Hh : Heap} (hX : xH D ids n0 RR ad cn τ ns nl nc Hh) : ro_M l yX6_now cX6_now 1 (some FieldType.int) { frames := 0, cells := 0, slots := 0, locals := 0 } D ids n0 [.ref (ad 0)] Hh (fun v H1 => v = some (.int (τ 0 0)) ∧ Hh = H1) := by
  refine ro_ofM (by decide +kernel) (Nat.le_of_ble_eq_true rfl) ?_
  intro p e s m below meth c MC hhp hr hnm HS ls hl
  have hx := MC.1.1
  have hb := MC.1.2.1
  have hl : lv_has ls 1 [(0, .ref (ad 0))] := hl
  obtain ⟨HP, hRR, sa, bm, fm, lf, ff, cf, h0, h1, h1b, h2, h2b, h7, h7b, h3, h3b, h40, h4, h4b, h60, h5, h6⟩ := id hX
  refine lv_aload_n hx hb dX6_now_0 rfl (lv_at hl 0 rfl) ?_
  refine ro_get MC HP (hRR.l (by decide)) h0 (rfl : vwCl[5]? = some (RX6, TX6, 11)) inU6 3 (by decide) kw64 rfl rfl dX6_now_1 ?_
  exact ro_iretM MC HS hr (⟨rfl, rfl⟩) (Nat.le_of_ble_eq_true rfl) (Nat.le_of_ble_eq_true rfl) dX6_now_4
