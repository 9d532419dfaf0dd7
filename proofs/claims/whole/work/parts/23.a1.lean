set_option maxHeartbeats 4000000 in
set_option maxRecDepth 100000 in
theorem m_init {l : Launch} {D : va_G} {ids : Nat → ClassId} {n0 : Nat} {ad : Nat → Nat} {cn : Nat → va_E} {Hh : Heap} (HP : ro_P D n0 ([0, 1, 2, 3, 4, 5, 6, 7, 8, 9, 10, 11]) ad cn Hh) (f11 : cn 11 = .inr (6, [.int 0, .int 0, .int 0, .null, .null, .null, .int 0, .null, .null, .null, .null, .null, .null, .null, .int 0, .null, .null, .null, .null, .null, .null, .null, .null])) : ro_M l yX7_init cX7_init 1 none { frames := 1, cells := 18, slots := 600, locals := 30 } D ids n0 [.ref (ad 11)] Hh (fun v H1 => v = none ∧ ∃ ad1 cn1, ro_P D n0 ([0, 1, 2, 3, 4, 5, 6, 7, 8, 9, 10, 11] ++ [12] ++ [13] ++ [14] ++ [15] ++ [16] ++ [17] ++ [18] ++ [19] ++ [20] ++ [21] ++ [22] ++ [23] ++ [24] ++ [25] ++ [26] ++ [27] ++ [28] ++ [29]) ad1 cn1 H1 ∧ (∀ r, r < 12 → ad1 r = ad r) ∧ (∀ r, r < 11 → cn1 r = cn r) ∧ isM ids ad1 cn1 taI 0) := by
  refine ro_ofM (by decide +kernel) (Nat.le_of_ble_eq_true rfl) ?_
  intro p e s m below meth c MC hhp hr hnm HS ls hl
  have hx := MC.1.1
  have hb := MC.1.2.1
  have hl : lv_has ls 1 [(0, .ref (ad 11))] := hl
  have ha11 : ad 11 = ad 11 := rfl
  have hal : ∀ r, r < 12 → ad r = ad r := fun _ _ => rfl
  have hlow : ∀ r, r < 11 → cn r = cn r := fun _ _ => rfl
  have hA : ∀ i, 1 ≤ i → i < 1 → cn (11 + i) = .inl (ids (tmC i), tmN i, .inl (fun _ => 0)) := fun i h1 h2 => absurd h2 (by omega)
  refine lv_aload_n hx hb dX7_init_0 rfl (lv_at hl 0 rfl) ?_
  refine ro_obj MC kw617 kw51 kw52 hl.1 dX7_init_1 ⟨Nat.le_of_ble_eq_true rfl, Nat.le_of_ble_eq_true rfl⟩ ?_
  refine lv_aload_n hx hb dX7_init_4 rfl (lv_at hl 0 rfl) ?_
  refine lv_iconst (v := 1) hx hb dX7_init_5 (by decide) ?_
  refine ro_putG MC HP HS ha11 (by decide) f11 (rfl : vwCl[6]? = some (RX7, TX7, 23)) inU7 tyX7_ok nmX7 2 (by decide) kw620 rfl rfl rfl rfl (Nat.le_of_ble_eq_true rfl) dX7_init_6 (fun cn1 H1 lH1 HP hcn f11 HS => ?_)
  have f11 : cn1 11 = .inr (6, [.int 0, .int 0, .int 1, .null, .null, .null, .int 0, .null, .null, .null, .null, .null, .null, .null, .int 0, .null, .null, .null, .null, .null, .null, .null, .null]) := f11
  have hlow : ∀ r, r < 11 → cn1 r = cn r := fun r hr => (hcn r (by omega)).trans (hlow r hr)
  have hA : ∀ i, 1 ≤ i → i < 1 → cn1 (11 + i) = .inl (ids (tmC i), tmN i, .inl (fun _ => 0)) := fun i h1 h2 => (hcn _ (by omega)).trans (hA i h1 h2)
  refine lv_aload_n hx hb dX7_init_9 rfl (lv_at hl 0 rfl) ?_
  refine lv_bipush (v := 16) hx hb dX7_init_10 (by decide) ?_
  refine ro_newaG (atype := .int) (ty := .int) MC HP HS 12 (by decide) 0 rfl kw72 rfl (x := (16, .inl (fun _ => 0))) (fun C h => by cases h) rfl (by decide) rfl (by decide) (Nat.le_of_ble_eq_true rfl) (Nat.le_of_ble_eq_true rfl) dX7_init_12 (fun ad2 cn2 H2 HP had hcn hself HS => ?_)
  have f11 : cn2 11 = .inr (6, [.int 0, .int 0, .int 1, .null, .null, .null, .int 0, .null, .null, .null, .null, .null, .null, .null, .int 0, .null, .null, .null, .null, .null, .null, .null, .null]) := by rw [hcn 11 (by omega), f11]
  have ha11 : ad2 11 = ad 11 := (had 11 (by omega)).trans ha11
  have hal : ∀ r, r < 12 → ad2 r = ad r := fun r hr => (had r (by omega)).trans (hal r hr)
  have hlow : ∀ r, r < 11 → cn2 r = cn r := fun r hr => (hcn r (by omega)).trans (hlow r hr)
  have hA : ∀ i, 1 ≤ i → i < 2 → cn2 (11 + i) = .inl (ids (tmC i), tmN i, .inl (fun _ => 0)) := fun i h1 h2 => by
    by_cases h9 : i = 1
    · subst h9; exact hself
    · rw [hcn _ (by omega)]; exact hA i h1 (by omega)
  refine ro_putFG MC (hnm.trans rfl) HP HS ha11 (by decide) f11 (rfl : vwCl[6]? = some (RX7, TX7, 23)) inU7 tyX7_ok nmX7 3 (by decide) kw621 rfl rfl rfl rfl (Nat.le_of_ble_eq_true rfl) dX7_init_14 (fun cn3 H3 lH3 HP hcn f11 HS => ?_)
  have f11 : cn3 11 = .inr (6, [.int 0, .int 0, .int 1, .ref (ad2 12), .null, .null, .int 0, .null, .null, .null, .null, .null, .null, .null, .int 0, .null, .null, .null, .null, .null, .null, .null, .null]) := f11
  have hlow : ∀ r, r < 11 → cn3 r = cn r := fun r hr => (hcn r (by omega)).trans (hlow r hr)
  have hA : ∀ i, 1 ≤ i → i < 2 → cn3 (11 + i) = .inl (ids (tmC i), tmN i, .inl (fun _ => 0)) := fun i h1 h2 => (hcn _ (by omega)).trans (hA i h1 h2)
  refine lv_aload_n hx hb dX7_init_17 rfl (lv_at hl 0 rfl) ?_
  refine lv_iconst (v := 4) hx hb dX7_init_18 (by decide) ?_
  refine ro_newaG (atype := .int) (ty := .int) MC HP HS 13 (by decide) 0 rfl kw72 rfl (x := (4, .inl (fun _ => 0))) (fun C h => by cases h) rfl (by decide) rfl (by decide) (Nat.le_of_ble_eq_true rfl) (Nat.le_of_ble_eq_true rfl) dX7_init_19 (fun ad4 cn4 H4 HP had hcn hself HS => ?_)
  have f11 : cn4 11 = .inr (6, [.int 0, .int 0, .int 1, .ref (ad4 12), .null, .null, .int 0, .null, .null, .null, .null, .null, .null, .null, .int 0, .null, .null, .null, .null, .null, .null, .null, .null]) := by rw [hcn 11 (by omega), f11, had 12 (by omega)]
  have ha11 : ad4 11 = ad 11 := (had 11 (by omega)).trans ha11
  have hal : ∀ r, r < 12 → ad4 r = ad r := fun r hr => (had r (by omega)).trans (hal r hr)
  have hlow : ∀ r, r < 11 → cn4 r = cn r := fun r hr => (hcn r (by omega)).trans (hlow r hr)
  have hA : ∀ i, 1 ≤ i → i < 3 → cn4 (11 + i) = .inl (ids (tmC i), tmN i, .inl (fun _ => 0)) := fun i h1 h2 => by
    by_cases h9 : i = 2
    · subst h9; exact hself
    · rw [hcn _ (by omega)]; exact hA i h1 (by omega)
  refine ro_putFG MC (hnm.trans rfl) HP HS ha11 (by decide) f11 (rfl : vwCl[6]? = some (RX7, TX7, 23)) inU7 tyX7_ok nmX7 4 (by decide) kw622 rfl rfl rfl rfl (Nat.le_of_ble_eq_true rfl) dX7_init_21 (fun cn5 H5 lH5 HP hcn f11 HS => ?_)
  have f11 : cn5 11 = .inr (6, [.int 0, .int 0, .int 1, .ref (ad4 12), .ref (ad4 13), .null, .int 0, .null, .null, .null, .null, .null, .null, .null, .int 0, .null, .null, .null, .null, .null, .null, .null, .null]) := f11
  have hlow : ∀ r, r < 11 → cn5 r = cn r := fun r hr => (hcn r (by omega)).trans (hlow r hr)
  have hA : ∀ i, 1 ≤ i → i < 3 → cn5 (11 + i) = .inl (ids (tmC i), tmN i, .inl (fun _ => 0)) := fun i h1 h2 => (hcn _ (by omega)).trans (hA i h1 h2)
  refine lv_aload_n hx hb dX7_init_24 rfl (lv_at hl 0 rfl) ?_
  refine lv_bipush (v := 120) hx hb dX7_init_25 (by decide) ?_
  refine ro_newaG (atype := .boolean) (ty := .boolean) MC HP HS 14 (by decide) 1 rfl kw73 rfl (x := (120, .inl (fun _ => 0))) (fun C h => by cases h) rfl (by decide) rfl (by decide) (Nat.le_of_ble_eq_true rfl) (Nat.le_of_ble_eq_true rfl) dX7_init_27 (fun ad6 cn6 H6 HP had hcn hself HS => ?_)
  have f11 : cn6 11 = .inr (6, [.int 0, .int 0, .int 1, .ref (ad6 12), .ref (ad6 13), .null, .int 0, .null, .null, .null, .null, .null, .null, .null, .int 0, .null, .null, .null, .null, .null, .null, .null, .null]) := by rw [hcn 11 (by omega), f11, had 12 (by omega), had 13 (by omega)]
  have ha11 : ad6 11 = ad 11 := (had 11 (by omega)).trans ha11
  have hal : ∀ r, r < 12 → ad6 r = ad r := fun r hr => (had r (by omega)).trans (hal r hr)
  have hlow : ∀ r, r < 11 → cn6 r = cn r := fun r hr => (hcn r (by omega)).trans (hlow r hr)
  have hA : ∀ i, 1 ≤ i → i < 4 → cn6 (11 + i) = .inl (ids (tmC i), tmN i, .inl (fun _ => 0)) := fun i h1 h2 => by
    by_cases h9 : i = 3
    · subst h9; exact hself
    · rw [hcn _ (by omega)]; exact hA i h1 (by omega)
  refine ro_putFG MC (hnm.trans rfl) HP HS ha11 (by decide) f11 (rfl : vwCl[6]? = some (RX7, TX7, 23)) inU7 tyX7_ok nmX7 5 (by decide) kw623 rfl rfl rfl rfl (Nat.le_of_ble_eq_true rfl) dX7_init_29 (fun cn7 H7 lH7 HP hcn f11 HS => ?_)
  have f11 : cn7 11 = .inr (6, [.int 0, .int 0, .int 1, .ref (ad6 12), .ref (ad6 13), .ref (ad6 14), .int 0, .null, .null, .null, .null, .null, .null, .null, .int 0, .null, .null, .null, .null, .null, .null, .null, .null]) := f11
  have hlow : ∀ r, r < 11 → cn7 r = cn r := fun r hr => (hcn r (by omega)).trans (hlow r hr)
  have hA : ∀ i, 1 ≤ i → i < 4 → cn7 (11 + i) = .inl (ids (tmC i), tmN i, .inl (fun _ => 0)) := fun i h1 h2 => (hcn _ (by omega)).trans (hA i h1 h2)
  refine lv_aload_n hx hb dX7_init_32 rfl (lv_at hl 0 rfl) ?_
  refine lv_bipush (v := 20) hx hb dX7_init_33 (by decide) ?_
  refine ro_newaG (atype := .boolean) (ty := .boolean) MC HP HS 15 (by decide) 1 rfl kw73 rfl (x := (20, .inl (fun _ => 0))) (fun C h => by cases h) rfl (by decide) rfl (by decide) (Nat.le_of_ble_eq_true rfl) (Nat.le_of_ble_eq_true rfl) dX7_init_35 (fun ad8 cn8 H8 HP had hcn hself HS => ?_)
  have f11 : cn8 11 = .inr (6, [.int 0, .int 0, .int 1, .ref (ad8 12), .ref (ad8 13), .ref (ad8 14), .int 0, .null, .null, .null, .null, .null, .null, .null, .int 0, .null, .null, .null, .null, .null, .null, .null, .null]) := by rw [hcn 11 (by omega), f11, had 12 (by omega), had 13 (by omega), had 14 (by omega)]
  have ha11 : ad8 11 = ad 11 := (had 11 (by omega)).trans ha11
  have hal : ∀ r, r < 12 → ad8 r = ad r := fun r hr => (had r (by omega)).trans (hal r hr)
  have hlow : ∀ r, r < 11 → cn8 r = cn r := fun r hr => (hcn r (by omega)).trans (hlow r hr)
  have hA : ∀ i, 1 ≤ i → i < 5 → cn8 (11 + i) = .inl (ids (tmC i), tmN i, .inl (fun _ => 0)) := fun i h1 h2 => by
    by_cases h9 : i = 4
    · subst h9; exact hself
    · rw [hcn _ (by omega)]; exact hA i h1 (by omega)
  refine ro_putFG MC (hnm.trans rfl) HP HS ha11 (by decide) f11 (rfl : vwCl[6]? = some (RX7, TX7, 23)) inU7 tyX7_ok nmX7 7 (by decide) kw625 rfl rfl rfl rfl (Nat.le_of_ble_eq_true rfl) dX7_init_37 (fun cn9 H9 lH9 HP hcn f11 HS => ?_)
  have f11 : cn9 11 = .inr (6, [.int 0, .int 0, .int 1, .ref (ad8 12), .ref (ad8 13), .ref (ad8 14), .int 0, .ref (ad8 15), .null, .null, .null, .null, .null, .null, .int 0, .null, .null, .null, .null, .null, .null, .null, .null]) := f11
  have hlow : ∀ r, r < 11 → cn9 r = cn r := fun r hr => (hcn r (by omega)).trans (hlow r hr)
  have hA : ∀ i, 1 ≤ i → i < 5 → cn9 (11 + i) = .inl (ids (tmC i), tmN i, .inl (fun _ => 0)) := fun i h1 h2 => (hcn _ (by omega)).trans (hA i h1 h2)
  refine lv_aload_n hx hb dX7_init_40 rfl (lv_at hl 0 rfl) ?_
  refine lv_bipush (v := 20) hx hb dX7_init_41 (by decide) ?_
  refine ro_newaG (atype := .int) (ty := .int) MC HP HS 16 (by decide) 0 rfl kw72 rfl (x := (20, .inl (fun _ => 0))) (fun C h => by cases h) rfl (by decide) rfl (by decide) (Nat.le_of_ble_eq_true rfl) (Nat.le_of_ble_eq_true rfl) dX7_init_43 (fun ad10 cn10 H10 HP had hcn hself HS => ?_)
  have f11 : cn10 11 = .inr (6, [.int 0, .int 0, .int 1, .ref (ad10 12), .ref (ad10 13), .ref (ad10 14), .int 0, .ref (ad10 15), .null, .null, .null, .null, .null, .null, .int 0, .null, .null, .null, .null, .null, .null, .null, .null]) := by rw [hcn 11 (by omega), f11, had 12 (by omega), had 13 (by omega), had 14 (by omega), had 15 (by omega)]
  have ha11 : ad10 11 = ad 11 := (had 11 (by omega)).trans ha11
  have hal : ∀ r, r < 12 → ad10 r = ad r := fun r hr => (had r (by omega)).trans (hal r hr)
  have hlow : ∀ r, r < 11 → cn10 r = cn r := fun r hr => (hcn r (by omega)).trans (hlow r hr)
  have hA : ∀ i, 1 ≤ i → i < 6 → cn10 (11 + i) = .inl (ids (tmC i), tmN i, .inl (fun _ => 0)) := fun i h1 h2 => by
    by_cases h9 : i = 5
    · subst h9; exact hself
    · rw [hcn _ (by omega)]; exact hA i h1 (by omega)
  refine ro_putFG MC (hnm.trans rfl) HP HS ha11 (by decide) f11 (rfl : vwCl[6]? = some (RX7, TX7, 23)) inU7 tyX7_ok nmX7 8 (by decide) kw626 rfl rfl rfl rfl (Nat.le_of_ble_eq_true rfl) dX7_init_45 (fun cn11 H11 lH11 HP hcn f11 HS => ?_)
  have f11 : cn11 11 = .inr (6, [.int 0, .int 0, .int 1, .ref (ad10 12), .ref (ad10 13), .ref (ad10 14), .int 0, .ref (ad10 15), .ref (ad10 16), .null, .null, .null, .null, .null, .int 0, .null, .null, .null, .null, .null, .null, .null, .null]) := f11
  have hlow : ∀ r, r < 11 → cn11 r = cn r := fun r hr => (hcn r (by omega)).trans (hlow r hr)
  have hA : ∀ i, 1 ≤ i → i < 6 → cn11 (11 + i) = .inl (ids (tmC i), tmN i, .inl (fun _ => 0)) := fun i h1 h2 => (hcn _ (by omega)).trans (hA i h1 h2)
  refine lv_aload_n hx hb dX7_init_48 rfl (lv_at hl 0 rfl) ?_
  refine lv_bipush (v := 20) hx hb dX7_init_49 (by decide) ?_
  refine ro_newaG (atype := .int) (ty := .int) MC HP HS 17 (by decide) 0 rfl kw72 rfl (x := (20, .inl (fun _ => 0))) (fun C h => by cases h) rfl (by decide) rfl (by decide) (Nat.le_of_ble_eq_true rfl) (Nat.le_of_ble_eq_true rfl) dX7_init_51 (fun ad12 cn12 H12 HP had hcn hself HS => ?_)
  have f11 : cn12 11 = .inr (6, [.int 0, .int 0, .int 1, .ref (ad12 12), .ref (ad12 13), .ref (ad12 14), .int 0, .ref (ad12 15), .ref (ad12 16), .null, .null, .null, .null, .null, .int 0, .null, .null, .null, .null, .null, .null, .null, .null]) := by rw [hcn 11 (by omega), f11, had 12 (by omega), had 13 (by omega), had 14 (by omega), had 15 (by omega), had 16 (by omega)]
  have ha11 : ad12 11 = ad 11 := (had 11 (by omega)).trans ha11
  have hal : ∀ r, r < 12 → ad12 r = ad r := fun r hr => (had r (by omega)).trans (hal r hr)
  have hlow : ∀ r, r < 11 → cn12 r = cn r := fun r hr => (hcn r (by omega)).trans (hlow r hr)
  have hA : ∀ i, 1 ≤ i → i < 7 → cn12 (11 + i) = .inl (ids (tmC i), tmN i, .inl (fun _ => 0)) := fun i h1 h2 => by
    by_cases h9 : i = 6
    · subst h9; exact hself
    · rw [hcn _ (by omega)]; exact hA i h1 (by omega)
  refine ro_putFG MC (hnm.trans rfl) HP HS ha11 (by decide) f11 (rfl : vwCl[6]? = some (RX7, TX7, 23)) inU7 tyX7_ok nmX7 9 (by decide) kw627 rfl rfl rfl rfl (Nat.le_of_ble_eq_true rfl) dX7_init_53 (fun cn13 H13 lH13 HP hcn f11 HS => ?_)
  have f11 : cn13 11 = .inr (6, [.int 0, .int 0, .int 1, .ref (ad12 12), .ref (ad12 13), .ref (ad12 14), .int 0, .ref (ad12 15), .ref (ad12 16), .ref (ad12 17), .null, .null, .null, .null, .int 0, .null, .null, .null, .null, .null, .null, .null, .null]) := f11
  have hlow : ∀ r, r < 11 → cn13 r = cn r := fun r hr => (hcn r (by omega)).trans (hlow r hr)
  have hA : ∀ i, 1 ≤ i → i < 7 → cn13 (11 + i) = .inl (ids (tmC i), tmN i, .inl (fun _ => 0)) := fun i h1 h2 => (hcn _ (by omega)).trans (hA i h1 h2)
  refine lv_aload_n hx hb dX7_init_56 rfl (lv_at hl 0 rfl) ?_
  refine lv_bipush (v := 20) hx hb dX7_init_57 (by decide) ?_
  refine ro_newaG (atype := .int) (ty := .int) MC HP HS 18 (by decide) 0 rfl kw72 rfl (x := (20, .inl (fun _ => 0))) (fun C h => by cases h) rfl (by decide) rfl (by decide) (Nat.le_of_ble_eq_true rfl) (Nat.le_of_ble_eq_true rfl) dX7_init_59 (fun ad14 cn14 H14 HP had hcn hself HS => ?_)
  have f11 : cn14 11 = .inr (6, [.int 0, .int 0, .int 1, .ref (ad14 12), .ref (ad14 13), .ref (ad14 14), .int 0, .ref (ad14 15), .ref (ad14 16), .ref (ad14 17), .null, .null, .null, .null, .int 0, .null, .null, .null, .null, .null, .null, .null, .null]) := by rw [hcn 11 (by omega), f11, had 12 (by omega), had 13 (by omega), had 14 (by omega), had 15 (by omega), had 16 (by omega), had 17 (by omega)]
  have ha11 : ad14 11 = ad 11 := (had 11 (by omega)).trans ha11
  have hal : ∀ r, r < 12 → ad14 r = ad r := fun r hr => (had r (by omega)).trans (hal r hr)
  have hlow : ∀ r, r < 11 → cn14 r = cn r := fun r hr => (hcn r (by omega)).trans (hlow r hr)
  have hA : ∀ i, 1 ≤ i → i < 8 → cn14 (11 + i) = .inl (ids (tmC i), tmN i, .inl (fun _ => 0)) := fun i h1 h2 => by
    by_cases h9 : i = 7
    · subst h9; exact hself
    · rw [hcn _ (by omega)]; exact hA i h1 (by omega)
  refine ro_putFG MC (hnm.trans rfl) HP HS ha11 (by decide) f11 (rfl : vwCl[6]? = some (RX7, TX7, 23)) inU7 tyX7_ok nmX7 10 (by decide) kw628 rfl rfl rfl rfl (Nat.le_of_ble_eq_true rfl) dX7_init_61 (fun cn15 H15 lH15 HP hcn f11 HS => ?_)
  have f11 : cn15 11 = .inr (6, [.int 0, .int 0, .int 1, .ref (ad14 12), .ref (ad14 13), .ref (ad14 14), .int 0, .ref (ad14 15), .ref (ad14 16), .ref (ad14 17), .ref (ad14 18), .null, .null, .null, .int 0, .null, .null, .null, .null, .null, .null, .null, .null]) := f11
  have hlow : ∀ r, r < 11 → cn15 r = cn r := fun r hr => (hcn r (by omega)).trans (hlow r hr)
  have hA : ∀ i, 1 ≤ i → i < 8 → cn15 (11 + i) = .inl (ids (tmC i), tmN i, .inl (fun _ => 0)) := fun i h1 h2 => (hcn _ (by omega)).trans (hA i h1 h2)
  refine lv_aload_n hx hb dX7_init_64 rfl (lv_at hl 0 rfl) ?_
  refine lv_bipush (v := 20) hx hb dX7_init_65 (by decide) ?_
  refine ro_newaG (atype := .int) (ty := .int) MC HP HS 19 (by decide) 0 rfl kw72 rfl (x := (20, .inl (fun _ => 0))) (fun C h => by cases h) rfl (by decide) rfl (by decide) (Nat.le_of_ble_eq_true rfl) (Nat.le_of_ble_eq_true rfl) dX7_init_67 (fun ad16 cn16 H16 HP had hcn hself HS => ?_)
  have f11 : cn16 11 = .inr (6, [.int 0, .int 0, .int 1, .ref (ad16 12), .ref (ad16 13), .ref (ad16 14), .int 0, .ref (ad16 15), .ref (ad16 16), .ref (ad16 17), .ref (ad16 18), .null, .null, .null, .int 0, .null, .null, .null, .null, .null, .null, .null, .null]) := by rw [hcn 11 (by omega), f11, had 12 (by omega), had 13 (by omega), had 14 (by omega), had 15 (by omega), had 16 (by omega), had 17 (by omega), had 18 (by omega)]
  have ha11 : ad16 11 = ad 11 := (had 11 (by omega)).trans ha11
  have hal : ∀ r, r < 12 → ad16 r = ad r := fun r hr => (had r (by omega)).trans (hal r hr)
  have hlow : ∀ r, r < 11 → cn16 r = cn r := fun r hr => (hcn r (by omega)).trans (hlow r hr)
  have hA : ∀ i, 1 ≤ i → i < 9 → cn16 (11 + i) = .inl (ids (tmC i), tmN i, .inl (fun _ => 0)) := fun i h1 h2 => by
    by_cases h9 : i = 8
    · subst h9; exact hself
    · rw [hcn _ (by omega)]; exact hA i h1 (by omega)
  refine ro_putFG MC (hnm.trans rfl) HP HS ha11 (by decide) f11 (rfl : vwCl[6]? = some (RX7, TX7, 23)) inU7 tyX7_ok nmX7 11 (by decide) kw629 rfl rfl rfl rfl (Nat.le_of_ble_eq_true rfl) dX7_init_69 (fun cn17 H17 lH17 HP hcn f11 HS => ?_)
  have f11 : cn17 11 = .inr (6, [.int 0, .int 0, .int 1, .ref (ad16 12), .ref (ad16 13), .ref (ad16 14), .int 0, .ref (ad16 15), .ref (ad16 16), .ref (ad16 17), .ref (ad16 18), .ref (ad16 19), .null, .null, .int 0, .null, .null, .null, .null, .null, .null, .null, .null]) := f11
  have hlow : ∀ r, r < 11 → cn17 r = cn r := fun r hr => (hcn r (by omega)).trans (hlow r hr)
  have hA : ∀ i, 1 ≤ i → i < 9 → cn17 (11 + i) = .inl (ids (tmC i), tmN i, .inl (fun _ => 0)) := fun i h1 h2 => (hcn _ (by omega)).trans (hA i h1 h2)
  refine lv_aload_n hx hb dX7_init_72 rfl (lv_at hl 0 rfl) ?_
  refine lv_bipush (v := 20) hx hb dX7_init_73 (by decide) ?_
  refine ro_newaG (atype := .int) (ty := .int) MC HP HS 20 (by decide) 0 rfl kw72 rfl (x := (20, .inl (fun _ => 0))) (fun C h => by cases h) rfl (by decide) rfl (by decide) (Nat.le_of_ble_eq_true rfl) (Nat.le_of_ble_eq_true rfl) dX7_init_75 (fun ad18 cn18 H18 HP had hcn hself HS => ?_)
  have f11 : cn18 11 = .inr (6, [.int 0, .int 0, .int 1, .ref (ad18 12), .ref (ad18 13), .ref (ad18 14), .int 0, .ref (ad18 15), .ref (ad18 16), .ref (ad18 17), .ref (ad18 18), .ref (ad18 19), .null, .null, .int 0, .null, .null, .null, .null, .null, .null, .null, .null]) := by rw [hcn 11 (by omega), f11, had 12 (by omega), had 13 (by omega), had 14 (by omega), had 15 (by omega), had 16 (by omega), had 17 (by omega), had 18 (by omega), had 19 (by omega)]
  have ha11 : ad18 11 = ad 11 := (had 11 (by omega)).trans ha11
  have hal : ∀ r, r < 12 → ad18 r = ad r := fun r hr => (had r (by omega)).trans (hal r hr)
  have hlow : ∀ r, r < 11 → cn18 r = cn r := fun r hr => (hcn r (by omega)).trans (hlow r hr)
  have hA : ∀ i, 1 ≤ i → i < 10 → cn18 (11 + i) = .inl (ids (tmC i), tmN i, .inl (fun _ => 0)) := fun i h1 h2 => by
    by_cases h9 : i = 9
    · subst h9; exact hself
    · rw [hcn _ (by omega)]; exact hA i h1 (by omega)
  refine ro_putFG MC (hnm.trans rfl) HP HS ha11 (by decide) f11 (rfl : vwCl[6]? = some (RX7, TX7, 23)) inU7 tyX7_ok nmX7 12 (by decide) kw630 rfl rfl rfl rfl (Nat.le_of_ble_eq_true rfl) dX7_init_77 (fun cn19 H19 lH19 HP hcn f11 HS => ?_)
  have f11 : cn19 11 = .inr (6, [.int 0, .int 0, .int 1, .ref (ad18 12), .ref (ad18 13), .ref (ad18 14), .int 0, .ref (ad18 15), .ref (ad18 16), .ref (ad18 17), .ref (ad18 18), .ref (ad18 19), .ref (ad18 20), .null, .int 0, .null, .null, .null, .null, .null, .null, .null, .null]) := f11
  have hlow : ∀ r, r < 11 → cn19 r = cn r := fun r hr => (hcn r (by omega)).trans (hlow r hr)
  have hA : ∀ i, 1 ≤ i → i < 10 → cn19 (11 + i) = .inl (ids (tmC i), tmN i, .inl (fun _ => 0)) := fun i h1 h2 => (hcn _ (by omega)).trans (hA i h1 h2)
  refine lv_aload_n hx hb dX7_init_80 rfl (lv_at hl 0 rfl) ?_
  refine lv_bipush (v := 20) hx hb dX7_init_81 (by decide) ?_
  refine ro_newaG (atype := .int) (ty := .int) MC HP HS 21 (by decide) 0 rfl kw72 rfl (x := (20, .inl (fun _ => 0))) (fun C h => by cases h) rfl (by decide) rfl (by decide) (Nat.le_of_ble_eq_true rfl) (Nat.le_of_ble_eq_true rfl) dX7_init_83 (fun ad20 cn20 H20 HP had hcn hself HS => ?_)
  have f11 : cn20 11 = .inr (6, [.int 0, .int 0, .int 1, .ref (ad20 12), .ref (ad20 13), .ref (ad20 14), .int 0, .ref (ad20 15), .ref (ad20 16), .ref (ad20 17), .ref (ad20 18), .ref (ad20 19), .ref (ad20 20), .null, .int 0, .null, .null, .null, .null, .null, .null, .null, .null]) := by rw [hcn 11 (by omega), f11, had 12 (by omega), had 13 (by omega), had 14 (by omega), had 15 (by omega), had 16 (by omega), had 17 (by omega), had 18 (by omega), had 19 (by omega), had 20 (by omega)]
  have ha11 : ad20 11 = ad 11 := (had 11 (by omega)).trans ha11
  have hal : ∀ r, r < 12 → ad20 r = ad r := fun r hr => (had r (by omega)).trans (hal r hr)
  have hlow : ∀ r, r < 11 → cn20 r = cn r := fun r hr => (hcn r (by omega)).trans (hlow r hr)
  have hA : ∀ i, 1 ≤ i → i < 11 → cn20 (11 + i) = .inl (ids (tmC i), tmN i, .inl (fun _ => 0)) := fun i h1 h2 => by
    by_cases h9 : i = 10
    · subst h9; exact hself
    · rw [hcn _ (by omega)]; exact hA i h1 (by omega)
  refine ro_putFG MC (hnm.trans rfl) HP HS ha11 (by decide) f11 (rfl : vwCl[6]? = some (RX7, TX7, 23)) inU7 tyX7_ok nmX7 13 (by decide) kw631 rfl rfl rfl rfl (Nat.le_of_ble_eq_true rfl) dX7_init_85 (fun cn21 H21 lH21 HP hcn f11 HS => ?_)
  have f11 : cn21 11 = .inr (6, [.int 0, .int 0, .int 1, .ref (ad20 12), .ref (ad20 13), .ref (ad20 14), .int 0, .ref (ad20 15), .ref (ad20 16), .ref (ad20 17), .ref (ad20 18), .ref (ad20 19), .ref (ad20 20), .ref (ad20 21), .int 0, .null, .null, .null, .null, .null, .null, .null, .null]) := f11
  have hlow : ∀ r, r < 11 → cn21 r = cn r := fun r hr => (hcn r (by omega)).trans (hlow r hr)
  have hA : ∀ i, 1 ≤ i → i < 11 → cn21 (11 + i) = .inl (ids (tmC i), tmN i, .inl (fun _ => 0)) := fun i h1 h2 => (hcn _ (by omega)).trans (hA i h1 h2)
  refine lv_aload_n hx hb dX7_init_88 rfl (lv_at hl 0 rfl) ?_
  refine lv_bipush (v := 30) hx hb dX7_init_89 (by decide) ?_
  refine ro_newaG (atype := .int) (ty := .int) MC HP HS 22 (by decide) 0 rfl kw72 rfl (x := (30, .inl (fun _ => 0))) (fun C h => by cases h) rfl (by decide) rfl (by decide) (Nat.le_of_ble_eq_true rfl) (Nat.le_of_ble_eq_true rfl) dX7_init_91 (fun ad22 cn22 H22 HP had hcn hself HS => ?_)
  have f11 : cn22 11 = .inr (6, [.int 0, .int 0, .int 1, .ref (ad22 12), .ref (ad22 13), .ref (ad22 14), .int 0, .ref (ad22 15), .ref (ad22 16), .ref (ad22 17), .ref (ad22 18), .ref (ad22 19), .ref (ad22 20), .ref (ad22 21), .int 0, .null, .null, .null, .null, .null, .null, .null, .null]) := by rw [hcn 11 (by omega), f11, had 12 (by omega), had 13 (by omega), had 14 (by omega), had 15 (by omega), had 16 (by omega), had 17 (by omega), had 18 (by omega), had 19 (by omega), had 20 (by omega), had 21 (by omega)]
  have ha11 : ad22 11 = ad 11 := (had 11 (by omega)).trans ha11
  have hal : ∀ r, r < 12 → ad22 r = ad r := fun r hr => (had r (by omega)).trans (hal r hr)
  have hlow : ∀ r, r < 11 → cn22 r = cn r := fun r hr => (hcn r (by omega)).trans (hlow r hr)
  have hA : ∀ i, 1 ≤ i → i < 12 → cn22 (11 + i) = .inl (ids (tmC i), tmN i, .inl (fun _ => 0)) := fun i h1 h2 => by
    by_cases h9 : i = 11
    · subst h9; exact hself
    · rw [hcn _ (by omega)]; exact hA i h1 (by omega)
  refine ro_putFG MC (hnm.trans rfl) HP HS ha11 (by decide) f11 (rfl : vwCl[6]? = some (RX7, TX7, 23)) inU7 tyX7_ok nmX7 15 (by decide) kw633 rfl rfl rfl rfl (Nat.le_of_ble_eq_true rfl) dX7_init_93 (fun cn23 H23 lH23 HP hcn f11 HS => ?_)
  have f11 : cn23 11 = .inr (6, [.int 0, .int 0, .int 1, .ref (ad22 12), .ref (ad22 13), .ref (ad22 14), .int 0, .ref (ad22 15), .ref (ad22 16), .ref (ad22 17), .ref (ad22 18), .ref (ad22 19), .ref (ad22 20), .ref (ad22 21), .int 0, .ref (ad22 22), .null, .null, .null, .null, .null, .null, .null]) := f11
  have hlow : ∀ r, r < 11 → cn23 r = cn r := fun r hr => (hcn r (by omega)).trans (hlow r hr)
  have hA : ∀ i, 1 ≤ i → i < 12 → cn23 (11 + i) = .inl (ids (tmC i), tmN i, .inl (fun _ => 0)) := fun i h1 h2 => (hcn _ (by omega)).trans (hA i h1 h2)
  refine lv_aload_n hx hb dX7_init_96 rfl (lv_at hl 0 rfl) ?_
  refine lv_bipush (v := 30) hx hb dX7_init_97 (by decide) ?_
  refine ro_newaG (atype := .int) (ty := .int) MC HP HS 23 (by decide) 0 rfl kw72 rfl (x := (30, .inl (fun _ => 0))) (fun C h => by cases h) rfl (by decide) rfl (by decide) (Nat.le_of_ble_eq_true rfl) (Nat.le_of_ble_eq_true rfl) dX7_init_99 (fun ad24 cn24 H24 HP had hcn hself HS => ?_)
  have f11 : cn24 11 = .inr (6, [.int 0, .int 0, .int 1, .ref (ad24 12), .ref (ad24 13), .ref (ad24 14), .int 0, .ref (ad24 15), .ref (ad24 16), .ref (ad24 17), .ref (ad24 18), .ref (ad24 19), .ref (ad24 20), .ref (ad24 21), .int 0, .ref (ad24 22), .null, .null, .null, .null, .null, .null, .null]) := by rw [hcn 11 (by omega), f11, had 12 (by omega), had 13 (by omega), had 14 (by omega), had 15 (by omega), had 16 (by omega), had 17 (by omega), had 18 (by omega), had 19 (by omega), had 20 (by omega), had 21 (by omega), had 22 (by omega)]
  have ha11 : ad24 11 = ad 11 := (had 11 (by omega)).trans ha11
  have hal : ∀ r, r < 12 → ad24 r = ad r := fun r hr => (had r (by omega)).trans (hal r hr)
  have hlow : ∀ r, r < 11 → cn24 r = cn r := fun r hr => (hcn r (by omega)).trans (hlow r hr)
  have hA : ∀ i, 1 ≤ i → i < 13 → cn24 (11 + i) = .inl (ids (tmC i), tmN i, .inl (fun _ => 0)) := fun i h1 h2 => by
    by_cases h9 : i = 12
    · subst h9; exact hself
    · rw [hcn _ (by omega)]; exact hA i h1 (by omega)
  refine ro_putFG MC (hnm.trans rfl) HP HS ha11 (by decide) f11 (rfl : vwCl[6]? = some (RX7, TX7, 23)) inU7 tyX7_ok nmX7 16 (by decide) kw634 rfl rfl rfl rfl (Nat.le_of_ble_eq_true rfl) dX7_init_101 (fun cn25 H25 lH25 HP hcn f11 HS => ?_)
  have f11 : cn25 11 = .inr (6, [.int 0, .int 0, .int 1, .ref (ad24 12), .ref (ad24 13), .ref (ad24 14), .int 0, .ref (ad24 15), .ref (ad24 16), .ref (ad24 17), .ref (ad24 18), .ref (ad24 19), .ref (ad24 20), .ref (ad24 21), .int 0, .ref (ad24 22), .ref (ad24 23), .null, .null, .null, .null, .null, .null]) := f11
  have hlow : ∀ r, r < 11 → cn25 r = cn r := fun r hr => (hcn r (by omega)).trans (hlow r hr)
  have hA : ∀ i, 1 ≤ i → i < 13 → cn25 (11 + i) = .inl (ids (tmC i), tmN i, .inl (fun _ => 0)) := fun i h1 h2 => (hcn _ (by omega)).trans (hA i h1 h2)
  refine lv_aload_n hx hb dX7_init_104 rfl (lv_at hl 0 rfl) ?_
  refine lv_bipush (v := 30) hx hb dX7_init_105 (by decide) ?_
  refine ro_newaG (atype := .int) (ty := .int) MC HP HS 24 (by decide) 0 rfl kw72 rfl (x := (30, .inl (fun _ => 0))) (fun C h => by cases h) rfl (by decide) rfl (by decide) (Nat.le_of_ble_eq_true rfl) (Nat.le_of_ble_eq_true rfl) dX7_init_107 (fun ad26 cn26 H26 HP had hcn hself HS => ?_)
  have f11 : cn26 11 = .inr (6, [.int 0, .int 0, .int 1, .ref (ad26 12), .ref (ad26 13), .ref (ad26 14), .int 0, .ref (ad26 15), .ref (ad26 16), .ref (ad26 17), .ref (ad26 18), .ref (ad26 19), .ref (ad26 20), .ref (ad26 21), .int 0, .ref (ad26 22), .ref (ad26 23), .null, .null, .null, .null, .null, .null]) := by rw [hcn 11 (by omega), f11, had 12 (by omega), had 13 (by omega), had 14 (by omega), had 15 (by omega), had 16 (by omega), had 17 (by omega), had 18 (by omega), had 19 (by omega), had 20 (by omega), had 21 (by omega), had 22 (by omega), had 23 (by omega)]
  have ha11 : ad26 11 = ad 11 := (had 11 (by omega)).trans ha11
  have hal : ∀ r, r < 12 → ad26 r = ad r := fun r hr => (had r (by omega)).trans (hal r hr)
  have hlow : ∀ r, r < 11 → cn26 r = cn r := fun r hr => (hcn r (by omega)).trans (hlow r hr)
  have hA : ∀ i, 1 ≤ i → i < 14 → cn26 (11 + i) = .inl (ids (tmC i), tmN i, .inl (fun _ => 0)) := fun i h1 h2 => by
    by_cases h9 : i = 13
    · subst h9; exact hself
    · rw [hcn _ (by omega)]; exact hA i h1 (by omega)
  refine ro_putFG MC (hnm.trans rfl) HP HS ha11 (by decide) f11 (rfl : vwCl[6]? = some (RX7, TX7, 23)) inU7 tyX7_ok nmX7 17 (by decide) kw635 rfl rfl rfl rfl (Nat.le_of_ble_eq_true rfl) dX7_init_109 (fun cn27 H27 lH27 HP hcn f11 HS => ?_)
  have f11 : cn27 11 = .inr (6, [.int 0, .int 0, .int 1, .ref (ad26 12), .ref (ad26 13), .ref (ad26 14), .int 0, .ref (ad26 15), .ref (ad26 16), .ref (ad26 17), .ref (ad26 18), .ref (ad26 19), .ref (ad26 20), .ref (ad26 21), .int 0, .ref (ad26 22), .ref (ad26 23), .ref (ad26 24), .null, .null, .null, .null, .null]) := f11
  have hlow : ∀ r, r < 11 → cn27 r = cn r := fun r hr => (hcn r (by omega)).trans (hlow r hr)
  have hA : ∀ i, 1 ≤ i → i < 14 → cn27 (11 + i) = .inl (ids (tmC i), tmN i, .inl (fun _ => 0)) := fun i h1 h2 => (hcn _ (by omega)).trans (hA i h1 h2)
  refine lv_aload_n hx hb dX7_init_112 rfl (lv_at hl 0 rfl) ?_
  refine lv_bipush (v := 30) hx hb dX7_init_113 (by decide) ?_
  refine ro_newaG (atype := .int) (ty := .int) MC HP HS 25 (by decide) 0 rfl kw72 rfl (x := (30, .inl (fun _ => 0))) (fun C h => by cases h) rfl (by decide) rfl (by decide) (Nat.le_of_ble_eq_true rfl) (Nat.le_of_ble_eq_true rfl) dX7_init_115 (fun ad28 cn28 H28 HP had hcn hself HS => ?_)
  have f11 : cn28 11 = .inr (6, [.int 0, .int 0, .int 1, .ref (ad28 12), .ref (ad28 13), .ref (ad28 14), .int 0, .ref (ad28 15), .ref (ad28 16), .ref (ad28 17), .ref (ad28 18), .ref (ad28 19), .ref (ad28 20), .ref (ad28 21), .int 0, .ref (ad28 22), .ref (ad28 23), .ref (ad28 24), .null, .null, .null, .null, .null]) := by rw [hcn 11 (by omega), f11, had 12 (by omega), had 13 (by omega), had 14 (by omega), had 15 (by omega), had 16 (by omega), had 17 (by omega), had 18 (by omega), had 19 (by omega), had 20 (by omega), had 21 (by omega), had 22 (by omega), had 23 (by omega), had 24 (by omega)]
  have ha11 : ad28 11 = ad 11 := (had 11 (by omega)).trans ha11
  have hal : ∀ r, r < 12 → ad28 r = ad r := fun r hr => (had r (by omega)).trans (hal r hr)
  have hlow : ∀ r, r < 11 → cn28 r = cn r := fun r hr => (hcn r (by omega)).trans (hlow r hr)
  have hA : ∀ i, 1 ≤ i → i < 15 → cn28 (11 + i) = .inl (ids (tmC i), tmN i, .inl (fun _ => 0)) := fun i h1 h2 => by
    by_cases h9 : i = 14
    · subst h9; exact hself
    · rw [hcn _ (by omega)]; exact hA i h1 (by omega)
  refine ro_putFG MC (hnm.trans rfl) HP HS ha11 (by decide) f11 (rfl : vwCl[6]? = some (RX7, TX7, 23)) inU7 tyX7_ok nmX7 18 (by decide) kw636 rfl rfl rfl rfl (Nat.le_of_ble_eq_true rfl) dX7_init_117 (fun cn29 H29 lH29 HP hcn f11 HS => ?_)
  have f11 : cn29 11 = .inr (6, [.int 0, .int 0, .int 1, .ref (ad28 12), .ref (ad28 13), .ref (ad28 14), .int 0, .ref (ad28 15), .ref (ad28 16), .ref (ad28 17), .ref (ad28 18), .ref (ad28 19), .ref (ad28 20), .ref (ad28 21), .int 0, .ref (ad28 22), .ref (ad28 23), .ref (ad28 24), .ref (ad28 25), .null, .null, .null, .null]) := f11
  have hlow : ∀ r, r < 11 → cn29 r = cn r := fun r hr => (hcn r (by omega)).trans (hlow r hr)
  have hA : ∀ i, 1 ≤ i → i < 15 → cn29 (11 + i) = .inl (ids (tmC i), tmN i, .inl (fun _ => 0)) := fun i h1 h2 => (hcn _ (by omega)).trans (hA i h1 h2)
  refine lv_aload_n hx hb dX7_init_120 rfl (lv_at hl 0 rfl) ?_
  refine lv_bipush (v := 30) hx hb dX7_init_121 (by decide) ?_
  refine ro_newaG (atype := .int) (ty := .int) MC HP HS 26 (by decide) 0 rfl kw72 rfl (x := (30, .inl (fun _ => 0))) (fun C h => by cases h) rfl (by decide) rfl (by decide) (Nat.le_of_ble_eq_true rfl) (Nat.le_of_ble_eq_true rfl) dX7_init_123 (fun ad30 cn30 H30 HP had hcn hself HS => ?_)
  have f11 : cn30 11 = .inr (6, [.int 0, .int 0, .int 1, .ref (ad30 12), .ref (ad30 13), .ref (ad30 14), .int 0, .ref (ad30 15), .ref (ad30 16), .ref (ad30 17), .ref (ad30 18), .ref (ad30 19), .ref (ad30 20), .ref (ad30 21), .int 0, .ref (ad30 22), .ref (ad30 23), .ref (ad30 24), .ref (ad30 25), .null, .null, .null, .null]) := by rw [hcn 11 (by omega), f11, had 12 (by omega), had 13 (by omega), had 14 (by omega), had 15 (by omega), had 16 (by omega), had 17 (by omega), had 18 (by omega), had 19 (by omega), had 20 (by omega), had 21 (by omega), had 22 (by omega), had 23 (by omega), had 24 (by omega), had 25 (by omega)]
  have ha11 : ad30 11 = ad 11 := (had 11 (by omega)).trans ha11
  have hal : ∀ r, r < 12 → ad30 r = ad r := fun r hr => (had r (by omega)).trans (hal r hr)
  have hlow : ∀ r, r < 11 → cn30 r = cn r := fun r hr => (hcn r (by omega)).trans (hlow r hr)
  have hA : ∀ i, 1 ≤ i → i < 16 → cn30 (11 + i) = .inl (ids (tmC i), tmN i, .inl (fun _ => 0)) := fun i h1 h2 => by
    by_cases h9 : i = 15
    · subst h9; exact hself
    · rw [hcn _ (by omega)]; exact hA i h1 (by omega)
  refine ro_putFG MC (hnm.trans rfl) HP HS ha11 (by decide) f11 (rfl : vwCl[6]? = some (RX7, TX7, 23)) inU7 tyX7_ok nmX7 19 (by decide) kw637 rfl rfl rfl rfl (Nat.le_of_ble_eq_true rfl) dX7_init_125 (fun cn31 H31 lH31 HP hcn f11 HS => ?_)
  have f11 : cn31 11 = .inr (6, [.int 0, .int 0, .int 1, .ref (ad30 12), .ref (ad30 13), .ref (ad30 14), .int 0, .ref (ad30 15), .ref (ad30 16), .ref (ad30 17), .ref (ad30 18), .ref (ad30 19), .ref (ad30 20), .ref (ad30 21), .int 0, .ref (ad30 22), .ref (ad30 23), .ref (ad30 24), .ref (ad30 25), .ref (ad30 26), .null, .null, .null]) := f11
  have hlow : ∀ r, r < 11 → cn31 r = cn r := fun r hr => (hcn r (by omega)).trans (hlow r hr)
  have hA : ∀ i, 1 ≤ i → i < 16 → cn31 (11 + i) = .inl (ids (tmC i), tmN i, .inl (fun _ => 0)) := fun i h1 h2 => (hcn _ (by omega)).trans (hA i h1 h2)
  refine lv_aload_n hx hb dX7_init_128 rfl (lv_at hl 0 rfl) ?_
  refine lv_bipush (v := 30) hx hb dX7_init_129 (by decide) ?_
  refine ro_newaG (atype := .int) (ty := .int) MC HP HS 27 (by decide) 0 rfl kw72 rfl (x := (30, .inl (fun _ => 0))) (fun C h => by cases h) rfl (by decide) rfl (by decide) (Nat.le_of_ble_eq_true rfl) (Nat.le_of_ble_eq_true rfl) dX7_init_131 (fun ad32 cn32 H32 HP had hcn hself HS => ?_)
  have f11 : cn32 11 = .inr (6, [.int 0, .int 0, .int 1, .ref (ad32 12), .ref (ad32 13), .ref (ad32 14), .int 0, .ref (ad32 15), .ref (ad32 16), .ref (ad32 17), .ref (ad32 18), .ref (ad32 19), .ref (ad32 20), .ref (ad32 21), .int 0, .ref (ad32 22), .ref (ad32 23), .ref (ad32 24), .ref (ad32 25), .ref (ad32 26), .null, .null, .null]) := by rw [hcn 11 (by omega), f11, had 12 (by omega), had 13 (by omega), had 14 (by omega), had 15 (by omega), had 16 (by omega), had 17 (by omega), had 18 (by omega), had 19 (by omega), had 20 (by omega), had 21 (by omega), had 22 (by omega), had 23 (by omega), had 24 (by omega), had 25 (by omega), had 26 (by omega)]
  have ha11 : ad32 11 = ad 11 := (had 11 (by omega)).trans ha11
  have hal : ∀ r, r < 12 → ad32 r = ad r := fun r hr => (had r (by omega)).trans (hal r hr)
  have hlow : ∀ r, r < 11 → cn32 r = cn r := fun r hr => (hcn r (by omega)).trans (hlow r hr)
  have hA : ∀ i, 1 ≤ i → i < 17 → cn32 (11 + i) = .inl (ids (tmC i), tmN i, .inl (fun _ => 0)) := fun i h1 h2 => by
    by_cases h9 : i = 16
    · subst h9; exact hself
    · rw [hcn _ (by omega)]; exact hA i h1 (by omega)
  refine ro_putFG MC (hnm.trans rfl) HP HS ha11 (by decide) f11 (rfl : vwCl[6]? = some (RX7, TX7, 23)) inU7 tyX7_ok nmX7 20 (by decide) kw638 rfl rfl rfl rfl (Nat.le_of_ble_eq_true rfl) dX7_init_133 (fun cn33 H33 lH33 HP hcn f11 HS => ?_)
  have f11 : cn33 11 = .inr (6, [.int 0, .int 0, .int 1, .ref (ad32 12), .ref (ad32 13), .ref (ad32 14), .int 0, .ref (ad32 15), .ref (ad32 16), .ref (ad32 17), .ref (ad32 18), .ref (ad32 19), .ref (ad32 20), .ref (ad32 21), .int 0, .ref (ad32 22), .ref (ad32 23), .ref (ad32 24), .ref (ad32 25), .ref (ad32 26), .ref (ad32 27), .null, .null]) := f11
  have hlow : ∀ r, r < 11 → cn33 r = cn r := fun r hr => (hcn r (by omega)).trans (hlow r hr)
  have hA : ∀ i, 1 ≤ i → i < 17 → cn33 (11 + i) = .inl (ids (tmC i), tmN i, .inl (fun _ => 0)) := fun i h1 h2 => (hcn _ (by omega)).trans (hA i h1 h2)
  refine lv_aload_n hx hb dX7_init_136 rfl (lv_at hl 0 rfl) ?_
  refine lv_bipush (v := 30) hx hb dX7_init_137 (by decide) ?_
  refine ro_newaG (atype := .int) (ty := .int) MC HP HS 28 (by decide) 0 rfl kw72 rfl (x := (30, .inl (fun _ => 0))) (fun C h => by cases h) rfl (by decide) rfl (by decide) (Nat.le_of_ble_eq_true rfl) (Nat.le_of_ble_eq_true rfl) dX7_init_139 (fun ad34 cn34 H34 HP had hcn hself HS => ?_)
  have f11 : cn34 11 = .inr (6, [.int 0, .int 0, .int 1, .ref (ad34 12), .ref (ad34 13), .ref (ad34 14), .int 0, .ref (ad34 15), .ref (ad34 16), .ref (ad34 17), .ref (ad34 18), .ref (ad34 19), .ref (ad34 20), .ref (ad34 21), .int 0, .ref (ad34 22), .ref (ad34 23), .ref (ad34 24), .ref (ad34 25), .ref (ad34 26), .ref (ad34 27), .null, .null]) := by rw [hcn 11 (by omega), f11, had 12 (by omega), had 13 (by omega), had 14 (by omega), had 15 (by omega), had 16 (by omega), had 17 (by omega), had 18 (by omega), had 19 (by omega), had 20 (by omega), had 21 (by omega), had 22 (by omega), had 23 (by omega), had 24 (by omega), had 25 (by omega), had 26 (by omega), had 27 (by omega)]
  have ha11 : ad34 11 = ad 11 := (had 11 (by omega)).trans ha11
  have hal : ∀ r, r < 12 → ad34 r = ad r := fun r hr => (had r (by omega)).trans (hal r hr)
  have hlow : ∀ r, r < 11 → cn34 r = cn r := fun r hr => (hcn r (by omega)).trans (hlow r hr)
  have hA : ∀ i, 1 ≤ i → i < 18 → cn34 (11 + i) = .inl (ids (tmC i), tmN i, .inl (fun _ => 0)) := fun i h1 h2 => by
    by_cases h9 : i = 17
    · subst h9; exact hself
    · rw [hcn _ (by omega)]; exact hA i h1 (by omega)
  refine ro_putFG MC (hnm.trans rfl) HP HS ha11 (by decide) f11 (rfl : vwCl[6]? = some (RX7, TX7, 23)) inU7 tyX7_ok nmX7 21 (by decide) kw639 rfl rfl rfl rfl (Nat.le_of_ble_eq_true rfl) dX7_init_141 (fun cn35 H35 lH35 HP hcn f11 HS => ?_)
  have f11 : cn35 11 = .inr (6, [.int 0, .int 0, .int 1, .ref (ad34 12), .ref (ad34 13), .ref (ad34 14), .int 0, .ref (ad34 15), .ref (ad34 16), .ref (ad34 17), .ref (ad34 18), .ref (ad34 19), .ref (ad34 20), .ref (ad34 21), .int 0, .ref (ad34 22), .ref (ad34 23), .ref (ad34 24), .ref (ad34 25), .ref (ad34 26), .ref (ad34 27), .ref (ad34 28), .null]) := f11
  have hlow : ∀ r, r < 11 → cn35 r = cn r := fun r hr => (hcn r (by omega)).trans (hlow r hr)
  have hA : ∀ i, 1 ≤ i → i < 18 → cn35 (11 + i) = .inl (ids (tmC i), tmN i, .inl (fun _ => 0)) := fun i h1 h2 => (hcn _ (by omega)).trans (hA i h1 h2)
  refine lv_aload_n hx hb dX7_init_144 rfl (lv_at hl 0 rfl) ?_
  refine lv_iconst (v := 4) hx hb dX7_init_145 (by decide) ?_
  refine ro_newaG (atype := .int) (ty := .int) MC HP HS 29 (by decide) 0 rfl kw72 rfl (x := (4, .inl (fun _ => 0))) (fun C h => by cases h) rfl (by decide) rfl (by decide) (Nat.le_of_ble_eq_true rfl) (Nat.le_of_ble_eq_true rfl) dX7_init_146 (fun ad36 cn36 H36 HP had hcn hself HS => ?_)
  have f11 : cn36 11 = .inr (6, [.int 0, .int 0, .int 1, .ref (ad36 12), .ref (ad36 13), .ref (ad36 14), .int 0, .ref (ad36 15), .ref (ad36 16), .ref (ad36 17), .ref (ad36 18), .ref (ad36 19), .ref (ad36 20), .ref (ad36 21), .int 0, .ref (ad36 22), .ref (ad36 23), .ref (ad36 24), .ref (ad36 25), .ref (ad36 26), .ref (ad36 27), .ref (ad36 28), .null]) := by rw [hcn 11 (by omega), f11, had 12 (by omega), had 13 (by omega), had 14 (by omega), had 15 (by omega), had 16 (by omega), had 17 (by omega), had 18 (by omega), had 19 (by omega), had 20 (by omega), had 21 (by omega), had 22 (by omega), had 23 (by omega), had 24 (by omega), had 25 (by omega), had 26 (by omega), had 27 (by omega), had 28 (by omega)]
  have ha11 : ad36 11 = ad 11 := (had 11 (by omega)).trans ha11
  have hal : ∀ r, r < 12 → ad36 r = ad r := fun r hr => (had r (by omega)).trans (hal r hr)
  have hlow : ∀ r, r < 11 → cn36 r = cn r := fun r hr => (hcn r (by omega)).trans (hlow r hr)
  have hA : ∀ i, 1 ≤ i → i < 19 → cn36 (11 + i) = .inl (ids (tmC i), tmN i, .inl (fun _ => 0)) := fun i h1 h2 => by
    by_cases h9 : i = 18
    · subst h9; exact hself
    · rw [hcn _ (by omega)]; exact hA i h1 (by omega)
  refine ro_putFG MC (hnm.trans rfl) HP HS ha11 (by decide) f11 (rfl : vwCl[6]? = some (RX7, TX7, 23)) inU7 tyX7_ok nmX7 22 (by decide) kw640 rfl rfl rfl rfl (Nat.le_of_ble_eq_true rfl) dX7_init_148 (fun cn37 H37 lH37 HP hcn f11 HS => ?_)
  have f11 : cn37 11 = .inr (6, [.int 0, .int 0, .int 1, .ref (ad36 12), .ref (ad36 13), .ref (ad36 14), .int 0, .ref (ad36 15), .ref (ad36 16), .ref (ad36 17), .ref (ad36 18), .ref (ad36 19), .ref (ad36 20), .ref (ad36 21), .int 0, .ref (ad36 22), .ref (ad36 23), .ref (ad36 24), .ref (ad36 25), .ref (ad36 26), .ref (ad36 27), .ref (ad36 28), .ref (ad36 29)]) := f11
  have hlow : ∀ r, r < 11 → cn37 r = cn r := fun r hr => (hcn r (by omega)).trans (hlow r hr)
  have hA : ∀ i, 1 ≤ i → i < 19 → cn37 (11 + i) = .inl (ids (tmC i), tmN i, .inl (fun _ => 0)) := fun i h1 h2 => (hcn _ (by omega)).trans (hA i h1 h2)
  refine lv_aload_n hx hb dX7_init_151 rfl (lv_at hl 0 rfl) ?_
  refine ro_getE MC HP ha11 (by decide) f11 (rfl : vwCl[6]? = some (RX7, TX7, 23)) inU7 3 (by decide) kw621 rfl rfl dX7_init_152 ?_
  refine lv_iconst (v := 0) hx hb dX7_init_155 (by decide) ?_
  refine lv_iconst (v := (-1)) hx hb dX7_init_156 (by decide) ?_
  refine ro_iast MC HP HS (r := 12) (by decide) (hA 1 (by omega) (by omega)) (vp_in_nI (n := 0) (N := 16) (by omega) (by omega)) dX7_init_157 (fun Hz lz HP HS => ?_)
  have hM : isM ids ad36 (va_up cn37 12 (.inl (ids 0, 16, .inl (upd (fun _ => 0) 0 (-1))))) taI 0 := by
    refine ⟨(va_up_ne _ _ (by omega)).trans f11, fun i h1 h2 => ?_⟩
    by_cases h9 : i = 1
    · subst h9; exact va_up_self ..
    · rw [va_up_ne _ _ (by omega), hA i h1 (by omega), taI_row (by omega)]
  exact ro_vretM MC HS hr (⟨rfl, ad36, _, HP, hal, fun r hr => (va_up_ne _ _ (by omega)).trans (hlow r hr), hM⟩) (Nat.le_of_ble_eq_true rfl) (Nat.le_of_ble_eq_true rfl) dX7_init_158
