theorem ay_once_0 {τ : Tau} {k hh : Nat} (h5k : τ 5 k = 0) (c_5 : nI hh < τ 8 k) : 0 = bI (hoB τ k (nI hh) = true) := by
  unfold hoB bI; grind
theorem ay_once_1 {τ : Tau} {k hh : Nat} (h5k : τ 5 k = 0) (c_5 : ¬ (nI hh < τ 8 k)) (c_13 : τ 9 k ≤ nI hh) : 0 = bI (hoB τ k (nI hh) = true) := by
  unfold hoB bI; grind
theorem ay_once_2 {τ : Tau} {k hh : Nat} (h5k : τ 5 k = 0) (c_5 : ¬ (nI hh < τ 8 k)) (c_13 : ¬ (τ 9 k ≤ nI hh)) : 1 = bI (hoB τ k (nI hh) = true) := by
  unfold hoB bI; grind
theorem ay_daily_0 {τ : Tau} {k hh t9 : Nat} (h50 : ¬ τ 5 k = 0) (h5k : τ 5 k = 1) (hthr : thr τ k (nI hh) = nI t9) (hrem : nI t9 - nI t9 / 24 * 24 = nI (t9 % 24)) (c_17 : τ 9 k ≤ τ 8 k) (c_47 : τ 8 k ≤ nI (t9 % 24)) : 1 = bI (hoB τ k (nI hh) = true) := by
  unfold hoB bI; rw [if_neg h50, hthr, hrem, if_neg (not_not_intro h5k)]; grind
theorem ay_daily_1 {τ : Tau} {k hh t9 : Nat} (h50 : ¬ τ 5 k = 0) (h5k : τ 5 k = 1) (hthr : thr τ k (nI hh) = nI t9) (hrem : nI t9 - nI t9 / 24 * 24 = nI (t9 % 24)) (c_17 : τ 9 k ≤ τ 8 k) (c_47 : ¬ (τ 8 k ≤ nI (t9 % 24))) (c_55 : τ 9 k ≤ nI (t9 % 24)) : 0 = bI (hoB τ k (nI hh) = true) := by
  unfold hoB bI; rw [if_neg h50, hthr, hrem, if_neg (not_not_intro h5k)]; grind
theorem ay_daily_2 {τ : Tau} {k hh t9 : Nat} (h50 : ¬ τ 5 k = 0) (h5k : τ 5 k = 1) (hthr : thr τ k (nI hh) = nI t9) (hrem : nI t9 - nI t9 / 24 * 24 = nI (t9 % 24)) (c_17 : τ 9 k ≤ τ 8 k) (c_47 : ¬ (τ 8 k ≤ nI (t9 % 24))) (c_55 : ¬ (τ 9 k ≤ nI (t9 % 24))) : 1 = bI (hoB τ k (nI hh) = true) := by
  unfold hoB bI; rw [if_neg h50, hthr, hrem, if_neg (not_not_intro h5k)]; grind
theorem ay_daily_3 {τ : Tau} {k hh t9 : Nat} (h50 : ¬ τ 5 k = 0) (h5k : τ 5 k = 1) (hthr : thr τ k (nI hh) = nI t9) (hrem : nI t9 - nI t9 / 24 * 24 = nI (t9 % 24)) (c_17 : ¬ (τ 9 k ≤ τ 8 k)) (c_25 : nI (t9 % 24) < τ 8 k) : 0 = bI (hoB τ k (nI hh) = true) := by
  unfold hoB bI; rw [if_neg h50, hthr, hrem, if_neg (not_not_intro h5k)]; grind
theorem ay_daily_4 {τ : Tau} {k hh t9 : Nat} (h50 : ¬ τ 5 k = 0) (h5k : τ 5 k = 1) (hthr : thr τ k (nI hh) = nI t9) (hrem : nI t9 - nI t9 / 24 * 24 = nI (t9 % 24)) (c_17 : ¬ (τ 9 k ≤ τ 8 k)) (c_25 : ¬ (nI (t9 % 24) < τ 8 k)) (c_33 : τ 9 k ≤ nI (t9 % 24)) : 0 = bI (hoB τ k (nI hh) = true) := by
  unfold hoB bI; rw [if_neg h50, hthr, hrem, if_neg (not_not_intro h5k)]; grind
theorem ay_daily_5 {τ : Tau} {k hh t9 : Nat} (h50 : ¬ τ 5 k = 0) (h5k : τ 5 k = 1) (hthr : thr τ k (nI hh) = nI t9) (hrem : nI t9 - nI t9 / 24 * 24 = nI (t9 % 24)) (c_17 : ¬ (τ 9 k ≤ τ 8 k)) (c_25 : ¬ (nI (t9 % 24) < τ 8 k)) (c_33 : ¬ (τ 9 k ≤ nI (t9 % 24))) : 1 = bI (hoB τ k (nI hh) = true) := by
  unfold hoB bI; rw [if_neg h50, hthr, hrem, if_neg (not_not_intro h5k)]; grind
set_option maxHeartbeats 4000000 in
set_option maxRecDepth 100000 in
theorem x_onceH {l : Launch} {D : va_G} {ids : Nat → ClassId} {n0 : Nat} {RR : List Nat} {ad : Nat → Nat} {cn : Nat → va_E} {τ : Tau} {ns nl nc : Nat} {Hh : Heap} (hX : xH D ids n0 RR ad cn τ ns nl nc Hh) {nw : Nat} (hI : Iv τ nw ns nl nc) {k hh : Nat} (hk : k < nl) (hh9 : hh < 672) (h5k : τ 5 k = 0) : ro_M l yX4_holdsIn cX4_holdsIn 2 (some FieldType.boolean) { frames := 3, cells := 0, slots := 0, locals := 90 } D ids n0 [.ref (ad (40 + k)), .int (nI hh)] Hh (fun v H1 => v = some (.int (bI (hoB τ k (nI hh) = true))) ∧ Hh = H1) := by
  refine ro_ofM (by decide +kernel) (Nat.le_of_ble_eq_true rfl) ?_
  intro p e s m below meth c MC hhp hr hnm HS ls hl
  have hx := MC.1.1
  have hb := MC.1.2.1
  have hl : lv_has ls 2 [(0, .ref (ad (40 + k))), (1, .int (nI hh))] := hl
  obtain ⟨HP, hRR, sa, bm, fm, lf, ff, cf, h0, h1, h1b, h2, h2b, h7, h7b, h3, h3b, h40, h4, h4b, h60, h5, h6⟩ := id hX
  have hnl := hI.2.2.1.2
  have hf : cn (40 + k) = .inr (3, [.int (τ 6 k), .int (τ 10 k), .int (τ 8 k), .int (τ 9 k)]) := by rw [h40 k hk, frE, if_pos h5k]
  refine lv_iload_n hx hb dX4_holdsIn_0 rfl (lv_at hl 1 rfl) ?_
  refine lv_aload_n hx hb dX4_holdsIn_1 rfl (lv_at hl 0 rfl) ?_
  refine ro_get MC HP (hRR.f hk) hf (rfl : vwCl[3]? = some (RX4, TX4, 4)) inU4 2 (by decide) kw258 rfl rfl dX4_holdsIn_2 ?_
  refine lv_icmp_lt (tgt := 20) hx hb dX4_holdsIn_5 (by decide) (fun c_5 => ?_) (fun c_5 => ?_)
  · refine lv_iconst (v := 0) hx hb dX4_holdsIn_20 (by decide) ?_
    exact ro_zretM MC HS hr (by first | rfl | exact bI_nar) (⟨by rw [ay_once_0 h5k c_5], rfl⟩) (Nat.le_of_ble_eq_true rfl) (Nat.le_of_ble_eq_true rfl) dX4_holdsIn_21
  · refine lv_iload_n hx hb dX4_holdsIn_8 rfl (lv_at hl 1 rfl) ?_
    refine lv_aload_n hx hb dX4_holdsIn_9 rfl (lv_at hl 0 rfl) ?_
    refine ro_get MC HP (hRR.f hk) hf (rfl : vwCl[3]? = some (RX4, TX4, 4)) inU4 3 (by decide) kw259 rfl rfl dX4_holdsIn_10 ?_
    refine lv_icmp_ge (tgt := 20) hx hb dX4_holdsIn_13 (by decide) (fun c_13 => ?_) (fun c_13 => ?_)
    · refine lv_iconst (v := 0) hx hb dX4_holdsIn_20 (by decide) ?_
      exact ro_zretM MC HS hr (by first | rfl | exact bI_nar) (⟨by rw [ay_once_1 h5k c_5 c_13], rfl⟩) (Nat.le_of_ble_eq_true rfl) (Nat.le_of_ble_eq_true rfl) dX4_holdsIn_21
    · refine lv_iconst (v := 1) hx hb dX4_holdsIn_16 (by decide) ?_
      refine lv_goto (tgt := 21) hx hb dX4_holdsIn_17 (by decide) ?_
      exact ro_zretM MC HS hr (by first | rfl | exact bI_nar) (⟨by rw [ay_once_2 h5k c_5 c_13], rfl⟩) (Nat.le_of_ble_eq_true rfl) (Nat.le_of_ble_eq_true rfl) dX4_holdsIn_21
set_option maxHeartbeats 4000000 in
set_option maxRecDepth 100000 in
theorem x_dailyH {l : Launch} {D : va_G} {ids : Nat → ClassId} {n0 : Nat} {RR : List Nat} {ad : Nat → Nat} {cn : Nat → va_E} {τ : Tau} {ns nl nc : Nat} {Hh : Heap} (hX : xH D ids n0 RR ad cn τ ns nl nc Hh) {nw : Nat} (hI : Iv τ nw ns nl nc) {k hh : Nat} (hk : k < nl) (hh9 : hh < 672) (h50 : ¬ τ 5 k = 0) (h5k : τ 5 k = 1) : ro_M l yX2_holdsIn cX2_holdsIn 3 (some FieldType.boolean) { frames := 3, cells := 0, slots := 0, locals := 90 } D ids n0 [.ref (ad (40 + k)), .int (nI hh)] Hh (fun v H1 => v = some (.int (bI (hoB τ k (nI hh) = true))) ∧ Hh = H1) := by
  refine ro_ofM (by decide +kernel) (Nat.le_of_ble_eq_true rfl) ?_
  intro p e s m below meth c MC hhp hr hnm HS ls hl
  have hx := MC.1.1
  have hb := MC.1.2.1
  have hl : lv_has ls 3 [(0, .ref (ad (40 + k))), (1, .int (nI hh))] := hl
  obtain ⟨HP, hRR, sa, bm, fm, lf, ff, cf, h0, h1, h1b, h2, h2b, h7, h7b, h3, h3b, h40, h4, h4b, h60, h5, h6⟩ := id hX
  have hnl := hI.2.2.1.2
  obtain ⟨-, -, ⟨d9, hd, hld⟩, -⟩ := hI.2.2.2.2.2.2.2.2.2.1 k hk
  have hcd : cx (τ 7 k) = d9 := by rw [hld]; exact cx_nI (by omega)
  obtain ⟨o1, o2⟩ := hI.2.2.2.2.2.1 d9 hd
  obtain ⟨t9, ht, hte, htd, ht3⟩ := thr_ix hh9 o1 o2
  have hts : nI hh + τ 2 d9 = nI t9 - 24 := by lia
  have hrem : nI t9 - nI t9 / 24 * 24 = nI (t9 % 24) := pk_rem (a := t9) (d := 24) (by omega) (by omega) (by omega)
  have hthr : thr τ k (nI hh) = nI t9 := by unfold thr; rw [hcd]; exact hte
  have hcx : cx (30 * τ 7 k + thr τ k (nI hh) / 24) = 30 * d9 + t9 / 24 := by rw [hthr, htd, ho_ix hld hd ht3]; exact cx_nI (by omega)
  have hf : cn (40 + k) = .inr (1, [.int (τ 6 k), .int (τ 10 k), .ref (ad (7 + d9)), .int (τ 8 k), .int (τ 9 k)]) := by rw [h40 k hk, frE, if_neg h50, if_pos h5k, hcd]
  refine lv_aload_n hx hb dX2_holdsIn_0 rfl (lv_at hl 0 rfl) ?_
  refine ro_get MC HP (hRR.f hk) hf (rfl : vwCl[1]? = some (RX2, TX2, 5)) inU2 2 (by decide) kw287 rfl rfl dX2_holdsIn_1 ?_
  refine lv_iload_n hx hb dX2_holdsIn_4 rfl (lv_at hl 1 rfl) ?_
  refine ro_callV MC HS (rest := []) (As := [.int (nI hh)]) (x_hourOfDay hX hd ht hts) (lkX2_20) (kw363) (kw364) ⟨Nat.le_of_ble_eq_true rfl, Nat.le_of_ble_eq_true rfl⟩ (ro_recv MC HP (hRR.l (show 7 + d9 < 18 by omega)) (h7 d9 (by omega)) (rfl : vwCl[4]? = some (RX5, TX5, 2))) hl.1 rfl (Nat.le_of_ble_eq_true rfl) dX2_holdsIn_5 ⟨Nat.le_of_ble_eq_true rfl, Nat.le_of_ble_eq_true rfl⟩ (fun v9 H1 lH1 hp hz HS => ?_)
  obtain ⟨rfl, rfl⟩ := hp
  refine lv_istore_n (lv' := [(2, .int (nI (t9 % 24))), (0, .ref (ad (40 + k))), (1, .int (nI hh))]) hx hb dX2_holdsIn_8 rfl hl (by decide) rfl (fun ls hl => ?_)
  refine lv_aload_n hx hb dX2_holdsIn_9 rfl (lv_at hl 1 rfl) ?_
  refine ro_get MC HP (hRR.f hk) hf (rfl : vwCl[1]? = some (RX2, TX2, 5)) inU2 3 (by decide) kw288 rfl rfl dX2_holdsIn_10 ?_
  refine lv_aload_n hx hb dX2_holdsIn_13 rfl (lv_at hl 1 rfl) ?_
  refine ro_get MC HP (hRR.f hk) hf (rfl : vwCl[1]? = some (RX2, TX2, 5)) inU2 4 (by decide) kw289 rfl rfl dX2_holdsIn_14 ?_
  refine lv_icmp_ge (tgt := 42) hx hb dX2_holdsIn_17 (by decide) (fun c_17 => ?_) (fun c_17 => ?_)
  · refine lv_iload_n hx hb dX2_holdsIn_42 rfl (lv_at hl 0 rfl) ?_
    refine lv_aload_n hx hb dX2_holdsIn_43 rfl (lv_at hl 1 rfl) ?_
    refine ro_get MC HP (hRR.f hk) hf (rfl : vwCl[1]? = some (RX2, TX2, 5)) inU2 3 (by decide) kw288 rfl rfl dX2_holdsIn_44 ?_
    refine lv_icmp_ge (tgt := 58) hx hb dX2_holdsIn_47 (by decide) (fun c_47 => ?_) (fun c_47 => ?_)
    · refine lv_iconst (v := 1) hx hb dX2_holdsIn_58 (by decide) ?_
      refine lv_goto (tgt := 63) hx hb dX2_holdsIn_59 (by decide) ?_
      exact ro_zretM MC HS hr (by first | rfl | exact bI_nar) (⟨by rw [ay_daily_0 h50 h5k hthr hrem c_17 c_47], rfl⟩) (Nat.le_of_ble_eq_true rfl) (Nat.le_of_ble_eq_true rfl) dX2_holdsIn_63
    · refine lv_iload_n hx hb dX2_holdsIn_50 rfl (lv_at hl 0 rfl) ?_
      refine lv_aload_n hx hb dX2_holdsIn_51 rfl (lv_at hl 1 rfl) ?_
      refine ro_get MC HP (hRR.f hk) hf (rfl : vwCl[1]? = some (RX2, TX2, 5)) inU2 4 (by decide) kw289 rfl rfl dX2_holdsIn_52 ?_
      refine lv_icmp_ge (tgt := 62) hx hb dX2_holdsIn_55 (by decide) (fun c_55 => ?_) (fun c_55 => ?_)
      · refine lv_iconst (v := 0) hx hb dX2_holdsIn_62 (by decide) ?_
        exact ro_zretM MC HS hr (by first | rfl | exact bI_nar) (⟨by rw [ay_daily_1 h50 h5k hthr hrem c_17 c_47 c_55], rfl⟩) (Nat.le_of_ble_eq_true rfl) (Nat.le_of_ble_eq_true rfl) dX2_holdsIn_63
      · refine lv_iconst (v := 1) hx hb dX2_holdsIn_58 (by decide) ?_
        refine lv_goto (tgt := 63) hx hb dX2_holdsIn_59 (by decide) ?_
        exact ro_zretM MC HS hr (by first | rfl | exact bI_nar) (⟨by rw [ay_daily_2 h50 h5k hthr hrem c_17 c_47 c_55], rfl⟩) (Nat.le_of_ble_eq_true rfl) (Nat.le_of_ble_eq_true rfl) dX2_holdsIn_63
  · refine lv_iload_n hx hb dX2_holdsIn_20 rfl (lv_at hl 0 rfl) ?_
    refine lv_aload_n hx hb dX2_holdsIn_21 rfl (lv_at hl 1 rfl) ?_
    refine ro_get MC HP (hRR.f hk) hf (rfl : vwCl[1]? = some (RX2, TX2, 5)) inU2 3 (by decide) kw288 rfl rfl dX2_holdsIn_22 ?_
    refine lv_icmp_lt (tgt := 40) hx hb dX2_holdsIn_25 (by decide) (fun c_25 => ?_) (fun c_25 => ?_)
    · refine lv_iconst (v := 0) hx hb dX2_holdsIn_40 (by decide) ?_
      exact ro_zretM MC HS hr (by first | rfl | exact bI_nar) (⟨by rw [ay_daily_3 h50 h5k hthr hrem c_17 c_25], rfl⟩) (Nat.le_of_ble_eq_true rfl) (Nat.le_of_ble_eq_true rfl) dX2_holdsIn_41
    · refine lv_iload_n hx hb dX2_holdsIn_28 rfl (lv_at hl 0 rfl) ?_
      refine lv_aload_n hx hb dX2_holdsIn_29 rfl (lv_at hl 1 rfl) ?_
      refine ro_get MC HP (hRR.f hk) hf (rfl : vwCl[1]? = some (RX2, TX2, 5)) inU2 4 (by decide) kw289 rfl rfl dX2_holdsIn_30 ?_
      refine lv_icmp_ge (tgt := 40) hx hb dX2_holdsIn_33 (by decide) (fun c_33 => ?_) (fun c_33 => ?_)
      · refine lv_iconst (v := 0) hx hb dX2_holdsIn_40 (by decide) ?_
        exact ro_zretM MC HS hr (by first | rfl | exact bI_nar) (⟨by rw [ay_daily_4 h50 h5k hthr hrem c_17 c_25 c_33], rfl⟩) (Nat.le_of_ble_eq_true rfl) (Nat.le_of_ble_eq_true rfl) dX2_holdsIn_41
      · refine lv_iconst (v := 1) hx hb dX2_holdsIn_36 (by decide) ?_
        refine lv_goto (tgt := 41) hx hb dX2_holdsIn_37 (by decide) ?_
        exact ro_zretM MC HS hr (by first | rfl | exact bI_nar) (⟨by rw [ay_daily_5 h50 h5k hthr hrem c_17 c_25 c_33], rfl⟩) (Nat.le_of_ble_eq_true rfl) (Nat.le_of_ble_eq_true rfl) dX2_holdsIn_41
set_option maxHeartbeats 4000000 in
set_option maxRecDepth 100000 in
theorem x_feastsH {l : Launch} {D : va_G} {ids : Nat → ClassId} {n0 : Nat} {RR : List Nat} {ad : Nat → Nat} {cn : Nat → va_E} {τ : Tau} {ns nl nc : Nat} {Hh : Heap} (hX : xH D ids n0 RR ad cn τ ns nl nc Hh) {nw : Nat} (hI : Iv τ nw ns nl nc) {k hh : Nat} (hk : k < nl) (hh9 : hh < 672) (h50 : ¬ τ 5 k = 0) (h5k : ¬ τ 5 k = 1) : ro_M l yX3_holdsIn cX3_holdsIn 2 (some FieldType.boolean) { frames := 3, cells := 0, slots := 0, locals := 90 } D ids n0 [.ref (ad (40 + k)), .int (nI hh)] Hh (fun v H1 => v = some (.int (bI (hoB τ k (nI hh) = true))) ∧ Hh = H1) := by
  refine ro_ofM (by decide +kernel) (Nat.le_of_ble_eq_true rfl) ?_
  intro p e s m below meth c MC hhp hr hnm HS ls hl
  have hx := MC.1.1
  have hb := MC.1.2.1
  have hl : lv_has ls 2 [(0, .ref (ad (40 + k))), (1, .int (nI hh))] := hl
  obtain ⟨HP, hRR, sa, bm, fm, lf, ff, cf, h0, h1, h1b, h2, h2b, h7, h7b, h3, h3b, h40, h4, h4b, h60, h5, h6⟩ := id hX
  have hnl := hI.2.2.1.2
  obtain ⟨-, -, ⟨d9, hd, hld⟩, -⟩ := hI.2.2.2.2.2.2.2.2.2.1 k hk
  have hcd : cx (τ 7 k) = d9 := by rw [hld]; exact cx_nI (by omega)
  obtain ⟨o1, o2⟩ := hI.2.2.2.2.2.1 d9 hd
  obtain ⟨t9, ht, hte, htd, ht3⟩ := thr_ix hh9 o1 o2
  have hts : nI hh + τ 2 d9 = nI t9 - 24 := by lia
  have hrem : nI t9 - nI t9 / 24 * 24 = nI (t9 % 24) := pk_rem (a := t9) (d := 24) (by omega) (by omega) (by omega)
  have hthr : thr τ k (nI hh) = nI t9 := by unfold thr; rw [hcd]; exact hte
  have hcx : cx (30 * τ 7 k + thr τ k (nI hh) / 24) = 30 * d9 + t9 / 24 := by rw [hthr, htd, ho_ix hld hd ht3]; exact cx_nI (by omega)
  have hf : cn (40 + k) = .inr (2, [.int (τ 6 k), .int (τ 10 k), .ref (ad (7 + d9))]) := by rw [h40 k hk, frE, if_neg h50, if_neg h5k, hcd]
  refine lv_aload_n hx hb dX3_holdsIn_0 rfl (lv_at hl 0 rfl) ?_
  refine ro_get MC HP (hRR.f hk) hf (rfl : vwCl[2]? = some (RX3, TX3, 3)) inU3 2 (by decide) kw309 rfl rfl dX3_holdsIn_1 ?_
  refine lv_aload_n hx hb dX3_holdsIn_4 rfl (lv_at hl 0 rfl) ?_
  refine ro_get MC HP (hRR.f hk) hf (rfl : vwCl[2]? = some (RX3, TX3, 3)) inU3 2 (by decide) kw309 rfl rfl dX3_holdsIn_5 ?_
  refine lv_iload_n hx hb dX3_holdsIn_8 rfl (lv_at hl 1 rfl) ?_
  refine ro_callV MC HS (rest := [.ref (ad (7 + d9))]) (As := [.int (nI hh)]) (x_dayOf hX hd ht hts) (lkX3_13) (kw373) (kw374) ⟨Nat.le_of_ble_eq_true rfl, Nat.le_of_ble_eq_true rfl⟩ (ro_recv MC HP (hRR.l (show 7 + d9 < 18 by omega)) (h7 d9 (by omega)) (rfl : vwCl[4]? = some (RX5, TX5, 2))) hl.1 rfl (Nat.le_of_ble_eq_true rfl) dX3_holdsIn_9 ⟨Nat.le_of_ble_eq_true rfl, Nat.le_of_ble_eq_true rfl⟩ (fun v9 H1 lH1 hp hz HS => ?_)
  obtain ⟨rfl, rfl⟩ := hp
  refine ro_callV MC HS (rest := []) (As := [.int ((nI (t9 / 24) - 1))]) (x_isFeastDay hX hd ht3 (by lia)) (lkX3_19) (kw225) (kw226) ⟨Nat.le_of_ble_eq_true rfl, Nat.le_of_ble_eq_true rfl⟩ (ro_recv MC HP (hRR.l (show 7 + d9 < 18 by omega)) (h7 d9 (by omega)) (rfl : vwCl[4]? = some (RX5, TX5, 2))) hl.1 rfl (Nat.le_of_ble_eq_true rfl) dX3_holdsIn_12 ⟨Nat.le_of_ble_eq_true rfl, Nat.le_of_ble_eq_true rfl⟩ (fun v9 H2 lH2 hp hz HS => ?_)
  obtain ⟨rfl, rfl⟩ := hp
  exact ro_zretM MC HS hr (by first | rfl | exact bI_nar) (⟨by unfold hoB; rw [if_neg h50, if_pos h5k, hcx], rfl⟩) (Nat.le_of_ble_eq_true rfl) (Nat.le_of_ble_eq_true rfl) dX3_holdsIn_15
set_option maxHeartbeats 4000000 in
theorem xo_holds {p : Program} {l : Launch} {e : Env} {R : Room} {s : State} {m : MethodId} {args : Array Value} {below : List Frame} {meth : Method} {c : Code} {locs : List Loc} {cells slots : Nat} {Q : State → Prop} {cc : ByteArray} {nL : Nat} {pc : Nat} {ls : Array Slot} {rest : List Value} {x : Int32} {D : va_G} {ids : Nat → ClassId} {n0 : Nat} {RR : List Nat} {ad : Nat → Nat} {cn : Nat → va_E} {τ : Tau} {ns nl nc : Nat} {Hh : Heap} (hX : xH D ids n0 RR ad cn τ ns nl nc Hh) {nw : Nat} (hI : Iv τ nw ns nl nc) (MC : ro_C p s m args meth c cc nL "FrostCalendar" D ids n0) (HS : va_S (fun q => n0 ≤ q) s.heap Hh locs) {k hh : Nat} (hk : k < nl) (hh9 : hh < 672) (hx9 : x = nI hh) (hsize : ls.size = nL) (hcat : (rest.map fun v => v.category).sum ≤ 8) (hR : 4 ≤ R.frames ∧ 120 ≤ R.locals) (hdg : decode cc pc = .ok (.invokevirtual 114, 3)) (hf : cells + 0 ≤ R.cells ∧ slots + 0 ≤ R.slots)
    (kk : ∀ (locs1 : List Loc), va_S (fun q => n0 ≤ q) s.heap Hh locs1 → W p l e R s m args below meth c Hh locs1 (cells + 0) (slots + 0) Q (F0 m (pc + 3) ls (.int (bI (hoB τ k (nI hh) = true)) :: rest))) : W p l e R s m args below meth c Hh locs cells slots Q (F0 m pc ls (.int x :: .ref (ad (40 + k)) :: rest)) := by
  subst hx9
  obtain ⟨HP, hRR, sa, bm, fm, lf, ff, cf, h0, h1, h1b, h2, h2b, h7, h7b, h3, h3b, h40, h4, h4b, h60, h5, h6⟩ := id hX
  by_cases h50 : τ 5 k = 0
  · refine ro_callA MC HS (rest := rest) (As := [.int (nI hh)]) (C := "FrostCalendar$FreezeOnce") (owner := "FrostCalendar$Freeze") (x := ⟨"FrostCalendar$Freeze", "holdsIn", "(I)Z"⟩) (x_onceH hX hI hk hh9 h50) kw382 kw356 kw358 kw380 kw381 kw26 (by decide +kernel) ⟨by decide +kernel, by decide +kernel, (by show _ = some 1; decide +kernel)⟩ ⟨by show 3 + 1 ≤ R.frames; omega, by show 8 + (2 + 11) + 90 ≤ R.locals; omega⟩ (ro_recv MC HP (hRR.f hk) (by rw [h40 k hk, frE, if_pos h50]) (rfl : vwCl[3]? = some (RX4, TX4, 4))) hsize rfl hcat hdg hf (fun v9 H9 l9 hp hz HS => ?_)
    obtain ⟨rfl, rfl⟩ := hp
    exact kk l9 HS
  · by_cases h51 : τ 5 k = 1
    · refine ro_callA MC HS (rest := rest) (As := [.int (nI hh)]) (C := "FrostCalendar$FreezeDaily") (owner := "FrostCalendar$Freeze") (x := ⟨"FrostCalendar$Freeze", "holdsIn", "(I)Z"⟩) (x_dailyH hX hI hk hh9 h50 h51) kw361 kw356 kw358 kw359 kw360 kw27 (by decide +kernel) ⟨by decide +kernel, by decide +kernel, (by show _ = some 1; decide +kernel)⟩ ⟨by show 3 + 1 ≤ R.frames; omega, by show 8 + (3 + 11) + 90 ≤ R.locals; omega⟩ (ro_recv MC HP (hRR.f hk) (by rw [h40 k hk, frE, if_neg h50, if_pos h51]) (rfl : vwCl[1]? = some (RX2, TX2, 5))) hsize rfl hcat hdg hf (fun v9 H9 l9 hp hz HS => ?_)
      obtain ⟨rfl, rfl⟩ := hp
      exact kk l9 HS
    · refine ro_callA MC HS (rest := rest) (As := [.int (nI hh)]) (C := "FrostCalendar$FreezeOnFeasts") (owner := "FrostCalendar$Freeze") (x := ⟨"FrostCalendar$Freeze", "holdsIn", "(I)Z"⟩) (x_feastsH hX hI hk hh9 h50 h51) kw371 kw356 kw358 kw369 kw370 kw28 (by decide +kernel) ⟨by decide +kernel, by decide +kernel, (by show _ = some 1; decide +kernel)⟩ ⟨by show 3 + 1 ≤ R.frames; omega, by show 8 + (2 + 11) + 90 ≤ R.locals; omega⟩ (ro_recv MC HP (hRR.f hk) (by rw [h40 k hk, frE, if_neg h50, if_neg h51]) (rfl : vwCl[2]? = some (RX3, TX3, 3))) hsize rfl hcat hdg hf (fun v9 H9 l9 hp hz HS => ?_)
      obtain ⟨rfl, rfl⟩ := hp
      exact kk l9 HS
