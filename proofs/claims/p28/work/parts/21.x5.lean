theorem aq_nS_0 {τ : Tau} {a : Int32} (hs1 : 1 ≤ τ 0 1) (hs16 : τ 0 1 ≤ 16) (c_1 : a < 0) : ¬ (0 ≤ a ∧ a ≤ τ 0 1 - 1) := by
  grind
theorem aq_nS_1 {τ : Tau} {a : Int32} (hs1 : 1 ≤ τ 0 1) (hs16 : τ 0 1 ≤ 16) (c_1 : ¬ (a < 0)) (c_9 : τ 0 1 ≤ a) : ¬ (0 ≤ a ∧ a ≤ τ 0 1 - 1) := by
  grind
theorem aq_nS_2 {τ : Tau} {a : Int32} (hs1 : 1 ≤ τ 0 1) (hs16 : τ 0 1 ≤ 16) (c_1 : ¬ (a < 0)) (c_9 : ¬ (τ 0 1 ≤ a)) (c_15 : a < 16) : 0 ≤ a ∧ a ≤ τ 0 1 - 1 := by
  grind
theorem aq_nS_3 {τ : Tau} {a : Int32} (hs1 : 1 ≤ τ 0 1) (hs16 : τ 0 1 ≤ 16) (c_1 : ¬ (a < 0)) (c_9 : ¬ (τ 0 1 ≤ a)) (c_15 : ¬ (a < 16)) : ¬ (0 ≤ a ∧ a ≤ τ 0 1 - 1) := by
  grind
theorem aq_nR_0 {v9 lo hi : Int32} (c_2 : v9 < lo) : ¬ (lo ≤ v9 ∧ v9 ≤ hi) := by
  grind
theorem aq_nR_1 {v9 lo hi : Int32} (c_2 : ¬ (v9 < lo)) (c_7 : v9 ≤ hi) : lo ≤ v9 ∧ v9 ≤ hi := by
  grind
theorem aq_nR_2 {v9 lo hi : Int32} (c_2 : ¬ (v9 < lo)) (c_7 : ¬ (v9 ≤ hi)) : ¬ (lo ≤ v9 ∧ v9 ≤ hi) := by
  grind
theorem aq_nL_0 {a : Int32} (c_1 : a < 0) : ¬ (0 ≤ a ∧ a ≤ 3) := by
  grind
theorem aq_nL_1 {a : Int32} (c_1 : ¬ (a < 0)) (c_6 : 4 ≤ a) : ¬ (0 ≤ a ∧ a ≤ 3) := by
  grind
theorem aq_nx_0 {a : Int32} (c_1 : ¬ (a < 0)) : 0 ≤ a := by
  lia
theorem aq_nx_1 {a : Int32} (c_6 : ¬ (4 ≤ a)) : a < 4 := by
  lia
theorem aq_nL_2 {a : Int32} (c_1 : ¬ (a < 0)) (c_6 : ¬ (4 ≤ a)) : 0 ≤ a ∧ a ≤ 3 := by
  grind
theorem aq_nF_0 {τ : Tau} {a : Int32} (hc : 0 ≤ τ 0 2 ∧ τ 0 2 ≤ 20) (c_1 : a < 0) : ¬ okF τ a := by
  intro h9; have h8 := h9.1; clear h9; grind
theorem aq_nF_1 {τ : Tau} {a : Int32} (hc : 0 ≤ τ 0 2 ∧ τ 0 2 ≤ 20) (c_1 : ¬ (a < 0)) (c_7 : 20 ≤ a) : ¬ okF τ a := by
  intro h9; have h8 := h9.1; clear h9; grind
theorem aq_nx_2 {a : Int32} (c_1 : ¬ (a < 0)) : 0 ≤ a := by
  lia
theorem aq_nx_3 {a : Int32} (c_7 : ¬ (20 ≤ a)) : a < 20 := by
  lia
theorem aq_nC_0 {τ : Tau} {a : Int32} (hc : 0 ≤ τ 0 3 ∧ τ 0 3 ≤ 30) (c_1 : a < 0) : ¬ (0 ≤ a ∧ a ≤ τ 0 3 - 1) := by
  grind
theorem aq_nC_1 {τ : Tau} {a : Int32} (hc : 0 ≤ τ 0 3 ∧ τ 0 3 ≤ 30) (c_1 : ¬ (a < 0)) (c_7 : 30 ≤ a) : ¬ (0 ≤ a ∧ a ≤ τ 0 3 - 1) := by
  grind
theorem aq_nx_4 {a : Int32} (c_1 : ¬ (a < 0)) : 0 ≤ a := by
  lia
theorem aq_nx_5 {a : Int32} (c_7 : ¬ (30 ≤ a)) : a < 30 := by
  lia
theorem aq_nM_0 {τ : Tau} (hc : 0 ≤ τ 0 2 ∧ τ 0 2 ≤ 20) (c_6 : τ 0 2 < 20) : ¬ (20 ≤ τ 0 2) := by
  grind
theorem aq_nM_1 {τ : Tau} (hc : 0 ≤ τ 0 2 ∧ τ 0 2 ≤ 20) (c_6 : ¬ (τ 0 2 < 20)) : τ 0 2 = 20 := by
  grind
set_option maxHeartbeats 4000000 in
set_option maxRecDepth 100000 in
theorem x_needScope {l : Launch} (hl9 : l.stackTraces = false) {D : va_G} {ids : Nat → ClassId} {n0 : Nat} {RR : List Nat} {ad : Nat → Nat} {cn : Nat → va_E} {τ : Tau} {ns nl nc : Nat} {Hh : Heap} (hX : xH D ids n0 RR ad cn τ ns nl nc Hh) {nw : Nat} (hI : Iv τ nw ns nl nc) {a : Int32} : ro_T l yX6_needScope cX6_needScope 2 none { frames := 6, cells := 1, slots := 6, locals := 180 } D ids n0 [.ref (ad 0), .int a] Hh (fun v H1 => v = none ∧ (0 ≤ a ∧ a ≤ τ 0 1 - 1) ∧ Hh = H1) (fun E9 H1 => grow Hh H1 ∧ E9 = "java/lang/IndexOutOfBoundsException" ∧ ¬ (0 ≤ a ∧ a ≤ τ 0 1 - 1)) := by
  refine ro_ofT (by decide +kernel) (Nat.le_of_ble_eq_true rfl) ?_
  intro p e s m below meth c MC hhp hr hno HS ls hl
  have hx := MC.1.1
  have hb := MC.1.2.1
  have hl : lv_has ls 2 [(0, .ref (ad 0)), (1, .int a)] := hl
  obtain ⟨HP, hRR, sa, bm, fm, lf, ff, cf, h0, h1, h1b, h2, h2b, h7, h7b, h3, h3b, h40, h4, h4b, h60, h5, h6⟩ := id hX
  have hwb := hI.wb
  have hsb := hI.sb
  have hlb := hI.lb
  have hcb := hI.cb
  have hnl := hI.2.2.1.2
  have hns := hI.2.1.2.2
  have hnc := hI.2.2.2.1.2
  have hcs : cx (τ 0 2) = nl := by rw [hI.2.2.1.1]; exact cx_nI (by omega)
  obtain ⟨hs1, hs16⟩ := hI.sb
  refine lv_iload_n hx hb dX6_needScope_0 rfl (lv_at hl 1 rfl) ?_
  refine lv_if_lt (tgt := 18) hx hb dX6_needScope_1 (by decide) (fun c_1 => ?_) (fun c_1 => ?_)
  · exact ro_throw hl9 MC HS hno th_199 hl.1 dX6_needScope_18 dX6_needScope_21 dX6_needScope_22 dX6_needScope_24 dX6_needScope_27 ⟨Nat.le_of_ble_eq_true rfl, Nat.le_of_ble_eq_true rfl, Nat.le_of_ble_eq_true rfl, Nat.le_of_ble_eq_true rfl⟩ (fun H9 hz9 hq9 => ⟨⟨hz9, hq9⟩, rfl, aq_nS_0 hs1 hs16 c_1⟩) (Nat.le_of_ble_eq_true rfl) (Nat.le_of_ble_eq_true rfl)
  · refine lv_iload_n hx hb dX6_needScope_4 rfl (lv_at hl 1 rfl) ?_
    refine lv_aload_n hx hb dX6_needScope_5 rfl (lv_at hl 0 rfl) ?_
    refine ro_get MC HP (hRR.l (by decide)) h0 (rfl : vwCl[5]? = some (RX6, TX6, 11)) inU6 1 (by decide) kw62 rfl rfl dX6_needScope_6 ?_
    refine lv_icmp_ge (tgt := 18) hx hb dX6_needScope_9 (by decide) (fun c_9 => ?_) (fun c_9 => ?_)
    · exact ro_throw hl9 MC HS hno th_199 hl.1 dX6_needScope_18 dX6_needScope_21 dX6_needScope_22 dX6_needScope_24 dX6_needScope_27 ⟨Nat.le_of_ble_eq_true rfl, Nat.le_of_ble_eq_true rfl, Nat.le_of_ble_eq_true rfl, Nat.le_of_ble_eq_true rfl⟩ (fun H9 hz9 hq9 => ⟨⟨hz9, hq9⟩, rfl, aq_nS_1 hs1 hs16 c_1 c_9⟩) (Nat.le_of_ble_eq_true rfl) (Nat.le_of_ble_eq_true rfl)
    · refine lv_iload_n hx hb dX6_needScope_12 rfl (lv_at hl 1 rfl) ?_
      refine lv_bipush (v := 16) hx hb dX6_needScope_13 (by decide) ?_
      refine lv_icmp_lt (tgt := 28) hx hb dX6_needScope_15 (by decide) (fun c_15 => ?_) (fun c_15 => ?_)
      · exact ro_MT (ro_vretM MC HS hr (⟨rfl, aq_nS_2 hs1 hs16 c_1 c_9 c_15, rfl⟩) (Nat.le_of_ble_eq_true rfl) (Nat.le_of_ble_eq_true rfl) dX6_needScope_28)
      · exact ro_throw hl9 MC HS hno th_199 hl.1 dX6_needScope_18 dX6_needScope_21 dX6_needScope_22 dX6_needScope_24 dX6_needScope_27 ⟨Nat.le_of_ble_eq_true rfl, Nat.le_of_ble_eq_true rfl, Nat.le_of_ble_eq_true rfl, Nat.le_of_ble_eq_true rfl⟩ (fun H9 hz9 hq9 => ⟨⟨hz9, hq9⟩, rfl, aq_nS_3 hs1 hs16 c_1 c_9 c_15⟩) (Nat.le_of_ble_eq_true rfl) (Nat.le_of_ble_eq_true rfl)
set_option maxHeartbeats 4000000 in
set_option maxRecDepth 100000 in
theorem x_needRange {l : Launch} (hl9 : l.stackTraces = false) {D : va_G} {ids : Nat → ClassId} {n0 : Nat} {Hh : Heap} {v9 lo hi : Int32} : ro_T l yX6_needRange cX6_needRange 3 none { frames := 6, cells := 1, slots := 6, locals := 180 } D ids n0 [.int v9, .int lo, .int hi] Hh (fun v H1 => v = none ∧ (lo ≤ v9 ∧ v9 ≤ hi) ∧ Hh = H1) (fun E9 H1 => grow Hh H1 ∧ E9 = "java/lang/IllegalArgumentException" ∧ ¬ (lo ≤ v9 ∧ v9 ≤ hi)) := by
  refine ro_ofT (by decide +kernel) (Nat.le_of_ble_eq_true rfl) ?_
  intro p e s m below meth c MC hhp hr hno HS ls hl
  have hx := MC.1.1
  have hb := MC.1.2.1
  have hl : lv_has ls 3 [(0, .int v9), (1, .int lo), (2, .int hi)] := hl
  refine lv_iload_n hx hb dX6_needRange_0 rfl (lv_at hl 0 rfl) ?_
  refine lv_iload_n hx hb dX6_needRange_1 rfl (lv_at hl 1 rfl) ?_
  refine lv_icmp_lt (tgt := 10) hx hb dX6_needRange_2 (by decide) (fun c_2 => ?_) (fun c_2 => ?_)
  · exact ro_throw hl9 MC HS hno th_213 hl.1 dX6_needRange_10 dX6_needRange_13 dX6_needRange_14 dX6_needRange_16 dX6_needRange_19 ⟨Nat.le_of_ble_eq_true rfl, Nat.le_of_ble_eq_true rfl, Nat.le_of_ble_eq_true rfl, Nat.le_of_ble_eq_true rfl⟩ (fun H9 hz9 hq9 => ⟨⟨hz9, hq9⟩, rfl, aq_nR_0 c_2⟩) (Nat.le_of_ble_eq_true rfl) (Nat.le_of_ble_eq_true rfl)
  · refine lv_iload_n hx hb dX6_needRange_5 rfl (lv_at hl 0 rfl) ?_
    refine lv_iload_n hx hb dX6_needRange_6 rfl (lv_at hl 2 rfl) ?_
    refine lv_icmp_le (tgt := 20) hx hb dX6_needRange_7 (by decide) (fun c_7 => ?_) (fun c_7 => ?_)
    · exact ro_MT (ro_vretM MC HS hr (⟨rfl, aq_nR_1 c_2 c_7, rfl⟩) (Nat.le_of_ble_eq_true rfl) (Nat.le_of_ble_eq_true rfl) dX6_needRange_20)
    · exact ro_throw hl9 MC HS hno th_213 hl.1 dX6_needRange_10 dX6_needRange_13 dX6_needRange_14 dX6_needRange_16 dX6_needRange_19 ⟨Nat.le_of_ble_eq_true rfl, Nat.le_of_ble_eq_true rfl, Nat.le_of_ble_eq_true rfl, Nat.le_of_ble_eq_true rfl⟩ (fun H9 hz9 hq9 => ⟨⟨hz9, hq9⟩, rfl, aq_nR_2 c_2 c_7⟩) (Nat.le_of_ble_eq_true rfl) (Nat.le_of_ble_eq_true rfl)
set_option maxHeartbeats 4000000 in
set_option maxRecDepth 100000 in
theorem x_needLand {l : Launch} (hl9 : l.stackTraces = false) {D : va_G} {ids : Nat → ClassId} {n0 : Nat} {RR : List Nat} {ad : Nat → Nat} {cn : Nat → va_E} {τ : Tau} {ns nl nc : Nat} {Hh : Heap} (hX : xH D ids n0 RR ad cn τ ns nl nc Hh) {nw : Nat} (hI : Iv τ nw ns nl nc) {a : Int32} : ro_T l yX6_needLand cX6_needLand 3 (some (FieldType.object "FrostCalendar$Land")) { frames := 6, cells := 1, slots := 6, locals := 180 } D ids n0 [.ref (ad 0), .int a] Hh (fun v H1 => ∃ k, k < 4 ∧ a = nI k ∧ cx a = k ∧ (0 ≤ a ∧ a ≤ 3) ∧ v = some (.ref (ad (7 + k))) ∧ Hh = H1) (fun E9 H1 => grow Hh H1 ∧ E9 = "java/lang/IndexOutOfBoundsException" ∧ ¬ (0 ≤ a ∧ a ≤ 3)) := by
  refine ro_ofT (by decide +kernel) (Nat.le_of_ble_eq_true rfl) ?_
  intro p e s m below meth c MC hhp hr hno HS ls hl
  have hx := MC.1.1
  have hb := MC.1.2.1
  have hl : lv_has ls 3 [(0, .ref (ad 0)), (1, .int a)] := hl
  obtain ⟨HP, hRR, sa, bm, fm, lf, ff, cf, h0, h1, h1b, h2, h2b, h7, h7b, h3, h3b, h40, h4, h4b, h60, h5, h6⟩ := id hX
  have hwb := hI.wb
  have hsb := hI.sb
  have hlb := hI.lb
  have hcb := hI.cb
  have hnl := hI.2.2.1.2
  have hns := hI.2.1.2.2
  have hnc := hI.2.2.2.1.2
  have hcs : cx (τ 0 2) = nl := by rw [hI.2.2.1.1]; exact cx_nI (by omega)
  refine lv_iload_n hx hb dX6_needLand_0 rfl (lv_at hl 1 rfl) ?_
  refine lv_if_lt (tgt := 18) hx hb dX6_needLand_1 (by decide) (fun c_1 => ?_) (fun c_1 => ?_)
  · refine lv_null hx hb dX6_needLand_18 ?_
    refine lv_astore_nN (lv' := [(2, .null), (0, .ref (ad 0)), (1, .int a)]) hx hb dX6_needLand_19 rfl hl (by decide) rfl (fun ls hl => ?_)
    refine lv_aload_nN hx hb dX6_needLand_20 rfl (lv_at hl 0 rfl) ?_
    refine lv_ifnonnullN hx hb dX6_needLand_21 ?_
    exact ro_throw hl9 MC HS hno th_202 hl.1 dX6_needLand_24 dX6_needLand_27 dX6_needLand_28 dX6_needLand_30 dX6_needLand_33 ⟨Nat.le_of_ble_eq_true rfl, Nat.le_of_ble_eq_true rfl, Nat.le_of_ble_eq_true rfl, Nat.le_of_ble_eq_true rfl⟩ (fun H9 hz9 hq9 => ⟨⟨hz9, hq9⟩, rfl, aq_nL_0 c_1⟩) (Nat.le_of_ble_eq_true rfl) (Nat.le_of_ble_eq_true rfl)
  · refine lv_iload_n hx hb dX6_needLand_4 rfl (lv_at hl 1 rfl) ?_
    refine lv_iconst (v := 4) hx hb dX6_needLand_5 (by decide) ?_
    refine lv_icmp_ge (tgt := 18) hx hb dX6_needLand_6 (by decide) (fun c_6 => ?_) (fun c_6 => ?_)
    · refine lv_null hx hb dX6_needLand_18 ?_
      refine lv_astore_nN (lv' := [(2, .null), (0, .ref (ad 0)), (1, .int a)]) hx hb dX6_needLand_19 rfl hl (by decide) rfl (fun ls hl => ?_)
      refine lv_aload_nN hx hb dX6_needLand_20 rfl (lv_at hl 0 rfl) ?_
      refine lv_ifnonnullN hx hb dX6_needLand_21 ?_
      exact ro_throw hl9 MC HS hno th_202 hl.1 dX6_needLand_24 dX6_needLand_27 dX6_needLand_28 dX6_needLand_30 dX6_needLand_33 ⟨Nat.le_of_ble_eq_true rfl, Nat.le_of_ble_eq_true rfl, Nat.le_of_ble_eq_true rfl, Nat.le_of_ble_eq_true rfl⟩ (fun H9 hz9 hq9 => ⟨⟨hz9, hq9⟩, rfl, aq_nL_1 c_1 c_6⟩) (Nat.le_of_ble_eq_true rfl) (Nat.le_of_ble_eq_true rfl)
    · refine lv_aload_n hx hb dX6_needLand_9 rfl (lv_at hl 0 rfl) ?_
      refine ro_get MC HP (hRR.l (by decide)) h0 (rfl : vwCl[5]? = some (RX6, TX6, 11)) inU6 2 (by decide) kw63 rfl rfl dX6_needLand_10 ?_
      refine lv_iload_n hx hb dX6_needLand_13 rfl (lv_at hl 1 rfl) ?_
      obtain ⟨k, hk, hka⟩ := nI_ex (x := a) (n := 4) (aq_nx_0 c_1) (by show a < 4; exact aq_nx_1 c_6) (by omega)
      have hkc : cx a = k := by rw [hka]; exact cx_nI (by omega)
      refine xo_aald MC HP 3 (hRR.l (by decide)) h2 rfl k (show k < 4 by omega) (by omega) (h2b k (by omega)) hka dX6_needLand_14 ?_
      refine lv_goto (tgt := 19) hx hb dX6_needLand_15 (by decide) ?_
      refine lv_astore_n (lv' := [(2, .ref (ad (7 + k))), (0, .ref (ad 0)), (1, .int a)]) hx hb dX6_needLand_19 rfl hl (by decide) rfl (fun ls hl => ?_)
      refine lv_aload_n hx hb dX6_needLand_20 rfl (lv_at hl 0 rfl) ?_
      refine lv_ifnonnull (tgt := 34) hx hb dX6_needLand_21 (by decide) ?_
      refine lv_aload_n hx hb dX6_needLand_34 rfl (lv_at hl 0 rfl) ?_
      exact ro_MT (ro_aretM MC HS hr (Or.inr ⟨_, rfl⟩) (⟨k, hk, hka, hkc, aq_nL_2 c_1 c_6, rfl, rfl⟩) (Nat.le_of_ble_eq_true rfl) (Nat.le_of_ble_eq_true rfl) dX6_needLand_35)
set_option maxHeartbeats 4000000 in
set_option maxRecDepth 100000 in
theorem x_needFreeze {l : Launch} (hl9 : l.stackTraces = false) {D : va_G} {ids : Nat → ClassId} {n0 : Nat} {RR : List Nat} {ad : Nat → Nat} {cn : Nat → va_E} {τ : Tau} {ns nl nc : Nat} {Hh : Heap} (hX : xH D ids n0 RR ad cn τ ns nl nc Hh) {nw : Nat} (hI : Iv τ nw ns nl nc) {a : Int32} : ro_T l yX6_needFreeze cX6_needFreeze 3 (some (FieldType.object "FrostCalendar$Freeze")) { frames := 6, cells := 1, slots := 6, locals := 180 } D ids n0 [.ref (ad 0), .int a] Hh (fun v H1 => ∃ k, k < nl ∧ τ 4 k = 0 ∧ a = nI k ∧ cx a = k ∧ okF τ a ∧ v = some (.ref (ad (40 + k))) ∧ Hh = H1) (fun E9 H1 => grow Hh H1 ∧ E9 = "java/util/NoSuchElementException" ∧ ¬ okF τ a) := by
  refine ro_ofT (by decide +kernel) (Nat.le_of_ble_eq_true rfl) ?_
  intro p e s m below meth c MC hhp hr hno HS ls hl
  have hx := MC.1.1
  have hb := MC.1.2.1
  have hl : lv_has ls 3 [(0, .ref (ad 0)), (1, .int a)] := hl
  obtain ⟨HP, hRR, sa, bm, fm, lf, ff, cf, h0, h1, h1b, h2, h2b, h7, h7b, h3, h3b, h40, h4, h4b, h60, h5, h6⟩ := id hX
  have hwb := hI.wb
  have hsb := hI.sb
  have hlb := hI.lb
  have hcb := hI.cb
  have hnl := hI.2.2.1.2
  have hns := hI.2.1.2.2
  have hnc := hI.2.2.2.1.2
  have hcs : cx (τ 0 2) = nl := by rw [hI.2.2.1.1]; exact cx_nI (by omega)
  refine lv_iload_n hx hb dX6_needFreeze_0 rfl (lv_at hl 1 rfl) ?_
  refine lv_if_lt (tgt := 19) hx hb dX6_needFreeze_1 (by decide) (fun c_1 => ?_) (fun c_1 => ?_)
  · refine lv_null hx hb dX6_needFreeze_19 ?_
    refine lv_astore_nN (lv' := [(2, .null), (0, .ref (ad 0)), (1, .int a)]) hx hb dX6_needFreeze_20 rfl hl (by decide) rfl (fun ls hl => ?_)
    refine lv_aload_nN hx hb dX6_needFreeze_21 rfl (lv_at hl 0 rfl) ?_
    refine lv_ifnonnullN hx hb dX6_needFreeze_22 ?_
    exact ro_throwN hl9 MC HS hno th_206 hl.1 dX6_needFreeze_25 dX6_needFreeze_28 dX6_needFreeze_29 dX6_needFreeze_31 dX6_needFreeze_34 ⟨Nat.le_of_ble_eq_true rfl, Nat.le_of_ble_eq_true rfl, Nat.le_of_ble_eq_true rfl, Nat.le_of_ble_eq_true rfl⟩ (fun H9 hz9 hq9 => ⟨⟨hz9, hq9⟩, rfl, aq_nF_0 hI.lb c_1⟩) (Nat.le_of_ble_eq_true rfl) (Nat.le_of_ble_eq_true rfl)
  · refine lv_iload_n hx hb dX6_needFreeze_4 rfl (lv_at hl 1 rfl) ?_
    refine lv_bipush (v := 20) hx hb dX6_needFreeze_5 (by decide) ?_
    refine lv_icmp_ge (tgt := 19) hx hb dX6_needFreeze_7 (by decide) (fun c_7 => ?_) (fun c_7 => ?_)
    · refine lv_null hx hb dX6_needFreeze_19 ?_
      refine lv_astore_nN (lv' := [(2, .null), (0, .ref (ad 0)), (1, .int a)]) hx hb dX6_needFreeze_20 rfl hl (by decide) rfl (fun ls hl => ?_)
      refine lv_aload_nN hx hb dX6_needFreeze_21 rfl (lv_at hl 0 rfl) ?_
      refine lv_ifnonnullN hx hb dX6_needFreeze_22 ?_
      exact ro_throwN hl9 MC HS hno th_206 hl.1 dX6_needFreeze_25 dX6_needFreeze_28 dX6_needFreeze_29 dX6_needFreeze_31 dX6_needFreeze_34 ⟨Nat.le_of_ble_eq_true rfl, Nat.le_of_ble_eq_true rfl, Nat.le_of_ble_eq_true rfl, Nat.le_of_ble_eq_true rfl⟩ (fun H9 hz9 hq9 => ⟨⟨hz9, hq9⟩, rfl, aq_nF_1 hI.lb c_1 c_7⟩) (Nat.le_of_ble_eq_true rfl) (Nat.le_of_ble_eq_true rfl)
    · refine lv_aload_n hx hb dX6_needFreeze_10 rfl (lv_at hl 0 rfl) ?_
      refine ro_get MC HP (hRR.l (by decide)) h0 (rfl : vwCl[5]? = some (RX6, TX6, 11)) inU6 4 (by decide) kw65 rfl rfl dX6_needFreeze_11 ?_
      refine lv_iload_n hx hb dX6_needFreeze_14 rfl (lv_at hl 1 rfl) ?_
      obtain ⟨k, hk, hka⟩ := nI_ex (x := a) (n := 20) (aq_nx_2 c_1) (by show a < 20; exact aq_nx_3 c_7) (by omega)
      have hkc : cx a = k := by rw [hka]; exact cx_nI (by omega)
      by_cases hz_15 : k < nl ∧ τ 4 k = 0
      · have hz_15n := hz_15.1
        refine xo_aald MC HP 4 (hRR.l (by decide)) h3 rfl k (show k < 20 by omega) (by omega) ((h3b k (by omega)).trans (if_pos hz_15)) hka dX6_needFreeze_15 ?_
        refine lv_goto (tgt := 20) hx hb dX6_needFreeze_16 (by decide) ?_
        refine lv_astore_n (lv' := [(2, .ref (ad (40 + k))), (0, .ref (ad 0)), (1, .int a)]) hx hb dX6_needFreeze_20 rfl hl (by decide) rfl (fun ls hl => ?_)
        refine lv_aload_n hx hb dX6_needFreeze_21 rfl (lv_at hl 0 rfl) ?_
        refine lv_ifnonnull (tgt := 35) hx hb dX6_needFreeze_22 (by decide) ?_
        refine lv_aload_n hx hb dX6_needFreeze_35 rfl (lv_at hl 0 rfl) ?_
        exact ro_MT (ro_aretM MC HS hr (Or.inr ⟨_, rfl⟩) (⟨k, hz_15.1, hz_15.2, hka, hkc, (okF_k hI hka (by omega)).mpr hz_15, rfl, rfl⟩) (Nat.le_of_ble_eq_true rfl) (Nat.le_of_ble_eq_true rfl) dX6_needFreeze_36)
      · refine xo_aald MC HP 4 (hRR.l (by decide)) h3 rfl k (show k < 20 by omega) (by omega) ((h3b k (by omega)).trans (if_neg hz_15)) hka dX6_needFreeze_15 ?_
        refine lv_goto (tgt := 20) hx hb dX6_needFreeze_16 (by decide) ?_
        refine lv_astore_nN (lv' := [(2, .null), (0, .ref (ad 0)), (1, .int a)]) hx hb dX6_needFreeze_20 rfl hl (by decide) rfl (fun ls hl => ?_)
        refine lv_aload_nN hx hb dX6_needFreeze_21 rfl (lv_at hl 0 rfl) ?_
        refine lv_ifnonnullN hx hb dX6_needFreeze_22 ?_
        exact ro_throwN hl9 MC HS hno th_206 hl.1 dX6_needFreeze_25 dX6_needFreeze_28 dX6_needFreeze_29 dX6_needFreeze_31 dX6_needFreeze_34 ⟨Nat.le_of_ble_eq_true rfl, Nat.le_of_ble_eq_true rfl, Nat.le_of_ble_eq_true rfl, Nat.le_of_ble_eq_true rfl⟩ (fun H9 hz9 hq9 => ⟨⟨hz9, hq9⟩, rfl, fun h9 => hz_15 ((okF_k hI hka (by omega)).mp h9)⟩) (Nat.le_of_ble_eq_true rfl) (Nat.le_of_ble_eq_true rfl)
set_option maxHeartbeats 4000000 in
set_option maxRecDepth 100000 in
theorem x_needChange {l : Launch} (hl9 : l.stackTraces = false) {D : va_G} {ids : Nat → ClassId} {n0 : Nat} {RR : List Nat} {ad : Nat → Nat} {cn : Nat → va_E} {τ : Tau} {ns nl nc : Nat} {Hh : Heap} (hX : xH D ids n0 RR ad cn τ ns nl nc Hh) {nw : Nat} (hI : Iv τ nw ns nl nc) {a : Int32} : ro_T l yX6_needChange cX6_needChange 3 (some (FieldType.object "FrostCalendar$Change")) { frames := 6, cells := 1, slots := 6, locals := 180 } D ids n0 [.ref (ad 0), .int a] Hh (fun v H1 => ∃ k, k < nc ∧ a = nI k ∧ cx a = k ∧ (0 ≤ a ∧ a ≤ τ 0 3 - 1) ∧ v = some (.ref (ad (60 + k))) ∧ Hh = H1) (fun E9 H1 => grow Hh H1 ∧ E9 = "java/lang/IndexOutOfBoundsException" ∧ ¬ (0 ≤ a ∧ a ≤ τ 0 3 - 1)) := by
  refine ro_ofT (by decide +kernel) (Nat.le_of_ble_eq_true rfl) ?_
  intro p e s m below meth c MC hhp hr hno HS ls hl
  have hx := MC.1.1
  have hb := MC.1.2.1
  have hl : lv_has ls 3 [(0, .ref (ad 0)), (1, .int a)] := hl
  obtain ⟨HP, hRR, sa, bm, fm, lf, ff, cf, h0, h1, h1b, h2, h2b, h7, h7b, h3, h3b, h40, h4, h4b, h60, h5, h6⟩ := id hX
  have hwb := hI.wb
  have hsb := hI.sb
  have hlb := hI.lb
  have hcb := hI.cb
  have hnl := hI.2.2.1.2
  have hns := hI.2.1.2.2
  have hnc := hI.2.2.2.1.2
  have hcs : cx (τ 0 2) = nl := by rw [hI.2.2.1.1]; exact cx_nI (by omega)
  refine lv_iload_n hx hb dX6_needChange_0 rfl (lv_at hl 1 rfl) ?_
  refine lv_if_lt (tgt := 19) hx hb dX6_needChange_1 (by decide) (fun c_1 => ?_) (fun c_1 => ?_)
  · refine lv_null hx hb dX6_needChange_19 ?_
    refine lv_astore_nN (lv' := [(2, .null), (0, .ref (ad 0)), (1, .int a)]) hx hb dX6_needChange_20 rfl hl (by decide) rfl (fun ls hl => ?_)
    refine lv_aload_nN hx hb dX6_needChange_21 rfl (lv_at hl 0 rfl) ?_
    refine lv_ifnonnullN hx hb dX6_needChange_22 ?_
    exact ro_throw hl9 MC HS hno th_209 hl.1 dX6_needChange_25 dX6_needChange_28 dX6_needChange_29 dX6_needChange_31 dX6_needChange_34 ⟨Nat.le_of_ble_eq_true rfl, Nat.le_of_ble_eq_true rfl, Nat.le_of_ble_eq_true rfl, Nat.le_of_ble_eq_true rfl⟩ (fun H9 hz9 hq9 => ⟨⟨hz9, hq9⟩, rfl, aq_nC_0 hI.cb c_1⟩) (Nat.le_of_ble_eq_true rfl) (Nat.le_of_ble_eq_true rfl)
  · refine lv_iload_n hx hb dX6_needChange_4 rfl (lv_at hl 1 rfl) ?_
    refine lv_bipush (v := 30) hx hb dX6_needChange_5 (by decide) ?_
    refine lv_icmp_ge (tgt := 19) hx hb dX6_needChange_7 (by decide) (fun c_7 => ?_) (fun c_7 => ?_)
    · refine lv_null hx hb dX6_needChange_19 ?_
      refine lv_astore_nN (lv' := [(2, .null), (0, .ref (ad 0)), (1, .int a)]) hx hb dX6_needChange_20 rfl hl (by decide) rfl (fun ls hl => ?_)
      refine lv_aload_nN hx hb dX6_needChange_21 rfl (lv_at hl 0 rfl) ?_
      refine lv_ifnonnullN hx hb dX6_needChange_22 ?_
      exact ro_throw hl9 MC HS hno th_209 hl.1 dX6_needChange_25 dX6_needChange_28 dX6_needChange_29 dX6_needChange_31 dX6_needChange_34 ⟨Nat.le_of_ble_eq_true rfl, Nat.le_of_ble_eq_true rfl, Nat.le_of_ble_eq_true rfl, Nat.le_of_ble_eq_true rfl⟩ (fun H9 hz9 hq9 => ⟨⟨hz9, hq9⟩, rfl, aq_nC_1 hI.cb c_1 c_7⟩) (Nat.le_of_ble_eq_true rfl) (Nat.le_of_ble_eq_true rfl)
    · refine lv_aload_n hx hb dX6_needChange_10 rfl (lv_at hl 0 rfl) ?_
      refine ro_get MC HP (hRR.l (by decide)) h0 (rfl : vwCl[5]? = some (RX6, TX6, 11)) inU6 7 (by decide) kw68 rfl rfl dX6_needChange_11 ?_
      refine lv_iload_n hx hb dX6_needChange_14 rfl (lv_at hl 1 rfl) ?_
      obtain ⟨k, hk, hka⟩ := nI_ex (x := a) (n := 30) (aq_nx_4 c_1) (by show a < 30; exact aq_nx_5 c_7) (by omega)
      have hkc : cx a = k := by rw [hka]; exact cx_nI (by omega)
      by_cases hz_15 : k < nc
      · have hz_15n := hz_15
        refine xo_aald MC HP 5 (hRR.l (by decide)) h4 rfl k (show k < 30 by omega) (by omega) ((h4b k (by omega)).trans (if_pos hz_15)) hka dX6_needChange_15 ?_
        refine lv_goto (tgt := 20) hx hb dX6_needChange_16 (by decide) ?_
        refine lv_astore_n (lv' := [(2, .ref (ad (60 + k))), (0, .ref (ad 0)), (1, .int a)]) hx hb dX6_needChange_20 rfl hl (by decide) rfl (fun ls hl => ?_)
        refine lv_aload_n hx hb dX6_needChange_21 rfl (lv_at hl 0 rfl) ?_
        refine lv_ifnonnull (tgt := 35) hx hb dX6_needChange_22 (by decide) ?_
        refine lv_aload_n hx hb dX6_needChange_35 rfl (lv_at hl 0 rfl) ?_
        exact ro_MT (ro_aretM MC HS hr (Or.inr ⟨_, rfl⟩) (⟨k, hz_15, hka, hkc, (okC_k hI hka (by omega)).mpr hz_15, rfl, rfl⟩) (Nat.le_of_ble_eq_true rfl) (Nat.le_of_ble_eq_true rfl) dX6_needChange_36)
      · refine xo_aald MC HP 5 (hRR.l (by decide)) h4 rfl k (show k < 30 by omega) (by omega) ((h4b k (by omega)).trans (if_neg hz_15)) hka dX6_needChange_15 ?_
        refine lv_goto (tgt := 20) hx hb dX6_needChange_16 (by decide) ?_
        refine lv_astore_nN (lv' := [(2, .null), (0, .ref (ad 0)), (1, .int a)]) hx hb dX6_needChange_20 rfl hl (by decide) rfl (fun ls hl => ?_)
        refine lv_aload_nN hx hb dX6_needChange_21 rfl (lv_at hl 0 rfl) ?_
        refine lv_ifnonnullN hx hb dX6_needChange_22 ?_
        exact ro_throw hl9 MC HS hno th_209 hl.1 dX6_needChange_25 dX6_needChange_28 dX6_needChange_29 dX6_needChange_31 dX6_needChange_34 ⟨Nat.le_of_ble_eq_true rfl, Nat.le_of_ble_eq_true rfl, Nat.le_of_ble_eq_true rfl, Nat.le_of_ble_eq_true rfl⟩ (fun H9 hz9 hq9 => ⟨⟨hz9, hq9⟩, rfl, fun h9 => hz_15 ((okC_k hI hka (by omega)).mp h9)⟩) (Nat.le_of_ble_eq_true rfl) (Nat.le_of_ble_eq_true rfl)
set_option maxHeartbeats 4000000 in
set_option maxRecDepth 100000 in
theorem x_needPlanned {l : Launch} (hl9 : l.stackTraces = false) {D : va_G} {ids : Nat → ClassId} {n0 : Nat} {RR : List Nat} {ad : Nat → Nat} {cn : Nat → va_E} {τ : Tau} {ns nl nc : Nat} {Hh : Heap} (hX : xH D ids n0 RR ad cn τ ns nl nc Hh) {nw : Nat} (hI : Iv τ nw ns nl nc) {k : Nat} (hk : k < nc) : ro_T l yX6_needPlanned cX6_needPlanned 1 none { frames := 6, cells := 1, slots := 6, locals := 180 } D ids n0 [.ref (ad (60 + k))] Hh (fun v H1 => v = none ∧ τ 17 k = -1 ∧ Hh = H1) (fun E9 H1 => grow Hh H1 ∧ E9 = "java/lang/IllegalStateException" ∧ ¬ (τ 17 k = -1)) := by
  refine ro_ofT (by decide +kernel) (Nat.le_of_ble_eq_true rfl) ?_
  intro p e s m below meth c MC hhp hr hno HS ls hl
  have hx := MC.1.1
  have hb := MC.1.2.1
  have hl : lv_has ls 1 [(0, .ref (ad (60 + k)))] := hl
  obtain ⟨HP, hRR, sa, bm, fm, lf, ff, cf, h0, h1, h1b, h2, h2b, h7, h7b, h3, h3b, h40, h4, h4b, h60, h5, h6⟩ := id hX
  have hwb := hI.wb
  have hsb := hI.sb
  have hlb := hI.lb
  have hcb := hI.cb
  have hnl := hI.2.2.1.2
  have hns := hI.2.1.2.2
  have hnc := hI.2.2.2.1.2
  have hcs : cx (τ 0 2) = nl := by rw [hI.2.2.1.1]; exact cx_nI (by omega)
  refine lv_aload_n hx hb dX6_needPlanned_0 rfl (lv_at hl 0 rfl) ?_
  refine ro_get MC HP (hRR.c (show k < nc by omega)) (h60 k (by omega)) (rfl : vwCl[0]? = some (RX0, TX0, 8)) inU0 6 (by decide) kw411 rfl rfl dX6_needPlanned_1 ?_
  refine lv_if_eq (tgt := 17) hx hb dX6_needPlanned_4 (by decide) (fun c_4 => ?_) (fun c_4 => ?_)
  · have f_4 := bI_0.mp c_4
    exact ro_MT (ro_vretM MC HS hr (⟨rfl, Classical.not_not.mp f_4, rfl⟩) (Nat.le_of_ble_eq_true rfl) (Nat.le_of_ble_eq_true rfl) dX6_needPlanned_17)
  · have f_4 := bI_n0.mp c_4
    exact ro_throw hl9 MC HS hno th_216 hl.1 dX6_needPlanned_7 dX6_needPlanned_10 dX6_needPlanned_11 dX6_needPlanned_13 dX6_needPlanned_16 ⟨Nat.le_of_ble_eq_true rfl, Nat.le_of_ble_eq_true rfl, Nat.le_of_ble_eq_true rfl, Nat.le_of_ble_eq_true rfl⟩ (fun H9 hz9 hq9 => ⟨⟨hz9, hq9⟩, rfl, f_4⟩) (Nat.le_of_ble_eq_true rfl) (Nat.le_of_ble_eq_true rfl)
set_option maxHeartbeats 4000000 in
set_option maxRecDepth 100000 in
theorem x_needRoom {l : Launch} (hl9 : l.stackTraces = false) {D : va_G} {ids : Nat → ClassId} {n0 : Nat} {RR : List Nat} {ad : Nat → Nat} {cn : Nat → va_E} {τ : Tau} {ns nl nc : Nat} {Hh : Heap} (hX : xH D ids n0 RR ad cn τ ns nl nc Hh) {nw : Nat} (hI : Iv τ nw ns nl nc) : ro_T l yX6_needRoomForFreeze cX6_needRoomForFreeze 1 none { frames := 6, cells := 1, slots := 6, locals := 180 } D ids n0 [.ref (ad 0)] Hh (fun v H1 => v = none ∧ ¬ (20 ≤ τ 0 2) ∧ Hh = H1) (fun E9 H1 => grow Hh H1 ∧ E9 = "java/lang/IllegalStateException" ∧ τ 0 2 = 20) := by
  refine ro_ofT (by decide +kernel) (Nat.le_of_ble_eq_true rfl) ?_
  intro p e s m below meth c MC hhp hr hno HS ls hl
  have hx := MC.1.1
  have hb := MC.1.2.1
  have hl : lv_has ls 1 [(0, .ref (ad 0))] := hl
  obtain ⟨HP, hRR, sa, bm, fm, lf, ff, cf, h0, h1, h1b, h2, h2b, h7, h7b, h3, h3b, h40, h4, h4b, h60, h5, h6⟩ := id hX
  have hwb := hI.wb
  have hsb := hI.sb
  have hlb := hI.lb
  have hcb := hI.cb
  have hnl := hI.2.2.1.2
  have hns := hI.2.1.2.2
  have hnc := hI.2.2.2.1.2
  have hcs : cx (τ 0 2) = nl := by rw [hI.2.2.1.1]; exact cx_nI (by omega)
  refine lv_aload_n hx hb dX6_needRoomForFreeze_0 rfl (lv_at hl 0 rfl) ?_
  refine ro_get MC HP (hRR.l (by decide)) h0 (rfl : vwCl[5]? = some (RX6, TX6, 11)) inU6 5 (by decide) kw66 rfl rfl dX6_needRoomForFreeze_1 ?_
  refine lv_bipush (v := 20) hx hb dX6_needRoomForFreeze_4 (by decide) ?_
  refine lv_icmp_lt (tgt := 19) hx hb dX6_needRoomForFreeze_6 (by decide) (fun c_6 => ?_) (fun c_6 => ?_)
  · exact ro_MT (ro_vretM MC HS hr (⟨rfl, aq_nM_0 hI.lb c_6, rfl⟩) (Nat.le_of_ble_eq_true rfl) (Nat.le_of_ble_eq_true rfl) dX6_needRoomForFreeze_19)
  · exact ro_throw hl9 MC HS hno th_218 hl.1 dX6_needRoomForFreeze_9 dX6_needRoomForFreeze_12 dX6_needRoomForFreeze_13 dX6_needRoomForFreeze_15 dX6_needRoomForFreeze_18 ⟨Nat.le_of_ble_eq_true rfl, Nat.le_of_ble_eq_true rfl, Nat.le_of_ble_eq_true rfl, Nat.le_of_ble_eq_true rfl⟩ (fun H9 hz9 hq9 => ⟨⟨hz9, hq9⟩, rfl, aq_nM_1 hI.lb c_6⟩) (Nat.le_of_ble_eq_true rfl) (Nat.le_of_ble_eq_true rfl)
