theorem aq_left_0 {τ : Tau} {r9 : Int32} (hn9 : ¬ (1 ≤ r9 ∧ r9 ≤ 3)) : th_left τ r9 = 1 := by
  unfold th_left; grind
theorem aq_left_1 {τ : Tau} {r9 : Int32} (hf_1 : 1 ≤ r9 ∧ r9 ≤ 3) : th_left τ r9 = 0 := by
  unfold th_left; grind
theorem aq_state_0 {τ : Tau} {c9 : Int32} (hn9 : ¬ (0 ≤ c9 ∧ c9 ≤ τ 0 3 - 1)) : th_state τ c9 = 1 := by
  unfold th_state; grind
theorem aq_state_1 {τ : Tau} {c9 : Int32} {k : Nat} (hf_2 : 0 ≤ c9 ∧ c9 ≤ τ 0 3 - 1) (hkc : cx c9 = k) (hle15 : τ 15 k ≤ τ 14 k) (f_10 : ¬ τ 17 k = -1) (c_23 : (τ 12 k + τ 13 k) ≤ τ 0 0) : th_state τ c9 = 0 := by
  unfold th_state; grind
theorem aq_state_2 {τ : Tau} {c9 : Int32} {k : Nat} (hwb : 0 ≤ τ 0 0 ∧ τ 0 0 ≤ 671) (hsb : 1 ≤ τ 0 1 ∧ τ 0 1 ≤ 16) (hlb : 0 ≤ τ 0 2 ∧ τ 0 2 ≤ 20) (hcb : 0 ≤ τ 0 3 ∧ τ 0 3 ≤ 30) (hf_2 : 0 ≤ c9 ∧ c9 ≤ τ 0 3 - 1) (hkc : cx c9 = k) (hle15 : τ 15 k ≤ τ 14 k) (hln : 1 ≤ τ 13 k ∧ τ 13 k ≤ 100) (f_10 : ¬ τ 17 k = -1) (c_23 : (τ 12 k + τ 13 k) ≤ τ 0 0) : rt_state τ c9 = 2 := by
  unfold rt_state; grind
theorem aq_state_3 {τ : Tau} {c9 : Int32} {k : Nat} (hf_2 : 0 ≤ c9 ∧ c9 ≤ τ 0 3 - 1) (hkc : cx c9 = k) (hle15 : τ 15 k ≤ τ 14 k) (f_10 : ¬ τ 17 k = -1) (c_23 : ¬ ((τ 12 k + τ 13 k) ≤ τ 0 0)) : th_state τ c9 = 0 := by
  unfold th_state; grind
theorem aq_state_4 {τ : Tau} {c9 : Int32} {k : Nat} (hwb : 0 ≤ τ 0 0 ∧ τ 0 0 ≤ 671) (hsb : 1 ≤ τ 0 1 ∧ τ 0 1 ≤ 16) (hlb : 0 ≤ τ 0 2 ∧ τ 0 2 ≤ 20) (hcb : 0 ≤ τ 0 3 ∧ τ 0 3 ≤ 30) (hf_2 : 0 ≤ c9 ∧ c9 ≤ τ 0 3 - 1) (hkc : cx c9 = k) (hle15 : τ 15 k ≤ τ 14 k) (hln : 1 ≤ τ 13 k ∧ τ 13 k ≤ 100) (f_10 : ¬ τ 17 k = -1) (c_23 : ¬ ((τ 12 k + τ 13 k) ≤ τ 0 0)) : rt_state τ c9 = 1 := by
  unfold rt_state; grind
theorem aq_state_5 {τ : Tau} {c9 : Int32} {k : Nat} (hf_2 : 0 ≤ c9 ∧ c9 ≤ τ 0 3 - 1) (hkc : cx c9 = k) (hle15 : τ 15 k ≤ τ 14 k) (f_10 : ¬ (¬ τ 17 k = -1)) : th_state τ c9 = 0 := by
  unfold th_state; grind
theorem aq_state_6 {τ : Tau} {c9 : Int32} {k : Nat} (hwb : 0 ≤ τ 0 0 ∧ τ 0 0 ≤ 671) (hsb : 1 ≤ τ 0 1 ∧ τ 0 1 ≤ 16) (hlb : 0 ≤ τ 0 2 ∧ τ 0 2 ≤ 20) (hcb : 0 ≤ τ 0 3 ∧ τ 0 3 ≤ 30) (hf_2 : 0 ≤ c9 ∧ c9 ≤ τ 0 3 - 1) (hkc : cx c9 = k) (hle15 : τ 15 k ≤ τ 14 k) (hln : 1 ≤ τ 13 k ∧ τ 13 k ≤ 100) (f_10 : ¬ (¬ τ 17 k = -1)) : rt_state τ c9 = 0 := by
  unfold rt_state; grind
theorem aq_approved_0 {τ : Tau} {c9 : Int32} (hn9 : ¬ (0 ≤ c9 ∧ c9 ≤ τ 0 3 - 1)) : th_approved τ c9 = 1 := by
  unfold th_approved; grind
theorem aq_approved_1 {τ : Tau} {c9 : Int32} {k : Nat} (hf_3 : 0 ≤ c9 ∧ c9 ≤ τ 0 3 - 1) (hkc : cx c9 = k) (hle15 : τ 15 k ≤ τ 14 k) : th_approved τ c9 = 0 := by
  unfold th_approved; grind
theorem aq_approved_2 {τ : Tau} {c9 : Int32} {k : Nat} (hwb : 0 ≤ τ 0 0 ∧ τ 0 0 ≤ 671) (hsb : 1 ≤ τ 0 1 ∧ τ 0 1 ≤ 16) (hlb : 0 ≤ τ 0 2 ∧ τ 0 2 ≤ 20) (hcb : 0 ≤ τ 0 3 ∧ τ 0 3 ≤ 30) (hf_3 : 0 ≤ c9 ∧ c9 ≤ τ 0 3 - 1) (hkc : cx c9 = k) (hle15 : τ 15 k ≤ τ 14 k) (hln : 1 ≤ τ 13 k ∧ τ 13 k ≤ 100) : rt_approved τ c9 = τ 15 k := by
  unfold rt_approved; grind
theorem aq_holding_0 {τ : Tau} {s9 h9 : Int32} (hn9 : ¬ (0 ≤ s9 ∧ s9 ≤ τ 0 1 - 1)) : th_holding τ s9 h9 = 1 := by
  unfold th_holding; grind
theorem aq_holding_1 {τ : Tau} {s9 h9 : Int32} (hf_4 : 0 ≤ s9 ∧ s9 ≤ τ 0 1 - 1) (hn9 : ¬ (0 ≤ h9 ∧ h9 ≤ 671)) : th_holding τ s9 h9 = 2 := by
  unfold th_holding; grind
theorem aq_holding_2 {τ : Tau} {s9 h9 : Int32} (hf_4 : 0 ≤ s9 ∧ s9 ≤ τ 0 1 - 1) (hf_5 : 0 ≤ h9 ∧ h9 ≤ 671) : th_holding τ s9 h9 = 0 := by
  unfold th_holding; grind
theorem aq_firstBad_0 {τ : Tau} {c9 : Int32} (hn9 : ¬ (0 ≤ c9 ∧ c9 ≤ τ 0 3 - 1)) : th_badHours τ c9 = 1 := by
  unfold th_badHours; grind
theorem aq_firstBad_1 {τ : Tau} {c9 : Int32} {k : Nat} (hf_6 : 0 ≤ c9 ∧ c9 ≤ τ 0 3 - 1) (hkc : cx c9 = k) (hle15 : τ 15 k ≤ τ 14 k) : th_badHours τ c9 = 0 := by
  unfold th_badHours; grind
theorem aq_badHours_0 {τ : Tau} {c9 : Int32} (hn9 : ¬ (0 ≤ c9 ∧ c9 ≤ τ 0 3 - 1)) : th_badHours τ c9 = 1 := by
  unfold th_badHours; grind
theorem aq_badHours_1 {τ : Tau} {c9 : Int32} {k : Nat} (hf_7 : 0 ≤ c9 ∧ c9 ≤ τ 0 3 - 1) (hkc : cx c9 = k) (hle15 : τ 15 k ≤ τ 14 k) : th_badHours τ c9 = 0 := by
  unfold th_badHours; grind
theorem aq_hours_0 {τ : Tau} {f9 : Int32} (hn9 : ¬ (okF τ f9)) : th_hours τ f9 = 1 := by
  unfold th_hours; grind
theorem aq_hours_1 {τ : Tau} {f9 : Int32} {q : Nat} (hf_8 : okF τ f9) (hqc : cx f9 = q) : th_hours τ f9 = 0 := by
  unfold th_hours; grind
theorem aq_badHoursOneByOne_0 {τ : Tau} {c9 : Int32} (hn9 : ¬ (0 ≤ c9 ∧ c9 ≤ τ 0 3 - 1)) : th_badHours τ c9 = 1 := by
  unfold th_badHours; grind
theorem aq_badHoursOneByOne_1 {τ : Tau} {c9 : Int32} {k : Nat} (hf_9 : 0 ≤ c9 ∧ c9 ≤ τ 0 3 - 1) (hkc : cx c9 = k) (hle15 : τ 15 k ≤ τ 14 k) : th_badHours τ c9 = 0 := by
  unfold th_badHours; grind
theorem aq_reasons_0 {τ : Tau} {c9 : Int32} (hn9 : ¬ (0 ≤ c9 ∧ c9 ≤ τ 0 3 - 1)) : th_badHours τ c9 = 1 := by
  unfold th_badHours; grind
theorem aq_reasons_1 {τ : Tau} {c9 : Int32} {k : Nat} (hf_10 : 0 ≤ c9 ∧ c9 ≤ τ 0 3 - 1) (hkc : cx c9 = k) (hle15 : τ 15 k ≤ τ 14 k) : th_badHours τ c9 = 0 := by
  unfold th_badHours; grind
set_option maxHeartbeats 4000000 in
set_option maxRecDepth 100000 in
theorem q_left {l : Launch} (hl9 : l.stackTraces = false) {D : va_G} {ids : Nat → ClassId} {n0 : Nat} {RR : List Nat} {ad : Nat → Nat} {cn : Nat → va_E} {τ : Tau} {ns nl nc : Nat} {Hh : Heap} (hX : xH D ids n0 RR ad cn τ ns nl nc Hh) {nw : Nat} (hI : Iv τ nw ns nl nc) {r9 : Int32} : ro_T l yX6_left cX6_left 2 (some FieldType.int) { frames := 7, cells := 8, slots := 48, locals := 210 } D ids n0 [.ref (ad 0), .int r9] Hh (fun v H1 => th_left τ r9 = 0 ∧ v = some (.int (rt_left τ r9)) ∧ aft D ids n0 ad cn (τ) H1) (fun E9 H1 => grow Hh H1 ∧ ((th_left τ r9 = 1 ∧ E9 = "java/lang/IllegalArgumentException"))) := by
  refine ro_ofT (by decide +kernel) (Nat.le_of_ble_eq_true rfl) ?_
  intro p e s m below meth c MC hhp hr hno HS ls hl
  have hx := MC.1.1
  have hb := MC.1.2.1
  have hl : lv_has ls 2 [(0, .ref (ad 0)), (1, .int r9)] := hl
  obtain ⟨HP, hRR, sa, bm, fm, lf, ff, cf, h0, h1, h1b, h2, h2b, h7, h7b, h3, h3b, h40, h4, h4b, h60, h5, h6⟩ := id hX
  have hwb := hI.wb
  have hsb := hI.sb
  have hlb := hI.lb
  have hcb := hI.cb
  have hnl := hI.2.2.1.2
  have hns := hI.2.1.2.2
  have hnc := hI.2.2.2.1.2
  have hcs : cx (τ 0 2) = nl := by rw [hI.2.2.1.1]; exact cx_nI (by omega)
  refine lv_iload_n hx hb dX6_left_0 rfl (lv_at hl 1 rfl) ?_
  refine lv_iconst (v := 1) hx hb dX6_left_1 (by decide) ?_
  refine lv_iconst (v := 3) hx hb dX6_left_2 (by decide) ?_
  refine ro_callST MC HS (rest := []) (As := [.int r9, .int 1, .int 3]) (x_needRange hl9) (lkX6_58) (kw198) ⟨Nat.le_of_ble_eq_true rfl, Nat.le_of_ble_eq_true rfl⟩ hl.1 rfl (Nat.le_of_ble_eq_true rfl) dX6_left_3 ⟨Nat.le_of_ble_eq_true rfl, Nat.le_of_ble_eq_true rfl⟩ (ro_out MC hno (Nat.le_of_ble_eq_true rfl) (Nat.le_of_ble_eq_true rfl) (fun E9 H9 hp => by obtain ⟨hg9, rfl, hn9⟩ := hp; exact ⟨hg9, ⟨aq_left_0 hn9, rfl⟩⟩)) (fun v9 H1 lH1 hp hz HS => ?_)
  obtain ⟨rfl, hf_1, rfl⟩ := hp
  obtain ⟨r8, hr1, hr4, hra, hrc⟩ := okR.ix hf_1
  refine lv_aload_n hx hb dX6_left_6 rfl (lv_at hl 0 rfl) ?_
  refine ro_get MC HP (hRR.l (by decide)) h0 (rfl : vwCl[5]? = some (RX6, TX6, 11)) inU6 9 (by decide) kw70 rfl rfl dX6_left_7 ?_
  refine lv_iload_n hx hb dX6_left_10 rfl (lv_at hl 1 rfl) ?_
  refine xo_iald MC HP (hRR.l (show 5 < 18 by omega)) h5 r8 (show r8 < 4 by omega) (by omega) hra dX6_left_11 ?_
  exact ro_MT (ro_iretM MC HS hr (⟨aq_left_1 hf_1, by rw [rt_left, hrc], aft.rf hX hI⟩) (Nat.le_of_ble_eq_true rfl) (Nat.le_of_ble_eq_true rfl) dX6_left_12)
set_option maxHeartbeats 4000000 in
set_option maxRecDepth 100000 in
theorem q_state {l : Launch} (hl9 : l.stackTraces = false) {D : va_G} {ids : Nat → ClassId} {n0 : Nat} {RR : List Nat} {ad : Nat → Nat} {cn : Nat → va_E} {τ : Tau} {ns nl nc : Nat} {Hh : Heap} (hX : xH D ids n0 RR ad cn τ ns nl nc Hh) {nw : Nat} (hI : Iv τ nw ns nl nc) {c9 : Int32} : ro_T l yX6_state cX6_state 3 (some FieldType.int) { frames := 7, cells := 8, slots := 48, locals := 210 } D ids n0 [.ref (ad 0), .int c9] Hh (fun v H1 => th_state τ c9 = 0 ∧ v = some (.int (rt_state τ c9)) ∧ aft D ids n0 ad cn (τ) H1) (fun E9 H1 => grow Hh H1 ∧ ((th_state τ c9 = 1 ∧ E9 = "java/lang/IndexOutOfBoundsException"))) := by
  refine ro_ofT (by decide +kernel) (Nat.le_of_ble_eq_true rfl) ?_
  intro p e s m below meth c MC hhp hr hno HS ls hl
  have hx := MC.1.1
  have hb := MC.1.2.1
  have hl : lv_has ls 3 [(0, .ref (ad 0)), (1, .int c9)] := hl
  obtain ⟨HP, hRR, sa, bm, fm, lf, ff, cf, h0, h1, h1b, h2, h2b, h7, h7b, h3, h3b, h40, h4, h4b, h60, h5, h6⟩ := id hX
  have hwb := hI.wb
  have hsb := hI.sb
  have hlb := hI.lb
  have hcb := hI.cb
  have hnl := hI.2.2.1.2
  have hns := hI.2.1.2.2
  have hnc := hI.2.2.2.1.2
  have hcs : cx (τ 0 2) = nl := by rw [hI.2.2.1.1]; exact cx_nI (by omega)
  refine lv_aload_n hx hb dX6_state_0 rfl (lv_at hl 0 rfl) ?_
  refine lv_iload_n hx hb dX6_state_1 rfl (lv_at hl 1 rfl) ?_
  refine ro_callVT MC HS (rest := []) (As := [.int c9]) (x_needChange hl9 hX hI) (lkX6_123) (kw437) (kw9) ⟨Nat.le_of_ble_eq_true rfl, Nat.le_of_ble_eq_true rfl⟩ (ro_recv MC HP (hRR.l (by decide)) h0 (rfl : vwCl[5]? = some (RX6, TX6, 11))) hl.1 rfl (Nat.le_of_ble_eq_true rfl) dX6_state_2 ⟨Nat.le_of_ble_eq_true rfl, Nat.le_of_ble_eq_true rfl⟩ (ro_out MC hno (Nat.le_of_ble_eq_true rfl) (Nat.le_of_ble_eq_true rfl) (fun E9 H9 hp => by obtain ⟨hg9, rfl, hn9⟩ := hp; exact ⟨hg9, ⟨aq_state_0 hn9, rfl⟩⟩)) (fun v9 H1 lH1 hp hz HS => ?_)
  obtain ⟨k, hk, hka, hkc, hf_2, rfl, rfl⟩ := hp
  have hle15 := (hI.2.2.2.2.2.2.2.2.2.2.1 k hk).2.2.2.1.2
  have hln := ch_len hI hk
  refine lv_astore_n (lv' := [(2, .ref (ad (60 + k))), (0, .ref (ad 0)), (1, .int c9)]) hx hb dX6_state_5 rfl hl (by decide) rfl (fun ls hl => ?_)
  refine lv_aload_n hx hb dX6_state_6 rfl (lv_at hl 0 rfl) ?_
  refine ro_get MC HP (hRR.c (show k < nc by omega)) (h60 k (by omega)) (rfl : vwCl[0]? = some (RX0, TX0, 8)) inU0 6 (by decide) kw411 rfl rfl dX6_state_7 ?_
  refine lv_if_ne (tgt := 15) hx hb dX6_state_10 (by decide) (fun c_10 => ?_) (fun c_10 => ?_)
  · have f_10 := bI_n0.mp c_10
    refine lv_aload_n hx hb dX6_state_15 rfl (lv_at hl 1 rfl) ?_
    refine ro_get MC HP (hRR.l (by decide)) h0 (rfl : vwCl[5]? = some (RX6, TX6, 11)) inU6 3 (by decide) kw64 rfl rfl dX6_state_16 ?_
    refine lv_aload_n hx hb dX6_state_19 rfl (lv_at hl 0 rfl) ?_
    refine ro_callV MC HS (rest := [.int (τ 0 0)]) (As := []) (x_hourBehind hX hk) (lkX6_171) (kw476) (kw477) ⟨Nat.le_of_ble_eq_true rfl, Nat.le_of_ble_eq_true rfl⟩ (ro_recv MC HP (hRR.c (show k < nc by omega)) (h60 k (by omega)) (rfl : vwCl[0]? = some (RX0, TX0, 8))) hl.1 rfl (Nat.le_of_ble_eq_true rfl) dX6_state_20 ⟨Nat.le_of_ble_eq_true rfl, Nat.le_of_ble_eq_true rfl⟩ (fun v9 H2 lH2 hp hz HS => ?_)
    obtain ⟨rfl, rfl⟩ := hp
    refine lv_icmp_ge (tgt := 30) hx hb dX6_state_23 (by decide) (fun c_23 => ?_) (fun c_23 => ?_)
    · refine lv_iconst (v := 2) hx hb dX6_state_30 (by decide) ?_
      exact ro_MT (ro_iretM MC HS hr (⟨aq_state_1 hf_2 hkc hle15 f_10 c_23, by rw [aq_state_2 hwb hsb hlb hcb hf_2 hkc hle15 hln f_10 c_23], aft.rf hX hI⟩) (Nat.le_of_ble_eq_true rfl) (Nat.le_of_ble_eq_true rfl) dX6_state_31)
    · refine lv_iconst (v := 1) hx hb dX6_state_26 (by decide) ?_
      refine lv_goto (tgt := 31) hx hb dX6_state_27 (by decide) ?_
      exact ro_MT (ro_iretM MC HS hr (⟨aq_state_3 hf_2 hkc hle15 f_10 c_23, by rw [aq_state_4 hwb hsb hlb hcb hf_2 hkc hle15 hln f_10 c_23], aft.rf hX hI⟩) (Nat.le_of_ble_eq_true rfl) (Nat.le_of_ble_eq_true rfl) dX6_state_31)
  · have f_10 := bI_0.mp c_10
    refine lv_iconst (v := 0) hx hb dX6_state_13 (by decide) ?_
    exact ro_MT (ro_iretM MC HS hr (⟨aq_state_5 hf_2 hkc hle15 f_10, by rw [aq_state_6 hwb hsb hlb hcb hf_2 hkc hle15 hln f_10], aft.rf hX hI⟩) (Nat.le_of_ble_eq_true rfl) (Nat.le_of_ble_eq_true rfl) dX6_state_14)
set_option maxHeartbeats 4000000 in
set_option maxRecDepth 100000 in
theorem q_approved {l : Launch} (hl9 : l.stackTraces = false) {D : va_G} {ids : Nat → ClassId} {n0 : Nat} {RR : List Nat} {ad : Nat → Nat} {cn : Nat → va_E} {τ : Tau} {ns nl nc : Nat} {Hh : Heap} (hX : xH D ids n0 RR ad cn τ ns nl nc Hh) {nw : Nat} (hI : Iv τ nw ns nl nc) {c9 : Int32} : ro_T l yX6_approved cX6_approved 2 (some FieldType.int) { frames := 7, cells := 8, slots := 48, locals := 210 } D ids n0 [.ref (ad 0), .int c9] Hh (fun v H1 => th_approved τ c9 = 0 ∧ v = some (.int (rt_approved τ c9)) ∧ aft D ids n0 ad cn (τ) H1) (fun E9 H1 => grow Hh H1 ∧ ((th_approved τ c9 = 1 ∧ E9 = "java/lang/IndexOutOfBoundsException"))) := by
  refine ro_ofT (by decide +kernel) (Nat.le_of_ble_eq_true rfl) ?_
  intro p e s m below meth c MC hhp hr hno HS ls hl
  have hx := MC.1.1
  have hb := MC.1.2.1
  have hl : lv_has ls 2 [(0, .ref (ad 0)), (1, .int c9)] := hl
  obtain ⟨HP, hRR, sa, bm, fm, lf, ff, cf, h0, h1, h1b, h2, h2b, h7, h7b, h3, h3b, h40, h4, h4b, h60, h5, h6⟩ := id hX
  have hwb := hI.wb
  have hsb := hI.sb
  have hlb := hI.lb
  have hcb := hI.cb
  have hnl := hI.2.2.1.2
  have hns := hI.2.1.2.2
  have hnc := hI.2.2.2.1.2
  have hcs : cx (τ 0 2) = nl := by rw [hI.2.2.1.1]; exact cx_nI (by omega)
  refine lv_aload_n hx hb dX6_approved_0 rfl (lv_at hl 0 rfl) ?_
  refine lv_iload_n hx hb dX6_approved_1 rfl (lv_at hl 1 rfl) ?_
  refine ro_callVT MC HS (rest := []) (As := [.int c9]) (x_needChange hl9 hX hI) (lkX6_123) (kw437) (kw9) ⟨Nat.le_of_ble_eq_true rfl, Nat.le_of_ble_eq_true rfl⟩ (ro_recv MC HP (hRR.l (by decide)) h0 (rfl : vwCl[5]? = some (RX6, TX6, 11))) hl.1 rfl (Nat.le_of_ble_eq_true rfl) dX6_approved_2 ⟨Nat.le_of_ble_eq_true rfl, Nat.le_of_ble_eq_true rfl⟩ (ro_out MC hno (Nat.le_of_ble_eq_true rfl) (Nat.le_of_ble_eq_true rfl) (fun E9 H9 hp => by obtain ⟨hg9, rfl, hn9⟩ := hp; exact ⟨hg9, ⟨aq_approved_0 hn9, rfl⟩⟩)) (fun v9 H1 lH1 hp hz HS => ?_)
  obtain ⟨k, hk, hka, hkc, hf_3, rfl, rfl⟩ := hp
  have hle15 := (hI.2.2.2.2.2.2.2.2.2.2.1 k hk).2.2.2.1.2
  have hln := ch_len hI hk
  refine ro_get MC HP (hRR.c (show k < nc by omega)) (h60 k (by omega)) (rfl : vwCl[0]? = some (RX0, TX0, 8)) inU0 4 (by decide) kw409 rfl rfl dX6_approved_5 ?_
  exact ro_MT (ro_iretM MC HS hr (⟨aq_approved_1 hf_3 hkc hle15, by rw [aq_approved_2 hwb hsb hlb hcb hf_3 hkc hle15 hln], aft.rf hX hI⟩) (Nat.le_of_ble_eq_true rfl) (Nat.le_of_ble_eq_true rfl) dX6_approved_8)
set_option maxHeartbeats 4000000 in
set_option maxRecDepth 100000 in
theorem q_holding {l : Launch} (hl9 : l.stackTraces = false) {D : va_G} {ids : Nat → ClassId} {n0 : Nat} {RR : List Nat} {ad : Nat → Nat} {cn : Nat → va_E} {τ : Tau} {ns nl nc : Nat} {Hh : Heap} (hX : xH D ids n0 RR ad cn τ ns nl nc Hh) {nw : Nat} (hI : Iv τ nw ns nl nc) {s9 h9 : Int32} : ro_T l yX6_holding cX6_holding 3 (some FieldType.int) { frames := 7, cells := 8, slots := 48, locals := 210 } D ids n0 [.ref (ad 0), .int s9, .int h9] Hh (fun v H1 => th_holding τ s9 h9 = 0 ∧ v = some (.int (rt_holding τ s9 h9)) ∧ aft D ids n0 ad cn (τ) H1) (fun E9 H1 => grow Hh H1 ∧ ((th_holding τ s9 h9 = 1 ∧ E9 = "java/lang/IndexOutOfBoundsException") ∨ (th_holding τ s9 h9 = 2 ∧ E9 = "java/lang/IllegalArgumentException"))) := by
  refine ro_ofT (by decide +kernel) (Nat.le_of_ble_eq_true rfl) ?_
  intro p e s m below meth c MC hhp hr hno HS ls hl
  have hx := MC.1.1
  have hb := MC.1.2.1
  have hl : lv_has ls 3 [(0, .ref (ad 0)), (1, .int s9), (2, .int h9)] := hl
  obtain ⟨HP, hRR, sa, bm, fm, lf, ff, cf, h0, h1, h1b, h2, h2b, h7, h7b, h3, h3b, h40, h4, h4b, h60, h5, h6⟩ := id hX
  have hwb := hI.wb
  have hsb := hI.sb
  have hlb := hI.lb
  have hcb := hI.cb
  have hnl := hI.2.2.1.2
  have hns := hI.2.1.2.2
  have hnc := hI.2.2.2.1.2
  have hcs : cx (τ 0 2) = nl := by rw [hI.2.2.1.1]; exact cx_nI (by omega)
  refine lv_aload_n hx hb dX6_holding_0 rfl (lv_at hl 0 rfl) ?_
  refine lv_iload_n hx hb dX6_holding_1 rfl (lv_at hl 1 rfl) ?_
  refine ro_callVT MC HS (rest := []) (As := [.int s9]) (x_needScope hl9 hX hI) (lkX6_43) (kw101) (kw0) ⟨Nat.le_of_ble_eq_true rfl, Nat.le_of_ble_eq_true rfl⟩ (ro_recv MC HP (hRR.l (by decide)) h0 (rfl : vwCl[5]? = some (RX6, TX6, 11))) hl.1 rfl (Nat.le_of_ble_eq_true rfl) dX6_holding_2 ⟨Nat.le_of_ble_eq_true rfl, Nat.le_of_ble_eq_true rfl⟩ (ro_out MC hno (Nat.le_of_ble_eq_true rfl) (Nat.le_of_ble_eq_true rfl) (fun E9 H9 hp => by obtain ⟨hg9, rfl, hn9⟩ := hp; exact ⟨hg9, Or.inl (⟨aq_holding_0 hn9, rfl⟩)⟩)) (fun v9 H1 lH1 hp hz HS => ?_)
  obtain ⟨rfl, hf_4, rfl⟩ := hp
  obtain ⟨i, hi, hia, hic⟩ := hI.s hf_4
  refine lv_iload_n hx hb dX6_holding_5 rfl (lv_at hl 2 rfl) ?_
  refine lv_iconst (v := 0) hx hb dX6_holding_6 (by decide) ?_
  refine lv_sipush (v := 671) hx hb dX6_holding_7 (by decide) ?_
  refine ro_callST MC HS (rest := []) (As := [.int h9, .int 0, .int 671]) (x_needRange hl9) (lkX6_58) (kw198) ⟨Nat.le_of_ble_eq_true rfl, Nat.le_of_ble_eq_true rfl⟩ hl.1 rfl (Nat.le_of_ble_eq_true rfl) dX6_holding_10 ⟨Nat.le_of_ble_eq_true rfl, Nat.le_of_ble_eq_true rfl⟩ (ro_out MC hno (Nat.le_of_ble_eq_true rfl) (Nat.le_of_ble_eq_true rfl) (fun E9 H9 hp => by obtain ⟨hg9, rfl, hn9⟩ := hp; exact ⟨hg9, Or.inr (⟨aq_holding_1 hf_4 hn9, rfl⟩)⟩)) (fun v9 H2 lH2 hp hz HS => ?_)
  obtain ⟨rfl, hf_5, rfl⟩ := hp
  obtain ⟨hh, hh9, hha⟩ := nI_ex (x := h9) (n := 672) hf_5.1 (by show h9 < 672; lia) (by omega)
  refine lv_aload_n hx hb dX6_holding_13 rfl (lv_at hl 0 rfl) ?_
  refine lv_aload_n hx hb dX6_holding_14 rfl (lv_at hl 0 rfl) ?_
  refine lv_iload_n hx hb dX6_holding_15 rfl (lv_at hl 1 rfl) ?_
  refine ro_callV MC HS (rest := [.ref (ad 0)]) (As := [.int s9]) (by rw [hia]; exact x_touchScope hX hI hi) (lkX6_106) (kw345) (kw6) ⟨Nat.le_of_ble_eq_true rfl, Nat.le_of_ble_eq_true rfl⟩ (ro_recv MC HP (hRR.l (by decide)) h0 (rfl : vwCl[5]? = some (RX6, TX6, 11))) hl.1 rfl (Nat.le_of_ble_eq_true rfl) dX6_holding_16 ⟨Nat.le_of_ble_eq_true rfl, Nat.le_of_ble_eq_true rfl⟩ (fun v9 H3 lH3 hp hz HS => ?_)
  obtain ⟨rfl, rfl⟩ := hp
  refine lv_iload_n hx hb dX6_holding_19 rfl (lv_at hl 2 rfl) ?_
  refine ro_callV MC HS (rest := []) (As := [.int (mk (tsB τ nl i) 20), .int h9]) (by rw [hha]; exact x_holdingAmong hX hI hh9 _) (lkX6_110) (kw354) (kw8) ⟨Nat.le_of_ble_eq_true rfl, Nat.le_of_ble_eq_true rfl⟩ (ro_recv MC HP (hRR.l (by decide)) h0 (rfl : vwCl[5]? = some (RX6, TX6, 11))) hl.1 rfl (Nat.le_of_ble_eq_true rfl) dX6_holding_20 ⟨Nat.le_of_ble_eq_true rfl, Nat.le_of_ble_eq_true rfl⟩ (fun v9 H4 lH4 hp hz HS => ?_)
  obtain ⟨rfl, rfl⟩ := hp
  exact ro_MT (ro_iretM MC HS hr (⟨aq_holding_2 hf_4 hf_5, by rw [rt_holding, hia, hha, hoS_eq hnl hcs], aft.rf hX hI⟩) (Nat.le_of_ble_eq_true rfl) (Nat.le_of_ble_eq_true rfl) dX6_holding_23)
set_option maxHeartbeats 4000000 in
set_option maxRecDepth 100000 in
theorem q_firstBad {l : Launch} (hl9 : l.stackTraces = false) {D : va_G} {ids : Nat → ClassId} {n0 : Nat} {RR : List Nat} {ad : Nat → Nat} {cn : Nat → va_E} {τ : Tau} {ns nl nc : Nat} {Hh : Heap} (hX : xH D ids n0 RR ad cn τ ns nl nc Hh) {nw : Nat} (hI : Iv τ nw ns nl nc) {c9 : Int32} : ro_T l yX6_firstBad cX6_firstBad 2 (some FieldType.int) { frames := 7, cells := 8, slots := 48, locals := 210 } D ids n0 [.ref (ad 0), .int c9] Hh (fun v H1 => th_badHours τ c9 = 0 ∧ v = some (.int (rt_firstBad τ c9)) ∧ aft D ids n0 ad cn (τ) H1) (fun E9 H1 => grow Hh H1 ∧ ((th_badHours τ c9 = 1 ∧ E9 = "java/lang/IndexOutOfBoundsException"))) := by
  refine ro_ofT (by decide +kernel) (Nat.le_of_ble_eq_true rfl) ?_
  intro p e s m below meth c MC hhp hr hno HS ls hl
  have hx := MC.1.1
  have hb := MC.1.2.1
  have hl : lv_has ls 2 [(0, .ref (ad 0)), (1, .int c9)] := hl
  obtain ⟨HP, hRR, sa, bm, fm, lf, ff, cf, h0, h1, h1b, h2, h2b, h7, h7b, h3, h3b, h40, h4, h4b, h60, h5, h6⟩ := id hX
  have hwb := hI.wb
  have hsb := hI.sb
  have hlb := hI.lb
  have hcb := hI.cb
  have hnl := hI.2.2.1.2
  have hns := hI.2.1.2.2
  have hnc := hI.2.2.2.1.2
  have hcs : cx (τ 0 2) = nl := by rw [hI.2.2.1.1]; exact cx_nI (by omega)
  refine lv_aload_n hx hb dX6_firstBad_0 rfl (lv_at hl 0 rfl) ?_
  refine lv_aload_n hx hb dX6_firstBad_1 rfl (lv_at hl 0 rfl) ?_
  refine lv_iload_n hx hb dX6_firstBad_2 rfl (lv_at hl 1 rfl) ?_
  refine ro_callVT MC HS (rest := [.ref (ad 0)]) (As := [.int c9]) (x_needChange hl9 hX hI) (lkX6_123) (kw437) (kw9) ⟨Nat.le_of_ble_eq_true rfl, Nat.le_of_ble_eq_true rfl⟩ (ro_recv MC HP (hRR.l (by decide)) h0 (rfl : vwCl[5]? = some (RX6, TX6, 11))) hl.1 rfl (Nat.le_of_ble_eq_true rfl) dX6_firstBad_3 ⟨Nat.le_of_ble_eq_true rfl, Nat.le_of_ble_eq_true rfl⟩ (ro_out MC hno (Nat.le_of_ble_eq_true rfl) (Nat.le_of_ble_eq_true rfl) (fun E9 H9 hp => by obtain ⟨hg9, rfl, hn9⟩ := hp; exact ⟨hg9, ⟨aq_firstBad_0 hn9, rfl⟩⟩)) (fun v9 H1 lH1 hp hz HS => ?_)
  obtain ⟨k, hk, hka, hkc, hf_6, rfl, rfl⟩ := hp
  have hle15 := (hI.2.2.2.2.2.2.2.2.2.2.1 k hk).2.2.2.1.2
  have hln := ch_len hI hk
  refine ro_callV MC HS (rest := []) (As := [.ref (ad (60 + k))]) (x_firstBadHour hX hI hk) (lkX6_156) (kw473) (kw14) ⟨Nat.le_of_ble_eq_true rfl, Nat.le_of_ble_eq_true rfl⟩ (ro_recv MC HP (hRR.l (by decide)) h0 (rfl : vwCl[5]? = some (RX6, TX6, 11))) hl.1 rfl (Nat.le_of_ble_eq_true rfl) dX6_firstBad_6 ⟨Nat.le_of_ble_eq_true rfl, Nat.le_of_ble_eq_true rfl⟩ (fun v9 H2 lH2 hp hz HS => ?_)
  obtain ⟨rfl, rfl⟩ := hp
  exact ro_MT (ro_iretM MC HS hr (⟨aq_firstBad_1 hf_6 hkc hle15, by rw [rt_firstBad_eq, hkc], aft.rf hX hI⟩) (Nat.le_of_ble_eq_true rfl) (Nat.le_of_ble_eq_true rfl) dX6_firstBad_9)
set_option maxHeartbeats 4000000 in
set_option maxRecDepth 100000 in
theorem q_badHours {l : Launch} (hl9 : l.stackTraces = false) {D : va_G} {ids : Nat → ClassId} {n0 : Nat} {RR : List Nat} {ad : Nat → Nat} {cn : Nat → va_E} {τ : Tau} {ns nl nc : Nat} {Hh : Heap} (hX : xH D ids n0 RR ad cn τ ns nl nc Hh) {nw : Nat} (hI : Iv τ nw ns nl nc) {c9 : Int32} : ro_T l yX6_badHours cX6_badHours 2 (some FieldType.int) { frames := 7, cells := 8, slots := 48, locals := 210 } D ids n0 [.ref (ad 0), .int c9] Hh (fun v H1 => th_badHours τ c9 = 0 ∧ v = some (.int (rt_badHours τ c9)) ∧ aft D ids n0 ad cn (τ) H1) (fun E9 H1 => grow Hh H1 ∧ ((th_badHours τ c9 = 1 ∧ E9 = "java/lang/IndexOutOfBoundsException"))) := by
  refine ro_ofT (by decide +kernel) (Nat.le_of_ble_eq_true rfl) ?_
  intro p e s m below meth c MC hhp hr hno HS ls hl
  have hx := MC.1.1
  have hb := MC.1.2.1
  have hl : lv_has ls 2 [(0, .ref (ad 0)), (1, .int c9)] := hl
  obtain ⟨HP, hRR, sa, bm, fm, lf, ff, cf, h0, h1, h1b, h2, h2b, h7, h7b, h3, h3b, h40, h4, h4b, h60, h5, h6⟩ := id hX
  have hwb := hI.wb
  have hsb := hI.sb
  have hlb := hI.lb
  have hcb := hI.cb
  have hnl := hI.2.2.1.2
  have hns := hI.2.1.2.2
  have hnc := hI.2.2.2.1.2
  have hcs : cx (τ 0 2) = nl := by rw [hI.2.2.1.1]; exact cx_nI (by omega)
  refine lv_aload_n hx hb dX6_badHours_0 rfl (lv_at hl 0 rfl) ?_
  refine lv_aload_n hx hb dX6_badHours_1 rfl (lv_at hl 0 rfl) ?_
  refine lv_iload_n hx hb dX6_badHours_2 rfl (lv_at hl 1 rfl) ?_
  refine ro_callVT MC HS (rest := [.ref (ad 0)]) (As := [.int c9]) (x_needChange hl9 hX hI) (lkX6_123) (kw437) (kw9) ⟨Nat.le_of_ble_eq_true rfl, Nat.le_of_ble_eq_true rfl⟩ (ro_recv MC HP (hRR.l (by decide)) h0 (rfl : vwCl[5]? = some (RX6, TX6, 11))) hl.1 rfl (Nat.le_of_ble_eq_true rfl) dX6_badHours_3 ⟨Nat.le_of_ble_eq_true rfl, Nat.le_of_ble_eq_true rfl⟩ (ro_out MC hno (Nat.le_of_ble_eq_true rfl) (Nat.le_of_ble_eq_true rfl) (fun E9 H9 hp => by obtain ⟨hg9, rfl, hn9⟩ := hp; exact ⟨hg9, ⟨aq_badHours_0 hn9, rfl⟩⟩)) (fun v9 H1 lH1 hp hz HS => ?_)
  obtain ⟨k, hk, hka, hkc, hf_7, rfl, rfl⟩ := hp
  have hle15 := (hI.2.2.2.2.2.2.2.2.2.2.1 k hk).2.2.2.1.2
  have hln := ch_len hI hk
  refine ro_callV MC HS (rest := []) (As := [.ref (ad (60 + k))]) (x_countBad hX hI hk) (lkX6_143) (kw446) (kw10) ⟨Nat.le_of_ble_eq_true rfl, Nat.le_of_ble_eq_true rfl⟩ (ro_recv MC HP (hRR.l (by decide)) h0 (rfl : vwCl[5]? = some (RX6, TX6, 11))) hl.1 rfl (Nat.le_of_ble_eq_true rfl) dX6_badHours_6 ⟨Nat.le_of_ble_eq_true rfl, Nat.le_of_ble_eq_true rfl⟩ (fun v9 H2 lH2 hp hz HS => ?_)
  obtain ⟨cn3, hX3, h63, rfl⟩ := hp
  exact ro_MT (ro_iretM MC HS hr (⟨aq_badHours_1 hf_7 hkc hle15, by rw [rt_badHours, hkc], aft.r6 hX3 hI h63⟩) (Nat.le_of_ble_eq_true rfl) (Nat.le_of_ble_eq_true rfl) dX6_badHours_9)
set_option maxHeartbeats 4000000 in
set_option maxRecDepth 100000 in
theorem q_hours {l : Launch} (hl9 : l.stackTraces = false) {D : va_G} {ids : Nat → ClassId} {n0 : Nat} {RR : List Nat} {ad : Nat → Nat} {cn : Nat → va_E} {τ : Tau} {ns nl nc : Nat} {Hh : Heap} (hX : xH D ids n0 RR ad cn τ ns nl nc Hh) {nw : Nat} (hI : Iv τ nw ns nl nc) {f9 : Int32} : ro_T l yX6_hours cX6_hours 5 (some FieldType.int) { frames := 7, cells := 8, slots := 48, locals := 210 } D ids n0 [.ref (ad 0), .int f9] Hh (fun v H1 => th_hours τ f9 = 0 ∧ v = some (.int (rt_hours τ f9)) ∧ aft D ids n0 ad cn (τ) H1) (fun E9 H1 => grow Hh H1 ∧ ((th_hours τ f9 = 1 ∧ E9 = "java/util/NoSuchElementException"))) := by
  refine ro_ofT (by decide +kernel) (Nat.le_of_ble_eq_true rfl) ?_
  intro p e s m below meth c MC hhp hr hno HS ls hl
  have hx := MC.1.1
  have hb := MC.1.2.1
  have hl : lv_has ls 5 [(0, .ref (ad 0)), (1, .int f9)] := hl
  obtain ⟨HP, hRR, sa, bm, fm, lf, ff, cf, h0, h1, h1b, h2, h2b, h7, h7b, h3, h3b, h40, h4, h4b, h60, h5, h6⟩ := id hX
  have hwb := hI.wb
  have hsb := hI.sb
  have hlb := hI.lb
  have hcb := hI.cb
  have hnl := hI.2.2.1.2
  have hns := hI.2.1.2.2
  have hnc := hI.2.2.2.1.2
  have hcs : cx (τ 0 2) = nl := by rw [hI.2.2.1.1]; exact cx_nI (by omega)
  refine lv_aload_n hx hb dX6_hours_0 rfl (lv_at hl 0 rfl) ?_
  refine lv_iload_n hx hb dX6_hours_1 rfl (lv_at hl 1 rfl) ?_
  refine ro_callVT MC HS (rest := []) (As := [.int f9]) (x_needFreeze hl9 hX hI) (lkX6_99) (kw321) (kw5) ⟨Nat.le_of_ble_eq_true rfl, Nat.le_of_ble_eq_true rfl⟩ (ro_recv MC HP (hRR.l (by decide)) h0 (rfl : vwCl[5]? = some (RX6, TX6, 11))) hl.1 rfl (Nat.le_of_ble_eq_true rfl) dX6_hours_2 ⟨Nat.le_of_ble_eq_true rfl, Nat.le_of_ble_eq_true rfl⟩ (ro_out MC hno (Nat.le_of_ble_eq_true rfl) (Nat.le_of_ble_eq_true rfl) (fun E9 H9 hp => by obtain ⟨hg9, rfl, hn9⟩ := hp; exact ⟨hg9, ⟨aq_hours_0 hn9, rfl⟩⟩)) (fun v9 H1 lH1 hp hz HS => ?_)
  obtain ⟨q, hq, hq4, hqa, hqc, hf_8, rfl, rfl⟩ := hp
  refine lv_astore_n (lv' := [(2, .ref (ad (40 + q))), (0, .ref (ad 0)), (1, .int f9)]) hx hb dX6_hours_5 rfl hl (by decide) rfl (fun ls hl => ?_)
  refine lv_iconst (v := 0) hx hb dX6_hours_6 (by decide) ?_
  refine lv_istore_n (lv' := [(3, .int 0), (2, .ref (ad (40 + q))), (0, .ref (ad 0)), (1, .int f9)]) hx hb dX6_hours_7 rfl hl (by decide) rfl (fun ls hl => ?_)
  refine lv_iconst (v := 0) hx hb dX6_hours_8 (by decide) ?_
  refine lv_istore (lv' := [(4, .int 0), (3, .int 0), (2, .ref (ad (40 + q))), (0, .ref (ad 0)), (1, .int f9)]) hx hb dX6_hours_9 hl (by decide) rfl (fun ls hl => ?_)
  have loop : ∀ h : Nat, h ≤ 672 → ∀ (locs : List Loc) (ls : Array Slot), va_S (fun q => n0 ≤ q) s.heap Hh locs → lv_has ls 5 [(4, .int (nI h)), (3, .int (nI (ct (fun h => hoB τ q (nI h)) h))), (2, .ref (ad (40 + q))), (0, .ref (ad 0)), (1, .int f9)] → W p l e { frames := 7, cells := 8, slots := 48, locals := 210 } s m ([.ref (ad 0), .int f9] : List Value).toArray below meth c Hh locs 1 6 (vx_MQ below (ro_Q n0 (fun v H1 => th_hours τ f9 = 0 ∧ v = some (.int (rt_hours τ f9)) ∧ aft D ids n0 ad cn (τ) H1)) (ro_X n0 (fun E9 H1 => grow Hh H1 ∧ ((th_hours τ f9 = 1 ∧ E9 = "java/util/NoSuchElementException")))) ([.ref (ad 0), .int f9] : List Value).toArray s 8 48 (fun q => n0 ≤ q)) (F0 m 11 ls []) := by
    refine ro_loop (672) (fun h : Nat => ∀ (locs : List Loc) (ls : Array Slot), va_S (fun q => n0 ≤ q) s.heap Hh locs → lv_has ls 5 [(4, .int (nI h)), (3, .int (nI (ct (fun h => hoB τ q (nI h)) h))), (2, .ref (ad (40 + q))), (0, .ref (ad 0)), (1, .int f9)] → W p l e { frames := 7, cells := 8, slots := 48, locals := 210 } s m ([.ref (ad 0), .int f9] : List Value).toArray below meth c Hh locs 1 6 (vx_MQ below (ro_Q n0 (fun v H1 => th_hours τ f9 = 0 ∧ v = some (.int (rt_hours τ f9)) ∧ aft D ids n0 ad cn (τ) H1)) (ro_X n0 (fun E9 H1 => grow Hh H1 ∧ ((th_hours τ f9 = 1 ∧ E9 = "java/util/NoSuchElementException")))) ([.ref (ad 0), .int f9] : List Value).toArray s 8 48 (fun q => n0 ≤ q)) (F0 m 11 ls [])) ?_ ?_
    · intro locs ls HS hl
      refine lv_iload hx hb dX6_hours_11 (lv_at hl 0 rfl) ?_
      refine lv_sipush (v := 672) hx hb dX6_hours_13 (by decide) ?_
      refine lv_icmp_ge (tgt := 37) hx hb dX6_hours_16 (by decide) (fun c_16 => ?_) (fun c_16 => absurd (kn_le (n := 672) rfl (Nat.le_refl _) (by omega)) c_16)
      refine lv_iload_n hx hb dX6_hours_37 rfl (lv_at hl 1 rfl) ?_
      exact ro_MT (ro_iretM MC HS hr (⟨aq_hours_1 hf_8 hqc, by rw [rt_hours, hqc], aft.rf hX hI⟩) (Nat.le_of_ble_eq_true rfl) (Nat.le_of_ble_eq_true rfl) dX6_hours_38)
    · intro h hkh ih locs ls HS hl
      refine lv_iload hx hb dX6_hours_11 (lv_at hl 0 rfl) ?_
      refine lv_sipush (v := 672) hx hb dX6_hours_13 (by decide) ?_
      refine lv_icmp_ge (tgt := 37) hx hb dX6_hours_16 (by decide) (fun c_16 => absurd c_16 (kn_nle (n := 672) rfl hkh (by omega))) (fun c_16 => ?_)
      refine lv_aload_n hx hb dX6_hours_19 rfl (lv_at hl 2 rfl) ?_
      refine lv_iload hx hb dX6_hours_20 (lv_at hl 0 rfl) ?_
      refine xo_holds hX hI MC HS (k := q) (hh := h) (show q < nl by omega) (by omega) rfl hl.1 (Nat.le_of_ble_eq_true rfl) ⟨Nat.le_of_ble_eq_true rfl, Nat.le_of_ble_eq_true rfl⟩ dX6_hours_22 ⟨Nat.le_of_ble_eq_true rfl, Nat.le_of_ble_eq_true rfl⟩ (fun lH2 HS => ?_)
      refine lv_if_eq (tgt := 31) hx hb dX6_hours_25 (by decide) (fun c_25 => ?_) (fun c_25 => ?_)
      · have f_25 := bI_0.mp c_25
        refine lv_iinc (v := nI h + 1) (lv' := [(4, .int (nI h + 1)), (3, .int (nI (ct (fun h => hoB τ q (nI h)) h))), (2, .ref (ad (40 + q))), (0, .ref (ad 0)), (1, .int f9)]) hx hb dX6_hours_31 hl (k := 0) rfl rfl (by decide) rfl (fun ls hl => ?_)
        refine lv_goto (tgt := 11) hx hb dX6_hours_34 (by decide) ?_
        rw [show ct (fun h => hoB τ q (nI h)) h = ct (fun h => hoB τ q (nI h)) (h + 1) by simp [ct, f_25], nI_1] at hl
        exact ih _ ls HS (lv_sub hl [0, 1, 2, 3, 4] rfl)
      · have f_25 := bI_n0.mp c_25
        refine lv_iinc (v := nI (ct (fun h => hoB τ q (nI h)) h) + 1) (lv' := [(3, .int (nI (ct (fun h => hoB τ q (nI h)) h) + 1)), (4, .int (nI h)), (2, .ref (ad (40 + q))), (0, .ref (ad 0)), (1, .int f9)]) hx hb dX6_hours_28 hl (k := 1) rfl rfl (by decide) rfl (fun ls hl => ?_)
        refine lv_iinc (v := nI h + 1) (lv' := [(4, .int (nI h + 1)), (3, .int (nI (ct (fun h => hoB τ q (nI h)) h) + 1)), (2, .ref (ad (40 + q))), (0, .ref (ad 0)), (1, .int f9)]) hx hb dX6_hours_31 hl (k := 1) rfl rfl (by decide) rfl (fun ls hl => ?_)
        refine lv_goto (tgt := 11) hx hb dX6_hours_34 (by decide) ?_
        rw [ct_t (p := (fun h => hoB τ q (nI h))) (k := h) f_25, nI_1] at hl
        exact ih _ ls HS (lv_sub hl [0, 1, 2, 3, 4] rfl)
  exact loop 0 (Nat.zero_le _) _ ls HS (lv_sub hl [0, 1, 2, 3, 4] rfl)
set_option maxHeartbeats 4000000 in
set_option maxRecDepth 100000 in
theorem q_badHoursOneByOne {l : Launch} (hl9 : l.stackTraces = false) {D : va_G} {ids : Nat → ClassId} {n0 : Nat} {RR : List Nat} {ad : Nat → Nat} {cn : Nat → va_E} {τ : Tau} {ns nl nc : Nat} {Hh : Heap} (hX : xH D ids n0 RR ad cn τ ns nl nc Hh) {nw : Nat} (hI : Iv τ nw ns nl nc) {c9 : Int32} : ro_T l yX6_badHoursOneByOne cX6_badHoursOneByOne 6 (some FieldType.int) { frames := 7, cells := 8, slots := 48, locals := 210 } D ids n0 [.ref (ad 0), .int c9] Hh (fun v H1 => th_badHours τ c9 = 0 ∧ v = some (.int (rt_badHours τ c9)) ∧ aft D ids n0 ad cn (τ) H1) (fun E9 H1 => grow Hh H1 ∧ ((th_badHours τ c9 = 1 ∧ E9 = "java/lang/IndexOutOfBoundsException"))) := by
  refine ro_ofT (by decide +kernel) (Nat.le_of_ble_eq_true rfl) ?_
  intro p e s m below meth c MC hhp hr hno HS ls hl
  have hx := MC.1.1
  have hb := MC.1.2.1
  have hl : lv_has ls 6 [(0, .ref (ad 0)), (1, .int c9)] := hl
  obtain ⟨HP, hRR, sa, bm, fm, lf, ff, cf, h0, h1, h1b, h2, h2b, h7, h7b, h3, h3b, h40, h4, h4b, h60, h5, h6⟩ := id hX
  have hwb := hI.wb
  have hsb := hI.sb
  have hlb := hI.lb
  have hcb := hI.cb
  have hnl := hI.2.2.1.2
  have hns := hI.2.1.2.2
  have hnc := hI.2.2.2.1.2
  have hcs : cx (τ 0 2) = nl := by rw [hI.2.2.1.1]; exact cx_nI (by omega)
  refine lv_aload_n hx hb dX6_badHoursOneByOne_0 rfl (lv_at hl 0 rfl) ?_
  refine lv_iload_n hx hb dX6_badHoursOneByOne_1 rfl (lv_at hl 1 rfl) ?_
  refine ro_callVT MC HS (rest := []) (As := [.int c9]) (x_needChange hl9 hX hI) (lkX6_123) (kw437) (kw9) ⟨Nat.le_of_ble_eq_true rfl, Nat.le_of_ble_eq_true rfl⟩ (ro_recv MC HP (hRR.l (by decide)) h0 (rfl : vwCl[5]? = some (RX6, TX6, 11))) hl.1 rfl (Nat.le_of_ble_eq_true rfl) dX6_badHoursOneByOne_2 ⟨Nat.le_of_ble_eq_true rfl, Nat.le_of_ble_eq_true rfl⟩ (ro_out MC hno (Nat.le_of_ble_eq_true rfl) (Nat.le_of_ble_eq_true rfl) (fun E9 H9 hp => by obtain ⟨hg9, rfl, hn9⟩ := hp; exact ⟨hg9, ⟨aq_badHoursOneByOne_0 hn9, rfl⟩⟩)) (fun v9 H1 lH1 hp hz HS => ?_)
  obtain ⟨k, hk, hka, hkc, hf_9, rfl, rfl⟩ := hp
  have hle15 := (hI.2.2.2.2.2.2.2.2.2.2.1 k hk).2.2.2.1.2
  have hln := ch_len hI hk
  refine lv_astore_n (lv' := [(2, .ref (ad (60 + k))), (0, .ref (ad 0)), (1, .int c9)]) hx hb dX6_badHoursOneByOne_5 rfl hl (by decide) rfl (fun ls hl => ?_)
  refine lv_aload_n hx hb dX6_badHoursOneByOne_6 rfl (lv_at hl 1 rfl) ?_
  refine lv_aload_n hx hb dX6_badHoursOneByOne_7 rfl (lv_at hl 0 rfl) ?_
  refine ro_callV MC HS (rest := []) (As := [.ref (ad (60 + k))]) (x_against hX hI hk) (lkX6_194) (kw450) (kw11) ⟨Nat.le_of_ble_eq_true rfl, Nat.le_of_ble_eq_true rfl⟩ (ro_recv MC HP (hRR.l (by decide)) h0 (rfl : vwCl[5]? = some (RX6, TX6, 11))) hl.1 rfl (Nat.le_of_ble_eq_true rfl) dX6_badHoursOneByOne_8 ⟨Nat.le_of_ble_eq_true rfl, Nat.le_of_ble_eq_true rfl⟩ (fun v9 H2 lH2 hp hz HS => ?_)
  obtain ⟨x, rfl, hxb, rfl⟩ := hp
  refine lv_istore_n (lv' := [(3, .int x), (2, .ref (ad (60 + k))), (0, .ref (ad 0)), (1, .int c9)]) hx hb dX6_badHoursOneByOne_11 rfl hl (by decide) rfl (fun ls hl => ?_)
  refine lv_iconst (v := 0) hx hb dX6_badHoursOneByOne_12 (by decide) ?_
  refine lv_istore (lv' := [(4, .int 0), (3, .int x), (2, .ref (ad (60 + k))), (0, .ref (ad 0)), (1, .int c9)]) hx hb dX6_badHoursOneByOne_13 hl (by decide) rfl (fun ls hl => ?_)
  refine lv_aload_n hx hb dX6_badHoursOneByOne_15 rfl (lv_at hl 2 rfl) ?_
  refine ro_get MC HP (hRR.c (show k < nc by omega)) (h60 k (by omega)) (rfl : vwCl[0]? = some (RX0, TX0, 8)) inU0 3 (by decide) kw408 rfl rfl dX6_badHoursOneByOne_16 ?_
  refine lv_istore (lv' := [(5, .int (τ 12 k)), (4, .int 0), (3, .int x), (2, .ref (ad (60 + k))), (0, .ref (ad 0)), (1, .int c9)]) hx hb dX6_badHoursOneByOne_19 hl (by decide) rfl (fun ls hl => ?_)
  obtain ⟨⟨u, hu, hsu⟩, ⟨b9, n9, hb9, hn9, h1n, hn1, hbn⟩, -, -, hbg⟩ := hI.2.2.2.2.2.2.2.2.2.2.1 k hk
  have hcl : cx (τ 13 k) = n9 := by rw [hn9]; exact cx_nI (by omega)
  have hen : τ 12 k + τ 13 k = nI (b9 + n9) := by rw [hb9, hn9, nI_add]
  have loop : ∀ j : Nat, j ≤ n9 → ∀ (locs : List Loc) (ls : Array Slot), va_S (fun q => n0 ≤ q) s.heap Hh locs → lv_has ls 6 [(5, .int (nI (b9 + j))), (4, .int (nI (ct (badB τ k) j))), (3, .int x), (2, .ref (ad (60 + k))), (0, .ref (ad 0)), (1, .int c9)] → W p l e { frames := 7, cells := 8, slots := 48, locals := 210 } s m ([.ref (ad 0), .int c9] : List Value).toArray below meth c Hh locs 1 6 (vx_MQ below (ro_Q n0 (fun v H1 => th_badHours τ c9 = 0 ∧ v = some (.int (rt_badHours τ c9)) ∧ aft D ids n0 ad cn (τ) H1)) (ro_X n0 (fun E9 H1 => grow Hh H1 ∧ ((th_badHours τ c9 = 1 ∧ E9 = "java/lang/IndexOutOfBoundsException")))) ([.ref (ad 0), .int c9] : List Value).toArray s 8 48 (fun q => n0 ≤ q)) (F0 m 21 ls []) := by
    refine ro_loop n9 (fun j : Nat => ∀ (locs : List Loc) (ls : Array Slot), va_S (fun q => n0 ≤ q) s.heap Hh locs → lv_has ls 6 [(5, .int (nI (b9 + j))), (4, .int (nI (ct (badB τ k) j))), (3, .int x), (2, .ref (ad (60 + k))), (0, .ref (ad 0)), (1, .int c9)] → W p l e { frames := 7, cells := 8, slots := 48, locals := 210 } s m ([.ref (ad 0), .int c9] : List Value).toArray below meth c Hh locs 1 6 (vx_MQ below (ro_Q n0 (fun v H1 => th_badHours τ c9 = 0 ∧ v = some (.int (rt_badHours τ c9)) ∧ aft D ids n0 ad cn (τ) H1)) (ro_X n0 (fun E9 H1 => grow Hh H1 ∧ ((th_badHours τ c9 = 1 ∧ E9 = "java/lang/IndexOutOfBoundsException")))) ([.ref (ad 0), .int c9] : List Value).toArray s 8 48 (fun q => n0 ≤ q)) (F0 m 21 ls [])) ?_ ?_
    · intro locs ls HS hl
      refine lv_iload hx hb dX6_badHoursOneByOne_21 (lv_at hl 0 rfl) ?_
      refine lv_aload_n hx hb dX6_badHoursOneByOne_23 rfl (lv_at hl 3 rfl) ?_
      refine ro_callV MC HS (rest := [.int (nI (b9 + n9))]) (As := []) (x_hourBehind hX hk) (lkX6_171) (kw476) (kw477) ⟨Nat.le_of_ble_eq_true rfl, Nat.le_of_ble_eq_true rfl⟩ (ro_recv MC HP (hRR.c (show k < nc by omega)) (h60 k (by omega)) (rfl : vwCl[0]? = some (RX0, TX0, 8))) hl.1 rfl (Nat.le_of_ble_eq_true rfl) dX6_badHoursOneByOne_24 ⟨Nat.le_of_ble_eq_true rfl, Nat.le_of_ble_eq_true rfl⟩ (fun v9 H3 lH3 hp hz HS => ?_)
      obtain ⟨rfl, rfl⟩ := hp
      refine lv_icmp_ge (tgt := 49) hx hb dX6_badHoursOneByOne_27 (by decide) (fun c_27 => ?_) (fun c_27 => absurd (kn_le hen (Nat.le_refl _) (by omega)) c_27)
      refine lv_iload hx hb dX6_badHoursOneByOne_49 (lv_at hl 1 rfl) ?_
      exact ro_MT (ro_iretM MC HS hr (⟨aq_badHoursOneByOne_1 hf_9 hkc hle15, by rw [rt_badHours, hkc, badN, hcl], aft.rf hX hI⟩) (Nat.le_of_ble_eq_true rfl) (Nat.le_of_ble_eq_true rfl) dX6_badHoursOneByOne_51)
    · intro j hj ih locs ls HS hl
      refine lv_iload hx hb dX6_badHoursOneByOne_21 (lv_at hl 0 rfl) ?_
      refine lv_aload_n hx hb dX6_badHoursOneByOne_23 rfl (lv_at hl 3 rfl) ?_
      refine ro_callV MC HS (rest := [.int (nI (b9 + j))]) (As := []) (x_hourBehind hX hk) (lkX6_171) (kw476) (kw477) ⟨Nat.le_of_ble_eq_true rfl, Nat.le_of_ble_eq_true rfl⟩ (ro_recv MC HP (hRR.c (show k < nc by omega)) (h60 k (by omega)) (rfl : vwCl[0]? = some (RX0, TX0, 8))) hl.1 rfl (Nat.le_of_ble_eq_true rfl) dX6_badHoursOneByOne_24 ⟨Nat.le_of_ble_eq_true rfl, Nat.le_of_ble_eq_true rfl⟩ (fun v9 H4 lH4 hp hz HS => ?_)
      obtain ⟨rfl, rfl⟩ := hp
      refine lv_icmp_ge (tgt := 49) hx hb dX6_badHoursOneByOne_27 (by decide) (fun c_27 => absurd c_27 (kn_nle hen (show b9 + j < b9 + n9 by omega) (by omega))) (fun c_27 => ?_)
      refine lv_aload_n hx hb dX6_badHoursOneByOne_30 rfl (lv_at hl 4 rfl) ?_
      refine lv_iload_n hx hb dX6_badHoursOneByOne_31 rfl (lv_at hl 2 rfl) ?_
      refine lv_iload hx hb dX6_badHoursOneByOne_32 (lv_at hl 0 rfl) ?_
      refine ro_callV MC HS (rest := []) (As := [.int x, .int (nI (b9 + j))]) (x_holdingAmong hX hI (hh := b9 + j) (by omega) x) (lkX6_110) (kw354) (kw8) ⟨Nat.le_of_ble_eq_true rfl, Nat.le_of_ble_eq_true rfl⟩ (ro_recv MC HP (hRR.l (by decide)) h0 (rfl : vwCl[5]? = some (RX6, TX6, 11))) hl.1 rfl (Nat.le_of_ble_eq_true rfl) dX6_badHoursOneByOne_34 ⟨Nat.le_of_ble_eq_true rfl, Nat.le_of_ble_eq_true rfl⟩ (fun v9 H5 lH5 hp hz HS => ?_)
      obtain ⟨rfl, rfl⟩ := hp
      refine lv_if_eq (tgt := 43) hx hb dX6_badHoursOneByOne_37 (by decide) (fun c_37 => ?_) (fun c_37 => ?_)
      · refine lv_iinc (v := nI (b9 + j) + 1) (lv' := [(5, .int (nI (b9 + j) + 1)), (4, .int (nI (ct (badB τ k) j))), (3, .int x), (2, .ref (ad (60 + k))), (0, .ref (ad 0)), (1, .int c9)]) hx hb dX6_badHoursOneByOne_43 hl (k := 0) rfl rfl (by decide) rfl (fun ls hl => ?_)
        refine lv_goto (tgt := 21) hx hb dX6_badHoursOneByOne_46 (by decide) ?_
        have hbj : badB τ k j = !(mk (haB τ nl x (b9 + j)) 20 == 0) := by rw [agn_eq hnl hcs hxb]; unfold badB; rw [hr_add hb9]
        rw [show ct (badB τ k) j = ct (badB τ k) (j + 1) by simp [ct, hbj, c_37]] at hl
        rw [nI_1] at hl
        exact ih _ ls HS (lv_sub hl [0, 1, 2, 3, 4, 5] rfl)
      · refine lv_iinc (v := nI (ct (badB τ k) j) + 1) (lv' := [(4, .int (nI (ct (badB τ k) j) + 1)), (5, .int (nI (b9 + j))), (3, .int x), (2, .ref (ad (60 + k))), (0, .ref (ad 0)), (1, .int c9)]) hx hb dX6_badHoursOneByOne_40 hl (k := 1) rfl rfl (by decide) rfl (fun ls hl => ?_)
        refine lv_iinc (v := nI (b9 + j) + 1) (lv' := [(5, .int (nI (b9 + j) + 1)), (4, .int (nI (ct (badB τ k) j) + 1)), (3, .int x), (2, .ref (ad (60 + k))), (0, .ref (ad 0)), (1, .int c9)]) hx hb dX6_badHoursOneByOne_43 hl (k := 1) rfl rfl (by decide) rfl (fun ls hl => ?_)
        refine lv_goto (tgt := 21) hx hb dX6_badHoursOneByOne_46 (by decide) ?_
        have hbj : badB τ k j = !(mk (haB τ nl x (b9 + j)) 20 == 0) := by rw [agn_eq hnl hcs hxb]; unfold badB; rw [hr_add hb9]
        rw [ct_t (p := badB τ k) (k := j) (by rw [hbj]; simp [c_37])] at hl
        rw [nI_1] at hl
        exact ih _ ls HS (lv_sub hl [0, 1, 2, 3, 4, 5] rfl)
  rw [hb9] at hl
  exact loop 0 (Nat.zero_le _) _ ls HS (lv_sub hl [0, 1, 2, 3, 4, 5] rfl)
set_option maxHeartbeats 4000000 in
set_option maxRecDepth 100000 in
theorem q_reasons {l : Launch} (hl9 : l.stackTraces = false) {D : va_G} {ids : Nat → ClassId} {n0 : Nat} {RR : List Nat} {ad : Nat → Nat} {cn : Nat → va_E} {τ : Tau} {ns nl nc : Nat} {Hh : Heap} (hX : xH D ids n0 RR ad cn τ ns nl nc Hh) {nw : Nat} (hI : Iv τ nw ns nl nc) {c9 : Int32} : ro_T l yX6_reasons cX6_reasons 6 (some FieldType.int) { frames := 7, cells := 8, slots := 48, locals := 210 } D ids n0 [.ref (ad 0), .int c9] Hh (fun v H1 => th_badHours τ c9 = 0 ∧ v = some (.int (rt_reasons τ c9)) ∧ aft D ids n0 ad cn (τ) H1) (fun E9 H1 => grow Hh H1 ∧ ((th_badHours τ c9 = 1 ∧ E9 = "java/lang/IndexOutOfBoundsException"))) := by
  refine ro_ofT (by decide +kernel) (Nat.le_of_ble_eq_true rfl) ?_
  intro p e s m below meth c MC hhp hr hno HS ls hl
  have hx := MC.1.1
  have hb := MC.1.2.1
  have hl : lv_has ls 6 [(0, .ref (ad 0)), (1, .int c9)] := hl
  obtain ⟨HP, hRR, sa, bm, fm, lf, ff, cf, h0, h1, h1b, h2, h2b, h7, h7b, h3, h3b, h40, h4, h4b, h60, h5, h6⟩ := id hX
  have hwb := hI.wb
  have hsb := hI.sb
  have hlb := hI.lb
  have hcb := hI.cb
  have hnl := hI.2.2.1.2
  have hns := hI.2.1.2.2
  have hnc := hI.2.2.2.1.2
  have hcs : cx (τ 0 2) = nl := by rw [hI.2.2.1.1]; exact cx_nI (by omega)
  refine lv_aload_n hx hb dX6_reasons_0 rfl (lv_at hl 0 rfl) ?_
  refine lv_iload_n hx hb dX6_reasons_1 rfl (lv_at hl 1 rfl) ?_
  refine ro_callVT MC HS (rest := []) (As := [.int c9]) (x_needChange hl9 hX hI) (lkX6_123) (kw437) (kw9) ⟨Nat.le_of_ble_eq_true rfl, Nat.le_of_ble_eq_true rfl⟩ (ro_recv MC HP (hRR.l (by decide)) h0 (rfl : vwCl[5]? = some (RX6, TX6, 11))) hl.1 rfl (Nat.le_of_ble_eq_true rfl) dX6_reasons_2 ⟨Nat.le_of_ble_eq_true rfl, Nat.le_of_ble_eq_true rfl⟩ (ro_out MC hno (Nat.le_of_ble_eq_true rfl) (Nat.le_of_ble_eq_true rfl) (fun E9 H9 hp => by obtain ⟨hg9, rfl, hn9⟩ := hp; exact ⟨hg9, ⟨aq_reasons_0 hn9, rfl⟩⟩)) (fun v9 H1 lH1 hp hz HS => ?_)
  obtain ⟨k, hk, hka, hkc, hf_10, rfl, rfl⟩ := hp
  have hle15 := (hI.2.2.2.2.2.2.2.2.2.2.1 k hk).2.2.2.1.2
  have hln := ch_len hI hk
  refine lv_astore_n (lv' := [(2, .ref (ad (60 + k))), (0, .ref (ad 0)), (1, .int c9)]) hx hb dX6_reasons_5 rfl hl (by decide) rfl (fun ls hl => ?_)
  refine lv_aload_n hx hb dX6_reasons_6 rfl (lv_at hl 1 rfl) ?_
  refine lv_aload_n hx hb dX6_reasons_7 rfl (lv_at hl 0 rfl) ?_
  refine ro_callV MC HS (rest := []) (As := [.ref (ad (60 + k))]) (x_against hX hI hk) (lkX6_194) (kw450) (kw11) ⟨Nat.le_of_ble_eq_true rfl, Nat.le_of_ble_eq_true rfl⟩ (ro_recv MC HP (hRR.l (by decide)) h0 (rfl : vwCl[5]? = some (RX6, TX6, 11))) hl.1 rfl (Nat.le_of_ble_eq_true rfl) dX6_reasons_8 ⟨Nat.le_of_ble_eq_true rfl, Nat.le_of_ble_eq_true rfl⟩ (fun v9 H2 lH2 hp hz HS => ?_)
  obtain ⟨x, rfl, hxb, rfl⟩ := hp
  refine lv_istore_n (lv' := [(3, .int x), (2, .ref (ad (60 + k))), (0, .ref (ad 0)), (1, .int c9)]) hx hb dX6_reasons_11 rfl hl (by decide) rfl (fun ls hl => ?_)
  refine lv_iconst (v := 0) hx hb dX6_reasons_12 (by decide) ?_
  refine lv_istore (lv' := [(4, .int 0), (3, .int x), (2, .ref (ad (60 + k))), (0, .ref (ad 0)), (1, .int c9)]) hx hb dX6_reasons_13 hl (by decide) rfl (fun ls hl => ?_)
  refine lv_aload_n hx hb dX6_reasons_15 rfl (lv_at hl 2 rfl) ?_
  refine ro_get MC HP (hRR.c (show k < nc by omega)) (h60 k (by omega)) (rfl : vwCl[0]? = some (RX0, TX0, 8)) inU0 3 (by decide) kw408 rfl rfl dX6_reasons_16 ?_
  refine lv_istore (lv' := [(5, .int (τ 12 k)), (4, .int 0), (3, .int x), (2, .ref (ad (60 + k))), (0, .ref (ad 0)), (1, .int c9)]) hx hb dX6_reasons_19 hl (by decide) rfl (fun ls hl => ?_)
  obtain ⟨⟨u, hu, hsu⟩, ⟨b9, n9, hb9, hn9, h1n, hn1, hbn⟩, -, -, hbg⟩ := hI.2.2.2.2.2.2.2.2.2.2.1 k hk
  have hcl : cx (τ 13 k) = n9 := by rw [hn9]; exact cx_nI (by omega)
  have hen : τ 12 k + τ 13 k = nI (b9 + n9) := by rw [hb9, hn9, nI_add]
  have loop : ∀ j : Nat, j ≤ n9 → ∀ (locs : List Loc) (ls : Array Slot), va_S (fun q => n0 ≤ q) s.heap Hh locs → lv_has ls 6 [(5, .int (nI (b9 + j))), (4, .int (orr (fun j => agn τ k (τ 12 k + nI j)) j)), (3, .int x), (2, .ref (ad (60 + k))), (0, .ref (ad 0)), (1, .int c9)] → W p l e { frames := 7, cells := 8, slots := 48, locals := 210 } s m ([.ref (ad 0), .int c9] : List Value).toArray below meth c Hh locs 1 6 (vx_MQ below (ro_Q n0 (fun v H1 => th_badHours τ c9 = 0 ∧ v = some (.int (rt_reasons τ c9)) ∧ aft D ids n0 ad cn (τ) H1)) (ro_X n0 (fun E9 H1 => grow Hh H1 ∧ ((th_badHours τ c9 = 1 ∧ E9 = "java/lang/IndexOutOfBoundsException")))) ([.ref (ad 0), .int c9] : List Value).toArray s 8 48 (fun q => n0 ≤ q)) (F0 m 21 ls []) := by
    refine ro_loop n9 (fun j : Nat => ∀ (locs : List Loc) (ls : Array Slot), va_S (fun q => n0 ≤ q) s.heap Hh locs → lv_has ls 6 [(5, .int (nI (b9 + j))), (4, .int (orr (fun j => agn τ k (τ 12 k + nI j)) j)), (3, .int x), (2, .ref (ad (60 + k))), (0, .ref (ad 0)), (1, .int c9)] → W p l e { frames := 7, cells := 8, slots := 48, locals := 210 } s m ([.ref (ad 0), .int c9] : List Value).toArray below meth c Hh locs 1 6 (vx_MQ below (ro_Q n0 (fun v H1 => th_badHours τ c9 = 0 ∧ v = some (.int (rt_reasons τ c9)) ∧ aft D ids n0 ad cn (τ) H1)) (ro_X n0 (fun E9 H1 => grow Hh H1 ∧ ((th_badHours τ c9 = 1 ∧ E9 = "java/lang/IndexOutOfBoundsException")))) ([.ref (ad 0), .int c9] : List Value).toArray s 8 48 (fun q => n0 ≤ q)) (F0 m 21 ls [])) ?_ ?_
    · intro locs ls HS hl
      refine lv_iload hx hb dX6_reasons_21 (lv_at hl 0 rfl) ?_
      refine lv_aload_n hx hb dX6_reasons_23 rfl (lv_at hl 3 rfl) ?_
      refine ro_callV MC HS (rest := [.int (nI (b9 + n9))]) (As := []) (x_hourBehind hX hk) (lkX6_171) (kw476) (kw477) ⟨Nat.le_of_ble_eq_true rfl, Nat.le_of_ble_eq_true rfl⟩ (ro_recv MC HP (hRR.c (show k < nc by omega)) (h60 k (by omega)) (rfl : vwCl[0]? = some (RX0, TX0, 8))) hl.1 rfl (Nat.le_of_ble_eq_true rfl) dX6_reasons_24 ⟨Nat.le_of_ble_eq_true rfl, Nat.le_of_ble_eq_true rfl⟩ (fun v9 H3 lH3 hp hz HS => ?_)
      obtain ⟨rfl, rfl⟩ := hp
      refine lv_icmp_ge (tgt := 48) hx hb dX6_reasons_27 (by decide) (fun c_27 => ?_) (fun c_27 => absurd (kn_le hen (Nat.le_refl _) (by omega)) c_27)
      refine lv_iload hx hb dX6_reasons_48 (lv_at hl 1 rfl) ?_
      exact ro_MT (ro_iretM MC HS hr (⟨aq_reasons_1 hf_10 hkc hle15, by rw [rt_reasons, hkc, hcl], aft.rf hX hI⟩) (Nat.le_of_ble_eq_true rfl) (Nat.le_of_ble_eq_true rfl) dX6_reasons_50)
    · intro j hj ih locs ls HS hl
      refine lv_iload hx hb dX6_reasons_21 (lv_at hl 0 rfl) ?_
      refine lv_aload_n hx hb dX6_reasons_23 rfl (lv_at hl 3 rfl) ?_
      refine ro_callV MC HS (rest := [.int (nI (b9 + j))]) (As := []) (x_hourBehind hX hk) (lkX6_171) (kw476) (kw477) ⟨Nat.le_of_ble_eq_true rfl, Nat.le_of_ble_eq_true rfl⟩ (ro_recv MC HP (hRR.c (show k < nc by omega)) (h60 k (by omega)) (rfl : vwCl[0]? = some (RX0, TX0, 8))) hl.1 rfl (Nat.le_of_ble_eq_true rfl) dX6_reasons_24 ⟨Nat.le_of_ble_eq_true rfl, Nat.le_of_ble_eq_true rfl⟩ (fun v9 H4 lH4 hp hz HS => ?_)
      obtain ⟨rfl, rfl⟩ := hp
      refine lv_icmp_ge (tgt := 48) hx hb dX6_reasons_27 (by decide) (fun c_27 => absurd c_27 (kn_nle hen (show b9 + j < b9 + n9 by omega) (by omega))) (fun c_27 => ?_)
      refine lv_iload hx hb dX6_reasons_30 (lv_at hl 1 rfl) ?_
      refine lv_aload_n hx hb dX6_reasons_32 rfl (lv_at hl 4 rfl) ?_
      refine lv_iload_n hx hb dX6_reasons_33 rfl (lv_at hl 2 rfl) ?_
      refine lv_iload hx hb dX6_reasons_34 (lv_at hl 0 rfl) ?_
      refine ro_callV MC HS (rest := [.int (orr (fun j => agn τ k (τ 12 k + nI j)) j)]) (As := [.int x, .int (nI (b9 + j))]) (x_holdingAmong hX hI (hh := b9 + j) (by omega) x) (lkX6_110) (kw354) (kw8) ⟨Nat.le_of_ble_eq_true rfl, Nat.le_of_ble_eq_true rfl⟩ (ro_recv MC HP (hRR.l (by decide)) h0 (rfl : vwCl[5]? = some (RX6, TX6, 11))) hl.1 rfl (Nat.le_of_ble_eq_true rfl) dX6_reasons_36 ⟨Nat.le_of_ble_eq_true rfl, Nat.le_of_ble_eq_true rfl⟩ (fun v9 H5 lH5 hp hz HS => ?_)
      obtain ⟨rfl, rfl⟩ := hp
      refine lv_ior hx hb dX6_reasons_39 ?_
      refine lv_istore (lv' := [(4, .int ((orr (fun j => agn τ k (τ 12 k + nI j)) j ||| mk (haB τ nl x (b9 + j)) 20))), (5, .int (nI (b9 + j))), (3, .int x), (2, .ref (ad (60 + k))), (0, .ref (ad 0)), (1, .int c9)]) hx hb dX6_reasons_40 hl (by decide) rfl (fun ls hl => ?_)
      refine lv_iinc (v := nI (b9 + j) + 1) (lv' := [(5, .int (nI (b9 + j) + 1)), (4, .int ((orr (fun j => agn τ k (τ 12 k + nI j)) j ||| mk (haB τ nl x (b9 + j)) 20))), (3, .int x), (2, .ref (ad (60 + k))), (0, .ref (ad 0)), (1, .int c9)]) hx hb dX6_reasons_42 hl (k := 1) rfl rfl (by decide) rfl (fun ls hl => ?_)
      refine lv_goto (tgt := 21) hx hb dX6_reasons_45 (by decide) ?_
      rw [show orr (fun j => agn τ k (τ 12 k + nI j)) j ||| mk (haB τ nl x (b9 + j)) 20 = orr (fun j => agn τ k (τ 12 k + nI j)) (j + 1) by rw [agn_eq hnl hcs hxb, orr, hr_add hb9]] at hl
      rw [nI_1] at hl
      exact ih _ ls HS (lv_sub hl [0, 1, 2, 3, 4, 5] rfl)
  rw [hb9] at hl
  exact loop 0 (Nat.zero_le _) _ ls HS (lv_sub hl [0, 1, 2, 3, 4, 5] rfl)
