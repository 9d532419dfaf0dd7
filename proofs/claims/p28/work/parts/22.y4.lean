theorem aq_pass_0 {τ : Tau} {h9 : Int32} (hwb : 0 ≤ τ 0 0 ∧ τ 0 0 ≤ 671) (hn9 : ¬ (1 ≤ h9 ∧ h9 ≤ 100)) : th_pass τ h9 = 1 := by
  unfold th_pass; grind
theorem aq_pass_1 {τ : Tau} {h9 : Int32} (hwb : 0 ≤ τ 0 0 ∧ τ 0 0 ≤ 671) (hf_1 : 1 ≤ h9 ∧ h9 ≤ 100) (c_16 : (τ 0 0 + h9) < 672) : th_pass τ h9 = 0 := by
  unfold th_pass; grind
theorem aq_pass_2 {τ : Tau} {h9 : Int32} (hwb : 0 ≤ τ 0 0 ∧ τ 0 0 ≤ 671) (hf_1 : 1 ≤ h9 ∧ h9 ≤ 100) (c_16 : ¬ ((τ 0 0 + h9) < 672)) : th_pass τ h9 = 2 := by
  unfold th_pass; grind
theorem aq_exceptions_0 {τ : Tau} {r9 n9 : Int32} (hn9 : ¬ (1 ≤ r9 ∧ r9 ≤ 3)) : th_exceptions τ r9 n9 = 1 := by
  unfold th_exceptions; grind
theorem aq_exceptions_1 {τ : Tau} {r9 n9 : Int32} (hf_2 : 1 ≤ r9 ∧ r9 ≤ 3) (hn9 : ¬ (0 ≤ n9 ∧ n9 ≤ 50)) : th_exceptions τ r9 n9 = 1 := by
  unfold th_exceptions; grind
theorem aq_exceptions_2 {τ : Tau} {r9 n9 : Int32} (hf_2 : 1 ≤ r9 ∧ r9 ≤ 3) (hf_3 : 0 ≤ n9 ∧ n9 ≤ 50) : th_exceptions τ r9 n9 = 0 := by
  unfold th_exceptions; grind
theorem aq_approve_0 {τ : Tau} {c9 : Int32} (hn9 : ¬ (0 ≤ c9 ∧ c9 ≤ τ 0 3 - 1)) : th_approve τ c9 = 1 := by
  unfold th_approve; grind
theorem aq_approve_1 {τ : Tau} {c9 : Int32} {k : Nat} (hf_4 : 0 ≤ c9 ∧ c9 ≤ τ 0 3 - 1) (hkc : cx c9 = k) (hle15 : τ 15 k ≤ τ 14 k) (hn9 : ¬ (τ 17 k = -1)) : th_approve τ c9 = 2 := by
  unfold th_approve; grind
theorem aq_approve_2 {τ : Tau} {c9 : Int32} {k : Nat} (hf_4 : 0 ≤ c9 ∧ c9 ≤ τ 0 3 - 1) (hkc : cx c9 = k) (hle15 : τ 15 k ≤ τ 14 k) (hf_5 : τ 17 k = -1) (c_18 : τ 15 k < τ 14 k) : th_approve τ c9 = 0 := by
  unfold th_approve; grind
theorem aq_apI_0 {τ : Tau} {k : Nat} (a3 : 1 ≤ τ 14 k ∧ τ 14 k ≤ 3) (a4 : 0 ≤ τ 15 k ∧ τ 15 k ≤ τ 14 k) (c_18 : τ 15 k < τ 14 k) : 0 ≤ τ 15 k + 1 ∧ τ 15 k + 1 ≤ τ 14 k := by
  grind
theorem aq_approve_3 {τ : Tau} {c9 : Int32} {k : Nat} (hf_4 : 0 ≤ c9 ∧ c9 ≤ τ 0 3 - 1) (hkc : cx c9 = k) (hle15 : τ 15 k ≤ τ 14 k) (hf_5 : τ 17 k = -1) (c_18 : ¬ (τ 15 k < τ 14 k)) : th_approve τ c9 = 2 := by
  unfold th_approve; grind
theorem aq_begin_0 {τ : Tau} {c9 : Int32} (hn9 : ¬ (0 ≤ c9 ∧ c9 ≤ τ 0 3 - 1)) : th_begin τ c9 = 1 := by
  unfold th_begin; grind
theorem aq_begin_1 {τ : Tau} {c9 : Int32} {k : Nat} (hf_6 : 0 ≤ c9 ∧ c9 ≤ τ 0 3 - 1) (hkc : cx c9 = k) (hle15 : τ 15 k ≤ τ 14 k) (hn9 : ¬ (τ 17 k = -1)) : th_begin τ c9 = 2 := by
  unfold th_begin; grind
theorem aq_begin_2 {τ : Tau} {c9 : Int32} {k : Nat} (hf_6 : 0 ≤ c9 ∧ c9 ≤ τ 0 3 - 1) (hkc : cx c9 = k) (hle15 : τ 15 k ≤ τ 14 k) (hf_7 : τ 17 k = -1) (c_18 : τ 12 k = τ 0 0) (c_39 : τ 14 k ≤ τ 15 k) (c_58 : fbv (τ 12 k) (fst1 (badB τ k) (cx (τ 13 k)) 0) = (-1)) (hbz : badN τ k = 0) : th_begin τ c9 = 0 := by
  unfold th_begin; grind
theorem aq_begin_3 {τ : Tau} {c9 : Int32} {k : Nat} (hf_6 : 0 ≤ c9 ∧ c9 ≤ τ 0 3 - 1) (hkc : cx c9 = k) (hle15 : τ 15 k ≤ τ 14 k) (hf_7 : τ 17 k = -1) (c_18 : τ 12 k = τ 0 0) (c_39 : τ 14 k ≤ τ 15 k) (c_58 : ¬ (fbv (τ 12 k) (fst1 (badB τ k) (cx (τ 13 k)) 0) = (-1))) (hbz : ¬ badN τ k = 0) : th_begin τ c9 = 2 := by
  unfold th_begin; grind
theorem aq_begin_4 {τ : Tau} {c9 : Int32} {k : Nat} (hf_6 : 0 ≤ c9 ∧ c9 ≤ τ 0 3 - 1) (hkc : cx c9 = k) (hle15 : τ 15 k ≤ τ 14 k) (hf_7 : τ 17 k = -1) (c_18 : τ 12 k = τ 0 0) (c_39 : ¬ (τ 14 k ≤ τ 15 k)) : th_begin τ c9 = 2 := by
  unfold th_begin; grind
theorem aq_begin_5 {τ : Tau} {c9 : Int32} {k : Nat} (hf_6 : 0 ≤ c9 ∧ c9 ≤ τ 0 3 - 1) (hkc : cx c9 = k) (hle15 : τ 15 k ≤ τ 14 k) (hf_7 : τ 17 k = -1) (c_18 : ¬ (τ 12 k = τ 0 0)) : th_begin τ c9 = 2 := by
  unfold th_begin; grind
theorem aq_move_0 {τ : Tau} {c9 f9 : Int32} (hn9 : ¬ (0 ≤ c9 ∧ c9 ≤ τ 0 3 - 1)) : th_move τ c9 f9 = 1 := by
  unfold th_move; grind
theorem aq_move_1 {τ : Tau} {c9 f9 : Int32} {k : Nat} (hf_8 : 0 ≤ c9 ∧ c9 ≤ τ 0 3 - 1) (hkc : cx c9 = k) (hle15 : τ 15 k ≤ τ 14 k) (hn9 : ¬ (τ 0 0 ≤ f9 ∧ f9 < 672 ∧ f9 + τ 13 k ≤ 672)) : th_move τ c9 f9 = 2 := by
  unfold th_move; grind
theorem aq_move_2 {τ : Tau} {c9 f9 : Int32} {k : Nat} (hf_8 : 0 ≤ c9 ∧ c9 ≤ τ 0 3 - 1) (hkc : cx c9 = k) (hle15 : τ 15 k ≤ τ 14 k) (hf_9 : τ 0 0 ≤ f9 ∧ f9 < 672 ∧ f9 + τ 13 k ≤ 672) (hn9 : ¬ (τ 17 k = -1)) : th_move τ c9 f9 = 3 := by
  unfold th_move; grind
theorem aq_mvF_0 {τ : Tau} {k nw n9 : Nat} {f9 : Int32} (hw : τ 0 0 = nI nw ∧ nw ≤ 671) (hn9 : τ 13 k = nI n9) (h1n : 1 ≤ n9) (hn1 : n9 ≤ 100) (hf_9 : τ 0 0 ≤ f9 ∧ f9 < 672 ∧ f9 + τ 13 k ≤ 672) : ∃ b, f9 = nI b ∧ b + n9 ≤ 672 := by
  have hb := nI_b hw.2 (show 671 < 2 ^ 31 by omega)
  have hc := nI_b hn1 (show 100 < 2 ^ 31 by omega)
  have h9 : nI 671 = 671 := rfl
  have h8 : nI 100 = 100 := rfl
  rw [h9, ← hw.1] at hb
  rw [h8, ← hn9] at hc
  obtain ⟨b, hb1, e⟩ := nI_ex (x := f9) (n := 673) (by lia) (by show f9 < 673; lia) (by omega)
  refine ⟨b, e, ?_⟩
  rcases Nat.lt_or_ge 672 (b + n9) with h7 | h7
  · exfalso
    have h6 : f9 + τ 13 k = nI (b + n9) := by rw [e, hn9, nI_add]
    have h5 : nI 673 ≤ nI (b + n9) := nI_le h7 (by omega)
    rw [← h6] at h5
    have h4 : nI 673 = 673 := rfl
    rw [h4] at h5
    lia
  · exact h7
theorem aq_move_3 {τ : Tau} {c9 f9 : Int32} {k : Nat} (hf_8 : 0 ≤ c9 ∧ c9 ≤ τ 0 3 - 1) (hkc : cx c9 = k) (hle15 : τ 15 k ≤ τ 14 k) (hf_9 : τ 0 0 ≤ f9 ∧ f9 < 672 ∧ f9 + τ 13 k ≤ 672) (hf_10 : τ 17 k = -1) : th_move τ c9 f9 = 0 := by
  unfold th_move; grind
theorem aq_offset_0 {τ : Tau} {a9 b9 : Int32} (hn9 : ¬ (0 ≤ a9 ∧ a9 ≤ 3)) : th_offset τ a9 b9 = 1 := by
  unfold th_offset; grind
theorem aq_offset_1 {τ : Tau} {a9 b9 : Int32} (hf_11 : 0 ≤ a9 ∧ a9 ≤ 3) (hn9 : ¬ ((-11) ≤ b9 ∧ b9 ≤ 12)) : th_offset τ a9 b9 = 2 := by
  unfold th_offset; grind
theorem aq_offset_2 {τ : Tau} {a9 b9 : Int32} (hf_11 : 0 ≤ a9 ∧ a9 ≤ 3) (hf_12 : (-11) ≤ b9 ∧ b9 ≤ 12) : th_offset τ a9 b9 = 0 := by
  unfold th_offset; grind
theorem aq_scope_0 {τ : Tau} {a9 : Int32} (hsb : 1 ≤ τ 0 1 ∧ τ 0 1 ≤ 16) (hn9 : ¬ (0 ≤ a9 ∧ a9 ≤ τ 0 1 - 1)) : th_scope τ a9 = 1 := by
  unfold th_scope; grind
theorem aq_scope_1 {τ : Tau} {a9 : Int32} (hsb : 1 ≤ τ 0 1 ∧ τ 0 1 ≤ 16) (hf_13 : 0 ≤ a9 ∧ a9 ≤ τ 0 1 - 1) (c_11 : τ 0 1 < 16) : th_scope τ a9 = 0 := by
  unfold th_scope; grind
theorem aq_scope_2 {τ : Tau} {a9 : Int32} (hsb : 1 ≤ τ 0 1 ∧ τ 0 1 ≤ 16) (hf_13 : 0 ≤ a9 ∧ a9 ≤ τ 0 1 - 1) (c_11 : ¬ (τ 0 1 < 16)) : th_scope τ a9 = 2 := by
  unfold th_scope; grind
set_option maxHeartbeats 4000000 in
set_option maxRecDepth 100000 in
theorem q_pass {l : Launch} (hl9 : l.stackTraces = false) {D : va_G} {ids : Nat → ClassId} {n0 : Nat} {RR : List Nat} {ad : Nat → Nat} {cn : Nat → va_E} {τ : Tau} {ns nl nc : Nat} {Hh : Heap} (hX : xH D ids n0 RR ad cn τ ns nl nc Hh) {nw : Nat} (hI : Iv τ nw ns nl nc) {h9 : Int32} : ro_T l yX6_pass cX6_pass 2 (some FieldType.int) { frames := 8, cells := 8, slots := 48, locals := 240 } D ids n0 [.ref (ad 0), .int h9] Hh (fun v H1 => th_pass τ h9 = 0 ∧ v = some (.int (rt_pass τ h9)) ∧ aft D ids n0 ad cn (nx_pass τ h9) H1) (fun E9 H1 => grow Hh H1 ∧ ((th_pass τ h9 = 1 ∧ E9 = "java/lang/IllegalArgumentException") ∨ (th_pass τ h9 = 2 ∧ E9 = "java/lang/IllegalStateException"))) := by
  refine ro_ofT (by decide +kernel) (Nat.le_of_ble_eq_true rfl) ?_
  intro p e s m below meth c MC hhp hr hno HS ls hl
  have hx := MC.1.1
  have hb := MC.1.2.1
  have hl : lv_has ls 2 [(0, .ref (ad 0)), (1, .int h9)] := hl
  obtain ⟨HP, hRR, sa, bm, fm, lf, ff, cf, h0, h1, h1b, h2, h2b, h7, h7b, h3, h3b, h40, h4, h4b, h60, h5, h6⟩ := id hX
  have hwb := hI.wb
  have hsb := hI.sb
  have hlb := hI.lb
  have hcb := hI.cb
  have hnl := hI.2.2.1.2
  have hns := hI.2.1.2.2
  have hnc := hI.2.2.2.1.2
  have hcs : cx (τ 0 2) = nl := by rw [hI.2.2.1.1]; exact cx_nI (by omega)
  refine lv_iload_n hx hb dX6_pass_0 rfl (lv_at hl 1 rfl) ?_
  refine lv_iconst (v := 1) hx hb dX6_pass_1 (by decide) ?_
  refine lv_bipush (v := 100) hx hb dX6_pass_2 (by decide) ?_
  refine ro_callST MC HS (rest := []) (As := [.int h9, .int 1, .int 100]) (x_needRange hl9) (lkX6_58) (kw198) ⟨Nat.le_of_ble_eq_true rfl, Nat.le_of_ble_eq_true rfl⟩ hl.1 rfl (Nat.le_of_ble_eq_true rfl) dX6_pass_4 ⟨Nat.le_of_ble_eq_true rfl, Nat.le_of_ble_eq_true rfl⟩ (ro_out MC hno (Nat.le_of_ble_eq_true rfl) (Nat.le_of_ble_eq_true rfl) (fun E9 H9 hp => by obtain ⟨hg9, rfl, hn9⟩ := hp; exact ⟨hg9, Or.inl (⟨aq_pass_0 hwb hn9, rfl⟩)⟩)) (fun v9 H1 lH1 hp hz HS => ?_)
  obtain ⟨rfl, hf_1, rfl⟩ := hp
  refine lv_aload_n hx hb dX6_pass_7 rfl (lv_at hl 0 rfl) ?_
  refine ro_get MC HP (hRR.l (by decide)) h0 (rfl : vwCl[5]? = some (RX6, TX6, 11)) inU6 3 (by decide) kw64 rfl rfl dX6_pass_8 ?_
  refine lv_iload_n hx hb dX6_pass_11 rfl (lv_at hl 1 rfl) ?_
  refine lv_iadd hx hb dX6_pass_12 ?_
  refine lv_sipush (v := 672) hx hb dX6_pass_13 (by decide) ?_
  refine lv_icmp_lt (tgt := 29) hx hb dX6_pass_16 (by decide) (fun c_16 => ?_) (fun c_16 => ?_)
  · refine lv_aload_n hx hb dX6_pass_29 rfl (lv_at hl 0 rfl) ?_
    refine lv_dup hx hb dX6_pass_30 rfl ?_
    refine ro_get MC HP (hRR.l (by decide)) h0 (rfl : vwCl[5]? = some (RX6, TX6, 11)) inU6 3 (by decide) kw64 rfl rfl dX6_pass_31 ?_
    refine lv_iload_n hx hb dX6_pass_34 rfl (lv_at hl 1 rfl) ?_
    refine lv_iadd hx hb dX6_pass_35 ?_
    refine ro_put MC HP HS (hRR.l (by decide)) h0 (rfl : vwCl[5]? = some (RX6, TX6, 11)) inU6 tyX6_ok nmX6 3 (by decide) kw64 rfl rfl rfl rfl (Nat.le_of_ble_eq_true rfl) dX6_pass_36 (fun H2 lH2 HP HS => ?_)
    refine lv_aload_n hx hb dX6_pass_39 rfl (lv_at hl 0 rfl) ?_
    refine ro_get MC HP (hRR.l (by decide)) (va_up_self ..) (rfl : vwCl[5]? = some (RX6, TX6, 11)) inU6 3 (by decide) kw64 rfl rfl dX6_pass_40 ?_
    obtain ⟨nw2, hI2⟩ := hI.pass (aq_pass_1 hwb hf_1 c_16)
    exact ro_MT (ro_iretM MC HS hr (⟨aq_pass_1 hwb hf_1 c_16, rfl, RR, ad, _, nw2, ns, nl, nc, ⟨HP, hRR, _, _, _, _, _, _, isX.obj ⟨h0, h1, h1b, h2, h2b, h7, h7b, h3, h3b, h40, h4, h4b, h60, h5, h6⟩ hI (fun r hr => (va_up_ne _ _ (by omega))) (fun i hi => (va_up_ne _ _ (by omega))) (va_up_self ..)⟩, hI2, fun _ _ => rfl, fun r hr1 hr2 => (va_up_ne _ _ (by omega))⟩) (Nat.le_of_ble_eq_true rfl) (Nat.le_of_ble_eq_true rfl) dX6_pass_43)
  · exact ro_throw hl9 MC HS hno th_75 hl.1 dX6_pass_19 dX6_pass_22 dX6_pass_23 dX6_pass_25 dX6_pass_28 ⟨Nat.le_of_ble_eq_true rfl, Nat.le_of_ble_eq_true rfl, Nat.le_of_ble_eq_true rfl, Nat.le_of_ble_eq_true rfl⟩ (fun H9 hz9 hq9 => ⟨⟨hz9, hq9⟩, Or.inr (⟨aq_pass_2 hwb hf_1 c_16, rfl⟩)⟩) (Nat.le_of_ble_eq_true rfl) (Nat.le_of_ble_eq_true rfl)
set_option maxHeartbeats 4000000 in
set_option maxRecDepth 100000 in
theorem q_exceptions {l : Launch} (hl9 : l.stackTraces = false) {D : va_G} {ids : Nat → ClassId} {n0 : Nat} {RR : List Nat} {ad : Nat → Nat} {cn : Nat → va_E} {τ : Tau} {ns nl nc : Nat} {Hh : Heap} (hX : xH D ids n0 RR ad cn τ ns nl nc Hh) {nw : Nat} (hI : Iv τ nw ns nl nc) {r9 n9 : Int32} : ro_T l yX6_exceptions cX6_exceptions 4 (some FieldType.int) { frames := 8, cells := 8, slots := 48, locals := 240 } D ids n0 [.ref (ad 0), .int r9, .int n9] Hh (fun v H1 => th_exceptions τ r9 n9 = 0 ∧ v = some (.int (rt_exceptions τ r9 n9)) ∧ aft D ids n0 ad cn (nx_exceptions τ r9 n9) H1) (fun E9 H1 => grow Hh H1 ∧ ((th_exceptions τ r9 n9 = 1 ∧ E9 = "java/lang/IllegalArgumentException"))) := by
  refine ro_ofT (by decide +kernel) (Nat.le_of_ble_eq_true rfl) ?_
  intro p e s m below meth c MC hhp hr hno HS ls hl
  have hx := MC.1.1
  have hb := MC.1.2.1
  have hl : lv_has ls 4 [(0, .ref (ad 0)), (1, .int r9), (2, .int n9)] := hl
  obtain ⟨HP, hRR, sa, bm, fm, lf, ff, cf, h0, h1, h1b, h2, h2b, h7, h7b, h3, h3b, h40, h4, h4b, h60, h5, h6⟩ := id hX
  have hwb := hI.wb
  have hsb := hI.sb
  have hlb := hI.lb
  have hcb := hI.cb
  have hnl := hI.2.2.1.2
  have hns := hI.2.1.2.2
  have hnc := hI.2.2.2.1.2
  have hcs : cx (τ 0 2) = nl := by rw [hI.2.2.1.1]; exact cx_nI (by omega)
  refine lv_iload_n hx hb dX6_exceptions_0 rfl (lv_at hl 1 rfl) ?_
  refine lv_iconst (v := 1) hx hb dX6_exceptions_1 (by decide) ?_
  refine lv_iconst (v := 3) hx hb dX6_exceptions_2 (by decide) ?_
  refine ro_callST MC HS (rest := []) (As := [.int r9, .int 1, .int 3]) (x_needRange hl9) (lkX6_58) (kw198) ⟨Nat.le_of_ble_eq_true rfl, Nat.le_of_ble_eq_true rfl⟩ hl.1 rfl (Nat.le_of_ble_eq_true rfl) dX6_exceptions_3 ⟨Nat.le_of_ble_eq_true rfl, Nat.le_of_ble_eq_true rfl⟩ (ro_out MC hno (Nat.le_of_ble_eq_true rfl) (Nat.le_of_ble_eq_true rfl) (fun E9 H9 hp => by obtain ⟨hg9, rfl, hn9⟩ := hp; exact ⟨hg9, ⟨aq_exceptions_0 hn9, rfl⟩⟩)) (fun v9 H1 lH1 hp hz HS => ?_)
  obtain ⟨rfl, hf_2, rfl⟩ := hp
  obtain ⟨r8, hr1, hr4, hra, hrc⟩ := okR.ix hf_2
  refine lv_iload_n hx hb dX6_exceptions_6 rfl (lv_at hl 2 rfl) ?_
  refine lv_iconst (v := 0) hx hb dX6_exceptions_7 (by decide) ?_
  refine lv_bipush (v := 50) hx hb dX6_exceptions_8 (by decide) ?_
  refine ro_callST MC HS (rest := []) (As := [.int n9, .int 0, .int 50]) (x_needRange hl9) (lkX6_58) (kw198) ⟨Nat.le_of_ble_eq_true rfl, Nat.le_of_ble_eq_true rfl⟩ hl.1 rfl (Nat.le_of_ble_eq_true rfl) dX6_exceptions_10 ⟨Nat.le_of_ble_eq_true rfl, Nat.le_of_ble_eq_true rfl⟩ (ro_out MC hno (Nat.le_of_ble_eq_true rfl) (Nat.le_of_ble_eq_true rfl) (fun E9 H9 hp => by obtain ⟨hg9, rfl, hn9⟩ := hp; exact ⟨hg9, ⟨aq_exceptions_1 hf_2 hn9, rfl⟩⟩)) (fun v9 H2 lH2 hp hz HS => ?_)
  obtain ⟨rfl, hf_3, rfl⟩ := hp
  have hen := hf_3
  refine lv_aload_n hx hb dX6_exceptions_13 rfl (lv_at hl 0 rfl) ?_
  refine ro_get MC HP (hRR.l (by decide)) h0 (rfl : vwCl[5]? = some (RX6, TX6, 11)) inU6 9 (by decide) kw70 rfl rfl dX6_exceptions_14 ?_
  refine lv_iload_n hx hb dX6_exceptions_17 rfl (lv_at hl 1 rfl) ?_
  refine xo_iald MC HP (hRR.l (show 5 < 18 by omega)) h5 r8 (show r8 < 4 by omega) (by omega) hra dX6_exceptions_18 ?_
  refine lv_istore_n (lv' := [(3, .int (τ 18 r8)), (0, .ref (ad 0)), (1, .int r9), (2, .int n9)]) hx hb dX6_exceptions_19 rfl hl (by decide) rfl (fun ls hl => ?_)
  refine lv_aload_n hx hb dX6_exceptions_20 rfl (lv_at hl 1 rfl) ?_
  refine ro_get MC HP (hRR.l (by decide)) h0 (rfl : vwCl[5]? = some (RX6, TX6, 11)) inU6 9 (by decide) kw70 rfl rfl dX6_exceptions_21 ?_
  refine lv_iload_n hx hb dX6_exceptions_24 rfl (lv_at hl 2 rfl) ?_
  refine lv_iload_n hx hb dX6_exceptions_25 rfl (lv_at hl 3 rfl) ?_
  refine xo_iast MC HP HS (hRR.l (by decide)) h5 r8 (show r8 < 4 by omega) (by omega) hra dX6_exceptions_26 (fun H3 lH3 HP HS => ?_)
  refine lv_iload_n hx hb dX6_exceptions_27 rfl (lv_at hl 0 rfl) ?_
  have e2 : nx_exceptions τ r9 n9 = ti τ 18 r8 n9 := by unfold nx_exceptions; rw [hrc]
  exact ro_MT (ro_iretM MC HS hr (⟨aq_exceptions_2 hf_2 hf_3, by rw [rt_exceptions, hrc], by rw [e2]; exact ⟨RR, ad, _, nw, ns, nl, nc, ⟨HP, hRR, _, _, _, _, _, _, isX.exc ⟨h0, h1, h1b, h2, h2b, h7, h7b, h3, h3b, h40, h4, h4b, h60, h5, h6⟩ hI (fun r hr => (va_up_ne _ _ (by omega))) (fun i hi => (va_up_ne _ _ (by omega))) (va_up_self ..)⟩, hI.exc hen, fun _ _ => rfl, fun r hr1 hr2 => (va_up_ne _ _ (by omega))⟩⟩) (Nat.le_of_ble_eq_true rfl) (Nat.le_of_ble_eq_true rfl) dX6_exceptions_28)
theorem ti_row {τ : Tau} {r k : Nat} {v : Int32} : ∀ i, i < 18 → ∀ j, j ≠ k → ti τ r k v i j = τ i j := by
  intro i hi j hj
  by_cases h : i = r
  · subst h; rw [ti, va_up_self, upd_ne _ _ hj]
  · rw [ti, va_up_ne _ _ h]
theorem ti_low {τ : Tau} {r k : Nat} {v : Int32} {i : Nat} (h : i ≠ r) : ti τ r k v i = τ i := va_up_ne _ _ h
set_option maxHeartbeats 4000000 in
set_option maxRecDepth 100000 in
theorem q_approve {l : Launch} (hl9 : l.stackTraces = false) {D : va_G} {ids : Nat → ClassId} {n0 : Nat} {RR : List Nat} {ad : Nat → Nat} {cn : Nat → va_E} {τ : Tau} {ns nl nc : Nat} {Hh : Heap} (hX : xH D ids n0 RR ad cn τ ns nl nc Hh) {nw : Nat} (hI : Iv τ nw ns nl nc) {c9 : Int32} : ro_T l yX6_approve cX6_approve 3 (some FieldType.int) { frames := 8, cells := 8, slots := 48, locals := 240 } D ids n0 [.ref (ad 0), .int c9] Hh (fun v H1 => th_approve τ c9 = 0 ∧ v = some (.int (rt_approve τ c9)) ∧ aft D ids n0 ad cn (nx_approve τ c9) H1) (fun E9 H1 => grow Hh H1 ∧ ((th_approve τ c9 = 1 ∧ E9 = "java/lang/IndexOutOfBoundsException") ∨ (th_approve τ c9 = 2 ∧ E9 = "java/lang/IllegalStateException"))) := by
  refine ro_ofT (by decide +kernel) (Nat.le_of_ble_eq_true rfl) ?_
  intro p e s m below meth c MC hhp hr hno HS ls hl
  have hx := MC.1.1
  have hb := MC.1.2.1
  have hl : lv_has ls 3 [(0, .ref (ad 0)), (1, .int c9)] := hl
  obtain ⟨HP, hRR, sa, bm, fm, lf, ff, cf, h0, h1, h1b, h2, h2b, h7, h7b, h3, h3b, h40, h4, h4b, h60, h5, h6⟩ := id hX
  have hwb := hI.wb
  have hsb := hI.sb
  have hlb := hI.lb
  have hcb := hI.cb
  have hnl := hI.2.2.1.2
  have hns := hI.2.1.2.2
  have hnc := hI.2.2.2.1.2
  have hcs : cx (τ 0 2) = nl := by rw [hI.2.2.1.1]; exact cx_nI (by omega)
  refine lv_aload_n hx hb dX6_approve_0 rfl (lv_at hl 0 rfl) ?_
  refine lv_iload_n hx hb dX6_approve_1 rfl (lv_at hl 1 rfl) ?_
  refine ro_callVT MC HS (rest := []) (As := [.int c9]) (x_needChange hl9 hX hI) (lkX6_123) (kw437) (kw9) ⟨Nat.le_of_ble_eq_true rfl, Nat.le_of_ble_eq_true rfl⟩ (ro_recv MC HP (hRR.l (by decide)) h0 (rfl : vwCl[5]? = some (RX6, TX6, 11))) hl.1 rfl (Nat.le_of_ble_eq_true rfl) dX6_approve_2 ⟨Nat.le_of_ble_eq_true rfl, Nat.le_of_ble_eq_true rfl⟩ (ro_out MC hno (Nat.le_of_ble_eq_true rfl) (Nat.le_of_ble_eq_true rfl) (fun E9 H9 hp => by obtain ⟨hg9, rfl, hn9⟩ := hp; exact ⟨hg9, Or.inl (⟨aq_approve_0 hn9, rfl⟩)⟩)) (fun v9 H1 lH1 hp hz HS => ?_)
  obtain ⟨k, hk, hka, hkc, hf_4, rfl, rfl⟩ := hp
  have hle15 := (hI.2.2.2.2.2.2.2.2.2.2.1 k hk).2.2.2.1.2
  have hln := ch_len hI hk
  refine lv_astore_n (lv' := [(2, .ref (ad (60 + k))), (0, .ref (ad 0)), (1, .int c9)]) hx hb dX6_approve_5 rfl hl (by decide) rfl (fun ls hl => ?_)
  refine lv_aload_n hx hb dX6_approve_6 rfl (lv_at hl 0 rfl) ?_
  refine ro_callST MC HS (rest := []) (As := [.ref (ad (60 + k))]) (x_needPlanned hl9 hX hI hk) (lkX6_130) (kw441) ⟨Nat.le_of_ble_eq_true rfl, Nat.le_of_ble_eq_true rfl⟩ hl.1 rfl (Nat.le_of_ble_eq_true rfl) dX6_approve_7 ⟨Nat.le_of_ble_eq_true rfl, Nat.le_of_ble_eq_true rfl⟩ (ro_out MC hno (Nat.le_of_ble_eq_true rfl) (Nat.le_of_ble_eq_true rfl) (fun E9 H9 hp => by obtain ⟨hg9, rfl, hn9⟩ := hp; exact ⟨hg9, Or.inr (⟨aq_approve_1 hf_4 hkc hle15 hn9, rfl⟩)⟩)) (fun v9 H2 lH2 hp hz HS => ?_)
  obtain ⟨rfl, hf_5, rfl⟩ := hp
  refine lv_aload_n hx hb dX6_approve_10 rfl (lv_at hl 0 rfl) ?_
  refine ro_get MC HP (hRR.c (show k < nc by omega)) (h60 k (by omega)) (rfl : vwCl[0]? = some (RX0, TX0, 8)) inU0 4 (by decide) kw409 rfl rfl dX6_approve_11 ?_
  refine lv_aload_n hx hb dX6_approve_14 rfl (lv_at hl 0 rfl) ?_
  refine ro_get MC HP (hRR.c (show k < nc by omega)) (h60 k (by omega)) (rfl : vwCl[0]? = some (RX0, TX0, 8)) inU0 2 (by decide) kw406 rfl rfl dX6_approve_15 ?_
  refine lv_icmp_lt (tgt := 31) hx hb dX6_approve_18 (by decide) (fun c_18 => ?_) (fun c_18 => ?_)
  · refine lv_aload_n hx hb dX6_approve_31 rfl (lv_at hl 0 rfl) ?_
    refine lv_dup hx hb dX6_approve_32 rfl ?_
    refine ro_get MC HP (hRR.c (show k < nc by omega)) (h60 k (by omega)) (rfl : vwCl[0]? = some (RX0, TX0, 8)) inU0 4 (by decide) kw409 rfl rfl dX6_approve_33 ?_
    refine lv_iconst (v := 1) hx hb dX6_approve_36 (by decide) ?_
    refine lv_iadd hx hb dX6_approve_37 ?_
    refine ro_put MC HP HS (hRR.c (show k < nc by omega)) (h60 k (by omega)) (rfl : vwCl[0]? = some (RX0, TX0, 8)) inU0 tyX0_ok nmX0 4 (by decide) kw409 rfl rfl rfl rfl (Nat.le_of_ble_eq_true rfl) dX6_approve_38 (fun H3 lH3 HP HS => ?_)
    refine lv_aload_n hx hb dX6_approve_41 rfl (lv_at hl 0 rfl) ?_
    refine ro_get MC HP (hRR.c (show k < nc by omega)) (va_up_self ..) (rfl : vwCl[0]? = some (RX0, TX0, 8)) inU0 4 (by decide) kw409 rfl rfl dX6_approve_42 ?_
    have e2 : nx_approve τ c9 = ti τ 15 k (τ 15 k + 1) := by unfold nx_approve; rw [hkc]
    have hX2 : xH D ids n0 RR ad _ (ti τ 15 k (τ 15 k + 1)) ns nl nc _ := ⟨HP, hRR, _, _, _, _, _, _, isX.chg (k9 := k) ⟨h0, h1, h1b, h2, h2b, h7, h7b, h3, h3b, h40, h4, h4b, h60, h5, h6⟩ hI (fun r hr => (va_up_ne _ _ (by omega))) (fun i hi => ti_low (by omega)) ((va_up_ne _ _ (by omega)).trans h5) ((va_up_self ..).trans (chF_of rfl rfl rfl rfl (upd_at ..) rfl rfl rfl)) ti_row⟩
    have hI2 : Iv (ti τ 15 k (τ 15 k + 1)) nw ns nl nc := hI.chg hk (fun i hi => ti_low (by omega)) ti_row hI.2.2.2.2.2.2.2.2.2.2.2.2 (by
      obtain ⟨a1, a2, a3, a4, a5⟩ := hI.2.2.2.2.2.2.2.2.2.2.1 k hk
      refine ⟨a1, a2, a3, ?_, a5⟩
      show 0 ≤ upd (τ 15) k (τ 15 k + 1) k ∧ upd (τ 15) k (τ 15 k + 1) k ≤ τ 14 k
      rw [upd_at]
      exact aq_apI_0 a3 a4 c_18)
    exact ro_MT (ro_iretM MC HS hr (⟨aq_approve_2 hf_4 hkc hle15 hf_5 c_18, by rw [rt_approve, hkc], by rw [e2]; exact ⟨RR, ad, _, nw, ns, nl, nc, hX2, hI2, fun _ _ => rfl, fun r hr1 hr2 => (va_up_ne _ _ (by omega))⟩⟩) (Nat.le_of_ble_eq_true rfl) (Nat.le_of_ble_eq_true rfl) dX6_approve_45)
  · exact ro_throw hl9 MC HS hno th_150 hl.1 dX6_approve_21 dX6_approve_24 dX6_approve_25 dX6_approve_27 dX6_approve_30 ⟨Nat.le_of_ble_eq_true rfl, Nat.le_of_ble_eq_true rfl, Nat.le_of_ble_eq_true rfl, Nat.le_of_ble_eq_true rfl⟩ (fun H9 hz9 hq9 => ⟨⟨hz9, hq9⟩, Or.inr (⟨aq_approve_3 hf_4 hkc hle15 hf_5 c_18, rfl⟩)⟩) (Nat.le_of_ble_eq_true rfl) (Nat.le_of_ble_eq_true rfl)
set_option maxHeartbeats 4000000 in
set_option maxRecDepth 100000 in
theorem q_begin {l : Launch} (hl9 : l.stackTraces = false) {D : va_G} {ids : Nat → ClassId} {n0 : Nat} {RR : List Nat} {ad : Nat → Nat} {cn : Nat → va_E} {τ : Tau} {ns nl nc : Nat} {Hh : Heap} (hX : xH D ids n0 RR ad cn τ ns nl nc Hh) {nw : Nat} (hI : Iv τ nw ns nl nc) {c9 : Int32} : ro_T l yX6_begin cX6_begin 3 (some FieldType.int) { frames := 8, cells := 8, slots := 48, locals := 240 } D ids n0 [.ref (ad 0), .int c9] Hh (fun v H1 => th_begin τ c9 = 0 ∧ v = some (.int (rt_begin τ c9)) ∧ aft D ids n0 ad cn (nx_begin τ c9) H1) (fun E9 H1 => grow Hh H1 ∧ ((th_begin τ c9 = 1 ∧ E9 = "java/lang/IndexOutOfBoundsException") ∨ (th_begin τ c9 = 2 ∧ E9 = "java/lang/IllegalStateException"))) := by
  refine ro_ofT (by decide +kernel) (Nat.le_of_ble_eq_true rfl) ?_
  intro p e s m below meth c MC hhp hr hno HS ls hl
  have hx := MC.1.1
  have hb := MC.1.2.1
  have hl : lv_has ls 3 [(0, .ref (ad 0)), (1, .int c9)] := hl
  obtain ⟨HP, hRR, sa, bm, fm, lf, ff, cf, h0, h1, h1b, h2, h2b, h7, h7b, h3, h3b, h40, h4, h4b, h60, h5, h6⟩ := id hX
  have hwb := hI.wb
  have hsb := hI.sb
  have hlb := hI.lb
  have hcb := hI.cb
  have hnl := hI.2.2.1.2
  have hns := hI.2.1.2.2
  have hnc := hI.2.2.2.1.2
  have hcs : cx (τ 0 2) = nl := by rw [hI.2.2.1.1]; exact cx_nI (by omega)
  refine lv_aload_n hx hb dX6_begin_0 rfl (lv_at hl 0 rfl) ?_
  refine lv_iload_n hx hb dX6_begin_1 rfl (lv_at hl 1 rfl) ?_
  refine ro_callVT MC HS (rest := []) (As := [.int c9]) (x_needChange hl9 hX hI) (lkX6_123) (kw437) (kw9) ⟨Nat.le_of_ble_eq_true rfl, Nat.le_of_ble_eq_true rfl⟩ (ro_recv MC HP (hRR.l (by decide)) h0 (rfl : vwCl[5]? = some (RX6, TX6, 11))) hl.1 rfl (Nat.le_of_ble_eq_true rfl) dX6_begin_2 ⟨Nat.le_of_ble_eq_true rfl, Nat.le_of_ble_eq_true rfl⟩ (ro_out MC hno (Nat.le_of_ble_eq_true rfl) (Nat.le_of_ble_eq_true rfl) (fun E9 H9 hp => by obtain ⟨hg9, rfl, hn9⟩ := hp; exact ⟨hg9, Or.inl (⟨aq_begin_0 hn9, rfl⟩)⟩)) (fun v9 H1 lH1 hp hz HS => ?_)
  obtain ⟨k, hk, hka, hkc, hf_6, rfl, rfl⟩ := hp
  have hle15 := (hI.2.2.2.2.2.2.2.2.2.2.1 k hk).2.2.2.1.2
  have hln := ch_len hI hk
  refine lv_astore_n (lv' := [(2, .ref (ad (60 + k))), (0, .ref (ad 0)), (1, .int c9)]) hx hb dX6_begin_5 rfl hl (by decide) rfl (fun ls hl => ?_)
  refine lv_aload_n hx hb dX6_begin_6 rfl (lv_at hl 0 rfl) ?_
  refine ro_callST MC HS (rest := []) (As := [.ref (ad (60 + k))]) (x_needPlanned hl9 hX hI hk) (lkX6_130) (kw441) ⟨Nat.le_of_ble_eq_true rfl, Nat.le_of_ble_eq_true rfl⟩ hl.1 rfl (Nat.le_of_ble_eq_true rfl) dX6_begin_7 ⟨Nat.le_of_ble_eq_true rfl, Nat.le_of_ble_eq_true rfl⟩ (ro_out MC hno (Nat.le_of_ble_eq_true rfl) (Nat.le_of_ble_eq_true rfl) (fun E9 H9 hp => by obtain ⟨hg9, rfl, hn9⟩ := hp; exact ⟨hg9, Or.inr (⟨aq_begin_1 hf_6 hkc hle15 hn9, rfl⟩)⟩)) (fun v9 H2 lH2 hp hz HS => ?_)
  obtain ⟨rfl, hf_7, rfl⟩ := hp
  refine lv_aload_n hx hb dX6_begin_10 rfl (lv_at hl 0 rfl) ?_
  refine ro_get MC HP (hRR.c (show k < nc by omega)) (h60 k (by omega)) (rfl : vwCl[0]? = some (RX0, TX0, 8)) inU0 3 (by decide) kw408 rfl rfl dX6_begin_11 ?_
  refine lv_aload_n hx hb dX6_begin_14 rfl (lv_at hl 1 rfl) ?_
  refine ro_get MC HP (hRR.l (by decide)) h0 (rfl : vwCl[5]? = some (RX6, TX6, 11)) inU6 3 (by decide) kw64 rfl rfl dX6_begin_15 ?_
  refine lv_icmp_eq (tgt := 31) hx hb dX6_begin_18 (by decide) (fun c_18 => ?_) (fun c_18 => ?_)
  · refine lv_aload_n hx hb dX6_begin_31 rfl (lv_at hl 0 rfl) ?_
    refine ro_get MC HP (hRR.c (show k < nc by omega)) (h60 k (by omega)) (rfl : vwCl[0]? = some (RX0, TX0, 8)) inU0 4 (by decide) kw409 rfl rfl dX6_begin_32 ?_
    refine lv_aload_n hx hb dX6_begin_35 rfl (lv_at hl 0 rfl) ?_
    refine ro_get MC HP (hRR.c (show k < nc by omega)) (h60 k (by omega)) (rfl : vwCl[0]? = some (RX0, TX0, 8)) inU0 2 (by decide) kw406 rfl rfl dX6_begin_36 ?_
    refine lv_icmp_ge (tgt := 52) hx hb dX6_begin_39 (by decide) (fun c_39 => ?_) (fun c_39 => ?_)
    · refine lv_aload_n hx hb dX6_begin_52 rfl (lv_at hl 1 rfl) ?_
      refine lv_aload_n hx hb dX6_begin_53 rfl (lv_at hl 0 rfl) ?_
      obtain ⟨⟨u, hu, hsu⟩, ⟨b9, n9, hb9, hn9, h1n, hn1, hbn⟩, a3, a4, hbg⟩ := hI.2.2.2.2.2.2.2.2.2.2.1 k hk
      have hcl : cx (τ 13 k) = n9 := by rw [hn9]; exact cx_nI (by omega)
      refine ro_callV MC HS (rest := []) (As := [.ref (ad (60 + k))]) (x_firstBadHour hX hI hk) (lkX6_156) (kw473) (kw14) ⟨Nat.le_of_ble_eq_true rfl, Nat.le_of_ble_eq_true rfl⟩ (ro_recv MC HP (hRR.l (by decide)) h0 (rfl : vwCl[5]? = some (RX6, TX6, 11))) hl.1 rfl (Nat.le_of_ble_eq_true rfl) dX6_begin_54 ⟨Nat.le_of_ble_eq_true rfl, Nat.le_of_ble_eq_true rfl⟩ (fun v9 H3 lH3 hp hz HS => ?_)
      obtain ⟨rfl, rfl⟩ := hp
      refine lv_iconst (v := (-1)) hx hb dX6_begin_57 (by decide) ?_
      refine lv_icmp_eq (tgt := 71) hx hb dX6_begin_58 (by decide) (fun c_58 => ?_) (fun c_58 => ?_)
      · have hbz : badN τ k = 0 := (fb_bad hb9 hbn hcl).mp c_58
        refine lv_aload_n hx hb dX6_begin_71 rfl (lv_at hl 0 rfl) ?_
        refine lv_iconst (v := 1) hx hb dX6_begin_72 (by decide) ?_
        refine ro_put MC HP HS (hRR.c (show k < nc by omega)) (h60 k (by omega)) (rfl : vwCl[0]? = some (RX0, TX0, 8)) inU0 tyX0_ok nmX0 6 (by decide) kw411 rfl rfl rfl rfl (Nat.le_of_ble_eq_true rfl) dX6_begin_73 (fun H4 lH4 HP HS => ?_)
        refine lv_aload_n hx hb dX6_begin_76 rfl (lv_at hl 0 rfl) ?_
        refine lv_aload_n hx hb dX6_begin_77 rfl (lv_at hl 1 rfl) ?_
        refine ro_get MC HP (hRR.l (by decide)) ((va_up_ne _ _ (by omega)).trans h0) (rfl : vwCl[5]? = some (RX6, TX6, 11)) inU6 5 (by decide) kw66 rfl rfl dX6_begin_78 ?_
        refine ro_put MC HP HS (hRR.c (show k < nc by omega)) (va_up_self ..) (rfl : vwCl[0]? = some (RX0, TX0, 8)) inU0 tyX0_ok nmX0 7 (by decide) kw413 rfl rfl rfl rfl (Nat.le_of_ble_eq_true rfl) dX6_begin_81 (fun H5 lH5 HP HS => ?_)
        refine lv_aload_n hx hb dX6_begin_84 rfl (lv_at hl 0 rfl) ?_
        have hX2 : xH D ids n0 RR ad _ (ti τ 17 k (τ 0 2)) ns nl nc _ := ⟨HP, hRR, _, _, _, _, _, _, isX.chg (k9 := k) ⟨h0, h1, h1b, h2, h2b, h7, h7b, h3, h3b, h40, h4, h4b, h60, h5, h6⟩ hI (fun r hr => ((va_up_ne _ _ (by omega)).trans (va_up_ne _ _ (by omega)))) (fun i hi => ti_low (by omega)) (((va_up_ne _ _ (by omega)).trans (va_up_ne _ _ (by omega))).trans h5) ((va_up_self ..).trans (chF_of rfl rfl rfl rfl rfl rfl (by rw [show (ti τ 17 k (τ 0 2)) 17 k = τ 0 2 from upd_at ..]; exact bI_t (by rw [hI.2.2.1.1]; exact nI_m1 (by omega))) (by unfold flb; rw [show (ti τ 17 k (τ 0 2)) 17 k = τ 0 2 from upd_at ..]; exact if_neg (by rw [hI.2.2.1.1]; exact nI_m1 (by omega))))) ti_row⟩
        refine ro_callV MC HS (rest := []) (As := []) (x_hourBehind hX2 hk) (lkX6_171) (kw476) (kw477) ⟨Nat.le_of_ble_eq_true rfl, Nat.le_of_ble_eq_true rfl⟩ (ro_recv MC HP (hRR.c (show k < nc by omega)) (va_up_self ..) (rfl : vwCl[0]? = some (RX0, TX0, 8))) hl.1 rfl (Nat.le_of_ble_eq_true rfl) dX6_begin_85 ⟨Nat.le_of_ble_eq_true rfl, Nat.le_of_ble_eq_true rfl⟩ (fun v9 H6 lH6 hp hz HS => ?_)
        obtain ⟨rfl, rfl⟩ := hp
        have e2 : nx_begin τ c9 = (ti τ 17 k (τ 0 2)) := by unfold nx_begin; rw [hkc]
        have hI2 : Iv (ti τ 17 k (τ 0 2)) nw ns nl nc := hI.chg hk (fun i hi => ti_low (by omega)) ti_row hI.2.2.2.2.2.2.2.2.2.2.2.2 ⟨⟨u, hu, hsu⟩, ⟨b9, n9, hb9, hn9, h1n, hn1, hbn⟩, a3, a4, Or.inr ⟨nl, Nat.le_refl _, (upd_at ..).trans hI.2.2.1.1⟩⟩
        exact ro_MT (ro_iretM MC HS hr (⟨aq_begin_2 hf_6 hkc hle15 hf_7 c_18 c_39 c_58 hbz, by rw [rt_begin, hkc]; rfl, by rw [e2]; exact ⟨RR, ad, _, nw, ns, nl, nc, hX2, hI2, fun _ _ => rfl, fun r hr1 hr2 => ((va_up_ne _ _ (by omega)).trans (va_up_ne _ _ (by omega)))⟩⟩) (Nat.le_of_ble_eq_true rfl) (Nat.le_of_ble_eq_true rfl) dX6_begin_88)
      · have hbz : ¬ badN τ k = 0 := fun h9 => c_58 ((fb_bad hb9 hbn hcl).mpr h9)
        exact ro_throw hl9 MC HS hno th_159 hl.1 dX6_begin_61 dX6_begin_64 dX6_begin_65 dX6_begin_67 dX6_begin_70 ⟨Nat.le_of_ble_eq_true rfl, Nat.le_of_ble_eq_true rfl, Nat.le_of_ble_eq_true rfl, Nat.le_of_ble_eq_true rfl⟩ (fun H9 hz9 hq9 => ⟨⟨hz9, hq9⟩, Or.inr (⟨aq_begin_3 hf_6 hkc hle15 hf_7 c_18 c_39 c_58 hbz, rfl⟩)⟩) (Nat.le_of_ble_eq_true rfl) (Nat.le_of_ble_eq_true rfl)
    · exact ro_throw hl9 MC HS hno th_154 hl.1 dX6_begin_42 dX6_begin_45 dX6_begin_46 dX6_begin_48 dX6_begin_51 ⟨Nat.le_of_ble_eq_true rfl, Nat.le_of_ble_eq_true rfl, Nat.le_of_ble_eq_true rfl, Nat.le_of_ble_eq_true rfl⟩ (fun H9 hz9 hq9 => ⟨⟨hz9, hq9⟩, Or.inr (⟨aq_begin_4 hf_6 hkc hle15 hf_7 c_18 c_39, rfl⟩)⟩) (Nat.le_of_ble_eq_true rfl) (Nat.le_of_ble_eq_true rfl)
  · exact ro_throw hl9 MC HS hno th_152 hl.1 dX6_begin_21 dX6_begin_24 dX6_begin_25 dX6_begin_27 dX6_begin_30 ⟨Nat.le_of_ble_eq_true rfl, Nat.le_of_ble_eq_true rfl, Nat.le_of_ble_eq_true rfl, Nat.le_of_ble_eq_true rfl⟩ (fun H9 hz9 hq9 => ⟨⟨hz9, hq9⟩, Or.inr (⟨aq_begin_5 hf_6 hkc hle15 hf_7 c_18, rfl⟩)⟩) (Nat.le_of_ble_eq_true rfl) (Nat.le_of_ble_eq_true rfl)
set_option maxHeartbeats 4000000 in
set_option maxRecDepth 100000 in
theorem q_move {l : Launch} (hl9 : l.stackTraces = false) {D : va_G} {ids : Nat → ClassId} {n0 : Nat} {RR : List Nat} {ad : Nat → Nat} {cn : Nat → va_E} {τ : Tau} {ns nl nc : Nat} {Hh : Heap} (hX : xH D ids n0 RR ad cn τ ns nl nc Hh) {nw : Nat} (hI : Iv τ nw ns nl nc) {c9 f9 : Int32} : ro_T l yX6_move cX6_move 4 (some FieldType.int) { frames := 8, cells := 8, slots := 48, locals := 240 } D ids n0 [.ref (ad 0), .int c9, .int f9] Hh (fun v H1 => th_move τ c9 f9 = 0 ∧ v = some (.int (rt_move τ c9 f9)) ∧ aft D ids n0 ad cn (nx_move τ c9 f9) H1) (fun E9 H1 => grow Hh H1 ∧ ((th_move τ c9 f9 = 1 ∧ E9 = "java/lang/IndexOutOfBoundsException") ∨ (th_move τ c9 f9 = 2 ∧ E9 = "java/lang/IllegalArgumentException") ∨ (th_move τ c9 f9 = 3 ∧ E9 = "java/lang/IllegalStateException"))) := by
  refine ro_ofT (by decide +kernel) (Nat.le_of_ble_eq_true rfl) ?_
  intro p e s m below meth c MC hhp hr hno HS ls hl
  have hx := MC.1.1
  have hb := MC.1.2.1
  have hl : lv_has ls 4 [(0, .ref (ad 0)), (1, .int c9), (2, .int f9)] := hl
  obtain ⟨HP, hRR, sa, bm, fm, lf, ff, cf, h0, h1, h1b, h2, h2b, h7, h7b, h3, h3b, h40, h4, h4b, h60, h5, h6⟩ := id hX
  have hwb := hI.wb
  have hsb := hI.sb
  have hlb := hI.lb
  have hcb := hI.cb
  have hnl := hI.2.2.1.2
  have hns := hI.2.1.2.2
  have hnc := hI.2.2.2.1.2
  have hcs : cx (τ 0 2) = nl := by rw [hI.2.2.1.1]; exact cx_nI (by omega)
  refine lv_aload_n hx hb dX6_move_0 rfl (lv_at hl 0 rfl) ?_
  refine lv_iload_n hx hb dX6_move_1 rfl (lv_at hl 1 rfl) ?_
  refine ro_callVT MC HS (rest := []) (As := [.int c9]) (x_needChange hl9 hX hI) (lkX6_123) (kw437) (kw9) ⟨Nat.le_of_ble_eq_true rfl, Nat.le_of_ble_eq_true rfl⟩ (ro_recv MC HP (hRR.l (by decide)) h0 (rfl : vwCl[5]? = some (RX6, TX6, 11))) hl.1 rfl (Nat.le_of_ble_eq_true rfl) dX6_move_2 ⟨Nat.le_of_ble_eq_true rfl, Nat.le_of_ble_eq_true rfl⟩ (ro_out MC hno (Nat.le_of_ble_eq_true rfl) (Nat.le_of_ble_eq_true rfl) (fun E9 H9 hp => by obtain ⟨hg9, rfl, hn9⟩ := hp; exact ⟨hg9, Or.inl (⟨aq_move_0 hn9, rfl⟩)⟩)) (fun v9 H1 lH1 hp hz HS => ?_)
  obtain ⟨k, hk, hka, hkc, hf_8, rfl, rfl⟩ := hp
  have hle15 := (hI.2.2.2.2.2.2.2.2.2.2.1 k hk).2.2.2.1.2
  have hln := ch_len hI hk
  refine lv_astore_n (lv' := [(3, .ref (ad (60 + k))), (0, .ref (ad 0)), (1, .int c9), (2, .int f9)]) hx hb dX6_move_5 rfl hl (by decide) rfl (fun ls hl => ?_)
  refine lv_iload_n hx hb dX6_move_6 rfl (lv_at hl 3 rfl) ?_
  refine lv_aload_n hx hb dX6_move_7 rfl (lv_at hl 1 rfl) ?_
  refine ro_get MC HP (hRR.l (by decide)) h0 (rfl : vwCl[5]? = some (RX6, TX6, 11)) inU6 3 (by decide) kw64 rfl rfl dX6_move_8 ?_
  refine lv_sipush (v := 672) hx hb dX6_move_11 (by decide) ?_
  refine lv_aload_n hx hb dX6_move_14 rfl (lv_at hl 0 rfl) ?_
  refine ro_get MC HP (hRR.c (show k < nc by omega)) (h60 k (by omega)) (rfl : vwCl[0]? = some (RX0, TX0, 8)) inU0 1 (by decide) kw404 rfl rfl dX6_move_15 ?_
  refine lv_isub hx hb dX6_move_18 ?_
  refine ro_callST MC HS (rest := []) (As := [.int f9, .int (τ 0 0), .int ((672 - τ 13 k))]) (x_needRange hl9) (lkX6_58) (kw198) ⟨Nat.le_of_ble_eq_true rfl, Nat.le_of_ble_eq_true rfl⟩ hl.1 rfl (Nat.le_of_ble_eq_true rfl) dX6_move_19 ⟨Nat.le_of_ble_eq_true rfl, Nat.le_of_ble_eq_true rfl⟩ (ro_out MC hno (Nat.le_of_ble_eq_true rfl) (Nat.le_of_ble_eq_true rfl) (fun E9 H9 hp => by obtain ⟨hg9, rfl, hn9⟩ := hp; have hn9 := fun h9 => hn9 ((okP_iff hwb hln).mpr h9); exact ⟨hg9, Or.inr (Or.inl (⟨aq_move_1 hf_8 hkc hle15 hn9, rfl⟩))⟩)) (fun v9 H2 lH2 hp hz HS => ?_)
  obtain ⟨rfl, hf_9, rfl⟩ := hp
  have hf_9 := (okP_iff hwb hln).mp hf_9
  refine lv_aload_n hx hb dX6_move_22 rfl (lv_at hl 0 rfl) ?_
  refine ro_callST MC HS (rest := []) (As := [.ref (ad (60 + k))]) (x_needPlanned hl9 hX hI hk) (lkX6_130) (kw441) ⟨Nat.le_of_ble_eq_true rfl, Nat.le_of_ble_eq_true rfl⟩ hl.1 rfl (Nat.le_of_ble_eq_true rfl) dX6_move_23 ⟨Nat.le_of_ble_eq_true rfl, Nat.le_of_ble_eq_true rfl⟩ (ro_out MC hno (Nat.le_of_ble_eq_true rfl) (Nat.le_of_ble_eq_true rfl) (fun E9 H9 hp => by obtain ⟨hg9, rfl, hn9⟩ := hp; exact ⟨hg9, Or.inr (Or.inr (⟨aq_move_2 hf_8 hkc hle15 hf_9 hn9, rfl⟩))⟩)) (fun v9 H3 lH3 hp hz HS => ?_)
  obtain ⟨rfl, hf_10, rfl⟩ := hp
  refine lv_aload_n hx hb dX6_move_26 rfl (lv_at hl 0 rfl) ?_
  refine lv_iload_n hx hb dX6_move_27 rfl (lv_at hl 3 rfl) ?_
  refine ro_put MC HP HS (hRR.c (show k < nc by omega)) (h60 k (by omega)) (rfl : vwCl[0]? = some (RX0, TX0, 8)) inU0 tyX0_ok nmX0 3 (by decide) kw408 rfl rfl rfl rfl (Nat.le_of_ble_eq_true rfl) dX6_move_28 (fun H4 lH4 HP HS => ?_)
  refine lv_aload_n hx hb dX6_move_31 rfl (lv_at hl 0 rfl) ?_
  refine lv_iconst (v := 0) hx hb dX6_move_32 (by decide) ?_
  refine ro_put MC HP HS (hRR.c (show k < nc by omega)) (va_up_self ..) (rfl : vwCl[0]? = some (RX0, TX0, 8)) inU0 tyX0_ok nmX0 4 (by decide) kw409 rfl rfl rfl rfl (Nat.le_of_ble_eq_true rfl) dX6_move_33 (fun H5 lH5 HP HS => ?_)
  refine lv_aload_n hx hb dX6_move_36 rfl (lv_at hl 0 rfl) ?_
  refine lv_iconst (v := 0) hx hb dX6_move_37 (by decide) ?_
  refine ro_put MC HP HS (hRR.c (show k < nc by omega)) (va_up_self ..) (rfl : vwCl[0]? = some (RX0, TX0, 8)) inU0 tyX0_ok nmX0 5 (by decide) kw410 rfl rfl rfl rfl (Nat.le_of_ble_eq_true rfl) dX6_move_38 (fun H6 lH6 HP HS => ?_)
  refine lv_aload_n hx hb dX6_move_41 rfl (lv_at hl 1 rfl) ?_
  refine lv_aload_n hx hb dX6_move_42 rfl (lv_at hl 0 rfl) ?_
  have e2 : nx_move τ c9 f9 = (ti (ti (ti τ 12 k f9) 15 k 0) 16 k 0) := by unfold nx_move; rw [hkc]
  have hrw : ∀ i, i < 18 → ∀ j, j ≠ k → (ti (ti (ti τ 12 k f9) 15 k 0) 16 k 0) i j = τ i j := fun i hi j hj => by rw [ti_row i hi j hj, ti_row i hi j hj, ti_row i hi j hj]
  have hX2 : xH D ids n0 RR ad _ (ti (ti (ti τ 12 k f9) 15 k 0) 16 k 0) ns nl nc _ := ⟨HP, hRR, _, _, _, _, _, _, isX.chg (k9 := k) ⟨h0, h1, h1b, h2, h2b, h7, h7b, h3, h3b, h40, h4, h4b, h60, h5, h6⟩ hI (fun r hr => ((va_up_ne _ _ (by omega)).trans ((va_up_ne _ _ (by omega)).trans (va_up_ne _ _ (by omega))))) (fun i hi => by rw [ti_low (by omega), ti_low (by omega), ti_low (by omega)]) (((va_up_ne _ _ (by omega)).trans ((va_up_ne _ _ (by omega)).trans (va_up_ne _ _ (by omega)))).trans h5) ((va_up_self ..).trans (chF_of rfl rfl rfl (upd_at ..) (upd_at ..) (upd_at ..) rfl rfl)) hrw⟩
  obtain ⟨⟨u, hu, hsu⟩, ⟨b9, n9, hb9, hn9, h1n, hn1, hbn⟩, a3, a4, hbg⟩ := hI.2.2.2.2.2.2.2.2.2.2.1 k hk
  obtain ⟨b2, hfb, hb2⟩ := aq_mvF_0 hI.1 hn9 h1n hn1 hf_9
  have hI2 : Iv (ti (ti (ti τ 12 k f9) 15 k 0) 16 k 0) nw ns nl nc := hI.chg hk (fun i hi => by rw [ti_low (by omega), ti_low (by omega), ti_low (by omega)]) hrw hI.2.2.2.2.2.2.2.2.2.2.2.2 ⟨⟨u, hu, hsu⟩, ⟨b2, n9, (upd_at ..).trans hfb, hn9, h1n, hn1, hb2⟩, a3, (show 0 ≤ upd (τ 15) k 0 k ∧ upd (τ 15) k 0 k ≤ τ 14 k by rw [upd_at]; exact ⟨by decide, by have h9 := a3.1; clear hX HP hX2; lia⟩), hbg⟩
  refine ro_callV MC HS (rest := []) (As := [.ref (ad (60 + k))]) (x_countBad hX2 hI2 hk) (lkX6_143) (kw446) (kw10) ⟨Nat.le_of_ble_eq_true rfl, Nat.le_of_ble_eq_true rfl⟩ (ro_recv MC HP (hRR.l (by decide)) ((va_up_ne _ _ (by omega)).trans ((va_up_ne _ _ (by omega)).trans ((va_up_ne _ _ (by omega)).trans h0))) (rfl : vwCl[5]? = some (RX6, TX6, 11))) hl.1 rfl (Nat.le_of_ble_eq_true rfl) dX6_move_43 ⟨Nat.le_of_ble_eq_true rfl, Nat.le_of_ble_eq_true rfl⟩ (fun v9 H7 lH7 hp hz HS => ?_)
  obtain ⟨cn3, hX3, h63, rfl⟩ := hp
  exact ro_MT (ro_iretM MC HS hr (⟨aq_move_3 hf_8 hkc hle15 hf_9 hf_10, by rw [rt_move, e2, hkc], by rw [e2]; exact ⟨RR, ad, cn3, nw, ns, nl, nc, hX3, hI2, fun _ _ => rfl, fun r hr1 hr2 => (h63 r (by omega)).trans ((va_up_ne _ _ (by omega)).trans ((va_up_ne _ _ (by omega)).trans (va_up_ne _ _ (by omega))))⟩⟩) (Nat.le_of_ble_eq_true rfl) (Nat.le_of_ble_eq_true rfl) dX6_move_46)
set_option maxHeartbeats 4000000 in
set_option maxRecDepth 100000 in
theorem q_offset {l : Launch} (hl9 : l.stackTraces = false) {D : va_G} {ids : Nat → ClassId} {n0 : Nat} {RR : List Nat} {ad : Nat → Nat} {cn : Nat → va_E} {τ : Tau} {ns nl nc : Nat} {Hh : Heap} (hX : xH D ids n0 RR ad cn τ ns nl nc Hh) {nw : Nat} (hI : Iv τ nw ns nl nc) {a9 b9 : Int32} : ro_T l yX6_offset cX6_offset 5 (some FieldType.int) { frames := 8, cells := 8, slots := 48, locals := 240 } D ids n0 [.ref (ad 0), .int a9, .int b9] Hh (fun v H1 => th_offset τ a9 b9 = 0 ∧ v = some (.int (rt_offset τ a9 b9)) ∧ aft D ids n0 ad cn (nx_offset τ a9 b9) H1) (fun E9 H1 => grow Hh H1 ∧ ((th_offset τ a9 b9 = 1 ∧ E9 = "java/lang/IndexOutOfBoundsException") ∨ (th_offset τ a9 b9 = 2 ∧ E9 = "java/lang/IllegalArgumentException"))) := by
  refine ro_ofT (by decide +kernel) (Nat.le_of_ble_eq_true rfl) ?_
  intro p e s m below meth c MC hhp hr hno HS ls hl
  have hx := MC.1.1
  have hb := MC.1.2.1
  have hl : lv_has ls 5 [(0, .ref (ad 0)), (1, .int a9), (2, .int b9)] := hl
  obtain ⟨HP, hRR, sa, bm, fm, lf, ff, cf, h0, h1, h1b, h2, h2b, h7, h7b, h3, h3b, h40, h4, h4b, h60, h5, h6⟩ := id hX
  have hwb := hI.wb
  have hsb := hI.sb
  have hlb := hI.lb
  have hcb := hI.cb
  have hnl := hI.2.2.1.2
  have hns := hI.2.1.2.2
  have hnc := hI.2.2.2.1.2
  have hcs : cx (τ 0 2) = nl := by rw [hI.2.2.1.1]; exact cx_nI (by omega)
  refine lv_aload_n hx hb dX6_offset_0 rfl (lv_at hl 0 rfl) ?_
  refine lv_iload_n hx hb dX6_offset_1 rfl (lv_at hl 1 rfl) ?_
  refine ro_callVT MC HS (rest := []) (As := [.int a9]) (x_needLand hl9 hX hI) (lkX6_54) (kw194) (kw2) ⟨Nat.le_of_ble_eq_true rfl, Nat.le_of_ble_eq_true rfl⟩ (ro_recv MC HP (hRR.l (by decide)) h0 (rfl : vwCl[5]? = some (RX6, TX6, 11))) hl.1 rfl (Nat.le_of_ble_eq_true rfl) dX6_offset_2 ⟨Nat.le_of_ble_eq_true rfl, Nat.le_of_ble_eq_true rfl⟩ (ro_out MC hno (Nat.le_of_ble_eq_true rfl) (Nat.le_of_ble_eq_true rfl) (fun E9 H9 hp => by obtain ⟨hg9, rfl, hn9⟩ := hp; exact ⟨hg9, Or.inl (⟨aq_offset_0 hn9, rfl⟩)⟩)) (fun v9 H1 lH1 hp hz HS => ?_)
  obtain ⟨d, hd, hda, hdc, hf_11, rfl, rfl⟩ := hp
  refine lv_astore_n (lv' := [(3, .ref (ad (7 + d))), (0, .ref (ad 0)), (1, .int a9), (2, .int b9)]) hx hb dX6_offset_5 rfl hl (by decide) rfl (fun ls hl => ?_)
  refine lv_iload_n hx hb dX6_offset_6 rfl (lv_at hl 3 rfl) ?_
  refine lv_bipush (v := (-11)) hx hb dX6_offset_7 (by decide) ?_
  refine lv_bipush (v := 12) hx hb dX6_offset_9 (by decide) ?_
  refine ro_callST MC HS (rest := []) (As := [.int b9, .int ((-11)), .int 12]) (x_needRange hl9) (lkX6_58) (kw198) ⟨Nat.le_of_ble_eq_true rfl, Nat.le_of_ble_eq_true rfl⟩ hl.1 rfl (Nat.le_of_ble_eq_true rfl) dX6_offset_11 ⟨Nat.le_of_ble_eq_true rfl, Nat.le_of_ble_eq_true rfl⟩ (ro_out MC hno (Nat.le_of_ble_eq_true rfl) (Nat.le_of_ble_eq_true rfl) (fun E9 H9 hp => by obtain ⟨hg9, rfl, hn9⟩ := hp; exact ⟨hg9, Or.inr (⟨aq_offset_1 hf_11 hn9, rfl⟩)⟩)) (fun v9 H2 lH2 hp hz HS => ?_)
  obtain ⟨rfl, hf_12, rfl⟩ := hp
  have hof := hf_12
  refine lv_aload_n hx hb dX6_offset_14 rfl (lv_at hl 0 rfl) ?_
  refine ro_get MC HP (hRR.l (show 7 + d < 18 by omega)) (h7 d (by omega)) (rfl : vwCl[4]? = some (RX5, TX5, 2)) inU5 0 (by decide) kw52 rfl rfl dX6_offset_15 ?_
  refine lv_istore (lv' := [(4, .int (τ 2 d)), (3, .ref (ad (7 + d))), (0, .ref (ad 0)), (1, .int a9), (2, .int b9)]) hx hb dX6_offset_18 hl (by decide) rfl (fun ls hl => ?_)
  refine lv_aload_n hx hb dX6_offset_20 rfl (lv_at hl 1 rfl) ?_
  refine lv_iload_n hx hb dX6_offset_21 rfl (lv_at hl 4 rfl) ?_
  refine ro_put MC HP HS (hRR.l (show 7 + d < 18 by omega)) (h7 d (by omega)) (rfl : vwCl[4]? = some (RX5, TX5, 2)) inU5 tyX5_ok nmX5 0 (by decide) kw52 rfl rfl rfl rfl (Nat.le_of_ble_eq_true rfl) dX6_offset_22 (fun H3 lH3 HP HS => ?_)
  refine lv_iload hx hb dX6_offset_25 (lv_at hl 0 rfl) ?_
  have e2 : nx_offset τ a9 b9 = ti τ 2 d b9 := by unfold nx_offset; rw [hdc]
  exact ro_MT (ro_iretM MC HS hr (⟨aq_offset_2 hf_11 hf_12, by rw [rt_offset, hdc], by rw [e2]; exact ⟨RR, ad, _, nw, ns, nl, nc, ⟨HP, hRR, _, _, _, _, _, _, isX.lnd (j9 := d) (f9 := fm d) ⟨h0, h1, h1b, h2, h2b, h7, h7b, h3, h3b, h40, h4, h4b, h60, h5, h6⟩ hI (fun r hr => (va_up_ne _ _ (by omega))) (fun i hi => ti_low (by omega)) (by omega) ((va_up_self ..).trans (by rw [show (ti τ 2 d b9) 2 d = b9 from upd_at ..]; rfl)) (fun j hj => upd_ne _ _ hj) (fun e he => h7b d (by omega) e he) (fun _ _ _ _ _ => rfl)⟩, hI.offset hof, fun _ _ => rfl, fun r hr1 hr2 => (va_up_ne _ _ (by omega))⟩⟩) (Nat.le_of_ble_eq_true rfl) (Nat.le_of_ble_eq_true rfl) dX6_offset_27)
set_option maxHeartbeats 4000000 in
set_option maxRecDepth 100000 in
theorem q_scope {l : Launch} (hl9 : l.stackTraces = false) {D : va_G} {ids : Nat → ClassId} {n0 : Nat} {RR : List Nat} {ad : Nat → Nat} {cn : Nat → va_E} {τ : Tau} {ns nl nc : Nat} {Hh : Heap} (hX : xH D ids n0 RR ad cn τ ns nl nc Hh) {nw : Nat} (hI : Iv τ nw ns nl nc) {a9 : Int32} : ro_T l yX6_scope cX6_scope 3 (some FieldType.int) { frames := 8, cells := 8, slots := 48, locals := 240 } D ids n0 [.ref (ad 0), .int a9] Hh (fun v H1 => th_scope τ a9 = 0 ∧ v = some (.int (rt_scope τ a9)) ∧ aft D ids n0 ad cn (nx_scope τ a9) H1) (fun E9 H1 => grow Hh H1 ∧ ((th_scope τ a9 = 1 ∧ E9 = "java/lang/IndexOutOfBoundsException") ∨ (th_scope τ a9 = 2 ∧ E9 = "java/lang/IllegalStateException"))) := by
  refine ro_ofT (by decide +kernel) (Nat.le_of_ble_eq_true rfl) ?_
  intro p e s m below meth c MC hhp hr hno HS ls hl
  have hx := MC.1.1
  have hb := MC.1.2.1
  have hl : lv_has ls 3 [(0, .ref (ad 0)), (1, .int a9)] := hl
  obtain ⟨HP, hRR, sa, bm, fm, lf, ff, cf, h0, h1, h1b, h2, h2b, h7, h7b, h3, h3b, h40, h4, h4b, h60, h5, h6⟩ := id hX
  have hwb := hI.wb
  have hsb := hI.sb
  have hlb := hI.lb
  have hcb := hI.cb
  have hnl := hI.2.2.1.2
  have hns := hI.2.1.2.2
  have hnc := hI.2.2.2.1.2
  have hcs : cx (τ 0 2) = nl := by rw [hI.2.2.1.1]; exact cx_nI (by omega)
  refine lv_aload_n hx hb dX6_scope_0 rfl (lv_at hl 0 rfl) ?_
  refine lv_iload_n hx hb dX6_scope_1 rfl (lv_at hl 1 rfl) ?_
  refine ro_callVT MC HS (rest := []) (As := [.int a9]) (x_needScope hl9 hX hI) (lkX6_43) (kw101) (kw0) ⟨Nat.le_of_ble_eq_true rfl, Nat.le_of_ble_eq_true rfl⟩ (ro_recv MC HP (hRR.l (by decide)) h0 (rfl : vwCl[5]? = some (RX6, TX6, 11))) hl.1 rfl (Nat.le_of_ble_eq_true rfl) dX6_scope_2 ⟨Nat.le_of_ble_eq_true rfl, Nat.le_of_ble_eq_true rfl⟩ (ro_out MC hno (Nat.le_of_ble_eq_true rfl) (Nat.le_of_ble_eq_true rfl) (fun E9 H9 hp => by obtain ⟨hg9, rfl, hn9⟩ := hp; exact ⟨hg9, Or.inl (⟨aq_scope_0 hsb hn9, rfl⟩)⟩)) (fun v9 H1 lH1 hp hz HS => ?_)
  obtain ⟨rfl, hf_13, rfl⟩ := hp
  obtain ⟨i, hi, hia, hic⟩ := hI.s hf_13
  refine lv_aload_n hx hb dX6_scope_5 rfl (lv_at hl 0 rfl) ?_
  refine ro_get MC HP (hRR.l (by decide)) h0 (rfl : vwCl[5]? = some (RX6, TX6, 11)) inU6 1 (by decide) kw62 rfl rfl dX6_scope_6 ?_
  refine lv_bipush (v := 16) hx hb dX6_scope_9 (by decide) ?_
  refine lv_icmp_lt (tgt := 24) hx hb dX6_scope_11 (by decide) (fun c_11 => ?_) (fun c_11 => ?_)
  · have hns16 : ns < 16 := lt_of hI.2.1.1 (by omega) (by omega) (by show ¬ 16 ≤ τ 0 1; clear hX HP; lia)
    refine lv_aload_n hx hb dX6_scope_24 rfl (lv_at hl 0 rfl) ?_
    refine ro_get MC HP (hRR.l (by decide)) h0 (rfl : vwCl[5]? = some (RX6, TX6, 11)) inU6 1 (by decide) kw62 rfl rfl dX6_scope_25 ?_
    refine lv_istore_n (lv' := [(2, .int (τ 0 1)), (0, .ref (ad 0)), (1, .int a9)]) hx hb dX6_scope_28 rfl hl (by decide) rfl (fun ls hl => ?_)
    refine lv_aload_n hx hb dX6_scope_29 rfl (lv_at hl 1 rfl) ?_
    refine ro_get MC HP (hRR.l (by decide)) h0 (rfl : vwCl[5]? = some (RX6, TX6, 11)) inU6 0 (by decide) kw61 rfl rfl dX6_scope_30 ?_
    refine lv_iload_n hx hb dX6_scope_33 rfl (lv_at hl 0 rfl) ?_
    refine lv_aload_n hx hb dX6_scope_34 rfl (lv_at hl 1 rfl) ?_
    refine ro_get MC HP (hRR.l (by decide)) h0 (rfl : vwCl[5]? = some (RX6, TX6, 11)) inU6 0 (by decide) kw61 rfl rfl dX6_scope_35 ?_
    refine lv_iload_n hx hb dX6_scope_38 rfl (lv_at hl 2 rfl) ?_
    refine xo_iald MC HP (hRR.l (show 1 < 18 by omega)) h1 i (show i < 16 by omega) (by omega) hia dX6_scope_39 ?_
    refine lv_iconst (v := 1) hx hb dX6_scope_40 (by decide) ?_
    refine lv_iload_n hx hb dX6_scope_41 rfl (lv_at hl 0 rfl) ?_
    refine lv_ishl hx hb dX6_scope_42 ?_
    refine lv_ior hx hb dX6_scope_43 ?_
    refine xo_iast MC HP HS (hRR.l (by decide)) h1 ns (show ns < 16 by omega) (by omega) hI.2.1.1 dX6_scope_44 (fun H2 lH2 HP HS => ?_)
    refine lv_aload_n hx hb dX6_scope_45 rfl (lv_at hl 1 rfl) ?_
    refine lv_iload_n hx hb dX6_scope_46 rfl (lv_at hl 0 rfl) ?_
    refine lv_iconst (v := 1) hx hb dX6_scope_47 (by decide) ?_
    refine lv_iadd hx hb dX6_scope_48 ?_
    refine ro_put MC HP HS (hRR.l (by decide)) ((va_up_ne _ _ (by omega)).trans h0) (rfl : vwCl[5]? = some (RX6, TX6, 11)) inU6 tyX6_ok nmX6 1 (by decide) kw62 rfl rfl rfl rfl (Nat.le_of_ble_eq_true rfl) dX6_scope_49 (fun H3 lH3 HP HS => ?_)
    refine lv_iload_n hx hb dX6_scope_52 rfl (lv_at hl 0 rfl) ?_
    have e2 : nx_scope τ a9 = t0 (ti τ 1 ns (nI i)) 1 (τ 0 1 + 1) := by unfold nx_scope; rw [hI.2.1.1, cx_nI (by omega), ← hia]
    have hnn : ¬ τ 0 1 = 16 := by intro h9; rw [hI.2.1.1] at h9; exact absurd ((nI_eq (by omega) (by omega) : nI ns = nI 16 ↔ _).mp h9) (by omega)
    have hI2 := hI.scope hi hnn
    rw [← hia] at hI2
    exact ro_MT (ro_iretM MC HS hr (⟨aq_scope_1 hsb hf_13 c_11, rfl, RR, ad, _, nw, (ns + 1), nl, nc, ⟨HP, hRR, _, _, _, _, _, _, isX.scp ⟨h0, h1, h1b, h2, h2b, h7, h7b, h3, h3b, h40, h4, h4b, h60, h5, h6⟩ hI (fun r hr => ((va_up_ne _ _ (by omega)).trans (va_up_ne _ _ (by omega)))) (fun i hi => by rw [e2]; show va_up _ 0 _ i = _; rw [va_up_ne _ _ (by omega), ti_low (by omega)]) ((va_up_self ..).trans (by rw [e2]; rfl)) ((va_up_ne _ _ (by omega)).trans (va_up_self ..)) (by rw [e2, hI.2.1.1]; exact sc_bit hI h1b hi hns16)⟩, hI2, fun _ _ => rfl, fun r hr1 hr2 => ((va_up_ne _ _ (by omega)).trans (va_up_ne _ _ (by omega)))⟩) (Nat.le_of_ble_eq_true rfl) (Nat.le_of_ble_eq_true rfl) dX6_scope_53)
  · exact ro_throw hl9 MC HS hno th_49 hl.1 dX6_scope_14 dX6_scope_17 dX6_scope_18 dX6_scope_20 dX6_scope_23 ⟨Nat.le_of_ble_eq_true rfl, Nat.le_of_ble_eq_true rfl, Nat.le_of_ble_eq_true rfl, Nat.le_of_ble_eq_true rfl⟩ (fun H9 hz9 hq9 => ⟨⟨hz9, hq9⟩, Or.inr (⟨aq_scope_2 hsb hf_13 c_11, rfl⟩)⟩) (Nat.le_of_ble_eq_true rfl) (Nat.le_of_ble_eq_true rfl)
