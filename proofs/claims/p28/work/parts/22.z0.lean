theorem aq_once_0 {τ : Tau} {s9 f9 t9 r9 : Int32} (hn9 : ¬ (0 ≤ s9 ∧ s9 ≤ τ 0 1 - 1)) : th_once τ s9 f9 t9 r9 = 1 := by
  unfold th_once; grind
theorem aq_once_1 {τ : Tau} {s9 f9 t9 r9 : Int32} (hf_1 : 0 ≤ s9 ∧ s9 ≤ τ 0 1 - 1) (hn9 : ¬ (0 ≤ f9 ∧ f9 ≤ 671)) : th_once τ s9 f9 t9 r9 = 2 := by
  unfold th_once; grind
theorem aq_once_2 {τ : Tau} {s9 f9 t9 r9 : Int32} (hf_1 : 0 ≤ s9 ∧ s9 ≤ τ 0 1 - 1) (hf_2 : 0 ≤ f9 ∧ f9 ≤ 671) (hn9 : ¬ ((f9 + 1) ≤ t9 ∧ t9 ≤ 672)) : th_once τ s9 f9 t9 r9 = 2 := by
  unfold th_once; grind
theorem aq_once_3 {τ : Tau} {s9 f9 t9 r9 : Int32} (hf_1 : 0 ≤ s9 ∧ s9 ≤ τ 0 1 - 1) (hf_2 : 0 ≤ f9 ∧ f9 ≤ 671) (hf_3 : (f9 + 1) ≤ t9 ∧ t9 ≤ 672) (hn9 : ¬ (1 ≤ r9 ∧ r9 ≤ 3)) : th_once τ s9 f9 t9 r9 = 2 := by
  unfold th_once; grind
theorem aq_once_4 {τ : Tau} {s9 f9 t9 r9 : Int32} (hf_1 : 0 ≤ s9 ∧ s9 ≤ τ 0 1 - 1) (hf_2 : 0 ≤ f9 ∧ f9 ≤ 671) (hf_3 : (f9 + 1) ≤ t9 ∧ t9 ≤ 672) (hf_4 : 1 ≤ r9 ∧ r9 ≤ 3) (hn9 : τ 0 2 = 20) : th_once τ s9 f9 t9 r9 = 3 := by
  unfold th_once; grind
theorem aq_once_5 {τ : Tau} {s9 f9 t9 r9 : Int32} (hf_1 : 0 ≤ s9 ∧ s9 ≤ τ 0 1 - 1) (hf_2 : 0 ≤ f9 ∧ f9 ≤ 671) (hf_3 : (f9 + 1) ≤ t9 ∧ t9 ≤ 672) (hf_4 : 1 ≤ r9 ∧ r9 ≤ 3) (hf_5 : ¬ (20 ≤ τ 0 2)) : th_once τ s9 f9 t9 r9 = 0 := by
  unfold th_once; grind
theorem aq_daily_0 {τ : Tau} {s9 a9 f9 t9 r9 : Int32} (hn9 : ¬ (0 ≤ s9 ∧ s9 ≤ τ 0 1 - 1)) : th_daily τ s9 a9 f9 t9 r9 = 1 := by
  unfold th_daily; grind
theorem aq_daily_1 {τ : Tau} {s9 a9 f9 t9 r9 : Int32} (hf_6 : 0 ≤ s9 ∧ s9 ≤ τ 0 1 - 1) (hn9 : ¬ (0 ≤ a9 ∧ a9 ≤ 3)) : th_daily τ s9 a9 f9 t9 r9 = 1 := by
  unfold th_daily; grind
theorem aq_daily_2 {τ : Tau} {s9 a9 f9 t9 r9 : Int32} (hf_6 : 0 ≤ s9 ∧ s9 ≤ τ 0 1 - 1) (hf_7 : 0 ≤ a9 ∧ a9 ≤ 3) (hn9 : ¬ (0 ≤ f9 ∧ f9 ≤ 23)) : th_daily τ s9 a9 f9 t9 r9 = 2 := by
  unfold th_daily; grind
theorem aq_daily_3 {τ : Tau} {s9 a9 f9 t9 r9 : Int32} (hf_6 : 0 ≤ s9 ∧ s9 ≤ τ 0 1 - 1) (hf_7 : 0 ≤ a9 ∧ a9 ≤ 3) (hf_8 : 0 ≤ f9 ∧ f9 ≤ 23) (hn9 : ¬ (0 ≤ t9 ∧ t9 ≤ 23)) : th_daily τ s9 a9 f9 t9 r9 = 2 := by
  unfold th_daily; grind
theorem aq_daily_4 {τ : Tau} {s9 a9 f9 t9 r9 : Int32} (hf_6 : 0 ≤ s9 ∧ s9 ≤ τ 0 1 - 1) (hf_7 : 0 ≤ a9 ∧ a9 ≤ 3) (hf_8 : 0 ≤ f9 ∧ f9 ≤ 23) (hf_9 : 0 ≤ t9 ∧ t9 ≤ 23) (hn9 : ¬ (1 ≤ r9 ∧ r9 ≤ 3)) : th_daily τ s9 a9 f9 t9 r9 = 2 := by
  unfold th_daily; grind
theorem aq_daily_5 {τ : Tau} {s9 a9 f9 t9 r9 : Int32} (hf_6 : 0 ≤ s9 ∧ s9 ≤ τ 0 1 - 1) (hf_7 : 0 ≤ a9 ∧ a9 ≤ 3) (hf_8 : 0 ≤ f9 ∧ f9 ≤ 23) (hf_9 : 0 ≤ t9 ∧ t9 ≤ 23) (hf_10 : 1 ≤ r9 ∧ r9 ≤ 3) (hn9 : τ 0 2 = 20) : th_daily τ s9 a9 f9 t9 r9 = 3 := by
  unfold th_daily; grind
theorem aq_daily_6 {τ : Tau} {s9 a9 f9 t9 r9 : Int32} (hf_6 : 0 ≤ s9 ∧ s9 ≤ τ 0 1 - 1) (hf_7 : 0 ≤ a9 ∧ a9 ≤ 3) (hf_8 : 0 ≤ f9 ∧ f9 ≤ 23) (hf_9 : 0 ≤ t9 ∧ t9 ≤ 23) (hf_10 : 1 ≤ r9 ∧ r9 ≤ 3) (hf_11 : ¬ (20 ≤ τ 0 2)) : th_daily τ s9 a9 f9 t9 r9 = 0 := by
  unfold th_daily; grind
theorem aq_feasts_0 {τ : Tau} {s9 a9 r9 : Int32} (hn9 : ¬ (0 ≤ s9 ∧ s9 ≤ τ 0 1 - 1)) : th_feasts τ s9 a9 r9 = 1 := by
  unfold th_feasts; grind
theorem aq_feasts_1 {τ : Tau} {s9 a9 r9 : Int32} (hf_12 : 0 ≤ s9 ∧ s9 ≤ τ 0 1 - 1) (hn9 : ¬ (0 ≤ a9 ∧ a9 ≤ 3)) : th_feasts τ s9 a9 r9 = 1 := by
  unfold th_feasts; grind
theorem aq_feasts_2 {τ : Tau} {s9 a9 r9 : Int32} (hf_12 : 0 ≤ s9 ∧ s9 ≤ τ 0 1 - 1) (hf_13 : 0 ≤ a9 ∧ a9 ≤ 3) (hn9 : ¬ (1 ≤ r9 ∧ r9 ≤ 3)) : th_feasts τ s9 a9 r9 = 2 := by
  unfold th_feasts; grind
theorem aq_feasts_3 {τ : Tau} {s9 a9 r9 : Int32} (hf_12 : 0 ≤ s9 ∧ s9 ≤ τ 0 1 - 1) (hf_13 : 0 ≤ a9 ∧ a9 ≤ 3) (hf_14 : 1 ≤ r9 ∧ r9 ≤ 3) (hn9 : τ 0 2 = 20) : th_feasts τ s9 a9 r9 = 3 := by
  unfold th_feasts; grind
theorem aq_feasts_4 {τ : Tau} {s9 a9 r9 : Int32} (hf_12 : 0 ≤ s9 ∧ s9 ≤ τ 0 1 - 1) (hf_13 : 0 ≤ a9 ∧ a9 ≤ 3) (hf_14 : 1 ≤ r9 ∧ r9 ≤ 3) (hf_15 : ¬ (20 ≤ τ 0 2)) : th_feasts τ s9 a9 r9 = 0 := by
  unfold th_feasts; grind
theorem aq_plan_0 {τ : Tau} {s9 f9 n9 r9 : Int32} (hcb : 0 ≤ τ 0 3 ∧ τ 0 3 ≤ 30) (hn9 : ¬ (0 ≤ s9 ∧ s9 ≤ τ 0 1 - 1)) : th_plan τ s9 f9 n9 r9 = 1 := by
  unfold th_plan; grind
theorem aq_plan_1 {τ : Tau} {s9 f9 n9 r9 : Int32} (hcb : 0 ≤ τ 0 3 ∧ τ 0 3 ≤ 30) (hf_16 : 0 ≤ s9 ∧ s9 ≤ τ 0 1 - 1) (hn9 : ¬ (1 ≤ n9 ∧ n9 ≤ 100)) : th_plan τ s9 f9 n9 r9 = 2 := by
  unfold th_plan; grind
theorem aq_plan_2 {τ : Tau} {s9 f9 n9 r9 : Int32} (hcb : 0 ≤ τ 0 3 ∧ τ 0 3 ≤ 30) (hf_16 : 0 ≤ s9 ∧ s9 ≤ τ 0 1 - 1) (hf_17 : 1 ≤ n9 ∧ n9 ≤ 100) (hn9 : ¬ (τ 0 0 ≤ f9 ∧ f9 < 672 ∧ f9 + n9 ≤ 672)) : th_plan τ s9 f9 n9 r9 = 2 := by
  unfold th_plan; grind
theorem aq_plan_3 {τ : Tau} {s9 f9 n9 r9 : Int32} (hcb : 0 ≤ τ 0 3 ∧ τ 0 3 ≤ 30) (hf_16 : 0 ≤ s9 ∧ s9 ≤ τ 0 1 - 1) (hf_17 : 1 ≤ n9 ∧ n9 ≤ 100) (hf_18 : τ 0 0 ≤ f9 ∧ f9 < 672 ∧ f9 + n9 ≤ 672) (hn9 : ¬ (1 ≤ r9 ∧ r9 ≤ 3)) : th_plan τ s9 f9 n9 r9 = 2 := by
  unfold th_plan; grind
theorem aq_plan_4 {τ : Tau} {s9 f9 n9 r9 : Int32} (hcb : 0 ≤ τ 0 3 ∧ τ 0 3 ≤ 30) (hf_16 : 0 ≤ s9 ∧ s9 ≤ τ 0 1 - 1) (hf_17 : 1 ≤ n9 ∧ n9 ≤ 100) (hf_18 : τ 0 0 ≤ f9 ∧ f9 < 672 ∧ f9 + n9 ≤ 672) (hf_19 : 1 ≤ r9 ∧ r9 ≤ 3) (c_38 : τ 0 3 < 30) : th_plan τ s9 f9 n9 r9 = 0 := by
  unfold th_plan; grind
theorem aq_plan_5 {τ : Tau} {s9 f9 n9 r9 : Int32} (hcb : 0 ≤ τ 0 3 ∧ τ 0 3 ≤ 30) (hf_16 : 0 ≤ s9 ∧ s9 ≤ τ 0 1 - 1) (hf_17 : 1 ≤ n9 ∧ n9 ≤ 100) (hf_18 : τ 0 0 ≤ f9 ∧ f9 < 672 ∧ f9 + n9 ≤ 672) (hf_19 : 1 ≤ r9 ∧ r9 ≤ 3) (c_38 : ¬ (τ 0 3 < 30)) : th_plan τ s9 f9 n9 r9 = 3 := by
  unfold th_plan; grind
set_option maxHeartbeats 4000000 in
set_option maxRecDepth 100000 in
theorem q_once {l : Launch} (hl9 : l.stackTraces = false) {D : va_G} {ids : Nat → ClassId} {n0 : Nat} {RR : List Nat} {ad : Nat → Nat} {cn : Nat → va_E} {τ : Tau} {ns nl nc : Nat} {Hh : Heap} (hX : xH D ids n0 RR ad cn τ ns nl nc Hh) {nw : Nat} (hI : Iv τ nw ns nl nc) {s9 f9 t9 r9 : Int32} : ro_T l yX6_once cX6_once 5 (some FieldType.int) { frames := 8, cells := 8, slots := 48, locals := 240 } D ids n0 [.ref (ad 0), .int s9, .int f9, .int t9, .int r9] Hh (fun v H1 => th_once τ s9 f9 t9 r9 = 0 ∧ v = some (.int (rt_once τ s9 f9 t9 r9)) ∧ aft D ids n0 ad cn (nx_once τ s9 f9 t9 r9) H1) (fun E9 H1 => grow Hh H1 ∧ ((th_once τ s9 f9 t9 r9 = 1 ∧ E9 = "java/lang/IndexOutOfBoundsException") ∨ (th_once τ s9 f9 t9 r9 = 2 ∧ E9 = "java/lang/IllegalArgumentException") ∨ (th_once τ s9 f9 t9 r9 = 3 ∧ E9 = "java/lang/IllegalStateException"))) := by
  refine ro_ofT (by decide +kernel) (Nat.le_of_ble_eq_true rfl) ?_
  intro p e s m below meth c MC hhp hr hno HS ls hl
  have hx := MC.1.1
  have hb := MC.1.2.1
  have hl : lv_has ls 5 [(0, .ref (ad 0)), (1, .int s9), (2, .int f9), (3, .int t9), (4, .int r9)] := hl
  obtain ⟨HP, hRR, sa, bm, fm, lf, ff, cf, h0, h1, h1b, h2, h2b, h7, h7b, h3, h3b, h40, h4, h4b, h60, h5, h6⟩ := id hX
  have hwb := hI.wb
  have hsb := hI.sb
  have hlb := hI.lb
  have hcb := hI.cb
  have hnl := hI.2.2.1.2
  have hns := hI.2.1.2.2
  have hnc := hI.2.2.2.1.2
  have hcs : cx (τ 0 2) = nl := by rw [hI.2.2.1.1]; exact cx_nI (by omega)
  refine lv_aload_n hx hb dX6_once_0 rfl (lv_at hl 0 rfl) ?_
  refine lv_iload_n hx hb dX6_once_1 rfl (lv_at hl 1 rfl) ?_
  refine ro_callVT MC HS (rest := []) (As := [.int s9]) (x_needScope hl9 hX hI) (lkX6_43) (kw101) (kw0) ⟨Nat.le_of_ble_eq_true rfl, Nat.le_of_ble_eq_true rfl⟩ (ro_recv MC HP (hRR.l (by decide)) h0 (rfl : vwCl[5]? = some (RX6, TX6, 11))) hl.1 rfl (Nat.le_of_ble_eq_true rfl) dX6_once_2 ⟨Nat.le_of_ble_eq_true rfl, Nat.le_of_ble_eq_true rfl⟩ (ro_out MC hno (Nat.le_of_ble_eq_true rfl) (Nat.le_of_ble_eq_true rfl) (fun E9 H9 hp => by obtain ⟨hg9, rfl, hn9⟩ := hp; exact ⟨hg9, Or.inl (⟨aq_once_0 hn9, rfl⟩)⟩)) (fun v9 H1 lH1 hp hz HS => ?_)
  obtain ⟨rfl, hf_1, rfl⟩ := hp
  obtain ⟨i, hi, hia, hic⟩ := hI.s hf_1
  refine lv_iload_n hx hb dX6_once_5 rfl (lv_at hl 2 rfl) ?_
  refine lv_iconst (v := 0) hx hb dX6_once_6 (by decide) ?_
  refine lv_sipush (v := 671) hx hb dX6_once_7 (by decide) ?_
  refine ro_callST MC HS (rest := []) (As := [.int f9, .int 0, .int 671]) (x_needRange hl9) (lkX6_58) (kw198) ⟨Nat.le_of_ble_eq_true rfl, Nat.le_of_ble_eq_true rfl⟩ hl.1 rfl (Nat.le_of_ble_eq_true rfl) dX6_once_10 ⟨Nat.le_of_ble_eq_true rfl, Nat.le_of_ble_eq_true rfl⟩ (ro_out MC hno (Nat.le_of_ble_eq_true rfl) (Nat.le_of_ble_eq_true rfl) (fun E9 H9 hp => by obtain ⟨hg9, rfl, hn9⟩ := hp; exact ⟨hg9, Or.inr (Or.inl (⟨aq_once_1 hf_1 hn9, rfl⟩))⟩)) (fun v9 H2 lH2 hp hz HS => ?_)
  obtain ⟨rfl, hf_2, rfl⟩ := hp
  refine lv_iload_n hx hb dX6_once_13 rfl (lv_at hl 3 rfl) ?_
  refine lv_iload_n hx hb dX6_once_14 rfl (lv_at hl 2 rfl) ?_
  refine lv_iconst (v := 1) hx hb dX6_once_15 (by decide) ?_
  refine lv_iadd hx hb dX6_once_16 ?_
  refine lv_sipush (v := 672) hx hb dX6_once_17 (by decide) ?_
  refine ro_callST MC HS (rest := []) (As := [.int t9, .int ((f9 + 1)), .int 672]) (x_needRange hl9) (lkX6_58) (kw198) ⟨Nat.le_of_ble_eq_true rfl, Nat.le_of_ble_eq_true rfl⟩ hl.1 rfl (Nat.le_of_ble_eq_true rfl) dX6_once_20 ⟨Nat.le_of_ble_eq_true rfl, Nat.le_of_ble_eq_true rfl⟩ (ro_out MC hno (Nat.le_of_ble_eq_true rfl) (Nat.le_of_ble_eq_true rfl) (fun E9 H9 hp => by obtain ⟨hg9, rfl, hn9⟩ := hp; exact ⟨hg9, Or.inr (Or.inl (⟨aq_once_2 hf_1 hf_2 hn9, rfl⟩))⟩)) (fun v9 H3 lH3 hp hz HS => ?_)
  obtain ⟨rfl, hf_3, rfl⟩ := hp
  refine lv_iload hx hb dX6_once_23 (lv_at hl 4 rfl) ?_
  refine lv_iconst (v := 1) hx hb dX6_once_25 (by decide) ?_
  refine lv_iconst (v := 3) hx hb dX6_once_26 (by decide) ?_
  refine ro_callST MC HS (rest := []) (As := [.int r9, .int 1, .int 3]) (x_needRange hl9) (lkX6_58) (kw198) ⟨Nat.le_of_ble_eq_true rfl, Nat.le_of_ble_eq_true rfl⟩ hl.1 rfl (Nat.le_of_ble_eq_true rfl) dX6_once_27 ⟨Nat.le_of_ble_eq_true rfl, Nat.le_of_ble_eq_true rfl⟩ (ro_out MC hno (Nat.le_of_ble_eq_true rfl) (Nat.le_of_ble_eq_true rfl) (fun E9 H9 hp => by obtain ⟨hg9, rfl, hn9⟩ := hp; exact ⟨hg9, Or.inr (Or.inl (⟨aq_once_3 hf_1 hf_2 hf_3 hn9, rfl⟩))⟩)) (fun v9 H4 lH4 hp hz HS => ?_)
  obtain ⟨rfl, hf_4, rfl⟩ := hp
  obtain ⟨r8, hr1, hr4, hra, hrc⟩ := okR.ix hf_4
  refine lv_aload_n hx hb dX6_once_30 rfl (lv_at hl 0 rfl) ?_
  refine ro_callVT MC HS (rest := []) (As := []) (x_needRoom hl9 hX hI) (lkX6_77) (kw246) (kw3) ⟨Nat.le_of_ble_eq_true rfl, Nat.le_of_ble_eq_true rfl⟩ (ro_recv MC HP (hRR.l (by decide)) h0 (rfl : vwCl[5]? = some (RX6, TX6, 11))) hl.1 rfl (Nat.le_of_ble_eq_true rfl) dX6_once_31 ⟨Nat.le_of_ble_eq_true rfl, Nat.le_of_ble_eq_true rfl⟩ (ro_out MC hno (Nat.le_of_ble_eq_true rfl) (Nat.le_of_ble_eq_true rfl) (fun E9 H9 hp => by obtain ⟨hg9, rfl, hn9⟩ := hp; exact ⟨hg9, Or.inr (Or.inr (⟨aq_once_4 hf_1 hf_2 hf_3 hf_4 hn9, rfl⟩))⟩)) (fun v9 H5 lH5 hp hz HS => ?_)
  obtain ⟨rfl, hf_5, rfl⟩ := hp
  refine lv_aload_n hx hb dX6_once_34 rfl (lv_at hl 0 rfl) ?_
  have hlt : nl < 20 := lt_of hI.2.2.1.1 (by omega) (by omega) hf_5
  refine ro_new MC HP HS (40 + nl) (hRR.nf hlt) [.int 0, .int 0, .int 0, .int 0] (rfl : vwCl[3]? = some (RX4, TX4, 4)) inU4 tyX4_ok kw249 kw250 kw26 (fun j hj => by rcases j with _ | _ | _ | _ | _ | _ | _ | _ | j <;> first | rfl | omega) (Nat.le_of_ble_eq_true rfl) (Nat.le_of_ble_eq_true rfl) dX6_once_35 (fun q9 H2 hq9 HP HS => ?_)
  have hFR : 40 + nl ∈ RR ++ [40 + nl] := List.mem_append_right _ (List.mem_singleton.mpr rfl)
  have had : ∀ r, r < 18 → va_up ad (40 + nl) q9 r = ad r := fun r hr => va_up_ne _ _ (by omega)
  refine lv_dup hx hb dX6_once_38 rfl ?_
  refine lv_iload_n hx hb dX6_once_39 rfl (lv_at hl 1 rfl) ?_
  refine lv_iload hx hb dX6_once_40 (lv_at hl 4 rfl) ?_
  refine lv_iload_n hx hb dX6_once_42 rfl (lv_at hl 2 rfl) ?_
  refine lv_iload_n hx hb dX6_once_43 rfl (lv_at hl 3 rfl) ?_
  have hini := x_iOnce (l := l) (ids := ids) HP (r := 40 + nl) hFR (s1 := s9) (r1 := r9) (f1 := f9) (t1 := t9) (va_up_self ..)
  rw [va_up_self] at hini
  refine ro_callI MC HS (rest := [.ref q9, .ref (ad 0)]) (As := [.int s9, .int r9, .int f9, .int t9]) (hini) (lkX6_82) (kw252) (rfl) ⟨Nat.le_of_ble_eq_true rfl, Nat.le_of_ble_eq_true rfl⟩ hl.1 rfl (Nat.le_of_ble_eq_true rfl) dX6_once_44 ⟨Nat.le_of_ble_eq_true rfl, Nat.le_of_ble_eq_true rfl⟩ (fun v9 H6 lH6 hp hz HS => ?_)
  obtain ⟨rfl, cn3, HP, hf3, hn3⟩ := hp
  have h0R : 0 ∈ RR ++ [40 + nl] := List.mem_append_left _ (hRR.l (by omega))
  have h3R : 3 ∈ RR ++ [40 + nl] := List.mem_append_left _ (hRR.l (by omega))
  have j0 : cn3 0 = .inr (5, xoF τ (va_up ad (40 + nl) q9)) := by rw [hn3 0 (by omega), va_up_ne _ _ (by omega), xoF_ad had]; exact h0
  have j3 : cn3 3 = .inl (ids 4, 20, .inr (.inr (.inr (.inr ff)))) := (hn3 3 (by omega)).trans ((va_up_ne _ _ (by omega)).trans h3)
  have had0 := had 0 (by omega)
  have hlay := x_lay (l := l) HP hI hlt h0R h3R hFR j0 j3 hf3 (rfl : vwCl[3]? = some (RX4, TX4, 4)) (by decide +kernel)
  rw [va_up_self, had0] at hlay
  refine ro_callV MC HS (rest := []) (As := [.ref q9]) (hlay) (lkX6_85) (kw275) (kw4) ⟨Nat.le_of_ble_eq_true rfl, Nat.le_of_ble_eq_true rfl⟩ (by have h9 := ro_recv MC HP h0R j0 (rfl : vwCl[5]? = some (RX6, TX6, 11)); rw [had0] at h9; exact h9) hl.1 rfl (Nat.le_of_ble_eq_true rfl) dX6_once_47 ⟨Nat.le_of_ble_eq_true rfl, Nat.le_of_ble_eq_true rfl⟩ (fun v9 H7 lH7 hp hz HS => ?_)
  obtain ⟨rfl, cn4, HP, k0, k3, hn4⟩ := hp
  have hn20 : ¬ τ 0 2 = 20 := by intro h9; rw [hI.2.2.1.1] at h9; exact absurd ((nI_eq (by omega) (by omega) : nI nl = nI 20 ↔ _).mp h9) (by omega)
  have hz4 : τ 4 nl = 0 := hI.2.2.2.2.2.2.2.2.1 nl (Nat.le_refl _) hlt
  have hI2 := hI.lays (how := 0) (a := f9) (b := t9) (i := i) (d := 0) (r := r8) (by first | exact Or.inl rfl | exact Or.inr (Or.inl rfl) | exact Or.inr (Or.inr rfl)) hi (by omega) hr1 (by omega) hn20
  rw [← hia, ← hra, nI_0] at hI2
  have k3b := lay_k3b (q := q9) h3b hz4
  rw [va_up_self] at k3b
  have k40 : ∀ k, k < nl + 1 → cn4 (40 + k) = frE (nx_lays τ 0 s9 0 f9 t9 r9) (va_up ad (40 + nl) q9) k := by
    intro k hk
    rw [hn4 _ (by omega) (by omega)]
    by_cases h9 : k = nl
    · rw [h9, hf3]; exact lay_new0 hcs
    · rw [hn3 _ (by omega), va_up_ne _ _ (by omega), lay_old hI (by omega)]; exact h40 k (by omega)
  exact ro_MT (ro_iretM MC HS hr (⟨aq_once_5 hf_1 hf_2 hf_3 hf_4 hf_5, rfl, ⟨RR ++ [40 + nl], (va_up ad (40 + nl) q9), cn4, nw, ns, nl + 1, nc, ⟨HP, hRR.addF hlt, _, _, _, _, _, _, isX.lay ⟨h0, h1, h1b, h2, h2b, h7, h7b, h3, h3b, h40, h4, h4b, h60, h5, h6⟩ hI (fun r hr => (hn4 r (by omega) (by omega)).trans ((hn3 r (by omega)).trans (va_up_ne _ _ (by omega)))) (fun i hi => lays_row hi) (fun r hr => va_up_ne _ _ hr) hlt (k0.trans (by rw [st_lay hI hlt (how := 0) (s := s9) (d := 0) (a := f9) (b := t9) (r := r9)]; rfl)) k3 (fun k hk => by rw [lays_row (by omega)]; exact k3b k hk) k40⟩, hI2, fun r hr => had r hr, fun r hr1 hr2 => (hn4 r (by omega) (by omega)).trans ((hn3 r (by omega)).trans (va_up_ne _ _ (by omega)))⟩⟩) (Nat.le_of_ble_eq_true rfl) (Nat.le_of_ble_eq_true rfl) dX6_once_50)
set_option maxHeartbeats 4000000 in
set_option maxRecDepth 100000 in
theorem q_daily {l : Launch} (hl9 : l.stackTraces = false) {D : va_G} {ids : Nat → ClassId} {n0 : Nat} {RR : List Nat} {ad : Nat → Nat} {cn : Nat → va_E} {τ : Tau} {ns nl nc : Nat} {Hh : Heap} (hX : xH D ids n0 RR ad cn τ ns nl nc Hh) {nw : Nat} (hI : Iv τ nw ns nl nc) {s9 a9 f9 t9 r9 : Int32} : ro_T l yX6_daily cX6_daily 7 (some FieldType.int) { frames := 8, cells := 8, slots := 48, locals := 240 } D ids n0 [.ref (ad 0), .int s9, .int a9, .int f9, .int t9, .int r9] Hh (fun v H1 => th_daily τ s9 a9 f9 t9 r9 = 0 ∧ v = some (.int (rt_daily τ s9 a9 f9 t9 r9)) ∧ aft D ids n0 ad cn (nx_daily τ s9 a9 f9 t9 r9) H1) (fun E9 H1 => grow Hh H1 ∧ ((th_daily τ s9 a9 f9 t9 r9 = 1 ∧ E9 = "java/lang/IndexOutOfBoundsException") ∨ (th_daily τ s9 a9 f9 t9 r9 = 2 ∧ E9 = "java/lang/IllegalArgumentException") ∨ (th_daily τ s9 a9 f9 t9 r9 = 3 ∧ E9 = "java/lang/IllegalStateException"))) := by
  refine ro_ofT (by decide +kernel) (Nat.le_of_ble_eq_true rfl) ?_
  intro p e s m below meth c MC hhp hr hno HS ls hl
  have hx := MC.1.1
  have hb := MC.1.2.1
  have hl : lv_has ls 7 [(0, .ref (ad 0)), (1, .int s9), (2, .int a9), (3, .int f9), (4, .int t9), (5, .int r9)] := hl
  obtain ⟨HP, hRR, sa, bm, fm, lf, ff, cf, h0, h1, h1b, h2, h2b, h7, h7b, h3, h3b, h40, h4, h4b, h60, h5, h6⟩ := id hX
  have hwb := hI.wb
  have hsb := hI.sb
  have hlb := hI.lb
  have hcb := hI.cb
  have hnl := hI.2.2.1.2
  have hns := hI.2.1.2.2
  have hnc := hI.2.2.2.1.2
  have hcs : cx (τ 0 2) = nl := by rw [hI.2.2.1.1]; exact cx_nI (by omega)
  refine lv_aload_n hx hb dX6_daily_0 rfl (lv_at hl 0 rfl) ?_
  refine lv_iload_n hx hb dX6_daily_1 rfl (lv_at hl 1 rfl) ?_
  refine ro_callVT MC HS (rest := []) (As := [.int s9]) (x_needScope hl9 hX hI) (lkX6_43) (kw101) (kw0) ⟨Nat.le_of_ble_eq_true rfl, Nat.le_of_ble_eq_true rfl⟩ (ro_recv MC HP (hRR.l (by decide)) h0 (rfl : vwCl[5]? = some (RX6, TX6, 11))) hl.1 rfl (Nat.le_of_ble_eq_true rfl) dX6_daily_2 ⟨Nat.le_of_ble_eq_true rfl, Nat.le_of_ble_eq_true rfl⟩ (ro_out MC hno (Nat.le_of_ble_eq_true rfl) (Nat.le_of_ble_eq_true rfl) (fun E9 H9 hp => by obtain ⟨hg9, rfl, hn9⟩ := hp; exact ⟨hg9, Or.inl (⟨aq_daily_0 hn9, rfl⟩)⟩)) (fun v9 H1 lH1 hp hz HS => ?_)
  obtain ⟨rfl, hf_6, rfl⟩ := hp
  obtain ⟨i, hi, hia, hic⟩ := hI.s hf_6
  refine lv_aload_n hx hb dX6_daily_5 rfl (lv_at hl 0 rfl) ?_
  refine lv_iload_n hx hb dX6_daily_6 rfl (lv_at hl 2 rfl) ?_
  refine ro_callVT MC HS (rest := []) (As := [.int a9]) (x_needLand hl9 hX hI) (lkX6_54) (kw194) (kw2) ⟨Nat.le_of_ble_eq_true rfl, Nat.le_of_ble_eq_true rfl⟩ (ro_recv MC HP (hRR.l (by decide)) h0 (rfl : vwCl[5]? = some (RX6, TX6, 11))) hl.1 rfl (Nat.le_of_ble_eq_true rfl) dX6_daily_7 ⟨Nat.le_of_ble_eq_true rfl, Nat.le_of_ble_eq_true rfl⟩ (ro_out MC hno (Nat.le_of_ble_eq_true rfl) (Nat.le_of_ble_eq_true rfl) (fun E9 H9 hp => by obtain ⟨hg9, rfl, hn9⟩ := hp; exact ⟨hg9, Or.inl (⟨aq_daily_1 hf_6 hn9, rfl⟩)⟩)) (fun v9 H2 lH2 hp hz HS => ?_)
  obtain ⟨d, hd, hda, hdc, hf_7, rfl, rfl⟩ := hp
  refine lv_astore (lv' := [(6, .ref (ad (7 + d))), (0, .ref (ad 0)), (1, .int s9), (2, .int a9), (3, .int f9), (4, .int t9), (5, .int r9)]) hx hb dX6_daily_10 hl (by decide) rfl (fun ls hl => ?_)
  refine lv_iload_n hx hb dX6_daily_12 rfl (lv_at hl 4 rfl) ?_
  refine lv_iconst (v := 0) hx hb dX6_daily_13 (by decide) ?_
  refine lv_bipush (v := 23) hx hb dX6_daily_14 (by decide) ?_
  refine ro_callST MC HS (rest := []) (As := [.int f9, .int 0, .int 23]) (x_needRange hl9) (lkX6_58) (kw198) ⟨Nat.le_of_ble_eq_true rfl, Nat.le_of_ble_eq_true rfl⟩ hl.1 rfl (Nat.le_of_ble_eq_true rfl) dX6_daily_16 ⟨Nat.le_of_ble_eq_true rfl, Nat.le_of_ble_eq_true rfl⟩ (ro_out MC hno (Nat.le_of_ble_eq_true rfl) (Nat.le_of_ble_eq_true rfl) (fun E9 H9 hp => by obtain ⟨hg9, rfl, hn9⟩ := hp; exact ⟨hg9, Or.inr (Or.inl (⟨aq_daily_2 hf_6 hf_7 hn9, rfl⟩))⟩)) (fun v9 H3 lH3 hp hz HS => ?_)
  obtain ⟨rfl, hf_8, rfl⟩ := hp
  refine lv_iload hx hb dX6_daily_19 (lv_at hl 5 rfl) ?_
  refine lv_iconst (v := 0) hx hb dX6_daily_21 (by decide) ?_
  refine lv_bipush (v := 23) hx hb dX6_daily_22 (by decide) ?_
  refine ro_callST MC HS (rest := []) (As := [.int t9, .int 0, .int 23]) (x_needRange hl9) (lkX6_58) (kw198) ⟨Nat.le_of_ble_eq_true rfl, Nat.le_of_ble_eq_true rfl⟩ hl.1 rfl (Nat.le_of_ble_eq_true rfl) dX6_daily_24 ⟨Nat.le_of_ble_eq_true rfl, Nat.le_of_ble_eq_true rfl⟩ (ro_out MC hno (Nat.le_of_ble_eq_true rfl) (Nat.le_of_ble_eq_true rfl) (fun E9 H9 hp => by obtain ⟨hg9, rfl, hn9⟩ := hp; exact ⟨hg9, Or.inr (Or.inl (⟨aq_daily_3 hf_6 hf_7 hf_8 hn9, rfl⟩))⟩)) (fun v9 H4 lH4 hp hz HS => ?_)
  obtain ⟨rfl, hf_9, rfl⟩ := hp
  refine lv_iload hx hb dX6_daily_27 (lv_at hl 6 rfl) ?_
  refine lv_iconst (v := 1) hx hb dX6_daily_29 (by decide) ?_
  refine lv_iconst (v := 3) hx hb dX6_daily_30 (by decide) ?_
  refine ro_callST MC HS (rest := []) (As := [.int r9, .int 1, .int 3]) (x_needRange hl9) (lkX6_58) (kw198) ⟨Nat.le_of_ble_eq_true rfl, Nat.le_of_ble_eq_true rfl⟩ hl.1 rfl (Nat.le_of_ble_eq_true rfl) dX6_daily_31 ⟨Nat.le_of_ble_eq_true rfl, Nat.le_of_ble_eq_true rfl⟩ (ro_out MC hno (Nat.le_of_ble_eq_true rfl) (Nat.le_of_ble_eq_true rfl) (fun E9 H9 hp => by obtain ⟨hg9, rfl, hn9⟩ := hp; exact ⟨hg9, Or.inr (Or.inl (⟨aq_daily_4 hf_6 hf_7 hf_8 hf_9 hn9, rfl⟩))⟩)) (fun v9 H5 lH5 hp hz HS => ?_)
  obtain ⟨rfl, hf_10, rfl⟩ := hp
  obtain ⟨r8, hr1, hr4, hra, hrc⟩ := okR.ix hf_10
  refine lv_aload_n hx hb dX6_daily_34 rfl (lv_at hl 1 rfl) ?_
  refine ro_callVT MC HS (rest := []) (As := []) (x_needRoom hl9 hX hI) (lkX6_77) (kw246) (kw3) ⟨Nat.le_of_ble_eq_true rfl, Nat.le_of_ble_eq_true rfl⟩ (ro_recv MC HP (hRR.l (by decide)) h0 (rfl : vwCl[5]? = some (RX6, TX6, 11))) hl.1 rfl (Nat.le_of_ble_eq_true rfl) dX6_daily_35 ⟨Nat.le_of_ble_eq_true rfl, Nat.le_of_ble_eq_true rfl⟩ (ro_out MC hno (Nat.le_of_ble_eq_true rfl) (Nat.le_of_ble_eq_true rfl) (fun E9 H9 hp => by obtain ⟨hg9, rfl, hn9⟩ := hp; exact ⟨hg9, Or.inr (Or.inr (⟨aq_daily_5 hf_6 hf_7 hf_8 hf_9 hf_10 hn9, rfl⟩))⟩)) (fun v9 H6 lH6 hp hz HS => ?_)
  obtain ⟨rfl, hf_11, rfl⟩ := hp
  refine lv_aload_n hx hb dX6_daily_38 rfl (lv_at hl 1 rfl) ?_
  have hlt : nl < 20 := lt_of hI.2.2.1.1 (by omega) (by omega) hf_11
  refine ro_new MC HP HS (40 + nl) (hRR.nf hlt) [.int 0, .int 0, .null, .int 0, .int 0] (rfl : vwCl[1]? = some (RX2, TX2, 5)) inU2 tyX2_ok kw281 kw282 kw27 (fun j hj => by rcases j with _ | _ | _ | _ | _ | _ | _ | _ | j <;> first | rfl | omega) (Nat.le_of_ble_eq_true rfl) (Nat.le_of_ble_eq_true rfl) dX6_daily_39 (fun q9 H2 hq9 HP HS => ?_)
  have hFR : 40 + nl ∈ RR ++ [40 + nl] := List.mem_append_right _ (List.mem_singleton.mpr rfl)
  have had : ∀ r, r < 18 → va_up ad (40 + nl) q9 r = ad r := fun r hr => va_up_ne _ _ (by omega)
  refine lv_dup hx hb dX6_daily_42 rfl ?_
  refine lv_iload_n hx hb dX6_daily_43 rfl (lv_at hl 2 rfl) ?_
  refine lv_iload hx hb dX6_daily_44 (lv_at hl 6 rfl) ?_
  refine lv_aload hx hb dX6_daily_46 (lv_at hl 0 rfl) ?_
  refine lv_iload_n hx hb dX6_daily_48 rfl (lv_at hl 4 rfl) ?_
  refine lv_iload hx hb dX6_daily_49 (lv_at hl 5 rfl) ?_
  have hini := x_iDaily (l := l) (ids := ids) HP (r := 40 + nl) hFR (s1 := s9) (r1 := r9) (b1 := ad (7 + d)) (f1 := f9) (t1 := t9) (va_up_self ..)
  rw [va_up_self] at hini
  refine ro_callI MC HS (rest := [.ref q9, .ref (ad 0)]) (As := [.int s9, .int r9, .ref (ad (7 + d)), .int f9, .int t9]) (hini) (lkX6_91) (kw284) (rfl) ⟨Nat.le_of_ble_eq_true rfl, Nat.le_of_ble_eq_true rfl⟩ hl.1 rfl (Nat.le_of_ble_eq_true rfl) dX6_daily_51 ⟨Nat.le_of_ble_eq_true rfl, Nat.le_of_ble_eq_true rfl⟩ (fun v9 H7 lH7 hp hz HS => ?_)
  obtain ⟨rfl, cn3, HP, hf3, hn3⟩ := hp
  have h0R : 0 ∈ RR ++ [40 + nl] := List.mem_append_left _ (hRR.l (by omega))
  have h3R : 3 ∈ RR ++ [40 + nl] := List.mem_append_left _ (hRR.l (by omega))
  have j0 : cn3 0 = .inr (5, xoF τ (va_up ad (40 + nl) q9)) := by rw [hn3 0 (by omega), va_up_ne _ _ (by omega), xoF_ad had]; exact h0
  have j3 : cn3 3 = .inl (ids 4, 20, .inr (.inr (.inr (.inr ff)))) := (hn3 3 (by omega)).trans ((va_up_ne _ _ (by omega)).trans h3)
  have had0 := had 0 (by omega)
  have hlay := x_lay (l := l) HP hI hlt h0R h3R hFR j0 j3 hf3 (rfl : vwCl[1]? = some (RX2, TX2, 5)) (by decide +kernel)
  rw [va_up_self, had0] at hlay
  refine ro_callV MC HS (rest := []) (As := [.ref q9]) (hlay) (lkX6_85) (kw275) (kw4) ⟨Nat.le_of_ble_eq_true rfl, Nat.le_of_ble_eq_true rfl⟩ (by have h9 := ro_recv MC HP h0R j0 (rfl : vwCl[5]? = some (RX6, TX6, 11)); rw [had0] at h9; exact h9) hl.1 rfl (Nat.le_of_ble_eq_true rfl) dX6_daily_54 ⟨Nat.le_of_ble_eq_true rfl, Nat.le_of_ble_eq_true rfl⟩ (fun v9 H8 lH8 hp hz HS => ?_)
  obtain ⟨rfl, cn4, HP, k0, k3, hn4⟩ := hp
  have hn20 : ¬ τ 0 2 = 20 := by intro h9; rw [hI.2.2.1.1] at h9; exact absurd ((nI_eq (by omega) (by omega) : nI nl = nI 20 ↔ _).mp h9) (by omega)
  have hz4 : τ 4 nl = 0 := hI.2.2.2.2.2.2.2.2.1 nl (Nat.le_refl _) hlt
  have hI2 := hI.lays (how := 1) (a := f9) (b := t9) (i := i) (d := d) (r := r8) (by first | exact Or.inl rfl | exact Or.inr (Or.inl rfl) | exact Or.inr (Or.inr rfl)) hi (by omega) hr1 (by omega) hn20
  rw [← hia, ← hra, ← hda] at hI2
  have k3b := lay_k3b (q := q9) h3b hz4
  rw [va_up_self] at k3b
  have k40 : ∀ k, k < nl + 1 → cn4 (40 + k) = frE (nx_lays τ 1 s9 a9 f9 t9 r9) (va_up ad (40 + nl) q9) k := by
    intro k hk
    rw [hn4 _ (by omega) (by omega)]
    by_cases h9 : k = nl
    · rw [h9, hf3, ← had (7 + d) (by omega)]; exact lay_new1 hcs hdc
    · rw [hn3 _ (by omega), va_up_ne _ _ (by omega), lay_old hI (by omega)]; exact h40 k (by omega)
  exact ro_MT (ro_iretM MC HS hr (⟨aq_daily_6 hf_6 hf_7 hf_8 hf_9 hf_10 hf_11, rfl, ⟨RR ++ [40 + nl], (va_up ad (40 + nl) q9), cn4, nw, ns, nl + 1, nc, ⟨HP, hRR.addF hlt, _, _, _, _, _, _, isX.lay ⟨h0, h1, h1b, h2, h2b, h7, h7b, h3, h3b, h40, h4, h4b, h60, h5, h6⟩ hI (fun r hr => (hn4 r (by omega) (by omega)).trans ((hn3 r (by omega)).trans (va_up_ne _ _ (by omega)))) (fun i hi => lays_row hi) (fun r hr => va_up_ne _ _ hr) hlt (k0.trans (by rw [st_lay hI hlt (how := 1) (s := s9) (d := a9) (a := f9) (b := t9) (r := r9)]; rfl)) k3 (fun k hk => by rw [lays_row (by omega)]; exact k3b k hk) k40⟩, hI2, fun r hr => had r hr, fun r hr1 hr2 => (hn4 r (by omega) (by omega)).trans ((hn3 r (by omega)).trans (va_up_ne _ _ (by omega)))⟩⟩) (Nat.le_of_ble_eq_true rfl) (Nat.le_of_ble_eq_true rfl) dX6_daily_57)
set_option maxHeartbeats 4000000 in
set_option maxRecDepth 100000 in
theorem q_feasts {l : Launch} (hl9 : l.stackTraces = false) {D : va_G} {ids : Nat → ClassId} {n0 : Nat} {RR : List Nat} {ad : Nat → Nat} {cn : Nat → va_E} {τ : Tau} {ns nl nc : Nat} {Hh : Heap} (hX : xH D ids n0 RR ad cn τ ns nl nc Hh) {nw : Nat} (hI : Iv τ nw ns nl nc) {s9 a9 r9 : Int32} : ro_T l yX6_feasts cX6_feasts 5 (some FieldType.int) { frames := 8, cells := 8, slots := 48, locals := 240 } D ids n0 [.ref (ad 0), .int s9, .int a9, .int r9] Hh (fun v H1 => th_feasts τ s9 a9 r9 = 0 ∧ v = some (.int (rt_feasts τ s9 a9 r9)) ∧ aft D ids n0 ad cn (nx_feasts τ s9 a9 r9) H1) (fun E9 H1 => grow Hh H1 ∧ ((th_feasts τ s9 a9 r9 = 1 ∧ E9 = "java/lang/IndexOutOfBoundsException") ∨ (th_feasts τ s9 a9 r9 = 2 ∧ E9 = "java/lang/IllegalArgumentException") ∨ (th_feasts τ s9 a9 r9 = 3 ∧ E9 = "java/lang/IllegalStateException"))) := by
  refine ro_ofT (by decide +kernel) (Nat.le_of_ble_eq_true rfl) ?_
  intro p e s m below meth c MC hhp hr hno HS ls hl
  have hx := MC.1.1
  have hb := MC.1.2.1
  have hl : lv_has ls 5 [(0, .ref (ad 0)), (1, .int s9), (2, .int a9), (3, .int r9)] := hl
  obtain ⟨HP, hRR, sa, bm, fm, lf, ff, cf, h0, h1, h1b, h2, h2b, h7, h7b, h3, h3b, h40, h4, h4b, h60, h5, h6⟩ := id hX
  have hwb := hI.wb
  have hsb := hI.sb
  have hlb := hI.lb
  have hcb := hI.cb
  have hnl := hI.2.2.1.2
  have hns := hI.2.1.2.2
  have hnc := hI.2.2.2.1.2
  have hcs : cx (τ 0 2) = nl := by rw [hI.2.2.1.1]; exact cx_nI (by omega)
  refine lv_aload_n hx hb dX6_feasts_0 rfl (lv_at hl 0 rfl) ?_
  refine lv_iload_n hx hb dX6_feasts_1 rfl (lv_at hl 1 rfl) ?_
  refine ro_callVT MC HS (rest := []) (As := [.int s9]) (x_needScope hl9 hX hI) (lkX6_43) (kw101) (kw0) ⟨Nat.le_of_ble_eq_true rfl, Nat.le_of_ble_eq_true rfl⟩ (ro_recv MC HP (hRR.l (by decide)) h0 (rfl : vwCl[5]? = some (RX6, TX6, 11))) hl.1 rfl (Nat.le_of_ble_eq_true rfl) dX6_feasts_2 ⟨Nat.le_of_ble_eq_true rfl, Nat.le_of_ble_eq_true rfl⟩ (ro_out MC hno (Nat.le_of_ble_eq_true rfl) (Nat.le_of_ble_eq_true rfl) (fun E9 H9 hp => by obtain ⟨hg9, rfl, hn9⟩ := hp; exact ⟨hg9, Or.inl (⟨aq_feasts_0 hn9, rfl⟩)⟩)) (fun v9 H1 lH1 hp hz HS => ?_)
  obtain ⟨rfl, hf_12, rfl⟩ := hp
  obtain ⟨i, hi, hia, hic⟩ := hI.s hf_12
  refine lv_aload_n hx hb dX6_feasts_5 rfl (lv_at hl 0 rfl) ?_
  refine lv_iload_n hx hb dX6_feasts_6 rfl (lv_at hl 2 rfl) ?_
  refine ro_callVT MC HS (rest := []) (As := [.int a9]) (x_needLand hl9 hX hI) (lkX6_54) (kw194) (kw2) ⟨Nat.le_of_ble_eq_true rfl, Nat.le_of_ble_eq_true rfl⟩ (ro_recv MC HP (hRR.l (by decide)) h0 (rfl : vwCl[5]? = some (RX6, TX6, 11))) hl.1 rfl (Nat.le_of_ble_eq_true rfl) dX6_feasts_7 ⟨Nat.le_of_ble_eq_true rfl, Nat.le_of_ble_eq_true rfl⟩ (ro_out MC hno (Nat.le_of_ble_eq_true rfl) (Nat.le_of_ble_eq_true rfl) (fun E9 H9 hp => by obtain ⟨hg9, rfl, hn9⟩ := hp; exact ⟨hg9, Or.inl (⟨aq_feasts_1 hf_12 hn9, rfl⟩)⟩)) (fun v9 H2 lH2 hp hz HS => ?_)
  obtain ⟨d, hd, hda, hdc, hf_13, rfl, rfl⟩ := hp
  refine lv_astore (lv' := [(4, .ref (ad (7 + d))), (0, .ref (ad 0)), (1, .int s9), (2, .int a9), (3, .int r9)]) hx hb dX6_feasts_10 hl (by decide) rfl (fun ls hl => ?_)
  refine lv_iload_n hx hb dX6_feasts_12 rfl (lv_at hl 4 rfl) ?_
  refine lv_iconst (v := 1) hx hb dX6_feasts_13 (by decide) ?_
  refine lv_iconst (v := 3) hx hb dX6_feasts_14 (by decide) ?_
  refine ro_callST MC HS (rest := []) (As := [.int r9, .int 1, .int 3]) (x_needRange hl9) (lkX6_58) (kw198) ⟨Nat.le_of_ble_eq_true rfl, Nat.le_of_ble_eq_true rfl⟩ hl.1 rfl (Nat.le_of_ble_eq_true rfl) dX6_feasts_15 ⟨Nat.le_of_ble_eq_true rfl, Nat.le_of_ble_eq_true rfl⟩ (ro_out MC hno (Nat.le_of_ble_eq_true rfl) (Nat.le_of_ble_eq_true rfl) (fun E9 H9 hp => by obtain ⟨hg9, rfl, hn9⟩ := hp; exact ⟨hg9, Or.inr (Or.inl (⟨aq_feasts_2 hf_12 hf_13 hn9, rfl⟩))⟩)) (fun v9 H3 lH3 hp hz HS => ?_)
  obtain ⟨rfl, hf_14, rfl⟩ := hp
  obtain ⟨r8, hr1, hr4, hra, hrc⟩ := okR.ix hf_14
  refine lv_aload_n hx hb dX6_feasts_18 rfl (lv_at hl 1 rfl) ?_
  refine ro_callVT MC HS (rest := []) (As := []) (x_needRoom hl9 hX hI) (lkX6_77) (kw246) (kw3) ⟨Nat.le_of_ble_eq_true rfl, Nat.le_of_ble_eq_true rfl⟩ (ro_recv MC HP (hRR.l (by decide)) h0 (rfl : vwCl[5]? = some (RX6, TX6, 11))) hl.1 rfl (Nat.le_of_ble_eq_true rfl) dX6_feasts_19 ⟨Nat.le_of_ble_eq_true rfl, Nat.le_of_ble_eq_true rfl⟩ (ro_out MC hno (Nat.le_of_ble_eq_true rfl) (Nat.le_of_ble_eq_true rfl) (fun E9 H9 hp => by obtain ⟨hg9, rfl, hn9⟩ := hp; exact ⟨hg9, Or.inr (Or.inr (⟨aq_feasts_3 hf_12 hf_13 hf_14 hn9, rfl⟩))⟩)) (fun v9 H4 lH4 hp hz HS => ?_)
  obtain ⟨rfl, hf_15, rfl⟩ := hp
  refine lv_aload_n hx hb dX6_feasts_22 rfl (lv_at hl 1 rfl) ?_
  have hlt : nl < 20 := lt_of hI.2.2.1.1 (by omega) (by omega) hf_15
  refine ro_new MC HP HS (40 + nl) (hRR.nf hlt) [.int 0, .int 0, .null] (rfl : vwCl[2]? = some (RX3, TX3, 3)) inU3 tyX3_ok kw303 kw304 kw28 (fun j hj => by rcases j with _ | _ | _ | _ | _ | _ | _ | _ | j <;> first | rfl | omega) (Nat.le_of_ble_eq_true rfl) (Nat.le_of_ble_eq_true rfl) dX6_feasts_23 (fun q9 H2 hq9 HP HS => ?_)
  have hFR : 40 + nl ∈ RR ++ [40 + nl] := List.mem_append_right _ (List.mem_singleton.mpr rfl)
  have had : ∀ r, r < 18 → va_up ad (40 + nl) q9 r = ad r := fun r hr => va_up_ne _ _ (by omega)
  refine lv_dup hx hb dX6_feasts_26 rfl ?_
  refine lv_iload_n hx hb dX6_feasts_27 rfl (lv_at hl 2 rfl) ?_
  refine lv_iload_n hx hb dX6_feasts_28 rfl (lv_at hl 4 rfl) ?_
  refine lv_aload hx hb dX6_feasts_29 (lv_at hl 0 rfl) ?_
  have hini := x_iFeasts (l := l) (ids := ids) HP (r := 40 + nl) hFR (s1 := s9) (r1 := r9) (b1 := ad (7 + d)) (va_up_self ..)
  rw [va_up_self] at hini
  refine ro_callI MC HS (rest := [.ref q9, .ref (ad 0)]) (As := [.int s9, .int r9, .ref (ad (7 + d))]) (hini) (lkX6_96) (kw306) (rfl) ⟨Nat.le_of_ble_eq_true rfl, Nat.le_of_ble_eq_true rfl⟩ hl.1 rfl (Nat.le_of_ble_eq_true rfl) dX6_feasts_31 ⟨Nat.le_of_ble_eq_true rfl, Nat.le_of_ble_eq_true rfl⟩ (fun v9 H5 lH5 hp hz HS => ?_)
  obtain ⟨rfl, cn3, HP, hf3, hn3⟩ := hp
  have h0R : 0 ∈ RR ++ [40 + nl] := List.mem_append_left _ (hRR.l (by omega))
  have h3R : 3 ∈ RR ++ [40 + nl] := List.mem_append_left _ (hRR.l (by omega))
  have j0 : cn3 0 = .inr (5, xoF τ (va_up ad (40 + nl) q9)) := by rw [hn3 0 (by omega), va_up_ne _ _ (by omega), xoF_ad had]; exact h0
  have j3 : cn3 3 = .inl (ids 4, 20, .inr (.inr (.inr (.inr ff)))) := (hn3 3 (by omega)).trans ((va_up_ne _ _ (by omega)).trans h3)
  have had0 := had 0 (by omega)
  have hlay := x_lay (l := l) HP hI hlt h0R h3R hFR j0 j3 hf3 (rfl : vwCl[2]? = some (RX3, TX3, 3)) (by decide +kernel)
  rw [va_up_self, had0] at hlay
  refine ro_callV MC HS (rest := []) (As := [.ref q9]) (hlay) (lkX6_85) (kw275) (kw4) ⟨Nat.le_of_ble_eq_true rfl, Nat.le_of_ble_eq_true rfl⟩ (by have h9 := ro_recv MC HP h0R j0 (rfl : vwCl[5]? = some (RX6, TX6, 11)); rw [had0] at h9; exact h9) hl.1 rfl (Nat.le_of_ble_eq_true rfl) dX6_feasts_34 ⟨Nat.le_of_ble_eq_true rfl, Nat.le_of_ble_eq_true rfl⟩ (fun v9 H6 lH6 hp hz HS => ?_)
  obtain ⟨rfl, cn4, HP, k0, k3, hn4⟩ := hp
  have hn20 : ¬ τ 0 2 = 20 := by intro h9; rw [hI.2.2.1.1] at h9; exact absurd ((nI_eq (by omega) (by omega) : nI nl = nI 20 ↔ _).mp h9) (by omega)
  have hz4 : τ 4 nl = 0 := hI.2.2.2.2.2.2.2.2.1 nl (Nat.le_refl _) hlt
  have hI2 := hI.lays (how := 2) (a := 0) (b := 0) (i := i) (d := d) (r := r8) (by first | exact Or.inl rfl | exact Or.inr (Or.inl rfl) | exact Or.inr (Or.inr rfl)) hi (by omega) hr1 (by omega) hn20
  rw [← hia, ← hra, ← hda] at hI2
  have k3b := lay_k3b (q := q9) h3b hz4
  rw [va_up_self] at k3b
  have k40 : ∀ k, k < nl + 1 → cn4 (40 + k) = frE (nx_lays τ 2 s9 a9 0 0 r9) (va_up ad (40 + nl) q9) k := by
    intro k hk
    rw [hn4 _ (by omega) (by omega)]
    by_cases h9 : k = nl
    · rw [h9, hf3, ← had (7 + d) (by omega)]; exact lay_new2 hcs hdc
    · rw [hn3 _ (by omega), va_up_ne _ _ (by omega), lay_old hI (by omega)]; exact h40 k (by omega)
  exact ro_MT (ro_iretM MC HS hr (⟨aq_feasts_4 hf_12 hf_13 hf_14 hf_15, rfl, ⟨RR ++ [40 + nl], (va_up ad (40 + nl) q9), cn4, nw, ns, nl + 1, nc, ⟨HP, hRR.addF hlt, _, _, _, _, _, _, isX.lay ⟨h0, h1, h1b, h2, h2b, h7, h7b, h3, h3b, h40, h4, h4b, h60, h5, h6⟩ hI (fun r hr => (hn4 r (by omega) (by omega)).trans ((hn3 r (by omega)).trans (va_up_ne _ _ (by omega)))) (fun i hi => lays_row hi) (fun r hr => va_up_ne _ _ hr) hlt (k0.trans (by rw [st_lay hI hlt (how := 2) (s := s9) (d := a9) (a := 0) (b := 0) (r := r9)]; rfl)) k3 (fun k hk => by rw [lays_row (by omega)]; exact k3b k hk) k40⟩, hI2, fun r hr => had r hr, fun r hr1 hr2 => (hn4 r (by omega) (by omega)).trans ((hn3 r (by omega)).trans (va_up_ne _ _ (by omega)))⟩⟩) (Nat.le_of_ble_eq_true rfl) (Nat.le_of_ble_eq_true rfl) dX6_feasts_37)
set_option maxHeartbeats 4000000 in
set_option maxRecDepth 100000 in
theorem q_plan {l : Launch} (hl9 : l.stackTraces = false) {D : va_G} {ids : Nat → ClassId} {n0 : Nat} {RR : List Nat} {ad : Nat → Nat} {cn : Nat → va_E} {τ : Tau} {ns nl nc : Nat} {Hh : Heap} (hX : xH D ids n0 RR ad cn τ ns nl nc Hh) {nw : Nat} (hI : Iv τ nw ns nl nc) {s9 f9 n9 r9 : Int32} : ro_T l yX6_plan cX6_plan 6 (some FieldType.int) { frames := 8, cells := 8, slots := 48, locals := 240 } D ids n0 [.ref (ad 0), .int s9, .int f9, .int n9, .int r9] Hh (fun v H1 => th_plan τ s9 f9 n9 r9 = 0 ∧ v = some (.int (rt_plan τ s9 f9 n9 r9)) ∧ aft D ids n0 ad cn (nx_plan τ s9 f9 n9 r9) H1) (fun E9 H1 => grow Hh H1 ∧ ((th_plan τ s9 f9 n9 r9 = 1 ∧ E9 = "java/lang/IndexOutOfBoundsException") ∨ (th_plan τ s9 f9 n9 r9 = 2 ∧ E9 = "java/lang/IllegalArgumentException") ∨ (th_plan τ s9 f9 n9 r9 = 3 ∧ E9 = "java/lang/IllegalStateException"))) := by
  refine ro_ofT (by decide +kernel) (Nat.le_of_ble_eq_true rfl) ?_
  intro p e s m below meth c MC hhp hr hno HS ls hl
  have hx := MC.1.1
  have hb := MC.1.2.1
  have hl : lv_has ls 6 [(0, .ref (ad 0)), (1, .int s9), (2, .int f9), (3, .int n9), (4, .int r9)] := hl
  obtain ⟨HP, hRR, sa, bm, fm, lf, ff, cf, h0, h1, h1b, h2, h2b, h7, h7b, h3, h3b, h40, h4, h4b, h60, h5, h6⟩ := id hX
  have hwb := hI.wb
  have hsb := hI.sb
  have hlb := hI.lb
  have hcb := hI.cb
  have hnl := hI.2.2.1.2
  have hns := hI.2.1.2.2
  have hnc := hI.2.2.2.1.2
  have hcs : cx (τ 0 2) = nl := by rw [hI.2.2.1.1]; exact cx_nI (by omega)
  refine lv_aload_n hx hb dX6_plan_0 rfl (lv_at hl 0 rfl) ?_
  refine lv_iload_n hx hb dX6_plan_1 rfl (lv_at hl 1 rfl) ?_
  refine ro_callVT MC HS (rest := []) (As := [.int s9]) (x_needScope hl9 hX hI) (lkX6_43) (kw101) (kw0) ⟨Nat.le_of_ble_eq_true rfl, Nat.le_of_ble_eq_true rfl⟩ (ro_recv MC HP (hRR.l (by decide)) h0 (rfl : vwCl[5]? = some (RX6, TX6, 11))) hl.1 rfl (Nat.le_of_ble_eq_true rfl) dX6_plan_2 ⟨Nat.le_of_ble_eq_true rfl, Nat.le_of_ble_eq_true rfl⟩ (ro_out MC hno (Nat.le_of_ble_eq_true rfl) (Nat.le_of_ble_eq_true rfl) (fun E9 H9 hp => by obtain ⟨hg9, rfl, hn9⟩ := hp; exact ⟨hg9, Or.inl (⟨aq_plan_0 hcb hn9, rfl⟩)⟩)) (fun v9 H1 lH1 hp hz HS => ?_)
  obtain ⟨rfl, hf_16, rfl⟩ := hp
  obtain ⟨i, hi, hia, hic⟩ := hI.s hf_16
  refine lv_iload_n hx hb dX6_plan_5 rfl (lv_at hl 3 rfl) ?_
  refine lv_iconst (v := 1) hx hb dX6_plan_6 (by decide) ?_
  refine lv_bipush (v := 100) hx hb dX6_plan_7 (by decide) ?_
  refine ro_callST MC HS (rest := []) (As := [.int n9, .int 1, .int 100]) (x_needRange hl9) (lkX6_58) (kw198) ⟨Nat.le_of_ble_eq_true rfl, Nat.le_of_ble_eq_true rfl⟩ hl.1 rfl (Nat.le_of_ble_eq_true rfl) dX6_plan_9 ⟨Nat.le_of_ble_eq_true rfl, Nat.le_of_ble_eq_true rfl⟩ (ro_out MC hno (Nat.le_of_ble_eq_true rfl) (Nat.le_of_ble_eq_true rfl) (fun E9 H9 hp => by obtain ⟨hg9, rfl, hn9⟩ := hp; exact ⟨hg9, Or.inr (Or.inl (⟨aq_plan_1 hcb hf_16 hn9, rfl⟩))⟩)) (fun v9 H2 lH2 hp hz HS => ?_)
  obtain ⟨rfl, hf_17, rfl⟩ := hp
  refine lv_iload_n hx hb dX6_plan_12 rfl (lv_at hl 2 rfl) ?_
  refine lv_aload_n hx hb dX6_plan_13 rfl (lv_at hl 0 rfl) ?_
  refine ro_get MC HP (hRR.l (by decide)) h0 (rfl : vwCl[5]? = some (RX6, TX6, 11)) inU6 3 (by decide) kw64 rfl rfl dX6_plan_14 ?_
  refine lv_sipush (v := 672) hx hb dX6_plan_17 (by decide) ?_
  refine lv_iload_n hx hb dX6_plan_20 rfl (lv_at hl 3 rfl) ?_
  refine lv_isub hx hb dX6_plan_21 ?_
  refine ro_callST MC HS (rest := []) (As := [.int f9, .int (τ 0 0), .int ((672 - n9))]) (x_needRange hl9) (lkX6_58) (kw198) ⟨Nat.le_of_ble_eq_true rfl, Nat.le_of_ble_eq_true rfl⟩ hl.1 rfl (Nat.le_of_ble_eq_true rfl) dX6_plan_22 ⟨Nat.le_of_ble_eq_true rfl, Nat.le_of_ble_eq_true rfl⟩ (ro_out MC hno (Nat.le_of_ble_eq_true rfl) (Nat.le_of_ble_eq_true rfl) (fun E9 H9 hp => by obtain ⟨hg9, rfl, hn9⟩ := hp; have hn9 := fun h9 => hn9 ((okP_iff hwb hf_17).mpr h9); exact ⟨hg9, Or.inr (Or.inl (⟨aq_plan_2 hcb hf_16 hf_17 hn9, rfl⟩))⟩)) (fun v9 H3 lH3 hp hz HS => ?_)
  obtain ⟨rfl, hf_18, rfl⟩ := hp
  have hf_18 := (okP_iff hwb hf_17).mp hf_18
  refine lv_iload hx hb dX6_plan_25 (lv_at hl 4 rfl) ?_
  refine lv_iconst (v := 1) hx hb dX6_plan_27 (by decide) ?_
  refine lv_iconst (v := 3) hx hb dX6_plan_28 (by decide) ?_
  refine ro_callST MC HS (rest := []) (As := [.int r9, .int 1, .int 3]) (x_needRange hl9) (lkX6_58) (kw198) ⟨Nat.le_of_ble_eq_true rfl, Nat.le_of_ble_eq_true rfl⟩ hl.1 rfl (Nat.le_of_ble_eq_true rfl) dX6_plan_29 ⟨Nat.le_of_ble_eq_true rfl, Nat.le_of_ble_eq_true rfl⟩ (ro_out MC hno (Nat.le_of_ble_eq_true rfl) (Nat.le_of_ble_eq_true rfl) (fun E9 H9 hp => by obtain ⟨hg9, rfl, hn9⟩ := hp; exact ⟨hg9, Or.inr (Or.inl (⟨aq_plan_3 hcb hf_16 hf_17 hf_18 hn9, rfl⟩))⟩)) (fun v9 H4 lH4 hp hz HS => ?_)
  obtain ⟨rfl, hf_19, rfl⟩ := hp
  refine lv_aload_n hx hb dX6_plan_32 rfl (lv_at hl 0 rfl) ?_
  refine ro_get MC HP (hRR.l (by decide)) h0 (rfl : vwCl[5]? = some (RX6, TX6, 11)) inU6 8 (by decide) kw69 rfl rfl dX6_plan_33 ?_
  refine lv_bipush (v := 30) hx hb dX6_plan_36 (by decide) ?_
  refine lv_icmp_lt (tgt := 51) hx hb dX6_plan_38 (by decide) (fun c_38 => ?_) (fun c_38 => ?_)
  · have hc30 : ¬ nI 30 ≤ τ 0 3 := by show ¬ 30 ≤ τ 0 3; clear hX HP; lia
    refine lv_aload_n hx hb dX6_plan_51 rfl (lv_at hl 0 rfl) ?_
    refine ro_get MC HP (hRR.l (by decide)) h0 (rfl : vwCl[5]? = some (RX6, TX6, 11)) inU6 8 (by decide) kw69 rfl rfl dX6_plan_52 ?_
    refine lv_istore (lv' := [(5, .int (τ 0 3)), (0, .ref (ad 0)), (1, .int s9), (2, .int f9), (3, .int n9), (4, .int r9)]) hx hb dX6_plan_55 hl (by decide) rfl (fun ls hl => ?_)
    refine lv_aload_n hx hb dX6_plan_57 rfl (lv_at hl 1 rfl) ?_
    refine ro_get MC HP (hRR.l (by decide)) h0 (rfl : vwCl[5]? = some (RX6, TX6, 11)) inU6 7 (by decide) kw68 rfl rfl dX6_plan_58 ?_
    refine lv_iload hx hb dX6_plan_61 (lv_at hl 0 rfl) ?_
    have hlt : nc < 30 := lt_of hI.2.2.2.1.1 (by omega) (by omega) hc30
    refine ro_new MC HP HS (60 + nc) (hRR.nc hnl) [.int 0, .int 0, .int 0, .int 0, .int 0, .int 0, .int 0, .int 0] (rfl : vwCl[0]? = some (RX0, TX0, 8)) inU0 tyX0_ok kw44 kw396 kw31 (fun j hj => by rcases j with _ | _ | _ | _ | _ | _ | _ | _ | j <;> first | rfl | omega) (Nat.le_of_ble_eq_true rfl) (Nat.le_of_ble_eq_true rfl) dX6_plan_63 (fun q9 H2 hq9 HP HS => ?_)
    have hFR : 60 + nc ∈ RR ++ [60 + nc] := List.mem_append_right _ (List.mem_singleton.mpr rfl)
    have had : ∀ r, r < 18 → va_up ad (60 + nc) q9 r = ad r := fun r hr => va_up_ne _ _ (by omega)
    refine lv_dup hx hb dX6_plan_66 rfl ?_
    refine lv_iload_n hx hb dX6_plan_67 rfl (lv_at hl 2 rfl) ?_
    refine lv_iload_n hx hb dX6_plan_68 rfl (lv_at hl 3 rfl) ?_
    refine lv_iload_n hx hb dX6_plan_69 rfl (lv_at hl 4 rfl) ?_
    refine lv_iload hx hb dX6_plan_70 (lv_at hl 5 rfl) ?_
    have hini := x_iChange (l := l) (ids := ids) HP (r := 60 + nc) hFR (s1 := s9) (b1 := f9) (n1 := n9) (r1 := r9) (va_up_self ..)
    rw [va_up_self] at hini
    refine ro_callI MC HS (rest := [.ref q9, .int (τ 0 3), .ref (ad 4)]) (As := [.int s9, .int f9, .int n9, .int r9]) (hini) (lkX6_122) (kw398) (rfl) ⟨Nat.le_of_ble_eq_true rfl, Nat.le_of_ble_eq_true rfl⟩ hl.1 rfl (Nat.le_of_ble_eq_true rfl) dX6_plan_72 ⟨Nat.le_of_ble_eq_true rfl, Nat.le_of_ble_eq_true rfl⟩ (fun v9 H5 lH5 hp hz HS => ?_)
    obtain ⟨rfl, cn3, HP, hf3, hn3⟩ := hp
    have h0R : 0 ∈ RR ++ [60 + nc] := List.mem_append_left _ (hRR.l (by omega))
    have h4R : 4 ∈ RR ++ [60 + nc] := List.mem_append_left _ (hRR.l (by omega))
    have j0 : cn3 0 = .inr (5, xoF τ (va_up ad (60 + nc) q9)) := by rw [hn3 0 (by omega), va_up_ne _ _ (by omega), xoF_ad had]; exact h0
    have j4 : cn3 4 = .inl (ids 5, 30, .inr (.inr (.inr (.inr cf)))) := (hn3 4 (by omega)).trans ((va_up_ne _ _ (by omega)).trans h4)
    refine xo_aastE MC HP HS 5 (had 4 (by omega)) h4R j4 rfl (va_up_self ..) hFR hf3 (rfl : vwCl[0]? = some (RX0, TX0, 8)) nc (show nc < 30 by omega) (by omega) hI.2.2.2.1.1 dX6_plan_75 (fun H6 lH6 HP HS => ?_)
    refine lv_aload_n hx hb dX6_plan_76 rfl (lv_at hl 1 rfl) ?_
    refine lv_iload hx hb dX6_plan_77 (lv_at hl 0 rfl) ?_
    refine lv_iconst (v := 1) hx hb dX6_plan_79 (by decide) ?_
    refine lv_iadd hx hb dX6_plan_80 ?_
    refine ro_putE MC HP HS (had 0 (by omega)) h0R ((va_up_ne _ _ (by omega)).trans j0) (rfl : vwCl[5]? = some (RX6, TX6, 11)) inU6 tyX6_ok nmX6 8 (by decide) kw69 rfl rfl rfl rfl (Nat.le_of_ble_eq_true rfl) dX6_plan_81 (fun H7 lH7 HP HS => ?_)
    refine lv_iload hx hb dX6_plan_84 (lv_at hl 0 rfl) ?_
    have hn30 : ¬ τ 0 3 = 30 := by intro h9; rw [hI.2.2.2.1.1] at h9; exact absurd ((nI_eq (by omega) (by omega) : nI nc = nI 30 ↔ _).mp h9) (by omega)
    obtain ⟨b8, n8, hfa, hna, hn81, hn82, hbn8⟩ := pl_ix hwb hf_17 hf_18
    have hI2 := hI.plan (i := i) (b := b8) (n := n8) (r := r9) hi hn81 hn82 hbn8 hf_19 hn30
    rw [← hia, ← hfa, ← hna] at hI2
    have k4b := pln_k4b (q := q9) h4b
    rw [va_up_self] at k4b
    have k60 : ∀ k, k < nc + 1 → va_up (va_up cn3 4 (.inl (ids 5, 30, .inr (.inr (.inr (.inr (va_up cf nc (some q9)))))))) 0 (.inr (5, (xoF τ (va_up ad (60 + nc) q9)).set 8 (.int (τ 0 3 + 1)))) (60 + k) = .inr (0, chF (nx_plan τ s9 f9 n9 r9) k) := by
      intro k hk
      rw [va_up_ne _ _ (by omega), va_up_ne _ _ (by omega)]
      by_cases h9 : k = nc
      · rw [h9, hf3]; exact pln_new hI hlt
      · rw [hn3 _ (by omega), va_up_ne _ _ (by omega), pln_old hI (by omega)]; exact h60 k (by omega)
    exact ro_MT (ro_iretM MC HS hr (⟨aq_plan_4 hcb hf_16 hf_17 hf_18 hf_19 c_38, rfl, ⟨RR ++ [60 + nc], (va_up ad (60 + nc) q9), _, nw, ns, nl, nc + 1, ⟨HP, hRR.addC, _, _, _, _, _, _, isX.pln ⟨h0, h1, h1b, h2, h2b, h7, h7b, h3, h3b, h40, h4, h4b, h60, h5, h6⟩ hI (fun r hr => (va_up_ne _ _ (by omega)).trans ((va_up_ne _ _ (by omega)).trans ((hn3 r (by omega)).trans (va_up_ne _ _ (by omega))))) (fun i hi => plan_row hi) (fun r hr => va_up_ne _ _ hr) ((va_up_self ..).trans rfl) ((va_up_ne _ _ (by omega)).trans (va_up_self ..)) k4b k60⟩, hI2, fun r hr => had r hr, fun r hr1 hr2 => (va_up_ne _ _ (by omega)).trans ((va_up_ne _ _ (by omega)).trans ((hn3 r (by omega)).trans (va_up_ne _ _ (by omega))))⟩⟩) (Nat.le_of_ble_eq_true rfl) (Nat.le_of_ble_eq_true rfl) dX6_plan_86)
  · exact ro_throw hl9 MC HS hno th_120 hl.1 dX6_plan_41 dX6_plan_44 dX6_plan_45 dX6_plan_47 dX6_plan_50 ⟨Nat.le_of_ble_eq_true rfl, Nat.le_of_ble_eq_true rfl, Nat.le_of_ble_eq_true rfl, Nat.le_of_ble_eq_true rfl⟩ (fun H9 hz9 hq9 => ⟨⟨hz9, hq9⟩, Or.inr (Or.inr (⟨aq_plan_5 hcb hf_16 hf_17 hf_18 hf_19 c_38, rfl⟩))⟩) (Nat.le_of_ble_eq_true rfl) (Nat.le_of_ble_eq_true rfl)
