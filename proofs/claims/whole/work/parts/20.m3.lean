theorem ax_plan_0 {τ : Tau} {s9 : Int32} {f : Int32} {n : Int32} {rk : Int32} (f_7 : ¬ (1 ≤ n ∧ n ≤ 100)) (f_42 : 0 ≤ s9 ∧ s9 ≤ τ 0 1 - 1) : th_plan τ s9 f n rk = 2 := by
  unfold th_plan; grind
theorem ax_plan_1 {τ : Tau} {s9 : Int32} {f : Int32} {n : Int32} {rk : Int32} (f_7 : ¬ (1 ≤ n ∧ n ≤ 100)) (f_42 : ¬ (0 ≤ s9 ∧ s9 ≤ τ 0 1 - 1)) : th_plan τ s9 f n rk = 1 := by
  unfold th_plan; grind
theorem ax_plan_2 {τ : Tau} {s9 : Int32} {f : Int32} {n : Int32} {rk : Int32} (f_7 : 1 ≤ n ∧ n ≤ 100) (f_17 : ¬ (1 ≤ rk ∧ rk ≤ 3)) (f_42 : 0 ≤ s9 ∧ s9 ≤ τ 0 1 - 1) : th_plan τ s9 f n rk = 2 := by
  unfold th_plan; grind
theorem ax_plan_3 {τ : Tau} {s9 : Int32} {f : Int32} {n : Int32} {rk : Int32} (f_7 : 1 ≤ n ∧ n ≤ 100) (f_17 : ¬ (1 ≤ rk ∧ rk ≤ 3)) (f_42 : ¬ (0 ≤ s9 ∧ s9 ≤ τ 0 1 - 1)) : th_plan τ s9 f n rk = 1 := by
  unfold th_plan; grind
theorem ax_plan_4 {τ : Tau} {s9 : Int32} {f : Int32} {n : Int32} {rk : Int32} (f_7 : 1 ≤ n ∧ n ≤ 100) (f_17 : 1 ≤ rk ∧ rk ≤ 3) (f_26 : ¬ (τ 0 0 ≤ f ∧ f < 672 ∧ f + n ≤ 672)) (f_42 : 0 ≤ s9 ∧ s9 ≤ τ 0 1 - 1) : th_plan τ s9 f n rk = 2 := by
  unfold th_plan; grind
theorem ax_plan_5 {τ : Tau} {s9 : Int32} {f : Int32} {n : Int32} {rk : Int32} (f_7 : 1 ≤ n ∧ n ≤ 100) (f_17 : 1 ≤ rk ∧ rk ≤ 3) (f_26 : ¬ (τ 0 0 ≤ f ∧ f < 672 ∧ f + n ≤ 672)) (f_42 : ¬ (0 ≤ s9 ∧ s9 ≤ τ 0 1 - 1)) : th_plan τ s9 f n rk = 1 := by
  unfold th_plan; grind
theorem ax_plan_6 {τ : Tau} {s9 : Int32} {f : Int32} {n : Int32} {rk : Int32} (f_7 : 1 ≤ n ∧ n ≤ 100) (f_17 : 1 ≤ rk ∧ rk ≤ 3) (f_26 : τ 0 0 ≤ f ∧ f < 672 ∧ f + n ≤ 672) (f_42 : 0 ≤ s9 ∧ s9 ≤ τ 0 1 - 1) (c_64 : ¬ (τ 0 3 = 30)) : th_plan τ s9 f n rk = 0 := by
  unfold th_plan; grind
theorem ax_plan_7 {τ : Tau} {s9 : Int32} {f : Int32} {n : Int32} {rk : Int32} (f_7 : 1 ≤ n ∧ n ≤ 100) (f_17 : 1 ≤ rk ∧ rk ≤ 3) (f_26 : τ 0 0 ≤ f ∧ f < 672 ∧ f + n ≤ 672) (f_42 : 0 ≤ s9 ∧ s9 ≤ τ 0 1 - 1) (c_64 : τ 0 3 = 30) : th_plan τ s9 f n rk = 3 := by
  unfold th_plan; grind
theorem ax_plan_8 {τ : Tau} {s9 : Int32} {f : Int32} {n : Int32} {rk : Int32} (f_7 : 1 ≤ n ∧ n ≤ 100) (f_17 : 1 ≤ rk ∧ rk ≤ 3) (f_26 : τ 0 0 ≤ f ∧ f < 672 ∧ f + n ≤ 672) (f_42 : ¬ (0 ≤ s9 ∧ s9 ≤ τ 0 1 - 1)) : th_plan τ s9 f n rk = 1 := by
  unfold th_plan; grind
theorem ax_approve_0 {τ : Tau} {c9 : Int32} {kc : Nat} (hkc : cx c9 = kc) (f_6 : 0 ≤ c9 ∧ c9 ≤ τ 0 3 - 1) (c_20 : ¬ (τ 17 kc = (-1))) : th_approve τ c9 = 2 := by
  unfold th_approve; grind
theorem ax_approve_1 {τ : Tau} {c9 : Int32} {kc : Nat} (hkc : cx c9 = kc) (f_6 : 0 ≤ c9 ∧ c9 ≤ τ 0 3 - 1) (c_20 : τ 17 kc = (-1)) (c_35 : ¬ (τ 15 kc = τ 14 kc)) : th_approve τ c9 = 0 := by
  unfold th_approve; grind
theorem ax_approve_2 {τ : Tau} {c9 : Int32} {kc : Nat} (hkc : cx c9 = kc) (f_6 : 0 ≤ c9 ∧ c9 ≤ τ 0 3 - 1) (c_20 : τ 17 kc = (-1)) (c_35 : τ 15 kc = τ 14 kc) : th_approve τ c9 = 2 := by
  unfold th_approve; grind
theorem ax_approve_3 {τ : Tau} {c9 : Int32} (f_6 : ¬ (0 ≤ c9 ∧ c9 ≤ τ 0 3 - 1)) : th_approve τ c9 = 1 := by
  unfold th_approve; grind
theorem ax_state_0 {τ : Tau} {c9 : Int32} (f_6 : ¬ (0 ≤ c9 ∧ c9 ≤ τ 0 3 - 1)) : th_state τ c9 = 1 := by
  unfold th_state; grind
theorem ax_state_1 {τ : Tau} {c9 : Int32} {kc : Nat} (hkc : cx c9 = kc) (f_6 : 0 ≤ c9 ∧ c9 ≤ τ 0 3 - 1) (c_31 : ¬ (τ 17 kc = (-1))) (c_53 : τ 0 0 < (τ 12 kc + τ 13 kc)) : th_state τ c9 = 0 := by
  unfold th_state; grind
theorem ax_state_2 {τ : Tau} {c9 : Int32} {kc : Nat} (hkc : cx c9 = kc) (f_6 : 0 ≤ c9 ∧ c9 ≤ τ 0 3 - 1) (c_31 : ¬ (τ 17 kc = (-1))) (c_53 : ¬ (τ 0 0 < (τ 12 kc + τ 13 kc))) : th_state τ c9 = 0 := by
  unfold th_state; grind
theorem ax_state_3 {τ : Tau} {c9 : Int32} {kc : Nat} (hkc : cx c9 = kc) (f_6 : 0 ≤ c9 ∧ c9 ≤ τ 0 3 - 1) (c_31 : τ 17 kc = (-1)) : th_state τ c9 = 0 := by
  unfold th_state; grind
theorem ax_approved_0 {τ : Tau} {c9 : Int32} (f_6 : ¬ (0 ≤ c9 ∧ c9 ≤ τ 0 3 - 1)) : th_approved τ c9 = 1 := by
  unfold th_approved; grind
theorem ax_approved_1 {τ : Tau} {c9 : Int32} {kc : Nat} (hkc : cx c9 = kc) (f_6 : 0 ≤ c9 ∧ c9 ≤ τ 0 3 - 1) : th_approved τ c9 = 0 := by
  unfold th_approved; grind
theorem ax_exceptions_0 {τ : Tau} {rk : Int32} {n : Int32} (f_7 : ¬ (1 ≤ rk ∧ rk ≤ 3)) : th_exceptions τ rk n = 1 := by
  unfold th_exceptions; grind
theorem ax_exceptions_1 {τ : Tau} {rk : Int32} {n : Int32} (f_7 : 1 ≤ rk ∧ rk ≤ 3) (f_17 : ¬ (0 ≤ n ∧ n ≤ 50)) : th_exceptions τ rk n = 1 := by
  unfold th_exceptions; grind
theorem ax_exceptions_2 {τ : Tau} {rk : Int32} {n : Int32} (f_7 : 1 ≤ rk ∧ rk ≤ 3) (f_17 : 0 ≤ n ∧ n ≤ 50) : th_exceptions τ rk n = 0 := by
  unfold th_exceptions; grind
theorem ax_left_0 {τ : Tau} {rk : Int32} (f_7 : ¬ (1 ≤ rk ∧ rk ≤ 3)) : th_left τ rk = 1 := by
  unfold th_left; grind
theorem ax_left_1 {τ : Tau} {rk : Int32} (f_7 : 1 ≤ rk ∧ rk ≤ 3) : th_left τ rk = 0 := by
  unfold th_left; grind
theorem ax_holds_0 {τ : Tau} {k hh d9 t9 : Nat} (hcd : cx (τ 7 k) = d9) (hcx : cx (30 * τ 7 k + (nI hh + τ 2 d9 + 24) / 24) = 30 * d9 + t9 / 24) (hfb : τ 3 (30 * d9 + t9 / 24) = 0 ∨ τ 3 (30 * d9 + t9 / 24) = 1) (c_21 : ¬ (τ 5 k = 0)) (c_66 : τ 5 k = 1) (c_100 : τ 8 k = τ 9 k) : 1 = bI (hoB τ k (nI hh) = true) := by
  unfold hoB thr bI; rw [hcd, hcx]; grind
theorem ax_holds_1 {τ : Tau} {k hh d9 t9 : Nat} (hcd : cx (τ 7 k) = d9) (hcx : cx (30 * τ 7 k + (nI hh + τ 2 d9 + 24) / 24) = 30 * d9 + t9 / 24) (hfb : τ 3 (30 * d9 + t9 / 24) = 0 ∨ τ 3 (30 * d9 + t9 / 24) = 1) (c_21 : ¬ (τ 5 k = 0)) (c_66 : τ 5 k = 1) (c_100 : ¬ (τ 8 k = τ 9 k)) (c_106 : τ 9 k ≤ τ 8 k) (c_128 : τ 8 k ≤ (((nI hh + τ 2 d9) + 24) - ((nI hh + τ 2 d9) + 24) / 24 * 24)) : 1 = bI (hoB τ k (nI hh) = true) := by
  unfold hoB thr bI; rw [hcd, hcx]; grind
theorem ax_holds_2 {τ : Tau} {k hh d9 t9 : Nat} (hcd : cx (τ 7 k) = d9) (hcx : cx (30 * τ 7 k + (nI hh + τ 2 d9 + 24) / 24) = 30 * d9 + t9 / 24) (hfb : τ 3 (30 * d9 + t9 / 24) = 0 ∨ τ 3 (30 * d9 + t9 / 24) = 1) (c_21 : ¬ (τ 5 k = 0)) (c_66 : τ 5 k = 1) (c_100 : ¬ (τ 8 k = τ 9 k)) (c_106 : τ 9 k ≤ τ 8 k) (c_128 : ¬ (τ 8 k ≤ (((nI hh + τ 2 d9) + 24) - ((nI hh + τ 2 d9) + 24) / 24 * 24))) (c_135 : τ 9 k ≤ (((nI hh + τ 2 d9) + 24) - ((nI hh + τ 2 d9) + 24) / 24 * 24)) : 0 = bI (hoB τ k (nI hh) = true) := by
  unfold hoB thr bI; rw [hcd, hcx]; grind
theorem ax_holds_3 {τ : Tau} {k hh d9 t9 : Nat} (hcd : cx (τ 7 k) = d9) (hcx : cx (30 * τ 7 k + (nI hh + τ 2 d9 + 24) / 24) = 30 * d9 + t9 / 24) (hfb : τ 3 (30 * d9 + t9 / 24) = 0 ∨ τ 3 (30 * d9 + t9 / 24) = 1) (c_21 : ¬ (τ 5 k = 0)) (c_66 : τ 5 k = 1) (c_100 : ¬ (τ 8 k = τ 9 k)) (c_106 : τ 9 k ≤ τ 8 k) (c_128 : ¬ (τ 8 k ≤ (((nI hh + τ 2 d9) + 24) - ((nI hh + τ 2 d9) + 24) / 24 * 24))) (c_135 : ¬ (τ 9 k ≤ (((nI hh + τ 2 d9) + 24) - ((nI hh + τ 2 d9) + 24) / 24 * 24))) : 1 = bI (hoB τ k (nI hh) = true) := by
  unfold hoB thr bI; rw [hcd, hcx]; grind
theorem ax_holds_4 {τ : Tau} {k hh d9 t9 : Nat} (hcd : cx (τ 7 k) = d9) (hcx : cx (30 * τ 7 k + (nI hh + τ 2 d9 + 24) / 24) = 30 * d9 + t9 / 24) (hfb : τ 3 (30 * d9 + t9 / 24) = 0 ∨ τ 3 (30 * d9 + t9 / 24) = 1) (c_21 : ¬ (τ 5 k = 0)) (c_66 : τ 5 k = 1) (c_100 : ¬ (τ 8 k = τ 9 k)) (c_106 : ¬ (τ 9 k ≤ τ 8 k)) (c_112 : (((nI hh + τ 2 d9) + 24) - ((nI hh + τ 2 d9) + 24) / 24 * 24) < τ 8 k) : 0 = bI (hoB τ k (nI hh) = true) := by
  unfold hoB thr bI; rw [hcd, hcx]; grind
theorem ax_holds_5 {τ : Tau} {k hh d9 t9 : Nat} (hcd : cx (τ 7 k) = d9) (hcx : cx (30 * τ 7 k + (nI hh + τ 2 d9 + 24) / 24) = 30 * d9 + t9 / 24) (hfb : τ 3 (30 * d9 + t9 / 24) = 0 ∨ τ 3 (30 * d9 + t9 / 24) = 1) (c_21 : ¬ (τ 5 k = 0)) (c_66 : τ 5 k = 1) (c_100 : ¬ (τ 8 k = τ 9 k)) (c_106 : ¬ (τ 9 k ≤ τ 8 k)) (c_112 : ¬ ((((nI hh + τ 2 d9) + 24) - ((nI hh + τ 2 d9) + 24) / 24 * 24) < τ 8 k)) (c_119 : τ 9 k ≤ (((nI hh + τ 2 d9) + 24) - ((nI hh + τ 2 d9) + 24) / 24 * 24)) : 0 = bI (hoB τ k (nI hh) = true) := by
  unfold hoB thr bI; rw [hcd, hcx]; grind
theorem ax_holds_6 {τ : Tau} {k hh d9 t9 : Nat} (hcd : cx (τ 7 k) = d9) (hcx : cx (30 * τ 7 k + (nI hh + τ 2 d9 + 24) / 24) = 30 * d9 + t9 / 24) (hfb : τ 3 (30 * d9 + t9 / 24) = 0 ∨ τ 3 (30 * d9 + t9 / 24) = 1) (c_21 : ¬ (τ 5 k = 0)) (c_66 : τ 5 k = 1) (c_100 : ¬ (τ 8 k = τ 9 k)) (c_106 : ¬ (τ 9 k ≤ τ 8 k)) (c_112 : ¬ ((((nI hh + τ 2 d9) + 24) - ((nI hh + τ 2 d9) + 24) / 24 * 24) < τ 8 k)) (c_119 : ¬ (τ 9 k ≤ (((nI hh + τ 2 d9) + 24) - ((nI hh + τ 2 d9) + 24) / 24 * 24))) : 1 = bI (hoB τ k (nI hh) = true) := by
  unfold hoB thr bI; rw [hcd, hcx]; grind
theorem ax_holds_7 {τ : Tau} {k hh d9 t9 : Nat} (hcd : cx (τ 7 k) = d9) (hcx : cx (30 * τ 7 k + (nI hh + τ 2 d9 + 24) / 24) = 30 * d9 + t9 / 24) (hfb : τ 3 (30 * d9 + t9 / 24) = 0 ∨ τ 3 (30 * d9 + t9 / 24) = 1) (c_21 : ¬ (τ 5 k = 0)) (c_66 : ¬ (τ 5 k = 1)) : τ 3 (30 * d9 + t9 / 24) = bI (hoB τ k (nI hh) = true) := by
  unfold hoB thr bI; rw [hcd, hcx]; grind
theorem ax_holds_8 {τ : Tau} {k hh d9 t9 : Nat} (hcd : cx (τ 7 k) = d9) (hcx : cx (30 * τ 7 k + (nI hh + τ 2 d9 + 24) / 24) = 30 * d9 + t9 / 24) (hfb : τ 3 (30 * d9 + t9 / 24) = 0 ∨ τ 3 (30 * d9 + t9 / 24) = 1) (c_21 : τ 5 k = 0) (c_26 : nI hh < τ 8 k) : 0 = bI (hoB τ k (nI hh) = true) := by
  unfold hoB thr bI; rw [hcd, hcx]; grind
theorem ax_holds_9 {τ : Tau} {k hh d9 t9 : Nat} (hcd : cx (τ 7 k) = d9) (hcx : cx (30 * τ 7 k + (nI hh + τ 2 d9 + 24) / 24) = 30 * d9 + t9 / 24) (hfb : τ 3 (30 * d9 + t9 / 24) = 0 ∨ τ 3 (30 * d9 + t9 / 24) = 1) (c_21 : τ 5 k = 0) (c_26 : ¬ (nI hh < τ 8 k)) (c_32 : τ 9 k ≤ nI hh) : 0 = bI (hoB τ k (nI hh) = true) := by
  unfold hoB thr bI; rw [hcd, hcx]; grind
theorem ax_holds_10 {τ : Tau} {k hh d9 t9 : Nat} (hcd : cx (τ 7 k) = d9) (hcx : cx (30 * τ 7 k + (nI hh + τ 2 d9 + 24) / 24) = 30 * d9 + t9 / 24) (hfb : τ 3 (30 * d9 + t9 / 24) = 0 ∨ τ 3 (30 * d9 + t9 / 24) = 1) (c_21 : τ 5 k = 0) (c_26 : ¬ (nI hh < τ 8 k)) (c_32 : ¬ (τ 9 k ≤ nI hh)) : 1 = bI (hoB τ k (nI hh) = true) := by
  unfold hoB thr bI; rw [hcd, hcx]; grind
set_option maxHeartbeats 4000000 in
set_option maxRecDepth 100000 in
theorem m_isFreeze {l : Launch} {D : va_G} {ids : Nat → ClassId} {n0 : Nat} {RR : List Nat} {ad : Nat → Nat} {τ : Tau} {th : Int32} {fr : Nat → va_E} {Hh : Heap} (hw : sM D ids n0 RR ad τ th fr Hh) {nw ns nl nc : Nat} (hI : Iv τ nw ns nl nc) (k9 : Int32) : ro_M l yX7_isFreeze cX7_isFreeze 2 (some FieldType.boolean) { frames := 1, cells := 0, slots := 0, locals := 30 } D ids n0 [.ref (ad 11), .int k9] Hh (fun v H1 => v = some (.int (bI (okF τ k9))) ∧ Hh = H1) := by
  refine ro_ofM (by decide +kernel) (Nat.le_of_ble_eq_true rfl) ?_
  intro p e s m below meth c MC hhp hr hnm HS ls hl
  have hx := MC.1.1
  have hb := MC.1.2.1
  have hl : lv_has ls 2 [(0, .ref (ad 11)), (1, .int k9)] := hl
  refine lv_iload_n hx hb dX7_isFreeze_0 rfl (lv_at hl 1 rfl) ?_
  refine lv_iconst (v := 0) hx hb dX7_isFreeze_1 (by decide) ?_
  refine lv_aload_n hx hb dX7_isFreeze_2 rfl (lv_at hl 0 rfl) ?_
  refine mo_get MC hw 6 (by decide) kw624 rfl rfl dX7_isFreeze_3 ?_
  refine lv_iconst (v := 1) hx hb dX7_isFreeze_6 (by decide) ?_
  refine lv_isub hx hb dX7_isFreeze_7 ?_
  refine ro_callS MC HS (rest := []) (As := [.int k9, .int 0, .int (τ 0 2 - 1)]) (m_isIn l D ids n0 k9 0 (τ 0 2 - 1)) (lkX7_72) (kw701) ⟨Nat.le_of_ble_eq_true rfl, Nat.le_of_ble_eq_true rfl⟩ hl.1 rfl (Nat.le_of_ble_eq_true rfl) dX7_isFreeze_8 ⟨Nat.le_of_ble_eq_true rfl, Nat.le_of_ble_eq_true rfl⟩ (fun v9 H1 lH1 hp hz HS => ?_)
  obtain ⟨rfl, rfl⟩ := hp
  refine lv_if_eq (tgt := 27) hx hb dX7_isFreeze_11 (by decide) (fun c_11 => ?_) (fun c_11 => ?_)
  · have f_11 := bI_0.mp c_11
    refine lv_iconst (v := 0) hx hb dX7_isFreeze_27 (by decide) ?_
    exact ro_zretM MC HS hr (by first | rfl | exact bI_nar) (⟨by (rw [bI_f (fun h => f_11 h.1)]), rfl⟩) (Nat.le_refl _) (Nat.le_refl _) dX7_isFreeze_28
  · have f_11 := bI_n0.mp c_11
    obtain ⟨kn, hkn, hka, hkc⟩ := hI.n f_11
    have hnl := hI.2.2.1.2
    refine lv_aload_n hx hb dX7_isFreeze_14 rfl (lv_at hl 0 rfl) ?_
    refine mo_get MC hw 7 (by decide) kw625 rfl rfl dX7_isFreeze_15 ?_
    refine lv_iload_n hx hb dX7_isFreeze_18 rfl (lv_at hl 1 rfl) ?_
    refine mo_zald MC hw 4 (by decide) (by decide) rfl kn (show kn < 20 by omega) hka dX7_isFreeze_19 ?_
    refine lv_if_ne (tgt := 27) hx hb dX7_isFreeze_20 (by decide) (fun c_20 => ?_) (fun c_20 => ?_)
    · refine lv_iconst (v := 0) hx hb dX7_isFreeze_27 (by decide) ?_
      exact ro_zretM MC HS hr (by first | rfl | exact bI_nar) (⟨by rw [bI_f (fun h => c_20 (by rw [← hkc]; exact h.2))], rfl⟩) (Nat.le_refl _) (Nat.le_refl _) dX7_isFreeze_28
    · refine lv_iconst (v := 1) hx hb dX7_isFreeze_23 (by decide) ?_
      refine lv_goto (tgt := 28) hx hb dX7_isFreeze_24 (by decide) ?_
      exact ro_zretM MC HS hr (by first | rfl | exact bI_nar) (⟨by rw [bI_t ⟨f_11, (by rw [hkc]; exact c_20)⟩], rfl⟩) (Nat.le_refl _) (Nat.le_refl _) dX7_isFreeze_28
set_option maxHeartbeats 4000000 in
set_option maxRecDepth 100000 in
theorem m_plan {l : Launch} {D : va_G} {ids : Nat → ClassId} {n0 : Nat} {RR : List Nat} {ad : Nat → Nat} {τ : Tau} {th : Int32} {fr : Nat → va_E} {Hh : Heap} (hw : sM D ids n0 RR ad τ th fr Hh) {nw ns nl nc : Nat} (hI : Iv τ nw ns nl nc) (s9 : Int32) (f : Int32) (n : Int32) (rk : Int32) : ro_M l yX7_plan cX7_plan 6 (some FieldType.int) { frames := 2, cells := 0, slots := 0, locals := 60 } D ids n0 [.ref (ad 11), .int s9, .int f, .int n, .int rk] Hh (fun v9 H1 => ∃ rz, v9 = some (.int rz) ∧ sM D ids n0 RR ad (if th_plan τ s9 f n rk = 0 then nx_plan τ s9 f n rk else τ) (th_plan τ s9 f n rk) fr H1 ∧ (th_plan τ s9 f n rk = 0 → rz = rt_plan τ s9 f n rk)) := by
  refine ro_ofM (by decide +kernel) (Nat.le_of_ble_eq_true rfl) ?_
  intro p e s m below meth c MC hhp hr hnm HS ls hl
  have hx := MC.1.1
  have hb := MC.1.2.1
  have hl : lv_has ls 6 [(0, .ref (ad 11)), (1, .int s9), (2, .int f), (3, .int n), (4, .int rk)] := hl
  refine lv_iload_n hx hb dX7_plan_0 rfl (lv_at hl 3 rfl) ?_
  refine lv_iconst (v := 1) hx hb dX7_plan_1 (by decide) ?_
  refine lv_bipush (v := 100) hx hb dX7_plan_2 (by decide) ?_
  refine ro_callS MC HS (rest := []) (As := [.int n, .int 1, .int 100]) (m_isIn l D ids n0 n 1 100) (lkX7_72) (kw701) ⟨Nat.le_of_ble_eq_true rfl, Nat.le_of_ble_eq_true rfl⟩ hl.1 rfl (Nat.le_of_ble_eq_true rfl) dX7_plan_4 ⟨Nat.le_of_ble_eq_true rfl, Nat.le_of_ble_eq_true rfl⟩ (fun v9 H1 lH1 hp hz HS => ?_)
  obtain ⟨rfl, rfl⟩ := hp
  refine lv_if_eq (tgt := 33) hx hb dX7_plan_7 (by decide) (fun c_7 => ?_) (fun c_7 => ?_)
  · have f_7 := bI_0.mp c_7
    refine lv_iconst (v := 0) hx hb dX7_plan_33 (by decide) ?_
    refine lv_istore (lv' := [(5, .int 0), (0, .ref (ad 11)), (1, .int s9), (2, .int f), (3, .int n), (4, .int rk)]) hx hb dX7_plan_34 hl (by decide) rfl (fun ls hl => ?_)
    refine lv_aload_n hx hb dX7_plan_36 rfl (lv_at hl 1 rfl) ?_
    refine lv_aload_n hx hb dX7_plan_37 rfl (lv_at hl 1 rfl) ?_
    refine lv_iload_n hx hb dX7_plan_38 rfl (lv_at hl 2 rfl) ?_
    refine ro_callV MC HS (rest := [.ref (ad 11)]) (As := [.int s9]) (m_isScope hw s9) (lkX7_76) (kw698) (kw16) ⟨Nat.le_of_ble_eq_true rfl, Nat.le_of_ble_eq_true rfl⟩ (mo_recv MC hw) hl.1 rfl (Nat.le_of_ble_eq_true rfl) dX7_plan_39 ⟨Nat.le_of_ble_eq_true rfl, Nat.le_of_ble_eq_true rfl⟩ (fun v9 H2 lH2 hp hz HS => ?_)
    obtain ⟨rfl, rfl⟩ := hp
    refine lv_if_ne (tgt := 49) hx hb dX7_plan_42 (by decide) (fun c_42 => ?_) (fun c_42 => ?_)
    · have f_42 := bI_n0.mp c_42
      refine lv_iload hx hb dX7_plan_49 (lv_at hl 0 rfl) ?_
      refine lv_if_ne (tgt := 58) hx hb dX7_plan_51 (by decide) (fun c_51 => absurd c_51 (by decide)) (fun c_51 => ?_)
      refine lv_iconst (v := 2) hx hb dX7_plan_54 (by decide) ?_
      refine lv_goto (tgt := 72) hx hb dX7_plan_55 (by decide) ?_
      refine mo_put MC hw HS 0 (by decide) kw618 rfl rfl rfl τ 2 rfl (fun _ _ => rfl) dX7_plan_72 (fun H3 lH3 hw HS => ?_)
      refine lv_aload_n hx hb dX7_plan_75 rfl (lv_at hl 1 rfl) ?_
      refine mo_get MC hw 0 (by decide) kw618 rfl rfl dX7_plan_76 ?_
      refine lv_if_le (tgt := 84) hx hb dX7_plan_79 (by decide) (fun c_79 => absurd c_79 (by decide)) (fun c_79 => ?_)
      refine lv_iconst (v := 0) hx hb dX7_plan_82 (by decide) ?_
      have hth : th_plan τ s9 f n rk = 2 := ax_plan_0 f_7 f_42
      exact ro_iretM MC HS hr ⟨_, rfl, by rw [hth, if_neg (by decide)]; exact hw, fun h0 => absurd (hth.symm.trans h0) (by decide)⟩ (Nat.le_refl _) (Nat.le_refl _) dX7_plan_83
    · have f_42 := bI_0.mp c_42
      refine lv_iconst (v := 1) hx hb dX7_plan_45 (by decide) ?_
      refine lv_goto (tgt := 72) hx hb dX7_plan_46 (by decide) ?_
      refine mo_put MC hw HS 0 (by decide) kw618 rfl rfl rfl τ 1 rfl (fun _ _ => rfl) dX7_plan_72 (fun H4 lH4 hw HS => ?_)
      refine lv_aload_n hx hb dX7_plan_75 rfl (lv_at hl 1 rfl) ?_
      refine mo_get MC hw 0 (by decide) kw618 rfl rfl dX7_plan_76 ?_
      refine lv_if_le (tgt := 84) hx hb dX7_plan_79 (by decide) (fun c_79 => absurd c_79 (by decide)) (fun c_79 => ?_)
      refine lv_iconst (v := 0) hx hb dX7_plan_82 (by decide) ?_
      have hth : th_plan τ s9 f n rk = 1 := ax_plan_1 f_7 f_42
      exact ro_iretM MC HS hr ⟨_, rfl, by rw [hth, if_neg (by decide)]; exact hw, fun h0 => absurd (hth.symm.trans h0) (by decide)⟩ (Nat.le_refl _) (Nat.le_refl _) dX7_plan_83
  · have f_7 := bI_n0.mp c_7
    refine lv_iload hx hb dX7_plan_10 (lv_at hl 4 rfl) ?_
    refine lv_iconst (v := 1) hx hb dX7_plan_12 (by decide) ?_
    refine lv_iconst (v := 3) hx hb dX7_plan_13 (by decide) ?_
    refine ro_callS MC HS (rest := []) (As := [.int rk, .int 1, .int 3]) (m_isIn l D ids n0 rk 1 3) (lkX7_72) (kw701) ⟨Nat.le_of_ble_eq_true rfl, Nat.le_of_ble_eq_true rfl⟩ hl.1 rfl (Nat.le_of_ble_eq_true rfl) dX7_plan_14 ⟨Nat.le_of_ble_eq_true rfl, Nat.le_of_ble_eq_true rfl⟩ (fun v9 H5 lH5 hp hz HS => ?_)
    obtain ⟨rfl, rfl⟩ := hp
    refine lv_if_eq (tgt := 33) hx hb dX7_plan_17 (by decide) (fun c_17 => ?_) (fun c_17 => ?_)
    · have f_17 := bI_0.mp c_17
      refine lv_iconst (v := 0) hx hb dX7_plan_33 (by decide) ?_
      refine lv_istore (lv' := [(5, .int 0), (0, .ref (ad 11)), (1, .int s9), (2, .int f), (3, .int n), (4, .int rk)]) hx hb dX7_plan_34 hl (by decide) rfl (fun ls hl => ?_)
      refine lv_aload_n hx hb dX7_plan_36 rfl (lv_at hl 1 rfl) ?_
      refine lv_aload_n hx hb dX7_plan_37 rfl (lv_at hl 1 rfl) ?_
      refine lv_iload_n hx hb dX7_plan_38 rfl (lv_at hl 2 rfl) ?_
      refine ro_callV MC HS (rest := [.ref (ad 11)]) (As := [.int s9]) (m_isScope hw s9) (lkX7_76) (kw698) (kw16) ⟨Nat.le_of_ble_eq_true rfl, Nat.le_of_ble_eq_true rfl⟩ (mo_recv MC hw) hl.1 rfl (Nat.le_of_ble_eq_true rfl) dX7_plan_39 ⟨Nat.le_of_ble_eq_true rfl, Nat.le_of_ble_eq_true rfl⟩ (fun v9 H6 lH6 hp hz HS => ?_)
      obtain ⟨rfl, rfl⟩ := hp
      refine lv_if_ne (tgt := 49) hx hb dX7_plan_42 (by decide) (fun c_42 => ?_) (fun c_42 => ?_)
      · have f_42 := bI_n0.mp c_42
        refine lv_iload hx hb dX7_plan_49 (lv_at hl 0 rfl) ?_
        refine lv_if_ne (tgt := 58) hx hb dX7_plan_51 (by decide) (fun c_51 => absurd c_51 (by decide)) (fun c_51 => ?_)
        refine lv_iconst (v := 2) hx hb dX7_plan_54 (by decide) ?_
        refine lv_goto (tgt := 72) hx hb dX7_plan_55 (by decide) ?_
        refine mo_put MC hw HS 0 (by decide) kw618 rfl rfl rfl τ 2 rfl (fun _ _ => rfl) dX7_plan_72 (fun H7 lH7 hw HS => ?_)
        refine lv_aload_n hx hb dX7_plan_75 rfl (lv_at hl 1 rfl) ?_
        refine mo_get MC hw 0 (by decide) kw618 rfl rfl dX7_plan_76 ?_
        refine lv_if_le (tgt := 84) hx hb dX7_plan_79 (by decide) (fun c_79 => absurd c_79 (by decide)) (fun c_79 => ?_)
        refine lv_iconst (v := 0) hx hb dX7_plan_82 (by decide) ?_
        have hth : th_plan τ s9 f n rk = 2 := ax_plan_2 f_7 f_17 f_42
        exact ro_iretM MC HS hr ⟨_, rfl, by rw [hth, if_neg (by decide)]; exact hw, fun h0 => absurd (hth.symm.trans h0) (by decide)⟩ (Nat.le_refl _) (Nat.le_refl _) dX7_plan_83
      · have f_42 := bI_0.mp c_42
        refine lv_iconst (v := 1) hx hb dX7_plan_45 (by decide) ?_
        refine lv_goto (tgt := 72) hx hb dX7_plan_46 (by decide) ?_
        refine mo_put MC hw HS 0 (by decide) kw618 rfl rfl rfl τ 1 rfl (fun _ _ => rfl) dX7_plan_72 (fun H8 lH8 hw HS => ?_)
        refine lv_aload_n hx hb dX7_plan_75 rfl (lv_at hl 1 rfl) ?_
        refine mo_get MC hw 0 (by decide) kw618 rfl rfl dX7_plan_76 ?_
        refine lv_if_le (tgt := 84) hx hb dX7_plan_79 (by decide) (fun c_79 => absurd c_79 (by decide)) (fun c_79 => ?_)
        refine lv_iconst (v := 0) hx hb dX7_plan_82 (by decide) ?_
        have hth : th_plan τ s9 f n rk = 1 := ax_plan_3 f_7 f_17 f_42
        exact ro_iretM MC HS hr ⟨_, rfl, by rw [hth, if_neg (by decide)]; exact hw, fun h0 => absurd (hth.symm.trans h0) (by decide)⟩ (Nat.le_refl _) (Nat.le_refl _) dX7_plan_83
    · have f_17 := bI_n0.mp c_17
      refine lv_aload_n hx hb dX7_plan_20 rfl (lv_at hl 0 rfl) ?_
      refine lv_iload_n hx hb dX7_plan_21 rfl (lv_at hl 2 rfl) ?_
      refine lv_iload_n hx hb dX7_plan_22 rfl (lv_at hl 3 rfl) ?_
      refine ro_callV MC HS (rest := []) (As := [.int f, .int n]) (m_isSpan hw f n) (lkX7_110) (kw780) (kw23) ⟨Nat.le_of_ble_eq_true rfl, Nat.le_of_ble_eq_true rfl⟩ (mo_recv MC hw) hl.1 rfl (Nat.le_of_ble_eq_true rfl) dX7_plan_23 ⟨Nat.le_of_ble_eq_true rfl, Nat.le_of_ble_eq_true rfl⟩ (fun v9 H9 lH9 hp hz HS => ?_)
      obtain ⟨rfl, rfl⟩ := hp
      refine lv_if_eq (tgt := 33) hx hb dX7_plan_26 (by decide) (fun c_26 => ?_) (fun c_26 => ?_)
      · have f_26 := bI_0.mp c_26
        refine lv_iconst (v := 0) hx hb dX7_plan_33 (by decide) ?_
        refine lv_istore (lv' := [(5, .int 0), (0, .ref (ad 11)), (1, .int s9), (2, .int f), (3, .int n), (4, .int rk)]) hx hb dX7_plan_34 hl (by decide) rfl (fun ls hl => ?_)
        refine lv_aload_n hx hb dX7_plan_36 rfl (lv_at hl 1 rfl) ?_
        refine lv_aload_n hx hb dX7_plan_37 rfl (lv_at hl 1 rfl) ?_
        refine lv_iload_n hx hb dX7_plan_38 rfl (lv_at hl 2 rfl) ?_
        refine ro_callV MC HS (rest := [.ref (ad 11)]) (As := [.int s9]) (m_isScope hw s9) (lkX7_76) (kw698) (kw16) ⟨Nat.le_of_ble_eq_true rfl, Nat.le_of_ble_eq_true rfl⟩ (mo_recv MC hw) hl.1 rfl (Nat.le_of_ble_eq_true rfl) dX7_plan_39 ⟨Nat.le_of_ble_eq_true rfl, Nat.le_of_ble_eq_true rfl⟩ (fun v9 H10 lH10 hp hz HS => ?_)
        obtain ⟨rfl, rfl⟩ := hp
        refine lv_if_ne (tgt := 49) hx hb dX7_plan_42 (by decide) (fun c_42 => ?_) (fun c_42 => ?_)
        · have f_42 := bI_n0.mp c_42
          refine lv_iload hx hb dX7_plan_49 (lv_at hl 0 rfl) ?_
          refine lv_if_ne (tgt := 58) hx hb dX7_plan_51 (by decide) (fun c_51 => absurd c_51 (by decide)) (fun c_51 => ?_)
          refine lv_iconst (v := 2) hx hb dX7_plan_54 (by decide) ?_
          refine lv_goto (tgt := 72) hx hb dX7_plan_55 (by decide) ?_
          refine mo_put MC hw HS 0 (by decide) kw618 rfl rfl rfl τ 2 rfl (fun _ _ => rfl) dX7_plan_72 (fun H11 lH11 hw HS => ?_)
          refine lv_aload_n hx hb dX7_plan_75 rfl (lv_at hl 1 rfl) ?_
          refine mo_get MC hw 0 (by decide) kw618 rfl rfl dX7_plan_76 ?_
          refine lv_if_le (tgt := 84) hx hb dX7_plan_79 (by decide) (fun c_79 => absurd c_79 (by decide)) (fun c_79 => ?_)
          refine lv_iconst (v := 0) hx hb dX7_plan_82 (by decide) ?_
          have hth : th_plan τ s9 f n rk = 2 := ax_plan_4 f_7 f_17 f_26 f_42
          exact ro_iretM MC HS hr ⟨_, rfl, by rw [hth, if_neg (by decide)]; exact hw, fun h0 => absurd (hth.symm.trans h0) (by decide)⟩ (Nat.le_refl _) (Nat.le_refl _) dX7_plan_83
        · have f_42 := bI_0.mp c_42
          refine lv_iconst (v := 1) hx hb dX7_plan_45 (by decide) ?_
          refine lv_goto (tgt := 72) hx hb dX7_plan_46 (by decide) ?_
          refine mo_put MC hw HS 0 (by decide) kw618 rfl rfl rfl τ 1 rfl (fun _ _ => rfl) dX7_plan_72 (fun H12 lH12 hw HS => ?_)
          refine lv_aload_n hx hb dX7_plan_75 rfl (lv_at hl 1 rfl) ?_
          refine mo_get MC hw 0 (by decide) kw618 rfl rfl dX7_plan_76 ?_
          refine lv_if_le (tgt := 84) hx hb dX7_plan_79 (by decide) (fun c_79 => absurd c_79 (by decide)) (fun c_79 => ?_)
          refine lv_iconst (v := 0) hx hb dX7_plan_82 (by decide) ?_
          have hth : th_plan τ s9 f n rk = 1 := ax_plan_5 f_7 f_17 f_26 f_42
          exact ro_iretM MC HS hr ⟨_, rfl, by rw [hth, if_neg (by decide)]; exact hw, fun h0 => absurd (hth.symm.trans h0) (by decide)⟩ (Nat.le_refl _) (Nat.le_refl _) dX7_plan_83
      · have f_26 := bI_n0.mp c_26
        refine lv_iconst (v := 1) hx hb dX7_plan_29 (by decide) ?_
        refine lv_goto (tgt := 34) hx hb dX7_plan_30 (by decide) ?_
        refine lv_istore (lv' := [(5, .int 1), (0, .ref (ad 11)), (1, .int s9), (2, .int f), (3, .int n), (4, .int rk)]) hx hb dX7_plan_34 hl (by decide) rfl (fun ls hl => ?_)
        refine lv_aload_n hx hb dX7_plan_36 rfl (lv_at hl 1 rfl) ?_
        refine lv_aload_n hx hb dX7_plan_37 rfl (lv_at hl 1 rfl) ?_
        refine lv_iload_n hx hb dX7_plan_38 rfl (lv_at hl 2 rfl) ?_
        refine ro_callV MC HS (rest := [.ref (ad 11)]) (As := [.int s9]) (m_isScope hw s9) (lkX7_76) (kw698) (kw16) ⟨Nat.le_of_ble_eq_true rfl, Nat.le_of_ble_eq_true rfl⟩ (mo_recv MC hw) hl.1 rfl (Nat.le_of_ble_eq_true rfl) dX7_plan_39 ⟨Nat.le_of_ble_eq_true rfl, Nat.le_of_ble_eq_true rfl⟩ (fun v9 H13 lH13 hp hz HS => ?_)
        obtain ⟨rfl, rfl⟩ := hp
        refine lv_if_ne (tgt := 49) hx hb dX7_plan_42 (by decide) (fun c_42 => ?_) (fun c_42 => ?_)
        · have f_42 := bI_n0.mp c_42
          refine lv_iload hx hb dX7_plan_49 (lv_at hl 0 rfl) ?_
          refine lv_if_ne (tgt := 58) hx hb dX7_plan_51 (by decide) (fun c_51 => ?_) (fun c_51 => absurd c_51 (by decide))
          refine lv_aload_n hx hb dX7_plan_58 rfl (lv_at hl 1 rfl) ?_
          refine mo_get MC hw 14 (by decide) kw632 rfl rfl dX7_plan_59 ?_
          refine lv_bipush (v := 30) hx hb dX7_plan_62 (by decide) ?_
          refine lv_icmp_ne (tgt := 71) hx hb dX7_plan_64 (by decide) (fun c_64 => ?_) (fun c_64 => ?_)
          · have hn30 : nc < 30 := by have := nI_ne (N := 30) hI.2.2.2.1.1 c_64; have := hI.2.2.2.1.2; omega
            have hcs : cx (τ 0 3) = nc := by rw [hI.2.2.2.1.1]; exact cx_nI (by omega)
            refine lv_iconst (v := 0) hx hb dX7_plan_71 (by decide) ?_
            refine mo_put MC hw HS 0 (by decide) kw618 rfl rfl rfl τ 0 rfl (fun _ _ => rfl) dX7_plan_72 (fun H14 lH14 hw HS => ?_)
            refine lv_aload_n hx hb dX7_plan_75 rfl (lv_at hl 1 rfl) ?_
            refine mo_get MC hw 0 (by decide) kw618 rfl rfl dX7_plan_76 ?_
            refine lv_if_le (tgt := 84) hx hb dX7_plan_79 (by decide) (fun c_79 => ?_) (fun c_79 => absurd c_79 (by decide))
            refine lv_aload_n hx hb dX7_plan_84 rfl (lv_at hl 1 rfl) ?_
            refine mo_get MC hw 15 (by decide) kw633 rfl rfl dX7_plan_85 ?_
            refine lv_aload_n hx hb dX7_plan_88 rfl (lv_at hl 1 rfl) ?_
            refine mo_get MC hw 14 (by decide) kw632 rfl rfl dX7_plan_89 ?_
            refine lv_iload_n hx hb dX7_plan_92 rfl (lv_at hl 2 rfl) ?_
            refine mo_iast MC hw HS 11 (by decide) (by decide) rfl nc (show nc < 30 by omega) hI.2.2.2.1.1 dX7_plan_93 (fun H15 lH15 hw HS => ?_)
            refine lv_aload_n hx hb dX7_plan_94 rfl (lv_at hl 1 rfl) ?_
            refine mo_get MC hw 16 (by decide) kw634 rfl rfl dX7_plan_95 ?_
            refine lv_aload_n hx hb dX7_plan_98 rfl (lv_at hl 1 rfl) ?_
            refine mo_get MC hw 14 (by decide) kw632 rfl rfl dX7_plan_99 ?_
            refine lv_iload_n hx hb dX7_plan_102 rfl (lv_at hl 3 rfl) ?_
            refine mo_iast MC hw HS 12 (by decide) (by decide) rfl nc (show nc < 30 by omega) hI.2.2.2.1.1 dX7_plan_103 (fun H16 lH16 hw HS => ?_)
            refine lv_aload_n hx hb dX7_plan_104 rfl (lv_at hl 1 rfl) ?_
            refine mo_get MC hw 17 (by decide) kw635 rfl rfl dX7_plan_105 ?_
            refine lv_aload_n hx hb dX7_plan_108 rfl (lv_at hl 1 rfl) ?_
            refine mo_get MC hw 14 (by decide) kw632 rfl rfl dX7_plan_109 ?_
            refine lv_iload_n hx hb dX7_plan_112 rfl (lv_at hl 4 rfl) ?_
            refine mo_iast MC hw HS 13 (by decide) (by decide) rfl nc (show nc < 30 by omega) hI.2.2.2.1.1 dX7_plan_113 (fun H17 lH17 hw HS => ?_)
            refine lv_aload_n hx hb dX7_plan_114 rfl (lv_at hl 1 rfl) ?_
            refine mo_get MC hw 18 (by decide) kw636 rfl rfl dX7_plan_115 ?_
            refine lv_aload_n hx hb dX7_plan_118 rfl (lv_at hl 1 rfl) ?_
            refine mo_get MC hw 14 (by decide) kw632 rfl rfl dX7_plan_119 ?_
            refine lv_iload hx hb dX7_plan_122 (lv_at hl 5 rfl) ?_
            refine mo_iast MC hw HS 14 (by decide) (by decide) rfl nc (show nc < 30 by omega) hI.2.2.2.1.1 dX7_plan_124 (fun H18 lH18 hw HS => ?_)
            refine lv_aload_n hx hb dX7_plan_125 rfl (lv_at hl 1 rfl) ?_
            refine mo_get MC hw 21 (by decide) kw639 rfl rfl dX7_plan_126 ?_
            refine lv_aload_n hx hb dX7_plan_129 rfl (lv_at hl 1 rfl) ?_
            refine mo_get MC hw 14 (by decide) kw632 rfl rfl dX7_plan_130 ?_
            refine lv_iconst (v := (-1)) hx hb dX7_plan_133 (by decide) ?_
            refine mo_iast MC hw HS 17 (by decide) (by decide) rfl nc (show nc < 30 by omega) hI.2.2.2.1.1 dX7_plan_134 (fun H19 lH19 hw HS => ?_)
            refine lv_aload_n hx hb dX7_plan_135 rfl (lv_at hl 1 rfl) ?_
            refine lv_dup hx hb dX7_plan_136 rfl ?_
            refine mo_get MC hw 14 (by decide) kw632 rfl rfl dX7_plan_137 ?_
            refine lv_iconst (v := 1) hx hb dX7_plan_140 (by decide) ?_
            refine lv_iadd hx hb dX7_plan_141 ?_
            refine mo_put MC hw HS 14 (by decide) kw632 rfl rfl rfl (t0 (ti (ti (ti (ti (ti τ 11 nc s9) 12 nc f) 13 nc n) 14 nc rk) 17 nc (-1)) 3 (τ 0 3 + 1)) 0 rfl (fun i h => va_up_ne _ _ (by omega)) dX7_plan_142 (fun H20 lH20 hw HS => ?_)
            refine lv_aload_n hx hb dX7_plan_145 rfl (lv_at hl 1 rfl) ?_
            refine mo_get MC hw 14 (by decide) kw632 rfl rfl dX7_plan_146 ?_
            refine lv_iconst (v := 1) hx hb dX7_plan_149 (by decide) ?_
            refine lv_isub hx hb dX7_plan_150 ?_
            have hth : th_plan τ s9 f n rk = 0 := ax_plan_6 f_7 f_17 f_26 f_42 c_64
            have hnx : nx_plan τ s9 f n rk = (t0 (ti (ti (ti (ti (ti τ 11 nc s9) 12 nc f) 13 nc n) 14 nc rk) 17 nc (-1)) 3 (τ 0 3 + 1)) := by simp only [nx_plan, hcs]
            exact ro_iretM MC HS hr ⟨_, rfl, by rw [hth, if_pos rfl, hnx]; exact hw, fun _ => by show τ 0 3 + 1 - 1 = rt_plan τ s9 f n rk; unfold rt_plan; lia⟩ (Nat.le_refl _) (Nat.le_refl _) dX7_plan_151
          · refine lv_iconst (v := 3) hx hb dX7_plan_67 (by decide) ?_
            refine lv_goto (tgt := 72) hx hb dX7_plan_68 (by decide) ?_
            refine mo_put MC hw HS 0 (by decide) kw618 rfl rfl rfl τ 3 rfl (fun _ _ => rfl) dX7_plan_72 (fun H21 lH21 hw HS => ?_)
            refine lv_aload_n hx hb dX7_plan_75 rfl (lv_at hl 1 rfl) ?_
            refine mo_get MC hw 0 (by decide) kw618 rfl rfl dX7_plan_76 ?_
            refine lv_if_le (tgt := 84) hx hb dX7_plan_79 (by decide) (fun c_79 => absurd c_79 (by decide)) (fun c_79 => ?_)
            refine lv_iconst (v := 0) hx hb dX7_plan_82 (by decide) ?_
            have hth : th_plan τ s9 f n rk = 3 := ax_plan_7 f_7 f_17 f_26 f_42 c_64
            exact ro_iretM MC HS hr ⟨_, rfl, by rw [hth, if_neg (by decide)]; exact hw, fun h0 => absurd (hth.symm.trans h0) (by decide)⟩ (Nat.le_refl _) (Nat.le_refl _) dX7_plan_83
        · have f_42 := bI_0.mp c_42
          refine lv_iconst (v := 1) hx hb dX7_plan_45 (by decide) ?_
          refine lv_goto (tgt := 72) hx hb dX7_plan_46 (by decide) ?_
          refine mo_put MC hw HS 0 (by decide) kw618 rfl rfl rfl τ 1 rfl (fun _ _ => rfl) dX7_plan_72 (fun H22 lH22 hw HS => ?_)
          refine lv_aload_n hx hb dX7_plan_75 rfl (lv_at hl 1 rfl) ?_
          refine mo_get MC hw 0 (by decide) kw618 rfl rfl dX7_plan_76 ?_
          refine lv_if_le (tgt := 84) hx hb dX7_plan_79 (by decide) (fun c_79 => absurd c_79 (by decide)) (fun c_79 => ?_)
          refine lv_iconst (v := 0) hx hb dX7_plan_82 (by decide) ?_
          have hth : th_plan τ s9 f n rk = 1 := ax_plan_8 f_7 f_17 f_26 f_42
          exact ro_iretM MC HS hr ⟨_, rfl, by rw [hth, if_neg (by decide)]; exact hw, fun h0 => absurd (hth.symm.trans h0) (by decide)⟩ (Nat.le_refl _) (Nat.le_refl _) dX7_plan_83
set_option maxHeartbeats 4000000 in
set_option maxRecDepth 100000 in
theorem m_approve {l : Launch} {D : va_G} {ids : Nat → ClassId} {n0 : Nat} {RR : List Nat} {ad : Nat → Nat} {τ : Tau} {th : Int32} {fr : Nat → va_E} {Hh : Heap} (hw : sM D ids n0 RR ad τ th fr Hh) {nw ns nl nc : Nat} (hI : Iv τ nw ns nl nc) (c9 : Int32) : ro_M l yX7_approve cX7_approve 2 (some FieldType.int) { frames := 2, cells := 0, slots := 0, locals := 60 } D ids n0 [.ref (ad 11), .int c9] Hh (fun v9 H1 => ∃ rz, v9 = some (.int rz) ∧ sM D ids n0 RR ad (if th_approve τ c9 = 0 then nx_approve τ c9 else τ) (th_approve τ c9) fr H1 ∧ (th_approve τ c9 = 0 → rz = rt_approve τ c9)) := by
  refine ro_ofM (by decide +kernel) (Nat.le_of_ble_eq_true rfl) ?_
  intro p e s m below meth c MC hhp hr hnm HS ls hl
  have hx := MC.1.1
  have hb := MC.1.2.1
  have hl : lv_has ls 2 [(0, .ref (ad 11)), (1, .int c9)] := hl
  refine lv_aload_n hx hb dX7_approve_0 rfl (lv_at hl 0 rfl) ?_
  refine lv_aload_n hx hb dX7_approve_1 rfl (lv_at hl 0 rfl) ?_
  refine lv_iload_n hx hb dX7_approve_2 rfl (lv_at hl 1 rfl) ?_
  refine ro_callV MC HS (rest := [.ref (ad 11)]) (As := [.int c9]) (m_isChange hw c9) (lkX7_122) (kw788) (kw24) ⟨Nat.le_of_ble_eq_true rfl, Nat.le_of_ble_eq_true rfl⟩ (mo_recv MC hw) hl.1 rfl (Nat.le_of_ble_eq_true rfl) dX7_approve_3 ⟨Nat.le_of_ble_eq_true rfl, Nat.le_of_ble_eq_true rfl⟩ (fun v9 H1 lH1 hp hz HS => ?_)
  obtain ⟨rfl, rfl⟩ := hp
  refine lv_if_ne (tgt := 13) hx hb dX7_approve_6 (by decide) (fun c_6 => ?_) (fun c_6 => ?_)
  · have f_6 := bI_n0.mp c_6
    obtain ⟨kc, hkn, hka, hkc⟩ := hI.c f_6
    have hnc := hI.2.2.2.1.2
    refine lv_aload_n hx hb dX7_approve_13 rfl (lv_at hl 0 rfl) ?_
    refine mo_get MC hw 21 (by decide) kw639 rfl rfl dX7_approve_14 ?_
    refine lv_iload_n hx hb dX7_approve_17 rfl (lv_at hl 1 rfl) ?_
    refine mo_iald MC hw 17 (by decide) (by decide) rfl kc (show kc < 30 by omega) hka dX7_approve_18 ?_
    refine lv_iconst (v := (-1)) hx hb dX7_approve_19 (by decide) ?_
    refine lv_icmp_ne (tgt := 38) hx hb dX7_approve_20 (by decide) (fun c_20 => ?_) (fun c_20 => ?_)
    · refine lv_iconst (v := 2) hx hb dX7_approve_38 (by decide) ?_
      refine lv_goto (tgt := 43) hx hb dX7_approve_39 (by decide) ?_
      refine mo_put MC hw HS 0 (by decide) kw618 rfl rfl rfl τ 2 rfl (fun _ _ => rfl) dX7_approve_43 (fun H2 lH2 hw HS => ?_)
      refine lv_aload_n hx hb dX7_approve_46 rfl (lv_at hl 0 rfl) ?_
      refine mo_get MC hw 0 (by decide) kw618 rfl rfl dX7_approve_47 ?_
      refine lv_if_le (tgt := 55) hx hb dX7_approve_50 (by decide) (fun c_50 => absurd c_50 (by decide)) (fun c_50 => ?_)
      refine lv_iconst (v := 0) hx hb dX7_approve_53 (by decide) ?_
      have hth : th_approve τ c9 = 2 := ax_approve_0 hkc f_6 c_20
      exact ro_iretM MC HS hr ⟨_, rfl, by rw [hth, if_neg (by decide)]; exact hw, fun h0 => absurd (hth.symm.trans h0) (by decide)⟩ (Nat.le_refl _) (Nat.le_refl _) dX7_approve_54
    · refine lv_aload_n hx hb dX7_approve_23 rfl (lv_at hl 0 rfl) ?_
      refine mo_get MC hw 19 (by decide) kw637 rfl rfl dX7_approve_24 ?_
      refine lv_iload_n hx hb dX7_approve_27 rfl (lv_at hl 1 rfl) ?_
      refine mo_iald MC hw 15 (by decide) (by decide) rfl kc (show kc < 30 by omega) hka dX7_approve_28 ?_
      refine lv_aload_n hx hb dX7_approve_29 rfl (lv_at hl 0 rfl) ?_
      refine mo_get MC hw 18 (by decide) kw636 rfl rfl dX7_approve_30 ?_
      refine lv_iload_n hx hb dX7_approve_33 rfl (lv_at hl 1 rfl) ?_
      refine mo_iald MC hw 14 (by decide) (by decide) rfl kc (show kc < 30 by omega) hka dX7_approve_34 ?_
      refine lv_icmp_ne (tgt := 42) hx hb dX7_approve_35 (by decide) (fun c_35 => ?_) (fun c_35 => ?_)
      · refine lv_iconst (v := 0) hx hb dX7_approve_42 (by decide) ?_
        refine mo_put MC hw HS 0 (by decide) kw618 rfl rfl rfl τ 0 rfl (fun _ _ => rfl) dX7_approve_43 (fun H3 lH3 hw HS => ?_)
        refine lv_aload_n hx hb dX7_approve_46 rfl (lv_at hl 0 rfl) ?_
        refine mo_get MC hw 0 (by decide) kw618 rfl rfl dX7_approve_47 ?_
        refine lv_if_le (tgt := 55) hx hb dX7_approve_50 (by decide) (fun c_50 => ?_) (fun c_50 => absurd c_50 (by decide))
        refine lv_aload_n hx hb dX7_approve_55 rfl (lv_at hl 0 rfl) ?_
        refine mo_get MC hw 19 (by decide) kw637 rfl rfl dX7_approve_56 ?_
        refine lv_iload_n hx hb dX7_approve_59 rfl (lv_at hl 1 rfl) ?_
        refine lv_dup2_11 hx hb dX7_approve_60 rfl rfl ?_
        refine mo_iald MC hw 15 (by decide) (by decide) rfl kc (show kc < 30 by omega) hka dX7_approve_61 ?_
        refine lv_iconst (v := 1) hx hb dX7_approve_62 (by decide) ?_
        refine lv_iadd hx hb dX7_approve_63 ?_
        refine mo_iast MC hw HS 15 (by decide) (by decide) rfl kc (show kc < 30 by omega) hka dX7_approve_64 (fun H4 lH4 hw HS => ?_)
        refine lv_aload_n hx hb dX7_approve_65 rfl (lv_at hl 0 rfl) ?_
        refine mo_get MC hw 19 (by decide) kw637 rfl rfl dX7_approve_66 ?_
        refine lv_iload_n hx hb dX7_approve_69 rfl (lv_at hl 1 rfl) ?_
        refine mo_iald MC hw 15 (by decide) (by decide) rfl kc (show kc < 30 by omega) hka dX7_approve_70 ?_
        refine lv_topi (fun y5 ey5 => ?_)
        obtain rfl : y5 = (τ 15 kc + 1) := ey5.trans (by simp [va_up, upd])
        have hth : th_approve τ c9 = 0 := ax_approve_1 hkc f_6 c_20 c_35
        have hnx : nx_approve τ c9 = (ti τ 15 kc (τ 15 kc + 1)) := by simp only [nx_approve, hkc]
        exact ro_iretM MC HS hr ⟨_, rfl, by rw [hth, if_pos rfl, hnx]; exact hw, fun _ => by show (τ 15 kc + 1) = rt_approve τ c9; simp only [rt_approve, hkc]⟩ (Nat.le_refl _) (Nat.le_refl _) dX7_approve_71
      · refine lv_iconst (v := 2) hx hb dX7_approve_38 (by decide) ?_
        refine lv_goto (tgt := 43) hx hb dX7_approve_39 (by decide) ?_
        refine mo_put MC hw HS 0 (by decide) kw618 rfl rfl rfl τ 2 rfl (fun _ _ => rfl) dX7_approve_43 (fun H6 lH6 hw HS => ?_)
        refine lv_aload_n hx hb dX7_approve_46 rfl (lv_at hl 0 rfl) ?_
        refine mo_get MC hw 0 (by decide) kw618 rfl rfl dX7_approve_47 ?_
        refine lv_if_le (tgt := 55) hx hb dX7_approve_50 (by decide) (fun c_50 => absurd c_50 (by decide)) (fun c_50 => ?_)
        refine lv_iconst (v := 0) hx hb dX7_approve_53 (by decide) ?_
        have hth : th_approve τ c9 = 2 := ax_approve_2 hkc f_6 c_20 c_35
        exact ro_iretM MC HS hr ⟨_, rfl, by rw [hth, if_neg (by decide)]; exact hw, fun h0 => absurd (hth.symm.trans h0) (by decide)⟩ (Nat.le_refl _) (Nat.le_refl _) dX7_approve_54
  · have f_6 := bI_0.mp c_6
    refine lv_iconst (v := 1) hx hb dX7_approve_9 (by decide) ?_
    refine lv_goto (tgt := 43) hx hb dX7_approve_10 (by decide) ?_
    refine mo_put MC hw HS 0 (by decide) kw618 rfl rfl rfl τ 1 rfl (fun _ _ => rfl) dX7_approve_43 (fun H7 lH7 hw HS => ?_)
    refine lv_aload_n hx hb dX7_approve_46 rfl (lv_at hl 0 rfl) ?_
    refine mo_get MC hw 0 (by decide) kw618 rfl rfl dX7_approve_47 ?_
    refine lv_if_le (tgt := 55) hx hb dX7_approve_50 (by decide) (fun c_50 => absurd c_50 (by decide)) (fun c_50 => ?_)
    refine lv_iconst (v := 0) hx hb dX7_approve_53 (by decide) ?_
    have hth : th_approve τ c9 = 1 := ax_approve_3 f_6
    exact ro_iretM MC HS hr ⟨_, rfl, by rw [hth, if_neg (by decide)]; exact hw, fun h0 => absurd (hth.symm.trans h0) (by decide)⟩ (Nat.le_refl _) (Nat.le_refl _) dX7_approve_54
set_option maxHeartbeats 4000000 in
set_option maxRecDepth 100000 in
theorem m_state {l : Launch} {D : va_G} {ids : Nat → ClassId} {n0 : Nat} {RR : List Nat} {ad : Nat → Nat} {τ : Tau} {th : Int32} {fr : Nat → va_E} {Hh : Heap} (hw : sM D ids n0 RR ad τ th fr Hh) {nw ns nl nc : Nat} (hI : Iv τ nw ns nl nc) (c9 : Int32) : ro_M l yX7_state cX7_state 2 (some FieldType.int) { frames := 2, cells := 0, slots := 0, locals := 60 } D ids n0 [.ref (ad 11), .int c9] Hh (fun v9 H1 => ∃ rz, v9 = some (.int rz) ∧ sM D ids n0 RR ad τ (th_state τ c9) fr H1 ∧ (th_state τ c9 = 0 → rz = rt_state τ c9)) := by
  refine ro_ofM (by decide +kernel) (Nat.le_of_ble_eq_true rfl) ?_
  intro p e s m below meth c MC hhp hr hnm HS ls hl
  have hx := MC.1.1
  have hb := MC.1.2.1
  have hl : lv_has ls 2 [(0, .ref (ad 11)), (1, .int c9)] := hl
  refine lv_aload_n hx hb dX7_state_0 rfl (lv_at hl 0 rfl) ?_
  refine lv_aload_n hx hb dX7_state_1 rfl (lv_at hl 0 rfl) ?_
  refine lv_iload_n hx hb dX7_state_2 rfl (lv_at hl 1 rfl) ?_
  refine ro_callV MC HS (rest := [.ref (ad 11)]) (As := [.int c9]) (m_isChange hw c9) (lkX7_122) (kw788) (kw24) ⟨Nat.le_of_ble_eq_true rfl, Nat.le_of_ble_eq_true rfl⟩ (mo_recv MC hw) hl.1 rfl (Nat.le_of_ble_eq_true rfl) dX7_state_3 ⟨Nat.le_of_ble_eq_true rfl, Nat.le_of_ble_eq_true rfl⟩ (fun v9 H1 lH1 hp hz HS => ?_)
  obtain ⟨rfl, rfl⟩ := hp
  refine lv_if_eq (tgt := 13) hx hb dX7_state_6 (by decide) (fun c_6 => ?_) (fun c_6 => ?_)
  · have f_6 := bI_0.mp c_6
    refine lv_iconst (v := 1) hx hb dX7_state_13 (by decide) ?_
    refine mo_put MC hw HS 0 (by decide) kw618 rfl rfl rfl τ 1 rfl (fun _ _ => rfl) dX7_state_14 (fun H2 lH2 hw HS => ?_)
    refine lv_aload_n hx hb dX7_state_17 rfl (lv_at hl 0 rfl) ?_
    refine mo_get MC hw 0 (by decide) kw618 rfl rfl dX7_state_18 ?_
    refine lv_if_gt (tgt := 34) hx hb dX7_state_21 (by decide) (fun c_21 => ?_) (fun c_21 => absurd c_21 (by decide))
    refine lv_iconst (v := 0) hx hb dX7_state_34 (by decide) ?_
    have hth : th_state τ c9 = 1 := ax_state_0 f_6
    exact ro_iretM MC HS hr ⟨_, rfl, by rw [hth]; exact hw, fun h0 => absurd (hth.symm.trans h0) (by decide)⟩ (Nat.le_refl _) (Nat.le_refl _) dX7_state_35
  · have f_6 := bI_n0.mp c_6
    obtain ⟨kc, hkn, hka, hkc⟩ := hI.c f_6
    have hnc := hI.2.2.2.1.2
    refine lv_iconst (v := 0) hx hb dX7_state_9 (by decide) ?_
    refine lv_goto (tgt := 14) hx hb dX7_state_10 (by decide) ?_
    refine mo_put MC hw HS 0 (by decide) kw618 rfl rfl rfl τ 0 rfl (fun _ _ => rfl) dX7_state_14 (fun H3 lH3 hw HS => ?_)
    refine lv_aload_n hx hb dX7_state_17 rfl (lv_at hl 0 rfl) ?_
    refine mo_get MC hw 0 (by decide) kw618 rfl rfl dX7_state_18 ?_
    refine lv_if_gt (tgt := 34) hx hb dX7_state_21 (by decide) (fun c_21 => absurd c_21 (by decide)) (fun c_21 => ?_)
    refine lv_aload_n hx hb dX7_state_24 rfl (lv_at hl 0 rfl) ?_
    refine mo_get MC hw 21 (by decide) kw639 rfl rfl dX7_state_25 ?_
    refine lv_iload_n hx hb dX7_state_28 rfl (lv_at hl 1 rfl) ?_
    refine mo_iald MC hw 17 (by decide) (by decide) rfl kc (show kc < 30 by omega) hka dX7_state_29 ?_
    refine lv_iconst (v := (-1)) hx hb dX7_state_30 (by decide) ?_
    refine lv_icmp_ne (tgt := 36) hx hb dX7_state_31 (by decide) (fun c_31 => ?_) (fun c_31 => ?_)
    · refine lv_aload_n hx hb dX7_state_36 rfl (lv_at hl 0 rfl) ?_
      refine mo_get MC hw 1 (by decide) kw619 rfl rfl dX7_state_37 ?_
      refine lv_aload_n hx hb dX7_state_40 rfl (lv_at hl 0 rfl) ?_
      refine mo_get MC hw 16 (by decide) kw634 rfl rfl dX7_state_41 ?_
      refine lv_iload_n hx hb dX7_state_44 rfl (lv_at hl 1 rfl) ?_
      refine mo_iald MC hw 12 (by decide) (by decide) rfl kc (show kc < 30 by omega) hka dX7_state_45 ?_
      refine lv_aload_n hx hb dX7_state_46 rfl (lv_at hl 0 rfl) ?_
      refine mo_get MC hw 17 (by decide) kw635 rfl rfl dX7_state_47 ?_
      refine lv_iload_n hx hb dX7_state_50 rfl (lv_at hl 1 rfl) ?_
      refine mo_iald MC hw 13 (by decide) (by decide) rfl kc (show kc < 30 by omega) hka dX7_state_51 ?_
      refine lv_iadd hx hb dX7_state_52 ?_
      refine lv_icmp_lt (tgt := 60) hx hb dX7_state_53 (by decide) (fun c_53 => ?_) (fun c_53 => ?_)
      · refine lv_iconst (v := 1) hx hb dX7_state_60 (by decide) ?_
        have hth : th_state τ c9 = 0 := ax_state_1 hkc f_6 c_31 c_53
        exact ro_iretM MC HS hr ⟨_, rfl, by rw [hth]; exact hw, fun _ => by show 1 = rt_state τ c9; unfold rt_state; rw [hkc]; first | rw [if_pos c_31] | (rw [if_neg c_31, if_neg (by lia)]) | (rw [if_neg c_31, if_pos (by lia)])⟩ (Nat.le_refl _) (Nat.le_refl _) dX7_state_61
      · refine lv_iconst (v := 2) hx hb dX7_state_56 (by decide) ?_
        refine lv_goto (tgt := 61) hx hb dX7_state_57 (by decide) ?_
        have hth : th_state τ c9 = 0 := ax_state_2 hkc f_6 c_31 c_53
        exact ro_iretM MC HS hr ⟨_, rfl, by rw [hth]; exact hw, fun _ => by show 2 = rt_state τ c9; unfold rt_state; rw [hkc]; first | rw [if_pos c_31] | (rw [if_neg c_31, if_neg (by lia)]) | (rw [if_neg c_31, if_pos (by lia)])⟩ (Nat.le_refl _) (Nat.le_refl _) dX7_state_61
    · refine lv_iconst (v := 0) hx hb dX7_state_34 (by decide) ?_
      have hth : th_state τ c9 = 0 := ax_state_3 hkc f_6 c_31
      exact ro_iretM MC HS hr ⟨_, rfl, by rw [hth]; exact hw, fun _ => by show 0 = rt_state τ c9; unfold rt_state; rw [hkc]; first | rw [if_pos c_31] | (rw [if_neg c_31, if_neg (by lia)]) | (rw [if_neg c_31, if_pos (by lia)])⟩ (Nat.le_refl _) (Nat.le_refl _) dX7_state_35
set_option maxHeartbeats 4000000 in
set_option maxRecDepth 100000 in
theorem m_approved {l : Launch} {D : va_G} {ids : Nat → ClassId} {n0 : Nat} {RR : List Nat} {ad : Nat → Nat} {τ : Tau} {th : Int32} {fr : Nat → va_E} {Hh : Heap} (hw : sM D ids n0 RR ad τ th fr Hh) {nw ns nl nc : Nat} (hI : Iv τ nw ns nl nc) (c9 : Int32) : ro_M l yX7_approved cX7_approved 2 (some FieldType.int) { frames := 2, cells := 0, slots := 0, locals := 60 } D ids n0 [.ref (ad 11), .int c9] Hh (fun v9 H1 => ∃ rz, v9 = some (.int rz) ∧ sM D ids n0 RR ad τ (th_approved τ c9) fr H1 ∧ (th_approved τ c9 = 0 → rz = rt_approved τ c9)) := by
  refine ro_ofM (by decide +kernel) (Nat.le_of_ble_eq_true rfl) ?_
  intro p e s m below meth c MC hhp hr hnm HS ls hl
  have hx := MC.1.1
  have hb := MC.1.2.1
  have hl : lv_has ls 2 [(0, .ref (ad 11)), (1, .int c9)] := hl
  refine lv_aload_n hx hb dX7_approved_0 rfl (lv_at hl 0 rfl) ?_
  refine lv_aload_n hx hb dX7_approved_1 rfl (lv_at hl 0 rfl) ?_
  refine lv_iload_n hx hb dX7_approved_2 rfl (lv_at hl 1 rfl) ?_
  refine ro_callV MC HS (rest := [.ref (ad 11)]) (As := [.int c9]) (m_isChange hw c9) (lkX7_122) (kw788) (kw24) ⟨Nat.le_of_ble_eq_true rfl, Nat.le_of_ble_eq_true rfl⟩ (mo_recv MC hw) hl.1 rfl (Nat.le_of_ble_eq_true rfl) dX7_approved_3 ⟨Nat.le_of_ble_eq_true rfl, Nat.le_of_ble_eq_true rfl⟩ (fun v9 H1 lH1 hp hz HS => ?_)
  obtain ⟨rfl, rfl⟩ := hp
  refine lv_if_eq (tgt := 13) hx hb dX7_approved_6 (by decide) (fun c_6 => ?_) (fun c_6 => ?_)
  · have f_6 := bI_0.mp c_6
    refine lv_iconst (v := 1) hx hb dX7_approved_13 (by decide) ?_
    refine mo_put MC hw HS 0 (by decide) kw618 rfl rfl rfl τ 1 rfl (fun _ _ => rfl) dX7_approved_14 (fun H2 lH2 hw HS => ?_)
    refine lv_aload_n hx hb dX7_approved_17 rfl (lv_at hl 0 rfl) ?_
    refine mo_get MC hw 0 (by decide) kw618 rfl rfl dX7_approved_18 ?_
    refine lv_if_le (tgt := 28) hx hb dX7_approved_21 (by decide) (fun c_21 => absurd c_21 (by decide)) (fun c_21 => ?_)
    refine lv_iconst (v := 0) hx hb dX7_approved_24 (by decide) ?_
    refine lv_goto (tgt := 34) hx hb dX7_approved_25 (by decide) ?_
    have hth : th_approved τ c9 = 1 := ax_approved_0 f_6
    exact ro_iretM MC HS hr ⟨_, rfl, by rw [hth]; exact hw, fun h0 => absurd (hth.symm.trans h0) (by decide)⟩ (Nat.le_refl _) (Nat.le_refl _) dX7_approved_34
  · have f_6 := bI_n0.mp c_6
    obtain ⟨kc, hkn, hka, hkc⟩ := hI.c f_6
    have hnc := hI.2.2.2.1.2
    refine lv_iconst (v := 0) hx hb dX7_approved_9 (by decide) ?_
    refine lv_goto (tgt := 14) hx hb dX7_approved_10 (by decide) ?_
    refine mo_put MC hw HS 0 (by decide) kw618 rfl rfl rfl τ 0 rfl (fun _ _ => rfl) dX7_approved_14 (fun H3 lH3 hw HS => ?_)
    refine lv_aload_n hx hb dX7_approved_17 rfl (lv_at hl 0 rfl) ?_
    refine mo_get MC hw 0 (by decide) kw618 rfl rfl dX7_approved_18 ?_
    refine lv_if_le (tgt := 28) hx hb dX7_approved_21 (by decide) (fun c_21 => ?_) (fun c_21 => absurd c_21 (by decide))
    refine lv_aload_n hx hb dX7_approved_28 rfl (lv_at hl 0 rfl) ?_
    refine mo_get MC hw 19 (by decide) kw637 rfl rfl dX7_approved_29 ?_
    refine lv_iload_n hx hb dX7_approved_32 rfl (lv_at hl 1 rfl) ?_
    refine mo_iald MC hw 15 (by decide) (by decide) rfl kc (show kc < 30 by omega) hka dX7_approved_33 ?_
    have hth : th_approved τ c9 = 0 := ax_approved_1 hkc f_6
    exact ro_iretM MC HS hr ⟨_, rfl, by rw [hth]; exact hw, fun _ => by show τ 15 kc = rt_approved τ c9; simp only [rt_approved, hkc]⟩ (Nat.le_refl _) (Nat.le_refl _) dX7_approved_34
set_option maxHeartbeats 4000000 in
set_option maxRecDepth 100000 in
theorem m_exceptions {l : Launch} {D : va_G} {ids : Nat → ClassId} {n0 : Nat} {RR : List Nat} {ad : Nat → Nat} {τ : Tau} {th : Int32} {fr : Nat → va_E} {Hh : Heap} (hw : sM D ids n0 RR ad τ th fr Hh) {nw ns nl nc : Nat} (hI : Iv τ nw ns nl nc) (rk : Int32) (n : Int32) : ro_M l yX7_exceptions cX7_exceptions 4 (some FieldType.int) { frames := 1, cells := 0, slots := 0, locals := 30 } D ids n0 [.ref (ad 11), .int rk, .int n] Hh (fun v9 H1 => ∃ rz, v9 = some (.int rz) ∧ sM D ids n0 RR ad (if th_exceptions τ rk n = 0 then nx_exceptions τ rk n else τ) (th_exceptions τ rk n) fr H1 ∧ (th_exceptions τ rk n = 0 → rz = rt_exceptions τ rk n)) := by
  refine ro_ofM (by decide +kernel) (Nat.le_of_ble_eq_true rfl) ?_
  intro p e s m below meth c MC hhp hr hnm HS ls hl
  have hx := MC.1.1
  have hb := MC.1.2.1
  have hl : lv_has ls 4 [(0, .ref (ad 11)), (1, .int rk), (2, .int n)] := hl
  refine lv_aload_n hx hb dX7_exceptions_0 rfl (lv_at hl 0 rfl) ?_
  refine lv_iload_n hx hb dX7_exceptions_1 rfl (lv_at hl 1 rfl) ?_
  refine lv_iconst (v := 1) hx hb dX7_exceptions_2 (by decide) ?_
  refine lv_iconst (v := 3) hx hb dX7_exceptions_3 (by decide) ?_
  refine ro_callS MC HS (rest := [.ref (ad 11)]) (As := [.int rk, .int 1, .int 3]) (m_isIn l D ids n0 rk 1 3) (lkX7_72) (kw701) ⟨Nat.le_of_ble_eq_true rfl, Nat.le_of_ble_eq_true rfl⟩ hl.1 rfl (Nat.le_of_ble_eq_true rfl) dX7_exceptions_4 ⟨Nat.le_of_ble_eq_true rfl, Nat.le_of_ble_eq_true rfl⟩ (fun v9 H1 lH1 hp hz HS => ?_)
  obtain ⟨rfl, rfl⟩ := hp
  refine lv_if_eq (tgt := 24) hx hb dX7_exceptions_7 (by decide) (fun c_7 => ?_) (fun c_7 => ?_)
  · have f_7 := bI_0.mp c_7
    refine lv_iconst (v := 1) hx hb dX7_exceptions_24 (by decide) ?_
    refine mo_put MC hw HS 0 (by decide) kw618 rfl rfl rfl τ 1 rfl (fun _ _ => rfl) dX7_exceptions_25 (fun H2 lH2 hw HS => ?_)
    refine lv_aload_n hx hb dX7_exceptions_28 rfl (lv_at hl 0 rfl) ?_
    refine mo_get MC hw 0 (by decide) kw618 rfl rfl dX7_exceptions_29 ?_
    refine lv_if_le (tgt := 37) hx hb dX7_exceptions_32 (by decide) (fun c_32 => absurd c_32 (by decide)) (fun c_32 => ?_)
    refine lv_iconst (v := 0) hx hb dX7_exceptions_35 (by decide) ?_
    have hth : th_exceptions τ rk n = 1 := ax_exceptions_0 f_7
    exact ro_iretM MC HS hr ⟨_, rfl, by rw [hth, if_neg (by decide)]; exact hw, fun h0 => absurd (hth.symm.trans h0) (by decide)⟩ (Nat.le_refl _) (Nat.le_refl _) dX7_exceptions_36
  · have f_7 := bI_n0.mp c_7
    obtain ⟨kr, hr1, hr4, hra, hrc⟩ := okR.ix f_7
    refine lv_iload_n hx hb dX7_exceptions_10 rfl (lv_at hl 2 rfl) ?_
    refine lv_iconst (v := 0) hx hb dX7_exceptions_11 (by decide) ?_
    refine lv_bipush (v := 50) hx hb dX7_exceptions_12 (by decide) ?_
    refine ro_callS MC HS (rest := [.ref (ad 11)]) (As := [.int n, .int 0, .int 50]) (m_isIn l D ids n0 n 0 50) (lkX7_72) (kw701) ⟨Nat.le_of_ble_eq_true rfl, Nat.le_of_ble_eq_true rfl⟩ hl.1 rfl (Nat.le_of_ble_eq_true rfl) dX7_exceptions_14 ⟨Nat.le_of_ble_eq_true rfl, Nat.le_of_ble_eq_true rfl⟩ (fun v9 H3 lH3 hp hz HS => ?_)
    obtain ⟨rfl, rfl⟩ := hp
    refine lv_if_eq (tgt := 24) hx hb dX7_exceptions_17 (by decide) (fun c_17 => ?_) (fun c_17 => ?_)
    · have f_17 := bI_0.mp c_17
      refine lv_iconst (v := 1) hx hb dX7_exceptions_24 (by decide) ?_
      refine mo_put MC hw HS 0 (by decide) kw618 rfl rfl rfl τ 1 rfl (fun _ _ => rfl) dX7_exceptions_25 (fun H4 lH4 hw HS => ?_)
      refine lv_aload_n hx hb dX7_exceptions_28 rfl (lv_at hl 0 rfl) ?_
      refine mo_get MC hw 0 (by decide) kw618 rfl rfl dX7_exceptions_29 ?_
      refine lv_if_le (tgt := 37) hx hb dX7_exceptions_32 (by decide) (fun c_32 => absurd c_32 (by decide)) (fun c_32 => ?_)
      refine lv_iconst (v := 0) hx hb dX7_exceptions_35 (by decide) ?_
      have hth : th_exceptions τ rk n = 1 := ax_exceptions_1 f_7 f_17
      exact ro_iretM MC HS hr ⟨_, rfl, by rw [hth, if_neg (by decide)]; exact hw, fun h0 => absurd (hth.symm.trans h0) (by decide)⟩ (Nat.le_refl _) (Nat.le_refl _) dX7_exceptions_36
    · have f_17 := bI_n0.mp c_17
      refine lv_iconst (v := 0) hx hb dX7_exceptions_20 (by decide) ?_
      refine lv_goto (tgt := 25) hx hb dX7_exceptions_21 (by decide) ?_
      refine mo_put MC hw HS 0 (by decide) kw618 rfl rfl rfl τ 0 rfl (fun _ _ => rfl) dX7_exceptions_25 (fun H5 lH5 hw HS => ?_)
      refine lv_aload_n hx hb dX7_exceptions_28 rfl (lv_at hl 0 rfl) ?_
      refine mo_get MC hw 0 (by decide) kw618 rfl rfl dX7_exceptions_29 ?_
      refine lv_if_le (tgt := 37) hx hb dX7_exceptions_32 (by decide) (fun c_32 => ?_) (fun c_32 => absurd c_32 (by decide))
      refine lv_aload_n hx hb dX7_exceptions_37 rfl (lv_at hl 0 rfl) ?_
      refine mo_get MC hw 22 (by decide) kw640 rfl rfl dX7_exceptions_38 ?_
      refine lv_iload_n hx hb dX7_exceptions_41 rfl (lv_at hl 1 rfl) ?_
      refine mo_iald MC hw 18 (by decide) (by decide) rfl kr (show kr < 4 by omega) hra dX7_exceptions_42 ?_
      refine lv_istore_n (lv' := [(3, .int (τ 18 kr)), (0, .ref (ad 11)), (1, .int rk), (2, .int n)]) hx hb dX7_exceptions_43 rfl hl (by decide) rfl (fun ls hl => ?_)
      refine lv_aload_n hx hb dX7_exceptions_44 rfl (lv_at hl 1 rfl) ?_
      refine mo_get MC hw 22 (by decide) kw640 rfl rfl dX7_exceptions_45 ?_
      refine lv_iload_n hx hb dX7_exceptions_48 rfl (lv_at hl 2 rfl) ?_
      refine lv_iload_n hx hb dX7_exceptions_49 rfl (lv_at hl 3 rfl) ?_
      refine mo_iast MC hw HS 18 (by decide) (by decide) rfl kr (show kr < 4 by omega) hra dX7_exceptions_50 (fun H6 lH6 hw HS => ?_)
      refine lv_iload_n hx hb dX7_exceptions_51 rfl (lv_at hl 0 rfl) ?_
      have hth : th_exceptions τ rk n = 0 := ax_exceptions_2 f_7 f_17
      have hnx : nx_exceptions τ rk n = (ti τ 18 kr n) := by simp only [nx_exceptions, hrc]
      exact ro_iretM MC HS hr ⟨_, rfl, by rw [hth, if_pos rfl, hnx]; exact hw, fun _ => by show τ 18 kr = rt_exceptions τ rk n; simp only [rt_exceptions, hrc]⟩ (Nat.le_refl _) (Nat.le_refl _) dX7_exceptions_52
set_option maxHeartbeats 4000000 in
set_option maxRecDepth 100000 in
theorem m_left {l : Launch} {D : va_G} {ids : Nat → ClassId} {n0 : Nat} {RR : List Nat} {ad : Nat → Nat} {τ : Tau} {th : Int32} {fr : Nat → va_E} {Hh : Heap} (hw : sM D ids n0 RR ad τ th fr Hh) {nw ns nl nc : Nat} (hI : Iv τ nw ns nl nc) (rk : Int32) : ro_M l yX7_left cX7_left 2 (some FieldType.int) { frames := 1, cells := 0, slots := 0, locals := 30 } D ids n0 [.ref (ad 11), .int rk] Hh (fun v9 H1 => ∃ rz, v9 = some (.int rz) ∧ sM D ids n0 RR ad τ (th_left τ rk) fr H1 ∧ (th_left τ rk = 0 → rz = rt_left τ rk)) := by
  refine ro_ofM (by decide +kernel) (Nat.le_of_ble_eq_true rfl) ?_
  intro p e s m below meth c MC hhp hr hnm HS ls hl
  have hx := MC.1.1
  have hb := MC.1.2.1
  have hl : lv_has ls 2 [(0, .ref (ad 11)), (1, .int rk)] := hl
  refine lv_aload_n hx hb dX7_left_0 rfl (lv_at hl 0 rfl) ?_
  refine lv_iload_n hx hb dX7_left_1 rfl (lv_at hl 1 rfl) ?_
  refine lv_iconst (v := 1) hx hb dX7_left_2 (by decide) ?_
  refine lv_iconst (v := 3) hx hb dX7_left_3 (by decide) ?_
  refine ro_callS MC HS (rest := [.ref (ad 11)]) (As := [.int rk, .int 1, .int 3]) (m_isIn l D ids n0 rk 1 3) (lkX7_72) (kw701) ⟨Nat.le_of_ble_eq_true rfl, Nat.le_of_ble_eq_true rfl⟩ hl.1 rfl (Nat.le_of_ble_eq_true rfl) dX7_left_4 ⟨Nat.le_of_ble_eq_true rfl, Nat.le_of_ble_eq_true rfl⟩ (fun v9 H1 lH1 hp hz HS => ?_)
  obtain ⟨rfl, rfl⟩ := hp
  refine lv_if_eq (tgt := 14) hx hb dX7_left_7 (by decide) (fun c_7 => ?_) (fun c_7 => ?_)
  · have f_7 := bI_0.mp c_7
    refine lv_iconst (v := 1) hx hb dX7_left_14 (by decide) ?_
    refine mo_put MC hw HS 0 (by decide) kw618 rfl rfl rfl τ 1 rfl (fun _ _ => rfl) dX7_left_15 (fun H2 lH2 hw HS => ?_)
    refine lv_aload_n hx hb dX7_left_18 rfl (lv_at hl 0 rfl) ?_
    refine mo_get MC hw 0 (by decide) kw618 rfl rfl dX7_left_19 ?_
    refine lv_if_le (tgt := 29) hx hb dX7_left_22 (by decide) (fun c_22 => absurd c_22 (by decide)) (fun c_22 => ?_)
    refine lv_iconst (v := 0) hx hb dX7_left_25 (by decide) ?_
    refine lv_goto (tgt := 35) hx hb dX7_left_26 (by decide) ?_
    have hth : th_left τ rk = 1 := ax_left_0 f_7
    exact ro_iretM MC HS hr ⟨_, rfl, by rw [hth]; exact hw, fun h0 => absurd (hth.symm.trans h0) (by decide)⟩ (Nat.le_refl _) (Nat.le_refl _) dX7_left_35
  · have f_7 := bI_n0.mp c_7
    obtain ⟨kr, hr1, hr4, hra, hrc⟩ := okR.ix f_7
    refine lv_iconst (v := 0) hx hb dX7_left_10 (by decide) ?_
    refine lv_goto (tgt := 15) hx hb dX7_left_11 (by decide) ?_
    refine mo_put MC hw HS 0 (by decide) kw618 rfl rfl rfl τ 0 rfl (fun _ _ => rfl) dX7_left_15 (fun H3 lH3 hw HS => ?_)
    refine lv_aload_n hx hb dX7_left_18 rfl (lv_at hl 0 rfl) ?_
    refine mo_get MC hw 0 (by decide) kw618 rfl rfl dX7_left_19 ?_
    refine lv_if_le (tgt := 29) hx hb dX7_left_22 (by decide) (fun c_22 => ?_) (fun c_22 => absurd c_22 (by decide))
    refine lv_aload_n hx hb dX7_left_29 rfl (lv_at hl 0 rfl) ?_
    refine mo_get MC hw 22 (by decide) kw640 rfl rfl dX7_left_30 ?_
    refine lv_iload_n hx hb dX7_left_33 rfl (lv_at hl 1 rfl) ?_
    refine mo_iald MC hw 18 (by decide) (by decide) rfl kr (show kr < 4 by omega) hra dX7_left_34 ?_
    have hth : th_left τ rk = 0 := ax_left_1 f_7
    exact ro_iretM MC HS hr ⟨_, rfl, by rw [hth]; exact hw, fun _ => by show τ 18 kr = rt_left τ rk; simp only [rt_left, hrc]⟩ (Nat.le_refl _) (Nat.le_refl _) dX7_left_35
set_option maxHeartbeats 4000000 in
set_option maxRecDepth 100000 in
theorem m_holds {l : Launch} {D : va_G} {ids : Nat → ClassId} {n0 : Nat} {RR : List Nat} {ad : Nat → Nat} {τ : Tau} {th : Int32} {fr : Nat → va_E} {Hh : Heap} (hw : sM D ids n0 RR ad τ th fr Hh) {nw ns nl nc : Nat} (hI : Iv τ nw ns nl nc) (k hh : Nat) (hk : k < nl) (hh9 : hh < 672) : ro_M l yX7_holds cX7_holds 7 (some FieldType.boolean) { frames := 0, cells := 0, slots := 0, locals := 0 } D ids n0 [.ref (ad 11), .int (nI k), .int (nI hh)] Hh (fun v H1 => v = some (.int (bI (hoB τ k (nI hh) = true))) ∧ Hh = H1) := by
  refine ro_ofM (by decide +kernel) (Nat.le_of_ble_eq_true rfl) ?_
  intro p e s m below meth c MC hhp hr hnm HS ls hl
  have hx := MC.1.1
  have hb := MC.1.2.1
  have hl : lv_has ls 7 [(0, .ref (ad 11)), (1, .int (nI k)), (2, .int (nI hh))] := hl
  have hnl := hI.2.2.1.2
  obtain ⟨hkd, -, ⟨d9, hd, hld⟩, -⟩ := hI.2.2.2.2.2.2.2.2.2.1 k hk
  have hcd : cx (τ 7 k) = d9 := by rw [hld]; exact cx_nI (by omega)
  obtain ⟨o1, o2⟩ := hI.2.2.2.2.2.1 d9 hd
  obtain ⟨t9, ht, hte, htd, ht3⟩ := thr_ix hh9 o1 o2
  have hix : 30 * τ 7 k + (nI hh + τ 2 d9 + 24) / 24 = nI (30 * d9 + t9 / 24) := by rw [hte, htd]; exact ho_ix hld hd ht3
  have hcx : cx (30 * τ 7 k + (nI hh + τ 2 d9 + 24) / 24) = 30 * d9 + t9 / 24 := by rw [hix]; exact cx_nI (by omega)
  have hfb := hI.2.2.2.2.2.2.1 (30 * d9 + t9 / 24) (by omega)
  refine lv_aload_n hx hb dX7_holds_0 rfl (lv_at hl 0 rfl) ?_
  refine mo_get MC hw 11 (by decide) kw629 rfl rfl dX7_holds_1 ?_
  refine lv_iload_n hx hb dX7_holds_4 rfl (lv_at hl 1 rfl) ?_
  refine mo_iald MC hw 8 (by decide) (by decide) rfl k (show k < 20 by omega) rfl dX7_holds_5 ?_
  refine lv_istore_n (lv' := [(3, .int (τ 8 k)), (0, .ref (ad 11)), (1, .int (nI k)), (2, .int (nI hh))]) hx hb dX7_holds_6 rfl hl (by decide) rfl (fun ls hl => ?_)
  refine lv_aload_n hx hb dX7_holds_7 rfl (lv_at hl 1 rfl) ?_
  refine mo_get MC hw 12 (by decide) kw630 rfl rfl dX7_holds_8 ?_
  refine lv_iload_n hx hb dX7_holds_11 rfl (lv_at hl 2 rfl) ?_
  refine mo_iald MC hw 9 (by decide) (by decide) rfl k (show k < 20 by omega) rfl dX7_holds_12 ?_
  refine lv_istore (lv' := [(4, .int (τ 9 k)), (3, .int (τ 8 k)), (0, .ref (ad 11)), (1, .int (nI k)), (2, .int (nI hh))]) hx hb dX7_holds_13 hl (by decide) rfl (fun ls hl => ?_)
  refine lv_aload_n hx hb dX7_holds_15 rfl (lv_at hl 2 rfl) ?_
  refine mo_get MC hw 8 (by decide) kw626 rfl rfl dX7_holds_16 ?_
  refine lv_iload_n hx hb dX7_holds_19 rfl (lv_at hl 3 rfl) ?_
  refine mo_iald MC hw 5 (by decide) (by decide) rfl k (show k < 20 by omega) rfl dX7_holds_20 ?_
  refine lv_if_ne (tgt := 41) hx hb dX7_holds_21 (by decide) (fun c_21 => ?_) (fun c_21 => ?_)
  · refine lv_iload_n hx hb dX7_holds_41 rfl (lv_at hl 4 rfl) ?_
    refine lv_aload_n hx hb dX7_holds_42 rfl (lv_at hl 2 rfl) ?_
    refine mo_get MC hw 4 (by decide) kw622 rfl rfl dX7_holds_43 ?_
    refine lv_aload_n hx hb dX7_holds_46 rfl (lv_at hl 2 rfl) ?_
    refine mo_get MC hw 10 (by decide) kw628 rfl rfl dX7_holds_47 ?_
    refine lv_iload_n hx hb dX7_holds_50 rfl (lv_at hl 3 rfl) ?_
    refine mo_iald MC hw 7 (by decide) (by decide) rfl k (show k < 20 by omega) rfl dX7_holds_51 ?_
    refine mo_iald MC hw 2 (by decide) (by decide) rfl d9 (show d9 < 4 by omega) hld dX7_holds_52 ?_
    refine lv_iadd hx hb dX7_holds_53 ?_
    refine lv_bipush (v := 24) hx hb dX7_holds_54 (by decide) ?_
    refine lv_iadd hx hb dX7_holds_56 ?_
    refine lv_istore (lv' := [(5, .int (((nI hh + τ 2 d9) + 24))), (4, .int (τ 9 k)), (3, .int (τ 8 k)), (0, .ref (ad 11)), (1, .int (nI k)), (2, .int (nI hh))]) hx hb dX7_holds_57 hl (by decide) rfl (fun ls hl => ?_)
    refine lv_aload_n hx hb dX7_holds_59 rfl (lv_at hl 3 rfl) ?_
    refine mo_get MC hw 8 (by decide) kw626 rfl rfl dX7_holds_60 ?_
    refine lv_iload_n hx hb dX7_holds_63 rfl (lv_at hl 4 rfl) ?_
    refine mo_iald MC hw 5 (by decide) (by decide) rfl k (show k < 20 by omega) rfl dX7_holds_64 ?_
    refine lv_iconst (v := 1) hx hb dX7_holds_65 (by decide) ?_
    refine lv_icmp_eq (tgt := 90) hx hb dX7_holds_66 (by decide) (fun c_66 => ?_) (fun c_66 => ?_)
    · refine lv_iload hx hb dX7_holds_90 (lv_at hl 0 rfl) ?_
      refine lv_bipush (v := 24) hx hb dX7_holds_92 (by decide) ?_
      refine lv_irem hx hb dX7_holds_94 (by decide) ?_
      refine lv_istore (lv' := [(6, .int ((((nI hh + τ 2 d9) + 24) - ((nI hh + τ 2 d9) + 24) / 24 * 24))), (5, .int (((nI hh + τ 2 d9) + 24))), (4, .int (τ 9 k)), (3, .int (τ 8 k)), (0, .ref (ad 11)), (1, .int (nI k)), (2, .int (nI hh))]) hx hb dX7_holds_95 hl (by decide) rfl (fun ls hl => ?_)
      refine lv_iload_n hx hb dX7_holds_97 rfl (lv_at hl 3 rfl) ?_
      refine lv_iload hx hb dX7_holds_98 (lv_at hl 2 rfl) ?_
      refine lv_icmp_eq (tgt := 138) hx hb dX7_holds_100 (by decide) (fun c_100 => ?_) (fun c_100 => ?_)
      · refine lv_iconst (v := 1) hx hb dX7_holds_138 (by decide) ?_
        refine lv_goto (tgt := 143) hx hb dX7_holds_139 (by decide) ?_
        have hrv := ax_holds_0 (hh := hh) hcd hcx hfb c_21 c_66 c_100
        exact ro_zretM MC HS hr (by rw [hrv]; exact bI_nar) ⟨by rw [hrv], rfl⟩ (Nat.le_refl _) (Nat.le_refl _) dX7_holds_143
      · refine lv_iload_n hx hb dX7_holds_103 rfl (lv_at hl 3 rfl) ?_
        refine lv_iload hx hb dX7_holds_104 (lv_at hl 2 rfl) ?_
        refine lv_icmp_ge (tgt := 125) hx hb dX7_holds_106 (by decide) (fun c_106 => ?_) (fun c_106 => ?_)
        · refine lv_iload hx hb dX7_holds_125 (lv_at hl 0 rfl) ?_
          refine lv_iload_n hx hb dX7_holds_127 rfl (lv_at hl 3 rfl) ?_
          refine lv_icmp_ge (tgt := 138) hx hb dX7_holds_128 (by decide) (fun c_128 => ?_) (fun c_128 => ?_)
          · refine lv_iconst (v := 1) hx hb dX7_holds_138 (by decide) ?_
            refine lv_goto (tgt := 143) hx hb dX7_holds_139 (by decide) ?_
            have hrv := ax_holds_1 (hh := hh) hcd hcx hfb c_21 c_66 c_100 c_106 c_128
            exact ro_zretM MC HS hr (by rw [hrv]; exact bI_nar) ⟨by rw [hrv], rfl⟩ (Nat.le_refl _) (Nat.le_refl _) dX7_holds_143
          · refine lv_iload hx hb dX7_holds_131 (lv_at hl 0 rfl) ?_
            refine lv_iload hx hb dX7_holds_133 (lv_at hl 2 rfl) ?_
            refine lv_icmp_ge (tgt := 142) hx hb dX7_holds_135 (by decide) (fun c_135 => ?_) (fun c_135 => ?_)
            · refine lv_iconst (v := 0) hx hb dX7_holds_142 (by decide) ?_
              have hrv := ax_holds_2 (hh := hh) hcd hcx hfb c_21 c_66 c_100 c_106 c_128 c_135
              exact ro_zretM MC HS hr (by rw [hrv]; exact bI_nar) ⟨by rw [hrv], rfl⟩ (Nat.le_refl _) (Nat.le_refl _) dX7_holds_143
            · refine lv_iconst (v := 1) hx hb dX7_holds_138 (by decide) ?_
              refine lv_goto (tgt := 143) hx hb dX7_holds_139 (by decide) ?_
              have hrv := ax_holds_3 (hh := hh) hcd hcx hfb c_21 c_66 c_100 c_106 c_128 c_135
              exact ro_zretM MC HS hr (by rw [hrv]; exact bI_nar) ⟨by rw [hrv], rfl⟩ (Nat.le_refl _) (Nat.le_refl _) dX7_holds_143
        · refine lv_iload hx hb dX7_holds_109 (lv_at hl 0 rfl) ?_
          refine lv_iload_n hx hb dX7_holds_111 rfl (lv_at hl 3 rfl) ?_
          refine lv_icmp_lt (tgt := 142) hx hb dX7_holds_112 (by decide) (fun c_112 => ?_) (fun c_112 => ?_)
          · refine lv_iconst (v := 0) hx hb dX7_holds_142 (by decide) ?_
            have hrv := ax_holds_4 (hh := hh) hcd hcx hfb c_21 c_66 c_100 c_106 c_112
            exact ro_zretM MC HS hr (by rw [hrv]; exact bI_nar) ⟨by rw [hrv], rfl⟩ (Nat.le_refl _) (Nat.le_refl _) dX7_holds_143
          · refine lv_iload hx hb dX7_holds_115 (lv_at hl 0 rfl) ?_
            refine lv_iload hx hb dX7_holds_117 (lv_at hl 2 rfl) ?_
            refine lv_icmp_ge (tgt := 142) hx hb dX7_holds_119 (by decide) (fun c_119 => ?_) (fun c_119 => ?_)
            · refine lv_iconst (v := 0) hx hb dX7_holds_142 (by decide) ?_
              have hrv := ax_holds_5 (hh := hh) hcd hcx hfb c_21 c_66 c_100 c_106 c_112 c_119
              exact ro_zretM MC HS hr (by rw [hrv]; exact bI_nar) ⟨by rw [hrv], rfl⟩ (Nat.le_refl _) (Nat.le_refl _) dX7_holds_143
            · refine lv_goto (tgt := 138) hx hb dX7_holds_122 (by decide) ?_
              refine lv_iconst (v := 1) hx hb dX7_holds_138 (by decide) ?_
              refine lv_goto (tgt := 143) hx hb dX7_holds_139 (by decide) ?_
              have hrv := ax_holds_6 (hh := hh) hcd hcx hfb c_21 c_66 c_100 c_106 c_112 c_119
              exact ro_zretM MC HS hr (by rw [hrv]; exact bI_nar) ⟨by rw [hrv], rfl⟩ (Nat.le_refl _) (Nat.le_refl _) dX7_holds_143
    · refine lv_aload_n hx hb dX7_holds_69 rfl (lv_at hl 3 rfl) ?_
      refine mo_get MC hw 5 (by decide) kw623 rfl rfl dX7_holds_70 ?_
      refine lv_bipush (v := 30) hx hb dX7_holds_73 (by decide) ?_
      refine lv_aload_n hx hb dX7_holds_75 rfl (lv_at hl 3 rfl) ?_
      refine mo_get MC hw 10 (by decide) kw628 rfl rfl dX7_holds_76 ?_
      refine lv_iload_n hx hb dX7_holds_79 rfl (lv_at hl 4 rfl) ?_
      refine mo_iald MC hw 7 (by decide) (by decide) rfl k (show k < 20 by omega) rfl dX7_holds_80 ?_
      refine lv_imul hx hb dX7_holds_81 ?_
      refine lv_iload hx hb dX7_holds_82 (lv_at hl 0 rfl) ?_
      refine lv_bipush (v := 24) hx hb dX7_holds_84 (by decide) ?_
      refine lv_idiv hx hb dX7_holds_86 (by decide) ?_
      refine lv_iadd hx hb dX7_holds_87 ?_
      refine mo_zald MC hw 3 (by decide) (by decide) rfl (30 * d9 + t9 / 24) (show 30 * d9 + t9 / 24 < 120 by omega) hix dX7_holds_88 ?_
      have hrv := ax_holds_7 (hh := hh) hcd hcx hfb c_21 c_66
      exact ro_zretM MC HS hr (by rw [hrv]; exact bI_nar) ⟨by rw [hrv], rfl⟩ (Nat.le_refl _) (Nat.le_refl _) dX7_holds_89
  · refine lv_iload_n hx hb dX7_holds_24 rfl (lv_at hl 4 rfl) ?_
    refine lv_iload_n hx hb dX7_holds_25 rfl (lv_at hl 1 rfl) ?_
    refine lv_icmp_lt (tgt := 39) hx hb dX7_holds_26 (by decide) (fun c_26 => ?_) (fun c_26 => ?_)
    · refine lv_iconst (v := 0) hx hb dX7_holds_39 (by decide) ?_
      have hrv := ax_holds_8 (hh := hh) hcd hcx hfb c_21 c_26
      exact ro_zretM MC HS hr (by rw [hrv]; exact bI_nar) ⟨by rw [hrv], rfl⟩ (Nat.le_refl _) (Nat.le_refl _) dX7_holds_40
    · refine lv_iload_n hx hb dX7_holds_29 rfl (lv_at hl 4 rfl) ?_
      refine lv_iload hx hb dX7_holds_30 (lv_at hl 0 rfl) ?_
      refine lv_icmp_ge (tgt := 39) hx hb dX7_holds_32 (by decide) (fun c_32 => ?_) (fun c_32 => ?_)
      · refine lv_iconst (v := 0) hx hb dX7_holds_39 (by decide) ?_
        have hrv := ax_holds_9 (hh := hh) hcd hcx hfb c_21 c_26 c_32
        exact ro_zretM MC HS hr (by rw [hrv]; exact bI_nar) ⟨by rw [hrv], rfl⟩ (Nat.le_refl _) (Nat.le_refl _) dX7_holds_40
      · refine lv_iconst (v := 1) hx hb dX7_holds_35 (by decide) ?_
        refine lv_goto (tgt := 40) hx hb dX7_holds_36 (by decide) ?_
        have hrv := ax_holds_10 (hh := hh) hcd hcx hfb c_21 c_26 c_32
        exact ro_zretM MC HS hr (by rw [hrv]; exact bI_nar) ⟨by rw [hrv], rfl⟩ (Nat.le_refl _) (Nat.le_refl _) dX7_holds_40
