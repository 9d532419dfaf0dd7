set_option maxHeartbeats 4000000 in
set_option maxRecDepth 100000 in
theorem m_isIn (l : Launch) (D : va_G) (ids : Nat → ClassId) (n0 : Nat) {Hh : Heap} (a : Int32) (b : Int32) (c9 : Int32) : ro_M l yX7_isIn cX7_isIn 3 (some FieldType.boolean) { frames := 0, cells := 0, slots := 0, locals := 0 } D ids n0 [.int a, .int b, .int c9] Hh (fun v H1 => v = some (.int (bI (b ≤ a ∧ a ≤ c9))) ∧ Hh = H1) := by
  refine ro_ofM (by decide +kernel) (Nat.le_of_ble_eq_true rfl) ?_
  intro p e s m below meth c MC hhp hr hnm HS ls hl
  have hx := MC.1.1
  have hb := MC.1.2.1
  have hl : lv_has ls 3 [(0, .int a), (1, .int b), (2, .int c9)] := hl
  refine lv_iload_n hx hb dX7_isIn_0 rfl (lv_at hl 0 rfl) ?_
  refine lv_iload_n hx hb dX7_isIn_1 rfl (lv_at hl 1 rfl) ?_
  refine lv_icmp_lt (tgt := 14) hx hb dX7_isIn_2 (by decide) (fun c_2 => ?_) (fun c_2 => ?_)
  · refine lv_iconst (v := 0) hx hb dX7_isIn_14 (by decide) ?_
    exact ro_zretM MC HS hr (by first | rfl | exact bI_nar) (⟨by first | rfl | (rw [bI_t (by lia)]) | (rw [bI_f (by lia)]), rfl⟩) (Nat.le_refl _) (Nat.le_refl _) dX7_isIn_15
  · refine lv_iload_n hx hb dX7_isIn_5 rfl (lv_at hl 0 rfl) ?_
    refine lv_iload_n hx hb dX7_isIn_6 rfl (lv_at hl 2 rfl) ?_
    refine lv_icmp_gt (tgt := 14) hx hb dX7_isIn_7 (by decide) (fun c_7 => ?_) (fun c_7 => ?_)
    · refine lv_iconst (v := 0) hx hb dX7_isIn_14 (by decide) ?_
      exact ro_zretM MC HS hr (by first | rfl | exact bI_nar) (⟨by first | rfl | (rw [bI_t (by lia)]) | (rw [bI_f (by lia)]), rfl⟩) (Nat.le_refl _) (Nat.le_refl _) dX7_isIn_15
    · refine lv_iconst (v := 1) hx hb dX7_isIn_10 (by decide) ?_
      refine lv_goto (tgt := 15) hx hb dX7_isIn_11 (by decide) ?_
      exact ro_zretM MC HS hr (by first | rfl | exact bI_nar) (⟨by first | rfl | (rw [bI_t (by lia)]) | (rw [bI_f (by lia)]), rfl⟩) (Nat.le_refl _) (Nat.le_refl _) dX7_isIn_15
set_option maxHeartbeats 4000000 in
set_option maxRecDepth 100000 in
theorem m_isLand (l : Launch) (D : va_G) (ids : Nat → ClassId) (n0 : Nat) {Hh : Heap} (a : Int32) : ro_M l yX7_isLand cX7_isLand 1 (some FieldType.boolean) { frames := 1, cells := 0, slots := 0, locals := 30 } D ids n0 [.int a] Hh (fun v H1 => v = some (.int (bI (0 ≤ a ∧ a ≤ 3))) ∧ Hh = H1) := by
  refine ro_ofM (by decide +kernel) (Nat.le_of_ble_eq_true rfl) ?_
  intro p e s m below meth c MC hhp hr hnm HS ls hl
  have hx := MC.1.1
  have hb := MC.1.2.1
  have hl : lv_has ls 1 [(0, .int a)] := hl
  refine lv_iload_n hx hb dX7_isLand_0 rfl (lv_at hl 0 rfl) ?_
  refine lv_iconst (v := 0) hx hb dX7_isLand_1 (by decide) ?_
  refine lv_iconst (v := 3) hx hb dX7_isLand_2 (by decide) ?_
  refine ro_callS MC HS (rest := []) (As := [.int a, .int 0, .int 3]) (m_isIn l D ids n0 a 0 3) (lkX7_72) (kw701) ⟨Nat.le_of_ble_eq_true rfl, Nat.le_of_ble_eq_true rfl⟩ hl.1 rfl (Nat.le_of_ble_eq_true rfl) dX7_isLand_3 ⟨Nat.le_of_ble_eq_true rfl, Nat.le_of_ble_eq_true rfl⟩ (fun v9 H1 lH1 hp hz HS => ?_)
  obtain ⟨rfl, rfl⟩ := hp
  exact ro_zretM MC HS hr (by first | rfl | exact bI_nar) (⟨by first | rfl | (rw [bI_t (by lia)]) | (rw [bI_f (by lia)]), rfl⟩) (Nat.le_refl _) (Nat.le_refl _) dX7_isLand_6
set_option maxHeartbeats 4000000 in
set_option maxRecDepth 100000 in
theorem m_isScope {l : Launch} {D : va_G} {ids : Nat → ClassId} {n0 : Nat} {RR : List Nat} {ad : Nat → Nat} {τ : Tau} {th : Int32} {fr : Nat → va_E} {Hh : Heap} (hw : sM D ids n0 RR ad τ th fr Hh) (a : Int32) : ro_M l yX7_isScope cX7_isScope 2 (some FieldType.boolean) { frames := 1, cells := 0, slots := 0, locals := 30 } D ids n0 [.ref (ad 11), .int a] Hh (fun v H1 => v = some (.int (bI (0 ≤ a ∧ a ≤ τ 0 1 - 1))) ∧ Hh = H1) := by
  refine ro_ofM (by decide +kernel) (Nat.le_of_ble_eq_true rfl) ?_
  intro p e s m below meth c MC hhp hr hnm HS ls hl
  have hx := MC.1.1
  have hb := MC.1.2.1
  have hl : lv_has ls 2 [(0, .ref (ad 11)), (1, .int a)] := hl
  refine lv_iload_n hx hb dX7_isScope_0 rfl (lv_at hl 1 rfl) ?_
  refine lv_iconst (v := 0) hx hb dX7_isScope_1 (by decide) ?_
  refine lv_aload_n hx hb dX7_isScope_2 rfl (lv_at hl 0 rfl) ?_
  refine mo_get MC hw 2 (by decide) kw620 rfl rfl dX7_isScope_3 ?_
  refine lv_iconst (v := 1) hx hb dX7_isScope_6 (by decide) ?_
  refine lv_isub hx hb dX7_isScope_7 ?_
  refine ro_callS MC HS (rest := []) (As := [.int a, .int 0, .int (τ 0 1 - 1)]) (m_isIn l D ids n0 a 0 (τ 0 1 - 1)) (lkX7_72) (kw701) ⟨Nat.le_of_ble_eq_true rfl, Nat.le_of_ble_eq_true rfl⟩ hl.1 rfl (Nat.le_of_ble_eq_true rfl) dX7_isScope_8 ⟨Nat.le_of_ble_eq_true rfl, Nat.le_of_ble_eq_true rfl⟩ (fun v9 H1 lH1 hp hz HS => ?_)
  obtain ⟨rfl, rfl⟩ := hp
  exact ro_zretM MC HS hr (by first | rfl | exact bI_nar) (⟨by first | rfl | (rw [bI_t (by lia)]) | (rw [bI_f (by lia)]), rfl⟩) (Nat.le_refl _) (Nat.le_refl _) dX7_isScope_11
set_option maxHeartbeats 4000000 in
set_option maxRecDepth 100000 in
theorem m_isChange {l : Launch} {D : va_G} {ids : Nat → ClassId} {n0 : Nat} {RR : List Nat} {ad : Nat → Nat} {τ : Tau} {th : Int32} {fr : Nat → va_E} {Hh : Heap} (hw : sM D ids n0 RR ad τ th fr Hh) (a : Int32) : ro_M l yX7_isChange cX7_isChange 2 (some FieldType.boolean) { frames := 1, cells := 0, slots := 0, locals := 30 } D ids n0 [.ref (ad 11), .int a] Hh (fun v H1 => v = some (.int (bI (0 ≤ a ∧ a ≤ τ 0 3 - 1))) ∧ Hh = H1) := by
  refine ro_ofM (by decide +kernel) (Nat.le_of_ble_eq_true rfl) ?_
  intro p e s m below meth c MC hhp hr hnm HS ls hl
  have hx := MC.1.1
  have hb := MC.1.2.1
  have hl : lv_has ls 2 [(0, .ref (ad 11)), (1, .int a)] := hl
  refine lv_iload_n hx hb dX7_isChange_0 rfl (lv_at hl 1 rfl) ?_
  refine lv_iconst (v := 0) hx hb dX7_isChange_1 (by decide) ?_
  refine lv_aload_n hx hb dX7_isChange_2 rfl (lv_at hl 0 rfl) ?_
  refine mo_get MC hw 14 (by decide) kw632 rfl rfl dX7_isChange_3 ?_
  refine lv_iconst (v := 1) hx hb dX7_isChange_6 (by decide) ?_
  refine lv_isub hx hb dX7_isChange_7 ?_
  refine ro_callS MC HS (rest := []) (As := [.int a, .int 0, .int (τ 0 3 - 1)]) (m_isIn l D ids n0 a 0 (τ 0 3 - 1)) (lkX7_72) (kw701) ⟨Nat.le_of_ble_eq_true rfl, Nat.le_of_ble_eq_true rfl⟩ hl.1 rfl (Nat.le_of_ble_eq_true rfl) dX7_isChange_8 ⟨Nat.le_of_ble_eq_true rfl, Nat.le_of_ble_eq_true rfl⟩ (fun v9 H1 lH1 hp hz HS => ?_)
  obtain ⟨rfl, rfl⟩ := hp
  exact ro_zretM MC HS hr (by first | rfl | exact bI_nar) (⟨by first | rfl | (rw [bI_t (by lia)]) | (rw [bI_f (by lia)]), rfl⟩) (Nat.le_refl _) (Nat.le_refl _) dX7_isChange_11
set_option maxHeartbeats 4000000 in
set_option maxRecDepth 100000 in
theorem m_isSpan {l : Launch} {D : va_G} {ids : Nat → ClassId} {n0 : Nat} {RR : List Nat} {ad : Nat → Nat} {τ : Tau} {th : Int32} {fr : Nat → va_E} {Hh : Heap} (hw : sM D ids n0 RR ad τ th fr Hh) (a : Int32) (b : Int32) : ro_M l yX7_isSpan cX7_isSpan 3 (some FieldType.boolean) { frames := 0, cells := 0, slots := 0, locals := 0 } D ids n0 [.ref (ad 11), .int a, .int b] Hh (fun v H1 => v = some (.int (bI (τ 0 0 ≤ a ∧ a < 672 ∧ a + b ≤ 672))) ∧ Hh = H1) := by
  refine ro_ofM (by decide +kernel) (Nat.le_of_ble_eq_true rfl) ?_
  intro p e s m below meth c MC hhp hr hnm HS ls hl
  have hx := MC.1.1
  have hb := MC.1.2.1
  have hl : lv_has ls 3 [(0, .ref (ad 11)), (1, .int a), (2, .int b)] := hl
  refine lv_iload_n hx hb dX7_isSpan_0 rfl (lv_at hl 1 rfl) ?_
  refine lv_aload_n hx hb dX7_isSpan_1 rfl (lv_at hl 0 rfl) ?_
  refine mo_get MC hw 1 (by decide) kw619 rfl rfl dX7_isSpan_2 ?_
  refine lv_icmp_lt (tgt := 28) hx hb dX7_isSpan_5 (by decide) (fun c_5 => ?_) (fun c_5 => ?_)
  · refine lv_iconst (v := 0) hx hb dX7_isSpan_28 (by decide) ?_
    exact ro_zretM MC HS hr (by first | rfl | exact bI_nar) (⟨by first | rfl | (rw [bI_t (by lia)]) | (rw [bI_f (by lia)]), rfl⟩) (Nat.le_refl _) (Nat.le_refl _) dX7_isSpan_29
  · refine lv_iload_n hx hb dX7_isSpan_8 rfl (lv_at hl 1 rfl) ?_
    refine lv_sipush (v := 672) hx hb dX7_isSpan_9 (by decide) ?_
    refine lv_icmp_ge (tgt := 28) hx hb dX7_isSpan_12 (by decide) (fun c_12 => ?_) (fun c_12 => ?_)
    · refine lv_iconst (v := 0) hx hb dX7_isSpan_28 (by decide) ?_
      exact ro_zretM MC HS hr (by first | rfl | exact bI_nar) (⟨by first | rfl | (rw [bI_t (by lia)]) | (rw [bI_f (by lia)]), rfl⟩) (Nat.le_refl _) (Nat.le_refl _) dX7_isSpan_29
    · refine lv_iload_n hx hb dX7_isSpan_15 rfl (lv_at hl 1 rfl) ?_
      refine lv_iload_n hx hb dX7_isSpan_16 rfl (lv_at hl 2 rfl) ?_
      refine lv_iadd hx hb dX7_isSpan_17 ?_
      refine lv_sipush (v := 672) hx hb dX7_isSpan_18 (by decide) ?_
      refine lv_icmp_gt (tgt := 28) hx hb dX7_isSpan_21 (by decide) (fun c_21 => ?_) (fun c_21 => ?_)
      · refine lv_iconst (v := 0) hx hb dX7_isSpan_28 (by decide) ?_
        exact ro_zretM MC HS hr (by first | rfl | exact bI_nar) (⟨by first | rfl | (rw [bI_t (by lia)]) | (rw [bI_f (by lia)]), rfl⟩) (Nat.le_refl _) (Nat.le_refl _) dX7_isSpan_29
      · refine lv_iconst (v := 1) hx hb dX7_isSpan_24 (by decide) ?_
        refine lv_goto (tgt := 29) hx hb dX7_isSpan_25 (by decide) ?_
        exact ro_zretM MC HS hr (by first | rfl | exact bI_nar) (⟨by first | rfl | (rw [bI_t (by lia)]) | (rw [bI_f (by lia)]), rfl⟩) (Nat.le_refl _) (Nat.le_refl _) dX7_isSpan_29
set_option maxHeartbeats 4000000 in
set_option maxRecDepth 100000 in
theorem m_thrown {l : Launch} {D : va_G} {ids : Nat → ClassId} {n0 : Nat} {RR : List Nat} {ad : Nat → Nat} {τ : Tau} {th : Int32} {fr : Nat → va_E} {Hh : Heap} (hw : sM D ids n0 RR ad τ th fr Hh)  : ro_M l yX7_thrown cX7_thrown 1 (some FieldType.int) { frames := 0, cells := 0, slots := 0, locals := 0 } D ids n0 [.ref (ad 11)] Hh (fun v H1 => v = some (.int th) ∧ Hh = H1) := by
  refine ro_ofM (by decide +kernel) (Nat.le_of_ble_eq_true rfl) ?_
  intro p e s m below meth c MC hhp hr hnm HS ls hl
  have hx := MC.1.1
  have hb := MC.1.2.1
  have hl : lv_has ls 1 [(0, .ref (ad 11))] := hl
  refine lv_aload_n hx hb dX7_thrown_0 rfl (lv_at hl 0 rfl) ?_
  refine mo_get MC hw 0 (by decide) kw618 rfl rfl dX7_thrown_1 ?_
  exact ro_iretM MC HS hr (⟨rfl, rfl⟩) (Nat.le_refl _) (Nat.le_refl _) dX7_thrown_4
