theorem ax_holding_0 {τ : Tau} {s9 : Int32} {h : Int32} (f_6 : 0 ≤ s9 ∧ s9 ≤ τ 0 1 - 1) (f_21 : ¬ (0 ≤ h ∧ h ≤ 671)) : th_holding τ s9 h = 2 := by
  unfold th_holding; grind
theorem ax_holding_1 {τ : Tau} {s9 : Int32} {h : Int32} (f_6 : 0 ≤ s9 ∧ s9 ≤ τ 0 1 - 1) (f_21 : 0 ≤ h ∧ h ≤ 671) : th_holding τ s9 h = 0 := by
  unfold th_holding; grind
theorem ax_holding_2 {τ : Tau} {s9 : Int32} {h : Int32} (f_6 : ¬ (0 ≤ s9 ∧ s9 ≤ τ 0 1 - 1)) : th_holding τ s9 h = 1 := by
  unfold th_holding; grind
theorem ax_touches_0 {τ : Tau} {k kc u : Nat} (hsu : τ 11 kc = nI u) (c_7 : τ 17 kc = (-1)) (c_32 : ¬ (τ 4 k = 0)) : 0 = bI (tch τ k kc = true) := by
  unfold tch bI; rw [hsu]; grind
theorem ax_touches_1 {τ : Tau} {k kc u : Nat} (hsu : τ 11 kc = nI u) (c_7 : τ 17 kc = (-1)) (c_32 : τ 4 k = 0) (f_50 : ¬ (touS τ k (nI u) = true)) : 0 = bI (tch τ k kc = true) := by
  unfold tch bI; rw [hsu]; grind
theorem ax_touches_2 {τ : Tau} {k kc u : Nat} (hsu : τ 11 kc = nI u) (c_7 : τ 17 kc = (-1)) (c_32 : τ 4 k = 0) (f_50 : touS τ k (nI u) = true) : 1 = bI (tch τ k kc = true) := by
  unfold tch bI; rw [hsu]; grind
theorem ax_touches_3 {τ : Tau} {k kc u : Nat} (hsu : τ 11 kc = nI u) (c_7 : ¬ (τ 17 kc = (-1))) (c_17 : nI k < τ 17 kc) (c_32 : ¬ (τ 4 k = 0)) : 0 = bI (tch τ k kc = true) := by
  unfold tch bI; rw [hsu]; grind
theorem ax_touches_4 {τ : Tau} {k kc u : Nat} (hsu : τ 11 kc = nI u) (c_7 : ¬ (τ 17 kc = (-1))) (c_17 : nI k < τ 17 kc) (c_32 : τ 4 k = 0) (f_50 : ¬ (touS τ k (nI u) = true)) : 0 = bI (tch τ k kc = true) := by
  unfold tch bI; rw [hsu]; grind
theorem ax_touches_5 {τ : Tau} {k kc u : Nat} (hsu : τ 11 kc = nI u) (c_7 : ¬ (τ 17 kc = (-1))) (c_17 : nI k < τ 17 kc) (c_32 : τ 4 k = 0) (f_50 : touS τ k (nI u) = true) : 1 = bI (tch τ k kc = true) := by
  unfold tch bI; rw [hsu]; grind
theorem ax_touches_6 {τ : Tau} {k kc u : Nat} (hsu : τ 11 kc = nI u) (c_7 : ¬ (τ 17 kc = (-1))) (c_17 : ¬ (nI k < τ 17 kc)) (c_32 : ¬ (τ 4 k = 0)) : 0 = bI (tch τ k kc = true) := by
  unfold tch bI; rw [hsu]; grind
theorem ax_touches_7 {τ : Tau} {k kc u : Nat} (hsu : τ 11 kc = nI u) (c_7 : ¬ (τ 17 kc = (-1))) (c_17 : ¬ (nI k < τ 17 kc)) (c_32 : τ 4 k = 0) : 0 = bI (tch τ k kc = true) := by
  unfold tch bI; rw [hsu]; grind
theorem ax_against_0 {τ : Tau} {k kc hh : Nat} (c_26 : ¬ (((τ 16 kc >>> (nI k &&& 31)) &&& 1) = 1)) (f_49 : ¬ (tch τ k kc = true)) : (fun k => !exB τ kc k && tch τ k kc && hoB τ k (nI hh)) k = false := by
  simp only [exB]; grind
theorem ax_against_1 {τ : Tau} {k kc hh : Nat} (c_26 : ¬ (((τ 16 kc >>> (nI k &&& 31)) &&& 1) = 1)) (f_49 : tch τ k kc = true) (f_59 : ¬ (hoB τ k (nI hh) = true)) : (fun k => !exB τ kc k && tch τ k kc && hoB τ k (nI hh)) k = false := by
  simp only [exB]; grind
theorem ax_against_2 {τ : Tau} {k kc hh : Nat} (c_26 : ¬ (((τ 16 kc >>> (nI k &&& 31)) &&& 1) = 1)) (f_49 : tch τ k kc = true) (f_59 : hoB τ k (nI hh) = true) : (fun k => !exB τ kc k && tch τ k kc && hoB τ k (nI hh)) k = true := by
  simp only [exB]; grind
theorem ax_against_3 {τ : Tau} {k kc hh : Nat} (c_26 : ((τ 16 kc >>> (nI k &&& 31)) &&& 1) = 1) : (fun k => !exB τ kc k && tch τ k kc && hoB τ k (nI hh)) k = false := by
  simp only [exB]; grind
set_option maxHeartbeats 4000000 in
set_option maxRecDepth 100000 in
theorem m_holding {l : Launch} {D : va_G} {ids : Nat → ClassId} {n0 : Nat} {RR : List Nat} {ad : Nat → Nat} {τ : Tau} {th : Int32} {fr : Nat → va_E} {Hh : Heap} (hw : sM D ids n0 RR ad τ th fr Hh) {nw ns nl nc : Nat} (hI : Iv τ nw ns nl nc) (s9 : Int32) (h : Int32) : ro_M l yX7_holding cX7_holding 3 (some FieldType.int) { frames := 3, cells := 0, slots := 0, locals := 90 } D ids n0 [.ref (ad 11), .int s9, .int h] Hh (fun v9 H1 => ∃ rz, v9 = some (.int rz) ∧ sM D ids n0 RR ad τ (th_holding τ s9 h) fr H1 ∧ (th_holding τ s9 h = 0 → rz = rt_holding τ s9 h)) := by
  refine ro_ofM (by decide +kernel) (Nat.le_of_ble_eq_true rfl) ?_
  intro p e s m below meth c MC hhp hr hnm HS ls hl
  have hx := MC.1.1
  have hb := MC.1.2.1
  have hl : lv_has ls 3 [(0, .ref (ad 11)), (1, .int s9), (2, .int h)] := hl
  refine lv_aload_n hx hb dX7_holding_0 rfl (lv_at hl 0 rfl) ?_
  refine lv_aload_n hx hb dX7_holding_1 rfl (lv_at hl 0 rfl) ?_
  refine lv_iload_n hx hb dX7_holding_2 rfl (lv_at hl 1 rfl) ?_
  refine ro_callV MC HS (rest := [.ref (ad 11)]) (As := [.int s9]) (m_isScope hw s9) (lkX7_76) (kw698) (kw16) ⟨Nat.le_of_ble_eq_true rfl, Nat.le_of_ble_eq_true rfl⟩ (mo_recv MC hw) hl.1 rfl (Nat.le_of_ble_eq_true rfl) dX7_holding_3 ⟨Nat.le_of_ble_eq_true rfl, Nat.le_of_ble_eq_true rfl⟩ (fun v9 H1 lH1 hp hz HS => ?_)
  obtain ⟨rfl, rfl⟩ := hp
  refine lv_if_ne (tgt := 13) hx hb dX7_holding_6 (by decide) (fun c_6 => ?_) (fun c_6 => ?_)
  · have f_6 := bI_n0.mp c_6
    obtain ⟨ks, hks, hka, hkc⟩ := hI.s f_6
    refine lv_iload_n hx hb dX7_holding_13 rfl (lv_at hl 2 rfl) ?_
    refine lv_iconst (v := 0) hx hb dX7_holding_14 (by decide) ?_
    refine lv_sipush (v := 671) hx hb dX7_holding_15 (by decide) ?_
    refine ro_callS MC HS (rest := [.ref (ad 11)]) (As := [.int h, .int 0, .int 671]) (m_isIn l D ids n0 h 0 671) (lkX7_72) (kw701) ⟨Nat.le_of_ble_eq_true rfl, Nat.le_of_ble_eq_true rfl⟩ hl.1 rfl (Nat.le_of_ble_eq_true rfl) dX7_holding_18 ⟨Nat.le_of_ble_eq_true rfl, Nat.le_of_ble_eq_true rfl⟩ (fun v9 H2 lH2 hp hz HS => ?_)
    obtain ⟨rfl, rfl⟩ := hp
    refine lv_if_eq (tgt := 28) hx hb dX7_holding_21 (by decide) (fun c_21 => ?_) (fun c_21 => ?_)
    · have f_21 := bI_0.mp c_21
      refine lv_iconst (v := 2) hx hb dX7_holding_28 (by decide) ?_
      refine mo_put MC hw HS 0 (by decide) kw618 rfl rfl rfl τ 2 rfl (fun _ _ => rfl) dX7_holding_29 (fun H3 lH3 hw HS => ?_)
      refine lv_aload_n hx hb dX7_holding_32 rfl (lv_at hl 0 rfl) ?_
      refine mo_get MC hw 0 (by decide) kw618 rfl rfl dX7_holding_33 ?_
      refine lv_if_le (tgt := 43) hx hb dX7_holding_36 (by decide) (fun c_36 => absurd c_36 (by decide)) (fun c_36 => ?_)
      refine lv_iconst (v := 0) hx hb dX7_holding_39 (by decide) ?_
      refine lv_goto (tgt := 49) hx hb dX7_holding_40 (by decide) ?_
      have hth : th_holding τ s9 h = 2 := ax_holding_0 f_6 f_21
      exact ro_iretM MC HS hr ⟨_, rfl, by rw [hth]; exact hw, fun h0 => absurd (hth.symm.trans h0) (by decide)⟩ (Nat.le_refl _) (Nat.le_refl _) dX7_holding_49
    · have f_21 := bI_n0.mp c_21
      obtain ⟨hh, hh9, hha⟩ := nI_ex (x := h) (n := 672) f_21.1 (by show h < 672; lia) (by omega)
      refine lv_iconst (v := 0) hx hb dX7_holding_24 (by decide) ?_
      refine lv_goto (tgt := 29) hx hb dX7_holding_25 (by decide) ?_
      refine mo_put MC hw HS 0 (by decide) kw618 rfl rfl rfl τ 0 rfl (fun _ _ => rfl) dX7_holding_29 (fun H4 lH4 hw HS => ?_)
      refine lv_aload_n hx hb dX7_holding_32 rfl (lv_at hl 0 rfl) ?_
      refine mo_get MC hw 0 (by decide) kw618 rfl rfl dX7_holding_33 ?_
      refine lv_if_le (tgt := 43) hx hb dX7_holding_36 (by decide) (fun c_36 => ?_) (fun c_36 => absurd c_36 (by decide))
      refine lv_aload_n hx hb dX7_holding_43 rfl (lv_at hl 0 rfl) ?_
      refine lv_iload_n hx hb dX7_holding_44 rfl (lv_at hl 1 rfl) ?_
      refine lv_iload_n hx hb dX7_holding_45 rfl (lv_at hl 2 rfl) ?_
      refine ro_callV MC HS (rest := []) (As := [.int s9, .int h]) (by rw [hka, hha]; exact m_holdingIn hw hI ks hh hks hh9) (lkX7_106) (kw752) (kw19) ⟨Nat.le_of_ble_eq_true rfl, Nat.le_of_ble_eq_true rfl⟩ (mo_recv MC hw) hl.1 rfl (Nat.le_of_ble_eq_true rfl) dX7_holding_46 ⟨Nat.le_of_ble_eq_true rfl, Nat.le_of_ble_eq_true rfl⟩ (fun v9 H5 lH5 hp hz HS => ?_)
      obtain ⟨rfl, rfl⟩ := hp
      have hth : th_holding τ s9 h = 0 := ax_holding_1 f_6 f_21
      exact ro_iretM MC HS hr ⟨_, rfl, by rw [hth]; exact hw, fun _ => by rw [rt_holding, hka, hha]⟩ (Nat.le_refl _) (Nat.le_refl _) dX7_holding_49
  · have f_6 := bI_0.mp c_6
    refine lv_iconst (v := 1) hx hb dX7_holding_9 (by decide) ?_
    refine lv_goto (tgt := 29) hx hb dX7_holding_10 (by decide) ?_
    refine mo_put MC hw HS 0 (by decide) kw618 rfl rfl rfl τ 1 rfl (fun _ _ => rfl) dX7_holding_29 (fun H6 lH6 hw HS => ?_)
    refine lv_aload_n hx hb dX7_holding_32 rfl (lv_at hl 0 rfl) ?_
    refine mo_get MC hw 0 (by decide) kw618 rfl rfl dX7_holding_33 ?_
    refine lv_if_le (tgt := 43) hx hb dX7_holding_36 (by decide) (fun c_36 => absurd c_36 (by decide)) (fun c_36 => ?_)
    refine lv_iconst (v := 0) hx hb dX7_holding_39 (by decide) ?_
    refine lv_goto (tgt := 49) hx hb dX7_holding_40 (by decide) ?_
    have hth : th_holding τ s9 h = 1 := ax_holding_2 f_6
    exact ro_iretM MC HS hr ⟨_, rfl, by rw [hth]; exact hw, fun h0 => absurd (hth.symm.trans h0) (by decide)⟩ (Nat.le_refl _) (Nat.le_refl _) dX7_holding_49
set_option maxHeartbeats 4000000 in
set_option maxRecDepth 100000 in
theorem m_touches {l : Launch} {D : va_G} {ids : Nat → ClassId} {n0 : Nat} {RR : List Nat} {ad : Nat → Nat} {τ : Tau} {th : Int32} {fr : Nat → va_E} {Hh : Heap} (hw : sM D ids n0 RR ad τ th fr Hh) {nw ns nl nc : Nat} (hI : Iv τ nw ns nl nc) (k kc : Nat) (hk : k < nl) (hkc : kc < nc) : ro_M l yX7_touches cX7_touches 4 (some FieldType.boolean) { frames := 2, cells := 0, slots := 0, locals := 60 } D ids n0 [.ref (ad 11), .int (nI k), .int (nI kc)] Hh (fun v H1 => v = some (.int (bI (tch τ k kc = true))) ∧ Hh = H1) := by
  refine ro_ofM (by decide +kernel) (Nat.le_of_ble_eq_true rfl) ?_
  intro p e s m below meth c MC hhp hr hnm HS ls hl
  have hx := MC.1.1
  have hb := MC.1.2.1
  have hl : lv_has ls 4 [(0, .ref (ad 11)), (1, .int (nI k)), (2, .int (nI kc))] := hl
  have hnl := hI.2.2.1.2
  have hnc := hI.2.2.2.1.2
  obtain ⟨⟨u, hu, hsu⟩, -⟩ := hI.2.2.2.2.2.2.2.2.2.2.1 kc hkc
  refine lv_aload_n hx hb dX7_touches_0 rfl (lv_at hl 0 rfl) ?_
  refine mo_get MC hw 21 (by decide) kw639 rfl rfl dX7_touches_1 ?_
  refine lv_iload_n hx hb dX7_touches_4 rfl (lv_at hl 2 rfl) ?_
  refine mo_iald MC hw 17 (by decide) (by decide) rfl kc (show kc < 30 by omega) rfl dX7_touches_5 ?_
  refine lv_iconst (v := (-1)) hx hb dX7_touches_6 (by decide) ?_
  refine lv_icmp_eq (tgt := 24) hx hb dX7_touches_7 (by decide) (fun c_7 => ?_) (fun c_7 => ?_)
  · refine lv_iconst (v := 0) hx hb dX7_touches_24 (by decide) ?_
    refine lv_istore_n (lv' := [(3, .int 0), (0, .ref (ad 11)), (1, .int (nI k)), (2, .int (nI kc))]) hx hb dX7_touches_25 rfl hl (by decide) rfl (fun ls hl => ?_)
    refine lv_aload_n hx hb dX7_touches_26 rfl (lv_at hl 1 rfl) ?_
    refine mo_get MC hw 7 (by decide) kw625 rfl rfl dX7_touches_27 ?_
    refine lv_iload_n hx hb dX7_touches_30 rfl (lv_at hl 2 rfl) ?_
    refine mo_zald MC hw 4 (by decide) (by decide) rfl k (show k < 20 by omega) rfl dX7_touches_31 ?_
    refine lv_if_ne (tgt := 57) hx hb dX7_touches_32 (by decide) (fun c_32 => ?_) (fun c_32 => ?_)
    · refine lv_iconst (v := 0) hx hb dX7_touches_57 (by decide) ?_
      exact ro_zretM MC HS hr rfl ⟨by rw [ax_touches_0 hsu c_7 c_32], rfl⟩ (Nat.le_refl _) (Nat.le_refl _) dX7_touches_58
    · refine lv_iload_n hx hb dX7_touches_35 rfl (lv_at hl 0 rfl) ?_
      refine lv_if_ne (tgt := 57) hx hb dX7_touches_36 (by decide) (fun c_36 => absurd c_36 (by decide)) (fun c_36 => ?_)
      refine lv_aload_n hx hb dX7_touches_39 rfl (lv_at hl 1 rfl) ?_
      refine lv_iload_n hx hb dX7_touches_40 rfl (lv_at hl 2 rfl) ?_
      refine lv_aload_n hx hb dX7_touches_41 rfl (lv_at hl 1 rfl) ?_
      refine mo_get MC hw 15 (by decide) kw633 rfl rfl dX7_touches_42 ?_
      refine lv_iload_n hx hb dX7_touches_45 rfl (lv_at hl 3 rfl) ?_
      refine mo_iald MC hw 11 (by decide) (by decide) rfl kc (show kc < 30 by omega) rfl dX7_touches_46 ?_
      rw [hsu]
      refine ro_callV MC HS (rest := []) (As := [.int (nI k), .int (nI u)]) (m_touchesScope hw hI k u hk hu) (lkX7_100) (kw756) (kw20) ⟨Nat.le_of_ble_eq_true rfl, Nat.le_of_ble_eq_true rfl⟩ (mo_recv MC hw) hl.1 rfl (Nat.le_of_ble_eq_true rfl) dX7_touches_47 ⟨Nat.le_of_ble_eq_true rfl, Nat.le_of_ble_eq_true rfl⟩ (fun v9 H1 lH1 hp hz HS => ?_)
      obtain ⟨rfl, rfl⟩ := hp
      refine lv_if_eq (tgt := 57) hx hb dX7_touches_50 (by decide) (fun c_50 => ?_) (fun c_50 => ?_)
      · have f_50 := bI_0.mp c_50
        refine lv_iconst (v := 0) hx hb dX7_touches_57 (by decide) ?_
        exact ro_zretM MC HS hr rfl ⟨by rw [ax_touches_1 hsu c_7 c_32 f_50], rfl⟩ (Nat.le_refl _) (Nat.le_refl _) dX7_touches_58
      · have f_50 := bI_n0.mp c_50
        refine lv_iconst (v := 1) hx hb dX7_touches_53 (by decide) ?_
        refine lv_goto (tgt := 58) hx hb dX7_touches_54 (by decide) ?_
        exact ro_zretM MC HS hr rfl ⟨by rw [ax_touches_2 hsu c_7 c_32 f_50], rfl⟩ (Nat.le_refl _) (Nat.le_refl _) dX7_touches_58
  · refine lv_iload_n hx hb dX7_touches_10 rfl (lv_at hl 1 rfl) ?_
    refine lv_aload_n hx hb dX7_touches_11 rfl (lv_at hl 0 rfl) ?_
    refine mo_get MC hw 21 (by decide) kw639 rfl rfl dX7_touches_12 ?_
    refine lv_iload_n hx hb dX7_touches_15 rfl (lv_at hl 2 rfl) ?_
    refine mo_iald MC hw 17 (by decide) (by decide) rfl kc (show kc < 30 by omega) rfl dX7_touches_16 ?_
    refine lv_icmp_lt (tgt := 24) hx hb dX7_touches_17 (by decide) (fun c_17 => ?_) (fun c_17 => ?_)
    · refine lv_iconst (v := 0) hx hb dX7_touches_24 (by decide) ?_
      refine lv_istore_n (lv' := [(3, .int 0), (0, .ref (ad 11)), (1, .int (nI k)), (2, .int (nI kc))]) hx hb dX7_touches_25 rfl hl (by decide) rfl (fun ls hl => ?_)
      refine lv_aload_n hx hb dX7_touches_26 rfl (lv_at hl 1 rfl) ?_
      refine mo_get MC hw 7 (by decide) kw625 rfl rfl dX7_touches_27 ?_
      refine lv_iload_n hx hb dX7_touches_30 rfl (lv_at hl 2 rfl) ?_
      refine mo_zald MC hw 4 (by decide) (by decide) rfl k (show k < 20 by omega) rfl dX7_touches_31 ?_
      refine lv_if_ne (tgt := 57) hx hb dX7_touches_32 (by decide) (fun c_32 => ?_) (fun c_32 => ?_)
      · refine lv_iconst (v := 0) hx hb dX7_touches_57 (by decide) ?_
        exact ro_zretM MC HS hr rfl ⟨by rw [ax_touches_3 hsu c_7 c_17 c_32], rfl⟩ (Nat.le_refl _) (Nat.le_refl _) dX7_touches_58
      · refine lv_iload_n hx hb dX7_touches_35 rfl (lv_at hl 0 rfl) ?_
        refine lv_if_ne (tgt := 57) hx hb dX7_touches_36 (by decide) (fun c_36 => absurd c_36 (by decide)) (fun c_36 => ?_)
        refine lv_aload_n hx hb dX7_touches_39 rfl (lv_at hl 1 rfl) ?_
        refine lv_iload_n hx hb dX7_touches_40 rfl (lv_at hl 2 rfl) ?_
        refine lv_aload_n hx hb dX7_touches_41 rfl (lv_at hl 1 rfl) ?_
        refine mo_get MC hw 15 (by decide) kw633 rfl rfl dX7_touches_42 ?_
        refine lv_iload_n hx hb dX7_touches_45 rfl (lv_at hl 3 rfl) ?_
        refine mo_iald MC hw 11 (by decide) (by decide) rfl kc (show kc < 30 by omega) rfl dX7_touches_46 ?_
        rw [hsu]
        refine ro_callV MC HS (rest := []) (As := [.int (nI k), .int (nI u)]) (m_touchesScope hw hI k u hk hu) (lkX7_100) (kw756) (kw20) ⟨Nat.le_of_ble_eq_true rfl, Nat.le_of_ble_eq_true rfl⟩ (mo_recv MC hw) hl.1 rfl (Nat.le_of_ble_eq_true rfl) dX7_touches_47 ⟨Nat.le_of_ble_eq_true rfl, Nat.le_of_ble_eq_true rfl⟩ (fun v9 H2 lH2 hp hz HS => ?_)
        obtain ⟨rfl, rfl⟩ := hp
        refine lv_if_eq (tgt := 57) hx hb dX7_touches_50 (by decide) (fun c_50 => ?_) (fun c_50 => ?_)
        · have f_50 := bI_0.mp c_50
          refine lv_iconst (v := 0) hx hb dX7_touches_57 (by decide) ?_
          exact ro_zretM MC HS hr rfl ⟨by rw [ax_touches_4 hsu c_7 c_17 c_32 f_50], rfl⟩ (Nat.le_refl _) (Nat.le_refl _) dX7_touches_58
        · have f_50 := bI_n0.mp c_50
          refine lv_iconst (v := 1) hx hb dX7_touches_53 (by decide) ?_
          refine lv_goto (tgt := 58) hx hb dX7_touches_54 (by decide) ?_
          exact ro_zretM MC HS hr rfl ⟨by rw [ax_touches_5 hsu c_7 c_17 c_32 f_50], rfl⟩ (Nat.le_refl _) (Nat.le_refl _) dX7_touches_58
    · refine lv_iconst (v := 1) hx hb dX7_touches_20 (by decide) ?_
      refine lv_goto (tgt := 25) hx hb dX7_touches_21 (by decide) ?_
      refine lv_istore_n (lv' := [(3, .int 1), (0, .ref (ad 11)), (1, .int (nI k)), (2, .int (nI kc))]) hx hb dX7_touches_25 rfl hl (by decide) rfl (fun ls hl => ?_)
      refine lv_aload_n hx hb dX7_touches_26 rfl (lv_at hl 1 rfl) ?_
      refine mo_get MC hw 7 (by decide) kw625 rfl rfl dX7_touches_27 ?_
      refine lv_iload_n hx hb dX7_touches_30 rfl (lv_at hl 2 rfl) ?_
      refine mo_zald MC hw 4 (by decide) (by decide) rfl k (show k < 20 by omega) rfl dX7_touches_31 ?_
      refine lv_if_ne (tgt := 57) hx hb dX7_touches_32 (by decide) (fun c_32 => ?_) (fun c_32 => ?_)
      · refine lv_iconst (v := 0) hx hb dX7_touches_57 (by decide) ?_
        exact ro_zretM MC HS hr rfl ⟨by rw [ax_touches_6 hsu c_7 c_17 c_32], rfl⟩ (Nat.le_refl _) (Nat.le_refl _) dX7_touches_58
      · refine lv_iload_n hx hb dX7_touches_35 rfl (lv_at hl 0 rfl) ?_
        refine lv_if_ne (tgt := 57) hx hb dX7_touches_36 (by decide) (fun c_36 => ?_) (fun c_36 => absurd c_36 (by decide))
        refine lv_iconst (v := 0) hx hb dX7_touches_57 (by decide) ?_
        exact ro_zretM MC HS hr rfl ⟨by rw [ax_touches_7 hsu c_7 c_17 c_32], rfl⟩ (Nat.le_refl _) (Nat.le_refl _) dX7_touches_58
set_option maxHeartbeats 4000000 in
set_option maxRecDepth 100000 in
theorem m_against {l : Launch} {D : va_G} {ids : Nat → ClassId} {n0 : Nat} {RR : List Nat} {ad : Nat → Nat} {τ : Tau} {th : Int32} {fr : Nat → va_E} {Hh : Heap} (hw : sM D ids n0 RR ad τ th fr Hh) {nw ns nl nc : Nat} (hI : Iv τ nw ns nl nc) (kc hh : Nat) (hkc : kc < nc) (hh9 : hh < 672) : ro_M l yX7_against cX7_against 6 (some FieldType.int) { frames := 3, cells := 0, slots := 0, locals := 90 } D ids n0 [.ref (ad 11), .int (nI kc), .int (nI hh)] Hh (fun v H1 => v = some (.int (agn τ kc (nI hh))) ∧ Hh = H1) := by
  refine ro_ofM (by decide +kernel) (Nat.le_of_ble_eq_true rfl) ?_
  intro p e s m below meth c MC hhp hr hnm HS ls hl
  have hx := MC.1.1
  have hb := MC.1.2.1
  have hl : lv_has ls 6 [(0, .ref (ad 11)), (1, .int (nI kc)), (2, .int (nI hh))] := hl
  have hnl := hI.2.2.1.2
  have hnc := hI.2.2.2.1.2
  have hcs : cx (τ 0 2) = nl := by rw [hI.2.2.1.1]; exact cx_nI (by omega)
  have loop : ∀ k : Nat, k ≤ nl → ∀ (locs : List Loc) (ls : Array Slot), va_S (fun q => n0 ≤ q) s.heap Hh locs → lv_has ls 6 [(4, .int (nI k)), (3, .int (mk (fun k => !exB τ kc k && tch τ k kc && hoB τ k (nI hh)) k)), (0, .ref (ad 11)), (1, .int (nI kc)), (2, .int (nI hh))] → W p l e { frames := 3, cells := 0, slots := 0, locals := 90 } s m ([.ref (ad 11), .int (nI kc), .int (nI hh)] : List Value).toArray below meth c Hh locs 0 0 (MQ below (ro_Q n0 (fun v H1 => v = some (.int (agn τ kc (nI hh))) ∧ Hh = H1)) ([.ref (ad 11), .int (nI kc), .int (nI hh)] : List Value).toArray s 0 0 (fun q => n0 ≤ q)) (F0 m 5 ls []) := by
    refine ro_loop (nl) (fun k : Nat => ∀ (locs : List Loc) (ls : Array Slot), va_S (fun q => n0 ≤ q) s.heap Hh locs → lv_has ls 6 [(4, .int (nI k)), (3, .int (mk (fun k => !exB τ kc k && tch τ k kc && hoB τ k (nI hh)) k)), (0, .ref (ad 11)), (1, .int (nI kc)), (2, .int (nI hh))] → W p l e { frames := 3, cells := 0, slots := 0, locals := 90 } s m ([.ref (ad 11), .int (nI kc), .int (nI hh)] : List Value).toArray below meth c Hh locs 0 0 (MQ below (ro_Q n0 (fun v H1 => v = some (.int (agn τ kc (nI hh))) ∧ Hh = H1)) ([.ref (ad 11), .int (nI kc), .int (nI hh)] : List Value).toArray s 0 0 (fun q => n0 ≤ q)) (F0 m 5 ls [])) ?_ ?_
    · intro locs ls HS hl
      refine lv_iload hx hb dX7_against_5 (lv_at hl 0 rfl) ?_
      refine lv_aload_n hx hb dX7_against_7 rfl (lv_at hl 2 rfl) ?_
      refine mo_get MC hw 6 (by decide) kw624 rfl rfl dX7_against_8 ?_
      refine lv_icmp_ge (tgt := 78) hx hb dX7_against_11 (by decide) (fun c_11 => ?_) (fun c_11 => absurd (kn_le hI.2.2.1.1 (Nat.le_refl _) (by omega)) c_11)
      refine lv_iload_n hx hb dX7_against_78 rfl (lv_at hl 1 rfl) ?_
      exact ro_iretM MC HS hr ⟨by unfold agn; rw [hcs], rfl⟩ (Nat.le_refl _) (Nat.le_refl _) dX7_against_79
    · intro k hkk ih locs ls HS hl
      refine lv_iload hx hb dX7_against_5 (lv_at hl 0 rfl) ?_
      refine lv_aload_n hx hb dX7_against_7 rfl (lv_at hl 2 rfl) ?_
      refine mo_get MC hw 6 (by decide) kw624 rfl rfl dX7_against_8 ?_
      refine lv_icmp_ge (tgt := 78) hx hb dX7_against_11 (by decide) (fun c_11 => absurd c_11 (kn_nle hI.2.2.1.1 hkk (by omega))) (fun c_11 => ?_)
      refine lv_aload_n hx hb dX7_against_14 rfl (lv_at hl 2 rfl) ?_
      refine mo_get MC hw 20 (by decide) kw638 rfl rfl dX7_against_15 ?_
      refine lv_iload_n hx hb dX7_against_18 rfl (lv_at hl 3 rfl) ?_
      refine mo_iald MC hw 16 (by decide) (by decide) rfl kc (show kc < 30 by omega) rfl dX7_against_19 ?_
      refine lv_iload hx hb dX7_against_20 (lv_at hl 0 rfl) ?_
      refine lv_ishr hx hb dX7_against_22 ?_
      refine lv_iconst (v := 1) hx hb dX7_against_23 (by decide) ?_
      refine lv_iand hx hb dX7_against_24 ?_
      refine lv_iconst (v := 1) hx hb dX7_against_25 (by decide) ?_
      refine lv_icmp_ne (tgt := 33) hx hb dX7_against_26 (by decide) (fun c_26 => ?_) (fun c_26 => ?_)
      · refine lv_iconst (v := 0) hx hb dX7_against_33 (by decide) ?_
        refine lv_istore (lv' := [(5, .int 0), (4, .int (nI k)), (3, .int (mk (fun k => !exB τ kc k && tch τ k kc && hoB τ k (nI hh)) k)), (0, .ref (ad 11)), (1, .int (nI kc)), (2, .int (nI hh))]) hx hb dX7_against_34 hl (by decide) rfl (fun ls hl => ?_)
        refine lv_iload_n hx hb dX7_against_36 rfl (lv_at hl 2 rfl) ?_
        refine lv_iload hx hb dX7_against_37 (lv_at hl 0 rfl) ?_
        refine lv_if_ne (tgt := 69) hx hb dX7_against_39 (by decide) (fun c_39 => absurd c_39 (by decide)) (fun c_39 => ?_)
        refine lv_aload_n hx hb dX7_against_42 rfl (lv_at hl 3 rfl) ?_
        refine lv_iload hx hb dX7_against_43 (lv_at hl 1 rfl) ?_
        refine lv_iload_n hx hb dX7_against_45 rfl (lv_at hl 4 rfl) ?_
        refine ro_callV MC HS (rest := [.int (mk (fun k => !exB τ kc k && tch τ k kc && hoB τ k (nI hh)) k)]) (As := [.int (nI k), .int (nI kc)]) (m_touches hw hI k kc hkk hkc) (lkX7_116) (kw800) (kw27) ⟨Nat.le_of_ble_eq_true rfl, Nat.le_of_ble_eq_true rfl⟩ (mo_recv MC hw) hl.1 rfl (Nat.le_of_ble_eq_true rfl) dX7_against_46 ⟨Nat.le_of_ble_eq_true rfl, Nat.le_of_ble_eq_true rfl⟩ (fun v9 H1 lH1 hp hz HS => ?_)
        obtain ⟨rfl, rfl⟩ := hp
        refine lv_if_eq (tgt := 69) hx hb dX7_against_49 (by decide) (fun c_49 => ?_) (fun c_49 => ?_)
        · have f_49 := bI_0.mp c_49
          refine lv_iconst (v := 0) hx hb dX7_against_69 (by decide) ?_
          refine lv_ior hx hb dX7_against_70 ?_
          refine lv_istore_n (lv' := [(3, .int ((mk (fun k => !exB τ kc k && tch τ k kc && hoB τ k (nI hh)) k ||| 0))), (5, .int 0), (4, .int (nI k)), (0, .ref (ad 11)), (1, .int (nI kc)), (2, .int (nI hh))]) hx hb dX7_against_71 rfl hl (by decide) rfl (fun ls hl => ?_)
          refine lv_iinc (v := nI k + 1) (lv' := [(4, .int (nI k + 1)), (3, .int ((mk (fun k => !exB τ kc k && tch τ k kc && hoB τ k (nI hh)) k ||| 0))), (5, .int 0), (0, .ref (ad 11)), (1, .int (nI kc)), (2, .int (nI hh))]) hx hb dX7_against_72 hl (k := 2) rfl rfl (by decide) rfl (fun ls hl => ?_)
          refine lv_goto (tgt := 5) hx hb dX7_against_75 (by decide) ?_
          rw [mk_f (p := (fun k => !exB τ kc k && tch τ k kc && hoB τ k (nI hh))) (ax_against_0 c_26 f_49), nI_1] at hl
          exact ih _ ls HS (lv_sub hl [0, 1, 3, 4, 5] rfl)
        · have f_49 := bI_n0.mp c_49
          refine lv_aload_n hx hb dX7_against_52 rfl (lv_at hl 3 rfl) ?_
          refine lv_iload hx hb dX7_against_53 (lv_at hl 1 rfl) ?_
          refine lv_iload_n hx hb dX7_against_55 rfl (lv_at hl 5 rfl) ?_
          refine ro_callV MC HS (rest := [.int (mk (fun k => !exB τ kc k && tch τ k kc && hoB τ k (nI hh)) k)]) (As := [.int (nI k), .int (nI hh)]) (m_holds hw hI k hh hkk hh9) (lkX7_103) (kw764) (kw22) ⟨Nat.le_of_ble_eq_true rfl, Nat.le_of_ble_eq_true rfl⟩ (mo_recv MC hw) hl.1 rfl (Nat.le_of_ble_eq_true rfl) dX7_against_56 ⟨Nat.le_of_ble_eq_true rfl, Nat.le_of_ble_eq_true rfl⟩ (fun v9 H2 lH2 hp hz HS => ?_)
          obtain ⟨rfl, rfl⟩ := hp
          refine lv_if_eq (tgt := 69) hx hb dX7_against_59 (by decide) (fun c_59 => ?_) (fun c_59 => ?_)
          · have f_59 := bI_0.mp c_59
            refine lv_iconst (v := 0) hx hb dX7_against_69 (by decide) ?_
            refine lv_ior hx hb dX7_against_70 ?_
            refine lv_istore_n (lv' := [(3, .int ((mk (fun k => !exB τ kc k && tch τ k kc && hoB τ k (nI hh)) k ||| 0))), (5, .int 0), (4, .int (nI k)), (0, .ref (ad 11)), (1, .int (nI kc)), (2, .int (nI hh))]) hx hb dX7_against_71 rfl hl (by decide) rfl (fun ls hl => ?_)
            refine lv_iinc (v := nI k + 1) (lv' := [(4, .int (nI k + 1)), (3, .int ((mk (fun k => !exB τ kc k && tch τ k kc && hoB τ k (nI hh)) k ||| 0))), (5, .int 0), (0, .ref (ad 11)), (1, .int (nI kc)), (2, .int (nI hh))]) hx hb dX7_against_72 hl (k := 2) rfl rfl (by decide) rfl (fun ls hl => ?_)
            refine lv_goto (tgt := 5) hx hb dX7_against_75 (by decide) ?_
            rw [mk_f (p := (fun k => !exB τ kc k && tch τ k kc && hoB τ k (nI hh))) (ax_against_1 c_26 f_49 f_59), nI_1] at hl
            exact ih _ ls HS (lv_sub hl [0, 1, 3, 4, 5] rfl)
          · have f_59 := bI_n0.mp c_59
            refine lv_iconst (v := 1) hx hb dX7_against_62 (by decide) ?_
            refine lv_iload hx hb dX7_against_63 (lv_at hl 1 rfl) ?_
            refine lv_ishl hx hb dX7_against_65 ?_
            refine lv_goto (tgt := 70) hx hb dX7_against_66 (by decide) ?_
            refine lv_ior hx hb dX7_against_70 ?_
            refine lv_istore_n (lv' := [(3, .int ((mk (fun k => !exB τ kc k && tch τ k kc && hoB τ k (nI hh)) k ||| (1 <<< (nI k &&& 31))))), (5, .int 0), (4, .int (nI k)), (0, .ref (ad 11)), (1, .int (nI kc)), (2, .int (nI hh))]) hx hb dX7_against_71 rfl hl (by decide) rfl (fun ls hl => ?_)
            refine lv_iinc (v := nI k + 1) (lv' := [(4, .int (nI k + 1)), (3, .int ((mk (fun k => !exB τ kc k && tch τ k kc && hoB τ k (nI hh)) k ||| (1 <<< (nI k &&& 31))))), (5, .int 0), (0, .ref (ad 11)), (1, .int (nI kc)), (2, .int (nI hh))]) hx hb dX7_against_72 hl (k := 2) rfl rfl (by decide) rfl (fun ls hl => ?_)
            refine lv_goto (tgt := 5) hx hb dX7_against_75 (by decide) ?_
            rw [mk_t (p := (fun k => !exB τ kc k && tch τ k kc && hoB τ k (nI hh))) (ax_against_2 c_26 f_49 f_59), nI_1] at hl
            exact ih _ ls HS (lv_sub hl [0, 1, 3, 4, 5] rfl)
      · refine lv_iconst (v := 1) hx hb dX7_against_29 (by decide) ?_
        refine lv_goto (tgt := 34) hx hb dX7_against_30 (by decide) ?_
        refine lv_istore (lv' := [(5, .int 1), (4, .int (nI k)), (3, .int (mk (fun k => !exB τ kc k && tch τ k kc && hoB τ k (nI hh)) k)), (0, .ref (ad 11)), (1, .int (nI kc)), (2, .int (nI hh))]) hx hb dX7_against_34 hl (by decide) rfl (fun ls hl => ?_)
        refine lv_iload_n hx hb dX7_against_36 rfl (lv_at hl 2 rfl) ?_
        refine lv_iload hx hb dX7_against_37 (lv_at hl 0 rfl) ?_
        refine lv_if_ne (tgt := 69) hx hb dX7_against_39 (by decide) (fun c_39 => ?_) (fun c_39 => absurd c_39 (by decide))
        refine lv_iconst (v := 0) hx hb dX7_against_69 (by decide) ?_
        refine lv_ior hx hb dX7_against_70 ?_
        refine lv_istore_n (lv' := [(3, .int ((mk (fun k => !exB τ kc k && tch τ k kc && hoB τ k (nI hh)) k ||| 0))), (5, .int 1), (4, .int (nI k)), (0, .ref (ad 11)), (1, .int (nI kc)), (2, .int (nI hh))]) hx hb dX7_against_71 rfl hl (by decide) rfl (fun ls hl => ?_)
        refine lv_iinc (v := nI k + 1) (lv' := [(4, .int (nI k + 1)), (3, .int ((mk (fun k => !exB τ kc k && tch τ k kc && hoB τ k (nI hh)) k ||| 0))), (5, .int 1), (0, .ref (ad 11)), (1, .int (nI kc)), (2, .int (nI hh))]) hx hb dX7_against_72 hl (k := 2) rfl rfl (by decide) rfl (fun ls hl => ?_)
        refine lv_goto (tgt := 5) hx hb dX7_against_75 (by decide) ?_
        rw [mk_f (p := (fun k => !exB τ kc k && tch τ k kc && hoB τ k (nI hh))) (ax_against_3 c_26), nI_1] at hl
        exact ih _ ls HS (lv_sub hl [0, 1, 3, 4, 5] rfl)
  refine lv_iconst (v := 0) hx hb dX7_against_0 (by decide) ?_
  refine lv_istore_n (lv' := [(3, .int 0), (0, .ref (ad 11)), (1, .int (nI kc)), (2, .int (nI hh))]) hx hb dX7_against_1 rfl hl (by decide) rfl (fun ls hl => ?_)
  refine lv_iconst (v := 0) hx hb dX7_against_2 (by decide) ?_
  refine lv_istore (lv' := [(4, .int 0), (3, .int 0), (0, .ref (ad 11)), (1, .int (nI kc)), (2, .int (nI hh))]) hx hb dX7_against_3 hl (by decide) rfl (fun ls hl => ?_)
  exact loop 0 (Nat.zero_le _) _ ls HS (lv_sub hl [0, 1, 2, 3, 4] rfl)
set_option maxHeartbeats 4000000 in
set_option maxRecDepth 100000 in
theorem m_bad {l : Launch} {D : va_G} {ids : Nat → ClassId} {n0 : Nat} {RR : List Nat} {ad : Nat → Nat} {τ : Tau} {th : Int32} {fr : Nat → va_E} {Hh : Heap} (hw : sM D ids n0 RR ad τ th fr Hh) {nw ns nl nc : Nat} (hI : Iv τ nw ns nl nc) (kc : Nat) (hkc : kc < nc) : ro_M l yX7_bad cX7_bad 4 (some FieldType.int) { frames := 4, cells := 0, slots := 0, locals := 120 } D ids n0 [.ref (ad 11), .int (nI kc)] Hh (fun v H1 => v = some (.int (nI (badN τ kc))) ∧ Hh = H1) := by
  refine ro_ofM (by decide +kernel) (Nat.le_of_ble_eq_true rfl) ?_
  intro p e s m below meth c MC hhp hr hnm HS ls hl
  have hx := MC.1.1
  have hb := MC.1.2.1
  have hl : lv_has ls 4 [(0, .ref (ad 11)), (1, .int (nI kc))] := hl
  have hnc := hI.2.2.2.1.2
  obtain ⟨-, ⟨b9, n9, hb9, hn9, h1n, hn1, hbn⟩, -⟩ := hI.2.2.2.2.2.2.2.2.2.2.1 kc hkc
  have hcn : cx (τ 13 kc) = n9 := by rw [hn9]; exact cx_nI (by omega)
  have hen : τ 12 kc + τ 13 kc = nI (b9 + n9) := by rw [hb9, hn9, nI_add]
  have loop : ∀ j : Nat, j ≤ n9 → ∀ (locs : List Loc) (ls : Array Slot), va_S (fun q => n0 ≤ q) s.heap Hh locs → lv_has ls 4 [(3, .int (nI (b9 + j))), (2, .int (nI (ct (badB τ kc) j))), (0, .ref (ad 11)), (1, .int (nI kc))] → W p l e { frames := 4, cells := 0, slots := 0, locals := 120 } s m ([.ref (ad 11), .int (nI kc)] : List Value).toArray below meth c Hh locs 0 0 (MQ below (ro_Q n0 (fun v H1 => v = some (.int (nI (badN τ kc))) ∧ Hh = H1)) ([.ref (ad 11), .int (nI kc)] : List Value).toArray s 0 0 (fun q => n0 ≤ q)) (F0 m 9 ls []) := by
    refine ro_loop (n9) (fun j : Nat => ∀ (locs : List Loc) (ls : Array Slot), va_S (fun q => n0 ≤ q) s.heap Hh locs → lv_has ls 4 [(3, .int (nI (b9 + j))), (2, .int (nI (ct (badB τ kc) j))), (0, .ref (ad 11)), (1, .int (nI kc))] → W p l e { frames := 4, cells := 0, slots := 0, locals := 120 } s m ([.ref (ad 11), .int (nI kc)] : List Value).toArray below meth c Hh locs 0 0 (MQ below (ro_Q n0 (fun v H1 => v = some (.int (nI (badN τ kc))) ∧ Hh = H1)) ([.ref (ad 11), .int (nI kc)] : List Value).toArray s 0 0 (fun q => n0 ≤ q)) (F0 m 9 ls [])) ?_ ?_
    · intro locs ls HS hl
      refine lv_iload_n hx hb dX7_bad_9 rfl (lv_at hl 0 rfl) ?_
      refine lv_aload_n hx hb dX7_bad_10 rfl (lv_at hl 2 rfl) ?_
      refine mo_get MC hw 16 (by decide) kw634 rfl rfl dX7_bad_11 ?_
      refine lv_iload_n hx hb dX7_bad_14 rfl (lv_at hl 3 rfl) ?_
      refine mo_iald MC hw 12 (by decide) (by decide) rfl kc (show kc < 30 by omega) rfl dX7_bad_15 ?_
      refine lv_aload_n hx hb dX7_bad_16 rfl (lv_at hl 2 rfl) ?_
      refine mo_get MC hw 17 (by decide) kw635 rfl rfl dX7_bad_17 ?_
      refine lv_iload_n hx hb dX7_bad_20 rfl (lv_at hl 3 rfl) ?_
      refine mo_iald MC hw 13 (by decide) (by decide) rfl kc (show kc < 30 by omega) rfl dX7_bad_21 ?_
      refine lv_iadd hx hb dX7_bad_22 ?_
      refine lv_icmp_ge (tgt := 49) hx hb dX7_bad_23 (by decide) (fun c_23 => ?_) (fun c_23 => absurd (kn_le hen (Nat.le_refl _) (by omega)) c_23)
      refine lv_iload_n hx hb dX7_bad_49 rfl (lv_at hl 1 rfl) ?_
      exact ro_iretM MC HS hr ⟨by unfold badN; rw [hcn], rfl⟩ (Nat.le_refl _) (Nat.le_refl _) dX7_bad_50
    · intro j hkj ih locs ls HS hl
      refine lv_iload_n hx hb dX7_bad_9 rfl (lv_at hl 0 rfl) ?_
      refine lv_aload_n hx hb dX7_bad_10 rfl (lv_at hl 2 rfl) ?_
      refine mo_get MC hw 16 (by decide) kw634 rfl rfl dX7_bad_11 ?_
      refine lv_iload_n hx hb dX7_bad_14 rfl (lv_at hl 3 rfl) ?_
      refine mo_iald MC hw 12 (by decide) (by decide) rfl kc (show kc < 30 by omega) rfl dX7_bad_15 ?_
      refine lv_aload_n hx hb dX7_bad_16 rfl (lv_at hl 2 rfl) ?_
      refine mo_get MC hw 17 (by decide) kw635 rfl rfl dX7_bad_17 ?_
      refine lv_iload_n hx hb dX7_bad_20 rfl (lv_at hl 3 rfl) ?_
      refine mo_iald MC hw 13 (by decide) (by decide) rfl kc (show kc < 30 by omega) rfl dX7_bad_21 ?_
      refine lv_iadd hx hb dX7_bad_22 ?_
      refine lv_icmp_ge (tgt := 49) hx hb dX7_bad_23 (by decide) (fun c_23 => absurd c_23 (kn_nle hen (show b9 + j < b9 + n9 by omega) (by omega))) (fun c_23 => ?_)
      refine lv_iload_n hx hb dX7_bad_26 rfl (lv_at hl 1 rfl) ?_
      refine lv_aload_n hx hb dX7_bad_27 rfl (lv_at hl 2 rfl) ?_
      refine lv_iload_n hx hb dX7_bad_28 rfl (lv_at hl 3 rfl) ?_
      refine lv_iload_n hx hb dX7_bad_29 rfl (lv_at hl 0 rfl) ?_
      refine ro_callV MC HS (rest := [.int (nI (ct (badB τ kc) j))]) (As := [.int (nI kc), .int (nI (b9 + j))]) (m_against hw hI kc (b9 + j) hkc (by omega)) (lkX7_119) (kw796) (kw26) ⟨Nat.le_of_ble_eq_true rfl, Nat.le_of_ble_eq_true rfl⟩ (mo_recv MC hw) hl.1 rfl (Nat.le_of_ble_eq_true rfl) dX7_bad_30 ⟨Nat.le_of_ble_eq_true rfl, Nat.le_of_ble_eq_true rfl⟩ (fun v9 H1 lH1 hp hz HS => ?_)
      obtain ⟨rfl, rfl⟩ := hp
      refine lv_if_ne (tgt := 40) hx hb dX7_bad_33 (by decide) (fun c_33 => ?_) (fun c_33 => ?_)
      · refine lv_iconst (v := 1) hx hb dX7_bad_40 (by decide) ?_
        refine lv_iadd hx hb dX7_bad_41 ?_
        refine lv_istore_n (lv' := [(2, .int ((nI (ct (badB τ kc) j) + 1))), (3, .int (nI (b9 + j))), (0, .ref (ad 11)), (1, .int (nI kc))]) hx hb dX7_bad_42 rfl hl (by decide) rfl (fun ls hl => ?_)
        refine lv_iinc (v := nI (b9 + j) + 1) (lv' := [(3, .int (nI (b9 + j) + 1)), (2, .int ((nI (ct (badB τ kc) j) + 1))), (0, .ref (ad 11)), (1, .int (nI kc))]) hx hb dX7_bad_43 hl (k := 1) rfl rfl (by decide) rfl (fun ls hl => ?_)
        refine lv_goto (tgt := 9) hx hb dX7_bad_46 (by decide) ?_
        rw [ct_t (p := badB τ kc) (by unfold badB; rw [hr_add hb9]; simp [c_33]), nI_1] at hl
        exact ih _ ls HS (lv_sub hl [0, 1, 2, 3] rfl)
      · refine lv_iconst (v := 0) hx hb dX7_bad_36 (by decide) ?_
        refine lv_goto (tgt := 41) hx hb dX7_bad_37 (by decide) ?_
        refine lv_iadd hx hb dX7_bad_41 ?_
        refine lv_istore_n (lv' := [(2, .int ((nI (ct (badB τ kc) j) + 0))), (3, .int (nI (b9 + j))), (0, .ref (ad 11)), (1, .int (nI kc))]) hx hb dX7_bad_42 rfl hl (by decide) rfl (fun ls hl => ?_)
        refine lv_iinc (v := nI (b9 + j) + 1) (lv' := [(3, .int (nI (b9 + j) + 1)), (2, .int ((nI (ct (badB τ kc) j) + 0))), (0, .ref (ad 11)), (1, .int (nI kc))]) hx hb dX7_bad_43 hl (k := 1) rfl rfl (by decide) rfl (fun ls hl => ?_)
        refine lv_goto (tgt := 9) hx hb dX7_bad_46 (by decide) ?_
        rw [ct_f (p := badB τ kc) (by unfold badB; rw [hr_add hb9]; simp [c_33]), nI_1] at hl
        exact ih _ ls HS (lv_sub hl [0, 1, 2, 3] rfl)
  refine lv_iconst (v := 0) hx hb dX7_bad_0 (by decide) ?_
  refine lv_istore_n (lv' := [(2, .int 0), (0, .ref (ad 11)), (1, .int (nI kc))]) hx hb dX7_bad_1 rfl hl (by decide) rfl (fun ls hl => ?_)
  refine lv_aload_n hx hb dX7_bad_2 rfl (lv_at hl 1 rfl) ?_
  refine mo_get MC hw 16 (by decide) kw634 rfl rfl dX7_bad_3 ?_
  refine lv_iload_n hx hb dX7_bad_6 rfl (lv_at hl 2 rfl) ?_
  refine mo_iald MC hw 12 (by decide) (by decide) rfl kc (show kc < 30 by omega) rfl dX7_bad_7 ?_
  refine lv_istore_n (lv' := [(3, .int (τ 12 kc)), (2, .int 0), (0, .ref (ad 11)), (1, .int (nI kc))]) hx hb dX7_bad_8 rfl hl (by decide) rfl (fun ls hl => ?_)
  rw [hb9] at hl
  exact loop 0 (Nat.zero_le _) _ ls HS (lv_sub hl [0, 1, 2, 3] rfl)
