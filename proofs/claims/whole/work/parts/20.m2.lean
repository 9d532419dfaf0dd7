theorem ax_scope_0 {τ : Tau} {a : Int32} (f_6 : 0 ≤ a ∧ a ≤ τ 0 1 - 1) (c_19 : ¬ (τ 0 1 = 16)) : th_scope τ a = 0 := by
  unfold th_scope; grind
theorem ax_scope_1 {τ : Tau} {a : Int32} (f_6 : 0 ≤ a ∧ a ≤ τ 0 1 - 1) (c_19 : τ 0 1 = 16) : th_scope τ a = 2 := by
  unfold th_scope; grind
theorem ax_scope_2 {τ : Tau} {a : Int32} (f_6 : ¬ (0 ≤ a ∧ a ≤ τ 0 1 - 1)) : th_scope τ a = 1 := by
  unfold th_scope; grind
theorem ax_offset_0 {τ : Tau} {a : Int32} {b : Int32} (f_5 : 0 ≤ a ∧ a ≤ 3) (f_20 : ¬ ((-11) ≤ b ∧ b ≤ 12)) : th_offset τ a b = 2 := by
  unfold th_offset; grind
theorem ax_offset_1 {τ : Tau} {a : Int32} {b : Int32} (f_5 : 0 ≤ a ∧ a ≤ 3) (f_20 : (-11) ≤ b ∧ b ≤ 12) : th_offset τ a b = 0 := by
  unfold th_offset; grind
theorem ax_offset_2 {τ : Tau} {a : Int32} {b : Int32} (f_5 : ¬ (0 ≤ a ∧ a ≤ 3)) : th_offset τ a b = 1 := by
  unfold th_offset; grind
theorem ax_feast_0 {τ : Tau} {a : Int32} {d9 : Int32} (f_5 : 0 ≤ a ∧ a ≤ 3) (f_19 : ¬ ((-1) ≤ d9 ∧ d9 ≤ 28)) : th_feast τ a d9 = 2 := by
  unfold th_feast; grind
theorem ax_feast_1 {τ : Tau} {a : Int32} {d9 : Int32} (f_5 : 0 ≤ a ∧ a ≤ 3) (f_19 : (-1) ≤ d9 ∧ d9 ≤ 28) : th_feast τ a d9 = 0 := by
  unfold th_feast; grind
theorem ax_feast_2 {τ : Tau} {a : Int32} {d9 : Int32} (f_5 : 0 ≤ a ∧ a ≤ 3) (f_19 : (-1) ≤ d9 ∧ d9 ≤ 28) : th_feast τ a d9 = 0 := by
  unfold th_feast; grind
theorem ax_feast_3 {τ : Tau} {a : Int32} {d9 : Int32} (f_5 : ¬ (0 ≤ a ∧ a ≤ 3)) : th_feast τ a d9 = 1 := by
  unfold th_feast; grind
theorem ax_pass_0 {τ : Tau} {h : Int32} (f_8 : 1 ≤ h ∧ h ≤ 100) (c_24 : (τ 0 0 + h) < 672) : th_pass τ h = 0 := by
  unfold th_pass; grind
theorem ax_pass_1 {τ : Tau} {h : Int32} (f_8 : 1 ≤ h ∧ h ≤ 100) (c_24 : ¬ ((τ 0 0 + h) < 672)) : th_pass τ h = 2 := by
  unfold th_pass; grind
theorem ax_pass_2 {τ : Tau} {h : Int32} (f_8 : ¬ (1 ≤ h ∧ h ≤ 100)) : th_pass τ h = 1 := by
  unfold th_pass; grind
theorem ax_once_0 {τ : Tau} {s9 : Int32} {f : Int32} {t : Int32} {r : Int32} (f_8 : ¬ (0 ≤ f ∧ f ≤ 671)) (f_46 : 0 ≤ s9 ∧ s9 ≤ τ 0 1 - 1) : th_once τ s9 f t r = 2 := by
  unfold th_once; grind
theorem ax_once_1 {τ : Tau} {s9 : Int32} {f : Int32} {t : Int32} {r : Int32} (f_8 : ¬ (0 ≤ f ∧ f ≤ 671)) (f_46 : ¬ (0 ≤ s9 ∧ s9 ≤ τ 0 1 - 1)) : th_once τ s9 f t r = 1 := by
  unfold th_once; grind
theorem ax_once_2 {τ : Tau} {s9 : Int32} {f : Int32} {t : Int32} {r : Int32} (f_8 : 0 ≤ f ∧ f ≤ 671) (c_13 : t ≤ f) (f_46 : 0 ≤ s9 ∧ s9 ≤ τ 0 1 - 1) : th_once τ s9 f t r = 2 := by
  unfold th_once; grind
theorem ax_once_3 {τ : Tau} {s9 : Int32} {f : Int32} {t : Int32} {r : Int32} (f_8 : 0 ≤ f ∧ f ≤ 671) (c_13 : t ≤ f) (f_46 : ¬ (0 ≤ s9 ∧ s9 ≤ τ 0 1 - 1)) : th_once τ s9 f t r = 1 := by
  unfold th_once; grind
theorem ax_once_4 {τ : Tau} {s9 : Int32} {f : Int32} {t : Int32} {r : Int32} (f_8 : 0 ≤ f ∧ f ≤ 671) (c_13 : ¬ (t ≤ f)) (c_20 : 672 < t) (f_46 : 0 ≤ s9 ∧ s9 ≤ τ 0 1 - 1) : th_once τ s9 f t r = 2 := by
  unfold th_once; grind
theorem ax_once_5 {τ : Tau} {s9 : Int32} {f : Int32} {t : Int32} {r : Int32} (f_8 : 0 ≤ f ∧ f ≤ 671) (c_13 : ¬ (t ≤ f)) (c_20 : 672 < t) (f_46 : ¬ (0 ≤ s9 ∧ s9 ≤ τ 0 1 - 1)) : th_once τ s9 f t r = 1 := by
  unfold th_once; grind
theorem ax_once_6 {τ : Tau} {s9 : Int32} {f : Int32} {t : Int32} {r : Int32} (f_8 : 0 ≤ f ∧ f ≤ 671) (c_13 : ¬ (t ≤ f)) (c_20 : ¬ (672 < t)) (f_30 : ¬ (1 ≤ r ∧ r ≤ 3)) (f_46 : 0 ≤ s9 ∧ s9 ≤ τ 0 1 - 1) : th_once τ s9 f t r = 2 := by
  unfold th_once; grind
theorem ax_once_7 {τ : Tau} {s9 : Int32} {f : Int32} {t : Int32} {r : Int32} (f_8 : 0 ≤ f ∧ f ≤ 671) (c_13 : ¬ (t ≤ f)) (c_20 : ¬ (672 < t)) (f_30 : ¬ (1 ≤ r ∧ r ≤ 3)) (f_46 : ¬ (0 ≤ s9 ∧ s9 ≤ τ 0 1 - 1)) : th_once τ s9 f t r = 1 := by
  unfold th_once; grind
theorem ax_once_8 {τ : Tau} {s9 : Int32} {f : Int32} {t : Int32} {r : Int32} (f_8 : 0 ≤ f ∧ f ≤ 671) (c_13 : ¬ (t ≤ f)) (c_20 : ¬ (672 < t)) (f_30 : 1 ≤ r ∧ r ≤ 3) (f_46 : 0 ≤ s9 ∧ s9 ≤ τ 0 1 - 1) (c_68 : ¬ (τ 0 2 = 20)) : th_once τ s9 f t r = 0 := by
  unfold th_once; grind
theorem ax_once_9 {τ : Tau} {s9 : Int32} {f : Int32} {t : Int32} {r : Int32} (f_8 : 0 ≤ f ∧ f ≤ 671) (c_13 : ¬ (t ≤ f)) (c_20 : ¬ (672 < t)) (f_30 : 1 ≤ r ∧ r ≤ 3) (f_46 : 0 ≤ s9 ∧ s9 ≤ τ 0 1 - 1) (c_68 : τ 0 2 = 20) : th_once τ s9 f t r = 3 := by
  unfold th_once; grind
theorem ax_once_10 {τ : Tau} {s9 : Int32} {f : Int32} {t : Int32} {r : Int32} (f_8 : 0 ≤ f ∧ f ≤ 671) (c_13 : ¬ (t ≤ f)) (c_20 : ¬ (672 < t)) (f_30 : 1 ≤ r ∧ r ≤ 3) (f_46 : ¬ (0 ≤ s9 ∧ s9 ≤ τ 0 1 - 1)) : th_once τ s9 f t r = 1 := by
  unfold th_once; grind
theorem ax_daily_0 {τ : Tau} {s9 : Int32} {d : Int32} {f : Int32} {t : Int32} {r : Int32} (f_7 : ¬ (0 ≤ f ∧ f ≤ 23)) (f_44 : ¬ (0 ≤ s9 ∧ s9 ≤ τ 0 1 - 1)) : th_daily τ s9 d f t r = 1 := by
  unfold th_daily; grind
theorem ax_daily_1 {τ : Tau} {s9 : Int32} {d : Int32} {f : Int32} {t : Int32} {r : Int32} (f_7 : ¬ (0 ≤ f ∧ f ≤ 23)) (f_44 : 0 ≤ s9 ∧ s9 ≤ τ 0 1 - 1) (f_51 : 0 ≤ d ∧ d ≤ 3) : th_daily τ s9 d f t r = 2 := by
  unfold th_daily; grind
theorem ax_daily_2 {τ : Tau} {s9 : Int32} {d : Int32} {f : Int32} {t : Int32} {r : Int32} (f_7 : ¬ (0 ≤ f ∧ f ≤ 23)) (f_44 : 0 ≤ s9 ∧ s9 ≤ τ 0 1 - 1) (f_51 : ¬ (0 ≤ d ∧ d ≤ 3)) : th_daily τ s9 d f t r = 1 := by
  unfold th_daily; grind
theorem ax_daily_3 {τ : Tau} {s9 : Int32} {d : Int32} {f : Int32} {t : Int32} {r : Int32} (f_7 : 0 ≤ f ∧ f ≤ 23) (f_18 : ¬ (0 ≤ t ∧ t ≤ 23)) (f_44 : ¬ (0 ≤ s9 ∧ s9 ≤ τ 0 1 - 1)) : th_daily τ s9 d f t r = 1 := by
  unfold th_daily; grind
theorem ax_daily_4 {τ : Tau} {s9 : Int32} {d : Int32} {f : Int32} {t : Int32} {r : Int32} (f_7 : 0 ≤ f ∧ f ≤ 23) (f_18 : ¬ (0 ≤ t ∧ t ≤ 23)) (f_44 : 0 ≤ s9 ∧ s9 ≤ τ 0 1 - 1) (f_51 : 0 ≤ d ∧ d ≤ 3) : th_daily τ s9 d f t r = 2 := by
  unfold th_daily; grind
theorem ax_daily_5 {τ : Tau} {s9 : Int32} {d : Int32} {f : Int32} {t : Int32} {r : Int32} (f_7 : 0 ≤ f ∧ f ≤ 23) (f_18 : ¬ (0 ≤ t ∧ t ≤ 23)) (f_44 : 0 ≤ s9 ∧ s9 ≤ τ 0 1 - 1) (f_51 : ¬ (0 ≤ d ∧ d ≤ 3)) : th_daily τ s9 d f t r = 1 := by
  unfold th_daily; grind
theorem ax_daily_6 {τ : Tau} {s9 : Int32} {d : Int32} {f : Int32} {t : Int32} {r : Int32} (f_7 : 0 ≤ f ∧ f ≤ 23) (f_18 : 0 ≤ t ∧ t ≤ 23) (f_28 : ¬ (1 ≤ r ∧ r ≤ 3)) (f_44 : ¬ (0 ≤ s9 ∧ s9 ≤ τ 0 1 - 1)) : th_daily τ s9 d f t r = 1 := by
  unfold th_daily; grind
theorem ax_daily_7 {τ : Tau} {s9 : Int32} {d : Int32} {f : Int32} {t : Int32} {r : Int32} (f_7 : 0 ≤ f ∧ f ≤ 23) (f_18 : 0 ≤ t ∧ t ≤ 23) (f_28 : ¬ (1 ≤ r ∧ r ≤ 3)) (f_44 : 0 ≤ s9 ∧ s9 ≤ τ 0 1 - 1) (f_51 : 0 ≤ d ∧ d ≤ 3) : th_daily τ s9 d f t r = 2 := by
  unfold th_daily; grind
theorem ax_daily_8 {τ : Tau} {s9 : Int32} {d : Int32} {f : Int32} {t : Int32} {r : Int32} (f_7 : 0 ≤ f ∧ f ≤ 23) (f_18 : 0 ≤ t ∧ t ≤ 23) (f_28 : ¬ (1 ≤ r ∧ r ≤ 3)) (f_44 : 0 ≤ s9 ∧ s9 ≤ τ 0 1 - 1) (f_51 : ¬ (0 ≤ d ∧ d ≤ 3)) : th_daily τ s9 d f t r = 1 := by
  unfold th_daily; grind
theorem ax_daily_9 {τ : Tau} {s9 : Int32} {d : Int32} {f : Int32} {t : Int32} {r : Int32} (f_7 : 0 ≤ f ∧ f ≤ 23) (f_18 : 0 ≤ t ∧ t ≤ 23) (f_28 : 1 ≤ r ∧ r ≤ 3) (f_44 : ¬ (0 ≤ s9 ∧ s9 ≤ τ 0 1 - 1)) : th_daily τ s9 d f t r = 1 := by
  unfold th_daily; grind
theorem ax_daily_10 {τ : Tau} {s9 : Int32} {d : Int32} {f : Int32} {t : Int32} {r : Int32} (f_7 : 0 ≤ f ∧ f ≤ 23) (f_18 : 0 ≤ t ∧ t ≤ 23) (f_28 : 1 ≤ r ∧ r ≤ 3) (f_44 : 0 ≤ s9 ∧ s9 ≤ τ 0 1 - 1) (f_51 : 0 ≤ d ∧ d ≤ 3) (c_73 : ¬ (τ 0 2 = 20)) : th_daily τ s9 d f t r = 0 := by
  unfold th_daily; grind
theorem ax_daily_11 {τ : Tau} {s9 : Int32} {d : Int32} {f : Int32} {t : Int32} {r : Int32} (f_7 : 0 ≤ f ∧ f ≤ 23) (f_18 : 0 ≤ t ∧ t ≤ 23) (f_28 : 1 ≤ r ∧ r ≤ 3) (f_44 : 0 ≤ s9 ∧ s9 ≤ τ 0 1 - 1) (f_51 : 0 ≤ d ∧ d ≤ 3) (c_73 : τ 0 2 = 20) : th_daily τ s9 d f t r = 3 := by
  unfold th_daily; grind
theorem ax_daily_12 {τ : Tau} {s9 : Int32} {d : Int32} {f : Int32} {t : Int32} {r : Int32} (f_7 : 0 ≤ f ∧ f ≤ 23) (f_18 : 0 ≤ t ∧ t ≤ 23) (f_28 : 1 ≤ r ∧ r ≤ 3) (f_44 : 0 ≤ s9 ∧ s9 ≤ τ 0 1 - 1) (f_51 : ¬ (0 ≤ d ∧ d ≤ 3)) : th_daily τ s9 d f t r = 1 := by
  unfold th_daily; grind
theorem ax_feasts_0 {τ : Tau} {s9 : Int32} {d : Int32} {r : Int32} (f_6 : ¬ (0 ≤ s9 ∧ s9 ≤ τ 0 1 - 1)) : th_feasts τ s9 d r = 1 := by
  unfold th_feasts; grind
theorem ax_feasts_1 {τ : Tau} {s9 : Int32} {d : Int32} {r : Int32} (f_6 : 0 ≤ s9 ∧ s9 ≤ τ 0 1 - 1) (f_13 : 0 ≤ d ∧ d ≤ 3) (f_26 : 1 ≤ r ∧ r ≤ 3) (c_39 : ¬ (τ 0 2 = 20)) : th_feasts τ s9 d r = 0 := by
  unfold th_feasts; grind
theorem ax_feasts_2 {τ : Tau} {s9 : Int32} {d : Int32} {r : Int32} (f_6 : 0 ≤ s9 ∧ s9 ≤ τ 0 1 - 1) (f_13 : 0 ≤ d ∧ d ≤ 3) (f_26 : 1 ≤ r ∧ r ≤ 3) (c_39 : τ 0 2 = 20) : th_feasts τ s9 d r = 3 := by
  unfold th_feasts; grind
theorem ax_feasts_3 {τ : Tau} {s9 : Int32} {d : Int32} {r : Int32} (f_6 : 0 ≤ s9 ∧ s9 ≤ τ 0 1 - 1) (f_13 : 0 ≤ d ∧ d ≤ 3) (f_26 : ¬ (1 ≤ r ∧ r ≤ 3)) : th_feasts τ s9 d r = 2 := by
  unfold th_feasts; grind
theorem ax_feasts_4 {τ : Tau} {s9 : Int32} {d : Int32} {r : Int32} (f_6 : 0 ≤ s9 ∧ s9 ≤ τ 0 1 - 1) (f_13 : ¬ (0 ≤ d ∧ d ≤ 3)) : th_feasts τ s9 d r = 1 := by
  unfold th_feasts; grind
set_option maxHeartbeats 4000000 in
set_option maxRecDepth 100000 in
theorem m_scope {l : Launch} {D : va_G} {ids : Nat → ClassId} {n0 : Nat} {RR : List Nat} {ad : Nat → Nat} {τ : Tau} {th : Int32} {fr : Nat → va_E} {Hh : Heap} (hw : sM D ids n0 RR ad τ th fr Hh) {nw ns nl nc : Nat} (hI : Iv τ nw ns nl nc) (a : Int32) : ro_M l yX7_scope cX7_scope 2 (some FieldType.int) { frames := 2, cells := 0, slots := 0, locals := 60 } D ids n0 [.ref (ad 11), .int a] Hh (fun v9 H1 => ∃ rz, v9 = some (.int rz) ∧ sM D ids n0 RR ad (if th_scope τ a = 0 then nx_scope τ a else τ) (th_scope τ a) fr H1 ∧ (th_scope τ a = 0 → rz = rt_scope τ a)) := by
  refine ro_ofM (by decide +kernel) (Nat.le_of_ble_eq_true rfl) ?_
  intro p e s m below meth c MC hhp hr hnm HS ls hl
  have hx := MC.1.1
  have hb := MC.1.2.1
  have hl : lv_has ls 2 [(0, .ref (ad 11)), (1, .int a)] := hl
  refine lv_aload_n hx hb dX7_scope_0 rfl (lv_at hl 0 rfl) ?_
  refine lv_aload_n hx hb dX7_scope_1 rfl (lv_at hl 0 rfl) ?_
  refine lv_iload_n hx hb dX7_scope_2 rfl (lv_at hl 1 rfl) ?_
  refine ro_callV MC HS (rest := [.ref (ad 11)]) (As := [.int a]) (m_isScope hw a) (lkX7_76) (kw698) (kw16) ⟨Nat.le_of_ble_eq_true rfl, Nat.le_of_ble_eq_true rfl⟩ (mo_recv MC hw) hl.1 rfl (Nat.le_of_ble_eq_true rfl) dX7_scope_3 ⟨Nat.le_of_ble_eq_true rfl, Nat.le_of_ble_eq_true rfl⟩ (fun v9 H1 lH1 hp hz HS => ?_)
  obtain ⟨rfl, rfl⟩ := hp
  refine lv_if_ne (tgt := 13) hx hb dX7_scope_6 (by decide) (fun c_6 => ?_) (fun c_6 => ?_)
  · have f_6 := bI_n0.mp c_6
    refine lv_aload_n hx hb dX7_scope_13 rfl (lv_at hl 0 rfl) ?_
    refine mo_get MC hw 2 (by decide) kw620 rfl rfl dX7_scope_14 ?_
    refine lv_bipush (v := 16) hx hb dX7_scope_17 (by decide) ?_
    refine lv_icmp_ne (tgt := 26) hx hb dX7_scope_19 (by decide) (fun c_19 => ?_) (fun c_19 => ?_)
    · have hn16 : ns < 16 := by have := nI_ne (N := 16) hI.2.1.1 c_19; have := hI.2.1.2.2; omega
      have hcs : cx (τ 0 1) = ns := by rw [hI.2.1.1]; exact cx_nI (by omega)
      refine lv_iconst (v := 0) hx hb dX7_scope_26 (by decide) ?_
      refine mo_put MC hw HS 0 (by decide) kw618 rfl rfl rfl τ 0 rfl (fun _ _ => rfl) dX7_scope_27 (fun H2 lH2 hw HS => ?_)
      refine lv_aload_n hx hb dX7_scope_30 rfl (lv_at hl 0 rfl) ?_
      refine mo_get MC hw 0 (by decide) kw618 rfl rfl dX7_scope_31 ?_
      refine lv_if_le (tgt := 39) hx hb dX7_scope_34 (by decide) (fun c_34 => ?_) (fun c_34 => absurd c_34 (by decide))
      refine lv_aload_n hx hb dX7_scope_39 rfl (lv_at hl 0 rfl) ?_
      refine mo_get MC hw 3 (by decide) kw621 rfl rfl dX7_scope_40 ?_
      refine lv_aload_n hx hb dX7_scope_43 rfl (lv_at hl 0 rfl) ?_
      refine mo_get MC hw 2 (by decide) kw620 rfl rfl dX7_scope_44 ?_
      refine lv_iload_n hx hb dX7_scope_47 rfl (lv_at hl 1 rfl) ?_
      refine mo_iast MC hw HS 1 (by decide) (by decide) rfl ns (show ns < 16 by omega) hI.2.1.1 dX7_scope_48 (fun H3 lH3 hw HS => ?_)
      refine lv_aload_n hx hb dX7_scope_49 rfl (lv_at hl 0 rfl) ?_
      refine lv_dup hx hb dX7_scope_50 rfl ?_
      refine mo_get MC hw 2 (by decide) kw620 rfl rfl dX7_scope_51 ?_
      refine lv_iconst (v := 1) hx hb dX7_scope_54 (by decide) ?_
      refine lv_iadd hx hb dX7_scope_55 ?_
      refine mo_put MC hw HS 2 (by decide) kw620 rfl rfl rfl (t0 (ti τ 1 ns a) 1 (τ 0 1 + 1)) 0 rfl (fun i h => va_up_ne _ _ (by omega)) dX7_scope_56 (fun H4 lH4 hw HS => ?_)
      refine lv_aload_n hx hb dX7_scope_59 rfl (lv_at hl 0 rfl) ?_
      refine mo_get MC hw 2 (by decide) kw620 rfl rfl dX7_scope_60 ?_
      refine lv_iconst (v := 1) hx hb dX7_scope_63 (by decide) ?_
      refine lv_isub hx hb dX7_scope_64 ?_
      have hth : th_scope τ a = 0 := ax_scope_0 f_6 c_19
      have hnx : nx_scope τ a = (t0 (ti τ 1 ns a) 1 (τ 0 1 + 1)) := by simp only [nx_scope, hcs]
      exact ro_iretM MC HS hr ⟨_, rfl, by rw [hth, if_pos rfl, hnx]; exact hw, fun _ => by show τ 0 1 + 1 - 1 = rt_scope τ a; unfold rt_scope; lia⟩ (Nat.le_refl _) (Nat.le_refl _) dX7_scope_65
    · refine lv_iconst (v := 2) hx hb dX7_scope_22 (by decide) ?_
      refine lv_goto (tgt := 27) hx hb dX7_scope_23 (by decide) ?_
      refine mo_put MC hw HS 0 (by decide) kw618 rfl rfl rfl τ 2 rfl (fun _ _ => rfl) dX7_scope_27 (fun H5 lH5 hw HS => ?_)
      refine lv_aload_n hx hb dX7_scope_30 rfl (lv_at hl 0 rfl) ?_
      refine mo_get MC hw 0 (by decide) kw618 rfl rfl dX7_scope_31 ?_
      refine lv_if_le (tgt := 39) hx hb dX7_scope_34 (by decide) (fun c_34 => absurd c_34 (by decide)) (fun c_34 => ?_)
      refine lv_iconst (v := 0) hx hb dX7_scope_37 (by decide) ?_
      have hth : th_scope τ a = 2 := ax_scope_1 f_6 c_19
      exact ro_iretM MC HS hr ⟨_, rfl, by rw [hth, if_neg (by decide)]; exact hw, fun h0 => absurd (hth.symm.trans h0) (by decide)⟩ (Nat.le_refl _) (Nat.le_refl _) dX7_scope_38
  · have f_6 := bI_0.mp c_6
    refine lv_iconst (v := 1) hx hb dX7_scope_9 (by decide) ?_
    refine lv_goto (tgt := 27) hx hb dX7_scope_10 (by decide) ?_
    refine mo_put MC hw HS 0 (by decide) kw618 rfl rfl rfl τ 1 rfl (fun _ _ => rfl) dX7_scope_27 (fun H6 lH6 hw HS => ?_)
    refine lv_aload_n hx hb dX7_scope_30 rfl (lv_at hl 0 rfl) ?_
    refine mo_get MC hw 0 (by decide) kw618 rfl rfl dX7_scope_31 ?_
    refine lv_if_le (tgt := 39) hx hb dX7_scope_34 (by decide) (fun c_34 => absurd c_34 (by decide)) (fun c_34 => ?_)
    refine lv_iconst (v := 0) hx hb dX7_scope_37 (by decide) ?_
    have hth : th_scope τ a = 1 := ax_scope_2 f_6
    exact ro_iretM MC HS hr ⟨_, rfl, by rw [hth, if_neg (by decide)]; exact hw, fun h0 => absurd (hth.symm.trans h0) (by decide)⟩ (Nat.le_refl _) (Nat.le_refl _) dX7_scope_38
set_option maxHeartbeats 4000000 in
set_option maxRecDepth 100000 in
theorem m_offset {l : Launch} {D : va_G} {ids : Nat → ClassId} {n0 : Nat} {RR : List Nat} {ad : Nat → Nat} {τ : Tau} {th : Int32} {fr : Nat → va_E} {Hh : Heap} (hw : sM D ids n0 RR ad τ th fr Hh) {nw ns nl nc : Nat} (hI : Iv τ nw ns nl nc) (a : Int32) (b : Int32) : ro_M l yX7_offset cX7_offset 4 (some FieldType.int) { frames := 2, cells := 0, slots := 0, locals := 60 } D ids n0 [.ref (ad 11), .int a, .int b] Hh (fun v9 H1 => ∃ rz, v9 = some (.int rz) ∧ sM D ids n0 RR ad (if th_offset τ a b = 0 then nx_offset τ a b else τ) (th_offset τ a b) fr H1 ∧ (th_offset τ a b = 0 → rz = rt_offset τ a b)) := by
  refine ro_ofM (by decide +kernel) (Nat.le_of_ble_eq_true rfl) ?_
  intro p e s m below meth c MC hhp hr hnm HS ls hl
  have hx := MC.1.1
  have hb := MC.1.2.1
  have hl : lv_has ls 4 [(0, .ref (ad 11)), (1, .int a), (2, .int b)] := hl
  refine lv_aload_n hx hb dX7_offset_0 rfl (lv_at hl 0 rfl) ?_
  refine lv_iload_n hx hb dX7_offset_1 rfl (lv_at hl 1 rfl) ?_
  refine ro_callS MC HS (rest := [.ref (ad 11)]) (As := [.int a]) (m_isLand l D ids n0 a) (lkX7_80) (kw708) ⟨Nat.le_of_ble_eq_true rfl, Nat.le_of_ble_eq_true rfl⟩ hl.1 rfl (Nat.le_of_ble_eq_true rfl) dX7_offset_2 ⟨Nat.le_of_ble_eq_true rfl, Nat.le_of_ble_eq_true rfl⟩ (fun v9 H1 lH1 hp hz HS => ?_)
  obtain ⟨rfl, rfl⟩ := hp
  refine lv_if_ne (tgt := 12) hx hb dX7_offset_5 (by decide) (fun c_5 => ?_) (fun c_5 => ?_)
  · have f_5 := bI_n0.mp c_5
    obtain ⟨ka, hka, haa, hcc⟩ := okL.ix f_5
    refine lv_iload_n hx hb dX7_offset_12 rfl (lv_at hl 2 rfl) ?_
    refine lv_bipush (v := (-11)) hx hb dX7_offset_13 (by decide) ?_
    refine lv_bipush (v := 12) hx hb dX7_offset_15 (by decide) ?_
    refine ro_callS MC HS (rest := [.ref (ad 11)]) (As := [.int b, .int (-11), .int 12]) (m_isIn l D ids n0 b (-11) 12) (lkX7_72) (kw701) ⟨Nat.le_of_ble_eq_true rfl, Nat.le_of_ble_eq_true rfl⟩ hl.1 rfl (Nat.le_of_ble_eq_true rfl) dX7_offset_17 ⟨Nat.le_of_ble_eq_true rfl, Nat.le_of_ble_eq_true rfl⟩ (fun v9 H2 lH2 hp hz HS => ?_)
    obtain ⟨rfl, rfl⟩ := hp
    refine lv_if_eq (tgt := 27) hx hb dX7_offset_20 (by decide) (fun c_20 => ?_) (fun c_20 => ?_)
    · have f_20 := bI_0.mp c_20
      refine lv_iconst (v := 2) hx hb dX7_offset_27 (by decide) ?_
      refine mo_put MC hw HS 0 (by decide) kw618 rfl rfl rfl τ 2 rfl (fun _ _ => rfl) dX7_offset_28 (fun H3 lH3 hw HS => ?_)
      refine lv_aload_n hx hb dX7_offset_31 rfl (lv_at hl 0 rfl) ?_
      refine mo_get MC hw 0 (by decide) kw618 rfl rfl dX7_offset_32 ?_
      refine lv_if_le (tgt := 40) hx hb dX7_offset_35 (by decide) (fun c_35 => absurd c_35 (by decide)) (fun c_35 => ?_)
      refine lv_iconst (v := 0) hx hb dX7_offset_38 (by decide) ?_
      have hth : th_offset τ a b = 2 := ax_offset_0 f_5 f_20
      exact ro_iretM MC HS hr ⟨_, rfl, by rw [hth, if_neg (by decide)]; exact hw, fun h0 => absurd (hth.symm.trans h0) (by decide)⟩ (Nat.le_refl _) (Nat.le_refl _) dX7_offset_39
    · have f_20 := bI_n0.mp c_20
      refine lv_iconst (v := 0) hx hb dX7_offset_23 (by decide) ?_
      refine lv_goto (tgt := 28) hx hb dX7_offset_24 (by decide) ?_
      refine mo_put MC hw HS 0 (by decide) kw618 rfl rfl rfl τ 0 rfl (fun _ _ => rfl) dX7_offset_28 (fun H4 lH4 hw HS => ?_)
      refine lv_aload_n hx hb dX7_offset_31 rfl (lv_at hl 0 rfl) ?_
      refine mo_get MC hw 0 (by decide) kw618 rfl rfl dX7_offset_32 ?_
      refine lv_if_le (tgt := 40) hx hb dX7_offset_35 (by decide) (fun c_35 => ?_) (fun c_35 => absurd c_35 (by decide))
      refine lv_aload_n hx hb dX7_offset_40 rfl (lv_at hl 0 rfl) ?_
      refine mo_get MC hw 4 (by decide) kw622 rfl rfl dX7_offset_41 ?_
      refine lv_iload_n hx hb dX7_offset_44 rfl (lv_at hl 1 rfl) ?_
      refine mo_iald MC hw 2 (by decide) (by decide) rfl ka (show ka < 4 by omega) haa dX7_offset_45 ?_
      refine lv_istore_n (lv' := [(3, .int (τ 2 ka)), (0, .ref (ad 11)), (1, .int a), (2, .int b)]) hx hb dX7_offset_46 rfl hl (by decide) rfl (fun ls hl => ?_)
      refine lv_aload_n hx hb dX7_offset_47 rfl (lv_at hl 1 rfl) ?_
      refine mo_get MC hw 4 (by decide) kw622 rfl rfl dX7_offset_48 ?_
      refine lv_iload_n hx hb dX7_offset_51 rfl (lv_at hl 2 rfl) ?_
      refine lv_iload_n hx hb dX7_offset_52 rfl (lv_at hl 3 rfl) ?_
      refine mo_iast MC hw HS 2 (by decide) (by decide) rfl ka (show ka < 4 by omega) haa dX7_offset_53 (fun H5 lH5 hw HS => ?_)
      refine lv_iload_n hx hb dX7_offset_54 rfl (lv_at hl 0 rfl) ?_
      have hth : th_offset τ a b = 0 := ax_offset_1 f_5 f_20
      have hnx : nx_offset τ a b = (ti τ 2 ka b) := by simp only [nx_offset, hcc]
      exact ro_iretM MC HS hr ⟨_, rfl, by rw [hth, if_pos rfl, hnx]; exact hw, fun _ => by show τ 2 ka = rt_offset τ a b; simp only [rt_offset, hcc]⟩ (Nat.le_refl _) (Nat.le_refl _) dX7_offset_55
  · have f_5 := bI_0.mp c_5
    refine lv_iconst (v := 1) hx hb dX7_offset_8 (by decide) ?_
    refine lv_goto (tgt := 28) hx hb dX7_offset_9 (by decide) ?_
    refine mo_put MC hw HS 0 (by decide) kw618 rfl rfl rfl τ 1 rfl (fun _ _ => rfl) dX7_offset_28 (fun H6 lH6 hw HS => ?_)
    refine lv_aload_n hx hb dX7_offset_31 rfl (lv_at hl 0 rfl) ?_
    refine mo_get MC hw 0 (by decide) kw618 rfl rfl dX7_offset_32 ?_
    refine lv_if_le (tgt := 40) hx hb dX7_offset_35 (by decide) (fun c_35 => absurd c_35 (by decide)) (fun c_35 => ?_)
    refine lv_iconst (v := 0) hx hb dX7_offset_38 (by decide) ?_
    have hth : th_offset τ a b = 1 := ax_offset_2 f_5
    exact ro_iretM MC HS hr ⟨_, rfl, by rw [hth, if_neg (by decide)]; exact hw, fun h0 => absurd (hth.symm.trans h0) (by decide)⟩ (Nat.le_refl _) (Nat.le_refl _) dX7_offset_39
set_option maxHeartbeats 4000000 in
set_option maxRecDepth 100000 in
theorem m_feast {l : Launch} {D : va_G} {ids : Nat → ClassId} {n0 : Nat} {RR : List Nat} {ad : Nat → Nat} {τ : Tau} {th : Int32} {fr : Nat → va_E} {Hh : Heap} (hw : sM D ids n0 RR ad τ th fr Hh) {nw ns nl nc : Nat} (hI : Iv τ nw ns nl nc) (a : Int32) (d9 : Int32) : ro_M l yX7_feast cX7_feast 4 (some FieldType.boolean) { frames := 2, cells := 0, slots := 0, locals := 60 } D ids n0 [.ref (ad 11), .int a, .int d9] Hh (fun v9 H1 => ∃ rz, v9 = some (.int rz) ∧ sM D ids n0 RR ad (if th_feast τ a d9 = 0 then nx_feast τ a d9 else τ) (th_feast τ a d9) fr H1 ∧ (th_feast τ a d9 = 0 → rz = rt_feast τ a d9)) := by
  refine ro_ofM (by decide +kernel) (Nat.le_of_ble_eq_true rfl) ?_
  intro p e s m below meth c MC hhp hr hnm HS ls hl
  have hx := MC.1.1
  have hb := MC.1.2.1
  have hl : lv_has ls 4 [(0, .ref (ad 11)), (1, .int a), (2, .int d9)] := hl
  refine lv_aload_n hx hb dX7_feast_0 rfl (lv_at hl 0 rfl) ?_
  refine lv_iload_n hx hb dX7_feast_1 rfl (lv_at hl 1 rfl) ?_
  refine ro_callS MC HS (rest := [.ref (ad 11)]) (As := [.int a]) (m_isLand l D ids n0 a) (lkX7_80) (kw708) ⟨Nat.le_of_ble_eq_true rfl, Nat.le_of_ble_eq_true rfl⟩ hl.1 rfl (Nat.le_of_ble_eq_true rfl) dX7_feast_2 ⟨Nat.le_of_ble_eq_true rfl, Nat.le_of_ble_eq_true rfl⟩ (fun v9 H1 lH1 hp hz HS => ?_)
  obtain ⟨rfl, rfl⟩ := hp
  refine lv_if_ne (tgt := 12) hx hb dX7_feast_5 (by decide) (fun c_5 => ?_) (fun c_5 => ?_)
  · have f_5 := bI_n0.mp c_5
    obtain ⟨ka, hka, haa, hcc⟩ := okL.ix f_5
    refine lv_iload_n hx hb dX7_feast_12 rfl (lv_at hl 2 rfl) ?_
    refine lv_iconst (v := (-1)) hx hb dX7_feast_13 (by decide) ?_
    refine lv_bipush (v := 28) hx hb dX7_feast_14 (by decide) ?_
    refine ro_callS MC HS (rest := [.ref (ad 11)]) (As := [.int d9, .int (-1), .int 28]) (m_isIn l D ids n0 d9 (-1) 28) (lkX7_72) (kw701) ⟨Nat.le_of_ble_eq_true rfl, Nat.le_of_ble_eq_true rfl⟩ hl.1 rfl (Nat.le_of_ble_eq_true rfl) dX7_feast_16 ⟨Nat.le_of_ble_eq_true rfl, Nat.le_of_ble_eq_true rfl⟩ (fun v9 H2 lH2 hp hz HS => ?_)
    obtain ⟨rfl, rfl⟩ := hp
    refine lv_if_eq (tgt := 26) hx hb dX7_feast_19 (by decide) (fun c_19 => ?_) (fun c_19 => ?_)
    · have f_19 := bI_0.mp c_19
      refine lv_iconst (v := 2) hx hb dX7_feast_26 (by decide) ?_
      refine mo_put MC hw HS 0 (by decide) kw618 rfl rfl rfl τ 2 rfl (fun _ _ => rfl) dX7_feast_27 (fun H3 lH3 hw HS => ?_)
      refine lv_aload_n hx hb dX7_feast_30 rfl (lv_at hl 0 rfl) ?_
      refine mo_get MC hw 0 (by decide) kw618 rfl rfl dX7_feast_31 ?_
      refine lv_if_le (tgt := 39) hx hb dX7_feast_34 (by decide) (fun c_34 => absurd c_34 (by decide)) (fun c_34 => ?_)
      refine lv_iconst (v := 0) hx hb dX7_feast_37 (by decide) ?_
      have hth : th_feast τ a d9 = 2 := ax_feast_0 f_5 f_19
      exact ro_zretM MC HS hr (by first | rfl | exact bI_nar) ⟨_, rfl, by rw [hth, if_neg (by decide)]; exact hw, fun h0 => absurd (hth.symm.trans h0) (by decide)⟩ (Nat.le_refl _) (Nat.le_refl _) dX7_feast_38
    · have f_19 := bI_n0.mp c_19
      obtain ⟨ke, hke, hfe, hfi, hfx⟩ := fd_ix haa hka f_19
      refine lv_iconst (v := 0) hx hb dX7_feast_22 (by decide) ?_
      refine lv_goto (tgt := 27) hx hb dX7_feast_23 (by decide) ?_
      refine mo_put MC hw HS 0 (by decide) kw618 rfl rfl rfl τ 0 rfl (fun _ _ => rfl) dX7_feast_27 (fun H4 lH4 hw HS => ?_)
      refine lv_aload_n hx hb dX7_feast_30 rfl (lv_at hl 0 rfl) ?_
      refine mo_get MC hw 0 (by decide) kw618 rfl rfl dX7_feast_31 ?_
      refine lv_if_le (tgt := 39) hx hb dX7_feast_34 (by decide) (fun c_34 => ?_) (fun c_34 => absurd c_34 (by decide))
      refine lv_bipush (v := 30) hx hb dX7_feast_39 (by decide) ?_
      refine lv_iload_n hx hb dX7_feast_41 rfl (lv_at hl 1 rfl) ?_
      refine lv_imul hx hb dX7_feast_42 ?_
      refine lv_iload_n hx hb dX7_feast_43 rfl (lv_at hl 2 rfl) ?_
      refine lv_iadd hx hb dX7_feast_44 ?_
      refine lv_iconst (v := 1) hx hb dX7_feast_45 (by decide) ?_
      refine lv_iadd hx hb dX7_feast_46 ?_
      refine lv_istore_n (lv' := [(3, .int ((((30 * a) + d9) + 1))), (0, .ref (ad 11)), (1, .int a), (2, .int d9)]) hx hb dX7_feast_47 rfl hl (by decide) rfl (fun ls hl => ?_)
      refine lv_aload_n hx hb dX7_feast_48 rfl (lv_at hl 1 rfl) ?_
      refine mo_get MC hw 5 (by decide) kw623 rfl rfl dX7_feast_49 ?_
      refine lv_iload_n hx hb dX7_feast_52 rfl (lv_at hl 0 rfl) ?_
      refine lv_aload_n hx hb dX7_feast_53 rfl (lv_at hl 1 rfl) ?_
      refine mo_get MC hw 5 (by decide) kw623 rfl rfl dX7_feast_54 ?_
      refine lv_iload_n hx hb dX7_feast_57 rfl (lv_at hl 0 rfl) ?_
      refine mo_zald MC hw 3 (by decide) (by decide) rfl (30 * ka + ke) (show 30 * ka + ke < 120 by omega) hfi dX7_feast_58 ?_
      refine lv_if_ne (tgt := 66) hx hb dX7_feast_59 (by decide) (fun c_59 => ?_) (fun c_59 => ?_)
      · refine lv_iconst (v := 0) hx hb dX7_feast_66 (by decide) ?_
        refine mo_zast MC hw HS 3 (by decide) (by decide) rfl (30 * ka + ke) (show 30 * ka + ke < 120 by omega) hfi rfl dX7_feast_67 (fun H5 lH5 hw HS => ?_)
        refine lv_aload_n hx hb dX7_feast_68 rfl (lv_at hl 1 rfl) ?_
        refine mo_get MC hw 5 (by decide) kw623 rfl rfl dX7_feast_69 ?_
        refine lv_iload_n hx hb dX7_feast_72 rfl (lv_at hl 0 rfl) ?_
        refine mo_zald MC hw 3 (by decide) (by decide) rfl (30 * ka + ke) (show 30 * ka + ke < 120 by omega) hfi dX7_feast_73 ?_
        refine lv_topi (fun y6 ey6 => ?_)
        obtain rfl : y6 = 0 := ey6.trans (by simp [va_up, upd])
        have hth : th_feast τ a d9 = 0 := ax_feast_1 f_5 f_19
        have hnx : nx_feast τ a d9 = (ti τ 3 (30 * ka + ke) 0) := by simp only [nx_feast, hfx]; first | rw [bI_t c_59] | rw [bI_f c_59]
        exact ro_zretM MC HS hr (by first | rfl | exact bI_nar) ⟨_, rfl, by rw [hth, if_pos rfl, hnx]; exact hw, fun _ => by simp only [rt_feast, hfx]; first | rw [bI_t c_59] | rw [bI_f c_59]⟩ (Nat.le_refl _) (Nat.le_refl _) dX7_feast_74
      · refine lv_iconst (v := 1) hx hb dX7_feast_62 (by decide) ?_
        refine lv_goto (tgt := 67) hx hb dX7_feast_63 (by decide) ?_
        refine mo_zast MC hw HS 3 (by decide) (by decide) rfl (30 * ka + ke) (show 30 * ka + ke < 120 by omega) hfi rfl dX7_feast_67 (fun H7 lH7 hw HS => ?_)
        refine lv_aload_n hx hb dX7_feast_68 rfl (lv_at hl 1 rfl) ?_
        refine mo_get MC hw 5 (by decide) kw623 rfl rfl dX7_feast_69 ?_
        refine lv_iload_n hx hb dX7_feast_72 rfl (lv_at hl 0 rfl) ?_
        refine mo_zald MC hw 3 (by decide) (by decide) rfl (30 * ka + ke) (show 30 * ka + ke < 120 by omega) hfi dX7_feast_73 ?_
        refine lv_topi (fun y8 ey8 => ?_)
        obtain rfl : y8 = 1 := ey8.trans (by simp [va_up, upd])
        have hth : th_feast τ a d9 = 0 := ax_feast_2 f_5 f_19
        have hnx : nx_feast τ a d9 = (ti τ 3 (30 * ka + ke) 1) := by simp only [nx_feast, hfx]; first | rw [bI_t c_59] | rw [bI_f c_59]
        exact ro_zretM MC HS hr (by first | rfl | exact bI_nar) ⟨_, rfl, by rw [hth, if_pos rfl, hnx]; exact hw, fun _ => by simp only [rt_feast, hfx]; first | rw [bI_t c_59] | rw [bI_f c_59]⟩ (Nat.le_refl _) (Nat.le_refl _) dX7_feast_74
  · have f_5 := bI_0.mp c_5
    refine lv_iconst (v := 1) hx hb dX7_feast_8 (by decide) ?_
    refine lv_goto (tgt := 27) hx hb dX7_feast_9 (by decide) ?_
    refine mo_put MC hw HS 0 (by decide) kw618 rfl rfl rfl τ 1 rfl (fun _ _ => rfl) dX7_feast_27 (fun H9 lH9 hw HS => ?_)
    refine lv_aload_n hx hb dX7_feast_30 rfl (lv_at hl 0 rfl) ?_
    refine mo_get MC hw 0 (by decide) kw618 rfl rfl dX7_feast_31 ?_
    refine lv_if_le (tgt := 39) hx hb dX7_feast_34 (by decide) (fun c_34 => absurd c_34 (by decide)) (fun c_34 => ?_)
    refine lv_iconst (v := 0) hx hb dX7_feast_37 (by decide) ?_
    have hth : th_feast τ a d9 = 1 := ax_feast_3 f_5
    exact ro_zretM MC HS hr (by first | rfl | exact bI_nar) ⟨_, rfl, by rw [hth, if_neg (by decide)]; exact hw, fun h0 => absurd (hth.symm.trans h0) (by decide)⟩ (Nat.le_refl _) (Nat.le_refl _) dX7_feast_38
set_option maxHeartbeats 4000000 in
set_option maxRecDepth 100000 in
theorem m_pass {l : Launch} {D : va_G} {ids : Nat → ClassId} {n0 : Nat} {RR : List Nat} {ad : Nat → Nat} {τ : Tau} {th : Int32} {fr : Nat → va_E} {Hh : Heap} (hw : sM D ids n0 RR ad τ th fr Hh) {nw ns nl nc : Nat} (hI : Iv τ nw ns nl nc) (h : Int32) : ro_M l yX7_pass cX7_pass 2 (some FieldType.int) { frames := 1, cells := 0, slots := 0, locals := 30 } D ids n0 [.ref (ad 11), .int h] Hh (fun v9 H1 => ∃ rz, v9 = some (.int rz) ∧ sM D ids n0 RR ad (if th_pass τ h = 0 then nx_pass τ h else τ) (th_pass τ h) fr H1 ∧ (th_pass τ h = 0 → rz = rt_pass τ h)) := by
  refine ro_ofM (by decide +kernel) (Nat.le_of_ble_eq_true rfl) ?_
  intro p e s m below meth c MC hhp hr hnm HS ls hl
  have hx := MC.1.1
  have hb := MC.1.2.1
  have hl : lv_has ls 2 [(0, .ref (ad 11)), (1, .int h)] := hl
  refine lv_aload_n hx hb dX7_pass_0 rfl (lv_at hl 0 rfl) ?_
  refine lv_iload_n hx hb dX7_pass_1 rfl (lv_at hl 1 rfl) ?_
  refine lv_iconst (v := 1) hx hb dX7_pass_2 (by decide) ?_
  refine lv_bipush (v := 100) hx hb dX7_pass_3 (by decide) ?_
  refine ro_callS MC HS (rest := [.ref (ad 11)]) (As := [.int h, .int 1, .int 100]) (m_isIn l D ids n0 h 1 100) (lkX7_72) (kw701) ⟨Nat.le_of_ble_eq_true rfl, Nat.le_of_ble_eq_true rfl⟩ hl.1 rfl (Nat.le_of_ble_eq_true rfl) dX7_pass_5 ⟨Nat.le_of_ble_eq_true rfl, Nat.le_of_ble_eq_true rfl⟩ (fun v9 H1 lH1 hp hz HS => ?_)
  obtain ⟨rfl, rfl⟩ := hp
  refine lv_if_ne (tgt := 15) hx hb dX7_pass_8 (by decide) (fun c_8 => ?_) (fun c_8 => ?_)
  · have f_8 := bI_n0.mp c_8
    refine lv_aload_n hx hb dX7_pass_15 rfl (lv_at hl 0 rfl) ?_
    refine mo_get MC hw 1 (by decide) kw619 rfl rfl dX7_pass_16 ?_
    refine lv_iload_n hx hb dX7_pass_19 rfl (lv_at hl 1 rfl) ?_
    refine lv_iadd hx hb dX7_pass_20 ?_
    refine lv_sipush (v := 672) hx hb dX7_pass_21 (by decide) ?_
    refine lv_icmp_lt (tgt := 31) hx hb dX7_pass_24 (by decide) (fun c_24 => ?_) (fun c_24 => ?_)
    · refine lv_iconst (v := 0) hx hb dX7_pass_31 (by decide) ?_
      refine mo_put MC hw HS 0 (by decide) kw618 rfl rfl rfl τ 0 rfl (fun _ _ => rfl) dX7_pass_32 (fun H2 lH2 hw HS => ?_)
      refine lv_aload_n hx hb dX7_pass_35 rfl (lv_at hl 0 rfl) ?_
      refine lv_dup hx hb dX7_pass_36 rfl ?_
      refine mo_get MC hw 1 (by decide) kw619 rfl rfl dX7_pass_37 ?_
      refine lv_aload_n hx hb dX7_pass_40 rfl (lv_at hl 0 rfl) ?_
      refine mo_get MC hw 0 (by decide) kw618 rfl rfl dX7_pass_41 ?_
      refine lv_if_le (tgt := 51) hx hb dX7_pass_44 (by decide) (fun c_44 => ?_) (fun c_44 => absurd c_44 (by decide))
      refine lv_iload_n hx hb dX7_pass_51 rfl (lv_at hl 1 rfl) ?_
      refine lv_iadd hx hb dX7_pass_52 ?_
      refine mo_put MC hw HS 1 (by decide) kw619 rfl rfl rfl (t0 τ 0 (τ 0 0 + h)) 0 rfl (fun i h => va_up_ne _ _ (by omega)) dX7_pass_53 (fun H3 lH3 hw HS => ?_)
      refine lv_aload_n hx hb dX7_pass_56 rfl (lv_at hl 0 rfl) ?_
      refine mo_get MC hw 1 (by decide) kw619 rfl rfl dX7_pass_57 ?_
      have hth : th_pass τ h = 0 := ax_pass_0 f_8 c_24
      have hnx : nx_pass τ h = (t0 τ 0 (τ 0 0 + h)) := by simp only [nx_pass]
      exact ro_iretM MC HS hr ⟨_, rfl, by rw [hth, if_pos rfl, hnx]; exact hw, fun _ => by show (τ 0 0 + h) = rt_pass τ h; simp only [rt_pass]⟩ (Nat.le_refl _) (Nat.le_refl _) dX7_pass_60
    · refine lv_iconst (v := 2) hx hb dX7_pass_27 (by decide) ?_
      refine lv_goto (tgt := 32) hx hb dX7_pass_28 (by decide) ?_
      refine mo_put MC hw HS 0 (by decide) kw618 rfl rfl rfl τ 2 rfl (fun _ _ => rfl) dX7_pass_32 (fun H4 lH4 hw HS => ?_)
      refine lv_aload_n hx hb dX7_pass_35 rfl (lv_at hl 0 rfl) ?_
      refine lv_dup hx hb dX7_pass_36 rfl ?_
      refine mo_get MC hw 1 (by decide) kw619 rfl rfl dX7_pass_37 ?_
      refine lv_aload_n hx hb dX7_pass_40 rfl (lv_at hl 0 rfl) ?_
      refine mo_get MC hw 0 (by decide) kw618 rfl rfl dX7_pass_41 ?_
      refine lv_if_le (tgt := 51) hx hb dX7_pass_44 (by decide) (fun c_44 => absurd c_44 (by decide)) (fun c_44 => ?_)
      refine lv_iconst (v := 0) hx hb dX7_pass_47 (by decide) ?_
      refine lv_goto (tgt := 52) hx hb dX7_pass_48 (by decide) ?_
      refine lv_iadd hx hb dX7_pass_52 ?_
      refine mo_put MC hw HS 1 (by decide) kw619 rfl rfl rfl (t0 τ 0 (τ 0 0 + 0)) 2 rfl (fun i h => va_up_ne _ _ (by omega)) dX7_pass_53 (fun H5 lH5 hw HS => ?_)
      refine lv_aload_n hx hb dX7_pass_56 rfl (lv_at hl 0 rfl) ?_
      refine mo_get MC hw 1 (by decide) kw619 rfl rfl dX7_pass_57 ?_
      have hth : th_pass τ h = 2 := ax_pass_1 f_8 c_24
      have hsm : (t0 τ 0 (τ 0 0 + 0)) = τ := by rw [show τ 0 0 + 0 = τ 0 0 from by lia]; exact t0_self τ 0
      rw [hsm] at hw
      exact ro_iretM MC HS hr ⟨_, rfl, by rw [hth, if_neg (by decide)]; exact hw, fun h0 => absurd (hth.symm.trans h0) (by decide)⟩ (Nat.le_refl _) (Nat.le_refl _) dX7_pass_60
  · have f_8 := bI_0.mp c_8
    refine lv_iconst (v := 1) hx hb dX7_pass_11 (by decide) ?_
    refine lv_goto (tgt := 32) hx hb dX7_pass_12 (by decide) ?_
    refine mo_put MC hw HS 0 (by decide) kw618 rfl rfl rfl τ 1 rfl (fun _ _ => rfl) dX7_pass_32 (fun H6 lH6 hw HS => ?_)
    refine lv_aload_n hx hb dX7_pass_35 rfl (lv_at hl 0 rfl) ?_
    refine lv_dup hx hb dX7_pass_36 rfl ?_
    refine mo_get MC hw 1 (by decide) kw619 rfl rfl dX7_pass_37 ?_
    refine lv_aload_n hx hb dX7_pass_40 rfl (lv_at hl 0 rfl) ?_
    refine mo_get MC hw 0 (by decide) kw618 rfl rfl dX7_pass_41 ?_
    refine lv_if_le (tgt := 51) hx hb dX7_pass_44 (by decide) (fun c_44 => absurd c_44 (by decide)) (fun c_44 => ?_)
    refine lv_iconst (v := 0) hx hb dX7_pass_47 (by decide) ?_
    refine lv_goto (tgt := 52) hx hb dX7_pass_48 (by decide) ?_
    refine lv_iadd hx hb dX7_pass_52 ?_
    refine mo_put MC hw HS 1 (by decide) kw619 rfl rfl rfl (t0 τ 0 (τ 0 0 + 0)) 1 rfl (fun i h => va_up_ne _ _ (by omega)) dX7_pass_53 (fun H7 lH7 hw HS => ?_)
    refine lv_aload_n hx hb dX7_pass_56 rfl (lv_at hl 0 rfl) ?_
    refine mo_get MC hw 1 (by decide) kw619 rfl rfl dX7_pass_57 ?_
    have hth : th_pass τ h = 1 := ax_pass_2 f_8
    have hsm : (t0 τ 0 (τ 0 0 + 0)) = τ := by rw [show τ 0 0 + 0 = τ 0 0 from by lia]; exact t0_self τ 0
    rw [hsm] at hw
    exact ro_iretM MC HS hr ⟨_, rfl, by rw [hth, if_neg (by decide)]; exact hw, fun h0 => absurd (hth.symm.trans h0) (by decide)⟩ (Nat.le_refl _) (Nat.le_refl _) dX7_pass_60
set_option maxHeartbeats 4000000 in
set_option maxRecDepth 100000 in
theorem m_now {l : Launch} {D : va_G} {ids : Nat → ClassId} {n0 : Nat} {RR : List Nat} {ad : Nat → Nat} {τ : Tau} {th : Int32} {fr : Nat → va_E} {Hh : Heap} (hw : sM D ids n0 RR ad τ th fr Hh)  : ro_M l yX7_now cX7_now 1 (some FieldType.int) { frames := 0, cells := 0, slots := 0, locals := 0 } D ids n0 [.ref (ad 11)] Hh (fun v H1 => v = some (.int (τ 0 0)) ∧ sM D ids n0 RR ad τ 0 fr H1) := by
  refine ro_ofM (by decide +kernel) (Nat.le_of_ble_eq_true rfl) ?_
  intro p e s m below meth c MC hhp hr hnm HS ls hl
  have hx := MC.1.1
  have hb := MC.1.2.1
  have hl : lv_has ls 1 [(0, .ref (ad 11))] := hl
  refine lv_aload_n hx hb dX7_now_0 rfl (lv_at hl 0 rfl) ?_
  refine lv_iconst (v := 0) hx hb dX7_now_1 (by decide) ?_
  refine mo_put MC hw HS 0 (by decide) kw618 rfl rfl rfl τ 0 rfl (fun _ _ => rfl) dX7_now_2 (fun H1 lH1 hw HS => ?_)
  refine lv_aload_n hx hb dX7_now_5 rfl (lv_at hl 0 rfl) ?_
  refine mo_get MC hw 1 (by decide) kw619 rfl rfl dX7_now_6 ?_
  exact ro_iretM MC HS hr (⟨rfl, hw⟩) (Nat.le_refl _) (Nat.le_refl _) dX7_now_9
set_option maxHeartbeats 4000000 in
set_option maxRecDepth 100000 in
theorem m_lays {l : Launch} {D : va_G} {ids : Nat → ClassId} {n0 : Nat} {RR : List Nat} {ad : Nat → Nat} {τ : Tau} {th : Int32} {fr : Nat → va_E} {Hh : Heap} (hw : sM D ids n0 RR ad τ th fr Hh) {nw ns nl nc : Nat} (hI : Iv τ nw ns nl nc) (a1 : Int32) (a2 : Int32) (a3 : Int32) (a4 : Int32) (a5 : Int32) (a6 : Int32) (hnl : nl < 20) : ro_M l yX7_lays cX7_lays 7 (some FieldType.int) { frames := 0, cells := 0, slots := 0, locals := 0 } D ids n0 [.ref (ad 11), .int a1, .int a2, .int a3, .int a4, .int a5, .int a6] Hh (fun v H1 => v = some (.int (τ 0 2)) ∧ sM D ids n0 RR ad (nx_lays τ a1 a2 a3 a4 a5 a6) th fr H1) := by
  refine ro_ofM (by decide +kernel) (Nat.le_of_ble_eq_true rfl) ?_
  intro p e s m below meth c MC hhp hr hnm HS ls hl
  have hx := MC.1.1
  have hb := MC.1.2.1
  have hl : lv_has ls 7 [(0, .ref (ad 11)), (1, .int a1), (2, .int a2), (3, .int a3), (4, .int a4), (5, .int a5), (6, .int a6)] := hl
  refine lv_aload_n hx hb dX7_lays_0 rfl (lv_at hl 0 rfl) ?_
  refine mo_get MC hw 8 (by decide) kw626 rfl rfl dX7_lays_1 ?_
  refine lv_aload_n hx hb dX7_lays_4 rfl (lv_at hl 0 rfl) ?_
  refine mo_get MC hw 6 (by decide) kw624 rfl rfl dX7_lays_5 ?_
  refine lv_iload_n hx hb dX7_lays_8 rfl (lv_at hl 1 rfl) ?_
  refine mo_iast MC hw HS 5 (by decide) (by decide) rfl nl (show nl < 20 by omega) hI.2.2.1.1 dX7_lays_9 (fun H1 lH1 hw HS => ?_)
  refine lv_aload_n hx hb dX7_lays_10 rfl (lv_at hl 0 rfl) ?_
  refine mo_get MC hw 9 (by decide) kw627 rfl rfl dX7_lays_11 ?_
  refine lv_aload_n hx hb dX7_lays_14 rfl (lv_at hl 0 rfl) ?_
  refine mo_get MC hw 6 (by decide) kw624 rfl rfl dX7_lays_15 ?_
  refine lv_iload_n hx hb dX7_lays_18 rfl (lv_at hl 2 rfl) ?_
  refine mo_iast MC hw HS 6 (by decide) (by decide) rfl nl (show nl < 20 by omega) hI.2.2.1.1 dX7_lays_19 (fun H2 lH2 hw HS => ?_)
  refine lv_aload_n hx hb dX7_lays_20 rfl (lv_at hl 0 rfl) ?_
  refine mo_get MC hw 10 (by decide) kw628 rfl rfl dX7_lays_21 ?_
  refine lv_aload_n hx hb dX7_lays_24 rfl (lv_at hl 0 rfl) ?_
  refine mo_get MC hw 6 (by decide) kw624 rfl rfl dX7_lays_25 ?_
  refine lv_iload_n hx hb dX7_lays_28 rfl (lv_at hl 3 rfl) ?_
  refine mo_iast MC hw HS 7 (by decide) (by decide) rfl nl (show nl < 20 by omega) hI.2.2.1.1 dX7_lays_29 (fun H3 lH3 hw HS => ?_)
  refine lv_aload_n hx hb dX7_lays_30 rfl (lv_at hl 0 rfl) ?_
  refine mo_get MC hw 11 (by decide) kw629 rfl rfl dX7_lays_31 ?_
  refine lv_aload_n hx hb dX7_lays_34 rfl (lv_at hl 0 rfl) ?_
  refine mo_get MC hw 6 (by decide) kw624 rfl rfl dX7_lays_35 ?_
  refine lv_iload hx hb dX7_lays_38 (lv_at hl 4 rfl) ?_
  refine mo_iast MC hw HS 8 (by decide) (by decide) rfl nl (show nl < 20 by omega) hI.2.2.1.1 dX7_lays_40 (fun H4 lH4 hw HS => ?_)
  refine lv_aload_n hx hb dX7_lays_41 rfl (lv_at hl 0 rfl) ?_
  refine mo_get MC hw 12 (by decide) kw630 rfl rfl dX7_lays_42 ?_
  refine lv_aload_n hx hb dX7_lays_45 rfl (lv_at hl 0 rfl) ?_
  refine mo_get MC hw 6 (by decide) kw624 rfl rfl dX7_lays_46 ?_
  refine lv_iload hx hb dX7_lays_49 (lv_at hl 5 rfl) ?_
  refine mo_iast MC hw HS 9 (by decide) (by decide) rfl nl (show nl < 20 by omega) hI.2.2.1.1 dX7_lays_51 (fun H5 lH5 hw HS => ?_)
  refine lv_aload_n hx hb dX7_lays_52 rfl (lv_at hl 0 rfl) ?_
  refine mo_get MC hw 13 (by decide) kw631 rfl rfl dX7_lays_53 ?_
  refine lv_aload_n hx hb dX7_lays_56 rfl (lv_at hl 0 rfl) ?_
  refine mo_get MC hw 6 (by decide) kw624 rfl rfl dX7_lays_57 ?_
  refine lv_iload hx hb dX7_lays_60 (lv_at hl 6 rfl) ?_
  refine mo_iast MC hw HS 10 (by decide) (by decide) rfl nl (show nl < 20 by omega) hI.2.2.1.1 dX7_lays_62 (fun H6 lH6 hw HS => ?_)
  refine lv_aload_n hx hb dX7_lays_63 rfl (lv_at hl 0 rfl) ?_
  refine lv_dup hx hb dX7_lays_64 rfl ?_
  refine mo_get MC hw 6 (by decide) kw624 rfl rfl dX7_lays_65 ?_
  refine lv_iconst (v := 1) hx hb dX7_lays_68 (by decide) ?_
  refine lv_iadd hx hb dX7_lays_69 ?_
  refine mo_put MC hw HS 6 (by decide) kw624 rfl rfl rfl (t0 (ti (ti (ti (ti (ti (ti τ 5 nl a1) 6 nl a2) 7 nl a3) 8 nl a4) 9 nl a5) 10 nl a6) 2 (τ 0 2 + 1)) th rfl (fun i h => va_up_ne _ _ (by omega)) dX7_lays_70 (fun H7 lH7 hw HS => ?_)
  refine lv_aload_n hx hb dX7_lays_73 rfl (lv_at hl 0 rfl) ?_
  refine mo_get MC hw 6 (by decide) kw624 rfl rfl dX7_lays_74 ?_
  refine lv_iconst (v := 1) hx hb dX7_lays_77 (by decide) ?_
  refine lv_isub hx hb dX7_lays_78 ?_
  have hcs : cx (τ 0 2) = nl := by rw [hI.2.2.1.1]; exact cx_nI (by omega)
  exact ro_iretM MC HS hr (⟨by show some (Value.int (τ 0 2 + 1 - 1)) = _; congr 2; lia, by unfold nx_lays; rw [hcs]; exact hw⟩) (Nat.le_refl _) (Nat.le_refl _) dX7_lays_79
set_option maxHeartbeats 4000000 in
set_option maxRecDepth 100000 in
theorem m_once {l : Launch} {D : va_G} {ids : Nat → ClassId} {n0 : Nat} {RR : List Nat} {ad : Nat → Nat} {τ : Tau} {th : Int32} {fr : Nat → va_E} {Hh : Heap} (hw : sM D ids n0 RR ad τ th fr Hh) {nw ns nl nc : Nat} (hI : Iv τ nw ns nl nc) (s9 : Int32) (f : Int32) (t : Int32) (r : Int32) : ro_M l yX7_once cX7_once 6 (some FieldType.int) { frames := 2, cells := 0, slots := 0, locals := 60 } D ids n0 [.ref (ad 11), .int s9, .int f, .int t, .int r] Hh (fun v9 H1 => ∃ rz, v9 = some (.int rz) ∧ sM D ids n0 RR ad (if th_once τ s9 f t r = 0 then nx_once τ s9 f t r else τ) (th_once τ s9 f t r) fr H1 ∧ (th_once τ s9 f t r = 0 → rz = rt_once τ s9 f t r)) := by
  refine ro_ofM (by decide +kernel) (Nat.le_of_ble_eq_true rfl) ?_
  intro p e s m below meth c MC hhp hr hnm HS ls hl
  have hx := MC.1.1
  have hb := MC.1.2.1
  have hl : lv_has ls 6 [(0, .ref (ad 11)), (1, .int s9), (2, .int f), (3, .int t), (4, .int r)] := hl
  refine lv_iload_n hx hb dX7_once_0 rfl (lv_at hl 2 rfl) ?_
  refine lv_iconst (v := 0) hx hb dX7_once_1 (by decide) ?_
  refine lv_sipush (v := 671) hx hb dX7_once_2 (by decide) ?_
  refine ro_callS MC HS (rest := []) (As := [.int f, .int 0, .int 671]) (m_isIn l D ids n0 f 0 671) (lkX7_72) (kw701) ⟨Nat.le_of_ble_eq_true rfl, Nat.le_of_ble_eq_true rfl⟩ hl.1 rfl (Nat.le_of_ble_eq_true rfl) dX7_once_5 ⟨Nat.le_of_ble_eq_true rfl, Nat.le_of_ble_eq_true rfl⟩ (fun v9 H1 lH1 hp hz HS => ?_)
  obtain ⟨rfl, rfl⟩ := hp
  refine lv_if_eq (tgt := 37) hx hb dX7_once_8 (by decide) (fun c_8 => ?_) (fun c_8 => ?_)
  · have f_8 := bI_0.mp c_8
    refine lv_iconst (v := 0) hx hb dX7_once_37 (by decide) ?_
    refine lv_istore (lv' := [(5, .int 0), (0, .ref (ad 11)), (1, .int s9), (2, .int f), (3, .int t), (4, .int r)]) hx hb dX7_once_38 hl (by decide) rfl (fun ls hl => ?_)
    refine lv_aload_n hx hb dX7_once_40 rfl (lv_at hl 1 rfl) ?_
    refine lv_aload_n hx hb dX7_once_41 rfl (lv_at hl 1 rfl) ?_
    refine lv_iload_n hx hb dX7_once_42 rfl (lv_at hl 2 rfl) ?_
    refine ro_callV MC HS (rest := [.ref (ad 11)]) (As := [.int s9]) (m_isScope hw s9) (lkX7_76) (kw698) (kw16) ⟨Nat.le_of_ble_eq_true rfl, Nat.le_of_ble_eq_true rfl⟩ (mo_recv MC hw) hl.1 rfl (Nat.le_of_ble_eq_true rfl) dX7_once_43 ⟨Nat.le_of_ble_eq_true rfl, Nat.le_of_ble_eq_true rfl⟩ (fun v9 H2 lH2 hp hz HS => ?_)
    obtain ⟨rfl, rfl⟩ := hp
    refine lv_if_ne (tgt := 53) hx hb dX7_once_46 (by decide) (fun c_46 => ?_) (fun c_46 => ?_)
    · have f_46 := bI_n0.mp c_46
      refine lv_iload hx hb dX7_once_53 (lv_at hl 0 rfl) ?_
      refine lv_if_ne (tgt := 62) hx hb dX7_once_55 (by decide) (fun c_55 => absurd c_55 (by decide)) (fun c_55 => ?_)
      refine lv_iconst (v := 2) hx hb dX7_once_58 (by decide) ?_
      refine lv_goto (tgt := 76) hx hb dX7_once_59 (by decide) ?_
      refine mo_put MC hw HS 0 (by decide) kw618 rfl rfl rfl τ 2 rfl (fun _ _ => rfl) dX7_once_76 (fun H3 lH3 hw HS => ?_)
      refine lv_aload_n hx hb dX7_once_79 rfl (lv_at hl 1 rfl) ?_
      refine mo_get MC hw 0 (by decide) kw618 rfl rfl dX7_once_80 ?_
      refine lv_if_le (tgt := 90) hx hb dX7_once_83 (by decide) (fun c_83 => absurd c_83 (by decide)) (fun c_83 => ?_)
      refine lv_iconst (v := 0) hx hb dX7_once_86 (by decide) ?_
      refine lv_goto (tgt := 101) hx hb dX7_once_87 (by decide) ?_
      have hth : th_once τ s9 f t r = 2 := ax_once_0 f_8 f_46
      exact ro_iretM MC HS hr ⟨_, rfl, by rw [hth, if_neg (by decide)]; exact hw, fun h0 => absurd (hth.symm.trans h0) (by decide)⟩ (Nat.le_refl _) (Nat.le_refl _) dX7_once_101
    · have f_46 := bI_0.mp c_46
      refine lv_iconst (v := 1) hx hb dX7_once_49 (by decide) ?_
      refine lv_goto (tgt := 76) hx hb dX7_once_50 (by decide) ?_
      refine mo_put MC hw HS 0 (by decide) kw618 rfl rfl rfl τ 1 rfl (fun _ _ => rfl) dX7_once_76 (fun H4 lH4 hw HS => ?_)
      refine lv_aload_n hx hb dX7_once_79 rfl (lv_at hl 1 rfl) ?_
      refine mo_get MC hw 0 (by decide) kw618 rfl rfl dX7_once_80 ?_
      refine lv_if_le (tgt := 90) hx hb dX7_once_83 (by decide) (fun c_83 => absurd c_83 (by decide)) (fun c_83 => ?_)
      refine lv_iconst (v := 0) hx hb dX7_once_86 (by decide) ?_
      refine lv_goto (tgt := 101) hx hb dX7_once_87 (by decide) ?_
      have hth : th_once τ s9 f t r = 1 := ax_once_1 f_8 f_46
      exact ro_iretM MC HS hr ⟨_, rfl, by rw [hth, if_neg (by decide)]; exact hw, fun h0 => absurd (hth.symm.trans h0) (by decide)⟩ (Nat.le_refl _) (Nat.le_refl _) dX7_once_101
  · have f_8 := bI_n0.mp c_8
    refine lv_iload_n hx hb dX7_once_11 rfl (lv_at hl 3 rfl) ?_
    refine lv_iload_n hx hb dX7_once_12 rfl (lv_at hl 2 rfl) ?_
    refine lv_icmp_le (tgt := 37) hx hb dX7_once_13 (by decide) (fun c_13 => ?_) (fun c_13 => ?_)
    · refine lv_iconst (v := 0) hx hb dX7_once_37 (by decide) ?_
      refine lv_istore (lv' := [(5, .int 0), (0, .ref (ad 11)), (1, .int s9), (2, .int f), (3, .int t), (4, .int r)]) hx hb dX7_once_38 hl (by decide) rfl (fun ls hl => ?_)
      refine lv_aload_n hx hb dX7_once_40 rfl (lv_at hl 1 rfl) ?_
      refine lv_aload_n hx hb dX7_once_41 rfl (lv_at hl 1 rfl) ?_
      refine lv_iload_n hx hb dX7_once_42 rfl (lv_at hl 2 rfl) ?_
      refine ro_callV MC HS (rest := [.ref (ad 11)]) (As := [.int s9]) (m_isScope hw s9) (lkX7_76) (kw698) (kw16) ⟨Nat.le_of_ble_eq_true rfl, Nat.le_of_ble_eq_true rfl⟩ (mo_recv MC hw) hl.1 rfl (Nat.le_of_ble_eq_true rfl) dX7_once_43 ⟨Nat.le_of_ble_eq_true rfl, Nat.le_of_ble_eq_true rfl⟩ (fun v9 H5 lH5 hp hz HS => ?_)
      obtain ⟨rfl, rfl⟩ := hp
      refine lv_if_ne (tgt := 53) hx hb dX7_once_46 (by decide) (fun c_46 => ?_) (fun c_46 => ?_)
      · have f_46 := bI_n0.mp c_46
        refine lv_iload hx hb dX7_once_53 (lv_at hl 0 rfl) ?_
        refine lv_if_ne (tgt := 62) hx hb dX7_once_55 (by decide) (fun c_55 => absurd c_55 (by decide)) (fun c_55 => ?_)
        refine lv_iconst (v := 2) hx hb dX7_once_58 (by decide) ?_
        refine lv_goto (tgt := 76) hx hb dX7_once_59 (by decide) ?_
        refine mo_put MC hw HS 0 (by decide) kw618 rfl rfl rfl τ 2 rfl (fun _ _ => rfl) dX7_once_76 (fun H6 lH6 hw HS => ?_)
        refine lv_aload_n hx hb dX7_once_79 rfl (lv_at hl 1 rfl) ?_
        refine mo_get MC hw 0 (by decide) kw618 rfl rfl dX7_once_80 ?_
        refine lv_if_le (tgt := 90) hx hb dX7_once_83 (by decide) (fun c_83 => absurd c_83 (by decide)) (fun c_83 => ?_)
        refine lv_iconst (v := 0) hx hb dX7_once_86 (by decide) ?_
        refine lv_goto (tgt := 101) hx hb dX7_once_87 (by decide) ?_
        have hth : th_once τ s9 f t r = 2 := ax_once_2 f_8 c_13 f_46
        exact ro_iretM MC HS hr ⟨_, rfl, by rw [hth, if_neg (by decide)]; exact hw, fun h0 => absurd (hth.symm.trans h0) (by decide)⟩ (Nat.le_refl _) (Nat.le_refl _) dX7_once_101
      · have f_46 := bI_0.mp c_46
        refine lv_iconst (v := 1) hx hb dX7_once_49 (by decide) ?_
        refine lv_goto (tgt := 76) hx hb dX7_once_50 (by decide) ?_
        refine mo_put MC hw HS 0 (by decide) kw618 rfl rfl rfl τ 1 rfl (fun _ _ => rfl) dX7_once_76 (fun H7 lH7 hw HS => ?_)
        refine lv_aload_n hx hb dX7_once_79 rfl (lv_at hl 1 rfl) ?_
        refine mo_get MC hw 0 (by decide) kw618 rfl rfl dX7_once_80 ?_
        refine lv_if_le (tgt := 90) hx hb dX7_once_83 (by decide) (fun c_83 => absurd c_83 (by decide)) (fun c_83 => ?_)
        refine lv_iconst (v := 0) hx hb dX7_once_86 (by decide) ?_
        refine lv_goto (tgt := 101) hx hb dX7_once_87 (by decide) ?_
        have hth : th_once τ s9 f t r = 1 := ax_once_3 f_8 c_13 f_46
        exact ro_iretM MC HS hr ⟨_, rfl, by rw [hth, if_neg (by decide)]; exact hw, fun h0 => absurd (hth.symm.trans h0) (by decide)⟩ (Nat.le_refl _) (Nat.le_refl _) dX7_once_101
    · refine lv_iload_n hx hb dX7_once_16 rfl (lv_at hl 3 rfl) ?_
      refine lv_sipush (v := 672) hx hb dX7_once_17 (by decide) ?_
      refine lv_icmp_gt (tgt := 37) hx hb dX7_once_20 (by decide) (fun c_20 => ?_) (fun c_20 => ?_)
      · refine lv_iconst (v := 0) hx hb dX7_once_37 (by decide) ?_
        refine lv_istore (lv' := [(5, .int 0), (0, .ref (ad 11)), (1, .int s9), (2, .int f), (3, .int t), (4, .int r)]) hx hb dX7_once_38 hl (by decide) rfl (fun ls hl => ?_)
        refine lv_aload_n hx hb dX7_once_40 rfl (lv_at hl 1 rfl) ?_
        refine lv_aload_n hx hb dX7_once_41 rfl (lv_at hl 1 rfl) ?_
        refine lv_iload_n hx hb dX7_once_42 rfl (lv_at hl 2 rfl) ?_
        refine ro_callV MC HS (rest := [.ref (ad 11)]) (As := [.int s9]) (m_isScope hw s9) (lkX7_76) (kw698) (kw16) ⟨Nat.le_of_ble_eq_true rfl, Nat.le_of_ble_eq_true rfl⟩ (mo_recv MC hw) hl.1 rfl (Nat.le_of_ble_eq_true rfl) dX7_once_43 ⟨Nat.le_of_ble_eq_true rfl, Nat.le_of_ble_eq_true rfl⟩ (fun v9 H8 lH8 hp hz HS => ?_)
        obtain ⟨rfl, rfl⟩ := hp
        refine lv_if_ne (tgt := 53) hx hb dX7_once_46 (by decide) (fun c_46 => ?_) (fun c_46 => ?_)
        · have f_46 := bI_n0.mp c_46
          refine lv_iload hx hb dX7_once_53 (lv_at hl 0 rfl) ?_
          refine lv_if_ne (tgt := 62) hx hb dX7_once_55 (by decide) (fun c_55 => absurd c_55 (by decide)) (fun c_55 => ?_)
          refine lv_iconst (v := 2) hx hb dX7_once_58 (by decide) ?_
          refine lv_goto (tgt := 76) hx hb dX7_once_59 (by decide) ?_
          refine mo_put MC hw HS 0 (by decide) kw618 rfl rfl rfl τ 2 rfl (fun _ _ => rfl) dX7_once_76 (fun H9 lH9 hw HS => ?_)
          refine lv_aload_n hx hb dX7_once_79 rfl (lv_at hl 1 rfl) ?_
          refine mo_get MC hw 0 (by decide) kw618 rfl rfl dX7_once_80 ?_
          refine lv_if_le (tgt := 90) hx hb dX7_once_83 (by decide) (fun c_83 => absurd c_83 (by decide)) (fun c_83 => ?_)
          refine lv_iconst (v := 0) hx hb dX7_once_86 (by decide) ?_
          refine lv_goto (tgt := 101) hx hb dX7_once_87 (by decide) ?_
          have hth : th_once τ s9 f t r = 2 := ax_once_4 f_8 c_13 c_20 f_46
          exact ro_iretM MC HS hr ⟨_, rfl, by rw [hth, if_neg (by decide)]; exact hw, fun h0 => absurd (hth.symm.trans h0) (by decide)⟩ (Nat.le_refl _) (Nat.le_refl _) dX7_once_101
        · have f_46 := bI_0.mp c_46
          refine lv_iconst (v := 1) hx hb dX7_once_49 (by decide) ?_
          refine lv_goto (tgt := 76) hx hb dX7_once_50 (by decide) ?_
          refine mo_put MC hw HS 0 (by decide) kw618 rfl rfl rfl τ 1 rfl (fun _ _ => rfl) dX7_once_76 (fun H10 lH10 hw HS => ?_)
          refine lv_aload_n hx hb dX7_once_79 rfl (lv_at hl 1 rfl) ?_
          refine mo_get MC hw 0 (by decide) kw618 rfl rfl dX7_once_80 ?_
          refine lv_if_le (tgt := 90) hx hb dX7_once_83 (by decide) (fun c_83 => absurd c_83 (by decide)) (fun c_83 => ?_)
          refine lv_iconst (v := 0) hx hb dX7_once_86 (by decide) ?_
          refine lv_goto (tgt := 101) hx hb dX7_once_87 (by decide) ?_
          have hth : th_once τ s9 f t r = 1 := ax_once_5 f_8 c_13 c_20 f_46
          exact ro_iretM MC HS hr ⟨_, rfl, by rw [hth, if_neg (by decide)]; exact hw, fun h0 => absurd (hth.symm.trans h0) (by decide)⟩ (Nat.le_refl _) (Nat.le_refl _) dX7_once_101
      · refine lv_iload hx hb dX7_once_23 (lv_at hl 4 rfl) ?_
        refine lv_iconst (v := 1) hx hb dX7_once_25 (by decide) ?_
        refine lv_iconst (v := 3) hx hb dX7_once_26 (by decide) ?_
        refine ro_callS MC HS (rest := []) (As := [.int r, .int 1, .int 3]) (m_isIn l D ids n0 r 1 3) (lkX7_72) (kw701) ⟨Nat.le_of_ble_eq_true rfl, Nat.le_of_ble_eq_true rfl⟩ hl.1 rfl (Nat.le_of_ble_eq_true rfl) dX7_once_27 ⟨Nat.le_of_ble_eq_true rfl, Nat.le_of_ble_eq_true rfl⟩ (fun v9 H11 lH11 hp hz HS => ?_)
        obtain ⟨rfl, rfl⟩ := hp
        refine lv_if_eq (tgt := 37) hx hb dX7_once_30 (by decide) (fun c_30 => ?_) (fun c_30 => ?_)
        · have f_30 := bI_0.mp c_30
          refine lv_iconst (v := 0) hx hb dX7_once_37 (by decide) ?_
          refine lv_istore (lv' := [(5, .int 0), (0, .ref (ad 11)), (1, .int s9), (2, .int f), (3, .int t), (4, .int r)]) hx hb dX7_once_38 hl (by decide) rfl (fun ls hl => ?_)
          refine lv_aload_n hx hb dX7_once_40 rfl (lv_at hl 1 rfl) ?_
          refine lv_aload_n hx hb dX7_once_41 rfl (lv_at hl 1 rfl) ?_
          refine lv_iload_n hx hb dX7_once_42 rfl (lv_at hl 2 rfl) ?_
          refine ro_callV MC HS (rest := [.ref (ad 11)]) (As := [.int s9]) (m_isScope hw s9) (lkX7_76) (kw698) (kw16) ⟨Nat.le_of_ble_eq_true rfl, Nat.le_of_ble_eq_true rfl⟩ (mo_recv MC hw) hl.1 rfl (Nat.le_of_ble_eq_true rfl) dX7_once_43 ⟨Nat.le_of_ble_eq_true rfl, Nat.le_of_ble_eq_true rfl⟩ (fun v9 H12 lH12 hp hz HS => ?_)
          obtain ⟨rfl, rfl⟩ := hp
          refine lv_if_ne (tgt := 53) hx hb dX7_once_46 (by decide) (fun c_46 => ?_) (fun c_46 => ?_)
          · have f_46 := bI_n0.mp c_46
            refine lv_iload hx hb dX7_once_53 (lv_at hl 0 rfl) ?_
            refine lv_if_ne (tgt := 62) hx hb dX7_once_55 (by decide) (fun c_55 => absurd c_55 (by decide)) (fun c_55 => ?_)
            refine lv_iconst (v := 2) hx hb dX7_once_58 (by decide) ?_
            refine lv_goto (tgt := 76) hx hb dX7_once_59 (by decide) ?_
            refine mo_put MC hw HS 0 (by decide) kw618 rfl rfl rfl τ 2 rfl (fun _ _ => rfl) dX7_once_76 (fun H13 lH13 hw HS => ?_)
            refine lv_aload_n hx hb dX7_once_79 rfl (lv_at hl 1 rfl) ?_
            refine mo_get MC hw 0 (by decide) kw618 rfl rfl dX7_once_80 ?_
            refine lv_if_le (tgt := 90) hx hb dX7_once_83 (by decide) (fun c_83 => absurd c_83 (by decide)) (fun c_83 => ?_)
            refine lv_iconst (v := 0) hx hb dX7_once_86 (by decide) ?_
            refine lv_goto (tgt := 101) hx hb dX7_once_87 (by decide) ?_
            have hth : th_once τ s9 f t r = 2 := ax_once_6 f_8 c_13 c_20 f_30 f_46
            exact ro_iretM MC HS hr ⟨_, rfl, by rw [hth, if_neg (by decide)]; exact hw, fun h0 => absurd (hth.symm.trans h0) (by decide)⟩ (Nat.le_refl _) (Nat.le_refl _) dX7_once_101
          · have f_46 := bI_0.mp c_46
            refine lv_iconst (v := 1) hx hb dX7_once_49 (by decide) ?_
            refine lv_goto (tgt := 76) hx hb dX7_once_50 (by decide) ?_
            refine mo_put MC hw HS 0 (by decide) kw618 rfl rfl rfl τ 1 rfl (fun _ _ => rfl) dX7_once_76 (fun H14 lH14 hw HS => ?_)
            refine lv_aload_n hx hb dX7_once_79 rfl (lv_at hl 1 rfl) ?_
            refine mo_get MC hw 0 (by decide) kw618 rfl rfl dX7_once_80 ?_
            refine lv_if_le (tgt := 90) hx hb dX7_once_83 (by decide) (fun c_83 => absurd c_83 (by decide)) (fun c_83 => ?_)
            refine lv_iconst (v := 0) hx hb dX7_once_86 (by decide) ?_
            refine lv_goto (tgt := 101) hx hb dX7_once_87 (by decide) ?_
            have hth : th_once τ s9 f t r = 1 := ax_once_7 f_8 c_13 c_20 f_30 f_46
            exact ro_iretM MC HS hr ⟨_, rfl, by rw [hth, if_neg (by decide)]; exact hw, fun h0 => absurd (hth.symm.trans h0) (by decide)⟩ (Nat.le_refl _) (Nat.le_refl _) dX7_once_101
        · have f_30 := bI_n0.mp c_30
          refine lv_iconst (v := 1) hx hb dX7_once_33 (by decide) ?_
          refine lv_goto (tgt := 38) hx hb dX7_once_34 (by decide) ?_
          refine lv_istore (lv' := [(5, .int 1), (0, .ref (ad 11)), (1, .int s9), (2, .int f), (3, .int t), (4, .int r)]) hx hb dX7_once_38 hl (by decide) rfl (fun ls hl => ?_)
          refine lv_aload_n hx hb dX7_once_40 rfl (lv_at hl 1 rfl) ?_
          refine lv_aload_n hx hb dX7_once_41 rfl (lv_at hl 1 rfl) ?_
          refine lv_iload_n hx hb dX7_once_42 rfl (lv_at hl 2 rfl) ?_
          refine ro_callV MC HS (rest := [.ref (ad 11)]) (As := [.int s9]) (m_isScope hw s9) (lkX7_76) (kw698) (kw16) ⟨Nat.le_of_ble_eq_true rfl, Nat.le_of_ble_eq_true rfl⟩ (mo_recv MC hw) hl.1 rfl (Nat.le_of_ble_eq_true rfl) dX7_once_43 ⟨Nat.le_of_ble_eq_true rfl, Nat.le_of_ble_eq_true rfl⟩ (fun v9 H15 lH15 hp hz HS => ?_)
          obtain ⟨rfl, rfl⟩ := hp
          refine lv_if_ne (tgt := 53) hx hb dX7_once_46 (by decide) (fun c_46 => ?_) (fun c_46 => ?_)
          · have f_46 := bI_n0.mp c_46
            refine lv_iload hx hb dX7_once_53 (lv_at hl 0 rfl) ?_
            refine lv_if_ne (tgt := 62) hx hb dX7_once_55 (by decide) (fun c_55 => ?_) (fun c_55 => absurd c_55 (by decide))
            refine lv_aload_n hx hb dX7_once_62 rfl (lv_at hl 1 rfl) ?_
            refine mo_get MC hw 6 (by decide) kw624 rfl rfl dX7_once_63 ?_
            refine lv_bipush (v := 20) hx hb dX7_once_66 (by decide) ?_
            refine lv_icmp_ne (tgt := 75) hx hb dX7_once_68 (by decide) (fun c_68 => ?_) (fun c_68 => ?_)
            · have hn20 : nl < 20 := by have := nI_ne (N := 20) hI.2.2.1.1 c_68; have := hI.2.2.1.2; omega
              refine lv_iconst (v := 0) hx hb dX7_once_75 (by decide) ?_
              refine mo_put MC hw HS 0 (by decide) kw618 rfl rfl rfl τ 0 rfl (fun _ _ => rfl) dX7_once_76 (fun H16 lH16 hw HS => ?_)
              refine lv_aload_n hx hb dX7_once_79 rfl (lv_at hl 1 rfl) ?_
              refine mo_get MC hw 0 (by decide) kw618 rfl rfl dX7_once_80 ?_
              refine lv_if_le (tgt := 90) hx hb dX7_once_83 (by decide) (fun c_83 => ?_) (fun c_83 => absurd c_83 (by decide))
              refine lv_aload_n hx hb dX7_once_90 rfl (lv_at hl 1 rfl) ?_
              refine lv_iconst (v := 0) hx hb dX7_once_91 (by decide) ?_
              refine lv_iload_n hx hb dX7_once_92 rfl (lv_at hl 2 rfl) ?_
              refine lv_iconst (v := 0) hx hb dX7_once_93 (by decide) ?_
              refine lv_iload_n hx hb dX7_once_94 rfl (lv_at hl 3 rfl) ?_
              refine lv_iload_n hx hb dX7_once_95 rfl (lv_at hl 4 rfl) ?_
              refine lv_iload hx hb dX7_once_96 (lv_at hl 5 rfl) ?_
              refine ro_callV MC HS (rest := []) (As := [.int 0, .int s9, .int 0, .int f, .int t, .int r]) (m_lays hw hI 0 s9 0 f t r hn20) (lkX7_89) (kw728) (kw17) ⟨Nat.le_of_ble_eq_true rfl, Nat.le_of_ble_eq_true rfl⟩ (mo_recv MC hw) hl.1 rfl (Nat.le_of_ble_eq_true rfl) dX7_once_98 ⟨Nat.le_of_ble_eq_true rfl, Nat.le_of_ble_eq_true rfl⟩ (fun v9 H17 lH17 hp hz HS => ?_)
              obtain ⟨rfl, hw⟩ := hp
              have hth : th_once τ s9 f t r = 0 := ax_once_8 f_8 c_13 c_20 f_30 f_46 c_68
              have hnx : nx_once τ s9 f t r = (nx_lays τ 0 s9 0 f t r) := by simp only [nx_once]
              exact ro_iretM MC HS hr ⟨_, rfl, by rw [hth, if_pos rfl, hnx]; exact hw, fun _ => by show τ 0 2 = rt_once τ s9 f t r; simp only [rt_once]⟩ (Nat.le_refl _) (Nat.le_refl _) dX7_once_101
            · refine lv_iconst (v := 3) hx hb dX7_once_71 (by decide) ?_
              refine lv_goto (tgt := 76) hx hb dX7_once_72 (by decide) ?_
              refine mo_put MC hw HS 0 (by decide) kw618 rfl rfl rfl τ 3 rfl (fun _ _ => rfl) dX7_once_76 (fun H18 lH18 hw HS => ?_)
              refine lv_aload_n hx hb dX7_once_79 rfl (lv_at hl 1 rfl) ?_
              refine mo_get MC hw 0 (by decide) kw618 rfl rfl dX7_once_80 ?_
              refine lv_if_le (tgt := 90) hx hb dX7_once_83 (by decide) (fun c_83 => absurd c_83 (by decide)) (fun c_83 => ?_)
              refine lv_iconst (v := 0) hx hb dX7_once_86 (by decide) ?_
              refine lv_goto (tgt := 101) hx hb dX7_once_87 (by decide) ?_
              have hth : th_once τ s9 f t r = 3 := ax_once_9 f_8 c_13 c_20 f_30 f_46 c_68
              exact ro_iretM MC HS hr ⟨_, rfl, by rw [hth, if_neg (by decide)]; exact hw, fun h0 => absurd (hth.symm.trans h0) (by decide)⟩ (Nat.le_refl _) (Nat.le_refl _) dX7_once_101
          · have f_46 := bI_0.mp c_46
            refine lv_iconst (v := 1) hx hb dX7_once_49 (by decide) ?_
            refine lv_goto (tgt := 76) hx hb dX7_once_50 (by decide) ?_
            refine mo_put MC hw HS 0 (by decide) kw618 rfl rfl rfl τ 1 rfl (fun _ _ => rfl) dX7_once_76 (fun H19 lH19 hw HS => ?_)
            refine lv_aload_n hx hb dX7_once_79 rfl (lv_at hl 1 rfl) ?_
            refine mo_get MC hw 0 (by decide) kw618 rfl rfl dX7_once_80 ?_
            refine lv_if_le (tgt := 90) hx hb dX7_once_83 (by decide) (fun c_83 => absurd c_83 (by decide)) (fun c_83 => ?_)
            refine lv_iconst (v := 0) hx hb dX7_once_86 (by decide) ?_
            refine lv_goto (tgt := 101) hx hb dX7_once_87 (by decide) ?_
            have hth : th_once τ s9 f t r = 1 := ax_once_10 f_8 c_13 c_20 f_30 f_46
            exact ro_iretM MC HS hr ⟨_, rfl, by rw [hth, if_neg (by decide)]; exact hw, fun h0 => absurd (hth.symm.trans h0) (by decide)⟩ (Nat.le_refl _) (Nat.le_refl _) dX7_once_101
set_option maxHeartbeats 4000000 in
set_option maxRecDepth 100000 in
theorem m_daily {l : Launch} {D : va_G} {ids : Nat → ClassId} {n0 : Nat} {RR : List Nat} {ad : Nat → Nat} {τ : Tau} {th : Int32} {fr : Nat → va_E} {Hh : Heap} (hw : sM D ids n0 RR ad τ th fr Hh) {nw ns nl nc : Nat} (hI : Iv τ nw ns nl nc) (s9 : Int32) (d : Int32) (f : Int32) (t : Int32) (r : Int32) : ro_M l yX7_daily cX7_daily 7 (some FieldType.int) { frames := 2, cells := 0, slots := 0, locals := 60 } D ids n0 [.ref (ad 11), .int s9, .int d, .int f, .int t, .int r] Hh (fun v9 H1 => ∃ rz, v9 = some (.int rz) ∧ sM D ids n0 RR ad (if th_daily τ s9 d f t r = 0 then nx_daily τ s9 d f t r else τ) (th_daily τ s9 d f t r) fr H1 ∧ (th_daily τ s9 d f t r = 0 → rz = rt_daily τ s9 d f t r)) := by
  refine ro_ofM (by decide +kernel) (Nat.le_of_ble_eq_true rfl) ?_
  intro p e s m below meth c MC hhp hr hnm HS ls hl
  have hx := MC.1.1
  have hb := MC.1.2.1
  have hl : lv_has ls 7 [(0, .ref (ad 11)), (1, .int s9), (2, .int d), (3, .int f), (4, .int t), (5, .int r)] := hl
  refine lv_iload_n hx hb dX7_daily_0 rfl (lv_at hl 3 rfl) ?_
  refine lv_iconst (v := 0) hx hb dX7_daily_1 (by decide) ?_
  refine lv_bipush (v := 23) hx hb dX7_daily_2 (by decide) ?_
  refine ro_callS MC HS (rest := []) (As := [.int f, .int 0, .int 23]) (m_isIn l D ids n0 f 0 23) (lkX7_72) (kw701) ⟨Nat.le_of_ble_eq_true rfl, Nat.le_of_ble_eq_true rfl⟩ hl.1 rfl (Nat.le_of_ble_eq_true rfl) dX7_daily_4 ⟨Nat.le_of_ble_eq_true rfl, Nat.le_of_ble_eq_true rfl⟩ (fun v9 H1 lH1 hp hz HS => ?_)
  obtain ⟨rfl, rfl⟩ := hp
  refine lv_if_eq (tgt := 35) hx hb dX7_daily_7 (by decide) (fun c_7 => ?_) (fun c_7 => ?_)
  · have f_7 := bI_0.mp c_7
    refine lv_iconst (v := 0) hx hb dX7_daily_35 (by decide) ?_
    refine lv_istore (lv' := [(6, .int 0), (0, .ref (ad 11)), (1, .int s9), (2, .int d), (3, .int f), (4, .int t), (5, .int r)]) hx hb dX7_daily_36 hl (by decide) rfl (fun ls hl => ?_)
    refine lv_aload_n hx hb dX7_daily_38 rfl (lv_at hl 1 rfl) ?_
    refine lv_aload_n hx hb dX7_daily_39 rfl (lv_at hl 1 rfl) ?_
    refine lv_iload_n hx hb dX7_daily_40 rfl (lv_at hl 2 rfl) ?_
    refine ro_callV MC HS (rest := [.ref (ad 11)]) (As := [.int s9]) (m_isScope hw s9) (lkX7_76) (kw698) (kw16) ⟨Nat.le_of_ble_eq_true rfl, Nat.le_of_ble_eq_true rfl⟩ (mo_recv MC hw) hl.1 rfl (Nat.le_of_ble_eq_true rfl) dX7_daily_41 ⟨Nat.le_of_ble_eq_true rfl, Nat.le_of_ble_eq_true rfl⟩ (fun v9 H2 lH2 hp hz HS => ?_)
    obtain ⟨rfl, rfl⟩ := hp
    refine lv_if_eq (tgt := 54) hx hb dX7_daily_44 (by decide) (fun c_44 => ?_) (fun c_44 => ?_)
    · have f_44 := bI_0.mp c_44
      refine lv_iconst (v := 1) hx hb dX7_daily_54 (by decide) ?_
      refine lv_goto (tgt := 81) hx hb dX7_daily_55 (by decide) ?_
      refine mo_put MC hw HS 0 (by decide) kw618 rfl rfl rfl τ 1 rfl (fun _ _ => rfl) dX7_daily_81 (fun H3 lH3 hw HS => ?_)
      refine lv_aload_n hx hb dX7_daily_84 rfl (lv_at hl 1 rfl) ?_
      refine mo_get MC hw 0 (by decide) kw618 rfl rfl dX7_daily_85 ?_
      refine lv_if_le (tgt := 95) hx hb dX7_daily_88 (by decide) (fun c_88 => absurd c_88 (by decide)) (fun c_88 => ?_)
      refine lv_iconst (v := 0) hx hb dX7_daily_91 (by decide) ?_
      refine lv_goto (tgt := 107) hx hb dX7_daily_92 (by decide) ?_
      have hth : th_daily τ s9 d f t r = 1 := ax_daily_0 f_7 f_44
      exact ro_iretM MC HS hr ⟨_, rfl, by rw [hth, if_neg (by decide)]; exact hw, fun h0 => absurd (hth.symm.trans h0) (by decide)⟩ (Nat.le_refl _) (Nat.le_refl _) dX7_daily_107
    · have f_44 := bI_n0.mp c_44
      refine lv_iload_n hx hb dX7_daily_47 rfl (lv_at hl 3 rfl) ?_
      refine ro_callS MC HS (rest := [.ref (ad 11)]) (As := [.int d]) (m_isLand l D ids n0 d) (lkX7_80) (kw708) ⟨Nat.le_of_ble_eq_true rfl, Nat.le_of_ble_eq_true rfl⟩ hl.1 rfl (Nat.le_of_ble_eq_true rfl) dX7_daily_48 ⟨Nat.le_of_ble_eq_true rfl, Nat.le_of_ble_eq_true rfl⟩ (fun v9 H4 lH4 hp hz HS => ?_)
      obtain ⟨rfl, rfl⟩ := hp
      refine lv_if_ne (tgt := 58) hx hb dX7_daily_51 (by decide) (fun c_51 => ?_) (fun c_51 => ?_)
      · have f_51 := bI_n0.mp c_51
        refine lv_iload hx hb dX7_daily_58 (lv_at hl 0 rfl) ?_
        refine lv_if_ne (tgt := 67) hx hb dX7_daily_60 (by decide) (fun c_60 => absurd c_60 (by decide)) (fun c_60 => ?_)
        refine lv_iconst (v := 2) hx hb dX7_daily_63 (by decide) ?_
        refine lv_goto (tgt := 81) hx hb dX7_daily_64 (by decide) ?_
        refine mo_put MC hw HS 0 (by decide) kw618 rfl rfl rfl τ 2 rfl (fun _ _ => rfl) dX7_daily_81 (fun H5 lH5 hw HS => ?_)
        refine lv_aload_n hx hb dX7_daily_84 rfl (lv_at hl 1 rfl) ?_
        refine mo_get MC hw 0 (by decide) kw618 rfl rfl dX7_daily_85 ?_
        refine lv_if_le (tgt := 95) hx hb dX7_daily_88 (by decide) (fun c_88 => absurd c_88 (by decide)) (fun c_88 => ?_)
        refine lv_iconst (v := 0) hx hb dX7_daily_91 (by decide) ?_
        refine lv_goto (tgt := 107) hx hb dX7_daily_92 (by decide) ?_
        have hth : th_daily τ s9 d f t r = 2 := ax_daily_1 f_7 f_44 f_51
        exact ro_iretM MC HS hr ⟨_, rfl, by rw [hth, if_neg (by decide)]; exact hw, fun h0 => absurd (hth.symm.trans h0) (by decide)⟩ (Nat.le_refl _) (Nat.le_refl _) dX7_daily_107
      · have f_51 := bI_0.mp c_51
        refine lv_iconst (v := 1) hx hb dX7_daily_54 (by decide) ?_
        refine lv_goto (tgt := 81) hx hb dX7_daily_55 (by decide) ?_
        refine mo_put MC hw HS 0 (by decide) kw618 rfl rfl rfl τ 1 rfl (fun _ _ => rfl) dX7_daily_81 (fun H6 lH6 hw HS => ?_)
        refine lv_aload_n hx hb dX7_daily_84 rfl (lv_at hl 1 rfl) ?_
        refine mo_get MC hw 0 (by decide) kw618 rfl rfl dX7_daily_85 ?_
        refine lv_if_le (tgt := 95) hx hb dX7_daily_88 (by decide) (fun c_88 => absurd c_88 (by decide)) (fun c_88 => ?_)
        refine lv_iconst (v := 0) hx hb dX7_daily_91 (by decide) ?_
        refine lv_goto (tgt := 107) hx hb dX7_daily_92 (by decide) ?_
        have hth : th_daily τ s9 d f t r = 1 := ax_daily_2 f_7 f_44 f_51
        exact ro_iretM MC HS hr ⟨_, rfl, by rw [hth, if_neg (by decide)]; exact hw, fun h0 => absurd (hth.symm.trans h0) (by decide)⟩ (Nat.le_refl _) (Nat.le_refl _) dX7_daily_107
  · have f_7 := bI_n0.mp c_7
    refine lv_iload hx hb dX7_daily_10 (lv_at hl 4 rfl) ?_
    refine lv_iconst (v := 0) hx hb dX7_daily_12 (by decide) ?_
    refine lv_bipush (v := 23) hx hb dX7_daily_13 (by decide) ?_
    refine ro_callS MC HS (rest := []) (As := [.int t, .int 0, .int 23]) (m_isIn l D ids n0 t 0 23) (lkX7_72) (kw701) ⟨Nat.le_of_ble_eq_true rfl, Nat.le_of_ble_eq_true rfl⟩ hl.1 rfl (Nat.le_of_ble_eq_true rfl) dX7_daily_15 ⟨Nat.le_of_ble_eq_true rfl, Nat.le_of_ble_eq_true rfl⟩ (fun v9 H7 lH7 hp hz HS => ?_)
    obtain ⟨rfl, rfl⟩ := hp
    refine lv_if_eq (tgt := 35) hx hb dX7_daily_18 (by decide) (fun c_18 => ?_) (fun c_18 => ?_)
    · have f_18 := bI_0.mp c_18
      refine lv_iconst (v := 0) hx hb dX7_daily_35 (by decide) ?_
      refine lv_istore (lv' := [(6, .int 0), (0, .ref (ad 11)), (1, .int s9), (2, .int d), (3, .int f), (4, .int t), (5, .int r)]) hx hb dX7_daily_36 hl (by decide) rfl (fun ls hl => ?_)
      refine lv_aload_n hx hb dX7_daily_38 rfl (lv_at hl 1 rfl) ?_
      refine lv_aload_n hx hb dX7_daily_39 rfl (lv_at hl 1 rfl) ?_
      refine lv_iload_n hx hb dX7_daily_40 rfl (lv_at hl 2 rfl) ?_
      refine ro_callV MC HS (rest := [.ref (ad 11)]) (As := [.int s9]) (m_isScope hw s9) (lkX7_76) (kw698) (kw16) ⟨Nat.le_of_ble_eq_true rfl, Nat.le_of_ble_eq_true rfl⟩ (mo_recv MC hw) hl.1 rfl (Nat.le_of_ble_eq_true rfl) dX7_daily_41 ⟨Nat.le_of_ble_eq_true rfl, Nat.le_of_ble_eq_true rfl⟩ (fun v9 H8 lH8 hp hz HS => ?_)
      obtain ⟨rfl, rfl⟩ := hp
      refine lv_if_eq (tgt := 54) hx hb dX7_daily_44 (by decide) (fun c_44 => ?_) (fun c_44 => ?_)
      · have f_44 := bI_0.mp c_44
        refine lv_iconst (v := 1) hx hb dX7_daily_54 (by decide) ?_
        refine lv_goto (tgt := 81) hx hb dX7_daily_55 (by decide) ?_
        refine mo_put MC hw HS 0 (by decide) kw618 rfl rfl rfl τ 1 rfl (fun _ _ => rfl) dX7_daily_81 (fun H9 lH9 hw HS => ?_)
        refine lv_aload_n hx hb dX7_daily_84 rfl (lv_at hl 1 rfl) ?_
        refine mo_get MC hw 0 (by decide) kw618 rfl rfl dX7_daily_85 ?_
        refine lv_if_le (tgt := 95) hx hb dX7_daily_88 (by decide) (fun c_88 => absurd c_88 (by decide)) (fun c_88 => ?_)
        refine lv_iconst (v := 0) hx hb dX7_daily_91 (by decide) ?_
        refine lv_goto (tgt := 107) hx hb dX7_daily_92 (by decide) ?_
        have hth : th_daily τ s9 d f t r = 1 := ax_daily_3 f_7 f_18 f_44
        exact ro_iretM MC HS hr ⟨_, rfl, by rw [hth, if_neg (by decide)]; exact hw, fun h0 => absurd (hth.symm.trans h0) (by decide)⟩ (Nat.le_refl _) (Nat.le_refl _) dX7_daily_107
      · have f_44 := bI_n0.mp c_44
        refine lv_iload_n hx hb dX7_daily_47 rfl (lv_at hl 3 rfl) ?_
        refine ro_callS MC HS (rest := [.ref (ad 11)]) (As := [.int d]) (m_isLand l D ids n0 d) (lkX7_80) (kw708) ⟨Nat.le_of_ble_eq_true rfl, Nat.le_of_ble_eq_true rfl⟩ hl.1 rfl (Nat.le_of_ble_eq_true rfl) dX7_daily_48 ⟨Nat.le_of_ble_eq_true rfl, Nat.le_of_ble_eq_true rfl⟩ (fun v9 H10 lH10 hp hz HS => ?_)
        obtain ⟨rfl, rfl⟩ := hp
        refine lv_if_ne (tgt := 58) hx hb dX7_daily_51 (by decide) (fun c_51 => ?_) (fun c_51 => ?_)
        · have f_51 := bI_n0.mp c_51
          refine lv_iload hx hb dX7_daily_58 (lv_at hl 0 rfl) ?_
          refine lv_if_ne (tgt := 67) hx hb dX7_daily_60 (by decide) (fun c_60 => absurd c_60 (by decide)) (fun c_60 => ?_)
          refine lv_iconst (v := 2) hx hb dX7_daily_63 (by decide) ?_
          refine lv_goto (tgt := 81) hx hb dX7_daily_64 (by decide) ?_
          refine mo_put MC hw HS 0 (by decide) kw618 rfl rfl rfl τ 2 rfl (fun _ _ => rfl) dX7_daily_81 (fun H11 lH11 hw HS => ?_)
          refine lv_aload_n hx hb dX7_daily_84 rfl (lv_at hl 1 rfl) ?_
          refine mo_get MC hw 0 (by decide) kw618 rfl rfl dX7_daily_85 ?_
          refine lv_if_le (tgt := 95) hx hb dX7_daily_88 (by decide) (fun c_88 => absurd c_88 (by decide)) (fun c_88 => ?_)
          refine lv_iconst (v := 0) hx hb dX7_daily_91 (by decide) ?_
          refine lv_goto (tgt := 107) hx hb dX7_daily_92 (by decide) ?_
          have hth : th_daily τ s9 d f t r = 2 := ax_daily_4 f_7 f_18 f_44 f_51
          exact ro_iretM MC HS hr ⟨_, rfl, by rw [hth, if_neg (by decide)]; exact hw, fun h0 => absurd (hth.symm.trans h0) (by decide)⟩ (Nat.le_refl _) (Nat.le_refl _) dX7_daily_107
        · have f_51 := bI_0.mp c_51
          refine lv_iconst (v := 1) hx hb dX7_daily_54 (by decide) ?_
          refine lv_goto (tgt := 81) hx hb dX7_daily_55 (by decide) ?_
          refine mo_put MC hw HS 0 (by decide) kw618 rfl rfl rfl τ 1 rfl (fun _ _ => rfl) dX7_daily_81 (fun H12 lH12 hw HS => ?_)
          refine lv_aload_n hx hb dX7_daily_84 rfl (lv_at hl 1 rfl) ?_
          refine mo_get MC hw 0 (by decide) kw618 rfl rfl dX7_daily_85 ?_
          refine lv_if_le (tgt := 95) hx hb dX7_daily_88 (by decide) (fun c_88 => absurd c_88 (by decide)) (fun c_88 => ?_)
          refine lv_iconst (v := 0) hx hb dX7_daily_91 (by decide) ?_
          refine lv_goto (tgt := 107) hx hb dX7_daily_92 (by decide) ?_
          have hth : th_daily τ s9 d f t r = 1 := ax_daily_5 f_7 f_18 f_44 f_51
          exact ro_iretM MC HS hr ⟨_, rfl, by rw [hth, if_neg (by decide)]; exact hw, fun h0 => absurd (hth.symm.trans h0) (by decide)⟩ (Nat.le_refl _) (Nat.le_refl _) dX7_daily_107
    · have f_18 := bI_n0.mp c_18
      refine lv_iload hx hb dX7_daily_21 (lv_at hl 5 rfl) ?_
      refine lv_iconst (v := 1) hx hb dX7_daily_23 (by decide) ?_
      refine lv_iconst (v := 3) hx hb dX7_daily_24 (by decide) ?_
      refine ro_callS MC HS (rest := []) (As := [.int r, .int 1, .int 3]) (m_isIn l D ids n0 r 1 3) (lkX7_72) (kw701) ⟨Nat.le_of_ble_eq_true rfl, Nat.le_of_ble_eq_true rfl⟩ hl.1 rfl (Nat.le_of_ble_eq_true rfl) dX7_daily_25 ⟨Nat.le_of_ble_eq_true rfl, Nat.le_of_ble_eq_true rfl⟩ (fun v9 H13 lH13 hp hz HS => ?_)
      obtain ⟨rfl, rfl⟩ := hp
      refine lv_if_eq (tgt := 35) hx hb dX7_daily_28 (by decide) (fun c_28 => ?_) (fun c_28 => ?_)
      · have f_28 := bI_0.mp c_28
        refine lv_iconst (v := 0) hx hb dX7_daily_35 (by decide) ?_
        refine lv_istore (lv' := [(6, .int 0), (0, .ref (ad 11)), (1, .int s9), (2, .int d), (3, .int f), (4, .int t), (5, .int r)]) hx hb dX7_daily_36 hl (by decide) rfl (fun ls hl => ?_)
        refine lv_aload_n hx hb dX7_daily_38 rfl (lv_at hl 1 rfl) ?_
        refine lv_aload_n hx hb dX7_daily_39 rfl (lv_at hl 1 rfl) ?_
        refine lv_iload_n hx hb dX7_daily_40 rfl (lv_at hl 2 rfl) ?_
        refine ro_callV MC HS (rest := [.ref (ad 11)]) (As := [.int s9]) (m_isScope hw s9) (lkX7_76) (kw698) (kw16) ⟨Nat.le_of_ble_eq_true rfl, Nat.le_of_ble_eq_true rfl⟩ (mo_recv MC hw) hl.1 rfl (Nat.le_of_ble_eq_true rfl) dX7_daily_41 ⟨Nat.le_of_ble_eq_true rfl, Nat.le_of_ble_eq_true rfl⟩ (fun v9 H14 lH14 hp hz HS => ?_)
        obtain ⟨rfl, rfl⟩ := hp
        refine lv_if_eq (tgt := 54) hx hb dX7_daily_44 (by decide) (fun c_44 => ?_) (fun c_44 => ?_)
        · have f_44 := bI_0.mp c_44
          refine lv_iconst (v := 1) hx hb dX7_daily_54 (by decide) ?_
          refine lv_goto (tgt := 81) hx hb dX7_daily_55 (by decide) ?_
          refine mo_put MC hw HS 0 (by decide) kw618 rfl rfl rfl τ 1 rfl (fun _ _ => rfl) dX7_daily_81 (fun H15 lH15 hw HS => ?_)
          refine lv_aload_n hx hb dX7_daily_84 rfl (lv_at hl 1 rfl) ?_
          refine mo_get MC hw 0 (by decide) kw618 rfl rfl dX7_daily_85 ?_
          refine lv_if_le (tgt := 95) hx hb dX7_daily_88 (by decide) (fun c_88 => absurd c_88 (by decide)) (fun c_88 => ?_)
          refine lv_iconst (v := 0) hx hb dX7_daily_91 (by decide) ?_
          refine lv_goto (tgt := 107) hx hb dX7_daily_92 (by decide) ?_
          have hth : th_daily τ s9 d f t r = 1 := ax_daily_6 f_7 f_18 f_28 f_44
          exact ro_iretM MC HS hr ⟨_, rfl, by rw [hth, if_neg (by decide)]; exact hw, fun h0 => absurd (hth.symm.trans h0) (by decide)⟩ (Nat.le_refl _) (Nat.le_refl _) dX7_daily_107
        · have f_44 := bI_n0.mp c_44
          refine lv_iload_n hx hb dX7_daily_47 rfl (lv_at hl 3 rfl) ?_
          refine ro_callS MC HS (rest := [.ref (ad 11)]) (As := [.int d]) (m_isLand l D ids n0 d) (lkX7_80) (kw708) ⟨Nat.le_of_ble_eq_true rfl, Nat.le_of_ble_eq_true rfl⟩ hl.1 rfl (Nat.le_of_ble_eq_true rfl) dX7_daily_48 ⟨Nat.le_of_ble_eq_true rfl, Nat.le_of_ble_eq_true rfl⟩ (fun v9 H16 lH16 hp hz HS => ?_)
          obtain ⟨rfl, rfl⟩ := hp
          refine lv_if_ne (tgt := 58) hx hb dX7_daily_51 (by decide) (fun c_51 => ?_) (fun c_51 => ?_)
          · have f_51 := bI_n0.mp c_51
            refine lv_iload hx hb dX7_daily_58 (lv_at hl 0 rfl) ?_
            refine lv_if_ne (tgt := 67) hx hb dX7_daily_60 (by decide) (fun c_60 => absurd c_60 (by decide)) (fun c_60 => ?_)
            refine lv_iconst (v := 2) hx hb dX7_daily_63 (by decide) ?_
            refine lv_goto (tgt := 81) hx hb dX7_daily_64 (by decide) ?_
            refine mo_put MC hw HS 0 (by decide) kw618 rfl rfl rfl τ 2 rfl (fun _ _ => rfl) dX7_daily_81 (fun H17 lH17 hw HS => ?_)
            refine lv_aload_n hx hb dX7_daily_84 rfl (lv_at hl 1 rfl) ?_
            refine mo_get MC hw 0 (by decide) kw618 rfl rfl dX7_daily_85 ?_
            refine lv_if_le (tgt := 95) hx hb dX7_daily_88 (by decide) (fun c_88 => absurd c_88 (by decide)) (fun c_88 => ?_)
            refine lv_iconst (v := 0) hx hb dX7_daily_91 (by decide) ?_
            refine lv_goto (tgt := 107) hx hb dX7_daily_92 (by decide) ?_
            have hth : th_daily τ s9 d f t r = 2 := ax_daily_7 f_7 f_18 f_28 f_44 f_51
            exact ro_iretM MC HS hr ⟨_, rfl, by rw [hth, if_neg (by decide)]; exact hw, fun h0 => absurd (hth.symm.trans h0) (by decide)⟩ (Nat.le_refl _) (Nat.le_refl _) dX7_daily_107
          · have f_51 := bI_0.mp c_51
            refine lv_iconst (v := 1) hx hb dX7_daily_54 (by decide) ?_
            refine lv_goto (tgt := 81) hx hb dX7_daily_55 (by decide) ?_
            refine mo_put MC hw HS 0 (by decide) kw618 rfl rfl rfl τ 1 rfl (fun _ _ => rfl) dX7_daily_81 (fun H18 lH18 hw HS => ?_)
            refine lv_aload_n hx hb dX7_daily_84 rfl (lv_at hl 1 rfl) ?_
            refine mo_get MC hw 0 (by decide) kw618 rfl rfl dX7_daily_85 ?_
            refine lv_if_le (tgt := 95) hx hb dX7_daily_88 (by decide) (fun c_88 => absurd c_88 (by decide)) (fun c_88 => ?_)
            refine lv_iconst (v := 0) hx hb dX7_daily_91 (by decide) ?_
            refine lv_goto (tgt := 107) hx hb dX7_daily_92 (by decide) ?_
            have hth : th_daily τ s9 d f t r = 1 := ax_daily_8 f_7 f_18 f_28 f_44 f_51
            exact ro_iretM MC HS hr ⟨_, rfl, by rw [hth, if_neg (by decide)]; exact hw, fun h0 => absurd (hth.symm.trans h0) (by decide)⟩ (Nat.le_refl _) (Nat.le_refl _) dX7_daily_107
      · have f_28 := bI_n0.mp c_28
        refine lv_iconst (v := 1) hx hb dX7_daily_31 (by decide) ?_
        refine lv_goto (tgt := 36) hx hb dX7_daily_32 (by decide) ?_
        refine lv_istore (lv' := [(6, .int 1), (0, .ref (ad 11)), (1, .int s9), (2, .int d), (3, .int f), (4, .int t), (5, .int r)]) hx hb dX7_daily_36 hl (by decide) rfl (fun ls hl => ?_)
        refine lv_aload_n hx hb dX7_daily_38 rfl (lv_at hl 1 rfl) ?_
        refine lv_aload_n hx hb dX7_daily_39 rfl (lv_at hl 1 rfl) ?_
        refine lv_iload_n hx hb dX7_daily_40 rfl (lv_at hl 2 rfl) ?_
        refine ro_callV MC HS (rest := [.ref (ad 11)]) (As := [.int s9]) (m_isScope hw s9) (lkX7_76) (kw698) (kw16) ⟨Nat.le_of_ble_eq_true rfl, Nat.le_of_ble_eq_true rfl⟩ (mo_recv MC hw) hl.1 rfl (Nat.le_of_ble_eq_true rfl) dX7_daily_41 ⟨Nat.le_of_ble_eq_true rfl, Nat.le_of_ble_eq_true rfl⟩ (fun v9 H19 lH19 hp hz HS => ?_)
        obtain ⟨rfl, rfl⟩ := hp
        refine lv_if_eq (tgt := 54) hx hb dX7_daily_44 (by decide) (fun c_44 => ?_) (fun c_44 => ?_)
        · have f_44 := bI_0.mp c_44
          refine lv_iconst (v := 1) hx hb dX7_daily_54 (by decide) ?_
          refine lv_goto (tgt := 81) hx hb dX7_daily_55 (by decide) ?_
          refine mo_put MC hw HS 0 (by decide) kw618 rfl rfl rfl τ 1 rfl (fun _ _ => rfl) dX7_daily_81 (fun H20 lH20 hw HS => ?_)
          refine lv_aload_n hx hb dX7_daily_84 rfl (lv_at hl 1 rfl) ?_
          refine mo_get MC hw 0 (by decide) kw618 rfl rfl dX7_daily_85 ?_
          refine lv_if_le (tgt := 95) hx hb dX7_daily_88 (by decide) (fun c_88 => absurd c_88 (by decide)) (fun c_88 => ?_)
          refine lv_iconst (v := 0) hx hb dX7_daily_91 (by decide) ?_
          refine lv_goto (tgt := 107) hx hb dX7_daily_92 (by decide) ?_
          have hth : th_daily τ s9 d f t r = 1 := ax_daily_9 f_7 f_18 f_28 f_44
          exact ro_iretM MC HS hr ⟨_, rfl, by rw [hth, if_neg (by decide)]; exact hw, fun h0 => absurd (hth.symm.trans h0) (by decide)⟩ (Nat.le_refl _) (Nat.le_refl _) dX7_daily_107
        · have f_44 := bI_n0.mp c_44
          refine lv_iload_n hx hb dX7_daily_47 rfl (lv_at hl 3 rfl) ?_
          refine ro_callS MC HS (rest := [.ref (ad 11)]) (As := [.int d]) (m_isLand l D ids n0 d) (lkX7_80) (kw708) ⟨Nat.le_of_ble_eq_true rfl, Nat.le_of_ble_eq_true rfl⟩ hl.1 rfl (Nat.le_of_ble_eq_true rfl) dX7_daily_48 ⟨Nat.le_of_ble_eq_true rfl, Nat.le_of_ble_eq_true rfl⟩ (fun v9 H21 lH21 hp hz HS => ?_)
          obtain ⟨rfl, rfl⟩ := hp
          refine lv_if_ne (tgt := 58) hx hb dX7_daily_51 (by decide) (fun c_51 => ?_) (fun c_51 => ?_)
          · have f_51 := bI_n0.mp c_51
            refine lv_iload hx hb dX7_daily_58 (lv_at hl 0 rfl) ?_
            refine lv_if_ne (tgt := 67) hx hb dX7_daily_60 (by decide) (fun c_60 => ?_) (fun c_60 => absurd c_60 (by decide))
            refine lv_aload_n hx hb dX7_daily_67 rfl (lv_at hl 1 rfl) ?_
            refine mo_get MC hw 6 (by decide) kw624 rfl rfl dX7_daily_68 ?_
            refine lv_bipush (v := 20) hx hb dX7_daily_71 (by decide) ?_
            refine lv_icmp_ne (tgt := 80) hx hb dX7_daily_73 (by decide) (fun c_73 => ?_) (fun c_73 => ?_)
            · have hn20 : nl < 20 := by have := nI_ne (N := 20) hI.2.2.1.1 c_73; have := hI.2.2.1.2; omega
              refine lv_iconst (v := 0) hx hb dX7_daily_80 (by decide) ?_
              refine mo_put MC hw HS 0 (by decide) kw618 rfl rfl rfl τ 0 rfl (fun _ _ => rfl) dX7_daily_81 (fun H22 lH22 hw HS => ?_)
              refine lv_aload_n hx hb dX7_daily_84 rfl (lv_at hl 1 rfl) ?_
              refine mo_get MC hw 0 (by decide) kw618 rfl rfl dX7_daily_85 ?_
              refine lv_if_le (tgt := 95) hx hb dX7_daily_88 (by decide) (fun c_88 => ?_) (fun c_88 => absurd c_88 (by decide))
              refine lv_aload_n hx hb dX7_daily_95 rfl (lv_at hl 1 rfl) ?_
              refine lv_iconst (v := 1) hx hb dX7_daily_96 (by decide) ?_
              refine lv_iload_n hx hb dX7_daily_97 rfl (lv_at hl 2 rfl) ?_
              refine lv_iload_n hx hb dX7_daily_98 rfl (lv_at hl 3 rfl) ?_
              refine lv_iload_n hx hb dX7_daily_99 rfl (lv_at hl 4 rfl) ?_
              refine lv_iload hx hb dX7_daily_100 (lv_at hl 5 rfl) ?_
              refine lv_iload hx hb dX7_daily_102 (lv_at hl 6 rfl) ?_
              refine ro_callV MC HS (rest := []) (As := [.int 1, .int s9, .int d, .int f, .int t, .int r]) (m_lays hw hI 1 s9 d f t r hn20) (lkX7_89) (kw728) (kw17) ⟨Nat.le_of_ble_eq_true rfl, Nat.le_of_ble_eq_true rfl⟩ (mo_recv MC hw) hl.1 rfl (Nat.le_of_ble_eq_true rfl) dX7_daily_104 ⟨Nat.le_of_ble_eq_true rfl, Nat.le_of_ble_eq_true rfl⟩ (fun v9 H23 lH23 hp hz HS => ?_)
              obtain ⟨rfl, hw⟩ := hp
              have hth : th_daily τ s9 d f t r = 0 := ax_daily_10 f_7 f_18 f_28 f_44 f_51 c_73
              have hnx : nx_daily τ s9 d f t r = (nx_lays τ 1 s9 d f t r) := by simp only [nx_daily]
              exact ro_iretM MC HS hr ⟨_, rfl, by rw [hth, if_pos rfl, hnx]; exact hw, fun _ => by show τ 0 2 = rt_daily τ s9 d f t r; simp only [rt_daily]⟩ (Nat.le_refl _) (Nat.le_refl _) dX7_daily_107
            · refine lv_iconst (v := 3) hx hb dX7_daily_76 (by decide) ?_
              refine lv_goto (tgt := 81) hx hb dX7_daily_77 (by decide) ?_
              refine mo_put MC hw HS 0 (by decide) kw618 rfl rfl rfl τ 3 rfl (fun _ _ => rfl) dX7_daily_81 (fun H24 lH24 hw HS => ?_)
              refine lv_aload_n hx hb dX7_daily_84 rfl (lv_at hl 1 rfl) ?_
              refine mo_get MC hw 0 (by decide) kw618 rfl rfl dX7_daily_85 ?_
              refine lv_if_le (tgt := 95) hx hb dX7_daily_88 (by decide) (fun c_88 => absurd c_88 (by decide)) (fun c_88 => ?_)
              refine lv_iconst (v := 0) hx hb dX7_daily_91 (by decide) ?_
              refine lv_goto (tgt := 107) hx hb dX7_daily_92 (by decide) ?_
              have hth : th_daily τ s9 d f t r = 3 := ax_daily_11 f_7 f_18 f_28 f_44 f_51 c_73
              exact ro_iretM MC HS hr ⟨_, rfl, by rw [hth, if_neg (by decide)]; exact hw, fun h0 => absurd (hth.symm.trans h0) (by decide)⟩ (Nat.le_refl _) (Nat.le_refl _) dX7_daily_107
          · have f_51 := bI_0.mp c_51
            refine lv_iconst (v := 1) hx hb dX7_daily_54 (by decide) ?_
            refine lv_goto (tgt := 81) hx hb dX7_daily_55 (by decide) ?_
            refine mo_put MC hw HS 0 (by decide) kw618 rfl rfl rfl τ 1 rfl (fun _ _ => rfl) dX7_daily_81 (fun H25 lH25 hw HS => ?_)
            refine lv_aload_n hx hb dX7_daily_84 rfl (lv_at hl 1 rfl) ?_
            refine mo_get MC hw 0 (by decide) kw618 rfl rfl dX7_daily_85 ?_
            refine lv_if_le (tgt := 95) hx hb dX7_daily_88 (by decide) (fun c_88 => absurd c_88 (by decide)) (fun c_88 => ?_)
            refine lv_iconst (v := 0) hx hb dX7_daily_91 (by decide) ?_
            refine lv_goto (tgt := 107) hx hb dX7_daily_92 (by decide) ?_
            have hth : th_daily τ s9 d f t r = 1 := ax_daily_12 f_7 f_18 f_28 f_44 f_51
            exact ro_iretM MC HS hr ⟨_, rfl, by rw [hth, if_neg (by decide)]; exact hw, fun h0 => absurd (hth.symm.trans h0) (by decide)⟩ (Nat.le_refl _) (Nat.le_refl _) dX7_daily_107
set_option maxHeartbeats 4000000 in
set_option maxRecDepth 100000 in
theorem m_feasts {l : Launch} {D : va_G} {ids : Nat → ClassId} {n0 : Nat} {RR : List Nat} {ad : Nat → Nat} {τ : Tau} {th : Int32} {fr : Nat → va_E} {Hh : Heap} (hw : sM D ids n0 RR ad τ th fr Hh) {nw ns nl nc : Nat} (hI : Iv τ nw ns nl nc) (s9 : Int32) (d : Int32) (r : Int32) : ro_M l yX7_feasts cX7_feasts 4 (some FieldType.int) { frames := 2, cells := 0, slots := 0, locals := 60 } D ids n0 [.ref (ad 11), .int s9, .int d, .int r] Hh (fun v9 H1 => ∃ rz, v9 = some (.int rz) ∧ sM D ids n0 RR ad (if th_feasts τ s9 d r = 0 then nx_feasts τ s9 d r else τ) (th_feasts τ s9 d r) fr H1 ∧ (th_feasts τ s9 d r = 0 → rz = rt_feasts τ s9 d r)) := by
  refine ro_ofM (by decide +kernel) (Nat.le_of_ble_eq_true rfl) ?_
  intro p e s m below meth c MC hhp hr hnm HS ls hl
  have hx := MC.1.1
  have hb := MC.1.2.1
  have hl : lv_has ls 4 [(0, .ref (ad 11)), (1, .int s9), (2, .int d), (3, .int r)] := hl
  refine lv_aload_n hx hb dX7_feasts_0 rfl (lv_at hl 0 rfl) ?_
  refine lv_aload_n hx hb dX7_feasts_1 rfl (lv_at hl 0 rfl) ?_
  refine lv_iload_n hx hb dX7_feasts_2 rfl (lv_at hl 1 rfl) ?_
  refine ro_callV MC HS (rest := [.ref (ad 11)]) (As := [.int s9]) (m_isScope hw s9) (lkX7_76) (kw698) (kw16) ⟨Nat.le_of_ble_eq_true rfl, Nat.le_of_ble_eq_true rfl⟩ (mo_recv MC hw) hl.1 rfl (Nat.le_of_ble_eq_true rfl) dX7_feasts_3 ⟨Nat.le_of_ble_eq_true rfl, Nat.le_of_ble_eq_true rfl⟩ (fun v9 H1 lH1 hp hz HS => ?_)
  obtain ⟨rfl, rfl⟩ := hp
  refine lv_if_eq (tgt := 16) hx hb dX7_feasts_6 (by decide) (fun c_6 => ?_) (fun c_6 => ?_)
  · have f_6 := bI_0.mp c_6
    refine lv_iconst (v := 1) hx hb dX7_feasts_16 (by decide) ?_
    refine lv_goto (tgt := 47) hx hb dX7_feasts_17 (by decide) ?_
    refine mo_put MC hw HS 0 (by decide) kw618 rfl rfl rfl τ 1 rfl (fun _ _ => rfl) dX7_feasts_47 (fun H2 lH2 hw HS => ?_)
    refine lv_aload_n hx hb dX7_feasts_50 rfl (lv_at hl 0 rfl) ?_
    refine mo_get MC hw 0 (by decide) kw618 rfl rfl dX7_feasts_51 ?_
    refine lv_if_le (tgt := 61) hx hb dX7_feasts_54 (by decide) (fun c_54 => absurd c_54 (by decide)) (fun c_54 => ?_)
    refine lv_iconst (v := 0) hx hb dX7_feasts_57 (by decide) ?_
    refine lv_goto (tgt := 71) hx hb dX7_feasts_58 (by decide) ?_
    have hth : th_feasts τ s9 d r = 1 := ax_feasts_0 f_6
    exact ro_iretM MC HS hr ⟨_, rfl, by rw [hth, if_neg (by decide)]; exact hw, fun h0 => absurd (hth.symm.trans h0) (by decide)⟩ (Nat.le_refl _) (Nat.le_refl _) dX7_feasts_71
  · have f_6 := bI_n0.mp c_6
    refine lv_iload_n hx hb dX7_feasts_9 rfl (lv_at hl 2 rfl) ?_
    refine ro_callS MC HS (rest := [.ref (ad 11)]) (As := [.int d]) (m_isLand l D ids n0 d) (lkX7_80) (kw708) ⟨Nat.le_of_ble_eq_true rfl, Nat.le_of_ble_eq_true rfl⟩ hl.1 rfl (Nat.le_of_ble_eq_true rfl) dX7_feasts_10 ⟨Nat.le_of_ble_eq_true rfl, Nat.le_of_ble_eq_true rfl⟩ (fun v9 H3 lH3 hp hz HS => ?_)
    obtain ⟨rfl, rfl⟩ := hp
    refine lv_if_ne (tgt := 20) hx hb dX7_feasts_13 (by decide) (fun c_13 => ?_) (fun c_13 => ?_)
    · have f_13 := bI_n0.mp c_13
      refine lv_iload_n hx hb dX7_feasts_20 rfl (lv_at hl 3 rfl) ?_
      refine lv_iconst (v := 1) hx hb dX7_feasts_21 (by decide) ?_
      refine lv_iconst (v := 3) hx hb dX7_feasts_22 (by decide) ?_
      refine ro_callS MC HS (rest := [.ref (ad 11)]) (As := [.int r, .int 1, .int 3]) (m_isIn l D ids n0 r 1 3) (lkX7_72) (kw701) ⟨Nat.le_of_ble_eq_true rfl, Nat.le_of_ble_eq_true rfl⟩ hl.1 rfl (Nat.le_of_ble_eq_true rfl) dX7_feasts_23 ⟨Nat.le_of_ble_eq_true rfl, Nat.le_of_ble_eq_true rfl⟩ (fun v9 H4 lH4 hp hz HS => ?_)
      obtain ⟨rfl, rfl⟩ := hp
      refine lv_if_ne (tgt := 33) hx hb dX7_feasts_26 (by decide) (fun c_26 => ?_) (fun c_26 => ?_)
      · have f_26 := bI_n0.mp c_26
        refine lv_aload_n hx hb dX7_feasts_33 rfl (lv_at hl 0 rfl) ?_
        refine mo_get MC hw 6 (by decide) kw624 rfl rfl dX7_feasts_34 ?_
        refine lv_bipush (v := 20) hx hb dX7_feasts_37 (by decide) ?_
        refine lv_icmp_ne (tgt := 46) hx hb dX7_feasts_39 (by decide) (fun c_39 => ?_) (fun c_39 => ?_)
        · have hn20 : nl < 20 := by have := nI_ne (N := 20) hI.2.2.1.1 c_39; have := hI.2.2.1.2; omega
          refine lv_iconst (v := 0) hx hb dX7_feasts_46 (by decide) ?_
          refine mo_put MC hw HS 0 (by decide) kw618 rfl rfl rfl τ 0 rfl (fun _ _ => rfl) dX7_feasts_47 (fun H5 lH5 hw HS => ?_)
          refine lv_aload_n hx hb dX7_feasts_50 rfl (lv_at hl 0 rfl) ?_
          refine mo_get MC hw 0 (by decide) kw618 rfl rfl dX7_feasts_51 ?_
          refine lv_if_le (tgt := 61) hx hb dX7_feasts_54 (by decide) (fun c_54 => ?_) (fun c_54 => absurd c_54 (by decide))
          refine lv_aload_n hx hb dX7_feasts_61 rfl (lv_at hl 0 rfl) ?_
          refine lv_iconst (v := 2) hx hb dX7_feasts_62 (by decide) ?_
          refine lv_iload_n hx hb dX7_feasts_63 rfl (lv_at hl 1 rfl) ?_
          refine lv_iload_n hx hb dX7_feasts_64 rfl (lv_at hl 2 rfl) ?_
          refine lv_iconst (v := 0) hx hb dX7_feasts_65 (by decide) ?_
          refine lv_iconst (v := 0) hx hb dX7_feasts_66 (by decide) ?_
          refine lv_iload_n hx hb dX7_feasts_67 rfl (lv_at hl 3 rfl) ?_
          refine ro_callV MC HS (rest := []) (As := [.int 2, .int s9, .int d, .int 0, .int 0, .int r]) (m_lays hw hI 2 s9 d 0 0 r hn20) (lkX7_89) (kw728) (kw17) ⟨Nat.le_of_ble_eq_true rfl, Nat.le_of_ble_eq_true rfl⟩ (mo_recv MC hw) hl.1 rfl (Nat.le_of_ble_eq_true rfl) dX7_feasts_68 ⟨Nat.le_of_ble_eq_true rfl, Nat.le_of_ble_eq_true rfl⟩ (fun v9 H6 lH6 hp hz HS => ?_)
          obtain ⟨rfl, hw⟩ := hp
          have hth : th_feasts τ s9 d r = 0 := ax_feasts_1 f_6 f_13 f_26 c_39
          have hnx : nx_feasts τ s9 d r = (nx_lays τ 2 s9 d 0 0 r) := by simp only [nx_feasts]
          exact ro_iretM MC HS hr ⟨_, rfl, by rw [hth, if_pos rfl, hnx]; exact hw, fun _ => by show τ 0 2 = rt_feasts τ s9 d r; simp only [rt_feasts]⟩ (Nat.le_refl _) (Nat.le_refl _) dX7_feasts_71
        · refine lv_iconst (v := 3) hx hb dX7_feasts_42 (by decide) ?_
          refine lv_goto (tgt := 47) hx hb dX7_feasts_43 (by decide) ?_
          refine mo_put MC hw HS 0 (by decide) kw618 rfl rfl rfl τ 3 rfl (fun _ _ => rfl) dX7_feasts_47 (fun H7 lH7 hw HS => ?_)
          refine lv_aload_n hx hb dX7_feasts_50 rfl (lv_at hl 0 rfl) ?_
          refine mo_get MC hw 0 (by decide) kw618 rfl rfl dX7_feasts_51 ?_
          refine lv_if_le (tgt := 61) hx hb dX7_feasts_54 (by decide) (fun c_54 => absurd c_54 (by decide)) (fun c_54 => ?_)
          refine lv_iconst (v := 0) hx hb dX7_feasts_57 (by decide) ?_
          refine lv_goto (tgt := 71) hx hb dX7_feasts_58 (by decide) ?_
          have hth : th_feasts τ s9 d r = 3 := ax_feasts_2 f_6 f_13 f_26 c_39
          exact ro_iretM MC HS hr ⟨_, rfl, by rw [hth, if_neg (by decide)]; exact hw, fun h0 => absurd (hth.symm.trans h0) (by decide)⟩ (Nat.le_refl _) (Nat.le_refl _) dX7_feasts_71
      · have f_26 := bI_0.mp c_26
        refine lv_iconst (v := 2) hx hb dX7_feasts_29 (by decide) ?_
        refine lv_goto (tgt := 47) hx hb dX7_feasts_30 (by decide) ?_
        refine mo_put MC hw HS 0 (by decide) kw618 rfl rfl rfl τ 2 rfl (fun _ _ => rfl) dX7_feasts_47 (fun H8 lH8 hw HS => ?_)
        refine lv_aload_n hx hb dX7_feasts_50 rfl (lv_at hl 0 rfl) ?_
        refine mo_get MC hw 0 (by decide) kw618 rfl rfl dX7_feasts_51 ?_
        refine lv_if_le (tgt := 61) hx hb dX7_feasts_54 (by decide) (fun c_54 => absurd c_54 (by decide)) (fun c_54 => ?_)
        refine lv_iconst (v := 0) hx hb dX7_feasts_57 (by decide) ?_
        refine lv_goto (tgt := 71) hx hb dX7_feasts_58 (by decide) ?_
        have hth : th_feasts τ s9 d r = 2 := ax_feasts_3 f_6 f_13 f_26
        exact ro_iretM MC HS hr ⟨_, rfl, by rw [hth, if_neg (by decide)]; exact hw, fun h0 => absurd (hth.symm.trans h0) (by decide)⟩ (Nat.le_refl _) (Nat.le_refl _) dX7_feasts_71
    · have f_13 := bI_0.mp c_13
      refine lv_iconst (v := 1) hx hb dX7_feasts_16 (by decide) ?_
      refine lv_goto (tgt := 47) hx hb dX7_feasts_17 (by decide) ?_
      refine mo_put MC hw HS 0 (by decide) kw618 rfl rfl rfl τ 1 rfl (fun _ _ => rfl) dX7_feasts_47 (fun H9 lH9 hw HS => ?_)
      refine lv_aload_n hx hb dX7_feasts_50 rfl (lv_at hl 0 rfl) ?_
      refine mo_get MC hw 0 (by decide) kw618 rfl rfl dX7_feasts_51 ?_
      refine lv_if_le (tgt := 61) hx hb dX7_feasts_54 (by decide) (fun c_54 => absurd c_54 (by decide)) (fun c_54 => ?_)
      refine lv_iconst (v := 0) hx hb dX7_feasts_57 (by decide) ?_
      refine lv_goto (tgt := 71) hx hb dX7_feasts_58 (by decide) ?_
      have hth : th_feasts τ s9 d r = 1 := ax_feasts_4 f_6 f_13
      exact ro_iretM MC HS hr ⟨_, rfl, by rw [hth, if_neg (by decide)]; exact hw, fun h0 => absurd (hth.symm.trans h0) (by decide)⟩ (Nat.le_refl _) (Nat.le_refl _) dX7_feasts_71
