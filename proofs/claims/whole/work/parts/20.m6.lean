theorem ax_lift_0 {τ : Tau} {k9 : Int32} (f_6 : ¬ (okF τ k9)) : th_lift τ k9 = 1 := by
  unfold th_lift; grind
theorem ax_lift_1 {τ : Tau} {k9 : Int32} {kn : Nat} (hfc : cx k9 = kn) (f_6 : okF τ k9) : th_lift τ k9 = 0 := by
  unfold th_lift; grind
theorem ax_hours_0 {τ : Tau} {k9 : Int32} (f_6 : ¬ (okF τ k9)) : th_hours τ k9 = 1 := by
  unfold th_hours; grind
theorem ax_hours_1 {τ : Tau} {k9 : Int32} {kn : Nat} (hfc : cx k9 = kn) (f_6 : okF τ k9) : th_hours τ k9 = 0 := by
  unfold th_hours; grind
theorem ax_move_0 {τ : Tau} {c9 : Int32} {f : Int32} (f_5 : ¬ (0 ≤ c9 ∧ c9 ≤ τ 0 3 - 1)) : th_move τ c9 f = 1 := by
  unfold th_move; grind
theorem ax_move_1 {τ : Tau} {c9 : Int32} {f : Int32} {kc : Nat} (hkc : cx c9 = kc) (f_5 : 0 ≤ c9 ∧ c9 ≤ τ 0 3 - 1) (f_19 : ¬ (τ 0 0 ≤ f ∧ f < 672 ∧ f + τ 13 kc ≤ 672)) : th_move τ c9 f = 2 := by
  unfold th_move; grind
theorem axq_move {τ : Tau} {c9 : Int32} {f : Int32} {kc : Nat} (hkc : cx c9 = kc) (f_5 : 0 ≤ c9 ∧ c9 ≤ τ 0 3 - 1) (f_19 : τ 0 0 ≤ f ∧ f < 672 ∧ f + τ 13 kc ≤ 672) (c_56 : τ 17 kc = (-1)) : th_move τ c9 f = 0 := by
  unfold th_move; grind
theorem ax_move_2 {τ : Tau} {c9 : Int32} {f : Int32} {kc : Nat} (hkc : cx c9 = kc) (f_5 : 0 ≤ c9 ∧ c9 ≤ τ 0 3 - 1) (f_19 : τ 0 0 ≤ f ∧ f < 672 ∧ f + τ 13 kc ≤ 672) (c_56 : τ 17 kc = (-1)) : th_move τ c9 f = 0 := by
  unfold th_move; grind
theorem ax_move_3 {τ : Tau} {c9 : Int32} {f : Int32} {kc : Nat} (hkc : cx c9 = kc) (f_5 : 0 ≤ c9 ∧ c9 ≤ τ 0 3 - 1) (f_19 : τ 0 0 ≤ f ∧ f < 672 ∧ f + τ 13 kc ≤ 672) (c_56 : ¬ (τ 17 kc = (-1))) : th_move τ c9 f = 3 := by
  unfold th_move; grind
theorem ax_begin_0 {τ : Tau} {c9 : Int32} (f_6 : ¬ (0 ≤ c9 ∧ c9 ≤ τ 0 3 - 1)) : th_begin τ c9 = 1 := by
  unfold th_begin; grind
theorem ax_begin_1 {τ : Tau} {c9 : Int32} {kc : Nat} (hkc : cx c9 = kc) (f_6 : 0 ≤ c9 ∧ c9 ≤ τ 0 3 - 1) (c_33 : ¬ (τ 17 kc = (-1))) : th_begin τ c9 = 2 := by
  unfold th_begin; grind
theorem ax_begin_2 {τ : Tau} {c9 : Int32} {kc : Nat} (hkc : cx c9 = kc) (f_6 : 0 ≤ c9 ∧ c9 ≤ τ 0 3 - 1) (c_33 : τ 17 kc = (-1)) (c_46 : ¬ (τ 0 0 = τ 12 kc)) : th_begin τ c9 = 2 := by
  unfold th_begin; grind
theorem ax_begin_3 {τ : Tau} {c9 : Int32} {kc : Nat} (hkc : cx c9 = kc) (f_6 : 0 ≤ c9 ∧ c9 ≤ τ 0 3 - 1) (c_33 : τ 17 kc = (-1)) (c_46 : τ 0 0 = τ 12 kc) (c_61 : ¬ (τ 15 kc = τ 14 kc)) : th_begin τ c9 = 2 := by
  unfold th_begin; grind
theorem ax_begin_4 {τ : Tau} {c9 : Int32} {kc : Nat} (hkc : cx c9 = kc) (hbz : nI (badN τ kc) = 0 ↔ badN τ kc = 0) (f_6 : 0 ≤ c9 ∧ c9 ≤ τ 0 3 - 1) (c_33 : τ 17 kc = (-1)) (c_46 : τ 0 0 = τ 12 kc) (c_61 : τ 15 kc = τ 14 kc) (c_80 : ¬ (nI (badN τ kc) = 0)) : th_begin τ c9 = 2 := by
  unfold th_begin; grind
theorem ax_begin_5 {τ : Tau} {c9 : Int32} {kc : Nat} (hkc : cx c9 = kc) (hbz : nI (badN τ kc) = 0 ↔ badN τ kc = 0) (f_6 : 0 ≤ c9 ∧ c9 ≤ τ 0 3 - 1) (c_33 : τ 17 kc = (-1)) (c_46 : τ 0 0 = τ 12 kc) (c_61 : τ 15 kc = τ 14 kc) (c_80 : nI (badN τ kc) = 0) : th_begin τ c9 = 0 := by
  unfold th_begin; grind
theorem ax_badHours_0 {τ : Tau} {c9 : Int32} (f_6 : ¬ (0 ≤ c9 ∧ c9 ≤ τ 0 3 - 1)) : th_badHours τ c9 = 1 := by
  unfold th_badHours; grind
theorem ax_badHours_1 {τ : Tau} {c9 : Int32} {kc : Nat} (hkc : cx c9 = kc) (f_6 : 0 ≤ c9 ∧ c9 ≤ τ 0 3 - 1) : th_badHours τ c9 = 0 := by
  unfold th_badHours; grind
theorem ax_firstBad_0 {τ : Tau} {c9 : Int32} (f_6 : ¬ (0 ≤ c9 ∧ c9 ≤ τ 0 3 - 1)) : th_badHours τ c9 = 1 := by
  unfold th_badHours; grind
theorem ax_firstBad_1 {τ : Tau} {c9 : Int32} {kc : Nat} (hkc : cx c9 = kc) (f_6 : 0 ≤ c9 ∧ c9 ≤ τ 0 3 - 1) : th_badHours τ c9 = 0 := by
  unfold th_badHours; grind
theorem ax_reasons_0 {τ : Tau} {c9 : Int32} (f_6 : ¬ (0 ≤ c9 ∧ c9 ≤ τ 0 3 - 1)) : th_badHours τ c9 = 1 := by
  unfold th_badHours; grind
theorem ax_reasons_1 {τ : Tau} {c9 : Int32} {kc : Nat} (hkc : cx c9 = kc) (f_6 : 0 ≤ c9 ∧ c9 ≤ τ 0 3 - 1) : th_badHours τ c9 = 0 := by
  unfold th_badHours; grind
set_option maxHeartbeats 4000000 in
set_option maxRecDepth 100000 in
theorem m_lift {l : Launch} {D : va_G} {ids : Nat → ClassId} {n0 : Nat} {RR : List Nat} {ad : Nat → Nat} {τ : Tau} {th : Int32} {fr : Nat → va_E} {Hh : Heap} (hw : sM D ids n0 RR ad τ th fr Hh) {nw ns nl nc : Nat} (hI : Iv τ nw ns nl nc) (k9 : Int32) : ro_M l yX7_lift cX7_lift 4 (some FieldType.int) { frames := 2, cells := 0, slots := 0, locals := 60 } D ids n0 [.ref (ad 11), .int k9] Hh (fun v9 H1 => ∃ rz, v9 = some (.int rz) ∧ sM D ids n0 RR ad (if th_lift τ k9 = 0 then nx_lift τ k9 else τ) (th_lift τ k9) fr H1 ∧ (th_lift τ k9 = 0 → rz = rt_lift τ k9)) := by
  refine ro_ofM (by decide +kernel) (Nat.le_of_ble_eq_true rfl) ?_
  intro p e s m below meth c MC hhp hr hnm HS ls hl
  have hx := MC.1.1
  have hb := MC.1.2.1
  have hl : lv_has ls 4 [(0, .ref (ad 11)), (1, .int k9)] := hl
  refine lv_aload_n hx hb dX7_lift_0 rfl (lv_at hl 0 rfl) ?_
  refine lv_aload_n hx hb dX7_lift_1 rfl (lv_at hl 0 rfl) ?_
  refine lv_iload_n hx hb dX7_lift_2 rfl (lv_at hl 1 rfl) ?_
  refine ro_callV MC HS (rest := [.ref (ad 11)]) (As := [.int k9]) (m_isFreeze hw hI k9) (lkX7_93) (kw744) (kw18) ⟨Nat.le_of_ble_eq_true rfl, Nat.le_of_ble_eq_true rfl⟩ (mo_recv MC hw) hl.1 rfl (Nat.le_of_ble_eq_true rfl) dX7_lift_3 ⟨Nat.le_of_ble_eq_true rfl, Nat.le_of_ble_eq_true rfl⟩ (fun v9 H1 lH1 hp hz HS => ?_)
  obtain ⟨rfl, rfl⟩ := hp
  refine lv_if_eq (tgt := 13) hx hb dX7_lift_6 (by decide) (fun c_6 => ?_) (fun c_6 => ?_)
  · have f_6 := bI_0.mp c_6
    refine lv_iconst (v := 1) hx hb dX7_lift_13 (by decide) ?_
    refine mo_put MC hw HS 0 (by decide) kw618 rfl rfl rfl τ 1 rfl (fun _ _ => rfl) dX7_lift_14 (fun H2 lH2 hw HS => ?_)
    refine lv_aload_n hx hb dX7_lift_17 rfl (lv_at hl 0 rfl) ?_
    refine mo_get MC hw 0 (by decide) kw618 rfl rfl dX7_lift_18 ?_
    refine lv_if_le (tgt := 26) hx hb dX7_lift_21 (by decide) (fun c_21 => absurd c_21 (by decide)) (fun c_21 => ?_)
    refine lv_iconst (v := 0) hx hb dX7_lift_24 (by decide) ?_
    have hth : th_lift τ k9 = 1 := ax_lift_0 f_6
    exact ro_iretM MC HS hr ⟨_, rfl, by rw [hth, if_neg (by decide)]; exact hw, fun h0 => absurd (hth.symm.trans h0) (by decide)⟩ (Nat.le_refl _) (Nat.le_refl _) dX7_lift_25
  · have f_6 := bI_n0.mp c_6
    obtain ⟨kn, hkn, hfa, hfc⟩ := hI.n f_6.1
    have hnl := hI.2.2.1.2
    have hcs : cx (τ 0 2) = nl := by rw [hI.2.2.1.1]; exact cx_nI (by omega)
    refine lv_iconst (v := 0) hx hb dX7_lift_9 (by decide) ?_
    refine lv_goto (tgt := 14) hx hb dX7_lift_10 (by decide) ?_
    refine mo_put MC hw HS 0 (by decide) kw618 rfl rfl rfl τ 0 rfl (fun _ _ => rfl) dX7_lift_14 (fun H3 lH3 hw HS => ?_)
    refine lv_aload_n hx hb dX7_lift_17 rfl (lv_at hl 0 rfl) ?_
    refine mo_get MC hw 0 (by decide) kw618 rfl rfl dX7_lift_18 ?_
    refine lv_if_le (tgt := 26) hx hb dX7_lift_21 (by decide) (fun c_21 => ?_) (fun c_21 => absurd c_21 (by decide))
    refine lv_aload_n hx hb dX7_lift_26 rfl (lv_at hl 0 rfl) ?_
    refine mo_get MC hw 7 (by decide) kw625 rfl rfl dX7_lift_27 ?_
    refine lv_iload_n hx hb dX7_lift_30 rfl (lv_at hl 1 rfl) ?_
    refine lv_iconst (v := 1) hx hb dX7_lift_31 (by decide) ?_
    refine mo_zast MC hw HS 4 (by decide) (by decide) rfl kn (show kn < 20 by omega) hfa rfl dX7_lift_32 (fun H4 lH4 hw HS => ?_)
    refine lv_iconst (v := 0) hx hb dX7_lift_33 (by decide) ?_
    refine lv_istore_n (lv' := [(2, .int 0), (0, .ref (ad 11)), (1, .int k9)]) hx hb dX7_lift_34 rfl hl (by decide) rfl (fun ls hl => ?_)
    refine lv_iconst (v := 0) hx hb dX7_lift_35 (by decide) ?_
    refine lv_istore_n (lv' := [(3, .int 0), (2, .int 0), (0, .ref (ad 11)), (1, .int k9)]) hx hb dX7_lift_36 rfl hl (by decide) rfl (fun ls hl => ?_)
    have loop : ∀ k : Nat, k ≤ nl → ∀ (locs : List Loc) (ls : Array Slot), va_S (fun q => n0 ≤ q) s.heap H4 locs → lv_has ls 4 [(3, .int (nI k)), (2, .int (nI (ct (fun j => ti τ 4 kn 1 4 j == 0) k))), (0, .ref (ad 11)), (1, .int k9)] → W p l e { frames := 2, cells := 0, slots := 0, locals := 60 } s m ([.ref (ad 11), .int k9] : List Value).toArray below meth c H4 locs 0 0 (MQ below (ro_Q n0 (fun v9 H1 => ∃ rz, v9 = some (.int rz) ∧ sM D ids n0 RR ad (if th_lift τ k9 = 0 then nx_lift τ k9 else τ) (th_lift τ k9) fr H1 ∧ (th_lift τ k9 = 0 → rz = rt_lift τ k9))) ([.ref (ad 11), .int k9] : List Value).toArray s 0 0 (fun q => n0 ≤ q)) (F0 m 37 ls []) := by
      refine ro_loop (nl) (fun k : Nat => ∀ (locs : List Loc) (ls : Array Slot), va_S (fun q => n0 ≤ q) s.heap H4 locs → lv_has ls 4 [(3, .int (nI k)), (2, .int (nI (ct (fun j => ti τ 4 kn 1 4 j == 0) k))), (0, .ref (ad 11)), (1, .int k9)] → W p l e { frames := 2, cells := 0, slots := 0, locals := 60 } s m ([.ref (ad 11), .int k9] : List Value).toArray below meth c H4 locs 0 0 (MQ below (ro_Q n0 (fun v9 H1 => ∃ rz, v9 = some (.int rz) ∧ sM D ids n0 RR ad (if th_lift τ k9 = 0 then nx_lift τ k9 else τ) (th_lift τ k9) fr H1 ∧ (th_lift τ k9 = 0 → rz = rt_lift τ k9))) ([.ref (ad 11), .int k9] : List Value).toArray s 0 0 (fun q => n0 ≤ q)) (F0 m 37 ls [])) ?_ ?_
      · intro locs ls HS hl
        refine lv_iload_n hx hb dX7_lift_37 rfl (lv_at hl 0 rfl) ?_
        refine lv_aload_n hx hb dX7_lift_38 rfl (lv_at hl 2 rfl) ?_
        refine mo_get MC hw 6 (by decide) kw624 rfl rfl dX7_lift_39 ?_
        refine lv_icmp_ge (tgt := 68) hx hb dX7_lift_42 (by decide) (fun c_42 => ?_) (fun c_42 => absurd (kn_le hI.2.2.1.1 (Nat.le_refl _) (by omega)) c_42)
        refine lv_iload_n hx hb dX7_lift_68 rfl (lv_at hl 1 rfl) ?_
        have hth : th_lift τ k9 = 0 := ax_lift_1 hfc f_6
        have hnx : nx_lift τ k9 = (ti τ 4 kn 1) := by simp only [nx_lift, hfc]
        exact ro_iretM MC HS hr ⟨_, rfl, by rw [hth, if_pos rfl, hnx]; exact hw, fun _ => by simp only [rt_lift, nx_lift, hfc]; show nI (ct _ nl) = nI (ct _ (cx (τ 0 2))); rw [hcs]⟩ (Nat.le_refl _) (Nat.le_refl _) dX7_lift_69
      · intro k hkk ih locs ls HS hl
        refine lv_iload_n hx hb dX7_lift_37 rfl (lv_at hl 0 rfl) ?_
        refine lv_aload_n hx hb dX7_lift_38 rfl (lv_at hl 2 rfl) ?_
        refine mo_get MC hw 6 (by decide) kw624 rfl rfl dX7_lift_39 ?_
        refine lv_icmp_ge (tgt := 68) hx hb dX7_lift_42 (by decide) (fun c_42 => absurd c_42 (kn_nle hI.2.2.1.1 hkk (by omega))) (fun c_42 => ?_)
        refine lv_iload_n hx hb dX7_lift_45 rfl (lv_at hl 1 rfl) ?_
        refine lv_aload_n hx hb dX7_lift_46 rfl (lv_at hl 2 rfl) ?_
        refine mo_get MC hw 7 (by decide) kw625 rfl rfl dX7_lift_47 ?_
        refine lv_iload_n hx hb dX7_lift_50 rfl (lv_at hl 0 rfl) ?_
        refine mo_zald MC hw 4 (by decide) (by decide) rfl k (show k < 20 by omega) rfl dX7_lift_51 ?_
        refine lv_if_eq (tgt := 59) hx hb dX7_lift_52 (by decide) (fun c_52 => ?_) (fun c_52 => ?_)
        · refine lv_iconst (v := 1) hx hb dX7_lift_59 (by decide) ?_
          refine lv_iadd hx hb dX7_lift_60 ?_
          refine lv_istore_n (lv' := [(2, .int ((nI (ct (fun j => ti τ 4 kn 1 4 j == 0) k) + 1))), (3, .int (nI k)), (0, .ref (ad 11)), (1, .int k9)]) hx hb dX7_lift_61 rfl hl (by decide) rfl (fun ls hl => ?_)
          refine lv_iinc (v := nI k + 1) (lv' := [(3, .int (nI k + 1)), (2, .int ((nI (ct (fun j => ti τ 4 kn 1 4 j == 0) k) + 1))), (0, .ref (ad 11)), (1, .int k9)]) hx hb dX7_lift_62 hl (k := 1) rfl rfl (by decide) rfl (fun ls hl => ?_)
          refine lv_goto (tgt := 37) hx hb dX7_lift_65 (by decide) ?_
          rw [ct_t (p := (fun j => ti τ 4 kn 1 4 j == 0)) (beq_iff_eq.mpr c_52), nI_1] at hl
          exact ih _ ls HS (lv_sub hl [0, 1, 2, 3] rfl)
        · refine lv_iconst (v := 0) hx hb dX7_lift_55 (by decide) ?_
          refine lv_goto (tgt := 60) hx hb dX7_lift_56 (by decide) ?_
          refine lv_iadd hx hb dX7_lift_60 ?_
          refine lv_istore_n (lv' := [(2, .int ((nI (ct (fun j => ti τ 4 kn 1 4 j == 0) k) + 0))), (3, .int (nI k)), (0, .ref (ad 11)), (1, .int k9)]) hx hb dX7_lift_61 rfl hl (by decide) rfl (fun ls hl => ?_)
          refine lv_iinc (v := nI k + 1) (lv' := [(3, .int (nI k + 1)), (2, .int ((nI (ct (fun j => ti τ 4 kn 1 4 j == 0) k) + 0))), (0, .ref (ad 11)), (1, .int k9)]) hx hb dX7_lift_62 hl (k := 1) rfl rfl (by decide) rfl (fun ls hl => ?_)
          refine lv_goto (tgt := 37) hx hb dX7_lift_65 (by decide) ?_
          rw [ct_f (p := (fun j => ti τ 4 kn 1 4 j == 0)) (beq_eq_false_iff_ne.mpr c_52), nI_1] at hl
          exact ih _ ls HS (lv_sub hl [0, 1, 2, 3] rfl)
    exact loop 0 (Nat.zero_le _) _ ls HS (lv_sub hl [0, 1, 2, 3] rfl)
set_option maxHeartbeats 4000000 in
set_option maxRecDepth 100000 in
theorem m_hours {l : Launch} {D : va_G} {ids : Nat → ClassId} {n0 : Nat} {RR : List Nat} {ad : Nat → Nat} {τ : Tau} {th : Int32} {fr : Nat → va_E} {Hh : Heap} (hw : sM D ids n0 RR ad τ th fr Hh) {nw ns nl nc : Nat} (hI : Iv τ nw ns nl nc) (k9 : Int32) : ro_M l yX7_hours cX7_hours 4 (some FieldType.int) { frames := 2, cells := 0, slots := 0, locals := 60 } D ids n0 [.ref (ad 11), .int k9] Hh (fun v9 H1 => ∃ rz, v9 = some (.int rz) ∧ sM D ids n0 RR ad τ (th_hours τ k9) fr H1 ∧ (th_hours τ k9 = 0 → rz = rt_hours τ k9)) := by
  refine ro_ofM (by decide +kernel) (Nat.le_of_ble_eq_true rfl) ?_
  intro p e s m below meth c MC hhp hr hnm HS ls hl
  have hx := MC.1.1
  have hb := MC.1.2.1
  have hl : lv_has ls 4 [(0, .ref (ad 11)), (1, .int k9)] := hl
  refine lv_aload_n hx hb dX7_hours_0 rfl (lv_at hl 0 rfl) ?_
  refine lv_aload_n hx hb dX7_hours_1 rfl (lv_at hl 0 rfl) ?_
  refine lv_iload_n hx hb dX7_hours_2 rfl (lv_at hl 1 rfl) ?_
  refine ro_callV MC HS (rest := [.ref (ad 11)]) (As := [.int k9]) (m_isFreeze hw hI k9) (lkX7_93) (kw744) (kw18) ⟨Nat.le_of_ble_eq_true rfl, Nat.le_of_ble_eq_true rfl⟩ (mo_recv MC hw) hl.1 rfl (Nat.le_of_ble_eq_true rfl) dX7_hours_3 ⟨Nat.le_of_ble_eq_true rfl, Nat.le_of_ble_eq_true rfl⟩ (fun v9 H1 lH1 hp hz HS => ?_)
  obtain ⟨rfl, rfl⟩ := hp
  refine lv_if_eq (tgt := 13) hx hb dX7_hours_6 (by decide) (fun c_6 => ?_) (fun c_6 => ?_)
  · have f_6 := bI_0.mp c_6
    refine lv_iconst (v := 1) hx hb dX7_hours_13 (by decide) ?_
    refine mo_put MC hw HS 0 (by decide) kw618 rfl rfl rfl τ 1 rfl (fun _ _ => rfl) dX7_hours_14 (fun H2 lH2 hw HS => ?_)
    refine lv_iconst (v := 0) hx hb dX7_hours_17 (by decide) ?_
    refine lv_istore_n (lv' := [(2, .int 0), (0, .ref (ad 11)), (1, .int k9)]) hx hb dX7_hours_18 rfl hl (by decide) rfl (fun ls hl => ?_)
    refine lv_iconst (v := 0) hx hb dX7_hours_19 (by decide) ?_
    refine lv_istore_n (lv' := [(3, .int 0), (2, .int 0), (0, .ref (ad 11)), (1, .int k9)]) hx hb dX7_hours_20 rfl hl (by decide) rfl (fun ls hl => ?_)
    refine lv_iload_n hx hb dX7_hours_21 rfl (lv_at hl 0 rfl) ?_
    refine lv_sipush (v := 672) hx hb dX7_hours_22 (by decide) ?_
    refine lv_icmp_ge (tgt := 58) hx hb dX7_hours_25 (by decide) (fun c_25 => absurd c_25 (by decide)) (fun c_25 => ?_)
    refine lv_aload_n hx hb dX7_hours_28 rfl (lv_at hl 2 rfl) ?_
    refine mo_get MC hw 0 (by decide) kw618 rfl rfl dX7_hours_29 ?_
    refine lv_if_ne (tgt := 58) hx hb dX7_hours_32 (by decide) (fun c_32 => ?_) (fun c_32 => absurd c_32 (by decide))
    refine lv_iload_n hx hb dX7_hours_58 rfl (lv_at hl 1 rfl) ?_
    have hth : th_hours τ k9 = 1 := ax_hours_0 f_6
    exact ro_iretM MC HS hr ⟨_, rfl, by rw [hth]; exact hw, fun h0 => absurd (hth.symm.trans h0) (by decide)⟩ (Nat.le_refl _) (Nat.le_refl _) dX7_hours_59
  · have f_6 := bI_n0.mp c_6
    obtain ⟨kn, hkn, hfa, hfc⟩ := hI.n f_6.1
    have hnl := hI.2.2.1.2
    have hcs : cx (τ 0 2) = nl := by rw [hI.2.2.1.1]; exact cx_nI (by omega)
    refine lv_iconst (v := 0) hx hb dX7_hours_9 (by decide) ?_
    refine lv_goto (tgt := 14) hx hb dX7_hours_10 (by decide) ?_
    refine mo_put MC hw HS 0 (by decide) kw618 rfl rfl rfl τ 0 rfl (fun _ _ => rfl) dX7_hours_14 (fun H3 lH3 hw HS => ?_)
    refine lv_iconst (v := 0) hx hb dX7_hours_17 (by decide) ?_
    refine lv_istore_n (lv' := [(2, .int 0), (0, .ref (ad 11)), (1, .int k9)]) hx hb dX7_hours_18 rfl hl (by decide) rfl (fun ls hl => ?_)
    refine lv_iconst (v := 0) hx hb dX7_hours_19 (by decide) ?_
    refine lv_istore_n (lv' := [(3, .int 0), (2, .int 0), (0, .ref (ad 11)), (1, .int k9)]) hx hb dX7_hours_20 rfl hl (by decide) rfl (fun ls hl => ?_)
    have loop : ∀ h : Nat, h ≤ 672 → ∀ (locs : List Loc) (ls : Array Slot), va_S (fun q => n0 ≤ q) s.heap H3 locs → lv_has ls 4 [(3, .int (nI h)), (2, .int (nI (ct (fun h => hoB τ kn (nI h)) h))), (0, .ref (ad 11)), (1, .int k9)] → W p l e { frames := 2, cells := 0, slots := 0, locals := 60 } s m ([.ref (ad 11), .int k9] : List Value).toArray below meth c H3 locs 0 0 (MQ below (ro_Q n0 (fun v9 H1 => ∃ rz, v9 = some (.int rz) ∧ sM D ids n0 RR ad τ (th_hours τ k9) fr H1 ∧ (th_hours τ k9 = 0 → rz = rt_hours τ k9))) ([.ref (ad 11), .int k9] : List Value).toArray s 0 0 (fun q => n0 ≤ q)) (F0 m 21 ls []) := by
      refine ro_loop (672) (fun h : Nat => ∀ (locs : List Loc) (ls : Array Slot), va_S (fun q => n0 ≤ q) s.heap H3 locs → lv_has ls 4 [(3, .int (nI h)), (2, .int (nI (ct (fun h => hoB τ kn (nI h)) h))), (0, .ref (ad 11)), (1, .int k9)] → W p l e { frames := 2, cells := 0, slots := 0, locals := 60 } s m ([.ref (ad 11), .int k9] : List Value).toArray below meth c H3 locs 0 0 (MQ below (ro_Q n0 (fun v9 H1 => ∃ rz, v9 = some (.int rz) ∧ sM D ids n0 RR ad τ (th_hours τ k9) fr H1 ∧ (th_hours τ k9 = 0 → rz = rt_hours τ k9))) ([.ref (ad 11), .int k9] : List Value).toArray s 0 0 (fun q => n0 ≤ q)) (F0 m 21 ls [])) ?_ ?_
      · intro locs ls HS hl
        refine lv_iload_n hx hb dX7_hours_21 rfl (lv_at hl 0 rfl) ?_
        refine lv_sipush (v := 672) hx hb dX7_hours_22 (by decide) ?_
        refine lv_icmp_ge (tgt := 58) hx hb dX7_hours_25 (by decide) (fun c_25 => ?_) (fun c_25 => absurd (kn_le (n := 672) rfl (Nat.le_refl _) (by omega)) c_25)
        refine lv_iload_n hx hb dX7_hours_58 rfl (lv_at hl 1 rfl) ?_
        have hth : th_hours τ k9 = 0 := ax_hours_1 hfc f_6
        exact ro_iretM MC HS hr ⟨_, rfl, by rw [hth]; exact hw, fun _ => by simp only [rt_hours, hfc]⟩ (Nat.le_refl _) (Nat.le_refl _) dX7_hours_59
      · intro h hkh ih locs ls HS hl
        refine lv_iload_n hx hb dX7_hours_21 rfl (lv_at hl 0 rfl) ?_
        refine lv_sipush (v := 672) hx hb dX7_hours_22 (by decide) ?_
        refine lv_icmp_ge (tgt := 58) hx hb dX7_hours_25 (by decide) (fun c_25 => absurd c_25 (kn_nle (n := 672) rfl hkh (by omega))) (fun c_25 => ?_)
        refine lv_aload_n hx hb dX7_hours_28 rfl (lv_at hl 2 rfl) ?_
        refine mo_get MC hw 0 (by decide) kw618 rfl rfl dX7_hours_29 ?_
        refine lv_if_ne (tgt := 58) hx hb dX7_hours_32 (by decide) (fun c_32 => absurd c_32 (by decide)) (fun c_32 => ?_)
        refine lv_iload_n hx hb dX7_hours_35 rfl (lv_at hl 1 rfl) ?_
        refine lv_aload_n hx hb dX7_hours_36 rfl (lv_at hl 2 rfl) ?_
        refine lv_iload_n hx hb dX7_hours_37 rfl (lv_at hl 3 rfl) ?_
        refine lv_iload_n hx hb dX7_hours_38 rfl (lv_at hl 0 rfl) ?_
        refine ro_callV MC HS (rest := [.int (nI (ct (fun h => hoB τ kn (nI h)) h))]) (As := [.int k9, .int (nI h)]) (by rw [hfa]; exact m_holds hw hI kn h hkn hkh) (lkX7_103) (kw764) (kw22) ⟨Nat.le_of_ble_eq_true rfl, Nat.le_of_ble_eq_true rfl⟩ (mo_recv MC hw) hl.1 rfl (Nat.le_of_ble_eq_true rfl) dX7_hours_39 ⟨Nat.le_of_ble_eq_true rfl, Nat.le_of_ble_eq_true rfl⟩ (fun v9 H4 lH4 hp hz HS => ?_)
        obtain ⟨rfl, rfl⟩ := hp
        refine lv_if_eq (tgt := 49) hx hb dX7_hours_42 (by decide) (fun c_42 => ?_) (fun c_42 => ?_)
        · have f_42 := bI_0.mp c_42
          refine lv_iconst (v := 0) hx hb dX7_hours_49 (by decide) ?_
          refine lv_iadd hx hb dX7_hours_50 ?_
          refine lv_istore_n (lv' := [(2, .int ((nI (ct (fun h => hoB τ kn (nI h)) h) + 0))), (3, .int (nI h)), (0, .ref (ad 11)), (1, .int k9)]) hx hb dX7_hours_51 rfl hl (by decide) rfl (fun ls hl => ?_)
          refine lv_iinc (v := nI h + 1) (lv' := [(3, .int (nI h + 1)), (2, .int ((nI (ct (fun h => hoB τ kn (nI h)) h) + 0))), (0, .ref (ad 11)), (1, .int k9)]) hx hb dX7_hours_52 hl (k := 1) rfl rfl (by decide) rfl (fun ls hl => ?_)
          refine lv_goto (tgt := 21) hx hb dX7_hours_55 (by decide) ?_
          rw [ct_f (p := (fun h => hoB τ kn (nI h))) (by simp [f_42]), nI_1] at hl
          exact ih _ ls HS (lv_sub hl [0, 1, 2, 3] rfl)
        · have f_42 := bI_n0.mp c_42
          refine lv_iconst (v := 1) hx hb dX7_hours_45 (by decide) ?_
          refine lv_goto (tgt := 50) hx hb dX7_hours_46 (by decide) ?_
          refine lv_iadd hx hb dX7_hours_50 ?_
          refine lv_istore_n (lv' := [(2, .int ((nI (ct (fun h => hoB τ kn (nI h)) h) + 1))), (3, .int (nI h)), (0, .ref (ad 11)), (1, .int k9)]) hx hb dX7_hours_51 rfl hl (by decide) rfl (fun ls hl => ?_)
          refine lv_iinc (v := nI h + 1) (lv' := [(3, .int (nI h + 1)), (2, .int ((nI (ct (fun h => hoB τ kn (nI h)) h) + 1))), (0, .ref (ad 11)), (1, .int k9)]) hx hb dX7_hours_52 hl (k := 1) rfl rfl (by decide) rfl (fun ls hl => ?_)
          refine lv_goto (tgt := 21) hx hb dX7_hours_55 (by decide) ?_
          rw [ct_t (p := (fun h => hoB τ kn (nI h))) (by simp [f_42]), nI_1] at hl
          exact ih _ ls HS (lv_sub hl [0, 1, 2, 3] rfl)
    exact loop 0 (Nat.zero_le _) _ ls HS (lv_sub hl [0, 1, 2, 3] rfl)
set_option maxHeartbeats 4000000 in
set_option maxRecDepth 100000 in
theorem m_move {l : Launch} {D : va_G} {ids : Nat → ClassId} {n0 : Nat} {RR : List Nat} {ad : Nat → Nat} {τ : Tau} {th : Int32} {fr : Nat → va_E} {Hh : Heap} (hw : sM D ids n0 RR ad τ th fr Hh) {nw ns nl nc : Nat} (hI : Iv τ nw ns nl nc) (c9 : Int32) (f : Int32) (hI2 : th_move τ c9 f = 0 → Iv (nx_move τ c9 f) nw ns nl nc) : ro_M l yX7_move cX7_move 4 (some FieldType.int) { frames := 5, cells := 0, slots := 0, locals := 150 } D ids n0 [.ref (ad 11), .int c9, .int f] Hh (fun v9 H1 => ∃ rz, v9 = some (.int rz) ∧ sM D ids n0 RR ad (if th_move τ c9 f = 0 then nx_move τ c9 f else τ) (th_move τ c9 f) fr H1 ∧ (th_move τ c9 f = 0 → rz = rt_move τ c9 f)) := by
  refine ro_ofM (by decide +kernel) (Nat.le_of_ble_eq_true rfl) ?_
  intro p e s m below meth c MC hhp hr hnm HS ls hl
  have hx := MC.1.1
  have hb := MC.1.2.1
  have hl : lv_has ls 4 [(0, .ref (ad 11)), (1, .int c9), (2, .int f)] := hl
  refine lv_aload_n hx hb dX7_move_0 rfl (lv_at hl 0 rfl) ?_
  refine lv_iload_n hx hb dX7_move_1 rfl (lv_at hl 1 rfl) ?_
  refine ro_callV MC HS (rest := []) (As := [.int c9]) (m_isChange hw c9) (lkX7_122) (kw788) (kw24) ⟨Nat.le_of_ble_eq_true rfl, Nat.le_of_ble_eq_true rfl⟩ (mo_recv MC hw) hl.1 rfl (Nat.le_of_ble_eq_true rfl) dX7_move_2 ⟨Nat.le_of_ble_eq_true rfl, Nat.le_of_ble_eq_true rfl⟩ (fun v9 H1 lH1 hp hz HS => ?_)
  obtain ⟨rfl, rfl⟩ := hp
  refine lv_if_eq (tgt := 26) hx hb dX7_move_5 (by decide) (fun c_5 => ?_) (fun c_5 => ?_)
  · have f_5 := bI_0.mp c_5
    refine lv_iconst (v := 0) hx hb dX7_move_26 (by decide) ?_
    refine lv_istore_n (lv' := [(3, .int 0), (0, .ref (ad 11)), (1, .int c9), (2, .int f)]) hx hb dX7_move_27 rfl hl (by decide) rfl (fun ls hl => ?_)
    refine lv_aload_n hx hb dX7_move_28 rfl (lv_at hl 1 rfl) ?_
    refine lv_aload_n hx hb dX7_move_29 rfl (lv_at hl 1 rfl) ?_
    refine lv_iload_n hx hb dX7_move_30 rfl (lv_at hl 2 rfl) ?_
    refine ro_callV MC HS (rest := [.ref (ad 11)]) (As := [.int c9]) (m_isChange hw c9) (lkX7_122) (kw788) (kw24) ⟨Nat.le_of_ble_eq_true rfl, Nat.le_of_ble_eq_true rfl⟩ (mo_recv MC hw) hl.1 rfl (Nat.le_of_ble_eq_true rfl) dX7_move_31 ⟨Nat.le_of_ble_eq_true rfl, Nat.le_of_ble_eq_true rfl⟩ (fun v9 H2 lH2 hp hz HS => ?_)
    obtain ⟨rfl, rfl⟩ := hp
    refine lv_if_ne (tgt := 41) hx hb dX7_move_34 (by decide) (fun c_34 => absurd (bI_0.mpr f_5) c_34) (fun c_34 => ?_)
    refine lv_iconst (v := 1) hx hb dX7_move_37 (by decide) ?_
    refine lv_goto (tgt := 64) hx hb dX7_move_38 (by decide) ?_
    refine mo_put MC hw HS 0 (by decide) kw618 rfl rfl rfl τ 1 rfl (fun _ _ => rfl) dX7_move_64 (fun H3 lH3 hw HS => ?_)
    refine lv_aload_n hx hb dX7_move_67 rfl (lv_at hl 1 rfl) ?_
    refine mo_get MC hw 0 (by decide) kw618 rfl rfl dX7_move_68 ?_
    refine lv_if_le (tgt := 76) hx hb dX7_move_71 (by decide) (fun c_71 => absurd c_71 (by decide)) (fun c_71 => ?_)
    refine lv_iconst (v := 0) hx hb dX7_move_74 (by decide) ?_
    have hth : th_move τ c9 f = 1 := ax_move_0 f_5
    exact ro_iretM MC HS hr ⟨_, rfl, by rw [hth, if_neg (by decide)]; exact hw, fun h0 => absurd (hth.symm.trans h0) (by decide)⟩ (Nat.le_refl _) (Nat.le_refl _) dX7_move_75
  · have f_5 := bI_n0.mp c_5
    obtain ⟨kc, hcn, hka, hkc⟩ := hI.c f_5
    have hnc := hI.2.2.2.1.2
    obtain ⟨-, ⟨b9, n9, hb9, hn9, h1n, hn1, hbn⟩, -⟩ := hI.2.2.2.2.2.2.2.2.2.2.1 kc hcn
    have hcl : cx (τ 13 kc) = n9 := by rw [hn9]; exact cx_nI (by omega)
    refine lv_aload_n hx hb dX7_move_8 rfl (lv_at hl 0 rfl) ?_
    refine lv_iload_n hx hb dX7_move_9 rfl (lv_at hl 2 rfl) ?_
    refine lv_aload_n hx hb dX7_move_10 rfl (lv_at hl 0 rfl) ?_
    refine mo_get MC hw 17 (by decide) kw635 rfl rfl dX7_move_11 ?_
    refine lv_iload_n hx hb dX7_move_14 rfl (lv_at hl 1 rfl) ?_
    refine mo_iald MC hw 13 (by decide) (by decide) rfl kc (show kc < 30 by omega) hka dX7_move_15 ?_
    refine ro_callV MC HS (rest := []) (As := [.int f, .int (τ 13 kc)]) (m_isSpan hw f (τ 13 kc)) (lkX7_110) (kw780) (kw23) ⟨Nat.le_of_ble_eq_true rfl, Nat.le_of_ble_eq_true rfl⟩ (mo_recv MC hw) hl.1 rfl (Nat.le_of_ble_eq_true rfl) dX7_move_16 ⟨Nat.le_of_ble_eq_true rfl, Nat.le_of_ble_eq_true rfl⟩ (fun v9 H4 lH4 hp hz HS => ?_)
    obtain ⟨rfl, rfl⟩ := hp
    refine lv_if_eq (tgt := 26) hx hb dX7_move_19 (by decide) (fun c_19 => ?_) (fun c_19 => ?_)
    · have f_19 := bI_0.mp c_19
      refine lv_iconst (v := 0) hx hb dX7_move_26 (by decide) ?_
      refine lv_istore_n (lv' := [(3, .int 0), (0, .ref (ad 11)), (1, .int c9), (2, .int f)]) hx hb dX7_move_27 rfl hl (by decide) rfl (fun ls hl => ?_)
      refine lv_aload_n hx hb dX7_move_28 rfl (lv_at hl 1 rfl) ?_
      refine lv_aload_n hx hb dX7_move_29 rfl (lv_at hl 1 rfl) ?_
      refine lv_iload_n hx hb dX7_move_30 rfl (lv_at hl 2 rfl) ?_
      refine ro_callV MC HS (rest := [.ref (ad 11)]) (As := [.int c9]) (m_isChange hw c9) (lkX7_122) (kw788) (kw24) ⟨Nat.le_of_ble_eq_true rfl, Nat.le_of_ble_eq_true rfl⟩ (mo_recv MC hw) hl.1 rfl (Nat.le_of_ble_eq_true rfl) dX7_move_31 ⟨Nat.le_of_ble_eq_true rfl, Nat.le_of_ble_eq_true rfl⟩ (fun v9 H5 lH5 hp hz HS => ?_)
      obtain ⟨rfl, rfl⟩ := hp
      refine lv_if_ne (tgt := 41) hx hb dX7_move_34 (by decide) (fun c_34 => ?_) (fun c_34 => absurd c_34 (bI_n0.mpr f_5))
      refine lv_iload_n hx hb dX7_move_41 rfl (lv_at hl 0 rfl) ?_
      refine lv_if_ne (tgt := 49) hx hb dX7_move_42 (by decide) (fun c_42 => absurd c_42 (by decide)) (fun c_42 => ?_)
      refine lv_iconst (v := 2) hx hb dX7_move_45 (by decide) ?_
      refine lv_goto (tgt := 64) hx hb dX7_move_46 (by decide) ?_
      refine mo_put MC hw HS 0 (by decide) kw618 rfl rfl rfl τ 2 rfl (fun _ _ => rfl) dX7_move_64 (fun H6 lH6 hw HS => ?_)
      refine lv_aload_n hx hb dX7_move_67 rfl (lv_at hl 1 rfl) ?_
      refine mo_get MC hw 0 (by decide) kw618 rfl rfl dX7_move_68 ?_
      refine lv_if_le (tgt := 76) hx hb dX7_move_71 (by decide) (fun c_71 => absurd c_71 (by decide)) (fun c_71 => ?_)
      refine lv_iconst (v := 0) hx hb dX7_move_74 (by decide) ?_
      have hth : th_move τ c9 f = 2 := ax_move_1 hkc f_5 f_19
      exact ro_iretM MC HS hr ⟨_, rfl, by rw [hth, if_neg (by decide)]; exact hw, fun h0 => absurd (hth.symm.trans h0) (by decide)⟩ (Nat.le_refl _) (Nat.le_refl _) dX7_move_75
    · have f_19 := bI_n0.mp c_19
      refine lv_iconst (v := 1) hx hb dX7_move_22 (by decide) ?_
      refine lv_goto (tgt := 27) hx hb dX7_move_23 (by decide) ?_
      refine lv_istore_n (lv' := [(3, .int 1), (0, .ref (ad 11)), (1, .int c9), (2, .int f)]) hx hb dX7_move_27 rfl hl (by decide) rfl (fun ls hl => ?_)
      refine lv_aload_n hx hb dX7_move_28 rfl (lv_at hl 1 rfl) ?_
      refine lv_aload_n hx hb dX7_move_29 rfl (lv_at hl 1 rfl) ?_
      refine lv_iload_n hx hb dX7_move_30 rfl (lv_at hl 2 rfl) ?_
      refine ro_callV MC HS (rest := [.ref (ad 11)]) (As := [.int c9]) (m_isChange hw c9) (lkX7_122) (kw788) (kw24) ⟨Nat.le_of_ble_eq_true rfl, Nat.le_of_ble_eq_true rfl⟩ (mo_recv MC hw) hl.1 rfl (Nat.le_of_ble_eq_true rfl) dX7_move_31 ⟨Nat.le_of_ble_eq_true rfl, Nat.le_of_ble_eq_true rfl⟩ (fun v9 H7 lH7 hp hz HS => ?_)
      obtain ⟨rfl, rfl⟩ := hp
      refine lv_if_ne (tgt := 41) hx hb dX7_move_34 (by decide) (fun c_34 => ?_) (fun c_34 => absurd c_34 (bI_n0.mpr f_5))
      refine lv_iload_n hx hb dX7_move_41 rfl (lv_at hl 0 rfl) ?_
      refine lv_if_ne (tgt := 49) hx hb dX7_move_42 (by decide) (fun c_42 => ?_) (fun c_42 => absurd c_42 (by decide))
      refine lv_aload_n hx hb dX7_move_49 rfl (lv_at hl 1 rfl) ?_
      refine mo_get MC hw 21 (by decide) kw639 rfl rfl dX7_move_50 ?_
      refine lv_iload_n hx hb dX7_move_53 rfl (lv_at hl 2 rfl) ?_
      refine mo_iald MC hw 17 (by decide) (by decide) rfl kc (show kc < 30 by omega) hka dX7_move_54 ?_
      refine lv_iconst (v := (-1)) hx hb dX7_move_55 (by decide) ?_
      refine lv_icmp_eq (tgt := 63) hx hb dX7_move_56 (by decide) (fun c_56 => ?_) (fun c_56 => ?_)
      · refine lv_iconst (v := 0) hx hb dX7_move_63 (by decide) ?_
        refine mo_put MC hw HS 0 (by decide) kw618 rfl rfl rfl τ 0 rfl (fun _ _ => rfl) dX7_move_64 (fun H8 lH8 hw HS => ?_)
        refine lv_aload_n hx hb dX7_move_67 rfl (lv_at hl 1 rfl) ?_
        refine mo_get MC hw 0 (by decide) kw618 rfl rfl dX7_move_68 ?_
        refine lv_if_le (tgt := 76) hx hb dX7_move_71 (by decide) (fun c_71 => ?_) (fun c_71 => absurd c_71 (by decide))
        refine lv_aload_n hx hb dX7_move_76 rfl (lv_at hl 1 rfl) ?_
        refine mo_get MC hw 16 (by decide) kw634 rfl rfl dX7_move_77 ?_
        refine lv_iload_n hx hb dX7_move_80 rfl (lv_at hl 2 rfl) ?_
        refine lv_iload_n hx hb dX7_move_81 rfl (lv_at hl 3 rfl) ?_
        refine mo_iast MC hw HS 12 (by decide) (by decide) rfl kc (show kc < 30 by omega) hka dX7_move_82 (fun H9 lH9 hw HS => ?_)
        refine lv_aload_n hx hb dX7_move_83 rfl (lv_at hl 1 rfl) ?_
        refine mo_get MC hw 19 (by decide) kw637 rfl rfl dX7_move_84 ?_
        refine lv_iload_n hx hb dX7_move_87 rfl (lv_at hl 2 rfl) ?_
        refine lv_iconst (v := 0) hx hb dX7_move_88 (by decide) ?_
        refine mo_iast MC hw HS 15 (by decide) (by decide) rfl kc (show kc < 30 by omega) hka dX7_move_89 (fun H10 lH10 hw HS => ?_)
        refine lv_aload_n hx hb dX7_move_90 rfl (lv_at hl 1 rfl) ?_
        refine mo_get MC hw 20 (by decide) kw638 rfl rfl dX7_move_91 ?_
        refine lv_iload_n hx hb dX7_move_94 rfl (lv_at hl 2 rfl) ?_
        refine lv_iconst (v := 0) hx hb dX7_move_95 (by decide) ?_
        refine mo_iast MC hw HS 16 (by decide) (by decide) rfl kc (show kc < 30 by omega) hka dX7_move_96 (fun H11 lH11 hw HS => ?_)
        refine lv_aload_n hx hb dX7_move_97 rfl (lv_at hl 1 rfl) ?_
        refine lv_iload_n hx hb dX7_move_98 rfl (lv_at hl 2 rfl) ?_
        have hnx : nx_move τ c9 f = (ti (ti (ti τ 12 kc f) 15 kc 0) 16 kc 0) := by simp only [nx_move, hkc]
        have hth0 : th_move τ c9 f = 0 := axq_move hkc f_5 f_19 c_56
        have hI3 := hI2 hth0
        rw [hnx] at hI3
        refine ro_callV MC HS (rest := []) (As := [.int c9]) (by rw [hka]; exact m_bad hw hI3 kc hcn) (lkX7_125) (kw792) (kw25) ⟨Nat.le_of_ble_eq_true rfl, Nat.le_of_ble_eq_true rfl⟩ (mo_recv MC hw) hl.1 rfl (Nat.le_of_ble_eq_true rfl) dX7_move_99 ⟨Nat.le_of_ble_eq_true rfl, Nat.le_of_ble_eq_true rfl⟩ (fun v9 H12 lH12 hp hz HS => ?_)
        obtain ⟨rfl, rfl⟩ := hp
        have hth : th_move τ c9 f = 0 := ax_move_2 hkc f_5 f_19 c_56
        have hnx : nx_move τ c9 f = (ti (ti (ti τ 12 kc f) 15 kc 0) 16 kc 0) := by simp only [nx_move, hkc]
        exact ro_iretM MC HS hr ⟨_, rfl, by rw [hth, if_pos rfl, hnx]; exact hw, fun _ => by rw [rt_move, hnx, hkc]⟩ (Nat.le_refl _) (Nat.le_refl _) dX7_move_102
      · refine lv_iconst (v := 3) hx hb dX7_move_59 (by decide) ?_
        refine lv_goto (tgt := 64) hx hb dX7_move_60 (by decide) ?_
        refine mo_put MC hw HS 0 (by decide) kw618 rfl rfl rfl τ 3 rfl (fun _ _ => rfl) dX7_move_64 (fun H13 lH13 hw HS => ?_)
        refine lv_aload_n hx hb dX7_move_67 rfl (lv_at hl 1 rfl) ?_
        refine mo_get MC hw 0 (by decide) kw618 rfl rfl dX7_move_68 ?_
        refine lv_if_le (tgt := 76) hx hb dX7_move_71 (by decide) (fun c_71 => absurd c_71 (by decide)) (fun c_71 => ?_)
        refine lv_iconst (v := 0) hx hb dX7_move_74 (by decide) ?_
        have hth : th_move τ c9 f = 3 := ax_move_3 hkc f_5 f_19 c_56
        exact ro_iretM MC HS hr ⟨_, rfl, by rw [hth, if_neg (by decide)]; exact hw, fun h0 => absurd (hth.symm.trans h0) (by decide)⟩ (Nat.le_refl _) (Nat.le_refl _) dX7_move_75
set_option maxHeartbeats 4000000 in
set_option maxRecDepth 100000 in
theorem m_begin {l : Launch} {D : va_G} {ids : Nat → ClassId} {n0 : Nat} {RR : List Nat} {ad : Nat → Nat} {τ : Tau} {th : Int32} {fr : Nat → va_E} {Hh : Heap} (hw : sM D ids n0 RR ad τ th fr Hh) {nw ns nl nc : Nat} (hI : Iv τ nw ns nl nc) (c9 : Int32) : ro_M l yX7_begin cX7_begin 3 (some FieldType.int) { frames := 5, cells := 0, slots := 0, locals := 150 } D ids n0 [.ref (ad 11), .int c9] Hh (fun v9 H1 => ∃ rz, v9 = some (.int rz) ∧ sM D ids n0 RR ad (if th_begin τ c9 = 0 then nx_begin τ c9 else τ) (th_begin τ c9) fr H1 ∧ (th_begin τ c9 = 0 → rz = rt_begin τ c9)) := by
  refine ro_ofM (by decide +kernel) (Nat.le_of_ble_eq_true rfl) ?_
  intro p e s m below meth c MC hhp hr hnm HS ls hl
  have hx := MC.1.1
  have hb := MC.1.2.1
  have hl : lv_has ls 3 [(0, .ref (ad 11)), (1, .int c9)] := hl
  refine lv_aload_n hx hb dX7_begin_0 rfl (lv_at hl 0 rfl) ?_
  refine lv_aload_n hx hb dX7_begin_1 rfl (lv_at hl 0 rfl) ?_
  refine lv_iload_n hx hb dX7_begin_2 rfl (lv_at hl 1 rfl) ?_
  refine ro_callV MC HS (rest := [.ref (ad 11)]) (As := [.int c9]) (m_isChange hw c9) (lkX7_122) (kw788) (kw24) ⟨Nat.le_of_ble_eq_true rfl, Nat.le_of_ble_eq_true rfl⟩ (mo_recv MC hw) hl.1 rfl (Nat.le_of_ble_eq_true rfl) dX7_begin_3 ⟨Nat.le_of_ble_eq_true rfl, Nat.le_of_ble_eq_true rfl⟩ (fun v9 H1 lH1 hp hz HS => ?_)
  obtain ⟨rfl, rfl⟩ := hp
  refine lv_if_eq (tgt := 13) hx hb dX7_begin_6 (by decide) (fun c_6 => ?_) (fun c_6 => ?_)
  · have f_6 := bI_0.mp c_6
    refine lv_iconst (v := 1) hx hb dX7_begin_13 (by decide) ?_
    refine mo_put MC hw HS 0 (by decide) kw618 rfl rfl rfl τ 1 rfl (fun _ _ => rfl) dX7_begin_14 (fun H2 lH2 hw HS => ?_)
    refine lv_aload_n hx hb dX7_begin_17 rfl (lv_at hl 0 rfl) ?_
    refine mo_get MC hw 0 (by decide) kw618 rfl rfl dX7_begin_18 ?_
    refine lv_if_le (tgt := 26) hx hb dX7_begin_21 (by decide) (fun c_21 => absurd c_21 (by decide)) (fun c_21 => ?_)
    refine lv_iconst (v := 0) hx hb dX7_begin_24 (by decide) ?_
    have hth : th_begin τ c9 = 1 := ax_begin_0 f_6
    exact ro_iretM MC HS hr ⟨_, rfl, by rw [hth, if_neg (by decide)]; exact hw, fun h0 => absurd (hth.symm.trans h0) (by decide)⟩ (Nat.le_refl _) (Nat.le_refl _) dX7_begin_25
  · have f_6 := bI_n0.mp c_6
    obtain ⟨kc, hcn, hka, hkc⟩ := hI.c f_6
    have hnc := hI.2.2.2.1.2
    obtain ⟨-, ⟨b9, n9, hb9, hn9, h1n, hn1, hbn⟩, -⟩ := hI.2.2.2.2.2.2.2.2.2.2.1 kc hcn
    have hcl : cx (τ 13 kc) = n9 := by rw [hn9]; exact cx_nI (by omega)
    refine lv_iconst (v := 0) hx hb dX7_begin_9 (by decide) ?_
    refine lv_goto (tgt := 14) hx hb dX7_begin_10 (by decide) ?_
    refine mo_put MC hw HS 0 (by decide) kw618 rfl rfl rfl τ 0 rfl (fun _ _ => rfl) dX7_begin_14 (fun H3 lH3 hw HS => ?_)
    refine lv_aload_n hx hb dX7_begin_17 rfl (lv_at hl 0 rfl) ?_
    refine mo_get MC hw 0 (by decide) kw618 rfl rfl dX7_begin_18 ?_
    refine lv_if_le (tgt := 26) hx hb dX7_begin_21 (by decide) (fun c_21 => ?_) (fun c_21 => absurd c_21 (by decide))
    refine lv_aload_n hx hb dX7_begin_26 rfl (lv_at hl 0 rfl) ?_
    refine mo_get MC hw 21 (by decide) kw639 rfl rfl dX7_begin_27 ?_
    refine lv_iload_n hx hb dX7_begin_30 rfl (lv_at hl 1 rfl) ?_
    refine mo_iald MC hw 17 (by decide) (by decide) rfl kc (show kc < 30 by omega) hka dX7_begin_31 ?_
    refine lv_iconst (v := (-1)) hx hb dX7_begin_32 (by decide) ?_
    refine lv_icmp_ne (tgt := 68) hx hb dX7_begin_33 (by decide) (fun c_33 => ?_) (fun c_33 => ?_)
    · refine lv_iconst (v := 0) hx hb dX7_begin_68 (by decide) ?_
      refine lv_istore_n (lv' := [(2, .int 0), (0, .ref (ad 11)), (1, .int c9)]) hx hb dX7_begin_69 rfl hl (by decide) rfl (fun ls hl => ?_)
      refine lv_aload_n hx hb dX7_begin_70 rfl (lv_at hl 1 rfl) ?_
      refine lv_iload_n hx hb dX7_begin_71 rfl (lv_at hl 0 rfl) ?_
      refine lv_if_eq (tgt := 87) hx hb dX7_begin_72 (by decide) (fun c_72 => ?_) (fun c_72 => absurd c_72 (by decide))
      refine lv_iconst (v := 2) hx hb dX7_begin_87 (by decide) ?_
      refine mo_put MC hw HS 0 (by decide) kw618 rfl rfl rfl τ 2 rfl (fun _ _ => rfl) dX7_begin_88 (fun H4 lH4 hw HS => ?_)
      refine lv_aload_n hx hb dX7_begin_91 rfl (lv_at hl 1 rfl) ?_
      refine mo_get MC hw 0 (by decide) kw618 rfl rfl dX7_begin_92 ?_
      refine lv_if_le (tgt := 100) hx hb dX7_begin_95 (by decide) (fun c_95 => absurd c_95 (by decide)) (fun c_95 => ?_)
      refine lv_iconst (v := 0) hx hb dX7_begin_98 (by decide) ?_
      have hth : th_begin τ c9 = 2 := ax_begin_1 hkc f_6 c_33
      exact ro_iretM MC HS hr ⟨_, rfl, by rw [hth, if_neg (by decide)]; exact hw, fun h0 => absurd (hth.symm.trans h0) (by decide)⟩ (Nat.le_refl _) (Nat.le_refl _) dX7_begin_99
    · refine lv_aload_n hx hb dX7_begin_36 rfl (lv_at hl 0 rfl) ?_
      refine mo_get MC hw 1 (by decide) kw619 rfl rfl dX7_begin_37 ?_
      refine lv_aload_n hx hb dX7_begin_40 rfl (lv_at hl 0 rfl) ?_
      refine mo_get MC hw 16 (by decide) kw634 rfl rfl dX7_begin_41 ?_
      refine lv_iload_n hx hb dX7_begin_44 rfl (lv_at hl 1 rfl) ?_
      refine mo_iald MC hw 12 (by decide) (by decide) rfl kc (show kc < 30 by omega) hka dX7_begin_45 ?_
      refine lv_icmp_ne (tgt := 68) hx hb dX7_begin_46 (by decide) (fun c_46 => ?_) (fun c_46 => ?_)
      · refine lv_iconst (v := 0) hx hb dX7_begin_68 (by decide) ?_
        refine lv_istore_n (lv' := [(2, .int 0), (0, .ref (ad 11)), (1, .int c9)]) hx hb dX7_begin_69 rfl hl (by decide) rfl (fun ls hl => ?_)
        refine lv_aload_n hx hb dX7_begin_70 rfl (lv_at hl 1 rfl) ?_
        refine lv_iload_n hx hb dX7_begin_71 rfl (lv_at hl 0 rfl) ?_
        refine lv_if_eq (tgt := 87) hx hb dX7_begin_72 (by decide) (fun c_72 => ?_) (fun c_72 => absurd c_72 (by decide))
        refine lv_iconst (v := 2) hx hb dX7_begin_87 (by decide) ?_
        refine mo_put MC hw HS 0 (by decide) kw618 rfl rfl rfl τ 2 rfl (fun _ _ => rfl) dX7_begin_88 (fun H5 lH5 hw HS => ?_)
        refine lv_aload_n hx hb dX7_begin_91 rfl (lv_at hl 1 rfl) ?_
        refine mo_get MC hw 0 (by decide) kw618 rfl rfl dX7_begin_92 ?_
        refine lv_if_le (tgt := 100) hx hb dX7_begin_95 (by decide) (fun c_95 => absurd c_95 (by decide)) (fun c_95 => ?_)
        refine lv_iconst (v := 0) hx hb dX7_begin_98 (by decide) ?_
        have hth : th_begin τ c9 = 2 := ax_begin_2 hkc f_6 c_33 c_46
        exact ro_iretM MC HS hr ⟨_, rfl, by rw [hth, if_neg (by decide)]; exact hw, fun h0 => absurd (hth.symm.trans h0) (by decide)⟩ (Nat.le_refl _) (Nat.le_refl _) dX7_begin_99
      · refine lv_aload_n hx hb dX7_begin_49 rfl (lv_at hl 0 rfl) ?_
        refine mo_get MC hw 19 (by decide) kw637 rfl rfl dX7_begin_50 ?_
        refine lv_iload_n hx hb dX7_begin_53 rfl (lv_at hl 1 rfl) ?_
        refine mo_iald MC hw 15 (by decide) (by decide) rfl kc (show kc < 30 by omega) hka dX7_begin_54 ?_
        refine lv_aload_n hx hb dX7_begin_55 rfl (lv_at hl 0 rfl) ?_
        refine mo_get MC hw 18 (by decide) kw636 rfl rfl dX7_begin_56 ?_
        refine lv_iload_n hx hb dX7_begin_59 rfl (lv_at hl 1 rfl) ?_
        refine mo_iald MC hw 14 (by decide) (by decide) rfl kc (show kc < 30 by omega) hka dX7_begin_60 ?_
        refine lv_icmp_ne (tgt := 68) hx hb dX7_begin_61 (by decide) (fun c_61 => ?_) (fun c_61 => ?_)
        · refine lv_iconst (v := 0) hx hb dX7_begin_68 (by decide) ?_
          refine lv_istore_n (lv' := [(2, .int 0), (0, .ref (ad 11)), (1, .int c9)]) hx hb dX7_begin_69 rfl hl (by decide) rfl (fun ls hl => ?_)
          refine lv_aload_n hx hb dX7_begin_70 rfl (lv_at hl 1 rfl) ?_
          refine lv_iload_n hx hb dX7_begin_71 rfl (lv_at hl 0 rfl) ?_
          refine lv_if_eq (tgt := 87) hx hb dX7_begin_72 (by decide) (fun c_72 => ?_) (fun c_72 => absurd c_72 (by decide))
          refine lv_iconst (v := 2) hx hb dX7_begin_87 (by decide) ?_
          refine mo_put MC hw HS 0 (by decide) kw618 rfl rfl rfl τ 2 rfl (fun _ _ => rfl) dX7_begin_88 (fun H6 lH6 hw HS => ?_)
          refine lv_aload_n hx hb dX7_begin_91 rfl (lv_at hl 1 rfl) ?_
          refine mo_get MC hw 0 (by decide) kw618 rfl rfl dX7_begin_92 ?_
          refine lv_if_le (tgt := 100) hx hb dX7_begin_95 (by decide) (fun c_95 => absurd c_95 (by decide)) (fun c_95 => ?_)
          refine lv_iconst (v := 0) hx hb dX7_begin_98 (by decide) ?_
          have hth : th_begin τ c9 = 2 := ax_begin_3 hkc f_6 c_33 c_46 c_61
          exact ro_iretM MC HS hr ⟨_, rfl, by rw [hth, if_neg (by decide)]; exact hw, fun h0 => absurd (hth.symm.trans h0) (by decide)⟩ (Nat.le_refl _) (Nat.le_refl _) dX7_begin_99
        · refine lv_iconst (v := 1) hx hb dX7_begin_64 (by decide) ?_
          refine lv_goto (tgt := 69) hx hb dX7_begin_65 (by decide) ?_
          refine lv_istore_n (lv' := [(2, .int 1), (0, .ref (ad 11)), (1, .int c9)]) hx hb dX7_begin_69 rfl hl (by decide) rfl (fun ls hl => ?_)
          refine lv_aload_n hx hb dX7_begin_70 rfl (lv_at hl 1 rfl) ?_
          refine lv_iload_n hx hb dX7_begin_71 rfl (lv_at hl 0 rfl) ?_
          refine lv_if_eq (tgt := 87) hx hb dX7_begin_72 (by decide) (fun c_72 => absurd c_72 (by decide)) (fun c_72 => ?_)
          refine lv_aload_n hx hb dX7_begin_75 rfl (lv_at hl 1 rfl) ?_
          refine lv_iload_n hx hb dX7_begin_76 rfl (lv_at hl 2 rfl) ?_
          refine ro_callV MC HS (rest := [.ref (ad 11)]) (As := [.int c9]) (by rw [hka]; exact m_bad hw hI kc hcn) (lkX7_125) (kw792) (kw25) ⟨Nat.le_of_ble_eq_true rfl, Nat.le_of_ble_eq_true rfl⟩ (mo_recv MC hw) hl.1 rfl (Nat.le_of_ble_eq_true rfl) dX7_begin_77 ⟨Nat.le_of_ble_eq_true rfl, Nat.le_of_ble_eq_true rfl⟩ (fun v9 H7 lH7 hp hz HS => ?_)
          obtain ⟨rfl, rfl⟩ := hp
          have hbz : nI (badN τ kc) = 0 ↔ badN τ kc = 0 := nI_z (by have := ct_le (badB τ kc) (cx (τ 13 kc)); rw [hcl] at this; unfold badN; rw [hcl]; omega)
          refine lv_if_ne (tgt := 87) hx hb dX7_begin_80 (by decide) (fun c_80 => ?_) (fun c_80 => ?_)
          · refine lv_iconst (v := 2) hx hb dX7_begin_87 (by decide) ?_
            refine mo_put MC hw HS 0 (by decide) kw618 rfl rfl rfl τ 2 rfl (fun _ _ => rfl) dX7_begin_88 (fun H8 lH8 hw HS => ?_)
            refine lv_aload_n hx hb dX7_begin_91 rfl (lv_at hl 1 rfl) ?_
            refine mo_get MC hw 0 (by decide) kw618 rfl rfl dX7_begin_92 ?_
            refine lv_if_le (tgt := 100) hx hb dX7_begin_95 (by decide) (fun c_95 => absurd c_95 (by decide)) (fun c_95 => ?_)
            refine lv_iconst (v := 0) hx hb dX7_begin_98 (by decide) ?_
            have hth : th_begin τ c9 = 2 := ax_begin_4 hkc hbz f_6 c_33 c_46 c_61 c_80
            exact ro_iretM MC HS hr ⟨_, rfl, by rw [hth, if_neg (by decide)]; exact hw, fun h0 => absurd (hth.symm.trans h0) (by decide)⟩ (Nat.le_refl _) (Nat.le_refl _) dX7_begin_99
          · refine lv_iconst (v := 0) hx hb dX7_begin_83 (by decide) ?_
            refine lv_goto (tgt := 88) hx hb dX7_begin_84 (by decide) ?_
            refine mo_put MC hw HS 0 (by decide) kw618 rfl rfl rfl τ 0 rfl (fun _ _ => rfl) dX7_begin_88 (fun H9 lH9 hw HS => ?_)
            refine lv_aload_n hx hb dX7_begin_91 rfl (lv_at hl 1 rfl) ?_
            refine mo_get MC hw 0 (by decide) kw618 rfl rfl dX7_begin_92 ?_
            refine lv_if_le (tgt := 100) hx hb dX7_begin_95 (by decide) (fun c_95 => ?_) (fun c_95 => absurd c_95 (by decide))
            refine lv_aload_n hx hb dX7_begin_100 rfl (lv_at hl 1 rfl) ?_
            refine mo_get MC hw 21 (by decide) kw639 rfl rfl dX7_begin_101 ?_
            refine lv_iload_n hx hb dX7_begin_104 rfl (lv_at hl 2 rfl) ?_
            refine lv_aload_n hx hb dX7_begin_105 rfl (lv_at hl 1 rfl) ?_
            refine mo_get MC hw 6 (by decide) kw624 rfl rfl dX7_begin_106 ?_
            refine mo_iast MC hw HS 17 (by decide) (by decide) rfl kc (show kc < 30 by omega) hka dX7_begin_109 (fun H10 lH10 hw HS => ?_)
            refine lv_aload_n hx hb dX7_begin_110 rfl (lv_at hl 1 rfl) ?_
            refine mo_get MC hw 16 (by decide) kw634 rfl rfl dX7_begin_111 ?_
            refine lv_iload_n hx hb dX7_begin_114 rfl (lv_at hl 2 rfl) ?_
            refine mo_iald MC hw 12 (by decide) (by decide) rfl kc (show kc < 30 by omega) hka dX7_begin_115 ?_
            refine lv_topi (fun y11 ey11 => ?_)
            obtain rfl : y11 = τ 12 kc := ey11.trans (by simp [va_up, upd])
            refine lv_aload_n hx hb dX7_begin_116 rfl (lv_at hl 1 rfl) ?_
            refine mo_get MC hw 17 (by decide) kw635 rfl rfl dX7_begin_117 ?_
            refine lv_iload_n hx hb dX7_begin_120 rfl (lv_at hl 2 rfl) ?_
            refine mo_iald MC hw 13 (by decide) (by decide) rfl kc (show kc < 30 by omega) hka dX7_begin_121 ?_
            refine lv_topi (fun y12 ey12 => ?_)
            obtain rfl : y12 = τ 13 kc := ey12.trans (by simp [va_up, upd])
            refine lv_iadd hx hb dX7_begin_122 ?_
            have hth : th_begin τ c9 = 0 := ax_begin_5 hkc hbz f_6 c_33 c_46 c_61 c_80
            have hnx : nx_begin τ c9 = (ti τ 17 kc (τ 0 2)) := by simp only [nx_begin, hkc]
            exact ro_iretM MC HS hr ⟨_, rfl, by rw [hth, if_pos rfl, hnx]; exact hw, fun _ => by show (τ 12 kc + τ 13 kc) = rt_begin τ c9; simp only [rt_begin, hkc]⟩ (Nat.le_refl _) (Nat.le_refl _) dX7_begin_123
set_option maxHeartbeats 4000000 in
set_option maxRecDepth 100000 in
theorem m_badHours {l : Launch} {D : va_G} {ids : Nat → ClassId} {n0 : Nat} {RR : List Nat} {ad : Nat → Nat} {τ : Tau} {th : Int32} {fr : Nat → va_E} {Hh : Heap} (hw : sM D ids n0 RR ad τ th fr Hh) {nw ns nl nc : Nat} (hI : Iv τ nw ns nl nc) (c9 : Int32) : ro_M l yX7_badHours cX7_badHours 2 (some FieldType.int) { frames := 5, cells := 0, slots := 0, locals := 150 } D ids n0 [.ref (ad 11), .int c9] Hh (fun v9 H1 => ∃ rz, v9 = some (.int rz) ∧ sM D ids n0 RR ad τ (th_badHours τ c9) fr H1 ∧ (th_badHours τ c9 = 0 → rz = rt_badHours τ c9)) := by
  refine ro_ofM (by decide +kernel) (Nat.le_of_ble_eq_true rfl) ?_
  intro p e s m below meth c MC hhp hr hnm HS ls hl
  have hx := MC.1.1
  have hb := MC.1.2.1
  have hl : lv_has ls 2 [(0, .ref (ad 11)), (1, .int c9)] := hl
  refine lv_aload_n hx hb dX7_badHours_0 rfl (lv_at hl 0 rfl) ?_
  refine lv_aload_n hx hb dX7_badHours_1 rfl (lv_at hl 0 rfl) ?_
  refine lv_iload_n hx hb dX7_badHours_2 rfl (lv_at hl 1 rfl) ?_
  refine ro_callV MC HS (rest := [.ref (ad 11)]) (As := [.int c9]) (m_isChange hw c9) (lkX7_122) (kw788) (kw24) ⟨Nat.le_of_ble_eq_true rfl, Nat.le_of_ble_eq_true rfl⟩ (mo_recv MC hw) hl.1 rfl (Nat.le_of_ble_eq_true rfl) dX7_badHours_3 ⟨Nat.le_of_ble_eq_true rfl, Nat.le_of_ble_eq_true rfl⟩ (fun v9 H1 lH1 hp hz HS => ?_)
  obtain ⟨rfl, rfl⟩ := hp
  refine lv_if_eq (tgt := 13) hx hb dX7_badHours_6 (by decide) (fun c_6 => ?_) (fun c_6 => ?_)
  · have f_6 := bI_0.mp c_6
    refine lv_iconst (v := 1) hx hb dX7_badHours_13 (by decide) ?_
    refine mo_put MC hw HS 0 (by decide) kw618 rfl rfl rfl τ 1 rfl (fun _ _ => rfl) dX7_badHours_14 (fun H2 lH2 hw HS => ?_)
    refine lv_aload_n hx hb dX7_badHours_17 rfl (lv_at hl 0 rfl) ?_
    refine mo_get MC hw 0 (by decide) kw618 rfl rfl dX7_badHours_18 ?_
    refine lv_if_le (tgt := 28) hx hb dX7_badHours_21 (by decide) (fun c_21 => absurd c_21 (by decide)) (fun c_21 => ?_)
    refine lv_iconst (v := 0) hx hb dX7_badHours_24 (by decide) ?_
    refine lv_goto (tgt := 33) hx hb dX7_badHours_25 (by decide) ?_
    have hth : th_badHours τ c9 = 1 := ax_badHours_0 f_6
    exact ro_iretM MC HS hr ⟨_, rfl, by rw [hth]; exact hw, fun h0 => absurd (hth.symm.trans h0) (by decide)⟩ (Nat.le_refl _) (Nat.le_refl _) dX7_badHours_33
  · have f_6 := bI_n0.mp c_6
    obtain ⟨kc, hcn, hka, hkc⟩ := hI.c f_6
    have hnc := hI.2.2.2.1.2
    obtain ⟨-, ⟨b9, n9, hb9, hn9, h1n, hn1, hbn⟩, -⟩ := hI.2.2.2.2.2.2.2.2.2.2.1 kc hcn
    have hcl : cx (τ 13 kc) = n9 := by rw [hn9]; exact cx_nI (by omega)
    refine lv_iconst (v := 0) hx hb dX7_badHours_9 (by decide) ?_
    refine lv_goto (tgt := 14) hx hb dX7_badHours_10 (by decide) ?_
    refine mo_put MC hw HS 0 (by decide) kw618 rfl rfl rfl τ 0 rfl (fun _ _ => rfl) dX7_badHours_14 (fun H3 lH3 hw HS => ?_)
    refine lv_aload_n hx hb dX7_badHours_17 rfl (lv_at hl 0 rfl) ?_
    refine mo_get MC hw 0 (by decide) kw618 rfl rfl dX7_badHours_18 ?_
    refine lv_if_le (tgt := 28) hx hb dX7_badHours_21 (by decide) (fun c_21 => ?_) (fun c_21 => absurd c_21 (by decide))
    refine lv_aload_n hx hb dX7_badHours_28 rfl (lv_at hl 0 rfl) ?_
    refine lv_iload_n hx hb dX7_badHours_29 rfl (lv_at hl 1 rfl) ?_
    refine ro_callV MC HS (rest := []) (As := [.int c9]) (by rw [hka]; exact m_bad hw hI kc hcn) (lkX7_125) (kw792) (kw25) ⟨Nat.le_of_ble_eq_true rfl, Nat.le_of_ble_eq_true rfl⟩ (mo_recv MC hw) hl.1 rfl (Nat.le_of_ble_eq_true rfl) dX7_badHours_30 ⟨Nat.le_of_ble_eq_true rfl, Nat.le_of_ble_eq_true rfl⟩ (fun v9 H4 lH4 hp hz HS => ?_)
    obtain ⟨rfl, rfl⟩ := hp
    have hth : th_badHours τ c9 = 0 := ax_badHours_1 hkc f_6
    exact ro_iretM MC HS hr ⟨_, rfl, by rw [hth]; exact hw, fun _ => by show nI (badN τ kc) = rt_badHours τ c9; simp only [rt_badHours, hkc]⟩ (Nat.le_refl _) (Nat.le_refl _) dX7_badHours_33
set_option maxHeartbeats 4000000 in
set_option maxRecDepth 100000 in
theorem m_badHoursOneByOne {l : Launch} {D : va_G} {ids : Nat → ClassId} {n0 : Nat} {RR : List Nat} {ad : Nat → Nat} {τ : Tau} {th : Int32} {fr : Nat → va_E} {Hh : Heap} (hw : sM D ids n0 RR ad τ th fr Hh) {nw ns nl nc : Nat} (hI : Iv τ nw ns nl nc) (c9 : Int32) : ro_M l yX7_badHoursOneByOne cX7_badHoursOneByOne 2 (some FieldType.int) { frames := 6, cells := 0, slots := 0, locals := 180 } D ids n0 [.ref (ad 11), .int c9] Hh (fun v9 H1 => ∃ rz, v9 = some (.int rz) ∧ sM D ids n0 RR ad τ (th_badHours τ c9) fr H1 ∧ (th_badHours τ c9 = 0 → rz = rt_badHours τ c9)) := by
  refine ro_ofM (by decide +kernel) (Nat.le_of_ble_eq_true rfl) ?_
  intro p e s m below meth c MC hhp hr hnm HS ls hl
  have hx := MC.1.1
  have hb := MC.1.2.1
  have hl : lv_has ls 2 [(0, .ref (ad 11)), (1, .int c9)] := hl
  refine lv_aload_n hx hb dX7_badHoursOneByOne_0 rfl (lv_at hl 0 rfl) ?_
  refine lv_iload_n hx hb dX7_badHoursOneByOne_1 rfl (lv_at hl 1 rfl) ?_
  refine ro_callV MC HS (rest := []) (As := [.int c9]) (m_badHours hw hI c9) (lkX7_129) (kw831) (kw832) ⟨Nat.le_of_ble_eq_true rfl, Nat.le_of_ble_eq_true rfl⟩ (mo_recv MC hw) hl.1 rfl (Nat.le_of_ble_eq_true rfl) dX7_badHoursOneByOne_2 ⟨Nat.le_of_ble_eq_true rfl, Nat.le_of_ble_eq_true rfl⟩ (fun v9 H1 lH1 hp hz HS => ?_)
  obtain ⟨rz, rfl, hw, hrz⟩ := hp
  exact ro_iretM MC HS hr ⟨rz, rfl, hw, hrz⟩ (Nat.le_refl _) (Nat.le_refl _) dX7_badHoursOneByOne_5
set_option maxHeartbeats 4000000 in
set_option maxRecDepth 100000 in
theorem m_firstBad {l : Launch} {D : va_G} {ids : Nat → ClassId} {n0 : Nat} {RR : List Nat} {ad : Nat → Nat} {τ : Tau} {th : Int32} {fr : Nat → va_E} {Hh : Heap} (hw : sM D ids n0 RR ad τ th fr Hh) {nw ns nl nc : Nat} (hI : Iv τ nw ns nl nc) (c9 : Int32) : ro_M l yX7_firstBad cX7_firstBad 5 (some FieldType.int) { frames := 4, cells := 0, slots := 0, locals := 120 } D ids n0 [.ref (ad 11), .int c9] Hh (fun v9 H1 => ∃ rz, v9 = some (.int rz) ∧ sM D ids n0 RR ad τ (th_badHours τ c9) fr H1 ∧ (th_badHours τ c9 = 0 → rz = rt_firstBad τ c9)) := by
  refine ro_ofM (by decide +kernel) (Nat.le_of_ble_eq_true rfl) ?_
  intro p e s m below meth c MC hhp hr hnm HS ls hl
  have hx := MC.1.1
  have hb := MC.1.2.1
  have hl : lv_has ls 5 [(0, .ref (ad 11)), (1, .int c9)] := hl
  refine lv_aload_n hx hb dX7_firstBad_0 rfl (lv_at hl 0 rfl) ?_
  refine lv_aload_n hx hb dX7_firstBad_1 rfl (lv_at hl 0 rfl) ?_
  refine lv_iload_n hx hb dX7_firstBad_2 rfl (lv_at hl 1 rfl) ?_
  refine ro_callV MC HS (rest := [.ref (ad 11)]) (As := [.int c9]) (m_isChange hw c9) (lkX7_122) (kw788) (kw24) ⟨Nat.le_of_ble_eq_true rfl, Nat.le_of_ble_eq_true rfl⟩ (mo_recv MC hw) hl.1 rfl (Nat.le_of_ble_eq_true rfl) dX7_firstBad_3 ⟨Nat.le_of_ble_eq_true rfl, Nat.le_of_ble_eq_true rfl⟩ (fun v9 H1 lH1 hp hz HS => ?_)
  obtain ⟨rfl, rfl⟩ := hp
  refine lv_if_eq (tgt := 13) hx hb dX7_firstBad_6 (by decide) (fun c_6 => ?_) (fun c_6 => ?_)
  · have f_6 := bI_0.mp c_6
    refine lv_iconst (v := 1) hx hb dX7_firstBad_13 (by decide) ?_
    refine mo_put MC hw HS 0 (by decide) kw618 rfl rfl rfl τ 1 rfl (fun _ _ => rfl) dX7_firstBad_14 (fun H2 lH2 hw HS => ?_)
    refine lv_iconst (v := (-1)) hx hb dX7_firstBad_17 (by decide) ?_
    refine lv_istore_n (lv' := [(2, .int ((-1))), (0, .ref (ad 11)), (1, .int c9)]) hx hb dX7_firstBad_18 rfl hl (by decide) rfl (fun ls hl => ?_)
    refine lv_iconst (v := 0) hx hb dX7_firstBad_19 (by decide) ?_
    refine lv_istore_n (lv' := [(3, .int 0), (2, .int ((-1))), (0, .ref (ad 11)), (1, .int c9)]) hx hb dX7_firstBad_20 rfl hl (by decide) rfl (fun ls hl => ?_)
    refine lv_aload_n hx hb dX7_firstBad_21 rfl (lv_at hl 2 rfl) ?_
    refine mo_get MC hw 0 (by decide) kw618 rfl rfl dX7_firstBad_22 ?_
    refine lv_if_ne (tgt := 76) hx hb dX7_firstBad_25 (by decide) (fun c_25 => ?_) (fun c_25 => absurd c_25 (by decide))
    refine lv_aload_n hx hb dX7_firstBad_76 rfl (lv_at hl 2 rfl) ?_
    refine mo_get MC hw 0 (by decide) kw618 rfl rfl dX7_firstBad_77 ?_
    refine lv_if_le (tgt := 87) hx hb dX7_firstBad_80 (by decide) (fun c_80 => absurd c_80 (by decide)) (fun c_80 => ?_)
    refine lv_iconst (v := 0) hx hb dX7_firstBad_83 (by decide) ?_
    refine lv_goto (tgt := 88) hx hb dX7_firstBad_84 (by decide) ?_
    have hth : th_badHours τ c9 = 1 := ax_firstBad_0 f_6
    exact ro_iretM MC HS hr ⟨_, rfl, by rw [hth]; exact hw, fun h0 => absurd (hth.symm.trans h0) (by decide)⟩ (Nat.le_refl _) (Nat.le_refl _) dX7_firstBad_88
  · have f_6 := bI_n0.mp c_6
    obtain ⟨kc, hcn, hka, hkc⟩ := hI.c f_6
    have hnc := hI.2.2.2.1.2
    obtain ⟨-, ⟨b9, n9, hb9, hn9, h1n, hn1, hbn⟩, -⟩ := hI.2.2.2.2.2.2.2.2.2.2.1 kc hcn
    have hcl : cx (τ 13 kc) = n9 := by rw [hn9]; exact cx_nI (by omega)
    refine lv_iconst (v := 0) hx hb dX7_firstBad_9 (by decide) ?_
    refine lv_goto (tgt := 14) hx hb dX7_firstBad_10 (by decide) ?_
    refine mo_put MC hw HS 0 (by decide) kw618 rfl rfl rfl τ 0 rfl (fun _ _ => rfl) dX7_firstBad_14 (fun H3 lH3 hw HS => ?_)
    refine lv_iconst (v := (-1)) hx hb dX7_firstBad_17 (by decide) ?_
    refine lv_istore_n (lv' := [(2, .int ((-1))), (0, .ref (ad 11)), (1, .int c9)]) hx hb dX7_firstBad_18 rfl hl (by decide) rfl (fun ls hl => ?_)
    refine lv_iconst (v := 0) hx hb dX7_firstBad_19 (by decide) ?_
    refine lv_istore_n (lv' := [(3, .int 0), (2, .int ((-1))), (0, .ref (ad 11)), (1, .int c9)]) hx hb dX7_firstBad_20 rfl hl (by decide) rfl (fun ls hl => ?_)
    have loop : ∀ j : Nat, j ≤ n9 → ∀ (locs : List Loc) (ls : Array Slot), va_S (fun q => n0 ≤ q) s.heap H3 locs → lv_has ls 5 [(3, .int (nI j)), (2, .int (fbv (τ 12 kc) (fst1 (badB τ kc) j 0))), (0, .ref (ad 11)), (1, .int c9)] → W p l e { frames := 4, cells := 0, slots := 0, locals := 120 } s m ([.ref (ad 11), .int c9] : List Value).toArray below meth c H3 locs 0 0 (MQ below (ro_Q n0 (fun v9 H1 => ∃ rz, v9 = some (.int rz) ∧ sM D ids n0 RR ad τ (th_badHours τ c9) fr H1 ∧ (th_badHours τ c9 = 0 → rz = rt_firstBad τ c9))) ([.ref (ad 11), .int c9] : List Value).toArray s 0 0 (fun q => n0 ≤ q)) (F0 m 21 ls []) := by
      refine ro_loop (n9) (fun j : Nat => ∀ (locs : List Loc) (ls : Array Slot), va_S (fun q => n0 ≤ q) s.heap H3 locs → lv_has ls 5 [(3, .int (nI j)), (2, .int (fbv (τ 12 kc) (fst1 (badB τ kc) j 0))), (0, .ref (ad 11)), (1, .int c9)] → W p l e { frames := 4, cells := 0, slots := 0, locals := 120 } s m ([.ref (ad 11), .int c9] : List Value).toArray below meth c H3 locs 0 0 (MQ below (ro_Q n0 (fun v9 H1 => ∃ rz, v9 = some (.int rz) ∧ sM D ids n0 RR ad τ (th_badHours τ c9) fr H1 ∧ (th_badHours τ c9 = 0 → rz = rt_firstBad τ c9))) ([.ref (ad 11), .int c9] : List Value).toArray s 0 0 (fun q => n0 ≤ q)) (F0 m 21 ls [])) ?_ ?_
      · intro locs ls HS hl
        refine lv_aload_n hx hb dX7_firstBad_21 rfl (lv_at hl 2 rfl) ?_
        refine mo_get MC hw 0 (by decide) kw618 rfl rfl dX7_firstBad_22 ?_
        refine lv_if_ne (tgt := 76) hx hb dX7_firstBad_25 (by decide) (fun c_25 => absurd c_25 (by decide)) (fun c_25 => ?_)
        refine lv_iload_n hx hb dX7_firstBad_28 rfl (lv_at hl 0 rfl) ?_
        refine lv_aload_n hx hb dX7_firstBad_29 rfl (lv_at hl 2 rfl) ?_
        refine mo_get MC hw 17 (by decide) kw635 rfl rfl dX7_firstBad_30 ?_
        refine lv_iload_n hx hb dX7_firstBad_33 rfl (lv_at hl 3 rfl) ?_
        refine mo_iald MC hw 13 (by decide) (by decide) rfl kc (show kc < 30 by omega) hka dX7_firstBad_34 ?_
        refine lv_icmp_ge (tgt := 76) hx hb dX7_firstBad_35 (by decide) (fun c_35 => ?_) (fun c_35 => absurd (kn_le hn9 (Nat.le_refl _) (by omega)) c_35)
        refine lv_aload_n hx hb dX7_firstBad_76 rfl (lv_at hl 2 rfl) ?_
        refine mo_get MC hw 0 (by decide) kw618 rfl rfl dX7_firstBad_77 ?_
        refine lv_if_le (tgt := 87) hx hb dX7_firstBad_80 (by decide) (fun c_80 => ?_) (fun c_80 => absurd c_80 (by decide))
        refine lv_iload_n hx hb dX7_firstBad_87 rfl (lv_at hl 1 rfl) ?_
        have hth : th_badHours τ c9 = 0 := ax_firstBad_1 hkc f_6
        exact ro_iretM MC HS hr ⟨_, rfl, by rw [hth]; exact hw, fun _ => by rw [rt_firstBad_eq, hkc, hcl]⟩ (Nat.le_refl _) (Nat.le_refl _) dX7_firstBad_88
      · intro j hkj ih locs ls HS hl
        refine lv_aload_n hx hb dX7_firstBad_21 rfl (lv_at hl 2 rfl) ?_
        refine mo_get MC hw 0 (by decide) kw618 rfl rfl dX7_firstBad_22 ?_
        refine lv_if_ne (tgt := 76) hx hb dX7_firstBad_25 (by decide) (fun c_25 => absurd c_25 (by decide)) (fun c_25 => ?_)
        refine lv_iload_n hx hb dX7_firstBad_28 rfl (lv_at hl 0 rfl) ?_
        refine lv_aload_n hx hb dX7_firstBad_29 rfl (lv_at hl 2 rfl) ?_
        refine mo_get MC hw 17 (by decide) kw635 rfl rfl dX7_firstBad_30 ?_
        refine lv_iload_n hx hb dX7_firstBad_33 rfl (lv_at hl 3 rfl) ?_
        refine mo_iald MC hw 13 (by decide) (by decide) rfl kc (show kc < 30 by omega) hka dX7_firstBad_34 ?_
        refine lv_icmp_ge (tgt := 76) hx hb dX7_firstBad_35 (by decide) (fun c_35 => absurd c_35 (kn_nle hn9 hkj (by omega))) (fun c_35 => ?_)
        refine lv_aload_n hx hb dX7_firstBad_38 rfl (lv_at hl 2 rfl) ?_
        refine mo_get MC hw 16 (by decide) kw634 rfl rfl dX7_firstBad_39 ?_
        refine lv_iload_n hx hb dX7_firstBad_42 rfl (lv_at hl 3 rfl) ?_
        refine mo_iald MC hw 12 (by decide) (by decide) rfl kc (show kc < 30 by omega) hka dX7_firstBad_43 ?_
        refine lv_iload_n hx hb dX7_firstBad_44 rfl (lv_at hl 0 rfl) ?_
        refine lv_iadd hx hb dX7_firstBad_45 ?_
        refine lv_istore (lv' := [(4, .int ((τ 12 kc + nI j))), (3, .int (nI j)), (2, .int (fbv (τ 12 kc) (fst1 (badB τ kc) j 0))), (0, .ref (ad 11)), (1, .int c9)]) hx hb dX7_firstBad_46 hl (by decide) rfl (fun ls hl => ?_)
        refine lv_iload_n hx hb dX7_firstBad_48 rfl (lv_at hl 2 rfl) ?_
        refine lv_iconst (v := (-1)) hx hb dX7_firstBad_49 (by decide) ?_
        refine lv_icmp_ne (tgt := 68) hx hb dX7_firstBad_50 (by decide) (fun c_50 => ?_) (fun c_50 => ?_)
        · refine lv_iload_n hx hb dX7_firstBad_68 rfl (lv_at hl 2 rfl) ?_
          refine lv_istore_n (lv' := [(2, .int (fbv (τ 12 kc) (fst1 (badB τ kc) j 0))), (4, .int ((τ 12 kc + nI j))), (3, .int (nI j)), (0, .ref (ad 11)), (1, .int c9)]) hx hb dX7_firstBad_69 rfl hl (by decide) rfl (fun ls hl => ?_)
          refine lv_iinc (v := nI j + 1) (lv' := [(3, .int (nI j + 1)), (2, .int (fbv (τ 12 kc) (fst1 (badB τ kc) j 0))), (4, .int ((τ 12 kc + nI j))), (0, .ref (ad 11)), (1, .int c9)]) hx hb dX7_firstBad_70 hl (k := 2) rfl rfl (by decide) rfl (fun ls hl => ?_)
          refine lv_goto (tgt := 21) hx hb dX7_firstBad_73 (by decide) ?_
          have hst := fbv_step (p := badB τ kc) (n := j) hb9 (by omega)
          rw [if_neg (fun h9 => c_50 h9.1)] at hst
          rw [← hst, nI_1] at hl
          exact ih _ ls HS (lv_sub hl [0, 1, 3, 4] rfl)
        · refine lv_aload_n hx hb dX7_firstBad_53 rfl (lv_at hl 3 rfl) ?_
          refine lv_iload_n hx hb dX7_firstBad_54 rfl (lv_at hl 4 rfl) ?_
          refine lv_iload hx hb dX7_firstBad_55 (lv_at hl 0 rfl) ?_
          refine ro_callV MC HS (rest := []) (As := [.int c9, .int (τ 12 kc + nI j)]) (by have h9 := m_against (l := l) hw hI kc (b9 + j) hcn (show b9 + j < 672 by omega); rw [← hr_add hb9, ← hka] at h9; exact h9) (lkX7_119) (kw796) (kw26) ⟨Nat.le_of_ble_eq_true rfl, Nat.le_of_ble_eq_true rfl⟩ (mo_recv MC hw) hl.1 rfl (Nat.le_of_ble_eq_true rfl) dX7_firstBad_57 ⟨Nat.le_of_ble_eq_true rfl, Nat.le_of_ble_eq_true rfl⟩ (fun v9 H4 lH4 hp hz HS => ?_)
          obtain ⟨rfl, rfl⟩ := hp
          refine lv_if_eq (tgt := 68) hx hb dX7_firstBad_60 (by decide) (fun c_60 => ?_) (fun c_60 => ?_)
          · refine lv_iload_n hx hb dX7_firstBad_68 rfl (lv_at hl 2 rfl) ?_
            refine lv_istore_n (lv' := [(2, .int (fbv (τ 12 kc) (fst1 (badB τ kc) j 0))), (4, .int ((τ 12 kc + nI j))), (3, .int (nI j)), (0, .ref (ad 11)), (1, .int c9)]) hx hb dX7_firstBad_69 rfl hl (by decide) rfl (fun ls hl => ?_)
            refine lv_iinc (v := nI j + 1) (lv' := [(3, .int (nI j + 1)), (2, .int (fbv (τ 12 kc) (fst1 (badB τ kc) j 0))), (4, .int ((τ 12 kc + nI j))), (0, .ref (ad 11)), (1, .int c9)]) hx hb dX7_firstBad_70 hl (k := 2) rfl rfl (by decide) rfl (fun ls hl => ?_)
            refine lv_goto (tgt := 21) hx hb dX7_firstBad_73 (by decide) ?_
            have hst := fbv_step (p := badB τ kc) (n := j) hb9 (by omega)
            rw [if_neg (fun h9 => by have h8 := h9.2; unfold badB at h8; simp [c_60] at h8)] at hst
            rw [← hst, nI_1] at hl
            exact ih _ ls HS (lv_sub hl [0, 1, 3, 4] rfl)
          · refine lv_iload hx hb dX7_firstBad_63 (lv_at hl 0 rfl) ?_
            refine lv_goto (tgt := 69) hx hb dX7_firstBad_65 (by decide) ?_
            refine lv_istore_n (lv' := [(2, .int ((τ 12 kc + nI j))), (4, .int ((τ 12 kc + nI j))), (3, .int (nI j)), (0, .ref (ad 11)), (1, .int c9)]) hx hb dX7_firstBad_69 rfl hl (by decide) rfl (fun ls hl => ?_)
            refine lv_iinc (v := nI j + 1) (lv' := [(3, .int (nI j + 1)), (2, .int ((τ 12 kc + nI j))), (4, .int ((τ 12 kc + nI j))), (0, .ref (ad 11)), (1, .int c9)]) hx hb dX7_firstBad_70 hl (k := 2) rfl rfl (by decide) rfl (fun ls hl => ?_)
            refine lv_goto (tgt := 21) hx hb dX7_firstBad_73 (by decide) ?_
            have hst := fbv_step (p := badB τ kc) (n := j) hb9 (by omega)
            rw [if_pos ⟨c_50, by unfold badB; simp [c_60]⟩] at hst
            rw [← hst, nI_1] at hl
            exact ih _ ls HS (lv_sub hl [0, 1, 3, 4] rfl)
    exact loop 0 (Nat.zero_le _) _ ls HS (lv_sub hl [0, 1, 2, 3] rfl)
set_option maxHeartbeats 4000000 in
set_option maxRecDepth 100000 in
theorem m_reasons {l : Launch} {D : va_G} {ids : Nat → ClassId} {n0 : Nat} {RR : List Nat} {ad : Nat → Nat} {τ : Tau} {th : Int32} {fr : Nat → va_E} {Hh : Heap} (hw : sM D ids n0 RR ad τ th fr Hh) {nw ns nl nc : Nat} (hI : Iv τ nw ns nl nc) (c9 : Int32) : ro_M l yX7_reasons cX7_reasons 4 (some FieldType.int) { frames := 4, cells := 0, slots := 0, locals := 120 } D ids n0 [.ref (ad 11), .int c9] Hh (fun v9 H1 => ∃ rz, v9 = some (.int rz) ∧ sM D ids n0 RR ad τ (th_badHours τ c9) fr H1 ∧ (th_badHours τ c9 = 0 → rz = rt_reasons τ c9)) := by
  refine ro_ofM (by decide +kernel) (Nat.le_of_ble_eq_true rfl) ?_
  intro p e s m below meth c MC hhp hr hnm HS ls hl
  have hx := MC.1.1
  have hb := MC.1.2.1
  have hl : lv_has ls 4 [(0, .ref (ad 11)), (1, .int c9)] := hl
  refine lv_aload_n hx hb dX7_reasons_0 rfl (lv_at hl 0 rfl) ?_
  refine lv_aload_n hx hb dX7_reasons_1 rfl (lv_at hl 0 rfl) ?_
  refine lv_iload_n hx hb dX7_reasons_2 rfl (lv_at hl 1 rfl) ?_
  refine ro_callV MC HS (rest := [.ref (ad 11)]) (As := [.int c9]) (m_isChange hw c9) (lkX7_122) (kw788) (kw24) ⟨Nat.le_of_ble_eq_true rfl, Nat.le_of_ble_eq_true rfl⟩ (mo_recv MC hw) hl.1 rfl (Nat.le_of_ble_eq_true rfl) dX7_reasons_3 ⟨Nat.le_of_ble_eq_true rfl, Nat.le_of_ble_eq_true rfl⟩ (fun v9 H1 lH1 hp hz HS => ?_)
  obtain ⟨rfl, rfl⟩ := hp
  refine lv_if_eq (tgt := 13) hx hb dX7_reasons_6 (by decide) (fun c_6 => ?_) (fun c_6 => ?_)
  · have f_6 := bI_0.mp c_6
    refine lv_iconst (v := 1) hx hb dX7_reasons_13 (by decide) ?_
    refine mo_put MC hw HS 0 (by decide) kw618 rfl rfl rfl τ 1 rfl (fun _ _ => rfl) dX7_reasons_14 (fun H2 lH2 hw HS => ?_)
    refine lv_iconst (v := 0) hx hb dX7_reasons_17 (by decide) ?_
    refine lv_istore_n (lv' := [(2, .int 0), (0, .ref (ad 11)), (1, .int c9)]) hx hb dX7_reasons_18 rfl hl (by decide) rfl (fun ls hl => ?_)
    refine lv_iconst (v := 0) hx hb dX7_reasons_19 (by decide) ?_
    refine lv_istore_n (lv' := [(3, .int 0), (2, .int 0), (0, .ref (ad 11)), (1, .int c9)]) hx hb dX7_reasons_20 rfl hl (by decide) rfl (fun ls hl => ?_)
    refine lv_aload_n hx hb dX7_reasons_21 rfl (lv_at hl 2 rfl) ?_
    refine mo_get MC hw 0 (by decide) kw618 rfl rfl dX7_reasons_22 ?_
    refine lv_if_ne (tgt := 60) hx hb dX7_reasons_25 (by decide) (fun c_25 => ?_) (fun c_25 => absurd c_25 (by decide))
    refine lv_iload_n hx hb dX7_reasons_60 rfl (lv_at hl 1 rfl) ?_
    have hth : th_badHours τ c9 = 1 := ax_reasons_0 f_6
    exact ro_iretM MC HS hr ⟨_, rfl, by rw [hth]; exact hw, fun h0 => absurd (hth.symm.trans h0) (by decide)⟩ (Nat.le_refl _) (Nat.le_refl _) dX7_reasons_61
  · have f_6 := bI_n0.mp c_6
    obtain ⟨kc, hcn, hka, hkc⟩ := hI.c f_6
    have hnc := hI.2.2.2.1.2
    obtain ⟨-, ⟨b9, n9, hb9, hn9, h1n, hn1, hbn⟩, -⟩ := hI.2.2.2.2.2.2.2.2.2.2.1 kc hcn
    have hcl : cx (τ 13 kc) = n9 := by rw [hn9]; exact cx_nI (by omega)
    refine lv_iconst (v := 0) hx hb dX7_reasons_9 (by decide) ?_
    refine lv_goto (tgt := 14) hx hb dX7_reasons_10 (by decide) ?_
    refine mo_put MC hw HS 0 (by decide) kw618 rfl rfl rfl τ 0 rfl (fun _ _ => rfl) dX7_reasons_14 (fun H3 lH3 hw HS => ?_)
    refine lv_iconst (v := 0) hx hb dX7_reasons_17 (by decide) ?_
    refine lv_istore_n (lv' := [(2, .int 0), (0, .ref (ad 11)), (1, .int c9)]) hx hb dX7_reasons_18 rfl hl (by decide) rfl (fun ls hl => ?_)
    refine lv_iconst (v := 0) hx hb dX7_reasons_19 (by decide) ?_
    refine lv_istore_n (lv' := [(3, .int 0), (2, .int 0), (0, .ref (ad 11)), (1, .int c9)]) hx hb dX7_reasons_20 rfl hl (by decide) rfl (fun ls hl => ?_)
    have loop : ∀ j : Nat, j ≤ n9 → ∀ (locs : List Loc) (ls : Array Slot), va_S (fun q => n0 ≤ q) s.heap H3 locs → lv_has ls 4 [(3, .int (nI j)), (2, .int (orr (fun j => agn τ kc (τ 12 kc + nI j)) j)), (0, .ref (ad 11)), (1, .int c9)] → W p l e { frames := 4, cells := 0, slots := 0, locals := 120 } s m ([.ref (ad 11), .int c9] : List Value).toArray below meth c H3 locs 0 0 (MQ below (ro_Q n0 (fun v9 H1 => ∃ rz, v9 = some (.int rz) ∧ sM D ids n0 RR ad τ (th_badHours τ c9) fr H1 ∧ (th_badHours τ c9 = 0 → rz = rt_reasons τ c9))) ([.ref (ad 11), .int c9] : List Value).toArray s 0 0 (fun q => n0 ≤ q)) (F0 m 21 ls []) := by
      refine ro_loop (n9) (fun j : Nat => ∀ (locs : List Loc) (ls : Array Slot), va_S (fun q => n0 ≤ q) s.heap H3 locs → lv_has ls 4 [(3, .int (nI j)), (2, .int (orr (fun j => agn τ kc (τ 12 kc + nI j)) j)), (0, .ref (ad 11)), (1, .int c9)] → W p l e { frames := 4, cells := 0, slots := 0, locals := 120 } s m ([.ref (ad 11), .int c9] : List Value).toArray below meth c H3 locs 0 0 (MQ below (ro_Q n0 (fun v9 H1 => ∃ rz, v9 = some (.int rz) ∧ sM D ids n0 RR ad τ (th_badHours τ c9) fr H1 ∧ (th_badHours τ c9 = 0 → rz = rt_reasons τ c9))) ([.ref (ad 11), .int c9] : List Value).toArray s 0 0 (fun q => n0 ≤ q)) (F0 m 21 ls [])) ?_ ?_
      · intro locs ls HS hl
        refine lv_aload_n hx hb dX7_reasons_21 rfl (lv_at hl 2 rfl) ?_
        refine mo_get MC hw 0 (by decide) kw618 rfl rfl dX7_reasons_22 ?_
        refine lv_if_ne (tgt := 60) hx hb dX7_reasons_25 (by decide) (fun c_25 => absurd c_25 (by decide)) (fun c_25 => ?_)
        refine lv_iload_n hx hb dX7_reasons_28 rfl (lv_at hl 0 rfl) ?_
        refine lv_aload_n hx hb dX7_reasons_29 rfl (lv_at hl 2 rfl) ?_
        refine mo_get MC hw 17 (by decide) kw635 rfl rfl dX7_reasons_30 ?_
        refine lv_iload_n hx hb dX7_reasons_33 rfl (lv_at hl 3 rfl) ?_
        refine mo_iald MC hw 13 (by decide) (by decide) rfl kc (show kc < 30 by omega) hka dX7_reasons_34 ?_
        refine lv_icmp_ge (tgt := 60) hx hb dX7_reasons_35 (by decide) (fun c_35 => ?_) (fun c_35 => absurd (kn_le hn9 (Nat.le_refl _) (by omega)) c_35)
        refine lv_iload_n hx hb dX7_reasons_60 rfl (lv_at hl 1 rfl) ?_
        have hth : th_badHours τ c9 = 0 := ax_reasons_1 hkc f_6
        exact ro_iretM MC HS hr ⟨_, rfl, by rw [hth]; exact hw, fun _ => by rw [rt_reasons, hkc, hcl]⟩ (Nat.le_refl _) (Nat.le_refl _) dX7_reasons_61
      · intro j hkj ih locs ls HS hl
        refine lv_aload_n hx hb dX7_reasons_21 rfl (lv_at hl 2 rfl) ?_
        refine mo_get MC hw 0 (by decide) kw618 rfl rfl dX7_reasons_22 ?_
        refine lv_if_ne (tgt := 60) hx hb dX7_reasons_25 (by decide) (fun c_25 => absurd c_25 (by decide)) (fun c_25 => ?_)
        refine lv_iload_n hx hb dX7_reasons_28 rfl (lv_at hl 0 rfl) ?_
        refine lv_aload_n hx hb dX7_reasons_29 rfl (lv_at hl 2 rfl) ?_
        refine mo_get MC hw 17 (by decide) kw635 rfl rfl dX7_reasons_30 ?_
        refine lv_iload_n hx hb dX7_reasons_33 rfl (lv_at hl 3 rfl) ?_
        refine mo_iald MC hw 13 (by decide) (by decide) rfl kc (show kc < 30 by omega) hka dX7_reasons_34 ?_
        refine lv_icmp_ge (tgt := 60) hx hb dX7_reasons_35 (by decide) (fun c_35 => absurd c_35 (kn_nle hn9 hkj (by omega))) (fun c_35 => ?_)
        refine lv_iload_n hx hb dX7_reasons_38 rfl (lv_at hl 1 rfl) ?_
        refine lv_aload_n hx hb dX7_reasons_39 rfl (lv_at hl 2 rfl) ?_
        refine lv_iload_n hx hb dX7_reasons_40 rfl (lv_at hl 3 rfl) ?_
        refine lv_aload_n hx hb dX7_reasons_41 rfl (lv_at hl 2 rfl) ?_
        refine mo_get MC hw 16 (by decide) kw634 rfl rfl dX7_reasons_42 ?_
        refine lv_iload_n hx hb dX7_reasons_45 rfl (lv_at hl 3 rfl) ?_
        refine mo_iald MC hw 12 (by decide) (by decide) rfl kc (show kc < 30 by omega) hka dX7_reasons_46 ?_
        refine lv_iload_n hx hb dX7_reasons_47 rfl (lv_at hl 0 rfl) ?_
        refine lv_iadd hx hb dX7_reasons_48 ?_
        refine ro_callV MC HS (rest := [.int (orr (fun j => agn τ kc (τ 12 kc + nI j)) j)]) (As := [.int c9, .int (τ 12 kc + nI j)]) (by have h9 := m_against (l := l) hw hI kc (b9 + j) hcn (show b9 + j < 672 by omega); rw [← hr_add hb9, ← hka] at h9; exact h9) (lkX7_119) (kw796) (kw26) ⟨Nat.le_of_ble_eq_true rfl, Nat.le_of_ble_eq_true rfl⟩ (mo_recv MC hw) hl.1 rfl (Nat.le_of_ble_eq_true rfl) dX7_reasons_49 ⟨Nat.le_of_ble_eq_true rfl, Nat.le_of_ble_eq_true rfl⟩ (fun v9 H4 lH4 hp hz HS => ?_)
        obtain ⟨rfl, rfl⟩ := hp
        refine lv_ior hx hb dX7_reasons_52 ?_
        refine lv_istore_n (lv' := [(2, .int ((orr (fun j => agn τ kc (τ 12 kc + nI j)) j ||| agn τ kc (τ 12 kc + nI j)))), (3, .int (nI j)), (0, .ref (ad 11)), (1, .int c9)]) hx hb dX7_reasons_53 rfl hl (by decide) rfl (fun ls hl => ?_)
        refine lv_iinc (v := nI j + 1) (lv' := [(3, .int (nI j + 1)), (2, .int ((orr (fun j => agn τ kc (τ 12 kc + nI j)) j ||| agn τ kc (τ 12 kc + nI j)))), (0, .ref (ad 11)), (1, .int c9)]) hx hb dX7_reasons_54 hl (k := 1) rfl rfl (by decide) rfl (fun ls hl => ?_)
        refine lv_goto (tgt := 21) hx hb dX7_reasons_57 (by decide) ?_
        rw [nI_1] at hl
        exact ih _ ls HS (lv_sub hl [0, 1, 2, 3] rfl)
    exact loop 0 (Nat.zero_le _) _ ls HS (lv_sub hl [0, 1, 2, 3] rfl)
