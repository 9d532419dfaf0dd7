theorem lt4 {r : Nat} (h : r ≤ 4) : r < 4 ↔ ¬ 4 ≤ nI r := by
  have h1 := nI_leI (a := 4) (b := r) (by omega) (by omega)
  rw [show (4 : Int32) = nI 4 from rfl, h1]; omega
theorem ax_nextSpan_0 {τ : Tau} {s9 : Int32} {f : Int32} {n : Int32} (f_6 : 0 ≤ s9 ∧ s9 ≤ τ 0 1 - 1) (f_21 : ¬ (0 ≤ f ∧ f ≤ 671)) (c_56 : 672 ≤ f) : th_nextSpan τ s9 f n = 2 := by
  unfold th_nextSpan; grind
theorem ax_nextSpan_1 {τ : Tau} {s9 : Int32} {f : Int32} {n : Int32} (f_6 : 0 ≤ s9 ∧ s9 ≤ τ 0 1 - 1) (f_21 : ¬ (0 ≤ f ∧ f ≤ 671)) (c_56 : ¬ (672 ≤ f)) : th_nextSpan τ s9 f n = 2 := by
  unfold th_nextSpan; grind
theorem ax_nextSpan_2 {τ : Tau} {s9 : Int32} {f : Int32} {n : Int32} (f_6 : 0 ≤ s9 ∧ s9 ≤ τ 0 1 - 1) (f_21 : 0 ≤ f ∧ f ≤ 671) (f_31 : ¬ (1 ≤ n ∧ n ≤ 100)) (c_56 : 672 ≤ f) : th_nextSpan τ s9 f n = 2 := by
  unfold th_nextSpan; grind
theorem ax_nextSpan_3 {τ : Tau} {s9 : Int32} {f : Int32} {n : Int32} (f_6 : 0 ≤ s9 ∧ s9 ≤ τ 0 1 - 1) (f_21 : 0 ≤ f ∧ f ≤ 671) (f_31 : ¬ (1 ≤ n ∧ n ≤ 100)) (c_56 : ¬ (672 ≤ f)) : th_nextSpan τ s9 f n = 2 := by
  unfold th_nextSpan; grind
theorem ax_nextSpan_4 {τ : Tau} {s9 : Int32} {f : Int32} {n : Int32} (f_6 : 0 ≤ s9 ∧ s9 ≤ τ 0 1 - 1) (f_21 : 0 ≤ f ∧ f ≤ 671) (f_31 : 1 ≤ n ∧ n ≤ 100) : th_nextSpan τ s9 f n = 0 := by
  unfold th_nextSpan; grind
theorem ax_nextSpan_5 {τ : Tau} {s9 : Int32} {f : Int32} {n : Int32} (f_6 : 0 ≤ s9 ∧ s9 ≤ τ 0 1 - 1) (f_21 : 0 ≤ f ∧ f ≤ 671) (f_31 : 1 ≤ n ∧ n ≤ 100) (c_95 : 0 = n) : th_nextSpan τ s9 f n = 0 := by
  unfold th_nextSpan; grind
theorem ax_nextSpan_6 {τ : Tau} {s9 : Int32} {f : Int32} {n : Int32} (f_6 : 0 ≤ s9 ∧ s9 ≤ τ 0 1 - 1) (f_21 : 0 ≤ f ∧ f ≤ 671) (f_31 : 1 ≤ n ∧ n ≤ 100) (c_95 : 0 = n) : th_nextSpan τ s9 f n = 0 := by
  unfold th_nextSpan; grind
theorem ax_nextSpan_7 {τ : Tau} {s9 : Int32} {f : Int32} {n : Int32} (f_6 : 0 ≤ s9 ∧ s9 ≤ τ 0 1 - 1) (f_21 : 0 ≤ f ∧ f ≤ 671) (f_31 : 1 ≤ n ∧ n ≤ 100) : th_nextSpan τ s9 f n = 0 := by
  unfold th_nextSpan; grind
theorem ax_nextSpan_8 {τ : Tau} {s9 : Int32} {f : Int32} {n : Int32} (f_6 : 0 ≤ s9 ∧ s9 ≤ τ 0 1 - 1) (f_21 : 0 ≤ f ∧ f ≤ 671) (f_31 : 1 ≤ n ∧ n ≤ 100) : th_nextSpan τ s9 f n = 0 := by
  unfold th_nextSpan; grind
theorem ax_nextSpan_9 {τ : Tau} {s9 : Int32} {f : Int32} {n : Int32} (f_6 : ¬ (0 ≤ s9 ∧ s9 ≤ τ 0 1 - 1)) (c_56 : 672 ≤ f) : th_nextSpan τ s9 f n = 1 := by
  unfold th_nextSpan; grind
theorem ax_nextSpan_10 {τ : Tau} {s9 : Int32} {f : Int32} {n : Int32} (f_6 : ¬ (0 ≤ s9 ∧ s9 ≤ τ 0 1 - 1)) (c_56 : ¬ (672 ≤ f)) : th_nextSpan τ s9 f n = 1 := by
  unfold th_nextSpan; grind
theorem ax_excuse_0 {τ : Tau} {c9 : Int32} {k9 : Int32} {kc : Nat} (hkc : cx c9 = kc) {kn : Nat} (hfc : cx k9 = kn) {r : Nat} (hR : r = rkx τ kn) (hr9 : r < 4 ↔ ¬ 4 ≤ nI r) (f_6 : 0 ≤ c9 ∧ c9 ≤ τ 0 3 - 1) (f_18 : okF τ k9) (f_71 : ¬ (tch τ kn kc = true)) : th_excuse τ c9 k9 = 3 := by
  unfold th_excuse; grind
theorem ax_excuse_1 {τ : Tau} {c9 : Int32} {k9 : Int32} {kc : Nat} (hkc : cx c9 = kc) {kn : Nat} (hfc : cx k9 = kn) {r : Nat} (hR : r = rkx τ kn) (hr9 : r < 4 ↔ ¬ 4 ≤ nI r) (f_6 : 0 ≤ c9 ∧ c9 ≤ τ 0 3 - 1) (f_18 : okF τ k9) (f_71 : tch τ kn kc = true) (c_84 : ¬ (((τ 16 kc >>> (k9 &&& 31)) &&& 1) = 0)) : th_excuse τ c9 k9 = 3 := by
  unfold th_excuse; grind
theorem ax_excuse_2 {τ : Tau} {c9 : Int32} {k9 : Int32} {kc : Nat} (hkc : cx c9 = kc) {kn : Nat} (hfc : cx k9 = kn) {r : Nat} (hR : r = rkx τ kn) (hr9 : r < 4 ↔ ¬ 4 ≤ nI r) (f_6 : 0 ≤ c9 ∧ c9 ≤ τ 0 3 - 1) (f_18 : okF τ k9) (f_71 : tch τ kn kc = true) (c_84 : ((τ 16 kc >>> (k9 &&& 31)) &&& 1) = 0) (c_89 : 4 ≤ nI r) : th_excuse τ c9 k9 = 3 := by
  unfold th_excuse; grind
theorem ax_excuse_3 {τ : Tau} {c9 : Int32} {k9 : Int32} {kc : Nat} (hkc : cx c9 = kc) {kn : Nat} (hfc : cx k9 = kn) {r : Nat} (hR : r = rkx τ kn) (hr9 : r < 4 ↔ ¬ 4 ≤ nI r) (f_6 : 0 ≤ c9 ∧ c9 ≤ τ 0 3 - 1) (f_18 : okF τ k9) (f_71 : tch τ kn kc = true) (c_84 : ((τ 16 kc >>> (k9 &&& 31)) &&& 1) = 0) (c_89 : ¬ (4 ≤ nI r)) : th_excuse τ c9 k9 = 0 := by
  unfold th_excuse; grind
theorem ax_excuse_4 {τ : Tau} {c9 : Int32} {k9 : Int32} {kc : Nat} (hkc : cx c9 = kc) {kn : Nat} (hfc : cx k9 = kn) {r : Nat} (hR : r = rkx τ kn) (hr9 : r < 4 ↔ ¬ 4 ≤ nI r) (f_6 : 0 ≤ c9 ∧ c9 ≤ τ 0 3 - 1) (f_18 : okF τ k9) (c_47 : 4 ≤ nI r) (f_71 : ¬ (tch τ kn kc = true)) : th_excuse τ c9 k9 = 3 := by
  unfold th_excuse; grind
theorem ax_excuse_5 {τ : Tau} {c9 : Int32} {k9 : Int32} {kc : Nat} (hkc : cx c9 = kc) {kn : Nat} (hfc : cx k9 = kn) {r : Nat} (hR : r = rkx τ kn) (hr9 : r < 4 ↔ ¬ 4 ≤ nI r) (f_6 : 0 ≤ c9 ∧ c9 ≤ τ 0 3 - 1) (f_18 : okF τ k9) (c_47 : 4 ≤ nI r) (f_71 : tch τ kn kc = true) (c_84 : ¬ (((τ 16 kc >>> (k9 &&& 31)) &&& 1) = 0)) : th_excuse τ c9 k9 = 3 := by
  unfold th_excuse; grind
theorem ax_excuse_6 {τ : Tau} {c9 : Int32} {k9 : Int32} {kc : Nat} (hkc : cx c9 = kc) {kn : Nat} (hfc : cx k9 = kn) {r : Nat} (hR : r = rkx τ kn) (hr9 : r < 4 ↔ ¬ 4 ≤ nI r) (f_6 : 0 ≤ c9 ∧ c9 ≤ τ 0 3 - 1) (f_18 : okF τ k9) (c_47 : 4 ≤ nI r) (f_71 : tch τ kn kc = true) (c_84 : ((τ 16 kc >>> (k9 &&& 31)) &&& 1) = 0) (c_89 : 4 ≤ nI r) : th_excuse τ c9 k9 = 3 := by
  unfold th_excuse; grind
theorem ax_excuse_7 {τ : Tau} {c9 : Int32} {k9 : Int32} {kc : Nat} (hkc : cx c9 = kc) {kn : Nat} (hfc : cx k9 = kn) {r : Nat} (hR : r = rkx τ kn) (hr9 : r < 4 ↔ ¬ 4 ≤ nI r) (f_6 : 0 ≤ c9 ∧ c9 ≤ τ 0 3 - 1) (f_18 : okF τ k9) (c_47 : 4 ≤ nI r) (f_71 : tch τ kn kc = true) (c_84 : ((τ 16 kc >>> (k9 &&& 31)) &&& 1) = 0) (c_89 : ¬ (4 ≤ nI r)) : th_excuse τ c9 k9 = 0 := by
  unfold th_excuse; grind
theorem ax_excuse_8 {τ : Tau} {c9 : Int32} {k9 : Int32} {kc : Nat} (hkc : cx c9 = kc) {kn : Nat} (hfc : cx k9 = kn) {r : Nat} (hR : r = rkx τ kn) (hr9 : r < 4 ↔ ¬ 4 ≤ nI r) (f_6 : 0 ≤ c9 ∧ c9 ≤ τ 0 3 - 1) (f_18 : okF τ k9) (c_47 : ¬ (4 ≤ nI r)) (c_56 : ¬ (τ 18 r = 0)) (f_71 : ¬ (tch τ kn kc = true)) : th_excuse τ c9 k9 = 3 := by
  unfold th_excuse; grind
theorem ax_excuse_9 {τ : Tau} {c9 : Int32} {k9 : Int32} {kc : Nat} (hkc : cx c9 = kc) {kn : Nat} (hfc : cx k9 = kn) {r : Nat} (hR : r = rkx τ kn) (hr9 : r < 4 ↔ ¬ 4 ≤ nI r) (f_6 : 0 ≤ c9 ∧ c9 ≤ τ 0 3 - 1) (f_18 : okF τ k9) (c_47 : ¬ (4 ≤ nI r)) (c_56 : ¬ (τ 18 r = 0)) (f_71 : tch τ kn kc = true) (c_84 : ¬ (((τ 16 kc >>> (k9 &&& 31)) &&& 1) = 0)) : th_excuse τ c9 k9 = 3 := by
  unfold th_excuse; grind
theorem ax_excuse_10 {τ : Tau} {c9 : Int32} {k9 : Int32} {kc : Nat} (hkc : cx c9 = kc) {kn : Nat} (hfc : cx k9 = kn) {r : Nat} (hR : r = rkx τ kn) (hr9 : r < 4 ↔ ¬ 4 ≤ nI r) (f_6 : 0 ≤ c9 ∧ c9 ≤ τ 0 3 - 1) (f_18 : okF τ k9) (c_47 : ¬ (4 ≤ nI r)) (c_56 : ¬ (τ 18 r = 0)) (f_71 : tch τ kn kc = true) (c_84 : ((τ 16 kc >>> (k9 &&& 31)) &&& 1) = 0) (c_89 : 4 ≤ nI r) : th_excuse τ c9 k9 = 3 := by
  unfold th_excuse; grind
theorem ax_excuse_11 {τ : Tau} {c9 : Int32} {k9 : Int32} {kc : Nat} (hkc : cx c9 = kc) {kn : Nat} (hfc : cx k9 = kn) {r : Nat} (hR : r = rkx τ kn) (hr9 : r < 4 ↔ ¬ 4 ≤ nI r) (f_6 : 0 ≤ c9 ∧ c9 ≤ τ 0 3 - 1) (f_18 : okF τ k9) (c_47 : ¬ (4 ≤ nI r)) (c_56 : ¬ (τ 18 r = 0)) (f_71 : tch τ kn kc = true) (c_84 : ((τ 16 kc >>> (k9 &&& 31)) &&& 1) = 0) (c_89 : ¬ (4 ≤ nI r)) : th_excuse τ c9 k9 = 0 := by
  unfold th_excuse; grind
theorem ax_excuse_12 {τ : Tau} {c9 : Int32} {k9 : Int32} {kc : Nat} (hkc : cx c9 = kc) (f_6 : 0 ≤ c9 ∧ c9 ≤ τ 0 3 - 1) (f_18 : ¬ (okF τ k9)) : th_excuse τ c9 k9 = 2 := by
  unfold th_excuse; grind
theorem ax_excuse_13 {τ : Tau} {c9 : Int32} {k9 : Int32} (f_6 : ¬ (0 ≤ c9 ∧ c9 ≤ τ 0 3 - 1)) : th_excuse τ c9 k9 = 1 := by
  unfold th_excuse; grind
set_option maxHeartbeats 4000000 in
set_option maxRecDepth 100000 in
theorem m_nextSpan {l : Launch} {D : va_G} {ids : Nat → ClassId} {n0 : Nat} {RR : List Nat} {ad : Nat → Nat} {τ : Tau} {th : Int32} {fr : Nat → va_E} {Hh : Heap} (hw : sM D ids n0 RR ad τ th fr Hh) {nw ns nl nc : Nat} (hI : Iv τ nw ns nl nc) (s9 : Int32) (f : Int32) (n : Int32) : ro_M l yX7_nextSpan cX7_nextSpan 7 (some FieldType.int) { frames := 3, cells := 0, slots := 0, locals := 90 } D ids n0 [.ref (ad 11), .int s9, .int f, .int n] Hh (fun v9 H1 => ∃ rz, v9 = some (.int rz) ∧ sM D ids n0 RR ad τ (th_nextSpan τ s9 f n) fr H1 ∧ (th_nextSpan τ s9 f n = 0 → rz = rt_nextSpan τ s9 f n)) := by
  refine ro_ofM (by decide +kernel) (Nat.le_of_ble_eq_true rfl) ?_
  intro p e s m below meth c MC hhp hr hnm HS ls hl
  have hx := MC.1.1
  have hb := MC.1.2.1
  have hl : lv_has ls 7 [(0, .ref (ad 11)), (1, .int s9), (2, .int f), (3, .int n)] := hl
  refine lv_aload_n hx hb dX7_nextSpan_0 rfl (lv_at hl 0 rfl) ?_
  refine lv_aload_n hx hb dX7_nextSpan_1 rfl (lv_at hl 0 rfl) ?_
  refine lv_iload_n hx hb dX7_nextSpan_2 rfl (lv_at hl 1 rfl) ?_
  refine ro_callV MC HS (rest := [.ref (ad 11)]) (As := [.int s9]) (m_isScope hw s9) (lkX7_76) (kw698) (kw16) ⟨Nat.le_of_ble_eq_true rfl, Nat.le_of_ble_eq_true rfl⟩ (mo_recv MC hw) hl.1 rfl (Nat.le_of_ble_eq_true rfl) dX7_nextSpan_3 ⟨Nat.le_of_ble_eq_true rfl, Nat.le_of_ble_eq_true rfl⟩ (fun v9 H1 lH1 hp hz HS => ?_)
  obtain ⟨rfl, rfl⟩ := hp
  refine lv_if_ne (tgt := 13) hx hb dX7_nextSpan_6 (by decide) (fun c_6 => ?_) (fun c_6 => ?_)
  · have f_6 := bI_n0.mp c_6
    obtain ⟨ks, hks, hka, hkc⟩ := hI.s f_6
    refine lv_iload_n hx hb dX7_nextSpan_13 rfl (lv_at hl 2 rfl) ?_
    refine lv_iconst (v := 0) hx hb dX7_nextSpan_14 (by decide) ?_
    refine lv_sipush (v := 671) hx hb dX7_nextSpan_15 (by decide) ?_
    refine ro_callS MC HS (rest := [.ref (ad 11)]) (As := [.int f, .int 0, .int 671]) (m_isIn l D ids n0 f 0 671) (lkX7_72) (kw701) ⟨Nat.le_of_ble_eq_true rfl, Nat.le_of_ble_eq_true rfl⟩ hl.1 rfl (Nat.le_of_ble_eq_true rfl) dX7_nextSpan_18 ⟨Nat.le_of_ble_eq_true rfl, Nat.le_of_ble_eq_true rfl⟩ (fun v9 H2 lH2 hp hz HS => ?_)
    obtain ⟨rfl, rfl⟩ := hp
    refine lv_if_eq (tgt := 38) hx hb dX7_nextSpan_21 (by decide) (fun c_21 => ?_) (fun c_21 => ?_)
    · have f_21 := bI_0.mp c_21
      refine lv_iconst (v := 2) hx hb dX7_nextSpan_38 (by decide) ?_
      refine mo_put MC hw HS 0 (by decide) kw618 rfl rfl rfl τ 2 rfl (fun _ _ => rfl) dX7_nextSpan_39 (fun H3 lH3 hw HS => ?_)
      refine lv_iconst (v := 0) hx hb dX7_nextSpan_42 (by decide) ?_
      refine lv_istore (lv' := [(4, .int 0), (0, .ref (ad 11)), (1, .int s9), (2, .int f), (3, .int n)]) hx hb dX7_nextSpan_43 hl (by decide) rfl (fun ls hl => ?_)
      refine lv_iconst (v := (-1)) hx hb dX7_nextSpan_45 (by decide) ?_
      refine lv_istore (lv' := [(5, .int ((-1))), (4, .int 0), (0, .ref (ad 11)), (1, .int s9), (2, .int f), (3, .int n)]) hx hb dX7_nextSpan_46 hl (by decide) rfl (fun ls hl => ?_)
      refine lv_iload_n hx hb dX7_nextSpan_48 rfl (lv_at hl 4 rfl) ?_
      refine lv_istore (lv' := [(6, .int f), (5, .int ((-1))), (4, .int 0), (0, .ref (ad 11)), (1, .int s9), (2, .int f), (3, .int n)]) hx hb dX7_nextSpan_49 hl (by decide) rfl (fun ls hl => ?_)
      refine lv_iload hx hb dX7_nextSpan_51 (lv_at hl 0 rfl) ?_
      refine lv_sipush (v := 672) hx hb dX7_nextSpan_53 (by decide) ?_
      refine lv_icmp_ge (tgt := 116) hx hb dX7_nextSpan_56 (by decide) (fun c_56 => ?_) (fun c_56 => ?_)
      · refine lv_aload_n hx hb dX7_nextSpan_116 rfl (lv_at hl 3 rfl) ?_
        refine mo_get MC hw 0 (by decide) kw618 rfl rfl dX7_nextSpan_117 ?_
        refine lv_if_le (tgt := 127) hx hb dX7_nextSpan_120 (by decide) (fun c_120 => absurd c_120 (by decide)) (fun c_120 => ?_)
        refine lv_iconst (v := 0) hx hb dX7_nextSpan_123 (by decide) ?_
        refine lv_goto (tgt := 129) hx hb dX7_nextSpan_124 (by decide) ?_
        have hth : th_nextSpan τ s9 f n = 2 := ax_nextSpan_0 f_6 f_21 c_56
        exact ro_iretM MC HS hr ⟨_, rfl, by rw [hth]; exact hw, fun h0 => absurd (hth.symm.trans h0) (by decide)⟩ (Nat.le_refl _) (Nat.le_refl _) dX7_nextSpan_129
      · refine lv_aload_n hx hb dX7_nextSpan_59 rfl (lv_at hl 3 rfl) ?_
        refine mo_get MC hw 0 (by decide) kw618 rfl rfl dX7_nextSpan_60 ?_
        refine lv_if_ne (tgt := 116) hx hb dX7_nextSpan_63 (by decide) (fun c_63 => ?_) (fun c_63 => absurd c_63 (by decide))
        refine lv_aload_n hx hb dX7_nextSpan_116 rfl (lv_at hl 3 rfl) ?_
        refine mo_get MC hw 0 (by decide) kw618 rfl rfl dX7_nextSpan_117 ?_
        refine lv_if_le (tgt := 127) hx hb dX7_nextSpan_120 (by decide) (fun c_120 => absurd c_120 (by decide)) (fun c_120 => ?_)
        refine lv_iconst (v := 0) hx hb dX7_nextSpan_123 (by decide) ?_
        refine lv_goto (tgt := 129) hx hb dX7_nextSpan_124 (by decide) ?_
        have hth : th_nextSpan τ s9 f n = 2 := ax_nextSpan_1 f_6 f_21 c_56
        exact ro_iretM MC HS hr ⟨_, rfl, by rw [hth]; exact hw, fun h0 => absurd (hth.symm.trans h0) (by decide)⟩ (Nat.le_refl _) (Nat.le_refl _) dX7_nextSpan_129
    · have f_21 := bI_n0.mp c_21
      obtain ⟨f9, hf9, hfa⟩ := nI_ex (x := f) (n := 672) f_21.1 (by show f < 672; lia) (by omega)
      have hfc : cx f = f9 := by rw [hfa]; exact cx_nI (by omega)
      refine lv_iload_n hx hb dX7_nextSpan_24 rfl (lv_at hl 3 rfl) ?_
      refine lv_iconst (v := 1) hx hb dX7_nextSpan_25 (by decide) ?_
      refine lv_bipush (v := 100) hx hb dX7_nextSpan_26 (by decide) ?_
      refine ro_callS MC HS (rest := [.ref (ad 11)]) (As := [.int n, .int 1, .int 100]) (m_isIn l D ids n0 n 1 100) (lkX7_72) (kw701) ⟨Nat.le_of_ble_eq_true rfl, Nat.le_of_ble_eq_true rfl⟩ hl.1 rfl (Nat.le_of_ble_eq_true rfl) dX7_nextSpan_28 ⟨Nat.le_of_ble_eq_true rfl, Nat.le_of_ble_eq_true rfl⟩ (fun v9 H4 lH4 hp hz HS => ?_)
      obtain ⟨rfl, rfl⟩ := hp
      refine lv_if_eq (tgt := 38) hx hb dX7_nextSpan_31 (by decide) (fun c_31 => ?_) (fun c_31 => ?_)
      · have f_31 := bI_0.mp c_31
        refine lv_iconst (v := 2) hx hb dX7_nextSpan_38 (by decide) ?_
        refine mo_put MC hw HS 0 (by decide) kw618 rfl rfl rfl τ 2 rfl (fun _ _ => rfl) dX7_nextSpan_39 (fun H5 lH5 hw HS => ?_)
        refine lv_iconst (v := 0) hx hb dX7_nextSpan_42 (by decide) ?_
        refine lv_istore (lv' := [(4, .int 0), (0, .ref (ad 11)), (1, .int s9), (2, .int f), (3, .int n)]) hx hb dX7_nextSpan_43 hl (by decide) rfl (fun ls hl => ?_)
        refine lv_iconst (v := (-1)) hx hb dX7_nextSpan_45 (by decide) ?_
        refine lv_istore (lv' := [(5, .int ((-1))), (4, .int 0), (0, .ref (ad 11)), (1, .int s9), (2, .int f), (3, .int n)]) hx hb dX7_nextSpan_46 hl (by decide) rfl (fun ls hl => ?_)
        refine lv_iload_n hx hb dX7_nextSpan_48 rfl (lv_at hl 4 rfl) ?_
        refine lv_istore (lv' := [(6, .int f), (5, .int ((-1))), (4, .int 0), (0, .ref (ad 11)), (1, .int s9), (2, .int f), (3, .int n)]) hx hb dX7_nextSpan_49 hl (by decide) rfl (fun ls hl => ?_)
        refine lv_iload hx hb dX7_nextSpan_51 (lv_at hl 0 rfl) ?_
        refine lv_sipush (v := 672) hx hb dX7_nextSpan_53 (by decide) ?_
        refine lv_icmp_ge (tgt := 116) hx hb dX7_nextSpan_56 (by decide) (fun c_56 => ?_) (fun c_56 => ?_)
        · refine lv_aload_n hx hb dX7_nextSpan_116 rfl (lv_at hl 3 rfl) ?_
          refine mo_get MC hw 0 (by decide) kw618 rfl rfl dX7_nextSpan_117 ?_
          refine lv_if_le (tgt := 127) hx hb dX7_nextSpan_120 (by decide) (fun c_120 => absurd c_120 (by decide)) (fun c_120 => ?_)
          refine lv_iconst (v := 0) hx hb dX7_nextSpan_123 (by decide) ?_
          refine lv_goto (tgt := 129) hx hb dX7_nextSpan_124 (by decide) ?_
          have hth : th_nextSpan τ s9 f n = 2 := ax_nextSpan_2 f_6 f_21 f_31 c_56
          exact ro_iretM MC HS hr ⟨_, rfl, by rw [hth]; exact hw, fun h0 => absurd (hth.symm.trans h0) (by decide)⟩ (Nat.le_refl _) (Nat.le_refl _) dX7_nextSpan_129
        · refine lv_aload_n hx hb dX7_nextSpan_59 rfl (lv_at hl 3 rfl) ?_
          refine mo_get MC hw 0 (by decide) kw618 rfl rfl dX7_nextSpan_60 ?_
          refine lv_if_ne (tgt := 116) hx hb dX7_nextSpan_63 (by decide) (fun c_63 => ?_) (fun c_63 => absurd c_63 (by decide))
          refine lv_aload_n hx hb dX7_nextSpan_116 rfl (lv_at hl 3 rfl) ?_
          refine mo_get MC hw 0 (by decide) kw618 rfl rfl dX7_nextSpan_117 ?_
          refine lv_if_le (tgt := 127) hx hb dX7_nextSpan_120 (by decide) (fun c_120 => absurd c_120 (by decide)) (fun c_120 => ?_)
          refine lv_iconst (v := 0) hx hb dX7_nextSpan_123 (by decide) ?_
          refine lv_goto (tgt := 129) hx hb dX7_nextSpan_124 (by decide) ?_
          have hth : th_nextSpan τ s9 f n = 2 := ax_nextSpan_3 f_6 f_21 f_31 c_56
          exact ro_iretM MC HS hr ⟨_, rfl, by rw [hth]; exact hw, fun h0 => absurd (hth.symm.trans h0) (by decide)⟩ (Nat.le_refl _) (Nat.le_refl _) dX7_nextSpan_129
      · have f_31 := bI_n0.mp c_31
        obtain ⟨n9, hn9, hna⟩ := nI_ex (x := n) (n := 101) (by lia) (by show n < 101; lia) (by omega)
        refine lv_iconst (v := 0) hx hb dX7_nextSpan_34 (by decide) ?_
        refine lv_goto (tgt := 39) hx hb dX7_nextSpan_35 (by decide) ?_
        refine mo_put MC hw HS 0 (by decide) kw618 rfl rfl rfl τ 0 rfl (fun _ _ => rfl) dX7_nextSpan_39 (fun H6 lH6 hw HS => ?_)
        refine lv_iconst (v := 0) hx hb dX7_nextSpan_42 (by decide) ?_
        refine lv_istore (lv' := [(4, .int 0), (0, .ref (ad 11)), (1, .int s9), (2, .int f), (3, .int n)]) hx hb dX7_nextSpan_43 hl (by decide) rfl (fun ls hl => ?_)
        refine lv_iconst (v := (-1)) hx hb dX7_nextSpan_45 (by decide) ?_
        refine lv_istore (lv' := [(5, .int ((-1))), (4, .int 0), (0, .ref (ad 11)), (1, .int s9), (2, .int f), (3, .int n)]) hx hb dX7_nextSpan_46 hl (by decide) rfl (fun ls hl => ?_)
        refine lv_iload_n hx hb dX7_nextSpan_48 rfl (lv_at hl 4 rfl) ?_
        refine lv_istore (lv' := [(6, .int f), (5, .int ((-1))), (4, .int 0), (0, .ref (ad 11)), (1, .int s9), (2, .int f), (3, .int n)]) hx hb dX7_nextSpan_49 hl (by decide) rfl (fun ls hl => ?_)
        have loop : ∀ h : Nat, h ≤ 672 → ∀ (oo : Nat) (locs : List Loc) (ls : Array Slot), f9 ≤ h → oo + f9 ≤ h → rt_nextSpan τ s9 f n = nsp (fun h => hoS τ s9 (nI h) == 0) n (672 - h) h (nI oo) → va_S (fun q => n0 ≤ q) s.heap H6 locs → lv_has ls 7 [(6, .int (nI h)), (5, .int ((-1))), (4, .int (nI oo)), (0, .ref (ad 11)), (1, .int s9), (2, .int f), (3, .int n)] → W p l e { frames := 3, cells := 0, slots := 0, locals := 90 } s m ([.ref (ad 11), .int s9, .int f, .int n] : List Value).toArray below meth c H6 locs 0 0 (MQ below (ro_Q n0 (fun v9 H1 => ∃ rz, v9 = some (.int rz) ∧ sM D ids n0 RR ad τ (th_nextSpan τ s9 f n) fr H1 ∧ (th_nextSpan τ s9 f n = 0 → rz = rt_nextSpan τ s9 f n))) ([.ref (ad 11), .int s9, .int f, .int n] : List Value).toArray s 0 0 (fun q => n0 ≤ q)) (F0 m 51 ls []) := by
          refine ro_loop 672 (fun h : Nat => ∀ (oo : Nat) (locs : List Loc) (ls : Array Slot), f9 ≤ h → oo + f9 ≤ h → rt_nextSpan τ s9 f n = nsp (fun h => hoS τ s9 (nI h) == 0) n (672 - h) h (nI oo) → va_S (fun q => n0 ≤ q) s.heap H6 locs → lv_has ls 7 [(6, .int (nI h)), (5, .int ((-1))), (4, .int (nI oo)), (0, .ref (ad 11)), (1, .int s9), (2, .int f), (3, .int n)] → W p l e { frames := 3, cells := 0, slots := 0, locals := 90 } s m ([.ref (ad 11), .int s9, .int f, .int n] : List Value).toArray below meth c H6 locs 0 0 (MQ below (ro_Q n0 (fun v9 H1 => ∃ rz, v9 = some (.int rz) ∧ sM D ids n0 RR ad τ (th_nextSpan τ s9 f n) fr H1 ∧ (th_nextSpan τ s9 f n = 0 → rz = rt_nextSpan τ s9 f n))) ([.ref (ad 11), .int s9, .int f, .int n] : List Value).toArray s 0 0 (fun q => n0 ≤ q)) (F0 m 51 ls [])) ?_ ?_
          · intro oo locs ls hfh hoo hR HS hl
            have hR : (-1) = rt_nextSpan τ s9 f n := by rw [hR]; rfl
            refine lv_iload hx hb dX7_nextSpan_51 (lv_at hl 0 rfl) ?_
            refine lv_sipush (v := 672) hx hb dX7_nextSpan_53 (by decide) ?_
            refine lv_icmp_ge (tgt := 116) hx hb dX7_nextSpan_56 (by decide) (fun c_56 => ?_) (fun c_56 => absurd (kn_le (n := 672) rfl (Nat.le_refl _) (by omega)) c_56)
            refine lv_aload_n hx hb dX7_nextSpan_116 rfl (lv_at hl 3 rfl) ?_
            refine mo_get MC hw 0 (by decide) kw618 rfl rfl dX7_nextSpan_117 ?_
            refine lv_if_le (tgt := 127) hx hb dX7_nextSpan_120 (by decide) (fun c_120 => ?_) (fun c_120 => absurd c_120 (by decide))
            refine lv_iload hx hb dX7_nextSpan_127 (lv_at hl 1 rfl) ?_
            have hth : th_nextSpan τ s9 f n = 0 := ax_nextSpan_4 f_6 f_21 f_31
            exact ro_iretM MC HS hr ⟨_, rfl, by rw [hth]; exact hw, fun _ => by exact hR⟩ (Nat.le_refl _) (Nat.le_refl _) dX7_nextSpan_129
          · intro h hkh ih oo locs ls hfh hoo hR HS hl
            have hfu : 672 - h = (672 - (h + 1)) + 1 := by omega
            rw [hfu] at hR
            refine lv_iload hx hb dX7_nextSpan_51 (lv_at hl 0 rfl) ?_
            refine lv_sipush (v := 672) hx hb dX7_nextSpan_53 (by decide) ?_
            refine lv_icmp_ge (tgt := 116) hx hb dX7_nextSpan_56 (by decide) (fun c_56 => absurd c_56 (kn_nle (n := 672) rfl hkh (by omega))) (fun c_56 => ?_)
            refine lv_aload_n hx hb dX7_nextSpan_59 rfl (lv_at hl 3 rfl) ?_
            refine mo_get MC hw 0 (by decide) kw618 rfl rfl dX7_nextSpan_60 ?_
            refine lv_if_ne (tgt := 116) hx hb dX7_nextSpan_63 (by decide) (fun c_63 => absurd c_63 (by decide)) (fun c_63 => ?_)
            refine lv_iload hx hb dX7_nextSpan_66 (lv_at hl 1 rfl) ?_
            refine lv_iconst (v := (-1)) hx hb dX7_nextSpan_68 (by decide) ?_
            refine lv_icmp_ne (tgt := 116) hx hb dX7_nextSpan_69 (by decide) (fun c_69 => absurd c_69 (by decide)) (fun c_69 => ?_)
            refine lv_aload_n hx hb dX7_nextSpan_72 rfl (lv_at hl 3 rfl) ?_
            refine lv_iload_n hx hb dX7_nextSpan_73 rfl (lv_at hl 4 rfl) ?_
            refine lv_iload hx hb dX7_nextSpan_74 (lv_at hl 0 rfl) ?_
            refine ro_callV MC HS (rest := []) (As := [.int s9, .int (nI h)]) (by have h9 := m_holdingIn (l := l) hw hI ks h hks hkh; rw [← hka] at h9; exact h9) (lkX7_106) (kw752) (kw19) ⟨Nat.le_of_ble_eq_true rfl, Nat.le_of_ble_eq_true rfl⟩ (mo_recv MC hw) hl.1 rfl (Nat.le_of_ble_eq_true rfl) dX7_nextSpan_76 ⟨Nat.le_of_ble_eq_true rfl, Nat.le_of_ble_eq_true rfl⟩ (fun v9 H7 lH7 hp hz HS => ?_)
            obtain ⟨rfl, rfl⟩ := hp
            refine lv_if_ne (tgt := 89) hx hb dX7_nextSpan_79 (by decide) (fun c_79 => ?_) (fun c_79 => ?_)
            · refine lv_iconst (v := 0) hx hb dX7_nextSpan_89 (by decide) ?_
              refine lv_istore (lv' := [(4, .int 0), (6, .int (nI h)), (5, .int ((-1))), (0, .ref (ad 11)), (1, .int s9), (2, .int f), (3, .int n)]) hx hb dX7_nextSpan_90 hl (by decide) rfl (fun ls hl => ?_)
              refine lv_iload hx hb dX7_nextSpan_92 (lv_at hl 0 rfl) ?_
              refine lv_iload_n hx hb dX7_nextSpan_94 rfl (lv_at hl 6 rfl) ?_
              refine lv_icmp_ne (tgt := 107) hx hb dX7_nextSpan_95 (by decide) (fun c_95 => ?_) (fun c_95 => ?_)
              · refine lv_iconst (v := (-1)) hx hb dX7_nextSpan_107 (by decide) ?_
                refine lv_istore (lv' := [(5, .int ((-1))), (4, .int 0), (6, .int (nI h)), (0, .ref (ad 11)), (1, .int s9), (2, .int f), (3, .int n)]) hx hb dX7_nextSpan_108 hl (by decide) rfl (fun ls hl => ?_)
                refine lv_iinc (v := nI h + 1) (lv' := [(6, .int (nI h + 1)), (5, .int ((-1))), (4, .int 0), (0, .ref (ad 11)), (1, .int s9), (2, .int f), (3, .int n)]) hx hb dX7_nextSpan_110 hl (k := 2) rfl rfl (by decide) rfl (fun ls hl => ?_)
                refine lv_goto (tgt := 51) hx hb dX7_nextSpan_113 (by decide) ?_
                have hfr : (fun h => hoS τ s9 (nI h) == 0) h = false := beq_eq_false_iff_ne.mpr c_79
                have hif : (if (fun h => hoS τ s9 (nI h) == 0) h = true then nI oo + 1 else 0) = 0 := by rw [hfr]; rfl
                rw [nsp_go (by rw [hif]; exact c_95), hif] at hR
                refine ih (0) _ ls (by omega) (by omega) hR HS ?_
                have hl := lv_sub (l' := [(6, .int (nI h + 1)), (5, .int ((-1))), (4, .int 0), (0, .ref (ad 11)), (1, .int s9), (2, .int f), (3, .int n)]) hl [0, 1, 2, 3, 4, 5, 6] rfl
                rw [nI_1 h] at hl
                exact hl
              · refine lv_iload hx hb dX7_nextSpan_98 (lv_at hl 1 rfl) ?_
                refine lv_iload_n hx hb dX7_nextSpan_100 rfl (lv_at hl 6 rfl) ?_
                refine lv_isub hx hb dX7_nextSpan_101 ?_
                refine lv_iconst (v := 1) hx hb dX7_nextSpan_102 (by decide) ?_
                refine lv_iadd hx hb dX7_nextSpan_103 ?_
                refine lv_goto (tgt := 108) hx hb dX7_nextSpan_104 (by decide) ?_
                refine lv_istore (lv' := [(5, .int (((nI h - n) + 1))), (4, .int 0), (6, .int (nI h)), (0, .ref (ad 11)), (1, .int s9), (2, .int f), (3, .int n)]) hx hb dX7_nextSpan_108 hl (by decide) rfl (fun ls hl => ?_)
                refine lv_iinc (v := nI h + 1) (lv' := [(6, .int (nI h + 1)), (5, .int (((nI h - n) + 1))), (4, .int 0), (0, .ref (ad 11)), (1, .int s9), (2, .int f), (3, .int n)]) hx hb dX7_nextSpan_110 hl (k := 2) rfl rfl (by decide) rfl (fun ls hl => ?_)
                refine lv_goto (tgt := 51) hx hb dX7_nextSpan_113 (by decide) ?_
                have hfr : (fun h => hoS τ s9 (nI h) == 0) h = false := beq_eq_false_iff_ne.mpr c_79
                have hif : (if (fun h => hoS τ s9 (nI h) == 0) h = true then nI oo + 1 else 0) = 0 := by rw [hfr]; rfl
                have hR : ((nI h - n) + 1) = rt_nextSpan τ s9 f n := by rw [hR, nsp_stop (by rw [hif]; exact c_95)]
                have hno : n9 ≤ h + 1 := by
                  have h9 : nI n9 = nI 0 := by rw [← hna]; exact c_95.symm
                  have h8 := (nI_eq (by omega) (by omega)).mp h9
                  omega
                have hne : ¬ ((nI h - n) + 1) = -1 := by rw [nI_sub1 hna hno]; exact nI_m1 (by omega)
                refine lv_iload hx hb dX7_nextSpan_51 (lv_at hl 0 rfl) ?_
                refine lv_sipush (v := 672) hx hb dX7_nextSpan_53 (by decide) ?_
                refine lv_icmp_ge (tgt := 116) hx hb dX7_nextSpan_56 (by decide) (fun c_56 => ?_) (fun c_56 => ?_)
                · refine lv_aload_n hx hb dX7_nextSpan_116 rfl (lv_at hl 3 rfl) ?_
                  refine mo_get MC hw 0 (by decide) kw618 rfl rfl dX7_nextSpan_117 ?_
                  refine lv_if_le (tgt := 127) hx hb dX7_nextSpan_120 (by decide) (fun c_120 => ?_) (fun c_120 => absurd c_120 (by decide))
                  refine lv_iload hx hb dX7_nextSpan_127 (lv_at hl 1 rfl) ?_
                  have hth : th_nextSpan τ s9 f n = 0 := ax_nextSpan_5 f_6 f_21 f_31 c_95
                  exact ro_iretM MC HS hr ⟨_, rfl, by rw [hth]; exact hw, fun _ => by exact hR⟩ (Nat.le_refl _) (Nat.le_refl _) dX7_nextSpan_129
                · refine lv_aload_n hx hb dX7_nextSpan_59 rfl (lv_at hl 3 rfl) ?_
                  refine mo_get MC hw 0 (by decide) kw618 rfl rfl dX7_nextSpan_60 ?_
                  refine lv_if_ne (tgt := 116) hx hb dX7_nextSpan_63 (by decide) (fun c_63 => absurd c_63 (by decide)) (fun c_63 => ?_)
                  refine lv_iload hx hb dX7_nextSpan_66 (lv_at hl 1 rfl) ?_
                  refine lv_iconst (v := (-1)) hx hb dX7_nextSpan_68 (by decide) ?_
                  refine lv_icmp_ne (tgt := 116) hx hb dX7_nextSpan_69 (by decide) (fun c_69 => ?_) (fun c_69 => absurd c_69 (hne))
                  refine lv_aload_n hx hb dX7_nextSpan_116 rfl (lv_at hl 3 rfl) ?_
                  refine mo_get MC hw 0 (by decide) kw618 rfl rfl dX7_nextSpan_117 ?_
                  refine lv_if_le (tgt := 127) hx hb dX7_nextSpan_120 (by decide) (fun c_120 => ?_) (fun c_120 => absurd c_120 (by decide))
                  refine lv_iload hx hb dX7_nextSpan_127 (lv_at hl 1 rfl) ?_
                  have hth : th_nextSpan τ s9 f n = 0 := ax_nextSpan_6 f_6 f_21 f_31 c_95
                  exact ro_iretM MC HS hr ⟨_, rfl, by rw [hth]; exact hw, fun _ => by exact hR⟩ (Nat.le_refl _) (Nat.le_refl _) dX7_nextSpan_129
            · refine lv_iload hx hb dX7_nextSpan_82 (lv_at hl 2 rfl) ?_
              refine lv_iconst (v := 1) hx hb dX7_nextSpan_84 (by decide) ?_
              refine lv_iadd hx hb dX7_nextSpan_85 ?_
              refine lv_goto (tgt := 90) hx hb dX7_nextSpan_86 (by decide) ?_
              refine lv_istore (lv' := [(4, .int ((nI oo + 1))), (6, .int (nI h)), (5, .int ((-1))), (0, .ref (ad 11)), (1, .int s9), (2, .int f), (3, .int n)]) hx hb dX7_nextSpan_90 hl (by decide) rfl (fun ls hl => ?_)
              refine lv_iload hx hb dX7_nextSpan_92 (lv_at hl 0 rfl) ?_
              refine lv_iload_n hx hb dX7_nextSpan_94 rfl (lv_at hl 6 rfl) ?_
              refine lv_icmp_ne (tgt := 107) hx hb dX7_nextSpan_95 (by decide) (fun c_95 => ?_) (fun c_95 => ?_)
              · refine lv_iconst (v := (-1)) hx hb dX7_nextSpan_107 (by decide) ?_
                refine lv_istore (lv' := [(5, .int ((-1))), (4, .int ((nI oo + 1))), (6, .int (nI h)), (0, .ref (ad 11)), (1, .int s9), (2, .int f), (3, .int n)]) hx hb dX7_nextSpan_108 hl (by decide) rfl (fun ls hl => ?_)
                refine lv_iinc (v := nI h + 1) (lv' := [(6, .int (nI h + 1)), (5, .int ((-1))), (4, .int ((nI oo + 1))), (0, .ref (ad 11)), (1, .int s9), (2, .int f), (3, .int n)]) hx hb dX7_nextSpan_110 hl (k := 2) rfl rfl (by decide) rfl (fun ls hl => ?_)
                refine lv_goto (tgt := 51) hx hb dX7_nextSpan_113 (by decide) ?_
                have hfr : (fun h => hoS τ s9 (nI h) == 0) h = true := beq_iff_eq.mpr c_79
                have hif : (if (fun h => hoS τ s9 (nI h) == 0) h = true then nI oo + 1 else 0) = nI oo + 1 := by rw [hfr]; rfl
                rw [nsp_go (by rw [hif]; exact c_95), hif] at hR
                rw [nI_1] at hR
                refine ih (oo + 1) _ ls (by omega) (by omega) hR HS ?_
                have hl := lv_sub (l' := [(6, .int (nI h + 1)), (5, .int ((-1))), (4, .int ((nI oo + 1))), (0, .ref (ad 11)), (1, .int s9), (2, .int f), (3, .int n)]) hl [0, 1, 2, 3, 4, 5, 6] rfl
                rw [nI_1 h] at hl
                rw [nI_1 oo] at hl
                exact hl
              · refine lv_iload hx hb dX7_nextSpan_98 (lv_at hl 1 rfl) ?_
                refine lv_iload_n hx hb dX7_nextSpan_100 rfl (lv_at hl 6 rfl) ?_
                refine lv_isub hx hb dX7_nextSpan_101 ?_
                refine lv_iconst (v := 1) hx hb dX7_nextSpan_102 (by decide) ?_
                refine lv_iadd hx hb dX7_nextSpan_103 ?_
                refine lv_goto (tgt := 108) hx hb dX7_nextSpan_104 (by decide) ?_
                refine lv_istore (lv' := [(5, .int (((nI h - n) + 1))), (4, .int ((nI oo + 1))), (6, .int (nI h)), (0, .ref (ad 11)), (1, .int s9), (2, .int f), (3, .int n)]) hx hb dX7_nextSpan_108 hl (by decide) rfl (fun ls hl => ?_)
                refine lv_iinc (v := nI h + 1) (lv' := [(6, .int (nI h + 1)), (5, .int (((nI h - n) + 1))), (4, .int ((nI oo + 1))), (0, .ref (ad 11)), (1, .int s9), (2, .int f), (3, .int n)]) hx hb dX7_nextSpan_110 hl (k := 2) rfl rfl (by decide) rfl (fun ls hl => ?_)
                refine lv_goto (tgt := 51) hx hb dX7_nextSpan_113 (by decide) ?_
                have hfr : (fun h => hoS τ s9 (nI h) == 0) h = true := beq_iff_eq.mpr c_79
                have hif : (if (fun h => hoS τ s9 (nI h) == 0) h = true then nI oo + 1 else 0) = nI oo + 1 := by rw [hfr]; rfl
                have hR : ((nI h - n) + 1) = rt_nextSpan τ s9 f n := by rw [hR, nsp_stop (by rw [hif]; exact c_95)]
                have hno : n9 ≤ h + 1 := by
                  have h9 : nI n9 = nI (oo + 1) := by rw [← hna, ← nI_1]; exact c_95.symm
                  have h8 := (nI_eq (by omega) (by omega)).mp h9
                  omega
                have hne : ¬ ((nI h - n) + 1) = -1 := by rw [nI_sub1 hna hno]; exact nI_m1 (by omega)
                refine lv_iload hx hb dX7_nextSpan_51 (lv_at hl 0 rfl) ?_
                refine lv_sipush (v := 672) hx hb dX7_nextSpan_53 (by decide) ?_
                refine lv_icmp_ge (tgt := 116) hx hb dX7_nextSpan_56 (by decide) (fun c_56 => ?_) (fun c_56 => ?_)
                · refine lv_aload_n hx hb dX7_nextSpan_116 rfl (lv_at hl 3 rfl) ?_
                  refine mo_get MC hw 0 (by decide) kw618 rfl rfl dX7_nextSpan_117 ?_
                  refine lv_if_le (tgt := 127) hx hb dX7_nextSpan_120 (by decide) (fun c_120 => ?_) (fun c_120 => absurd c_120 (by decide))
                  refine lv_iload hx hb dX7_nextSpan_127 (lv_at hl 1 rfl) ?_
                  have hth : th_nextSpan τ s9 f n = 0 := ax_nextSpan_7 f_6 f_21 f_31
                  exact ro_iretM MC HS hr ⟨_, rfl, by rw [hth]; exact hw, fun _ => by exact hR⟩ (Nat.le_refl _) (Nat.le_refl _) dX7_nextSpan_129
                · refine lv_aload_n hx hb dX7_nextSpan_59 rfl (lv_at hl 3 rfl) ?_
                  refine mo_get MC hw 0 (by decide) kw618 rfl rfl dX7_nextSpan_60 ?_
                  refine lv_if_ne (tgt := 116) hx hb dX7_nextSpan_63 (by decide) (fun c_63 => absurd c_63 (by decide)) (fun c_63 => ?_)
                  refine lv_iload hx hb dX7_nextSpan_66 (lv_at hl 1 rfl) ?_
                  refine lv_iconst (v := (-1)) hx hb dX7_nextSpan_68 (by decide) ?_
                  refine lv_icmp_ne (tgt := 116) hx hb dX7_nextSpan_69 (by decide) (fun c_69 => ?_) (fun c_69 => absurd c_69 (hne))
                  refine lv_aload_n hx hb dX7_nextSpan_116 rfl (lv_at hl 3 rfl) ?_
                  refine mo_get MC hw 0 (by decide) kw618 rfl rfl dX7_nextSpan_117 ?_
                  refine lv_if_le (tgt := 127) hx hb dX7_nextSpan_120 (by decide) (fun c_120 => ?_) (fun c_120 => absurd c_120 (by decide))
                  refine lv_iload hx hb dX7_nextSpan_127 (lv_at hl 1 rfl) ?_
                  have hth : th_nextSpan τ s9 f n = 0 := ax_nextSpan_8 f_6 f_21 f_31
                  exact ro_iretM MC HS hr ⟨_, rfl, by rw [hth]; exact hw, fun _ => by exact hR⟩ (Nat.le_refl _) (Nat.le_refl _) dX7_nextSpan_129
        refine loop f9 (by omega) 0 _ ls (Nat.le_refl _) (by omega) (by rw [rt_nextSpan, hfc]; rfl) HS ?_
        have hl := lv_sub (l' := [(6, .int f), (5, .int ((-1))), (4, .int (nI 0)), (0, .ref (ad 11)), (1, .int s9), (2, .int f), (3, .int n)]) hl [0, 1, 2, 3, 4, 5, 6] rfl
        rw [show ((6 : Nat), Value.int f) = (6, Value.int (nI f9)) from by rw [hfa]] at hl
        exact hl
  · have f_6 := bI_0.mp c_6
    refine lv_iconst (v := 1) hx hb dX7_nextSpan_9 (by decide) ?_
    refine lv_goto (tgt := 39) hx hb dX7_nextSpan_10 (by decide) ?_
    refine mo_put MC hw HS 0 (by decide) kw618 rfl rfl rfl τ 1 rfl (fun _ _ => rfl) dX7_nextSpan_39 (fun H8 lH8 hw HS => ?_)
    refine lv_iconst (v := 0) hx hb dX7_nextSpan_42 (by decide) ?_
    refine lv_istore (lv' := [(4, .int 0), (0, .ref (ad 11)), (1, .int s9), (2, .int f), (3, .int n)]) hx hb dX7_nextSpan_43 hl (by decide) rfl (fun ls hl => ?_)
    refine lv_iconst (v := (-1)) hx hb dX7_nextSpan_45 (by decide) ?_
    refine lv_istore (lv' := [(5, .int ((-1))), (4, .int 0), (0, .ref (ad 11)), (1, .int s9), (2, .int f), (3, .int n)]) hx hb dX7_nextSpan_46 hl (by decide) rfl (fun ls hl => ?_)
    refine lv_iload_n hx hb dX7_nextSpan_48 rfl (lv_at hl 4 rfl) ?_
    refine lv_istore (lv' := [(6, .int f), (5, .int ((-1))), (4, .int 0), (0, .ref (ad 11)), (1, .int s9), (2, .int f), (3, .int n)]) hx hb dX7_nextSpan_49 hl (by decide) rfl (fun ls hl => ?_)
    refine lv_iload hx hb dX7_nextSpan_51 (lv_at hl 0 rfl) ?_
    refine lv_sipush (v := 672) hx hb dX7_nextSpan_53 (by decide) ?_
    refine lv_icmp_ge (tgt := 116) hx hb dX7_nextSpan_56 (by decide) (fun c_56 => ?_) (fun c_56 => ?_)
    · refine lv_aload_n hx hb dX7_nextSpan_116 rfl (lv_at hl 3 rfl) ?_
      refine mo_get MC hw 0 (by decide) kw618 rfl rfl dX7_nextSpan_117 ?_
      refine lv_if_le (tgt := 127) hx hb dX7_nextSpan_120 (by decide) (fun c_120 => absurd c_120 (by decide)) (fun c_120 => ?_)
      refine lv_iconst (v := 0) hx hb dX7_nextSpan_123 (by decide) ?_
      refine lv_goto (tgt := 129) hx hb dX7_nextSpan_124 (by decide) ?_
      have hth : th_nextSpan τ s9 f n = 1 := ax_nextSpan_9 f_6 c_56
      exact ro_iretM MC HS hr ⟨_, rfl, by rw [hth]; exact hw, fun h0 => absurd (hth.symm.trans h0) (by decide)⟩ (Nat.le_refl _) (Nat.le_refl _) dX7_nextSpan_129
    · refine lv_aload_n hx hb dX7_nextSpan_59 rfl (lv_at hl 3 rfl) ?_
      refine mo_get MC hw 0 (by decide) kw618 rfl rfl dX7_nextSpan_60 ?_
      refine lv_if_ne (tgt := 116) hx hb dX7_nextSpan_63 (by decide) (fun c_63 => ?_) (fun c_63 => absurd c_63 (by decide))
      refine lv_aload_n hx hb dX7_nextSpan_116 rfl (lv_at hl 3 rfl) ?_
      refine mo_get MC hw 0 (by decide) kw618 rfl rfl dX7_nextSpan_117 ?_
      refine lv_if_le (tgt := 127) hx hb dX7_nextSpan_120 (by decide) (fun c_120 => absurd c_120 (by decide)) (fun c_120 => ?_)
      refine lv_iconst (v := 0) hx hb dX7_nextSpan_123 (by decide) ?_
      refine lv_goto (tgt := 129) hx hb dX7_nextSpan_124 (by decide) ?_
      have hth : th_nextSpan τ s9 f n = 1 := ax_nextSpan_10 f_6 c_56
      exact ro_iretM MC HS hr ⟨_, rfl, by rw [hth]; exact hw, fun h0 => absurd (hth.symm.trans h0) (by decide)⟩ (Nat.le_refl _) (Nat.le_refl _) dX7_nextSpan_129
set_option maxHeartbeats 4000000 in
set_option maxRecDepth 100000 in
theorem m_excuse {l : Launch} {D : va_G} {ids : Nat → ClassId} {n0 : Nat} {RR : List Nat} {ad : Nat → Nat} {τ : Tau} {th : Int32} {fr : Nat → va_E} {Hh : Heap} (hw : sM D ids n0 RR ad τ th fr Hh) {nw ns nl nc : Nat} (hI : Iv τ nw ns nl nc) (c9 : Int32) (k9 : Int32) : ro_M l yX7_excuse cX7_excuse 5 (some FieldType.int) { frames := 3, cells := 0, slots := 0, locals := 90 } D ids n0 [.ref (ad 11), .int c9, .int k9] Hh (fun v9 H1 => ∃ rz, v9 = some (.int rz) ∧ sM D ids n0 RR ad (if th_excuse τ c9 k9 = 0 then nx_excuse τ c9 k9 else τ) (th_excuse τ c9 k9) fr H1 ∧ (th_excuse τ c9 k9 = 0 → rz = rt_excuse τ c9 k9)) := by
  refine ro_ofM (by decide +kernel) (Nat.le_of_ble_eq_true rfl) ?_
  intro p e s m below meth c MC hhp hr hnm HS ls hl
  have hx := MC.1.1
  have hb := MC.1.2.1
  have hl : lv_has ls 5 [(0, .ref (ad 11)), (1, .int c9), (2, .int k9)] := hl
  refine lv_aload_n hx hb dX7_excuse_0 rfl (lv_at hl 0 rfl) ?_
  refine lv_aload_n hx hb dX7_excuse_1 rfl (lv_at hl 0 rfl) ?_
  refine lv_iload_n hx hb dX7_excuse_2 rfl (lv_at hl 1 rfl) ?_
  refine ro_callV MC HS (rest := [.ref (ad 11)]) (As := [.int c9]) (m_isChange hw c9) (lkX7_122) (kw788) (kw24) ⟨Nat.le_of_ble_eq_true rfl, Nat.le_of_ble_eq_true rfl⟩ (mo_recv MC hw) hl.1 rfl (Nat.le_of_ble_eq_true rfl) dX7_excuse_3 ⟨Nat.le_of_ble_eq_true rfl, Nat.le_of_ble_eq_true rfl⟩ (fun v9 H1 lH1 hp hz HS => ?_)
  obtain ⟨rfl, rfl⟩ := hp
  refine lv_if_ne (tgt := 13) hx hb dX7_excuse_6 (by decide) (fun c_6 => ?_) (fun c_6 => ?_)
  · have f_6 := bI_n0.mp c_6
    obtain ⟨kc, hcn, hka, hkc⟩ := hI.c f_6
    have hnc := hI.2.2.2.1.2
    refine lv_aload_n hx hb dX7_excuse_13 rfl (lv_at hl 0 rfl) ?_
    refine lv_iload_n hx hb dX7_excuse_14 rfl (lv_at hl 2 rfl) ?_
    refine ro_callV MC HS (rest := [.ref (ad 11)]) (As := [.int k9]) (m_isFreeze hw hI k9) (lkX7_93) (kw744) (kw18) ⟨Nat.le_of_ble_eq_true rfl, Nat.le_of_ble_eq_true rfl⟩ (mo_recv MC hw) hl.1 rfl (Nat.le_of_ble_eq_true rfl) dX7_excuse_15 ⟨Nat.le_of_ble_eq_true rfl, Nat.le_of_ble_eq_true rfl⟩ (fun v9 H2 lH2 hp hz HS => ?_)
    obtain ⟨rfl, rfl⟩ := hp
    refine lv_if_ne (tgt := 25) hx hb dX7_excuse_18 (by decide) (fun c_18 => ?_) (fun c_18 => ?_)
    · have f_18 := bI_n0.mp c_18
      obtain ⟨kn, hkn, hfa, hfc⟩ := hI.n f_18.1
      have hnl := hI.2.2.1.2
      obtain ⟨-, -, -, ⟨r9, hr1, hr3, hra⟩⟩ := hI.2.2.2.2.2.2.2.2.2.1 kn hkn
      have hrc : cx (τ 10 kn) = r9 := by rw [hra]; exact cx_nI (by omega)
      refine lv_iconst (v := 0) hx hb dX7_excuse_25 (by decide) ?_
      refine mo_put MC hw HS 0 (by decide) kw618 rfl rfl rfl τ 0 rfl (fun _ _ => rfl) dX7_excuse_26 (fun H3 lH3 hw HS => ?_)
      refine lv_aload_n hx hb dX7_excuse_29 rfl (lv_at hl 0 rfl) ?_
      refine mo_get MC hw 0 (by decide) kw618 rfl rfl dX7_excuse_30 ?_
      refine lv_if_le (tgt := 38) hx hb dX7_excuse_33 (by decide) (fun c_33 => ?_) (fun c_33 => absurd c_33 (by decide))
      refine lv_aload_n hx hb dX7_excuse_38 rfl (lv_at hl 0 rfl) ?_
      refine mo_get MC hw 13 (by decide) kw631 rfl rfl dX7_excuse_39 ?_
      refine lv_iload_n hx hb dX7_excuse_42 rfl (lv_at hl 2 rfl) ?_
      refine mo_iald MC hw 10 (by decide) (by decide) rfl kn (show kn < 20 by omega) hfa dX7_excuse_43 ?_
      refine lv_istore_n (lv' := [(3, .int (τ 10 kn)), (0, .ref (ad 11)), (1, .int c9), (2, .int k9)]) hx hb dX7_excuse_44 rfl hl (by decide) rfl (fun ls hl => ?_)
      have loop : ∀ n : Nat, ∀ (r : Nat), r ≤ 4 → 4 ≤ r + n → rkS (τ 18) n r = rkx τ kn → ∀ (locs : List Loc) (ls : Array Slot), va_S (fun q => n0 ≤ q) s.heap H3 locs → lv_has ls 5 [(3, .int (nI r)), (0, .ref (ad 11)), (1, .int c9), (2, .int k9)] → W p l e { frames := 3, cells := 0, slots := 0, locals := 90 } s m ([.ref (ad 11), .int c9, .int k9] : List Value).toArray below meth c H3 locs 0 0 (MQ below (ro_Q n0 (fun v9 H1 => ∃ rz, v9 = some (.int rz) ∧ sM D ids n0 RR ad (if th_excuse τ c9 k9 = 0 then nx_excuse τ c9 k9 else τ) (th_excuse τ c9 k9) fr H1 ∧ (th_excuse τ c9 k9 = 0 → rz = rt_excuse τ c9 k9))) ([.ref (ad 11), .int c9, .int k9] : List Value).toArray s 0 0 (fun q => n0 ≤ q)) (F0 m 45 ls []) := by
        intro n
        induction n with
        | zero =>
          intro r hr4 h4r hR locs ls HS hl
          have hR : r = rkx τ kn := hR
          refine lv_iload_n hx hb dX7_excuse_45 rfl (lv_at hl 0 rfl) ?_
          refine lv_iconst (v := 4) hx hb dX7_excuse_46 (by decide) ?_
          refine lv_icmp_ge (tgt := 65) hx hb dX7_excuse_47 (by decide) (fun c_47 => ?_) (fun c_47 => absurd (kn_le (n := 4) rfl (by omega) (by omega)) c_47)
          refine lv_aload_n hx hb dX7_excuse_65 rfl (lv_at hl 1 rfl) ?_
          refine lv_iload_n hx hb dX7_excuse_66 rfl (lv_at hl 3 rfl) ?_
          refine lv_iload_n hx hb dX7_excuse_67 rfl (lv_at hl 2 rfl) ?_
          refine ro_callV MC HS (rest := []) (As := [.int k9, .int c9]) (by rw [hka, hfa]; exact m_touches hw hI kn kc hkn hcn) (lkX7_116) (kw800) (kw27) ⟨Nat.le_of_ble_eq_true rfl, Nat.le_of_ble_eq_true rfl⟩ (mo_recv MC hw) hl.1 rfl (Nat.le_of_ble_eq_true rfl) dX7_excuse_68 ⟨Nat.le_of_ble_eq_true rfl, Nat.le_of_ble_eq_true rfl⟩ (fun v9 H4 lH4 hp hz HS => ?_)
          obtain ⟨rfl, rfl⟩ := hp
          refine lv_if_eq (tgt := 96) hx hb dX7_excuse_71 (by decide) (fun c_71 => ?_) (fun c_71 => ?_)
          · have f_71 := bI_0.mp c_71
            refine lv_iconst (v := 0) hx hb dX7_excuse_96 (by decide) ?_
            refine lv_istore (lv' := [(4, .int 0), (3, .int (nI r)), (0, .ref (ad 11)), (1, .int c9), (2, .int k9)]) hx hb dX7_excuse_97 hl (by decide) rfl (fun ls hl => ?_)
            refine lv_aload_n hx hb dX7_excuse_99 rfl (lv_at hl 2 rfl) ?_
            refine lv_iload hx hb dX7_excuse_100 (lv_at hl 0 rfl) ?_
            refine lv_if_eq (tgt := 109) hx hb dX7_excuse_102 (by decide) (fun c_102 => ?_) (fun c_102 => absurd c_102 (by decide))
            refine lv_iconst (v := 3) hx hb dX7_excuse_109 (by decide) ?_
            refine mo_put MC hw HS 0 (by decide) kw618 rfl rfl rfl τ 3 rfl (fun _ _ => rfl) dX7_excuse_110 (fun H5 lH5 hw HS => ?_)
            refine lv_aload_n hx hb dX7_excuse_113 rfl (lv_at hl 2 rfl) ?_
            refine mo_get MC hw 0 (by decide) kw618 rfl rfl dX7_excuse_114 ?_
            refine lv_if_le (tgt := 122) hx hb dX7_excuse_117 (by decide) (fun c_117 => absurd c_117 (by decide)) (fun c_117 => ?_)
            refine lv_iconst (v := 0) hx hb dX7_excuse_120 (by decide) ?_
            have hth : th_excuse τ c9 k9 = 3 := ax_excuse_0 hkc hfc hR (lt4 hr4) f_6 f_18 f_71
            exact ro_iretM MC HS hr ⟨_, rfl, by rw [hth, if_neg (by decide)]; exact hw, fun h0 => absurd (hth.symm.trans h0) (by decide)⟩ (Nat.le_refl _) (Nat.le_refl _) dX7_excuse_121
          · have f_71 := bI_n0.mp c_71
            refine lv_aload_n hx hb dX7_excuse_74 rfl (lv_at hl 1 rfl) ?_
            refine mo_get MC hw 20 (by decide) kw638 rfl rfl dX7_excuse_75 ?_
            refine lv_iload_n hx hb dX7_excuse_78 rfl (lv_at hl 2 rfl) ?_
            refine mo_iald MC hw 16 (by decide) (by decide) rfl kc (show kc < 30 by omega) hka dX7_excuse_79 ?_
            refine lv_iload_n hx hb dX7_excuse_80 rfl (lv_at hl 3 rfl) ?_
            refine lv_ishr hx hb dX7_excuse_81 ?_
            refine lv_iconst (v := 1) hx hb dX7_excuse_82 (by decide) ?_
            refine lv_iand hx hb dX7_excuse_83 ?_
            refine lv_if_ne (tgt := 96) hx hb dX7_excuse_84 (by decide) (fun c_84 => ?_) (fun c_84 => ?_)
            · refine lv_iconst (v := 0) hx hb dX7_excuse_96 (by decide) ?_
              refine lv_istore (lv' := [(4, .int 0), (3, .int (nI r)), (0, .ref (ad 11)), (1, .int c9), (2, .int k9)]) hx hb dX7_excuse_97 hl (by decide) rfl (fun ls hl => ?_)
              refine lv_aload_n hx hb dX7_excuse_99 rfl (lv_at hl 2 rfl) ?_
              refine lv_iload hx hb dX7_excuse_100 (lv_at hl 0 rfl) ?_
              refine lv_if_eq (tgt := 109) hx hb dX7_excuse_102 (by decide) (fun c_102 => ?_) (fun c_102 => absurd c_102 (by decide))
              refine lv_iconst (v := 3) hx hb dX7_excuse_109 (by decide) ?_
              refine mo_put MC hw HS 0 (by decide) kw618 rfl rfl rfl τ 3 rfl (fun _ _ => rfl) dX7_excuse_110 (fun H6 lH6 hw HS => ?_)
              refine lv_aload_n hx hb dX7_excuse_113 rfl (lv_at hl 2 rfl) ?_
              refine mo_get MC hw 0 (by decide) kw618 rfl rfl dX7_excuse_114 ?_
              refine lv_if_le (tgt := 122) hx hb dX7_excuse_117 (by decide) (fun c_117 => absurd c_117 (by decide)) (fun c_117 => ?_)
              refine lv_iconst (v := 0) hx hb dX7_excuse_120 (by decide) ?_
              have hth : th_excuse τ c9 k9 = 3 := ax_excuse_1 hkc hfc hR (lt4 hr4) f_6 f_18 f_71 c_84
              exact ro_iretM MC HS hr ⟨_, rfl, by rw [hth, if_neg (by decide)]; exact hw, fun h0 => absurd (hth.symm.trans h0) (by decide)⟩ (Nat.le_refl _) (Nat.le_refl _) dX7_excuse_121
            · refine lv_iload_n hx hb dX7_excuse_87 rfl (lv_at hl 0 rfl) ?_
              refine lv_iconst (v := 4) hx hb dX7_excuse_88 (by decide) ?_
              refine lv_icmp_ge (tgt := 96) hx hb dX7_excuse_89 (by decide) (fun c_89 => ?_) (fun c_89 => ?_)
              · refine lv_iconst (v := 0) hx hb dX7_excuse_96 (by decide) ?_
                refine lv_istore (lv' := [(4, .int 0), (3, .int (nI r)), (0, .ref (ad 11)), (1, .int c9), (2, .int k9)]) hx hb dX7_excuse_97 hl (by decide) rfl (fun ls hl => ?_)
                refine lv_aload_n hx hb dX7_excuse_99 rfl (lv_at hl 2 rfl) ?_
                refine lv_iload hx hb dX7_excuse_100 (lv_at hl 0 rfl) ?_
                refine lv_if_eq (tgt := 109) hx hb dX7_excuse_102 (by decide) (fun c_102 => ?_) (fun c_102 => absurd c_102 (by decide))
                refine lv_iconst (v := 3) hx hb dX7_excuse_109 (by decide) ?_
                refine mo_put MC hw HS 0 (by decide) kw618 rfl rfl rfl τ 3 rfl (fun _ _ => rfl) dX7_excuse_110 (fun H7 lH7 hw HS => ?_)
                refine lv_aload_n hx hb dX7_excuse_113 rfl (lv_at hl 2 rfl) ?_
                refine mo_get MC hw 0 (by decide) kw618 rfl rfl dX7_excuse_114 ?_
                refine lv_if_le (tgt := 122) hx hb dX7_excuse_117 (by decide) (fun c_117 => absurd c_117 (by decide)) (fun c_117 => ?_)
                refine lv_iconst (v := 0) hx hb dX7_excuse_120 (by decide) ?_
                have hth : th_excuse τ c9 k9 = 3 := ax_excuse_2 hkc hfc hR (lt4 hr4) f_6 f_18 f_71 c_84 c_89
                exact ro_iretM MC HS hr ⟨_, rfl, by rw [hth, if_neg (by decide)]; exact hw, fun h0 => absurd (hth.symm.trans h0) (by decide)⟩ (Nat.le_refl _) (Nat.le_refl _) dX7_excuse_121
              · have hrl : r < 4 := (lt4 hr4).mpr c_89
                refine lv_iconst (v := 1) hx hb dX7_excuse_92 (by decide) ?_
                refine lv_goto (tgt := 97) hx hb dX7_excuse_93 (by decide) ?_
                refine lv_istore (lv' := [(4, .int 1), (3, .int (nI r)), (0, .ref (ad 11)), (1, .int c9), (2, .int k9)]) hx hb dX7_excuse_97 hl (by decide) rfl (fun ls hl => ?_)
                refine lv_aload_n hx hb dX7_excuse_99 rfl (lv_at hl 2 rfl) ?_
                refine lv_iload hx hb dX7_excuse_100 (lv_at hl 0 rfl) ?_
                refine lv_if_eq (tgt := 109) hx hb dX7_excuse_102 (by decide) (fun c_102 => absurd c_102 (by decide)) (fun c_102 => ?_)
                refine lv_iconst (v := 0) hx hb dX7_excuse_105 (by decide) ?_
                refine lv_goto (tgt := 110) hx hb dX7_excuse_106 (by decide) ?_
                refine mo_put MC hw HS 0 (by decide) kw618 rfl rfl rfl τ 0 rfl (fun _ _ => rfl) dX7_excuse_110 (fun H8 lH8 hw HS => ?_)
                refine lv_aload_n hx hb dX7_excuse_113 rfl (lv_at hl 2 rfl) ?_
                refine mo_get MC hw 0 (by decide) kw618 rfl rfl dX7_excuse_114 ?_
                refine lv_if_le (tgt := 122) hx hb dX7_excuse_117 (by decide) (fun c_117 => ?_) (fun c_117 => absurd c_117 (by decide))
                refine lv_aload_n hx hb dX7_excuse_122 rfl (lv_at hl 2 rfl) ?_
                refine mo_get MC hw 20 (by decide) kw638 rfl rfl dX7_excuse_123 ?_
                refine lv_iload_n hx hb dX7_excuse_126 rfl (lv_at hl 3 rfl) ?_
                refine lv_dup2_11 hx hb dX7_excuse_127 rfl rfl ?_
                refine mo_iald MC hw 16 (by decide) (by decide) rfl kc (show kc < 30 by omega) hka dX7_excuse_128 ?_
                refine lv_iconst (v := 1) hx hb dX7_excuse_129 (by decide) ?_
                refine lv_iload_n hx hb dX7_excuse_130 rfl (lv_at hl 4 rfl) ?_
                refine lv_ishl hx hb dX7_excuse_131 ?_
                refine lv_ior hx hb dX7_excuse_132 ?_
                refine mo_iast MC hw HS 16 (by decide) (by decide) rfl kc (show kc < 30 by omega) hka dX7_excuse_133 (fun H9 lH9 hw HS => ?_)
                refine lv_aload_n hx hb dX7_excuse_134 rfl (lv_at hl 2 rfl) ?_
                refine mo_get MC hw 22 (by decide) kw640 rfl rfl dX7_excuse_135 ?_
                refine lv_iload_n hx hb dX7_excuse_138 rfl (lv_at hl 1 rfl) ?_
                refine lv_dup2_11 hx hb dX7_excuse_139 rfl rfl ?_
                refine mo_iald MC hw 18 (by decide) (by decide) rfl r (show r < 4 by omega) rfl dX7_excuse_140 ?_
                refine lv_topi (fun y10 ey10 => ?_)
                obtain rfl : y10 = τ 18 r := ey10.trans (by simp [va_up, upd])
                refine lv_iconst (v := 1) hx hb dX7_excuse_141 (by decide) ?_
                refine lv_isub hx hb dX7_excuse_142 ?_
                refine mo_iast MC hw HS 18 (by decide) (by decide) rfl r (show r < 4 by omega) rfl dX7_excuse_143 (fun H11 lH11 hw HS => ?_)
                refine lv_iload_n hx hb dX7_excuse_144 rfl (lv_at hl 1 rfl) ?_
                have hth : th_excuse τ c9 k9 = 0 := ax_excuse_3 hkc hfc hR (lt4 hr4) f_6 f_18 f_71 c_84 c_89
                have hnx : nx_excuse τ c9 k9 = (ti (ti τ 16 kc (τ 16 kc ||| (1 <<< (k9 &&& 31)))) 18 r (τ 18 r - 1)) := by simp only [nx_excuse, hkc, hfc, ← hR]
                exact ro_iretM MC HS hr ⟨_, rfl, by rw [hth, if_pos rfl, hnx]; exact hw, fun _ => by rw [rt_excuse, hfc, ← hR]⟩ (Nat.le_refl _) (Nat.le_refl _) dX7_excuse_145
        | succ n ih =>
          intro r hr4 h4r hR locs ls HS hl
          refine lv_iload_n hx hb dX7_excuse_45 rfl (lv_at hl 0 rfl) ?_
          refine lv_iconst (v := 4) hx hb dX7_excuse_46 (by decide) ?_
          refine lv_icmp_ge (tgt := 65) hx hb dX7_excuse_47 (by decide) (fun c_47 => ?_) (fun c_47 => ?_)
          · have hR : r = rkx τ kn := by rw [← hR, rkS, if_neg (fun h9 => (lt4 hr4).mp h9.1 c_47)]
            refine lv_aload_n hx hb dX7_excuse_65 rfl (lv_at hl 1 rfl) ?_
            refine lv_iload_n hx hb dX7_excuse_66 rfl (lv_at hl 3 rfl) ?_
            refine lv_iload_n hx hb dX7_excuse_67 rfl (lv_at hl 2 rfl) ?_
            refine ro_callV MC HS (rest := []) (As := [.int k9, .int c9]) (by rw [hka, hfa]; exact m_touches hw hI kn kc hkn hcn) (lkX7_116) (kw800) (kw27) ⟨Nat.le_of_ble_eq_true rfl, Nat.le_of_ble_eq_true rfl⟩ (mo_recv MC hw) hl.1 rfl (Nat.le_of_ble_eq_true rfl) dX7_excuse_68 ⟨Nat.le_of_ble_eq_true rfl, Nat.le_of_ble_eq_true rfl⟩ (fun v9 H12 lH12 hp hz HS => ?_)
            obtain ⟨rfl, rfl⟩ := hp
            refine lv_if_eq (tgt := 96) hx hb dX7_excuse_71 (by decide) (fun c_71 => ?_) (fun c_71 => ?_)
            · have f_71 := bI_0.mp c_71
              refine lv_iconst (v := 0) hx hb dX7_excuse_96 (by decide) ?_
              refine lv_istore (lv' := [(4, .int 0), (3, .int (nI r)), (0, .ref (ad 11)), (1, .int c9), (2, .int k9)]) hx hb dX7_excuse_97 hl (by decide) rfl (fun ls hl => ?_)
              refine lv_aload_n hx hb dX7_excuse_99 rfl (lv_at hl 2 rfl) ?_
              refine lv_iload hx hb dX7_excuse_100 (lv_at hl 0 rfl) ?_
              refine lv_if_eq (tgt := 109) hx hb dX7_excuse_102 (by decide) (fun c_102 => ?_) (fun c_102 => absurd c_102 (by decide))
              refine lv_iconst (v := 3) hx hb dX7_excuse_109 (by decide) ?_
              refine mo_put MC hw HS 0 (by decide) kw618 rfl rfl rfl τ 3 rfl (fun _ _ => rfl) dX7_excuse_110 (fun H13 lH13 hw HS => ?_)
              refine lv_aload_n hx hb dX7_excuse_113 rfl (lv_at hl 2 rfl) ?_
              refine mo_get MC hw 0 (by decide) kw618 rfl rfl dX7_excuse_114 ?_
              refine lv_if_le (tgt := 122) hx hb dX7_excuse_117 (by decide) (fun c_117 => absurd c_117 (by decide)) (fun c_117 => ?_)
              refine lv_iconst (v := 0) hx hb dX7_excuse_120 (by decide) ?_
              have hth : th_excuse τ c9 k9 = 3 := ax_excuse_4 hkc hfc hR (lt4 hr4) f_6 f_18 c_47 f_71
              exact ro_iretM MC HS hr ⟨_, rfl, by rw [hth, if_neg (by decide)]; exact hw, fun h0 => absurd (hth.symm.trans h0) (by decide)⟩ (Nat.le_refl _) (Nat.le_refl _) dX7_excuse_121
            · have f_71 := bI_n0.mp c_71
              refine lv_aload_n hx hb dX7_excuse_74 rfl (lv_at hl 1 rfl) ?_
              refine mo_get MC hw 20 (by decide) kw638 rfl rfl dX7_excuse_75 ?_
              refine lv_iload_n hx hb dX7_excuse_78 rfl (lv_at hl 2 rfl) ?_
              refine mo_iald MC hw 16 (by decide) (by decide) rfl kc (show kc < 30 by omega) hka dX7_excuse_79 ?_
              refine lv_iload_n hx hb dX7_excuse_80 rfl (lv_at hl 3 rfl) ?_
              refine lv_ishr hx hb dX7_excuse_81 ?_
              refine lv_iconst (v := 1) hx hb dX7_excuse_82 (by decide) ?_
              refine lv_iand hx hb dX7_excuse_83 ?_
              refine lv_if_ne (tgt := 96) hx hb dX7_excuse_84 (by decide) (fun c_84 => ?_) (fun c_84 => ?_)
              · refine lv_iconst (v := 0) hx hb dX7_excuse_96 (by decide) ?_
                refine lv_istore (lv' := [(4, .int 0), (3, .int (nI r)), (0, .ref (ad 11)), (1, .int c9), (2, .int k9)]) hx hb dX7_excuse_97 hl (by decide) rfl (fun ls hl => ?_)
                refine lv_aload_n hx hb dX7_excuse_99 rfl (lv_at hl 2 rfl) ?_
                refine lv_iload hx hb dX7_excuse_100 (lv_at hl 0 rfl) ?_
                refine lv_if_eq (tgt := 109) hx hb dX7_excuse_102 (by decide) (fun c_102 => ?_) (fun c_102 => absurd c_102 (by decide))
                refine lv_iconst (v := 3) hx hb dX7_excuse_109 (by decide) ?_
                refine mo_put MC hw HS 0 (by decide) kw618 rfl rfl rfl τ 3 rfl (fun _ _ => rfl) dX7_excuse_110 (fun H14 lH14 hw HS => ?_)
                refine lv_aload_n hx hb dX7_excuse_113 rfl (lv_at hl 2 rfl) ?_
                refine mo_get MC hw 0 (by decide) kw618 rfl rfl dX7_excuse_114 ?_
                refine lv_if_le (tgt := 122) hx hb dX7_excuse_117 (by decide) (fun c_117 => absurd c_117 (by decide)) (fun c_117 => ?_)
                refine lv_iconst (v := 0) hx hb dX7_excuse_120 (by decide) ?_
                have hth : th_excuse τ c9 k9 = 3 := ax_excuse_5 hkc hfc hR (lt4 hr4) f_6 f_18 c_47 f_71 c_84
                exact ro_iretM MC HS hr ⟨_, rfl, by rw [hth, if_neg (by decide)]; exact hw, fun h0 => absurd (hth.symm.trans h0) (by decide)⟩ (Nat.le_refl _) (Nat.le_refl _) dX7_excuse_121
              · refine lv_iload_n hx hb dX7_excuse_87 rfl (lv_at hl 0 rfl) ?_
                refine lv_iconst (v := 4) hx hb dX7_excuse_88 (by decide) ?_
                refine lv_icmp_ge (tgt := 96) hx hb dX7_excuse_89 (by decide) (fun c_89 => ?_) (fun c_89 => ?_)
                · refine lv_iconst (v := 0) hx hb dX7_excuse_96 (by decide) ?_
                  refine lv_istore (lv' := [(4, .int 0), (3, .int (nI r)), (0, .ref (ad 11)), (1, .int c9), (2, .int k9)]) hx hb dX7_excuse_97 hl (by decide) rfl (fun ls hl => ?_)
                  refine lv_aload_n hx hb dX7_excuse_99 rfl (lv_at hl 2 rfl) ?_
                  refine lv_iload hx hb dX7_excuse_100 (lv_at hl 0 rfl) ?_
                  refine lv_if_eq (tgt := 109) hx hb dX7_excuse_102 (by decide) (fun c_102 => ?_) (fun c_102 => absurd c_102 (by decide))
                  refine lv_iconst (v := 3) hx hb dX7_excuse_109 (by decide) ?_
                  refine mo_put MC hw HS 0 (by decide) kw618 rfl rfl rfl τ 3 rfl (fun _ _ => rfl) dX7_excuse_110 (fun H15 lH15 hw HS => ?_)
                  refine lv_aload_n hx hb dX7_excuse_113 rfl (lv_at hl 2 rfl) ?_
                  refine mo_get MC hw 0 (by decide) kw618 rfl rfl dX7_excuse_114 ?_
                  refine lv_if_le (tgt := 122) hx hb dX7_excuse_117 (by decide) (fun c_117 => absurd c_117 (by decide)) (fun c_117 => ?_)
                  refine lv_iconst (v := 0) hx hb dX7_excuse_120 (by decide) ?_
                  have hth : th_excuse τ c9 k9 = 3 := ax_excuse_6 hkc hfc hR (lt4 hr4) f_6 f_18 c_47 f_71 c_84 c_89
                  exact ro_iretM MC HS hr ⟨_, rfl, by rw [hth, if_neg (by decide)]; exact hw, fun h0 => absurd (hth.symm.trans h0) (by decide)⟩ (Nat.le_refl _) (Nat.le_refl _) dX7_excuse_121
                · have hrl : r < 4 := (lt4 hr4).mpr c_89
                  refine lv_iconst (v := 1) hx hb dX7_excuse_92 (by decide) ?_
                  refine lv_goto (tgt := 97) hx hb dX7_excuse_93 (by decide) ?_
                  refine lv_istore (lv' := [(4, .int 1), (3, .int (nI r)), (0, .ref (ad 11)), (1, .int c9), (2, .int k9)]) hx hb dX7_excuse_97 hl (by decide) rfl (fun ls hl => ?_)
                  refine lv_aload_n hx hb dX7_excuse_99 rfl (lv_at hl 2 rfl) ?_
                  refine lv_iload hx hb dX7_excuse_100 (lv_at hl 0 rfl) ?_
                  refine lv_if_eq (tgt := 109) hx hb dX7_excuse_102 (by decide) (fun c_102 => absurd c_102 (by decide)) (fun c_102 => ?_)
                  refine lv_iconst (v := 0) hx hb dX7_excuse_105 (by decide) ?_
                  refine lv_goto (tgt := 110) hx hb dX7_excuse_106 (by decide) ?_
                  refine mo_put MC hw HS 0 (by decide) kw618 rfl rfl rfl τ 0 rfl (fun _ _ => rfl) dX7_excuse_110 (fun H16 lH16 hw HS => ?_)
                  refine lv_aload_n hx hb dX7_excuse_113 rfl (lv_at hl 2 rfl) ?_
                  refine mo_get MC hw 0 (by decide) kw618 rfl rfl dX7_excuse_114 ?_
                  refine lv_if_le (tgt := 122) hx hb dX7_excuse_117 (by decide) (fun c_117 => ?_) (fun c_117 => absurd c_117 (by decide))
                  refine lv_aload_n hx hb dX7_excuse_122 rfl (lv_at hl 2 rfl) ?_
                  refine mo_get MC hw 20 (by decide) kw638 rfl rfl dX7_excuse_123 ?_
                  refine lv_iload_n hx hb dX7_excuse_126 rfl (lv_at hl 3 rfl) ?_
                  refine lv_dup2_11 hx hb dX7_excuse_127 rfl rfl ?_
                  refine mo_iald MC hw 16 (by decide) (by decide) rfl kc (show kc < 30 by omega) hka dX7_excuse_128 ?_
                  refine lv_iconst (v := 1) hx hb dX7_excuse_129 (by decide) ?_
                  refine lv_iload_n hx hb dX7_excuse_130 rfl (lv_at hl 4 rfl) ?_
                  refine lv_ishl hx hb dX7_excuse_131 ?_
                  refine lv_ior hx hb dX7_excuse_132 ?_
                  refine mo_iast MC hw HS 16 (by decide) (by decide) rfl kc (show kc < 30 by omega) hka dX7_excuse_133 (fun H17 lH17 hw HS => ?_)
                  refine lv_aload_n hx hb dX7_excuse_134 rfl (lv_at hl 2 rfl) ?_
                  refine mo_get MC hw 22 (by decide) kw640 rfl rfl dX7_excuse_135 ?_
                  refine lv_iload_n hx hb dX7_excuse_138 rfl (lv_at hl 1 rfl) ?_
                  refine lv_dup2_11 hx hb dX7_excuse_139 rfl rfl ?_
                  refine mo_iald MC hw 18 (by decide) (by decide) rfl r (show r < 4 by omega) rfl dX7_excuse_140 ?_
                  refine lv_topi (fun y18 ey18 => ?_)
                  obtain rfl : y18 = τ 18 r := ey18.trans (by simp [va_up, upd])
                  refine lv_iconst (v := 1) hx hb dX7_excuse_141 (by decide) ?_
                  refine lv_isub hx hb dX7_excuse_142 ?_
                  refine mo_iast MC hw HS 18 (by decide) (by decide) rfl r (show r < 4 by omega) rfl dX7_excuse_143 (fun H19 lH19 hw HS => ?_)
                  refine lv_iload_n hx hb dX7_excuse_144 rfl (lv_at hl 1 rfl) ?_
                  have hth : th_excuse τ c9 k9 = 0 := ax_excuse_7 hkc hfc hR (lt4 hr4) f_6 f_18 c_47 f_71 c_84 c_89
                  have hnx : nx_excuse τ c9 k9 = (ti (ti τ 16 kc (τ 16 kc ||| (1 <<< (k9 &&& 31)))) 18 r (τ 18 r - 1)) := by simp only [nx_excuse, hkc, hfc, ← hR]
                  exact ro_iretM MC HS hr ⟨_, rfl, by rw [hth, if_pos rfl, hnx]; exact hw, fun _ => by rw [rt_excuse, hfc, ← hR]⟩ (Nat.le_refl _) (Nat.le_refl _) dX7_excuse_145
          · have hrl : r < 4 := (lt4 hr4).mpr c_47
            refine lv_aload_n hx hb dX7_excuse_50 rfl (lv_at hl 1 rfl) ?_
            refine mo_get MC hw 22 (by decide) kw640 rfl rfl dX7_excuse_51 ?_
            refine lv_iload_n hx hb dX7_excuse_54 rfl (lv_at hl 0 rfl) ?_
            refine mo_iald MC hw 18 (by decide) (by decide) rfl r (show r < 4 by omega) rfl dX7_excuse_55 ?_
            refine lv_if_ne (tgt := 65) hx hb dX7_excuse_56 (by decide) (fun c_56 => ?_) (fun c_56 => ?_)
            · have hR : r = rkx τ kn := by rw [← hR, rkS, if_neg (fun h9 => c_56 h9.2)]
              refine lv_aload_n hx hb dX7_excuse_65 rfl (lv_at hl 1 rfl) ?_
              refine lv_iload_n hx hb dX7_excuse_66 rfl (lv_at hl 3 rfl) ?_
              refine lv_iload_n hx hb dX7_excuse_67 rfl (lv_at hl 2 rfl) ?_
              refine ro_callV MC HS (rest := []) (As := [.int k9, .int c9]) (by rw [hka, hfa]; exact m_touches hw hI kn kc hkn hcn) (lkX7_116) (kw800) (kw27) ⟨Nat.le_of_ble_eq_true rfl, Nat.le_of_ble_eq_true rfl⟩ (mo_recv MC hw) hl.1 rfl (Nat.le_of_ble_eq_true rfl) dX7_excuse_68 ⟨Nat.le_of_ble_eq_true rfl, Nat.le_of_ble_eq_true rfl⟩ (fun v9 H20 lH20 hp hz HS => ?_)
              obtain ⟨rfl, rfl⟩ := hp
              refine lv_if_eq (tgt := 96) hx hb dX7_excuse_71 (by decide) (fun c_71 => ?_) (fun c_71 => ?_)
              · have f_71 := bI_0.mp c_71
                refine lv_iconst (v := 0) hx hb dX7_excuse_96 (by decide) ?_
                refine lv_istore (lv' := [(4, .int 0), (3, .int (nI r)), (0, .ref (ad 11)), (1, .int c9), (2, .int k9)]) hx hb dX7_excuse_97 hl (by decide) rfl (fun ls hl => ?_)
                refine lv_aload_n hx hb dX7_excuse_99 rfl (lv_at hl 2 rfl) ?_
                refine lv_iload hx hb dX7_excuse_100 (lv_at hl 0 rfl) ?_
                refine lv_if_eq (tgt := 109) hx hb dX7_excuse_102 (by decide) (fun c_102 => ?_) (fun c_102 => absurd c_102 (by decide))
                refine lv_iconst (v := 3) hx hb dX7_excuse_109 (by decide) ?_
                refine mo_put MC hw HS 0 (by decide) kw618 rfl rfl rfl τ 3 rfl (fun _ _ => rfl) dX7_excuse_110 (fun H21 lH21 hw HS => ?_)
                refine lv_aload_n hx hb dX7_excuse_113 rfl (lv_at hl 2 rfl) ?_
                refine mo_get MC hw 0 (by decide) kw618 rfl rfl dX7_excuse_114 ?_
                refine lv_if_le (tgt := 122) hx hb dX7_excuse_117 (by decide) (fun c_117 => absurd c_117 (by decide)) (fun c_117 => ?_)
                refine lv_iconst (v := 0) hx hb dX7_excuse_120 (by decide) ?_
                have hth : th_excuse τ c9 k9 = 3 := ax_excuse_8 hkc hfc hR (lt4 hr4) f_6 f_18 c_47 c_56 f_71
                exact ro_iretM MC HS hr ⟨_, rfl, by rw [hth, if_neg (by decide)]; exact hw, fun h0 => absurd (hth.symm.trans h0) (by decide)⟩ (Nat.le_refl _) (Nat.le_refl _) dX7_excuse_121
              · have f_71 := bI_n0.mp c_71
                refine lv_aload_n hx hb dX7_excuse_74 rfl (lv_at hl 1 rfl) ?_
                refine mo_get MC hw 20 (by decide) kw638 rfl rfl dX7_excuse_75 ?_
                refine lv_iload_n hx hb dX7_excuse_78 rfl (lv_at hl 2 rfl) ?_
                refine mo_iald MC hw 16 (by decide) (by decide) rfl kc (show kc < 30 by omega) hka dX7_excuse_79 ?_
                refine lv_iload_n hx hb dX7_excuse_80 rfl (lv_at hl 3 rfl) ?_
                refine lv_ishr hx hb dX7_excuse_81 ?_
                refine lv_iconst (v := 1) hx hb dX7_excuse_82 (by decide) ?_
                refine lv_iand hx hb dX7_excuse_83 ?_
                refine lv_if_ne (tgt := 96) hx hb dX7_excuse_84 (by decide) (fun c_84 => ?_) (fun c_84 => ?_)
                · refine lv_iconst (v := 0) hx hb dX7_excuse_96 (by decide) ?_
                  refine lv_istore (lv' := [(4, .int 0), (3, .int (nI r)), (0, .ref (ad 11)), (1, .int c9), (2, .int k9)]) hx hb dX7_excuse_97 hl (by decide) rfl (fun ls hl => ?_)
                  refine lv_aload_n hx hb dX7_excuse_99 rfl (lv_at hl 2 rfl) ?_
                  refine lv_iload hx hb dX7_excuse_100 (lv_at hl 0 rfl) ?_
                  refine lv_if_eq (tgt := 109) hx hb dX7_excuse_102 (by decide) (fun c_102 => ?_) (fun c_102 => absurd c_102 (by decide))
                  refine lv_iconst (v := 3) hx hb dX7_excuse_109 (by decide) ?_
                  refine mo_put MC hw HS 0 (by decide) kw618 rfl rfl rfl τ 3 rfl (fun _ _ => rfl) dX7_excuse_110 (fun H22 lH22 hw HS => ?_)
                  refine lv_aload_n hx hb dX7_excuse_113 rfl (lv_at hl 2 rfl) ?_
                  refine mo_get MC hw 0 (by decide) kw618 rfl rfl dX7_excuse_114 ?_
                  refine lv_if_le (tgt := 122) hx hb dX7_excuse_117 (by decide) (fun c_117 => absurd c_117 (by decide)) (fun c_117 => ?_)
                  refine lv_iconst (v := 0) hx hb dX7_excuse_120 (by decide) ?_
                  have hth : th_excuse τ c9 k9 = 3 := ax_excuse_9 hkc hfc hR (lt4 hr4) f_6 f_18 c_47 c_56 f_71 c_84
                  exact ro_iretM MC HS hr ⟨_, rfl, by rw [hth, if_neg (by decide)]; exact hw, fun h0 => absurd (hth.symm.trans h0) (by decide)⟩ (Nat.le_refl _) (Nat.le_refl _) dX7_excuse_121
                · refine lv_iload_n hx hb dX7_excuse_87 rfl (lv_at hl 0 rfl) ?_
                  refine lv_iconst (v := 4) hx hb dX7_excuse_88 (by decide) ?_
                  refine lv_icmp_ge (tgt := 96) hx hb dX7_excuse_89 (by decide) (fun c_89 => ?_) (fun c_89 => ?_)
                  · refine lv_iconst (v := 0) hx hb dX7_excuse_96 (by decide) ?_
                    refine lv_istore (lv' := [(4, .int 0), (3, .int (nI r)), (0, .ref (ad 11)), (1, .int c9), (2, .int k9)]) hx hb dX7_excuse_97 hl (by decide) rfl (fun ls hl => ?_)
                    refine lv_aload_n hx hb dX7_excuse_99 rfl (lv_at hl 2 rfl) ?_
                    refine lv_iload hx hb dX7_excuse_100 (lv_at hl 0 rfl) ?_
                    refine lv_if_eq (tgt := 109) hx hb dX7_excuse_102 (by decide) (fun c_102 => ?_) (fun c_102 => absurd c_102 (by decide))
                    refine lv_iconst (v := 3) hx hb dX7_excuse_109 (by decide) ?_
                    refine mo_put MC hw HS 0 (by decide) kw618 rfl rfl rfl τ 3 rfl (fun _ _ => rfl) dX7_excuse_110 (fun H23 lH23 hw HS => ?_)
                    refine lv_aload_n hx hb dX7_excuse_113 rfl (lv_at hl 2 rfl) ?_
                    refine mo_get MC hw 0 (by decide) kw618 rfl rfl dX7_excuse_114 ?_
                    refine lv_if_le (tgt := 122) hx hb dX7_excuse_117 (by decide) (fun c_117 => absurd c_117 (by decide)) (fun c_117 => ?_)
                    refine lv_iconst (v := 0) hx hb dX7_excuse_120 (by decide) ?_
                    have hth : th_excuse τ c9 k9 = 3 := ax_excuse_10 hkc hfc hR (lt4 hr4) f_6 f_18 c_47 c_56 f_71 c_84 c_89
                    exact ro_iretM MC HS hr ⟨_, rfl, by rw [hth, if_neg (by decide)]; exact hw, fun h0 => absurd (hth.symm.trans h0) (by decide)⟩ (Nat.le_refl _) (Nat.le_refl _) dX7_excuse_121
                  · have hrl : r < 4 := (lt4 hr4).mpr c_89
                    refine lv_iconst (v := 1) hx hb dX7_excuse_92 (by decide) ?_
                    refine lv_goto (tgt := 97) hx hb dX7_excuse_93 (by decide) ?_
                    refine lv_istore (lv' := [(4, .int 1), (3, .int (nI r)), (0, .ref (ad 11)), (1, .int c9), (2, .int k9)]) hx hb dX7_excuse_97 hl (by decide) rfl (fun ls hl => ?_)
                    refine lv_aload_n hx hb dX7_excuse_99 rfl (lv_at hl 2 rfl) ?_
                    refine lv_iload hx hb dX7_excuse_100 (lv_at hl 0 rfl) ?_
                    refine lv_if_eq (tgt := 109) hx hb dX7_excuse_102 (by decide) (fun c_102 => absurd c_102 (by decide)) (fun c_102 => ?_)
                    refine lv_iconst (v := 0) hx hb dX7_excuse_105 (by decide) ?_
                    refine lv_goto (tgt := 110) hx hb dX7_excuse_106 (by decide) ?_
                    refine mo_put MC hw HS 0 (by decide) kw618 rfl rfl rfl τ 0 rfl (fun _ _ => rfl) dX7_excuse_110 (fun H24 lH24 hw HS => ?_)
                    refine lv_aload_n hx hb dX7_excuse_113 rfl (lv_at hl 2 rfl) ?_
                    refine mo_get MC hw 0 (by decide) kw618 rfl rfl dX7_excuse_114 ?_
                    refine lv_if_le (tgt := 122) hx hb dX7_excuse_117 (by decide) (fun c_117 => ?_) (fun c_117 => absurd c_117 (by decide))
                    refine lv_aload_n hx hb dX7_excuse_122 rfl (lv_at hl 2 rfl) ?_
                    refine mo_get MC hw 20 (by decide) kw638 rfl rfl dX7_excuse_123 ?_
                    refine lv_iload_n hx hb dX7_excuse_126 rfl (lv_at hl 3 rfl) ?_
                    refine lv_dup2_11 hx hb dX7_excuse_127 rfl rfl ?_
                    refine mo_iald MC hw 16 (by decide) (by decide) rfl kc (show kc < 30 by omega) hka dX7_excuse_128 ?_
                    refine lv_iconst (v := 1) hx hb dX7_excuse_129 (by decide) ?_
                    refine lv_iload_n hx hb dX7_excuse_130 rfl (lv_at hl 4 rfl) ?_
                    refine lv_ishl hx hb dX7_excuse_131 ?_
                    refine lv_ior hx hb dX7_excuse_132 ?_
                    refine mo_iast MC hw HS 16 (by decide) (by decide) rfl kc (show kc < 30 by omega) hka dX7_excuse_133 (fun H25 lH25 hw HS => ?_)
                    refine lv_aload_n hx hb dX7_excuse_134 rfl (lv_at hl 2 rfl) ?_
                    refine mo_get MC hw 22 (by decide) kw640 rfl rfl dX7_excuse_135 ?_
                    refine lv_iload_n hx hb dX7_excuse_138 rfl (lv_at hl 1 rfl) ?_
                    refine lv_dup2_11 hx hb dX7_excuse_139 rfl rfl ?_
                    refine mo_iald MC hw 18 (by decide) (by decide) rfl r (show r < 4 by omega) rfl dX7_excuse_140 ?_
                    refine lv_topi (fun y26 ey26 => ?_)
                    obtain rfl : y26 = τ 18 r := ey26.trans (by simp [va_up, upd])
                    refine lv_iconst (v := 1) hx hb dX7_excuse_141 (by decide) ?_
                    refine lv_isub hx hb dX7_excuse_142 ?_
                    refine mo_iast MC hw HS 18 (by decide) (by decide) rfl r (show r < 4 by omega) rfl dX7_excuse_143 (fun H27 lH27 hw HS => ?_)
                    refine lv_iload_n hx hb dX7_excuse_144 rfl (lv_at hl 1 rfl) ?_
                    have hth : th_excuse τ c9 k9 = 0 := ax_excuse_11 hkc hfc hR (lt4 hr4) f_6 f_18 c_47 c_56 f_71 c_84 c_89
                    have hnx : nx_excuse τ c9 k9 = (ti (ti τ 16 kc (τ 16 kc ||| (1 <<< (k9 &&& 31)))) 18 r (τ 18 r - 1)) := by simp only [nx_excuse, hkc, hfc, ← hR]
                    exact ro_iretM MC HS hr ⟨_, rfl, by rw [hth, if_pos rfl, hnx]; exact hw, fun _ => by rw [rt_excuse, hfc, ← hR]⟩ (Nat.le_refl _) (Nat.le_refl _) dX7_excuse_145
            · refine lv_iinc (v := nI r + 1) (lv' := [(3, .int (nI r + 1)), (0, .ref (ad 11)), (1, .int c9), (2, .int k9)]) hx hb dX7_excuse_59 hl (k := 0) rfl rfl (by decide) rfl (fun ls hl => ?_)
              refine lv_goto (tgt := 45) hx hb dX7_excuse_62 (by decide) ?_
              rw [rkS, if_pos ⟨hrl, c_56⟩] at hR
              rw [nI_1] at hl
              exact ih (r + 1) (by omega) (by omega) hR _ ls HS (lv_sub hl [0, 1, 2, 3] rfl)
      rw [hra] at hl
      exact loop 4 r9 (by omega) (by omega) (by rw [rkx, hrc]) _ ls HS (lv_sub hl [0, 1, 2, 3] rfl)
    · have f_18 := bI_0.mp c_18
      refine lv_iconst (v := 2) hx hb dX7_excuse_21 (by decide) ?_
      refine lv_goto (tgt := 26) hx hb dX7_excuse_22 (by decide) ?_
      refine mo_put MC hw HS 0 (by decide) kw618 rfl rfl rfl τ 2 rfl (fun _ _ => rfl) dX7_excuse_26 (fun H28 lH28 hw HS => ?_)
      refine lv_aload_n hx hb dX7_excuse_29 rfl (lv_at hl 0 rfl) ?_
      refine mo_get MC hw 0 (by decide) kw618 rfl rfl dX7_excuse_30 ?_
      refine lv_if_le (tgt := 38) hx hb dX7_excuse_33 (by decide) (fun c_33 => absurd c_33 (by decide)) (fun c_33 => ?_)
      refine lv_iconst (v := 0) hx hb dX7_excuse_36 (by decide) ?_
      have hth : th_excuse τ c9 k9 = 2 := ax_excuse_12 hkc f_6 f_18
      exact ro_iretM MC HS hr ⟨_, rfl, by rw [hth, if_neg (by decide)]; exact hw, fun h0 => absurd (hth.symm.trans h0) (by decide)⟩ (Nat.le_refl _) (Nat.le_refl _) dX7_excuse_37
  · have f_6 := bI_0.mp c_6
    refine lv_iconst (v := 1) hx hb dX7_excuse_9 (by decide) ?_
    refine lv_goto (tgt := 26) hx hb dX7_excuse_10 (by decide) ?_
    refine mo_put MC hw HS 0 (by decide) kw618 rfl rfl rfl τ 1 rfl (fun _ _ => rfl) dX7_excuse_26 (fun H29 lH29 hw HS => ?_)
    refine lv_aload_n hx hb dX7_excuse_29 rfl (lv_at hl 0 rfl) ?_
    refine mo_get MC hw 0 (by decide) kw618 rfl rfl dX7_excuse_30 ?_
    refine lv_if_le (tgt := 38) hx hb dX7_excuse_33 (by decide) (fun c_33 => absurd c_33 (by decide)) (fun c_33 => ?_)
    refine lv_iconst (v := 0) hx hb dX7_excuse_36 (by decide) ?_
    have hth : th_excuse τ c9 k9 = 1 := ax_excuse_13 f_6
    exact ro_iretM MC HS hr ⟨_, rfl, by rw [hth, if_neg (by decide)]; exact hw, fun h0 => absurd (hth.symm.trans h0) (by decide)⟩ (Nat.le_refl _) (Nat.le_refl _) dX7_excuse_37
