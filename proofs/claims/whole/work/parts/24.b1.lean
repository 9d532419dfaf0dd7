theorem fe_one {τ : Tau} {a d : Int32} (h : ¬ rt_feast τ a d = 0) : rt_feast τ a d = 1 := by
  unfold rt_feast bI at h ⊢
  split at h
  · rw [if_pos (by assumption)]
  · exact absurd rfl h
set_option maxHeartbeats 4000000 in
set_option maxRecDepth 100000 in
theorem w_scope {l : Launch} (hl9 : l.stackTraces = false) {D : va_G} {ids : Nat → ClassId} {n0 : Nat} {RR : List Nat} {ad : Nat → Nat} {cn : Nat → va_E} {τ : Tau} {ns nl nc : Nat} {Hh : Heap} (hX : xH D ids n0 RR ad cn τ ns nl nc Hh) {nw : Nat} (hI : Iv τ nw ns nl nc) {s9 : Int32} {out : Nat → Int64} (h30 : cn 30 = .inl (ids 2, 1, .inr (.inl out))) : ro_MW l yL_scope cL_scope 4 (some FieldType.int) [(0, 9, 12, 13), (0, 9, 15, 15)] { frames := 9, cells := 8, slots := 48, locals := 280 } D ids n0 [.ref (ad 0), .int s9, .ref (ad 30)] Hh (fun v H1 => v = some (.int (th_scope τ s9)) ∧ (th_scope τ s9 = 0 → wft D ids n0 ad cn (nx_scope τ s9) (.inl (ids 2, 1, .inr (.inl (vp_updL out 0 (rt_scope τ s9).toInt64)))) H1) ∧ (¬ th_scope τ s9 = 0 → grow Hh H1)) := by
  refine ro_ofW (by decide +kernel) (Nat.le_of_ble_eq_true rfl) ?_
  intro p e s m below meth c MC hhp hr hT HS ls hl
  have hx := MC.1.1
  have hb := MC.1.2.1
  have hl : lv_has ls 4 [(0, .ref (ad 0)), (1, .int s9), (2, .ref (ad 30))] := hl
  obtain ⟨HP, hRR, sa, bm, fm, lf, ff, cf, h0, h1, h1b, h2, h2b, h7, h7b, h3, h3b, h40, h4, h4b, h60, h5, h6⟩ := id hX
  refine lv_aload_n hx hb dL_scope_0 rfl (lv_at hl 2 rfl) ?_
  refine lv_iconst (v := 0) hx hb dL_scope_1 (by decide) ?_
  refine lv_aload_n hx hb dL_scope_2 rfl (lv_at hl 0 rfl) ?_
  refine lv_iload_n hx hb dL_scope_3 rfl (lv_at hl 1 rfl) ?_
  refine ro_callVT MC HS (rest := [.int 0, .ref (ad 30)]) (As := [.int s9]) (q_scope hl9 hX hI) lkL_7 kw118 kw119 ⟨(Nat.le_of_ble_eq_true rfl), (Nat.le_of_ble_eq_true rfl)⟩ (ro_recv MC HP (hRR.l (by decide)) h0 (rfl : vwCl[5]? = some (RX6, TX6, 11))) hl.1 rfl (Nat.le_of_ble_eq_true rfl) dL_scope_4 ⟨(Nat.le_of_ble_eq_true rfl), (Nat.le_of_ble_eq_true rfl)⟩ (fun E9 ce9 q9 H9 l9 hp hz9 HS hcell hv9 hcl => ?_) (fun v9 H9 l9 hp hz9 HS => ?_)
  · obtain ⟨hg9, hp⟩ := hp
    rcases hp with ⟨hth, rfl⟩ | ⟨hth, rfl⟩
    · refine ro_catch MC hT 0 rfl ⟨by omega, by omega⟩ (by decide) kw115 (by decide +kernel) (fun j hj => absurd hj (by omega)) hcell hv9 hcl ?_
      refine lv_astore_n (lv' := [(3, .ref q9), (0, .ref (ad 0)), (1, .int s9), (2, .ref (ad 30))]) hx hb dL_scope_12 rfl hl (by decide) rfl (fun ls hl => ?_)
      refine lv_iconst (v := 1) hx hb dL_scope_13 (by decide) ?_
      exact ro_iretM MC HS hr (⟨by rw [hth], fun h9 => absurd (hth.symm.trans h9) (by decide), fun _ => hg9⟩) (Nat.le_of_ble_eq_true rfl) (Nat.le_of_ble_eq_true rfl) dL_scope_14
    · refine ro_catch MC hT 1 rfl ⟨by omega, by omega⟩ (by decide) kw116 (by decide +kernel) (fun j hj q hq => by rcases j with _ | j; (· cases hq; exact ⟨by decide, _, kw115, by decide +kernel⟩); (· omega)) hcell hv9 hcl ?_
      refine lv_astore_n (lv' := [(3, .ref q9), (0, .ref (ad 0)), (1, .int s9), (2, .ref (ad 30))]) hx hb dL_scope_15 rfl hl (by decide) rfl (fun ls hl => ?_)
      refine lv_iconst (v := 2) hx hb dL_scope_16 (by decide) ?_
      exact ro_iretM MC HS hr (⟨by rw [hth], fun h9 => absurd (hth.symm.trans h9) (by decide), fun _ => hg9⟩) (Nat.le_of_ble_eq_true rfl) (Nat.le_of_ble_eq_true rfl) dL_scope_17
  · obtain ⟨hth, rfl, RR1, ad1, cn1, nw1, ns1, nl1, nc1, hX1, hI1, had, hcn⟩ := hp
    have h31 : ad1 30 = ad 30 := had 30 (by omega)
    obtain ⟨HP1, hRR1, sa1, bm1, fm1, lf1, ff1, cf1, hx1⟩ := hX1
    refine lv_i2l hx hb dL_scope_7 rfl ?_
    refine ro_lastE MC HP1 HS h31 (hRR1.l (by decide)) ((hcn 30 (by omega) (by omega)).trans h30) (vp_in_nI (n := 0) (N := 1) (by omega) (by omega)) dL_scope_8 (fun H2 l2 HP2 HS => ?_)
    refine lv_goto (tgt := 18) hx hb dL_scope_9 (by decide) ?_
    refine lv_iconst (v := 0) hx hb dL_scope_18 (by decide) ?_
    exact ro_iretM MC HS hr (⟨by rw [hth], fun _ => ⟨RR1, ad1, _, nw1, ns1, nl1, nc1, ⟨HP2, hRR1, _, _, _, _, _, _, hx1.cg (fun r hr => va_up_ne _ _ (by omega))⟩, hI1, had, fun r h1 h2 h3 => (va_up_ne _ _ h3).trans (hcn r h1 h2), va_up_self ..⟩, fun h9 => absurd hth h9⟩) (Nat.le_of_ble_eq_true rfl) (Nat.le_of_ble_eq_true rfl) dL_scope_19
set_option maxHeartbeats 4000000 in
set_option maxRecDepth 100000 in
theorem w_offset {l : Launch} (hl9 : l.stackTraces = false) {D : va_G} {ids : Nat → ClassId} {n0 : Nat} {RR : List Nat} {ad : Nat → Nat} {cn : Nat → va_E} {τ : Tau} {ns nl nc : Nat} {Hh : Heap} (hX : xH D ids n0 RR ad cn τ ns nl nc Hh) {nw : Nat} (hI : Iv τ nw ns nl nc) {a9 b9 : Int32} {out : Nat → Int64} (h30 : cn 30 = .inl (ids 2, 1, .inr (.inl out))) : ro_MW l yL_offset cL_offset 5 (some FieldType.int) [(0, 10, 13, 13), (0, 10, 17, 21)] { frames := 9, cells := 8, slots := 48, locals := 280 } D ids n0 [.ref (ad 0), .int a9, .int b9, .ref (ad 30)] Hh (fun v H1 => v = some (.int (th_offset τ a9 b9)) ∧ (th_offset τ a9 b9 = 0 → wft D ids n0 ad cn (nx_offset τ a9 b9) (.inl (ids 2, 1, .inr (.inl (vp_updL out 0 (rt_offset τ a9 b9).toInt64)))) H1) ∧ (¬ th_offset τ a9 b9 = 0 → grow Hh H1)) := by
  refine ro_ofW (by decide +kernel) (Nat.le_of_ble_eq_true rfl) ?_
  intro p e s m below meth c MC hhp hr hT HS ls hl
  have hx := MC.1.1
  have hb := MC.1.2.1
  have hl : lv_has ls 5 [(0, .ref (ad 0)), (1, .int a9), (2, .int b9), (3, .ref (ad 30))] := hl
  obtain ⟨HP, hRR, sa, bm, fm, lf, ff, cf, h0, h1, h1b, h2, h2b, h7, h7b, h3, h3b, h40, h4, h4b, h60, h5, h6⟩ := id hX
  refine lv_aload_n hx hb dL_offset_0 rfl (lv_at hl 3 rfl) ?_
  refine lv_iconst (v := 0) hx hb dL_offset_1 (by decide) ?_
  refine lv_aload_n hx hb dL_offset_2 rfl (lv_at hl 0 rfl) ?_
  refine lv_iload_n hx hb dL_offset_3 rfl (lv_at hl 1 rfl) ?_
  refine lv_iload_n hx hb dL_offset_4 rfl (lv_at hl 2 rfl) ?_
  refine ro_callVT MC HS (rest := [.int 0, .ref (ad 30)]) (As := [.int a9, .int b9]) (q_offset hl9 hX hI) lkL_17 kw215 kw216 ⟨(Nat.le_of_ble_eq_true rfl), (Nat.le_of_ble_eq_true rfl)⟩ (ro_recv MC HP (hRR.l (by decide)) h0 (rfl : vwCl[5]? = some (RX6, TX6, 11))) hl.1 rfl (Nat.le_of_ble_eq_true rfl) dL_offset_5 ⟨(Nat.le_of_ble_eq_true rfl), (Nat.le_of_ble_eq_true rfl)⟩ (fun E9 ce9 q9 H9 l9 hp hz9 HS hcell hv9 hcl => ?_) (fun v9 H9 l9 hp hz9 HS => ?_)
  · obtain ⟨hg9, hp⟩ := hp
    rcases hp with ⟨hth, rfl⟩ | ⟨hth, rfl⟩
    · refine ro_catch MC hT 0 rfl ⟨by omega, by omega⟩ (by decide) kw115 (by decide +kernel) (fun j hj => absurd hj (by omega)) hcell hv9 hcl ?_
      refine lv_astore (lv' := [(4, .ref q9), (0, .ref (ad 0)), (1, .int a9), (2, .int b9), (3, .ref (ad 30))]) hx hb dL_offset_13 hl (by decide) rfl (fun ls hl => ?_)
      refine lv_iconst (v := 1) hx hb dL_offset_15 (by decide) ?_
      exact ro_iretM MC HS hr (⟨by rw [hth], fun h9 => absurd (hth.symm.trans h9) (by decide), fun _ => hg9⟩) (Nat.le_of_ble_eq_true rfl) (Nat.le_of_ble_eq_true rfl) dL_offset_16
    · refine ro_catch MC hT 1 rfl ⟨by omega, by omega⟩ (by decide) kw213 (by decide +kernel) (fun j hj q hq => by rcases j with _ | j; (· cases hq; exact ⟨by decide, _, kw115, by decide +kernel⟩); (· omega)) hcell hv9 hcl ?_
      refine lv_astore (lv' := [(4, .ref q9), (0, .ref (ad 0)), (1, .int a9), (2, .int b9), (3, .ref (ad 30))]) hx hb dL_offset_17 hl (by decide) rfl (fun ls hl => ?_)
      refine lv_iconst (v := 2) hx hb dL_offset_19 (by decide) ?_
      exact ro_iretM MC HS hr (⟨by rw [hth], fun h9 => absurd (hth.symm.trans h9) (by decide), fun _ => hg9⟩) (Nat.le_of_ble_eq_true rfl) (Nat.le_of_ble_eq_true rfl) dL_offset_20
  · obtain ⟨hth, rfl, RR1, ad1, cn1, nw1, ns1, nl1, nc1, hX1, hI1, had, hcn⟩ := hp
    have h31 : ad1 30 = ad 30 := had 30 (by omega)
    obtain ⟨HP1, hRR1, sa1, bm1, fm1, lf1, ff1, cf1, hx1⟩ := hX1
    refine lv_i2l hx hb dL_offset_8 rfl ?_
    refine ro_lastE MC HP1 HS h31 (hRR1.l (by decide)) ((hcn 30 (by omega) (by omega)).trans h30) (vp_in_nI (n := 0) (N := 1) (by omega) (by omega)) dL_offset_9 (fun H2 l2 HP2 HS => ?_)
    refine lv_goto (tgt := 21) hx hb dL_offset_10 (by decide) ?_
    refine lv_iconst (v := 0) hx hb dL_offset_21 (by decide) ?_
    exact ro_iretM MC HS hr (⟨by rw [hth], fun _ => ⟨RR1, ad1, _, nw1, ns1, nl1, nc1, ⟨HP2, hRR1, _, _, _, _, _, _, hx1.cg (fun r hr => va_up_ne _ _ (by omega))⟩, hI1, had, fun r h1 h2 h3 => (va_up_ne _ _ h3).trans (hcn r h1 h2), va_up_self ..⟩, fun h9 => absurd hth h9⟩) (Nat.le_of_ble_eq_true rfl) (Nat.le_of_ble_eq_true rfl) dL_offset_22
set_option maxHeartbeats 4000000 in
set_option maxRecDepth 100000 in
theorem w_feast {l : Launch} (hl9 : l.stackTraces = false) {D : va_G} {ids : Nat → ClassId} {n0 : Nat} {RR : List Nat} {ad : Nat → Nat} {cn : Nat → va_E} {τ : Tau} {ns nl nc : Nat} {Hh : Heap} (hX : xH D ids n0 RR ad cn τ ns nl nc Hh) {nw : Nat} (hI : Iv τ nw ns nl nc) {a9 d9 : Int32} {out : Nat → Int64} (h30 : cn 30 = .inl (ids 2, 1, .inr (.inl out))) : ro_MW l yL_feast cL_feast 5 (some FieldType.int) [(0, 17, 20, 13), (0, 17, 24, 21)] { frames := 9, cells := 8, slots := 48, locals := 280 } D ids n0 [.ref (ad 0), .int a9, .int d9, .ref (ad 30)] Hh (fun v H1 => v = some (.int (th_feast τ a9 d9)) ∧ (th_feast τ a9 d9 = 0 → wft D ids n0 ad cn (nx_feast τ a9 d9) (.inl (ids 2, 1, .inr (.inl (vp_updL out 0 (rt_feast τ a9 d9).toInt64)))) H1) ∧ (¬ th_feast τ a9 d9 = 0 → grow Hh H1)) := by
  refine ro_ofW (by decide +kernel) (Nat.le_of_ble_eq_true rfl) ?_
  intro p e s m below meth c MC hhp hr hT HS ls hl
  have hx := MC.1.1
  have hb := MC.1.2.1
  have hl : lv_has ls 5 [(0, .ref (ad 0)), (1, .int a9), (2, .int d9), (3, .ref (ad 30))] := hl
  obtain ⟨HP, hRR, sa, bm, fm, lf, ff, cf, h0, h1, h1b, h2, h2b, h7, h7b, h3, h3b, h40, h4, h4b, h60, h5, h6⟩ := id hX
  refine lv_aload_n hx hb dL_feast_0 rfl (lv_at hl 3 rfl) ?_
  refine lv_iconst (v := 0) hx hb dL_feast_1 (by decide) ?_
  refine lv_aload_n hx hb dL_feast_2 rfl (lv_at hl 0 rfl) ?_
  refine lv_iload_n hx hb dL_feast_3 rfl (lv_at hl 1 rfl) ?_
  refine lv_iload_n hx hb dL_feast_4 rfl (lv_at hl 2 rfl) ?_
  refine ro_callVT MC HS (rest := [.int 0, .ref (ad 30)]) (As := [.int a9, .int d9]) (q_feast hl9 hX hI) lkL_23 kw246 kw247 ⟨(Nat.le_of_ble_eq_true rfl), (Nat.le_of_ble_eq_true rfl)⟩ (ro_recv MC HP (hRR.l (by decide)) h0 (rfl : vwCl[5]? = some (RX6, TX6, 11))) hl.1 rfl (Nat.le_of_ble_eq_true rfl) dL_feast_5 ⟨(Nat.le_of_ble_eq_true rfl), (Nat.le_of_ble_eq_true rfl)⟩ (fun E9 ce9 q9 H9 l9 hp hz9 HS hcell hv9 hcl => ?_) (fun v9 H9 l9 hp hz9 HS => ?_)
  · obtain ⟨hg9, hp⟩ := hp
    rcases hp with ⟨hth, rfl⟩ | ⟨hth, rfl⟩
    · refine ro_catch MC hT 0 rfl ⟨by omega, by omega⟩ (by decide) kw115 (by decide +kernel) (fun j hj => absurd hj (by omega)) hcell hv9 hcl ?_
      refine lv_astore (lv' := [(4, .ref q9), (0, .ref (ad 0)), (1, .int a9), (2, .int d9), (3, .ref (ad 30))]) hx hb dL_feast_20 hl (by decide) rfl (fun ls hl => ?_)
      refine lv_iconst (v := 1) hx hb dL_feast_22 (by decide) ?_
      exact ro_iretM MC HS hr (⟨by rw [hth], fun h9 => absurd (hth.symm.trans h9) (by decide), fun _ => hg9⟩) (Nat.le_of_ble_eq_true rfl) (Nat.le_of_ble_eq_true rfl) dL_feast_23
    · refine ro_catch MC hT 1 rfl ⟨by omega, by omega⟩ (by decide) kw213 (by decide +kernel) (fun j hj q hq => by rcases j with _ | j; (· cases hq; exact ⟨by decide, _, kw115, by decide +kernel⟩); (· omega)) hcell hv9 hcl ?_
      refine lv_astore (lv' := [(4, .ref q9), (0, .ref (ad 0)), (1, .int a9), (2, .int d9), (3, .ref (ad 30))]) hx hb dL_feast_24 hl (by decide) rfl (fun ls hl => ?_)
      refine lv_iconst (v := 2) hx hb dL_feast_26 (by decide) ?_
      exact ro_iretM MC HS hr (⟨by rw [hth], fun h9 => absurd (hth.symm.trans h9) (by decide), fun _ => hg9⟩) (Nat.le_of_ble_eq_true rfl) (Nat.le_of_ble_eq_true rfl) dL_feast_27
  · obtain ⟨hth, rfl, RR1, ad1, cn1, nw1, ns1, nl1, nc1, hX1, hI1, had, hcn⟩ := hp
    have h31 : ad1 30 = ad 30 := had 30 (by omega)
    obtain ⟨HP1, hRR1, sa1, bm1, fm1, lf1, ff1, cf1, hx1⟩ := hX1
    refine lv_if_eq (tgt := 15) hx hb dL_feast_8 (by decide) (fun c_f => ?_) (fun c_f => ?_)
    · have hlong : (0 : Int64) = (rt_feast τ a9 d9).toInt64 := by rw [c_f]; rfl
      refine lv_lconst (v := 0) hx hb dL_feast_15 (by decide) ?_
      refine ro_lastE MC HP1 HS h31 (hRR1.l (by decide)) ((hcn 30 (by omega) (by omega)).trans h30) (vp_in_nI (n := 0) (N := 1) (by omega) (by omega)) dL_feast_16 (fun H2 l2 HP2 HS => ?_)
      refine lv_goto (tgt := 28) hx hb dL_feast_17 (by decide) ?_
      refine lv_iconst (v := 0) hx hb dL_feast_28 (by decide) ?_
      exact ro_iretM MC HS hr (⟨by rw [hth], fun _ => ⟨RR1, ad1, _, nw1, ns1, nl1, nc1, ⟨HP2, hRR1, _, _, _, _, _, _, hx1.cg (fun r hr => va_up_ne _ _ (by omega))⟩, hI1, had, fun r h1 h2 h3 => (va_up_ne _ _ h3).trans (hcn r h1 h2), (va_up_self ..).trans (by rw [hlong]; rfl)⟩, fun h9 => absurd hth h9⟩) (Nat.le_of_ble_eq_true rfl) (Nat.le_of_ble_eq_true rfl) dL_feast_29
    · have hlong : (1 : Int64) = (rt_feast τ a9 d9).toInt64 := by rw [fe_one c_f]; rfl
      refine lv_lconst (v := 1) hx hb dL_feast_11 (by decide) ?_
      refine lv_goto (tgt := 16) hx hb dL_feast_12 (by decide) ?_
      refine ro_lastE MC HP1 HS h31 (hRR1.l (by decide)) ((hcn 30 (by omega) (by omega)).trans h30) (vp_in_nI (n := 0) (N := 1) (by omega) (by omega)) dL_feast_16 (fun H2 l2 HP2 HS => ?_)
      refine lv_goto (tgt := 28) hx hb dL_feast_17 (by decide) ?_
      refine lv_iconst (v := 0) hx hb dL_feast_28 (by decide) ?_
      exact ro_iretM MC HS hr (⟨by rw [hth], fun _ => ⟨RR1, ad1, _, nw1, ns1, nl1, nc1, ⟨HP2, hRR1, _, _, _, _, _, _, hx1.cg (fun r hr => va_up_ne _ _ (by omega))⟩, hI1, had, fun r h1 h2 h3 => (va_up_ne _ _ h3).trans (hcn r h1 h2), (va_up_self ..).trans (by rw [hlong]; rfl)⟩, fun h9 => absurd hth h9⟩) (Nat.le_of_ble_eq_true rfl) (Nat.le_of_ble_eq_true rfl) dL_feast_29
set_option maxHeartbeats 4000000 in
set_option maxRecDepth 100000 in
theorem w_pass {l : Launch} (hl9 : l.stackTraces = false) {D : va_G} {ids : Nat → ClassId} {n0 : Nat} {RR : List Nat} {ad : Nat → Nat} {cn : Nat → va_E} {τ : Tau} {ns nl nc : Nat} {Hh : Heap} (hX : xH D ids n0 RR ad cn τ ns nl nc Hh) {nw : Nat} (hI : Iv τ nw ns nl nc) {h9 : Int32} {out : Nat → Int64} (h30 : cn 30 = .inl (ids 2, 1, .inr (.inl out))) : ro_MW l yL_pass cL_pass 4 (some FieldType.int) [(0, 9, 12, 21), (0, 9, 15, 15)] { frames := 9, cells := 8, slots := 48, locals := 280 } D ids n0 [.ref (ad 0), .int h9, .ref (ad 30)] Hh (fun v H1 => v = some (.int (th_pass τ h9)) ∧ (th_pass τ h9 = 0 → wft D ids n0 ad cn (nx_pass τ h9) (.inl (ids 2, 1, .inr (.inl (vp_updL out 0 (rt_pass τ h9).toInt64)))) H1) ∧ (¬ th_pass τ h9 = 0 → grow Hh H1)) := by
  refine ro_ofW (by decide +kernel) (Nat.le_of_ble_eq_true rfl) ?_
  intro p e s m below meth c MC hhp hr hT HS ls hl
  have hx := MC.1.1
  have hb := MC.1.2.1
  have hl : lv_has ls 4 [(0, .ref (ad 0)), (1, .int h9), (2, .ref (ad 30))] := hl
  obtain ⟨HP, hRR, sa, bm, fm, lf, ff, cf, h0, h1, h1b, h2, h2b, h7, h7b, h3, h3b, h40, h4, h4b, h60, h5, h6⟩ := id hX
  refine lv_aload_n hx hb dL_pass_0 rfl (lv_at hl 2 rfl) ?_
  refine lv_iconst (v := 0) hx hb dL_pass_1 (by decide) ?_
  refine lv_aload_n hx hb dL_pass_2 rfl (lv_at hl 0 rfl) ?_
  refine lv_iload_n hx hb dL_pass_3 rfl (lv_at hl 1 rfl) ?_
  refine ro_callVT MC HS (rest := [.int 0, .ref (ad 30)]) (As := [.int h9]) (q_pass hl9 hX hI) lkL_27 kw264 kw265 ⟨(Nat.le_of_ble_eq_true rfl), (Nat.le_of_ble_eq_true rfl)⟩ (ro_recv MC HP (hRR.l (by decide)) h0 (rfl : vwCl[5]? = some (RX6, TX6, 11))) hl.1 rfl (Nat.le_of_ble_eq_true rfl) dL_pass_4 ⟨(Nat.le_of_ble_eq_true rfl), (Nat.le_of_ble_eq_true rfl)⟩ (fun E9 ce9 q9 H9 l9 hp hz9 HS hcell hv9 hcl => ?_) (fun v9 H9 l9 hp hz9 HS => ?_)
  · obtain ⟨hg9, hp⟩ := hp
    rcases hp with ⟨hth, rfl⟩ | ⟨hth, rfl⟩
    · refine ro_catch MC hT 0 rfl ⟨by omega, by omega⟩ (by decide) kw213 (by decide +kernel) (fun j hj => absurd hj (by omega)) hcell hv9 hcl ?_
      refine lv_astore_n (lv' := [(3, .ref q9), (0, .ref (ad 0)), (1, .int h9), (2, .ref (ad 30))]) hx hb dL_pass_12 rfl hl (by decide) rfl (fun ls hl => ?_)
      refine lv_iconst (v := 1) hx hb dL_pass_13 (by decide) ?_
      exact ro_iretM MC HS hr (⟨by rw [hth], fun h9 => absurd (hth.symm.trans h9) (by decide), fun _ => hg9⟩) (Nat.le_of_ble_eq_true rfl) (Nat.le_of_ble_eq_true rfl) dL_pass_14
    · refine ro_catch MC hT 1 rfl ⟨by omega, by omega⟩ (by decide) kw116 (by decide +kernel) (fun j hj q hq => by rcases j with _ | j; (· cases hq; exact ⟨by decide, _, kw213, by decide +kernel⟩); (· omega)) hcell hv9 hcl ?_
      refine lv_astore_n (lv' := [(3, .ref q9), (0, .ref (ad 0)), (1, .int h9), (2, .ref (ad 30))]) hx hb dL_pass_15 rfl hl (by decide) rfl (fun ls hl => ?_)
      refine lv_iconst (v := 2) hx hb dL_pass_16 (by decide) ?_
      exact ro_iretM MC HS hr (⟨by rw [hth], fun h9 => absurd (hth.symm.trans h9) (by decide), fun _ => hg9⟩) (Nat.le_of_ble_eq_true rfl) (Nat.le_of_ble_eq_true rfl) dL_pass_17
  · obtain ⟨hth, rfl, RR1, ad1, cn1, nw1, ns1, nl1, nc1, hX1, hI1, had, hcn⟩ := hp
    have h31 : ad1 30 = ad 30 := had 30 (by omega)
    obtain ⟨HP1, hRR1, sa1, bm1, fm1, lf1, ff1, cf1, hx1⟩ := hX1
    refine lv_i2l hx hb dL_pass_7 rfl ?_
    refine ro_lastE MC HP1 HS h31 (hRR1.l (by decide)) ((hcn 30 (by omega) (by omega)).trans h30) (vp_in_nI (n := 0) (N := 1) (by omega) (by omega)) dL_pass_8 (fun H2 l2 HP2 HS => ?_)
    refine lv_goto (tgt := 18) hx hb dL_pass_9 (by decide) ?_
    refine lv_iconst (v := 0) hx hb dL_pass_18 (by decide) ?_
    exact ro_iretM MC HS hr (⟨by rw [hth], fun _ => ⟨RR1, ad1, _, nw1, ns1, nl1, nc1, ⟨HP2, hRR1, _, _, _, _, _, _, hx1.cg (fun r hr => va_up_ne _ _ (by omega))⟩, hI1, had, fun r h1 h2 h3 => (va_up_ne _ _ h3).trans (hcn r h1 h2), va_up_self ..⟩, fun h9 => absurd hth h9⟩) (Nat.le_of_ble_eq_true rfl) (Nat.le_of_ble_eq_true rfl) dL_pass_19
set_option maxHeartbeats 4000000 in
set_option maxRecDepth 100000 in
theorem w_once {l : Launch} (hl9 : l.stackTraces = false) {D : va_G} {ids : Nat → ClassId} {n0 : Nat} {RR : List Nat} {ad : Nat → Nat} {cn : Nat → va_E} {τ : Tau} {ns nl nc : Nat} {Hh : Heap} (hX : xH D ids n0 RR ad cn τ ns nl nc Hh) {nw : Nat} (hI : Iv τ nw ns nl nc) {s9 f9 t9 r9 : Int32} {out : Nat → Int64} (h30 : cn 30 = .inl (ids 2, 1, .inr (.inl out))) : ro_MW l yL_once cL_once 7 (some FieldType.int) [(0, 14, 17, 13), (0, 14, 21, 21), (0, 14, 25, 15)] { frames := 9, cells := 8, slots := 48, locals := 280 } D ids n0 [.ref (ad 0), .int s9, .int f9, .int t9, .int r9, .ref (ad 30)] Hh (fun v H1 => v = some (.int (th_once τ s9 f9 t9 r9)) ∧ (th_once τ s9 f9 t9 r9 = 0 → wft D ids n0 ad cn (nx_once τ s9 f9 t9 r9) (.inl (ids 2, 1, .inr (.inl (vp_updL out 0 (rt_once τ s9 f9 t9 r9).toInt64)))) H1) ∧ (¬ th_once τ s9 f9 t9 r9 = 0 → grow Hh H1)) := by
  refine ro_ofW (by decide +kernel) (Nat.le_of_ble_eq_true rfl) ?_
  intro p e s m below meth c MC hhp hr hT HS ls hl
  have hx := MC.1.1
  have hb := MC.1.2.1
  have hl : lv_has ls 7 [(0, .ref (ad 0)), (1, .int s9), (2, .int f9), (3, .int t9), (4, .int r9), (5, .ref (ad 30))] := hl
  obtain ⟨HP, hRR, sa, bm, fm, lf, ff, cf, h0, h1, h1b, h2, h2b, h7, h7b, h3, h3b, h40, h4, h4b, h60, h5, h6⟩ := id hX
  refine lv_aload hx hb dL_once_0 (lv_at hl 5 rfl) ?_
  refine lv_iconst (v := 0) hx hb dL_once_2 (by decide) ?_
  refine lv_aload_n hx hb dL_once_3 rfl (lv_at hl 0 rfl) ?_
  refine lv_iload_n hx hb dL_once_4 rfl (lv_at hl 1 rfl) ?_
  refine lv_iload_n hx hb dL_once_5 rfl (lv_at hl 2 rfl) ?_
  refine lv_iload_n hx hb dL_once_6 rfl (lv_at hl 3 rfl) ?_
  refine lv_iload hx hb dL_once_7 (lv_at hl 4 rfl) ?_
  refine ro_callVT MC HS (rest := [.int 0, .ref (ad 30)]) (As := [.int s9, .int f9, .int t9, .int r9]) (q_once hl9 hX hI) lkL_30 kw272 kw273 ⟨(Nat.le_of_ble_eq_true rfl), (Nat.le_of_ble_eq_true rfl)⟩ (ro_recv MC HP (hRR.l (by decide)) h0 (rfl : vwCl[5]? = some (RX6, TX6, 11))) hl.1 rfl (Nat.le_of_ble_eq_true rfl) dL_once_9 ⟨(Nat.le_of_ble_eq_true rfl), (Nat.le_of_ble_eq_true rfl)⟩ (fun E9 ce9 q9 H9 l9 hp hz9 HS hcell hv9 hcl => ?_) (fun v9 H9 l9 hp hz9 HS => ?_)
  · obtain ⟨hg9, hp⟩ := hp
    rcases hp with ⟨hth, rfl⟩ | ⟨hth, rfl⟩ | ⟨hth, rfl⟩
    · refine ro_catch MC hT 0 rfl ⟨by omega, by omega⟩ (by decide) kw115 (by decide +kernel) (fun j hj => absurd hj (by omega)) hcell hv9 hcl ?_
      refine lv_astore (lv' := [(6, .ref q9), (0, .ref (ad 0)), (1, .int s9), (2, .int f9), (3, .int t9), (4, .int r9), (5, .ref (ad 30))]) hx hb dL_once_17 hl (by decide) rfl (fun ls hl => ?_)
      refine lv_iconst (v := 1) hx hb dL_once_19 (by decide) ?_
      exact ro_iretM MC HS hr (⟨by rw [hth], fun h9 => absurd (hth.symm.trans h9) (by decide), fun _ => hg9⟩) (Nat.le_of_ble_eq_true rfl) (Nat.le_of_ble_eq_true rfl) dL_once_20
    · refine ro_catch MC hT 1 rfl ⟨by omega, by omega⟩ (by decide) kw213 (by decide +kernel) (fun j hj q hq => by rcases j with _ | j; (· cases hq; exact ⟨by decide, _, kw115, by decide +kernel⟩); (· omega)) hcell hv9 hcl ?_
      refine lv_astore (lv' := [(6, .ref q9), (0, .ref (ad 0)), (1, .int s9), (2, .int f9), (3, .int t9), (4, .int r9), (5, .ref (ad 30))]) hx hb dL_once_21 hl (by decide) rfl (fun ls hl => ?_)
      refine lv_iconst (v := 2) hx hb dL_once_23 (by decide) ?_
      exact ro_iretM MC HS hr (⟨by rw [hth], fun h9 => absurd (hth.symm.trans h9) (by decide), fun _ => hg9⟩) (Nat.le_of_ble_eq_true rfl) (Nat.le_of_ble_eq_true rfl) dL_once_24
    · refine ro_catch MC hT 2 rfl ⟨by omega, by omega⟩ (by decide) kw116 (by decide +kernel) (fun j hj q hq => by rcases j with _ | _ | j; (· cases hq; exact ⟨by decide, _, kw115, by decide +kernel⟩); (· cases hq; exact ⟨by decide, _, kw213, by decide +kernel⟩); (· omega)) hcell hv9 hcl ?_
      refine lv_astore (lv' := [(6, .ref q9), (0, .ref (ad 0)), (1, .int s9), (2, .int f9), (3, .int t9), (4, .int r9), (5, .ref (ad 30))]) hx hb dL_once_25 hl (by decide) rfl (fun ls hl => ?_)
      refine lv_iconst (v := 3) hx hb dL_once_27 (by decide) ?_
      exact ro_iretM MC HS hr (⟨by rw [hth], fun h9 => absurd (hth.symm.trans h9) (by decide), fun _ => hg9⟩) (Nat.le_of_ble_eq_true rfl) (Nat.le_of_ble_eq_true rfl) dL_once_28
  · obtain ⟨hth, rfl, RR1, ad1, cn1, nw1, ns1, nl1, nc1, hX1, hI1, had, hcn⟩ := hp
    have h31 : ad1 30 = ad 30 := had 30 (by omega)
    obtain ⟨HP1, hRR1, sa1, bm1, fm1, lf1, ff1, cf1, hx1⟩ := hX1
    refine lv_i2l hx hb dL_once_12 rfl ?_
    refine ro_lastE MC HP1 HS h31 (hRR1.l (by decide)) ((hcn 30 (by omega) (by omega)).trans h30) (vp_in_nI (n := 0) (N := 1) (by omega) (by omega)) dL_once_13 (fun H2 l2 HP2 HS => ?_)
    refine lv_goto (tgt := 29) hx hb dL_once_14 (by decide) ?_
    refine lv_iconst (v := 0) hx hb dL_once_29 (by decide) ?_
    exact ro_iretM MC HS hr (⟨by rw [hth], fun _ => ⟨RR1, ad1, _, nw1, ns1, nl1, nc1, ⟨HP2, hRR1, _, _, _, _, _, _, hx1.cg (fun r hr => va_up_ne _ _ (by omega))⟩, hI1, had, fun r h1 h2 h3 => (va_up_ne _ _ h3).trans (hcn r h1 h2), va_up_self ..⟩, fun h9 => absurd hth h9⟩) (Nat.le_of_ble_eq_true rfl) (Nat.le_of_ble_eq_true rfl) dL_once_30
set_option maxHeartbeats 4000000 in
set_option maxRecDepth 100000 in
theorem w_daily {l : Launch} (hl9 : l.stackTraces = false) {D : va_G} {ids : Nat → ClassId} {n0 : Nat} {RR : List Nat} {ad : Nat → Nat} {cn : Nat → va_E} {τ : Tau} {ns nl nc : Nat} {Hh : Heap} (hX : xH D ids n0 RR ad cn τ ns nl nc Hh) {nw : Nat} (hI : Iv τ nw ns nl nc) {s9 a9 f9 t9 r9 : Int32} {out : Nat → Int64} (h30 : cn 30 = .inl (ids 2, 1, .inr (.inl out))) : ro_MW l yL_daily cL_daily 8 (some FieldType.int) [(0, 16, 19, 13), (0, 16, 23, 21), (0, 16, 27, 15)] { frames := 9, cells := 8, slots := 48, locals := 280 } D ids n0 [.ref (ad 0), .int s9, .int a9, .int f9, .int t9, .int r9, .ref (ad 30)] Hh (fun v H1 => v = some (.int (th_daily τ s9 a9 f9 t9 r9)) ∧ (th_daily τ s9 a9 f9 t9 r9 = 0 → wft D ids n0 ad cn (nx_daily τ s9 a9 f9 t9 r9) (.inl (ids 2, 1, .inr (.inl (vp_updL out 0 (rt_daily τ s9 a9 f9 t9 r9).toInt64)))) H1) ∧ (¬ th_daily τ s9 a9 f9 t9 r9 = 0 → grow Hh H1)) := by
  refine ro_ofW (by decide +kernel) (Nat.le_of_ble_eq_true rfl) ?_
  intro p e s m below meth c MC hhp hr hT HS ls hl
  have hx := MC.1.1
  have hb := MC.1.2.1
  have hl : lv_has ls 8 [(0, .ref (ad 0)), (1, .int s9), (2, .int a9), (3, .int f9), (4, .int t9), (5, .int r9), (6, .ref (ad 30))] := hl
  obtain ⟨HP, hRR, sa, bm, fm, lf, ff, cf, h0, h1, h1b, h2, h2b, h7, h7b, h3, h3b, h40, h4, h4b, h60, h5, h6⟩ := id hX
  refine lv_aload hx hb dL_daily_0 (lv_at hl 6 rfl) ?_
  refine lv_iconst (v := 0) hx hb dL_daily_2 (by decide) ?_
  refine lv_aload_n hx hb dL_daily_3 rfl (lv_at hl 0 rfl) ?_
  refine lv_iload_n hx hb dL_daily_4 rfl (lv_at hl 1 rfl) ?_
  refine lv_iload_n hx hb dL_daily_5 rfl (lv_at hl 2 rfl) ?_
  refine lv_iload_n hx hb dL_daily_6 rfl (lv_at hl 3 rfl) ?_
  refine lv_iload hx hb dL_daily_7 (lv_at hl 4 rfl) ?_
  refine lv_iload hx hb dL_daily_9 (lv_at hl 5 rfl) ?_
  refine ro_callVT MC HS (rest := [.int 0, .ref (ad 30)]) (As := [.int s9, .int a9, .int f9, .int t9, .int r9]) (q_daily hl9 hX hI) lkL_34 kw312 kw313 ⟨(Nat.le_of_ble_eq_true rfl), (Nat.le_of_ble_eq_true rfl)⟩ (ro_recv MC HP (hRR.l (by decide)) h0 (rfl : vwCl[5]? = some (RX6, TX6, 11))) hl.1 rfl (Nat.le_of_ble_eq_true rfl) dL_daily_11 ⟨(Nat.le_of_ble_eq_true rfl), (Nat.le_of_ble_eq_true rfl)⟩ (fun E9 ce9 q9 H9 l9 hp hz9 HS hcell hv9 hcl => ?_) (fun v9 H9 l9 hp hz9 HS => ?_)
  · obtain ⟨hg9, hp⟩ := hp
    rcases hp with ⟨hth, rfl⟩ | ⟨hth, rfl⟩ | ⟨hth, rfl⟩
    · refine ro_catch MC hT 0 rfl ⟨by omega, by omega⟩ (by decide) kw115 (by decide +kernel) (fun j hj => absurd hj (by omega)) hcell hv9 hcl ?_
      refine lv_astore (lv' := [(7, .ref q9), (0, .ref (ad 0)), (1, .int s9), (2, .int a9), (3, .int f9), (4, .int t9), (5, .int r9), (6, .ref (ad 30))]) hx hb dL_daily_19 hl (by decide) rfl (fun ls hl => ?_)
      refine lv_iconst (v := 1) hx hb dL_daily_21 (by decide) ?_
      exact ro_iretM MC HS hr (⟨by rw [hth], fun h9 => absurd (hth.symm.trans h9) (by decide), fun _ => hg9⟩) (Nat.le_of_ble_eq_true rfl) (Nat.le_of_ble_eq_true rfl) dL_daily_22
    · refine ro_catch MC hT 1 rfl ⟨by omega, by omega⟩ (by decide) kw213 (by decide +kernel) (fun j hj q hq => by rcases j with _ | j; (· cases hq; exact ⟨by decide, _, kw115, by decide +kernel⟩); (· omega)) hcell hv9 hcl ?_
      refine lv_astore (lv' := [(7, .ref q9), (0, .ref (ad 0)), (1, .int s9), (2, .int a9), (3, .int f9), (4, .int t9), (5, .int r9), (6, .ref (ad 30))]) hx hb dL_daily_23 hl (by decide) rfl (fun ls hl => ?_)
      refine lv_iconst (v := 2) hx hb dL_daily_25 (by decide) ?_
      exact ro_iretM MC HS hr (⟨by rw [hth], fun h9 => absurd (hth.symm.trans h9) (by decide), fun _ => hg9⟩) (Nat.le_of_ble_eq_true rfl) (Nat.le_of_ble_eq_true rfl) dL_daily_26
    · refine ro_catch MC hT 2 rfl ⟨by omega, by omega⟩ (by decide) kw116 (by decide +kernel) (fun j hj q hq => by rcases j with _ | _ | j; (· cases hq; exact ⟨by decide, _, kw115, by decide +kernel⟩); (· cases hq; exact ⟨by decide, _, kw213, by decide +kernel⟩); (· omega)) hcell hv9 hcl ?_
      refine lv_astore (lv' := [(7, .ref q9), (0, .ref (ad 0)), (1, .int s9), (2, .int a9), (3, .int f9), (4, .int t9), (5, .int r9), (6, .ref (ad 30))]) hx hb dL_daily_27 hl (by decide) rfl (fun ls hl => ?_)
      refine lv_iconst (v := 3) hx hb dL_daily_29 (by decide) ?_
      exact ro_iretM MC HS hr (⟨by rw [hth], fun h9 => absurd (hth.symm.trans h9) (by decide), fun _ => hg9⟩) (Nat.le_of_ble_eq_true rfl) (Nat.le_of_ble_eq_true rfl) dL_daily_30
  · obtain ⟨hth, rfl, RR1, ad1, cn1, nw1, ns1, nl1, nc1, hX1, hI1, had, hcn⟩ := hp
    have h31 : ad1 30 = ad 30 := had 30 (by omega)
    obtain ⟨HP1, hRR1, sa1, bm1, fm1, lf1, ff1, cf1, hx1⟩ := hX1
    refine lv_i2l hx hb dL_daily_14 rfl ?_
    refine ro_lastE MC HP1 HS h31 (hRR1.l (by decide)) ((hcn 30 (by omega) (by omega)).trans h30) (vp_in_nI (n := 0) (N := 1) (by omega) (by omega)) dL_daily_15 (fun H2 l2 HP2 HS => ?_)
    refine lv_goto (tgt := 31) hx hb dL_daily_16 (by decide) ?_
    refine lv_iconst (v := 0) hx hb dL_daily_31 (by decide) ?_
    exact ro_iretM MC HS hr (⟨by rw [hth], fun _ => ⟨RR1, ad1, _, nw1, ns1, nl1, nc1, ⟨HP2, hRR1, _, _, _, _, _, _, hx1.cg (fun r hr => va_up_ne _ _ (by omega))⟩, hI1, had, fun r h1 h2 h3 => (va_up_ne _ _ h3).trans (hcn r h1 h2), va_up_self ..⟩, fun h9 => absurd hth h9⟩) (Nat.le_of_ble_eq_true rfl) (Nat.le_of_ble_eq_true rfl) dL_daily_32
set_option maxHeartbeats 4000000 in
set_option maxRecDepth 100000 in
theorem w_feasts {l : Launch} (hl9 : l.stackTraces = false) {D : va_G} {ids : Nat → ClassId} {n0 : Nat} {RR : List Nat} {ad : Nat → Nat} {cn : Nat → va_E} {τ : Tau} {ns nl nc : Nat} {Hh : Heap} (hX : xH D ids n0 RR ad cn τ ns nl nc Hh) {nw : Nat} (hI : Iv τ nw ns nl nc) {s9 a9 r9 : Int32} {out : Nat → Int64} (h30 : cn 30 = .inl (ids 2, 1, .inr (.inl out))) : ro_MW l yL_feasts cL_feasts 6 (some FieldType.int) [(0, 12, 15, 13), (0, 12, 19, 21), (0, 12, 23, 15)] { frames := 9, cells := 8, slots := 48, locals := 280 } D ids n0 [.ref (ad 0), .int s9, .int a9, .int r9, .ref (ad 30)] Hh (fun v H1 => v = some (.int (th_feasts τ s9 a9 r9)) ∧ (th_feasts τ s9 a9 r9 = 0 → wft D ids n0 ad cn (nx_feasts τ s9 a9 r9) (.inl (ids 2, 1, .inr (.inl (vp_updL out 0 (rt_feasts τ s9 a9 r9).toInt64)))) H1) ∧ (¬ th_feasts τ s9 a9 r9 = 0 → grow Hh H1)) := by
  refine ro_ofW (by decide +kernel) (Nat.le_of_ble_eq_true rfl) ?_
  intro p e s m below meth c MC hhp hr hT HS ls hl
  have hx := MC.1.1
  have hb := MC.1.2.1
  have hl : lv_has ls 6 [(0, .ref (ad 0)), (1, .int s9), (2, .int a9), (3, .int r9), (4, .ref (ad 30))] := hl
  obtain ⟨HP, hRR, sa, bm, fm, lf, ff, cf, h0, h1, h1b, h2, h2b, h7, h7b, h3, h3b, h40, h4, h4b, h60, h5, h6⟩ := id hX
  refine lv_aload hx hb dL_feasts_0 (lv_at hl 4 rfl) ?_
  refine lv_iconst (v := 0) hx hb dL_feasts_2 (by decide) ?_
  refine lv_aload_n hx hb dL_feasts_3 rfl (lv_at hl 0 rfl) ?_
  refine lv_iload_n hx hb dL_feasts_4 rfl (lv_at hl 1 rfl) ?_
  refine lv_iload_n hx hb dL_feasts_5 rfl (lv_at hl 2 rfl) ?_
  refine lv_iload_n hx hb dL_feasts_6 rfl (lv_at hl 3 rfl) ?_
  refine ro_callVT MC HS (rest := [.int 0, .ref (ad 30)]) (As := [.int s9, .int a9, .int r9]) (q_feasts hl9 hX hI) lkL_38 kw337 kw338 ⟨(Nat.le_of_ble_eq_true rfl), (Nat.le_of_ble_eq_true rfl)⟩ (ro_recv MC HP (hRR.l (by decide)) h0 (rfl : vwCl[5]? = some (RX6, TX6, 11))) hl.1 rfl (Nat.le_of_ble_eq_true rfl) dL_feasts_7 ⟨(Nat.le_of_ble_eq_true rfl), (Nat.le_of_ble_eq_true rfl)⟩ (fun E9 ce9 q9 H9 l9 hp hz9 HS hcell hv9 hcl => ?_) (fun v9 H9 l9 hp hz9 HS => ?_)
  · obtain ⟨hg9, hp⟩ := hp
    rcases hp with ⟨hth, rfl⟩ | ⟨hth, rfl⟩ | ⟨hth, rfl⟩
    · refine ro_catch MC hT 0 rfl ⟨by omega, by omega⟩ (by decide) kw115 (by decide +kernel) (fun j hj => absurd hj (by omega)) hcell hv9 hcl ?_
      refine lv_astore (lv' := [(5, .ref q9), (0, .ref (ad 0)), (1, .int s9), (2, .int a9), (3, .int r9), (4, .ref (ad 30))]) hx hb dL_feasts_15 hl (by decide) rfl (fun ls hl => ?_)
      refine lv_iconst (v := 1) hx hb dL_feasts_17 (by decide) ?_
      exact ro_iretM MC HS hr (⟨by rw [hth], fun h9 => absurd (hth.symm.trans h9) (by decide), fun _ => hg9⟩) (Nat.le_of_ble_eq_true rfl) (Nat.le_of_ble_eq_true rfl) dL_feasts_18
    · refine ro_catch MC hT 1 rfl ⟨by omega, by omega⟩ (by decide) kw213 (by decide +kernel) (fun j hj q hq => by rcases j with _ | j; (· cases hq; exact ⟨by decide, _, kw115, by decide +kernel⟩); (· omega)) hcell hv9 hcl ?_
      refine lv_astore (lv' := [(5, .ref q9), (0, .ref (ad 0)), (1, .int s9), (2, .int a9), (3, .int r9), (4, .ref (ad 30))]) hx hb dL_feasts_19 hl (by decide) rfl (fun ls hl => ?_)
      refine lv_iconst (v := 2) hx hb dL_feasts_21 (by decide) ?_
      exact ro_iretM MC HS hr (⟨by rw [hth], fun h9 => absurd (hth.symm.trans h9) (by decide), fun _ => hg9⟩) (Nat.le_of_ble_eq_true rfl) (Nat.le_of_ble_eq_true rfl) dL_feasts_22
    · refine ro_catch MC hT 2 rfl ⟨by omega, by omega⟩ (by decide) kw116 (by decide +kernel) (fun j hj q hq => by rcases j with _ | _ | j; (· cases hq; exact ⟨by decide, _, kw115, by decide +kernel⟩); (· cases hq; exact ⟨by decide, _, kw213, by decide +kernel⟩); (· omega)) hcell hv9 hcl ?_
      refine lv_astore (lv' := [(5, .ref q9), (0, .ref (ad 0)), (1, .int s9), (2, .int a9), (3, .int r9), (4, .ref (ad 30))]) hx hb dL_feasts_23 hl (by decide) rfl (fun ls hl => ?_)
      refine lv_iconst (v := 3) hx hb dL_feasts_25 (by decide) ?_
      exact ro_iretM MC HS hr (⟨by rw [hth], fun h9 => absurd (hth.symm.trans h9) (by decide), fun _ => hg9⟩) (Nat.le_of_ble_eq_true rfl) (Nat.le_of_ble_eq_true rfl) dL_feasts_26
  · obtain ⟨hth, rfl, RR1, ad1, cn1, nw1, ns1, nl1, nc1, hX1, hI1, had, hcn⟩ := hp
    have h31 : ad1 30 = ad 30 := had 30 (by omega)
    obtain ⟨HP1, hRR1, sa1, bm1, fm1, lf1, ff1, cf1, hx1⟩ := hX1
    refine lv_i2l hx hb dL_feasts_10 rfl ?_
    refine ro_lastE MC HP1 HS h31 (hRR1.l (by decide)) ((hcn 30 (by omega) (by omega)).trans h30) (vp_in_nI (n := 0) (N := 1) (by omega) (by omega)) dL_feasts_11 (fun H2 l2 HP2 HS => ?_)
    refine lv_goto (tgt := 27) hx hb dL_feasts_12 (by decide) ?_
    refine lv_iconst (v := 0) hx hb dL_feasts_27 (by decide) ?_
    exact ro_iretM MC HS hr (⟨by rw [hth], fun _ => ⟨RR1, ad1, _, nw1, ns1, nl1, nc1, ⟨HP2, hRR1, _, _, _, _, _, _, hx1.cg (fun r hr => va_up_ne _ _ (by omega))⟩, hI1, had, fun r h1 h2 h3 => (va_up_ne _ _ h3).trans (hcn r h1 h2), va_up_self ..⟩, fun h9 => absurd hth h9⟩) (Nat.le_of_ble_eq_true rfl) (Nat.le_of_ble_eq_true rfl) dL_feasts_28
set_option maxHeartbeats 4000000 in
set_option maxRecDepth 100000 in
theorem w_lift {l : Launch} (hl9 : l.stackTraces = false) {D : va_G} {ids : Nat → ClassId} {n0 : Nat} {RR : List Nat} {ad : Nat → Nat} {cn : Nat → va_E} {τ : Tau} {ns nl nc : Nat} {Hh : Heap} (hX : xH D ids n0 RR ad cn τ ns nl nc Hh) {nw : Nat} (hI : Iv τ nw ns nl nc) {f9 : Int32} {out : Nat → Int64} (h30 : cn 30 = .inl (ids 2, 1, .inr (.inl out))) : ro_MW l yL_lift cL_lift 4 (some FieldType.int) [(0, 9, 12, 45)] { frames := 9, cells := 8, slots := 48, locals := 280 } D ids n0 [.ref (ad 0), .int f9, .ref (ad 30)] Hh (fun v H1 => v = some (.int (th_lift τ f9)) ∧ (th_lift τ f9 = 0 → wft D ids n0 ad cn (nx_lift τ f9) (.inl (ids 2, 1, .inr (.inl (vp_updL out 0 (rt_lift τ f9).toInt64)))) H1) ∧ (¬ th_lift τ f9 = 0 → grow Hh H1)) := by
  refine ro_ofW (by decide +kernel) (Nat.le_of_ble_eq_true rfl) ?_
  intro p e s m below meth c MC hhp hr hT HS ls hl
  have hx := MC.1.1
  have hb := MC.1.2.1
  have hl : lv_has ls 4 [(0, .ref (ad 0)), (1, .int f9), (2, .ref (ad 30))] := hl
  obtain ⟨HP, hRR, sa, bm, fm, lf, ff, cf, h0, h1, h1b, h2, h2b, h7, h7b, h3, h3b, h40, h4, h4b, h60, h5, h6⟩ := id hX
  refine lv_aload_n hx hb dL_lift_0 rfl (lv_at hl 2 rfl) ?_
  refine lv_iconst (v := 0) hx hb dL_lift_1 (by decide) ?_
  refine lv_aload_n hx hb dL_lift_2 rfl (lv_at hl 0 rfl) ?_
  refine lv_iload_n hx hb dL_lift_3 rfl (lv_at hl 1 rfl) ?_
  refine ro_callVT MC HS (rest := [.int 0, .ref (ad 30)]) (As := [.int f9]) (q_lift hl9 hX hI) lkL_42 kw357 kw358 ⟨(Nat.le_of_ble_eq_true rfl), (Nat.le_of_ble_eq_true rfl)⟩ (ro_recv MC HP (hRR.l (by decide)) h0 (rfl : vwCl[5]? = some (RX6, TX6, 11))) hl.1 rfl (Nat.le_of_ble_eq_true rfl) dL_lift_4 ⟨(Nat.le_of_ble_eq_true rfl), (Nat.le_of_ble_eq_true rfl)⟩ (fun E9 ce9 q9 H9 l9 hp hz9 HS hcell hv9 hcl => ?_) (fun v9 H9 l9 hp hz9 HS => ?_)
  · obtain ⟨hg9, hp⟩ := hp
    obtain ⟨hth, rfl⟩ := hp
    refine ro_catch MC hT 0 rfl ⟨by omega, by omega⟩ (by decide) kw355 (by decide +kernel) (fun j hj => absurd hj (by omega)) hcell hv9 hcl ?_
    refine lv_astore_n (lv' := [(3, .ref q9), (0, .ref (ad 0)), (1, .int f9), (2, .ref (ad 30))]) hx hb dL_lift_12 rfl hl (by decide) rfl (fun ls hl => ?_)
    refine lv_iconst (v := 1) hx hb dL_lift_13 (by decide) ?_
    exact ro_iretM MC HS hr (⟨by rw [hth], fun h9 => absurd (hth.symm.trans h9) (by decide), fun _ => hg9⟩) (Nat.le_of_ble_eq_true rfl) (Nat.le_of_ble_eq_true rfl) dL_lift_14
  · obtain ⟨hth, rfl, RR1, ad1, cn1, nw1, ns1, nl1, nc1, hX1, hI1, had, hcn⟩ := hp
    have h31 : ad1 30 = ad 30 := had 30 (by omega)
    obtain ⟨HP1, hRR1, sa1, bm1, fm1, lf1, ff1, cf1, hx1⟩ := hX1
    refine lv_i2l hx hb dL_lift_7 rfl ?_
    refine ro_lastE MC HP1 HS h31 (hRR1.l (by decide)) ((hcn 30 (by omega) (by omega)).trans h30) (vp_in_nI (n := 0) (N := 1) (by omega) (by omega)) dL_lift_8 (fun H2 l2 HP2 HS => ?_)
    refine lv_goto (tgt := 15) hx hb dL_lift_9 (by decide) ?_
    refine lv_iconst (v := 0) hx hb dL_lift_15 (by decide) ?_
    exact ro_iretM MC HS hr (⟨by rw [hth], fun _ => ⟨RR1, ad1, _, nw1, ns1, nl1, nc1, ⟨HP2, hRR1, _, _, _, _, _, _, hx1.cg (fun r hr => va_up_ne _ _ (by omega))⟩, hI1, had, fun r h1 h2 h3 => (va_up_ne _ _ h3).trans (hcn r h1 h2), va_up_self ..⟩, fun h9 => absurd hth h9⟩) (Nat.le_of_ble_eq_true rfl) (Nat.le_of_ble_eq_true rfl) dL_lift_16
set_option maxHeartbeats 4000000 in
set_option maxRecDepth 100000 in
theorem w_holding {l : Launch} (hl9 : l.stackTraces = false) {D : va_G} {ids : Nat → ClassId} {n0 : Nat} {RR : List Nat} {ad : Nat → Nat} {cn : Nat → va_E} {τ : Tau} {ns nl nc : Nat} {Hh : Heap} (hX : xH D ids n0 RR ad cn τ ns nl nc Hh) {nw : Nat} (hI : Iv τ nw ns nl nc) {s9 h9 : Int32} {out : Nat → Int64} (h30 : cn 30 = .inl (ids 2, 1, .inr (.inl out))) : ro_MW l yL_holding cL_holding 5 (some FieldType.int) [(0, 10, 13, 13), (0, 10, 17, 21)] { frames := 9, cells := 8, slots := 48, locals := 280 } D ids n0 [.ref (ad 0), .int s9, .int h9, .ref (ad 30)] Hh (fun v H1 => v = some (.int (th_holding τ s9 h9)) ∧ (th_holding τ s9 h9 = 0 → wft D ids n0 ad cn (τ) (.inl (ids 2, 1, .inr (.inl (vp_updL out 0 (rt_holding τ s9 h9).toInt64)))) H1) ∧ (¬ th_holding τ s9 h9 = 0 → grow Hh H1)) := by
  refine ro_ofW (by decide +kernel) (Nat.le_of_ble_eq_true rfl) ?_
  intro p e s m below meth c MC hhp hr hT HS ls hl
  have hx := MC.1.1
  have hb := MC.1.2.1
  have hl : lv_has ls 5 [(0, .ref (ad 0)), (1, .int s9), (2, .int h9), (3, .ref (ad 30))] := hl
  obtain ⟨HP, hRR, sa, bm, fm, lf, ff, cf, h0, h1, h1b, h2, h2b, h7, h7b, h3, h3b, h40, h4, h4b, h60, h5, h6⟩ := id hX
  refine lv_aload_n hx hb dL_holding_0 rfl (lv_at hl 3 rfl) ?_
  refine lv_iconst (v := 0) hx hb dL_holding_1 (by decide) ?_
  refine lv_aload_n hx hb dL_holding_2 rfl (lv_at hl 0 rfl) ?_
  refine lv_iload_n hx hb dL_holding_3 rfl (lv_at hl 1 rfl) ?_
  refine lv_iload_n hx hb dL_holding_4 rfl (lv_at hl 2 rfl) ?_
  refine ro_callVT MC HS (rest := [.int 0, .ref (ad 30)]) (As := [.int s9, .int h9]) (q_holding hl9 hX hI) lkL_47 kw384 kw385 ⟨(Nat.le_of_ble_eq_true rfl), (Nat.le_of_ble_eq_true rfl)⟩ (ro_recv MC HP (hRR.l (by decide)) h0 (rfl : vwCl[5]? = some (RX6, TX6, 11))) hl.1 rfl (Nat.le_of_ble_eq_true rfl) dL_holding_5 ⟨(Nat.le_of_ble_eq_true rfl), (Nat.le_of_ble_eq_true rfl)⟩ (fun E9 ce9 q9 H9 l9 hp hz9 HS hcell hv9 hcl => ?_) (fun v9 H9 l9 hp hz9 HS => ?_)
  · obtain ⟨hg9, hp⟩ := hp
    rcases hp with ⟨hth, rfl⟩ | ⟨hth, rfl⟩
    · refine ro_catch MC hT 0 rfl ⟨by omega, by omega⟩ (by decide) kw115 (by decide +kernel) (fun j hj => absurd hj (by omega)) hcell hv9 hcl ?_
      refine lv_astore (lv' := [(4, .ref q9), (0, .ref (ad 0)), (1, .int s9), (2, .int h9), (3, .ref (ad 30))]) hx hb dL_holding_13 hl (by decide) rfl (fun ls hl => ?_)
      refine lv_iconst (v := 1) hx hb dL_holding_15 (by decide) ?_
      exact ro_iretM MC HS hr (⟨by rw [hth], fun h9 => absurd (hth.symm.trans h9) (by decide), fun _ => hg9⟩) (Nat.le_of_ble_eq_true rfl) (Nat.le_of_ble_eq_true rfl) dL_holding_16
    · refine ro_catch MC hT 1 rfl ⟨by omega, by omega⟩ (by decide) kw213 (by decide +kernel) (fun j hj q hq => by rcases j with _ | j; (· cases hq; exact ⟨by decide, _, kw115, by decide +kernel⟩); (· omega)) hcell hv9 hcl ?_
      refine lv_astore (lv' := [(4, .ref q9), (0, .ref (ad 0)), (1, .int s9), (2, .int h9), (3, .ref (ad 30))]) hx hb dL_holding_17 hl (by decide) rfl (fun ls hl => ?_)
      refine lv_iconst (v := 2) hx hb dL_holding_19 (by decide) ?_
      exact ro_iretM MC HS hr (⟨by rw [hth], fun h9 => absurd (hth.symm.trans h9) (by decide), fun _ => hg9⟩) (Nat.le_of_ble_eq_true rfl) (Nat.le_of_ble_eq_true rfl) dL_holding_20
  · obtain ⟨hth, rfl, RR1, ad1, cn1, nw1, ns1, nl1, nc1, hX1, hI1, had, hcn⟩ := hp
    have h31 : ad1 30 = ad 30 := had 30 (by omega)
    obtain ⟨HP1, hRR1, sa1, bm1, fm1, lf1, ff1, cf1, hx1⟩ := hX1
    refine lv_i2l hx hb dL_holding_8 rfl ?_
    refine ro_lastE MC HP1 HS h31 (hRR1.l (by decide)) ((hcn 30 (by omega) (by omega)).trans h30) (vp_in_nI (n := 0) (N := 1) (by omega) (by omega)) dL_holding_9 (fun H2 l2 HP2 HS => ?_)
    refine lv_goto (tgt := 21) hx hb dL_holding_10 (by decide) ?_
    refine lv_iconst (v := 0) hx hb dL_holding_21 (by decide) ?_
    exact ro_iretM MC HS hr (⟨by rw [hth], fun _ => ⟨RR1, ad1, _, nw1, ns1, nl1, nc1, ⟨HP2, hRR1, _, _, _, _, _, _, hx1.cg (fun r hr => va_up_ne _ _ (by omega))⟩, hI1, had, fun r h1 h2 h3 => (va_up_ne _ _ h3).trans (hcn r h1 h2), va_up_self ..⟩, fun h9 => absurd hth h9⟩) (Nat.le_of_ble_eq_true rfl) (Nat.le_of_ble_eq_true rfl) dL_holding_22
set_option maxHeartbeats 4000000 in
set_option maxRecDepth 100000 in
theorem w_hours {l : Launch} (hl9 : l.stackTraces = false) {D : va_G} {ids : Nat → ClassId} {n0 : Nat} {RR : List Nat} {ad : Nat → Nat} {cn : Nat → va_E} {τ : Tau} {ns nl nc : Nat} {Hh : Heap} (hX : xH D ids n0 RR ad cn τ ns nl nc Hh) {nw : Nat} (hI : Iv τ nw ns nl nc) {f9 : Int32} {out : Nat → Int64} (h30 : cn 30 = .inl (ids 2, 1, .inr (.inl out))) : ro_MW l yL_hours cL_hours 4 (some FieldType.int) [(0, 9, 12, 45)] { frames := 9, cells := 8, slots := 48, locals := 280 } D ids n0 [.ref (ad 0), .int f9, .ref (ad 30)] Hh (fun v H1 => v = some (.int (th_hours τ f9)) ∧ (th_hours τ f9 = 0 → wft D ids n0 ad cn (τ) (.inl (ids 2, 1, .inr (.inl (vp_updL out 0 (rt_hours τ f9).toInt64)))) H1) ∧ (¬ th_hours τ f9 = 0 → grow Hh H1)) := by
  refine ro_ofW (by decide +kernel) (Nat.le_of_ble_eq_true rfl) ?_
  intro p e s m below meth c MC hhp hr hT HS ls hl
  have hx := MC.1.1
  have hb := MC.1.2.1
  have hl : lv_has ls 4 [(0, .ref (ad 0)), (1, .int f9), (2, .ref (ad 30))] := hl
  obtain ⟨HP, hRR, sa, bm, fm, lf, ff, cf, h0, h1, h1b, h2, h2b, h7, h7b, h3, h3b, h40, h4, h4b, h60, h5, h6⟩ := id hX
  refine lv_aload_n hx hb dL_hours_0 rfl (lv_at hl 2 rfl) ?_
  refine lv_iconst (v := 0) hx hb dL_hours_1 (by decide) ?_
  refine lv_aload_n hx hb dL_hours_2 rfl (lv_at hl 0 rfl) ?_
  refine lv_iload_n hx hb dL_hours_3 rfl (lv_at hl 1 rfl) ?_
  refine ro_callVT MC HS (rest := [.int 0, .ref (ad 30)]) (As := [.int f9]) (q_hours hl9 hX hI) lkL_50 kw431 kw432 ⟨(Nat.le_of_ble_eq_true rfl), (Nat.le_of_ble_eq_true rfl)⟩ (ro_recv MC HP (hRR.l (by decide)) h0 (rfl : vwCl[5]? = some (RX6, TX6, 11))) hl.1 rfl (Nat.le_of_ble_eq_true rfl) dL_hours_4 ⟨(Nat.le_of_ble_eq_true rfl), (Nat.le_of_ble_eq_true rfl)⟩ (fun E9 ce9 q9 H9 l9 hp hz9 HS hcell hv9 hcl => ?_) (fun v9 H9 l9 hp hz9 HS => ?_)
  · obtain ⟨hg9, hp⟩ := hp
    obtain ⟨hth, rfl⟩ := hp
    refine ro_catch MC hT 0 rfl ⟨by omega, by omega⟩ (by decide) kw355 (by decide +kernel) (fun j hj => absurd hj (by omega)) hcell hv9 hcl ?_
    refine lv_astore_n (lv' := [(3, .ref q9), (0, .ref (ad 0)), (1, .int f9), (2, .ref (ad 30))]) hx hb dL_hours_12 rfl hl (by decide) rfl (fun ls hl => ?_)
    refine lv_iconst (v := 1) hx hb dL_hours_13 (by decide) ?_
    exact ro_iretM MC HS hr (⟨by rw [hth], fun h9 => absurd (hth.symm.trans h9) (by decide), fun _ => hg9⟩) (Nat.le_of_ble_eq_true rfl) (Nat.le_of_ble_eq_true rfl) dL_hours_14
  · obtain ⟨hth, rfl, RR1, ad1, cn1, nw1, ns1, nl1, nc1, hX1, hI1, had, hcn⟩ := hp
    have h31 : ad1 30 = ad 30 := had 30 (by omega)
    obtain ⟨HP1, hRR1, sa1, bm1, fm1, lf1, ff1, cf1, hx1⟩ := hX1
    refine lv_i2l hx hb dL_hours_7 rfl ?_
    refine ro_lastE MC HP1 HS h31 (hRR1.l (by decide)) ((hcn 30 (by omega) (by omega)).trans h30) (vp_in_nI (n := 0) (N := 1) (by omega) (by omega)) dL_hours_8 (fun H2 l2 HP2 HS => ?_)
    refine lv_goto (tgt := 15) hx hb dL_hours_9 (by decide) ?_
    refine lv_iconst (v := 0) hx hb dL_hours_15 (by decide) ?_
    exact ro_iretM MC HS hr (⟨by rw [hth], fun _ => ⟨RR1, ad1, _, nw1, ns1, nl1, nc1, ⟨HP2, hRR1, _, _, _, _, _, _, hx1.cg (fun r hr => va_up_ne _ _ (by omega))⟩, hI1, had, fun r h1 h2 h3 => (va_up_ne _ _ h3).trans (hcn r h1 h2), va_up_self ..⟩, fun h9 => absurd hth h9⟩) (Nat.le_of_ble_eq_true rfl) (Nat.le_of_ble_eq_true rfl) dL_hours_16
set_option maxHeartbeats 4000000 in
set_option maxRecDepth 100000 in
theorem w_nextSpan {l : Launch} (hl9 : l.stackTraces = false) {D : va_G} {ids : Nat → ClassId} {n0 : Nat} {RR : List Nat} {ad : Nat → Nat} {cn : Nat → va_E} {τ : Tau} {ns nl nc : Nat} {Hh : Heap} (hX : xH D ids n0 RR ad cn τ ns nl nc Hh) {nw : Nat} (hI : Iv τ nw ns nl nc) {s9 f9 n9 : Int32} {out : Nat → Int64} (h30 : cn 30 = .inl (ids 2, 1, .inr (.inl out))) : ro_MW l yL_nextSpan cL_nextSpan 6 (some FieldType.int) [(0, 12, 15, 13), (0, 12, 19, 21)] { frames := 9, cells := 8, slots := 48, locals := 280 } D ids n0 [.ref (ad 0), .int s9, .int f9, .int n9, .ref (ad 30)] Hh (fun v H1 => v = some (.int (th_nextSpan τ s9 f9 n9)) ∧ (th_nextSpan τ s9 f9 n9 = 0 → wft D ids n0 ad cn (τ) (.inl (ids 2, 1, .inr (.inl (vp_updL out 0 (rt_nextSpan τ s9 f9 n9).toInt64)))) H1) ∧ (¬ th_nextSpan τ s9 f9 n9 = 0 → grow Hh H1)) := by
  refine ro_ofW (by decide +kernel) (Nat.le_of_ble_eq_true rfl) ?_
  intro p e s m below meth c MC hhp hr hT HS ls hl
  have hx := MC.1.1
  have hb := MC.1.2.1
  have hl : lv_has ls 6 [(0, .ref (ad 0)), (1, .int s9), (2, .int f9), (3, .int n9), (4, .ref (ad 30))] := hl
  obtain ⟨HP, hRR, sa, bm, fm, lf, ff, cf, h0, h1, h1b, h2, h2b, h7, h7b, h3, h3b, h40, h4, h4b, h60, h5, h6⟩ := id hX
  refine lv_aload hx hb dL_nextSpan_0 (lv_at hl 4 rfl) ?_
  refine lv_iconst (v := 0) hx hb dL_nextSpan_2 (by decide) ?_
  refine lv_aload_n hx hb dL_nextSpan_3 rfl (lv_at hl 0 rfl) ?_
  refine lv_iload_n hx hb dL_nextSpan_4 rfl (lv_at hl 1 rfl) ?_
  refine lv_iload_n hx hb dL_nextSpan_5 rfl (lv_at hl 2 rfl) ?_
  refine lv_iload_n hx hb dL_nextSpan_6 rfl (lv_at hl 3 rfl) ?_
  refine ro_callVT MC HS (rest := [.int 0, .ref (ad 30)]) (As := [.int s9, .int f9, .int n9]) (q_nextSpan hl9 hX hI) lkL_53 kw438 kw439 ⟨(Nat.le_of_ble_eq_true rfl), (Nat.le_of_ble_eq_true rfl)⟩ (ro_recv MC HP (hRR.l (by decide)) h0 (rfl : vwCl[5]? = some (RX6, TX6, 11))) hl.1 rfl (Nat.le_of_ble_eq_true rfl) dL_nextSpan_7 ⟨(Nat.le_of_ble_eq_true rfl), (Nat.le_of_ble_eq_true rfl)⟩ (fun E9 ce9 q9 H9 l9 hp hz9 HS hcell hv9 hcl => ?_) (fun v9 H9 l9 hp hz9 HS => ?_)
  · obtain ⟨hg9, hp⟩ := hp
    rcases hp with ⟨hth, rfl⟩ | ⟨hth, rfl⟩
    · refine ro_catch MC hT 0 rfl ⟨by omega, by omega⟩ (by decide) kw115 (by decide +kernel) (fun j hj => absurd hj (by omega)) hcell hv9 hcl ?_
      refine lv_astore (lv' := [(5, .ref q9), (0, .ref (ad 0)), (1, .int s9), (2, .int f9), (3, .int n9), (4, .ref (ad 30))]) hx hb dL_nextSpan_15 hl (by decide) rfl (fun ls hl => ?_)
      refine lv_iconst (v := 1) hx hb dL_nextSpan_17 (by decide) ?_
      exact ro_iretM MC HS hr (⟨by rw [hth], fun h9 => absurd (hth.symm.trans h9) (by decide), fun _ => hg9⟩) (Nat.le_of_ble_eq_true rfl) (Nat.le_of_ble_eq_true rfl) dL_nextSpan_18
    · refine ro_catch MC hT 1 rfl ⟨by omega, by omega⟩ (by decide) kw213 (by decide +kernel) (fun j hj q hq => by rcases j with _ | j; (· cases hq; exact ⟨by decide, _, kw115, by decide +kernel⟩); (· omega)) hcell hv9 hcl ?_
      refine lv_astore (lv' := [(5, .ref q9), (0, .ref (ad 0)), (1, .int s9), (2, .int f9), (3, .int n9), (4, .ref (ad 30))]) hx hb dL_nextSpan_19 hl (by decide) rfl (fun ls hl => ?_)
      refine lv_iconst (v := 2) hx hb dL_nextSpan_21 (by decide) ?_
      exact ro_iretM MC HS hr (⟨by rw [hth], fun h9 => absurd (hth.symm.trans h9) (by decide), fun _ => hg9⟩) (Nat.le_of_ble_eq_true rfl) (Nat.le_of_ble_eq_true rfl) dL_nextSpan_22
  · obtain ⟨hth, rfl, RR1, ad1, cn1, nw1, ns1, nl1, nc1, hX1, hI1, had, hcn⟩ := hp
    have h31 : ad1 30 = ad 30 := had 30 (by omega)
    obtain ⟨HP1, hRR1, sa1, bm1, fm1, lf1, ff1, cf1, hx1⟩ := hX1
    refine lv_i2l hx hb dL_nextSpan_10 rfl ?_
    refine ro_lastE MC HP1 HS h31 (hRR1.l (by decide)) ((hcn 30 (by omega) (by omega)).trans h30) (vp_in_nI (n := 0) (N := 1) (by omega) (by omega)) dL_nextSpan_11 (fun H2 l2 HP2 HS => ?_)
    refine lv_goto (tgt := 23) hx hb dL_nextSpan_12 (by decide) ?_
    refine lv_iconst (v := 0) hx hb dL_nextSpan_23 (by decide) ?_
    exact ro_iretM MC HS hr (⟨by rw [hth], fun _ => ⟨RR1, ad1, _, nw1, ns1, nl1, nc1, ⟨HP2, hRR1, _, _, _, _, _, _, hx1.cg (fun r hr => va_up_ne _ _ (by omega))⟩, hI1, had, fun r h1 h2 h3 => (va_up_ne _ _ h3).trans (hcn r h1 h2), va_up_self ..⟩, fun h9 => absurd hth h9⟩) (Nat.le_of_ble_eq_true rfl) (Nat.le_of_ble_eq_true rfl) dL_nextSpan_24
set_option maxHeartbeats 4000000 in
set_option maxRecDepth 100000 in
theorem w_plan {l : Launch} (hl9 : l.stackTraces = false) {D : va_G} {ids : Nat → ClassId} {n0 : Nat} {RR : List Nat} {ad : Nat → Nat} {cn : Nat → va_E} {τ : Tau} {ns nl nc : Nat} {Hh : Heap} (hX : xH D ids n0 RR ad cn τ ns nl nc Hh) {nw : Nat} (hI : Iv τ nw ns nl nc) {s9 f9 n9 r9 : Int32} {out : Nat → Int64} (h30 : cn 30 = .inl (ids 2, 1, .inr (.inl out))) : ro_MW l yL_plan cL_plan 7 (some FieldType.int) [(0, 14, 17, 13), (0, 14, 21, 21), (0, 14, 25, 15)] { frames := 9, cells := 8, slots := 48, locals := 280 } D ids n0 [.ref (ad 0), .int s9, .int f9, .int n9, .int r9, .ref (ad 30)] Hh (fun v H1 => v = some (.int (th_plan τ s9 f9 n9 r9)) ∧ (th_plan τ s9 f9 n9 r9 = 0 → wft D ids n0 ad cn (nx_plan τ s9 f9 n9 r9) (.inl (ids 2, 1, .inr (.inl (vp_updL out 0 (rt_plan τ s9 f9 n9 r9).toInt64)))) H1) ∧ (¬ th_plan τ s9 f9 n9 r9 = 0 → grow Hh H1)) := by
  refine ro_ofW (by decide +kernel) (Nat.le_of_ble_eq_true rfl) ?_
  intro p e s m below meth c MC hhp hr hT HS ls hl
  have hx := MC.1.1
  have hb := MC.1.2.1
  have hl : lv_has ls 7 [(0, .ref (ad 0)), (1, .int s9), (2, .int f9), (3, .int n9), (4, .int r9), (5, .ref (ad 30))] := hl
  obtain ⟨HP, hRR, sa, bm, fm, lf, ff, cf, h0, h1, h1b, h2, h2b, h7, h7b, h3, h3b, h40, h4, h4b, h60, h5, h6⟩ := id hX
  refine lv_aload hx hb dL_plan_0 (lv_at hl 5 rfl) ?_
  refine lv_iconst (v := 0) hx hb dL_plan_2 (by decide) ?_
  refine lv_aload_n hx hb dL_plan_3 rfl (lv_at hl 0 rfl) ?_
  refine lv_iload_n hx hb dL_plan_4 rfl (lv_at hl 1 rfl) ?_
  refine lv_iload_n hx hb dL_plan_5 rfl (lv_at hl 2 rfl) ?_
  refine lv_iload_n hx hb dL_plan_6 rfl (lv_at hl 3 rfl) ?_
  refine lv_iload hx hb dL_plan_7 (lv_at hl 4 rfl) ?_
  refine ro_callVT MC HS (rest := [.int 0, .ref (ad 30)]) (As := [.int s9, .int f9, .int n9, .int r9]) (q_plan hl9 hX hI) lkL_56 kw445 kw446 ⟨(Nat.le_of_ble_eq_true rfl), (Nat.le_of_ble_eq_true rfl)⟩ (ro_recv MC HP (hRR.l (by decide)) h0 (rfl : vwCl[5]? = some (RX6, TX6, 11))) hl.1 rfl (Nat.le_of_ble_eq_true rfl) dL_plan_9 ⟨(Nat.le_of_ble_eq_true rfl), (Nat.le_of_ble_eq_true rfl)⟩ (fun E9 ce9 q9 H9 l9 hp hz9 HS hcell hv9 hcl => ?_) (fun v9 H9 l9 hp hz9 HS => ?_)
  · obtain ⟨hg9, hp⟩ := hp
    rcases hp with ⟨hth, rfl⟩ | ⟨hth, rfl⟩ | ⟨hth, rfl⟩
    · refine ro_catch MC hT 0 rfl ⟨by omega, by omega⟩ (by decide) kw115 (by decide +kernel) (fun j hj => absurd hj (by omega)) hcell hv9 hcl ?_
      refine lv_astore (lv' := [(6, .ref q9), (0, .ref (ad 0)), (1, .int s9), (2, .int f9), (3, .int n9), (4, .int r9), (5, .ref (ad 30))]) hx hb dL_plan_17 hl (by decide) rfl (fun ls hl => ?_)
      refine lv_iconst (v := 1) hx hb dL_plan_19 (by decide) ?_
      exact ro_iretM MC HS hr (⟨by rw [hth], fun h9 => absurd (hth.symm.trans h9) (by decide), fun _ => hg9⟩) (Nat.le_of_ble_eq_true rfl) (Nat.le_of_ble_eq_true rfl) dL_plan_20
    · refine ro_catch MC hT 1 rfl ⟨by omega, by omega⟩ (by decide) kw213 (by decide +kernel) (fun j hj q hq => by rcases j with _ | j; (· cases hq; exact ⟨by decide, _, kw115, by decide +kernel⟩); (· omega)) hcell hv9 hcl ?_
      refine lv_astore (lv' := [(6, .ref q9), (0, .ref (ad 0)), (1, .int s9), (2, .int f9), (3, .int n9), (4, .int r9), (5, .ref (ad 30))]) hx hb dL_plan_21 hl (by decide) rfl (fun ls hl => ?_)
      refine lv_iconst (v := 2) hx hb dL_plan_23 (by decide) ?_
      exact ro_iretM MC HS hr (⟨by rw [hth], fun h9 => absurd (hth.symm.trans h9) (by decide), fun _ => hg9⟩) (Nat.le_of_ble_eq_true rfl) (Nat.le_of_ble_eq_true rfl) dL_plan_24
    · refine ro_catch MC hT 2 rfl ⟨by omega, by omega⟩ (by decide) kw116 (by decide +kernel) (fun j hj q hq => by rcases j with _ | _ | j; (· cases hq; exact ⟨by decide, _, kw115, by decide +kernel⟩); (· cases hq; exact ⟨by decide, _, kw213, by decide +kernel⟩); (· omega)) hcell hv9 hcl ?_
      refine lv_astore (lv' := [(6, .ref q9), (0, .ref (ad 0)), (1, .int s9), (2, .int f9), (3, .int n9), (4, .int r9), (5, .ref (ad 30))]) hx hb dL_plan_25 hl (by decide) rfl (fun ls hl => ?_)
      refine lv_iconst (v := 3) hx hb dL_plan_27 (by decide) ?_
      exact ro_iretM MC HS hr (⟨by rw [hth], fun h9 => absurd (hth.symm.trans h9) (by decide), fun _ => hg9⟩) (Nat.le_of_ble_eq_true rfl) (Nat.le_of_ble_eq_true rfl) dL_plan_28
  · obtain ⟨hth, rfl, RR1, ad1, cn1, nw1, ns1, nl1, nc1, hX1, hI1, had, hcn⟩ := hp
    have h31 : ad1 30 = ad 30 := had 30 (by omega)
    obtain ⟨HP1, hRR1, sa1, bm1, fm1, lf1, ff1, cf1, hx1⟩ := hX1
    refine lv_i2l hx hb dL_plan_12 rfl ?_
    refine ro_lastE MC HP1 HS h31 (hRR1.l (by decide)) ((hcn 30 (by omega) (by omega)).trans h30) (vp_in_nI (n := 0) (N := 1) (by omega) (by omega)) dL_plan_13 (fun H2 l2 HP2 HS => ?_)
    refine lv_goto (tgt := 29) hx hb dL_plan_14 (by decide) ?_
    refine lv_iconst (v := 0) hx hb dL_plan_29 (by decide) ?_
    exact ro_iretM MC HS hr (⟨by rw [hth], fun _ => ⟨RR1, ad1, _, nw1, ns1, nl1, nc1, ⟨HP2, hRR1, _, _, _, _, _, _, hx1.cg (fun r hr => va_up_ne _ _ (by omega))⟩, hI1, had, fun r h1 h2 h3 => (va_up_ne _ _ h3).trans (hcn r h1 h2), va_up_self ..⟩, fun h9 => absurd hth h9⟩) (Nat.le_of_ble_eq_true rfl) (Nat.le_of_ble_eq_true rfl) dL_plan_30
set_option maxHeartbeats 4000000 in
set_option maxRecDepth 100000 in
theorem w_move {l : Launch} (hl9 : l.stackTraces = false) {D : va_G} {ids : Nat → ClassId} {n0 : Nat} {RR : List Nat} {ad : Nat → Nat} {cn : Nat → va_E} {τ : Tau} {ns nl nc : Nat} {Hh : Heap} (hX : xH D ids n0 RR ad cn τ ns nl nc Hh) {nw : Nat} (hI : Iv τ nw ns nl nc) {c9 f9 : Int32} {out : Nat → Int64} (h30 : cn 30 = .inl (ids 2, 1, .inr (.inl out))) : ro_MW l yL_move cL_move 5 (some FieldType.int) [(0, 10, 13, 13), (0, 10, 17, 21), (0, 10, 21, 15)] { frames := 9, cells := 8, slots := 48, locals := 280 } D ids n0 [.ref (ad 0), .int c9, .int f9, .ref (ad 30)] Hh (fun v H1 => v = some (.int (th_move τ c9 f9)) ∧ (th_move τ c9 f9 = 0 → wft D ids n0 ad cn (nx_move τ c9 f9) (.inl (ids 2, 1, .inr (.inl (vp_updL out 0 (rt_move τ c9 f9).toInt64)))) H1) ∧ (¬ th_move τ c9 f9 = 0 → grow Hh H1)) := by
  refine ro_ofW (by decide +kernel) (Nat.le_of_ble_eq_true rfl) ?_
  intro p e s m below meth c MC hhp hr hT HS ls hl
  have hx := MC.1.1
  have hb := MC.1.2.1
  have hl : lv_has ls 5 [(0, .ref (ad 0)), (1, .int c9), (2, .int f9), (3, .ref (ad 30))] := hl
  obtain ⟨HP, hRR, sa, bm, fm, lf, ff, cf, h0, h1, h1b, h2, h2b, h7, h7b, h3, h3b, h40, h4, h4b, h60, h5, h6⟩ := id hX
  refine lv_aload_n hx hb dL_move_0 rfl (lv_at hl 3 rfl) ?_
  refine lv_iconst (v := 0) hx hb dL_move_1 (by decide) ?_
  refine lv_aload_n hx hb dL_move_2 rfl (lv_at hl 0 rfl) ?_
  refine lv_iload_n hx hb dL_move_3 rfl (lv_at hl 1 rfl) ?_
  refine lv_iload_n hx hb dL_move_4 rfl (lv_at hl 2 rfl) ?_
  refine ro_callVT MC HS (rest := [.int 0, .ref (ad 30)]) (As := [.int c9, .int f9]) (q_move hl9 hX hI) lkL_59 kw488 kw489 ⟨(Nat.le_of_ble_eq_true rfl), (Nat.le_of_ble_eq_true rfl)⟩ (ro_recv MC HP (hRR.l (by decide)) h0 (rfl : vwCl[5]? = some (RX6, TX6, 11))) hl.1 rfl (Nat.le_of_ble_eq_true rfl) dL_move_5 ⟨(Nat.le_of_ble_eq_true rfl), (Nat.le_of_ble_eq_true rfl)⟩ (fun E9 ce9 q9 H9 l9 hp hz9 HS hcell hv9 hcl => ?_) (fun v9 H9 l9 hp hz9 HS => ?_)
  · obtain ⟨hg9, hp⟩ := hp
    rcases hp with ⟨hth, rfl⟩ | ⟨hth, rfl⟩ | ⟨hth, rfl⟩
    · refine ro_catch MC hT 0 rfl ⟨by omega, by omega⟩ (by decide) kw115 (by decide +kernel) (fun j hj => absurd hj (by omega)) hcell hv9 hcl ?_
      refine lv_astore (lv' := [(4, .ref q9), (0, .ref (ad 0)), (1, .int c9), (2, .int f9), (3, .ref (ad 30))]) hx hb dL_move_13 hl (by decide) rfl (fun ls hl => ?_)
      refine lv_iconst (v := 1) hx hb dL_move_15 (by decide) ?_
      exact ro_iretM MC HS hr (⟨by rw [hth], fun h9 => absurd (hth.symm.trans h9) (by decide), fun _ => hg9⟩) (Nat.le_of_ble_eq_true rfl) (Nat.le_of_ble_eq_true rfl) dL_move_16
    · refine ro_catch MC hT 1 rfl ⟨by omega, by omega⟩ (by decide) kw213 (by decide +kernel) (fun j hj q hq => by rcases j with _ | j; (· cases hq; exact ⟨by decide, _, kw115, by decide +kernel⟩); (· omega)) hcell hv9 hcl ?_
      refine lv_astore (lv' := [(4, .ref q9), (0, .ref (ad 0)), (1, .int c9), (2, .int f9), (3, .ref (ad 30))]) hx hb dL_move_17 hl (by decide) rfl (fun ls hl => ?_)
      refine lv_iconst (v := 2) hx hb dL_move_19 (by decide) ?_
      exact ro_iretM MC HS hr (⟨by rw [hth], fun h9 => absurd (hth.symm.trans h9) (by decide), fun _ => hg9⟩) (Nat.le_of_ble_eq_true rfl) (Nat.le_of_ble_eq_true rfl) dL_move_20
    · refine ro_catch MC hT 2 rfl ⟨by omega, by omega⟩ (by decide) kw116 (by decide +kernel) (fun j hj q hq => by rcases j with _ | _ | j; (· cases hq; exact ⟨by decide, _, kw115, by decide +kernel⟩); (· cases hq; exact ⟨by decide, _, kw213, by decide +kernel⟩); (· omega)) hcell hv9 hcl ?_
      refine lv_astore (lv' := [(4, .ref q9), (0, .ref (ad 0)), (1, .int c9), (2, .int f9), (3, .ref (ad 30))]) hx hb dL_move_21 hl (by decide) rfl (fun ls hl => ?_)
      refine lv_iconst (v := 3) hx hb dL_move_23 (by decide) ?_
      exact ro_iretM MC HS hr (⟨by rw [hth], fun h9 => absurd (hth.symm.trans h9) (by decide), fun _ => hg9⟩) (Nat.le_of_ble_eq_true rfl) (Nat.le_of_ble_eq_true rfl) dL_move_24
  · obtain ⟨hth, rfl, RR1, ad1, cn1, nw1, ns1, nl1, nc1, hX1, hI1, had, hcn⟩ := hp
    have h31 : ad1 30 = ad 30 := had 30 (by omega)
    obtain ⟨HP1, hRR1, sa1, bm1, fm1, lf1, ff1, cf1, hx1⟩ := hX1
    refine lv_i2l hx hb dL_move_8 rfl ?_
    refine ro_lastE MC HP1 HS h31 (hRR1.l (by decide)) ((hcn 30 (by omega) (by omega)).trans h30) (vp_in_nI (n := 0) (N := 1) (by omega) (by omega)) dL_move_9 (fun H2 l2 HP2 HS => ?_)
    refine lv_goto (tgt := 25) hx hb dL_move_10 (by decide) ?_
    refine lv_iconst (v := 0) hx hb dL_move_25 (by decide) ?_
    exact ro_iretM MC HS hr (⟨by rw [hth], fun _ => ⟨RR1, ad1, _, nw1, ns1, nl1, nc1, ⟨HP2, hRR1, _, _, _, _, _, _, hx1.cg (fun r hr => va_up_ne _ _ (by omega))⟩, hI1, had, fun r h1 h2 h3 => (va_up_ne _ _ h3).trans (hcn r h1 h2), va_up_self ..⟩, fun h9 => absurd hth h9⟩) (Nat.le_of_ble_eq_true rfl) (Nat.le_of_ble_eq_true rfl) dL_move_26
set_option maxHeartbeats 4000000 in
set_option maxRecDepth 100000 in
theorem w_approve {l : Launch} (hl9 : l.stackTraces = false) {D : va_G} {ids : Nat → ClassId} {n0 : Nat} {RR : List Nat} {ad : Nat → Nat} {cn : Nat → va_E} {τ : Tau} {ns nl nc : Nat} {Hh : Heap} (hX : xH D ids n0 RR ad cn τ ns nl nc Hh) {nw : Nat} (hI : Iv τ nw ns nl nc) {c9 : Int32} {out : Nat → Int64} (h30 : cn 30 = .inl (ids 2, 1, .inr (.inl out))) : ro_MW l yL_approve cL_approve 4 (some FieldType.int) [(0, 9, 12, 13), (0, 9, 15, 15)] { frames := 9, cells := 8, slots := 48, locals := 280 } D ids n0 [.ref (ad 0), .int c9, .ref (ad 30)] Hh (fun v H1 => v = some (.int (th_approve τ c9)) ∧ (th_approve τ c9 = 0 → wft D ids n0 ad cn (nx_approve τ c9) (.inl (ids 2, 1, .inr (.inl (vp_updL out 0 (rt_approve τ c9).toInt64)))) H1) ∧ (¬ th_approve τ c9 = 0 → grow Hh H1)) := by
  refine ro_ofW (by decide +kernel) (Nat.le_of_ble_eq_true rfl) ?_
  intro p e s m below meth c MC hhp hr hT HS ls hl
  have hx := MC.1.1
  have hb := MC.1.2.1
  have hl : lv_has ls 4 [(0, .ref (ad 0)), (1, .int c9), (2, .ref (ad 30))] := hl
  obtain ⟨HP, hRR, sa, bm, fm, lf, ff, cf, h0, h1, h1b, h2, h2b, h7, h7b, h3, h3b, h40, h4, h4b, h60, h5, h6⟩ := id hX
  refine lv_aload_n hx hb dL_approve_0 rfl (lv_at hl 2 rfl) ?_
  refine lv_iconst (v := 0) hx hb dL_approve_1 (by decide) ?_
  refine lv_aload_n hx hb dL_approve_2 rfl (lv_at hl 0 rfl) ?_
  refine lv_iload_n hx hb dL_approve_3 rfl (lv_at hl 1 rfl) ?_
  refine ro_callVT MC HS (rest := [.int 0, .ref (ad 30)]) (As := [.int c9]) (q_approve hl9 hX hI) lkL_62 kw520 kw521 ⟨(Nat.le_of_ble_eq_true rfl), (Nat.le_of_ble_eq_true rfl)⟩ (ro_recv MC HP (hRR.l (by decide)) h0 (rfl : vwCl[5]? = some (RX6, TX6, 11))) hl.1 rfl (Nat.le_of_ble_eq_true rfl) dL_approve_4 ⟨(Nat.le_of_ble_eq_true rfl), (Nat.le_of_ble_eq_true rfl)⟩ (fun E9 ce9 q9 H9 l9 hp hz9 HS hcell hv9 hcl => ?_) (fun v9 H9 l9 hp hz9 HS => ?_)
  · obtain ⟨hg9, hp⟩ := hp
    rcases hp with ⟨hth, rfl⟩ | ⟨hth, rfl⟩
    · refine ro_catch MC hT 0 rfl ⟨by omega, by omega⟩ (by decide) kw115 (by decide +kernel) (fun j hj => absurd hj (by omega)) hcell hv9 hcl ?_
      refine lv_astore_n (lv' := [(3, .ref q9), (0, .ref (ad 0)), (1, .int c9), (2, .ref (ad 30))]) hx hb dL_approve_12 rfl hl (by decide) rfl (fun ls hl => ?_)
      refine lv_iconst (v := 1) hx hb dL_approve_13 (by decide) ?_
      exact ro_iretM MC HS hr (⟨by rw [hth], fun h9 => absurd (hth.symm.trans h9) (by decide), fun _ => hg9⟩) (Nat.le_of_ble_eq_true rfl) (Nat.le_of_ble_eq_true rfl) dL_approve_14
    · refine ro_catch MC hT 1 rfl ⟨by omega, by omega⟩ (by decide) kw116 (by decide +kernel) (fun j hj q hq => by rcases j with _ | j; (· cases hq; exact ⟨by decide, _, kw115, by decide +kernel⟩); (· omega)) hcell hv9 hcl ?_
      refine lv_astore_n (lv' := [(3, .ref q9), (0, .ref (ad 0)), (1, .int c9), (2, .ref (ad 30))]) hx hb dL_approve_15 rfl hl (by decide) rfl (fun ls hl => ?_)
      refine lv_iconst (v := 2) hx hb dL_approve_16 (by decide) ?_
      exact ro_iretM MC HS hr (⟨by rw [hth], fun h9 => absurd (hth.symm.trans h9) (by decide), fun _ => hg9⟩) (Nat.le_of_ble_eq_true rfl) (Nat.le_of_ble_eq_true rfl) dL_approve_17
  · obtain ⟨hth, rfl, RR1, ad1, cn1, nw1, ns1, nl1, nc1, hX1, hI1, had, hcn⟩ := hp
    have h31 : ad1 30 = ad 30 := had 30 (by omega)
    obtain ⟨HP1, hRR1, sa1, bm1, fm1, lf1, ff1, cf1, hx1⟩ := hX1
    refine lv_i2l hx hb dL_approve_7 rfl ?_
    refine ro_lastE MC HP1 HS h31 (hRR1.l (by decide)) ((hcn 30 (by omega) (by omega)).trans h30) (vp_in_nI (n := 0) (N := 1) (by omega) (by omega)) dL_approve_8 (fun H2 l2 HP2 HS => ?_)
    refine lv_goto (tgt := 18) hx hb dL_approve_9 (by decide) ?_
    refine lv_iconst (v := 0) hx hb dL_approve_18 (by decide) ?_
    exact ro_iretM MC HS hr (⟨by rw [hth], fun _ => ⟨RR1, ad1, _, nw1, ns1, nl1, nc1, ⟨HP2, hRR1, _, _, _, _, _, _, hx1.cg (fun r hr => va_up_ne _ _ (by omega))⟩, hI1, had, fun r h1 h2 h3 => (va_up_ne _ _ h3).trans (hcn r h1 h2), va_up_self ..⟩, fun h9 => absurd hth h9⟩) (Nat.le_of_ble_eq_true rfl) (Nat.le_of_ble_eq_true rfl) dL_approve_19
set_option maxHeartbeats 4000000 in
set_option maxRecDepth 100000 in
theorem w_begin {l : Launch} (hl9 : l.stackTraces = false) {D : va_G} {ids : Nat → ClassId} {n0 : Nat} {RR : List Nat} {ad : Nat → Nat} {cn : Nat → va_E} {τ : Tau} {ns nl nc : Nat} {Hh : Heap} (hX : xH D ids n0 RR ad cn τ ns nl nc Hh) {nw : Nat} (hI : Iv τ nw ns nl nc) {c9 : Int32} {out : Nat → Int64} (h30 : cn 30 = .inl (ids 2, 1, .inr (.inl out))) : ro_MW l yL_begin cL_begin 4 (some FieldType.int) [(0, 9, 12, 13), (0, 9, 15, 15)] { frames := 9, cells := 8, slots := 48, locals := 280 } D ids n0 [.ref (ad 0), .int c9, .ref (ad 30)] Hh (fun v H1 => v = some (.int (th_begin τ c9)) ∧ (th_begin τ c9 = 0 → wft D ids n0 ad cn (nx_begin τ c9) (.inl (ids 2, 1, .inr (.inl (vp_updL out 0 (rt_begin τ c9).toInt64)))) H1) ∧ (¬ th_begin τ c9 = 0 → grow Hh H1)) := by
  refine ro_ofW (by decide +kernel) (Nat.le_of_ble_eq_true rfl) ?_
  intro p e s m below meth c MC hhp hr hT HS ls hl
  have hx := MC.1.1
  have hb := MC.1.2.1
  have hl : lv_has ls 4 [(0, .ref (ad 0)), (1, .int c9), (2, .ref (ad 30))] := hl
  obtain ⟨HP, hRR, sa, bm, fm, lf, ff, cf, h0, h1, h1b, h2, h2b, h7, h7b, h3, h3b, h40, h4, h4b, h60, h5, h6⟩ := id hX
  refine lv_aload_n hx hb dL_begin_0 rfl (lv_at hl 2 rfl) ?_
  refine lv_iconst (v := 0) hx hb dL_begin_1 (by decide) ?_
  refine lv_aload_n hx hb dL_begin_2 rfl (lv_at hl 0 rfl) ?_
  refine lv_iload_n hx hb dL_begin_3 rfl (lv_at hl 1 rfl) ?_
  refine ro_callVT MC HS (rest := [.int 0, .ref (ad 30)]) (As := [.int c9]) (q_begin hl9 hX hI) lkL_65 kw528 kw529 ⟨(Nat.le_of_ble_eq_true rfl), (Nat.le_of_ble_eq_true rfl)⟩ (ro_recv MC HP (hRR.l (by decide)) h0 (rfl : vwCl[5]? = some (RX6, TX6, 11))) hl.1 rfl (Nat.le_of_ble_eq_true rfl) dL_begin_4 ⟨(Nat.le_of_ble_eq_true rfl), (Nat.le_of_ble_eq_true rfl)⟩ (fun E9 ce9 q9 H9 l9 hp hz9 HS hcell hv9 hcl => ?_) (fun v9 H9 l9 hp hz9 HS => ?_)
  · obtain ⟨hg9, hp⟩ := hp
    rcases hp with ⟨hth, rfl⟩ | ⟨hth, rfl⟩
    · refine ro_catch MC hT 0 rfl ⟨by omega, by omega⟩ (by decide) kw115 (by decide +kernel) (fun j hj => absurd hj (by omega)) hcell hv9 hcl ?_
      refine lv_astore_n (lv' := [(3, .ref q9), (0, .ref (ad 0)), (1, .int c9), (2, .ref (ad 30))]) hx hb dL_begin_12 rfl hl (by decide) rfl (fun ls hl => ?_)
      refine lv_iconst (v := 1) hx hb dL_begin_13 (by decide) ?_
      exact ro_iretM MC HS hr (⟨by rw [hth], fun h9 => absurd (hth.symm.trans h9) (by decide), fun _ => hg9⟩) (Nat.le_of_ble_eq_true rfl) (Nat.le_of_ble_eq_true rfl) dL_begin_14
    · refine ro_catch MC hT 1 rfl ⟨by omega, by omega⟩ (by decide) kw116 (by decide +kernel) (fun j hj q hq => by rcases j with _ | j; (· cases hq; exact ⟨by decide, _, kw115, by decide +kernel⟩); (· omega)) hcell hv9 hcl ?_
      refine lv_astore_n (lv' := [(3, .ref q9), (0, .ref (ad 0)), (1, .int c9), (2, .ref (ad 30))]) hx hb dL_begin_15 rfl hl (by decide) rfl (fun ls hl => ?_)
      refine lv_iconst (v := 2) hx hb dL_begin_16 (by decide) ?_
      exact ro_iretM MC HS hr (⟨by rw [hth], fun h9 => absurd (hth.symm.trans h9) (by decide), fun _ => hg9⟩) (Nat.le_of_ble_eq_true rfl) (Nat.le_of_ble_eq_true rfl) dL_begin_17
  · obtain ⟨hth, rfl, RR1, ad1, cn1, nw1, ns1, nl1, nc1, hX1, hI1, had, hcn⟩ := hp
    have h31 : ad1 30 = ad 30 := had 30 (by omega)
    obtain ⟨HP1, hRR1, sa1, bm1, fm1, lf1, ff1, cf1, hx1⟩ := hX1
    refine lv_i2l hx hb dL_begin_7 rfl ?_
    refine ro_lastE MC HP1 HS h31 (hRR1.l (by decide)) ((hcn 30 (by omega) (by omega)).trans h30) (vp_in_nI (n := 0) (N := 1) (by omega) (by omega)) dL_begin_8 (fun H2 l2 HP2 HS => ?_)
    refine lv_goto (tgt := 18) hx hb dL_begin_9 (by decide) ?_
    refine lv_iconst (v := 0) hx hb dL_begin_18 (by decide) ?_
    exact ro_iretM MC HS hr (⟨by rw [hth], fun _ => ⟨RR1, ad1, _, nw1, ns1, nl1, nc1, ⟨HP2, hRR1, _, _, _, _, _, _, hx1.cg (fun r hr => va_up_ne _ _ (by omega))⟩, hI1, had, fun r h1 h2 h3 => (va_up_ne _ _ h3).trans (hcn r h1 h2), va_up_self ..⟩, fun h9 => absurd hth h9⟩) (Nat.le_of_ble_eq_true rfl) (Nat.le_of_ble_eq_true rfl) dL_begin_19
set_option maxHeartbeats 4000000 in
set_option maxRecDepth 100000 in
theorem w_state {l : Launch} (hl9 : l.stackTraces = false) {D : va_G} {ids : Nat → ClassId} {n0 : Nat} {RR : List Nat} {ad : Nat → Nat} {cn : Nat → va_E} {τ : Tau} {ns nl nc : Nat} {Hh : Heap} (hX : xH D ids n0 RR ad cn τ ns nl nc Hh) {nw : Nat} (hI : Iv τ nw ns nl nc) {c9 : Int32} {out : Nat → Int64} (h30 : cn 30 = .inl (ids 2, 1, .inr (.inl out))) : ro_MW l yL_state cL_state 4 (some FieldType.int) [(0, 9, 12, 13)] { frames := 9, cells := 8, slots := 48, locals := 280 } D ids n0 [.ref (ad 0), .int c9, .ref (ad 30)] Hh (fun v H1 => v = some (.int (th_state τ c9)) ∧ (th_state τ c9 = 0 → wft D ids n0 ad cn (τ) (.inl (ids 2, 1, .inr (.inl (vp_updL out 0 (rt_state τ c9).toInt64)))) H1) ∧ (¬ th_state τ c9 = 0 → grow Hh H1)) := by
  refine ro_ofW (by decide +kernel) (Nat.le_of_ble_eq_true rfl) ?_
  intro p e s m below meth c MC hhp hr hT HS ls hl
  have hx := MC.1.1
  have hb := MC.1.2.1
  have hl : lv_has ls 4 [(0, .ref (ad 0)), (1, .int c9), (2, .ref (ad 30))] := hl
  obtain ⟨HP, hRR, sa, bm, fm, lf, ff, cf, h0, h1, h1b, h2, h2b, h7, h7b, h3, h3b, h40, h4, h4b, h60, h5, h6⟩ := id hX
  refine lv_aload_n hx hb dL_state_0 rfl (lv_at hl 2 rfl) ?_
  refine lv_iconst (v := 0) hx hb dL_state_1 (by decide) ?_
  refine lv_aload_n hx hb dL_state_2 rfl (lv_at hl 0 rfl) ?_
  refine lv_iload_n hx hb dL_state_3 rfl (lv_at hl 1 rfl) ?_
  refine ro_callVT MC HS (rest := [.int 0, .ref (ad 30)]) (As := [.int c9]) (q_state hl9 hX hI) lkL_68 kw546 kw547 ⟨(Nat.le_of_ble_eq_true rfl), (Nat.le_of_ble_eq_true rfl)⟩ (ro_recv MC HP (hRR.l (by decide)) h0 (rfl : vwCl[5]? = some (RX6, TX6, 11))) hl.1 rfl (Nat.le_of_ble_eq_true rfl) dL_state_4 ⟨(Nat.le_of_ble_eq_true rfl), (Nat.le_of_ble_eq_true rfl)⟩ (fun E9 ce9 q9 H9 l9 hp hz9 HS hcell hv9 hcl => ?_) (fun v9 H9 l9 hp hz9 HS => ?_)
  · obtain ⟨hg9, hp⟩ := hp
    obtain ⟨hth, rfl⟩ := hp
    refine ro_catch MC hT 0 rfl ⟨by omega, by omega⟩ (by decide) kw115 (by decide +kernel) (fun j hj => absurd hj (by omega)) hcell hv9 hcl ?_
    refine lv_astore_n (lv' := [(3, .ref q9), (0, .ref (ad 0)), (1, .int c9), (2, .ref (ad 30))]) hx hb dL_state_12 rfl hl (by decide) rfl (fun ls hl => ?_)
    refine lv_iconst (v := 1) hx hb dL_state_13 (by decide) ?_
    exact ro_iretM MC HS hr (⟨by rw [hth], fun h9 => absurd (hth.symm.trans h9) (by decide), fun _ => hg9⟩) (Nat.le_of_ble_eq_true rfl) (Nat.le_of_ble_eq_true rfl) dL_state_14
  · obtain ⟨hth, rfl, RR1, ad1, cn1, nw1, ns1, nl1, nc1, hX1, hI1, had, hcn⟩ := hp
    have h31 : ad1 30 = ad 30 := had 30 (by omega)
    obtain ⟨HP1, hRR1, sa1, bm1, fm1, lf1, ff1, cf1, hx1⟩ := hX1
    refine lv_i2l hx hb dL_state_7 rfl ?_
    refine ro_lastE MC HP1 HS h31 (hRR1.l (by decide)) ((hcn 30 (by omega) (by omega)).trans h30) (vp_in_nI (n := 0) (N := 1) (by omega) (by omega)) dL_state_8 (fun H2 l2 HP2 HS => ?_)
    refine lv_goto (tgt := 15) hx hb dL_state_9 (by decide) ?_
    refine lv_iconst (v := 0) hx hb dL_state_15 (by decide) ?_
    exact ro_iretM MC HS hr (⟨by rw [hth], fun _ => ⟨RR1, ad1, _, nw1, ns1, nl1, nc1, ⟨HP2, hRR1, _, _, _, _, _, _, hx1.cg (fun r hr => va_up_ne _ _ (by omega))⟩, hI1, had, fun r h1 h2 h3 => (va_up_ne _ _ h3).trans (hcn r h1 h2), va_up_self ..⟩, fun h9 => absurd hth h9⟩) (Nat.le_of_ble_eq_true rfl) (Nat.le_of_ble_eq_true rfl) dL_state_16
set_option maxHeartbeats 4000000 in
set_option maxRecDepth 100000 in
theorem w_approved {l : Launch} (hl9 : l.stackTraces = false) {D : va_G} {ids : Nat → ClassId} {n0 : Nat} {RR : List Nat} {ad : Nat → Nat} {cn : Nat → va_E} {τ : Tau} {ns nl nc : Nat} {Hh : Heap} (hX : xH D ids n0 RR ad cn τ ns nl nc Hh) {nw : Nat} (hI : Iv τ nw ns nl nc) {c9 : Int32} {out : Nat → Int64} (h30 : cn 30 = .inl (ids 2, 1, .inr (.inl out))) : ro_MW l yL_approved cL_approved 4 (some FieldType.int) [(0, 9, 12, 13)] { frames := 9, cells := 8, slots := 48, locals := 280 } D ids n0 [.ref (ad 0), .int c9, .ref (ad 30)] Hh (fun v H1 => v = some (.int (th_approved τ c9)) ∧ (th_approved τ c9 = 0 → wft D ids n0 ad cn (τ) (.inl (ids 2, 1, .inr (.inl (vp_updL out 0 (rt_approved τ c9).toInt64)))) H1) ∧ (¬ th_approved τ c9 = 0 → grow Hh H1)) := by
  refine ro_ofW (by decide +kernel) (Nat.le_of_ble_eq_true rfl) ?_
  intro p e s m below meth c MC hhp hr hT HS ls hl
  have hx := MC.1.1
  have hb := MC.1.2.1
  have hl : lv_has ls 4 [(0, .ref (ad 0)), (1, .int c9), (2, .ref (ad 30))] := hl
  obtain ⟨HP, hRR, sa, bm, fm, lf, ff, cf, h0, h1, h1b, h2, h2b, h7, h7b, h3, h3b, h40, h4, h4b, h60, h5, h6⟩ := id hX
  refine lv_aload_n hx hb dL_approved_0 rfl (lv_at hl 2 rfl) ?_
  refine lv_iconst (v := 0) hx hb dL_approved_1 (by decide) ?_
  refine lv_aload_n hx hb dL_approved_2 rfl (lv_at hl 0 rfl) ?_
  refine lv_iload_n hx hb dL_approved_3 rfl (lv_at hl 1 rfl) ?_
  refine ro_callVT MC HS (rest := [.int 0, .ref (ad 30)]) (As := [.int c9]) (q_approved hl9 hX hI) lkL_71 kw553 kw554 ⟨(Nat.le_of_ble_eq_true rfl), (Nat.le_of_ble_eq_true rfl)⟩ (ro_recv MC HP (hRR.l (by decide)) h0 (rfl : vwCl[5]? = some (RX6, TX6, 11))) hl.1 rfl (Nat.le_of_ble_eq_true rfl) dL_approved_4 ⟨(Nat.le_of_ble_eq_true rfl), (Nat.le_of_ble_eq_true rfl)⟩ (fun E9 ce9 q9 H9 l9 hp hz9 HS hcell hv9 hcl => ?_) (fun v9 H9 l9 hp hz9 HS => ?_)
  · obtain ⟨hg9, hp⟩ := hp
    obtain ⟨hth, rfl⟩ := hp
    refine ro_catch MC hT 0 rfl ⟨by omega, by omega⟩ (by decide) kw115 (by decide +kernel) (fun j hj => absurd hj (by omega)) hcell hv9 hcl ?_
    refine lv_astore_n (lv' := [(3, .ref q9), (0, .ref (ad 0)), (1, .int c9), (2, .ref (ad 30))]) hx hb dL_approved_12 rfl hl (by decide) rfl (fun ls hl => ?_)
    refine lv_iconst (v := 1) hx hb dL_approved_13 (by decide) ?_
    exact ro_iretM MC HS hr (⟨by rw [hth], fun h9 => absurd (hth.symm.trans h9) (by decide), fun _ => hg9⟩) (Nat.le_of_ble_eq_true rfl) (Nat.le_of_ble_eq_true rfl) dL_approved_14
  · obtain ⟨hth, rfl, RR1, ad1, cn1, nw1, ns1, nl1, nc1, hX1, hI1, had, hcn⟩ := hp
    have h31 : ad1 30 = ad 30 := had 30 (by omega)
    obtain ⟨HP1, hRR1, sa1, bm1, fm1, lf1, ff1, cf1, hx1⟩ := hX1
    refine lv_i2l hx hb dL_approved_7 rfl ?_
    refine ro_lastE MC HP1 HS h31 (hRR1.l (by decide)) ((hcn 30 (by omega) (by omega)).trans h30) (vp_in_nI (n := 0) (N := 1) (by omega) (by omega)) dL_approved_8 (fun H2 l2 HP2 HS => ?_)
    refine lv_goto (tgt := 15) hx hb dL_approved_9 (by decide) ?_
    refine lv_iconst (v := 0) hx hb dL_approved_15 (by decide) ?_
    exact ro_iretM MC HS hr (⟨by rw [hth], fun _ => ⟨RR1, ad1, _, nw1, ns1, nl1, nc1, ⟨HP2, hRR1, _, _, _, _, _, _, hx1.cg (fun r hr => va_up_ne _ _ (by omega))⟩, hI1, had, fun r h1 h2 h3 => (va_up_ne _ _ h3).trans (hcn r h1 h2), va_up_self ..⟩, fun h9 => absurd hth h9⟩) (Nat.le_of_ble_eq_true rfl) (Nat.le_of_ble_eq_true rfl) dL_approved_16
set_option maxHeartbeats 4000000 in
set_option maxRecDepth 100000 in
theorem w_exceptions {l : Launch} (hl9 : l.stackTraces = false) {D : va_G} {ids : Nat → ClassId} {n0 : Nat} {RR : List Nat} {ad : Nat → Nat} {cn : Nat → va_E} {τ : Tau} {ns nl nc : Nat} {Hh : Heap} (hX : xH D ids n0 RR ad cn τ ns nl nc Hh) {nw : Nat} (hI : Iv τ nw ns nl nc) {r9 n9 : Int32} {out : Nat → Int64} (h30 : cn 30 = .inl (ids 2, 1, .inr (.inl out))) : ro_MW l yL_exceptions cL_exceptions 5 (some FieldType.int) [(0, 10, 13, 21)] { frames := 9, cells := 8, slots := 48, locals := 280 } D ids n0 [.ref (ad 0), .int r9, .int n9, .ref (ad 30)] Hh (fun v H1 => v = some (.int (th_exceptions τ r9 n9)) ∧ (th_exceptions τ r9 n9 = 0 → wft D ids n0 ad cn (nx_exceptions τ r9 n9) (.inl (ids 2, 1, .inr (.inl (vp_updL out 0 (rt_exceptions τ r9 n9).toInt64)))) H1) ∧ (¬ th_exceptions τ r9 n9 = 0 → grow Hh H1)) := by
  refine ro_ofW (by decide +kernel) (Nat.le_of_ble_eq_true rfl) ?_
  intro p e s m below meth c MC hhp hr hT HS ls hl
  have hx := MC.1.1
  have hb := MC.1.2.1
  have hl : lv_has ls 5 [(0, .ref (ad 0)), (1, .int r9), (2, .int n9), (3, .ref (ad 30))] := hl
  obtain ⟨HP, hRR, sa, bm, fm, lf, ff, cf, h0, h1, h1b, h2, h2b, h7, h7b, h3, h3b, h40, h4, h4b, h60, h5, h6⟩ := id hX
  refine lv_aload_n hx hb dL_exceptions_0 rfl (lv_at hl 3 rfl) ?_
  refine lv_iconst (v := 0) hx hb dL_exceptions_1 (by decide) ?_
  refine lv_aload_n hx hb dL_exceptions_2 rfl (lv_at hl 0 rfl) ?_
  refine lv_iload_n hx hb dL_exceptions_3 rfl (lv_at hl 1 rfl) ?_
  refine lv_iload_n hx hb dL_exceptions_4 rfl (lv_at hl 2 rfl) ?_
  refine ro_callVT MC HS (rest := [.int 0, .ref (ad 30)]) (As := [.int r9, .int n9]) (q_exceptions hl9 hX hI) lkL_74 kw560 kw561 ⟨(Nat.le_of_ble_eq_true rfl), (Nat.le_of_ble_eq_true rfl)⟩ (ro_recv MC HP (hRR.l (by decide)) h0 (rfl : vwCl[5]? = some (RX6, TX6, 11))) hl.1 rfl (Nat.le_of_ble_eq_true rfl) dL_exceptions_5 ⟨(Nat.le_of_ble_eq_true rfl), (Nat.le_of_ble_eq_true rfl)⟩ (fun E9 ce9 q9 H9 l9 hp hz9 HS hcell hv9 hcl => ?_) (fun v9 H9 l9 hp hz9 HS => ?_)
  · obtain ⟨hg9, hp⟩ := hp
    obtain ⟨hth, rfl⟩ := hp
    refine ro_catch MC hT 0 rfl ⟨by omega, by omega⟩ (by decide) kw213 (by decide +kernel) (fun j hj => absurd hj (by omega)) hcell hv9 hcl ?_
    refine lv_astore (lv' := [(4, .ref q9), (0, .ref (ad 0)), (1, .int r9), (2, .int n9), (3, .ref (ad 30))]) hx hb dL_exceptions_13 hl (by decide) rfl (fun ls hl => ?_)
    refine lv_iconst (v := 1) hx hb dL_exceptions_15 (by decide) ?_
    exact ro_iretM MC HS hr (⟨by rw [hth], fun h9 => absurd (hth.symm.trans h9) (by decide), fun _ => hg9⟩) (Nat.le_of_ble_eq_true rfl) (Nat.le_of_ble_eq_true rfl) dL_exceptions_16
  · obtain ⟨hth, rfl, RR1, ad1, cn1, nw1, ns1, nl1, nc1, hX1, hI1, had, hcn⟩ := hp
    have h31 : ad1 30 = ad 30 := had 30 (by omega)
    obtain ⟨HP1, hRR1, sa1, bm1, fm1, lf1, ff1, cf1, hx1⟩ := hX1
    refine lv_i2l hx hb dL_exceptions_8 rfl ?_
    refine ro_lastE MC HP1 HS h31 (hRR1.l (by decide)) ((hcn 30 (by omega) (by omega)).trans h30) (vp_in_nI (n := 0) (N := 1) (by omega) (by omega)) dL_exceptions_9 (fun H2 l2 HP2 HS => ?_)
    refine lv_goto (tgt := 17) hx hb dL_exceptions_10 (by decide) ?_
    refine lv_iconst (v := 0) hx hb dL_exceptions_17 (by decide) ?_
    exact ro_iretM MC HS hr (⟨by rw [hth], fun _ => ⟨RR1, ad1, _, nw1, ns1, nl1, nc1, ⟨HP2, hRR1, _, _, _, _, _, _, hx1.cg (fun r hr => va_up_ne _ _ (by omega))⟩, hI1, had, fun r h1 h2 h3 => (va_up_ne _ _ h3).trans (hcn r h1 h2), va_up_self ..⟩, fun h9 => absurd hth h9⟩) (Nat.le_of_ble_eq_true rfl) (Nat.le_of_ble_eq_true rfl) dL_exceptions_18
set_option maxHeartbeats 4000000 in
set_option maxRecDepth 100000 in
theorem w_left {l : Launch} (hl9 : l.stackTraces = false) {D : va_G} {ids : Nat → ClassId} {n0 : Nat} {RR : List Nat} {ad : Nat → Nat} {cn : Nat → va_E} {τ : Tau} {ns nl nc : Nat} {Hh : Heap} (hX : xH D ids n0 RR ad cn τ ns nl nc Hh) {nw : Nat} (hI : Iv τ nw ns nl nc) {r9 : Int32} {out : Nat → Int64} (h30 : cn 30 = .inl (ids 2, 1, .inr (.inl out))) : ro_MW l yL_left cL_left 4 (some FieldType.int) [(0, 9, 12, 21)] { frames := 9, cells := 8, slots := 48, locals := 280 } D ids n0 [.ref (ad 0), .int r9, .ref (ad 30)] Hh (fun v H1 => v = some (.int (th_left τ r9)) ∧ (th_left τ r9 = 0 → wft D ids n0 ad cn (τ) (.inl (ids 2, 1, .inr (.inl (vp_updL out 0 (rt_left τ r9).toInt64)))) H1) ∧ (¬ th_left τ r9 = 0 → grow Hh H1)) := by
  refine ro_ofW (by decide +kernel) (Nat.le_of_ble_eq_true rfl) ?_
  intro p e s m below meth c MC hhp hr hT HS ls hl
  have hx := MC.1.1
  have hb := MC.1.2.1
  have hl : lv_has ls 4 [(0, .ref (ad 0)), (1, .int r9), (2, .ref (ad 30))] := hl
  obtain ⟨HP, hRR, sa, bm, fm, lf, ff, cf, h0, h1, h1b, h2, h2b, h7, h7b, h3, h3b, h40, h4, h4b, h60, h5, h6⟩ := id hX
  refine lv_aload_n hx hb dL_left_0 rfl (lv_at hl 2 rfl) ?_
  refine lv_iconst (v := 0) hx hb dL_left_1 (by decide) ?_
  refine lv_aload_n hx hb dL_left_2 rfl (lv_at hl 0 rfl) ?_
  refine lv_iload_n hx hb dL_left_3 rfl (lv_at hl 1 rfl) ?_
  refine ro_callVT MC HS (rest := [.int 0, .ref (ad 30)]) (As := [.int r9]) (q_left hl9 hX hI) lkL_77 kw567 kw568 ⟨(Nat.le_of_ble_eq_true rfl), (Nat.le_of_ble_eq_true rfl)⟩ (ro_recv MC HP (hRR.l (by decide)) h0 (rfl : vwCl[5]? = some (RX6, TX6, 11))) hl.1 rfl (Nat.le_of_ble_eq_true rfl) dL_left_4 ⟨(Nat.le_of_ble_eq_true rfl), (Nat.le_of_ble_eq_true rfl)⟩ (fun E9 ce9 q9 H9 l9 hp hz9 HS hcell hv9 hcl => ?_) (fun v9 H9 l9 hp hz9 HS => ?_)
  · obtain ⟨hg9, hp⟩ := hp
    obtain ⟨hth, rfl⟩ := hp
    refine ro_catch MC hT 0 rfl ⟨by omega, by omega⟩ (by decide) kw213 (by decide +kernel) (fun j hj => absurd hj (by omega)) hcell hv9 hcl ?_
    refine lv_astore_n (lv' := [(3, .ref q9), (0, .ref (ad 0)), (1, .int r9), (2, .ref (ad 30))]) hx hb dL_left_12 rfl hl (by decide) rfl (fun ls hl => ?_)
    refine lv_iconst (v := 1) hx hb dL_left_13 (by decide) ?_
    exact ro_iretM MC HS hr (⟨by rw [hth], fun h9 => absurd (hth.symm.trans h9) (by decide), fun _ => hg9⟩) (Nat.le_of_ble_eq_true rfl) (Nat.le_of_ble_eq_true rfl) dL_left_14
  · obtain ⟨hth, rfl, RR1, ad1, cn1, nw1, ns1, nl1, nc1, hX1, hI1, had, hcn⟩ := hp
    have h31 : ad1 30 = ad 30 := had 30 (by omega)
    obtain ⟨HP1, hRR1, sa1, bm1, fm1, lf1, ff1, cf1, hx1⟩ := hX1
    refine lv_i2l hx hb dL_left_7 rfl ?_
    refine ro_lastE MC HP1 HS h31 (hRR1.l (by decide)) ((hcn 30 (by omega) (by omega)).trans h30) (vp_in_nI (n := 0) (N := 1) (by omega) (by omega)) dL_left_8 (fun H2 l2 HP2 HS => ?_)
    refine lv_goto (tgt := 15) hx hb dL_left_9 (by decide) ?_
    refine lv_iconst (v := 0) hx hb dL_left_15 (by decide) ?_
    exact ro_iretM MC HS hr (⟨by rw [hth], fun _ => ⟨RR1, ad1, _, nw1, ns1, nl1, nc1, ⟨HP2, hRR1, _, _, _, _, _, _, hx1.cg (fun r hr => va_up_ne _ _ (by omega))⟩, hI1, had, fun r h1 h2 h3 => (va_up_ne _ _ h3).trans (hcn r h1 h2), va_up_self ..⟩, fun h9 => absurd hth h9⟩) (Nat.le_of_ble_eq_true rfl) (Nat.le_of_ble_eq_true rfl) dL_left_16
set_option maxHeartbeats 4000000 in
set_option maxRecDepth 100000 in
theorem w_excuse {l : Launch} (hl9 : l.stackTraces = false) {D : va_G} {ids : Nat → ClassId} {n0 : Nat} {RR : List Nat} {ad : Nat → Nat} {cn : Nat → va_E} {τ : Tau} {ns nl nc : Nat} {Hh : Heap} (hX : xH D ids n0 RR ad cn τ ns nl nc Hh) {nw : Nat} (hI : Iv τ nw ns nl nc) {c9 k9 : Int32} {out : Nat → Int64} (h30 : cn 30 = .inl (ids 2, 1, .inr (.inl out))) : ro_MW l yL_excuse cL_excuse 5 (some FieldType.int) [(0, 10, 13, 13), (0, 10, 17, 45), (0, 10, 21, 15)] { frames := 9, cells := 8, slots := 48, locals := 280 } D ids n0 [.ref (ad 0), .int c9, .int k9, .ref (ad 30)] Hh (fun v H1 => v = some (.int (th_excuse τ c9 k9)) ∧ (th_excuse τ c9 k9 = 0 → wft D ids n0 ad cn (nx_excuse τ c9 k9) (.inl (ids 2, 1, .inr (.inl (vp_updL out 0 (rt_excuse τ c9 k9).toInt64)))) H1) ∧ (¬ th_excuse τ c9 k9 = 0 → grow Hh H1)) := by
  refine ro_ofW (by decide +kernel) (Nat.le_of_ble_eq_true rfl) ?_
  intro p e s m below meth c MC hhp hr hT HS ls hl
  have hx := MC.1.1
  have hb := MC.1.2.1
  have hl : lv_has ls 5 [(0, .ref (ad 0)), (1, .int c9), (2, .int k9), (3, .ref (ad 30))] := hl
  obtain ⟨HP, hRR, sa, bm, fm, lf, ff, cf, h0, h1, h1b, h2, h2b, h7, h7b, h3, h3b, h40, h4, h4b, h60, h5, h6⟩ := id hX
  refine lv_aload_n hx hb dL_excuse_0 rfl (lv_at hl 3 rfl) ?_
  refine lv_iconst (v := 0) hx hb dL_excuse_1 (by decide) ?_
  refine lv_aload_n hx hb dL_excuse_2 rfl (lv_at hl 0 rfl) ?_
  refine lv_iload_n hx hb dL_excuse_3 rfl (lv_at hl 1 rfl) ?_
  refine lv_iload_n hx hb dL_excuse_4 rfl (lv_at hl 2 rfl) ?_
  refine ro_callVT MC HS (rest := [.int 0, .ref (ad 30)]) (As := [.int c9, .int k9]) (q_excuse hl9 hX hI) lkL_80 kw574 kw575 ⟨(Nat.le_of_ble_eq_true rfl), (Nat.le_of_ble_eq_true rfl)⟩ (ro_recv MC HP (hRR.l (by decide)) h0 (rfl : vwCl[5]? = some (RX6, TX6, 11))) hl.1 rfl (Nat.le_of_ble_eq_true rfl) dL_excuse_5 ⟨(Nat.le_of_ble_eq_true rfl), (Nat.le_of_ble_eq_true rfl)⟩ (fun E9 ce9 q9 H9 l9 hp hz9 HS hcell hv9 hcl => ?_) (fun v9 H9 l9 hp hz9 HS => ?_)
  · obtain ⟨hg9, hp⟩ := hp
    rcases hp with ⟨hth, rfl⟩ | ⟨hth, rfl⟩ | ⟨hth, rfl⟩
    · refine ro_catch MC hT 0 rfl ⟨by omega, by omega⟩ (by decide) kw115 (by decide +kernel) (fun j hj => absurd hj (by omega)) hcell hv9 hcl ?_
      refine lv_astore (lv' := [(4, .ref q9), (0, .ref (ad 0)), (1, .int c9), (2, .int k9), (3, .ref (ad 30))]) hx hb dL_excuse_13 hl (by decide) rfl (fun ls hl => ?_)
      refine lv_iconst (v := 1) hx hb dL_excuse_15 (by decide) ?_
      exact ro_iretM MC HS hr (⟨by rw [hth], fun h9 => absurd (hth.symm.trans h9) (by decide), fun _ => hg9⟩) (Nat.le_of_ble_eq_true rfl) (Nat.le_of_ble_eq_true rfl) dL_excuse_16
    · refine ro_catch MC hT 1 rfl ⟨by omega, by omega⟩ (by decide) kw355 (by decide +kernel) (fun j hj q hq => by rcases j with _ | j; (· cases hq; exact ⟨by decide, _, kw115, by decide +kernel⟩); (· omega)) hcell hv9 hcl ?_
      refine lv_astore (lv' := [(4, .ref q9), (0, .ref (ad 0)), (1, .int c9), (2, .int k9), (3, .ref (ad 30))]) hx hb dL_excuse_17 hl (by decide) rfl (fun ls hl => ?_)
      refine lv_iconst (v := 2) hx hb dL_excuse_19 (by decide) ?_
      exact ro_iretM MC HS hr (⟨by rw [hth], fun h9 => absurd (hth.symm.trans h9) (by decide), fun _ => hg9⟩) (Nat.le_of_ble_eq_true rfl) (Nat.le_of_ble_eq_true rfl) dL_excuse_20
    · refine ro_catch MC hT 2 rfl ⟨by omega, by omega⟩ (by decide) kw116 (by decide +kernel) (fun j hj q hq => by rcases j with _ | _ | j; (· cases hq; exact ⟨by decide, _, kw115, by decide +kernel⟩); (· cases hq; exact ⟨by decide, _, kw355, by decide +kernel⟩); (· omega)) hcell hv9 hcl ?_
      refine lv_astore (lv' := [(4, .ref q9), (0, .ref (ad 0)), (1, .int c9), (2, .int k9), (3, .ref (ad 30))]) hx hb dL_excuse_21 hl (by decide) rfl (fun ls hl => ?_)
      refine lv_iconst (v := 3) hx hb dL_excuse_23 (by decide) ?_
      exact ro_iretM MC HS hr (⟨by rw [hth], fun h9 => absurd (hth.symm.trans h9) (by decide), fun _ => hg9⟩) (Nat.le_of_ble_eq_true rfl) (Nat.le_of_ble_eq_true rfl) dL_excuse_24
  · obtain ⟨hth, rfl, RR1, ad1, cn1, nw1, ns1, nl1, nc1, hX1, hI1, had, hcn⟩ := hp
    have h31 : ad1 30 = ad 30 := had 30 (by omega)
    obtain ⟨HP1, hRR1, sa1, bm1, fm1, lf1, ff1, cf1, hx1⟩ := hX1
    refine lv_i2l hx hb dL_excuse_8 rfl ?_
    refine ro_lastE MC HP1 HS h31 (hRR1.l (by decide)) ((hcn 30 (by omega) (by omega)).trans h30) (vp_in_nI (n := 0) (N := 1) (by omega) (by omega)) dL_excuse_9 (fun H2 l2 HP2 HS => ?_)
    refine lv_goto (tgt := 25) hx hb dL_excuse_10 (by decide) ?_
    refine lv_iconst (v := 0) hx hb dL_excuse_25 (by decide) ?_
    exact ro_iretM MC HS hr (⟨by rw [hth], fun _ => ⟨RR1, ad1, _, nw1, ns1, nl1, nc1, ⟨HP2, hRR1, _, _, _, _, _, _, hx1.cg (fun r hr => va_up_ne _ _ (by omega))⟩, hI1, had, fun r h1 h2 h3 => (va_up_ne _ _ h3).trans (hcn r h1 h2), va_up_self ..⟩, fun h9 => absurd hth h9⟩) (Nat.le_of_ble_eq_true rfl) (Nat.le_of_ble_eq_true rfl) dL_excuse_26
set_option maxHeartbeats 4000000 in
set_option maxRecDepth 100000 in
theorem w_badHours {l : Launch} (hl9 : l.stackTraces = false) {D : va_G} {ids : Nat → ClassId} {n0 : Nat} {RR : List Nat} {ad : Nat → Nat} {cn : Nat → va_E} {τ : Tau} {ns nl nc : Nat} {Hh : Heap} (hX : xH D ids n0 RR ad cn τ ns nl nc Hh) {nw : Nat} (hI : Iv τ nw ns nl nc) {c9 : Int32} {out : Nat → Int64} (h30 : cn 30 = .inl (ids 2, 1, .inr (.inl out))) : ro_MW l yL_badHours cL_badHours 4 (some FieldType.int) [(0, 9, 12, 13)] { frames := 9, cells := 8, slots := 48, locals := 280 } D ids n0 [.ref (ad 0), .int c9, .ref (ad 30)] Hh (fun v H1 => v = some (.int (th_badHours τ c9)) ∧ (th_badHours τ c9 = 0 → wft D ids n0 ad cn (τ) (.inl (ids 2, 1, .inr (.inl (vp_updL out 0 (rt_badHours τ c9).toInt64)))) H1) ∧ (¬ th_badHours τ c9 = 0 → grow Hh H1)) := by
  refine ro_ofW (by decide +kernel) (Nat.le_of_ble_eq_true rfl) ?_
  intro p e s m below meth c MC hhp hr hT HS ls hl
  have hx := MC.1.1
  have hb := MC.1.2.1
  have hl : lv_has ls 4 [(0, .ref (ad 0)), (1, .int c9), (2, .ref (ad 30))] := hl
  obtain ⟨HP, hRR, sa, bm, fm, lf, ff, cf, h0, h1, h1b, h2, h2b, h7, h7b, h3, h3b, h40, h4, h4b, h60, h5, h6⟩ := id hX
  refine lv_aload_n hx hb dL_badHours_0 rfl (lv_at hl 2 rfl) ?_
  refine lv_iconst (v := 0) hx hb dL_badHours_1 (by decide) ?_
  refine lv_aload_n hx hb dL_badHours_2 rfl (lv_at hl 0 rfl) ?_
  refine lv_iload_n hx hb dL_badHours_3 rfl (lv_at hl 1 rfl) ?_
  refine ro_callVT MC HS (rest := [.int 0, .ref (ad 30)]) (As := [.int c9]) (q_badHours hl9 hX hI) lkL_83 kw588 kw589 ⟨(Nat.le_of_ble_eq_true rfl), (Nat.le_of_ble_eq_true rfl)⟩ (ro_recv MC HP (hRR.l (by decide)) h0 (rfl : vwCl[5]? = some (RX6, TX6, 11))) hl.1 rfl (Nat.le_of_ble_eq_true rfl) dL_badHours_4 ⟨(Nat.le_of_ble_eq_true rfl), (Nat.le_of_ble_eq_true rfl)⟩ (fun E9 ce9 q9 H9 l9 hp hz9 HS hcell hv9 hcl => ?_) (fun v9 H9 l9 hp hz9 HS => ?_)
  · obtain ⟨hg9, hp⟩ := hp
    obtain ⟨hth, rfl⟩ := hp
    refine ro_catch MC hT 0 rfl ⟨by omega, by omega⟩ (by decide) kw115 (by decide +kernel) (fun j hj => absurd hj (by omega)) hcell hv9 hcl ?_
    refine lv_astore_n (lv' := [(3, .ref q9), (0, .ref (ad 0)), (1, .int c9), (2, .ref (ad 30))]) hx hb dL_badHours_12 rfl hl (by decide) rfl (fun ls hl => ?_)
    refine lv_iconst (v := 1) hx hb dL_badHours_13 (by decide) ?_
    exact ro_iretM MC HS hr (⟨by rw [hth], fun h9 => absurd (hth.symm.trans h9) (by decide), fun _ => hg9⟩) (Nat.le_of_ble_eq_true rfl) (Nat.le_of_ble_eq_true rfl) dL_badHours_14
  · obtain ⟨hth, rfl, RR1, ad1, cn1, nw1, ns1, nl1, nc1, hX1, hI1, had, hcn⟩ := hp
    have h31 : ad1 30 = ad 30 := had 30 (by omega)
    obtain ⟨HP1, hRR1, sa1, bm1, fm1, lf1, ff1, cf1, hx1⟩ := hX1
    refine lv_i2l hx hb dL_badHours_7 rfl ?_
    refine ro_lastE MC HP1 HS h31 (hRR1.l (by decide)) ((hcn 30 (by omega) (by omega)).trans h30) (vp_in_nI (n := 0) (N := 1) (by omega) (by omega)) dL_badHours_8 (fun H2 l2 HP2 HS => ?_)
    refine lv_goto (tgt := 15) hx hb dL_badHours_9 (by decide) ?_
    refine lv_iconst (v := 0) hx hb dL_badHours_15 (by decide) ?_
    exact ro_iretM MC HS hr (⟨by rw [hth], fun _ => ⟨RR1, ad1, _, nw1, ns1, nl1, nc1, ⟨HP2, hRR1, _, _, _, _, _, _, hx1.cg (fun r hr => va_up_ne _ _ (by omega))⟩, hI1, had, fun r h1 h2 h3 => (va_up_ne _ _ h3).trans (hcn r h1 h2), va_up_self ..⟩, fun h9 => absurd hth h9⟩) (Nat.le_of_ble_eq_true rfl) (Nat.le_of_ble_eq_true rfl) dL_badHours_16
set_option maxHeartbeats 4000000 in
set_option maxRecDepth 100000 in
theorem w_badHoursOneByOne {l : Launch} (hl9 : l.stackTraces = false) {D : va_G} {ids : Nat → ClassId} {n0 : Nat} {RR : List Nat} {ad : Nat → Nat} {cn : Nat → va_E} {τ : Tau} {ns nl nc : Nat} {Hh : Heap} (hX : xH D ids n0 RR ad cn τ ns nl nc Hh) {nw : Nat} (hI : Iv τ nw ns nl nc) {c9 : Int32} {out : Nat → Int64} (h30 : cn 30 = .inl (ids 2, 1, .inr (.inl out))) : ro_MW l yL_badHoursOneByOne cL_badHoursOneByOne 4 (some FieldType.int) [(0, 9, 12, 13)] { frames := 9, cells := 8, slots := 48, locals := 280 } D ids n0 [.ref (ad 0), .int c9, .ref (ad 30)] Hh (fun v H1 => v = some (.int (th_badHours τ c9)) ∧ (th_badHours τ c9 = 0 → wft D ids n0 ad cn (τ) (.inl (ids 2, 1, .inr (.inl (vp_updL out 0 (rt_badHours τ c9).toInt64)))) H1) ∧ (¬ th_badHours τ c9 = 0 → grow Hh H1)) := by
  refine ro_ofW (by decide +kernel) (Nat.le_of_ble_eq_true rfl) ?_
  intro p e s m below meth c MC hhp hr hT HS ls hl
  have hx := MC.1.1
  have hb := MC.1.2.1
  have hl : lv_has ls 4 [(0, .ref (ad 0)), (1, .int c9), (2, .ref (ad 30))] := hl
  obtain ⟨HP, hRR, sa, bm, fm, lf, ff, cf, h0, h1, h1b, h2, h2b, h7, h7b, h3, h3b, h40, h4, h4b, h60, h5, h6⟩ := id hX
  refine lv_aload_n hx hb dL_badHoursOneByOne_0 rfl (lv_at hl 2 rfl) ?_
  refine lv_iconst (v := 0) hx hb dL_badHoursOneByOne_1 (by decide) ?_
  refine lv_aload_n hx hb dL_badHoursOneByOne_2 rfl (lv_at hl 0 rfl) ?_
  refine lv_iload_n hx hb dL_badHoursOneByOne_3 rfl (lv_at hl 1 rfl) ?_
  refine ro_callVT MC HS (rest := [.int 0, .ref (ad 30)]) (As := [.int c9]) (q_badHoursOneByOne hl9 hX hI) lkL_86 kw595 kw596 ⟨(Nat.le_of_ble_eq_true rfl), (Nat.le_of_ble_eq_true rfl)⟩ (ro_recv MC HP (hRR.l (by decide)) h0 (rfl : vwCl[5]? = some (RX6, TX6, 11))) hl.1 rfl (Nat.le_of_ble_eq_true rfl) dL_badHoursOneByOne_4 ⟨(Nat.le_of_ble_eq_true rfl), (Nat.le_of_ble_eq_true rfl)⟩ (fun E9 ce9 q9 H9 l9 hp hz9 HS hcell hv9 hcl => ?_) (fun v9 H9 l9 hp hz9 HS => ?_)
  · obtain ⟨hg9, hp⟩ := hp
    obtain ⟨hth, rfl⟩ := hp
    refine ro_catch MC hT 0 rfl ⟨by omega, by omega⟩ (by decide) kw115 (by decide +kernel) (fun j hj => absurd hj (by omega)) hcell hv9 hcl ?_
    refine lv_astore_n (lv' := [(3, .ref q9), (0, .ref (ad 0)), (1, .int c9), (2, .ref (ad 30))]) hx hb dL_badHoursOneByOne_12 rfl hl (by decide) rfl (fun ls hl => ?_)
    refine lv_iconst (v := 1) hx hb dL_badHoursOneByOne_13 (by decide) ?_
    exact ro_iretM MC HS hr (⟨by rw [hth], fun h9 => absurd (hth.symm.trans h9) (by decide), fun _ => hg9⟩) (Nat.le_of_ble_eq_true rfl) (Nat.le_of_ble_eq_true rfl) dL_badHoursOneByOne_14
  · obtain ⟨hth, rfl, RR1, ad1, cn1, nw1, ns1, nl1, nc1, hX1, hI1, had, hcn⟩ := hp
    have h31 : ad1 30 = ad 30 := had 30 (by omega)
    obtain ⟨HP1, hRR1, sa1, bm1, fm1, lf1, ff1, cf1, hx1⟩ := hX1
    refine lv_i2l hx hb dL_badHoursOneByOne_7 rfl ?_
    refine ro_lastE MC HP1 HS h31 (hRR1.l (by decide)) ((hcn 30 (by omega) (by omega)).trans h30) (vp_in_nI (n := 0) (N := 1) (by omega) (by omega)) dL_badHoursOneByOne_8 (fun H2 l2 HP2 HS => ?_)
    refine lv_goto (tgt := 15) hx hb dL_badHoursOneByOne_9 (by decide) ?_
    refine lv_iconst (v := 0) hx hb dL_badHoursOneByOne_15 (by decide) ?_
    exact ro_iretM MC HS hr (⟨by rw [hth], fun _ => ⟨RR1, ad1, _, nw1, ns1, nl1, nc1, ⟨HP2, hRR1, _, _, _, _, _, _, hx1.cg (fun r hr => va_up_ne _ _ (by omega))⟩, hI1, had, fun r h1 h2 h3 => (va_up_ne _ _ h3).trans (hcn r h1 h2), va_up_self ..⟩, fun h9 => absurd hth h9⟩) (Nat.le_of_ble_eq_true rfl) (Nat.le_of_ble_eq_true rfl) dL_badHoursOneByOne_16
set_option maxHeartbeats 4000000 in
set_option maxRecDepth 100000 in
theorem w_firstBad {l : Launch} (hl9 : l.stackTraces = false) {D : va_G} {ids : Nat → ClassId} {n0 : Nat} {RR : List Nat} {ad : Nat → Nat} {cn : Nat → va_E} {τ : Tau} {ns nl nc : Nat} {Hh : Heap} (hX : xH D ids n0 RR ad cn τ ns nl nc Hh) {nw : Nat} (hI : Iv τ nw ns nl nc) {c9 : Int32} {out : Nat → Int64} (h30 : cn 30 = .inl (ids 2, 1, .inr (.inl out))) : ro_MW l yL_firstBad cL_firstBad 4 (some FieldType.int) [(0, 9, 12, 13)] { frames := 9, cells := 8, slots := 48, locals := 280 } D ids n0 [.ref (ad 0), .int c9, .ref (ad 30)] Hh (fun v H1 => v = some (.int (th_badHours τ c9)) ∧ (th_badHours τ c9 = 0 → wft D ids n0 ad cn (τ) (.inl (ids 2, 1, .inr (.inl (vp_updL out 0 (rt_firstBad τ c9).toInt64)))) H1) ∧ (¬ th_badHours τ c9 = 0 → grow Hh H1)) := by
  refine ro_ofW (by decide +kernel) (Nat.le_of_ble_eq_true rfl) ?_
  intro p e s m below meth c MC hhp hr hT HS ls hl
  have hx := MC.1.1
  have hb := MC.1.2.1
  have hl : lv_has ls 4 [(0, .ref (ad 0)), (1, .int c9), (2, .ref (ad 30))] := hl
  obtain ⟨HP, hRR, sa, bm, fm, lf, ff, cf, h0, h1, h1b, h2, h2b, h7, h7b, h3, h3b, h40, h4, h4b, h60, h5, h6⟩ := id hX
  refine lv_aload_n hx hb dL_firstBad_0 rfl (lv_at hl 2 rfl) ?_
  refine lv_iconst (v := 0) hx hb dL_firstBad_1 (by decide) ?_
  refine lv_aload_n hx hb dL_firstBad_2 rfl (lv_at hl 0 rfl) ?_
  refine lv_iload_n hx hb dL_firstBad_3 rfl (lv_at hl 1 rfl) ?_
  refine ro_callVT MC HS (rest := [.int 0, .ref (ad 30)]) (As := [.int c9]) (q_firstBad hl9 hX hI) lkL_89 kw602 kw603 ⟨(Nat.le_of_ble_eq_true rfl), (Nat.le_of_ble_eq_true rfl)⟩ (ro_recv MC HP (hRR.l (by decide)) h0 (rfl : vwCl[5]? = some (RX6, TX6, 11))) hl.1 rfl (Nat.le_of_ble_eq_true rfl) dL_firstBad_4 ⟨(Nat.le_of_ble_eq_true rfl), (Nat.le_of_ble_eq_true rfl)⟩ (fun E9 ce9 q9 H9 l9 hp hz9 HS hcell hv9 hcl => ?_) (fun v9 H9 l9 hp hz9 HS => ?_)
  · obtain ⟨hg9, hp⟩ := hp
    obtain ⟨hth, rfl⟩ := hp
    refine ro_catch MC hT 0 rfl ⟨by omega, by omega⟩ (by decide) kw115 (by decide +kernel) (fun j hj => absurd hj (by omega)) hcell hv9 hcl ?_
    refine lv_astore_n (lv' := [(3, .ref q9), (0, .ref (ad 0)), (1, .int c9), (2, .ref (ad 30))]) hx hb dL_firstBad_12 rfl hl (by decide) rfl (fun ls hl => ?_)
    refine lv_iconst (v := 1) hx hb dL_firstBad_13 (by decide) ?_
    exact ro_iretM MC HS hr (⟨by rw [hth], fun h9 => absurd (hth.symm.trans h9) (by decide), fun _ => hg9⟩) (Nat.le_of_ble_eq_true rfl) (Nat.le_of_ble_eq_true rfl) dL_firstBad_14
  · obtain ⟨hth, rfl, RR1, ad1, cn1, nw1, ns1, nl1, nc1, hX1, hI1, had, hcn⟩ := hp
    have h31 : ad1 30 = ad 30 := had 30 (by omega)
    obtain ⟨HP1, hRR1, sa1, bm1, fm1, lf1, ff1, cf1, hx1⟩ := hX1
    refine lv_i2l hx hb dL_firstBad_7 rfl ?_
    refine ro_lastE MC HP1 HS h31 (hRR1.l (by decide)) ((hcn 30 (by omega) (by omega)).trans h30) (vp_in_nI (n := 0) (N := 1) (by omega) (by omega)) dL_firstBad_8 (fun H2 l2 HP2 HS => ?_)
    refine lv_goto (tgt := 15) hx hb dL_firstBad_9 (by decide) ?_
    refine lv_iconst (v := 0) hx hb dL_firstBad_15 (by decide) ?_
    exact ro_iretM MC HS hr (⟨by rw [hth], fun _ => ⟨RR1, ad1, _, nw1, ns1, nl1, nc1, ⟨HP2, hRR1, _, _, _, _, _, _, hx1.cg (fun r hr => va_up_ne _ _ (by omega))⟩, hI1, had, fun r h1 h2 h3 => (va_up_ne _ _ h3).trans (hcn r h1 h2), va_up_self ..⟩, fun h9 => absurd hth h9⟩) (Nat.le_of_ble_eq_true rfl) (Nat.le_of_ble_eq_true rfl) dL_firstBad_16
set_option maxHeartbeats 4000000 in
set_option maxRecDepth 100000 in
theorem w_reasons {l : Launch} (hl9 : l.stackTraces = false) {D : va_G} {ids : Nat → ClassId} {n0 : Nat} {RR : List Nat} {ad : Nat → Nat} {cn : Nat → va_E} {τ : Tau} {ns nl nc : Nat} {Hh : Heap} (hX : xH D ids n0 RR ad cn τ ns nl nc Hh) {nw : Nat} (hI : Iv τ nw ns nl nc) {c9 : Int32} {out : Nat → Int64} (h30 : cn 30 = .inl (ids 2, 1, .inr (.inl out))) : ro_MW l yL_reasons cL_reasons 4 (some FieldType.int) [(0, 9, 12, 13)] { frames := 9, cells := 8, slots := 48, locals := 280 } D ids n0 [.ref (ad 0), .int c9, .ref (ad 30)] Hh (fun v H1 => v = some (.int (th_badHours τ c9)) ∧ (th_badHours τ c9 = 0 → wft D ids n0 ad cn (τ) (.inl (ids 2, 1, .inr (.inl (vp_updL out 0 (rt_reasons τ c9).toInt64)))) H1) ∧ (¬ th_badHours τ c9 = 0 → grow Hh H1)) := by
  refine ro_ofW (by decide +kernel) (Nat.le_of_ble_eq_true rfl) ?_
  intro p e s m below meth c MC hhp hr hT HS ls hl
  have hx := MC.1.1
  have hb := MC.1.2.1
  have hl : lv_has ls 4 [(0, .ref (ad 0)), (1, .int c9), (2, .ref (ad 30))] := hl
  obtain ⟨HP, hRR, sa, bm, fm, lf, ff, cf, h0, h1, h1b, h2, h2b, h7, h7b, h3, h3b, h40, h4, h4b, h60, h5, h6⟩ := id hX
  refine lv_aload_n hx hb dL_reasons_0 rfl (lv_at hl 2 rfl) ?_
  refine lv_iconst (v := 0) hx hb dL_reasons_1 (by decide) ?_
  refine lv_aload_n hx hb dL_reasons_2 rfl (lv_at hl 0 rfl) ?_
  refine lv_iload_n hx hb dL_reasons_3 rfl (lv_at hl 1 rfl) ?_
  refine ro_callVT MC HS (rest := [.int 0, .ref (ad 30)]) (As := [.int c9]) (q_reasons hl9 hX hI) lkL_92 kw609 kw610 ⟨(Nat.le_of_ble_eq_true rfl), (Nat.le_of_ble_eq_true rfl)⟩ (ro_recv MC HP (hRR.l (by decide)) h0 (rfl : vwCl[5]? = some (RX6, TX6, 11))) hl.1 rfl (Nat.le_of_ble_eq_true rfl) dL_reasons_4 ⟨(Nat.le_of_ble_eq_true rfl), (Nat.le_of_ble_eq_true rfl)⟩ (fun E9 ce9 q9 H9 l9 hp hz9 HS hcell hv9 hcl => ?_) (fun v9 H9 l9 hp hz9 HS => ?_)
  · obtain ⟨hg9, hp⟩ := hp
    obtain ⟨hth, rfl⟩ := hp
    refine ro_catch MC hT 0 rfl ⟨by omega, by omega⟩ (by decide) kw115 (by decide +kernel) (fun j hj => absurd hj (by omega)) hcell hv9 hcl ?_
    refine lv_astore_n (lv' := [(3, .ref q9), (0, .ref (ad 0)), (1, .int c9), (2, .ref (ad 30))]) hx hb dL_reasons_12 rfl hl (by decide) rfl (fun ls hl => ?_)
    refine lv_iconst (v := 1) hx hb dL_reasons_13 (by decide) ?_
    exact ro_iretM MC HS hr (⟨by rw [hth], fun h9 => absurd (hth.symm.trans h9) (by decide), fun _ => hg9⟩) (Nat.le_of_ble_eq_true rfl) (Nat.le_of_ble_eq_true rfl) dL_reasons_14
  · obtain ⟨hth, rfl, RR1, ad1, cn1, nw1, ns1, nl1, nc1, hX1, hI1, had, hcn⟩ := hp
    have h31 : ad1 30 = ad 30 := had 30 (by omega)
    obtain ⟨HP1, hRR1, sa1, bm1, fm1, lf1, ff1, cf1, hx1⟩ := hX1
    refine lv_i2l hx hb dL_reasons_7 rfl ?_
    refine ro_lastE MC HP1 HS h31 (hRR1.l (by decide)) ((hcn 30 (by omega) (by omega)).trans h30) (vp_in_nI (n := 0) (N := 1) (by omega) (by omega)) dL_reasons_8 (fun H2 l2 HP2 HS => ?_)
    refine lv_goto (tgt := 15) hx hb dL_reasons_9 (by decide) ?_
    refine lv_iconst (v := 0) hx hb dL_reasons_15 (by decide) ?_
    exact ro_iretM MC HS hr (⟨by rw [hth], fun _ => ⟨RR1, ad1, _, nw1, ns1, nl1, nc1, ⟨HP2, hRR1, _, _, _, _, _, _, hx1.cg (fun r hr => va_up_ne _ _ (by omega))⟩, hI1, had, fun r h1 h2 h3 => (va_up_ne _ _ h3).trans (hcn r h1 h2), va_up_self ..⟩, fun h9 => absurd hth h9⟩) (Nat.le_of_ble_eq_true rfl) (Nat.le_of_ble_eq_true rfl) dL_reasons_16
