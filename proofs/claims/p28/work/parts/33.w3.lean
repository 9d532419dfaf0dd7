/-- what refused answers of a throw of begin -/
def rf_begin (t : Int32) : Int32 := if t = 1 then 1 else 4
/-- what refused answers of a throw of approve -/
def rf_approve (t : Int32) : Int32 := if t = 1 then 1 else 4
/-- what refused answers of a throw of excuse -/
def rf_excuse (t : Int32) : Int32 := if t = 1 then 1 else if t = 2 then 2 else 4
/-- what refused answers of a throw of lift -/
def rf_lift (_ : Int32) : Int32 := 2
/-- what refused answers of a throw of move -/
def rf_move (t : Int32) : Int32 := if t = 1 then 1 else if t = 2 then 3 else 4
/-- what refused answers of a throw of pass -/
def rf_pass (t : Int32) : Int32 := if t = 1 then 3 else 4
/-- what refused answers of a throw of hours -/
def rf_hours (_ : Int32) : Int32 := 2
set_option maxHeartbeats 4000000 in
set_option maxRecDepth 100000 in
theorem r_begin {l : Launch} (hl9 : l.stackTraces = false) {D : va_G} {ids : Nat → ClassId} {n0 : Nat} {aa : Nat → Nat} {τ : Tau} {nw ns nl nc : Nat} {A : Tau} {Hh : Heap} (hB : wB D ids n0 aa τ nw ns nl nc A Hh) {a9 b9 : Int32} (hne : ¬ th_begin τ a9 = 0) : ro_MW l yL_refused cL_refused 5 (some FieldType.int) [(0, 86, 87, 49), (0, 86, 91, 51), (0, 86, 95, 53), (0, 86, 99, 55)] { frames := 9, cells := 8, slots := 48, locals := 280 } D ids n0 [.ref (aa 0), .int 0, .int a9, .int b9] Hh (fun v H1 => v = some (.int (rf_begin (th_begin τ a9))) ∧ wB D ids n0 aa τ nw ns nl nc A H1) := by
  refine ro_ofW (by decide +kernel) (Nat.le_of_ble_eq_true rfl) ?_
  intro p e s m below meth c MC hhp hr hT HS ls hl
  have hx := MC.1.1
  have hb := MC.1.2.1
  have hl : lv_has ls 5 [(0, .ref (aa 0)), (1, .int 0), (2, .int a9), (3, .int b9)] := hl
  obtain ⟨hI, RR, ad, cn, hX, hW, had⟩ := id hB
  rw [← had 0 (by omega)] at hl
  obtain ⟨HP, hRR, sa, bm, fm, lf, ff, cf, h0, h1, h1b, h2, h2b, h7, h7b, h3, h3b, h40, h4, h4b, h60, h5, h6⟩ := id hX
  refine lv_iload_n hx hb dL_refused_0 rfl (lv_at hl 1 rfl) ?_
  refine lv_if_ne (tgt := 12) hx hb dL_refused_1 (by decide) (fun c_1 => absurd c_1 (by decide)) (fun c_1 => ?_)
  refine lv_aload_n hx hb dL_refused_4 rfl (lv_at hl 0 rfl) ?_
  refine lv_iload_n hx hb dL_refused_5 rfl (lv_at hl 2 rfl) ?_
  refine ro_callVT MC HS (rest := []) (As := [.int a9]) (q_begin hl9 hX hI) lkL_24 kw466 kw467 ⟨(Nat.le_of_ble_eq_true rfl), (Nat.le_of_ble_eq_true rfl)⟩ (ro_recv MC HP (hRR.l (by decide)) h0 (rfl : vwCl[5]? = some (RX6, TX6, 11))) hl.1 rfl (Nat.le_of_ble_eq_true rfl) dL_refused_6 ⟨(Nat.le_of_ble_eq_true rfl), (Nat.le_of_ble_eq_true rfl)⟩ (fun E9 ce9 q9 H9 l9 hp hz9 HS hcell hv9 hcl => ?_) (fun v9 H9 l9 hp hz9 HS => absurd hp.1 hne)
  obtain ⟨hg9, hp⟩ := hp
  rcases hp with ⟨hth, rfl⟩ | ⟨hth, rfl⟩
  · refine ro_catch MC hT 0 rfl ⟨by omega, by omega⟩ (by decide) kw523 (by decide +kernel) (fun j hj => absurd hj (by omega)) hcell hv9 hcl ?_
    refine lv_astore (lv' := [(4, .ref q9), (0, .ref (ad 0)), (1, .int 0), (2, .int a9), (3, .int b9)]) hx hb dL_refused_87 hl (by decide) rfl (fun ls hl => ?_)
    refine lv_iconst (v := 1) hx hb dL_refused_89 (by decide) ?_
    exact ro_iretM MC HS hr (⟨by rw [hth]; rfl, hB.keep hg9⟩) (Nat.le_of_ble_eq_true rfl) (Nat.le_of_ble_eq_true rfl) dL_refused_90
  · refine ro_catch MC hT 3 rfl ⟨by omega, by omega⟩ (by decide) kw526 (by decide +kernel) (fun j hj q hq => by rcases j with _ | _ | _ | j; (· cases hq; exact ⟨by decide, _, kw523, by decide +kernel⟩); (· cases hq; exact ⟨by decide, _, kw524, by decide +kernel⟩); (· cases hq; exact ⟨by decide, _, kw525, by decide +kernel⟩); (· omega)) hcell hv9 hcl ?_
    refine lv_astore (lv' := [(4, .ref q9), (0, .ref (ad 0)), (1, .int 0), (2, .int a9), (3, .int b9)]) hx hb dL_refused_99 hl (by decide) rfl (fun ls hl => ?_)
    refine lv_iconst (v := 4) hx hb dL_refused_101 (by decide) ?_
    exact ro_iretM MC HS hr (⟨by rw [hth]; rfl, hB.keep hg9⟩) (Nat.le_of_ble_eq_true rfl) (Nat.le_of_ble_eq_true rfl) dL_refused_102
set_option maxHeartbeats 4000000 in
set_option maxRecDepth 100000 in
theorem r_approve {l : Launch} (hl9 : l.stackTraces = false) {D : va_G} {ids : Nat → ClassId} {n0 : Nat} {aa : Nat → Nat} {τ : Tau} {nw ns nl nc : Nat} {A : Tau} {Hh : Heap} (hB : wB D ids n0 aa τ nw ns nl nc A Hh) {a9 b9 : Int32} (hne : ¬ th_approve τ a9 = 0) : ro_MW l yL_refused cL_refused 5 (some FieldType.int) [(0, 86, 87, 49), (0, 86, 91, 51), (0, 86, 95, 53), (0, 86, 99, 55)] { frames := 9, cells := 8, slots := 48, locals := 280 } D ids n0 [.ref (aa 0), .int 1, .int a9, .int b9] Hh (fun v H1 => v = some (.int (rf_approve (th_approve τ a9))) ∧ wB D ids n0 aa τ nw ns nl nc A H1) := by
  refine ro_ofW (by decide +kernel) (Nat.le_of_ble_eq_true rfl) ?_
  intro p e s m below meth c MC hhp hr hT HS ls hl
  have hx := MC.1.1
  have hb := MC.1.2.1
  have hl : lv_has ls 5 [(0, .ref (aa 0)), (1, .int 1), (2, .int a9), (3, .int b9)] := hl
  obtain ⟨hI, RR, ad, cn, hX, hW, had⟩ := id hB
  rw [← had 0 (by omega)] at hl
  obtain ⟨HP, hRR, sa, bm, fm, lf, ff, cf, h0, h1, h1b, h2, h2b, h7, h7b, h3, h3b, h40, h4, h4b, h60, h5, h6⟩ := id hX
  refine lv_iload_n hx hb dL_refused_0 rfl (lv_at hl 1 rfl) ?_
  refine lv_if_ne (tgt := 12) hx hb dL_refused_1 (by decide) (fun c_1 => ?_) (fun c_1 => absurd c_1 (by decide))
  refine lv_iload_n hx hb dL_refused_12 rfl (lv_at hl 1 rfl) ?_
  refine lv_iconst (v := 1) hx hb dL_refused_13 (by decide) ?_
  refine lv_icmp_ne (tgt := 25) hx hb dL_refused_14 (by decide) (fun c_14 => absurd c_14 (by decide)) (fun c_14 => ?_)
  refine lv_aload_n hx hb dL_refused_17 rfl (lv_at hl 0 rfl) ?_
  refine lv_iload_n hx hb dL_refused_18 rfl (lv_at hl 2 rfl) ?_
  refine ro_callVT MC HS (rest := []) (As := [.int a9]) (q_approve hl9 hX hI) lkL_30 kw461 kw462 ⟨(Nat.le_of_ble_eq_true rfl), (Nat.le_of_ble_eq_true rfl)⟩ (ro_recv MC HP (hRR.l (by decide)) h0 (rfl : vwCl[5]? = some (RX6, TX6, 11))) hl.1 rfl (Nat.le_of_ble_eq_true rfl) dL_refused_19 ⟨(Nat.le_of_ble_eq_true rfl), (Nat.le_of_ble_eq_true rfl)⟩ (fun E9 ce9 q9 H9 l9 hp hz9 HS hcell hv9 hcl => ?_) (fun v9 H9 l9 hp hz9 HS => absurd hp.1 hne)
  obtain ⟨hg9, hp⟩ := hp
  rcases hp with ⟨hth, rfl⟩ | ⟨hth, rfl⟩
  · refine ro_catch MC hT 0 rfl ⟨by omega, by omega⟩ (by decide) kw523 (by decide +kernel) (fun j hj => absurd hj (by omega)) hcell hv9 hcl ?_
    refine lv_astore (lv' := [(4, .ref q9), (0, .ref (ad 0)), (1, .int 1), (2, .int a9), (3, .int b9)]) hx hb dL_refused_87 hl (by decide) rfl (fun ls hl => ?_)
    refine lv_iconst (v := 1) hx hb dL_refused_89 (by decide) ?_
    exact ro_iretM MC HS hr (⟨by rw [hth]; rfl, hB.keep hg9⟩) (Nat.le_of_ble_eq_true rfl) (Nat.le_of_ble_eq_true rfl) dL_refused_90
  · refine ro_catch MC hT 3 rfl ⟨by omega, by omega⟩ (by decide) kw526 (by decide +kernel) (fun j hj q hq => by rcases j with _ | _ | _ | j; (· cases hq; exact ⟨by decide, _, kw523, by decide +kernel⟩); (· cases hq; exact ⟨by decide, _, kw524, by decide +kernel⟩); (· cases hq; exact ⟨by decide, _, kw525, by decide +kernel⟩); (· omega)) hcell hv9 hcl ?_
    refine lv_astore (lv' := [(4, .ref q9), (0, .ref (ad 0)), (1, .int 1), (2, .int a9), (3, .int b9)]) hx hb dL_refused_99 hl (by decide) rfl (fun ls hl => ?_)
    refine lv_iconst (v := 4) hx hb dL_refused_101 (by decide) ?_
    exact ro_iretM MC HS hr (⟨by rw [hth]; rfl, hB.keep hg9⟩) (Nat.le_of_ble_eq_true rfl) (Nat.le_of_ble_eq_true rfl) dL_refused_102
set_option maxHeartbeats 4000000 in
set_option maxRecDepth 100000 in
theorem r_excuse {l : Launch} (hl9 : l.stackTraces = false) {D : va_G} {ids : Nat → ClassId} {n0 : Nat} {aa : Nat → Nat} {τ : Tau} {nw ns nl nc : Nat} {A : Tau} {Hh : Heap} (hB : wB D ids n0 aa τ nw ns nl nc A Hh) {a9 b9 : Int32} (hne : ¬ th_excuse τ a9 b9 = 0) : ro_MW l yL_refused cL_refused 5 (some FieldType.int) [(0, 86, 87, 49), (0, 86, 91, 51), (0, 86, 95, 53), (0, 86, 99, 55)] { frames := 9, cells := 8, slots := 48, locals := 280 } D ids n0 [.ref (aa 0), .int 2, .int a9, .int b9] Hh (fun v H1 => v = some (.int (rf_excuse (th_excuse τ a9 b9))) ∧ wB D ids n0 aa τ nw ns nl nc A H1) := by
  refine ro_ofW (by decide +kernel) (Nat.le_of_ble_eq_true rfl) ?_
  intro p e s m below meth c MC hhp hr hT HS ls hl
  have hx := MC.1.1
  have hb := MC.1.2.1
  have hl : lv_has ls 5 [(0, .ref (aa 0)), (1, .int 2), (2, .int a9), (3, .int b9)] := hl
  obtain ⟨hI, RR, ad, cn, hX, hW, had⟩ := id hB
  rw [← had 0 (by omega)] at hl
  obtain ⟨HP, hRR, sa, bm, fm, lf, ff, cf, h0, h1, h1b, h2, h2b, h7, h7b, h3, h3b, h40, h4, h4b, h60, h5, h6⟩ := id hX
  refine lv_iload_n hx hb dL_refused_0 rfl (lv_at hl 1 rfl) ?_
  refine lv_if_ne (tgt := 12) hx hb dL_refused_1 (by decide) (fun c_1 => ?_) (fun c_1 => absurd c_1 (by decide))
  refine lv_iload_n hx hb dL_refused_12 rfl (lv_at hl 1 rfl) ?_
  refine lv_iconst (v := 1) hx hb dL_refused_13 (by decide) ?_
  refine lv_icmp_ne (tgt := 25) hx hb dL_refused_14 (by decide) (fun c_14 => ?_) (fun c_14 => absurd c_14 (by decide))
  refine lv_iload_n hx hb dL_refused_25 rfl (lv_at hl 1 rfl) ?_
  refine lv_iconst (v := 2) hx hb dL_refused_26 (by decide) ?_
  refine lv_icmp_ne (tgt := 39) hx hb dL_refused_27 (by decide) (fun c_27 => absurd c_27 (by decide)) (fun c_27 => ?_)
  refine lv_aload_n hx hb dL_refused_30 rfl (lv_at hl 0 rfl) ?_
  refine lv_iload_n hx hb dL_refused_31 rfl (lv_at hl 2 rfl) ?_
  refine lv_iload_n hx hb dL_refused_32 rfl (lv_at hl 3 rfl) ?_
  refine ro_callVT MC HS (rest := []) (As := [.int a9, .int b9]) (q_excuse hl9 hX hI) lkL_33 kw489 kw490 ⟨(Nat.le_of_ble_eq_true rfl), (Nat.le_of_ble_eq_true rfl)⟩ (ro_recv MC HP (hRR.l (by decide)) h0 (rfl : vwCl[5]? = some (RX6, TX6, 11))) hl.1 rfl (Nat.le_of_ble_eq_true rfl) dL_refused_33 ⟨(Nat.le_of_ble_eq_true rfl), (Nat.le_of_ble_eq_true rfl)⟩ (fun E9 ce9 q9 H9 l9 hp hz9 HS hcell hv9 hcl => ?_) (fun v9 H9 l9 hp hz9 HS => absurd hp.1 hne)
  obtain ⟨hg9, hp⟩ := hp
  rcases hp with ⟨hth, rfl⟩ | ⟨hth, rfl⟩ | ⟨hth, rfl⟩
  · refine ro_catch MC hT 0 rfl ⟨by omega, by omega⟩ (by decide) kw523 (by decide +kernel) (fun j hj => absurd hj (by omega)) hcell hv9 hcl ?_
    refine lv_astore (lv' := [(4, .ref q9), (0, .ref (ad 0)), (1, .int 2), (2, .int a9), (3, .int b9)]) hx hb dL_refused_87 hl (by decide) rfl (fun ls hl => ?_)
    refine lv_iconst (v := 1) hx hb dL_refused_89 (by decide) ?_
    exact ro_iretM MC HS hr (⟨by rw [hth]; rfl, hB.keep hg9⟩) (Nat.le_of_ble_eq_true rfl) (Nat.le_of_ble_eq_true rfl) dL_refused_90
  · refine ro_catch MC hT 1 rfl ⟨by omega, by omega⟩ (by decide) kw524 (by decide +kernel) (fun j hj q hq => by rcases j with _ | j; (· cases hq; exact ⟨by decide, _, kw523, by decide +kernel⟩); (· omega)) hcell hv9 hcl ?_
    refine lv_astore (lv' := [(4, .ref q9), (0, .ref (ad 0)), (1, .int 2), (2, .int a9), (3, .int b9)]) hx hb dL_refused_91 hl (by decide) rfl (fun ls hl => ?_)
    refine lv_iconst (v := 2) hx hb dL_refused_93 (by decide) ?_
    exact ro_iretM MC HS hr (⟨by rw [hth]; rfl, hB.keep hg9⟩) (Nat.le_of_ble_eq_true rfl) (Nat.le_of_ble_eq_true rfl) dL_refused_94
  · refine ro_catch MC hT 3 rfl ⟨by omega, by omega⟩ (by decide) kw526 (by decide +kernel) (fun j hj q hq => by rcases j with _ | _ | _ | j; (· cases hq; exact ⟨by decide, _, kw523, by decide +kernel⟩); (· cases hq; exact ⟨by decide, _, kw524, by decide +kernel⟩); (· cases hq; exact ⟨by decide, _, kw525, by decide +kernel⟩); (· omega)) hcell hv9 hcl ?_
    refine lv_astore (lv' := [(4, .ref q9), (0, .ref (ad 0)), (1, .int 2), (2, .int a9), (3, .int b9)]) hx hb dL_refused_99 hl (by decide) rfl (fun ls hl => ?_)
    refine lv_iconst (v := 4) hx hb dL_refused_101 (by decide) ?_
    exact ro_iretM MC HS hr (⟨by rw [hth]; rfl, hB.keep hg9⟩) (Nat.le_of_ble_eq_true rfl) (Nat.le_of_ble_eq_true rfl) dL_refused_102
set_option maxHeartbeats 4000000 in
set_option maxRecDepth 100000 in
theorem r_lift {l : Launch} (hl9 : l.stackTraces = false) {D : va_G} {ids : Nat → ClassId} {n0 : Nat} {aa : Nat → Nat} {τ : Tau} {nw ns nl nc : Nat} {A : Tau} {Hh : Heap} (hB : wB D ids n0 aa τ nw ns nl nc A Hh) {a9 b9 : Int32} (hne : ¬ th_lift τ a9 = 0) : ro_MW l yL_refused cL_refused 5 (some FieldType.int) [(0, 86, 87, 49), (0, 86, 91, 51), (0, 86, 95, 53), (0, 86, 99, 55)] { frames := 9, cells := 8, slots := 48, locals := 280 } D ids n0 [.ref (aa 0), .int 3, .int a9, .int b9] Hh (fun v H1 => v = some (.int (rf_lift (th_lift τ a9))) ∧ wB D ids n0 aa τ nw ns nl nc A H1) := by
  refine ro_ofW (by decide +kernel) (Nat.le_of_ble_eq_true rfl) ?_
  intro p e s m below meth c MC hhp hr hT HS ls hl
  have hx := MC.1.1
  have hb := MC.1.2.1
  have hl : lv_has ls 5 [(0, .ref (aa 0)), (1, .int 3), (2, .int a9), (3, .int b9)] := hl
  obtain ⟨hI, RR, ad, cn, hX, hW, had⟩ := id hB
  rw [← had 0 (by omega)] at hl
  obtain ⟨HP, hRR, sa, bm, fm, lf, ff, cf, h0, h1, h1b, h2, h2b, h7, h7b, h3, h3b, h40, h4, h4b, h60, h5, h6⟩ := id hX
  refine lv_iload_n hx hb dL_refused_0 rfl (lv_at hl 1 rfl) ?_
  refine lv_if_ne (tgt := 12) hx hb dL_refused_1 (by decide) (fun c_1 => ?_) (fun c_1 => absurd c_1 (by decide))
  refine lv_iload_n hx hb dL_refused_12 rfl (lv_at hl 1 rfl) ?_
  refine lv_iconst (v := 1) hx hb dL_refused_13 (by decide) ?_
  refine lv_icmp_ne (tgt := 25) hx hb dL_refused_14 (by decide) (fun c_14 => ?_) (fun c_14 => absurd c_14 (by decide))
  refine lv_iload_n hx hb dL_refused_25 rfl (lv_at hl 1 rfl) ?_
  refine lv_iconst (v := 2) hx hb dL_refused_26 (by decide) ?_
  refine lv_icmp_ne (tgt := 39) hx hb dL_refused_27 (by decide) (fun c_27 => ?_) (fun c_27 => absurd c_27 (by decide))
  refine lv_iload_n hx hb dL_refused_39 rfl (lv_at hl 1 rfl) ?_
  refine lv_iconst (v := 3) hx hb dL_refused_40 (by decide) ?_
  refine lv_icmp_ne (tgt := 52) hx hb dL_refused_41 (by decide) (fun c_41 => absurd c_41 (by decide)) (fun c_41 => ?_)
  refine lv_aload_n hx hb dL_refused_44 rfl (lv_at hl 0 rfl) ?_
  refine lv_iload_n hx hb dL_refused_45 rfl (lv_at hl 2 rfl) ?_
  refine ro_callVT MC HS (rest := []) (As := [.int a9]) (q_lift hl9 hX hI) lkL_37 kw316 kw317 ⟨(Nat.le_of_ble_eq_true rfl), (Nat.le_of_ble_eq_true rfl)⟩ (ro_recv MC HP (hRR.l (by decide)) h0 (rfl : vwCl[5]? = some (RX6, TX6, 11))) hl.1 rfl (Nat.le_of_ble_eq_true rfl) dL_refused_46 ⟨(Nat.le_of_ble_eq_true rfl), (Nat.le_of_ble_eq_true rfl)⟩ (fun E9 ce9 q9 H9 l9 hp hz9 HS hcell hv9 hcl => ?_) (fun v9 H9 l9 hp hz9 HS => absurd hp.1 hne)
  obtain ⟨hg9, hp⟩ := hp
  obtain ⟨hth, rfl⟩ := hp
  refine ro_catch MC hT 1 rfl ⟨by omega, by omega⟩ (by decide) kw524 (by decide +kernel) (fun j hj q hq => by rcases j with _ | j; (· cases hq; exact ⟨by decide, _, kw523, by decide +kernel⟩); (· omega)) hcell hv9 hcl ?_
  refine lv_astore (lv' := [(4, .ref q9), (0, .ref (ad 0)), (1, .int 3), (2, .int a9), (3, .int b9)]) hx hb dL_refused_91 hl (by decide) rfl (fun ls hl => ?_)
  refine lv_iconst (v := 2) hx hb dL_refused_93 (by decide) ?_
  exact ro_iretM MC HS hr (⟨by rw [hth]; rfl, hB.keep hg9⟩) (Nat.le_of_ble_eq_true rfl) (Nat.le_of_ble_eq_true rfl) dL_refused_94
set_option maxHeartbeats 4000000 in
set_option maxRecDepth 100000 in
theorem r_move {l : Launch} (hl9 : l.stackTraces = false) {D : va_G} {ids : Nat → ClassId} {n0 : Nat} {aa : Nat → Nat} {τ : Tau} {nw ns nl nc : Nat} {A : Tau} {Hh : Heap} (hB : wB D ids n0 aa τ nw ns nl nc A Hh) {a9 b9 : Int32} (hne : ¬ th_move τ a9 b9 = 0) : ro_MW l yL_refused cL_refused 5 (some FieldType.int) [(0, 86, 87, 49), (0, 86, 91, 51), (0, 86, 95, 53), (0, 86, 99, 55)] { frames := 9, cells := 8, slots := 48, locals := 280 } D ids n0 [.ref (aa 0), .int 4, .int a9, .int b9] Hh (fun v H1 => v = some (.int (rf_move (th_move τ a9 b9))) ∧ wB D ids n0 aa τ nw ns nl nc A H1) := by
  refine ro_ofW (by decide +kernel) (Nat.le_of_ble_eq_true rfl) ?_
  intro p e s m below meth c MC hhp hr hT HS ls hl
  have hx := MC.1.1
  have hb := MC.1.2.1
  have hl : lv_has ls 5 [(0, .ref (aa 0)), (1, .int 4), (2, .int a9), (3, .int b9)] := hl
  obtain ⟨hI, RR, ad, cn, hX, hW, had⟩ := id hB
  rw [← had 0 (by omega)] at hl
  obtain ⟨HP, hRR, sa, bm, fm, lf, ff, cf, h0, h1, h1b, h2, h2b, h7, h7b, h3, h3b, h40, h4, h4b, h60, h5, h6⟩ := id hX
  refine lv_iload_n hx hb dL_refused_0 rfl (lv_at hl 1 rfl) ?_
  refine lv_if_ne (tgt := 12) hx hb dL_refused_1 (by decide) (fun c_1 => ?_) (fun c_1 => absurd c_1 (by decide))
  refine lv_iload_n hx hb dL_refused_12 rfl (lv_at hl 1 rfl) ?_
  refine lv_iconst (v := 1) hx hb dL_refused_13 (by decide) ?_
  refine lv_icmp_ne (tgt := 25) hx hb dL_refused_14 (by decide) (fun c_14 => ?_) (fun c_14 => absurd c_14 (by decide))
  refine lv_iload_n hx hb dL_refused_25 rfl (lv_at hl 1 rfl) ?_
  refine lv_iconst (v := 2) hx hb dL_refused_26 (by decide) ?_
  refine lv_icmp_ne (tgt := 39) hx hb dL_refused_27 (by decide) (fun c_27 => ?_) (fun c_27 => absurd c_27 (by decide))
  refine lv_iload_n hx hb dL_refused_39 rfl (lv_at hl 1 rfl) ?_
  refine lv_iconst (v := 3) hx hb dL_refused_40 (by decide) ?_
  refine lv_icmp_ne (tgt := 52) hx hb dL_refused_41 (by decide) (fun c_41 => ?_) (fun c_41 => absurd c_41 (by decide))
  refine lv_iload_n hx hb dL_refused_52 rfl (lv_at hl 1 rfl) ?_
  refine lv_iconst (v := 4) hx hb dL_refused_53 (by decide) ?_
  refine lv_icmp_ne (tgt := 66) hx hb dL_refused_54 (by decide) (fun c_54 => absurd c_54 (by decide)) (fun c_54 => ?_)
  refine lv_aload_n hx hb dL_refused_57 rfl (lv_at hl 0 rfl) ?_
  refine lv_iload_n hx hb dL_refused_58 rfl (lv_at hl 2 rfl) ?_
  refine lv_iload_n hx hb dL_refused_59 rfl (lv_at hl 3 rfl) ?_
  refine ro_callVT MC HS (rest := []) (As := [.int a9, .int b9]) (q_move hl9 hX hI) lkL_40 kw432 kw433 ⟨(Nat.le_of_ble_eq_true rfl), (Nat.le_of_ble_eq_true rfl)⟩ (ro_recv MC HP (hRR.l (by decide)) h0 (rfl : vwCl[5]? = some (RX6, TX6, 11))) hl.1 rfl (Nat.le_of_ble_eq_true rfl) dL_refused_60 ⟨(Nat.le_of_ble_eq_true rfl), (Nat.le_of_ble_eq_true rfl)⟩ (fun E9 ce9 q9 H9 l9 hp hz9 HS hcell hv9 hcl => ?_) (fun v9 H9 l9 hp hz9 HS => absurd hp.1 hne)
  obtain ⟨hg9, hp⟩ := hp
  rcases hp with ⟨hth, rfl⟩ | ⟨hth, rfl⟩ | ⟨hth, rfl⟩
  · refine ro_catch MC hT 0 rfl ⟨by omega, by omega⟩ (by decide) kw523 (by decide +kernel) (fun j hj => absurd hj (by omega)) hcell hv9 hcl ?_
    refine lv_astore (lv' := [(4, .ref q9), (0, .ref (ad 0)), (1, .int 4), (2, .int a9), (3, .int b9)]) hx hb dL_refused_87 hl (by decide) rfl (fun ls hl => ?_)
    refine lv_iconst (v := 1) hx hb dL_refused_89 (by decide) ?_
    exact ro_iretM MC HS hr (⟨by rw [hth]; rfl, hB.keep hg9⟩) (Nat.le_of_ble_eq_true rfl) (Nat.le_of_ble_eq_true rfl) dL_refused_90
  · refine ro_catch MC hT 2 rfl ⟨by omega, by omega⟩ (by decide) kw525 (by decide +kernel) (fun j hj q hq => by rcases j with _ | _ | j; (· cases hq; exact ⟨by decide, _, kw523, by decide +kernel⟩); (· cases hq; exact ⟨by decide, _, kw524, by decide +kernel⟩); (· omega)) hcell hv9 hcl ?_
    refine lv_astore (lv' := [(4, .ref q9), (0, .ref (ad 0)), (1, .int 4), (2, .int a9), (3, .int b9)]) hx hb dL_refused_95 hl (by decide) rfl (fun ls hl => ?_)
    refine lv_iconst (v := 3) hx hb dL_refused_97 (by decide) ?_
    exact ro_iretM MC HS hr (⟨by rw [hth]; rfl, hB.keep hg9⟩) (Nat.le_of_ble_eq_true rfl) (Nat.le_of_ble_eq_true rfl) dL_refused_98
  · refine ro_catch MC hT 3 rfl ⟨by omega, by omega⟩ (by decide) kw526 (by decide +kernel) (fun j hj q hq => by rcases j with _ | _ | _ | j; (· cases hq; exact ⟨by decide, _, kw523, by decide +kernel⟩); (· cases hq; exact ⟨by decide, _, kw524, by decide +kernel⟩); (· cases hq; exact ⟨by decide, _, kw525, by decide +kernel⟩); (· omega)) hcell hv9 hcl ?_
    refine lv_astore (lv' := [(4, .ref q9), (0, .ref (ad 0)), (1, .int 4), (2, .int a9), (3, .int b9)]) hx hb dL_refused_99 hl (by decide) rfl (fun ls hl => ?_)
    refine lv_iconst (v := 4) hx hb dL_refused_101 (by decide) ?_
    exact ro_iretM MC HS hr (⟨by rw [hth]; rfl, hB.keep hg9⟩) (Nat.le_of_ble_eq_true rfl) (Nat.le_of_ble_eq_true rfl) dL_refused_102
set_option maxHeartbeats 4000000 in
set_option maxRecDepth 100000 in
theorem r_pass {l : Launch} (hl9 : l.stackTraces = false) {D : va_G} {ids : Nat → ClassId} {n0 : Nat} {aa : Nat → Nat} {τ : Tau} {nw ns nl nc : Nat} {A : Tau} {Hh : Heap} (hB : wB D ids n0 aa τ nw ns nl nc A Hh) {a9 b9 : Int32} (hne : ¬ th_pass τ a9 = 0) : ro_MW l yL_refused cL_refused 5 (some FieldType.int) [(0, 86, 87, 49), (0, 86, 91, 51), (0, 86, 95, 53), (0, 86, 99, 55)] { frames := 9, cells := 8, slots := 48, locals := 280 } D ids n0 [.ref (aa 0), .int 5, .int a9, .int b9] Hh (fun v H1 => v = some (.int (rf_pass (th_pass τ a9))) ∧ wB D ids n0 aa τ nw ns nl nc A H1) := by
  refine ro_ofW (by decide +kernel) (Nat.le_of_ble_eq_true rfl) ?_
  intro p e s m below meth c MC hhp hr hT HS ls hl
  have hx := MC.1.1
  have hb := MC.1.2.1
  have hl : lv_has ls 5 [(0, .ref (aa 0)), (1, .int 5), (2, .int a9), (3, .int b9)] := hl
  obtain ⟨hI, RR, ad, cn, hX, hW, had⟩ := id hB
  rw [← had 0 (by omega)] at hl
  obtain ⟨HP, hRR, sa, bm, fm, lf, ff, cf, h0, h1, h1b, h2, h2b, h7, h7b, h3, h3b, h40, h4, h4b, h60, h5, h6⟩ := id hX
  refine lv_iload_n hx hb dL_refused_0 rfl (lv_at hl 1 rfl) ?_
  refine lv_if_ne (tgt := 12) hx hb dL_refused_1 (by decide) (fun c_1 => ?_) (fun c_1 => absurd c_1 (by decide))
  refine lv_iload_n hx hb dL_refused_12 rfl (lv_at hl 1 rfl) ?_
  refine lv_iconst (v := 1) hx hb dL_refused_13 (by decide) ?_
  refine lv_icmp_ne (tgt := 25) hx hb dL_refused_14 (by decide) (fun c_14 => ?_) (fun c_14 => absurd c_14 (by decide))
  refine lv_iload_n hx hb dL_refused_25 rfl (lv_at hl 1 rfl) ?_
  refine lv_iconst (v := 2) hx hb dL_refused_26 (by decide) ?_
  refine lv_icmp_ne (tgt := 39) hx hb dL_refused_27 (by decide) (fun c_27 => ?_) (fun c_27 => absurd c_27 (by decide))
  refine lv_iload_n hx hb dL_refused_39 rfl (lv_at hl 1 rfl) ?_
  refine lv_iconst (v := 3) hx hb dL_refused_40 (by decide) ?_
  refine lv_icmp_ne (tgt := 52) hx hb dL_refused_41 (by decide) (fun c_41 => ?_) (fun c_41 => absurd c_41 (by decide))
  refine lv_iload_n hx hb dL_refused_52 rfl (lv_at hl 1 rfl) ?_
  refine lv_iconst (v := 4) hx hb dL_refused_53 (by decide) ?_
  refine lv_icmp_ne (tgt := 66) hx hb dL_refused_54 (by decide) (fun c_54 => ?_) (fun c_54 => absurd c_54 (by decide))
  refine lv_iload_n hx hb dL_refused_66 rfl (lv_at hl 1 rfl) ?_
  refine lv_iconst (v := 5) hx hb dL_refused_67 (by decide) ?_
  refine lv_icmp_ne (tgt := 79) hx hb dL_refused_68 (by decide) (fun c_68 => absurd c_68 (by decide)) (fun c_68 => ?_)
  refine lv_aload_n hx hb dL_refused_71 rfl (lv_at hl 0 rfl) ?_
  refine lv_iload_n hx hb dL_refused_72 rfl (lv_at hl 2 rfl) ?_
  refine ro_callVT MC HS (rest := []) (As := [.int a9]) (q_pass hl9 hX hI) lkL_43 kw232 kw233 ⟨(Nat.le_of_ble_eq_true rfl), (Nat.le_of_ble_eq_true rfl)⟩ (ro_recv MC HP (hRR.l (by decide)) h0 (rfl : vwCl[5]? = some (RX6, TX6, 11))) hl.1 rfl (Nat.le_of_ble_eq_true rfl) dL_refused_73 ⟨(Nat.le_of_ble_eq_true rfl), (Nat.le_of_ble_eq_true rfl)⟩ (fun E9 ce9 q9 H9 l9 hp hz9 HS hcell hv9 hcl => ?_) (fun v9 H9 l9 hp hz9 HS => absurd hp.1 hne)
  obtain ⟨hg9, hp⟩ := hp
  rcases hp with ⟨hth, rfl⟩ | ⟨hth, rfl⟩
  · refine ro_catch MC hT 2 rfl ⟨by omega, by omega⟩ (by decide) kw525 (by decide +kernel) (fun j hj q hq => by rcases j with _ | _ | j; (· cases hq; exact ⟨by decide, _, kw523, by decide +kernel⟩); (· cases hq; exact ⟨by decide, _, kw524, by decide +kernel⟩); (· omega)) hcell hv9 hcl ?_
    refine lv_astore (lv' := [(4, .ref q9), (0, .ref (ad 0)), (1, .int 5), (2, .int a9), (3, .int b9)]) hx hb dL_refused_95 hl (by decide) rfl (fun ls hl => ?_)
    refine lv_iconst (v := 3) hx hb dL_refused_97 (by decide) ?_
    exact ro_iretM MC HS hr (⟨by rw [hth]; rfl, hB.keep hg9⟩) (Nat.le_of_ble_eq_true rfl) (Nat.le_of_ble_eq_true rfl) dL_refused_98
  · refine ro_catch MC hT 3 rfl ⟨by omega, by omega⟩ (by decide) kw526 (by decide +kernel) (fun j hj q hq => by rcases j with _ | _ | _ | j; (· cases hq; exact ⟨by decide, _, kw523, by decide +kernel⟩); (· cases hq; exact ⟨by decide, _, kw524, by decide +kernel⟩); (· cases hq; exact ⟨by decide, _, kw525, by decide +kernel⟩); (· omega)) hcell hv9 hcl ?_
    refine lv_astore (lv' := [(4, .ref q9), (0, .ref (ad 0)), (1, .int 5), (2, .int a9), (3, .int b9)]) hx hb dL_refused_99 hl (by decide) rfl (fun ls hl => ?_)
    refine lv_iconst (v := 4) hx hb dL_refused_101 (by decide) ?_
    exact ro_iretM MC HS hr (⟨by rw [hth]; rfl, hB.keep hg9⟩) (Nat.le_of_ble_eq_true rfl) (Nat.le_of_ble_eq_true rfl) dL_refused_102
set_option maxHeartbeats 4000000 in
set_option maxRecDepth 100000 in
theorem r_hours {l : Launch} (hl9 : l.stackTraces = false) {D : va_G} {ids : Nat → ClassId} {n0 : Nat} {aa : Nat → Nat} {τ : Tau} {nw ns nl nc : Nat} {A : Tau} {Hh : Heap} (hB : wB D ids n0 aa τ nw ns nl nc A Hh) {a9 b9 : Int32} (hne : ¬ th_hours τ a9 = 0) : ro_MW l yL_refused cL_refused 5 (some FieldType.int) [(0, 86, 87, 49), (0, 86, 91, 51), (0, 86, 95, 53), (0, 86, 99, 55)] { frames := 9, cells := 8, slots := 48, locals := 280 } D ids n0 [.ref (aa 0), .int 6, .int a9, .int b9] Hh (fun v H1 => v = some (.int (rf_hours (th_hours τ a9))) ∧ wB D ids n0 aa τ nw ns nl nc A H1) := by
  refine ro_ofW (by decide +kernel) (Nat.le_of_ble_eq_true rfl) ?_
  intro p e s m below meth c MC hhp hr hT HS ls hl
  have hx := MC.1.1
  have hb := MC.1.2.1
  have hl : lv_has ls 5 [(0, .ref (aa 0)), (1, .int 6), (2, .int a9), (3, .int b9)] := hl
  obtain ⟨hI, RR, ad, cn, hX, hW, had⟩ := id hB
  rw [← had 0 (by omega)] at hl
  obtain ⟨HP, hRR, sa, bm, fm, lf, ff, cf, h0, h1, h1b, h2, h2b, h7, h7b, h3, h3b, h40, h4, h4b, h60, h5, h6⟩ := id hX
  refine lv_iload_n hx hb dL_refused_0 rfl (lv_at hl 1 rfl) ?_
  refine lv_if_ne (tgt := 12) hx hb dL_refused_1 (by decide) (fun c_1 => ?_) (fun c_1 => absurd c_1 (by decide))
  refine lv_iload_n hx hb dL_refused_12 rfl (lv_at hl 1 rfl) ?_
  refine lv_iconst (v := 1) hx hb dL_refused_13 (by decide) ?_
  refine lv_icmp_ne (tgt := 25) hx hb dL_refused_14 (by decide) (fun c_14 => ?_) (fun c_14 => absurd c_14 (by decide))
  refine lv_iload_n hx hb dL_refused_25 rfl (lv_at hl 1 rfl) ?_
  refine lv_iconst (v := 2) hx hb dL_refused_26 (by decide) ?_
  refine lv_icmp_ne (tgt := 39) hx hb dL_refused_27 (by decide) (fun c_27 => ?_) (fun c_27 => absurd c_27 (by decide))
  refine lv_iload_n hx hb dL_refused_39 rfl (lv_at hl 1 rfl) ?_
  refine lv_iconst (v := 3) hx hb dL_refused_40 (by decide) ?_
  refine lv_icmp_ne (tgt := 52) hx hb dL_refused_41 (by decide) (fun c_41 => ?_) (fun c_41 => absurd c_41 (by decide))
  refine lv_iload_n hx hb dL_refused_52 rfl (lv_at hl 1 rfl) ?_
  refine lv_iconst (v := 4) hx hb dL_refused_53 (by decide) ?_
  refine lv_icmp_ne (tgt := 66) hx hb dL_refused_54 (by decide) (fun c_54 => ?_) (fun c_54 => absurd c_54 (by decide))
  refine lv_iload_n hx hb dL_refused_66 rfl (lv_at hl 1 rfl) ?_
  refine lv_iconst (v := 5) hx hb dL_refused_67 (by decide) ?_
  refine lv_icmp_ne (tgt := 79) hx hb dL_refused_68 (by decide) (fun c_68 => ?_) (fun c_68 => absurd c_68 (by decide))
  refine lv_aload_n hx hb dL_refused_79 rfl (lv_at hl 0 rfl) ?_
  refine lv_iload_n hx hb dL_refused_80 rfl (lv_at hl 2 rfl) ?_
  refine ro_callVT MC HS (rest := []) (As := [.int a9]) (q_hours hl9 hX hI) lkL_46 kw384 kw385 ⟨(Nat.le_of_ble_eq_true rfl), (Nat.le_of_ble_eq_true rfl)⟩ (ro_recv MC HP (hRR.l (by decide)) h0 (rfl : vwCl[5]? = some (RX6, TX6, 11))) hl.1 rfl (Nat.le_of_ble_eq_true rfl) dL_refused_81 ⟨(Nat.le_of_ble_eq_true rfl), (Nat.le_of_ble_eq_true rfl)⟩ (fun E9 ce9 q9 H9 l9 hp hz9 HS hcell hv9 hcl => ?_) (fun v9 H9 l9 hp hz9 HS => absurd hp.1 hne)
  obtain ⟨hg9, hp⟩ := hp
  obtain ⟨hth, rfl⟩ := hp
  refine ro_catch MC hT 1 rfl ⟨by omega, by omega⟩ (by decide) kw524 (by decide +kernel) (fun j hj q hq => by rcases j with _ | j; (· cases hq; exact ⟨by decide, _, kw523, by decide +kernel⟩); (· omega)) hcell hv9 hcl ?_
  refine lv_astore (lv' := [(4, .ref q9), (0, .ref (ad 0)), (1, .int 6), (2, .int a9), (3, .int b9)]) hx hb dL_refused_91 hl (by decide) rfl (fun ls hl => ?_)
  refine lv_iconst (v := 2) hx hb dL_refused_93 (by decide) ?_
  exact ro_iretM MC HS hr (⟨by rw [hth]; rfl, hB.keep hg9⟩) (Nat.le_of_ble_eq_true rfl) (Nat.le_of_ble_eq_true rfl) dL_refused_94
