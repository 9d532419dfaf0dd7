set_option maxHeartbeats 4000000 in
set_option maxRecDepth 100000 in
theorem x_markBad {l : Launch} {D : va_G} {ids : Nat → ClassId} {n0 : Nat} {RR : List Nat} {ad : Nat → Nat} {cn : Nat → va_E} {τ : Tau} {ns nl nc : Nat} {Hh : Heap} {bm : Nat → Int32} (hB : xB D ids n0 RR ad cn τ ns nl nc bm Hh) {nw : Nat} (hI : Iv τ nw ns nl nc) {k q b9 n9 : Nat} (hk : k < nc) (hq : q < nl) (hb9 : τ 12 k = nI b9) (hn9 : τ 13 k = nI n9) (hn1 : n9 ≤ 100) (hbn : b9 + n9 ≤ 672) {mm : Nat → Bool} (hm0 : ∀ i, i < 100 → (bm i == 0) = !mm i) : ro_M l yX6_markBadHours cX6_markBadHours 5 (some FieldType.int) { frames := 4, cells := 0, slots := 0, locals := 120 } D ids n0 [.ref (ad 0), .ref (ad (60 + k)), .ref (ad (40 + q))] Hh (fun v H1 => ∃ cn1 bm1, xB D ids n0 RR ad cn1 τ ns nl nc bm1 H1 ∧ eq6 cn cn1 ∧ (∀ i, i < 100 → (bm1 i == 0) = !(mm i || (decide (i < n9) && hoB τ q (nI (b9 + i))))) ∧ v = some (.int (nI (ct (fun i => !mm i && hoB τ q (nI (b9 + i))) n9)))) := by
  refine ro_ofM (by decide +kernel) (Nat.le_of_ble_eq_true rfl) ?_
  intro p e s m below meth c MC hhp hr hnm HS ls hl
  have hx := MC.1.1
  have hb := MC.1.2.1
  have hl : lv_has ls 5 [(0, .ref (ad 0)), (1, .ref (ad (60 + k))), (2, .ref (ad (40 + q)))] := hl
  have hnl := hI.2.2.1.2
  have hns := hI.2.1.2.2
  have hcs : cx (τ 0 2) = nl := by rw [hI.2.2.1.1]; exact cx_nI (by omega)
  have hnc := hI.2.2.2.1.2
  refine lv_iconst (v := 0) hx hb dX6_markBadHours_0 (by decide) ?_
  refine lv_istore_n (lv' := [(3, .int 0), (0, .ref (ad 0)), (1, .ref (ad (60 + k))), (2, .ref (ad (40 + q)))]) hx hb dX6_markBadHours_1 rfl hl (by decide) rfl (fun ls hl => ?_)
  refine lv_iconst (v := 0) hx hb dX6_markBadHours_2 (by decide) ?_
  refine lv_istore (lv' := [(4, .int 0), (3, .int 0), (0, .ref (ad 0)), (1, .ref (ad (60 + k))), (2, .ref (ad (40 + q)))]) hx hb dX6_markBadHours_3 hl (by decide) rfl (fun ls hl => ?_)
  have loop : ∀ j : Nat, j ≤ n9 → ∀ (cn1 : Nat → va_E) (bm1 : Nat → Int32) (H1 : Heap) (locs : List Loc) (ls : Array Slot), xB D ids n0 RR ad cn1 τ ns nl nc bm1 H1 → eq6 cn cn1 → (∀ i, i < 100 → (bm1 i == 0) = !(mm i || (decide (i < j) && hoB τ q (nI (b9 + i))))) → va_S (fun q => n0 ≤ q) s.heap H1 locs → lv_has ls 5 [(4, .int (nI j)), (3, .int (nI (ct (fun i => !mm i && hoB τ q (nI (b9 + i))) j))), (0, .ref (ad 0)), (1, .ref (ad (60 + k))), (2, .ref (ad (40 + q)))] → W p l e { frames := 4, cells := 0, slots := 0, locals := 120 } s m ([.ref (ad 0), .ref (ad (60 + k)), .ref (ad (40 + q))] : List Value).toArray below meth c H1 locs 0 0 (MQ below (ro_Q n0 (fun v H1 => ∃ cn1 bm1, xB D ids n0 RR ad cn1 τ ns nl nc bm1 H1 ∧ eq6 cn cn1 ∧ (∀ i, i < 100 → (bm1 i == 0) = !(mm i || (decide (i < n9) && hoB τ q (nI (b9 + i))))) ∧ v = some (.int (nI (ct (fun i => !mm i && hoB τ q (nI (b9 + i))) n9))))) ([.ref (ad 0), .ref (ad (60 + k)), .ref (ad (40 + q))] : List Value).toArray s 0 0 (fun q => n0 ≤ q)) (F0 m 5 ls []) := by
    refine ro_loop n9 (fun j : Nat => ∀ (cn1 : Nat → va_E) (bm1 : Nat → Int32) (H1 : Heap) (locs : List Loc) (ls : Array Slot), xB D ids n0 RR ad cn1 τ ns nl nc bm1 H1 → eq6 cn cn1 → (∀ i, i < 100 → (bm1 i == 0) = !(mm i || (decide (i < j) && hoB τ q (nI (b9 + i))))) → va_S (fun q => n0 ≤ q) s.heap H1 locs → lv_has ls 5 [(4, .int (nI j)), (3, .int (nI (ct (fun i => !mm i && hoB τ q (nI (b9 + i))) j))), (0, .ref (ad 0)), (1, .ref (ad (60 + k))), (2, .ref (ad (40 + q)))] → W p l e { frames := 4, cells := 0, slots := 0, locals := 120 } s m ([.ref (ad 0), .ref (ad (60 + k)), .ref (ad (40 + q))] : List Value).toArray below meth c H1 locs 0 0 (MQ below (ro_Q n0 (fun v H1 => ∃ cn1 bm1, xB D ids n0 RR ad cn1 τ ns nl nc bm1 H1 ∧ eq6 cn cn1 ∧ (∀ i, i < 100 → (bm1 i == 0) = !(mm i || (decide (i < n9) && hoB τ q (nI (b9 + i))))) ∧ v = some (.int (nI (ct (fun i => !mm i && hoB τ q (nI (b9 + i))) n9))))) ([.ref (ad 0), .ref (ad (60 + k)), .ref (ad (40 + q))] : List Value).toArray s 0 0 (fun q => n0 ≤ q)) (F0 m 5 ls [])) ?_ ?_
    · intro cn1 bm1 H1 locs ls hB1 he1 hm1 HS hl
      obtain ⟨HP, hRR, sa, fm, lf, ff, cf, h0, h1, h1b, h2, h2b, h7, h7b, h3, h3b, h40, h4, h4b, h60, h5, h6⟩ := id hB1
      refine lv_iload hx hb dX6_markBadHours_5 (lv_at hl 0 rfl) ?_
      refine lv_aload_n hx hb dX6_markBadHours_7 rfl (lv_at hl 3 rfl) ?_
      refine ro_get MC HP (hRR.c (show k < nc by omega)) (h60 k (by omega)) (rfl : vwCl[0]? = some (RX0, TX0, 8)) inU0 1 (by decide) kw404 rfl rfl dX6_markBadHours_8 ?_
      refine lv_icmp_ge (tgt := 62) hx hb dX6_markBadHours_11 (by decide) (fun c_11 => ?_) (fun c_11 => absurd (kn_le hn9 (Nat.le_refl _) (by omega)) c_11)
      refine lv_iload_n hx hb dX6_markBadHours_62 rfl (lv_at hl 1 rfl) ?_
      exact ro_iretM MC HS hr (⟨cn1, bm1, hB1, he1, hm1, rfl⟩) (Nat.le_of_ble_eq_true rfl) (Nat.le_of_ble_eq_true rfl) dX6_markBadHours_63
    · intro j hj ih cn1 bm1 H1 locs ls hB1 he1 hm1 HS hl
      obtain ⟨HP, hRR, sa, fm, lf, ff, cf, h0, h1, h1b, h2, h2b, h7, h7b, h3, h3b, h40, h4, h4b, h60, h5, h6⟩ := id hB1
      have hX := hB1.h
      refine lv_iload hx hb dX6_markBadHours_5 (lv_at hl 0 rfl) ?_
      refine lv_aload_n hx hb dX6_markBadHours_7 rfl (lv_at hl 3 rfl) ?_
      refine ro_get MC HP (hRR.c (show k < nc by omega)) (h60 k (by omega)) (rfl : vwCl[0]? = some (RX0, TX0, 8)) inU0 1 (by decide) kw404 rfl rfl dX6_markBadHours_8 ?_
      refine lv_icmp_ge (tgt := 62) hx hb dX6_markBadHours_11 (by decide) (fun c_11 => absurd c_11 (kn_nle hn9 (show j < n9 by omega) (by omega))) (fun c_11 => ?_)
      refine lv_iload hx hb dX6_markBadHours_14 (lv_at hl 0 rfl) ?_
      refine lv_bipush (v := 100) hx hb dX6_markBadHours_16 (by decide) ?_
      refine lv_icmp_ge (tgt := 62) hx hb dX6_markBadHours_18 (by decide) (fun c_18 => absurd c_18 (kn_nle (n := 100) rfl (show j < 100 by omega) (by omega))) (fun c_18 => ?_)
      refine lv_aload_n hx hb dX6_markBadHours_21 rfl (lv_at hl 2 rfl) ?_
      refine ro_get MC HP (hRR.l (by decide)) h0 (rfl : vwCl[5]? = some (RX6, TX6, 11)) inU6 10 (by decide) kw71 rfl rfl dX6_markBadHours_22 ?_
      refine lv_iload hx hb dX6_markBadHours_25 (lv_at hl 0 rfl) ?_
      refine xo_zald MC HP (hRR.l (show 6 < 18 by omega)) h6 j (show j < 100 by omega) (by omega) rfl dX6_markBadHours_27 ?_
      refine lv_if_ne (tgt := 56) hx hb dX6_markBadHours_28 (by decide) (fun c_28 => ?_) (fun c_28 => ?_)
      · refine lv_iinc (v := nI j + 1) (lv' := [(4, .int (nI j + 1)), (3, .int (nI (ct (fun i => !mm i && hoB τ q (nI (b9 + i))) j))), (0, .ref (ad 0)), (1, .ref (ad (60 + k))), (2, .ref (ad (40 + q)))]) hx hb dX6_markBadHours_56 hl (k := 0) rfl rfl (by decide) rfl (fun ls hl => ?_)
        refine lv_goto (tgt := 5) hx hb dX6_markBadHours_59 (by decide) ?_
        have hmj : mm j = true := by have h9 := hm1 j (by omega); revert h9 c_28; cases mm j <;> simp
        rw [show ct (fun i => !mm i && hoB τ q (nI (b9 + i))) j = ct (fun i => !mm i && hoB τ q (nI (b9 + i))) (j + 1) by simp [ct, hmj], nI_1] at hl
        exact ih _ _ _ _ ls hB1 he1 (mkB_same hm1 (by simp [hmj])) HS (lv_sub hl [0, 1, 2, 3, 4] rfl)
      · refine lv_aload_n hx hb dX6_markBadHours_31 rfl (lv_at hl 4 rfl) ?_
        refine lv_aload_n hx hb dX6_markBadHours_32 rfl (lv_at hl 3 rfl) ?_
        refine ro_get MC HP (hRR.c (show k < nc by omega)) (h60 k (by omega)) (rfl : vwCl[0]? = some (RX0, TX0, 8)) inU0 3 (by decide) kw408 rfl rfl dX6_markBadHours_33 ?_
        refine lv_iload hx hb dX6_markBadHours_36 (lv_at hl 0 rfl) ?_
        refine lv_iadd hx hb dX6_markBadHours_38 ?_
        refine xo_holds hX hI MC HS (k := q) (hh := (b9 + j)) (show q < nl by omega) (by omega) (hr_add hb9) hl.1 (Nat.le_of_ble_eq_true rfl) ⟨Nat.le_of_ble_eq_true rfl, Nat.le_of_ble_eq_true rfl⟩ dX6_markBadHours_39 ⟨Nat.le_of_ble_eq_true rfl, Nat.le_of_ble_eq_true rfl⟩ (fun lH1 HS => ?_)
        refine lv_if_eq (tgt := 56) hx hb dX6_markBadHours_42 (by decide) (fun c_42 => ?_) (fun c_42 => ?_)
        · have f_42 := bI_0.mp c_42
          refine lv_iinc (v := nI j + 1) (lv' := [(4, .int (nI j + 1)), (3, .int (nI (ct (fun i => !mm i && hoB τ q (nI (b9 + i))) j))), (0, .ref (ad 0)), (1, .ref (ad (60 + k))), (2, .ref (ad (40 + q)))]) hx hb dX6_markBadHours_56 hl (k := 0) rfl rfl (by decide) rfl (fun ls hl => ?_)
          refine lv_goto (tgt := 5) hx hb dX6_markBadHours_59 (by decide) ?_
          have hmj : hoB τ q (nI (b9 + j)) = false := by simpa using f_42
          rw [show ct (fun i => !mm i && hoB τ q (nI (b9 + i))) j = ct (fun i => !mm i && hoB τ q (nI (b9 + i))) (j + 1) by simp [ct, hmj], nI_1] at hl
          exact ih _ _ _ _ ls hB1 he1 (mkB_same hm1 (by simp [hmj])) HS (lv_sub hl [0, 1, 2, 3, 4] rfl)
        · have f_42 := bI_n0.mp c_42
          refine lv_aload_n hx hb dX6_markBadHours_45 rfl (lv_at hl 2 rfl) ?_
          refine ro_get MC HP (hRR.l (by decide)) h0 (rfl : vwCl[5]? = some (RX6, TX6, 11)) inU6 10 (by decide) kw71 rfl rfl dX6_markBadHours_46 ?_
          refine lv_iload hx hb dX6_markBadHours_49 (lv_at hl 0 rfl) ?_
          refine lv_iconst (v := 1) hx hb dX6_markBadHours_51 (by decide) ?_
          refine xo_zast MC HP HS (hRR.l (by decide)) h6 j (show j < 100 by omega) (by omega) rfl (by decide) dX6_markBadHours_52 (fun H2 locs2 HP2 HS => ?_)
          have hB2 := xB.up HP2 hRR ⟨h0, h1, h1b, h2, h2b, h7, h7b, h3, h3b, h40, h4, h4b, h60, h5, h6⟩ hnl
          refine lv_iinc (v := nI (ct (fun i => !mm i && hoB τ q (nI (b9 + i))) j) + 1) (lv' := [(3, .int (nI (ct (fun i => !mm i && hoB τ q (nI (b9 + i))) j) + 1)), (4, .int (nI j)), (0, .ref (ad 0)), (1, .ref (ad (60 + k))), (2, .ref (ad (40 + q)))]) hx hb dX6_markBadHours_53 hl (k := 1) rfl rfl (by decide) rfl (fun ls hl => ?_)
          refine lv_iinc (v := nI j + 1) (lv' := [(4, .int (nI j + 1)), (3, .int (nI (ct (fun i => !mm i && hoB τ q (nI (b9 + i))) j) + 1)), (0, .ref (ad 0)), (1, .ref (ad (60 + k))), (2, .ref (ad (40 + q)))]) hx hb dX6_markBadHours_56 hl (k := 1) rfl rfl (by decide) rfl (fun ls hl => ?_)
          refine lv_goto (tgt := 5) hx hb dX6_markBadHours_59 (by decide) ?_
          rw [ct_t (p := (fun i => !mm i && hoB τ q (nI (b9 + i)))) (k := j) (by have h9 := hm1 j (by omega); rw [c_28] at h9; revert h9 f_42; cases mm j <;> cases hoB τ q (nI (b9 + j)) <;> simp), nI_1] at hl
          exact ih _ _ _ _ ls hB2 he1.up (mkB_new hm1 f_42) HS (lv_sub hl [0, 1, 2, 3, 4] rfl)
  exact loop 0 (Nat.zero_le _) cn bm _ _ ls hB (eq6.rf _) (fun i hi => by rw [hm0 i hi]; simp) HS (lv_sub hl [0, 1, 2, 3, 4] rfl)
set_option maxHeartbeats 4000000 in
set_option maxRecDepth 100000 in
theorem x_countBad {l : Launch} {D : va_G} {ids : Nat → ClassId} {n0 : Nat} {RR : List Nat} {ad : Nat → Nat} {cn : Nat → va_E} {τ : Tau} {ns nl nc : Nat} {Hh : Heap} (hX : xH D ids n0 RR ad cn τ ns nl nc Hh) {nw : Nat} (hI : Iv τ nw ns nl nc) {k : Nat} (hk : k < nc) : ro_M l yX6_countBadHours cX6_countBadHours 6 (some FieldType.int) { frames := 6, cells := 0, slots := 0, locals := 180 } D ids n0 [.ref (ad 0), .ref (ad (60 + k))] Hh (fun v H1 => ∃ cn1, xH D ids n0 RR ad cn1 τ ns nl nc H1 ∧ eq6 cn cn1 ∧ v = some (.int (nI (badN τ k)))) := by
  refine ro_ofM (by decide +kernel) (Nat.le_of_ble_eq_true rfl) ?_
  intro p e s m below meth c MC hhp hr hnm HS ls hl
  have hx := MC.1.1
  have hb := MC.1.2.1
  have hl : lv_has ls 6 [(0, .ref (ad 0)), (1, .ref (ad (60 + k)))] := hl
  have hnl := hI.2.2.1.2
  have hns := hI.2.1.2.2
  have hcs : cx (τ 0 2) = nl := by rw [hI.2.2.1.1]; exact cx_nI (by omega)
  have hnc := hI.2.2.2.1.2
  obtain ⟨⟨u, hu, hsu⟩, ⟨b9, n9, hb9, hn9, h1n, hn1, hbn⟩, -, -, hbg⟩ := hI.2.2.2.2.2.2.2.2.2.2.1 k hk
  have hcl : cx (τ 13 k) = n9 := by rw [hn9]; exact cx_nI (by omega)
  obtain ⟨bm, hB⟩ := hX.b
  refine lv_iconst (v := 0) hx hb dX6_countBadHours_0 (by decide) ?_
  refine lv_istore_n (lv' := [(2, .int 0), (0, .ref (ad 0)), (1, .ref (ad (60 + k)))]) hx hb dX6_countBadHours_1 rfl hl (by decide) rfl (fun ls hl => ?_)
  have loop : ∀ j : Nat, j ≤ 100 → ∀ (cn1 : Nat → va_E) (bm1 : Nat → Int32) (H1 : Heap) (locs : List Loc) (ls : Array Slot), xB D ids n0 RR ad cn1 τ ns nl nc bm1 H1 → eq6 cn cn1 → (∀ i, i < j → bm1 i = 0) → va_S (fun q => n0 ≤ q) s.heap H1 locs → lv_has ls 6 [(2, .int (nI j)), (0, .ref (ad 0)), (1, .ref (ad (60 + k)))] → W p l e { frames := 6, cells := 0, slots := 0, locals := 180 } s m ([.ref (ad 0), .ref (ad (60 + k))] : List Value).toArray below meth c H1 locs 0 0 (MQ below (ro_Q n0 (fun v H1 => ∃ cn1, xH D ids n0 RR ad cn1 τ ns nl nc H1 ∧ eq6 cn cn1 ∧ v = some (.int (nI (badN τ k))))) ([.ref (ad 0), .ref (ad (60 + k))] : List Value).toArray s 0 0 (fun q => n0 ≤ q)) (F0 m 2 ls []) := by
    refine ro_loop 100 (fun j : Nat => ∀ (cn1 : Nat → va_E) (bm1 : Nat → Int32) (H1 : Heap) (locs : List Loc) (ls : Array Slot), xB D ids n0 RR ad cn1 τ ns nl nc bm1 H1 → eq6 cn cn1 → (∀ i, i < j → bm1 i = 0) → va_S (fun q => n0 ≤ q) s.heap H1 locs → lv_has ls 6 [(2, .int (nI j)), (0, .ref (ad 0)), (1, .ref (ad (60 + k)))] → W p l e { frames := 6, cells := 0, slots := 0, locals := 180 } s m ([.ref (ad 0), .ref (ad (60 + k))] : List Value).toArray below meth c H1 locs 0 0 (MQ below (ro_Q n0 (fun v H1 => ∃ cn1, xH D ids n0 RR ad cn1 τ ns nl nc H1 ∧ eq6 cn cn1 ∧ v = some (.int (nI (badN τ k))))) ([.ref (ad 0), .ref (ad (60 + k))] : List Value).toArray s 0 0 (fun q => n0 ≤ q)) (F0 m 2 ls [])) ?_ ?_
    · intro cn1 bm1 H1 locs ls hB1 he1 hm1 HS hl
      obtain ⟨HP, hRR, sa, fm, lf, ff, cf, h0, h1, h1b, h2, h2b, h7, h7b, h3, h3b, h40, h4, h4b, h60, h5, h6⟩ := id hB1
      have hX := hB1.h
      refine lv_iload_n hx hb dX6_countBadHours_2 rfl (lv_at hl 0 rfl) ?_
      refine lv_bipush (v := 100) hx hb dX6_countBadHours_3 (by decide) ?_
      refine lv_icmp_ge (tgt := 21) hx hb dX6_countBadHours_5 (by decide) (fun c_5 => ?_) (fun c_5 => absurd (kn_le (n := 100) rfl (Nat.le_refl _) (by omega)) c_5)
      refine lv_aload_n hx hb dX6_countBadHours_21 rfl (lv_at hl 1 rfl) ?_
      refine lv_aload_n hx hb dX6_countBadHours_22 rfl (lv_at hl 2 rfl) ?_
      refine ro_callV MC HS (rest := []) (As := [.ref (ad (60 + k))]) (x_against hX hI hk) (lkX6_194) (kw450) (kw11) ⟨Nat.le_of_ble_eq_true rfl, Nat.le_of_ble_eq_true rfl⟩ (ro_recv MC HP (hRR.l (by decide)) h0 (rfl : vwCl[5]? = some (RX6, TX6, 11))) hl.1 rfl (Nat.le_of_ble_eq_true rfl) dX6_countBadHours_23 ⟨Nat.le_of_ble_eq_true rfl, Nat.le_of_ble_eq_true rfl⟩ (fun v9 H1 lH1 hp hz HS => ?_)
      obtain ⟨x, rfl, hxb, rfl⟩ := hp
      refine lv_istore_n (lv' := [(2, .int x), (0, .ref (ad 0)), (1, .ref (ad (60 + k)))]) hx hb dX6_countBadHours_26 rfl hl (by decide) rfl (fun ls hl => ?_)
      refine lv_iconst (v := 0) hx hb dX6_countBadHours_27 (by decide) ?_
      refine lv_istore_n (lv' := [(3, .int 0), (2, .int x), (0, .ref (ad 0)), (1, .ref (ad (60 + k)))]) hx hb dX6_countBadHours_28 rfl hl (by decide) rfl (fun ls hl => ?_)
      refine lv_iconst (v := 0) hx hb dX6_countBadHours_29 (by decide) ?_
      refine lv_istore (lv' := [(4, .int 0), (3, .int 0), (2, .int x), (0, .ref (ad 0)), (1, .ref (ad (60 + k)))]) hx hb dX6_countBadHours_30 hl (by decide) rfl (fun ls hl => ?_)
      have loop2 : ∀ q : Nat, q ≤ 20 → ∀ (cn2 : Nat → va_E) (bm2 : Nat → Int32) (H2 : Heap) (locs : List Loc) (ls : Array Slot), xB D ids n0 RR ad cn2 τ ns nl nc bm2 H2 → eq6 cn cn2 → (∀ i, i < 100 → (bm2 i == 0) = !(decide (i < n9) && anB τ x (b9 + i) q)) → va_S (fun q => n0 ≤ q) s.heap H2 locs → lv_has ls 6 [(4, .int (nI q)), (3, .int (nI (ct (fun i => anB τ x (b9 + i) q) n9))), (2, .int x), (0, .ref (ad 0)), (1, .ref (ad (60 + k)))] → W p l e { frames := 6, cells := 0, slots := 0, locals := 180 } s m ([.ref (ad 0), .ref (ad (60 + k))] : List Value).toArray below meth c H2 locs 0 0 (MQ below (ro_Q n0 (fun v H1 => ∃ cn1, xH D ids n0 RR ad cn1 τ ns nl nc H1 ∧ eq6 cn cn1 ∧ v = some (.int (nI (badN τ k))))) ([.ref (ad 0), .ref (ad (60 + k))] : List Value).toArray s 0 0 (fun q => n0 ≤ q)) (F0 m 32 ls []) := by
        refine ro_loop 20 (fun q : Nat => ∀ (cn2 : Nat → va_E) (bm2 : Nat → Int32) (H2 : Heap) (locs : List Loc) (ls : Array Slot), xB D ids n0 RR ad cn2 τ ns nl nc bm2 H2 → eq6 cn cn2 → (∀ i, i < 100 → (bm2 i == 0) = !(decide (i < n9) && anB τ x (b9 + i) q)) → va_S (fun q => n0 ≤ q) s.heap H2 locs → lv_has ls 6 [(4, .int (nI q)), (3, .int (nI (ct (fun i => anB τ x (b9 + i) q) n9))), (2, .int x), (0, .ref (ad 0)), (1, .ref (ad (60 + k)))] → W p l e { frames := 6, cells := 0, slots := 0, locals := 180 } s m ([.ref (ad 0), .ref (ad (60 + k))] : List Value).toArray below meth c H2 locs 0 0 (MQ below (ro_Q n0 (fun v H1 => ∃ cn1, xH D ids n0 RR ad cn1 τ ns nl nc H1 ∧ eq6 cn cn1 ∧ v = some (.int (nI (badN τ k))))) ([.ref (ad 0), .ref (ad (60 + k))] : List Value).toArray s 0 0 (fun q => n0 ≤ q)) (F0 m 32 ls [])) ?_ ?_
        · intro cn2 bm2 H2 locs ls hB2 he2 hm2 HS hl
          obtain ⟨HP, hRR, sa, fm, lf, ff, cf, h0, h1, h1b, h2, h2b, h7, h7b, h3, h3b, h40, h4, h4b, h60, h5, h6⟩ := id hB2
          refine lv_iload hx hb dX6_countBadHours_32 (lv_at hl 0 rfl) ?_
          refine lv_bipush (v := 20) hx hb dX6_countBadHours_34 (by decide) ?_
          refine lv_icmp_ge (tgt := 78) hx hb dX6_countBadHours_36 (by decide) (fun c_36 => ?_) (fun c_36 => absurd (kn_le (n := 20) rfl (Nat.le_refl _) (by omega)) c_36)
          refine lv_iload_n hx hb dX6_countBadHours_78 rfl (lv_at hl 1 rfl) ?_
          exact ro_iretM MC HS hr (⟨cn2, hB2.h, he2, by rw [ct_ext (fun i hi => anB_bad hnl hcs hxb hb9), badN, hcl]⟩) (Nat.le_of_ble_eq_true rfl) (Nat.le_of_ble_eq_true rfl) dX6_countBadHours_79
        · intro q hq ih cn2 bm2 H2 locs ls hB2 he2 hm2 HS hl
          obtain ⟨HP, hRR, sa, fm, lf, ff, cf, h0, h1, h1b, h2, h2b, h7, h7b, h3, h3b, h40, h4, h4b, h60, h5, h6⟩ := id hB2
          have hX := hB2.h
          refine lv_iload hx hb dX6_countBadHours_32 (lv_at hl 0 rfl) ?_
          refine lv_bipush (v := 20) hx hb dX6_countBadHours_34 (by decide) ?_
          refine lv_icmp_ge (tgt := 78) hx hb dX6_countBadHours_36 (by decide) (fun c_36 => absurd c_36 (kn_nle (n := 20) rfl (show q < 20 by omega) (by omega))) (fun c_36 => ?_)
          refine lv_aload_n hx hb dX6_countBadHours_39 rfl (lv_at hl 3 rfl) ?_
          refine ro_get MC HP (hRR.l (by decide)) h0 (rfl : vwCl[5]? = some (RX6, TX6, 11)) inU6 4 (by decide) kw65 rfl rfl dX6_countBadHours_40 ?_
          refine lv_iload hx hb dX6_countBadHours_43 (lv_at hl 0 rfl) ?_
          by_cases hz_45 : q < nl ∧ τ 4 q = 0
          · have hz_45n := hz_45.1
            refine xo_aald MC HP 4 (hRR.l (by decide)) h3 rfl q (show q < 20 by omega) (by omega) ((h3b q (by omega)).trans (if_pos hz_45)) rfl dX6_countBadHours_45 ?_
            refine lv_astore (lv' := [(5, .ref (ad (40 + q))), (4, .int (nI q)), (3, .int (nI (ct (fun i => anB τ x (b9 + i) q) n9))), (2, .int x), (0, .ref (ad 0)), (1, .ref (ad (60 + k)))]) hx hb dX6_countBadHours_46 hl (by decide) rfl (fun ls hl => ?_)
            refine lv_aload hx hb dX6_countBadHours_48 (lv_at hl 0 rfl) ?_
            refine lv_ifnull hx hb dX6_countBadHours_50 ?_
            refine lv_iload_n hx hb dX6_countBadHours_53 rfl (lv_at hl 3 rfl) ?_
            refine lv_iload hx hb dX6_countBadHours_54 (lv_at hl 1 rfl) ?_
            refine ro_callS MC HS (rest := []) (As := [.int x, .int (nI q)]) (x_isInSet D ids n0 x q) (lkX6_178) (kw229) ⟨Nat.le_of_ble_eq_true rfl, Nat.le_of_ble_eq_true rfl⟩ hl.1 rfl (Nat.le_of_ble_eq_true rfl) dX6_countBadHours_56 ⟨Nat.le_of_ble_eq_true rfl, Nat.le_of_ble_eq_true rfl⟩ (fun v9 H2 lH2 hp hz HS => ?_)
            obtain ⟨rfl, rfl⟩ := hp
            refine lv_if_eq (tgt := 72) hx hb dX6_countBadHours_59 (by decide) (fun c_59 => ?_) (fun c_59 => ?_)
            · have f_59 := bI_0.mp c_59
              refine lv_iinc (v := nI q + 1) (lv' := [(4, .int (nI q + 1)), (5, .ref (ad (40 + q))), (3, .int (nI (ct (fun i => anB τ x (b9 + i) q) n9))), (2, .int x), (0, .ref (ad 0)), (1, .ref (ad (60 + k)))]) hx hb dX6_countBadHours_72 hl (k := 1) rfl rfl (by decide) rfl (fun ls hl => ?_)
              refine lv_goto (tgt := 32) hx hb dX6_countBadHours_75 (by decide) ?_
              have hbq : bit x q = false := by simpa using f_59
              rw [an_same hbq, nI_1] at hl
              exact ih _ _ _ _ ls hB2 he2 (an_keep hbq hm2) HS (lv_sub hl [0, 2, 3, 4, 5] rfl)
            · have f_59 := bI_n0.mp c_59
              refine lv_iload_n hx hb dX6_countBadHours_62 rfl (lv_at hl 2 rfl) ?_
              refine lv_aload_n hx hb dX6_countBadHours_63 rfl (lv_at hl 4 rfl) ?_
              refine lv_aload_n hx hb dX6_countBadHours_64 rfl (lv_at hl 5 rfl) ?_
              refine lv_aload hx hb dX6_countBadHours_65 (lv_at hl 0 rfl) ?_
              refine ro_callV MC HS (rest := [.int (nI (ct (fun i => anB τ x (b9 + i) q) n9))]) (As := [.ref (ad (60 + k)), .ref (ad (40 + q))]) (x_markBad hB2 hI hk (q := q) hz_45n hb9 hn9 hn1 hbn (mm := (fun i => decide (i < n9) && anB τ x (b9 + i) q)) hm2) (lkX6_227) (kw458) (kw13) ⟨Nat.le_of_ble_eq_true rfl, Nat.le_of_ble_eq_true rfl⟩ (ro_recv MC HP (hRR.l (by decide)) h0 (rfl : vwCl[5]? = some (RX6, TX6, 11))) hl.1 rfl (Nat.le_of_ble_eq_true rfl) dX6_countBadHours_67 ⟨Nat.le_of_ble_eq_true rfl, Nat.le_of_ble_eq_true rfl⟩ (fun v9 H3 lH3 hp hz HS => ?_)
              obtain ⟨cn3, bm3, hB3, he3, hm3, rfl⟩ := hp
              refine lv_iadd hx hb dX6_countBadHours_70 ?_
              refine lv_istore_n (lv' := [(3, .int ((nI (ct (fun i => anB τ x (b9 + i) q) n9) + nI (ct (fun i => !(decide (i < n9) && anB τ x (b9 + i) q) && hoB τ q (nI (b9 + i))) n9)))), (5, .ref (ad (40 + q))), (4, .int (nI q)), (2, .int x), (0, .ref (ad 0)), (1, .ref (ad (60 + k)))]) hx hb dX6_countBadHours_71 rfl hl (by decide) rfl (fun ls hl => ?_)
              refine lv_iinc (v := nI q + 1) (lv' := [(4, .int (nI q + 1)), (3, .int ((nI (ct (fun i => anB τ x (b9 + i) q) n9) + nI (ct (fun i => !(decide (i < n9) && anB τ x (b9 + i) q) && hoB τ q (nI (b9 + i))) n9)))), (5, .ref (ad (40 + q))), (2, .int x), (0, .ref (ad 0)), (1, .ref (ad (60 + k)))]) hx hb dX6_countBadHours_72 hl (k := 2) rfl rfl (by decide) rfl (fun ls hl => ?_)
              refine lv_goto (tgt := 32) hx hb dX6_countBadHours_75 (by decide) ?_
              rw [an_step f_59, nI_1] at hl
              exact ih _ _ _ _ ls hB3 (he2.tr he3) (an_mark f_59 hm3) HS (lv_sub hl [0, 1, 3, 4, 5] rfl)
          · refine xo_aald MC HP 4 (hRR.l (by decide)) h3 rfl q (show q < 20 by omega) (by omega) ((h3b q (by omega)).trans (if_neg hz_45)) rfl dX6_countBadHours_45 ?_
            refine lv_astoreN (lv' := [(5, .null), (4, .int (nI q)), (3, .int (nI (ct (fun i => anB τ x (b9 + i) q) n9))), (2, .int x), (0, .ref (ad 0)), (1, .ref (ad (60 + k)))]) hx hb dX6_countBadHours_46 hl (by decide) rfl (fun ls hl => ?_)
            refine lv_aloadN hx hb dX6_countBadHours_48 (lv_at hl 0 rfl) ?_
            refine lv_ifnullN (tgt := 72) hx hb dX6_countBadHours_50 (by decide) ?_
            refine lv_iinc (v := nI q + 1) (lv' := [(4, .int (nI q + 1)), (5, .null), (3, .int (nI (ct (fun i => anB τ x (b9 + i) q) n9))), (2, .int x), (0, .ref (ad 0)), (1, .ref (ad (60 + k)))]) hx hb dX6_countBadHours_72 hl (k := 1) rfl rfl (by decide) rfl (fun ls hl => ?_)
            refine lv_goto (tgt := 32) hx hb dX6_countBadHours_75 (by decide) ?_
            have hbq : bit x q = false := ag_no hxb hq hz_45
            rw [an_same hbq, nI_1] at hl
            exact ih _ _ _ _ ls hB2 he2 (an_keep hbq hm2) HS (lv_sub hl [0, 2, 3, 4, 5] rfl)
      have hz0 : nI (ct (fun i => anB τ x (b9 + i) 0) n9) = 0 := congrArg nI (ct_none (p := (fun i => anB τ x (b9 + i) 0)) (n := n9) (fun k hk => rfl))
      exact loop2 0 (Nat.zero_le _) cn1 bm1 _ _ ls hB1 he1 (fun i hi => by rw [hm1 i hi]; simp [anB]) HS (lv_sub hl [0, 1, 2, 3, 4] (by rw [hz0]; rfl))
    · intro j hj ih cn1 bm1 H1 locs ls hB1 he1 hm1 HS hl
      obtain ⟨HP, hRR, sa, fm, lf, ff, cf, h0, h1, h1b, h2, h2b, h7, h7b, h3, h3b, h40, h4, h4b, h60, h5, h6⟩ := id hB1
      refine lv_iload_n hx hb dX6_countBadHours_2 rfl (lv_at hl 0 rfl) ?_
      refine lv_bipush (v := 100) hx hb dX6_countBadHours_3 (by decide) ?_
      refine lv_icmp_ge (tgt := 21) hx hb dX6_countBadHours_5 (by decide) (fun c_5 => absurd c_5 (kn_nle (n := 100) rfl (show j < 100 by omega) (by omega))) (fun c_5 => ?_)
      refine lv_aload_n hx hb dX6_countBadHours_8 rfl (lv_at hl 1 rfl) ?_
      refine ro_get MC HP (hRR.l (by decide)) h0 (rfl : vwCl[5]? = some (RX6, TX6, 11)) inU6 10 (by decide) kw71 rfl rfl dX6_countBadHours_9 ?_
      refine lv_iload_n hx hb dX6_countBadHours_12 rfl (lv_at hl 0 rfl) ?_
      refine lv_iconst (v := 0) hx hb dX6_countBadHours_13 (by decide) ?_
      refine xo_zast MC HP HS (hRR.l (by decide)) h6 j (show j < 100 by omega) (by omega) rfl (by decide) dX6_countBadHours_14 (fun H2 locs2 HP2 HS => ?_)
      have hB2 := xB.up HP2 hRR ⟨h0, h1, h1b, h2, h2b, h7, h7b, h3, h3b, h40, h4, h4b, h60, h5, h6⟩ hnl
      refine lv_iinc (v := nI j + 1) (lv' := [(2, .int (nI j + 1)), (0, .ref (ad 0)), (1, .ref (ad (60 + k)))]) hx hb dX6_countBadHours_15 hl (k := 0) rfl rfl (by decide) rfl (fun ls hl => ?_)
      refine lv_goto (tgt := 2) hx hb dX6_countBadHours_18 (by decide) ?_
      rw [nI_1] at hl
      exact ih _ _ _ _ ls hB2 he1.up (cl_new hm1) HS (lv_sub hl [0, 1, 2] rfl)
  exact loop 0 (Nat.zero_le _) cn bm _ _ ls hB (eq6.rf _) (fun i hi => absurd hi (by omega)) HS (lv_sub hl [0, 1, 2] rfl)
