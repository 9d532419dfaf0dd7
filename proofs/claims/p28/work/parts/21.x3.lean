set_option maxHeartbeats 4000000 in
set_option maxRecDepth 100000 in
theorem x_isOne {l : Launch} {D : va_G} {ids : Nat → ClassId} {n0 : Nat} {RR : List Nat} {ad : Nat → Nat} {cn : Nat → va_E} {τ : Tau} {ns nl nc : Nat} {Hh : Heap} (hX : xH D ids n0 RR ad cn τ ns nl nc Hh) {nw : Nat} (hI : Iv τ nw ns nl nc) {i j : Nat} (hi : i < ns) (hj : j < ns) : ro_M l yX6_isOneInTheOther cX6_isOneInTheOther 3 (some FieldType.boolean) { frames := 1, cells := 0, slots := 0, locals := 30 } D ids n0 [.ref (ad 0), .int (nI i), .int (nI j)] Hh (fun v H1 => v = some (.int (bI ((bel (τ 1) 16 i j || bel (τ 1) 16 j i) = true))) ∧ Hh = H1) := by
  refine ro_ofM (by decide +kernel) (Nat.le_of_ble_eq_true rfl) ?_
  intro p e s m below meth c MC hhp hr hnm HS ls hl
  have hx := MC.1.1
  have hb := MC.1.2.1
  have hl : lv_has ls 3 [(0, .ref (ad 0)), (1, .int (nI i)), (2, .int (nI j))] := hl
  obtain ⟨HP, hRR, sa, bm, fm, lf, ff, cf, h0, h1, h1b, h2, h2b, h7, h7b, h3, h3b, h40, h4, h4b, h60, h5, h6⟩ := id hX
  have hnl := hI.2.2.1.2
  have hns := hI.2.1.2.2
  have hcs : cx (τ 0 2) = nl := by rw [hI.2.2.1.1]; exact cx_nI (by omega)
  refine lv_aload_n hx hb dX6_isOneInTheOther_0 rfl (lv_at hl 0 rfl) ?_
  refine ro_get MC HP (hRR.l (by decide)) h0 (rfl : vwCl[5]? = some (RX6, TX6, 11)) inU6 0 (by decide) kw61 rfl rfl dX6_isOneInTheOther_1 ?_
  refine lv_iload_n hx hb dX6_isOneInTheOther_4 rfl (lv_at hl 1 rfl) ?_
  refine xo_iald MC HP (hRR.l (show 1 < 18 by omega)) h1 i (show i < 16 by omega) (by omega) rfl dX6_isOneInTheOther_5 ?_
  refine lv_iload_n hx hb dX6_isOneInTheOther_6 rfl (lv_at hl 2 rfl) ?_
  refine ro_callS MC HS (rest := []) (As := [.int (sa i), .int (nI j)]) (x_isInSet D ids n0 (sa i) j) (lkX6_178) (kw229) ⟨Nat.le_of_ble_eq_true rfl, Nat.le_of_ble_eq_true rfl⟩ hl.1 rfl (Nat.le_of_ble_eq_true rfl) dX6_isOneInTheOther_7 ⟨Nat.le_of_ble_eq_true rfl, Nat.le_of_ble_eq_true rfl⟩ (fun v9 H1 lH1 hp hz HS => ?_)
  obtain ⟨rfl, rfl⟩ := hp
  refine lv_if_ne (tgt := 26) hx hb dX6_isOneInTheOther_10 (by decide) (fun c_10 => ?_) (fun c_10 => ?_)
  · have f_10 := bI_n0.mp c_10
    refine lv_iconst (v := 1) hx hb dX6_isOneInTheOther_26 (by decide) ?_
    refine lv_goto (tgt := 31) hx hb dX6_isOneInTheOther_27 (by decide) ?_
    exact ro_zretM MC HS hr (by first | rfl | exact bI_nar) (⟨by rw [← h1b i hi j (by omega), ← h1b j hj i (by omega)]; rw [bI_t (by simp [f_10])], rfl⟩) (Nat.le_of_ble_eq_true rfl) (Nat.le_of_ble_eq_true rfl) dX6_isOneInTheOther_31
  · have f_10 := bI_0.mp c_10
    refine lv_aload_n hx hb dX6_isOneInTheOther_13 rfl (lv_at hl 0 rfl) ?_
    refine ro_get MC HP (hRR.l (by decide)) h0 (rfl : vwCl[5]? = some (RX6, TX6, 11)) inU6 0 (by decide) kw61 rfl rfl dX6_isOneInTheOther_14 ?_
    refine lv_iload_n hx hb dX6_isOneInTheOther_17 rfl (lv_at hl 2 rfl) ?_
    refine xo_iald MC HP (hRR.l (show 1 < 18 by omega)) h1 j (show j < 16 by omega) (by omega) rfl dX6_isOneInTheOther_18 ?_
    refine lv_iload_n hx hb dX6_isOneInTheOther_19 rfl (lv_at hl 1 rfl) ?_
    refine ro_callS MC HS (rest := []) (As := [.int (sa j), .int (nI i)]) (x_isInSet D ids n0 (sa j) i) (lkX6_178) (kw229) ⟨Nat.le_of_ble_eq_true rfl, Nat.le_of_ble_eq_true rfl⟩ hl.1 rfl (Nat.le_of_ble_eq_true rfl) dX6_isOneInTheOther_20 ⟨Nat.le_of_ble_eq_true rfl, Nat.le_of_ble_eq_true rfl⟩ (fun v9 H2 lH2 hp hz HS => ?_)
    obtain ⟨rfl, rfl⟩ := hp
    refine lv_if_eq (tgt := 30) hx hb dX6_isOneInTheOther_23 (by decide) (fun c_23 => ?_) (fun c_23 => ?_)
    · have f_23 := bI_0.mp c_23
      refine lv_iconst (v := 0) hx hb dX6_isOneInTheOther_30 (by decide) ?_
      exact ro_zretM MC HS hr (by first | rfl | exact bI_nar) (⟨by rw [← h1b i hi j (by omega), ← h1b j hj i (by omega)]; rw [bI_f (by simp [f_10, f_23])], rfl⟩) (Nat.le_of_ble_eq_true rfl) (Nat.le_of_ble_eq_true rfl) dX6_isOneInTheOther_31
    · have f_23 := bI_n0.mp c_23
      refine lv_iconst (v := 1) hx hb dX6_isOneInTheOther_26 (by decide) ?_
      refine lv_goto (tgt := 31) hx hb dX6_isOneInTheOther_27 (by decide) ?_
      exact ro_zretM MC HS hr (by first | rfl | exact bI_nar) (⟨by rw [← h1b i hi j (by omega), ← h1b j hj i (by omega)]; rw [bI_t (by simp [f_10, f_23])], rfl⟩) (Nat.le_of_ble_eq_true rfl) (Nat.le_of_ble_eq_true rfl) dX6_isOneInTheOther_31
set_option maxHeartbeats 4000000 in
set_option maxRecDepth 100000 in
theorem x_touchScope {l : Launch} {D : va_G} {ids : Nat → ClassId} {n0 : Nat} {RR : List Nat} {ad : Nat → Nat} {cn : Nat → va_E} {τ : Tau} {ns nl nc : Nat} {Hh : Heap} (hX : xH D ids n0 RR ad cn τ ns nl nc Hh) {nw : Nat} (hI : Iv τ nw ns nl nc) {i : Nat} (hi : i < ns) : ro_M l yX6_freezesTouchingScope cX6_freezesTouchingScope 5 (some FieldType.int) { frames := 2, cells := 0, slots := 0, locals := 60 } D ids n0 [.ref (ad 0), .int (nI i)] Hh (fun v H1 => v = some (.int (mk (tsB τ nl i) 20)) ∧ Hh = H1) := by
  refine ro_ofM (by decide +kernel) (Nat.le_of_ble_eq_true rfl) ?_
  intro p e s m below meth c MC hhp hr hnm HS ls hl
  have hx := MC.1.1
  have hb := MC.1.2.1
  have hl : lv_has ls 5 [(0, .ref (ad 0)), (1, .int (nI i))] := hl
  obtain ⟨HP, hRR, sa, bm, fm, lf, ff, cf, h0, h1, h1b, h2, h2b, h7, h7b, h3, h3b, h40, h4, h4b, h60, h5, h6⟩ := id hX
  have hnl := hI.2.2.1.2
  have hns := hI.2.1.2.2
  have hcs : cx (τ 0 2) = nl := by rw [hI.2.2.1.1]; exact cx_nI (by omega)
  have loop : ∀ k : Nat, k ≤ 20 → ∀ (locs : List Loc) (ls : Array Slot), va_S (fun q => n0 ≤ q) s.heap Hh locs → lv_has ls 5 [(3, .int (nI k)), (2, .int (mk (tsB τ nl i) k)), (0, .ref (ad 0)), (1, .int (nI i))] → W p l e { frames := 2, cells := 0, slots := 0, locals := 60 } s m ([.ref (ad 0), .int (nI i)] : List Value).toArray below meth c Hh locs 0 0 (MQ below (ro_Q n0 (fun v H1 => v = some (.int (mk (tsB τ nl i) 20)) ∧ Hh = H1)) ([.ref (ad 0), .int (nI i)] : List Value).toArray s 0 0 (fun q => n0 ≤ q)) (F0 m 4 ls []) := by
    refine ro_loop (20) (fun k : Nat => ∀ (locs : List Loc) (ls : Array Slot), va_S (fun q => n0 ≤ q) s.heap Hh locs → lv_has ls 5 [(3, .int (nI k)), (2, .int (mk (tsB τ nl i) k)), (0, .ref (ad 0)), (1, .int (nI i))] → W p l e { frames := 2, cells := 0, slots := 0, locals := 60 } s m ([.ref (ad 0), .int (nI i)] : List Value).toArray below meth c Hh locs 0 0 (MQ below (ro_Q n0 (fun v H1 => v = some (.int (mk (tsB τ nl i) 20)) ∧ Hh = H1)) ([.ref (ad 0), .int (nI i)] : List Value).toArray s 0 0 (fun q => n0 ≤ q)) (F0 m 4 ls [])) ?_ ?_
    · intro locs ls HS hl
      refine lv_iload_n hx hb dX6_freezesTouchingScope_4 rfl (lv_at hl 0 rfl) ?_
      refine lv_bipush (v := 20) hx hb dX6_freezesTouchingScope_5 (by decide) ?_
      refine lv_icmp_ge (tgt := 48) hx hb dX6_freezesTouchingScope_7 (by decide) (fun c_7 => ?_) (fun c_7 => absurd (kn_le (n := 20) rfl (Nat.le_refl _) (by omega)) c_7)
      refine lv_iload_n hx hb dX6_freezesTouchingScope_48 rfl (lv_at hl 1 rfl) ?_
      exact ro_iretM MC HS hr (⟨rfl, rfl⟩) (Nat.le_of_ble_eq_true rfl) (Nat.le_of_ble_eq_true rfl) dX6_freezesTouchingScope_49
    · intro k hkk ih locs ls HS hl
      refine lv_iload_n hx hb dX6_freezesTouchingScope_4 rfl (lv_at hl 0 rfl) ?_
      refine lv_bipush (v := 20) hx hb dX6_freezesTouchingScope_5 (by decide) ?_
      refine lv_icmp_ge (tgt := 48) hx hb dX6_freezesTouchingScope_7 (by decide) (fun c_7 => absurd c_7 (kn_nle (n := 20) rfl hkk (by omega))) (fun c_7 => ?_)
      refine lv_aload_n hx hb dX6_freezesTouchingScope_10 rfl (lv_at hl 2 rfl) ?_
      refine ro_get MC HP (hRR.l (by decide)) h0 (rfl : vwCl[5]? = some (RX6, TX6, 11)) inU6 4 (by decide) kw65 rfl rfl dX6_freezesTouchingScope_11 ?_
      refine lv_iload_n hx hb dX6_freezesTouchingScope_14 rfl (lv_at hl 0 rfl) ?_
      by_cases hz_15 : k < nl ∧ τ 4 k = 0
      · have hz_15n := hz_15.1
        refine xo_aald MC HP 4 (hRR.l (by decide)) h3 rfl k (show k < 20 by omega) (by omega) ((h3b k (by omega)).trans (if_pos hz_15)) rfl dX6_freezesTouchingScope_15 ?_
        refine lv_astore (lv' := [(4, .ref (ad (40 + k))), (3, .int (nI k)), (2, .int (mk (tsB τ nl i) k)), (0, .ref (ad 0)), (1, .int (nI i))]) hx hb dX6_freezesTouchingScope_16 hl (by decide) rfl (fun ls hl => ?_)
        refine lv_aload hx hb dX6_freezesTouchingScope_18 (lv_at hl 0 rfl) ?_
        refine lv_ifnull hx hb dX6_freezesTouchingScope_20 ?_
        refine lv_aload_n hx hb dX6_freezesTouchingScope_23 rfl (lv_at hl 3 rfl) ?_
        refine lv_aload hx hb dX6_freezesTouchingScope_24 (lv_at hl 0 rfl) ?_
        refine xo_fscope MC HP (hRR.f (show k < nl by omega)) (h40 k (by omega)) dX6_freezesTouchingScope_26 ?_
        refine lv_iload_n hx hb dX6_freezesTouchingScope_29 rfl (lv_at hl 4 rfl) ?_
        obtain ⟨-, ⟨u, hu, hsu⟩, -, -⟩ := hI.2.2.2.2.2.2.2.2.2.1 k hz_15.1
        have hcu : cx (τ 6 k) = u := by rw [hsu]; exact cx_nI (by omega)
        refine ro_callV MC HS (rest := []) (As := [.int (τ 6 k), .int (nI i)]) (by rw [hsu]; exact x_isOne hX hI hu hi) (lkX6_223) (kw349) (kw7) ⟨Nat.le_of_ble_eq_true rfl, Nat.le_of_ble_eq_true rfl⟩ (ro_recv MC HP (hRR.l (by decide)) h0 (rfl : vwCl[5]? = some (RX6, TX6, 11))) hl.1 rfl (Nat.le_of_ble_eq_true rfl) dX6_freezesTouchingScope_30 ⟨Nat.le_of_ble_eq_true rfl, Nat.le_of_ble_eq_true rfl⟩ (fun v9 H1 lH1 hp hz HS => ?_)
        obtain ⟨rfl, rfl⟩ := hp
        refine lv_if_eq (tgt := 42) hx hb dX6_freezesTouchingScope_33 (by decide) (fun c_33 => ?_) (fun c_33 => ?_)
        · have f_33 := bI_0.mp c_33
          refine lv_iinc (v := nI k + 1) (lv' := [(3, .int (nI k + 1)), (4, .ref (ad (40 + k))), (2, .int (mk (tsB τ nl i) k)), (0, .ref (ad 0)), (1, .int (nI i))]) hx hb dX6_freezesTouchingScope_42 hl (k := 1) rfl rfl (by decide) rfl (fun ls hl => ?_)
          refine lv_goto (tgt := 4) hx hb dX6_freezesTouchingScope_45 (by decide) ?_
          have hfk : tsB τ nl i k = false := by simp only [tsB, touS]; rw [hcu, cx_nI (n := i) (by omega), Bool.or_comm]; simp [hz_15.1, hz_15.2]; simpa using f_33
          rw [mk_same (p := tsB τ nl i) hfk, nI_1] at hl
          exact ih _ ls HS (lv_sub hl [0, 2, 3, 4] rfl)
        · have f_33 := bI_n0.mp c_33
          refine lv_iload_n hx hb dX6_freezesTouchingScope_36 rfl (lv_at hl 2 rfl) ?_
          refine lv_iconst (v := 1) hx hb dX6_freezesTouchingScope_37 (by decide) ?_
          refine lv_iload_n hx hb dX6_freezesTouchingScope_38 rfl (lv_at hl 1 rfl) ?_
          refine lv_ishl hx hb dX6_freezesTouchingScope_39 ?_
          refine lv_ior hx hb dX6_freezesTouchingScope_40 ?_
          refine lv_istore_n (lv' := [(2, .int ((mk (tsB τ nl i) k ||| (1 <<< (nI k &&& 31))))), (4, .ref (ad (40 + k))), (3, .int (nI k)), (0, .ref (ad 0)), (1, .int (nI i))]) hx hb dX6_freezesTouchingScope_41 rfl hl (by decide) rfl (fun ls hl => ?_)
          refine lv_iinc (v := nI k + 1) (lv' := [(3, .int (nI k + 1)), (2, .int ((mk (tsB τ nl i) k ||| (1 <<< (nI k &&& 31))))), (4, .ref (ad (40 + k))), (0, .ref (ad 0)), (1, .int (nI i))]) hx hb dX6_freezesTouchingScope_42 hl (k := 2) rfl rfl (by decide) rfl (fun ls hl => ?_)
          refine lv_goto (tgt := 4) hx hb dX6_freezesTouchingScope_45 (by decide) ?_
          have hfk : tsB τ nl i k = true := by simp only [tsB, touS]; rw [hcu, cx_nI (n := i) (by omega), Bool.or_comm]; simp [hz_15.1, hz_15.2]; simpa using f_33
          rw [mk_t (p := tsB τ nl i) hfk, nI_1] at hl
          exact ih _ ls HS (lv_sub hl [0, 1, 3, 4] rfl)
      · refine xo_aald MC HP 4 (hRR.l (by decide)) h3 rfl k (show k < 20 by omega) (by omega) ((h3b k (by omega)).trans (if_neg hz_15)) rfl dX6_freezesTouchingScope_15 ?_
        refine lv_astoreN (lv' := [(4, .null), (3, .int (nI k)), (2, .int (mk (tsB τ nl i) k)), (0, .ref (ad 0)), (1, .int (nI i))]) hx hb dX6_freezesTouchingScope_16 hl (by decide) rfl (fun ls hl => ?_)
        refine lv_aloadN hx hb dX6_freezesTouchingScope_18 (lv_at hl 0 rfl) ?_
        refine lv_ifnullN (tgt := 42) hx hb dX6_freezesTouchingScope_20 (by decide) ?_
        refine lv_iinc (v := nI k + 1) (lv' := [(3, .int (nI k + 1)), (4, .null), (2, .int (mk (tsB τ nl i) k)), (0, .ref (ad 0)), (1, .int (nI i))]) hx hb dX6_freezesTouchingScope_42 hl (k := 1) rfl rfl (by decide) rfl (fun ls hl => ?_)
        refine lv_goto (tgt := 4) hx hb dX6_freezesTouchingScope_45 (by decide) ?_
        have hfk : tsB τ nl i k = false := by simp only [tsB]; cases h8 : decide (k < nl) <;> cases h9 : (τ 4 k == 0) <;> simp_all
        rw [mk_same (p := tsB τ nl i) hfk, nI_1] at hl
        exact ih _ ls HS (lv_sub hl [0, 2, 3, 4] rfl)
  refine lv_iconst (v := 0) hx hb dX6_freezesTouchingScope_0 (by decide) ?_
  refine lv_istore_n (lv' := [(2, .int 0), (0, .ref (ad 0)), (1, .int (nI i))]) hx hb dX6_freezesTouchingScope_1 rfl hl (by decide) rfl (fun ls hl => ?_)
  refine lv_iconst (v := 0) hx hb dX6_freezesTouchingScope_2 (by decide) ?_
  refine lv_istore_n (lv' := [(3, .int 0), (2, .int 0), (0, .ref (ad 0)), (1, .int (nI i))]) hx hb dX6_freezesTouchingScope_3 rfl hl (by decide) rfl (fun ls hl => ?_)
  exact loop 0 (Nat.zero_le _) _ ls HS (lv_sub hl [0, 1, 2, 3] rfl)
theorem flb_bit {τ : Tau} {nw ns nl nc : Nat} (hI : Iv τ nw ns nl nc) {k u : Nat} (hk : k < nc) (hsu : τ 11 k = nI u) {q : Nat} (hq : q < 20) : bit (mk (tsB τ nl u) 20 &&& (1 <<< (flb τ k &&& 31) - 1)) q = (decide (q < nl) && tch τ q k) := by
  have hnl := hI.2.2.1.2
  obtain ⟨-, -, -, -, hbg⟩ := hI.2.2.2.2.2.2.2.2.2.2.1 k hk
  obtain ⟨f9, hf9, hfe, hfd⟩ : ∃ f9, f9 < 21 ∧ flb τ k = nI f9 ∧ (decide (q < f9) = !(!(τ 17 k == -1) && decide (τ 17 k ≤ nI q))) := by
    rcases hbg with h | ⟨y, hy, h⟩
    · exact ⟨20, by omega, by rw [flb, if_pos h]; rfl, by rw [h]; simp [hq]⟩
    · refine ⟨y, by omega, by rw [flb, if_neg (by rw [h]; exact nI_m1 (by omega))]; exact h, ?_⟩
      rw [h, show (nI y == -1) = false from beq_eq_false_iff_ne.mpr (nI_m1 (by omega))]
      have := nI_leI (a := y) (b := q) (by omega) (by omega)
      by_cases h9 : y ≤ q
      · simp [this.mpr h9]; omega
      · have h8 : ¬ nI y ≤ nI q := fun h7 => h9 (this.mp h7)
        simp [h8]; omega
  rw [bit_and _ _ (by omega), bit_mk _ 20 (by omega) q (by omega), hfe, bit_low f9 hf9 q hq, hfd]
  unfold tch
  rw [hsu]
  simp only [tsB]
  cases decide (q < nl) <;> cases (τ 4 q == 0) <;> cases touS τ q (nI u) <;> simp [hq]
set_option maxHeartbeats 4000000 in
set_option maxRecDepth 100000 in
theorem x_touchChange {l : Launch} {D : va_G} {ids : Nat → ClassId} {n0 : Nat} {RR : List Nat} {ad : Nat → Nat} {cn : Nat → va_E} {τ : Tau} {ns nl nc : Nat} {Hh : Heap} (hX : xH D ids n0 RR ad cn τ ns nl nc Hh) {nw : Nat} (hI : Iv τ nw ns nl nc) {k : Nat} (hk : k < nc) : ro_M l yX6_freezesTouchingChange cX6_freezesTouchingChange 3 (some FieldType.int) { frames := 3, cells := 0, slots := 0, locals := 90 } D ids n0 [.ref (ad 0), .ref (ad (60 + k))] Hh (fun v H1 => ∃ x, v = some (.int x) ∧ (∀ q, q < 20 → bit x q = (decide (q < nl) && tch τ q k)) ∧ Hh = H1) := by
  refine ro_ofM (by decide +kernel) (Nat.le_of_ble_eq_true rfl) ?_
  intro p e s m below meth c MC hhp hr hnm HS ls hl
  have hx := MC.1.1
  have hb := MC.1.2.1
  have hl : lv_has ls 3 [(0, .ref (ad 0)), (1, .ref (ad (60 + k)))] := hl
  obtain ⟨HP, hRR, sa, bm, fm, lf, ff, cf, h0, h1, h1b, h2, h2b, h7, h7b, h3, h3b, h40, h4, h4b, h60, h5, h6⟩ := id hX
  have hnl := hI.2.2.1.2
  have hns := hI.2.1.2.2
  have hcs : cx (τ 0 2) = nl := by rw [hI.2.2.1.1]; exact cx_nI (by omega)
  have hnc := hI.2.2.2.1.2
  obtain ⟨⟨u, hu, hsu⟩, ⟨b9, n9, hb9, hn9, h1n, hn1, hbn⟩, -, -, hbg⟩ := hI.2.2.2.2.2.2.2.2.2.2.1 k hk
  have hcl : cx (τ 13 k) = n9 := by rw [hn9]; exact cx_nI (by omega)
  refine lv_iconst (v := 1) hx hb dX6_freezesTouchingChange_0 (by decide) ?_
  refine lv_aload_n hx hb dX6_freezesTouchingChange_1 rfl (lv_at hl 1 rfl) ?_
  refine ro_get MC HP (hRR.c (show k < nc by omega)) (h60 k (by omega)) (rfl : vwCl[0]? = some (RX0, TX0, 8)) inU0 7 (by decide) kw413 rfl rfl dX6_freezesTouchingChange_2 ?_
  refine lv_ishl hx hb dX6_freezesTouchingChange_5 ?_
  refine lv_iconst (v := 1) hx hb dX6_freezesTouchingChange_6 (by decide) ?_
  refine lv_isub hx hb dX6_freezesTouchingChange_7 ?_
  refine lv_istore_n (lv' := [(2, .int (((1 <<< (flb τ k &&& 31)) - 1))), (0, .ref (ad 0)), (1, .ref (ad (60 + k)))]) hx hb dX6_freezesTouchingChange_8 rfl hl (by decide) rfl (fun ls hl => ?_)
  refine lv_aload_n hx hb dX6_freezesTouchingChange_9 rfl (lv_at hl 1 rfl) ?_
  refine lv_aload_n hx hb dX6_freezesTouchingChange_10 rfl (lv_at hl 2 rfl) ?_
  refine ro_get MC HP (hRR.c (show k < nc by omega)) (h60 k (by omega)) (rfl : vwCl[0]? = some (RX0, TX0, 8)) inU0 0 (by decide) kw402 rfl rfl dX6_freezesTouchingChange_11 ?_
  refine ro_callV MC HS (rest := []) (As := [.int (τ 11 k)]) (by rw [hsu]; exact x_touchScope hX hI hu) (lkX6_106) (kw345) (kw6) ⟨Nat.le_of_ble_eq_true rfl, Nat.le_of_ble_eq_true rfl⟩ (ro_recv MC HP (hRR.l (by decide)) h0 (rfl : vwCl[5]? = some (RX6, TX6, 11))) hl.1 rfl (Nat.le_of_ble_eq_true rfl) dX6_freezesTouchingChange_14 ⟨Nat.le_of_ble_eq_true rfl, Nat.le_of_ble_eq_true rfl⟩ (fun v9 H1 lH1 hp hz HS => ?_)
  obtain ⟨rfl, rfl⟩ := hp
  refine lv_iload_n hx hb dX6_freezesTouchingChange_17 rfl (lv_at hl 0 rfl) ?_
  refine lv_iand hx hb dX6_freezesTouchingChange_18 ?_
  exact ro_iretM MC HS hr (⟨_, rfl, fun q hq => flb_bit hI hk hsu hq, rfl⟩) (Nat.le_of_ble_eq_true rfl) (Nat.le_of_ble_eq_true rfl) dX6_freezesTouchingChange_19
set_option maxHeartbeats 4000000 in
set_option maxRecDepth 100000 in
theorem x_against {l : Launch} {D : va_G} {ids : Nat → ClassId} {n0 : Nat} {RR : List Nat} {ad : Nat → Nat} {cn : Nat → va_E} {τ : Tau} {ns nl nc : Nat} {Hh : Heap} (hX : xH D ids n0 RR ad cn τ ns nl nc Hh) {nw : Nat} (hI : Iv τ nw ns nl nc) {k : Nat} (hk : k < nc) : ro_M l yX6_freezesAgainst cX6_freezesAgainst 2 (some FieldType.int) { frames := 4, cells := 0, slots := 0, locals := 120 } D ids n0 [.ref (ad 0), .ref (ad (60 + k))] Hh (fun v H1 => ∃ x, v = some (.int x) ∧ isAg τ nl k x ∧ Hh = H1) := by
  refine ro_ofM (by decide +kernel) (Nat.le_of_ble_eq_true rfl) ?_
  intro p e s m below meth c MC hhp hr hnm HS ls hl
  have hx := MC.1.1
  have hb := MC.1.2.1
  have hl : lv_has ls 2 [(0, .ref (ad 0)), (1, .ref (ad (60 + k)))] := hl
  obtain ⟨HP, hRR, sa, bm, fm, lf, ff, cf, h0, h1, h1b, h2, h2b, h7, h7b, h3, h3b, h40, h4, h4b, h60, h5, h6⟩ := id hX
  have hnl := hI.2.2.1.2
  have hns := hI.2.1.2.2
  have hcs : cx (τ 0 2) = nl := by rw [hI.2.2.1.1]; exact cx_nI (by omega)
  have hnc := hI.2.2.2.1.2
  obtain ⟨⟨u, hu, hsu⟩, ⟨b9, n9, hb9, hn9, h1n, hn1, hbn⟩, -, -, hbg⟩ := hI.2.2.2.2.2.2.2.2.2.2.1 k hk
  have hcl : cx (τ 13 k) = n9 := by rw [hn9]; exact cx_nI (by omega)
  refine lv_aload_n hx hb dX6_freezesAgainst_0 rfl (lv_at hl 0 rfl) ?_
  refine lv_aload_n hx hb dX6_freezesAgainst_1 rfl (lv_at hl 1 rfl) ?_
  refine ro_callV MC HS (rest := []) (As := [.ref (ad (60 + k))]) (x_touchChange hX hI hk) (lkX6_175) (kw454) (kw12) ⟨Nat.le_of_ble_eq_true rfl, Nat.le_of_ble_eq_true rfl⟩ (ro_recv MC HP (hRR.l (by decide)) h0 (rfl : vwCl[5]? = some (RX6, TX6, 11))) hl.1 rfl (Nat.le_of_ble_eq_true rfl) dX6_freezesAgainst_2 ⟨Nat.le_of_ble_eq_true rfl, Nat.le_of_ble_eq_true rfl⟩ (fun v9 H1 lH1 hp hz HS => ?_)
  obtain ⟨x, rfl, hxb, rfl⟩ := hp
  refine lv_aload_n hx hb dX6_freezesAgainst_5 rfl (lv_at hl 1 rfl) ?_
  refine ro_get MC HP (hRR.c (show k < nc by omega)) (h60 k (by omega)) (rfl : vwCl[0]? = some (RX0, TX0, 8)) inU0 5 (by decide) kw410 rfl rfl dX6_freezesAgainst_6 ?_
  refine lv_iconst (v := (-1)) hx hb dX6_freezesAgainst_9 (by decide) ?_
  refine lv_ixor hx hb dX6_freezesAgainst_10 ?_
  refine lv_iand hx hb dX6_freezesAgainst_11 ?_
  exact ro_iretM MC HS hr (⟨_, rfl, fun q hq => by rw [bit_and _ _ (by omega), hxb q hq, bit_not _ (by omega), ← exB_bit τ k (by omega)], rfl⟩) (Nat.le_of_ble_eq_true rfl) (Nat.le_of_ble_eq_true rfl) dX6_freezesAgainst_12
set_option maxHeartbeats 4000000 in
set_option maxRecDepth 100000 in
theorem x_holdingAmong {l : Launch} {D : va_G} {ids : Nat → ClassId} {n0 : Nat} {RR : List Nat} {ad : Nat → Nat} {cn : Nat → va_E} {τ : Tau} {ns nl nc : Nat} {Hh : Heap} (hX : xH D ids n0 RR ad cn τ ns nl nc Hh) {nw : Nat} (hI : Iv τ nw ns nl nc) {hh : Nat} (hh9 : hh < 672) (a : Int32) : ro_M l yX6_holdingAmong cX6_holdingAmong 6 (some FieldType.int) { frames := 4, cells := 0, slots := 0, locals := 120 } D ids n0 [.ref (ad 0), .int a, .int (nI hh)] Hh (fun v H1 => v = some (.int (mk (haB τ nl a hh) 20)) ∧ Hh = H1) := by
  refine ro_ofM (by decide +kernel) (Nat.le_of_ble_eq_true rfl) ?_
  intro p e s m below meth c MC hhp hr hnm HS ls hl
  have hx := MC.1.1
  have hb := MC.1.2.1
  have hl : lv_has ls 6 [(0, .ref (ad 0)), (1, .int a), (2, .int (nI hh))] := hl
  obtain ⟨HP, hRR, sa, bm, fm, lf, ff, cf, h0, h1, h1b, h2, h2b, h7, h7b, h3, h3b, h40, h4, h4b, h60, h5, h6⟩ := id hX
  have hnl := hI.2.2.1.2
  have hns := hI.2.1.2.2
  have hcs : cx (τ 0 2) = nl := by rw [hI.2.2.1.1]; exact cx_nI (by omega)
  have loop : ∀ k : Nat, k ≤ 20 → ∀ (locs : List Loc) (ls : Array Slot), va_S (fun q => n0 ≤ q) s.heap Hh locs → lv_has ls 6 [(4, .int (nI k)), (3, .int (mk (haB τ nl a hh) k)), (0, .ref (ad 0)), (1, .int a), (2, .int (nI hh))] → W p l e { frames := 4, cells := 0, slots := 0, locals := 120 } s m ([.ref (ad 0), .int a, .int (nI hh)] : List Value).toArray below meth c Hh locs 0 0 (MQ below (ro_Q n0 (fun v H1 => v = some (.int (mk (haB τ nl a hh) 20)) ∧ Hh = H1)) ([.ref (ad 0), .int a, .int (nI hh)] : List Value).toArray s 0 0 (fun q => n0 ≤ q)) (F0 m 5 ls []) := by
    refine ro_loop (20) (fun k : Nat => ∀ (locs : List Loc) (ls : Array Slot), va_S (fun q => n0 ≤ q) s.heap Hh locs → lv_has ls 6 [(4, .int (nI k)), (3, .int (mk (haB τ nl a hh) k)), (0, .ref (ad 0)), (1, .int a), (2, .int (nI hh))] → W p l e { frames := 4, cells := 0, slots := 0, locals := 120 } s m ([.ref (ad 0), .int a, .int (nI hh)] : List Value).toArray below meth c Hh locs 0 0 (MQ below (ro_Q n0 (fun v H1 => v = some (.int (mk (haB τ nl a hh) 20)) ∧ Hh = H1)) ([.ref (ad 0), .int a, .int (nI hh)] : List Value).toArray s 0 0 (fun q => n0 ≤ q)) (F0 m 5 ls [])) ?_ ?_
    · intro locs ls HS hl
      refine lv_iload hx hb dX6_holdingAmong_5 (lv_at hl 0 rfl) ?_
      refine lv_bipush (v := 20) hx hb dX6_holdingAmong_7 (by decide) ?_
      refine lv_icmp_ge (tgt := 57) hx hb dX6_holdingAmong_9 (by decide) (fun c_9 => ?_) (fun c_9 => absurd (kn_le (n := 20) rfl (Nat.le_refl _) (by omega)) c_9)
      refine lv_iload_n hx hb dX6_holdingAmong_57 rfl (lv_at hl 1 rfl) ?_
      exact ro_iretM MC HS hr (⟨rfl, rfl⟩) (Nat.le_of_ble_eq_true rfl) (Nat.le_of_ble_eq_true rfl) dX6_holdingAmong_58
    · intro k hkk ih locs ls HS hl
      refine lv_iload hx hb dX6_holdingAmong_5 (lv_at hl 0 rfl) ?_
      refine lv_bipush (v := 20) hx hb dX6_holdingAmong_7 (by decide) ?_
      refine lv_icmp_ge (tgt := 57) hx hb dX6_holdingAmong_9 (by decide) (fun c_9 => absurd c_9 (kn_nle (n := 20) rfl hkk (by omega))) (fun c_9 => ?_)
      refine lv_aload_n hx hb dX6_holdingAmong_12 rfl (lv_at hl 2 rfl) ?_
      refine ro_get MC HP (hRR.l (by decide)) h0 (rfl : vwCl[5]? = some (RX6, TX6, 11)) inU6 4 (by decide) kw65 rfl rfl dX6_holdingAmong_13 ?_
      refine lv_iload hx hb dX6_holdingAmong_16 (lv_at hl 0 rfl) ?_
      by_cases hz_18 : k < nl ∧ τ 4 k = 0
      · have hz_18n := hz_18.1
        refine xo_aald MC HP 4 (hRR.l (by decide)) h3 rfl k (show k < 20 by omega) (by omega) ((h3b k (by omega)).trans (if_pos hz_18)) rfl dX6_holdingAmong_18 ?_
        refine lv_astore (lv' := [(5, .ref (ad (40 + k))), (4, .int (nI k)), (3, .int (mk (haB τ nl a hh) k)), (0, .ref (ad 0)), (1, .int a), (2, .int (nI hh))]) hx hb dX6_holdingAmong_19 hl (by decide) rfl (fun ls hl => ?_)
        refine lv_aload hx hb dX6_holdingAmong_21 (lv_at hl 0 rfl) ?_
        refine lv_ifnull hx hb dX6_holdingAmong_23 ?_
        refine lv_iload_n hx hb dX6_holdingAmong_26 rfl (lv_at hl 4 rfl) ?_
        refine lv_iload hx hb dX6_holdingAmong_27 (lv_at hl 1 rfl) ?_
        refine ro_callS MC HS (rest := []) (As := [.int a, .int (nI k)]) (x_isInSet D ids n0 a k) (lkX6_178) (kw229) ⟨Nat.le_of_ble_eq_true rfl, Nat.le_of_ble_eq_true rfl⟩ hl.1 rfl (Nat.le_of_ble_eq_true rfl) dX6_holdingAmong_29 ⟨Nat.le_of_ble_eq_true rfl, Nat.le_of_ble_eq_true rfl⟩ (fun v9 H1 lH1 hp hz HS => ?_)
        obtain ⟨rfl, rfl⟩ := hp
        refine lv_if_eq (tgt := 51) hx hb dX6_holdingAmong_32 (by decide) (fun c_32 => ?_) (fun c_32 => ?_)
        · have f_32 := bI_0.mp c_32
          refine lv_iinc (v := nI k + 1) (lv' := [(4, .int (nI k + 1)), (5, .ref (ad (40 + k))), (3, .int (mk (haB τ nl a hh) k)), (0, .ref (ad 0)), (1, .int a), (2, .int (nI hh))]) hx hb dX6_holdingAmong_51 hl (k := 1) rfl rfl (by decide) rfl (fun ls hl => ?_)
          refine lv_goto (tgt := 5) hx hb dX6_holdingAmong_54 (by decide) ?_
          have hfk : haB τ nl a hh k = false := by simp [haB, hz_18.1, hz_18.2, f_32]
          rw [mk_same (p := haB τ nl a hh) hfk, nI_1] at hl
          exact ih _ ls HS (lv_sub hl [0, 2, 3, 4, 5] rfl)
        · have f_32 := bI_n0.mp c_32
          refine lv_aload hx hb dX6_holdingAmong_35 (lv_at hl 0 rfl) ?_
          refine lv_iload_n hx hb dX6_holdingAmong_37 rfl (lv_at hl 5 rfl) ?_
          refine xo_holds hX hI MC HS (k := k) (hh := hh) (show k < nl by omega) (by omega) rfl hl.1 (Nat.le_of_ble_eq_true rfl) ⟨Nat.le_of_ble_eq_true rfl, Nat.le_of_ble_eq_true rfl⟩ dX6_holdingAmong_38 ⟨Nat.le_of_ble_eq_true rfl, Nat.le_of_ble_eq_true rfl⟩ (fun lH2 HS => ?_)
          refine lv_if_eq (tgt := 51) hx hb dX6_holdingAmong_41 (by decide) (fun c_41 => ?_) (fun c_41 => ?_)
          · have f_41 := bI_0.mp c_41
            refine lv_iinc (v := nI k + 1) (lv' := [(4, .int (nI k + 1)), (5, .ref (ad (40 + k))), (3, .int (mk (haB τ nl a hh) k)), (0, .ref (ad 0)), (1, .int a), (2, .int (nI hh))]) hx hb dX6_holdingAmong_51 hl (k := 1) rfl rfl (by decide) rfl (fun ls hl => ?_)
            refine lv_goto (tgt := 5) hx hb dX6_holdingAmong_54 (by decide) ?_
            have hfk : haB τ nl a hh k = false := by simp [haB, hz_18.1, hz_18.2, f_32, f_41]
            rw [mk_same (p := haB τ nl a hh) hfk, nI_1] at hl
            exact ih _ ls HS (lv_sub hl [0, 2, 3, 4, 5] rfl)
          · have f_41 := bI_n0.mp c_41
            refine lv_iload_n hx hb dX6_holdingAmong_44 rfl (lv_at hl 2 rfl) ?_
            refine lv_iconst (v := 1) hx hb dX6_holdingAmong_45 (by decide) ?_
            refine lv_iload hx hb dX6_holdingAmong_46 (lv_at hl 1 rfl) ?_
            refine lv_ishl hx hb dX6_holdingAmong_48 ?_
            refine lv_ior hx hb dX6_holdingAmong_49 ?_
            refine lv_istore_n (lv' := [(3, .int ((mk (haB τ nl a hh) k ||| (1 <<< (nI k &&& 31))))), (5, .ref (ad (40 + k))), (4, .int (nI k)), (0, .ref (ad 0)), (1, .int a), (2, .int (nI hh))]) hx hb dX6_holdingAmong_50 rfl hl (by decide) rfl (fun ls hl => ?_)
            refine lv_iinc (v := nI k + 1) (lv' := [(4, .int (nI k + 1)), (3, .int ((mk (haB τ nl a hh) k ||| (1 <<< (nI k &&& 31))))), (5, .ref (ad (40 + k))), (0, .ref (ad 0)), (1, .int a), (2, .int (nI hh))]) hx hb dX6_holdingAmong_51 hl (k := 2) rfl rfl (by decide) rfl (fun ls hl => ?_)
            refine lv_goto (tgt := 5) hx hb dX6_holdingAmong_54 (by decide) ?_
            have hfk : haB τ nl a hh k = true := by simp [haB, hz_18.1, hz_18.2, f_32, f_41]
            rw [mk_t (p := haB τ nl a hh) hfk, nI_1] at hl
            exact ih _ ls HS (lv_sub hl [0, 1, 3, 4, 5] rfl)
      · refine xo_aald MC HP 4 (hRR.l (by decide)) h3 rfl k (show k < 20 by omega) (by omega) ((h3b k (by omega)).trans (if_neg hz_18)) rfl dX6_holdingAmong_18 ?_
        refine lv_astoreN (lv' := [(5, .null), (4, .int (nI k)), (3, .int (mk (haB τ nl a hh) k)), (0, .ref (ad 0)), (1, .int a), (2, .int (nI hh))]) hx hb dX6_holdingAmong_19 hl (by decide) rfl (fun ls hl => ?_)
        refine lv_aloadN hx hb dX6_holdingAmong_21 (lv_at hl 0 rfl) ?_
        refine lv_ifnullN (tgt := 51) hx hb dX6_holdingAmong_23 (by decide) ?_
        refine lv_iinc (v := nI k + 1) (lv' := [(4, .int (nI k + 1)), (5, .null), (3, .int (mk (haB τ nl a hh) k)), (0, .ref (ad 0)), (1, .int a), (2, .int (nI hh))]) hx hb dX6_holdingAmong_51 hl (k := 1) rfl rfl (by decide) rfl (fun ls hl => ?_)
        refine lv_goto (tgt := 5) hx hb dX6_holdingAmong_54 (by decide) ?_
        have hfk : haB τ nl a hh k = false := by simp only [haB]; cases h8 : decide (k < nl) <;> cases h9 : (τ 4 k == 0) <;> simp_all
        rw [mk_same (p := haB τ nl a hh) hfk, nI_1] at hl
        exact ih _ ls HS (lv_sub hl [0, 2, 3, 4, 5] rfl)
  refine lv_iconst (v := 0) hx hb dX6_holdingAmong_0 (by decide) ?_
  refine lv_istore_n (lv' := [(3, .int 0), (0, .ref (ad 0)), (1, .int a), (2, .int (nI hh))]) hx hb dX6_holdingAmong_1 rfl hl (by decide) rfl (fun ls hl => ?_)
  refine lv_iconst (v := 0) hx hb dX6_holdingAmong_2 (by decide) ?_
  refine lv_istore (lv' := [(4, .int 0), (3, .int 0), (0, .ref (ad 0)), (1, .int a), (2, .int (nI hh))]) hx hb dX6_holdingAmong_3 hl (by decide) rfl (fun ls hl => ?_)
  exact loop 0 (Nat.zero_le _) _ ls HS (lv_sub hl [0, 1, 2, 3, 4] rfl)
set_option maxHeartbeats 4000000 in
set_option maxRecDepth 100000 in
theorem x_firstBadHour {l : Launch} {D : va_G} {ids : Nat → ClassId} {n0 : Nat} {RR : List Nat} {ad : Nat → Nat} {cn : Nat → va_E} {τ : Tau} {ns nl nc : Nat} {Hh : Heap} (hX : xH D ids n0 RR ad cn τ ns nl nc Hh) {nw : Nat} (hI : Iv τ nw ns nl nc) {k : Nat} (hk : k < nc) : ro_M l yX6_firstBadHour cX6_firstBadHour 4 (some FieldType.int) { frames := 6, cells := 0, slots := 0, locals := 180 } D ids n0 [.ref (ad 0), .ref (ad (60 + k))] Hh (fun v H1 => v = some (.int (fbv (τ 12 k) (fst1 (badB τ k) (cx (τ 13 k)) 0))) ∧ Hh = H1) := by
  refine ro_ofM (by decide +kernel) (Nat.le_of_ble_eq_true rfl) ?_
  intro p e s m below meth c MC hhp hr hnm HS ls hl
  have hx := MC.1.1
  have hb := MC.1.2.1
  have hl : lv_has ls 4 [(0, .ref (ad 0)), (1, .ref (ad (60 + k)))] := hl
  obtain ⟨HP, hRR, sa, bm, fm, lf, ff, cf, h0, h1, h1b, h2, h2b, h7, h7b, h3, h3b, h40, h4, h4b, h60, h5, h6⟩ := id hX
  have hnl := hI.2.2.1.2
  have hns := hI.2.1.2.2
  have hcs : cx (τ 0 2) = nl := by rw [hI.2.2.1.1]; exact cx_nI (by omega)
  have hnc := hI.2.2.2.1.2
  obtain ⟨⟨u, hu, hsu⟩, ⟨b9, n9, hb9, hn9, h1n, hn1, hbn⟩, -, -, hbg⟩ := hI.2.2.2.2.2.2.2.2.2.2.1 k hk
  have hcl : cx (τ 13 k) = n9 := by rw [hn9]; exact cx_nI (by omega)
  refine lv_aload_n hx hb dX6_firstBadHour_0 rfl (lv_at hl 0 rfl) ?_
  refine lv_aload_n hx hb dX6_firstBadHour_1 rfl (lv_at hl 1 rfl) ?_
  refine ro_callV MC HS (rest := []) (As := [.ref (ad (60 + k))]) (x_against hX hI hk) (lkX6_194) (kw450) (kw11) ⟨Nat.le_of_ble_eq_true rfl, Nat.le_of_ble_eq_true rfl⟩ (ro_recv MC HP (hRR.l (by decide)) h0 (rfl : vwCl[5]? = some (RX6, TX6, 11))) hl.1 rfl (Nat.le_of_ble_eq_true rfl) dX6_firstBadHour_2 ⟨Nat.le_of_ble_eq_true rfl, Nat.le_of_ble_eq_true rfl⟩ (fun v9 H1 lH1 hp hz HS => ?_)
  obtain ⟨x, rfl, hxb, rfl⟩ := hp
  refine lv_istore_n (lv' := [(2, .int x), (0, .ref (ad 0)), (1, .ref (ad (60 + k)))]) hx hb dX6_firstBadHour_5 rfl hl (by decide) rfl (fun ls hl => ?_)
  refine lv_aload_n hx hb dX6_firstBadHour_6 rfl (lv_at hl 2 rfl) ?_
  refine ro_get MC HP (hRR.c (show k < nc by omega)) (h60 k (by omega)) (rfl : vwCl[0]? = some (RX0, TX0, 8)) inU0 3 (by decide) kw408 rfl rfl dX6_firstBadHour_7 ?_
  refine lv_istore_n (lv' := [(3, .int (τ 12 k)), (2, .int x), (0, .ref (ad 0)), (1, .ref (ad (60 + k)))]) hx hb dX6_firstBadHour_10 rfl hl (by decide) rfl (fun ls hl => ?_)
  have hen : τ 12 k + τ 13 k = nI (b9 + n9) := by rw [hb9, hn9, nI_add]
  have loop : ∀ j : Nat, j ≤ n9 → fst1 (badB τ k) (n9 - j) j = fst1 (badB τ k) n9 0 → ∀ (locs : List Loc) (ls : Array Slot), va_S (fun q => n0 ≤ q) s.heap Hh locs → lv_has ls 4 [(3, .int (nI (b9 + j))), (2, .int x), (0, .ref (ad 0)), (1, .ref (ad (60 + k)))] → W p l e { frames := 6, cells := 0, slots := 0, locals := 180 } s m ([.ref (ad 0), .ref (ad (60 + k))] : List Value).toArray below meth c Hh locs 0 0 (MQ below (ro_Q n0 (fun v H1 => v = some (.int (fbv (τ 12 k) (fst1 (badB τ k) (cx (τ 13 k)) 0))) ∧ Hh = H1)) ([.ref (ad 0), .ref (ad (60 + k))] : List Value).toArray s 0 0 (fun q => n0 ≤ q)) (F0 m 11 ls []) := by
    refine ro_loop n9 (fun j : Nat => fst1 (badB τ k) (n9 - j) j = fst1 (badB τ k) n9 0 → ∀ (locs : List Loc) (ls : Array Slot), va_S (fun q => n0 ≤ q) s.heap Hh locs → lv_has ls 4 [(3, .int (nI (b9 + j))), (2, .int x), (0, .ref (ad 0)), (1, .ref (ad (60 + k)))] → W p l e { frames := 6, cells := 0, slots := 0, locals := 180 } s m ([.ref (ad 0), .ref (ad (60 + k))] : List Value).toArray below meth c Hh locs 0 0 (MQ below (ro_Q n0 (fun v H1 => v = some (.int (fbv (τ 12 k) (fst1 (badB τ k) (cx (τ 13 k)) 0))) ∧ Hh = H1)) ([.ref (ad 0), .ref (ad (60 + k))] : List Value).toArray s 0 0 (fun q => n0 ≤ q)) (F0 m 11 ls [])) ?_ ?_
    · intro hR locs ls HS hl
      have hR2 : fst1 (badB τ k) n9 0 = none := by rw [← hR, Nat.sub_self]; rfl
      refine lv_iload_n hx hb dX6_firstBadHour_11 rfl (lv_at hl 0 rfl) ?_
      refine lv_aload_n hx hb dX6_firstBadHour_12 rfl (lv_at hl 3 rfl) ?_
      refine ro_callV MC HS (rest := [.int (nI (b9 + n9))]) (As := []) (x_hourBehind hX hk) (lkX6_171) (kw476) (kw477) ⟨Nat.le_of_ble_eq_true rfl, Nat.le_of_ble_eq_true rfl⟩ (ro_recv MC HP (hRR.c (show k < nc by omega)) (h60 k (by omega)) (rfl : vwCl[0]? = some (RX0, TX0, 8))) hl.1 rfl (Nat.le_of_ble_eq_true rfl) dX6_firstBadHour_13 ⟨Nat.le_of_ble_eq_true rfl, Nat.le_of_ble_eq_true rfl⟩ (fun v9 H2 lH2 hp hz HS => ?_)
      obtain ⟨rfl, rfl⟩ := hp
      refine lv_icmp_ge (tgt := 36) hx hb dX6_firstBadHour_16 (by decide) (fun c_16 => ?_) (fun c_16 => absurd (kn_le hen (Nat.le_refl _) (by omega)) c_16)
      refine lv_iconst (v := (-1)) hx hb dX6_firstBadHour_36 (by decide) ?_
      exact ro_iretM MC HS hr (⟨by rw [hcl, hR2]; rfl, rfl⟩) (Nat.le_of_ble_eq_true rfl) (Nat.le_of_ble_eq_true rfl) dX6_firstBadHour_37
    · intro j hj ih hR locs ls HS hl
      rw [show n9 - j = (n9 - (j + 1)) + 1 by omega] at hR
      have hbj : badB τ k j = !(mk (haB τ nl x (b9 + j)) 20 == 0) := by rw [agn_eq hnl hcs hxb]; unfold badB; rw [hr_add hb9]
      refine lv_iload_n hx hb dX6_firstBadHour_11 rfl (lv_at hl 0 rfl) ?_
      refine lv_aload_n hx hb dX6_firstBadHour_12 rfl (lv_at hl 3 rfl) ?_
      refine ro_callV MC HS (rest := [.int (nI (b9 + j))]) (As := []) (x_hourBehind hX hk) (lkX6_171) (kw476) (kw477) ⟨Nat.le_of_ble_eq_true rfl, Nat.le_of_ble_eq_true rfl⟩ (ro_recv MC HP (hRR.c (show k < nc by omega)) (h60 k (by omega)) (rfl : vwCl[0]? = some (RX0, TX0, 8))) hl.1 rfl (Nat.le_of_ble_eq_true rfl) dX6_firstBadHour_13 ⟨Nat.le_of_ble_eq_true rfl, Nat.le_of_ble_eq_true rfl⟩ (fun v9 H3 lH3 hp hz HS => ?_)
      obtain ⟨rfl, rfl⟩ := hp
      refine lv_icmp_ge (tgt := 36) hx hb dX6_firstBadHour_16 (by decide) (fun c_16 => absurd c_16 (kn_nle hen (show b9 + j < b9 + n9 by omega) (by omega))) (fun c_16 => ?_)
      refine lv_aload_n hx hb dX6_firstBadHour_19 rfl (lv_at hl 2 rfl) ?_
      refine lv_iload_n hx hb dX6_firstBadHour_20 rfl (lv_at hl 1 rfl) ?_
      refine lv_iload_n hx hb dX6_firstBadHour_21 rfl (lv_at hl 0 rfl) ?_
      refine ro_callV MC HS (rest := []) (As := [.int x, .int (nI (b9 + j))]) (x_holdingAmong hX hI (hh := b9 + j) (by omega) x) (lkX6_110) (kw354) (kw8) ⟨Nat.le_of_ble_eq_true rfl, Nat.le_of_ble_eq_true rfl⟩ (ro_recv MC HP (hRR.l (by decide)) h0 (rfl : vwCl[5]? = some (RX6, TX6, 11))) hl.1 rfl (Nat.le_of_ble_eq_true rfl) dX6_firstBadHour_22 ⟨Nat.le_of_ble_eq_true rfl, Nat.le_of_ble_eq_true rfl⟩ (fun v9 H4 lH4 hp hz HS => ?_)
      obtain ⟨rfl, rfl⟩ := hp
      refine lv_if_eq (tgt := 30) hx hb dX6_firstBadHour_25 (by decide) (fun c_25 => ?_) (fun c_25 => ?_)
      · refine lv_iinc (v := nI (b9 + j) + 1) (lv' := [(3, .int (nI (b9 + j) + 1)), (2, .int x), (0, .ref (ad 0)), (1, .ref (ad (60 + k)))]) hx hb dX6_firstBadHour_30 hl (k := 0) rfl rfl (by decide) rfl (fun ls hl => ?_)
        refine lv_goto (tgt := 11) hx hb dX6_firstBadHour_33 (by decide) ?_
        rw [fst1_go (by rw [hbj]; simp [c_25])] at hR
        rw [nI_1] at hl
        exact ih hR _ ls HS (lv_sub hl [0, 1, 2, 3] rfl)
      · refine lv_iload_n hx hb dX6_firstBadHour_28 rfl (lv_at hl 0 rfl) ?_
        rw [fst1_st (by rw [hbj]; simp [c_25])] at hR
        exact ro_iretM MC HS hr (⟨by rw [hcl, ← hR]; show _ = some (Value.int (τ 12 k + nI j)); rw [hr_add hb9], rfl⟩) (Nat.le_of_ble_eq_true rfl) (Nat.le_of_ble_eq_true rfl) dX6_firstBadHour_29
  rw [hb9] at hl
  exact loop 0 (Nat.zero_le _) rfl _ ls HS (lv_sub hl [0, 1, 2, 3] rfl)
set_option maxHeartbeats 4000000 in
set_option maxRecDepth 100000 in
theorem x_rankToSpend {l : Launch} {D : va_G} {ids : Nat → ClassId} {n0 : Nat} {RR : List Nat} {ad : Nat → Nat} {cn : Nat → va_E} {τ : Tau} {ns nl nc : Nat} {Hh : Heap} (hX : xH D ids n0 RR ad cn τ ns nl nc Hh) {nw : Nat} (hI : Iv τ nw ns nl nc) {r9 : Nat} (hr1 : 1 ≤ r9) (hr3 : r9 ≤ 3) : ro_M l yX6_rankToSpend cX6_rankToSpend 3 (some FieldType.int) { frames := 0, cells := 0, slots := 0, locals := 0 } D ids n0 [.ref (ad 0), .int (nI r9)] Hh (fun v H1 => v = some (.int (if rkS (τ 18) 4 r9 < 4 then nI (rkS (τ 18) 4 r9) else -1)) ∧ Hh = H1) := by
  refine ro_ofM (by decide +kernel) (Nat.le_of_ble_eq_true rfl) ?_
  intro p e s m below meth c MC hhp hr hnm HS ls hl
  have hx := MC.1.1
  have hb := MC.1.2.1
  have hl : lv_has ls 3 [(0, .ref (ad 0)), (1, .int (nI r9))] := hl
  obtain ⟨HP, hRR, sa, bm, fm, lf, ff, cf, h0, h1, h1b, h2, h2b, h7, h7b, h3, h3b, h40, h4, h4b, h60, h5, h6⟩ := id hX
  refine lv_iload_n hx hb dX6_rankToSpend_0 rfl (lv_at hl 1 rfl) ?_
  refine lv_istore_n (lv' := [(2, .int (nI r9)), (0, .ref (ad 0)), (1, .int (nI r9))]) hx hb dX6_rankToSpend_1 rfl hl (by decide) rfl (fun ls hl => ?_)
  have loop : ∀ n : Nat, ∀ (r : Nat), r ≤ 4 → 4 ≤ r + n → rkS (τ 18) n r = rkS (τ 18) 4 r9 → ∀ (locs : List Loc) (ls : Array Slot), va_S (fun q => n0 ≤ q) s.heap Hh locs → lv_has ls 3 [(2, .int (nI r)), (0, .ref (ad 0)), (1, .int (nI r9))] → W p l e { frames := 0, cells := 0, slots := 0, locals := 0 } s m ([.ref (ad 0), .int (nI r9)] : List Value).toArray below meth c Hh locs 0 0 (MQ below (ro_Q n0 (fun v H1 => v = some (.int (if rkS (τ 18) 4 r9 < 4 then nI (rkS (τ 18) 4 r9) else -1)) ∧ Hh = H1)) ([.ref (ad 0), .int (nI r9)] : List Value).toArray s 0 0 (fun q => n0 ≤ q)) (F0 m 2 ls []) := by
    intro n
    induction n with
    | zero =>
      intro r hr4 h4r hR locs ls HS hl
      have hR2 : r = rkS (τ 18) 4 r9 := hR
      have h4r9 : 3 < nI r := nI_lt (a := 3) (by omega) (by omega)
      refine lv_iload_n hx hb dX6_rankToSpend_2 rfl (lv_at hl 0 rfl) ?_
      refine lv_iconst (v := 3) hx hb dX6_rankToSpend_3 (by decide) ?_
      refine lv_icmp_gt (tgt := 24) hx hb dX6_rankToSpend_4 (by decide) (fun c_4 => ?_) (fun c_4 => absurd (h4r9) c_4)
      refine lv_iconst (v := (-1)) hx hb dX6_rankToSpend_24 (by decide) ?_
      exact ro_iretM MC HS hr (⟨by rw [if_neg (by omega)], rfl⟩) (Nat.le_of_ble_eq_true rfl) (Nat.le_of_ble_eq_true rfl) dX6_rankToSpend_25
    | succ n ih =>
      intro r hr4 h4r hR locs ls HS hl
      by_cases hrl : r < 4
      · have h4r9 : ¬ 3 < nI r := nI_nlt (b := r) (a := 3) (by omega) (by omega)
        have hex := (hI.2.2.2.2.2.2.2.2.2.2.2.2 r hrl).1
        refine lv_iload_n hx hb dX6_rankToSpend_2 rfl (lv_at hl 0 rfl) ?_
        refine lv_iconst (v := 3) hx hb dX6_rankToSpend_3 (by decide) ?_
        refine lv_icmp_gt (tgt := 24) hx hb dX6_rankToSpend_4 (by decide) (fun c_4 => absurd c_4 (h4r9)) (fun c_4 => ?_)
        refine lv_aload_n hx hb dX6_rankToSpend_7 rfl (lv_at hl 1 rfl) ?_
        refine ro_get MC HP (hRR.l (by decide)) h0 (rfl : vwCl[5]? = some (RX6, TX6, 11)) inU6 9 (by decide) kw70 rfl rfl dX6_rankToSpend_8 ?_
        refine lv_iload_n hx hb dX6_rankToSpend_11 rfl (lv_at hl 0 rfl) ?_
        refine xo_iald MC HP (hRR.l (show 5 < 18 by omega)) h5 r (show r < 4 by omega) (by omega) rfl dX6_rankToSpend_12 ?_
        refine lv_if_le (tgt := 18) hx hb dX6_rankToSpend_13 (by decide) (fun c_13 => ?_) (fun c_13 => ?_)
        · refine lv_iinc (v := nI r + 1) (lv' := [(2, .int (nI r + 1)), (0, .ref (ad 0)), (1, .int (nI r9))]) hx hb dX6_rankToSpend_18 hl (k := 0) rfl rfl (by decide) rfl (fun ls hl => ?_)
          refine lv_goto (tgt := 2) hx hb dX6_rankToSpend_21 (by decide) ?_
          rw [rkS, if_pos ⟨hrl, by lia⟩] at hR
          rw [nI_1] at hl
          exact ih (r + 1) (by omega) (by omega) hR _ ls HS (lv_sub hl [0, 1, 2] rfl)
        · refine lv_iload_n hx hb dX6_rankToSpend_16 rfl (lv_at hl 0 rfl) ?_
          have hR2 : r = rkS (τ 18) 4 r9 := by rw [← hR, rkS, if_neg (fun h9 => c_13 (by rw [h9.2]; decide))]
          exact ro_iretM MC HS hr (⟨by rw [← hR2, if_pos hrl], rfl⟩) (Nat.le_of_ble_eq_true rfl) (Nat.le_of_ble_eq_true rfl) dX6_rankToSpend_17
      · have h4r9 : 3 < nI r := nI_lt (a := 3) (by omega) (by omega)
        have hR2 : r = rkS (τ 18) 4 r9 := by rw [← hR, rkS, if_neg (fun h9 => hrl h9.1)]
        refine lv_iload_n hx hb dX6_rankToSpend_2 rfl (lv_at hl 0 rfl) ?_
        refine lv_iconst (v := 3) hx hb dX6_rankToSpend_3 (by decide) ?_
        refine lv_icmp_gt (tgt := 24) hx hb dX6_rankToSpend_4 (by decide) (fun c_4 => ?_) (fun c_4 => absurd (h4r9) c_4)
        refine lv_iconst (v := (-1)) hx hb dX6_rankToSpend_24 (by decide) ?_
        exact ro_iretM MC HS hr (⟨by rw [if_neg (by omega)], rfl⟩) (Nat.le_of_ble_eq_true rfl) (Nat.le_of_ble_eq_true rfl) dX6_rankToSpend_25
  exact loop 4 r9 (by omega) (by omega) rfl _ ls HS (lv_sub hl [0, 1, 2] rfl)
