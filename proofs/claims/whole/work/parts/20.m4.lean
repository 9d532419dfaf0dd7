set_option maxHeartbeats 4000000 in
set_option maxRecDepth 100000 in
theorem m_isBelow {l : Launch} {D : va_G} {ids : Nat → ClassId} {n0 : Nat} {RR : List Nat} {ad : Nat → Nat} {τ : Tau} {th : Int32} {fr : Nat → va_E} {Hh : Heap} (hw : sM D ids n0 RR ad τ th fr Hh) {nw ns nl nc : Nat} (hI : Iv τ nw ns nl nc) (i j : Nat) (hi : i < ns) (hj : j < ns) : ro_M l yX7_isBelow cX7_isBelow 4 (some FieldType.boolean) { frames := 0, cells := 0, slots := 0, locals := 0 } D ids n0 [.ref (ad 11), .int (nI i), .int (nI j)] Hh (fun v H1 => v = some (.int (bI (bel (τ 1) 16 i j = true))) ∧ Hh = H1) := by
  refine ro_ofM (by decide +kernel) (Nat.le_of_ble_eq_true rfl) ?_
  intro p e s m below meth c MC hhp hr hnm HS ls hl
  have hx := MC.1.1
  have hb := MC.1.2.1
  have hl : lv_has ls 4 [(0, .ref (ad 11)), (1, .int (nI i)), (2, .int (nI j))] := hl
  have hns := hI.2.1.2.2
  have loop : ∀ (n q : Nat), q < n → q < ns → bel (τ 1) n q j = bel (τ 1) 16 i j → ∀ ls : Array Slot, lv_has ls 4 [(3, .int (nI q)), (0, .ref (ad 11)), (1, .int (nI i)), (2, .int (nI j))] → W p l e { frames := 0, cells := 0, slots := 0, locals := 0 } s m ([.ref (ad 11), .int (nI i), .int (nI j)] : List Value).toArray below meth c Hh [] 0 0 (MQ below (ro_Q n0 (fun v H1 => v = some (.int (bI (bel (τ 1) 16 i j = true))) ∧ Hh = H1)) ([.ref (ad 11), .int (nI i), .int (nI j)] : List Value).toArray s 0 0 (fun q => n0 ≤ q)) (F0 m 2 ls []) := by
    intro n
    induction n with
    | zero => intro q hq; exact absurd hq (Nat.not_lt_zero q)
    | succ n ih =>
      intro q hq hqs hB ls hl
      refine lv_iload_n hx hb dX7_isBelow_2 rfl (lv_at hl 0 rfl) ?_
      refine lv_iconst (v := (-1)) hx hb dX7_isBelow_3 (by decide) ?_
      refine lv_icmp_eq (tgt := 22) hx hb dX7_isBelow_4 (by decide) (fun c_4 => absurd c_4 (nI_m1 (by omega))) (fun c_4 => ?_)
      refine lv_iload_n hx hb dX7_isBelow_7 rfl (lv_at hl 0 rfl) ?_
      refine lv_iload_n hx hb dX7_isBelow_8 rfl (lv_at hl 3 rfl) ?_
      refine lv_icmp_eq (tgt := 22) hx hb dX7_isBelow_9 (by decide) (fun c_9 => ?_) (fun c_9 => ?_)
      · have hqj : q = j := (nI_eq (by omega) (by omega)).mp c_9
        have hB1 : bel (τ 1) 16 i j = true := by rw [← hB, hqj]; simp [bel]
        refine lv_iload_n hx hb dX7_isBelow_22 rfl (lv_at hl 0 rfl) ?_
        refine lv_iload_n hx hb dX7_isBelow_23 rfl (lv_at hl 3 rfl) ?_
        refine lv_icmp_ne (tgt := 31) hx hb dX7_isBelow_24 (by decide) (fun c_24 => absurd (c_9) c_24) (fun c_24 => ?_)
        refine lv_iconst (v := 1) hx hb dX7_isBelow_27 (by decide) ?_
        refine lv_goto (tgt := 32) hx hb dX7_isBelow_28 (by decide) ?_
        exact ro_zretM MC HS hr rfl ⟨by rw [bI_t hB1], rfl⟩ (Nat.le_refl _) (Nat.le_refl _) dX7_isBelow_32
      · refine lv_aload_n hx hb dX7_isBelow_12 rfl (lv_at hl 1 rfl) ?_
        refine mo_get MC hw 3 (by decide) kw621 rfl rfl dX7_isBelow_13 ?_
        refine lv_iload_n hx hb dX7_isBelow_16 rfl (lv_at hl 0 rfl) ?_
        refine mo_iald MC hw 1 (by decide) (by decide) rfl q (show q < 16 by omega) rfl dX7_isBelow_17 ?_
        refine lv_istore_n (lv' := [(3, .int (τ 1 q)), (0, .ref (ad 11)), (1, .int (nI i)), (2, .int (nI j))]) hx hb dX7_isBelow_18 rfl hl (by decide) rfl (fun ls hl => ?_)
        refine lv_goto (tgt := 2) hx hb dX7_isBelow_19 (by decide) ?_
        have hqj : ¬ q = j := fun h9 => c_9 (by rw [h9])
        have hqj2 : (q == j) = false := beq_eq_false_iff_ne.mpr hqj
        rcases Nat.eq_zero_or_pos q with h0 | h0
        · have h1 : τ 1 q = -1 := by rw [h0]; exact hI.2.2.2.2.1.1
          rw [h1] at hl
          have hB0 : bel (τ 1) 16 i j = false := by rw [← hB]; simp [bel, hqj, h1]
          refine lv_iload_n hx hb dX7_isBelow_2 rfl (lv_at hl 0 rfl) ?_
          refine lv_iconst (v := (-1)) hx hb dX7_isBelow_3 (by decide) ?_
          refine lv_icmp_eq (tgt := 22) hx hb dX7_isBelow_4 (by decide) (fun c_4 => ?_) (fun c_4 => absurd c_4 (by decide))
          refine lv_iload_n hx hb dX7_isBelow_22 rfl (lv_at hl 0 rfl) ?_
          refine lv_iload_n hx hb dX7_isBelow_23 rfl (lv_at hl 3 rfl) ?_
          refine lv_icmp_ne (tgt := 31) hx hb dX7_isBelow_24 (by decide) (fun c_24 => ?_) (fun c_24 => absurd c_24 (fun h9 : -1 = nI j => nI_m1 (n := j) (by omega) h9.symm))
          refine lv_iconst (v := 0) hx hb dX7_isBelow_31 (by decide) ?_
          exact ro_zretM MC HS hr rfl ⟨by rw [bI_f (by rw [hB0]; decide)], rfl⟩ (Nat.le_refl _) (Nat.le_refl _) dX7_isBelow_32
        · obtain ⟨q2, hq2, h1⟩ := hI.2.2.2.2.1.2 q h0 hqs
          rw [h1] at hl
          refine ih q2 (by omega) (by omega) ?_ ls (lv_sub hl [0, 1, 2, 3] rfl)
          rw [← hB]; simp only [bel, hqj2, Bool.false_or, h1]
          rw [show (nI q2 == -1) = false from beq_eq_false_iff_ne.mpr (nI_m1 (by omega)), cx_nI (by omega)]
          rfl
  refine lv_iload_n hx hb dX7_isBelow_0 rfl (lv_at hl 1 rfl) ?_
  refine lv_istore_n (lv' := [(3, .int (nI i)), (0, .ref (ad 11)), (1, .int (nI i)), (2, .int (nI j))]) hx hb dX7_isBelow_1 rfl hl (by decide) rfl (fun ls hl => ?_)
  exact loop 16 i (by omega) hi rfl ls (lv_sub hl [0, 1, 2, 3] rfl)
set_option maxHeartbeats 4000000 in
set_option maxRecDepth 100000 in
theorem m_touchesScope {l : Launch} {D : va_G} {ids : Nat → ClassId} {n0 : Nat} {RR : List Nat} {ad : Nat → Nat} {τ : Tau} {th : Int32} {fr : Nat → va_E} {Hh : Heap} (hw : sM D ids n0 RR ad τ th fr Hh) {nw ns nl nc : Nat} (hI : Iv τ nw ns nl nc) (k i : Nat) (hk : k < nl) (hi : i < ns) : ro_M l yX7_touchesScope cX7_touchesScope 3 (some FieldType.boolean) { frames := 1, cells := 0, slots := 0, locals := 30 } D ids n0 [.ref (ad 11), .int (nI k), .int (nI i)] Hh (fun v H1 => v = some (.int (bI (touS τ k (nI i) = true))) ∧ Hh = H1) := by
  refine ro_ofM (by decide +kernel) (Nat.le_of_ble_eq_true rfl) ?_
  intro p e s m below meth c MC hhp hr hnm HS ls hl
  have hx := MC.1.1
  have hb := MC.1.2.1
  have hl : lv_has ls 3 [(0, .ref (ad 11)), (1, .int (nI k)), (2, .int (nI i))] := hl
  have hnl := hI.2.2.1.2
  have hns := hI.2.1.2.2
  obtain ⟨-, ⟨u, hu, hsu⟩, -, -⟩ := hI.2.2.2.2.2.2.2.2.2.1 k hk
  have hcu : cx (τ 6 k) = u := by rw [hsu]; exact cx_nI (by omega)
  have hci : cx (nI i) = i := cx_nI (by omega)
  refine lv_aload_n hx hb dX7_touchesScope_0 rfl (lv_at hl 0 rfl) ?_
  refine lv_iload_n hx hb dX7_touchesScope_1 rfl (lv_at hl 2 rfl) ?_
  refine lv_aload_n hx hb dX7_touchesScope_2 rfl (lv_at hl 0 rfl) ?_
  refine mo_get MC hw 9 (by decide) kw627 rfl rfl dX7_touchesScope_3 ?_
  refine lv_iload_n hx hb dX7_touchesScope_6 rfl (lv_at hl 1 rfl) ?_
  refine mo_iald MC hw 6 (by decide) (by decide) rfl k (show k < 20 by omega) rfl dX7_touchesScope_7 ?_
  rw [hsu]
  refine ro_callV MC HS (rest := []) (As := [.int (nI i), .int (nI u)]) (m_isBelow hw hI i u hi hu) (lkX7_96) (kw760) (kw21) ⟨Nat.le_of_ble_eq_true rfl, Nat.le_of_ble_eq_true rfl⟩ (mo_recv MC hw) hl.1 rfl (Nat.le_of_ble_eq_true rfl) dX7_touchesScope_8 ⟨Nat.le_of_ble_eq_true rfl, Nat.le_of_ble_eq_true rfl⟩ (fun v9 H1 lH1 hp hz HS => ?_)
  obtain ⟨rfl, rfl⟩ := hp
  refine lv_if_ne (tgt := 28) hx hb dX7_touchesScope_11 (by decide) (fun c_11 => ?_) (fun c_11 => ?_)
  · have f_11 := bI_n0.mp c_11
    refine lv_iconst (v := 1) hx hb dX7_touchesScope_28 (by decide) ?_
    refine lv_goto (tgt := 33) hx hb dX7_touchesScope_29 (by decide) ?_
    exact ro_zretM MC HS hr rfl ⟨by unfold touS; rw [hcu, hci]; rw [bI_t (by simp [f_11])], rfl⟩ (Nat.le_refl _) (Nat.le_refl _) dX7_touchesScope_33
  · have f_11 := bI_0.mp c_11
    refine lv_aload_n hx hb dX7_touchesScope_14 rfl (lv_at hl 0 rfl) ?_
    refine lv_aload_n hx hb dX7_touchesScope_15 rfl (lv_at hl 0 rfl) ?_
    refine mo_get MC hw 9 (by decide) kw627 rfl rfl dX7_touchesScope_16 ?_
    refine lv_iload_n hx hb dX7_touchesScope_19 rfl (lv_at hl 1 rfl) ?_
    refine mo_iald MC hw 6 (by decide) (by decide) rfl k (show k < 20 by omega) rfl dX7_touchesScope_20 ?_
    rw [hsu]
    refine lv_iload_n hx hb dX7_touchesScope_21 rfl (lv_at hl 2 rfl) ?_
    refine ro_callV MC HS (rest := []) (As := [.int (nI u), .int (nI i)]) (m_isBelow hw hI u i hu hi) (lkX7_96) (kw760) (kw21) ⟨Nat.le_of_ble_eq_true rfl, Nat.le_of_ble_eq_true rfl⟩ (mo_recv MC hw) hl.1 rfl (Nat.le_of_ble_eq_true rfl) dX7_touchesScope_22 ⟨Nat.le_of_ble_eq_true rfl, Nat.le_of_ble_eq_true rfl⟩ (fun v9 H2 lH2 hp hz HS => ?_)
    obtain ⟨rfl, rfl⟩ := hp
    refine lv_if_eq (tgt := 32) hx hb dX7_touchesScope_25 (by decide) (fun c_25 => ?_) (fun c_25 => ?_)
    · have f_25 := bI_0.mp c_25
      refine lv_iconst (v := 0) hx hb dX7_touchesScope_32 (by decide) ?_
      exact ro_zretM MC HS hr rfl ⟨by unfold touS; rw [hcu, hci]; rw [bI_f (by simp [f_11, f_25])], rfl⟩ (Nat.le_refl _) (Nat.le_refl _) dX7_touchesScope_33
    · have f_25 := bI_n0.mp c_25
      refine lv_iconst (v := 1) hx hb dX7_touchesScope_28 (by decide) ?_
      refine lv_goto (tgt := 33) hx hb dX7_touchesScope_29 (by decide) ?_
      exact ro_zretM MC HS hr rfl ⟨by unfold touS; rw [hcu, hci]; rw [bI_t (by simp [f_11, f_25])], rfl⟩ (Nat.le_refl _) (Nat.le_refl _) dX7_touchesScope_33
set_option maxHeartbeats 4000000 in
set_option maxRecDepth 100000 in
theorem m_holdingIn {l : Launch} {D : va_G} {ids : Nat → ClassId} {n0 : Nat} {RR : List Nat} {ad : Nat → Nat} {τ : Tau} {th : Int32} {fr : Nat → va_E} {Hh : Heap} (hw : sM D ids n0 RR ad τ th fr Hh) {nw ns nl nc : Nat} (hI : Iv τ nw ns nl nc) (i hh : Nat) (hi : i < ns) (hh9 : hh < 672) : ro_M l yX7_holdingIn cX7_holdingIn 5 (some FieldType.int) { frames := 2, cells := 0, slots := 0, locals := 60 } D ids n0 [.ref (ad 11), .int (nI i), .int (nI hh)] Hh (fun v H1 => v = some (.int (hoS τ (nI i) (nI hh))) ∧ Hh = H1) := by
  refine ro_ofM (by decide +kernel) (Nat.le_of_ble_eq_true rfl) ?_
  intro p e s m below meth c MC hhp hr hnm HS ls hl
  have hx := MC.1.1
  have hb := MC.1.2.1
  have hl : lv_has ls 5 [(0, .ref (ad 11)), (1, .int (nI i)), (2, .int (nI hh))] := hl
  have hnl := hI.2.2.1.2
  have hcs : cx (τ 0 2) = nl := by rw [hI.2.2.1.1]; exact cx_nI (by omega)
  have loop : ∀ k : Nat, k ≤ nl → ∀ (locs : List Loc) (ls : Array Slot), va_S (fun q => n0 ≤ q) s.heap Hh locs → lv_has ls 5 [(4, .int (nI k)), (3, .int (mk (fun k => τ 4 k == 0 && touS τ k (nI i) && hoB τ k (nI hh)) k)), (0, .ref (ad 11)), (1, .int (nI i)), (2, .int (nI hh))] → W p l e { frames := 2, cells := 0, slots := 0, locals := 60 } s m ([.ref (ad 11), .int (nI i), .int (nI hh)] : List Value).toArray below meth c Hh locs 0 0 (MQ below (ro_Q n0 (fun v H1 => v = some (.int (hoS τ (nI i) (nI hh))) ∧ Hh = H1)) ([.ref (ad 11), .int (nI i), .int (nI hh)] : List Value).toArray s 0 0 (fun q => n0 ≤ q)) (F0 m 5 ls []) := by
    refine ro_loop (nl) (fun k : Nat => ∀ (locs : List Loc) (ls : Array Slot), va_S (fun q => n0 ≤ q) s.heap Hh locs → lv_has ls 5 [(4, .int (nI k)), (3, .int (mk (fun k => τ 4 k == 0 && touS τ k (nI i) && hoB τ k (nI hh)) k)), (0, .ref (ad 11)), (1, .int (nI i)), (2, .int (nI hh))] → W p l e { frames := 2, cells := 0, slots := 0, locals := 60 } s m ([.ref (ad 11), .int (nI i), .int (nI hh)] : List Value).toArray below meth c Hh locs 0 0 (MQ below (ro_Q n0 (fun v H1 => v = some (.int (hoS τ (nI i) (nI hh))) ∧ Hh = H1)) ([.ref (ad 11), .int (nI i), .int (nI hh)] : List Value).toArray s 0 0 (fun q => n0 ≤ q)) (F0 m 5 ls [])) ?_ ?_
    · intro locs ls HS hl
      refine lv_iload hx hb dX7_holdingIn_5 (lv_at hl 0 rfl) ?_
      refine lv_aload_n hx hb dX7_holdingIn_7 rfl (lv_at hl 2 rfl) ?_
      refine mo_get MC hw 6 (by decide) kw624 rfl rfl dX7_holdingIn_8 ?_
      refine lv_icmp_ge (tgt := 61) hx hb dX7_holdingIn_11 (by decide) (fun c_11 => ?_) (fun c_11 => absurd (kn_le hI.2.2.1.1 (Nat.le_refl _) (by omega)) c_11)
      refine lv_iload_n hx hb dX7_holdingIn_61 rfl (lv_at hl 1 rfl) ?_
      exact ro_iretM MC HS hr ⟨by unfold hoS; rw [hcs], rfl⟩ (Nat.le_refl _) (Nat.le_refl _) dX7_holdingIn_62
    · intro k hkk ih locs ls HS hl
      refine lv_iload hx hb dX7_holdingIn_5 (lv_at hl 0 rfl) ?_
      refine lv_aload_n hx hb dX7_holdingIn_7 rfl (lv_at hl 2 rfl) ?_
      refine mo_get MC hw 6 (by decide) kw624 rfl rfl dX7_holdingIn_8 ?_
      refine lv_icmp_ge (tgt := 61) hx hb dX7_holdingIn_11 (by decide) (fun c_11 => absurd c_11 (kn_nle hI.2.2.1.1 hkk (by omega))) (fun c_11 => ?_)
      refine lv_iload_n hx hb dX7_holdingIn_14 rfl (lv_at hl 1 rfl) ?_
      refine lv_aload_n hx hb dX7_holdingIn_15 rfl (lv_at hl 2 rfl) ?_
      refine mo_get MC hw 7 (by decide) kw625 rfl rfl dX7_holdingIn_16 ?_
      refine lv_iload hx hb dX7_holdingIn_19 (lv_at hl 0 rfl) ?_
      refine mo_zald MC hw 4 (by decide) (by decide) rfl k (show k < 20 by omega) rfl dX7_holdingIn_21 ?_
      refine lv_if_ne (tgt := 52) hx hb dX7_holdingIn_22 (by decide) (fun c_22 => ?_) (fun c_22 => ?_)
      · refine lv_iconst (v := 0) hx hb dX7_holdingIn_52 (by decide) ?_
        refine lv_ior hx hb dX7_holdingIn_53 ?_
        refine lv_istore_n (lv' := [(3, .int ((mk (fun k => τ 4 k == 0 && touS τ k (nI i) && hoB τ k (nI hh)) k ||| 0))), (4, .int (nI k)), (0, .ref (ad 11)), (1, .int (nI i)), (2, .int (nI hh))]) hx hb dX7_holdingIn_54 rfl hl (by decide) rfl (fun ls hl => ?_)
        refine lv_iinc (v := nI k + 1) (lv' := [(4, .int (nI k + 1)), (3, .int ((mk (fun k => τ 4 k == 0 && touS τ k (nI i) && hoB τ k (nI hh)) k ||| 0))), (0, .ref (ad 11)), (1, .int (nI i)), (2, .int (nI hh))]) hx hb dX7_holdingIn_55 hl (k := 1) rfl rfl (by decide) rfl (fun ls hl => ?_)
        refine lv_goto (tgt := 5) hx hb dX7_holdingIn_58 (by decide) ?_
        rw [mk_f (p := (fun k => τ 4 k == 0 && touS τ k (nI i) && hoB τ k (nI hh))) (by simp [c_22]), nI_1] at hl
        exact ih _ ls HS (lv_sub hl [0, 1, 2, 3, 4] rfl)
      · refine lv_aload_n hx hb dX7_holdingIn_25 rfl (lv_at hl 2 rfl) ?_
        refine lv_iload hx hb dX7_holdingIn_26 (lv_at hl 0 rfl) ?_
        refine lv_iload_n hx hb dX7_holdingIn_28 rfl (lv_at hl 3 rfl) ?_
        refine ro_callV MC HS (rest := [.int (mk (fun k => τ 4 k == 0 && touS τ k (nI i) && hoB τ k (nI hh)) k)]) (As := [.int (nI k), .int (nI i)]) (m_touchesScope hw hI k i hkk hi) (lkX7_100) (kw756) (kw20) ⟨Nat.le_of_ble_eq_true rfl, Nat.le_of_ble_eq_true rfl⟩ (mo_recv MC hw) hl.1 rfl (Nat.le_of_ble_eq_true rfl) dX7_holdingIn_29 ⟨Nat.le_of_ble_eq_true rfl, Nat.le_of_ble_eq_true rfl⟩ (fun v9 H1 lH1 hp hz HS => ?_)
        obtain ⟨rfl, rfl⟩ := hp
        refine lv_if_eq (tgt := 52) hx hb dX7_holdingIn_32 (by decide) (fun c_32 => ?_) (fun c_32 => ?_)
        · have f_32 := bI_0.mp c_32
          refine lv_iconst (v := 0) hx hb dX7_holdingIn_52 (by decide) ?_
          refine lv_ior hx hb dX7_holdingIn_53 ?_
          refine lv_istore_n (lv' := [(3, .int ((mk (fun k => τ 4 k == 0 && touS τ k (nI i) && hoB τ k (nI hh)) k ||| 0))), (4, .int (nI k)), (0, .ref (ad 11)), (1, .int (nI i)), (2, .int (nI hh))]) hx hb dX7_holdingIn_54 rfl hl (by decide) rfl (fun ls hl => ?_)
          refine lv_iinc (v := nI k + 1) (lv' := [(4, .int (nI k + 1)), (3, .int ((mk (fun k => τ 4 k == 0 && touS τ k (nI i) && hoB τ k (nI hh)) k ||| 0))), (0, .ref (ad 11)), (1, .int (nI i)), (2, .int (nI hh))]) hx hb dX7_holdingIn_55 hl (k := 1) rfl rfl (by decide) rfl (fun ls hl => ?_)
          refine lv_goto (tgt := 5) hx hb dX7_holdingIn_58 (by decide) ?_
          rw [mk_f (p := (fun k => τ 4 k == 0 && touS τ k (nI i) && hoB τ k (nI hh))) (by simp [c_22, f_32]), nI_1] at hl
          exact ih _ ls HS (lv_sub hl [0, 1, 2, 3, 4] rfl)
        · have f_32 := bI_n0.mp c_32
          refine lv_aload_n hx hb dX7_holdingIn_35 rfl (lv_at hl 2 rfl) ?_
          refine lv_iload hx hb dX7_holdingIn_36 (lv_at hl 0 rfl) ?_
          refine lv_iload_n hx hb dX7_holdingIn_38 rfl (lv_at hl 4 rfl) ?_
          refine ro_callV MC HS (rest := [.int (mk (fun k => τ 4 k == 0 && touS τ k (nI i) && hoB τ k (nI hh)) k)]) (As := [.int (nI k), .int (nI hh)]) (m_holds hw hI k hh hkk hh9) (lkX7_103) (kw764) (kw22) ⟨Nat.le_of_ble_eq_true rfl, Nat.le_of_ble_eq_true rfl⟩ (mo_recv MC hw) hl.1 rfl (Nat.le_of_ble_eq_true rfl) dX7_holdingIn_39 ⟨Nat.le_of_ble_eq_true rfl, Nat.le_of_ble_eq_true rfl⟩ (fun v9 H2 lH2 hp hz HS => ?_)
          obtain ⟨rfl, rfl⟩ := hp
          refine lv_if_eq (tgt := 52) hx hb dX7_holdingIn_42 (by decide) (fun c_42 => ?_) (fun c_42 => ?_)
          · have f_42 := bI_0.mp c_42
            refine lv_iconst (v := 0) hx hb dX7_holdingIn_52 (by decide) ?_
            refine lv_ior hx hb dX7_holdingIn_53 ?_
            refine lv_istore_n (lv' := [(3, .int ((mk (fun k => τ 4 k == 0 && touS τ k (nI i) && hoB τ k (nI hh)) k ||| 0))), (4, .int (nI k)), (0, .ref (ad 11)), (1, .int (nI i)), (2, .int (nI hh))]) hx hb dX7_holdingIn_54 rfl hl (by decide) rfl (fun ls hl => ?_)
            refine lv_iinc (v := nI k + 1) (lv' := [(4, .int (nI k + 1)), (3, .int ((mk (fun k => τ 4 k == 0 && touS τ k (nI i) && hoB τ k (nI hh)) k ||| 0))), (0, .ref (ad 11)), (1, .int (nI i)), (2, .int (nI hh))]) hx hb dX7_holdingIn_55 hl (k := 1) rfl rfl (by decide) rfl (fun ls hl => ?_)
            refine lv_goto (tgt := 5) hx hb dX7_holdingIn_58 (by decide) ?_
            rw [mk_f (p := (fun k => τ 4 k == 0 && touS τ k (nI i) && hoB τ k (nI hh))) (by simp [c_22, f_32, f_42]), nI_1] at hl
            exact ih _ ls HS (lv_sub hl [0, 1, 2, 3, 4] rfl)
          · have f_42 := bI_n0.mp c_42
            refine lv_iconst (v := 1) hx hb dX7_holdingIn_45 (by decide) ?_
            refine lv_iload hx hb dX7_holdingIn_46 (lv_at hl 0 rfl) ?_
            refine lv_ishl hx hb dX7_holdingIn_48 ?_
            refine lv_goto (tgt := 53) hx hb dX7_holdingIn_49 (by decide) ?_
            refine lv_ior hx hb dX7_holdingIn_53 ?_
            refine lv_istore_n (lv' := [(3, .int ((mk (fun k => τ 4 k == 0 && touS τ k (nI i) && hoB τ k (nI hh)) k ||| (1 <<< (nI k &&& 31))))), (4, .int (nI k)), (0, .ref (ad 11)), (1, .int (nI i)), (2, .int (nI hh))]) hx hb dX7_holdingIn_54 rfl hl (by decide) rfl (fun ls hl => ?_)
            refine lv_iinc (v := nI k + 1) (lv' := [(4, .int (nI k + 1)), (3, .int ((mk (fun k => τ 4 k == 0 && touS τ k (nI i) && hoB τ k (nI hh)) k ||| (1 <<< (nI k &&& 31))))), (0, .ref (ad 11)), (1, .int (nI i)), (2, .int (nI hh))]) hx hb dX7_holdingIn_55 hl (k := 1) rfl rfl (by decide) rfl (fun ls hl => ?_)
            refine lv_goto (tgt := 5) hx hb dX7_holdingIn_58 (by decide) ?_
            rw [mk_t (p := (fun k => τ 4 k == 0 && touS τ k (nI i) && hoB τ k (nI hh))) (by simp [c_22, f_32, f_42]), nI_1] at hl
            exact ih _ ls HS (lv_sub hl [0, 1, 2, 3, 4] rfl)
  refine lv_iconst (v := 0) hx hb dX7_holdingIn_0 (by decide) ?_
  refine lv_istore_n (lv' := [(3, .int 0), (0, .ref (ad 11)), (1, .int (nI i)), (2, .int (nI hh))]) hx hb dX7_holdingIn_1 rfl hl (by decide) rfl (fun ls hl => ?_)
  refine lv_iconst (v := 0) hx hb dX7_holdingIn_2 (by decide) ?_
  refine lv_istore (lv' := [(4, .int 0), (3, .int 0), (0, .ref (ad 11)), (1, .int (nI i)), (2, .int (nI hh))]) hx hb dX7_holdingIn_3 hl (by decide) rfl (fun ls hl => ?_)
  exact loop 0 (Nat.zero_le _) _ ls HS (lv_sub hl [0, 1, 2, 3, 4] rfl)
