theorem aq_excuse_0 {τ : Tau} {c9 k9 : Int32} (hn9 : ¬ (0 ≤ c9 ∧ c9 ≤ τ 0 3 - 1)) : th_excuse τ c9 k9 = 1 := by
  unfold th_excuse; grind
theorem aq_excuse_1 {τ : Tau} {c9 k9 : Int32} {k : Nat} (hf_1 : 0 ≤ c9 ∧ c9 ≤ τ 0 3 - 1) (hkc : cx c9 = k) (hle15 : τ 15 k ≤ τ 14 k) (hn9 : ¬ (okF τ k9)) : th_excuse τ c9 k9 = 2 := by
  unfold th_excuse; grind
theorem aq_excuse_2 {τ : Tau} {c9 k9 : Int32} {k : Nat} {q : Nat} (hf_1 : 0 ≤ c9 ∧ c9 ≤ τ 0 3 - 1) (hkc : cx c9 = k) (hle15 : τ 15 k ≤ τ 14 k) (hf_2 : okF τ k9) (hqc : cx k9 = q) (hT : tch τ q k = true) (hB : (τ 16 k >>> (k9 &&& 31)) &&& 1 = 0) (hR4 : rkx τ q < 4) : th_excuse τ c9 k9 = 0 := by
  unfold th_excuse; grind
theorem aq_excuse_3 {τ : Tau} {c9 k9 : Int32} {k : Nat} {q : Nat} (hf_1 : 0 ≤ c9 ∧ c9 ≤ τ 0 3 - 1) (hkc : cx c9 = k) (hle15 : τ 15 k ≤ τ 14 k) (hf_2 : okF τ k9) (hqc : cx k9 = q) (hT : tch τ q k = true) (hB : (τ 16 k >>> (k9 &&& 31)) &&& 1 = 0) (hR4 : ¬ (rkx τ q < 4)) : th_excuse τ c9 k9 = 3 := by
  unfold th_excuse; grind
theorem aq_excuse_4 {τ : Tau} {c9 k9 : Int32} {k : Nat} {q : Nat} (hf_1 : 0 ≤ c9 ∧ c9 ≤ τ 0 3 - 1) (hkc : cx c9 = k) (hle15 : τ 15 k ≤ τ 14 k) (hf_2 : okF τ k9) (hqc : cx k9 = q) (hT : tch τ q k = true) (hB : ¬ ((τ 16 k >>> (k9 &&& 31)) &&& 1 = 0)) : th_excuse τ c9 k9 = 3 := by
  unfold th_excuse; grind
theorem aq_excuse_5 {τ : Tau} {c9 k9 : Int32} {k : Nat} {q : Nat} (hf_1 : 0 ≤ c9 ∧ c9 ≤ τ 0 3 - 1) (hkc : cx c9 = k) (hle15 : τ 15 k ≤ τ 14 k) (hf_2 : okF τ k9) (hqc : cx k9 = q) (hT : ¬ (tch τ q k = true)) : th_excuse τ c9 k9 = 3 := by
  unfold th_excuse; grind
theorem aq_lift_0 {τ : Tau} {f9 : Int32} (hn9 : ¬ (okF τ f9)) : th_lift τ f9 = 1 := by
  unfold th_lift; grind
theorem aq_lift_1 {τ : Tau} {f9 : Int32} {q : Nat} (hf_3 : okF τ f9) (hqc : cx f9 = q) : th_lift τ f9 = 0 := by
  unfold th_lift; grind
theorem aq_feast_0 {τ : Tau} {a9 d9 : Int32} (hn9 : ¬ (0 ≤ a9 ∧ a9 ≤ 3)) : th_feast τ a9 d9 = 1 := by
  unfold th_feast; grind
theorem aq_feast_1 {τ : Tau} {a9 d9 : Int32} (hf_4 : 0 ≤ a9 ∧ a9 ≤ 3) (hn9 : ¬ ((-1) ≤ d9 ∧ d9 ≤ 28)) : th_feast τ a9 d9 = 2 := by
  unfold th_feast; grind
theorem aq_feast_2 {τ : Tau} {a9 d9 : Int32} (hf_4 : 0 ≤ a9 ∧ a9 ≤ 3) (hf_5 : (-1) ≤ d9 ∧ d9 ≤ 28) : th_feast τ a9 d9 = 0 := by
  unfold th_feast; grind
theorem aq_nextSpan_0 {τ : Tau} {s9 f9 n9 : Int32} (hn9 : ¬ (0 ≤ s9 ∧ s9 ≤ τ 0 1 - 1)) : th_nextSpan τ s9 f9 n9 = 1 := by
  unfold th_nextSpan; grind
theorem aq_nextSpan_1 {τ : Tau} {s9 f9 n9 : Int32} (hf_6 : 0 ≤ s9 ∧ s9 ≤ τ 0 1 - 1) (hn9 : ¬ (0 ≤ f9 ∧ f9 ≤ 671)) : th_nextSpan τ s9 f9 n9 = 2 := by
  unfold th_nextSpan; grind
theorem aq_nextSpan_2 {τ : Tau} {s9 f9 n9 : Int32} (hf_6 : 0 ≤ s9 ∧ s9 ≤ τ 0 1 - 1) (hf_7 : 0 ≤ f9 ∧ f9 ≤ 671) (hn9 : ¬ (1 ≤ n9 ∧ n9 ≤ 100)) : th_nextSpan τ s9 f9 n9 = 2 := by
  unfold th_nextSpan; grind
theorem aq_nextSpan_3 {τ : Tau} {s9 f9 n9 : Int32} (hf_6 : 0 ≤ s9 ∧ s9 ≤ τ 0 1 - 1) (hf_7 : 0 ≤ f9 ∧ f9 ≤ 671) (hf_8 : 1 ≤ n9 ∧ n9 ≤ 100) : th_nextSpan τ s9 f9 n9 = 0 := by
  unfold th_nextSpan; grind
theorem ex_dec {x : Int32} (h : ¬ x = 0) (hb : 0 ≤ x ∧ x ≤ 50) : 0 ≤ x - 1 ∧ x - 1 ≤ 50 := by
  obtain ⟨h1, h2⟩ := hb
  exact ⟨by lia, by lia⟩
set_option maxHeartbeats 4000000 in
set_option maxRecDepth 100000 in
theorem q_excuse {l : Launch} (hl9 : l.stackTraces = false) {D : va_G} {ids : Nat → ClassId} {n0 : Nat} {RR : List Nat} {ad : Nat → Nat} {cn : Nat → va_E} {τ : Tau} {ns nl nc : Nat} {Hh : Heap} (hX : xH D ids n0 RR ad cn τ ns nl nc Hh) {nw : Nat} (hI : Iv τ nw ns nl nc) {c9 k9 : Int32} : ro_T l yX6_excuse cX6_excuse 6 (some FieldType.int) { frames := 8, cells := 8, slots := 48, locals := 240 } D ids n0 [.ref (ad 0), .int c9, .int k9] Hh (fun v H1 => th_excuse τ c9 k9 = 0 ∧ v = some (.int (rt_excuse τ c9 k9)) ∧ aft D ids n0 ad cn (nx_excuse τ c9 k9) H1) (fun E9 H1 => grow Hh H1 ∧ ((th_excuse τ c9 k9 = 1 ∧ E9 = "java/lang/IndexOutOfBoundsException") ∨ (th_excuse τ c9 k9 = 2 ∧ E9 = "java/util/NoSuchElementException") ∨ (th_excuse τ c9 k9 = 3 ∧ E9 = "java/lang/IllegalStateException"))) := by
  refine ro_ofT (by decide +kernel) (Nat.le_of_ble_eq_true rfl) ?_
  intro p e s m below meth c MC hhp hr hno HS ls hl
  have hx := MC.1.1
  have hb := MC.1.2.1
  have hl : lv_has ls 6 [(0, .ref (ad 0)), (1, .int c9), (2, .int k9)] := hl
  obtain ⟨HP, hRR, sa, bm, fm, lf, ff, cf, h0, h1, h1b, h2, h2b, h7, h7b, h3, h3b, h40, h4, h4b, h60, h5, h6⟩ := id hX
  have hwb := hI.wb
  have hsb := hI.sb
  have hlb := hI.lb
  have hcb := hI.cb
  have hnl := hI.2.2.1.2
  have hns := hI.2.1.2.2
  have hnc := hI.2.2.2.1.2
  have hcs : cx (τ 0 2) = nl := by rw [hI.2.2.1.1]; exact cx_nI (by omega)
  refine lv_aload_n hx hb dX6_excuse_0 rfl (lv_at hl 0 rfl) ?_
  refine lv_iload_n hx hb dX6_excuse_1 rfl (lv_at hl 1 rfl) ?_
  refine ro_callVT MC HS (rest := []) (As := [.int c9]) (x_needChange hl9 hX hI) (lkX6_123) (kw437) (kw9) ⟨Nat.le_of_ble_eq_true rfl, Nat.le_of_ble_eq_true rfl⟩ (ro_recv MC HP (hRR.l (by decide)) h0 (rfl : vwCl[5]? = some (RX6, TX6, 11))) hl.1 rfl (Nat.le_of_ble_eq_true rfl) dX6_excuse_2 ⟨Nat.le_of_ble_eq_true rfl, Nat.le_of_ble_eq_true rfl⟩ (ro_out MC hno (Nat.le_of_ble_eq_true rfl) (Nat.le_of_ble_eq_true rfl) (fun E9 H9 hp => by obtain ⟨hg9, rfl, hn9⟩ := hp; exact ⟨hg9, Or.inl (⟨aq_excuse_0 hn9, rfl⟩)⟩)) (fun v9 H1 lH1 hp hz HS => ?_)
  obtain ⟨k, hk, hka, hkc, hf_1, rfl, rfl⟩ := hp
  have hle15 := (hI.2.2.2.2.2.2.2.2.2.2.1 k hk).2.2.2.1.2
  have hln := ch_len hI hk
  refine lv_astore_n (lv' := [(3, .ref (ad (60 + k))), (0, .ref (ad 0)), (1, .int c9), (2, .int k9)]) hx hb dX6_excuse_5 rfl hl (by decide) rfl (fun ls hl => ?_)
  refine lv_aload_n hx hb dX6_excuse_6 rfl (lv_at hl 1 rfl) ?_
  refine lv_iload_n hx hb dX6_excuse_7 rfl (lv_at hl 3 rfl) ?_
  refine ro_callVT MC HS (rest := []) (As := [.int k9]) (x_needFreeze hl9 hX hI) (lkX6_99) (kw321) (kw5) ⟨Nat.le_of_ble_eq_true rfl, Nat.le_of_ble_eq_true rfl⟩ (ro_recv MC HP (hRR.l (by decide)) h0 (rfl : vwCl[5]? = some (RX6, TX6, 11))) hl.1 rfl (Nat.le_of_ble_eq_true rfl) dX6_excuse_8 ⟨Nat.le_of_ble_eq_true rfl, Nat.le_of_ble_eq_true rfl⟩ (ro_out MC hno (Nat.le_of_ble_eq_true rfl) (Nat.le_of_ble_eq_true rfl) (fun E9 H9 hp => by obtain ⟨hg9, rfl, hn9⟩ := hp; exact ⟨hg9, Or.inr (Or.inl (⟨aq_excuse_1 hf_1 hkc hle15 hn9, rfl⟩))⟩)) (fun v9 H2 lH2 hp hz HS => ?_)
  obtain ⟨q, hq, hq4, hqa, hqc, hf_2, rfl, rfl⟩ := hp
  refine lv_astore (lv' := [(4, .ref (ad (40 + q))), (3, .ref (ad (60 + k))), (0, .ref (ad 0)), (1, .int c9), (2, .int k9)]) hx hb dX6_excuse_11 hl (by decide) rfl (fun ls hl => ?_)
  refine lv_aload_n hx hb dX6_excuse_13 rfl (lv_at hl 2 rfl) ?_
  refine lv_aload_n hx hb dX6_excuse_14 rfl (lv_at hl 1 rfl) ?_
  refine ro_callV MC HS (rest := []) (As := [.ref (ad (60 + k))]) (x_touchChange hX hI hk) (lkX6_175) (kw454) (kw12) ⟨Nat.le_of_ble_eq_true rfl, Nat.le_of_ble_eq_true rfl⟩ (ro_recv MC HP (hRR.l (by decide)) h0 (rfl : vwCl[5]? = some (RX6, TX6, 11))) hl.1 rfl (Nat.le_of_ble_eq_true rfl) dX6_excuse_15 ⟨Nat.le_of_ble_eq_true rfl, Nat.le_of_ble_eq_true rfl⟩ (fun v9 H3 lH3 hp hz HS => ?_)
  obtain ⟨x, rfl, hxb, rfl⟩ := hp
  refine lv_iload_n hx hb dX6_excuse_18 rfl (lv_at hl 4 rfl) ?_
  refine ro_callS MC HS (rest := []) (As := [.int x, .int k9]) (by rw [hqa]; exact x_isInSet D ids n0 (x) q) (lkX6_178) (kw229) ⟨Nat.le_of_ble_eq_true rfl, Nat.le_of_ble_eq_true rfl⟩ hl.1 rfl (Nat.le_of_ble_eq_true rfl) dX6_excuse_19 ⟨Nat.le_of_ble_eq_true rfl, Nat.le_of_ble_eq_true rfl⟩ (fun v9 H4 lH4 hp hz HS => ?_)
  obtain ⟨rfl, rfl⟩ := hp
  refine lv_if_ne (tgt := 35) hx hb dX6_excuse_22 (by decide) (fun c_22 => ?_) (fun c_22 => ?_)
  · have f_22 := bI_n0.mp c_22
    have hT : tch τ q k = true := by rw [← show bit x q = tch τ q k by rw [hxb q (by omega)]; simp [hq]]; exact f_22
    refine lv_aload_n hx hb dX6_excuse_35 rfl (lv_at hl 1 rfl) ?_
    refine ro_get MC HP (hRR.c (show k < nc by omega)) (h60 k (by omega)) (rfl : vwCl[0]? = some (RX0, TX0, 8)) inU0 5 (by decide) kw410 rfl rfl dX6_excuse_36 ?_
    refine lv_iload_n hx hb dX6_excuse_39 rfl (lv_at hl 4 rfl) ?_
    refine ro_callS MC HS (rest := []) (As := [.int (τ 16 k), .int k9]) (by rw [hqa]; exact x_isInSet D ids n0 (τ 16 k) q) (lkX6_178) (kw229) ⟨Nat.le_of_ble_eq_true rfl, Nat.le_of_ble_eq_true rfl⟩ hl.1 rfl (Nat.le_of_ble_eq_true rfl) dX6_excuse_40 ⟨Nat.le_of_ble_eq_true rfl, Nat.le_of_ble_eq_true rfl⟩ (fun v9 H5 lH5 hp hz HS => ?_)
    obtain ⟨rfl, rfl⟩ := hp
    refine lv_if_eq (tgt := 56) hx hb dX6_excuse_43 (by decide) (fun c_43 => ?_) (fun c_43 => ?_)
    · have f_43 := bI_0.mp c_43
      have hB : (τ 16 k >>> (k9 &&& 31)) &&& 1 = 0 := by rw [hqa]; exact Classical.not_not.mp (fun h9 => f_43 (bit_n0.mpr h9))
      refine lv_aload_n hx hb dX6_excuse_56 rfl (lv_at hl 2 rfl) ?_
      refine lv_aload hx hb dX6_excuse_57 (lv_at hl 0 rfl) ?_
      refine xo_frank MC HP (hRR.f (show q < nl by omega)) (h40 q (by omega)) dX6_excuse_59 ?_
      obtain ⟨-, -, -, ⟨r9, hr1, hr3, hra⟩⟩ := hI.2.2.2.2.2.2.2.2.2.1 q hq
      have hrk : rkx τ q = rkS (τ 18) 4 r9 := by rw [rkx, hra, cx_nI (by omega)]
      refine ro_callV MC HS (rest := []) (As := [.int (τ 10 q)]) (by rw [hra]; exact x_rankToSpend hX hI hr1 hr3) (lkX6_189) (kw496) (kw15) ⟨Nat.le_of_ble_eq_true rfl, Nat.le_of_ble_eq_true rfl⟩ (ro_recv MC HP (hRR.l (by decide)) h0 (rfl : vwCl[5]? = some (RX6, TX6, 11))) hl.1 rfl (Nat.le_of_ble_eq_true rfl) dX6_excuse_62 ⟨Nat.le_of_ble_eq_true rfl, Nat.le_of_ble_eq_true rfl⟩ (fun v9 H6 lH6 hp hz HS => ?_)
      rw [← hrk] at hp
      obtain ⟨sp, hsp⟩ : ∃ sp : Int32, sp = if rkx τ q < 4 then nI (rkx τ q) else -1 := ⟨_, rfl⟩
      rw [← hsp] at hp
      obtain ⟨rfl, rfl⟩ := hp
      refine lv_istore (lv' := [(5, .int sp), (4, .ref (ad (40 + q))), (3, .ref (ad (60 + k))), (0, .ref (ad 0)), (1, .int c9), (2, .int k9)]) hx hb dX6_excuse_65 hl (by decide) rfl (fun ls hl => ?_)
      refine lv_iload hx hb dX6_excuse_67 (lv_at hl 0 rfl) ?_
      refine lv_iconst (v := (-1)) hx hb dX6_excuse_69 (by decide) ?_
      refine lv_icmp_ne (tgt := 83) hx hb dX6_excuse_70 (by decide) (fun c_70 => ?_) (fun c_70 => ?_)
      · have hR4 : rkx τ q < 4 := Classical.byContradiction fun h9 => c_70 (by rw [hsp, if_neg h9])
        have hspe : sp = nI (rkx τ q) := by rw [hsp, if_pos hR4]
        refine lv_aload_n hx hb dX6_excuse_83 rfl (lv_at hl 3 rfl) ?_
        refine ro_get MC HP (hRR.l (by decide)) h0 (rfl : vwCl[5]? = some (RX6, TX6, 11)) inU6 9 (by decide) kw70 rfl rfl dX6_excuse_84 ?_
        refine lv_iload hx hb dX6_excuse_87 (lv_at hl 0 rfl) ?_
        refine lv_dup2_11 hx hb dX6_excuse_89 rfl rfl ?_
        refine xo_iald MC HP (hRR.l (show 5 < 18 by omega)) h5 (rkx τ q) (show rkx τ q < 4 by omega) (by omega) hspe dX6_excuse_90 ?_
        refine lv_iconst (v := 1) hx hb dX6_excuse_91 (by decide) ?_
        refine lv_isub hx hb dX6_excuse_92 ?_
        refine xo_iast MC HP HS (hRR.l (by decide)) h5 (rkx τ q) (show rkx τ q < 4 by omega) (by omega) hspe dX6_excuse_93 (fun H7 lH7 HP HS => ?_)
        refine lv_aload_n hx hb dX6_excuse_94 rfl (lv_at hl 2 rfl) ?_
        refine lv_dup hx hb dX6_excuse_95 rfl ?_
        refine ro_get MC HP (hRR.c (show k < nc by omega)) ((va_up_ne _ _ (by omega)).trans (h60 k (by omega))) (rfl : vwCl[0]? = some (RX0, TX0, 8)) inU0 5 (by decide) kw410 rfl rfl dX6_excuse_96 ?_
        refine lv_iconst (v := 1) hx hb dX6_excuse_99 (by decide) ?_
        refine lv_iload_n hx hb dX6_excuse_100 rfl (lv_at hl 5 rfl) ?_
        refine lv_ishl hx hb dX6_excuse_101 ?_
        refine lv_ior hx hb dX6_excuse_102 ?_
        refine ro_put MC HP HS (hRR.c (show k < nc by omega)) ((va_up_ne _ _ (by omega)).trans (h60 k (by omega))) (rfl : vwCl[0]? = some (RX0, TX0, 8)) inU0 tyX0_ok nmX0 5 (by decide) kw410 rfl rfl rfl rfl (Nat.le_of_ble_eq_true rfl) dX6_excuse_103 (fun H8 lH8 HP HS => ?_)
        refine lv_iload hx hb dX6_excuse_106 (lv_at hl 0 rfl) ?_
        have e2 : nx_excuse τ c9 k9 = (ti (ti τ 16 k (τ 16 k ||| 1 <<< (k9 &&& 31))) 18 (rkx τ q) (τ 18 (rkx τ q) - 1)) := by unfold nx_excuse; rw [hkc, hqc]
        have hrw : ∀ i, i < 18 → ∀ j, j ≠ k → (ti (ti τ 16 k (τ 16 k ||| 1 <<< (k9 &&& 31))) 18 (rkx τ q) (τ 18 (rkx τ q) - 1)) i j = τ i j := fun i hi j hj => by rw [ti_low (by omega)]; exact ti_row i hi j hj
        have hX2 : xH D ids n0 RR ad _ (ti (ti τ 16 k (τ 16 k ||| 1 <<< (k9 &&& 31))) 18 (rkx τ q) (τ 18 (rkx τ q) - 1)) ns nl nc _ := ⟨HP, hRR, _, _, _, _, _, _, isX.chg (k9 := k) ⟨h0, h1, h1b, h2, h2b, h7, h7b, h3, h3b, h40, h4, h4b, h60, h5, h6⟩ hI (fun r hr => ((va_up_ne _ _ (by omega)).trans (va_up_ne _ _ (by omega)))) (fun i hi => by rw [ti_low (by omega), ti_low (by omega)]) ((va_up_ne _ _ (by omega)).trans (va_up_self ..)) ((va_up_self ..).trans (chF_of rfl rfl rfl rfl rfl (upd_at ..) rfl rfl)) hrw⟩
        have hnz := rkS_nz (τ 18) 4 (cx (τ 10 q)) (by omega) hR4
        have hI2 : Iv (ti (ti τ 16 k (τ 16 k ||| 1 <<< (k9 &&& 31))) 18 (rkx τ q) (τ 18 (rkx τ q) - 1)) nw ns nl nc := hI.chg hk (fun i hi => by rw [ti_low (by omega), ti_low (by omega)]) hrw (by
          intro r hr9
          show 0 ≤ upd (τ 18) (rkx τ q) (τ 18 (rkx τ q) - 1) r ∧ upd (τ 18) (rkx τ q) (τ 18 (rkx τ q) - 1) r ≤ 50
          by_cases h9 : r = rkx τ q
          · rw [h9, upd_at]; exact ex_dec hnz (hI.2.2.2.2.2.2.2.2.2.2.2.2 _ hR4)
          · rw [upd_ne _ _ h9]; exact hI.2.2.2.2.2.2.2.2.2.2.2.2 r hr9) (by
          obtain ⟨a1, a2, a3, a4, a5⟩ := hI.2.2.2.2.2.2.2.2.2.2.1 k hk
          exact ⟨a1, a2, a3, a4, a5⟩)
        exact ro_MT (ro_iretM MC HS hr (⟨aq_excuse_2 hf_1 hkc hle15 hf_2 hqc hT hB hR4, by rw [rt_excuse, hqc, hspe], by rw [e2]; exact ⟨RR, ad, _, nw, ns, nl, nc, hX2, hI2, fun _ _ => rfl, fun r hr1 hr2 => ((va_up_ne _ _ (by omega)).trans (va_up_ne _ _ (by omega)))⟩⟩) (Nat.le_of_ble_eq_true rfl) (Nat.le_of_ble_eq_true rfl) dX6_excuse_108)
      · have hR4 : ¬ (rkx τ q < 4) := fun h9 => by rw [hsp, if_pos h9] at c_70; exact nI_m1 (by omega) c_70
        exact ro_throw hl9 MC HS hno th_192 hl.1 dX6_excuse_73 dX6_excuse_76 dX6_excuse_77 dX6_excuse_79 dX6_excuse_82 ⟨Nat.le_of_ble_eq_true rfl, Nat.le_of_ble_eq_true rfl, Nat.le_of_ble_eq_true rfl, Nat.le_of_ble_eq_true rfl⟩ (fun H9 hz9 hq9 => ⟨⟨hz9, hq9⟩, Or.inr (Or.inr (⟨aq_excuse_3 hf_1 hkc hle15 hf_2 hqc hT hB hR4, rfl⟩))⟩) (Nat.le_of_ble_eq_true rfl) (Nat.le_of_ble_eq_true rfl)
    · have f_43 := bI_n0.mp c_43
      have hB : ¬ ((τ 16 k >>> (k9 &&& 31)) &&& 1 = 0) := by rw [hqa]; exact bit_n0.mp f_43
      exact ro_throw hl9 MC HS hno th_184 hl.1 dX6_excuse_46 dX6_excuse_49 dX6_excuse_50 dX6_excuse_52 dX6_excuse_55 ⟨Nat.le_of_ble_eq_true rfl, Nat.le_of_ble_eq_true rfl, Nat.le_of_ble_eq_true rfl, Nat.le_of_ble_eq_true rfl⟩ (fun H9 hz9 hq9 => ⟨⟨hz9, hq9⟩, Or.inr (Or.inr (⟨aq_excuse_4 hf_1 hkc hle15 hf_2 hqc hT hB, rfl⟩))⟩) (Nat.le_of_ble_eq_true rfl) (Nat.le_of_ble_eq_true rfl)
  · have f_22 := bI_0.mp c_22
    have hT : ¬ (tch τ q k = true) := by rw [← show bit x q = tch τ q k by rw [hxb q (by omega)]; simp [hq]]; exact f_22
    exact ro_throw hl9 MC HS hno th_182 hl.1 dX6_excuse_25 dX6_excuse_28 dX6_excuse_29 dX6_excuse_31 dX6_excuse_34 ⟨Nat.le_of_ble_eq_true rfl, Nat.le_of_ble_eq_true rfl, Nat.le_of_ble_eq_true rfl, Nat.le_of_ble_eq_true rfl⟩ (fun H9 hz9 hq9 => ⟨⟨hz9, hq9⟩, Or.inr (Or.inr (⟨aq_excuse_5 hf_1 hkc hle15 hf_2 hqc hT, rfl⟩))⟩) (Nat.le_of_ble_eq_true rfl) (Nat.le_of_ble_eq_true rfl)
set_option maxHeartbeats 4000000 in
set_option maxRecDepth 100000 in
theorem q_lift {l : Launch} (hl9 : l.stackTraces = false) {D : va_G} {ids : Nat → ClassId} {n0 : Nat} {RR : List Nat} {ad : Nat → Nat} {cn : Nat → va_E} {τ : Tau} {ns nl nc : Nat} {Hh : Heap} (hX : xH D ids n0 RR ad cn τ ns nl nc Hh) {nw : Nat} (hI : Iv τ nw ns nl nc) {f9 : Int32} : ro_T l yX6_lift cX6_lift 2 (some FieldType.int) { frames := 8, cells := 8, slots := 48, locals := 240 } D ids n0 [.ref (ad 0), .int f9] Hh (fun v H1 => th_lift τ f9 = 0 ∧ v = some (.int (rt_lift τ f9)) ∧ aft D ids n0 ad cn (nx_lift τ f9) H1) (fun E9 H1 => grow Hh H1 ∧ ((th_lift τ f9 = 1 ∧ E9 = "java/util/NoSuchElementException"))) := by
  refine ro_ofT (by decide +kernel) (Nat.le_of_ble_eq_true rfl) ?_
  intro p e s m below meth c MC hhp hr hno HS ls hl
  have hx := MC.1.1
  have hb := MC.1.2.1
  have hl : lv_has ls 2 [(0, .ref (ad 0)), (1, .int f9)] := hl
  obtain ⟨HP, hRR, sa, bm, fm, lf, ff, cf, h0, h1, h1b, h2, h2b, h7, h7b, h3, h3b, h40, h4, h4b, h60, h5, h6⟩ := id hX
  have hwb := hI.wb
  have hsb := hI.sb
  have hlb := hI.lb
  have hcb := hI.cb
  have hnl := hI.2.2.1.2
  have hns := hI.2.1.2.2
  have hnc := hI.2.2.2.1.2
  have hcs : cx (τ 0 2) = nl := by rw [hI.2.2.1.1]; exact cx_nI (by omega)
  refine lv_aload_n hx hb dX6_lift_0 rfl (lv_at hl 0 rfl) ?_
  refine lv_iload_n hx hb dX6_lift_1 rfl (lv_at hl 1 rfl) ?_
  refine ro_callVT MC HS (rest := []) (As := [.int f9]) (x_needFreeze hl9 hX hI) (lkX6_99) (kw321) (kw5) ⟨Nat.le_of_ble_eq_true rfl, Nat.le_of_ble_eq_true rfl⟩ (ro_recv MC HP (hRR.l (by decide)) h0 (rfl : vwCl[5]? = some (RX6, TX6, 11))) hl.1 rfl (Nat.le_of_ble_eq_true rfl) dX6_lift_2 ⟨Nat.le_of_ble_eq_true rfl, Nat.le_of_ble_eq_true rfl⟩ (ro_out MC hno (Nat.le_of_ble_eq_true rfl) (Nat.le_of_ble_eq_true rfl) (fun E9 H9 hp => by obtain ⟨hg9, rfl, hn9⟩ := hp; exact ⟨hg9, ⟨aq_lift_0 hn9, rfl⟩⟩)) (fun v9 H1 lH1 hp hz HS => ?_)
  obtain ⟨q, hq, hq4, hqa, hqc, hf_3, rfl, rfl⟩ := hp
  refine lv_pop hx hb dX6_lift_5 rfl ?_
  refine lv_aload_n hx hb dX6_lift_6 rfl (lv_at hl 0 rfl) ?_
  refine ro_get MC HP (hRR.l (by decide)) h0 (rfl : vwCl[5]? = some (RX6, TX6, 11)) inU6 4 (by decide) kw65 rfl rfl dX6_lift_7 ?_
  refine lv_iload_n hx hb dX6_lift_10 rfl (lv_at hl 1 rfl) ?_
  refine lv_null hx hb dX6_lift_11 ?_
  refine xo_aastN MC HP HS 4 (hRR.l (by decide)) h3 rfl q (show q < 20 by omega) (by omega) hqa dX6_lift_12 (fun H2 lH2 HP HS => ?_)
  refine lv_aload_n hx hb dX6_lift_13 rfl (lv_at hl 0 rfl) ?_
  refine lv_dup hx hb dX6_lift_14 rfl ?_
  refine ro_get MC HP (hRR.l (by decide)) ((va_up_ne _ _ (by omega)).trans h0) (rfl : vwCl[5]? = some (RX6, TX6, 11)) inU6 6 (by decide) kw67 rfl rfl dX6_lift_15 ?_
  refine lv_iconst (v := 1) hx hb dX6_lift_18 (by decide) ?_
  refine lv_isub hx hb dX6_lift_19 ?_
  refine ro_put MC HP HS (hRR.l (by decide)) ((va_up_ne _ _ (by omega)).trans h0) (rfl : vwCl[5]? = some (RX6, TX6, 11)) inU6 tyX6_ok nmX6 6 (by decide) kw67 rfl rfl rfl rfl (Nat.le_of_ble_eq_true rfl) dX6_lift_20 (fun H3 lH3 HP HS => ?_)
  refine lv_aload_n hx hb dX6_lift_23 rfl (lv_at hl 0 rfl) ?_
  refine ro_get MC HP (hRR.l (by decide)) (va_up_self ..) (rfl : vwCl[5]? = some (RX6, TX6, 11)) inU6 6 (by decide) kw67 rfl rfl dX6_lift_24 ?_
  have e2 : nx_lift τ f9 = ti τ 4 q 1 := by unfold nx_lift; rw [hqc]
  have hst := st_lift hcs hnl hq hq4
  exact ro_MT (ro_iretM MC HS hr (⟨aq_lift_1 hf_3 hqc, by rw [rt_lift, e2, hst], by rw [e2]; exact ⟨RR, ad, _, nw, ns, nl, nc, ⟨HP, hRR, _, _, _, _, _, _, isX.lft ⟨h0, h1, h1b, h2, h2b, h7, h7b, h3, h3b, h40, h4, h4b, h60, h5, h6⟩ hI (fun r hr => ((va_up_ne _ _ (by omega)).trans (va_up_ne _ _ (by omega)))) (fun i hi => ti_low hi) ((va_up_self ..).trans (by rw [hst]; rfl)) ((va_up_ne _ _ (by omega)).trans (va_up_self ..)) (lf_k3b h3b hq)⟩, hI.lift hq, fun _ _ => rfl, fun r hr1 hr2 => ((va_up_ne _ _ (by omega)).trans (va_up_ne _ _ (by omega)))⟩⟩) (Nat.le_of_ble_eq_true rfl) (Nat.le_of_ble_eq_true rfl) dX6_lift_27)
set_option maxHeartbeats 4000000 in
set_option maxRecDepth 100000 in
theorem x_turn {l : Launch} {D : va_G} {ids : Nat → ClassId} {n0 : Nat} {RR : List Nat} {ad : Nat → Nat} {cn : Nat → va_E} {Hh : Heap} (HP : ro_P D n0 RR ad cn Hh) {r : Nat} (hr9 : r ∈ RR) {x9 f9 d9 : Int32} (hf : cn r = .inr (4, [.int x9, .int f9])) : ro_M l yX5_turnFeastDay cX5_turnFeastDay 2 none { frames := 0, cells := 0, slots := 0, locals := 0 } D ids n0 [.ref (ad r), .int d9] Hh (fun v H1 => v = none ∧ ro_P D n0 RR ad (va_up cn r (.inr (4, [.int x9, .int (f9 ^^^ 1 <<< ((d9 - (-1)) &&& 31))]))) H1) := by
  refine ro_ofM (by decide +kernel) (Nat.le_of_ble_eq_true rfl) ?_
  intro p e s m below meth c MC hhp hr hnm HS ls hl
  have hx := MC.1.1
  have hb := MC.1.2.1
  have hl : lv_has ls 2 [(0, .ref (ad r)), (1, .int d9)] := hl
  refine lv_aload_n hx hb dX5_turnFeastDay_0 rfl (lv_at hl 0 rfl) ?_
  refine lv_dup hx hb dX5_turnFeastDay_1 rfl ?_
  refine ro_get MC HP hr9 hf (rfl : vwCl[4]? = some (RX5, TX5, 2)) inU5 1 (by decide) kw53 rfl rfl dX5_turnFeastDay_2 ?_
  refine lv_iconst (v := 1) hx hb dX5_turnFeastDay_5 (by decide) ?_
  refine lv_iload_n hx hb dX5_turnFeastDay_6 rfl (lv_at hl 1 rfl) ?_
  refine lv_iconst (v := (-1)) hx hb dX5_turnFeastDay_7 (by decide) ?_
  refine lv_isub hx hb dX5_turnFeastDay_8 ?_
  refine lv_ishl hx hb dX5_turnFeastDay_9 ?_
  refine lv_ixor hx hb dX5_turnFeastDay_10 ?_
  refine ro_put MC HP HS hr9 hf (rfl : vwCl[4]? = some (RX5, TX5, 2)) inU5 tyX5_ok nmX5 1 (by decide) kw53 rfl rfl rfl rfl (Nat.le_of_ble_eq_true rfl) dX5_turnFeastDay_11 (fun H1 lH1 HP HS => ?_)
  exact ro_vretM MC HS hr (⟨rfl, HP⟩) (Nat.le_of_ble_eq_true rfl) (Nat.le_of_ble_eq_true rfl) dX5_turnFeastDay_14
set_option maxHeartbeats 4000000 in
set_option maxRecDepth 100000 in
theorem q_feast {l : Launch} (hl9 : l.stackTraces = false) {D : va_G} {ids : Nat → ClassId} {n0 : Nat} {RR : List Nat} {ad : Nat → Nat} {cn : Nat → va_E} {τ : Tau} {ns nl nc : Nat} {Hh : Heap} (hX : xH D ids n0 RR ad cn τ ns nl nc Hh) {nw : Nat} (hI : Iv τ nw ns nl nc) {a9 d9 : Int32} : ro_T l yX6_feast cX6_feast 4 (some FieldType.boolean) { frames := 8, cells := 8, slots := 48, locals := 240 } D ids n0 [.ref (ad 0), .int a9, .int d9] Hh (fun v H1 => th_feast τ a9 d9 = 0 ∧ v = some (.int (rt_feast τ a9 d9)) ∧ aft D ids n0 ad cn (nx_feast τ a9 d9) H1) (fun E9 H1 => grow Hh H1 ∧ ((th_feast τ a9 d9 = 1 ∧ E9 = "java/lang/IndexOutOfBoundsException") ∨ (th_feast τ a9 d9 = 2 ∧ E9 = "java/lang/IllegalArgumentException"))) := by
  refine ro_ofT (by decide +kernel) (Nat.le_of_ble_eq_true rfl) ?_
  intro p e s m below meth c MC hhp hr hno HS ls hl
  have hx := MC.1.1
  have hb := MC.1.2.1
  have hl : lv_has ls 4 [(0, .ref (ad 0)), (1, .int a9), (2, .int d9)] := hl
  obtain ⟨HP, hRR, sa, bm, fm, lf, ff, cf, h0, h1, h1b, h2, h2b, h7, h7b, h3, h3b, h40, h4, h4b, h60, h5, h6⟩ := id hX
  have hwb := hI.wb
  have hsb := hI.sb
  have hlb := hI.lb
  have hcb := hI.cb
  have hnl := hI.2.2.1.2
  have hns := hI.2.1.2.2
  have hnc := hI.2.2.2.1.2
  have hcs : cx (τ 0 2) = nl := by rw [hI.2.2.1.1]; exact cx_nI (by omega)
  refine lv_aload_n hx hb dX6_feast_0 rfl (lv_at hl 0 rfl) ?_
  refine lv_iload_n hx hb dX6_feast_1 rfl (lv_at hl 1 rfl) ?_
  refine ro_callVT MC HS (rest := []) (As := [.int a9]) (x_needLand hl9 hX hI) (lkX6_54) (kw194) (kw2) ⟨Nat.le_of_ble_eq_true rfl, Nat.le_of_ble_eq_true rfl⟩ (ro_recv MC HP (hRR.l (by decide)) h0 (rfl : vwCl[5]? = some (RX6, TX6, 11))) hl.1 rfl (Nat.le_of_ble_eq_true rfl) dX6_feast_2 ⟨Nat.le_of_ble_eq_true rfl, Nat.le_of_ble_eq_true rfl⟩ (ro_out MC hno (Nat.le_of_ble_eq_true rfl) (Nat.le_of_ble_eq_true rfl) (fun E9 H9 hp => by obtain ⟨hg9, rfl, hn9⟩ := hp; exact ⟨hg9, Or.inl (⟨aq_feast_0 hn9, rfl⟩)⟩)) (fun v9 H1 lH1 hp hz HS => ?_)
  obtain ⟨d, hd, hda, hdc, hf_4, rfl, rfl⟩ := hp
  refine lv_astore_n (lv' := [(3, .ref (ad (7 + d))), (0, .ref (ad 0)), (1, .int a9), (2, .int d9)]) hx hb dX6_feast_5 rfl hl (by decide) rfl (fun ls hl => ?_)
  refine lv_iload_n hx hb dX6_feast_6 rfl (lv_at hl 3 rfl) ?_
  refine lv_iconst (v := (-1)) hx hb dX6_feast_7 (by decide) ?_
  refine lv_bipush (v := 28) hx hb dX6_feast_8 (by decide) ?_
  refine ro_callST MC HS (rest := []) (As := [.int d9, .int ((-1)), .int 28]) (x_needRange hl9) (lkX6_58) (kw198) ⟨Nat.le_of_ble_eq_true rfl, Nat.le_of_ble_eq_true rfl⟩ hl.1 rfl (Nat.le_of_ble_eq_true rfl) dX6_feast_10 ⟨Nat.le_of_ble_eq_true rfl, Nat.le_of_ble_eq_true rfl⟩ (ro_out MC hno (Nat.le_of_ble_eq_true rfl) (Nat.le_of_ble_eq_true rfl) (fun E9 H9 hp => by obtain ⟨hg9, rfl, hn9⟩ := hp; exact ⟨hg9, Or.inr (⟨aq_feast_1 hf_4 hn9, rfl⟩)⟩)) (fun v9 H2 lH2 hp hz HS => ?_)
  obtain ⟨rfl, hf_5, rfl⟩ := hp
  obtain ⟨e, he9, hd1, -, hix⟩ := fd_ix hda hd hf_5
  have hde : d9 - (-1) = nI e := by rw [← hd1]; clear hX HP; lia
  refine lv_aload_n hx hb dX6_feast_13 rfl (lv_at hl 0 rfl) ?_
  refine lv_iload_n hx hb dX6_feast_14 rfl (lv_at hl 3 rfl) ?_
  refine ro_callV MC HS (rest := []) (As := [.int d9]) (x_turn HP (hRR.l (show 7 + d < 18 by omega)) (h7 d (by omega))) (lkX6_65) (kw221) (kw222) ⟨Nat.le_of_ble_eq_true rfl, Nat.le_of_ble_eq_true rfl⟩ (ro_recv MC HP (hRR.l (show 7 + d < 18 by omega)) (h7 d (by omega)) (rfl : vwCl[4]? = some (RX5, TX5, 2))) hl.1 rfl (Nat.le_of_ble_eq_true rfl) dX6_feast_15 ⟨Nat.le_of_ble_eq_true rfl, Nat.le_of_ble_eq_true rfl⟩ (fun v9 H3 lH3 hp hz HS => ?_)
  obtain ⟨rfl, HP⟩ := hp
  have hX2 : xH D ids n0 RR ad _ (ti τ 3 (30 * d + e) (bI (τ 3 (30 * d + e) = 0))) ns nl nc _ := ⟨HP, hRR, _, _, _, _, _, _, isX.lnd (j9 := d) ⟨h0, h1, h1b, h2, h2b, h7, h7b, h3, h3b, h40, h4, h4b, h60, h5, h6⟩ hI (fun r hr => (va_up_ne _ _ (by omega))) (fun i hi => ti_low (by omega)) (by omega) (va_up_self ..) (fun _ _ => rfl) (fe_bit (by omega) he9 hde (h7b d (by omega))) (fun j hj hjd g hg => upd_ne _ _ (by omega))⟩
  refine lv_aload_n hx hb dX6_feast_18 rfl (lv_at hl 0 rfl) ?_
  refine lv_iload_n hx hb dX6_feast_19 rfl (lv_at hl 3 rfl) ?_
  refine ro_callV MC HS (rest := []) (As := [.int d9]) (x_isFeastDay hX2 hd he9 hde) (lkX6_68) (kw225) (kw226) ⟨Nat.le_of_ble_eq_true rfl, Nat.le_of_ble_eq_true rfl⟩ (ro_recv MC HP (hRR.l (show 7 + d < 18 by omega)) (va_up_self ..) (rfl : vwCl[4]? = some (RX5, TX5, 2))) hl.1 rfl (Nat.le_of_ble_eq_true rfl) dX6_feast_20 ⟨Nat.le_of_ble_eq_true rfl, Nat.le_of_ble_eq_true rfl⟩ (fun v9 H4 lH4 hp hz HS => ?_)
  obtain ⟨rfl, rfl⟩ := hp
  have e2 : nx_feast τ a9 d9 = (ti τ 3 (30 * d + e) (bI (τ 3 (30 * d + e) = 0))) := by unfold nx_feast; rw [hix]
  exact ro_MT (ro_zretM MC HS hr (by first | rfl | exact bI_nar) (⟨aq_feast_2 hf_4 hf_5, by rw [rt_feast, hix]; exact congrArg (fun x => some (Value.int x)) fe_val, by rw [e2]; exact ⟨RR, ad, _, nw, ns, nl, nc, hX2, hI.feast, fun _ _ => rfl, fun r hr1 hr2 => (va_up_ne _ _ (by omega))⟩⟩) (Nat.le_of_ble_eq_true rfl) (Nat.le_of_ble_eq_true rfl) dX6_feast_23)
set_option maxHeartbeats 4000000 in
set_option maxRecDepth 100000 in
theorem q_nextSpan {l : Launch} (hl9 : l.stackTraces = false) {D : va_G} {ids : Nat → ClassId} {n0 : Nat} {RR : List Nat} {ad : Nat → Nat} {cn : Nat → va_E} {τ : Tau} {ns nl nc : Nat} {Hh : Heap} (hX : xH D ids n0 RR ad cn τ ns nl nc Hh) {nw : Nat} (hI : Iv τ nw ns nl nc) {s9 f9 n9 : Int32} : ro_T l yX6_nextSpan cX6_nextSpan 7 (some FieldType.int) { frames := 8, cells := 8, slots := 48, locals := 240 } D ids n0 [.ref (ad 0), .int s9, .int f9, .int n9] Hh (fun v H1 => th_nextSpan τ s9 f9 n9 = 0 ∧ v = some (.int (rt_nextSpan τ s9 f9 n9)) ∧ aft D ids n0 ad cn (τ) H1) (fun E9 H1 => grow Hh H1 ∧ ((th_nextSpan τ s9 f9 n9 = 1 ∧ E9 = "java/lang/IndexOutOfBoundsException") ∨ (th_nextSpan τ s9 f9 n9 = 2 ∧ E9 = "java/lang/IllegalArgumentException"))) := by
  refine ro_ofT (by decide +kernel) (Nat.le_of_ble_eq_true rfl) ?_
  intro p e s m below meth c MC hhp hr hno HS ls hl
  have hx := MC.1.1
  have hb := MC.1.2.1
  have hl : lv_has ls 7 [(0, .ref (ad 0)), (1, .int s9), (2, .int f9), (3, .int n9)] := hl
  obtain ⟨HP, hRR, sa, bm, fm, lf, ff, cf, h0, h1, h1b, h2, h2b, h7, h7b, h3, h3b, h40, h4, h4b, h60, h5, h6⟩ := id hX
  have hwb := hI.wb
  have hsb := hI.sb
  have hlb := hI.lb
  have hcb := hI.cb
  have hnl := hI.2.2.1.2
  have hns := hI.2.1.2.2
  have hnc := hI.2.2.2.1.2
  have hcs : cx (τ 0 2) = nl := by rw [hI.2.2.1.1]; exact cx_nI (by omega)
  refine lv_aload_n hx hb dX6_nextSpan_0 rfl (lv_at hl 0 rfl) ?_
  refine lv_iload_n hx hb dX6_nextSpan_1 rfl (lv_at hl 1 rfl) ?_
  refine ro_callVT MC HS (rest := []) (As := [.int s9]) (x_needScope hl9 hX hI) (lkX6_43) (kw101) (kw0) ⟨Nat.le_of_ble_eq_true rfl, Nat.le_of_ble_eq_true rfl⟩ (ro_recv MC HP (hRR.l (by decide)) h0 (rfl : vwCl[5]? = some (RX6, TX6, 11))) hl.1 rfl (Nat.le_of_ble_eq_true rfl) dX6_nextSpan_2 ⟨Nat.le_of_ble_eq_true rfl, Nat.le_of_ble_eq_true rfl⟩ (ro_out MC hno (Nat.le_of_ble_eq_true rfl) (Nat.le_of_ble_eq_true rfl) (fun E9 H9 hp => by obtain ⟨hg9, rfl, hn9⟩ := hp; exact ⟨hg9, Or.inl (⟨aq_nextSpan_0 hn9, rfl⟩)⟩)) (fun v9 H1 lH1 hp hz HS => ?_)
  obtain ⟨rfl, hf_6, rfl⟩ := hp
  obtain ⟨i, hi, hia, hic⟩ := hI.s hf_6
  refine lv_iload_n hx hb dX6_nextSpan_5 rfl (lv_at hl 2 rfl) ?_
  refine lv_iconst (v := 0) hx hb dX6_nextSpan_6 (by decide) ?_
  refine lv_sipush (v := 671) hx hb dX6_nextSpan_7 (by decide) ?_
  refine ro_callST MC HS (rest := []) (As := [.int f9, .int 0, .int 671]) (x_needRange hl9) (lkX6_58) (kw198) ⟨Nat.le_of_ble_eq_true rfl, Nat.le_of_ble_eq_true rfl⟩ hl.1 rfl (Nat.le_of_ble_eq_true rfl) dX6_nextSpan_10 ⟨Nat.le_of_ble_eq_true rfl, Nat.le_of_ble_eq_true rfl⟩ (ro_out MC hno (Nat.le_of_ble_eq_true rfl) (Nat.le_of_ble_eq_true rfl) (fun E9 H9 hp => by obtain ⟨hg9, rfl, hn9⟩ := hp; exact ⟨hg9, Or.inr (⟨aq_nextSpan_1 hf_6 hn9, rfl⟩)⟩)) (fun v9 H2 lH2 hp hz HS => ?_)
  obtain ⟨rfl, hf_7, rfl⟩ := hp
  obtain ⟨ff9, hff9, hfa⟩ := nI_ex (x := f9) (n := 672) hf_7.1 (by show f9 < 672; lia) (by omega)
  have hfc : cx f9 = ff9 := by rw [hfa]; exact cx_nI (by omega)
  refine lv_iload_n hx hb dX6_nextSpan_13 rfl (lv_at hl 3 rfl) ?_
  refine lv_iconst (v := 1) hx hb dX6_nextSpan_14 (by decide) ?_
  refine lv_bipush (v := 100) hx hb dX6_nextSpan_15 (by decide) ?_
  refine ro_callST MC HS (rest := []) (As := [.int n9, .int 1, .int 100]) (x_needRange hl9) (lkX6_58) (kw198) ⟨Nat.le_of_ble_eq_true rfl, Nat.le_of_ble_eq_true rfl⟩ hl.1 rfl (Nat.le_of_ble_eq_true rfl) dX6_nextSpan_17 ⟨Nat.le_of_ble_eq_true rfl, Nat.le_of_ble_eq_true rfl⟩ (ro_out MC hno (Nat.le_of_ble_eq_true rfl) (Nat.le_of_ble_eq_true rfl) (fun E9 H9 hp => by obtain ⟨hg9, rfl, hn9⟩ := hp; exact ⟨hg9, Or.inr (⟨aq_nextSpan_2 hf_6 hf_7 hn9, rfl⟩)⟩)) (fun v9 H3 lH3 hp hz HS => ?_)
  obtain ⟨rfl, hf_8, rfl⟩ := hp
  refine lv_aload_n hx hb dX6_nextSpan_20 rfl (lv_at hl 0 rfl) ?_
  refine lv_iload_n hx hb dX6_nextSpan_21 rfl (lv_at hl 1 rfl) ?_
  refine ro_callV MC HS (rest := []) (As := [.int s9]) (by rw [hia]; exact x_touchScope hX hI hi) (lkX6_106) (kw345) (kw6) ⟨Nat.le_of_ble_eq_true rfl, Nat.le_of_ble_eq_true rfl⟩ (ro_recv MC HP (hRR.l (by decide)) h0 (rfl : vwCl[5]? = some (RX6, TX6, 11))) hl.1 rfl (Nat.le_of_ble_eq_true rfl) dX6_nextSpan_22 ⟨Nat.le_of_ble_eq_true rfl, Nat.le_of_ble_eq_true rfl⟩ (fun v9 H4 lH4 hp hz HS => ?_)
  obtain ⟨rfl, rfl⟩ := hp
  refine lv_istore (lv' := [(4, .int (mk (tsB τ nl i) 20)), (0, .ref (ad 0)), (1, .int s9), (2, .int f9), (3, .int n9)]) hx hb dX6_nextSpan_25 hl (by decide) rfl (fun ls hl => ?_)
  refine lv_iconst (v := 0) hx hb dX6_nextSpan_27 (by decide) ?_
  refine lv_istore (lv' := [(5, .int 0), (4, .int (mk (tsB τ nl i) 20)), (0, .ref (ad 0)), (1, .int s9), (2, .int f9), (3, .int n9)]) hx hb dX6_nextSpan_28 hl (by decide) rfl (fun ls hl => ?_)
  refine lv_iload_n hx hb dX6_nextSpan_30 rfl (lv_at hl 4 rfl) ?_
  refine lv_istore (lv' := [(6, .int f9), (5, .int 0), (4, .int (mk (tsB τ nl i) 20)), (0, .ref (ad 0)), (1, .int s9), (2, .int f9), (3, .int n9)]) hx hb dX6_nextSpan_31 hl (by decide) rfl (fun ls hl => ?_)
  have loop : ∀ h : Nat, h ≤ 672 → ∀ (oo : Nat) (locs : List Loc) (ls : Array Slot), oo ≤ h → rt_nextSpan τ s9 f9 n9 = nsp (fun h => hoS τ s9 (nI h) == 0) n9 (672 - h) h (nI oo) → va_S (fun q => n0 ≤ q) s.heap Hh locs → lv_has ls 7 [(6, .int (nI h)), (5, .int (nI oo)), (4, .int (mk (tsB τ nl i) 20)), (0, .ref (ad 0)), (1, .int s9), (2, .int f9), (3, .int n9)] → W p l e { frames := 8, cells := 8, slots := 48, locals := 240 } s m ([.ref (ad 0), .int s9, .int f9, .int n9] : List Value).toArray below meth c Hh locs 3 18 (vx_MQ below (ro_Q n0 (fun v H1 => th_nextSpan τ s9 f9 n9 = 0 ∧ v = some (.int (rt_nextSpan τ s9 f9 n9)) ∧ aft D ids n0 ad cn (τ) H1)) (ro_X n0 (fun E9 H1 => grow Hh H1 ∧ ((th_nextSpan τ s9 f9 n9 = 1 ∧ E9 = "java/lang/IndexOutOfBoundsException") ∨ (th_nextSpan τ s9 f9 n9 = 2 ∧ E9 = "java/lang/IllegalArgumentException")))) ([.ref (ad 0), .int s9, .int f9, .int n9] : List Value).toArray s 8 48 (fun q => n0 ≤ q)) (F0 m 33 ls []) := by
    refine ro_loop 672 (fun h : Nat => ∀ (oo : Nat) (locs : List Loc) (ls : Array Slot), oo ≤ h → rt_nextSpan τ s9 f9 n9 = nsp (fun h => hoS τ s9 (nI h) == 0) n9 (672 - h) h (nI oo) → va_S (fun q => n0 ≤ q) s.heap Hh locs → lv_has ls 7 [(6, .int (nI h)), (5, .int (nI oo)), (4, .int (mk (tsB τ nl i) 20)), (0, .ref (ad 0)), (1, .int s9), (2, .int f9), (3, .int n9)] → W p l e { frames := 8, cells := 8, slots := 48, locals := 240 } s m ([.ref (ad 0), .int s9, .int f9, .int n9] : List Value).toArray below meth c Hh locs 3 18 (vx_MQ below (ro_Q n0 (fun v H1 => th_nextSpan τ s9 f9 n9 = 0 ∧ v = some (.int (rt_nextSpan τ s9 f9 n9)) ∧ aft D ids n0 ad cn (τ) H1)) (ro_X n0 (fun E9 H1 => grow Hh H1 ∧ ((th_nextSpan τ s9 f9 n9 = 1 ∧ E9 = "java/lang/IndexOutOfBoundsException") ∨ (th_nextSpan τ s9 f9 n9 = 2 ∧ E9 = "java/lang/IllegalArgumentException")))) ([.ref (ad 0), .int s9, .int f9, .int n9] : List Value).toArray s 8 48 (fun q => n0 ≤ q)) (F0 m 33 ls [])) ?_ ?_
    · intro oo locs ls hoo hR HS hl
      refine lv_iload hx hb dX6_nextSpan_33 (lv_at hl 0 rfl) ?_
      refine lv_sipush (v := 672) hx hb dX6_nextSpan_35 (by decide) ?_
      refine lv_icmp_ge (tgt := 81) hx hb dX6_nextSpan_38 (by decide) (fun c_38 => ?_) (fun c_38 => absurd (kn_le (n := 672) rfl (Nat.le_refl _) (by omega)) c_38)
      refine lv_iconst (v := (-1)) hx hb dX6_nextSpan_81 (by decide) ?_
      exact ro_MT (ro_iretM MC HS hr (⟨aq_nextSpan_3 hf_6 hf_7 hf_8, by rw [hR]; rfl, aft.rf hX hI⟩) (Nat.le_of_ble_eq_true rfl) (Nat.le_of_ble_eq_true rfl) dX6_nextSpan_82)
    · intro h hkh ih oo locs ls hoo hR HS hl
      rw [show 672 - h = (672 - (h + 1)) + 1 by omega] at hR
      refine lv_iload hx hb dX6_nextSpan_33 (lv_at hl 0 rfl) ?_
      refine lv_sipush (v := 672) hx hb dX6_nextSpan_35 (by decide) ?_
      refine lv_icmp_ge (tgt := 81) hx hb dX6_nextSpan_38 (by decide) (fun c_38 => absurd c_38 (kn_nle (n := 672) rfl hkh (by omega))) (fun c_38 => ?_)
      refine lv_aload_n hx hb dX6_nextSpan_41 rfl (lv_at hl 3 rfl) ?_
      refine lv_iload hx hb dX6_nextSpan_42 (lv_at hl 2 rfl) ?_
      refine lv_iload hx hb dX6_nextSpan_44 (lv_at hl 0 rfl) ?_
      refine ro_callV MC HS (rest := []) (As := [.int (mk (tsB τ nl i) 20), .int (nI h)]) (x_holdingAmong hX hI (hh := h) (by omega) _) (lkX6_110) (kw354) (kw8) ⟨Nat.le_of_ble_eq_true rfl, Nat.le_of_ble_eq_true rfl⟩ (ro_recv MC HP (hRR.l (by decide)) h0 (rfl : vwCl[5]? = some (RX6, TX6, 11))) hl.1 rfl (Nat.le_of_ble_eq_true rfl) dX6_nextSpan_46 ⟨Nat.le_of_ble_eq_true rfl, Nat.le_of_ble_eq_true rfl⟩ (fun v9 H5 lH5 hp hz HS => ?_)
      obtain ⟨rfl, rfl⟩ := hp
      refine lv_if_ne (tgt := 59) hx hb dX6_nextSpan_49 (by decide) (fun c_49 => ?_) (fun c_49 => ?_)
      · refine lv_iconst (v := 0) hx hb dX6_nextSpan_59 (by decide) ?_
        refine lv_istore (lv' := [(5, .int 0), (6, .int (nI h)), (4, .int (mk (tsB τ nl i) 20)), (0, .ref (ad 0)), (1, .int s9), (2, .int f9), (3, .int n9)]) hx hb dX6_nextSpan_60 hl (by decide) rfl (fun ls hl => ?_)
        refine lv_iload hx hb dX6_nextSpan_62 (lv_at hl 0 rfl) ?_
        refine lv_iload_n hx hb dX6_nextSpan_64 rfl (lv_at hl 6 rfl) ?_
        refine lv_icmp_ne (tgt := 75) hx hb dX6_nextSpan_65 (by decide) (fun c_65 => ?_) (fun c_65 => ?_)
        · refine lv_iinc (v := nI h + 1) (lv' := [(6, .int (nI h + 1)), (5, .int 0), (4, .int (mk (tsB τ nl i) 20)), (0, .ref (ad 0)), (1, .int s9), (2, .int f9), (3, .int n9)]) hx hb dX6_nextSpan_75 hl (k := 1) rfl rfl (by decide) rfl (fun ls hl => ?_)
          refine lv_goto (tgt := 33) hx hb dX6_nextSpan_78 (by decide) ?_
          have hfs : mk (haB τ nl (mk (tsB τ nl i) 20) h) 20 = hoS τ s9 (nI h) := by rw [hia, hoS_eq hnl hcs]
          have hfr : (fun h => hoS τ s9 (nI h) == 0) h = false := by show (hoS τ s9 (nI h) == 0) = _; rw [← hfs]; exact beq_eq_false_iff_ne.mpr c_49
          have hif : (if (fun h => hoS τ s9 (nI h) == 0) h = true then nI oo + 1 else 0) = 0 := by rw [hfr]; rfl
          rw [nsp_go (by rw [hif]; exact c_65), hif] at hR
          refine ih 0 _ ls (by omega) hR HS ?_
          have hl := lv_sub (l' := [(6, .int (nI h + 1)), (5, .int 0), (4, .int (mk (tsB τ nl i) 20)), (0, .ref (ad 0)), (1, .int s9), (2, .int f9), (3, .int n9)]) hl [0, 1, 2, 3, 4, 5, 6] rfl
          rw [nI_1 h] at hl
          exact hl
        · refine lv_iload hx hb dX6_nextSpan_68 (lv_at hl 1 rfl) ?_
          refine lv_iload_n hx hb dX6_nextSpan_70 rfl (lv_at hl 6 rfl) ?_
          refine lv_isub hx hb dX6_nextSpan_71 ?_
          refine lv_iconst (v := 1) hx hb dX6_nextSpan_72 (by decide) ?_
          refine lv_iadd hx hb dX6_nextSpan_73 ?_
          have hfs : mk (haB τ nl (mk (tsB τ nl i) 20) h) 20 = hoS τ s9 (nI h) := by rw [hia, hoS_eq hnl hcs]
          have hfr : (fun h => hoS τ s9 (nI h) == 0) h = false := by show (hoS τ s9 (nI h) == 0) = _; rw [← hfs]; exact beq_eq_false_iff_ne.mpr c_49
          have hif : (if (fun h => hoS τ s9 (nI h) == 0) h = true then nI oo + 1 else 0) = 0 := by rw [hfr]; rfl
          exact ro_MT (ro_iretM MC HS hr (⟨aq_nextSpan_3 hf_6 hf_7 hf_8, by rw [hR, nsp_stop (by rw [hif]; exact c_65)], aft.rf hX hI⟩) (Nat.le_of_ble_eq_true rfl) (Nat.le_of_ble_eq_true rfl) dX6_nextSpan_74)
      · refine lv_iload hx hb dX6_nextSpan_52 (lv_at hl 1 rfl) ?_
        refine lv_iconst (v := 1) hx hb dX6_nextSpan_54 (by decide) ?_
        refine lv_iadd hx hb dX6_nextSpan_55 ?_
        refine lv_goto (tgt := 60) hx hb dX6_nextSpan_56 (by decide) ?_
        refine lv_istore (lv' := [(5, .int ((nI oo + 1))), (6, .int (nI h)), (4, .int (mk (tsB τ nl i) 20)), (0, .ref (ad 0)), (1, .int s9), (2, .int f9), (3, .int n9)]) hx hb dX6_nextSpan_60 hl (by decide) rfl (fun ls hl => ?_)
        refine lv_iload hx hb dX6_nextSpan_62 (lv_at hl 0 rfl) ?_
        refine lv_iload_n hx hb dX6_nextSpan_64 rfl (lv_at hl 6 rfl) ?_
        refine lv_icmp_ne (tgt := 75) hx hb dX6_nextSpan_65 (by decide) (fun c_65 => ?_) (fun c_65 => ?_)
        · refine lv_iinc (v := nI h + 1) (lv' := [(6, .int (nI h + 1)), (5, .int ((nI oo + 1))), (4, .int (mk (tsB τ nl i) 20)), (0, .ref (ad 0)), (1, .int s9), (2, .int f9), (3, .int n9)]) hx hb dX6_nextSpan_75 hl (k := 1) rfl rfl (by decide) rfl (fun ls hl => ?_)
          refine lv_goto (tgt := 33) hx hb dX6_nextSpan_78 (by decide) ?_
          have hfs : mk (haB τ nl (mk (tsB τ nl i) 20) h) 20 = hoS τ s9 (nI h) := by rw [hia, hoS_eq hnl hcs]
          have hfr : (fun h => hoS τ s9 (nI h) == 0) h = true := by show (hoS τ s9 (nI h) == 0) = _; rw [← hfs]; exact beq_iff_eq.mpr c_49
          have hif : (if (fun h => hoS τ s9 (nI h) == 0) h = true then nI oo + 1 else 0) = nI oo + 1 := by rw [hfr]; rfl
          rw [nsp_go (by rw [hif]; exact c_65), hif, nI_1] at hR
          refine ih (oo + 1) _ ls (by omega) hR HS ?_
          have hl := lv_sub (l' := [(6, .int (nI h + 1)), (5, .int ((nI oo + 1))), (4, .int (mk (tsB τ nl i) 20)), (0, .ref (ad 0)), (1, .int s9), (2, .int f9), (3, .int n9)]) hl [0, 1, 2, 3, 4, 5, 6] rfl
          rw [nI_1 h, nI_1 oo] at hl
          exact hl
        · refine lv_iload hx hb dX6_nextSpan_68 (lv_at hl 1 rfl) ?_
          refine lv_iload_n hx hb dX6_nextSpan_70 rfl (lv_at hl 6 rfl) ?_
          refine lv_isub hx hb dX6_nextSpan_71 ?_
          refine lv_iconst (v := 1) hx hb dX6_nextSpan_72 (by decide) ?_
          refine lv_iadd hx hb dX6_nextSpan_73 ?_
          have hfs : mk (haB τ nl (mk (tsB τ nl i) 20) h) 20 = hoS τ s9 (nI h) := by rw [hia, hoS_eq hnl hcs]
          have hfr : (fun h => hoS τ s9 (nI h) == 0) h = true := by show (hoS τ s9 (nI h) == 0) = _; rw [← hfs]; exact beq_iff_eq.mpr c_49
          have hif : (if (fun h => hoS τ s9 (nI h) == 0) h = true then nI oo + 1 else 0) = nI oo + 1 := by rw [hfr]; rfl
          exact ro_MT (ro_iretM MC HS hr (⟨aq_nextSpan_3 hf_6 hf_7 hf_8, by rw [hR, nsp_stop (by rw [hif]; exact c_65)], aft.rf hX hI⟩) (Nat.le_of_ble_eq_true rfl) (Nat.le_of_ble_eq_true rfl) dX6_nextSpan_74)
  exact loop ff9 (by omega) 0 _ ls (by omega) (by rw [rt_nextSpan, hfc]; rfl) HS (lv_sub hl [0, 1, 2, 3, 4, 5, 6] (by rw [← hfa]; rfl))
