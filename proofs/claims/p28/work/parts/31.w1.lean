theorem ap_holds_0 {τ : Tau} {k h : Nat} (c_12 : τ 5 k = 0) (c_22 : nI h < τ 8 k) : 0 = bI (hoB τ k (nI h) = true) := by
  unfold bI hoB; grind
theorem ap_holds_1 {τ : Tau} {k h : Nat} (c_12 : τ 5 k = 0) (c_22 : ¬ (nI h < τ 8 k)) (c_32 : τ 9 k ≤ nI h) : 0 = bI (hoB τ k (nI h) = true) := by
  unfold bI hoB; grind
theorem ap_holds_2 {τ : Tau} {k h : Nat} (c_12 : τ 5 k = 0) (c_22 : ¬ (nI h < τ 8 k)) (c_32 : ¬ (τ 9 k ≤ nI h)) : 1 = bI (hoB τ k (nI h) = true) := by
  unfold bI hoB; grind
theorem ix_add {x y : Int32} {a b : Nat} (hx : x = nI a) (hy : y = nI b) : x + y = nI (a + b) := by rw [hx, hy, nI_add]
theorem ix_mul {x y : Int32} {a b : Nat} (hx : x = nI a) (hy : y = nI b) : x * y = nI (a * b) := by rw [hx, hy, pk_mul]
theorem ix_sub {x y : Int32} {a b : Nat} (hx : x = nI a) (hy : y = nI b) (h : b ≤ a) : x - y = nI (a - b) := by rw [hx, hy, pk_sub h]
theorem ix_d24 {x : Int32} {t : Nat} (hx : x = nI t) (ht : t < 2000) : x / 24 = nI (t / 24) := by rw [hx]; exact pk_div (a := t) (d := 24) (by omega) (by omega) (by omega)
theorem lw_rem (a n : Nat) (ha : a < 2 ^ 31) (hn : 0 < n) (hn2 : n < 2 ^ 31) : nI a - nI a / nI n * nI n = nI (a % n) := by
  rw [pk_div ha hn hn2, pk_mul, pk_sub (Nat.div_mul_le_self a n)]
  congr 1
  have h := Nat.div_add_mod a n
  rw [Nat.mul_comm] at h
  generalize a / n * n = z at *
  omega
theorem an1 (y : Int32) : y &&& 1 = 0 ∨ y &&& 1 = 1 := by
  rw [pk_and y 1 rfl]
  have h : y.toBitVec.toNat % 2 ^ 1 < 2 := Nat.mod_lt _ (by decide)
  rcases (by omega : y.toBitVec.toNat % 2 ^ 1 = 0 ∨ y.toBitVec.toNat % 2 ^ 1 = 1) with h | h
  · exact Or.inl (by rw [h]; rfl)
  · exact Or.inr (by rw [h]; rfl)
theorem bit_1 {x : Int32} {q : Nat} : (x >>> (nI q &&& 31)) &&& 1 = 1 ↔ bit x q = true := by
  unfold bit
  rcases an1 (x >>> (nI q &&& 31)) with h | h
  · rw [h]; decide
  · rw [h]; decide
theorem bit_1n {x : Int32} {q : Nat} : ¬ (x >>> (nI q &&& 31)) &&& 1 = 1 ↔ bit x q = false := by
  rw [bit_1]; simp
theorem bit_1i {x y : Int32} {q : Nat} (hy : y = nI q) : (x >>> (y &&& 31)) &&& 1 = 1 ↔ bit x q = true := by rw [hy]; exact bit_1
theorem ho_thr {τ : Tau} {k h d t : Nat} (hd : d < 4) (hd7 : τ 7 k = nI d) (hte : nI h + τ 2 d + 24 = nI t) : thr τ k (nI h) = nI t := by
  unfold thr
  rw [hd7, cx_nI (by omega)]
  exact hte
theorem ho_feast {τ : Tau} {k h d t : Nat} {x : Int32} (h2 : τ 5 k = 2) (hd : d < 4) (hd7 : τ 7 k = nI d) (hte : nI h + τ 2 d + 24 = nI t) (ht : t < 720) (hfe : ∀ q, q < 30 → bit x q = !(τ 3 (30 * d + q) == 0)) : hoB τ k (nI h) = bit x (t / 24) := by
  unfold hoB
  rw [if_neg (by rw [h2]; decide), if_pos (by rw [h2]; decide), ho_thr hd hd7 hte, ix_d24 rfl (by omega), hd7, ho_ix rfl hd (by omega), cx_nI (by omega)]
  exact (hfe (t / 24) (by omega)).symm
theorem ho_daily {τ : Tau} {k h d t a b : Nat} (h1 : τ 5 k = 1) (hd : d < 4) (hd7 : τ 7 k = nI d) (hte : nI h + τ 2 d + 24 = nI t) (ht : t < 720) (ha : τ 8 k = nI a) (hb : τ 9 k = nI b) (ha2 : a < 24) (hb2 : b < 24) : hoB τ k (nI h) = decide (a = b ∨ (a < b ∧ a ≤ t % 24 ∧ t % 24 < b) ∨ (¬ a < b ∧ (a ≤ t % 24 ∨ t % 24 < b))) := by
  have e1 : nI t - nI t / 24 * 24 = nI (t % 24) := lw_rem t 24 (by omega) (by omega) (by omega)
  have e2 := nI_eq (a := a) (b := b) (by omega) (by omega)
  have e3 := nI_ltI (a := a) (b := b) (by omega) (by omega)
  have e4 := nI_leI (a := a) (b := t % 24) (by omega) (by omega)
  have e5 := nI_ltI (a := t % 24) (b := b) (by omega) (by omega)
  unfold hoB
  rw [if_neg (by rw [h1]; decide), if_neg (by rw [h1]; decide), ho_thr hd hd7 hte, ha, hb, e1]
  simp only [e2, e3, e4, e5]
theorem hd_r1 {x y : Int32} {a b : Nat} (ha : x = nI a) (hb : y = nI b) (ha2 : a < 24) (hb2 : b < 24) : (y - x) + 23 - ((y - x) + 23) / 24 * 24 = nI ((b + 23 - a) % 24) := by
  have e : (y - x) + 23 = nI (b + 23 - a) := by
    rw [ha, hb, ← pk_sub (show a ≤ b + 23 by omega), ← nI_add, show nI 23 = 23 from rfl]; lia
  rw [e]
  exact lw_rem _ 24 (by omega) (by omega) (by omega)
theorem hd_r2 {x y : Int32} {a t : Nat} (hy : y = nI t) (ha : x = nI a) (ha2 : a < 24) (ht : t < 720) : (y - x) + 24 - ((y - x) + 24) / 24 * 24 = nI ((t + 24 - a) % 24) := by
  have e : (y - x) + 24 = nI (t + 24 - a) := by
    rw [ha, hy, ← pk_sub (show a ≤ t + 24 by omega), ← nI_add, show nI 24 = 24 from rfl]; lia
  rw [e]
  exact lw_rem _ 24 (by omega) (by omega) (by omega)
theorem hd_law {a b t : Nat} (ha2 : a < 24) (hb2 : b < 24) (ht : t < 720) : nI ((b + 23 - a) % 24) + 1 ≤ nI ((t + 24 - a) % 24) ↔ ¬ (a = b ∨ (a < b ∧ a ≤ t % 24 ∧ t % 24 < b) ∨ (¬ a < b ∧ (a ≤ t % 24 ∨ t % 24 < b))) := by
  rw [nI_1, nI_leI (by omega) (by omega)]
  omega
def gB (τ : Tau) (n k : Nat) : Bool := !(!(τ 17 n == -1) && decide (τ 17 n ≤ nI k))
theorem ag_b1 {τ : Tau} {n k nl : Nat} (hnl : nl ≤ 6) (h17 : τ 17 n = -1 ∨ ∃ q, q ≤ nl ∧ τ 17 n = nI q) (h : τ 17 n < 0) : gB τ n k = true := by
  rcases h17 with h1 | ⟨q, hq, h1⟩
  · simp [gB, h1]
  · rw [h1] at h; exact absurd h (nI_pos (by omega))
theorem ag_b2 {τ : Tau} {n k : Nat} (h : ¬ τ 17 n ≤ nI k) : gB τ n k = true := by simp [gB, h]
theorem ag_eq {τ : Tau} {n k u w : Nat} (hcu : cx (τ 6 k) = u) (hcw : cx (τ 11 n) = w) : agB τ n k = (!exB τ n k && (τ 4 k == 0 && gB τ n k && (bel (τ 1) 16 w u || bel (τ 1) 16 u w))) := by
  unfold agB tch gB touS
  rw [hcu, hcw]
theorem ag_t {τ : Tau} {n k u w : Nat} (hcu : cx (τ 6 k) = u) (hcw : cx (τ 11 n) = w) (h4 : τ 4 k = 0) (hg : gB τ n k = true) (ht : (bel (τ 1) 16 u w || bel (τ 1) 16 w u) = true) (he : ((τ 16 n) >>> (nI k &&& 31)) &&& 1 = 0) : agB τ n k = true := by
  rw [ag_eq hcu hcw, hg, Bool.or_comm, ht, h4]
  unfold exB
  rw [he]; decide
theorem ag_f1 {τ : Tau} {n k : Nat} (h4 : ¬ τ 4 k = 0) : ¬ agB τ n k = true := by simp [agB, tch, h4]
theorem ag_f2 {τ : Tau} {n k nl : Nat} (hnl : nl ≤ 6) (h : ¬ τ 17 n < 0) (h2 : τ 17 n ≤ nI k) : ¬ agB τ n k = true := by
  have h3 : ¬ τ 17 n = -1 := fun h9 => h (by rw [h9]; decide)
  simp [agB, tch, h2, h3]
theorem ag_f3 {τ : Tau} {n k u w : Nat} (hcu : cx (τ 6 k) = u) (hcw : cx (τ 11 n) = w) (ht : ¬ (bel (τ 1) 16 u w || bel (τ 1) 16 w u) = true) : ¬ agB τ n k = true := by
  rw [ag_eq hcu hcw, Bool.or_comm]
  simp only [Bool.not_eq_true] at ht
  simp [ht]
theorem ag_f4 {τ : Tau} {n k : Nat} (he : ¬ ((τ 16 n) >>> (nI k &&& 31)) &&& 1 = 0) : ¬ agB τ n k = true := by
  have h1 : (τ 16 n >>> (nI k &&& 31)) &&& 1 = 1 := (an1 _).resolve_left he
  simp [agB, exB, h1]
theorem y_cell {l : Launch} (D : va_G) (ids : Nat → ClassId) (n0 : Nat) {b L k9 : Nat} {xs : Nat → Int32} {Hh : Heap} (hb0 : b < n0) (hL : L ≤ 260) (hk : k9 ≤ 1000) : ro_MX l yL_cell cL_cell 2 (some FieldType.int) { frames := 0, cells := 0, slots := 0, locals := 0 } D ids n0 b L xs [.ref b, .int (nI k9)] Hh (fun v H1 => ∃ x : Int32, v = some (.int x) ∧ Hh = H1) := by
  refine ro_ofMX (by decide +kernel) (Nat.le_of_ble_eq_true rfl) ?_
  intro p e s m below meth c MC hhp hscr hr hnm HS ls hl
  have hx := MC.1.1
  have hb := MC.1.2.1
  have hl : lv_has ls 2 [(0, .ref b), (1, .int (nI k9))] := hl
  subst hhp
  have hbl : b < s.heap.size := Nat.lt_of_lt_of_le hb0 MC.2.1.2.2.2.1
  refine lv_iload_n hx hb dL_cell_0 rfl (lv_at hl 1 rfl) ?_
  refine lv_aload_n hx hb dL_cell_1 rfl (lv_at hl 0 rfl) ?_
  refine va_slen hx hb hscr hbl (Nat.not_le.mpr hb0) HS dL_cell_2 ?_
  refine lv_icmp_ge (tgt := 12) hx hb dL_cell_3 (by decide) (fun c_3 => ?_) (fun c_3 => ?_)
  · refine lv_ldc hx hb MC.1.2.2.2.1 (MC.1.2.2.2.2 _ kc7) dL_cell_12 ?_
    refine lv_iload_n hx hb dL_cell_14 rfl (lv_at hl 1 rfl) ?_
    refine lv_iconst (v := 1) hx hb dL_cell_15 (by decide) ?_
    refine lv_iadd hx hb dL_cell_16 ?_
    refine lv_imul hx hb dL_cell_17 ?_
    refine lv_ldc hx hb MC.1.2.2.2.1 (MC.1.2.2.2.2 _ kc8) dL_cell_18 ?_
    refine lv_iadd hx hb dL_cell_20 ?_
    exact ro_iretM MC HS hr ⟨_, rfl, rfl⟩ (Nat.le_of_ble_eq_true rfl) (Nat.le_of_ble_eq_true rfl) dL_cell_21
  · refine lv_aload_n hx hb dL_cell_6 rfl (lv_at hl 0 rfl) ?_
    refine lv_iload_n hx hb dL_cell_7 rfl (lv_at hl 1 rfl) ?_
    refine ro_sld MC HS hscr hb0 k9 rfl (Nat.lt_of_not_le fun h9 => c_3 (nI_le h9 (by omega))) (by omega) dL_cell_8 ?_
    refine lv_goto (tgt := 21) hx hb dL_cell_9 (by decide) ?_
    exact ro_iretM MC HS hr ⟨_, rfl, rfl⟩ (Nat.le_of_ble_eq_true rfl) (Nat.le_of_ble_eq_true rfl) dL_cell_21
set_option maxHeartbeats 4000000 in
set_option maxRecDepth 100000 in
theorem y_low {l : Launch} (D : va_G) (ids : Nat → ClassId) (n0 : Nat) {Hh : Heap} (v9 : Int32) {n9 : Nat} (hn1 : 0 < n9) (hn2 : n9 ≤ 1000) : ro_M l yL_low cL_low 2 (some FieldType.int) { frames := 0, cells := 0, slots := 0, locals := 0 } D ids n0 [.int v9, .int (nI n9)] Hh (fun v H1 => ∃ k, k < n9 ∧ v = some (.int (nI k)) ∧ Hh = H1) := by
  refine ro_ofM (by decide +kernel) (Nat.le_of_ble_eq_true rfl) ?_
  intro p e s m below meth c MC hhp hr hnm HS ls hl
  have hx := MC.1.1
  have hb := MC.1.2.1
  have hl : lv_has ls 2 [(0, .int v9), (1, .int (nI n9))] := hl
  refine lv_iload_n hx hb dL_low_0 rfl (lv_at hl 0 rfl) ?_
  refine lv_ldc hx hb MC.1.2.2.2.1 (MC.1.2.2.2.2 _ kc9) dL_low_1 ?_
  refine lv_iand hx hb dL_low_3 ?_
  refine lv_iload_n hx hb dL_low_4 rfl (lv_at hl 1 rfl) ?_
  refine lv_irem hx hb dL_low_5 (nI_ne0 hn1 (by omega)) ?_
  rw [pk_and v9 31 rfl, lw_rem (v9.toBitVec.toNat % 2 ^ 31) n9 (Nat.mod_lt _ (by decide)) hn1 (by omega)]
  exact ro_iretM MC HS hr (⟨_, Nat.mod_lt _ hn1, rfl, rfl⟩) (Nat.le_of_ble_eq_true rfl) (Nat.le_of_ble_eq_true rfl) dL_low_6
set_option maxHeartbeats 4000000 in
set_option maxRecDepth 100000 in
theorem y_holds {l : Launch} {D : va_G} {ids : Nat → ClassId} {n0 : Nat} {aa : Nat → Nat} {τ : Tau} {nw ns nl nc : Nat} {A : Tau} {Hh : Heap} (hB : wB D ids n0 aa τ nw ns nl nc A Hh) (hO : wOk τ ns nl nc A) {k h : Nat} (hk : k < nl) (hh9 : h < 672) : ro_M l yL_holds cL_holds 9 (some FieldType.boolean) { frames := 0, cells := 0, slots := 0, locals := 0 } D ids n0 [.ref (aa 11), .int (nI k), .int (nI h), .ref (aa 14), .ref (aa 15)] Hh (fun v H1 => v = some (.int (bI (hoB τ k (nI h) = true))) ∧ Hh = H1) := by
  refine ro_ofM (by decide +kernel) (Nat.le_of_ble_eq_true rfl) ?_
  intro p e s m below meth c MC hhp hr hnm HS ls hl
  have hx := MC.1.1
  have hb := MC.1.2.1
  have hl : lv_has ls 9 [(0, .ref (aa 11)), (1, .int (nI k)), (2, .int (nI h)), (3, .ref (aa 14)), (4, .ref (aa 15))] := hl
  have hI := hB.1
  obtain ⟨⟨hns, hnl, hnc⟩, ⟨hg0, hg1, hg2, hg3⟩, hF, hC, hin, hof, hfe, hle⟩ := id hO
  have hF := hF k hk
  obtain ⟨h5, -, ⟨d, hd, hd7⟩, -⟩ := hI.2.2.2.2.2.2.2.2.2.1 k hk
  have h2b := hI.2.2.2.2.2.1 d hd
  obtain ⟨t, ht, hte, -, ht30⟩ := thr_ix hh9 h2b.1 h2b.2
  refine lv_bipush (v := 7) hx hb dL_holds_0 (by decide) ?_
  refine lv_iload_n hx hb dL_holds_2 rfl (lv_at hl 1 rfl) ?_
  refine lv_imul hx hb dL_holds_3 ?_
  refine lv_istore (lv' := [(5, .int ((7 * nI k))), (0, .ref (aa 11)), (1, .int (nI k)), (2, .int (nI h)), (3, .ref (aa 14)), (4, .ref (aa 15))]) hx hb dL_holds_4 hl (by decide) rfl (fun ls hl => ?_)
  refine lv_aload_n hx hb dL_holds_6 rfl (lv_at hl 1 rfl) ?_
  refine lv_iload hx hb dL_holds_7 (lv_at hl 0 rfl) ?_
  refine lv_iconst (v := 1) hx hb dL_holds_9 (by decide) ?_
  refine lv_iadd hx hb dL_holds_10 ?_
  refine wb_iald MC hB 0 (by decide) (7 * k + 1) (show 7 * k + 1 < 42 by omega) (ix_add (ix_mul rfl rfl) rfl) hF.2.1 dL_holds_11 ?_
  refine lv_if_ne (tgt := 41) hx hb dL_holds_12 (by decide) (fun c_12 => ?_) (fun c_12 => ?_)
  · refine lv_iload_n hx hb dL_holds_41 rfl (lv_at hl 3 rfl) ?_
    refine lv_aload_n hx hb dL_holds_42 rfl (lv_at hl 4 rfl) ?_
    refine lv_aload_n hx hb dL_holds_43 rfl (lv_at hl 1 rfl) ?_
    refine lv_iload hx hb dL_holds_44 (lv_at hl 0 rfl) ?_
    refine lv_iconst (v := 3) hx hb dL_holds_46 (by decide) ?_
    refine lv_iadd hx hb dL_holds_47 ?_
    refine wb_iald MC hB 0 (by decide) (7 * k + 3) (show 7 * k + 3 < 42 by omega) (ix_add (ix_mul rfl rfl) rfl) hF.2.2.2.1 dL_holds_48 ?_
    refine wb_iald MC hB 3 (by decide) d (show d < 4 by omega) hd7 (hof d hd) dL_holds_49 ?_
    refine lv_iadd hx hb dL_holds_50 ?_
    refine lv_bipush (v := 24) hx hb dL_holds_51 (by decide) ?_
    refine lv_iadd hx hb dL_holds_53 ?_
    refine lv_istore (lv' := [(6, .int (((nI h + τ 2 d) + 24))), (5, .int ((7 * nI k))), (0, .ref (aa 11)), (1, .int (nI k)), (2, .int (nI h)), (3, .ref (aa 14)), (4, .ref (aa 15))]) hx hb dL_holds_54 hl (by decide) rfl (fun ls hl => ?_)
    refine lv_aload_n hx hb dL_holds_56 rfl (lv_at hl 2 rfl) ?_
    refine lv_iload hx hb dL_holds_57 (lv_at hl 1 rfl) ?_
    refine lv_iconst (v := 1) hx hb dL_holds_59 (by decide) ?_
    refine lv_iadd hx hb dL_holds_60 ?_
    refine wb_iald MC hB 0 (by decide) (7 * k + 1) (show 7 * k + 1 < 42 by omega) (ix_add (ix_mul rfl rfl) rfl) hF.2.1 dL_holds_61 ?_
    refine lv_iconst (v := 2) hx hb dL_holds_62 (by decide) ?_
    refine lv_icmp_ne (tgt := 93) hx hb dL_holds_63 (by decide) (fun c_63 => ?_) (fun c_63 => ?_)
    · have h52 : ¬ τ 5 k = 2 := c_63
      have h51 : τ 5 k = 1 := by rcases h5 with h9 | h9 | h9; exact absurd h9 c_12; exact h9; exact absurd h9 c_63
      obtain ⟨⟨a8, ha24, ha8⟩, b8, hb24, hb9⟩ := hF.2.2.2.2.2.2 h51
      refine lv_aload_n hx hb dL_holds_93 rfl (lv_at hl 2 rfl) ?_
      refine lv_iload hx hb dL_holds_94 (lv_at hl 1 rfl) ?_
      refine lv_iconst (v := 4) hx hb dL_holds_96 (by decide) ?_
      refine lv_iadd hx hb dL_holds_97 ?_
      refine wb_iald MC hB 0 (by decide) (7 * k + 4) (show 7 * k + 4 < 42 by omega) (ix_add (ix_mul rfl rfl) rfl) ((hF.2.2.2.2.1 h52).1) dL_holds_98 ?_
      refine lv_istore (lv' := [(7, .int (τ 8 k)), (6, .int (((nI h + τ 2 d) + 24))), (5, .int ((7 * nI k))), (0, .ref (aa 11)), (1, .int (nI k)), (2, .int (nI h)), (3, .ref (aa 14)), (4, .ref (aa 15))]) hx hb dL_holds_99 hl (by decide) rfl (fun ls hl => ?_)
      refine lv_aload_n hx hb dL_holds_101 rfl (lv_at hl 3 rfl) ?_
      refine lv_iload hx hb dL_holds_102 (lv_at hl 2 rfl) ?_
      refine lv_iconst (v := 5) hx hb dL_holds_104 (by decide) ?_
      refine lv_iadd hx hb dL_holds_105 ?_
      refine wb_iald MC hB 0 (by decide) (7 * k + 5) (show 7 * k + 5 < 42 by omega) (ix_add (ix_mul rfl rfl) rfl) ((hF.2.2.2.2.1 h52).2) dL_holds_106 ?_
      refine lv_iload hx hb dL_holds_107 (lv_at hl 0 rfl) ?_
      refine lv_isub hx hb dL_holds_109 ?_
      refine lv_bipush (v := 23) hx hb dL_holds_110 (by decide) ?_
      refine lv_iadd hx hb dL_holds_112 ?_
      refine lv_bipush (v := 24) hx hb dL_holds_113 (by decide) ?_
      refine lv_irem hx hb dL_holds_115 (by decide) ?_
      rw [hd_r1 ha8 hb9 ha24 hb24]
      refine lv_iconst (v := 1) hx hb dL_holds_116 (by decide) ?_
      refine lv_iadd hx hb dL_holds_117 ?_
      refine lv_istore (lv' := [(8, .int ((nI ((b8 + 23 - a8) % 24) + 1))), (7, .int (τ 8 k)), (6, .int (((nI h + τ 2 d) + 24))), (5, .int ((7 * nI k))), (0, .ref (aa 11)), (1, .int (nI k)), (2, .int (nI h)), (3, .ref (aa 14)), (4, .ref (aa 15))]) hx hb dL_holds_118 hl (by decide) rfl (fun ls hl => ?_)
      refine lv_iload hx hb dL_holds_120 (lv_at hl 2 rfl) ?_
      refine lv_iload hx hb dL_holds_122 (lv_at hl 1 rfl) ?_
      refine lv_isub hx hb dL_holds_124 ?_
      refine lv_bipush (v := 24) hx hb dL_holds_125 (by decide) ?_
      refine lv_iadd hx hb dL_holds_127 ?_
      refine lv_bipush (v := 24) hx hb dL_holds_128 (by decide) ?_
      refine lv_irem hx hb dL_holds_130 (by decide) ?_
      rw [hd_r2 hte ha8 ha24 ht]
      refine lv_iload hx hb dL_holds_131 (lv_at hl 0 rfl) ?_
      refine lv_icmp_ge (tgt := 140) hx hb dL_holds_133 (by decide) (fun c_133 => ?_) (fun c_133 => ?_)
      · refine lv_iconst (v := 0) hx hb dL_holds_140 (by decide) ?_
        exact ro_zretM MC HS hr (by first | rfl | exact bI_nar) (⟨by rw [ho_daily h51 hd hd7 hte ht ha8 hb9 ha24 hb24, bI_f (fun h9 => (hd_law ha24 hb24 ht).mp c_133 (of_decide_eq_true h9))], rfl⟩) (Nat.le_of_ble_eq_true rfl) (Nat.le_of_ble_eq_true rfl) dL_holds_141
      · refine lv_iconst (v := 1) hx hb dL_holds_136 (by decide) ?_
        refine lv_goto (tgt := 141) hx hb dL_holds_137 (by decide) ?_
        exact ro_zretM MC HS hr (by first | rfl | exact bI_nar) (⟨by rw [ho_daily h51 hd hd7 hte ht ha8 hb9 ha24 hb24, bI_t (decide_eq_true (Decidable.of_not_not (fun h9 => c_133 ((hd_law ha24 hb24 ht).mpr h9))))], rfl⟩) (Nat.le_of_ble_eq_true rfl) (Nat.le_of_ble_eq_true rfl) dL_holds_141
    · refine lv_aload hx hb dL_holds_66 (lv_at hl 6 rfl) ?_
      refine lv_aload_n hx hb dL_holds_68 rfl (lv_at hl 2 rfl) ?_
      refine lv_iload hx hb dL_holds_69 (lv_at hl 1 rfl) ?_
      refine lv_iconst (v := 3) hx hb dL_holds_71 (by decide) ?_
      refine lv_iadd hx hb dL_holds_72 ?_
      refine wb_iald MC hB 0 (by decide) (7 * k + 3) (show 7 * k + 3 < 42 by omega) (ix_add (ix_mul rfl rfl) rfl) hF.2.2.2.1 dL_holds_73 ?_
      refine wb_iald MC hB 4 (by decide) d (show d < 4 by omega) hd7 rfl dL_holds_74 ?_
      refine lv_iload hx hb dL_holds_75 (lv_at hl 0 rfl) ?_
      refine lv_bipush (v := 24) hx hb dL_holds_77 (by decide) ?_
      refine lv_idiv hx hb dL_holds_79 (by decide) ?_
      refine lv_ishr hx hb dL_holds_80 ?_
      refine lv_iconst (v := 1) hx hb dL_holds_81 (by decide) ?_
      refine lv_iand hx hb dL_holds_82 ?_
      refine lv_iconst (v := 1) hx hb dL_holds_83 (by decide) ?_
      refine lv_icmp_ne (tgt := 91) hx hb dL_holds_84 (by decide) (fun c_84 => ?_) (fun c_84 => ?_)
      · refine lv_iconst (v := 0) hx hb dL_holds_91 (by decide) ?_
        exact ro_zretM MC HS hr (by first | rfl | exact bI_nar) (⟨by rw [ho_feast c_63 hd hd7 hte ht (hfe d hd), bI_f (fun h9 => c_84 ((bit_1i (ix_d24 hte (by omega))).mpr h9))], rfl⟩) (Nat.le_of_ble_eq_true rfl) (Nat.le_of_ble_eq_true rfl) dL_holds_92
      · refine lv_iconst (v := 1) hx hb dL_holds_87 (by decide) ?_
        refine lv_goto (tgt := 92) hx hb dL_holds_88 (by decide) ?_
        exact ro_zretM MC HS hr (by first | rfl | exact bI_nar) (⟨by rw [ho_feast c_63 hd hd7 hte ht (hfe d hd), bI_t ((bit_1i (ix_d24 hte (by omega))).mp c_84)], rfl⟩) (Nat.le_of_ble_eq_true rfl) (Nat.le_of_ble_eq_true rfl) dL_holds_92
  · have h52 : ¬ τ 5 k = 2 := by rw [c_12]; decide
    refine lv_iload_n hx hb dL_holds_15 rfl (lv_at hl 3 rfl) ?_
    refine lv_aload_n hx hb dL_holds_16 rfl (lv_at hl 1 rfl) ?_
    refine lv_iload hx hb dL_holds_17 (lv_at hl 0 rfl) ?_
    refine lv_iconst (v := 4) hx hb dL_holds_19 (by decide) ?_
    refine lv_iadd hx hb dL_holds_20 ?_
    refine wb_iald MC hB 0 (by decide) (7 * k + 4) (show 7 * k + 4 < 42 by omega) (ix_add (ix_mul rfl rfl) rfl) ((hF.2.2.2.2.1 h52).1) dL_holds_21 ?_
    refine lv_icmp_lt (tgt := 39) hx hb dL_holds_22 (by decide) (fun c_22 => ?_) (fun c_22 => ?_)
    · refine lv_iconst (v := 0) hx hb dL_holds_39 (by decide) ?_
      exact ro_zretM MC HS hr (by first | rfl | exact bI_nar) (⟨by rw [ap_holds_0 c_12 c_22], rfl⟩) (Nat.le_of_ble_eq_true rfl) (Nat.le_of_ble_eq_true rfl) dL_holds_40
    · refine lv_iload_n hx hb dL_holds_25 rfl (lv_at hl 3 rfl) ?_
      refine lv_aload_n hx hb dL_holds_26 rfl (lv_at hl 1 rfl) ?_
      refine lv_iload hx hb dL_holds_27 (lv_at hl 0 rfl) ?_
      refine lv_iconst (v := 5) hx hb dL_holds_29 (by decide) ?_
      refine lv_iadd hx hb dL_holds_30 ?_
      refine wb_iald MC hB 0 (by decide) (7 * k + 5) (show 7 * k + 5 < 42 by omega) (ix_add (ix_mul rfl rfl) rfl) ((hF.2.2.2.2.1 h52).2) dL_holds_31 ?_
      refine lv_icmp_ge (tgt := 39) hx hb dL_holds_32 (by decide) (fun c_32 => ?_) (fun c_32 => ?_)
      · refine lv_iconst (v := 0) hx hb dL_holds_39 (by decide) ?_
        exact ro_zretM MC HS hr (by first | rfl | exact bI_nar) (⟨by rw [ap_holds_1 c_12 c_22 c_32], rfl⟩) (Nat.le_of_ble_eq_true rfl) (Nat.le_of_ble_eq_true rfl) dL_holds_40
      · refine lv_iconst (v := 1) hx hb dL_holds_35 (by decide) ?_
        refine lv_goto (tgt := 40) hx hb dL_holds_36 (by decide) ?_
        exact ro_zretM MC HS hr (by first | rfl | exact bI_nar) (⟨by rw [ap_holds_2 c_12 c_22 c_32], rfl⟩) (Nat.le_of_ble_eq_true rfl) (Nat.le_of_ble_eq_true rfl) dL_holds_40
set_option maxHeartbeats 4000000 in
set_option maxRecDepth 100000 in
theorem y_touches {l : Launch} {D : va_G} {ids : Nat → ClassId} {n0 : Nat} {aa : Nat → Nat} {τ : Tau} {nw ns nl nc : Nat} {A : Tau} {Hh : Heap} (hB : wB D ids n0 aa τ nw ns nl nc A Hh) (hO : wOk τ ns nl nc A) {i j : Nat} (hi : i < ns) (hj : j < ns) : ro_M l yL_touches cL_touches 3 (some FieldType.boolean) { frames := 0, cells := 0, slots := 0, locals := 0 } D ids n0 [.int (nI i), .int (nI j), .ref (aa 13)] Hh (fun v H1 => v = some (.int (bI ((bel (τ 1) 16 i j || bel (τ 1) 16 j i) = true))) ∧ Hh = H1) := by
  refine ro_ofM (by decide +kernel) (Nat.le_of_ble_eq_true rfl) ?_
  intro p e s m below meth c MC hhp hr hnm HS ls hl
  have hx := MC.1.1
  have hb := MC.1.2.1
  have hl : lv_has ls 3 [(0, .int (nI i)), (1, .int (nI j)), (2, .ref (aa 13))] := hl
  have hI := hB.1
  obtain ⟨⟨hns, hnl, hnc⟩, ⟨hg0, hg1, hg2, hg3⟩, hF, hC, hin, hof, hfe, hle⟩ := id hO
  refine lv_aload_n hx hb dL_touches_0 rfl (lv_at hl 2 rfl) ?_
  refine lv_iload_n hx hb dL_touches_1 rfl (lv_at hl 0 rfl) ?_
  refine wb_iald MC hB 2 (by decide) i (show i < 8 by omega) rfl rfl dL_touches_2 ?_
  refine lv_iload_n hx hb dL_touches_3 rfl (lv_at hl 1 rfl) ?_
  refine lv_ishr hx hb dL_touches_4 ?_
  refine lv_iconst (v := 1) hx hb dL_touches_5 (by decide) ?_
  refine lv_iand hx hb dL_touches_6 ?_
  refine lv_iconst (v := 1) hx hb dL_touches_7 (by decide) ?_
  refine lv_icmp_eq (tgt := 22) hx hb dL_touches_8 (by decide) (fun c_8 => ?_) (fun c_8 => ?_)
  · refine lv_iconst (v := 1) hx hb dL_touches_22 (by decide) ?_
    refine lv_goto (tgt := 27) hx hb dL_touches_23 (by decide) ?_
    exact ro_zretM MC HS hr (by first | rfl | exact bI_nar) (⟨by rw [← hin i hi j (by omega), ← hin j hj i (by omega)]; rw [bI_t (by simp [bit_1.mp c_8])], rfl⟩) (Nat.le_of_ble_eq_true rfl) (Nat.le_of_ble_eq_true rfl) dL_touches_27
  · refine lv_aload_n hx hb dL_touches_11 rfl (lv_at hl 2 rfl) ?_
    refine lv_iload_n hx hb dL_touches_12 rfl (lv_at hl 1 rfl) ?_
    refine wb_iald MC hB 2 (by decide) j (show j < 8 by omega) rfl rfl dL_touches_13 ?_
    refine lv_iload_n hx hb dL_touches_14 rfl (lv_at hl 0 rfl) ?_
    refine lv_ishr hx hb dL_touches_15 ?_
    refine lv_iconst (v := 1) hx hb dL_touches_16 (by decide) ?_
    refine lv_iand hx hb dL_touches_17 ?_
    refine lv_iconst (v := 1) hx hb dL_touches_18 (by decide) ?_
    refine lv_icmp_ne (tgt := 26) hx hb dL_touches_19 (by decide) (fun c_19 => ?_) (fun c_19 => ?_)
    · refine lv_iconst (v := 0) hx hb dL_touches_26 (by decide) ?_
      exact ro_zretM MC HS hr (by first | rfl | exact bI_nar) (⟨by rw [← hin i hi j (by omega), ← hin j hj i (by omega)]; rw [bI_f (by simp [bit_1n.mp c_8, bit_1n.mp c_19])], rfl⟩) (Nat.le_of_ble_eq_true rfl) (Nat.le_of_ble_eq_true rfl) dL_touches_27
    · refine lv_iconst (v := 1) hx hb dL_touches_22 (by decide) ?_
      refine lv_goto (tgt := 27) hx hb dL_touches_23 (by decide) ?_
      exact ro_zretM MC HS hr (by first | rfl | exact bI_nar) (⟨by rw [← hin i hi j (by omega), ← hin j hj i (by omega)]; rw [bI_t (by simp [bit_1n.mp c_8, bit_1.mp c_19])], rfl⟩) (Nat.le_of_ble_eq_true rfl) (Nat.le_of_ble_eq_true rfl) dL_touches_27
set_option maxHeartbeats 4000000 in
set_option maxRecDepth 100000 in
theorem y_against {l : Launch} {D : va_G} {ids : Nat → ClassId} {n0 : Nat} {aa : Nat → Nat} {τ : Tau} {nw ns nl nc : Nat} {A : Tau} {Hh : Heap} (hB : wB D ids n0 aa τ nw ns nl nc A Hh) (hO : wOk τ ns nl nc A) {k n : Nat} (hk : k < nl) (hn : n < nc) : ro_M l yL_against cL_against 6 (some FieldType.boolean) { frames := 1, cells := 0, slots := 0, locals := 30 } D ids n0 [.ref (aa 11), .int (nI k), .ref (aa 12), .int (nI n), .ref (aa 13)] Hh (fun v H1 => v = some (.int (bI (agB τ n k = true))) ∧ Hh = H1) := by
  refine ro_ofM (by decide +kernel) (Nat.le_of_ble_eq_true rfl) ?_
  intro p e s m below meth c MC hhp hr hnm HS ls hl
  have hx := MC.1.1
  have hb := MC.1.2.1
  have hl : lv_has ls 6 [(0, .ref (aa 11)), (1, .int (nI k)), (2, .ref (aa 12)), (3, .int (nI n)), (4, .ref (aa 13))] := hl
  have hI := hB.1
  obtain ⟨⟨hns, hnl, hnc⟩, ⟨hg0, hg1, hg2, hg3⟩, hF, hC, hin, hof, hfe, hle⟩ := id hO
  have hF := hF k hk
  have hC := hC n hn
  obtain ⟨-, ⟨u, hu, hu6⟩, -⟩ := hI.2.2.2.2.2.2.2.2.2.1 k hk
  obtain ⟨⟨w, hw, hw11⟩, -, -, -, h17⟩ := hI.2.2.2.2.2.2.2.2.2.2.1 n hn
  have hcu : cx (τ 6 k) = u := by rw [hu6]; exact cx_nI (by omega)
  have hcw : cx (τ 11 n) = w := by rw [hw11]; exact cx_nI (by omega)
  refine lv_bipush (v := 7) hx hb dL_against_0 (by decide) ?_
  refine lv_iload_n hx hb dL_against_2 rfl (lv_at hl 3 rfl) ?_
  refine lv_imul hx hb dL_against_3 ?_
  refine lv_istore (lv' := [(5, .int ((7 * nI n))), (0, .ref (aa 11)), (1, .int (nI k)), (2, .ref (aa 12)), (3, .int (nI n)), (4, .ref (aa 13))]) hx hb dL_against_4 hl (by decide) rfl (fun ls hl => ?_)
  refine lv_aload_n hx hb dL_against_6 rfl (lv_at hl 1 rfl) ?_
  refine lv_bipush (v := 7) hx hb dL_against_7 (by decide) ?_
  refine lv_iload_n hx hb dL_against_9 rfl (lv_at hl 2 rfl) ?_
  refine lv_imul hx hb dL_against_10 ?_
  refine wb_iald MC hB 0 (by decide) (7 * k) (show 7 * k < 42 by omega) (ix_mul rfl rfl) hF.1 dL_against_11 ?_
  refine lv_iconst (v := 1) hx hb dL_against_12 (by decide) ?_
  refine lv_icmp_ne (tgt := 74) hx hb dL_against_13 (by decide) (fun c_13 => ?_) (fun c_13 => ?_)
  · refine lv_iconst (v := 0) hx hb dL_against_74 (by decide) ?_
    exact ro_zretM MC HS hr (by first | rfl | exact bI_nar) (⟨by rw [bI_f (ag_f1 (fun h9 => c_13 (bI_1.mpr h9)))], rfl⟩) (Nat.le_of_ble_eq_true rfl) (Nat.le_of_ble_eq_true rfl) dL_against_75
  · refine lv_aload_n hx hb dL_against_16 rfl (lv_at hl 3 rfl) ?_
    refine lv_iload hx hb dL_against_17 (lv_at hl 0 rfl) ?_
    refine lv_bipush (v := 6) hx hb dL_against_19 (by decide) ?_
    refine lv_iadd hx hb dL_against_21 ?_
    refine wb_iald MC hB 1 (by decide) (7 * n + 6) (show 7 * n + 6 < 42 by omega) (ix_add (ix_mul rfl rfl) rfl) hC.2.2.2.2.2.2 dL_against_22 ?_
    refine lv_if_lt (tgt := 37) hx hb dL_against_23 (by decide) (fun c_23 => ?_) (fun c_23 => ?_)
    · refine lv_aload_n hx hb dL_against_37 rfl (lv_at hl 1 rfl) ?_
      refine lv_bipush (v := 7) hx hb dL_against_38 (by decide) ?_
      refine lv_iload_n hx hb dL_against_40 rfl (lv_at hl 2 rfl) ?_
      refine lv_imul hx hb dL_against_41 ?_
      refine lv_iconst (v := 2) hx hb dL_against_42 (by decide) ?_
      refine lv_iadd hx hb dL_against_43 ?_
      refine wb_iald MC hB 0 (by decide) (7 * k + 2) (show 7 * k + 2 < 42 by omega) (ix_add (ix_mul rfl rfl) rfl) (hF.2.2.1.trans hu6) dL_against_44 ?_
      refine lv_aload_n hx hb dL_against_45 rfl (lv_at hl 3 rfl) ?_
      refine lv_iload hx hb dL_against_46 (lv_at hl 0 rfl) ?_
      refine wb_iald MC hB 1 (by decide) (7 * n) (show 7 * n < 42 by omega) (ix_mul rfl rfl) (hC.1.trans hw11) dL_against_48 ?_
      refine lv_aload hx hb dL_against_49 (lv_at hl 5 rfl) ?_
      refine ro_callS MC HS (rest := []) (As := [.int (nI u), .int (nI w), .ref (aa 13)]) (y_touches hB hO hu hw) (lkL_10) (kw512) ⟨Nat.le_of_ble_eq_true rfl, Nat.le_of_ble_eq_true rfl⟩ hl.1 rfl (Nat.le_of_ble_eq_true rfl) dL_against_51 ⟨Nat.le_of_ble_eq_true rfl, Nat.le_of_ble_eq_true rfl⟩ (fun v9 H1 lH1 hp hz HS => ?_)
      obtain ⟨rfl, rfl⟩ := hp
      refine lv_if_eq (tgt := 74) hx hb dL_against_54 (by decide) (fun c_54 => ?_) (fun c_54 => ?_)
      · have f_54 := bI_0.mp c_54
        refine lv_iconst (v := 0) hx hb dL_against_74 (by decide) ?_
        exact ro_zretM MC HS hr (by first | rfl | exact bI_nar) (⟨by rw [bI_f (ag_f3 hcu hcw f_54)], rfl⟩) (Nat.le_of_ble_eq_true rfl) (Nat.le_of_ble_eq_true rfl) dL_against_75
      · have f_54 := bI_n0.mp c_54
        refine lv_aload_n hx hb dL_against_57 rfl (lv_at hl 3 rfl) ?_
        refine lv_iload hx hb dL_against_58 (lv_at hl 0 rfl) ?_
        refine lv_iconst (v := 5) hx hb dL_against_60 (by decide) ?_
        refine lv_iadd hx hb dL_against_61 ?_
        refine wb_iald MC hB 1 (by decide) (7 * n + 5) (show 7 * n + 5 < 42 by omega) (ix_add (ix_mul rfl rfl) rfl) hC.2.2.2.2.2.1 dL_against_62 ?_
        refine lv_iload_n hx hb dL_against_63 rfl (lv_at hl 2 rfl) ?_
        refine lv_ishr hx hb dL_against_64 ?_
        refine lv_iconst (v := 1) hx hb dL_against_65 (by decide) ?_
        refine lv_iand hx hb dL_against_66 ?_
        refine lv_if_ne (tgt := 74) hx hb dL_against_67 (by decide) (fun c_67 => ?_) (fun c_67 => ?_)
        · refine lv_iconst (v := 0) hx hb dL_against_74 (by decide) ?_
          exact ro_zretM MC HS hr (by first | rfl | exact bI_nar) (⟨by rw [bI_f (ag_f4 c_67)], rfl⟩) (Nat.le_of_ble_eq_true rfl) (Nat.le_of_ble_eq_true rfl) dL_against_75
        · refine lv_iconst (v := 1) hx hb dL_against_70 (by decide) ?_
          refine lv_goto (tgt := 75) hx hb dL_against_71 (by decide) ?_
          exact ro_zretM MC HS hr (by first | rfl | exact bI_nar) (⟨by rw [bI_t (ag_t hcu hcw (bI_1.mp c_13) (ag_b1 hnl h17 c_23) f_54 c_67)], rfl⟩) (Nat.le_of_ble_eq_true rfl) (Nat.le_of_ble_eq_true rfl) dL_against_75
    · refine lv_iload_n hx hb dL_against_26 rfl (lv_at hl 2 rfl) ?_
      refine lv_aload_n hx hb dL_against_27 rfl (lv_at hl 3 rfl) ?_
      refine lv_iload hx hb dL_against_28 (lv_at hl 0 rfl) ?_
      refine lv_bipush (v := 6) hx hb dL_against_30 (by decide) ?_
      refine lv_iadd hx hb dL_against_32 ?_
      refine wb_iald MC hB 1 (by decide) (7 * n + 6) (show 7 * n + 6 < 42 by omega) (ix_add (ix_mul rfl rfl) rfl) hC.2.2.2.2.2.2 dL_against_33 ?_
      refine lv_icmp_ge (tgt := 74) hx hb dL_against_34 (by decide) (fun c_34 => ?_) (fun c_34 => ?_)
      · refine lv_iconst (v := 0) hx hb dL_against_74 (by decide) ?_
        exact ro_zretM MC HS hr (by first | rfl | exact bI_nar) (⟨by rw [bI_f (ag_f2 hnl c_23 c_34)], rfl⟩) (Nat.le_of_ble_eq_true rfl) (Nat.le_of_ble_eq_true rfl) dL_against_75
      · refine lv_aload_n hx hb dL_against_37 rfl (lv_at hl 1 rfl) ?_
        refine lv_bipush (v := 7) hx hb dL_against_38 (by decide) ?_
        refine lv_iload_n hx hb dL_against_40 rfl (lv_at hl 2 rfl) ?_
        refine lv_imul hx hb dL_against_41 ?_
        refine lv_iconst (v := 2) hx hb dL_against_42 (by decide) ?_
        refine lv_iadd hx hb dL_against_43 ?_
        refine wb_iald MC hB 0 (by decide) (7 * k + 2) (show 7 * k + 2 < 42 by omega) (ix_add (ix_mul rfl rfl) rfl) (hF.2.2.1.trans hu6) dL_against_44 ?_
        refine lv_aload_n hx hb dL_against_45 rfl (lv_at hl 3 rfl) ?_
        refine lv_iload hx hb dL_against_46 (lv_at hl 0 rfl) ?_
        refine wb_iald MC hB 1 (by decide) (7 * n) (show 7 * n < 42 by omega) (ix_mul rfl rfl) (hC.1.trans hw11) dL_against_48 ?_
        refine lv_aload hx hb dL_against_49 (lv_at hl 5 rfl) ?_
        refine ro_callS MC HS (rest := []) (As := [.int (nI u), .int (nI w), .ref (aa 13)]) (y_touches hB hO hu hw) (lkL_10) (kw512) ⟨Nat.le_of_ble_eq_true rfl, Nat.le_of_ble_eq_true rfl⟩ hl.1 rfl (Nat.le_of_ble_eq_true rfl) dL_against_51 ⟨Nat.le_of_ble_eq_true rfl, Nat.le_of_ble_eq_true rfl⟩ (fun v9 H2 lH2 hp hz HS => ?_)
        obtain ⟨rfl, rfl⟩ := hp
        refine lv_if_eq (tgt := 74) hx hb dL_against_54 (by decide) (fun c_54 => ?_) (fun c_54 => ?_)
        · have f_54 := bI_0.mp c_54
          refine lv_iconst (v := 0) hx hb dL_against_74 (by decide) ?_
          exact ro_zretM MC HS hr (by first | rfl | exact bI_nar) (⟨by rw [bI_f (ag_f3 hcu hcw f_54)], rfl⟩) (Nat.le_of_ble_eq_true rfl) (Nat.le_of_ble_eq_true rfl) dL_against_75
        · have f_54 := bI_n0.mp c_54
          refine lv_aload_n hx hb dL_against_57 rfl (lv_at hl 3 rfl) ?_
          refine lv_iload hx hb dL_against_58 (lv_at hl 0 rfl) ?_
          refine lv_iconst (v := 5) hx hb dL_against_60 (by decide) ?_
          refine lv_iadd hx hb dL_against_61 ?_
          refine wb_iald MC hB 1 (by decide) (7 * n + 5) (show 7 * n + 5 < 42 by omega) (ix_add (ix_mul rfl rfl) rfl) hC.2.2.2.2.2.1 dL_against_62 ?_
          refine lv_iload_n hx hb dL_against_63 rfl (lv_at hl 2 rfl) ?_
          refine lv_ishr hx hb dL_against_64 ?_
          refine lv_iconst (v := 1) hx hb dL_against_65 (by decide) ?_
          refine lv_iand hx hb dL_against_66 ?_
          refine lv_if_ne (tgt := 74) hx hb dL_against_67 (by decide) (fun c_67 => ?_) (fun c_67 => ?_)
          · refine lv_iconst (v := 0) hx hb dL_against_74 (by decide) ?_
            exact ro_zretM MC HS hr (by first | rfl | exact bI_nar) (⟨by rw [bI_f (ag_f4 c_67)], rfl⟩) (Nat.le_of_ble_eq_true rfl) (Nat.le_of_ble_eq_true rfl) dL_against_75
          · refine lv_iconst (v := 1) hx hb dL_against_70 (by decide) ?_
            refine lv_goto (tgt := 75) hx hb dL_against_71 (by decide) ?_
            exact ro_zretM MC HS hr (by first | rfl | exact bI_nar) (⟨by rw [bI_t (ag_t hcu hcw (bI_1.mp c_13) (ag_b2 c_34) f_54 c_67)], rfl⟩) (Nat.le_of_ble_eq_true rfl) (Nat.le_of_ble_eq_true rfl) dL_against_75
