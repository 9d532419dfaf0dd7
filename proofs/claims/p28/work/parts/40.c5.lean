/-- a freeze that holds for a scope in an hour -/
abbrev hsB (τ : Tau) (s h : Nat) : Nat → Bool := fun k => τ 4 k == 0 && touS τ k (nI s) && hoB τ k (nI h)
theorem hoS_mk {τ : Tau} {nw ns nl nc s h : Nat} (hI : Iv τ nw ns nl nc) : hoS τ (nI s) (nI h) = mk (hsB τ s h) nl := by
  unfold hoS
  rw [show cx (τ 0 2) = nl by rw [hI.2.2.1.1]; exact cx_nI (by have := hI.2.2.1.2; omega)]
theorem fr_any {τ : Tau} {nw ns nl nc s h : Nat} (hI : Iv τ nw ns nl nc) : (hoS τ (nI s) (nI h) == 0) = !any1 (hsB τ s h) nl := by
  rw [hoS_mk hI, ← any1_mk (by have := hI.2.2.1.2; omega), Bool.not_not]
theorem hs_eq {τ : Tau} {s h k u : Nat} (hcu : cx (τ 6 k) = u) (hs : s < 100) : hsB τ s h k = (τ 4 k == 0 && (bel (τ 1) 16 u s || bel (τ 1) 16 s u) && hoB τ k (nI h)) := by
  unfold hsB touS
  rw [hcu, cx_nI (by omega), Bool.or_comm]
theorem sv_t {p : Nat → Bool} {k hh q : Nat} {x : Int32} (h : p k = true) (hq : hh = q) : (if hh = q then mk p k else x) ||| (1 <<< (nI k &&& 31)) = if hh = q then mk p (k + 1) else x := by
  rw [if_pos hq, if_pos hq]; exact mk_t h
theorem sv_n {p : Nat → Bool} {k hh q : Nat} {x : Int32} (hq : ¬ hh = q) : (if hh = q then mk p k else x) ||| 0 = if hh = q then mk p (k + 1) else x := by
  rw [if_neg hq, if_neg hq]; exact Int32.or_zero
theorem sv_f {p : Nat → Bool} {k hh q : Nat} {x : Int32} (h : p k = false) : (if hh = q then mk p k else x) ||| 0 = if hh = q then mk p (k + 1) else x := by
  split
  · exact mk_f h
  · exact Int32.or_zero
theorem is_t {p : Nat → Bool} {k : Nat} (h : p k = true) : bI (any1 p k = false) &&& 0 = bI (any1 p (k + 1) = false) := by
  rw [bI_f (q := any1 p (k + 1) = false) (by simp [any1, h])]
  exact Int32.and_zero
theorem is_f {p : Nat → Bool} {k : Nat} (h : p k = false) : bI (any1 p k = false) &&& 1 = bI (any1 p (k + 1) = false) := by
  have e : any1 p (k + 1) = any1 p k := by simp [any1, h]
  rw [e]
  cases h2 : any1 p k
  · rw [bI_t rfl]; rfl
  · rw [bI_f (by decide)]; rfl
theorem tz_next {τ : Tau} {nw ns nl nc sc q n : Nat} (hI : Iv τ nw ns nl nc) (hsc : sc < ns) (hq : q < 672) (h1 : 1 ≤ n) (h2 : n ≤ 100) : th_nextSpan τ (nI sc) (nI q) (nI n) = 0 := by
  unfold th_nextSpan
  rw [if_neg (fun h => h (tz_S hI hsc)), if_pos ⟨⟨nI_pos' (by omega), nI_le (b := 671) (by omega) (by omega)⟩, nI_le (a := 1) h1 (by omega), nI_le (b := 100) h2 (by omega)⟩]
theorem tz_hold {τ : Tau} {nw ns nl nc sc q : Nat} (hI : Iv τ nw ns nl nc) (hsc : sc < ns) (hq : q < 672) : th_holding τ (nI sc) (nI q) = 0 := by
  unfold th_holding
  rw [if_neg (fun h => h (tz_S hI hsc)), if_pos ⟨nI_pos' (by omega), nI_le (b := 671) (by omega) (by omega)⟩]
theorem rz_next {τ : Tau} {sc q : Nat} {n : Int32} (hq : q < 672) : rt_nextSpan τ (nI sc) (nI q) n = nsp (fun h => hoS τ (nI sc) (nI h) == 0) n (672 - q) q 0 := by
  rw [rt_nextSpan, cx_nI (by omega)]
/-- the hour behind is found: it is none too small -/
theorem fo_pos {h n : Nat} (hn : n ≤ h + 1) (hh : h < 672) : nI h + 1 - nI n = nI (h + 1 - n) ∧ 0 ≤ nI h + 1 - nI n ∧ nI h + 1 - nI n = nI h - nI n + 1 := by
  have e : nI h + 1 - nI n = nI (h + 1 - n) := by rw [nI_1]; exact pk_sub hn
  refine ⟨e, by rw [e]; exact nI_pos' (by omega), ?_⟩
  rw [e, nI_sub1 rfl hn]
theorem ns_end {fr : Nat → Bool} {n o : Int32} {h : Nat} : nsp fr n 0 h o = -1 := rfl
theorem ns_stop {τ : Tau} {nw ns nl nc sc h : Nat} (hI : Iv τ nw ns nl nc) {n o v : Int32} {m : Nat} {f : Bool} (hf : any1 (hsB τ sc h) nl = f) (hv : v = if f = true then 0 else o + 1) (he : v = n) : nsp (fun h => hoS τ (nI sc) (nI h) == 0) n (m + 1) h o = nI h - n + 1 := by
  refine nsp_stop ?_
  show (if (hoS τ (nI sc) (nI h) == 0) = true then o + 1 else 0) = n
  rw [fr_any hI, hf, ← he, hv]
  cases f <;> rfl
theorem ns_go {τ : Tau} {nw ns nl nc sc h : Nat} (hI : Iv τ nw ns nl nc) {n o v : Int32} {m : Nat} {f : Bool} (hf : any1 (hsB τ sc h) nl = f) (hv : v = if f = true then 0 else o + 1) (he : ¬ v = n) : nsp (fun h => hoS τ (nI sc) (nI h) == 0) n (m + 1) h o = nsp (fun h => hoS τ (nI sc) (nI h) == 0) n m (h + 1) v := by
  have e : (if (hoS τ (nI sc) (nI h) == 0) = true then o + 1 else 0) = v := by
    rw [fr_any hI, hf, hv]
    cases f <;> rfl
  have h2 := nsp_go (fr := fun h => hoS τ (nI sc) (nI h) == 0) (many := n) (o := o) (n := m) (h := h) (by rw [e]; exact he)
  rw [h2, e]
theorem if_e {p : Nat → Bool} {hh q : Nat} {se : Int32} (h0 : hh = q → se = 0) : (if hh = q then mk p 0 else se) = se := by
  split
  · next h => exact (h0 h).symm
  · rfl
theorem se_end {τ : Tau} {nw ns nl nc sc hh q : Nat} (hI : Iv τ nw ns nl nc) {se : Int32} (h : ¬ hh = q → se = hoS τ (nI sc) (nI q)) : (if hh = q then mk (hsB τ sc hh) nl else se) = hoS τ (nI sc) (nI q) := by
  split
  · next h9 => rw [h9, hoS_mk hI]
  · next h9 => exact h h9
set_option maxHeartbeats 4000000 in
set_option maxRecDepth 100000 in
theorem l_next {p : Program} {l : Launch} (hl9 : l.stackTraces = false) {e : Env} {R : Room} {s : State} {m : MethodId} {args : Array Value} {below : List Frame} {meth : Method} {c : Code} {H : Heap} {locs : List Loc} {cells slots : Nat} {Q : State → Prop} {D : va_G} {ids : Nat → ClassId} {n0 b t9 : Nat} {aa : Nat → Nat} {τ : Tau} {nw ns nl nc : Nat} {A : Tau} (MC : ro_C p s m args meth c cL_law 28 "FrostCalendarLaw" D ids n0) (HS : va_S (fun q => n0 ≤ q) s.heap H locs) (hB : wB D ids n0 aa τ nw ns nl nc A H) (hO : wOk τ ns nl nc A) (hR : 11 ≤ R.frames ∧ 400 ≤ R.locals) {sc la rk n9 k9 : Nat} {x9 y9 kd : Int32} (hsc : sc < ns) (hla : la < 4) (hrk1 : 1 ≤ rk) (hrk : rk < 4) (hn9 : (nc = 0 ∧ n9 = 0) ∨ n9 < nc) (hk9 : (nl = 0 ∧ k9 = 0) ∨ k9 < nl) (hcl : cells + 400 ≤ R.cells) (hsl : slots + 2400 ≤ R.slots) {ls : Array Slot} (hl : lv_has ls 28 [(0, .ref b), (1, .ref (aa 0)), (2, .ref (aa 11)), (3, .ref (aa 12)), (4, .ref (aa 13)), (5, .ref (aa 14)), (6, .ref (aa 15)), (7, .ref (aa 16)), (8, .ref (aa 17)), (9, .int (nI t9)), (10, .int x9), (11, .int y9), (12, .int kd), (13, .int (nI sc)), (14, .int (nI la)), (15, .int (nI rk)), (16, .int (nI n9)), (17, .int (nI k9)), (18, .int (nI (7 * nl)))])
    (kk : ∀ (c9 s9 : Nat) (H1 : Heap) (locs1 : List Loc) (ls1 : Array Slot), c9 ≤ cells + 400 → s9 ≤ slots + 2400 → wI D ids n0 aa H1 → va_S (fun q => n0 ≤ q) s.heap H1 locs1 → lv_has ls1 28 (lL b aa t9) → W p l e R s m args below meth c H1 locs1 c9 s9 Q (F0 m 2092 ls1 [])) : W p l e R s m args below meth c H locs cells slots Q (F0 m 1806 ls []) := by
  have hx := MC.1.1
  have hb := MC.1.2.1
  have hI := hB.1
  obtain ⟨⟨hns, hnl, hnc⟩, ⟨hg0, hg1, hg2, hg3⟩, hF, hC, hin, hof, hfe, hle⟩ := id hO
  refine lv_iload hx hb dL_law_1806 (lv_at hl 11 rfl) ?_
  refine lv_sipush (v := 672) hx hb dL_law_1808 (by decide) ?_
  refine wb_s MC HS (rest := []) (As := [.int y9, .int 672]) (by rw [show 672 = nI (672) from rfl]; exact y_low D ids n0 y9 (by omega) (by omega)) lkL_84 kw505 ⟨rfl, rfl, Nat.le_of_ble_eq_true rfl, Nat.le_of_ble_eq_true rfl, Nat.le_of_ble_eq_true rfl⟩ hR hl.1 rfl (Nat.le_of_ble_eq_true rfl) dL_law_1811 (by omega) (by omega) (fun v9 H2 lH2 hp HS => ?_)
  obtain ⟨q1, hq1, rfl, rfl⟩ := hp
  refine lv_istore (lv' := [(19, .int (nI q1)), (0, .ref b), (1, .ref (aa 0)), (2, .ref (aa 11)), (3, .ref (aa 12)), (4, .ref (aa 13)), (5, .ref (aa 14)), (6, .ref (aa 15)), (7, .ref (aa 16)), (8, .ref (aa 17)), (9, .int (nI t9)), (10, .int x9), (11, .int y9), (12, .int kd), (13, .int (nI sc)), (14, .int (nI la)), (15, .int (nI rk)), (16, .int (nI n9)), (17, .int (nI k9)), (18, .int (nI (7 * nl)))]) hx hb dL_law_1814 hl (by decide) rfl (fun ls hl => ?_)
  refine lv_iconst (v := 1) hx hb dL_law_1816 (by decide) ?_
  refine lv_iload hx hb dL_law_1817 (lv_at hl 12 rfl) ?_
  refine lv_bipush (v := 10) hx hb dL_law_1819 (by decide) ?_
  refine lv_ishr hx hb dL_law_1821 ?_
  refine lv_bipush (v := 40) hx hb dL_law_1822 (by decide) ?_
  refine wb_s MC HS (rest := [.int 1]) (As := [.int (y9 >>> (10 &&& 31)), .int 40]) (by rw [show 40 = nI (40) from rfl]; exact y_low D ids n0 (y9 >>> (10 &&& 31)) (by omega) (by omega)) lkL_84 kw505 ⟨rfl, rfl, Nat.le_of_ble_eq_true rfl, Nat.le_of_ble_eq_true rfl, Nat.le_of_ble_eq_true rfl⟩ hR hl.1 rfl (Nat.le_of_ble_eq_true rfl) dL_law_1824 (by omega) (by omega) (fun v9 H4 lH4 hp HS => ?_)
  obtain ⟨q3, hq3, rfl, rfl⟩ := hp
  refine lv_iadd hx hb dL_law_1827 ?_
  rw [show (1 + nI q3) = nI (1 + q3) from (ix_add rfl rfl)]
  refine lv_istore (lv' := [(20, .int (nI (1 + q3))), (19, .int (nI q1)), (0, .ref b), (1, .ref (aa 0)), (2, .ref (aa 11)), (3, .ref (aa 12)), (4, .ref (aa 13)), (5, .ref (aa 14)), (6, .ref (aa 15)), (7, .ref (aa 16)), (8, .ref (aa 17)), (9, .int (nI t9)), (10, .int x9), (11, .int y9), (12, .int kd), (13, .int (nI sc)), (14, .int (nI la)), (15, .int (nI rk)), (16, .int (nI n9)), (17, .int (nI k9)), (18, .int (nI (7 * nl)))]) hx hb dL_law_1828 hl (by decide) rfl (fun ls hl => ?_)
  refine lv_iconst (v := 0) hx hb dL_law_1830 (by decide) ?_
  refine lv_istore (lv' := [(21, .int 0), (20, .int (nI (1 + q3))), (19, .int (nI q1)), (0, .ref b), (1, .ref (aa 0)), (2, .ref (aa 11)), (3, .ref (aa 12)), (4, .ref (aa 13)), (5, .ref (aa 14)), (6, .ref (aa 15)), (7, .ref (aa 16)), (8, .ref (aa 17)), (9, .int (nI t9)), (10, .int x9), (11, .int y9), (12, .int kd), (13, .int (nI sc)), (14, .int (nI la)), (15, .int (nI rk)), (16, .int (nI n9)), (17, .int (nI k9)), (18, .int (nI (7 * nl)))]) hx hb dL_law_1831 hl (by decide) rfl (fun ls hl => ?_)
  refine lv_iconst (v := 0) hx hb dL_law_1833 (by decide) ?_
  refine lv_istore (lv' := [(22, .int 0), (21, .int 0), (20, .int (nI (1 + q3))), (19, .int (nI q1)), (0, .ref b), (1, .ref (aa 0)), (2, .ref (aa 11)), (3, .ref (aa 12)), (4, .ref (aa 13)), (5, .ref (aa 14)), (6, .ref (aa 15)), (7, .ref (aa 16)), (8, .ref (aa 17)), (9, .int (nI t9)), (10, .int x9), (11, .int y9), (12, .int kd), (13, .int (nI sc)), (14, .int (nI la)), (15, .int (nI rk)), (16, .int (nI n9)), (17, .int (nI k9)), (18, .int (nI (7 * nl)))]) hx hb dL_law_1834 hl (by decide) rfl (fun ls hl => ?_)
  refine lv_iconst (v := (-1)) hx hb dL_law_1836 (by decide) ?_
  refine lv_istore (lv' := [(23, .int ((-1))), (22, .int 0), (21, .int 0), (20, .int (nI (1 + q3))), (19, .int (nI q1)), (0, .ref b), (1, .ref (aa 0)), (2, .ref (aa 11)), (3, .ref (aa 12)), (4, .ref (aa 13)), (5, .ref (aa 14)), (6, .ref (aa 15)), (7, .ref (aa 16)), (8, .ref (aa 17)), (9, .int (nI t9)), (10, .int x9), (11, .int y9), (12, .int kd), (13, .int (nI sc)), (14, .int (nI la)), (15, .int (nI rk)), (16, .int (nI n9)), (17, .int (nI k9)), (18, .int (nI (7 * nl)))]) hx hb dL_law_1837 hl (by decide) rfl (fun ls hl => ?_)
  refine lv_iload hx hb dL_law_1839 (lv_at hl 4 rfl) ?_
  refine lv_istore (lv' := [(24, .int (nI q1)), (23, .int ((-1))), (22, .int 0), (21, .int 0), (20, .int (nI (1 + q3))), (19, .int (nI q1)), (0, .ref b), (1, .ref (aa 0)), (2, .ref (aa 11)), (3, .ref (aa 12)), (4, .ref (aa 13)), (5, .ref (aa 14)), (6, .ref (aa 15)), (7, .ref (aa 16)), (8, .ref (aa 17)), (9, .int (nI t9)), (10, .int x9), (11, .int y9), (12, .int kd), (13, .int (nI sc)), (14, .int (nI la)), (15, .int (nI rk)), (16, .int (nI n9)), (17, .int (nI k9)), (18, .int (nI (7 * nl)))]) hx hb dL_law_1841 hl (by decide) rfl (fun ls hl => ?_)
  obtain ⟨res, hres⟩ : ∃ res, nsp (fun h => hoS τ (nI sc) (nI h) == 0) (nI (1 + q3)) (672 - q1) q1 0 = res := ⟨_, rfl⟩
  have tail : ∀ (hv fo op se : Int32), fo = res → se = hoS τ (nI sc) (nI q1) → ∀ (locs : List Loc) (ls : Array Slot), va_S (fun q => n0 ≤ q) s.heap H locs → lv_has ls 28 [(24, .int hv), (23, .int fo), (22, .int op), (21, .int se), (20, .int (nI (1 + q3))), (19, .int (nI q1)), (0, .ref b), (1, .ref (aa 0)), (2, .ref (aa 11)), (3, .ref (aa 12)), (4, .ref (aa 13)), (5, .ref (aa 14)), (6, .ref (aa 15)), (7, .ref (aa 16)), (8, .ref (aa 17)), (9, .int (nI t9)), (10, .int x9), (11, .int y9), (12, .int kd), (13, .int (nI sc)), (14, .int (nI la)), (15, .int (nI rk)), (16, .int (nI n9)), (17, .int (nI k9)), (18, .int (nI (7 * nl)))] → W p l e R s m args below meth c H locs cells slots Q (F0 m 2010 ls []) := by
    intro hv fo op se hfo hse locs ls HS hl
    refine lv_aload_n hx hb dL_law_2010 rfl (lv_at hl 7 rfl) ?_
    refine lv_iload hx hb dL_law_2011 (lv_at hl 19 rfl) ?_
    refine lv_iload hx hb dL_law_2013 (lv_at hl 5 rfl) ?_
    refine lv_iload hx hb dL_law_2015 (lv_at hl 4 rfl) ?_
    refine wb_q MC HS hB (rest := []) (As := [.int (nI sc), .int (nI q1), .int (nI (1 + q3))]) (th := th_nextSpan τ (nI sc) (nI q1) (nI (1 + q3))) (rt := rt_nextSpan τ (nI sc) (nI q1) (nI (1 + q3))) (τ2 := τ) (fun RR ad cn hX => q_nextSpan hl9 hX hB.1) (fun E9 H9 hp => by obtain ⟨-, hp⟩ := hp; rcases hp with h9 | h9 <;> exact absurd ((tz_next hI hsc hq1 (by omega) (by omega)).symm.trans h9.1) (by decide)) rfl lkL_122 kw388 kw389 ⟨rfl, rfl, Nat.le_of_ble_eq_true rfl, Nat.le_of_ble_eq_true rfl, Nat.le_of_ble_eq_true rfl⟩ hR hl.1 rfl (Nat.le_of_ble_eq_true rfl) dL_law_2017 (by omega) (by omega) (fun nw8 ns8 nl8 nc8 H5 lH5 hB8 HS => ?_)
    have hB := hB8.at (n_same hI rfl)
    clear hB8
    rw [(rz_next (τ := τ) (sc := sc) (n := nI (1 + q3)) hq1).trans hres]
    refine lv_iload hx hb dL_law_2020 (lv_at hl 1 rfl) ?_
    refine lv_icmp_ne (tgt := 2038) hx hb dL_law_2022 (by decide) (fun c_2022 => absurd (hfo.symm) c_2022) (fun c_2022 => ?_)
    refine lv_aload_n hx hb dL_law_2025 rfl (lv_at hl 7 rfl) ?_
    refine lv_iload hx hb dL_law_2026 (lv_at hl 19 rfl) ?_
    refine lv_iload hx hb dL_law_2028 (lv_at hl 5 rfl) ?_
    refine wb_q MC HS hB (rest := []) (As := [.int (nI sc), .int (nI q1)]) (th := th_holding τ (nI sc) (nI q1)) (rt := rt_holding τ (nI sc) (nI q1)) (τ2 := τ) (fun RR ad cn hX => q_holding hl9 hX hB.1) (fun E9 H9 hp => by obtain ⟨-, hp⟩ := hp; rcases hp with h9 | h9 <;> exact absurd ((tz_hold hI hsc hq1).symm.trans h9.1) (by decide)) rfl lkL_125 kw340 kw341 ⟨rfl, rfl, Nat.le_of_ble_eq_true rfl, Nat.le_of_ble_eq_true rfl, Nat.le_of_ble_eq_true rfl⟩ hR hl.1 rfl (Nat.le_of_ble_eq_true rfl) dL_law_2030 (by omega) (by omega) (fun nw8 ns8 nl8 nc8 H6 lH6 hB8 HS => ?_)
    have hB := hB8.at hB.1.iN
    clear hB8
    rw [show rt_holding τ (nI sc) (nI q1) = hoS τ (nI sc) (nI q1) from rfl]
    refine lv_iload hx hb dL_law_2033 (lv_at hl 3 rfl) ?_
    refine lv_icmp_eq (tgt := 2040) hx hb dL_law_2035 (by decide) (fun c_2035 => ?_) (fun c_2035 => absurd (hse.symm) c_2035)
    exact l_chk hl9 MC HS hB (hO) hR (by omega) (by omega) (lv_sub hl [6, 7, 8, 9, 10, 11, 12, 13, 14, 15] rfl) (fun c9 s9 H1 locs1 ls1 h1 h2 => kk c9 s9 H1 locs1 ls1 (by omega) (by omega))
  have loop : ∀ m9 : Nat, ∀ (hh on : Nat) (se : Int32), hh + m9 = 672 → q1 ≤ hh → on + q1 ≤ hh → nsp (fun h => hoS τ (nI sc) (nI h) == 0) (nI (1 + q3)) m9 hh (nI on) = res → (hh = q1 → se = 0) → (¬ hh = q1 → se = hoS τ (nI sc) (nI q1)) → ∀ (locs : List Loc) (ls : Array Slot), va_S (fun q => n0 ≤ q) s.heap H locs → lv_has ls 28 [(24, .int (nI hh)), (23, .int (-1)), (22, .int (nI on)), (21, .int se), (20, .int (nI (1 + q3))), (19, .int (nI q1)), (0, .ref b), (1, .ref (aa 0)), (2, .ref (aa 11)), (3, .ref (aa 12)), (4, .ref (aa 13)), (5, .ref (aa 14)), (6, .ref (aa 15)), (7, .ref (aa 16)), (8, .ref (aa 17)), (9, .int (nI t9)), (10, .int x9), (11, .int y9), (12, .int kd), (13, .int (nI sc)), (14, .int (nI la)), (15, .int (nI rk)), (16, .int (nI n9)), (17, .int (nI k9)), (18, .int (nI (7 * nl)))] → W p l e R s m args below meth c H locs cells slots Q (F0 m 1843 ls []) := by
    intro m9
    induction m9 with
    | zero =>
      intro hh on se hm hqh hon hR9 hse0 hse locs ls HS hl
      refine lv_iload hx hb dL_law_1843 (lv_at hl 0 rfl) ?_
      refine lv_sipush (v := 672) hx hb dL_law_1845 (by decide) ?_
      refine lv_icmp_ge (tgt := 2010) hx hb dL_law_1848 (by decide) (fun c_1848 => ?_) (fun c_1848 => absurd (nI_le (a := 672) (by omega) (by omega)) c_1848)
      exact tail _ _ _ _ hR9 (hse (by omega)) _ ls HS (lv_sub hl [0, 1, 2, 3, 4, 5, 6, 7, 8, 9, 10, 11, 12, 13, 14, 15, 16, 17, 18, 19, 20, 21, 22, 23, 24] rfl)
    | succ m9 ih =>
      intro hh on se hm hqh hon hR9 hse0 hse locs ls HS hl
      refine lv_iload hx hb dL_law_1843 (lv_at hl 0 rfl) ?_
      refine lv_sipush (v := 672) hx hb dL_law_1845 (by decide) ?_
      refine lv_icmp_ge (tgt := 2010) hx hb dL_law_1848 (by decide) (fun c_1848 => absurd c_1848 (nI_ge (b := 672) (by omega) (by omega))) (fun c_1848 => ?_)
      refine lv_iload hx hb dL_law_1851 (lv_at hl 1 rfl) ?_
      refine lv_if_ge (tgt := 2010) hx hb dL_law_1853 (by decide) (fun c_1853 => absurd c_1853 (by decide)) (fun c_1853 => ?_)
      refine lv_iconst (v := 1) hx hb dL_law_1856 (by decide) ?_
      refine lv_istore (lv' := [(25, .int 1), (24, .int (nI hh)), (23, .int (-1)), (22, .int (nI on)), (21, .int se), (20, .int (nI (1 + q3))), (19, .int (nI q1)), (0, .ref b), (1, .ref (aa 0)), (2, .ref (aa 11)), (3, .ref (aa 12)), (4, .ref (aa 13)), (5, .ref (aa 14)), (6, .ref (aa 15)), (7, .ref (aa 16)), (8, .ref (aa 17)), (9, .int (nI t9)), (10, .int x9), (11, .int y9), (12, .int kd), (13, .int (nI sc)), (14, .int (nI la)), (15, .int (nI rk)), (16, .int (nI n9)), (17, .int (nI k9)), (18, .int (nI (7 * nl)))]) hx hb dL_law_1857 hl (by decide) rfl (fun ls hl => ?_)
      refine lv_iconst (v := 0) hx hb dL_law_1859 (by decide) ?_
      refine lv_istore (lv' := [(26, .int 0), (25, .int 1), (24, .int (nI hh)), (23, .int (-1)), (22, .int (nI on)), (21, .int se), (20, .int (nI (1 + q3))), (19, .int (nI q1)), (0, .ref b), (1, .ref (aa 0)), (2, .ref (aa 11)), (3, .ref (aa 12)), (4, .ref (aa 13)), (5, .ref (aa 14)), (6, .ref (aa 15)), (7, .ref (aa 16)), (8, .ref (aa 17)), (9, .int (nI t9)), (10, .int x9), (11, .int y9), (12, .int kd), (13, .int (nI sc)), (14, .int (nI la)), (15, .int (nI rk)), (16, .int (nI n9)), (17, .int (nI k9)), (18, .int (nI (7 * nl)))]) hx hb dL_law_1860 hl (by decide) rfl (fun ls hl => ?_)
      have lop2 : ∀ i : Nat, i ≤ nl → ∀ (locs : List Loc) (ls : Array Slot), va_S (fun q => n0 ≤ q) s.heap H locs → lv_has ls 28 [(26, .int (nI i)), (25, .int (bI (any1 (hsB τ sc hh) i = false))), (24, .int (nI hh)), (23, .int (-1)), (22, .int (nI on)), (21, .int ((if hh = q1 then mk (hsB τ sc hh) i else se))), (20, .int (nI (1 + q3))), (19, .int (nI q1)), (0, .ref b), (1, .ref (aa 0)), (2, .ref (aa 11)), (3, .ref (aa 12)), (4, .ref (aa 13)), (5, .ref (aa 14)), (6, .ref (aa 15)), (7, .ref (aa 16)), (8, .ref (aa 17)), (9, .int (nI t9)), (10, .int x9), (11, .int y9), (12, .int kd), (13, .int (nI sc)), (14, .int (nI la)), (15, .int (nI rk)), (16, .int (nI n9)), (17, .int (nI k9)), (18, .int (nI (7 * nl)))] → W p l e R s m args below meth c H locs cells slots Q (F0 m 1862 ls []) := by
        refine ro_loop (nl) (fun i : Nat => ∀ (locs : List Loc) (ls : Array Slot), va_S (fun q => n0 ≤ q) s.heap H locs → lv_has ls 28 [(26, .int (nI i)), (25, .int (bI (any1 (hsB τ sc hh) i = false))), (24, .int (nI hh)), (23, .int (-1)), (22, .int (nI on)), (21, .int ((if hh = q1 then mk (hsB τ sc hh) i else se))), (20, .int (nI (1 + q3))), (19, .int (nI q1)), (0, .ref b), (1, .ref (aa 0)), (2, .ref (aa 11)), (3, .ref (aa 12)), (4, .ref (aa 13)), (5, .ref (aa 14)), (6, .ref (aa 15)), (7, .ref (aa 16)), (8, .ref (aa 17)), (9, .int (nI t9)), (10, .int x9), (11, .int y9), (12, .int kd), (13, .int (nI sc)), (14, .int (nI la)), (15, .int (nI rk)), (16, .int (nI n9)), (17, .int (nI k9)), (18, .int (nI (7 * nl)))] → W p l e R s m args below meth c H locs cells slots Q (F0 m 1862 ls [])) ?_ ?_
        · intro locs ls HS hl
          refine lv_iload hx hb dL_law_1862 (lv_at hl 0 rfl) ?_
          refine lv_aload hx hb dL_law_1864 (lv_at hl 16 rfl) ?_
          refine lv_iconst (v := 2) hx hb dL_law_1866 (by decide) ?_
          refine wb_iald MC hB 6 (by decide) 2 (show 2 < 4 by omega) rfl (hg2.trans hI.2.2.1.1) dL_law_1867 ?_
          refine lv_icmp_ge (tgt := 1969) hx hb dL_law_1868 (by decide) (fun c_1868 => ?_) (fun c_1868 => absurd (nI_le (Nat.le_refl nl) (by omega)) c_1868)
          refine lv_iload hx hb dL_law_1969 (lv_at hl 1 rfl) ?_
          refine lv_if_eq (tgt := 1981) hx hb dL_law_1971 (by decide) (fun c_1971 => ?_) (fun c_1971 => ?_)
          · have f_1971 := bI_0.mp c_1971
            refine lv_iconst (v := 0) hx hb dL_law_1981 (by decide) ?_
            refine lv_istore (lv' := [(22, .int 0), (26, .int (nI nl)), (25, .int (bI (any1 (hsB τ sc hh) nl = false))), (24, .int (nI hh)), (23, .int (-1)), (21, .int ((if hh = q1 then mk (hsB τ sc hh) nl else se))), (20, .int (nI (1 + q3))), (19, .int (nI q1)), (0, .ref b), (1, .ref (aa 0)), (2, .ref (aa 11)), (3, .ref (aa 12)), (4, .ref (aa 13)), (5, .ref (aa 14)), (6, .ref (aa 15)), (7, .ref (aa 16)), (8, .ref (aa 17)), (9, .int (nI t9)), (10, .int x9), (11, .int y9), (12, .int kd), (13, .int (nI sc)), (14, .int (nI la)), (15, .int (nI rk)), (16, .int (nI n9)), (17, .int (nI k9)), (18, .int (nI (7 * nl)))]) hx hb dL_law_1982 hl (by decide) rfl (fun ls hl => ?_)
            refine lv_iload hx hb dL_law_1984 (lv_at hl 0 rfl) ?_
            refine lv_iload hx hb dL_law_1986 (lv_at hl 6 rfl) ?_
            refine lv_icmp_ne (tgt := 2001) hx hb dL_law_1988 (by decide) (fun c_1988 => ?_) (fun c_1988 => ?_)
            · have hany : any1 (hsB τ sc hh) nl = true := by simpa using f_1971
              have hR2 := ns_go hI (o := nI on) (v := 0) hany rfl c_1988 (m := m9)
              rw [hR9] at hR2
              have hse1 : ((if hh = q1 then mk (hsB τ sc hh) nl else se)) = hoS τ (nI sc) (nI q1) := se_end hI hse
              refine lv_iconst (v := (-1)) hx hb dL_law_2001 (by decide) ?_
              refine lv_istore (lv' := [(23, .int ((-1))), (22, .int 0), (26, .int (nI nl)), (25, .int (bI (any1 (hsB τ sc hh) nl = false))), (24, .int (nI hh)), (21, .int ((if hh = q1 then mk (hsB τ sc hh) nl else se))), (20, .int (nI (1 + q3))), (19, .int (nI q1)), (0, .ref b), (1, .ref (aa 0)), (2, .ref (aa 11)), (3, .ref (aa 12)), (4, .ref (aa 13)), (5, .ref (aa 14)), (6, .ref (aa 15)), (7, .ref (aa 16)), (8, .ref (aa 17)), (9, .int (nI t9)), (10, .int x9), (11, .int y9), (12, .int kd), (13, .int (nI sc)), (14, .int (nI la)), (15, .int (nI rk)), (16, .int (nI n9)), (17, .int (nI k9)), (18, .int (nI (7 * nl)))]) hx hb dL_law_2002 hl (by decide) rfl (fun ls hl => ?_)
              refine lv_iinc (v := nI hh + 1) (lv' := [(24, .int (nI hh + 1)), (23, .int ((-1))), (22, .int 0), (26, .int (nI nl)), (25, .int (bI (any1 (hsB τ sc hh) nl = false))), (21, .int ((if hh = q1 then mk (hsB τ sc hh) nl else se))), (20, .int (nI (1 + q3))), (19, .int (nI q1)), (0, .ref b), (1, .ref (aa 0)), (2, .ref (aa 11)), (3, .ref (aa 12)), (4, .ref (aa 13)), (5, .ref (aa 14)), (6, .ref (aa 15)), (7, .ref (aa 16)), (8, .ref (aa 17)), (9, .int (nI t9)), (10, .int x9), (11, .int y9), (12, .int kd), (13, .int (nI sc)), (14, .int (nI la)), (15, .int (nI rk)), (16, .int (nI n9)), (17, .int (nI k9)), (18, .int (nI (7 * nl)))]) hx hb dL_law_2004 hl (k := 4) rfl rfl (by decide) rfl (fun ls hl => ?_)
              refine lv_goto (tgt := 1843) hx hb dL_law_2007 (by decide) ?_
              rw [nI_1] at hl
              exact ih (hh + 1) 0 _ (by omega) (by omega) (by omega) (by exact hR2.symm) (fun h9 => absurd h9 (by omega)) (fun _ => hse1) _ ls HS (lv_sub hl [0, 1, 2, 5, 6, 7, 8, 9, 10, 11, 12, 13, 14, 15, 16, 17, 18, 19, 20, 21, 22, 23, 24, 25, 26] (by rfl))
            · have hany : any1 (hsB τ sc hh) nl = true := by simpa using f_1971
              have hR2 := ns_stop hI (o := nI on) (v := 0) hany rfl c_1988 (m := m9)
              rw [hR9] at hR2
              have hlen : 1 + q3 ≤ hh + 1 := by have := (neq_of (x := 0) (n := 1 + q3) rfl (by omega) (by omega) c_1988); omega
              have hfo := fo_pos hlen (show hh < 672 by omega)
              have hse1 : ((if hh = q1 then mk (hsB τ sc hh) nl else se)) = hoS τ (nI sc) (nI q1) := se_end hI hse
              refine lv_iload hx hb dL_law_1991 (lv_at hl 3 rfl) ?_
              refine lv_iconst (v := 1) hx hb dL_law_1993 (by decide) ?_
              refine lv_iadd hx hb dL_law_1994 ?_
              refine lv_iload hx hb dL_law_1995 (lv_at hl 6 rfl) ?_
              refine lv_isub hx hb dL_law_1997 ?_
              refine lv_goto (tgt := 2002) hx hb dL_law_1998 (by decide) ?_
              refine lv_istore (lv' := [(23, .int (((nI hh + 1) - nI (1 + q3)))), (22, .int 0), (26, .int (nI nl)), (25, .int (bI (any1 (hsB τ sc hh) nl = false))), (24, .int (nI hh)), (21, .int ((if hh = q1 then mk (hsB τ sc hh) nl else se))), (20, .int (nI (1 + q3))), (19, .int (nI q1)), (0, .ref b), (1, .ref (aa 0)), (2, .ref (aa 11)), (3, .ref (aa 12)), (4, .ref (aa 13)), (5, .ref (aa 14)), (6, .ref (aa 15)), (7, .ref (aa 16)), (8, .ref (aa 17)), (9, .int (nI t9)), (10, .int x9), (11, .int y9), (12, .int kd), (13, .int (nI sc)), (14, .int (nI la)), (15, .int (nI rk)), (16, .int (nI n9)), (17, .int (nI k9)), (18, .int (nI (7 * nl)))]) hx hb dL_law_2002 hl (by decide) rfl (fun ls hl => ?_)
              refine lv_iinc (v := nI hh + 1) (lv' := [(24, .int (nI hh + 1)), (23, .int (((nI hh + 1) - nI (1 + q3)))), (22, .int 0), (26, .int (nI nl)), (25, .int (bI (any1 (hsB τ sc hh) nl = false))), (21, .int ((if hh = q1 then mk (hsB τ sc hh) nl else se))), (20, .int (nI (1 + q3))), (19, .int (nI q1)), (0, .ref b), (1, .ref (aa 0)), (2, .ref (aa 11)), (3, .ref (aa 12)), (4, .ref (aa 13)), (5, .ref (aa 14)), (6, .ref (aa 15)), (7, .ref (aa 16)), (8, .ref (aa 17)), (9, .int (nI t9)), (10, .int x9), (11, .int y9), (12, .int kd), (13, .int (nI sc)), (14, .int (nI la)), (15, .int (nI rk)), (16, .int (nI n9)), (17, .int (nI k9)), (18, .int (nI (7 * nl)))]) hx hb dL_law_2004 hl (k := 4) rfl rfl (by decide) rfl (fun ls hl => ?_)
              refine lv_goto (tgt := 1843) hx hb dL_law_2007 (by decide) ?_
              refine lv_iload hx hb dL_law_1843 (lv_at hl 0 rfl) ?_
              refine lv_sipush (v := 672) hx hb dL_law_1845 (by decide) ?_
              refine lv_icmp_ge (tgt := 2010) hx hb dL_law_1848 (by decide) (fun c_1848 => ?_) (fun c_1848 => ?_)
              · exact tail _ _ _ _ (by rw [hR2]; exact hfo.2.2) hse1 _ ls HS (lv_sub hl [0, 1, 2, 5, 6, 7, 8, 9, 10, 11, 12, 13, 14, 15, 16, 17, 18, 19, 20, 21, 22, 23, 24, 25, 26] rfl)
              · refine lv_iload hx hb dL_law_1851 (lv_at hl 1 rfl) ?_
                refine lv_if_ge (tgt := 2010) hx hb dL_law_1853 (by decide) (fun c_1853 => ?_) (fun c_1853 => absurd (hfo.2.1) c_1853)
                exact tail _ _ _ _ (by rw [hR2]; exact hfo.2.2) hse1 _ ls HS (lv_sub hl [0, 1, 2, 5, 6, 7, 8, 9, 10, 11, 12, 13, 14, 15, 16, 17, 18, 19, 20, 21, 22, 23, 24, 25, 26] rfl)
          · have f_1971 := bI_n0.mp c_1971
            refine lv_iload hx hb dL_law_1974 (lv_at hl 4 rfl) ?_
            refine lv_iconst (v := 1) hx hb dL_law_1976 (by decide) ?_
            refine lv_iadd hx hb dL_law_1977 ?_
            refine lv_goto (tgt := 1982) hx hb dL_law_1978 (by decide) ?_
            refine lv_istore (lv' := [(22, .int ((nI on + 1))), (26, .int (nI nl)), (25, .int (bI (any1 (hsB τ sc hh) nl = false))), (24, .int (nI hh)), (23, .int (-1)), (21, .int ((if hh = q1 then mk (hsB τ sc hh) nl else se))), (20, .int (nI (1 + q3))), (19, .int (nI q1)), (0, .ref b), (1, .ref (aa 0)), (2, .ref (aa 11)), (3, .ref (aa 12)), (4, .ref (aa 13)), (5, .ref (aa 14)), (6, .ref (aa 15)), (7, .ref (aa 16)), (8, .ref (aa 17)), (9, .int (nI t9)), (10, .int x9), (11, .int y9), (12, .int kd), (13, .int (nI sc)), (14, .int (nI la)), (15, .int (nI rk)), (16, .int (nI n9)), (17, .int (nI k9)), (18, .int (nI (7 * nl)))]) hx hb dL_law_1982 hl (by decide) rfl (fun ls hl => ?_)
            refine lv_iload hx hb dL_law_1984 (lv_at hl 0 rfl) ?_
            refine lv_iload hx hb dL_law_1986 (lv_at hl 6 rfl) ?_
            refine lv_icmp_ne (tgt := 2001) hx hb dL_law_1988 (by decide) (fun c_1988 => ?_) (fun c_1988 => ?_)
            · have hany : any1 (hsB τ sc hh) nl = false := f_1971
              have hR2 := ns_go hI (o := nI on) (v := (nI on + 1)) hany rfl c_1988 (m := m9)
              rw [hR9] at hR2
              have hse1 : ((if hh = q1 then mk (hsB τ sc hh) nl else se)) = hoS τ (nI sc) (nI q1) := se_end hI hse
              refine lv_iconst (v := (-1)) hx hb dL_law_2001 (by decide) ?_
              refine lv_istore (lv' := [(23, .int ((-1))), (22, .int ((nI on + 1))), (26, .int (nI nl)), (25, .int (bI (any1 (hsB τ sc hh) nl = false))), (24, .int (nI hh)), (21, .int ((if hh = q1 then mk (hsB τ sc hh) nl else se))), (20, .int (nI (1 + q3))), (19, .int (nI q1)), (0, .ref b), (1, .ref (aa 0)), (2, .ref (aa 11)), (3, .ref (aa 12)), (4, .ref (aa 13)), (5, .ref (aa 14)), (6, .ref (aa 15)), (7, .ref (aa 16)), (8, .ref (aa 17)), (9, .int (nI t9)), (10, .int x9), (11, .int y9), (12, .int kd), (13, .int (nI sc)), (14, .int (nI la)), (15, .int (nI rk)), (16, .int (nI n9)), (17, .int (nI k9)), (18, .int (nI (7 * nl)))]) hx hb dL_law_2002 hl (by decide) rfl (fun ls hl => ?_)
              refine lv_iinc (v := nI hh + 1) (lv' := [(24, .int (nI hh + 1)), (23, .int ((-1))), (22, .int ((nI on + 1))), (26, .int (nI nl)), (25, .int (bI (any1 (hsB τ sc hh) nl = false))), (21, .int ((if hh = q1 then mk (hsB τ sc hh) nl else se))), (20, .int (nI (1 + q3))), (19, .int (nI q1)), (0, .ref b), (1, .ref (aa 0)), (2, .ref (aa 11)), (3, .ref (aa 12)), (4, .ref (aa 13)), (5, .ref (aa 14)), (6, .ref (aa 15)), (7, .ref (aa 16)), (8, .ref (aa 17)), (9, .int (nI t9)), (10, .int x9), (11, .int y9), (12, .int kd), (13, .int (nI sc)), (14, .int (nI la)), (15, .int (nI rk)), (16, .int (nI n9)), (17, .int (nI k9)), (18, .int (nI (7 * nl)))]) hx hb dL_law_2004 hl (k := 4) rfl rfl (by decide) rfl (fun ls hl => ?_)
              refine lv_goto (tgt := 1843) hx hb dL_law_2007 (by decide) ?_
              rw [nI_1] at hl
              rw [nI_1] at hl
              exact ih (hh + 1) (on + 1) _ (by omega) (by omega) (by omega) (by rw [← nI_1]; exact hR2.symm) (fun h9 => absurd h9 (by omega)) (fun _ => hse1) _ ls HS (lv_sub hl [0, 1, 2, 5, 6, 7, 8, 9, 10, 11, 12, 13, 14, 15, 16, 17, 18, 19, 20, 21, 22, 23, 24, 25, 26] (by rfl))
            · have hany : any1 (hsB τ sc hh) nl = false := f_1971
              have hR2 := ns_stop hI (o := nI on) (v := (nI on + 1)) hany rfl c_1988 (m := m9)
              rw [hR9] at hR2
              have hlen : 1 + q3 ≤ hh + 1 := by have := neq_of (x := on + 1) (n := 1 + q3) rfl (by omega) (by omega) (by rw [← nI_1]; exact c_1988); omega
              have hfo := fo_pos hlen (show hh < 672 by omega)
              have hse1 : ((if hh = q1 then mk (hsB τ sc hh) nl else se)) = hoS τ (nI sc) (nI q1) := se_end hI hse
              refine lv_iload hx hb dL_law_1991 (lv_at hl 3 rfl) ?_
              refine lv_iconst (v := 1) hx hb dL_law_1993 (by decide) ?_
              refine lv_iadd hx hb dL_law_1994 ?_
              refine lv_iload hx hb dL_law_1995 (lv_at hl 6 rfl) ?_
              refine lv_isub hx hb dL_law_1997 ?_
              refine lv_goto (tgt := 2002) hx hb dL_law_1998 (by decide) ?_
              refine lv_istore (lv' := [(23, .int (((nI hh + 1) - nI (1 + q3)))), (22, .int ((nI on + 1))), (26, .int (nI nl)), (25, .int (bI (any1 (hsB τ sc hh) nl = false))), (24, .int (nI hh)), (21, .int ((if hh = q1 then mk (hsB τ sc hh) nl else se))), (20, .int (nI (1 + q3))), (19, .int (nI q1)), (0, .ref b), (1, .ref (aa 0)), (2, .ref (aa 11)), (3, .ref (aa 12)), (4, .ref (aa 13)), (5, .ref (aa 14)), (6, .ref (aa 15)), (7, .ref (aa 16)), (8, .ref (aa 17)), (9, .int (nI t9)), (10, .int x9), (11, .int y9), (12, .int kd), (13, .int (nI sc)), (14, .int (nI la)), (15, .int (nI rk)), (16, .int (nI n9)), (17, .int (nI k9)), (18, .int (nI (7 * nl)))]) hx hb dL_law_2002 hl (by decide) rfl (fun ls hl => ?_)
              refine lv_iinc (v := nI hh + 1) (lv' := [(24, .int (nI hh + 1)), (23, .int (((nI hh + 1) - nI (1 + q3)))), (22, .int ((nI on + 1))), (26, .int (nI nl)), (25, .int (bI (any1 (hsB τ sc hh) nl = false))), (21, .int ((if hh = q1 then mk (hsB τ sc hh) nl else se))), (20, .int (nI (1 + q3))), (19, .int (nI q1)), (0, .ref b), (1, .ref (aa 0)), (2, .ref (aa 11)), (3, .ref (aa 12)), (4, .ref (aa 13)), (5, .ref (aa 14)), (6, .ref (aa 15)), (7, .ref (aa 16)), (8, .ref (aa 17)), (9, .int (nI t9)), (10, .int x9), (11, .int y9), (12, .int kd), (13, .int (nI sc)), (14, .int (nI la)), (15, .int (nI rk)), (16, .int (nI n9)), (17, .int (nI k9)), (18, .int (nI (7 * nl)))]) hx hb dL_law_2004 hl (k := 4) rfl rfl (by decide) rfl (fun ls hl => ?_)
              refine lv_goto (tgt := 1843) hx hb dL_law_2007 (by decide) ?_
              refine lv_iload hx hb dL_law_1843 (lv_at hl 0 rfl) ?_
              refine lv_sipush (v := 672) hx hb dL_law_1845 (by decide) ?_
              refine lv_icmp_ge (tgt := 2010) hx hb dL_law_1848 (by decide) (fun c_1848 => ?_) (fun c_1848 => ?_)
              · exact tail _ _ _ _ (by rw [hR2]; exact hfo.2.2) hse1 _ ls HS (lv_sub hl [0, 1, 2, 5, 6, 7, 8, 9, 10, 11, 12, 13, 14, 15, 16, 17, 18, 19, 20, 21, 22, 23, 24, 25, 26] rfl)
              · refine lv_iload hx hb dL_law_1851 (lv_at hl 1 rfl) ?_
                refine lv_if_ge (tgt := 2010) hx hb dL_law_1853 (by decide) (fun c_1853 => ?_) (fun c_1853 => absurd (hfo.2.1) c_1853)
                exact tail _ _ _ _ (by rw [hR2]; exact hfo.2.2) hse1 _ ls HS (lv_sub hl [0, 1, 2, 5, 6, 7, 8, 9, 10, 11, 12, 13, 14, 15, 16, 17, 18, 19, 20, 21, 22, 23, 24, 25, 26] rfl)
        · intro i hki ih2 locs ls HS hl
          obtain ⟨-, ⟨u, hu, hu6⟩, -⟩ := hI.2.2.2.2.2.2.2.2.2.1 i hki
          have hcu : cx (τ 6 i) = u := by rw [hu6]; exact cx_nI (by omega)
          refine lv_iload hx hb dL_law_1862 (lv_at hl 0 rfl) ?_
          refine lv_aload hx hb dL_law_1864 (lv_at hl 16 rfl) ?_
          refine lv_iconst (v := 2) hx hb dL_law_1866 (by decide) ?_
          refine wb_iald MC hB 6 (by decide) 2 (show 2 < 4 by omega) rfl (hg2.trans hI.2.2.1.1) dL_law_1867 ?_
          refine lv_icmp_ge (tgt := 1969) hx hb dL_law_1868 (by decide) (fun c_1868 => absurd c_1868 (nI_ge hki (by omega))) (fun c_1868 => ?_)
          refine lv_aload_n hx hb dL_law_1871 rfl (lv_at hl 10 rfl) ?_
          refine lv_bipush (v := 7) hx hb dL_law_1872 (by decide) ?_
          refine lv_iload hx hb dL_law_1874 (lv_at hl 0 rfl) ?_
          refine lv_imul hx hb dL_law_1876 ?_
          refine wb_iald MC hB 0 (by decide) (7 * i) (show 7 * i < 42 by omega) (ix_mul rfl rfl) ((hF i hki).1) dL_law_1877 ?_
          refine lv_iconst (v := 1) hx hb dL_law_1878 (by decide) ?_
          refine lv_icmp_ne (tgt := 1920) hx hb dL_law_1879 (by decide) (fun c_1879 => ?_) (fun c_1879 => ?_)
          · refine lv_iconst (v := 0) hx hb dL_law_1920 (by decide) ?_
            refine lv_istore (lv' := [(27, .int 0), (26, .int (nI i)), (25, .int (bI (any1 (hsB τ sc hh) i = false))), (24, .int (nI hh)), (23, .int (-1)), (22, .int (nI on)), (21, .int ((if hh = q1 then mk (hsB τ sc hh) i else se))), (20, .int (nI (1 + q3))), (19, .int (nI q1)), (0, .ref b), (1, .ref (aa 0)), (2, .ref (aa 11)), (3, .ref (aa 12)), (4, .ref (aa 13)), (5, .ref (aa 14)), (6, .ref (aa 15)), (7, .ref (aa 16)), (8, .ref (aa 17)), (9, .int (nI t9)), (10, .int x9), (11, .int y9), (12, .int kd), (13, .int (nI sc)), (14, .int (nI la)), (15, .int (nI rk)), (16, .int (nI n9)), (17, .int (nI k9)), (18, .int (nI (7 * nl)))]) hx hb dL_law_1921 hl (by decide) rfl (fun ls hl => ?_)
            refine lv_iload hx hb dL_law_1923 (lv_at hl 6 rfl) ?_
            refine lv_iload hx hb dL_law_1925 (lv_at hl 0 rfl) ?_
            refine lv_if_eq (tgt := 1944) hx hb dL_law_1927 (by decide) (fun c_1927 => ?_) (fun c_1927 => absurd c_1927 (by decide))
            refine lv_iconst (v := 0) hx hb dL_law_1944 (by decide) ?_
            refine lv_ior hx hb dL_law_1945 ?_
            refine lv_istore (lv' := [(21, .int (((if hh = q1 then mk (hsB τ sc hh) i else se) ||| 0))), (27, .int 0), (26, .int (nI i)), (25, .int (bI (any1 (hsB τ sc hh) i = false))), (24, .int (nI hh)), (23, .int (-1)), (22, .int (nI on)), (20, .int (nI (1 + q3))), (19, .int (nI q1)), (0, .ref b), (1, .ref (aa 0)), (2, .ref (aa 11)), (3, .ref (aa 12)), (4, .ref (aa 13)), (5, .ref (aa 14)), (6, .ref (aa 15)), (7, .ref (aa 16)), (8, .ref (aa 17)), (9, .int (nI t9)), (10, .int x9), (11, .int y9), (12, .int kd), (13, .int (nI sc)), (14, .int (nI la)), (15, .int (nI rk)), (16, .int (nI n9)), (17, .int (nI k9)), (18, .int (nI (7 * nl)))]) hx hb dL_law_1946 hl (by decide) rfl (fun ls hl => ?_)
            refine lv_iload hx hb dL_law_1948 (lv_at hl 3 rfl) ?_
            refine lv_iload hx hb dL_law_1950 (lv_at hl 1 rfl) ?_
            refine lv_if_ne (tgt := 1959) hx hb dL_law_1952 (by decide) (fun c_1952 => absurd c_1952 (by decide)) (fun c_1952 => ?_)
            refine lv_iconst (v := 1) hx hb dL_law_1955 (by decide) ?_
            refine lv_goto (tgt := 1960) hx hb dL_law_1956 (by decide) ?_
            refine lv_iand hx hb dL_law_1960 ?_
            refine lv_istore (lv' := [(25, .int ((bI (any1 (hsB τ sc hh) i = false) &&& 1))), (21, .int (((if hh = q1 then mk (hsB τ sc hh) i else se) ||| 0))), (27, .int 0), (26, .int (nI i)), (24, .int (nI hh)), (23, .int (-1)), (22, .int (nI on)), (20, .int (nI (1 + q3))), (19, .int (nI q1)), (0, .ref b), (1, .ref (aa 0)), (2, .ref (aa 11)), (3, .ref (aa 12)), (4, .ref (aa 13)), (5, .ref (aa 14)), (6, .ref (aa 15)), (7, .ref (aa 16)), (8, .ref (aa 17)), (9, .int (nI t9)), (10, .int x9), (11, .int y9), (12, .int kd), (13, .int (nI sc)), (14, .int (nI la)), (15, .int (nI rk)), (16, .int (nI n9)), (17, .int (nI k9)), (18, .int (nI (7 * nl)))]) hx hb dL_law_1961 hl (by decide) rfl (fun ls hl => ?_)
            refine lv_iinc (v := nI i + 1) (lv' := [(26, .int (nI i + 1)), (25, .int ((bI (any1 (hsB τ sc hh) i = false) &&& 1))), (21, .int (((if hh = q1 then mk (hsB τ sc hh) i else se) ||| 0))), (27, .int 0), (24, .int (nI hh)), (23, .int (-1)), (22, .int (nI on)), (20, .int (nI (1 + q3))), (19, .int (nI q1)), (0, .ref b), (1, .ref (aa 0)), (2, .ref (aa 11)), (3, .ref (aa 12)), (4, .ref (aa 13)), (5, .ref (aa 14)), (6, .ref (aa 15)), (7, .ref (aa 16)), (8, .ref (aa 17)), (9, .int (nI t9)), (10, .int x9), (11, .int y9), (12, .int kd), (13, .int (nI sc)), (14, .int (nI la)), (15, .int (nI rk)), (16, .int (nI n9)), (17, .int (nI k9)), (18, .int (nI (7 * nl)))]) hx hb dL_law_1963 hl (k := 3) rfl rfl (by decide) rfl (fun ls hl => ?_)
            refine lv_goto (tgt := 1862) hx hb dL_law_1966 (by decide) ?_
            have hfk : hsB τ sc hh i = false := by rw [hs_eq hcu (by omega), beq_eq_false_iff_ne.mpr (fun h9 => c_1879 (bI_1.mpr h9))]; rfl
            rw [is_f hfk, sv_f (p := hsB τ sc hh) hfk, nI_1] at hl
            exact ih2 _ ls HS (lv_sub hl [0, 1, 4, 5, 6, 2, 7, 8, 9, 10, 11, 12, 13, 14, 15, 16, 17, 18, 19, 20, 21, 22, 23, 24, 25, 26, 27] rfl)
          · refine lv_aload_n hx hb dL_law_1882 rfl (lv_at hl 10 rfl) ?_
            refine lv_bipush (v := 7) hx hb dL_law_1883 (by decide) ?_
            refine lv_iload hx hb dL_law_1885 (lv_at hl 0 rfl) ?_
            refine lv_imul hx hb dL_law_1887 ?_
            refine lv_iconst (v := 2) hx hb dL_law_1888 (by decide) ?_
            refine lv_iadd hx hb dL_law_1889 ?_
            refine wb_iald MC hB 0 (by decide) (7 * i + 2) (show 7 * i + 2 < 42 by omega) (ix_add (ix_mul rfl rfl) rfl) ((hF i hki).2.2.1.trans hu6) dL_law_1890 ?_
            refine lv_iload hx hb dL_law_1891 (lv_at hl 21 rfl) ?_
            refine lv_aload hx hb dL_law_1893 (lv_at hl 12 rfl) ?_
            refine wb_s MC HS (rest := []) (As := [.int (nI u), .int (nI sc), .ref (aa 13)]) (y_touches hB hO hu hsc) lkL_10 kw512 ⟨rfl, rfl, Nat.le_of_ble_eq_true rfl, Nat.le_of_ble_eq_true rfl, Nat.le_of_ble_eq_true rfl⟩ hR hl.1 rfl (Nat.le_of_ble_eq_true rfl) dL_law_1895 (by omega) (by omega) (fun v9 H7 lH7 hp HS => ?_)
            obtain ⟨rfl, rfl⟩ := hp
            refine lv_if_eq (tgt := 1920) hx hb dL_law_1898 (by decide) (fun c_1898 => ?_) (fun c_1898 => ?_)
            · have f_1898 := bI_0.mp c_1898
              refine lv_iconst (v := 0) hx hb dL_law_1920 (by decide) ?_
              refine lv_istore (lv' := [(27, .int 0), (26, .int (nI i)), (25, .int (bI (any1 (hsB τ sc hh) i = false))), (24, .int (nI hh)), (23, .int (-1)), (22, .int (nI on)), (21, .int ((if hh = q1 then mk (hsB τ sc hh) i else se))), (20, .int (nI (1 + q3))), (19, .int (nI q1)), (0, .ref b), (1, .ref (aa 0)), (2, .ref (aa 11)), (3, .ref (aa 12)), (4, .ref (aa 13)), (5, .ref (aa 14)), (6, .ref (aa 15)), (7, .ref (aa 16)), (8, .ref (aa 17)), (9, .int (nI t9)), (10, .int x9), (11, .int y9), (12, .int kd), (13, .int (nI sc)), (14, .int (nI la)), (15, .int (nI rk)), (16, .int (nI n9)), (17, .int (nI k9)), (18, .int (nI (7 * nl)))]) hx hb dL_law_1921 hl (by decide) rfl (fun ls hl => ?_)
              refine lv_iload hx hb dL_law_1923 (lv_at hl 6 rfl) ?_
              refine lv_iload hx hb dL_law_1925 (lv_at hl 0 rfl) ?_
              refine lv_if_eq (tgt := 1944) hx hb dL_law_1927 (by decide) (fun c_1927 => ?_) (fun c_1927 => absurd c_1927 (by decide))
              refine lv_iconst (v := 0) hx hb dL_law_1944 (by decide) ?_
              refine lv_ior hx hb dL_law_1945 ?_
              refine lv_istore (lv' := [(21, .int (((if hh = q1 then mk (hsB τ sc hh) i else se) ||| 0))), (27, .int 0), (26, .int (nI i)), (25, .int (bI (any1 (hsB τ sc hh) i = false))), (24, .int (nI hh)), (23, .int (-1)), (22, .int (nI on)), (20, .int (nI (1 + q3))), (19, .int (nI q1)), (0, .ref b), (1, .ref (aa 0)), (2, .ref (aa 11)), (3, .ref (aa 12)), (4, .ref (aa 13)), (5, .ref (aa 14)), (6, .ref (aa 15)), (7, .ref (aa 16)), (8, .ref (aa 17)), (9, .int (nI t9)), (10, .int x9), (11, .int y9), (12, .int kd), (13, .int (nI sc)), (14, .int (nI la)), (15, .int (nI rk)), (16, .int (nI n9)), (17, .int (nI k9)), (18, .int (nI (7 * nl)))]) hx hb dL_law_1946 hl (by decide) rfl (fun ls hl => ?_)
              refine lv_iload hx hb dL_law_1948 (lv_at hl 3 rfl) ?_
              refine lv_iload hx hb dL_law_1950 (lv_at hl 1 rfl) ?_
              refine lv_if_ne (tgt := 1959) hx hb dL_law_1952 (by decide) (fun c_1952 => absurd c_1952 (by decide)) (fun c_1952 => ?_)
              refine lv_iconst (v := 1) hx hb dL_law_1955 (by decide) ?_
              refine lv_goto (tgt := 1960) hx hb dL_law_1956 (by decide) ?_
              refine lv_iand hx hb dL_law_1960 ?_
              refine lv_istore (lv' := [(25, .int ((bI (any1 (hsB τ sc hh) i = false) &&& 1))), (21, .int (((if hh = q1 then mk (hsB τ sc hh) i else se) ||| 0))), (27, .int 0), (26, .int (nI i)), (24, .int (nI hh)), (23, .int (-1)), (22, .int (nI on)), (20, .int (nI (1 + q3))), (19, .int (nI q1)), (0, .ref b), (1, .ref (aa 0)), (2, .ref (aa 11)), (3, .ref (aa 12)), (4, .ref (aa 13)), (5, .ref (aa 14)), (6, .ref (aa 15)), (7, .ref (aa 16)), (8, .ref (aa 17)), (9, .int (nI t9)), (10, .int x9), (11, .int y9), (12, .int kd), (13, .int (nI sc)), (14, .int (nI la)), (15, .int (nI rk)), (16, .int (nI n9)), (17, .int (nI k9)), (18, .int (nI (7 * nl)))]) hx hb dL_law_1961 hl (by decide) rfl (fun ls hl => ?_)
              refine lv_iinc (v := nI i + 1) (lv' := [(26, .int (nI i + 1)), (25, .int ((bI (any1 (hsB τ sc hh) i = false) &&& 1))), (21, .int (((if hh = q1 then mk (hsB τ sc hh) i else se) ||| 0))), (27, .int 0), (24, .int (nI hh)), (23, .int (-1)), (22, .int (nI on)), (20, .int (nI (1 + q3))), (19, .int (nI q1)), (0, .ref b), (1, .ref (aa 0)), (2, .ref (aa 11)), (3, .ref (aa 12)), (4, .ref (aa 13)), (5, .ref (aa 14)), (6, .ref (aa 15)), (7, .ref (aa 16)), (8, .ref (aa 17)), (9, .int (nI t9)), (10, .int x9), (11, .int y9), (12, .int kd), (13, .int (nI sc)), (14, .int (nI la)), (15, .int (nI rk)), (16, .int (nI n9)), (17, .int (nI k9)), (18, .int (nI (7 * nl)))]) hx hb dL_law_1963 hl (k := 3) rfl rfl (by decide) rfl (fun ls hl => ?_)
              refine lv_goto (tgt := 1862) hx hb dL_law_1966 (by decide) ?_
              have hfk : hsB τ sc hh i = false := by rw [hs_eq hcu (by omega), (Bool.not_eq_true _).mp f_1898]; simp
              rw [is_f hfk, sv_f (p := hsB τ sc hh) hfk, nI_1] at hl
              exact ih2 _ ls HS (lv_sub hl [0, 1, 4, 5, 6, 2, 7, 8, 9, 10, 11, 12, 13, 14, 15, 16, 17, 18, 19, 20, 21, 22, 23, 24, 25, 26, 27] rfl)
            · have f_1898 := bI_n0.mp c_1898
              refine lv_aload_n hx hb dL_law_1901 rfl (lv_at hl 10 rfl) ?_
              refine lv_iload hx hb dL_law_1902 (lv_at hl 0 rfl) ?_
              refine lv_iload hx hb dL_law_1904 (lv_at hl 2 rfl) ?_
              refine lv_aload hx hb dL_law_1906 (lv_at hl 13 rfl) ?_
              refine lv_aload hx hb dL_law_1908 (lv_at hl 14 rfl) ?_
              refine wb_s MC HS (rest := []) (As := [.ref (aa 11), .int (nI i), .int (nI hh), .ref (aa 14), .ref (aa 15)]) (y_holds hB hO hki (by omega)) lkL_20 kw509 ⟨rfl, rfl, Nat.le_of_ble_eq_true rfl, Nat.le_of_ble_eq_true rfl, Nat.le_of_ble_eq_true rfl⟩ hR hl.1 rfl (Nat.le_of_ble_eq_true rfl) dL_law_1910 (by omega) (by omega) (fun v9 H8 lH8 hp HS => ?_)
              obtain ⟨rfl, rfl⟩ := hp
              refine lv_if_eq (tgt := 1920) hx hb dL_law_1913 (by decide) (fun c_1913 => ?_) (fun c_1913 => ?_)
              · have f_1913 := bI_0.mp c_1913
                refine lv_iconst (v := 0) hx hb dL_law_1920 (by decide) ?_
                refine lv_istore (lv' := [(27, .int 0), (26, .int (nI i)), (25, .int (bI (any1 (hsB τ sc hh) i = false))), (24, .int (nI hh)), (23, .int (-1)), (22, .int (nI on)), (21, .int ((if hh = q1 then mk (hsB τ sc hh) i else se))), (20, .int (nI (1 + q3))), (19, .int (nI q1)), (0, .ref b), (1, .ref (aa 0)), (2, .ref (aa 11)), (3, .ref (aa 12)), (4, .ref (aa 13)), (5, .ref (aa 14)), (6, .ref (aa 15)), (7, .ref (aa 16)), (8, .ref (aa 17)), (9, .int (nI t9)), (10, .int x9), (11, .int y9), (12, .int kd), (13, .int (nI sc)), (14, .int (nI la)), (15, .int (nI rk)), (16, .int (nI n9)), (17, .int (nI k9)), (18, .int (nI (7 * nl)))]) hx hb dL_law_1921 hl (by decide) rfl (fun ls hl => ?_)
                refine lv_iload hx hb dL_law_1923 (lv_at hl 6 rfl) ?_
                refine lv_iload hx hb dL_law_1925 (lv_at hl 0 rfl) ?_
                refine lv_if_eq (tgt := 1944) hx hb dL_law_1927 (by decide) (fun c_1927 => ?_) (fun c_1927 => absurd c_1927 (by decide))
                refine lv_iconst (v := 0) hx hb dL_law_1944 (by decide) ?_
                refine lv_ior hx hb dL_law_1945 ?_
                refine lv_istore (lv' := [(21, .int (((if hh = q1 then mk (hsB τ sc hh) i else se) ||| 0))), (27, .int 0), (26, .int (nI i)), (25, .int (bI (any1 (hsB τ sc hh) i = false))), (24, .int (nI hh)), (23, .int (-1)), (22, .int (nI on)), (20, .int (nI (1 + q3))), (19, .int (nI q1)), (0, .ref b), (1, .ref (aa 0)), (2, .ref (aa 11)), (3, .ref (aa 12)), (4, .ref (aa 13)), (5, .ref (aa 14)), (6, .ref (aa 15)), (7, .ref (aa 16)), (8, .ref (aa 17)), (9, .int (nI t9)), (10, .int x9), (11, .int y9), (12, .int kd), (13, .int (nI sc)), (14, .int (nI la)), (15, .int (nI rk)), (16, .int (nI n9)), (17, .int (nI k9)), (18, .int (nI (7 * nl)))]) hx hb dL_law_1946 hl (by decide) rfl (fun ls hl => ?_)
                refine lv_iload hx hb dL_law_1948 (lv_at hl 3 rfl) ?_
                refine lv_iload hx hb dL_law_1950 (lv_at hl 1 rfl) ?_
                refine lv_if_ne (tgt := 1959) hx hb dL_law_1952 (by decide) (fun c_1952 => absurd c_1952 (by decide)) (fun c_1952 => ?_)
                refine lv_iconst (v := 1) hx hb dL_law_1955 (by decide) ?_
                refine lv_goto (tgt := 1960) hx hb dL_law_1956 (by decide) ?_
                refine lv_iand hx hb dL_law_1960 ?_
                refine lv_istore (lv' := [(25, .int ((bI (any1 (hsB τ sc hh) i = false) &&& 1))), (21, .int (((if hh = q1 then mk (hsB τ sc hh) i else se) ||| 0))), (27, .int 0), (26, .int (nI i)), (24, .int (nI hh)), (23, .int (-1)), (22, .int (nI on)), (20, .int (nI (1 + q3))), (19, .int (nI q1)), (0, .ref b), (1, .ref (aa 0)), (2, .ref (aa 11)), (3, .ref (aa 12)), (4, .ref (aa 13)), (5, .ref (aa 14)), (6, .ref (aa 15)), (7, .ref (aa 16)), (8, .ref (aa 17)), (9, .int (nI t9)), (10, .int x9), (11, .int y9), (12, .int kd), (13, .int (nI sc)), (14, .int (nI la)), (15, .int (nI rk)), (16, .int (nI n9)), (17, .int (nI k9)), (18, .int (nI (7 * nl)))]) hx hb dL_law_1961 hl (by decide) rfl (fun ls hl => ?_)
                refine lv_iinc (v := nI i + 1) (lv' := [(26, .int (nI i + 1)), (25, .int ((bI (any1 (hsB τ sc hh) i = false) &&& 1))), (21, .int (((if hh = q1 then mk (hsB τ sc hh) i else se) ||| 0))), (27, .int 0), (24, .int (nI hh)), (23, .int (-1)), (22, .int (nI on)), (20, .int (nI (1 + q3))), (19, .int (nI q1)), (0, .ref b), (1, .ref (aa 0)), (2, .ref (aa 11)), (3, .ref (aa 12)), (4, .ref (aa 13)), (5, .ref (aa 14)), (6, .ref (aa 15)), (7, .ref (aa 16)), (8, .ref (aa 17)), (9, .int (nI t9)), (10, .int x9), (11, .int y9), (12, .int kd), (13, .int (nI sc)), (14, .int (nI la)), (15, .int (nI rk)), (16, .int (nI n9)), (17, .int (nI k9)), (18, .int (nI (7 * nl)))]) hx hb dL_law_1963 hl (k := 3) rfl rfl (by decide) rfl (fun ls hl => ?_)
                refine lv_goto (tgt := 1862) hx hb dL_law_1966 (by decide) ?_
                have hfk : hsB τ sc hh i = false := by rw [hs_eq hcu (by omega), (Bool.not_eq_true _).mp f_1913]; simp
                rw [is_f hfk, sv_f (p := hsB τ sc hh) hfk, nI_1] at hl
                exact ih2 _ ls HS (lv_sub hl [0, 1, 4, 5, 6, 2, 7, 8, 9, 10, 11, 12, 13, 14, 15, 16, 17, 18, 19, 20, 21, 22, 23, 24, 25, 26, 27] rfl)
              · have f_1913 := bI_n0.mp c_1913
                refine lv_iconst (v := 1) hx hb dL_law_1916 (by decide) ?_
                refine lv_goto (tgt := 1921) hx hb dL_law_1917 (by decide) ?_
                refine lv_istore (lv' := [(27, .int 1), (26, .int (nI i)), (25, .int (bI (any1 (hsB τ sc hh) i = false))), (24, .int (nI hh)), (23, .int (-1)), (22, .int (nI on)), (21, .int ((if hh = q1 then mk (hsB τ sc hh) i else se))), (20, .int (nI (1 + q3))), (19, .int (nI q1)), (0, .ref b), (1, .ref (aa 0)), (2, .ref (aa 11)), (3, .ref (aa 12)), (4, .ref (aa 13)), (5, .ref (aa 14)), (6, .ref (aa 15)), (7, .ref (aa 16)), (8, .ref (aa 17)), (9, .int (nI t9)), (10, .int x9), (11, .int y9), (12, .int kd), (13, .int (nI sc)), (14, .int (nI la)), (15, .int (nI rk)), (16, .int (nI n9)), (17, .int (nI k9)), (18, .int (nI (7 * nl)))]) hx hb dL_law_1921 hl (by decide) rfl (fun ls hl => ?_)
                refine lv_iload hx hb dL_law_1923 (lv_at hl 6 rfl) ?_
                refine lv_iload hx hb dL_law_1925 (lv_at hl 0 rfl) ?_
                refine lv_if_eq (tgt := 1944) hx hb dL_law_1927 (by decide) (fun c_1927 => absurd c_1927 (by decide)) (fun c_1927 => ?_)
                refine lv_iload hx hb dL_law_1930 (lv_at hl 3 rfl) ?_
                refine lv_iload hx hb dL_law_1932 (lv_at hl 8 rfl) ?_
                refine lv_icmp_ne (tgt := 1944) hx hb dL_law_1934 (by decide) (fun c_1934 => ?_) (fun c_1934 => ?_)
                · refine lv_iconst (v := 0) hx hb dL_law_1944 (by decide) ?_
                  refine lv_ior hx hb dL_law_1945 ?_
                  refine lv_istore (lv' := [(21, .int (((if hh = q1 then mk (hsB τ sc hh) i else se) ||| 0))), (27, .int 1), (26, .int (nI i)), (25, .int (bI (any1 (hsB τ sc hh) i = false))), (24, .int (nI hh)), (23, .int (-1)), (22, .int (nI on)), (20, .int (nI (1 + q3))), (19, .int (nI q1)), (0, .ref b), (1, .ref (aa 0)), (2, .ref (aa 11)), (3, .ref (aa 12)), (4, .ref (aa 13)), (5, .ref (aa 14)), (6, .ref (aa 15)), (7, .ref (aa 16)), (8, .ref (aa 17)), (9, .int (nI t9)), (10, .int x9), (11, .int y9), (12, .int kd), (13, .int (nI sc)), (14, .int (nI la)), (15, .int (nI rk)), (16, .int (nI n9)), (17, .int (nI k9)), (18, .int (nI (7 * nl)))]) hx hb dL_law_1946 hl (by decide) rfl (fun ls hl => ?_)
                  refine lv_iload hx hb dL_law_1948 (lv_at hl 3 rfl) ?_
                  refine lv_iload hx hb dL_law_1950 (lv_at hl 1 rfl) ?_
                  refine lv_if_ne (tgt := 1959) hx hb dL_law_1952 (by decide) (fun c_1952 => ?_) (fun c_1952 => absurd c_1952 (by decide))
                  refine lv_iconst (v := 0) hx hb dL_law_1959 (by decide) ?_
                  refine lv_iand hx hb dL_law_1960 ?_
                  refine lv_istore (lv' := [(25, .int ((bI (any1 (hsB τ sc hh) i = false) &&& 0))), (21, .int (((if hh = q1 then mk (hsB τ sc hh) i else se) ||| 0))), (27, .int 1), (26, .int (nI i)), (24, .int (nI hh)), (23, .int (-1)), (22, .int (nI on)), (20, .int (nI (1 + q3))), (19, .int (nI q1)), (0, .ref b), (1, .ref (aa 0)), (2, .ref (aa 11)), (3, .ref (aa 12)), (4, .ref (aa 13)), (5, .ref (aa 14)), (6, .ref (aa 15)), (7, .ref (aa 16)), (8, .ref (aa 17)), (9, .int (nI t9)), (10, .int x9), (11, .int y9), (12, .int kd), (13, .int (nI sc)), (14, .int (nI la)), (15, .int (nI rk)), (16, .int (nI n9)), (17, .int (nI k9)), (18, .int (nI (7 * nl)))]) hx hb dL_law_1961 hl (by decide) rfl (fun ls hl => ?_)
                  refine lv_iinc (v := nI i + 1) (lv' := [(26, .int (nI i + 1)), (25, .int ((bI (any1 (hsB τ sc hh) i = false) &&& 0))), (21, .int (((if hh = q1 then mk (hsB τ sc hh) i else se) ||| 0))), (27, .int 1), (24, .int (nI hh)), (23, .int (-1)), (22, .int (nI on)), (20, .int (nI (1 + q3))), (19, .int (nI q1)), (0, .ref b), (1, .ref (aa 0)), (2, .ref (aa 11)), (3, .ref (aa 12)), (4, .ref (aa 13)), (5, .ref (aa 14)), (6, .ref (aa 15)), (7, .ref (aa 16)), (8, .ref (aa 17)), (9, .int (nI t9)), (10, .int x9), (11, .int y9), (12, .int kd), (13, .int (nI sc)), (14, .int (nI la)), (15, .int (nI rk)), (16, .int (nI n9)), (17, .int (nI k9)), (18, .int (nI (7 * nl)))]) hx hb dL_law_1963 hl (k := 3) rfl rfl (by decide) rfl (fun ls hl => ?_)
                  refine lv_goto (tgt := 1862) hx hb dL_law_1966 (by decide) ?_
                  have hfk : hsB τ sc hh i = true := by rw [hs_eq hcu (by omega), bI_1.mp c_1879, f_1898, f_1913]; rfl
                  rw [is_t hfk, sv_n (p := hsB τ sc hh) (nneq_of (n := q1) rfl c_1934), nI_1] at hl
                  exact ih2 _ ls HS (lv_sub hl [0, 1, 4, 5, 6, 2, 7, 8, 9, 10, 11, 12, 13, 14, 15, 16, 17, 18, 19, 20, 21, 22, 23, 24, 25, 26, 27] rfl)
                · refine lv_iconst (v := 1) hx hb dL_law_1937 (by decide) ?_
                  refine lv_iload hx hb dL_law_1938 (lv_at hl 1 rfl) ?_
                  refine lv_ishl hx hb dL_law_1940 ?_
                  refine lv_goto (tgt := 1945) hx hb dL_law_1941 (by decide) ?_
                  refine lv_ior hx hb dL_law_1945 ?_
                  refine lv_istore (lv' := [(21, .int (((if hh = q1 then mk (hsB τ sc hh) i else se) ||| (1 <<< (nI i &&& 31))))), (27, .int 1), (26, .int (nI i)), (25, .int (bI (any1 (hsB τ sc hh) i = false))), (24, .int (nI hh)), (23, .int (-1)), (22, .int (nI on)), (20, .int (nI (1 + q3))), (19, .int (nI q1)), (0, .ref b), (1, .ref (aa 0)), (2, .ref (aa 11)), (3, .ref (aa 12)), (4, .ref (aa 13)), (5, .ref (aa 14)), (6, .ref (aa 15)), (7, .ref (aa 16)), (8, .ref (aa 17)), (9, .int (nI t9)), (10, .int x9), (11, .int y9), (12, .int kd), (13, .int (nI sc)), (14, .int (nI la)), (15, .int (nI rk)), (16, .int (nI n9)), (17, .int (nI k9)), (18, .int (nI (7 * nl)))]) hx hb dL_law_1946 hl (by decide) rfl (fun ls hl => ?_)
                  refine lv_iload hx hb dL_law_1948 (lv_at hl 3 rfl) ?_
                  refine lv_iload hx hb dL_law_1950 (lv_at hl 1 rfl) ?_
                  refine lv_if_ne (tgt := 1959) hx hb dL_law_1952 (by decide) (fun c_1952 => ?_) (fun c_1952 => absurd c_1952 (by decide))
                  refine lv_iconst (v := 0) hx hb dL_law_1959 (by decide) ?_
                  refine lv_iand hx hb dL_law_1960 ?_
                  refine lv_istore (lv' := [(25, .int ((bI (any1 (hsB τ sc hh) i = false) &&& 0))), (21, .int (((if hh = q1 then mk (hsB τ sc hh) i else se) ||| (1 <<< (nI i &&& 31))))), (27, .int 1), (26, .int (nI i)), (24, .int (nI hh)), (23, .int (-1)), (22, .int (nI on)), (20, .int (nI (1 + q3))), (19, .int (nI q1)), (0, .ref b), (1, .ref (aa 0)), (2, .ref (aa 11)), (3, .ref (aa 12)), (4, .ref (aa 13)), (5, .ref (aa 14)), (6, .ref (aa 15)), (7, .ref (aa 16)), (8, .ref (aa 17)), (9, .int (nI t9)), (10, .int x9), (11, .int y9), (12, .int kd), (13, .int (nI sc)), (14, .int (nI la)), (15, .int (nI rk)), (16, .int (nI n9)), (17, .int (nI k9)), (18, .int (nI (7 * nl)))]) hx hb dL_law_1961 hl (by decide) rfl (fun ls hl => ?_)
                  refine lv_iinc (v := nI i + 1) (lv' := [(26, .int (nI i + 1)), (25, .int ((bI (any1 (hsB τ sc hh) i = false) &&& 0))), (21, .int (((if hh = q1 then mk (hsB τ sc hh) i else se) ||| (1 <<< (nI i &&& 31))))), (27, .int 1), (24, .int (nI hh)), (23, .int (-1)), (22, .int (nI on)), (20, .int (nI (1 + q3))), (19, .int (nI q1)), (0, .ref b), (1, .ref (aa 0)), (2, .ref (aa 11)), (3, .ref (aa 12)), (4, .ref (aa 13)), (5, .ref (aa 14)), (6, .ref (aa 15)), (7, .ref (aa 16)), (8, .ref (aa 17)), (9, .int (nI t9)), (10, .int x9), (11, .int y9), (12, .int kd), (13, .int (nI sc)), (14, .int (nI la)), (15, .int (nI rk)), (16, .int (nI n9)), (17, .int (nI k9)), (18, .int (nI (7 * nl)))]) hx hb dL_law_1963 hl (k := 3) rfl rfl (by decide) rfl (fun ls hl => ?_)
                  refine lv_goto (tgt := 1862) hx hb dL_law_1966 (by decide) ?_
                  have hfk : hsB τ sc hh i = true := by rw [hs_eq hcu (by omega), bI_1.mp c_1879, f_1898, f_1913]; rfl
                  rw [is_t hfk, sv_t hfk (neq_of (n := q1) rfl (by omega) (by omega) c_1934), nI_1] at hl
                  exact ih2 _ ls HS (lv_sub hl [0, 1, 4, 5, 6, 2, 7, 8, 9, 10, 11, 12, 13, 14, 15, 16, 17, 18, 19, 20, 21, 22, 23, 24, 25, 26, 27] rfl)
      exact lop2 0 (Nat.zero_le _) _ ls HS (lv_sub hl [0, 1, 2, 3, 4, 5, 6, 7, 8, 9, 10, 11, 12, 13, 14, 15, 16, 17, 18, 19, 20, 21, 22, 23, 24, 25, 26] (by rw [if_e hse0]; rfl))
  exact loop (672 - q1) q1 0 0 (by omega) (by omega) (by omega) hres (fun _ => rfl) (fun h9 => absurd rfl h9) _ ls HS (lv_sub hl [0, 1, 2, 3, 4, 5, 6, 7, 8, 9, 10, 11, 12, 13, 14, 15, 16, 17, 18, 19, 20, 21, 22, 23, 24] (by rfl))
