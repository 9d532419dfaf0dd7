theorem s1_eq (x : Int32) : x = x + 1 - 1 := by lia
theorem tz_scope {τ : Tau} {nw ns nl nc sc : Nat} (hI : Iv τ nw ns nl nc) (h8 : ns < 8) (hsc : sc < ns) : th_scope τ (nI sc) = 0 := by
  unfold th_scope
  rw [if_neg (fun h => h (ix_ok hI.2.1.1 (by omega) hsc)), if_neg (fun h => ?_)]
  rw [hI.2.1.1] at h
  have := (nI_eq (a := ns) (b := 16) (by omega) (by omega)).mp h
  omega
theorem tz_L {la : Nat} (hla : la < 4) : okL (nI la) := by
  have h := nI_b (n := la) (N := 3) (by omega) (by omega)
  exact h
theorem tz_offset {τ : Tau} {la q : Nat} (hla : la < 4) (hq : q < 24) : th_offset τ (nI la) (nI q - 11) = 0 := by
  have hb := nI_b (n := q) (N := 23) (by omega) (by omega)
  have h9 : nI 23 = 23 := rfl
  rw [h9] at hb
  unfold th_offset
  rw [if_neg (fun h => h (tz_L hla)), if_pos ⟨by lia, by lia⟩]
theorem tz_feast {τ : Tau} {la q : Nat} (hla : la < 4) (hq : q < 30) : th_feast τ (nI la) (nI q - 1) = 0 := by
  unfold th_feast
  rw [if_neg (fun h => h (tz_L hla)), if_pos ⟨(fd_law hla hq).1, (fd_law hla hq).2.1⟩]
theorem fe_01 {τ : Tau} {a d : Int32} (h : ¬ rt_feast τ a d = 1) : rt_feast τ a d = 0 := by
  unfold rt_feast at h ⊢
  rw [bI_1] at h
  exact bI_f h
theorem tz_R {rk : Nat} (h1 : 1 ≤ rk) (h2 : rk < 4) : 1 ≤ nI rk ∧ nI rk ≤ 3 := ⟨nI_le (a := 1) h1 (by omega), nI_le (b := 3) (by omega) (by omega)⟩
theorem tz_exc {τ : Tau} {rk q : Nat} (h1 : 1 ≤ rk) (h2 : rk < 4) (hq : q < 4) : th_exceptions τ (nI rk) (nI q) = 0 := by
  have hb := nI_b (n := q) (N := 3) (by omega) (by omega)
  have h9 : nI 3 = 3 := rfl
  rw [h9] at hb
  exact if_pos ⟨tz_R h1 h2, hb.1, by lia⟩
theorem tz_left {τ : Tau} {rk : Nat} (h1 : 1 ≤ rk) (h2 : rk < 4) : th_left τ (nI rk) = 0 := if_pos (tz_R h1 h2)
theorem rz_left {τ : Tau} {rk : Nat} {v : Int32} (h2 : rk < 4) : rt_left (nx_exceptions τ (nI rk) v) (nI rk) = v := by
  show upd (τ 18) (cx (nI rk)) v (cx (nI rk)) = v
  exact pk_us
theorem tz_pass {τ : Tau} {nw ns nl nc h : Nat} (hI : Iv τ nw ns nl nc) (h1 : 1 ≤ h) (h2 : h ≤ 100) (h3 : nw + h ≤ 671) : th_pass τ (nI h) = 0 := by
  unfold th_pass
  have e1 : 1 ≤ nI h ∧ nI h ≤ 100 := ⟨nI_le (a := 1) h1 (by omega), nI_le (b := 100) h2 (by omega)⟩
  rw [if_neg (fun h => h e1), if_neg]
  rw [hI.1.1, nI_add]
  exact nI_ge (b := 672) (by omega) (by omega)
theorem tf_pass {τ : Tau} {nw ns nl nc h : Nat} (hI : Iv τ nw ns nl nc) (h1 : 1 ≤ h) (h2 : h ≤ 100) (h3 : ¬ nw + h ≤ 671) : th_pass τ (nI h) = 2 := by
  unfold th_pass
  have e1 : 1 ≤ nI h ∧ nI h ≤ 100 := ⟨nI_le (a := 1) h1 (by omega), nI_le (b := 100) h2 (by omega)⟩
  have h9 := hI.1.2
  rw [if_neg (fun h => h e1), if_pos]
  rw [hI.1.1, nI_add]
  exact nI_le (a := 672) (by omega) (by omega)
theorem nle_of {x n : Nat} {y : Int32} (hy : y = nI n) (hx : x < 2 ^ 31) (hn : n < 2 ^ 31) (h : nI x ≤ y) : x ≤ n := by
  rw [hy] at h
  exact (nI_leI hx hn).mp h
theorem nnle_of {x n : Nat} {y : Int32} (hy : y = nI n) (hx : x < 2 ^ 31) (hn : n < 2 ^ 31) (h : ¬ nI x ≤ y) : ¬ x ≤ n := by
  rw [hy] at h
  exact fun h9 => h ((nI_leI hx hn).mpr h9)
theorem neq_of {x n : Nat} {y : Int32} (hy : y = nI n) (hx : x < 2 ^ 31) (hn : n < 2 ^ 31) (h : nI x = y) : x = n := by
  rw [hy] at h
  exact (nI_eq hx hn).mp h
theorem nneq_of {x n : Nat} {y : Int32} (hy : y = nI n) (h : ¬ nI x = y) : ¬ x = n := fun h9 => h (by rw [hy, h9])
set_option maxHeartbeats 4000000 in
set_option maxRecDepth 100000 in
theorem l_scope {p : Program} {l : Launch} (hl9 : l.stackTraces = false) {e : Env} {R : Room} {s : State} {m : MethodId} {args : Array Value} {below : List Frame} {meth : Method} {c : Code} {H : Heap} {locs : List Loc} {cells slots : Nat} {Q : State → Prop} {D : va_G} {ids : Nat → ClassId} {n0 b t9 : Nat} {aa : Nat → Nat} {τ : Tau} {nw ns nl nc : Nat} {A : Tau} (MC : ro_C p s m args meth c cL_law 28 "FrostCalendarLaw" D ids n0) (HS : va_S (fun q => n0 ≤ q) s.heap H locs) (hB : wB D ids n0 aa τ nw ns nl nc A H) (hO : wOk τ ns nl nc A) (hR : 11 ≤ R.frames ∧ 400 ≤ R.locals) {sc la rk n9 k9 : Nat} {x9 y9 kd : Int32} (hsc : sc < ns) (hla : la < 4) (hrk1 : 1 ≤ rk) (hrk : rk < 4) (hn9 : (nc = 0 ∧ n9 = 0) ∨ n9 < nc) (hk9 : (nl = 0 ∧ k9 = 0) ∨ k9 < nl) (hcl : cells + 400 ≤ R.cells) (hsl : slots + 2400 ≤ R.slots) {ls : Array Slot} (hl : lv_has ls 28 [(0, .ref b), (1, .ref (aa 0)), (2, .ref (aa 11)), (3, .ref (aa 12)), (4, .ref (aa 13)), (5, .ref (aa 14)), (6, .ref (aa 15)), (7, .ref (aa 16)), (8, .ref (aa 17)), (9, .int (nI t9)), (10, .int x9), (11, .int y9), (12, .int kd), (13, .int (nI sc)), (14, .int (nI la)), (15, .int (nI rk)), (16, .int (nI n9)), (17, .int (nI k9)), (18, .int (nI (7 * nl)))])
    (kk : ∀ (c9 s9 : Nat) (H1 : Heap) (locs1 : List Loc) (ls1 : Array Slot), c9 ≤ cells + 400 → s9 ≤ slots + 2400 → wI D ids n0 aa H1 → va_S (fun q => n0 ≤ q) s.heap H1 locs1 → lv_has ls1 28 (lL b aa t9) → W p l e R s m args below meth c H1 locs1 c9 s9 Q (F0 m 2092 ls1 [])) : W p l e R s m args below meth c H locs cells slots Q (F0 m 196 ls []) := by
  have hx := MC.1.1
  have hb := MC.1.2.1
  have hI := hB.1
  obtain ⟨⟨hns, hnl, hnc⟩, ⟨hg0, hg1, hg2, hg3⟩, hF, hC, hin, hof, hfe, hle⟩ := id hO
  refine lv_aload hx hb dL_law_196 (lv_at hl 8 rfl) ?_
  refine lv_iconst (v := 1) hx hb dL_law_198 (by decide) ?_
  refine wb_iald MC hB 6 (by decide) 1 (show 1 < 4 by omega) rfl (hg1.trans hI.2.1.1) dL_law_199 ?_
  refine lv_bipush (v := 8) hx hb dL_law_200 (by decide) ?_
  refine lv_icmp_ne (tgt := 208) hx hb dL_law_202 (by decide) (fun c_202 => ?_) (fun c_202 => ?_)
  · have h8 : ns < 8 := by have : ns ≠ 8 := fun e9 => c_202 (by rw [e9]; rfl); omega
    refine lv_aload hx hb dL_law_208 (lv_at hl 4 rfl) ?_
    refine lv_aload hx hb dL_law_210 (lv_at hl 8 rfl) ?_
    refine lv_iconst (v := 1) hx hb dL_law_212 (by decide) ?_
    refine wb_iald MC hB 6 (by decide) 1 (show 1 < 4 by omega) rfl (hg1.trans hI.2.1.1) dL_law_213 ?_
    refine lv_aload hx hb dL_law_214 (lv_at hl 4 rfl) ?_
    refine lv_iload hx hb dL_law_216 (lv_at hl 13 rfl) ?_
    refine wb_iald MC hB 2 (by decide) sc (show sc < 8 by omega) rfl rfl dL_law_218 ?_
    refine lv_iconst (v := 1) hx hb dL_law_219 (by decide) ?_
    refine lv_aload hx hb dL_law_220 (lv_at hl 8 rfl) ?_
    refine lv_iconst (v := 1) hx hb dL_law_222 (by decide) ?_
    refine wb_iald MC hB 6 (by decide) 1 (show 1 < 4 by omega) rfl (hg1.trans hI.2.1.1) dL_law_223 ?_
    refine lv_ishl hx hb dL_law_224 ?_
    refine lv_ior hx hb dL_law_225 ?_
    refine wb_iast MC hB HS 2 (by decide) ns (show ns < 8 by omega) rfl dL_law_226 (fun H1 lH1 hB HS => ?_)
    refine lv_aload hx hb dL_law_227 (lv_at hl 8 rfl) ?_
    refine lv_iconst (v := 1) hx hb dL_law_229 (by decide) ?_
    refine lv_dup2_11 hx hb dL_law_230 rfl rfl ?_
    refine wb_iald MC hB 6 (by decide) 1 (show 1 < 4 by omega) rfl ((congrFun (va_up_ne _ _ (by decide)) _).trans (hg1.trans hI.2.1.1)) dL_law_231 ?_
    refine lv_iconst (v := 1) hx hb dL_law_232 (by decide) ?_
    refine lv_iadd hx hb dL_law_233 ?_
    refine wb_iast MC hB HS 6 (by decide) 1 (show 1 < 4 by omega) rfl dL_law_234 (fun H2 lH2 hB HS => ?_)
    refine lv_aload_n hx hb dL_law_235 rfl (lv_at hl 1 rfl) ?_
    refine lv_iload hx hb dL_law_236 (lv_at hl 13 rfl) ?_
    refine wb_q MC HS hB (rest := []) (As := [.int (nI sc)]) (th := th_scope τ (nI sc)) (rt := rt_scope τ (nI sc)) (τ2 := (nx_scope τ (nI sc))) (fun RR ad cn hX => q_scope hl9 hX hB.1) (fun E9 H9 hp => by obtain ⟨-, hp⟩ := hp; rcases hp with h9 | h9 <;> exact absurd ((tz_scope hI h8 hsc).symm.trans h9.1) (by decide)) rfl lkL_87 kw96 kw97 ⟨rfl, rfl, Nat.le_of_ble_eq_true rfl, Nat.le_of_ble_eq_true rfl, Nat.le_of_ble_eq_true rfl⟩ hR hl.1 rfl (Nat.le_of_ble_eq_true rfl) dL_law_238 (by omega) (by omega) (fun nw8 ns8 nl8 nc8 H3 lH3 hB8 HS => ?_)
    have hB := hB8.at (n_scope hI)
    clear hB8
    rw [show rt_scope τ (nI sc) = nI ns from hI.2.1.1]
    refine lv_aload hx hb dL_law_241 (lv_at hl 8 rfl) ?_
    refine lv_iconst (v := 1) hx hb dL_law_243 (by decide) ?_
    refine wb_iald MC hB 6 (by decide) 1 (show 1 < 4 by omega) rfl ((congrFun (va_up_self ..) _).trans pk_us) dL_law_244 ?_
    refine lv_iconst (v := 1) hx hb dL_law_245 (by decide) ?_
    refine lv_isub hx hb dL_law_246 ?_
    refine lv_icmp_eq (tgt := 2040) hx hb dL_law_247 (by decide) (fun c_247 => ?_) (fun c_247 => absurd (s1_eq _) c_247)
    exact l_chk hl9 MC HS hB (ok_scope hI hO h8 hsc) hR (by omega) (by omega) (lv_sub hl [0, 1, 2, 3, 4, 5, 6, 7, 8, 9] rfl) (fun c9 s9 H1 locs1 ls1 h1 h2 => kk c9 s9 H1 locs1 ls1 (by omega) (by omega))
  · refine lv_goto (tgt := 2092) hx hb dL_law_205 (by decide) ?_
    exact kk _ _ _ _ ls (by omega) (by omega) ⟨_, _, _, _, _, _, hB, hO⟩ HS (lv_sub hl [0, 1, 2, 3, 4, 5, 6, 7, 8, 9] rfl)
set_option maxHeartbeats 4000000 in
set_option maxRecDepth 100000 in
theorem l_offset {p : Program} {l : Launch} (hl9 : l.stackTraces = false) {e : Env} {R : Room} {s : State} {m : MethodId} {args : Array Value} {below : List Frame} {meth : Method} {c : Code} {H : Heap} {locs : List Loc} {cells slots : Nat} {Q : State → Prop} {D : va_G} {ids : Nat → ClassId} {n0 b t9 : Nat} {aa : Nat → Nat} {τ : Tau} {nw ns nl nc : Nat} {A : Tau} (MC : ro_C p s m args meth c cL_law 28 "FrostCalendarLaw" D ids n0) (HS : va_S (fun q => n0 ≤ q) s.heap H locs) (hB : wB D ids n0 aa τ nw ns nl nc A H) (hO : wOk τ ns nl nc A) (hR : 11 ≤ R.frames ∧ 400 ≤ R.locals) {sc la rk n9 k9 : Nat} {x9 y9 kd : Int32} (hsc : sc < ns) (hla : la < 4) (hrk1 : 1 ≤ rk) (hrk : rk < 4) (hn9 : (nc = 0 ∧ n9 = 0) ∨ n9 < nc) (hk9 : (nl = 0 ∧ k9 = 0) ∨ k9 < nl) (hcl : cells + 400 ≤ R.cells) (hsl : slots + 2400 ≤ R.slots) {ls : Array Slot} (hl : lv_has ls 28 [(0, .ref b), (1, .ref (aa 0)), (2, .ref (aa 11)), (3, .ref (aa 12)), (4, .ref (aa 13)), (5, .ref (aa 14)), (6, .ref (aa 15)), (7, .ref (aa 16)), (8, .ref (aa 17)), (9, .int (nI t9)), (10, .int x9), (11, .int y9), (12, .int kd), (13, .int (nI sc)), (14, .int (nI la)), (15, .int (nI rk)), (16, .int (nI n9)), (17, .int (nI k9)), (18, .int (nI (7 * nl)))])
    (kk : ∀ (c9 s9 : Nat) (H1 : Heap) (locs1 : List Loc) (ls1 : Array Slot), c9 ≤ cells + 400 → s9 ≤ slots + 2400 → wI D ids n0 aa H1 → va_S (fun q => n0 ≤ q) s.heap H1 locs1 → lv_has ls1 28 (lL b aa t9) → W p l e R s m args below meth c H1 locs1 c9 s9 Q (F0 m 2092 ls1 [])) : W p l e R s m args below meth c H locs cells slots Q (F0 m 258 ls []) := by
  have hx := MC.1.1
  have hb := MC.1.2.1
  have hI := hB.1
  obtain ⟨⟨hns, hnl, hnc⟩, ⟨hg0, hg1, hg2, hg3⟩, hF, hC, hin, hof, hfe, hle⟩ := id hO
  refine lv_aload hx hb dL_law_258 (lv_at hl 5 rfl) ?_
  refine lv_iload hx hb dL_law_260 (lv_at hl 14 rfl) ?_
  refine wb_iald MC hB 3 (by decide) la (show la < 4 by omega) rfl (hof la hla) dL_law_262 ?_
  refine lv_istore (lv' := [(19, .int (τ 2 la)), (0, .ref b), (1, .ref (aa 0)), (2, .ref (aa 11)), (3, .ref (aa 12)), (4, .ref (aa 13)), (5, .ref (aa 14)), (6, .ref (aa 15)), (7, .ref (aa 16)), (8, .ref (aa 17)), (9, .int (nI t9)), (10, .int x9), (11, .int y9), (12, .int kd), (13, .int (nI sc)), (14, .int (nI la)), (15, .int (nI rk)), (16, .int (nI n9)), (17, .int (nI k9)), (18, .int (nI (7 * nl)))]) hx hb dL_law_263 hl (by decide) rfl (fun ls hl => ?_)
  refine lv_aload hx hb dL_law_265 (lv_at hl 6 rfl) ?_
  refine lv_iload hx hb dL_law_267 (lv_at hl 15 rfl) ?_
  refine lv_iload hx hb dL_law_269 (lv_at hl 12 rfl) ?_
  refine lv_bipush (v := 24) hx hb dL_law_271 (by decide) ?_
  refine wb_s MC HS (rest := [.int (nI la), .ref (aa 14)]) (As := [.int y9, .int 24]) (by rw [show 24 = nI (24) from rfl]; exact y_low D ids n0 y9 (by omega) (by omega)) lkL_84 kw505 ⟨rfl, rfl, Nat.le_of_ble_eq_true rfl, Nat.le_of_ble_eq_true rfl, Nat.le_of_ble_eq_true rfl⟩ hR hl.1 rfl (Nat.le_of_ble_eq_true rfl) dL_law_273 (by omega) (by omega) (fun v9 H2 lH2 hp HS => ?_)
  obtain ⟨q1, hq1, rfl, rfl⟩ := hp
  refine lv_bipush (v := 11) hx hb dL_law_276 (by decide) ?_
  refine lv_isub hx hb dL_law_278 ?_
  refine wb_iast MC hB HS 3 (by decide) la (show la < 4 by omega) rfl dL_law_279 (fun H3 lH3 hB HS => ?_)
  refine lv_aload_n hx hb dL_law_280 rfl (lv_at hl 2 rfl) ?_
  refine lv_iload hx hb dL_law_281 (lv_at hl 15 rfl) ?_
  refine lv_aload hx hb dL_law_283 (lv_at hl 6 rfl) ?_
  refine lv_iload hx hb dL_law_285 (lv_at hl 15 rfl) ?_
  refine wb_iald MC hB 3 (by decide) la (show la < 4 by omega) rfl ((congrFun (va_up_self ..) _).trans pk_us) dL_law_287 ?_
  refine wb_q MC HS hB (rest := []) (As := [.int (nI la), .int (nI q1 - 11)]) (th := th_offset τ (nI la) (nI q1 - 11)) (rt := rt_offset τ (nI la) (nI q1 - 11)) (τ2 := (nx_offset τ (nI la) (nI q1 - 11))) (fun RR ad cn hX => q_offset hl9 hX hB.1) (fun E9 H9 hp => by obtain ⟨-, hp⟩ := hp; rcases hp with h9 | h9 <;> exact absurd ((tz_offset hla hq1).symm.trans h9.1) (by decide)) rfl lkL_90 kw189 kw190 ⟨rfl, rfl, Nat.le_of_ble_eq_true rfl, Nat.le_of_ble_eq_true rfl, Nat.le_of_ble_eq_true rfl⟩ hR hl.1 rfl (Nat.le_of_ble_eq_true rfl) dL_law_288 (by omega) (by omega) (fun nw8 ns8 nl8 nc8 H4 lH4 hB8 HS => ?_)
  have hB := hB8.at (n_same hI rfl)
  clear hB8
  rw [show rt_offset τ (nI la) _ = τ 2 la by rw [rt_offset, cx_nI (by omega)]]
  refine lv_iload hx hb dL_law_291 (lv_at hl 0 rfl) ?_
  refine lv_icmp_eq (tgt := 298) hx hb dL_law_293 (by decide) (fun c_293 => ?_) (fun c_293 => absurd (rfl) c_293)
  refine lv_goto (tgt := 2040) hx hb dL_law_298 (by decide) ?_
  exact l_chk hl9 MC HS hB (ok_offset hO hla) hR (by omega) (by omega) (lv_sub hl [1, 2, 3, 4, 5, 6, 7, 8, 9, 10] rfl) (fun c9 s9 H1 locs1 ls1 h1 h2 => kk c9 s9 H1 locs1 ls1 (by omega) (by omega))
set_option maxHeartbeats 4000000 in
set_option maxRecDepth 100000 in
theorem l_feast {p : Program} {l : Launch} (hl9 : l.stackTraces = false) {e : Env} {R : Room} {s : State} {m : MethodId} {args : Array Value} {below : List Frame} {meth : Method} {c : Code} {H : Heap} {locs : List Loc} {cells slots : Nat} {Q : State → Prop} {D : va_G} {ids : Nat → ClassId} {n0 b t9 : Nat} {aa : Nat → Nat} {τ : Tau} {nw ns nl nc : Nat} {A : Tau} (MC : ro_C p s m args meth c cL_law 28 "FrostCalendarLaw" D ids n0) (HS : va_S (fun q => n0 ≤ q) s.heap H locs) (hB : wB D ids n0 aa τ nw ns nl nc A H) (hO : wOk τ ns nl nc A) (hR : 11 ≤ R.frames ∧ 400 ≤ R.locals) {sc la rk n9 k9 : Nat} {x9 y9 kd : Int32} (hsc : sc < ns) (hla : la < 4) (hrk1 : 1 ≤ rk) (hrk : rk < 4) (hn9 : (nc = 0 ∧ n9 = 0) ∨ n9 < nc) (hk9 : (nl = 0 ∧ k9 = 0) ∨ k9 < nl) (hcl : cells + 400 ≤ R.cells) (hsl : slots + 2400 ≤ R.slots) {ls : Array Slot} (hl : lv_has ls 28 [(0, .ref b), (1, .ref (aa 0)), (2, .ref (aa 11)), (3, .ref (aa 12)), (4, .ref (aa 13)), (5, .ref (aa 14)), (6, .ref (aa 15)), (7, .ref (aa 16)), (8, .ref (aa 17)), (9, .int (nI t9)), (10, .int x9), (11, .int y9), (12, .int kd), (13, .int (nI sc)), (14, .int (nI la)), (15, .int (nI rk)), (16, .int (nI n9)), (17, .int (nI k9)), (18, .int (nI (7 * nl)))])
    (kk : ∀ (c9 s9 : Nat) (H1 : Heap) (locs1 : List Loc) (ls1 : Array Slot), c9 ≤ cells + 400 → s9 ≤ slots + 2400 → wI D ids n0 aa H1 → va_S (fun q => n0 ≤ q) s.heap H1 locs1 → lv_has ls1 28 (lL b aa t9) → W p l e R s m args below meth c H1 locs1 c9 s9 Q (F0 m 2092 ls1 [])) : W p l e R s m args below meth c H locs cells slots Q (F0 m 307 ls []) := by
  have hx := MC.1.1
  have hb := MC.1.2.1
  have hI := hB.1
  obtain ⟨⟨hns, hnl, hnc⟩, ⟨hg0, hg1, hg2, hg3⟩, hF, hC, hin, hof, hfe, hle⟩ := id hO
  refine lv_iload hx hb dL_law_307 (lv_at hl 11 rfl) ?_
  refine lv_bipush (v := 30) hx hb dL_law_309 (by decide) ?_
  refine wb_s MC HS (rest := []) (As := [.int y9, .int 30]) (by rw [show 30 = nI (30) from rfl]; exact y_low D ids n0 y9 (by omega) (by omega)) lkL_84 kw505 ⟨rfl, rfl, Nat.le_of_ble_eq_true rfl, Nat.le_of_ble_eq_true rfl, Nat.le_of_ble_eq_true rfl⟩ hR hl.1 rfl (Nat.le_of_ble_eq_true rfl) dL_law_311 (by omega) (by omega) (fun v9 H2 lH2 hp HS => ?_)
  obtain ⟨q1, hq1, rfl, rfl⟩ := hp
  refine lv_istore (lv' := [(19, .int (nI q1)), (0, .ref b), (1, .ref (aa 0)), (2, .ref (aa 11)), (3, .ref (aa 12)), (4, .ref (aa 13)), (5, .ref (aa 14)), (6, .ref (aa 15)), (7, .ref (aa 16)), (8, .ref (aa 17)), (9, .int (nI t9)), (10, .int x9), (11, .int y9), (12, .int kd), (13, .int (nI sc)), (14, .int (nI la)), (15, .int (nI rk)), (16, .int (nI n9)), (17, .int (nI k9)), (18, .int (nI (7 * nl)))]) hx hb dL_law_314 hl (by decide) rfl (fun ls hl => ?_)
  refine lv_aload hx hb dL_law_316 (lv_at hl 7 rfl) ?_
  refine lv_iload hx hb dL_law_318 (lv_at hl 15 rfl) ?_
  refine lv_dup2_11 hx hb dL_law_320 rfl rfl ?_
  refine wb_iald MC hB 4 (by decide) la (show la < 4 by omega) rfl rfl dL_law_321 ?_
  refine lv_iconst (v := 1) hx hb dL_law_322 (by decide) ?_
  refine lv_iload hx hb dL_law_323 (lv_at hl 0 rfl) ?_
  refine lv_ishl hx hb dL_law_325 ?_
  refine lv_ixor hx hb dL_law_326 ?_
  refine wb_iast MC hB HS 4 (by decide) la (show la < 4 by omega) rfl dL_law_327 (fun H3 lH3 hB HS => ?_)
  refine lv_aload_n hx hb dL_law_328 rfl (lv_at hl 2 rfl) ?_
  refine lv_iload hx hb dL_law_329 (lv_at hl 15 rfl) ?_
  refine lv_iload hx hb dL_law_331 (lv_at hl 0 rfl) ?_
  refine lv_iconst (v := 1) hx hb dL_law_333 (by decide) ?_
  refine lv_isub hx hb dL_law_334 ?_
  refine wb_q MC HS hB (rest := []) (As := [.int (nI la), .int (nI q1 - 1)]) (th := th_feast τ (nI la) (nI q1 - 1)) (rt := rt_feast τ (nI la) (nI q1 - 1)) (τ2 := (nx_feast τ (nI la) (nI q1 - 1))) (fun RR ad cn hX => q_feast hl9 hX hB.1) (fun E9 H9 hp => by obtain ⟨-, hp⟩ := hp; rcases hp with h9 | h9 <;> exact absurd ((tz_feast hla hq1).symm.trans h9.1) (by decide)) rfl lkL_93 kw217 kw218 ⟨rfl, rfl, Nat.le_of_ble_eq_true rfl, Nat.le_of_ble_eq_true rfl, Nat.le_of_ble_eq_true rfl⟩ hR hl.1 rfl (Nat.le_of_ble_eq_true rfl) dL_law_335 (by omega) (by omega) (fun nw8 ns8 nl8 nc8 H4 lH4 hB8 HS => ?_)
  have hB := hB8.at (n_same hI rfl)
  clear hB8
  refine lv_aload hx hb dL_law_338 (lv_at hl 7 rfl) ?_
  refine lv_iload hx hb dL_law_340 (lv_at hl 15 rfl) ?_
  refine wb_iald MC hB 4 (by decide) la (show la < 4 by omega) rfl ((congrFun (va_up_self ..) _).trans pk_us) dL_law_342 ?_
  refine lv_iload hx hb dL_law_343 (lv_at hl 0 rfl) ?_
  refine lv_ishr hx hb dL_law_345 ?_
  refine lv_iconst (v := 1) hx hb dL_law_346 (by decide) ?_
  refine lv_iand hx hb dL_law_347 ?_
  refine lv_iconst (v := 1) hx hb dL_law_348 (by decide) ?_
  refine lv_icmp_ne (tgt := 356) hx hb dL_law_349 (by decide) (fun c_349 => ?_) (fun c_349 => ?_)
  · refine lv_iconst (v := 0) hx hb dL_law_356 (by decide) ?_
    refine lv_icmp_eq (tgt := 362) hx hb dL_law_357 (by decide) (fun c_357 => ?_) (fun c_357 => absurd (fe_01 (fun h9 => c_349 (bit_1.mpr ((fe_law hO hla hq1).trans (decide_eq_true h9))))) c_357)
    refine lv_goto (tgt := 2040) hx hb dL_law_362 (by decide) ?_
    exact l_chk hl9 MC HS hB (ok_feast hO hla hq1) hR (by omega) (by omega) (lv_sub hl [1, 2, 3, 4, 5, 6, 7, 8, 9, 10] rfl) (fun c9 s9 H1 locs1 ls1 h1 h2 => kk c9 s9 H1 locs1 ls1 (by omega) (by omega))
  · refine lv_iconst (v := 1) hx hb dL_law_352 (by decide) ?_
    refine lv_goto (tgt := 357) hx hb dL_law_353 (by decide) ?_
    refine lv_icmp_eq (tgt := 362) hx hb dL_law_357 (by decide) (fun c_357 => ?_) (fun c_357 => absurd (of_decide_eq_true ((fe_law hO hla hq1).symm.trans (bit_1.mp c_349))) c_357)
    refine lv_goto (tgt := 2040) hx hb dL_law_362 (by decide) ?_
    exact l_chk hl9 MC HS hB (ok_feast hO hla hq1) hR (by omega) (by omega) (lv_sub hl [1, 2, 3, 4, 5, 6, 7, 8, 9, 10] rfl) (fun c9 s9 H1 locs1 ls1 h1 h2 => kk c9 s9 H1 locs1 ls1 (by omega) (by omega))
set_option maxHeartbeats 4000000 in
set_option maxRecDepth 100000 in
theorem l_exceptions {p : Program} {l : Launch} (hl9 : l.stackTraces = false) {e : Env} {R : Room} {s : State} {m : MethodId} {args : Array Value} {below : List Frame} {meth : Method} {c : Code} {H : Heap} {locs : List Loc} {cells slots : Nat} {Q : State → Prop} {D : va_G} {ids : Nat → ClassId} {n0 b t9 : Nat} {aa : Nat → Nat} {τ : Tau} {nw ns nl nc : Nat} {A : Tau} (MC : ro_C p s m args meth c cL_law 28 "FrostCalendarLaw" D ids n0) (HS : va_S (fun q => n0 ≤ q) s.heap H locs) (hB : wB D ids n0 aa τ nw ns nl nc A H) (hO : wOk τ ns nl nc A) (hR : 11 ≤ R.frames ∧ 400 ≤ R.locals) {sc la rk n9 k9 : Nat} {x9 y9 kd : Int32} (hsc : sc < ns) (hla : la < 4) (hrk1 : 1 ≤ rk) (hrk : rk < 4) (hn9 : (nc = 0 ∧ n9 = 0) ∨ n9 < nc) (hk9 : (nl = 0 ∧ k9 = 0) ∨ k9 < nl) (hcl : cells + 400 ≤ R.cells) (hsl : slots + 2400 ≤ R.slots) {ls : Array Slot} (hl : lv_has ls 28 [(0, .ref b), (1, .ref (aa 0)), (2, .ref (aa 11)), (3, .ref (aa 12)), (4, .ref (aa 13)), (5, .ref (aa 14)), (6, .ref (aa 15)), (7, .ref (aa 16)), (8, .ref (aa 17)), (9, .int (nI t9)), (10, .int x9), (11, .int y9), (12, .int kd), (13, .int (nI sc)), (14, .int (nI la)), (15, .int (nI rk)), (16, .int (nI n9)), (17, .int (nI k9)), (18, .int (nI (7 * nl)))])
    (kk : ∀ (c9 s9 : Nat) (H1 : Heap) (locs1 : List Loc) (ls1 : Array Slot), c9 ≤ cells + 400 → s9 ≤ slots + 2400 → wI D ids n0 aa H1 → va_S (fun q => n0 ≤ q) s.heap H1 locs1 → lv_has ls1 28 (lL b aa t9) → W p l e R s m args below meth c H1 locs1 c9 s9 Q (F0 m 2092 ls1 [])) : W p l e R s m args below meth c H locs cells slots Q (F0 m 1251 ls []) := by
  have hx := MC.1.1
  have hb := MC.1.2.1
  have hI := hB.1
  obtain ⟨⟨hns, hnl, hnc⟩, ⟨hg0, hg1, hg2, hg3⟩, hF, hC, hin, hof, hfe, hle⟩ := id hO
  refine lv_iload hx hb dL_law_1251 (lv_at hl 11 rfl) ?_
  refine lv_iconst (v := 4) hx hb dL_law_1253 (by decide) ?_
  refine wb_s MC HS (rest := []) (As := [.int y9, .int 4]) (by rw [show 4 = nI (4) from rfl]; exact y_low D ids n0 y9 (by omega) (by omega)) lkL_84 kw505 ⟨rfl, rfl, Nat.le_of_ble_eq_true rfl, Nat.le_of_ble_eq_true rfl, Nat.le_of_ble_eq_true rfl⟩ hR hl.1 rfl (Nat.le_of_ble_eq_true rfl) dL_law_1254 (by omega) (by omega) (fun v9 H2 lH2 hp HS => ?_)
  obtain ⟨q1, hq1, rfl, rfl⟩ := hp
  refine lv_istore (lv' := [(19, .int (nI q1)), (0, .ref b), (1, .ref (aa 0)), (2, .ref (aa 11)), (3, .ref (aa 12)), (4, .ref (aa 13)), (5, .ref (aa 14)), (6, .ref (aa 15)), (7, .ref (aa 16)), (8, .ref (aa 17)), (9, .int (nI t9)), (10, .int x9), (11, .int y9), (12, .int kd), (13, .int (nI sc)), (14, .int (nI la)), (15, .int (nI rk)), (16, .int (nI n9)), (17, .int (nI k9)), (18, .int (nI (7 * nl)))]) hx hb dL_law_1257 hl (by decide) rfl (fun ls hl => ?_)
  refine lv_aload hx hb dL_law_1259 (lv_at hl 8 rfl) ?_
  refine lv_iload hx hb dL_law_1261 (lv_at hl 16 rfl) ?_
  refine wb_iald MC hB 5 (by decide) rk (show rk < 4 by omega) rfl (hle rk hrk1 hrk) dL_law_1263 ?_
  refine lv_istore (lv' := [(20, .int (τ 18 rk)), (19, .int (nI q1)), (0, .ref b), (1, .ref (aa 0)), (2, .ref (aa 11)), (3, .ref (aa 12)), (4, .ref (aa 13)), (5, .ref (aa 14)), (6, .ref (aa 15)), (7, .ref (aa 16)), (8, .ref (aa 17)), (9, .int (nI t9)), (10, .int x9), (11, .int y9), (12, .int kd), (13, .int (nI sc)), (14, .int (nI la)), (15, .int (nI rk)), (16, .int (nI n9)), (17, .int (nI k9)), (18, .int (nI (7 * nl)))]) hx hb dL_law_1264 hl (by decide) rfl (fun ls hl => ?_)
  refine lv_aload hx hb dL_law_1266 (lv_at hl 9 rfl) ?_
  refine lv_iload hx hb dL_law_1268 (lv_at hl 17 rfl) ?_
  refine lv_iload hx hb dL_law_1270 (lv_at hl 1 rfl) ?_
  refine wb_iast MC hB HS 5 (by decide) rk (show rk < 4 by omega) rfl dL_law_1272 (fun H3 lH3 hB HS => ?_)
  refine lv_aload_n hx hb dL_law_1273 rfl (lv_at hl 3 rfl) ?_
  refine lv_iload hx hb dL_law_1274 (lv_at hl 17 rfl) ?_
  refine lv_iload hx hb dL_law_1276 (lv_at hl 1 rfl) ?_
  refine wb_q MC HS hB (rest := []) (As := [.int (nI rk), .int (nI q1)]) (th := th_exceptions τ (nI rk) (nI q1)) (rt := rt_exceptions τ (nI rk) (nI q1)) (τ2 := (nx_exceptions τ (nI rk) (nI q1))) (fun RR ad cn hX => q_exceptions hl9 hX hB.1) (fun E9 H9 hp => by obtain ⟨-, hp⟩ := hp; exact absurd ((tz_exc hrk1 hrk hq1).symm.trans hp.1) (by decide)) rfl lkL_116 kw481 kw482 ⟨rfl, rfl, Nat.le_of_ble_eq_true rfl, Nat.le_of_ble_eq_true rfl, Nat.le_of_ble_eq_true rfl⟩ hR hl.1 rfl (Nat.le_of_ble_eq_true rfl) dL_law_1278 (by omega) (by omega) (fun nw8 ns8 nl8 nc8 H4 lH4 hB8 HS => ?_)
  have hB := hB8.at (n_same hI rfl)
  clear hB8
  rw [show rt_exceptions τ (nI rk) _ = τ 18 rk by rw [rt_exceptions, cx_nI (by omega)]]
  refine lv_iload hx hb dL_law_1281 (lv_at hl 0 rfl) ?_
  refine lv_icmp_ne (tgt := 1297) hx hb dL_law_1283 (by decide) (fun c_1283 => absurd (rfl) c_1283) (fun c_1283 => ?_)
  refine lv_aload_n hx hb dL_law_1286 rfl (lv_at hl 3 rfl) ?_
  refine lv_iload hx hb dL_law_1287 (lv_at hl 17 rfl) ?_
  refine wb_q MC HS hB (rest := []) (As := [.int (nI rk)]) (th := th_left (nx_exceptions τ (nI rk) (nI q1)) (nI rk)) (rt := rt_left (nx_exceptions τ (nI rk) (nI q1)) (nI rk)) (τ2 := (nx_exceptions τ (nI rk) (nI q1))) (fun RR ad cn hX => q_left hl9 hX hB.1) (fun E9 H9 hp => by obtain ⟨-, hp⟩ := hp; exact absurd ((tz_left hrk1 hrk).symm.trans hp.1) (by decide)) rfl lkL_119 kw485 kw486 ⟨rfl, rfl, Nat.le_of_ble_eq_true rfl, Nat.le_of_ble_eq_true rfl, Nat.le_of_ble_eq_true rfl⟩ hR hl.1 rfl (Nat.le_of_ble_eq_true rfl) dL_law_1289 (by omega) (by omega) (fun nw8 ns8 nl8 nc8 H5 lH5 hB8 HS => ?_)
  have hB := hB8.at hB.1.iN
  clear hB8
  rw [rz_left hrk]
  refine lv_iload hx hb dL_law_1292 (lv_at hl 1 rfl) ?_
  refine lv_icmp_eq (tgt := 1299) hx hb dL_law_1294 (by decide) (fun c_1294 => ?_) (fun c_1294 => absurd (rfl) c_1294)
  refine lv_goto (tgt := 2040) hx hb dL_law_1299 (by decide) ?_
  exact l_chk hl9 MC HS hB (ok_exceptions hO hrk) hR (by omega) (by omega) (lv_sub hl [2, 3, 4, 5, 6, 7, 8, 9, 10, 11] rfl) (fun c9 s9 H1 locs1 ls1 h1 h2 => kk c9 s9 H1 locs1 ls1 (by omega) (by omega))
set_option maxHeartbeats 4000000 in
set_option maxRecDepth 100000 in
theorem l_pass {p : Program} {l : Launch} (hl9 : l.stackTraces = false) {e : Env} {R : Room} {s : State} {m : MethodId} {args : Array Value} {below : List Frame} {meth : Method} {c : Code} {H : Heap} {locs : List Loc} {cells slots : Nat} {Q : State → Prop} {D : va_G} {ids : Nat → ClassId} {n0 b t9 : Nat} {aa : Nat → Nat} {τ : Tau} {nw ns nl nc : Nat} {A : Tau} (MC : ro_C p s m args meth c cL_law 28 "FrostCalendarLaw" D ids n0) (HS : va_S (fun q => n0 ≤ q) s.heap H locs) (hB : wB D ids n0 aa τ nw ns nl nc A H) (hO : wOk τ ns nl nc A) (hR : 11 ≤ R.frames ∧ 400 ≤ R.locals) {sc la rk n9 k9 : Nat} {x9 y9 kd : Int32} (hsc : sc < ns) (hla : la < 4) (hrk1 : 1 ≤ rk) (hrk : rk < 4) (hn9 : (nc = 0 ∧ n9 = 0) ∨ n9 < nc) (hk9 : (nl = 0 ∧ k9 = 0) ∨ k9 < nl) (hcl : cells + 400 ≤ R.cells) (hsl : slots + 2400 ≤ R.slots) {ls : Array Slot} (hl : lv_has ls 28 [(0, .ref b), (1, .ref (aa 0)), (2, .ref (aa 11)), (3, .ref (aa 12)), (4, .ref (aa 13)), (5, .ref (aa 14)), (6, .ref (aa 15)), (7, .ref (aa 16)), (8, .ref (aa 17)), (9, .int (nI t9)), (10, .int x9), (11, .int y9), (12, .int kd), (13, .int (nI sc)), (14, .int (nI la)), (15, .int (nI rk)), (16, .int (nI n9)), (17, .int (nI k9)), (18, .int (nI (7 * nl)))])
    (kk : ∀ (c9 s9 : Nat) (H1 : Heap) (locs1 : List Loc) (ls1 : Array Slot), c9 ≤ cells + 400 → s9 ≤ slots + 2400 → wI D ids n0 aa H1 → va_S (fun q => n0 ≤ q) s.heap H1 locs1 → lv_has ls1 28 (lL b aa t9) → W p l e R s m args below meth c H1 locs1 c9 s9 Q (F0 m 2092 ls1 [])) : W p l e R s m args below meth c H locs cells slots Q (F0 m 1741 ls []) := by
  have hx := MC.1.1
  have hb := MC.1.2.1
  have hI := hB.1
  obtain ⟨⟨hns, hnl, hnc⟩, ⟨hg0, hg1, hg2, hg3⟩, hF, hC, hin, hof, hfe, hle⟩ := id hO
  refine lv_iconst (v := 1) hx hb dL_law_1741 (by decide) ?_
  refine lv_iload hx hb dL_law_1742 (lv_at hl 11 rfl) ?_
  refine lv_bipush (v := 30) hx hb dL_law_1744 (by decide) ?_
  refine wb_s MC HS (rest := [.int 1]) (As := [.int y9, .int 30]) (by rw [show 30 = nI (30) from rfl]; exact y_low D ids n0 y9 (by omega) (by omega)) lkL_84 kw505 ⟨rfl, rfl, Nat.le_of_ble_eq_true rfl, Nat.le_of_ble_eq_true rfl, Nat.le_of_ble_eq_true rfl⟩ hR hl.1 rfl (Nat.le_of_ble_eq_true rfl) dL_law_1746 (by omega) (by omega) (fun v9 H2 lH2 hp HS => ?_)
  obtain ⟨q1, hq1, rfl, rfl⟩ := hp
  refine lv_iadd hx hb dL_law_1749 ?_
  rw [show (1 + nI q1) = nI (1 + q1) from (ix_add rfl rfl)]
  refine lv_istore (lv' := [(19, .int (nI (1 + q1))), (0, .ref b), (1, .ref (aa 0)), (2, .ref (aa 11)), (3, .ref (aa 12)), (4, .ref (aa 13)), (5, .ref (aa 14)), (6, .ref (aa 15)), (7, .ref (aa 16)), (8, .ref (aa 17)), (9, .int (nI t9)), (10, .int x9), (11, .int y9), (12, .int kd), (13, .int (nI sc)), (14, .int (nI la)), (15, .int (nI rk)), (16, .int (nI n9)), (17, .int (nI k9)), (18, .int (nI (7 * nl)))]) hx hb dL_law_1750 hl (by decide) rfl (fun ls hl => ?_)
  refine lv_aload hx hb dL_law_1752 (lv_at hl 9 rfl) ?_
  refine lv_iconst (v := 0) hx hb dL_law_1754 (by decide) ?_
  refine wb_iald MC hB 6 (by decide) 0 (show 0 < 4 by omega) rfl (hg0.trans hI.1.1) dL_law_1755 ?_
  refine lv_iload hx hb dL_law_1756 (lv_at hl 0 rfl) ?_
  refine lv_iadd hx hb dL_law_1758 ?_
  rw [show (nI nw + nI (1 + q1)) = nI (nw + (1 + q1)) from (ix_add rfl rfl)]
  refine lv_sipush (v := 671) hx hb dL_law_1759 (by decide) ?_
  refine lv_icmp_le (tgt := 1779) hx hb dL_law_1762 (by decide) (fun c_1762 => ?_) (fun c_1762 => ?_)
  · have hp9 : nw + (1 + q1) ≤ 671 := nle_of rfl (by have := hI.1.2; omega) (by omega) c_1762
    refine lv_aload hx hb dL_law_1779 (lv_at hl 9 rfl) ?_
    refine lv_iconst (v := 0) hx hb dL_law_1781 (by decide) ?_
    refine lv_dup2_11 hx hb dL_law_1782 rfl rfl ?_
    refine wb_iald MC hB 6 (by decide) 0 (show 0 < 4 by omega) rfl (hg0.trans hI.1.1) dL_law_1783 ?_
    refine lv_iload hx hb dL_law_1784 (lv_at hl 0 rfl) ?_
    refine lv_iadd hx hb dL_law_1786 ?_
    refine wb_iast MC hB HS 6 (by decide) 0 (show 0 < 4 by omega) rfl dL_law_1787 (fun H3 lH3 hB HS => ?_)
    refine lv_aload_n hx hb dL_law_1788 rfl (lv_at hl 2 rfl) ?_
    refine lv_iload hx hb dL_law_1789 (lv_at hl 0 rfl) ?_
    refine wb_q MC HS hB (rest := []) (As := [.int (nI (1 + q1))]) (th := th_pass τ (nI (1 + q1))) (rt := rt_pass τ (nI (1 + q1))) (τ2 := (nx_pass τ (nI (1 + q1)))) (fun RR ad cn hX => q_pass hl9 hX hB.1) (fun E9 H9 hp => by obtain ⟨-, hp⟩ := hp; rcases hp with h9 | h9 <;> exact absurd ((tz_pass hI (by omega) (by omega) hp9).symm.trans h9.1) (by decide)) rfl lkL_43 kw232 kw233 ⟨rfl, rfl, Nat.le_of_ble_eq_true rfl, Nat.le_of_ble_eq_true rfl, Nat.le_of_ble_eq_true rfl⟩ hR hl.1 rfl (Nat.le_of_ble_eq_true rfl) dL_law_1791 (by omega) (by omega) (fun nw8 ns8 nl8 nc8 H4 lH4 hB8 HS => ?_)
    have hB := hB8.at (n_pass hI (by omega))
    clear hB8
    rw [show rt_pass τ (nI (1 + q1)) = nI nw + nI (1 + q1) by rw [rt_pass, hI.1.1]]
    refine lv_aload hx hb dL_law_1794 (lv_at hl 9 rfl) ?_
    refine lv_iconst (v := 0) hx hb dL_law_1796 (by decide) ?_
    refine wb_iald MC hB 6 (by decide) 0 (show 0 < 4 by omega) rfl ((congrFun (va_up_self ..) _).trans pk_us) dL_law_1797 ?_
    refine lv_icmp_eq (tgt := 1803) hx hb dL_law_1798 (by decide) (fun c_1798 => ?_) (fun c_1798 => absurd (rfl) c_1798)
    refine lv_goto (tgt := 2040) hx hb dL_law_1803 (by decide) ?_
    exact l_chk hl9 MC HS hB (ok_pass hI hO) hR (by omega) (by omega) (lv_sub hl [1, 2, 3, 4, 5, 6, 7, 8, 9, 10] rfl) (fun c9 s9 H1 locs1 ls1 h1 h2 => kk c9 s9 H1 locs1 ls1 (by omega) (by omega))
  · have hp9 : ¬ nw + (1 + q1) ≤ 671 := nnle_of rfl (by have := hI.1.2; omega) (by omega) c_1762
    have htf := tf_pass hI (h := 1 + q1) (by omega) (by omega) hp9
    refine lv_aload_n hx hb dL_law_1765 rfl (lv_at hl 2 rfl) ?_
    refine lv_iconst (v := 5) hx hb dL_law_1766 (by decide) ?_
    refine lv_iload hx hb dL_law_1767 (lv_at hl 0 rfl) ?_
    refine lv_iconst (v := 0) hx hb dL_law_1769 (by decide) ?_
    refine wb_r MC HS (rest := []) (r_pass hl9 hB (a9 := nI (1 + q1)) (b9 := 0) (by rw [htf]; decide)) lwr hR hl.1 (Nat.le_of_ble_eq_true rfl) dL_law_1770 (by omega) (by omega) (fun H5 lH5 hB HS => ?_)
    refine lv_iconst (v := 4) hx hb dL_law_1773 (by decide) ?_
    refine lv_icmp_eq (tgt := 2092) hx hb dL_law_1774 (by decide) (fun c_1774 => ?_) (fun c_1774 => absurd (by rw [htf]; rfl) c_1774)
    exact kk _ _ _ _ ls (by omega) (by omega) ⟨_, _, _, _, _, _, hB, hO⟩ HS (lv_sub hl [1, 2, 3, 4, 5, 6, 7, 8, 9, 10] rfl)
