theorem tf_exc2 {τ : Tau} {nw ns nl nc n k : Nat} (hI : Iv τ nw ns nl nc) (hn : n < nc) (hk : k < nl) (h : ¬ τ 4 k = 0) : th_excuse τ (nI n) (nI k) = 2 := by
  unfold th_excuse
  rw [if_neg (fun h9 => h9 (tz_C hI hn)), if_pos (tf_lift0 hI (by have := hI.2.2.1.2; omega) (fun h9 => h h9.2))]
theorem tc_k {τ : Tau} {nw ns nl nc k : Nat} (hI : Iv τ nw ns nl nc) (hk : k < nl) : cx (nI k) = k := cx_nI (by have := hI.2.2.1.2; omega)
theorem ag_iff {τ : Tau} {n k : Nat} : agB τ n k = true ↔ tch τ k n = true ∧ (τ 16 n >>> (nI k &&& 31)) &&& 1 = 0 := by
  unfold agB exB
  rcases an1 (τ 16 n >>> (nI k &&& 31)) with h | h
  · rw [h]; simp
  · rw [h]; simp
theorem tf_exc3 {τ : Tau} {nw ns nl nc n k : Nat} (hI : Iv τ nw ns nl nc) (hn : n < nc) (hk : k < nl) (h4 : τ 4 k = 0) (h : ¬ agB τ n k = true) : th_excuse τ (nI n) (nI k) = 3 := by
  unfold th_excuse
  rw [if_neg (fun h9 => h9 (tz_C hI hn)), if_neg (fun h9 => h9 (tz_F hI hk h4)), tc_n hI hn, tc_k hI hk, if_neg (fun h9 => h (ag_iff.mpr ⟨h9.1, h9.2.1⟩))]
theorem tf_exc4 {τ : Tau} {nw ns nl nc n k sp : Nat} (hI : Iv τ nw ns nl nc) (hn : n < nc) (hk : k < nl) (h4 : τ 4 k = 0) (hsp : rkx τ k = sp) (h : sp = 4) : th_excuse τ (nI n) (nI k) = 3 := by
  unfold th_excuse
  rw [if_neg (fun h9 => h9 (tz_C hI hn)), if_neg (fun h9 => h9 (tz_F hI hk h4)), tc_n hI hn, tc_k hI hk, if_neg (fun h9 => absurd h9.2.2 (by rw [hsp, h]; decide))]
theorem tz_exc3 {τ : Tau} {nw ns nl nc n k sp : Nat} (hI : Iv τ nw ns nl nc) (hn : n < nc) (hk : k < nl) (h4 : τ 4 k = 0) (hsp : rkx τ k = sp) (h : sp < 4) (hag : agB τ n k = true) : th_excuse τ (nI n) (nI k) = 0 := by
  unfold th_excuse
  rw [if_neg (fun h9 => h9 (tz_C hI hn)), if_neg (fun h9 => h9 (tz_F hI hk h4)), tc_n hI hn, tc_k hI hk, if_pos ⟨(ag_iff.mp hag).1, (ag_iff.mp hag).2, by rw [hsp]; exact h⟩]
theorem rz_exc {τ : Tau} {nw ns nl nc n k sp : Nat} (hI : Iv τ nw ns nl nc) (hk : k < nl) (hsp : rkx τ k = sp) : rt_excuse τ (nI n) (nI k) = nI sp := by rw [rt_excuse, tc_k hI hk, hsp]
theorem n_exc {τ : Tau} {nw ns nl nc : Nat} (hI : Iv τ nw ns nl nc) {c k : Int32} : iN (nx_excuse τ c k) nw ns nl nc := n_same hI rfl
theorem rkS_go {ex : Nat → Int32} {m r : Nat} (h1 : r < 4) (h : ex r = 0) : rkS ex (m + 1) r = rkS ex m (r + 1) := by rw [rkS, if_pos ⟨h1, h⟩]
theorem rkS_st {ex : Nat → Int32} {m r : Nat} (h : ¬ (r < 4 ∧ ex r = 0)) : rkS ex m r = r := by
  cases m with
  | zero => rfl
  | succ m => rw [rkS, if_neg h]
theorem tf_begin {τ : Tau} {nw ns nl nc n : Nat} (hI : Iv τ nw ns nl nc) (hn : n < nc) (h : ¬ ((τ 17 n = -1 ∧ τ 0 0 = τ 12 n ∧ τ 15 n = τ 14 n) ∧ badN τ n = 0)) : th_begin τ (nI n) = 2 := by
  unfold th_begin
  rw [if_neg (fun h9 => h9 (tz_C hI hn)), tc_n hI hn, if_neg h]
theorem tz_begin {τ : Tau} {nw ns nl nc n : Nat} (hI : Iv τ nw ns nl nc) (hn : n < nc) (h : (τ 17 n = -1 ∧ τ 0 0 = τ 12 n ∧ τ 15 n = τ 14 n) ∧ badN τ n = 0) : th_begin τ (nI n) = 0 := by
  unfold th_begin
  rw [if_neg (fun h9 => h9 (tz_C hI hn)), tc_n hI hn, if_pos h]
theorem badN_le {τ : Tau} {n n7 : Nat} (h : τ 13 n = nI n7) (hn : n7 ≤ 100) : badN τ n ≤ 100 := by
  unfold badN
  rw [h, cx_nI (by omega)]
  exact Nat.le_trans (ct_le _ _) hn
set_option maxHeartbeats 4000000 in
set_option maxRecDepth 100000 in
theorem l_excuse {p : Program} {l : Launch} (hl9 : l.stackTraces = false) {e : Env} {R : Room} {s : State} {m : MethodId} {args : Array Value} {below : List Frame} {meth : Method} {c : Code} {H : Heap} {locs : List Loc} {cells slots : Nat} {Q : State → Prop} {D : va_G} {ids : Nat → ClassId} {n0 b t9 : Nat} {aa : Nat → Nat} {τ : Tau} {nw ns nl nc : Nat} {A : Tau} (MC : ro_C p s m args meth c cL_law 28 "FrostCalendarLaw" D ids n0) (HS : va_S (fun q => n0 ≤ q) s.heap H locs) (hB : wB D ids n0 aa τ nw ns nl nc A H) (hO : wOk τ ns nl nc A) (hR : 11 ≤ R.frames ∧ 400 ≤ R.locals) {sc la rk n9 k9 : Nat} {x9 y9 kd : Int32} (hsc : sc < ns) (hla : la < 4) (hrk1 : 1 ≤ rk) (hrk : rk < 4) (hn9 : (nc = 0 ∧ n9 = 0) ∨ n9 < nc) (hk9 : (nl = 0 ∧ k9 = 0) ∨ k9 < nl) (hcl : cells + 400 ≤ R.cells) (hsl : slots + 2400 ≤ R.slots) {ls : Array Slot} (hl : lv_has ls 28 [(0, .ref b), (1, .ref (aa 0)), (2, .ref (aa 11)), (3, .ref (aa 12)), (4, .ref (aa 13)), (5, .ref (aa 14)), (6, .ref (aa 15)), (7, .ref (aa 16)), (8, .ref (aa 17)), (9, .int (nI t9)), (10, .int x9), (11, .int y9), (12, .int kd), (13, .int (nI sc)), (14, .int (nI la)), (15, .int (nI rk)), (16, .int (nI n9)), (17, .int (nI k9)), (18, .int (nI (7 * nl)))])
    (kk : ∀ (c9 s9 : Nat) (H1 : Heap) (locs1 : List Loc) (ls1 : Array Slot), c9 ≤ cells + 400 → s9 ≤ slots + 2400 → wI D ids n0 aa H1 → va_S (fun q => n0 ≤ q) s.heap H1 locs1 → lv_has ls1 28 (lL b aa t9) → W p l e R s m args below meth c H1 locs1 c9 s9 Q (F0 m 2092 ls1 [])) : W p l e R s m args below meth c H locs cells slots Q (F0 m 1309 ls []) := by
  have hx := MC.1.1
  have hb := MC.1.2.1
  have hI := hB.1
  obtain ⟨⟨hns, hnl, hnc⟩, ⟨hg0, hg1, hg2, hg3⟩, hF, hC, hin, hof, hfe, hle⟩ := id hO
  refine lv_aload hx hb dL_law_1309 (lv_at hl 8 rfl) ?_
  refine lv_iconst (v := 3) hx hb dL_law_1311 (by decide) ?_
  refine wb_iald MC hB 6 (by decide) 3 (show 3 < 4 by omega) rfl (hg3.trans hI.2.2.2.1.1) dL_law_1312 ?_
  refine lv_if_eq (tgt := 2092) hx hb dL_law_1313 (by decide) (fun c_1313 => ?_) (fun c_1313 => ?_)
  · exact kk _ _ _ _ ls (by omega) (by omega) ⟨_, _, _, _, _, _, hB, hO⟩ HS (lv_sub hl [0, 1, 2, 3, 4, 5, 6, 7, 8, 9] rfl)
  · have h0 : ¬ nc = 0 := nneq_of (n := 0) rfl c_1313
    have hn : n9 < nc := by omega
    obtain ⟨-, ⟨b7, n7, hb7, hn7, h1n, hn1, hbn⟩, h14, h15, h17⟩ := hI.2.2.2.2.2.2.2.2.2.2.1 n9 hn
    refine lv_aload hx hb dL_law_1316 (lv_at hl 8 rfl) ?_
    refine lv_iconst (v := 2) hx hb dL_law_1318 (by decide) ?_
    refine wb_iald MC hB 6 (by decide) 2 (show 2 < 4 by omega) rfl (hg2.trans hI.2.2.1.1) dL_law_1319 ?_
    refine lv_if_ne (tgt := 1326) hx hb dL_law_1320 (by decide) (fun c_1320 => ?_) (fun c_1320 => ?_)
    · have h00 : ¬ nl = 0 := nneq_of (n := 0) rfl c_1320
      have hk : k9 < nl := by omega
      obtain ⟨-, -, -, r9, hr1, hr3, hr9⟩ := hI.2.2.2.2.2.2.2.2.2.1 k9 hk
      obtain ⟨sp, hsp⟩ : ∃ sp, rkS (τ 18) 4 r9 = sp := ⟨_, rfl⟩
      have hspx : rkx τ k9 = sp := by rw [← hsp, rkx, hr9, cx_nI (by omega)]
      have hsp1 := (rkS_le (τ 18) 4 r9 (by omega)).1
      have hsp4 := (rkS_le (τ 18) 4 r9 (by omega)).2
      rw [hsp] at hsp1 hsp4
      refine lv_aload_n hx hb dL_law_1326 rfl (lv_at hl 2 rfl) ?_
      refine lv_bipush (v := 7) hx hb dL_law_1327 (by decide) ?_
      refine lv_iload hx hb dL_law_1329 (lv_at hl 17 rfl) ?_
      refine lv_imul hx hb dL_law_1331 ?_
      refine lv_bipush (v := 6) hx hb dL_law_1332 (by decide) ?_
      refine lv_iadd hx hb dL_law_1334 ?_
      refine wb_iald MC hB 0 (by decide) (7 * k9 + 6) (show 7 * k9 + 6 < 42 by omega) (ix_add (ix_mul rfl rfl) rfl) ((hF k9 hk).2.2.2.2.2.1.trans hr9) dL_law_1335 ?_
      refine lv_istore (lv' := [(19, .int (nI r9)), (0, .ref b), (1, .ref (aa 0)), (2, .ref (aa 11)), (3, .ref (aa 12)), (4, .ref (aa 13)), (5, .ref (aa 14)), (6, .ref (aa 15)), (7, .ref (aa 16)), (8, .ref (aa 17)), (9, .int (nI t9)), (10, .int x9), (11, .int y9), (12, .int kd), (13, .int (nI sc)), (14, .int (nI la)), (15, .int (nI rk)), (16, .int (nI n9)), (17, .int (nI k9)), (18, .int (nI (7 * nl)))]) hx hb dL_law_1336 hl (by decide) rfl (fun ls hl => ?_)
      have tail : ∀ (locs : List Loc) (ls : Array Slot), va_S (fun q => n0 ≤ q) s.heap H locs → lv_has ls 28 [(19, .int (nI sp)), (0, .ref b), (1, .ref (aa 0)), (2, .ref (aa 11)), (3, .ref (aa 12)), (4, .ref (aa 13)), (5, .ref (aa 14)), (6, .ref (aa 15)), (7, .ref (aa 16)), (8, .ref (aa 17)), (9, .int (nI t9)), (10, .int x9), (11, .int y9), (12, .int kd), (13, .int (nI sc)), (14, .int (nI la)), (15, .int (nI rk)), (16, .int (nI n9)), (17, .int (nI k9)), (18, .int (nI (7 * nl)))] → W p l e R s m args below meth c H locs cells slots Q (F0 m 1358 ls []) := by
        intro locs ls HS hl
        refine lv_aload_n hx hb dL_law_1358 rfl (lv_at hl 3 rfl) ?_
        refine lv_bipush (v := 7) hx hb dL_law_1359 (by decide) ?_
        refine lv_iload hx hb dL_law_1361 (lv_at hl 18 rfl) ?_
        refine lv_imul hx hb dL_law_1363 ?_
        refine wb_iald MC hB 0 (by decide) (7 * k9) (show 7 * k9 < 42 by omega) (ix_mul rfl rfl) ((hF k9 hk).1) dL_law_1364 ?_
        refine lv_if_ne (tgt := 1372) hx hb dL_law_1365 (by decide) (fun c_1365 => ?_) (fun c_1365 => ?_)
        · have f_1365 := bI_n0.mp c_1365
          refine lv_aload_n hx hb dL_law_1372 rfl (lv_at hl 3 rfl) ?_
          refine lv_iload hx hb dL_law_1373 (lv_at hl 18 rfl) ?_
          refine lv_aload_n hx hb dL_law_1375 rfl (lv_at hl 4 rfl) ?_
          refine lv_iload hx hb dL_law_1376 (lv_at hl 17 rfl) ?_
          refine lv_aload hx hb dL_law_1378 (lv_at hl 5 rfl) ?_
          refine wb_s MC HS (rest := []) (As := [.ref (aa 11), .int (nI k9), .ref (aa 12), .int (nI n9), .ref (aa 13)]) (y_against hB hO hk hn) lkL_16 kw515 ⟨rfl, rfl, Nat.le_of_ble_eq_true rfl, Nat.le_of_ble_eq_true rfl, Nat.le_of_ble_eq_true rfl⟩ hR hl.1 rfl (Nat.le_of_ble_eq_true rfl) dL_law_1380 (by omega) (by omega) (fun v9 H1 lH1 hp HS => ?_)
          obtain ⟨rfl, rfl⟩ := hp
          refine lv_if_eq (tgt := 1392) hx hb dL_law_1383 (by decide) (fun c_1383 => ?_) (fun c_1383 => ?_)
          · have f_1383 := bI_0.mp c_1383
            have htx := tf_exc3 hI hn hk f_1365 f_1383
            refine lv_iconst (v := 4) hx hb dL_law_1392 (by decide) ?_
            refine lv_goto (tgt := 1397) hx hb dL_law_1393 (by decide) ?_
            refine lv_istore (lv' := [(20, .int 4), (19, .int (nI sp)), (0, .ref b), (1, .ref (aa 0)), (2, .ref (aa 11)), (3, .ref (aa 12)), (4, .ref (aa 13)), (5, .ref (aa 14)), (6, .ref (aa 15)), (7, .ref (aa 16)), (8, .ref (aa 17)), (9, .int (nI t9)), (10, .int x9), (11, .int y9), (12, .int kd), (13, .int (nI sc)), (14, .int (nI la)), (15, .int (nI rk)), (16, .int (nI n9)), (17, .int (nI k9)), (18, .int (nI (7 * nl)))]) hx hb dL_law_1397 hl (by decide) rfl (fun ls hl => ?_)
            refine lv_iload hx hb dL_law_1399 (lv_at hl 0 rfl) ?_
            refine lv_if_le (tgt := 1420) hx hb dL_law_1401 (by decide) (fun c_1401 => absurd c_1401 (by decide)) (fun c_1401 => ?_)
            refine lv_aload_n hx hb dL_law_1404 rfl (lv_at hl 3 rfl) ?_
            refine lv_iconst (v := 2) hx hb dL_law_1405 (by decide) ?_
            refine lv_iload hx hb dL_law_1406 (lv_at hl 18 rfl) ?_
            refine lv_iload hx hb dL_law_1408 (lv_at hl 19 rfl) ?_
            refine wb_r MC HS (rest := []) (r_excuse hl9 hB (a9 := nI n9) (b9 := nI k9) (by rw [htx]; decide)) lwr hR hl.1 (Nat.le_of_ble_eq_true rfl) dL_law_1410 (by omega) (by omega) (fun H2 lH2 hB HS => ?_)
            refine lv_iload hx hb dL_law_1413 (lv_at hl 0 rfl) ?_
            refine lv_icmp_eq (tgt := 2092) hx hb dL_law_1415 (by decide) (fun c_1415 => ?_) (fun c_1415 => absurd (by rw [htx]; rfl) c_1415)
            exact kk _ _ _ _ ls (by omega) (by omega) ⟨_, _, _, _, _, _, hB, hO⟩ HS (lv_sub hl [2, 3, 4, 5, 6, 7, 8, 9, 10, 11] rfl)
          · have f_1383 := bI_n0.mp c_1383
            refine lv_iload hx hb dL_law_1386 (lv_at hl 0 rfl) ?_
            refine lv_iconst (v := 4) hx hb dL_law_1388 (by decide) ?_
            refine lv_icmp_ne (tgt := 1396) hx hb dL_law_1389 (by decide) (fun c_1389 => ?_) (fun c_1389 => ?_)
            · have hs4 : sp < 4 := by have := nneq_of (n := 4) rfl c_1389; omega
              refine lv_iconst (v := 0) hx hb dL_law_1396 (by decide) ?_
              refine lv_istore (lv' := [(20, .int 0), (19, .int (nI sp)), (0, .ref b), (1, .ref (aa 0)), (2, .ref (aa 11)), (3, .ref (aa 12)), (4, .ref (aa 13)), (5, .ref (aa 14)), (6, .ref (aa 15)), (7, .ref (aa 16)), (8, .ref (aa 17)), (9, .int (nI t9)), (10, .int x9), (11, .int y9), (12, .int kd), (13, .int (nI sc)), (14, .int (nI la)), (15, .int (nI rk)), (16, .int (nI n9)), (17, .int (nI k9)), (18, .int (nI (7 * nl)))]) hx hb dL_law_1397 hl (by decide) rfl (fun ls hl => ?_)
              refine lv_iload hx hb dL_law_1399 (lv_at hl 0 rfl) ?_
              refine lv_if_le (tgt := 1420) hx hb dL_law_1401 (by decide) (fun c_1401 => ?_) (fun c_1401 => absurd c_1401 (by decide))
              refine lv_aload hx hb dL_law_1420 (lv_at hl 9 rfl) ?_
              refine lv_iload hx hb dL_law_1422 (lv_at hl 1 rfl) ?_
              refine lv_dup2_11 hx hb dL_law_1424 rfl rfl ?_
              refine wb_iald MC hB 5 (by decide) sp (show sp < 4 by omega) rfl (hle sp (by omega) (by omega)) dL_law_1425 ?_
              refine lv_iconst (v := 1) hx hb dL_law_1426 (by decide) ?_
              refine lv_isub hx hb dL_law_1427 ?_
              refine wb_iast MC hB HS 5 (by decide) sp (show sp < 4 by omega) rfl dL_law_1428 (fun H3 lH3 hB HS => ?_)
              refine lv_aload_n hx hb dL_law_1429 rfl (lv_at hl 5 rfl) ?_
              refine lv_bipush (v := 7) hx hb dL_law_1430 (by decide) ?_
              refine lv_iload hx hb dL_law_1432 (lv_at hl 18 rfl) ?_
              refine lv_imul hx hb dL_law_1434 ?_
              refine lv_iconst (v := 5) hx hb dL_law_1435 (by decide) ?_
              refine lv_iadd hx hb dL_law_1436 ?_
              refine lv_dup2_11 hx hb dL_law_1437 rfl rfl ?_
              refine wb_iald MC hB 1 (by decide) (7 * n9 + 5) (show 7 * n9 + 5 < 42 by omega) (ix_add (ix_mul rfl rfl) rfl) ((congrFun (va_up_ne _ _ (by decide)) _).trans ((hC n9 hn).2.2.2.2.2.1)) dL_law_1438 ?_
              refine lv_iconst (v := 1) hx hb dL_law_1439 (by decide) ?_
              refine lv_iload hx hb dL_law_1440 (lv_at hl 19 rfl) ?_
              refine lv_ishl hx hb dL_law_1442 ?_
              refine lv_ior hx hb dL_law_1443 ?_
              refine wb_iast MC hB HS 1 (by decide) (7 * n9 + 5) (show 7 * n9 + 5 < 42 by omega) (ix_add (ix_mul rfl rfl) rfl) dL_law_1444 (fun H4 lH4 hB HS => ?_)
              refine lv_aload_n hx hb dL_law_1445 rfl (lv_at hl 3 rfl) ?_
              refine lv_iload hx hb dL_law_1446 (lv_at hl 18 rfl) ?_
              refine lv_iload hx hb dL_law_1448 (lv_at hl 19 rfl) ?_
              refine wb_q MC HS hB (rest := []) (As := [.int (nI n9), .int (nI k9)]) (th := th_excuse τ (nI n9) (nI k9)) (rt := rt_excuse τ (nI n9) (nI k9)) (τ2 := (nx_excuse τ (nI n9) (nI k9))) (fun RR ad cn hX => q_excuse hl9 hX hB.1) (fun E9 H9 hp => by obtain ⟨-, hp⟩ := hp; rcases hp with h9 | h9 | h9 <;> exact absurd ((tz_exc3 hI hn hk f_1365 hspx hs4 f_1383).symm.trans h9.1) (by decide)) rfl lkL_33 kw489 kw490 ⟨rfl, rfl, Nat.le_of_ble_eq_true rfl, Nat.le_of_ble_eq_true rfl, Nat.le_of_ble_eq_true rfl⟩ hR hl.1 rfl (Nat.le_of_ble_eq_true rfl) dL_law_1450 (by omega) (by omega) (fun nw8 ns8 nl8 nc8 H5 lH5 hB8 HS => ?_)
              have hB := hB8.at (n_exc hI)
              clear hB8
              rw [rz_exc hI hk hspx]
              refine lv_iload hx hb dL_law_1453 (lv_at hl 1 rfl) ?_
              refine lv_icmp_eq (tgt := 1460) hx hb dL_law_1455 (by decide) (fun c_1455 => ?_) (fun c_1455 => absurd (rfl) c_1455)
              refine lv_goto (tgt := 2040) hx hb dL_law_1460 (by decide) ?_
              exact l_chk hl9 MC HS hB (ok_excuse hO hn (by rw [tc_k hI hk]; exact hspx)) hR (by omega) (by omega) (lv_sub hl [2, 3, 4, 5, 6, 7, 8, 9, 10, 11] rfl) (fun c9 s9 H1 locs1 ls1 h1 h2 => kk c9 s9 H1 locs1 ls1 (by omega) (by omega))
            · have htx := tf_exc4 hI hn hk f_1365 hspx (neq_of (n := 4) rfl (by omega) (by omega) c_1389)
              refine lv_iconst (v := 4) hx hb dL_law_1392 (by decide) ?_
              refine lv_goto (tgt := 1397) hx hb dL_law_1393 (by decide) ?_
              refine lv_istore (lv' := [(20, .int 4), (19, .int (nI sp)), (0, .ref b), (1, .ref (aa 0)), (2, .ref (aa 11)), (3, .ref (aa 12)), (4, .ref (aa 13)), (5, .ref (aa 14)), (6, .ref (aa 15)), (7, .ref (aa 16)), (8, .ref (aa 17)), (9, .int (nI t9)), (10, .int x9), (11, .int y9), (12, .int kd), (13, .int (nI sc)), (14, .int (nI la)), (15, .int (nI rk)), (16, .int (nI n9)), (17, .int (nI k9)), (18, .int (nI (7 * nl)))]) hx hb dL_law_1397 hl (by decide) rfl (fun ls hl => ?_)
              refine lv_iload hx hb dL_law_1399 (lv_at hl 0 rfl) ?_
              refine lv_if_le (tgt := 1420) hx hb dL_law_1401 (by decide) (fun c_1401 => absurd c_1401 (by decide)) (fun c_1401 => ?_)
              refine lv_aload_n hx hb dL_law_1404 rfl (lv_at hl 3 rfl) ?_
              refine lv_iconst (v := 2) hx hb dL_law_1405 (by decide) ?_
              refine lv_iload hx hb dL_law_1406 (lv_at hl 18 rfl) ?_
              refine lv_iload hx hb dL_law_1408 (lv_at hl 19 rfl) ?_
              refine wb_r MC HS (rest := []) (r_excuse hl9 hB (a9 := nI n9) (b9 := nI k9) (by rw [htx]; decide)) lwr hR hl.1 (Nat.le_of_ble_eq_true rfl) dL_law_1410 (by omega) (by omega) (fun H6 lH6 hB HS => ?_)
              refine lv_iload hx hb dL_law_1413 (lv_at hl 0 rfl) ?_
              refine lv_icmp_eq (tgt := 2092) hx hb dL_law_1415 (by decide) (fun c_1415 => ?_) (fun c_1415 => absurd (by rw [htx]; rfl) c_1415)
              exact kk _ _ _ _ ls (by omega) (by omega) ⟨_, _, _, _, _, _, hB, hO⟩ HS (lv_sub hl [2, 3, 4, 5, 6, 7, 8, 9, 10, 11] rfl)
        · have f_1365 := bI_0.mp c_1365
          have htx := tf_exc2 hI hn hk f_1365
          refine lv_iconst (v := 2) hx hb dL_law_1368 (by decide) ?_
          refine lv_goto (tgt := 1397) hx hb dL_law_1369 (by decide) ?_
          refine lv_istore (lv' := [(20, .int 2), (19, .int (nI sp)), (0, .ref b), (1, .ref (aa 0)), (2, .ref (aa 11)), (3, .ref (aa 12)), (4, .ref (aa 13)), (5, .ref (aa 14)), (6, .ref (aa 15)), (7, .ref (aa 16)), (8, .ref (aa 17)), (9, .int (nI t9)), (10, .int x9), (11, .int y9), (12, .int kd), (13, .int (nI sc)), (14, .int (nI la)), (15, .int (nI rk)), (16, .int (nI n9)), (17, .int (nI k9)), (18, .int (nI (7 * nl)))]) hx hb dL_law_1397 hl (by decide) rfl (fun ls hl => ?_)
          refine lv_iload hx hb dL_law_1399 (lv_at hl 0 rfl) ?_
          refine lv_if_le (tgt := 1420) hx hb dL_law_1401 (by decide) (fun c_1401 => absurd c_1401 (by decide)) (fun c_1401 => ?_)
          refine lv_aload_n hx hb dL_law_1404 rfl (lv_at hl 3 rfl) ?_
          refine lv_iconst (v := 2) hx hb dL_law_1405 (by decide) ?_
          refine lv_iload hx hb dL_law_1406 (lv_at hl 18 rfl) ?_
          refine lv_iload hx hb dL_law_1408 (lv_at hl 19 rfl) ?_
          refine wb_r MC HS (rest := []) (r_excuse hl9 hB (a9 := nI n9) (b9 := nI k9) (by rw [htx]; decide)) lwr hR hl.1 (Nat.le_of_ble_eq_true rfl) dL_law_1410 (by omega) (by omega) (fun H7 lH7 hB HS => ?_)
          refine lv_iload hx hb dL_law_1413 (lv_at hl 0 rfl) ?_
          refine lv_icmp_eq (tgt := 2092) hx hb dL_law_1415 (by decide) (fun c_1415 => ?_) (fun c_1415 => absurd (by rw [htx]; rfl) c_1415)
          exact kk _ _ _ _ ls (by omega) (by omega) ⟨_, _, _, _, _, _, hB, hO⟩ HS (lv_sub hl [2, 3, 4, 5, 6, 7, 8, 9, 10, 11] rfl)
      have loop : ∀ m9 : Nat, ∀ (r : Nat), 1 ≤ r → r ≤ 4 → 4 ≤ r + m9 → rkS (τ 18) m9 r = sp → ∀ (locs : List Loc) (ls : Array Slot), va_S (fun q => n0 ≤ q) s.heap H locs → lv_has ls 28 [(19, .int (nI r)), (0, .ref b), (1, .ref (aa 0)), (2, .ref (aa 11)), (3, .ref (aa 12)), (4, .ref (aa 13)), (5, .ref (aa 14)), (6, .ref (aa 15)), (7, .ref (aa 16)), (8, .ref (aa 17)), (9, .int (nI t9)), (10, .int x9), (11, .int y9), (12, .int kd), (13, .int (nI sc)), (14, .int (nI la)), (15, .int (nI rk)), (16, .int (nI n9)), (17, .int (nI k9)), (18, .int (nI (7 * nl)))] → W p l e R s m args below meth c H locs cells slots Q (F0 m 1338 ls []) := by
        intro m9
        induction m9 with
        | zero =>
          intro r hr1 hr4 h4r hR locs ls HS hl
          have hne : ¬ (r < 4 ∧ τ 18 r = 0) := fun h9 => by omega
          refine lv_iload hx hb dL_law_1338 (lv_at hl 0 rfl) ?_
          refine lv_iconst (v := 4) hx hb dL_law_1340 (by decide) ?_
          refine lv_icmp_ge (tgt := 1358) hx hb dL_law_1341 (by decide) (fun c_1341 => ?_) (fun c_1341 => absurd (nI_le (a := 4) (by omega) (by omega)) c_1341)
          have hR2 : r = sp := by rw [← hR]; exact (rkS_st hne).symm
          rw [hR2] at hl
          exact tail _ ls HS (lv_sub hl [0, 1, 2, 3, 4, 5, 6, 7, 8, 9, 10, 11, 12, 13, 14, 15, 16, 17, 18, 19] rfl)
        | succ m9 ih =>
          intro r hr1 hr4 h4r hR locs ls HS hl
          by_cases hrl : r < 4
          · refine lv_iload hx hb dL_law_1338 (lv_at hl 0 rfl) ?_
            refine lv_iconst (v := 4) hx hb dL_law_1340 (by decide) ?_
            refine lv_icmp_ge (tgt := 1358) hx hb dL_law_1341 (by decide) (fun c_1341 => absurd c_1341 (nI_ge (b := 4) hrl (by omega))) (fun c_1341 => ?_)
            refine lv_aload hx hb dL_law_1344 (lv_at hl 8 rfl) ?_
            refine lv_iload hx hb dL_law_1346 (lv_at hl 0 rfl) ?_
            refine wb_iald MC hB 5 (by decide) r (show r < 4 by omega) rfl (hle r (by omega) (by omega)) dL_law_1348 ?_
            refine lv_if_ne (tgt := 1358) hx hb dL_law_1349 (by decide) (fun c_1349 => ?_) (fun c_1349 => ?_)
            · have hne : ¬ (r < 4 ∧ τ 18 r = 0) := fun h9 => c_1349 h9.2
              have hR2 : r = sp := by rw [← hR]; exact (rkS_st hne).symm
              rw [hR2] at hl
              exact tail _ ls HS (lv_sub hl [0, 1, 2, 3, 4, 5, 6, 7, 8, 9, 10, 11, 12, 13, 14, 15, 16, 17, 18, 19] rfl)
            · refine lv_iinc (v := nI r + 1) (lv' := [(19, .int (nI r + 1)), (0, .ref b), (1, .ref (aa 0)), (2, .ref (aa 11)), (3, .ref (aa 12)), (4, .ref (aa 13)), (5, .ref (aa 14)), (6, .ref (aa 15)), (7, .ref (aa 16)), (8, .ref (aa 17)), (9, .int (nI t9)), (10, .int x9), (11, .int y9), (12, .int kd), (13, .int (nI sc)), (14, .int (nI la)), (15, .int (nI rk)), (16, .int (nI n9)), (17, .int (nI k9)), (18, .int (nI (7 * nl)))]) hx hb dL_law_1352 hl (k := 0) rfl rfl (by decide) rfl (fun ls hl => ?_)
              refine lv_goto (tgt := 1338) hx hb dL_law_1355 (by decide) ?_
              rw [nI_1] at hl
              exact ih (r + 1) (by omega) (by omega) (by omega) (by rw [← hR, rkS_go hrl c_1349]) _ ls HS (lv_sub hl [0, 1, 2, 3, 4, 5, 6, 7, 8, 9, 10, 11, 12, 13, 14, 15, 16, 17, 18, 19] rfl)
          · have hne : ¬ (r < 4 ∧ τ 18 r = 0) := fun h9 => hrl h9.1
            refine lv_iload hx hb dL_law_1338 (lv_at hl 0 rfl) ?_
            refine lv_iconst (v := 4) hx hb dL_law_1340 (by decide) ?_
            refine lv_icmp_ge (tgt := 1358) hx hb dL_law_1341 (by decide) (fun c_1341 => ?_) (fun c_1341 => absurd (nI_le (a := 4) (by omega) (by omega)) c_1341)
            have hR2 : r = sp := by rw [← hR]; exact (rkS_st hne).symm
            rw [hR2] at hl
            exact tail _ ls HS (lv_sub hl [0, 1, 2, 3, 4, 5, 6, 7, 8, 9, 10, 11, 12, 13, 14, 15, 16, 17, 18, 19] rfl)
      exact loop 4 r9 hr1 (by omega) (by omega) hsp _ ls HS (lv_sub hl [0, 1, 2, 3, 4, 5, 6, 7, 8, 9, 10, 11, 12, 13, 14, 15, 16, 17, 18, 19] rfl)
    · refine lv_goto (tgt := 2092) hx hb dL_law_1323 (by decide) ?_
      exact kk _ _ _ _ ls (by omega) (by omega) ⟨_, _, _, _, _, _, hB, hO⟩ HS (lv_sub hl [0, 1, 2, 3, 4, 5, 6, 7, 8, 9] rfl)
set_option maxHeartbeats 4000000 in
set_option maxRecDepth 100000 in
theorem l_beg3 {p : Program} {l : Launch} (hl9 : l.stackTraces = false) {e : Env} {R : Room} {s : State} {m : MethodId} {args : Array Value} {below : List Frame} {meth : Method} {c : Code} {H : Heap} {locs : List Loc} {cells slots : Nat} {Q : State → Prop} {D : va_G} {ids : Nat → ClassId} {n0 b t9 : Nat} {aa : Nat → Nat} {τ : Tau} {nw ns nl nc : Nat} {A : Tau} (MC : ro_C p s m args meth c cL_law 28 "FrostCalendarLaw" D ids n0) (HS : va_S (fun q => n0 ≤ q) s.heap H locs) (hB : wB D ids n0 aa τ nw ns nl nc A H) (hO : wOk τ ns nl nc A) (hR : 11 ≤ R.frames ∧ 400 ≤ R.locals) {n9 : Nat} {y9 : Int32} (hn : n9 < nc) (hcl : cells + 296 ≤ R.cells) (hsl : slots + 1776 ≤ R.slots) {ls : Array Slot} (hl : lv_has ls 28 [(0, .ref b), (1, .ref (aa 0)), (2, .ref (aa 11)), (3, .ref (aa 12)), (4, .ref (aa 13)), (5, .ref (aa 14)), (6, .ref (aa 15)), (7, .ref (aa 16)), (8, .ref (aa 17)), (9, .int (nI t9)), (11, .int y9), (16, .int (nI n9)), (19, .int ((7 * nI n9)))])
    (kk : ∀ (c9 s9 : Nat) (H1 : Heap) (locs1 : List Loc) (ls1 : Array Slot), c9 ≤ cells + 296 → s9 ≤ slots + 1776 → wI D ids n0 aa H1 → va_S (fun q => n0 ≤ q) s.heap H1 locs1 → lv_has ls1 28 (lL b aa t9) → W p l e R s m args below meth c H1 locs1 c9 s9 Q (F0 m 2092 ls1 [])) : W p l e R s m args below meth c H locs cells slots Q (F0 m 1616 ls []) := by
  have hx := MC.1.1
  have hb := MC.1.2.1
  have hI := hB.1
  obtain ⟨⟨hns, hnl, hnc⟩, ⟨hg0, hg1, hg2, hg3⟩, hF, hC, hin, hof, hfe, hle⟩ := id hO
  obtain ⟨-, ⟨b7, n7, hb7, hn7, h1n, hn1, hbn⟩, h14, h15, h17⟩ := hI.2.2.2.2.2.2.2.2.2.2.1 n9 hn
  refine lv_aload_n hx hb dL_law_1616 rfl (lv_at hl 3 rfl) ?_
  refine lv_iload hx hb dL_law_1617 (lv_at hl 12 rfl) ?_
  refine lv_bipush (v := 6) hx hb dL_law_1619 (by decide) ?_
  refine lv_iadd hx hb dL_law_1621 ?_
  refine wb_iald MC hB 1 (by decide) (7 * n9 + 6) (show 7 * n9 + 6 < 42 by omega) (ix_add (ix_mul rfl rfl) rfl) ((hC n9 hn).2.2.2.2.2.2) dL_law_1622 ?_
  refine lv_if_ge (tgt := 1676) hx hb dL_law_1623 (by decide) (fun c_1623 => ?_) (fun c_1623 => ?_)
  · have htb : th_begin τ (nI n9) = 2 := tf_begin hI hn (fun h9 => absurd c_1623 (by rw [h9.1.1]; decide))
    refine lv_iconst (v := 0) hx hb dL_law_1676 (by decide) ?_
    refine lv_istore (lv' := [(21, .int 0), (0, .ref b), (1, .ref (aa 0)), (2, .ref (aa 11)), (3, .ref (aa 12)), (4, .ref (aa 13)), (5, .ref (aa 14)), (6, .ref (aa 15)), (7, .ref (aa 16)), (8, .ref (aa 17)), (9, .int (nI t9)), (11, .int y9), (16, .int (nI n9)), (19, .int ((7 * nI n9)))]) hx hb dL_law_1677 hl (by decide) rfl (fun ls hl => ?_)
    refine lv_iload hx hb dL_law_1679 (lv_at hl 0 rfl) ?_
    refine lv_if_ne (tgt := 1698) hx hb dL_law_1681 (by decide) (fun c_1681 => absurd c_1681 (by decide)) (fun c_1681 => ?_)
    refine lv_aload_n hx hb dL_law_1684 rfl (lv_at hl 2 rfl) ?_
    refine lv_iconst (v := 0) hx hb dL_law_1685 (by decide) ?_
    refine lv_iload hx hb dL_law_1686 (lv_at hl 12 rfl) ?_
    refine lv_iconst (v := 0) hx hb dL_law_1688 (by decide) ?_
    refine wb_r MC HS (rest := []) (r_begin hl9 hB (a9 := nI n9) (b9 := 0) (by rw [htb]; decide)) lwr hR hl.1 (Nat.le_of_ble_eq_true rfl) dL_law_1689 (by omega) (by omega) (fun H1 lH1 hB HS => ?_)
    refine lv_iconst (v := 4) hx hb dL_law_1692 (by decide) ?_
    refine lv_icmp_eq (tgt := 2092) hx hb dL_law_1693 (by decide) (fun c_1693 => ?_) (fun c_1693 => absurd (by rw [htb]; rfl) c_1693)
    exact kk _ _ _ _ ls (by omega) (by omega) ⟨_, _, _, _, _, _, hB, hO⟩ HS (lv_sub hl [1, 2, 3, 4, 5, 6, 7, 8, 9, 10] rfl)
  · refine lv_aload_n hx hb dL_law_1626 rfl (lv_at hl 3 rfl) ?_
    refine lv_iload hx hb dL_law_1627 (lv_at hl 12 rfl) ?_
    refine lv_iconst (v := 1) hx hb dL_law_1629 (by decide) ?_
    refine lv_iadd hx hb dL_law_1630 ?_
    refine wb_iald MC hB 1 (by decide) (7 * n9 + 1) (show 7 * n9 + 1 < 42 by omega) (ix_add (ix_mul rfl rfl) rfl) ((hC n9 hn).2.1.trans hb7) dL_law_1631 ?_
    refine lv_aload hx hb dL_law_1632 (lv_at hl 8 rfl) ?_
    refine lv_iconst (v := 0) hx hb dL_law_1634 (by decide) ?_
    refine wb_iald MC hB 6 (by decide) 0 (show 0 < 4 by omega) rfl (hg0.trans hI.1.1) dL_law_1635 ?_
    refine lv_icmp_ne (tgt := 1676) hx hb dL_law_1636 (by decide) (fun c_1636 => ?_) (fun c_1636 => ?_)
    · have htb : th_begin τ (nI n9) = 2 := tf_begin hI hn (fun h9 => c_1636 (by rw [← hb7, ← h9.1.2.1]; exact hI.1.1))
      refine lv_iconst (v := 0) hx hb dL_law_1676 (by decide) ?_
      refine lv_istore (lv' := [(21, .int 0), (0, .ref b), (1, .ref (aa 0)), (2, .ref (aa 11)), (3, .ref (aa 12)), (4, .ref (aa 13)), (5, .ref (aa 14)), (6, .ref (aa 15)), (7, .ref (aa 16)), (8, .ref (aa 17)), (9, .int (nI t9)), (11, .int y9), (16, .int (nI n9)), (19, .int ((7 * nI n9)))]) hx hb dL_law_1677 hl (by decide) rfl (fun ls hl => ?_)
      refine lv_iload hx hb dL_law_1679 (lv_at hl 0 rfl) ?_
      refine lv_if_ne (tgt := 1698) hx hb dL_law_1681 (by decide) (fun c_1681 => absurd c_1681 (by decide)) (fun c_1681 => ?_)
      refine lv_aload_n hx hb dL_law_1684 rfl (lv_at hl 2 rfl) ?_
      refine lv_iconst (v := 0) hx hb dL_law_1685 (by decide) ?_
      refine lv_iload hx hb dL_law_1686 (lv_at hl 12 rfl) ?_
      refine lv_iconst (v := 0) hx hb dL_law_1688 (by decide) ?_
      refine wb_r MC HS (rest := []) (r_begin hl9 hB (a9 := nI n9) (b9 := 0) (by rw [htb]; decide)) lwr hR hl.1 (Nat.le_of_ble_eq_true rfl) dL_law_1689 (by omega) (by omega) (fun H2 lH2 hB HS => ?_)
      refine lv_iconst (v := 4) hx hb dL_law_1692 (by decide) ?_
      refine lv_icmp_eq (tgt := 2092) hx hb dL_law_1693 (by decide) (fun c_1693 => ?_) (fun c_1693 => absurd (by rw [htb]; rfl) c_1693)
      exact kk _ _ _ _ ls (by omega) (by omega) ⟨_, _, _, _, _, _, hB, hO⟩ HS (lv_sub hl [1, 2, 3, 4, 5, 6, 7, 8, 9, 10] rfl)
    · refine lv_aload_n hx hb dL_law_1639 rfl (lv_at hl 3 rfl) ?_
      refine lv_iload hx hb dL_law_1640 (lv_at hl 12 rfl) ?_
      refine lv_iconst (v := 4) hx hb dL_law_1642 (by decide) ?_
      refine lv_iadd hx hb dL_law_1643 ?_
      refine wb_iald MC hB 1 (by decide) (7 * n9 + 4) (show 7 * n9 + 4 < 42 by omega) (ix_add (ix_mul rfl rfl) rfl) ((hC n9 hn).2.2.2.2.1) dL_law_1644 ?_
      refine lv_aload_n hx hb dL_law_1645 rfl (lv_at hl 3 rfl) ?_
      refine lv_iload hx hb dL_law_1646 (lv_at hl 12 rfl) ?_
      refine lv_iconst (v := 3) hx hb dL_law_1648 (by decide) ?_
      refine lv_iadd hx hb dL_law_1649 ?_
      refine wb_iald MC hB 1 (by decide) (7 * n9 + 3) (show 7 * n9 + 3 < 42 by omega) (ix_add (ix_mul rfl rfl) rfl) ((hC n9 hn).2.2.2.1) dL_law_1650 ?_
      refine lv_icmp_ne (tgt := 1676) hx hb dL_law_1651 (by decide) (fun c_1651 => ?_) (fun c_1651 => ?_)
      · have htb : th_begin τ (nI n9) = 2 := tf_begin hI hn (fun h9 => c_1651 h9.1.2.2)
        refine lv_iconst (v := 0) hx hb dL_law_1676 (by decide) ?_
        refine lv_istore (lv' := [(21, .int 0), (0, .ref b), (1, .ref (aa 0)), (2, .ref (aa 11)), (3, .ref (aa 12)), (4, .ref (aa 13)), (5, .ref (aa 14)), (6, .ref (aa 15)), (7, .ref (aa 16)), (8, .ref (aa 17)), (9, .int (nI t9)), (11, .int y9), (16, .int (nI n9)), (19, .int ((7 * nI n9)))]) hx hb dL_law_1677 hl (by decide) rfl (fun ls hl => ?_)
        refine lv_iload hx hb dL_law_1679 (lv_at hl 0 rfl) ?_
        refine lv_if_ne (tgt := 1698) hx hb dL_law_1681 (by decide) (fun c_1681 => absurd c_1681 (by decide)) (fun c_1681 => ?_)
        refine lv_aload_n hx hb dL_law_1684 rfl (lv_at hl 2 rfl) ?_
        refine lv_iconst (v := 0) hx hb dL_law_1685 (by decide) ?_
        refine lv_iload hx hb dL_law_1686 (lv_at hl 12 rfl) ?_
        refine lv_iconst (v := 0) hx hb dL_law_1688 (by decide) ?_
        refine wb_r MC HS (rest := []) (r_begin hl9 hB (a9 := nI n9) (b9 := 0) (by rw [htb]; decide)) lwr hR hl.1 (Nat.le_of_ble_eq_true rfl) dL_law_1689 (by omega) (by omega) (fun H3 lH3 hB HS => ?_)
        refine lv_iconst (v := 4) hx hb dL_law_1692 (by decide) ?_
        refine lv_icmp_eq (tgt := 2092) hx hb dL_law_1693 (by decide) (fun c_1693 => ?_) (fun c_1693 => absurd (by rw [htb]; rfl) c_1693)
        exact kk _ _ _ _ ls (by omega) (by omega) ⟨_, _, _, _, _, _, hB, hO⟩ HS (lv_sub hl [1, 2, 3, 4, 5, 6, 7, 8, 9, 10] rfl)
      · refine lv_aload_n hx hb dL_law_1654 rfl (lv_at hl 2 rfl) ?_
        refine lv_aload_n hx hb dL_law_1655 rfl (lv_at hl 3 rfl) ?_
        refine lv_iload hx hb dL_law_1656 (lv_at hl 11 rfl) ?_
        refine lv_aload hx hb dL_law_1658 (lv_at hl 4 rfl) ?_
        refine lv_aload hx hb dL_law_1660 (lv_at hl 5 rfl) ?_
        refine lv_aload hx hb dL_law_1662 (lv_at hl 6 rfl) ?_
        refine lv_aload hx hb dL_law_1664 (lv_at hl 8 rfl) ?_
        refine wb_s MC HS (rest := []) (As := [.ref (aa 11), .ref (aa 12), .int (nI n9), .ref (aa 13), .ref (aa 14), .ref (aa 15), .ref (aa 17)]) (y_bad hB hO hn) lkL_57 kw518 ⟨rfl, rfl, Nat.le_of_ble_eq_true rfl, Nat.le_of_ble_eq_true rfl, Nat.le_of_ble_eq_true rfl⟩ hR hl.1 rfl (Nat.le_of_ble_eq_true rfl) dL_law_1666 (by omega) (by omega) (fun v9 H4 lH4 hp HS => ?_)
        obtain ⟨rfl, rfl⟩ := hp
        refine lv_if_ne (tgt := 1676) hx hb dL_law_1669 (by decide) (fun c_1669 => ?_) (fun c_1669 => ?_)
        · have htb : th_begin τ (nI n9) = 2 := tf_begin hI hn (fun h9 => c_1669 (by rw [h9.2]; rfl))
          refine lv_iconst (v := 0) hx hb dL_law_1676 (by decide) ?_
          refine lv_istore (lv' := [(21, .int 0), (0, .ref b), (1, .ref (aa 0)), (2, .ref (aa 11)), (3, .ref (aa 12)), (4, .ref (aa 13)), (5, .ref (aa 14)), (6, .ref (aa 15)), (7, .ref (aa 16)), (8, .ref (aa 17)), (9, .int (nI t9)), (11, .int y9), (16, .int (nI n9)), (19, .int ((7 * nI n9)))]) hx hb dL_law_1677 hl (by decide) rfl (fun ls hl => ?_)
          refine lv_iload hx hb dL_law_1679 (lv_at hl 0 rfl) ?_
          refine lv_if_ne (tgt := 1698) hx hb dL_law_1681 (by decide) (fun c_1681 => absurd c_1681 (by decide)) (fun c_1681 => ?_)
          refine lv_aload_n hx hb dL_law_1684 rfl (lv_at hl 2 rfl) ?_
          refine lv_iconst (v := 0) hx hb dL_law_1685 (by decide) ?_
          refine lv_iload hx hb dL_law_1686 (lv_at hl 12 rfl) ?_
          refine lv_iconst (v := 0) hx hb dL_law_1688 (by decide) ?_
          refine wb_r MC HS (rest := []) (r_begin hl9 hB (a9 := nI n9) (b9 := 0) (by rw [htb]; decide)) lwr hR hl.1 (Nat.le_of_ble_eq_true rfl) dL_law_1689 (by omega) (by omega) (fun H5 lH5 hB HS => ?_)
          refine lv_iconst (v := 4) hx hb dL_law_1692 (by decide) ?_
          refine lv_icmp_eq (tgt := 2092) hx hb dL_law_1693 (by decide) (fun c_1693 => ?_) (fun c_1693 => absurd (by rw [htb]; rfl) c_1693)
          exact kk _ _ _ _ ls (by omega) (by omega) ⟨_, _, _, _, _, _, hB, hO⟩ HS (lv_sub hl [1, 2, 3, 4, 5, 6, 7, 8, 9, 10] rfl)
        · have htb : th_begin τ (nI n9) = 0 := tz_begin hI hn ⟨⟨t17_q hI hn c_1623, by rw [hb7, hI.1.1]; exact c_1636.symm, c_1651⟩, neq_of (n := 0) rfl (by have := badN_le hn7 hn1; omega) (by omega) c_1669⟩
          refine lv_iconst (v := 1) hx hb dL_law_1672 (by decide) ?_
          refine lv_goto (tgt := 1677) hx hb dL_law_1673 (by decide) ?_
          refine lv_istore (lv' := [(21, .int 1), (0, .ref b), (1, .ref (aa 0)), (2, .ref (aa 11)), (3, .ref (aa 12)), (4, .ref (aa 13)), (5, .ref (aa 14)), (6, .ref (aa 15)), (7, .ref (aa 16)), (8, .ref (aa 17)), (9, .int (nI t9)), (11, .int y9), (16, .int (nI n9)), (19, .int ((7 * nI n9)))]) hx hb dL_law_1677 hl (by decide) rfl (fun ls hl => ?_)
          refine lv_iload hx hb dL_law_1679 (lv_at hl 0 rfl) ?_
          refine lv_if_ne (tgt := 1698) hx hb dL_law_1681 (by decide) (fun c_1681 => ?_) (fun c_1681 => absurd c_1681 (by decide))
          refine lv_aload_n hx hb dL_law_1698 rfl (lv_at hl 4 rfl) ?_
          refine lv_iload hx hb dL_law_1699 (lv_at hl 13 rfl) ?_
          refine lv_bipush (v := 6) hx hb dL_law_1701 (by decide) ?_
          refine lv_iadd hx hb dL_law_1703 ?_
          refine lv_aload hx hb dL_law_1704 (lv_at hl 9 rfl) ?_
          refine lv_iconst (v := 2) hx hb dL_law_1706 (by decide) ?_
          refine wb_iald MC hB 6 (by decide) 2 (show 2 < 4 by omega) rfl (hg2.trans hI.2.2.1.1) dL_law_1707 ?_
          refine wb_iast MC hB HS 1 (by decide) (7 * n9 + 6) (show 7 * n9 + 6 < 42 by omega) (ix_add (ix_mul rfl rfl) rfl) dL_law_1708 (fun H6 lH6 hB HS => ?_)
          refine lv_aload_n hx hb dL_law_1709 rfl (lv_at hl 2 rfl) ?_
          refine lv_iload hx hb dL_law_1710 (lv_at hl 12 rfl) ?_
          refine wb_q MC HS hB (rest := []) (As := [.int (nI n9)]) (th := th_begin τ (nI n9)) (rt := rt_begin τ (nI n9)) (τ2 := (nx_begin τ (nI n9))) (fun RR ad cn hX => q_begin hl9 hX hB.1) (fun E9 H9 hp => by obtain ⟨-, hp⟩ := hp; rcases hp with h9 | h9 <;> exact absurd (htb.symm.trans h9.1) (by decide)) rfl lkL_24 kw466 kw467 ⟨rfl, rfl, Nat.le_of_ble_eq_true rfl, Nat.le_of_ble_eq_true rfl, Nat.le_of_ble_eq_true rfl⟩ hR hl.1 rfl (Nat.le_of_ble_eq_true rfl) dL_law_1712 (by omega) (by omega) (fun nw8 ns8 nl8 nc8 H7 lH7 hB8 HS => ?_)
          have hB := hB8.at (n_same hI rfl)
          clear hB8
          rw [show rt_begin τ (nI n9) = nI nw + nI n7 by rw [rt_begin, tc_n hI hn, hb7, hn7, c_1636]]
          refine lv_aload hx hb dL_law_1715 (lv_at hl 9 rfl) ?_
          refine lv_iconst (v := 0) hx hb dL_law_1717 (by decide) ?_
          refine wb_iald MC hB 6 (by decide) 0 (show 0 < 4 by omega) rfl ((congrFun (va_up_ne _ _ (by decide)) _).trans (hg0.trans hI.1.1)) dL_law_1718 ?_
          refine lv_aload_n hx hb dL_law_1719 rfl (lv_at hl 4 rfl) ?_
          refine lv_iload hx hb dL_law_1720 (lv_at hl 13 rfl) ?_
          refine lv_iconst (v := 2) hx hb dL_law_1722 (by decide) ?_
          refine lv_iadd hx hb dL_law_1723 ?_
          refine wb_iald MC hB 1 (by decide) (7 * n9 + 2) (show 7 * n9 + 2 < 42 by omega) (ix_add (ix_mul rfl rfl) rfl) ((congrFun (va_up_self ..) _).trans ((pk_un (by omega)).trans ((hC n9 hn).2.2.1.trans hn7))) dL_law_1724 ?_
          refine lv_iadd hx hb dL_law_1725 ?_
          refine lv_icmp_eq (tgt := 1731) hx hb dL_law_1726 (by decide) (fun c_1726 => ?_) (fun c_1726 => absurd (rfl) c_1726)
          refine lv_goto (tgt := 2040) hx hb dL_law_1731 (by decide) ?_
          exact l_chk hl9 MC HS hB (ok_begin hI hO hn) hR (by omega) (by omega) (lv_sub hl [1, 2, 3, 4, 5, 6, 7, 8, 9, 10] rfl) (fun c9 s9 H1 locs1 ls1 h1 h2 => kk c9 s9 H1 locs1 ls1 (by omega) (by omega))
set_option maxHeartbeats 4000000 in
set_option maxRecDepth 100000 in
theorem l_beg2 {p : Program} {l : Launch} (hl9 : l.stackTraces = false) {e : Env} {R : Room} {s : State} {m : MethodId} {args : Array Value} {below : List Frame} {meth : Method} {c : Code} {Q : State → Prop} {D : va_G} {ids : Nat → ClassId} {n0 b t9 n9 : Nat} {y9 : Int32} {aa : Nat → Nat} (MC : ro_C p s m args meth c cL_law 28 "FrostCalendarLaw" D ids n0) (hR : 11 ≤ R.frames ∧ 400 ≤ R.locals) : ∀ (d : Nat) (τ : Tau) (nw ns nl nc : Nat) (A : Tau) (H : Heap) (locs : List Loc) (cells slots : Nat) (ls : Array Slot), d ≤ 3 → wB D ids n0 aa τ nw ns nl nc A H → wOk τ ns nl nc A → n9 < nc → (∃ ap rs : Nat, τ 15 n9 = nI ap ∧ τ 14 n9 = nI rs ∧ ap ≤ rs ∧ rs ≤ ap + d ∧ rs ≤ 3) → va_S (fun q => n0 ≤ q) s.heap H locs → cells + (8 * d + 296) ≤ R.cells → slots + (48 * d + 1776) ≤ R.slots → lv_has ls 28 [(0, .ref b), (1, .ref (aa 0)), (2, .ref (aa 11)), (3, .ref (aa 12)), (4, .ref (aa 13)), (5, .ref (aa 14)), (6, .ref (aa 15)), (7, .ref (aa 16)), (8, .ref (aa 17)), (9, .int (nI t9)), (11, .int y9), (16, .int (nI n9)), (19, .int ((7 * nI n9)))] → (∀ (c9 s9 : Nat) (H1 : Heap) (locs1 : List Loc) (ls1 : Array Slot), c9 ≤ cells + (8 * d + 296) → s9 ≤ slots + (48 * d + 1776) → wI D ids n0 aa H1 → va_S (fun q => n0 ≤ q) s.heap H1 locs1 → lv_has ls1 28 (lL b aa t9) → W p l e R s m args below meth c H1 locs1 c9 s9 Q (F0 m 2092 ls1 [])) → W p l e R s m args below meth c H locs cells slots Q (F0 m 1555 ls []) := by
  have hx := MC.1.1
  have hb := MC.1.2.1
  intro d
  induction d with
  | zero =>
    intro τ nw ns nl nc A H locs cells slots ls hd3 hB hO hn hapr HS hcl hsl hl kk
    have hI := hB.1
    obtain ⟨⟨hns, hnl, hnc⟩, ⟨hg0, hg1, hg2, hg3⟩, hF, hC, hin, hof, hfe, hle⟩ := id hO
    obtain ⟨-, ⟨b7, n7, hb7, hn7, h1n, hn1, hbn⟩, h14, h15, h17⟩ := hI.2.2.2.2.2.2.2.2.2.2.1 n9 hn
    obtain ⟨ap, rs, hap, hrs, har, hrd, hr3⟩ := hapr
    refine lv_aload_n hx hb dL_law_1555 rfl (lv_at hl 3 rfl) ?_
    refine lv_iload hx hb dL_law_1556 (lv_at hl 12 rfl) ?_
    refine lv_bipush (v := 6) hx hb dL_law_1558 (by decide) ?_
    refine lv_iadd hx hb dL_law_1560 ?_
    refine wb_iald MC hB 1 (by decide) (7 * n9 + 6) (show 7 * n9 + 6 < 42 by omega) (ix_add (ix_mul rfl rfl) rfl) ((hC n9 hn).2.2.2.2.2.2) dL_law_1561 ?_
    refine lv_if_ge (tgt := 1616) hx hb dL_law_1562 (by decide) (fun c_1562 => ?_) (fun c_1562 => ?_)
    · exact l_beg3 hl9 MC HS hB hO hR hn (by omega) (by omega) (lv_sub hl [0, 1, 2, 3, 4, 5, 6, 7, 8, 9, 10, 11, 12] rfl) (fun c9 s9 H1 locs1 ls1 h1 h2 => kk c9 s9 H1 locs1 ls1 (by omega) (by omega))
    · refine lv_aload_n hx hb dL_law_1565 rfl (lv_at hl 3 rfl) ?_
      refine lv_iload hx hb dL_law_1566 (lv_at hl 12 rfl) ?_
      refine lv_iconst (v := 4) hx hb dL_law_1568 (by decide) ?_
      refine lv_iadd hx hb dL_law_1569 ?_
      refine wb_iald MC hB 1 (by decide) (7 * n9 + 4) (show 7 * n9 + 4 < 42 by omega) (ix_add (ix_mul rfl rfl) rfl) ((hC n9 hn).2.2.2.2.1) dL_law_1570 ?_
      refine lv_aload_n hx hb dL_law_1571 rfl (lv_at hl 3 rfl) ?_
      refine lv_iload hx hb dL_law_1572 (lv_at hl 12 rfl) ?_
      refine lv_iconst (v := 3) hx hb dL_law_1574 (by decide) ?_
      refine lv_iadd hx hb dL_law_1575 ?_
      refine wb_iald MC hB 1 (by decide) (7 * n9 + 3) (show 7 * n9 + 3 < 42 by omega) (ix_add (ix_mul rfl rfl) rfl) ((hC n9 hn).2.2.2.1) dL_law_1576 ?_
      refine lv_icmp_ge (tgt := 1616) hx hb dL_law_1577 (by decide) (fun c_1577 => ?_) (fun c_1577 => absurd (by rw [hap, hrs]; exact nI_le (by omega) (by omega)) c_1577)
      exact l_beg3 hl9 MC HS hB hO hR hn (by omega) (by omega) (lv_sub hl [0, 1, 2, 3, 4, 5, 6, 7, 8, 9, 10, 11, 12] rfl) (fun c9 s9 H1 locs1 ls1 h1 h2 => kk c9 s9 H1 locs1 ls1 (by omega) (by omega))
  | succ d ih =>
    intro τ nw ns nl nc A H locs cells slots ls hd3 hB hO hn hapr HS hcl hsl hl kk
    have hI := hB.1
    obtain ⟨⟨hns, hnl, hnc⟩, ⟨hg0, hg1, hg2, hg3⟩, hF, hC, hin, hof, hfe, hle⟩ := id hO
    obtain ⟨-, ⟨b7, n7, hb7, hn7, h1n, hn1, hbn⟩, h14, h15, h17⟩ := hI.2.2.2.2.2.2.2.2.2.2.1 n9 hn
    obtain ⟨ap, rs, hap, hrs, har, hrd, hr3⟩ := hapr
    refine lv_aload_n hx hb dL_law_1555 rfl (lv_at hl 3 rfl) ?_
    refine lv_iload hx hb dL_law_1556 (lv_at hl 12 rfl) ?_
    refine lv_bipush (v := 6) hx hb dL_law_1558 (by decide) ?_
    refine lv_iadd hx hb dL_law_1560 ?_
    refine wb_iald MC hB 1 (by decide) (7 * n9 + 6) (show 7 * n9 + 6 < 42 by omega) (ix_add (ix_mul rfl rfl) rfl) ((hC n9 hn).2.2.2.2.2.2) dL_law_1561 ?_
    refine lv_if_ge (tgt := 1616) hx hb dL_law_1562 (by decide) (fun c_1562 => ?_) (fun c_1562 => ?_)
    · exact l_beg3 hl9 MC HS hB hO hR hn (by omega) (by omega) (lv_sub hl [0, 1, 2, 3, 4, 5, 6, 7, 8, 9, 10, 11, 12] rfl) (fun c9 s9 H1 locs1 ls1 h1 h2 => kk c9 s9 H1 locs1 ls1 (by omega) (by omega))
    · refine lv_aload_n hx hb dL_law_1565 rfl (lv_at hl 3 rfl) ?_
      refine lv_iload hx hb dL_law_1566 (lv_at hl 12 rfl) ?_
      refine lv_iconst (v := 4) hx hb dL_law_1568 (by decide) ?_
      refine lv_iadd hx hb dL_law_1569 ?_
      refine wb_iald MC hB 1 (by decide) (7 * n9 + 4) (show 7 * n9 + 4 < 42 by omega) (ix_add (ix_mul rfl rfl) rfl) ((hC n9 hn).2.2.2.2.1) dL_law_1570 ?_
      refine lv_aload_n hx hb dL_law_1571 rfl (lv_at hl 3 rfl) ?_
      refine lv_iload hx hb dL_law_1572 (lv_at hl 12 rfl) ?_
      refine lv_iconst (v := 3) hx hb dL_law_1574 (by decide) ?_
      refine lv_iadd hx hb dL_law_1575 ?_
      refine wb_iald MC hB 1 (by decide) (7 * n9 + 3) (show 7 * n9 + 3 < 42 by omega) (ix_add (ix_mul rfl rfl) rfl) ((hC n9 hn).2.2.2.1) dL_law_1576 ?_
      refine lv_icmp_ge (tgt := 1616) hx hb dL_law_1577 (by decide) (fun c_1577 => ?_) (fun c_1577 => ?_)
      · exact l_beg3 hl9 MC HS hB hO hR hn (by omega) (by omega) (lv_sub hl [0, 1, 2, 3, 4, 5, 6, 7, 8, 9, 10, 11, 12] rfl) (fun c9 s9 H1 locs1 ls1 h1 h2 => kk c9 s9 H1 locs1 ls1 (by omega) (by omega))
      · have hlt : ap < rs := Nat.lt_of_not_le (fun h9 => c_1577 (by rw [hap, hrs]; exact nI_le h9 (by omega)))
        refine lv_iload hx hb dL_law_1580 (lv_at hl 10 rfl) ?_
        refine lv_iconst (v := 4) hx hb dL_law_1582 (by decide) ?_
        refine wb_s MC HS (rest := []) (As := [.int y9, .int 4]) (by rw [show 4 = nI (4) from rfl]; exact y_low D ids n0 y9 (by omega) (by omega)) lkL_84 kw505 ⟨rfl, rfl, Nat.le_of_ble_eq_true rfl, Nat.le_of_ble_eq_true rfl, Nat.le_of_ble_eq_true rfl⟩ hR hl.1 rfl (Nat.le_of_ble_eq_true rfl) dL_law_1583 (by omega) (by omega) (fun v9 H2 lH2 hp HS => ?_)
        obtain ⟨q1, hq1, rfl, rfl⟩ := hp
        refine lv_if_le (tgt := 1616) hx hb dL_law_1586 (by decide) (fun c_1586 => ?_) (fun c_1586 => ?_)
        · exact l_beg3 hl9 MC HS hB hO hR hn (by omega) (by omega) (lv_sub hl [0, 1, 2, 3, 4, 5, 6, 7, 8, 9, 10, 11, 12] rfl) (fun c9 s9 H1 locs1 ls1 h1 h2 => kk c9 s9 H1 locs1 ls1 (by omega) (by omega))
        · refine lv_aload_n hx hb dL_law_1589 rfl (lv_at hl 3 rfl) ?_
          refine lv_iload hx hb dL_law_1590 (lv_at hl 12 rfl) ?_
          refine lv_iconst (v := 4) hx hb dL_law_1592 (by decide) ?_
          refine lv_iadd hx hb dL_law_1593 ?_
          refine lv_dup2_11 hx hb dL_law_1594 rfl rfl ?_
          refine wb_iald MC hB 1 (by decide) (7 * n9 + 4) (show 7 * n9 + 4 < 42 by omega) (ix_add (ix_mul rfl rfl) rfl) ((hC n9 hn).2.2.2.2.1) dL_law_1595 ?_
          refine lv_iconst (v := 1) hx hb dL_law_1596 (by decide) ?_
          refine lv_iadd hx hb dL_law_1597 ?_
          refine wb_iast MC hB HS 1 (by decide) (7 * n9 + 4) (show 7 * n9 + 4 < 42 by omega) (ix_add (ix_mul rfl rfl) rfl) dL_law_1598 (fun H3 lH3 hB HS => ?_)
          refine lv_aload_n hx hb dL_law_1599 rfl (lv_at hl 1 rfl) ?_
          refine lv_iload hx hb dL_law_1600 (lv_at hl 11 rfl) ?_
          refine wb_q MC HS hB (rest := []) (As := [.int (nI n9)]) (th := th_approve τ (nI n9)) (rt := rt_approve τ (nI n9)) (τ2 := (nx_approve τ (nI n9))) (fun RR ad cn hX => q_approve hl9 hX hB.1) (fun E9 H9 hp => by obtain ⟨-, hp⟩ := hp; rcases hp with h9 | h9 <;> exact absurd ((tz_appr hI hn c_1562 (by rw [hap, hrs]; intro h9; have := neq_of (n := rs) rfl (by omega) (by omega) h9; omega)).symm.trans h9.1) (by decide)) rfl lkL_30 kw461 kw462 ⟨rfl, rfl, Nat.le_of_ble_eq_true rfl, Nat.le_of_ble_eq_true rfl, Nat.le_of_ble_eq_true rfl⟩ hR hl.1 rfl (Nat.le_of_ble_eq_true rfl) dL_law_1602 (by omega) (by omega) (fun nw8 ns8 nl8 nc8 H4 lH4 hB8 HS => ?_)
          have hB := hB8.at (n_same hI rfl)
          clear hB8
          rw [rz_appr hI hn]
          refine lv_aload_n hx hb dL_law_1605 rfl (lv_at hl 3 rfl) ?_
          refine lv_iload hx hb dL_law_1606 (lv_at hl 12 rfl) ?_
          refine lv_iconst (v := 4) hx hb dL_law_1608 (by decide) ?_
          refine lv_iadd hx hb dL_law_1609 ?_
          refine wb_iald MC hB 1 (by decide) (7 * n9 + 4) (show 7 * n9 + 4 < 42 by omega) (ix_add (ix_mul rfl rfl) rfl) ((congrFun (va_up_self ..) _).trans pk_us) dL_law_1610 ?_
          refine lv_icmp_eq (tgt := 1555) hx hb dL_law_1611 (by decide) (fun c_1611 => ?_) (fun c_1611 => absurd (rfl) c_1611)
          exact ih (nx_approve τ (nI n9)) nw ns nl nc _ _ _ _ _ ls (by omega) hB (ok_approve hO hn) hn ⟨ap + 1, rs, by rw [nx_approve, tc_n hI hn]; show upd (τ 15) n9 _ n9 = _; rw [pk_us, hap, nI_1], by rw [nx_approve]; exact hrs, hlt, by omega, hr3⟩ HS (by omega) (by omega) (lv_sub hl [0, 1, 2, 3, 4, 5, 6, 7, 8, 9, 10, 11, 12] rfl) (fun c9 s9 H1 locs1 ls1 h1 h2 => kk c9 s9 H1 locs1 ls1 (by omega) (by omega))
theorem ap_rs {τ : Tau} {nw ns nl nc n : Nat} (hI : Iv τ nw ns nl nc) (hn : n < nc) : ∃ ap rs : Nat, τ 15 n = nI ap ∧ τ 14 n = nI rs ∧ ap ≤ rs ∧ rs ≤ 3 := by
  obtain ⟨-, -, h14, h15, -⟩ := hI.2.2.2.2.2.2.2.2.2.2.1 n hn
  obtain ⟨rs, hrs1, hrs⟩ := nI_ex (x := τ 14 n) (n := 4) (by have := h14.1; lia) (by show τ 14 n < 4; have := h14.2; lia) (by omega)
  have h9 : τ 15 n < nI 4 := by show τ 15 n < 4; have := h15.2; have := h14.2; lia
  obtain ⟨ap, hap1, hap⟩ := nI_ex (x := τ 15 n) (n := 4) h15.1 h9 (by omega)
  refine ⟨ap, rs, hap, hrs, ?_, by omega⟩
  have h := h15.2
  rw [hap, hrs] at h
  exact (nI_leI (by omega) (by omega)).mp h
theorem wt_ix {x : Int32} {b w : Nat} (hx : x = nI b - nI w) (hb : b ≤ 672) (hw : w ≤ 672) (h1 : ¬ x ≤ 0) (h2 : ¬ 101 ≤ x) : ∃ h : Nat, x = nI h ∧ 1 ≤ h ∧ h ≤ 100 ∧ w + h = b := by
  have hbb := nI_b (n := b) (N := 672) hb (by omega)
  have hww := nI_b (n := w) (N := 672) hw (by omega)
  have e9 : nI 672 = 672 := rfl
  rw [e9] at hbb hww
  have hlt : w < b := by
    rcases Nat.lt_or_ge w b with h | h
    · exact h
    · have := nI_le h (by omega)
      exact absurd (show x ≤ 0 by rw [hx]; lia) h1
  have e : x = nI (b - w) := by rw [hx, pk_sub (by omega)]
  rw [e] at h2
  have : ¬ 101 ≤ b - w := fun h9 => h2 (nI_le (a := 101) h9 (by omega))
  exact ⟨b - w, e, by omega, by omega, by omega⟩
set_option maxHeartbeats 4000000 in
set_option maxRecDepth 100000 in
theorem l_begin {p : Program} {l : Launch} (hl9 : l.stackTraces = false) {e : Env} {R : Room} {s : State} {m : MethodId} {args : Array Value} {below : List Frame} {meth : Method} {c : Code} {H : Heap} {locs : List Loc} {cells slots : Nat} {Q : State → Prop} {D : va_G} {ids : Nat → ClassId} {n0 b t9 : Nat} {aa : Nat → Nat} {τ : Tau} {nw ns nl nc : Nat} {A : Tau} (MC : ro_C p s m args meth c cL_law 28 "FrostCalendarLaw" D ids n0) (HS : va_S (fun q => n0 ≤ q) s.heap H locs) (hB : wB D ids n0 aa τ nw ns nl nc A H) (hO : wOk τ ns nl nc A) (hR : 11 ≤ R.frames ∧ 400 ≤ R.locals) {sc la rk n9 k9 : Nat} {x9 y9 kd : Int32} (hsc : sc < ns) (hla : la < 4) (hrk1 : 1 ≤ rk) (hrk : rk < 4) (hn9 : (nc = 0 ∧ n9 = 0) ∨ n9 < nc) (hk9 : (nl = 0 ∧ k9 = 0) ∨ k9 < nl) (hcl : cells + 400 ≤ R.cells) (hsl : slots + 2400 ≤ R.slots) {ls : Array Slot} (hl : lv_has ls 28 [(0, .ref b), (1, .ref (aa 0)), (2, .ref (aa 11)), (3, .ref (aa 12)), (4, .ref (aa 13)), (5, .ref (aa 14)), (6, .ref (aa 15)), (7, .ref (aa 16)), (8, .ref (aa 17)), (9, .int (nI t9)), (10, .int x9), (11, .int y9), (12, .int kd), (13, .int (nI sc)), (14, .int (nI la)), (15, .int (nI rk)), (16, .int (nI n9)), (17, .int (nI k9)), (18, .int (nI (7 * nl)))])
    (kk : ∀ (c9 s9 : Nat) (H1 : Heap) (locs1 : List Loc) (ls1 : Array Slot), c9 ≤ cells + 400 → s9 ≤ slots + 2400 → wI D ids n0 aa H1 → va_S (fun q => n0 ≤ q) s.heap H1 locs1 → lv_has ls1 28 (lL b aa t9) → W p l e R s m args below meth c H1 locs1 c9 s9 Q (F0 m 2092 ls1 [])) : W p l e R s m args below meth c H locs cells slots Q (F0 m 1470 ls []) := by
  have hx := MC.1.1
  have hb := MC.1.2.1
  have hI := hB.1
  obtain ⟨⟨hns, hnl, hnc⟩, ⟨hg0, hg1, hg2, hg3⟩, hF, hC, hin, hof, hfe, hle⟩ := id hO
  refine lv_aload hx hb dL_law_1470 (lv_at hl 8 rfl) ?_
  refine lv_iconst (v := 3) hx hb dL_law_1472 (by decide) ?_
  refine wb_iald MC hB 6 (by decide) 3 (show 3 < 4 by omega) rfl (hg3.trans hI.2.2.2.1.1) dL_law_1473 ?_
  refine lv_if_ne (tgt := 1480) hx hb dL_law_1474 (by decide) (fun c_1474 => ?_) (fun c_1474 => ?_)
  · have h0 : ¬ nc = 0 := nneq_of (n := 0) rfl c_1474
    have hn : n9 < nc := by omega
    obtain ⟨-, ⟨b7, n7, hb7, hn7, h1n, hn1, hbn⟩, h14, h15, h17⟩ := hI.2.2.2.2.2.2.2.2.2.2.1 n9 hn
    obtain ⟨ap, rs, hap, hrs, har, hr3⟩ := ap_rs hI hn
    refine lv_bipush (v := 7) hx hb dL_law_1480 (by decide) ?_
    refine lv_iload hx hb dL_law_1482 (lv_at hl 16 rfl) ?_
    refine lv_imul hx hb dL_law_1484 ?_
    refine lv_istore (lv' := [(19, .int ((7 * nI n9))), (0, .ref b), (1, .ref (aa 0)), (2, .ref (aa 11)), (3, .ref (aa 12)), (4, .ref (aa 13)), (5, .ref (aa 14)), (6, .ref (aa 15)), (7, .ref (aa 16)), (8, .ref (aa 17)), (9, .int (nI t9)), (10, .int x9), (11, .int y9), (12, .int kd), (13, .int (nI sc)), (14, .int (nI la)), (15, .int (nI rk)), (16, .int (nI n9)), (17, .int (nI k9)), (18, .int (nI (7 * nl)))]) hx hb dL_law_1485 hl (by decide) rfl (fun ls hl => ?_)
    refine lv_aload_n hx hb dL_law_1487 rfl (lv_at hl 4 rfl) ?_
    refine lv_iload hx hb dL_law_1488 (lv_at hl 0 rfl) ?_
    refine lv_iconst (v := 1) hx hb dL_law_1490 (by decide) ?_
    refine lv_iadd hx hb dL_law_1491 ?_
    refine wb_iald MC hB 1 (by decide) (7 * n9 + 1) (show 7 * n9 + 1 < 42 by omega) (ix_add (ix_mul rfl rfl) rfl) ((hC n9 hn).2.1.trans hb7) dL_law_1492 ?_
    refine lv_aload hx hb dL_law_1493 (lv_at hl 9 rfl) ?_
    refine lv_iconst (v := 0) hx hb dL_law_1495 (by decide) ?_
    refine wb_iald MC hB 6 (by decide) 0 (show 0 < 4 by omega) rfl (hg0.trans hI.1.1) dL_law_1496 ?_
    refine lv_isub hx hb dL_law_1497 ?_
    refine lv_istore (lv' := [(20, .int ((nI b7 - nI nw))), (19, .int ((7 * nI n9))), (0, .ref b), (1, .ref (aa 0)), (2, .ref (aa 11)), (3, .ref (aa 12)), (4, .ref (aa 13)), (5, .ref (aa 14)), (6, .ref (aa 15)), (7, .ref (aa 16)), (8, .ref (aa 17)), (9, .int (nI t9)), (10, .int x9), (11, .int y9), (12, .int kd), (13, .int (nI sc)), (14, .int (nI la)), (15, .int (nI rk)), (16, .int (nI n9)), (17, .int (nI k9)), (18, .int (nI (7 * nl)))]) hx hb dL_law_1498 hl (by decide) rfl (fun ls hl => ?_)
    refine lv_aload_n hx hb dL_law_1500 rfl (lv_at hl 5 rfl) ?_
    refine lv_iload hx hb dL_law_1501 (lv_at hl 1 rfl) ?_
    refine lv_bipush (v := 6) hx hb dL_law_1503 (by decide) ?_
    refine lv_iadd hx hb dL_law_1505 ?_
    refine wb_iald MC hB 1 (by decide) (7 * n9 + 6) (show 7 * n9 + 6 < 42 by omega) (ix_add (ix_mul rfl rfl) rfl) ((hC n9 hn).2.2.2.2.2.2) dL_law_1506 ?_
    refine lv_if_ge (tgt := 1555) hx hb dL_law_1507 (by decide) (fun c_1507 => ?_) (fun c_1507 => ?_)
    · exact l_beg2 hl9 MC hR 3 τ nw ns nl nc _ _ _ _ _ ls (by omega) hB hO hn ⟨ap, rs, hap, hrs, har, by omega, hr3⟩ HS (by omega) (by omega) (lv_sub hl [2, 3, 4, 5, 6, 7, 8, 9, 10, 11, 13, 18, 1] rfl) (fun c9 s9 H1 locs1 ls1 h1 h2 => kk c9 s9 H1 locs1 ls1 (by omega) (by omega))
    · refine lv_iload hx hb dL_law_1510 (lv_at hl 0 rfl) ?_
      refine lv_if_le (tgt := 1555) hx hb dL_law_1512 (by decide) (fun c_1512 => ?_) (fun c_1512 => ?_)
      · exact l_beg2 hl9 MC hR 3 τ nw ns nl nc _ _ _ _ _ ls (by omega) hB hO hn ⟨ap, rs, hap, hrs, har, by omega, hr3⟩ HS (by omega) (by omega) (lv_sub hl [2, 3, 4, 5, 6, 7, 8, 9, 10, 11, 13, 18, 1] rfl) (fun c9 s9 H1 locs1 ls1 h1 h2 => kk c9 s9 H1 locs1 ls1 (by omega) (by omega))
      · refine lv_iload hx hb dL_law_1515 (lv_at hl 0 rfl) ?_
        refine lv_bipush (v := 101) hx hb dL_law_1517 (by decide) ?_
        refine lv_icmp_ge (tgt := 1555) hx hb dL_law_1519 (by decide) (fun c_1519 => ?_) (fun c_1519 => ?_)
        · exact l_beg2 hl9 MC hR 3 τ nw ns nl nc _ _ _ _ _ ls (by omega) hB hO hn ⟨ap, rs, hap, hrs, har, by omega, hr3⟩ HS (by omega) (by omega) (lv_sub hl [2, 3, 4, 5, 6, 7, 8, 9, 10, 11, 13, 18, 1] rfl) (fun c9 s9 H1 locs1 ls1 h1 h2 => kk c9 s9 H1 locs1 ls1 (by omega) (by omega))
        · refine lv_iload hx hb dL_law_1522 (lv_at hl 13 rfl) ?_
          refine lv_iconst (v := 2) hx hb dL_law_1524 (by decide) ?_
          refine wb_s MC HS (rest := []) (As := [.int y9, .int 2]) (by rw [show 2 = nI (2) from rfl]; exact y_low D ids n0 y9 (by omega) (by omega)) lkL_84 kw505 ⟨rfl, rfl, Nat.le_of_ble_eq_true rfl, Nat.le_of_ble_eq_true rfl, Nat.le_of_ble_eq_true rfl⟩ hR hl.1 rfl (Nat.le_of_ble_eq_true rfl) dL_law_1525 (by omega) (by omega) (fun v9 H2 lH2 hp HS => ?_)
          obtain ⟨q1, hq1, rfl, rfl⟩ := hp
          refine lv_if_ne (tgt := 1555) hx hb dL_law_1528 (by decide) (fun c_1528 => ?_) (fun c_1528 => ?_)
          · exact l_beg2 hl9 MC hR 3 τ nw ns nl nc _ _ _ _ _ ls (by omega) hB hO hn ⟨ap, rs, hap, hrs, har, by omega, hr3⟩ HS (by omega) (by omega) (lv_sub hl [2, 3, 4, 5, 6, 7, 8, 9, 10, 11, 13, 18, 1] rfl) (fun c9 s9 H1 locs1 ls1 h1 h2 => kk c9 s9 H1 locs1 ls1 (by omega) (by omega))
          · obtain ⟨w7, hw7, hw1, hw2, hw3⟩ := wt_ix (x := nI b7 - nI nw) rfl (by omega) (by have := hI.1.2; omega) c_1512 c_1519
            refine lv_aload hx hb dL_law_1531 (lv_at hl 10 rfl) ?_
            refine lv_iconst (v := 0) hx hb dL_law_1533 (by decide) ?_
            refine lv_dup2_11 hx hb dL_law_1534 rfl rfl ?_
            refine wb_iald MC hB 6 (by decide) 0 (show 0 < 4 by omega) rfl (hg0.trans hI.1.1) dL_law_1535 ?_
            refine lv_iload hx hb dL_law_1536 (lv_at hl 0 rfl) ?_
            refine lv_iadd hx hb dL_law_1538 ?_
            refine wb_iast MC hB HS 6 (by decide) 0 (show 0 < 4 by omega) rfl dL_law_1539 (fun H3 lH3 hB HS => ?_)
            refine lv_aload_n hx hb dL_law_1540 rfl (lv_at hl 3 rfl) ?_
            refine lv_iload hx hb dL_law_1541 (lv_at hl 0 rfl) ?_
            refine wb_q MC HS hB (rest := []) (As := [.int (nI b7 - nI nw)]) (th := th_pass τ (nI b7 - nI nw)) (rt := rt_pass τ (nI b7 - nI nw)) (τ2 := (nx_pass τ (nI b7 - nI nw))) (fun RR ad cn hX => q_pass hl9 hX hB.1) (fun E9 H9 hp => by obtain ⟨-, hp⟩ := hp; rcases hp with h9 | h9 <;> exact absurd ((by rw [hw7]; exact tz_pass hI hw1 hw2 (by omega) : th_pass τ (nI b7 - nI nw) = 0).symm.trans h9.1) (by decide)) rfl lkL_43 kw232 kw233 ⟨rfl, rfl, Nat.le_of_ble_eq_true rfl, Nat.le_of_ble_eq_true rfl, Nat.le_of_ble_eq_true rfl⟩ hR hl.1 rfl (Nat.le_of_ble_eq_true rfl) dL_law_1543 (by omega) (by omega) (fun nw8 ns8 nl8 nc8 H4 lH4 hB8 HS => ?_)
            have hB := hB8.at (by rw [hw7]; exact n_pass hI hw2 : iN (nx_pass τ (nI b7 - nI nw)) (nw + w7) ns nl nc)
            clear hB8
            rw [show rt_pass τ (nI b7 - nI nw) = nI nw + (nI b7 - nI nw) by rw [rt_pass, hI.1.1]]
            refine lv_aload hx hb dL_law_1546 (lv_at hl 10 rfl) ?_
            refine lv_iconst (v := 0) hx hb dL_law_1548 (by decide) ?_
            refine wb_iald MC hB 6 (by decide) 0 (show 0 < 4 by omega) rfl ((congrFun (va_up_self ..) _).trans pk_us) dL_law_1549 ?_
            refine lv_icmp_eq (tgt := 1555) hx hb dL_law_1550 (by decide) (fun c_1550 => ?_) (fun c_1550 => absurd (rfl) c_1550)
            have hO1 : wOk (nx_pass τ (nI b7 - nI nw)) ns nl nc (ti A 6 0 (nI nw + (nI b7 - nI nw))) := ok_pass hI hO
            exact l_beg2 hl9 MC hR 3 (nx_pass τ (nI b7 - nI nw)) (nw + w7) ns nl nc _ _ _ _ _ ls (by omega) hB hO1 hn ⟨ap, rs, hap, hrs, har, by omega, hr3⟩ HS (by omega) (by omega) (lv_sub hl [2, 3, 4, 5, 6, 7, 8, 9, 10, 11, 13, 18, 1] rfl) (fun c9 s9 H1 locs1 ls1 h1 h2 => kk c9 s9 H1 locs1 ls1 (by omega) (by omega))
  · refine lv_goto (tgt := 2092) hx hb dL_law_1477 (by decide) ?_
    exact kk _ _ _ _ ls (by omega) (by omega) ⟨_, _, _, _, _, _, hB, hO⟩ HS (lv_sub hl [0, 1, 2, 3, 4, 5, 6, 7, 8, 9] rfl)
