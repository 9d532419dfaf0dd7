theorem nge_of {x n : Nat} {y : Int32} (hy : y = nI n) (hx : x < 2 ^ 31) (hn : n < 2 ^ 31) (h : y ≤ nI x) : n ≤ x := by
  rw [hy] at h
  exact (nI_leI hn hx).mp h
theorem tz_plan {τ : Tau} {nw ns nl nc sc rk f n : Nat} (hI : Iv τ nw ns nl nc) (h6 : nc < 6) (hsc : sc < ns) (h1 : 1 ≤ rk) (h2 : rk < 4) (hf : nw ≤ f) (hn1 : 1 ≤ n) (hn2 : n ≤ 100) (hfn : f + n ≤ 672) : th_plan τ (nI sc) (nI f) (nI n) (nI rk) = 0 := by
  unfold th_plan
  have e1 : 1 ≤ nI n ∧ nI n ≤ 100 := ⟨nI_le (a := 1) hn1 (by omega), nI_le (b := 100) hn2 (by omega)⟩
  have e2 : okP τ (nI f) (nI n) := by
    refine ⟨?_, nI_lt (b := 672) (by omega) (by omega), ?_⟩
    · rw [hI.1.1]; exact nI_le hf (by omega)
    · rw [nI_add]; exact nI_le (b := 672) hfn (by omega)
  have e3 : ¬ τ 0 3 = 30 := by
    rw [hI.2.2.2.1.1]
    intro h
    have := neq_of (n := 30) rfl (by omega) (by omega) h
    omega
  rw [if_neg (fun h => h (tz_S hI hsc)), if_neg (fun h => h ⟨e1, tz_R h1 h2, e2⟩), if_neg e3]
theorem tz_C {τ : Tau} {nw ns nl nc n : Nat} (hI : Iv τ nw ns nl nc) (hn : n < nc) : okC τ (nI n) := ix_ok hI.2.2.2.1.1 (by have := hI.2.2.2.1.2; omega) hn
theorem tc_n {τ : Tau} {nw ns nl nc n : Nat} (hI : Iv τ nw ns nl nc) (hn : n < nc) : cx (nI n) = n := cx_nI (by have := hI.2.2.2.1.2; omega)
theorem tf_move2 {τ : Tau} {nw ns nl nc n f n7 : Nat} (hI : Iv τ nw ns nl nc) (hn : n < nc) (hn7 : τ 13 n = nI n7) (hb : f + n7 ≤ 2000) (h : ¬ f + n7 ≤ 672) : th_move τ (nI n) (nI f) = 2 := by
  unfold th_move
  rw [tc_n hI hn, hn7, if_neg (fun h9 => h9 (tz_C hI hn)), if_pos]
  rintro ⟨-, -, h3⟩
  rw [nI_add] at h3
  exact h (nle_of (n := 672) rfl (by omega) (by omega) h3)
theorem tm_P {τ : Tau} {nw ns nl nc f n7 : Nat} (hI : Iv τ nw ns nl nc) (h1 : 1 ≤ n7) (h0 : nw ≤ f) (h : f + n7 ≤ 672) : okP τ (nI f) (nI n7) := by
  refine ⟨?_, nI_lt (b := 672) (by omega) (by omega), ?_⟩
  · rw [hI.1.1]; exact nI_le h0 (by omega)
  · rw [nI_add]; exact nI_le (b := 672) h (by omega)
theorem t17_n {τ : Tau} {nw ns nl nc n : Nat} (hI : Iv τ nw ns nl nc) (hn : n < nc) (h : ¬ τ 17 n < 0) : ¬ τ 17 n = -1 := fun h9 => h (by rw [h9]; decide)
theorem t17_p {τ : Tau} {nw ns nl nc n : Nat} (hI : Iv τ nw ns nl nc) (hn : n < nc) (h : τ 17 n < 0) : τ 17 n = -1 := by
  obtain ⟨-, -, -, -, h17⟩ := hI.2.2.2.2.2.2.2.2.2.2.1 n hn
  rcases h17 with h9 | ⟨q, hq, h9⟩
  · exact h9
  · rw [h9] at h
    exact absurd h (nI_pos (by have := hI.2.2.1.2; omega))
theorem tf_move3 {τ : Tau} {nw ns nl nc n f n7 : Nat} (hI : Iv τ nw ns nl nc) (hn : n < nc) (hn7 : τ 13 n = nI n7) (h1 : 1 ≤ n7) (h0 : nw ≤ f) (h : f + n7 ≤ 672) (h17 : ¬ τ 17 n < 0) : th_move τ (nI n) (nI f) = 3 := by
  unfold th_move
  rw [tc_n hI hn, hn7, if_neg (fun h9 => h9 (tz_C hI hn)), if_neg (fun h9 => h9 (tm_P hI h1 h0 h)), if_pos (t17_n hI hn h17)]
theorem tz_move {τ : Tau} {nw ns nl nc n f n7 : Nat} (hI : Iv τ nw ns nl nc) (hn : n < nc) (hn7 : τ 13 n = nI n7) (h1 : 1 ≤ n7) (h0 : nw ≤ f) (h : f + n7 ≤ 672) (h17 : τ 17 n < 0) : th_move τ (nI n) (nI f) = 0 := by
  unfold th_move
  rw [tc_n hI hn, hn7, if_neg (fun h9 => h9 (tz_C hI hn)), if_neg (fun h9 => h9 (tm_P hI h1 h0 h)), if_neg (fun h9 => h9 (t17_p hI hn h17))]
theorem rz_move {τ : Tau} {nw ns nl nc n : Nat} {f : Int32} (hI : Iv τ nw ns nl nc) (hn : n < nc) : rt_move τ (nI n) f = nI (badN (nx_move τ (nI n) f) n) := by rw [rt_move, tc_n hI hn]
theorem tC_0 {τ : Tau} {nw ns nl nc n : Nat} (hI : Iv τ nw ns nl nc) (hn : n < 100) (h : ¬ n < nc) : ¬ okC τ (nI n) := by
  intro h9
  obtain ⟨q, hq, hqe, -⟩ := hI.c h9
  have := neq_of (n := q) rfl (by omega) (by have := hI.2.2.2.1.2; omega) hqe
  omega
theorem tf_appr1 {τ : Tau} {nw ns nl nc n : Nat} (hI : Iv τ nw ns nl nc) (hn : n < nc) (h : 0 ≤ τ 17 n) : th_approve τ (nI n) = 2 := by
  unfold th_approve
  rw [tc_n hI hn, if_neg (fun h9 => h9 (tz_C hI hn)), if_pos (Or.inl (fun h9 => absurd h (by rw [h9]; decide)))]
theorem tf_appr2 {τ : Tau} {nw ns nl nc n : Nat} (hI : Iv τ nw ns nl nc) (hn : n < nc) (h : τ 15 n = τ 14 n) : th_approve τ (nI n) = 2 := by
  unfold th_approve
  rw [tc_n hI hn, if_neg (fun h9 => h9 (tz_C hI hn)), if_pos (Or.inr h)]
theorem t17_q {τ : Tau} {nw ns nl nc n : Nat} (hI : Iv τ nw ns nl nc) (hn : n < nc) (h : ¬ 0 ≤ τ 17 n) : τ 17 n = -1 := by
  obtain ⟨-, -, -, -, h17⟩ := hI.2.2.2.2.2.2.2.2.2.2.1 n hn
  rcases h17 with h9 | ⟨q, hq, h9⟩
  · exact h9
  · rw [h9] at h
    exact absurd (nI_pos' (by have := hI.2.2.1.2; omega)) h
theorem tz_appr {τ : Tau} {nw ns nl nc n : Nat} (hI : Iv τ nw ns nl nc) (hn : n < nc) (h17 : ¬ 0 ≤ τ 17 n) (h : ¬ τ 15 n = τ 14 n) : th_approve τ (nI n) = 0 := by
  unfold th_approve
  rw [tc_n hI hn, if_neg (fun h9 => h9 (tz_C hI hn)), if_neg (fun h9 => h9.elim (fun h9 => h9 (t17_q hI hn h17)) h)]
theorem rz_appr {τ : Tau} {nw ns nl nc n : Nat} (hI : Iv τ nw ns nl nc) (hn : n < nc) : rt_approve τ (nI n) = τ 15 n + 1 := by rw [rt_approve, tc_n hI hn]
set_option maxHeartbeats 4000000 in
set_option maxRecDepth 100000 in
theorem l_plan {p : Program} {l : Launch} (hl9 : l.stackTraces = false) {e : Env} {R : Room} {s : State} {m : MethodId} {args : Array Value} {below : List Frame} {meth : Method} {c : Code} {H : Heap} {locs : List Loc} {cells slots : Nat} {Q : State → Prop} {D : va_G} {ids : Nat → ClassId} {n0 b t9 : Nat} {aa : Nat → Nat} {τ : Tau} {nw ns nl nc : Nat} {A : Tau} (MC : ro_C p s m args meth c cL_law 28 "FrostCalendarLaw" D ids n0) (HS : va_S (fun q => n0 ≤ q) s.heap H locs) (hB : wB D ids n0 aa τ nw ns nl nc A H) (hO : wOk τ ns nl nc A) (hR : 11 ≤ R.frames ∧ 400 ≤ R.locals) {sc la rk n9 k9 : Nat} {x9 y9 kd : Int32} (hsc : sc < ns) (hla : la < 4) (hrk1 : 1 ≤ rk) (hrk : rk < 4) (hn9 : (nc = 0 ∧ n9 = 0) ∨ n9 < nc) (hk9 : (nl = 0 ∧ k9 = 0) ∨ k9 < nl) (hcl : cells + 400 ≤ R.cells) (hsl : slots + 2400 ≤ R.slots) {ls : Array Slot} (hl : lv_has ls 28 [(0, .ref b), (1, .ref (aa 0)), (2, .ref (aa 11)), (3, .ref (aa 12)), (4, .ref (aa 13)), (5, .ref (aa 14)), (6, .ref (aa 15)), (7, .ref (aa 16)), (8, .ref (aa 17)), (9, .int (nI t9)), (10, .int x9), (11, .int y9), (12, .int kd), (13, .int (nI sc)), (14, .int (nI la)), (15, .int (nI rk)), (16, .int (nI n9)), (17, .int (nI k9)), (18, .int (nI (7 * nl)))])
    (kk : ∀ (c9 s9 : Nat) (H1 : Heap) (locs1 : List Loc) (ls1 : Array Slot), c9 ≤ cells + 400 → s9 ≤ slots + 2400 → wI D ids n0 aa H1 → va_S (fun q => n0 ≤ q) s.heap H1 locs1 → lv_has ls1 28 (lL b aa t9) → W p l e R s m args below meth c H1 locs1 c9 s9 Q (F0 m 2092 ls1 [])) : W p l e R s m args below meth c H locs cells slots Q (F0 m 801 ls []) := by
  have hx := MC.1.1
  have hb := MC.1.2.1
  have hI := hB.1
  obtain ⟨⟨hns, hnl, hnc⟩, ⟨hg0, hg1, hg2, hg3⟩, hF, hC, hin, hof, hfe, hle⟩ := id hO
  refine lv_iconst (v := 1) hx hb dL_law_801 (by decide) ?_
  refine lv_iload hx hb dL_law_802 (lv_at hl 11 rfl) ?_
  refine lv_bipush (v := 9) hx hb dL_law_804 (by decide) ?_
  refine lv_ishr hx hb dL_law_806 ?_
  refine lv_bipush (v := 30) hx hb dL_law_807 (by decide) ?_
  refine wb_s MC HS (rest := [.int 1]) (As := [.int (y9 >>> (9 &&& 31)), .int 30]) (by rw [show 30 = nI (30) from rfl]; exact y_low D ids n0 (y9 >>> (9 &&& 31)) (by omega) (by omega)) lkL_84 kw505 ⟨rfl, rfl, Nat.le_of_ble_eq_true rfl, Nat.le_of_ble_eq_true rfl, Nat.le_of_ble_eq_true rfl⟩ hR hl.1 rfl (Nat.le_of_ble_eq_true rfl) dL_law_809 (by omega) (by omega) (fun v9 H2 lH2 hp HS => ?_)
  obtain ⟨q1, hq1, rfl, rfl⟩ := hp
  refine lv_iadd hx hb dL_law_812 ?_
  rw [show (1 + nI q1) = nI (1 + q1) from (ix_add rfl rfl)]
  refine lv_istore (lv' := [(19, .int (nI (1 + q1))), (0, .ref b), (1, .ref (aa 0)), (2, .ref (aa 11)), (3, .ref (aa 12)), (4, .ref (aa 13)), (5, .ref (aa 14)), (6, .ref (aa 15)), (7, .ref (aa 16)), (8, .ref (aa 17)), (9, .int (nI t9)), (10, .int x9), (11, .int y9), (12, .int kd), (13, .int (nI sc)), (14, .int (nI la)), (15, .int (nI rk)), (16, .int (nI n9)), (17, .int (nI k9)), (18, .int (nI (7 * nl)))]) hx hb dL_law_813 hl (by decide) rfl (fun ls hl => ?_)
  refine lv_aload hx hb dL_law_815 (lv_at hl 9 rfl) ?_
  refine lv_iconst (v := 3) hx hb dL_law_817 (by decide) ?_
  refine wb_iald MC hB 6 (by decide) 3 (show 3 < 4 by omega) rfl (hg3.trans hI.2.2.2.1.1) dL_law_818 ?_
  refine lv_bipush (v := 6) hx hb dL_law_819 (by decide) ?_
  refine lv_icmp_eq (tgt := 2092) hx hb dL_law_821 (by decide) (fun c_821 => ?_) (fun c_821 => ?_)
  · exact kk _ _ _ _ ls (by omega) (by omega) ⟨_, _, _, _, _, _, hB, hO⟩ HS (lv_sub hl [1, 2, 3, 4, 5, 6, 7, 8, 9, 10] rfl)
  · have h6 : nc < 6 := by have : nc ≠ 6 := fun e9 => c_821 (by rw [e9]; rfl); omega
    refine lv_aload hx hb dL_law_824 (lv_at hl 9 rfl) ?_
    refine lv_iconst (v := 0) hx hb dL_law_826 (by decide) ?_
    refine wb_iald MC hB 6 (by decide) 0 (show 0 < 4 by omega) rfl (hg0.trans hI.1.1) dL_law_827 ?_
    refine lv_iload hx hb dL_law_828 (lv_at hl 0 rfl) ?_
    refine lv_iadd hx hb dL_law_830 ?_
    rw [show (nI nw + nI (1 + q1)) = nI (nw + (1 + q1)) from (ix_add rfl rfl)]
    refine lv_sipush (v := 672) hx hb dL_law_831 (by decide) ?_
    refine lv_icmp_le (tgt := 840) hx hb dL_law_834 (by decide) (fun c_834 => ?_) (fun c_834 => ?_)
    · have hp9 : nw + (1 + q1) ≤ 672 := nle_of rfl (by have := hI.1.2; omega) (by omega) c_834
      refine lv_bipush (v := 7) hx hb dL_law_840 (by decide) ?_
      refine lv_aload hx hb dL_law_842 (lv_at hl 9 rfl) ?_
      refine lv_iconst (v := 3) hx hb dL_law_844 (by decide) ?_
      refine wb_iald MC hB 6 (by decide) 3 (show 3 < 4 by omega) rfl (hg3.trans hI.2.2.2.1.1) dL_law_845 ?_
      refine lv_imul hx hb dL_law_846 ?_
      refine lv_istore (lv' := [(20, .int ((7 * nI nc))), (19, .int (nI (1 + q1))), (0, .ref b), (1, .ref (aa 0)), (2, .ref (aa 11)), (3, .ref (aa 12)), (4, .ref (aa 13)), (5, .ref (aa 14)), (6, .ref (aa 15)), (7, .ref (aa 16)), (8, .ref (aa 17)), (9, .int (nI t9)), (10, .int x9), (11, .int y9), (12, .int kd), (13, .int (nI sc)), (14, .int (nI la)), (15, .int (nI rk)), (16, .int (nI n9)), (17, .int (nI k9)), (18, .int (nI (7 * nl)))]) hx hb dL_law_847 hl (by decide) rfl (fun ls hl => ?_)
      refine lv_aload_n hx hb dL_law_849 rfl (lv_at hl 5 rfl) ?_
      refine lv_iload hx hb dL_law_850 (lv_at hl 0 rfl) ?_
      refine lv_iload hx hb dL_law_852 (lv_at hl 15 rfl) ?_
      refine wb_iast MC hB HS 1 (by decide) (7 * nc) (show 7 * nc < 42 by omega) (ix_mul rfl rfl) dL_law_854 (fun H3 lH3 hB HS => ?_)
      refine lv_aload_n hx hb dL_law_855 rfl (lv_at hl 5 rfl) ?_
      refine lv_iload hx hb dL_law_856 (lv_at hl 0 rfl) ?_
      refine lv_iconst (v := 1) hx hb dL_law_858 (by decide) ?_
      refine lv_iadd hx hb dL_law_859 ?_
      refine lv_aload hx hb dL_law_860 (lv_at hl 10 rfl) ?_
      refine lv_iconst (v := 0) hx hb dL_law_862 (by decide) ?_
      refine wb_iald MC hB 6 (by decide) 0 (show 0 < 4 by omega) rfl ((congrFun (va_up_ne _ _ (by decide)) _).trans (hg0.trans hI.1.1)) dL_law_863 ?_
      refine lv_iload hx hb dL_law_864 (lv_at hl 13 rfl) ?_
      refine lv_sipush (v := 673) hx hb dL_law_866 (by decide) ?_
      refine lv_iload hx hb dL_law_869 (lv_at hl 1 rfl) ?_
      refine lv_isub hx hb dL_law_871 ?_
      rw [show (673 - nI (1 + q1)) = nI (673 - (1 + q1)) from ix_sub (x := 673) rfl rfl (by omega)]
      refine lv_aload hx hb dL_law_872 (lv_at hl 10 rfl) ?_
      refine lv_iconst (v := 0) hx hb dL_law_874 (by decide) ?_
      refine wb_iald MC hB 6 (by decide) 0 (show 0 < 4 by omega) rfl ((congrFun (va_up_ne _ _ (by decide)) _).trans (hg0.trans hI.1.1)) dL_law_875 ?_
      refine lv_isub hx hb dL_law_876 ?_
      rw [show (nI (673 - (1 + q1)) - nI nw) = nI (673 - (1 + q1) - nw) from ix_sub rfl rfl (by omega)]
      refine lv_bipush (v := 20) hx hb dL_law_877 (by decide) ?_
      refine lv_icmp_ge (tgt := 896) hx hb dL_law_879 (by decide) (fun c_879 => ?_) (fun c_879 => ?_)
      · have h20 : 20 ≤ 673 - (1 + q1) - nw := nge_of rfl (by omega) (by omega) c_879
        refine lv_bipush (v := 20) hx hb dL_law_896 (by decide) ?_
        refine wb_s MC HS (rest := [.int (nI nw), .int (((7 * nI nc) + 1)), .ref (aa 12)]) (As := [.int y9, .int 20]) (by rw [show 20 = nI (20) from rfl]; exact y_low D ids n0 y9 (by omega) (by omega)) lkL_84 kw505 ⟨rfl, rfl, Nat.le_of_ble_eq_true rfl, Nat.le_of_ble_eq_true rfl, Nat.le_of_ble_eq_true rfl⟩ hR hl.1 rfl (Nat.le_of_ble_eq_true rfl) dL_law_898 (by omega) (by omega) (fun v9 H5 lH5 hp HS => ?_)
        obtain ⟨q4, hq4, rfl, rfl⟩ := hp
        refine lv_iadd hx hb dL_law_901 ?_
        rw [show (nI nw + nI q4) = nI (nw + q4) from (ix_add rfl rfl)]
        refine wb_iast MC hB HS 1 (by decide) (7 * nc + 1) (show 7 * nc + 1 < 42 by omega) (ix_add (ix_mul rfl rfl) rfl) dL_law_902 (fun H6 lH6 hB HS => ?_)
        refine lv_aload_n hx hb dL_law_903 rfl (lv_at hl 5 rfl) ?_
        refine lv_iload hx hb dL_law_904 (lv_at hl 0 rfl) ?_
        refine lv_iconst (v := 2) hx hb dL_law_906 (by decide) ?_
        refine lv_iadd hx hb dL_law_907 ?_
        refine lv_iload hx hb dL_law_908 (lv_at hl 1 rfl) ?_
        refine wb_iast MC hB HS 1 (by decide) (7 * nc + 2) (show 7 * nc + 2 < 42 by omega) (ix_add (ix_mul rfl rfl) rfl) dL_law_910 (fun H7 lH7 hB HS => ?_)
        refine lv_aload_n hx hb dL_law_911 rfl (lv_at hl 5 rfl) ?_
        refine lv_iload hx hb dL_law_912 (lv_at hl 0 rfl) ?_
        refine lv_iconst (v := 3) hx hb dL_law_914 (by decide) ?_
        refine lv_iadd hx hb dL_law_915 ?_
        refine lv_iload hx hb dL_law_916 (lv_at hl 17 rfl) ?_
        refine wb_iast MC hB HS 1 (by decide) (7 * nc + 3) (show 7 * nc + 3 < 42 by omega) (ix_add (ix_mul rfl rfl) rfl) dL_law_918 (fun H8 lH8 hB HS => ?_)
        refine lv_aload_n hx hb dL_law_919 rfl (lv_at hl 5 rfl) ?_
        refine lv_iload hx hb dL_law_920 (lv_at hl 0 rfl) ?_
        refine lv_iconst (v := 4) hx hb dL_law_922 (by decide) ?_
        refine lv_iadd hx hb dL_law_923 ?_
        refine lv_iconst (v := 0) hx hb dL_law_924 (by decide) ?_
        refine wb_iast MC hB HS 1 (by decide) (7 * nc + 4) (show 7 * nc + 4 < 42 by omega) (ix_add (ix_mul rfl rfl) rfl) dL_law_925 (fun H9 lH9 hB HS => ?_)
        refine lv_aload_n hx hb dL_law_926 rfl (lv_at hl 5 rfl) ?_
        refine lv_iload hx hb dL_law_927 (lv_at hl 0 rfl) ?_
        refine lv_iconst (v := 5) hx hb dL_law_929 (by decide) ?_
        refine lv_iadd hx hb dL_law_930 ?_
        refine lv_iconst (v := 0) hx hb dL_law_931 (by decide) ?_
        refine wb_iast MC hB HS 1 (by decide) (7 * nc + 5) (show 7 * nc + 5 < 42 by omega) (ix_add (ix_mul rfl rfl) rfl) dL_law_932 (fun H10 lH10 hB HS => ?_)
        refine lv_aload_n hx hb dL_law_933 rfl (lv_at hl 5 rfl) ?_
        refine lv_iload hx hb dL_law_934 (lv_at hl 0 rfl) ?_
        refine lv_bipush (v := 6) hx hb dL_law_936 (by decide) ?_
        refine lv_iadd hx hb dL_law_938 ?_
        refine lv_iconst (v := (-1)) hx hb dL_law_939 (by decide) ?_
        refine wb_iast MC hB HS 1 (by decide) (7 * nc + 6) (show 7 * nc + 6 < 42 by omega) (ix_add (ix_mul rfl rfl) rfl) dL_law_940 (fun H11 lH11 hB HS => ?_)
        refine lv_aload hx hb dL_law_941 (lv_at hl 10 rfl) ?_
        refine lv_iconst (v := 3) hx hb dL_law_943 (by decide) ?_
        refine lv_dup2_11 hx hb dL_law_944 rfl rfl ?_
        refine wb_iald MC hB 6 (by decide) 3 (show 3 < 4 by omega) rfl ((congrFun (va_up_ne _ _ (by decide)) _).trans ((congrFun (va_up_ne _ _ (by decide)) _).trans ((congrFun (va_up_ne _ _ (by decide)) _).trans ((congrFun (va_up_ne _ _ (by decide)) _).trans ((congrFun (va_up_ne _ _ (by decide)) _).trans ((congrFun (va_up_ne _ _ (by decide)) _).trans ((congrFun (va_up_ne _ _ (by decide)) _).trans (hg3.trans hI.2.2.2.1.1)))))))) dL_law_945 ?_
        refine lv_iconst (v := 1) hx hb dL_law_946 (by decide) ?_
        refine lv_iadd hx hb dL_law_947 ?_
        refine wb_iast MC hB HS 6 (by decide) 3 (show 3 < 4 by omega) rfl dL_law_948 (fun H12 lH12 hB HS => ?_)
        refine lv_aload_n hx hb dL_law_949 rfl (lv_at hl 3 rfl) ?_
        refine lv_iload hx hb dL_law_950 (lv_at hl 15 rfl) ?_
        refine lv_aload_n hx hb dL_law_952 rfl (lv_at hl 5 rfl) ?_
        refine lv_iload hx hb dL_law_953 (lv_at hl 0 rfl) ?_
        refine lv_iconst (v := 1) hx hb dL_law_955 (by decide) ?_
        refine lv_iadd hx hb dL_law_956 ?_
        refine wb_iald MC hB 1 (by decide) (7 * nc + 1) (show 7 * nc + 1 < 42 by omega) (ix_add (ix_mul rfl rfl) rfl) ((congrFun (va_up_ne _ _ (by decide)) _).trans ((congrFun (va_up_self ..) _).trans ((pk_un (by omega)).trans ((congrFun (va_up_self ..) _).trans ((pk_un (by omega)).trans ((congrFun (va_up_self ..) _).trans ((pk_un (by omega)).trans ((congrFun (va_up_self ..) _).trans ((pk_un (by omega)).trans ((congrFun (va_up_self ..) _).trans ((pk_un (by omega)).trans ((congrFun (va_up_self ..) _).trans pk_us)))))))))))) dL_law_957 ?_
        refine lv_iload hx hb dL_law_958 (lv_at hl 1 rfl) ?_
        refine lv_iload hx hb dL_law_960 (lv_at hl 17 rfl) ?_
        refine wb_q MC HS hB (rest := []) (As := [.int (nI sc), .int (nI (nw + q4)), .int (nI (1 + q1)), .int (nI rk)]) (th := th_plan τ (nI sc) (nI (nw + q4)) (nI (1 + q1)) (nI rk)) (rt := rt_plan τ (nI sc) (nI (nw + q4)) (nI (1 + q1)) (nI rk)) (τ2 := (nx_plan τ (nI sc) (nI (nw + q4)) (nI (1 + q1)) (nI rk))) (fun RR ad cn hX => q_plan hl9 hX hB.1) (fun E9 H9 hp => by obtain ⟨-, hp⟩ := hp; rcases hp with h9 | h9 | h9 <;> exact absurd ((tz_plan hI h6 hsc hrk1 hrk (by omega) (by omega) (by omega) (by omega)).symm.trans h9.1) (by decide)) rfl lkL_113 kw392 kw393 ⟨rfl, rfl, Nat.le_of_ble_eq_true rfl, Nat.le_of_ble_eq_true rfl, Nat.le_of_ble_eq_true rfl⟩ hR hl.1 rfl (Nat.le_of_ble_eq_true rfl) dL_law_962 (by omega) (by omega) (fun nw8 ns8 nl8 nc8 H13 lH13 hB8 HS => ?_)
        have hB := hB8.at (n_plan hI)
        clear hB8
        rw [show rt_plan τ _ _ _ _ = nI nc from hI.2.2.2.1.1]
        refine lv_aload hx hb dL_law_965 (lv_at hl 10 rfl) ?_
        refine lv_iconst (v := 3) hx hb dL_law_967 (by decide) ?_
        refine wb_iald MC hB 6 (by decide) 3 (show 3 < 4 by omega) rfl ((congrFun (va_up_self ..) _).trans pk_us) dL_law_968 ?_
        refine lv_iconst (v := 1) hx hb dL_law_969 (by decide) ?_
        refine lv_isub hx hb dL_law_970 ?_
        refine lv_icmp_eq (tgt := 976) hx hb dL_law_971 (by decide) (fun c_971 => ?_) (fun c_971 => absurd (s1_eq _) c_971)
        refine lv_goto (tgt := 2040) hx hb dL_law_976 (by decide) ?_
        exact l_chk hl9 MC HS hB (ok_plan hI hO h6) hR (by omega) (by omega) (lv_sub hl [2, 3, 4, 5, 6, 7, 8, 9, 10, 11] rfl) (fun c9 s9 H1 locs1 ls1 h1 h2 => kk c9 s9 H1 locs1 ls1 (by omega) (by omega))
      · refine lv_sipush (v := 673) hx hb dL_law_882 (by decide) ?_
        refine lv_iload hx hb dL_law_885 (lv_at hl 1 rfl) ?_
        refine lv_isub hx hb dL_law_887 ?_
        rw [show (673 - nI (1 + q1)) = nI (673 - (1 + q1)) from ix_sub (x := 673) rfl rfl (by omega)]
        refine lv_aload hx hb dL_law_888 (lv_at hl 10 rfl) ?_
        refine lv_iconst (v := 0) hx hb dL_law_890 (by decide) ?_
        refine wb_iald MC hB 6 (by decide) 0 (show 0 < 4 by omega) rfl ((congrFun (va_up_ne _ _ (by decide)) _).trans (hg0.trans hI.1.1)) dL_law_891 ?_
        refine lv_isub hx hb dL_law_892 ?_
        rw [show (nI (673 - (1 + q1)) - nI nw) = nI (673 - (1 + q1) - nw) from ix_sub rfl rfl (by omega)]
        refine lv_goto (tgt := 898) hx hb dL_law_893 (by decide) ?_
        refine wb_s MC HS (rest := [.int (nI nw), .int (((7 * nI nc) + 1)), .ref (aa 12)]) (As := [.int y9, .int (nI (673 - (1 + q1) - nw))]) (by rw [show (nI (673 - (1 + q1) - nw)) = nI (673 - (1 + q1) - nw) from rfl]; exact y_low D ids n0 y9 (by omega) (by omega)) lkL_84 kw505 ⟨rfl, rfl, Nat.le_of_ble_eq_true rfl, Nat.le_of_ble_eq_true rfl, Nat.le_of_ble_eq_true rfl⟩ hR hl.1 rfl (Nat.le_of_ble_eq_true rfl) dL_law_898 (by omega) (by omega) (fun v9 H15 lH15 hp HS => ?_)
        obtain ⟨q14, hq14, rfl, rfl⟩ := hp
        refine lv_iadd hx hb dL_law_901 ?_
        rw [show (nI nw + nI q14) = nI (nw + q14) from (ix_add rfl rfl)]
        refine wb_iast MC hB HS 1 (by decide) (7 * nc + 1) (show 7 * nc + 1 < 42 by omega) (ix_add (ix_mul rfl rfl) rfl) dL_law_902 (fun H16 lH16 hB HS => ?_)
        refine lv_aload_n hx hb dL_law_903 rfl (lv_at hl 5 rfl) ?_
        refine lv_iload hx hb dL_law_904 (lv_at hl 0 rfl) ?_
        refine lv_iconst (v := 2) hx hb dL_law_906 (by decide) ?_
        refine lv_iadd hx hb dL_law_907 ?_
        refine lv_iload hx hb dL_law_908 (lv_at hl 1 rfl) ?_
        refine wb_iast MC hB HS 1 (by decide) (7 * nc + 2) (show 7 * nc + 2 < 42 by omega) (ix_add (ix_mul rfl rfl) rfl) dL_law_910 (fun H17 lH17 hB HS => ?_)
        refine lv_aload_n hx hb dL_law_911 rfl (lv_at hl 5 rfl) ?_
        refine lv_iload hx hb dL_law_912 (lv_at hl 0 rfl) ?_
        refine lv_iconst (v := 3) hx hb dL_law_914 (by decide) ?_
        refine lv_iadd hx hb dL_law_915 ?_
        refine lv_iload hx hb dL_law_916 (lv_at hl 17 rfl) ?_
        refine wb_iast MC hB HS 1 (by decide) (7 * nc + 3) (show 7 * nc + 3 < 42 by omega) (ix_add (ix_mul rfl rfl) rfl) dL_law_918 (fun H18 lH18 hB HS => ?_)
        refine lv_aload_n hx hb dL_law_919 rfl (lv_at hl 5 rfl) ?_
        refine lv_iload hx hb dL_law_920 (lv_at hl 0 rfl) ?_
        refine lv_iconst (v := 4) hx hb dL_law_922 (by decide) ?_
        refine lv_iadd hx hb dL_law_923 ?_
        refine lv_iconst (v := 0) hx hb dL_law_924 (by decide) ?_
        refine wb_iast MC hB HS 1 (by decide) (7 * nc + 4) (show 7 * nc + 4 < 42 by omega) (ix_add (ix_mul rfl rfl) rfl) dL_law_925 (fun H19 lH19 hB HS => ?_)
        refine lv_aload_n hx hb dL_law_926 rfl (lv_at hl 5 rfl) ?_
        refine lv_iload hx hb dL_law_927 (lv_at hl 0 rfl) ?_
        refine lv_iconst (v := 5) hx hb dL_law_929 (by decide) ?_
        refine lv_iadd hx hb dL_law_930 ?_
        refine lv_iconst (v := 0) hx hb dL_law_931 (by decide) ?_
        refine wb_iast MC hB HS 1 (by decide) (7 * nc + 5) (show 7 * nc + 5 < 42 by omega) (ix_add (ix_mul rfl rfl) rfl) dL_law_932 (fun H20 lH20 hB HS => ?_)
        refine lv_aload_n hx hb dL_law_933 rfl (lv_at hl 5 rfl) ?_
        refine lv_iload hx hb dL_law_934 (lv_at hl 0 rfl) ?_
        refine lv_bipush (v := 6) hx hb dL_law_936 (by decide) ?_
        refine lv_iadd hx hb dL_law_938 ?_
        refine lv_iconst (v := (-1)) hx hb dL_law_939 (by decide) ?_
        refine wb_iast MC hB HS 1 (by decide) (7 * nc + 6) (show 7 * nc + 6 < 42 by omega) (ix_add (ix_mul rfl rfl) rfl) dL_law_940 (fun H21 lH21 hB HS => ?_)
        refine lv_aload hx hb dL_law_941 (lv_at hl 10 rfl) ?_
        refine lv_iconst (v := 3) hx hb dL_law_943 (by decide) ?_
        refine lv_dup2_11 hx hb dL_law_944 rfl rfl ?_
        refine wb_iald MC hB 6 (by decide) 3 (show 3 < 4 by omega) rfl ((congrFun (va_up_ne _ _ (by decide)) _).trans ((congrFun (va_up_ne _ _ (by decide)) _).trans ((congrFun (va_up_ne _ _ (by decide)) _).trans ((congrFun (va_up_ne _ _ (by decide)) _).trans ((congrFun (va_up_ne _ _ (by decide)) _).trans ((congrFun (va_up_ne _ _ (by decide)) _).trans ((congrFun (va_up_ne _ _ (by decide)) _).trans (hg3.trans hI.2.2.2.1.1)))))))) dL_law_945 ?_
        refine lv_iconst (v := 1) hx hb dL_law_946 (by decide) ?_
        refine lv_iadd hx hb dL_law_947 ?_
        refine wb_iast MC hB HS 6 (by decide) 3 (show 3 < 4 by omega) rfl dL_law_948 (fun H22 lH22 hB HS => ?_)
        refine lv_aload_n hx hb dL_law_949 rfl (lv_at hl 3 rfl) ?_
        refine lv_iload hx hb dL_law_950 (lv_at hl 15 rfl) ?_
        refine lv_aload_n hx hb dL_law_952 rfl (lv_at hl 5 rfl) ?_
        refine lv_iload hx hb dL_law_953 (lv_at hl 0 rfl) ?_
        refine lv_iconst (v := 1) hx hb dL_law_955 (by decide) ?_
        refine lv_iadd hx hb dL_law_956 ?_
        refine wb_iald MC hB 1 (by decide) (7 * nc + 1) (show 7 * nc + 1 < 42 by omega) (ix_add (ix_mul rfl rfl) rfl) ((congrFun (va_up_ne _ _ (by decide)) _).trans ((congrFun (va_up_self ..) _).trans ((pk_un (by omega)).trans ((congrFun (va_up_self ..) _).trans ((pk_un (by omega)).trans ((congrFun (va_up_self ..) _).trans ((pk_un (by omega)).trans ((congrFun (va_up_self ..) _).trans ((pk_un (by omega)).trans ((congrFun (va_up_self ..) _).trans ((pk_un (by omega)).trans ((congrFun (va_up_self ..) _).trans pk_us)))))))))))) dL_law_957 ?_
        refine lv_iload hx hb dL_law_958 (lv_at hl 1 rfl) ?_
        refine lv_iload hx hb dL_law_960 (lv_at hl 17 rfl) ?_
        refine wb_q MC HS hB (rest := []) (As := [.int (nI sc), .int (nI (nw + q14)), .int (nI (1 + q1)), .int (nI rk)]) (th := th_plan τ (nI sc) (nI (nw + q14)) (nI (1 + q1)) (nI rk)) (rt := rt_plan τ (nI sc) (nI (nw + q14)) (nI (1 + q1)) (nI rk)) (τ2 := (nx_plan τ (nI sc) (nI (nw + q14)) (nI (1 + q1)) (nI rk))) (fun RR ad cn hX => q_plan hl9 hX hB.1) (fun E9 H9 hp => by obtain ⟨-, hp⟩ := hp; rcases hp with h9 | h9 | h9 <;> exact absurd ((tz_plan hI h6 hsc hrk1 hrk (by omega) (by omega) (by omega) (by omega)).symm.trans h9.1) (by decide)) rfl lkL_113 kw392 kw393 ⟨rfl, rfl, Nat.le_of_ble_eq_true rfl, Nat.le_of_ble_eq_true rfl, Nat.le_of_ble_eq_true rfl⟩ hR hl.1 rfl (Nat.le_of_ble_eq_true rfl) dL_law_962 (by omega) (by omega) (fun nw8 ns8 nl8 nc8 H23 lH23 hB8 HS => ?_)
        have hB := hB8.at (n_plan hI)
        clear hB8
        rw [show rt_plan τ _ _ _ _ = nI nc from hI.2.2.2.1.1]
        refine lv_aload hx hb dL_law_965 (lv_at hl 10 rfl) ?_
        refine lv_iconst (v := 3) hx hb dL_law_967 (by decide) ?_
        refine wb_iald MC hB 6 (by decide) 3 (show 3 < 4 by omega) rfl ((congrFun (va_up_self ..) _).trans pk_us) dL_law_968 ?_
        refine lv_iconst (v := 1) hx hb dL_law_969 (by decide) ?_
        refine lv_isub hx hb dL_law_970 ?_
        refine lv_icmp_eq (tgt := 976) hx hb dL_law_971 (by decide) (fun c_971 => ?_) (fun c_971 => absurd (s1_eq _) c_971)
        refine lv_goto (tgt := 2040) hx hb dL_law_976 (by decide) ?_
        exact l_chk hl9 MC HS hB (ok_plan hI hO h6) hR (by omega) (by omega) (lv_sub hl [2, 3, 4, 5, 6, 7, 8, 9, 10, 11] rfl) (fun c9 s9 H1 locs1 ls1 h1 h2 => kk c9 s9 H1 locs1 ls1 (by omega) (by omega))
    · refine lv_goto (tgt := 2092) hx hb dL_law_837 (by decide) ?_
      exact kk _ _ _ _ ls (by omega) (by omega) ⟨_, _, _, _, _, _, hB, hO⟩ HS (lv_sub hl [1, 2, 3, 4, 5, 6, 7, 8, 9, 10] rfl)
set_option maxHeartbeats 4000000 in
set_option maxRecDepth 100000 in
theorem l_move {p : Program} {l : Launch} (hl9 : l.stackTraces = false) {e : Env} {R : Room} {s : State} {m : MethodId} {args : Array Value} {below : List Frame} {meth : Method} {c : Code} {H : Heap} {locs : List Loc} {cells slots : Nat} {Q : State → Prop} {D : va_G} {ids : Nat → ClassId} {n0 b t9 : Nat} {aa : Nat → Nat} {τ : Tau} {nw ns nl nc : Nat} {A : Tau} (MC : ro_C p s m args meth c cL_law 28 "FrostCalendarLaw" D ids n0) (HS : va_S (fun q => n0 ≤ q) s.heap H locs) (hB : wB D ids n0 aa τ nw ns nl nc A H) (hO : wOk τ ns nl nc A) (hR : 11 ≤ R.frames ∧ 400 ≤ R.locals) {sc la rk n9 k9 : Nat} {x9 y9 kd : Int32} (hsc : sc < ns) (hla : la < 4) (hrk1 : 1 ≤ rk) (hrk : rk < 4) (hn9 : (nc = 0 ∧ n9 = 0) ∨ n9 < nc) (hk9 : (nl = 0 ∧ k9 = 0) ∨ k9 < nl) (hcl : cells + 400 ≤ R.cells) (hsl : slots + 2400 ≤ R.slots) {ls : Array Slot} (hl : lv_has ls 28 [(0, .ref b), (1, .ref (aa 0)), (2, .ref (aa 11)), (3, .ref (aa 12)), (4, .ref (aa 13)), (5, .ref (aa 14)), (6, .ref (aa 15)), (7, .ref (aa 16)), (8, .ref (aa 17)), (9, .int (nI t9)), (10, .int x9), (11, .int y9), (12, .int kd), (13, .int (nI sc)), (14, .int (nI la)), (15, .int (nI rk)), (16, .int (nI n9)), (17, .int (nI k9)), (18, .int (nI (7 * nl)))])
    (kk : ∀ (c9 s9 : Nat) (H1 : Heap) (locs1 : List Loc) (ls1 : Array Slot), c9 ≤ cells + 400 → s9 ≤ slots + 2400 → wI D ids n0 aa H1 → va_S (fun q => n0 ≤ q) s.heap H1 locs1 → lv_has ls1 28 (lL b aa t9) → W p l e R s m args below meth c H1 locs1 c9 s9 Q (F0 m 2092 ls1 [])) : W p l e R s m args below meth c H locs cells slots Q (F0 m 986 ls []) := by
  have hx := MC.1.1
  have hb := MC.1.2.1
  have hI := hB.1
  obtain ⟨⟨hns, hnl, hnc⟩, ⟨hg0, hg1, hg2, hg3⟩, hF, hC, hin, hof, hfe, hle⟩ := id hO
  refine lv_aload hx hb dL_law_986 (lv_at hl 8 rfl) ?_
  refine lv_iconst (v := 0) hx hb dL_law_988 (by decide) ?_
  refine wb_iald MC hB 6 (by decide) 0 (show 0 < 4 by omega) rfl (hg0.trans hI.1.1) dL_law_989 ?_
  refine lv_iload hx hb dL_law_990 (lv_at hl 11 rfl) ?_
  refine lv_bipush (v := 9) hx hb dL_law_992 (by decide) ?_
  refine lv_ishr hx hb dL_law_994 ?_
  refine lv_bipush (v := 40) hx hb dL_law_995 (by decide) ?_
  refine wb_s MC HS (rest := [.int (nI nw)]) (As := [.int (y9 >>> (9 &&& 31)), .int 40]) (by rw [show 40 = nI (40) from rfl]; exact y_low D ids n0 (y9 >>> (9 &&& 31)) (by omega) (by omega)) lkL_84 kw505 ⟨rfl, rfl, Nat.le_of_ble_eq_true rfl, Nat.le_of_ble_eq_true rfl, Nat.le_of_ble_eq_true rfl⟩ hR hl.1 rfl (Nat.le_of_ble_eq_true rfl) dL_law_997 (by omega) (by omega) (fun v9 H2 lH2 hp HS => ?_)
  obtain ⟨q1, hq1, rfl, rfl⟩ := hp
  refine lv_iadd hx hb dL_law_1000 ?_
  rw [show (nI nw + nI q1) = nI (nw + q1) from (ix_add rfl rfl)]
  refine lv_istore (lv' := [(19, .int (nI (nw + q1))), (0, .ref b), (1, .ref (aa 0)), (2, .ref (aa 11)), (3, .ref (aa 12)), (4, .ref (aa 13)), (5, .ref (aa 14)), (6, .ref (aa 15)), (7, .ref (aa 16)), (8, .ref (aa 17)), (9, .int (nI t9)), (10, .int x9), (11, .int y9), (12, .int kd), (13, .int (nI sc)), (14, .int (nI la)), (15, .int (nI rk)), (16, .int (nI n9)), (17, .int (nI k9)), (18, .int (nI (7 * nl)))]) hx hb dL_law_1001 hl (by decide) rfl (fun ls hl => ?_)
  refine lv_aload hx hb dL_law_1003 (lv_at hl 9 rfl) ?_
  refine lv_iconst (v := 3) hx hb dL_law_1005 (by decide) ?_
  refine wb_iald MC hB 6 (by decide) 3 (show 3 < 4 by omega) rfl (hg3.trans hI.2.2.2.1.1) dL_law_1006 ?_
  refine lv_if_ne (tgt := 1013) hx hb dL_law_1007 (by decide) (fun c_1007 => ?_) (fun c_1007 => ?_)
  · have h0 : ¬ nc = 0 := nneq_of (n := 0) rfl c_1007
    have hn : n9 < nc := by omega
    obtain ⟨-, ⟨b7, n7, hb7, hn7, h1n, hn1, hbn⟩, h14, h15, h17⟩ := hI.2.2.2.2.2.2.2.2.2.2.1 n9 hn
    refine lv_iload hx hb dL_law_1013 (lv_at hl 0 rfl) ?_
    refine lv_aload_n hx hb dL_law_1015 rfl (lv_at hl 4 rfl) ?_
    refine lv_bipush (v := 7) hx hb dL_law_1016 (by decide) ?_
    refine lv_iload hx hb dL_law_1018 (lv_at hl 17 rfl) ?_
    refine lv_imul hx hb dL_law_1020 ?_
    refine lv_iconst (v := 2) hx hb dL_law_1021 (by decide) ?_
    refine lv_iadd hx hb dL_law_1022 ?_
    refine wb_iald MC hB 1 (by decide) (7 * n9 + 2) (show 7 * n9 + 2 < 42 by omega) (ix_add (ix_mul rfl rfl) rfl) ((hC n9 hn).2.2.1.trans hn7) dL_law_1023 ?_
    refine lv_iadd hx hb dL_law_1024 ?_
    rw [show (nI (nw + q1) + nI n7) = nI (nw + q1 + n7) from (ix_add rfl rfl)]
    refine lv_sipush (v := 672) hx hb dL_law_1025 (by decide) ?_
    refine lv_icmp_le (tgt := 1035) hx hb dL_law_1028 (by decide) (fun c_1028 => ?_) (fun c_1028 => ?_)
    · have hp9 : nw + q1 + n7 ≤ 672 := nle_of rfl (by have := hI.1.2; omega) (by omega) c_1028
      refine lv_aload_n hx hb dL_law_1035 rfl (lv_at hl 4 rfl) ?_
      refine lv_bipush (v := 7) hx hb dL_law_1036 (by decide) ?_
      refine lv_iload hx hb dL_law_1038 (lv_at hl 17 rfl) ?_
      refine lv_imul hx hb dL_law_1040 ?_
      refine lv_bipush (v := 6) hx hb dL_law_1041 (by decide) ?_
      refine lv_iadd hx hb dL_law_1043 ?_
      refine wb_iald MC hB 1 (by decide) (7 * n9 + 6) (show 7 * n9 + 6 < 42 by omega) (ix_add (ix_mul rfl rfl) rfl) ((hC n9 hn).2.2.2.2.2.2) dL_law_1044 ?_
      refine lv_if_lt (tgt := 1052) hx hb dL_law_1045 (by decide) (fun c_1045 => ?_) (fun c_1045 => ?_)
      · refine lv_iconst (v := 0) hx hb dL_law_1052 (by decide) ?_
        refine lv_istore (lv' := [(20, .int 0), (19, .int (nI (nw + q1))), (0, .ref b), (1, .ref (aa 0)), (2, .ref (aa 11)), (3, .ref (aa 12)), (4, .ref (aa 13)), (5, .ref (aa 14)), (6, .ref (aa 15)), (7, .ref (aa 16)), (8, .ref (aa 17)), (9, .int (nI t9)), (10, .int x9), (11, .int y9), (12, .int kd), (13, .int (nI sc)), (14, .int (nI la)), (15, .int (nI rk)), (16, .int (nI n9)), (17, .int (nI k9)), (18, .int (nI (7 * nl)))]) hx hb dL_law_1053 hl (by decide) rfl (fun ls hl => ?_)
        refine lv_iload hx hb dL_law_1055 (lv_at hl 0 rfl) ?_
        refine lv_if_le (tgt := 1076) hx hb dL_law_1057 (by decide) (fun c_1057 => ?_) (fun c_1057 => absurd c_1057 (by decide))
        refine lv_aload_n hx hb dL_law_1076 rfl (lv_at hl 5 rfl) ?_
        refine lv_bipush (v := 7) hx hb dL_law_1077 (by decide) ?_
        refine lv_iload hx hb dL_law_1079 (lv_at hl 18 rfl) ?_
        refine lv_imul hx hb dL_law_1081 ?_
        refine lv_iconst (v := 1) hx hb dL_law_1082 (by decide) ?_
        refine lv_iadd hx hb dL_law_1083 ?_
        refine lv_iload hx hb dL_law_1084 (lv_at hl 1 rfl) ?_
        refine wb_iast MC hB HS 1 (by decide) (7 * n9 + 1) (show 7 * n9 + 1 < 42 by omega) (ix_add (ix_mul rfl rfl) rfl) dL_law_1086 (fun H3 lH3 hB HS => ?_)
        refine lv_aload_n hx hb dL_law_1087 rfl (lv_at hl 5 rfl) ?_
        refine lv_bipush (v := 7) hx hb dL_law_1088 (by decide) ?_
        refine lv_iload hx hb dL_law_1090 (lv_at hl 18 rfl) ?_
        refine lv_imul hx hb dL_law_1092 ?_
        refine lv_iconst (v := 4) hx hb dL_law_1093 (by decide) ?_
        refine lv_iadd hx hb dL_law_1094 ?_
        refine lv_iconst (v := 0) hx hb dL_law_1095 (by decide) ?_
        refine wb_iast MC hB HS 1 (by decide) (7 * n9 + 4) (show 7 * n9 + 4 < 42 by omega) (ix_add (ix_mul rfl rfl) rfl) dL_law_1096 (fun H4 lH4 hB HS => ?_)
        refine lv_aload_n hx hb dL_law_1097 rfl (lv_at hl 5 rfl) ?_
        refine lv_bipush (v := 7) hx hb dL_law_1098 (by decide) ?_
        refine lv_iload hx hb dL_law_1100 (lv_at hl 18 rfl) ?_
        refine lv_imul hx hb dL_law_1102 ?_
        refine lv_iconst (v := 5) hx hb dL_law_1103 (by decide) ?_
        refine lv_iadd hx hb dL_law_1104 ?_
        refine lv_iconst (v := 0) hx hb dL_law_1105 (by decide) ?_
        refine wb_iast MC hB HS 1 (by decide) (7 * n9 + 5) (show 7 * n9 + 5 < 42 by omega) (ix_add (ix_mul rfl rfl) rfl) dL_law_1106 (fun H5 lH5 hB HS => ?_)
        refine lv_aload_n hx hb dL_law_1107 rfl (lv_at hl 3 rfl) ?_
        refine lv_iload hx hb dL_law_1108 (lv_at hl 18 rfl) ?_
        refine lv_iload hx hb dL_law_1110 (lv_at hl 1 rfl) ?_
        refine wb_q MC HS hB (rest := []) (As := [.int (nI n9), .int (nI (nw + q1))]) (th := th_move τ (nI n9) (nI (nw + q1))) (rt := rt_move τ (nI n9) (nI (nw + q1))) (τ2 := (nx_move τ (nI n9) (nI (nw + q1)))) (fun RR ad cn hX => q_move hl9 hX hB.1) (fun E9 H9 hp => by obtain ⟨-, hp⟩ := hp; rcases hp with h9 | h9 | h9 <;> exact absurd ((tz_move hI hn hn7 h1n (by omega) hp9 c_1045).symm.trans h9.1) (by decide)) rfl lkL_40 kw432 kw433 ⟨rfl, rfl, Nat.le_of_ble_eq_true rfl, Nat.le_of_ble_eq_true rfl, Nat.le_of_ble_eq_true rfl⟩ hR hl.1 rfl (Nat.le_of_ble_eq_true rfl) dL_law_1112 (by omega) (by omega) (fun nw8 ns8 nl8 nc8 H6 lH6 hB8 HS => ?_)
        have hB := hB8.at (n_same hI rfl)
        clear hB8
        rw [rz_move hI hn (f := nI (nw + q1))]
        refine lv_aload_n hx hb dL_law_1115 rfl (lv_at hl 4 rfl) ?_
        refine lv_aload_n hx hb dL_law_1116 rfl (lv_at hl 5 rfl) ?_
        refine lv_iload hx hb dL_law_1117 (lv_at hl 18 rfl) ?_
        refine lv_aload hx hb dL_law_1119 (lv_at hl 6 rfl) ?_
        refine lv_aload hx hb dL_law_1121 (lv_at hl 7 rfl) ?_
        refine lv_aload hx hb dL_law_1123 (lv_at hl 8 rfl) ?_
        refine lv_aload hx hb dL_law_1125 (lv_at hl 10 rfl) ?_
        refine wb_s MC HS (rest := [.int (nI (badN (nx_move τ (nI n9) (nI (nw + q1))) n9))]) (As := [.ref (aa 11), .ref (aa 12), .int (nI n9), .ref (aa 13), .ref (aa 14), .ref (aa 15), .ref (aa 17)]) (y_bad hB (ok_move hO hn) hn) lkL_57 kw518 ⟨rfl, rfl, Nat.le_of_ble_eq_true rfl, Nat.le_of_ble_eq_true rfl, Nat.le_of_ble_eq_true rfl⟩ hR hl.1 rfl (Nat.le_of_ble_eq_true rfl) dL_law_1127 (by omega) (by omega) (fun v9 H7 lH7 hp HS => ?_)
        obtain ⟨rfl, rfl⟩ := hp
        refine lv_icmp_eq (tgt := 1135) hx hb dL_law_1130 (by decide) (fun c_1130 => ?_) (fun c_1130 => absurd (rfl) c_1130)
        refine lv_goto (tgt := 2040) hx hb dL_law_1135 (by decide) ?_
        exact l_chk hl9 MC HS hB (ok_move hO hn) hR (by omega) (by omega) (lv_sub hl [2, 3, 4, 5, 6, 7, 8, 9, 10, 11] rfl) (fun c9 s9 H1 locs1 ls1 h1 h2 => kk c9 s9 H1 locs1 ls1 (by omega) (by omega))
      · have htm := tf_move3 hI hn hn7 h1n (f := nw + q1) (by omega) hp9 c_1045
        refine lv_iconst (v := 4) hx hb dL_law_1048 (by decide) ?_
        refine lv_goto (tgt := 1053) hx hb dL_law_1049 (by decide) ?_
        refine lv_istore (lv' := [(20, .int 4), (19, .int (nI (nw + q1))), (0, .ref b), (1, .ref (aa 0)), (2, .ref (aa 11)), (3, .ref (aa 12)), (4, .ref (aa 13)), (5, .ref (aa 14)), (6, .ref (aa 15)), (7, .ref (aa 16)), (8, .ref (aa 17)), (9, .int (nI t9)), (10, .int x9), (11, .int y9), (12, .int kd), (13, .int (nI sc)), (14, .int (nI la)), (15, .int (nI rk)), (16, .int (nI n9)), (17, .int (nI k9)), (18, .int (nI (7 * nl)))]) hx hb dL_law_1053 hl (by decide) rfl (fun ls hl => ?_)
        refine lv_iload hx hb dL_law_1055 (lv_at hl 0 rfl) ?_
        refine lv_if_le (tgt := 1076) hx hb dL_law_1057 (by decide) (fun c_1057 => absurd c_1057 (by decide)) (fun c_1057 => ?_)
        refine lv_aload_n hx hb dL_law_1060 rfl (lv_at hl 3 rfl) ?_
        refine lv_iconst (v := 4) hx hb dL_law_1061 (by decide) ?_
        refine lv_iload hx hb dL_law_1062 (lv_at hl 18 rfl) ?_
        refine lv_iload hx hb dL_law_1064 (lv_at hl 1 rfl) ?_
        refine wb_r MC HS (rest := []) (r_move hl9 hB (a9 := nI n9) (b9 := nI (nw + q1)) (by rw [htm]; decide)) lwr hR hl.1 (Nat.le_of_ble_eq_true rfl) dL_law_1066 (by omega) (by omega) (fun H8 lH8 hB HS => ?_)
        refine lv_iload hx hb dL_law_1069 (lv_at hl 0 rfl) ?_
        refine lv_icmp_eq (tgt := 2092) hx hb dL_law_1071 (by decide) (fun c_1071 => ?_) (fun c_1071 => absurd (by rw [htm]; rfl) c_1071)
        exact kk _ _ _ _ ls (by omega) (by omega) ⟨_, _, _, _, _, _, hB, hO⟩ HS (lv_sub hl [2, 3, 4, 5, 6, 7, 8, 9, 10, 11] rfl)
    · have hp9 : ¬ nw + q1 + n7 ≤ 672 := nnle_of rfl (by have := hI.1.2; omega) (by omega) c_1028
      have htm := tf_move2 hI hn hn7 (f := nw + q1) (by have := hI.1.2; omega) hp9
      refine lv_iconst (v := 3) hx hb dL_law_1031 (by decide) ?_
      refine lv_goto (tgt := 1053) hx hb dL_law_1032 (by decide) ?_
      refine lv_istore (lv' := [(20, .int 3), (19, .int (nI (nw + q1))), (0, .ref b), (1, .ref (aa 0)), (2, .ref (aa 11)), (3, .ref (aa 12)), (4, .ref (aa 13)), (5, .ref (aa 14)), (6, .ref (aa 15)), (7, .ref (aa 16)), (8, .ref (aa 17)), (9, .int (nI t9)), (10, .int x9), (11, .int y9), (12, .int kd), (13, .int (nI sc)), (14, .int (nI la)), (15, .int (nI rk)), (16, .int (nI n9)), (17, .int (nI k9)), (18, .int (nI (7 * nl)))]) hx hb dL_law_1053 hl (by decide) rfl (fun ls hl => ?_)
      refine lv_iload hx hb dL_law_1055 (lv_at hl 0 rfl) ?_
      refine lv_if_le (tgt := 1076) hx hb dL_law_1057 (by decide) (fun c_1057 => absurd c_1057 (by decide)) (fun c_1057 => ?_)
      refine lv_aload_n hx hb dL_law_1060 rfl (lv_at hl 3 rfl) ?_
      refine lv_iconst (v := 4) hx hb dL_law_1061 (by decide) ?_
      refine lv_iload hx hb dL_law_1062 (lv_at hl 18 rfl) ?_
      refine lv_iload hx hb dL_law_1064 (lv_at hl 1 rfl) ?_
      refine wb_r MC HS (rest := []) (r_move hl9 hB (a9 := nI n9) (b9 := nI (nw + q1)) (by rw [htm]; decide)) lwr hR hl.1 (Nat.le_of_ble_eq_true rfl) dL_law_1066 (by omega) (by omega) (fun H9 lH9 hB HS => ?_)
      refine lv_iload hx hb dL_law_1069 (lv_at hl 0 rfl) ?_
      refine lv_icmp_eq (tgt := 2092) hx hb dL_law_1071 (by decide) (fun c_1071 => ?_) (fun c_1071 => absurd (by rw [htm]; rfl) c_1071)
      exact kk _ _ _ _ ls (by omega) (by omega) ⟨_, _, _, _, _, _, hB, hO⟩ HS (lv_sub hl [2, 3, 4, 5, 6, 7, 8, 9, 10, 11] rfl)
  · refine lv_goto (tgt := 2092) hx hb dL_law_1010 (by decide) ?_
    exact kk _ _ _ _ ls (by omega) (by omega) ⟨_, _, _, _, _, _, hB, hO⟩ HS (lv_sub hl [1, 2, 3, 4, 5, 6, 7, 8, 9, 10] rfl)
set_option maxHeartbeats 4000000 in
set_option maxRecDepth 100000 in
theorem l_approve {p : Program} {l : Launch} (hl9 : l.stackTraces = false) {e : Env} {R : Room} {s : State} {m : MethodId} {args : Array Value} {below : List Frame} {meth : Method} {c : Code} {H : Heap} {locs : List Loc} {cells slots : Nat} {Q : State → Prop} {D : va_G} {ids : Nat → ClassId} {n0 b t9 : Nat} {aa : Nat → Nat} {τ : Tau} {nw ns nl nc : Nat} {A : Tau} (MC : ro_C p s m args meth c cL_law 28 "FrostCalendarLaw" D ids n0) (HS : va_S (fun q => n0 ≤ q) s.heap H locs) (hB : wB D ids n0 aa τ nw ns nl nc A H) (hO : wOk τ ns nl nc A) (hR : 11 ≤ R.frames ∧ 400 ≤ R.locals) {sc la rk n9 k9 : Nat} {x9 y9 kd : Int32} (hsc : sc < ns) (hla : la < 4) (hrk1 : 1 ≤ rk) (hrk : rk < 4) (hn9 : (nc = 0 ∧ n9 = 0) ∨ n9 < nc) (hk9 : (nl = 0 ∧ k9 = 0) ∨ k9 < nl) (hcl : cells + 400 ≤ R.cells) (hsl : slots + 2400 ≤ R.slots) {ls : Array Slot} (hl : lv_has ls 28 [(0, .ref b), (1, .ref (aa 0)), (2, .ref (aa 11)), (3, .ref (aa 12)), (4, .ref (aa 13)), (5, .ref (aa 14)), (6, .ref (aa 15)), (7, .ref (aa 16)), (8, .ref (aa 17)), (9, .int (nI t9)), (10, .int x9), (11, .int y9), (12, .int kd), (13, .int (nI sc)), (14, .int (nI la)), (15, .int (nI rk)), (16, .int (nI n9)), (17, .int (nI k9)), (18, .int (nI (7 * nl)))])
    (kk : ∀ (c9 s9 : Nat) (H1 : Heap) (locs1 : List Loc) (ls1 : Array Slot), c9 ≤ cells + 400 → s9 ≤ slots + 2400 → wI D ids n0 aa H1 → va_S (fun q => n0 ≤ q) s.heap H1 locs1 → lv_has ls1 28 (lL b aa t9) → W p l e R s m args below meth c H1 locs1 c9 s9 Q (F0 m 2092 ls1 [])) : W p l e R s m args below meth c H locs cells slots Q (F0 m 1145 ls []) := by
  have hx := MC.1.1
  have hb := MC.1.2.1
  have hI := hB.1
  obtain ⟨⟨hns, hnl, hnc⟩, ⟨hg0, hg1, hg2, hg3⟩, hF, hC, hin, hof, hfe, hle⟩ := id hO
  refine lv_aload hx hb dL_law_1145 (lv_at hl 8 rfl) ?_
  refine lv_iconst (v := 3) hx hb dL_law_1147 (by decide) ?_
  refine wb_iald MC hB 6 (by decide) 3 (show 3 < 4 by omega) rfl (hg3.trans hI.2.2.2.1.1) dL_law_1148 ?_
  refine lv_if_eq (tgt := 1186) hx hb dL_law_1149 (by decide) (fun c_1149 => ?_) (fun c_1149 => ?_)
  · have h0 : nc = 0 := neq_of (n := 0) rfl (by omega) (by omega) c_1149
    have hta : th_approve τ (nI n9) = 1 := if_pos (tC_0 hI (by omega) (by omega))
    refine lv_aload_n hx hb dL_law_1186 rfl (lv_at hl 1 rfl) ?_
    refine lv_iconst (v := 1) hx hb dL_law_1187 (by decide) ?_
    refine lv_iload hx hb dL_law_1188 (lv_at hl 16 rfl) ?_
    refine lv_iconst (v := 0) hx hb dL_law_1190 (by decide) ?_
    refine wb_r MC HS (rest := []) (r_approve hl9 hB (a9 := nI n9) (b9 := 0) (by rw [hta]; decide)) lwr hR hl.1 (Nat.le_of_ble_eq_true rfl) dL_law_1191 (by omega) (by omega) (fun H1 lH1 hB HS => ?_)
    refine lv_aload hx hb dL_law_1194 (lv_at hl 8 rfl) ?_
    refine lv_iconst (v := 3) hx hb dL_law_1196 (by decide) ?_
    refine wb_iald MC hB 6 (by decide) 3 (show 3 < 4 by omega) rfl (hg3.trans hI.2.2.2.1.1) dL_law_1197 ?_
    refine lv_if_ne (tgt := 1205) hx hb dL_law_1198 (by decide) (fun c_1198 => absurd (c_1149) c_1198) (fun c_1198 => ?_)
    refine lv_iconst (v := 1) hx hb dL_law_1201 (by decide) ?_
    refine lv_goto (tgt := 1206) hx hb dL_law_1202 (by decide) ?_
    refine lv_icmp_eq (tgt := 2092) hx hb dL_law_1206 (by decide) (fun c_1206 => ?_) (fun c_1206 => absurd (by rw [hta]; rfl) c_1206)
    exact kk _ _ _ _ ls (by omega) (by omega) ⟨_, _, _, _, _, _, hB, hO⟩ HS (lv_sub hl [0, 1, 2, 3, 4, 5, 6, 7, 8, 9] rfl)
  · have h0 : ¬ nc = 0 := nneq_of (n := 0) rfl c_1149
    have hn : n9 < nc := by omega
    obtain ⟨-, ⟨b7, n7, hb7, hn7, h1n, hn1, hbn⟩, h14, h15, h17⟩ := hI.2.2.2.2.2.2.2.2.2.2.1 n9 hn
    refine lv_aload_n hx hb dL_law_1152 rfl (lv_at hl 3 rfl) ?_
    refine lv_bipush (v := 7) hx hb dL_law_1153 (by decide) ?_
    refine lv_iload hx hb dL_law_1155 (lv_at hl 16 rfl) ?_
    refine lv_imul hx hb dL_law_1157 ?_
    refine lv_bipush (v := 6) hx hb dL_law_1158 (by decide) ?_
    refine lv_iadd hx hb dL_law_1160 ?_
    refine wb_iald MC hB 1 (by decide) (7 * n9 + 6) (show 7 * n9 + 6 < 42 by omega) (ix_add (ix_mul rfl rfl) rfl) ((hC n9 hn).2.2.2.2.2.2) dL_law_1161 ?_
    refine lv_if_ge (tgt := 1186) hx hb dL_law_1162 (by decide) (fun c_1162 => ?_) (fun c_1162 => ?_)
    · have hta := tf_appr1 hI hn c_1162
      refine lv_aload_n hx hb dL_law_1186 rfl (lv_at hl 1 rfl) ?_
      refine lv_iconst (v := 1) hx hb dL_law_1187 (by decide) ?_
      refine lv_iload hx hb dL_law_1188 (lv_at hl 16 rfl) ?_
      refine lv_iconst (v := 0) hx hb dL_law_1190 (by decide) ?_
      refine wb_r MC HS (rest := []) (r_approve hl9 hB (a9 := nI n9) (b9 := 0) (by rw [hta]; decide)) lwr hR hl.1 (Nat.le_of_ble_eq_true rfl) dL_law_1191 (by omega) (by omega) (fun H2 lH2 hB HS => ?_)
      refine lv_aload hx hb dL_law_1194 (lv_at hl 8 rfl) ?_
      refine lv_iconst (v := 3) hx hb dL_law_1196 (by decide) ?_
      refine wb_iald MC hB 6 (by decide) 3 (show 3 < 4 by omega) rfl (hg3.trans hI.2.2.2.1.1) dL_law_1197 ?_
      refine lv_if_ne (tgt := 1205) hx hb dL_law_1198 (by decide) (fun c_1198 => ?_) (fun c_1198 => absurd c_1198 (c_1149))
      refine lv_iconst (v := 4) hx hb dL_law_1205 (by decide) ?_
      refine lv_icmp_eq (tgt := 2092) hx hb dL_law_1206 (by decide) (fun c_1206 => ?_) (fun c_1206 => absurd (by rw [hta]; rfl) c_1206)
      exact kk _ _ _ _ ls (by omega) (by omega) ⟨_, _, _, _, _, _, hB, hO⟩ HS (lv_sub hl [0, 1, 2, 3, 4, 5, 6, 7, 8, 9] rfl)
    · refine lv_aload_n hx hb dL_law_1165 rfl (lv_at hl 3 rfl) ?_
      refine lv_bipush (v := 7) hx hb dL_law_1166 (by decide) ?_
      refine lv_iload hx hb dL_law_1168 (lv_at hl 16 rfl) ?_
      refine lv_imul hx hb dL_law_1170 ?_
      refine lv_iconst (v := 4) hx hb dL_law_1171 (by decide) ?_
      refine lv_iadd hx hb dL_law_1172 ?_
      refine wb_iald MC hB 1 (by decide) (7 * n9 + 4) (show 7 * n9 + 4 < 42 by omega) (ix_add (ix_mul rfl rfl) rfl) ((hC n9 hn).2.2.2.2.1) dL_law_1173 ?_
      refine lv_aload_n hx hb dL_law_1174 rfl (lv_at hl 3 rfl) ?_
      refine lv_bipush (v := 7) hx hb dL_law_1175 (by decide) ?_
      refine lv_iload hx hb dL_law_1177 (lv_at hl 16 rfl) ?_
      refine lv_imul hx hb dL_law_1179 ?_
      refine lv_iconst (v := 3) hx hb dL_law_1180 (by decide) ?_
      refine lv_iadd hx hb dL_law_1181 ?_
      refine wb_iald MC hB 1 (by decide) (7 * n9 + 3) (show 7 * n9 + 3 < 42 by omega) (ix_add (ix_mul rfl rfl) rfl) ((hC n9 hn).2.2.2.1) dL_law_1182 ?_
      refine lv_icmp_ne (tgt := 1211) hx hb dL_law_1183 (by decide) (fun c_1183 => ?_) (fun c_1183 => ?_)
      · refine lv_aload_n hx hb dL_law_1211 rfl (lv_at hl 3 rfl) ?_
        refine lv_bipush (v := 7) hx hb dL_law_1212 (by decide) ?_
        refine lv_iload hx hb dL_law_1214 (lv_at hl 16 rfl) ?_
        refine lv_imul hx hb dL_law_1216 ?_
        refine lv_iconst (v := 4) hx hb dL_law_1217 (by decide) ?_
        refine lv_iadd hx hb dL_law_1218 ?_
        refine lv_dup2_11 hx hb dL_law_1219 rfl rfl ?_
        refine wb_iald MC hB 1 (by decide) (7 * n9 + 4) (show 7 * n9 + 4 < 42 by omega) (ix_add (ix_mul rfl rfl) rfl) ((hC n9 hn).2.2.2.2.1) dL_law_1220 ?_
        refine lv_iconst (v := 1) hx hb dL_law_1221 (by decide) ?_
        refine lv_iadd hx hb dL_law_1222 ?_
        refine wb_iast MC hB HS 1 (by decide) (7 * n9 + 4) (show 7 * n9 + 4 < 42 by omega) (ix_add (ix_mul rfl rfl) rfl) dL_law_1223 (fun H3 lH3 hB HS => ?_)
        refine lv_aload_n hx hb dL_law_1224 rfl (lv_at hl 1 rfl) ?_
        refine lv_iload hx hb dL_law_1225 (lv_at hl 16 rfl) ?_
        refine wb_q MC HS hB (rest := []) (As := [.int (nI n9)]) (th := th_approve τ (nI n9)) (rt := rt_approve τ (nI n9)) (τ2 := (nx_approve τ (nI n9))) (fun RR ad cn hX => q_approve hl9 hX hB.1) (fun E9 H9 hp => by obtain ⟨-, hp⟩ := hp; rcases hp with h9 | h9 <;> exact absurd ((tz_appr hI hn c_1162 c_1183).symm.trans h9.1) (by decide)) rfl lkL_30 kw461 kw462 ⟨rfl, rfl, Nat.le_of_ble_eq_true rfl, Nat.le_of_ble_eq_true rfl, Nat.le_of_ble_eq_true rfl⟩ hR hl.1 rfl (Nat.le_of_ble_eq_true rfl) dL_law_1227 (by omega) (by omega) (fun nw8 ns8 nl8 nc8 H4 lH4 hB8 HS => ?_)
        have hB := hB8.at (n_same hI rfl)
        clear hB8
        rw [rz_appr hI hn]
        refine lv_aload_n hx hb dL_law_1230 rfl (lv_at hl 3 rfl) ?_
        refine lv_bipush (v := 7) hx hb dL_law_1231 (by decide) ?_
        refine lv_iload hx hb dL_law_1233 (lv_at hl 16 rfl) ?_
        refine lv_imul hx hb dL_law_1235 ?_
        refine lv_iconst (v := 4) hx hb dL_law_1236 (by decide) ?_
        refine lv_iadd hx hb dL_law_1237 ?_
        refine wb_iald MC hB 1 (by decide) (7 * n9 + 4) (show 7 * n9 + 4 < 42 by omega) (ix_add (ix_mul rfl rfl) rfl) ((congrFun (va_up_self ..) _).trans pk_us) dL_law_1238 ?_
        refine lv_icmp_eq (tgt := 2040) hx hb dL_law_1239 (by decide) (fun c_1239 => ?_) (fun c_1239 => absurd (rfl) c_1239)
        exact l_chk hl9 MC HS hB (ok_approve hO hn) hR (by omega) (by omega) (lv_sub hl [0, 1, 2, 3, 4, 5, 6, 7, 8, 9] rfl) (fun c9 s9 H1 locs1 ls1 h1 h2 => kk c9 s9 H1 locs1 ls1 (by omega) (by omega))
      · have hta := tf_appr2 hI hn c_1183
        refine lv_aload_n hx hb dL_law_1186 rfl (lv_at hl 1 rfl) ?_
        refine lv_iconst (v := 1) hx hb dL_law_1187 (by decide) ?_
        refine lv_iload hx hb dL_law_1188 (lv_at hl 16 rfl) ?_
        refine lv_iconst (v := 0) hx hb dL_law_1190 (by decide) ?_
        refine wb_r MC HS (rest := []) (r_approve hl9 hB (a9 := nI n9) (b9 := 0) (by rw [hta]; decide)) lwr hR hl.1 (Nat.le_of_ble_eq_true rfl) dL_law_1191 (by omega) (by omega) (fun H5 lH5 hB HS => ?_)
        refine lv_aload hx hb dL_law_1194 (lv_at hl 8 rfl) ?_
        refine lv_iconst (v := 3) hx hb dL_law_1196 (by decide) ?_
        refine wb_iald MC hB 6 (by decide) 3 (show 3 < 4 by omega) rfl (hg3.trans hI.2.2.2.1.1) dL_law_1197 ?_
        refine lv_if_ne (tgt := 1205) hx hb dL_law_1198 (by decide) (fun c_1198 => ?_) (fun c_1198 => absurd c_1198 (c_1149))
        refine lv_iconst (v := 4) hx hb dL_law_1205 (by decide) ?_
        refine lv_icmp_eq (tgt := 2092) hx hb dL_law_1206 (by decide) (fun c_1206 => ?_) (fun c_1206 => absurd (by rw [hta]; rfl) c_1206)
        exact kk _ _ _ _ ls (by omega) (by omega) ⟨_, _, _, _, _, _, hB, hO⟩ HS (lv_sub hl [0, 1, 2, 3, 4, 5, 6, 7, 8, 9] rfl)
