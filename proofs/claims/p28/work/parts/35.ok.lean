theorem t0_low {τ : Tau} {k : Nat} {v : Int32} {i : Nat} (h : i ≠ 0) : t0 τ k v i = τ i := va_up_ne _ _ h
theorem wF.cg {τ τ2 : Tau} {fa fa2 : Nat → Int32} {k : Nat} (hτ : ∀ i, 4 ≤ i → i ≤ 10 → τ2 i k = τ i k) (hf : ∀ j, j < 7 → fa2 (7 * k + j) = fa (7 * k + j)) (h : wF τ fa k) : wF τ2 fa2 k := by
  obtain ⟨h0, h1, h2, h3, h4, h6, h7⟩ := h
  unfold wF
  rw [hτ 4 (by omega) (by omega), hτ 5 (by omega) (by omega), hτ 6 (by omega) (by omega), hτ 7 (by omega) (by omega), hτ 8 (by omega) (by omega), hτ 9 (by omega) (by omega), hτ 10 (by omega) (by omega)]
  exact ⟨(hf 0 (by omega)).trans h0, (hf 1 (by omega)).trans h1, (hf 2 (by omega)).trans h2, (hf 3 (by omega)).trans h3, fun z => ⟨(hf 4 (by omega)).trans (h4 z).1, (hf 5 (by omega)).trans (h4 z).2⟩, (hf 6 (by omega)).trans h6, h7⟩
theorem wC.cg {τ τ2 : Tau} {ca ca2 : Nat → Int32} {n : Nat} (hτ : ∀ i, 11 ≤ i → i ≤ 17 → τ2 i n = τ i n) (hc : ∀ j, j < 7 → ca2 (7 * n + j) = ca (7 * n + j)) (h : wC τ ca n) : wC τ2 ca2 n := by
  obtain ⟨h0, h1, h2, h3, h4, h5, h6⟩ := h
  unfold wC
  rw [hτ 11 (by omega) (by omega), hτ 12 (by omega) (by omega), hτ 13 (by omega) (by omega), hτ 14 (by omega) (by omega), hτ 15 (by omega) (by omega), hτ 16 (by omega) (by omega), hτ 17 (by omega) (by omega)]
  exact ⟨(hc 0 (by omega)).trans h0, (hc 1 (by omega)).trans h1, (hc 2 (by omega)).trans h2, (hc 3 (by omega)).trans h3, (hc 4 (by omega)).trans h4, (hc 5 (by omega)).trans h5, (hc 6 (by omega)).trans h6⟩
section OK
variable {τ : Tau} {nw ns nl nc : Nat} {A : Tau}
theorem n_scope (hI : Iv τ nw ns nl nc) {a : Int32} : iN (nx_scope τ a) nw (ns + 1) nl nc := by
  have h := hI.iN
  refine ⟨⟨h.1.1, ?_, h.1.2.2.1, h.1.2.2.2⟩, h.2.1, ?_, h.2.2.2.1, h.2.2.2.2⟩
  · show τ 0 1 + 1 = _
    rw [h.1.2.1, nI_1]
  · have := hI.2.1.2.2; omega
theorem ok_scope (hI : Iv τ nw ns nl nc) (hO : wOk τ ns nl nc A) {sc : Nat} (h8 : ns < 8) (hsc : sc < ns) : wOk (nx_scope τ (nI sc)) (ns + 1) nl nc (ti (ti A 2 ns (A 2 sc ||| (1 <<< (nI ns &&& 31)))) 6 1 (nI ns + 1)) := by
  obtain ⟨⟨hns, hnl, hnc⟩, ⟨hg0, hg1, hg2, hg3⟩, hF, hC, hin, hof, hfe, hle⟩ := hO
  have hcs : cx (τ 0 1) = ns := by rw [hI.2.1.1]; exact cx_nI (by omega)
  refine ⟨⟨by omega, hnl, hnc⟩, ⟨hg0, ?_, hg2, hg3⟩, fun k hk => (hF k hk).cg (fun i h1 h2 => ?_) (fun j _ => rfl), fun n hn => (hC n hn).cg (fun i h1 h2 => ?_) (fun j _ => rfl), fun k hk b hb => ?_, hof, hfe, hle⟩
  · show nI ns + 1 = τ 0 1 + 1
    rw [hI.2.1.1]
  · rw [nx_scope, t0_low (by omega), ti_low (by omega)]
  · rw [nx_scope, t0_low (by omega), ti_low (by omega)]
  · show bit (upd (A 2) ns _ k) b = bel (upd (τ 1) (cx (τ 0 1)) (nI sc)) 16 k b
    rw [hcs]
    exact sc_bit hI hin hsc (by omega) k hk b hb
theorem n_same {τ2 : Tau} (hI : Iv τ nw ns nl nc) (h : τ2 0 = τ 0) : iN τ2 nw ns nl nc := by
  have h9 := hI.iN
  unfold iN
  rw [h]
  exact h9
theorem ok_offset (hO : wOk τ ns nl nc A) {la : Nat} (hla : la < 4) {v : Int32} : wOk (nx_offset τ (nI la) v) ns nl nc (ti A 3 la v) := by
  obtain ⟨h1, h2, hF, hC, hin, hof, hfe, hle⟩ := hO
  refine ⟨h1, h2, fun k hk => (hF k hk).cg (fun i h1 h2 => ?_) (fun j _ => rfl), fun n hn => (hC n hn).cg (fun i h1 h2 => ?_) (fun j _ => rfl), hin, fun j hj => ?_, hfe, hle⟩
  · rw [nx_offset, ti_low (by omega)]
  · rw [nx_offset, ti_low (by omega)]
  · show upd (A 3) la v j = upd (τ 2) (cx (nI la)) v j
    rw [cx_nI (by omega)]
    by_cases hj2 : j = la
    · subst hj2; rw [pk_us, pk_us]
    · rw [pk_un hj2, pk_un hj2]; exact hof j hj
theorem fd_law {la e : Nat} (hla : la < 4) (he : e < 30) : -1 ≤ nI e - 1 ∧ nI e - 1 ≤ 28 ∧ ixF (nI la) (nI e - 1) = 30 * la + e := by
  have hb := nI_b (n := e) (N := 29) (by omega) (by omega)
  have h9 : nI 29 = 29 := rfl
  rw [h9] at hb
  have h1 : -1 ≤ nI e - 1 ∧ nI e - 1 ≤ 28 := ⟨by lia, by lia⟩
  refine ⟨h1.1, h1.2, ?_⟩
  show cx (30 * nI la + (nI e - 1) + 1) = _
  have e1 : 30 * nI la + (nI e - 1) + 1 = nI (30 * la + e) := by
    rw [← nI_add, ← pk_mul, show nI 30 = 30 from rfl]; lia
  rw [e1]
  exact cx_nI (by omega)
theorem ok_feast (hO : wOk τ ns nl nc A) {la e : Nat} (hla : la < 4) (he : e < 30) : wOk (nx_feast τ (nI la) (nI e - 1)) ns nl nc (ti A 4 la (A 4 la ^^^ (1 <<< (nI e &&& 31)))) := by
  obtain ⟨h1, h2, hF, hC, hin, hof, hfe, hle⟩ := hO
  refine ⟨h1, h2, fun k hk => (hF k hk).cg (fun i h1 h2 => ?_) (fun j _ => rfl), fun n hn => (hC n hn).cg (fun i h1 h2 => ?_) (fun j _ => rfl), hin, hof, fun j hj d hd => ?_, hle⟩
  · rw [nx_feast, ti_low (by omega)]
  · rw [nx_feast, ti_low (by omega)]
  · show bit (upd (A 4) la _ j) d = !(upd (τ 3) (ixF (nI la) (nI e - 1)) (bI (τ 3 (ixF (nI la) (nI e - 1)) = 0)) (30 * j + d) == 0)
    rw [(fd_law hla he).2.2]
    by_cases hj2 : j = la
    · subst hj2
      rw [pk_us]
      exact fe_bit hj he rfl (hfe j hj) d hd
    · rw [pk_un hj2, pk_un (by omega)]
      exact hfe j hj d hd
theorem fe_law (hO : wOk τ ns nl nc A) {la e : Nat} (hla : la < 4) (he : e < 30) : bit (A 4 la ^^^ (1 <<< (nI e &&& 31))) e = decide (rt_feast τ (nI la) (nI e - 1) = 1) := by
  have h := fe_bit hla he (x := nI e) rfl (hO.2.2.2.2.2.2.1 la hla) e he
  rw [h, pk_us, rt_feast, (fd_law hla he).2.2]
  by_cases h9 : τ 3 (30 * la + e) = 0
  · rw [bI_t h9]; rfl
  · rw [bI_f h9]; rfl
theorem n_lays (hI : Iv τ nw ns nl nc) {how s d a b r : Int32} : iN (nx_lays τ how s d a b r) nw ns (nl + 1) nc := by
  have h := hI.iN
  refine ⟨⟨h.1.1, h.1.2.1, ?_, h.1.2.2.2⟩, h.2.1, h.2.2.1, ?_, h.2.2.2.2⟩
  · show τ 0 2 + 1 = _
    rw [h.1.2.2.1, nI_1]
  · have := hI.2.2.1.2; omega
theorem ok_lays (hI : Iv τ nw ns nl nc) (hO : wOk τ ns nl nc A) (h6 : nl < 6) {how s d one two rank v1 v4 v5 : Int32} (hv1 : v1 = how) (h45 : ¬ how = 2 → v4 = one ∧ v5 = two) (h17 : how = 1 → (∃ a, a < 24 ∧ one = nI a) ∧ ∃ b, b < 24 ∧ two = nI b) : wOk (nx_lays τ how s d one two rank) ns (nl + 1) nc (ti (ti (ti (ti (ti (ti (ti (ti A 0 (7 * nl) 1) 0 (7 * nl + 1) v1) 0 (7 * nl + 2) s) 0 (7 * nl + 3) d) 0 (7 * nl + 4) v4) 0 (7 * nl + 5) v5) 0 (7 * nl + 6) rank) 6 2 (nI nl + 1)) := by
  obtain ⟨⟨hns, hnl, hnc⟩, ⟨hg0, hg1, hg2, hg3⟩, hF, hC, hin, hof, hfe, hle⟩ := hO
  have hcs : cx (τ 0 2) = nl := by rw [hI.2.2.1.1]; exact cx_nI (by omega)
  have h4 : τ 4 nl = 0 := hI.2.2.2.2.2.2.2.2.1 nl (Nat.le_refl _) (by omega)
  subst hv1
  refine ⟨⟨hns, by omega, hnc⟩, ⟨hg0, hg1, ?_, hg3⟩, fun k hk => ?_, fun n hn => (hC n hn).cg (fun i h1 h2 => ?_) (fun j _ => rfl), hin, hof, hfe, hle⟩
  · show nI nl + 1 = τ 0 2 + 1
    rw [hI.2.2.1.1]
  · by_cases hkn : k = nl
    · subst hkn
      have r4 : nx_lays τ v1 s d one two rank 4 k = 0 := by rw [nx_lays, hcs]; exact h4
      have r5 : nx_lays τ v1 s d one two rank 5 k = v1 := by rw [nx_lays, hcs]; exact pk_us
      have r6 : nx_lays τ v1 s d one two rank 6 k = s := by rw [nx_lays, hcs]; exact pk_us
      have r7 : nx_lays τ v1 s d one two rank 7 k = d := by rw [nx_lays, hcs]; exact pk_us
      have r8 : nx_lays τ v1 s d one two rank 8 k = one := by rw [nx_lays, hcs]; exact pk_us
      have r9 : nx_lays τ v1 s d one two rank 9 k = two := by rw [nx_lays, hcs]; exact pk_us
      have r10 : nx_lays τ v1 s d one two rank 10 k = rank := by rw [nx_lays, hcs]; exact pk_us
      unfold wF
      rw [r4, r5, r6, r7, r8, r9, r10]
      refine ⟨?_, ?_, ?_, ?_, fun h => ?_, ?_, h17⟩
      · show upd (upd (upd (upd (upd (upd (upd (A 0) (7 * k) 1) (7 * k + 1) v1) (7 * k + 2) s) (7 * k + 3) d) (7 * k + 4) v4) (7 * k + 5) v5) (7 * k + 6) rank (7 * k) = _
        rw [pk_un (by omega), pk_un (by omega), pk_un (by omega), pk_un (by omega), pk_un (by omega), pk_un (by omega), pk_us]; rfl
      · show upd (upd (upd (upd (upd (upd (upd (A 0) (7 * k) 1) (7 * k + 1) v1) (7 * k + 2) s) (7 * k + 3) d) (7 * k + 4) v4) (7 * k + 5) v5) (7 * k + 6) rank (7 * k + 1) = _
        rw [pk_un (by omega), pk_un (by omega), pk_un (by omega), pk_un (by omega), pk_un (by omega), pk_us]
      · show upd (upd (upd (upd (upd (upd (upd (A 0) (7 * k) 1) (7 * k + 1) v1) (7 * k + 2) s) (7 * k + 3) d) (7 * k + 4) v4) (7 * k + 5) v5) (7 * k + 6) rank (7 * k + 2) = _
        rw [pk_un (by omega), pk_un (by omega), pk_un (by omega), pk_un (by omega), pk_us]
      · show upd (upd (upd (upd (upd (upd (upd (A 0) (7 * k) 1) (7 * k + 1) v1) (7 * k + 2) s) (7 * k + 3) d) (7 * k + 4) v4) (7 * k + 5) v5) (7 * k + 6) rank (7 * k + 3) = _
        rw [pk_un (by omega), pk_un (by omega), pk_un (by omega), pk_us]
      · refine ⟨?_, ?_⟩
        · show upd (upd (upd (upd (upd (upd (upd (A 0) (7 * k) 1) (7 * k + 1) v1) (7 * k + 2) s) (7 * k + 3) d) (7 * k + 4) v4) (7 * k + 5) v5) (7 * k + 6) rank (7 * k + 4) = _
          rw [pk_un (by omega), pk_un (by omega), pk_us]; exact (h45 h).1
        · show upd (upd (upd (upd (upd (upd (upd (A 0) (7 * k) 1) (7 * k + 1) v1) (7 * k + 2) s) (7 * k + 3) d) (7 * k + 4) v4) (7 * k + 5) v5) (7 * k + 6) rank (7 * k + 5) = _
          rw [pk_un (by omega), pk_us]; exact (h45 h).2
      · show upd (upd (upd (upd (upd (upd (upd (A 0) (7 * k) 1) (7 * k + 1) v1) (7 * k + 2) s) (7 * k + 3) d) (7 * k + 4) v4) (7 * k + 5) v5) (7 * k + 6) rank (7 * k + 6) = _
        rw [pk_us]
    · refine (hF k (by omega)).cg (fun i h1 h2 => ?_) (fun j hj => ?_)
      · rw [nx_lays, hcs, t0_low (by omega)]
        rcases (by omega : i = 4 ∨ i = 5 ∨ i = 6 ∨ i = 7 ∨ i = 8 ∨ i = 9 ∨ i = 10) with rfl | rfl | rfl | rfl | rfl | rfl | rfl
        · rfl
        · exact pk_un hkn
        · exact pk_un hkn
        · exact pk_un hkn
        · exact pk_un hkn
        · exact pk_un hkn
        · exact pk_un hkn
      · show upd (upd (upd (upd (upd (upd (upd (A 0) (7 * nl) 1) (7 * nl + 1) v1) (7 * nl + 2) s) (7 * nl + 3) d) (7 * nl + 4) v4) (7 * nl + 5) v5) (7 * nl + 6) rank (7 * k + j) = _
        rw [pk_un (by omega), pk_un (by omega), pk_un (by omega), pk_un (by omega), pk_un (by omega), pk_un (by omega), pk_un (by omega)]
  · rw [nx_lays, t0_low (by omega), ti_low (by omega), ti_low (by omega), ti_low (by omega), ti_low (by omega), ti_low (by omega), ti_low (by omega)]
theorem ok_lift (hO : wOk τ ns nl nc A) {k9 : Nat} (hk9 : k9 < nl) : wOk (nx_lift τ (nI k9)) ns nl nc (ti A 0 (7 * k9) 0) := by
  obtain ⟨⟨hns, hnl, hnc⟩, h2, hF, hC, hin, hof, hfe, hle⟩ := hO
  have e : nx_lift τ (nI k9) = ti τ 4 k9 1 := by rw [nx_lift, cx_nI (by omega)]
  rw [e]
  refine ⟨⟨hns, hnl, hnc⟩, h2, fun k hk => ?_, fun n hn => (hC n hn).cg (fun i h1 h2 => by rw [ti_low (by omega)]) (fun j _ => rfl), hin, hof, hfe, hle⟩
  by_cases hkn : k = k9
  · subst hkn
    obtain ⟨g0, g1, g2, g3, g4, g6, g7⟩ := hF k hk
    have r4 : (ti τ 4 k 1) 4 k = 1 := pk_us
    unfold wF
    rw [r4]
    refine ⟨?_, (pk_un (by omega)).trans g1, (pk_un (by omega)).trans g2, (pk_un (by omega)).trans g3, fun z => ⟨(pk_un (by omega)).trans (g4 z).1, (pk_un (by omega)).trans (g4 z).2⟩, (pk_un (by omega)).trans g6, g7⟩
    show upd (A 0) (7 * k) 0 (7 * k) = _
    rw [pk_us]; rfl
  · refine (hF k hk).cg (fun i h1 h2 => ?_) (fun j hj => pk_un (by omega))
    by_cases hi : i = 4
    · subst hi; exact pk_un hkn
    · rw [ti_low hi]
theorem n_plan (hI : Iv τ nw ns nl nc) {s f n r : Int32} : iN (nx_plan τ s f n r) nw ns nl (nc + 1) := by
  have h := hI.iN
  refine ⟨⟨h.1.1, h.1.2.1, h.1.2.2.1, ?_⟩, h.2.1, h.2.2.1, h.2.2.2.1, ?_⟩
  · show τ 0 3 + 1 = _
    rw [h.1.2.2.2, nI_1]
  · have := hI.2.2.2.1.2; omega
theorem ok_plan (hI : Iv τ nw ns nl nc) (hO : wOk τ ns nl nc A) (h6 : nc < 6) {s f n r : Int32} : wOk (nx_plan τ s f n r) ns nl (nc + 1) (ti (ti (ti (ti (ti (ti (ti (ti A 1 (7 * nc) s) 1 (7 * nc + 1) f) 1 (7 * nc + 2) n) 1 (7 * nc + 3) r) 1 (7 * nc + 4) 0) 1 (7 * nc + 5) 0) 1 (7 * nc + 6) (-1)) 6 3 (nI nc + 1)) := by
  obtain ⟨⟨hns, hnl, hnc⟩, ⟨hg0, hg1, hg2, hg3⟩, hF, hC, hin, hof, hfe, hle⟩ := hO
  have hcs : cx (τ 0 3) = nc := by rw [hI.2.2.2.1.1]; exact cx_nI (by omega)
  obtain ⟨h15, h16⟩ := hI.2.2.2.2.2.2.2.2.2.2.2.1 nc (Nat.le_refl _) (by omega)
  refine ⟨⟨hns, hnl, by omega⟩, ⟨hg0, hg1, hg2, ?_⟩, fun k hk => (hF k hk).cg (fun i h1 h2 => ?_) (fun j _ => rfl), fun k hk => ?_, hin, hof, hfe, hle⟩
  · show nI nc + 1 = τ 0 3 + 1
    rw [hI.2.2.2.1.1]
  · rw [nx_plan, t0_low (by omega), ti_low (by omega), ti_low (by omega), ti_low (by omega), ti_low (by omega), ti_low (by omega)]
  · by_cases hkn : k = nc
    · subst hkn
      have r11 : nx_plan τ s f n r 11 k = s := by rw [nx_plan, hcs]; exact pk_us
      have r12 : nx_plan τ s f n r 12 k = f := by rw [nx_plan, hcs]; exact pk_us
      have r13 : nx_plan τ s f n r 13 k = n := by rw [nx_plan, hcs]; exact pk_us
      have r14 : nx_plan τ s f n r 14 k = r := by rw [nx_plan, hcs]; exact pk_us
      have r15 : nx_plan τ s f n r 15 k = 0 := by rw [nx_plan, hcs]; exact h15
      have r16 : nx_plan τ s f n r 16 k = 0 := by rw [nx_plan, hcs]; exact h16
      have r17 : nx_plan τ s f n r 17 k = -1 := by rw [nx_plan, hcs]; exact pk_us
      unfold wC
      rw [r11, r12, r13, r14, r15, r16, r17]
      refine ⟨?_, ?_, ?_, ?_, ?_, ?_, ?_⟩
      · show upd (upd (upd (upd (upd (upd (upd (A 1) (7 * k) s) (7 * k + 1) f) (7 * k + 2) n) (7 * k + 3) r) (7 * k + 4) 0) (7 * k + 5) 0) (7 * k + 6) (-1) (7 * k) = _
        rw [pk_un (by omega), pk_un (by omega), pk_un (by omega), pk_un (by omega), pk_un (by omega), pk_un (by omega), pk_us]
      · show upd (upd (upd (upd (upd (upd (upd (A 1) (7 * k) s) (7 * k + 1) f) (7 * k + 2) n) (7 * k + 3) r) (7 * k + 4) 0) (7 * k + 5) 0) (7 * k + 6) (-1) (7 * k + 1) = _
        rw [pk_un (by omega), pk_un (by omega), pk_un (by omega), pk_un (by omega), pk_un (by omega), pk_us]
      · show upd (upd (upd (upd (upd (upd (upd (A 1) (7 * k) s) (7 * k + 1) f) (7 * k + 2) n) (7 * k + 3) r) (7 * k + 4) 0) (7 * k + 5) 0) (7 * k + 6) (-1) (7 * k + 2) = _
        rw [pk_un (by omega), pk_un (by omega), pk_un (by omega), pk_un (by omega), pk_us]
      · show upd (upd (upd (upd (upd (upd (upd (A 1) (7 * k) s) (7 * k + 1) f) (7 * k + 2) n) (7 * k + 3) r) (7 * k + 4) 0) (7 * k + 5) 0) (7 * k + 6) (-1) (7 * k + 3) = _
        rw [pk_un (by omega), pk_un (by omega), pk_un (by omega), pk_us]
      · show upd (upd (upd (upd (upd (upd (upd (A 1) (7 * k) s) (7 * k + 1) f) (7 * k + 2) n) (7 * k + 3) r) (7 * k + 4) 0) (7 * k + 5) 0) (7 * k + 6) (-1) (7 * k + 4) = _
        rw [pk_un (by omega), pk_un (by omega), pk_us]
      · show upd (upd (upd (upd (upd (upd (upd (A 1) (7 * k) s) (7 * k + 1) f) (7 * k + 2) n) (7 * k + 3) r) (7 * k + 4) 0) (7 * k + 5) 0) (7 * k + 6) (-1) (7 * k + 5) = _
        rw [pk_un (by omega), pk_us]
      · show upd (upd (upd (upd (upd (upd (upd (A 1) (7 * k) s) (7 * k + 1) f) (7 * k + 2) n) (7 * k + 3) r) (7 * k + 4) 0) (7 * k + 5) 0) (7 * k + 6) (-1) (7 * k + 6) = _
        rw [pk_us]
    · refine (hC k (by omega)).cg (fun i h1 h2 => ?_) (fun j hj => ?_)
      · rw [nx_plan, hcs, t0_low (by omega)]
        rcases (by omega : i = 11 ∨ i = 12 ∨ i = 13 ∨ i = 14 ∨ i = 15 ∨ i = 16 ∨ i = 17) with rfl | rfl | rfl | rfl | rfl | rfl | rfl
        · exact pk_un hkn
        · exact pk_un hkn
        · exact pk_un hkn
        · exact pk_un hkn
        · rfl
        · rfl
        · exact pk_un hkn
      · show upd (upd (upd (upd (upd (upd (upd (A 1) (7 * nc) s) (7 * nc + 1) f) (7 * nc + 2) n) (7 * nc + 3) r) (7 * nc + 4) 0) (7 * nc + 5) 0) (7 * nc + 6) (-1) (7 * k + j) = _
        rw [pk_un (by omega), pk_un (by omega), pk_un (by omega), pk_un (by omega), pk_un (by omega), pk_un (by omega), pk_un (by omega)]
theorem ok_move (hO : wOk τ ns nl nc A) {n : Nat} (hn : n < nc) {f : Int32} : wOk (nx_move τ (nI n) f) ns nl nc (ti (ti (ti A 1 (7 * n + 1) f) 1 (7 * n + 4) 0) 1 (7 * n + 5) 0) := by
  obtain ⟨⟨hns, hnl, hnc⟩, h2, hF, hC, hin, hof, hfe, hle⟩ := hO
  have e : nx_move τ (nI n) f = ti (ti (ti τ 12 n f) 15 n 0) 16 n 0 := by rw [nx_move, cx_nI (by omega)]
  rw [e]
  refine ⟨⟨hns, hnl, hnc⟩, h2, fun k hk => (hF k hk).cg (fun i h1 h2 => by rw [ti_low (by omega), ti_low (by omega), ti_low (by omega)]) (fun j _ => rfl), fun k hk => ?_, hin, hof, hfe, hle⟩
  by_cases hkn : k = n
  · subst hkn
    obtain ⟨g0, g1, g2, g3, g4, g5, g6⟩ := hC k hk
    refine ⟨?_, ?_, ?_, ?_, ?_, ?_, ?_⟩
    · show upd (upd (upd (A 1) (7 * k + 1) f) (7 * k + 4) 0) (7 * k + 5) 0 (7 * k) = τ 11 k
      rw [pk_un (by omega), pk_un (by omega), pk_un (by omega)]; exact g0
    · show upd (upd (upd (A 1) (7 * k + 1) f) (7 * k + 4) 0) (7 * k + 5) 0 (7 * k + 1) = upd (τ 12) k f k
      rw [pk_un (by omega), pk_un (by omega), pk_us, pk_us]
    · show upd (upd (upd (A 1) (7 * k + 1) f) (7 * k + 4) 0) (7 * k + 5) 0 (7 * k + 2) = τ 13 k
      rw [pk_un (by omega), pk_un (by omega), pk_un (by omega)]; exact g2
    · show upd (upd (upd (A 1) (7 * k + 1) f) (7 * k + 4) 0) (7 * k + 5) 0 (7 * k + 3) = τ 14 k
      rw [pk_un (by omega), pk_un (by omega), pk_un (by omega)]; exact g3
    · show upd (upd (upd (A 1) (7 * k + 1) f) (7 * k + 4) 0) (7 * k + 5) 0 (7 * k + 4) = upd (τ 15) k 0 k
      rw [pk_un (by omega), pk_us, pk_us]
    · show upd (upd (upd (A 1) (7 * k + 1) f) (7 * k + 4) 0) (7 * k + 5) 0 (7 * k + 5) = upd (τ 16) k 0 k
      rw [pk_us, pk_us]
    · show upd (upd (upd (A 1) (7 * k + 1) f) (7 * k + 4) 0) (7 * k + 5) 0 (7 * k + 6) = τ 17 k
      rw [pk_un (by omega), pk_un (by omega), pk_un (by omega)]; exact g6
  · refine (hC k hk).cg (fun i h1 h2 => ?_) (fun j hj => ?_)
    · rcases (by omega : i = 11 ∨ i = 12 ∨ i = 13 ∨ i = 14 ∨ i = 15 ∨ i = 16 ∨ i = 17) with rfl | rfl | rfl | rfl | rfl | rfl | rfl
      · rfl
      · exact pk_un hkn
      · rfl
      · rfl
      · exact pk_un hkn
      · exact pk_un hkn
      · rfl
    · show upd (upd (upd (A 1) (7 * n + 1) f) (7 * n + 4) 0) (7 * n + 5) 0 (7 * k + j) = _
      rw [pk_un (by omega), pk_un (by omega), pk_un (by omega)]
/-- one place of a change's row -/
theorem wC.one {ca : Nat → Int32} {n j r : Nat} {v : Int32} (hr : 11 ≤ r ∧ r ≤ 17) (hj : j = [0, 1, 2, 3, 4, 5, 6].getD (r - 11) 0) (hC : ∀ n, n < nc → wC τ ca n) : ∀ k, k < nc → wC (ti τ r n v) (upd ca (7 * n + j) v) k := by
  intro k hk
  by_cases hkn : k = n
  · subst hkn
    obtain ⟨g0, g1, g2, g3, g4, g5, g6⟩ := hC k hk
    rcases (by omega : r = 11 ∨ r = 12 ∨ r = 13 ∨ r = 14 ∨ r = 15 ∨ r = 16 ∨ r = 17) with rfl | rfl | rfl | rfl | rfl | rfl | rfl <;> simp only [Nat.sub_self, Nat.reduceSub, List.getD_cons_zero, List.getD_cons_succ] at hj <;> subst hj
    · exact ⟨pk_us.trans pk_us.symm, (pk_un (by omega)).trans g1, (pk_un (by omega)).trans g2, (pk_un (by omega)).trans g3, (pk_un (by omega)).trans g4, (pk_un (by omega)).trans g5, (pk_un (by omega)).trans g6⟩
    · exact ⟨(pk_un (by omega)).trans g0, pk_us.trans pk_us.symm, (pk_un (by omega)).trans g2, (pk_un (by omega)).trans g3, (pk_un (by omega)).trans g4, (pk_un (by omega)).trans g5, (pk_un (by omega)).trans g6⟩
    · exact ⟨(pk_un (by omega)).trans g0, (pk_un (by omega)).trans g1, pk_us.trans pk_us.symm, (pk_un (by omega)).trans g3, (pk_un (by omega)).trans g4, (pk_un (by omega)).trans g5, (pk_un (by omega)).trans g6⟩
    · exact ⟨(pk_un (by omega)).trans g0, (pk_un (by omega)).trans g1, (pk_un (by omega)).trans g2, pk_us.trans pk_us.symm, (pk_un (by omega)).trans g4, (pk_un (by omega)).trans g5, (pk_un (by omega)).trans g6⟩
    · exact ⟨(pk_un (by omega)).trans g0, (pk_un (by omega)).trans g1, (pk_un (by omega)).trans g2, (pk_un (by omega)).trans g3, pk_us.trans pk_us.symm, (pk_un (by omega)).trans g5, (pk_un (by omega)).trans g6⟩
    · exact ⟨(pk_un (by omega)).trans g0, (pk_un (by omega)).trans g1, (pk_un (by omega)).trans g2, (pk_un (by omega)).trans g3, (pk_un (by omega)).trans g4, pk_us.trans pk_us.symm, (pk_un (by omega)).trans g6⟩
    · exact ⟨(pk_un (by omega)).trans g0, (pk_un (by omega)).trans g1, (pk_un (by omega)).trans g2, (pk_un (by omega)).trans g3, (pk_un (by omega)).trans g4, (pk_un (by omega)).trans g5, pk_us.trans pk_us.symm⟩
  · refine (hC k hk).cg (fun i h1 h2 => ?_) (fun j9 hj9 => pk_un ?_)
    · by_cases hi : i = r
      · subst hi
        rw [show ti τ i n v i = upd (τ i) n v from va_up_self ..]; exact pk_un hkn
      · rw [ti_low hi]
    · have : j < 7 := by
        rcases (by omega : r = 11 ∨ r = 12 ∨ r = 13 ∨ r = 14 ∨ r = 15 ∨ r = 16 ∨ r = 17) with rfl | rfl | rfl | rfl | rfl | rfl | rfl <;> simp only [Nat.sub_self, Nat.reduceSub, List.getD_cons_zero, List.getD_cons_succ] at hj <;> omega
      omega
theorem ok_approve (hO : wOk τ ns nl nc A) {n : Nat} (hnc9 : n < nc) : wOk (nx_approve τ (nI n)) ns nl nc (ti A 1 (7 * n + 4) (τ 15 n + 1)) := by
  obtain ⟨⟨hns, hnl, hnc⟩, h2, hF, hC, hin, hof, hfe, hle⟩ := hO
  have e : nx_approve τ (nI n) = ti τ 15 n (τ 15 n + 1) := by rw [nx_approve, cx_nI (by omega)]
  rw [e]
  exact ⟨⟨hns, hnl, hnc⟩, h2, fun k hk => (hF k hk).cg (fun i h1 h2 => by rw [ti_low (by omega)]) (fun j _ => rfl), wC.one (r := 15) (j := 4) (by omega) rfl hC, hin, hof, hfe, hle⟩
theorem ok_begin (hI : Iv τ nw ns nl nc) (hO : wOk τ ns nl nc A) {n : Nat} (hnc9 : n < nc) : wOk (nx_begin τ (nI n)) ns nl nc (ti A 1 (7 * n + 6) (nI nl)) := by
  obtain ⟨⟨hns, hnl, hnc⟩, h2, hF, hC, hin, hof, hfe, hle⟩ := hO
  have e : nx_begin τ (nI n) = ti τ 17 n (nI nl) := by rw [nx_begin, cx_nI (by omega), hI.2.2.1.1]
  rw [e]
  exact ⟨⟨hns, hnl, hnc⟩, h2, fun k hk => (hF k hk).cg (fun i h1 h2 => by rw [ti_low (by omega)]) (fun j _ => rfl), wC.one (r := 17) (j := 6) (by omega) rfl hC, hin, hof, hfe, hle⟩
theorem ok_left (hle : ∀ r, 1 ≤ r → r < 4 → A 5 r = τ 18 r) {k : Nat} {v : Int32} : ∀ r, 1 ≤ r → r < 4 → upd (A 5) k v r = upd (τ 18) k v r := by
  intro r h1 h2
  by_cases h : r = k
  · subst h; rw [pk_us, pk_us]
  · rw [pk_un h, pk_un h]; exact hle r h1 h2
theorem ok_exceptions (hO : wOk τ ns nl nc A) {rk : Nat} (hrk : rk < 4) {v : Int32} : wOk (nx_exceptions τ (nI rk) v) ns nl nc (ti A 5 rk v) := by
  obtain ⟨⟨hns, hnl, hnc⟩, h2, hF, hC, hin, hof, hfe, hle⟩ := hO
  have e : nx_exceptions τ (nI rk) v = ti τ 18 rk v := by rw [nx_exceptions, cx_nI (by omega)]
  rw [e]
  exact ⟨⟨hns, hnl, hnc⟩, h2, fun k hk => (hF k hk).cg (fun i h1 h2 => by rw [ti_low (by omega)]) (fun j _ => rfl), fun k hk => (hC k hk).cg (fun i h1 h2 => by rw [ti_low (by omega)]) (fun j _ => rfl), hin, hof, hfe, ok_left hle⟩
theorem ok_excuse (hO : wOk τ ns nl nc A) {n k9 sp : Nat} (hn : n < nc) (hsp : rkx τ (cx (nI k9)) = sp) : wOk (nx_excuse τ (nI n) (nI k9)) ns nl nc (ti (ti A 5 sp (τ 18 sp - 1)) 1 (7 * n + 5) (τ 16 n ||| (1 <<< (nI k9 &&& 31)))) := by
  obtain ⟨⟨hns, hnl, hnc⟩, h2, hF, hC, hin, hof, hfe, hle⟩ := hO
  have e : nx_excuse τ (nI n) (nI k9) = ti (ti τ 16 n (τ 16 n ||| (1 <<< (nI k9 &&& 31)))) 18 sp (τ 18 sp - 1) := by rw [nx_excuse, cx_nI (n := n) (by omega), hsp]
  rw [e]
  refine ⟨⟨hns, hnl, hnc⟩, h2, fun k hk => (hF k hk).cg (fun i h1 h2 => by rw [ti_low (by omega), ti_low (by omega)]) (fun j _ => rfl), fun k hk => (wC.one (r := 16) (j := 5) (v := τ 16 n ||| (1 <<< (nI k9 &&& 31))) (n := n) (by omega) rfl hC k hk).cg (fun i h1 h2 => by rw [ti_low (by omega)]) (fun j _ => rfl), hin, hof, hfe, ok_left hle⟩
theorem n_pass (hI : Iv τ nw ns nl nc) {h : Nat} (hh : h ≤ 100) : iN (nx_pass τ (nI h)) (nw + h) ns nl nc := by
  have h9 := hI.iN
  refine ⟨⟨?_, h9.1.2.1, h9.1.2.2.1, h9.1.2.2.2⟩, ?_, h9.2.2.1, h9.2.2.2.1, h9.2.2.2.2⟩
  · show τ 0 0 + nI h = _
    rw [h9.1.1, nI_add]
  · have := hI.1.2; omega
theorem ok_pass (hI : Iv τ nw ns nl nc) (hO : wOk τ ns nl nc A) {h : Int32} : wOk (nx_pass τ h) ns nl nc (ti A 6 0 (nI nw + h)) := by
  obtain ⟨h1, ⟨hg0, hg1, hg2, hg3⟩, hF, hC, hin, hof, hfe, hle⟩ := hO
  refine ⟨h1, ⟨?_, hg1, hg2, hg3⟩, fun k hk => (hF k hk).cg (fun i h1 h2 => by rw [nx_pass, t0_low (by omega)]) (fun j _ => rfl), fun k hk => (hC k hk).cg (fun i h1 h2 => by rw [nx_pass, t0_low (by omega)]) (fun j _ => rfl), hin, hof, hfe, hle⟩
  show nI nw + h = τ 0 0 + h
  rw [hI.1.1]
end OK
