/-! the numbers after a write -/
theorem nI_up {x : Int32} {n N : Nat} (hx : x = nI n) (hn : n ≤ N) (hN : N < 100000) (h : ¬ x = nI N) : n + 1 ≤ N := by
  have : n ≠ N := fun e => h (by rw [hx, e])
  omega
theorem nI_suc {x : Int32} {n : Nat} (hx : x = nI n) : x + 1 = nI (n + 1) := by rw [hx, nI_1]
theorem upd_at (f : Nat → Int32) (k : Nat) (v : Int32) : upd f k v k = v := pk_us
theorem upd_ne (f : Nat → Int32) {k j : Nat} (v : Int32) (h : j ≠ k) : upd f k v j = f j := pk_un h
theorem Iv.pass {τ : Tau} {nw ns nl nc : Nat} (hI : Iv τ nw ns nl nc) {h : Int32} (hth : th_pass τ h = 0) : ∃ nw1, Iv (nx_pass τ h) nw1 ns nl nc := by
  obtain ⟨⟨w1, w2⟩, ⟨s1, s2, s3⟩, ⟨l1, l2⟩, ⟨c1, c2⟩, ⟨t1, t2⟩, ho, hf, h4, h4n, hF, hC, hZ, hE⟩ := id hI
  unfold th_pass at hth
  by_cases h1 : 1 ≤ h ∧ h ≤ 100
  · rw [if_neg (by simpa using h1)] at hth
    by_cases h2 : 672 ≤ τ 0 0 + h
    · rw [if_pos h2] at hth; exact absurd hth (by decide)
    · obtain ⟨d, hd, hda⟩ := nI_ex (x := h) (n := 101) (by lia) (by show h < 101; lia) (by omega)
      have e : τ 0 0 + h = nI (nw + d) := by rw [w1, hda, nI_add]
      have hlt : nw + d ≤ 671 := by
        rcases Nat.lt_or_ge 671 (nw + d) with h9 | h9
        · exact absurd (show 672 ≤ τ 0 0 + h by rw [e]; exact nI_le (a := 672) (by omega) (by omega)) h2
        · exact h9
      exact ⟨nw + d, ⟨e, hlt⟩, ⟨s1, s2, s3⟩, ⟨l1, l2⟩, ⟨c1, c2⟩, ⟨t1, t2⟩, ho, hf, h4, h4n, hF, hC, hZ, hE⟩
  · rw [if_pos h1] at hth; exact absurd hth (by decide)
theorem Iv.scope {τ : Tau} {nw ns nl nc : Nat} (hI : Iv τ nw ns nl nc) {i : Nat} (hi : i < ns) (h16 : ¬ τ 0 1 = 16) : Iv (nx_scope τ (nI i)) nw (ns + 1) nl nc := by
  obtain ⟨⟨w1, w2⟩, ⟨s1, s2, s3⟩, ⟨l1, l2⟩, ⟨c1, c2⟩, ⟨t1, t2⟩, ho, hf, h4, h4n, hF, hC, hZ, hE⟩ := id hI
  have hcn : cx (τ 0 1) = ns := by rw [s1]; exact cx_nI (by omega)
  have h1 := nI_up (N := 16) s1 s3 (by omega) h16
  unfold nx_scope
  rw [hcn]
  refine ⟨⟨w1, w2⟩, ⟨nI_suc s1, by omega, h1⟩, ⟨l1, l2⟩, ⟨c1, c2⟩, ⟨?_, ?_⟩, ho, hf, h4, h4n, ?_, ?_, hZ, hE⟩
  · show upd (τ 1) ns (nI i) 0 = -1
    rw [upd_ne _ _ (by omega)]; exact t1
  · intro k hk1 hk2
    show ∃ j, j < k ∧ upd (τ 1) ns (nI i) k = nI j
    by_cases h9 : k = ns
    · subst h9; exact ⟨i, hi, upd_at ..⟩
    · rw [upd_ne _ _ h9]; exact t2 k hk1 (by omega)
  · intro k hk
    obtain ⟨a1, ⟨s, hs, a2⟩, a3, a4⟩ := hF k hk
    exact ⟨a1, ⟨s, by omega, a2⟩, a3, a4⟩
  · intro k hk
    obtain ⟨⟨s, hs, a1⟩, a2⟩ := hC k hk
    exact ⟨⟨s, by omega, a1⟩, a2⟩
theorem Iv.offset {τ : Tau} {nw ns nl nc : Nat} (hI : Iv τ nw ns nl nc) {d : Nat} {b : Int32} (hb : -11 ≤ b ∧ b ≤ 12) : Iv (ti τ 2 d b) nw ns nl nc := by
  obtain ⟨⟨w1, w2⟩, ⟨s1, s2, s3⟩, ⟨l1, l2⟩, ⟨c1, c2⟩, ⟨t1, t2⟩, ho, hf, h4, h4n, hF, hC, hZ, hE⟩ := id hI
  refine ⟨⟨w1, w2⟩, ⟨s1, s2, s3⟩, ⟨l1, l2⟩, ⟨c1, c2⟩, ⟨t1, t2⟩, ?_, hf, h4, h4n, hF, hC, hZ, hE⟩
  intro j hj
  show -11 ≤ upd (τ 2) d b j ∧ upd (τ 2) d b j ≤ 12
  by_cases h9 : j = d
  · rw [h9, upd_at]; exact hb
  · rw [upd_ne _ _ h9]; exact ho j hj
theorem Iv.feast {τ : Tau} {nw ns nl nc : Nat} (hI : Iv τ nw ns nl nc) {d : Nat} {q : Prop} [Decidable q] : Iv (ti τ 3 d (bI q)) nw ns nl nc := by
  obtain ⟨⟨w1, w2⟩, ⟨s1, s2, s3⟩, ⟨l1, l2⟩, ⟨c1, c2⟩, ⟨t1, t2⟩, ho, hf, h4, h4n, hF, hC, hZ, hE⟩ := id hI
  refine ⟨⟨w1, w2⟩, ⟨s1, s2, s3⟩, ⟨l1, l2⟩, ⟨c1, c2⟩, ⟨t1, t2⟩, ho, ?_, h4, h4n, hF, hC, hZ, hE⟩
  intro j hj
  show upd (τ 3) d (bI q) j = 0 ∨ upd (τ 3) d (bI q) j = 1
  by_cases h9 : j = d
  · rw [h9, upd_at]; unfold bI; split
    · exact Or.inr rfl
    · exact Or.inl rfl
  · rw [upd_ne _ _ h9]; exact hf j hj
theorem Iv.lays {τ : Tau} {nw ns nl nc : Nat} (hI : Iv τ nw ns nl nc) {how a b : Int32} {i d r : Nat} (hw3 : how = 0 ∨ how = 1 ∨ how = 2) (hi : i < ns) (hd : d < 4) (hr1 : 1 ≤ r) (hr3 : r ≤ 3) (h20 : ¬ τ 0 2 = 20) : Iv (nx_lays τ how (nI i) (nI d) a b (nI r)) nw ns (nl + 1) nc := by
  obtain ⟨⟨w1, w2⟩, ⟨s1, s2, s3⟩, ⟨l1, l2⟩, ⟨c1, c2⟩, ⟨t1, t2⟩, ho, hf, h4, h4n, hF, hC, hZ, hE⟩ := id hI
  have hcn : cx (τ 0 2) = nl := by rw [l1]; exact cx_nI (by omega)
  have h1 := nI_up (N := 20) l1 l2 (by omega) h20
  unfold nx_lays
  rw [hcn]
  refine ⟨⟨w1, w2⟩, ⟨s1, s2, s3⟩, ⟨nI_suc l1, h1⟩, ⟨c1, c2⟩, ⟨t1, t2⟩, ho, hf, h4, fun k hk => h4n k (by omega), ?_, ?_, hZ, hE⟩
  · intro k hk
    show (upd (τ 5) nl how k = 0 ∨ upd (τ 5) nl how k = 1 ∨ upd (τ 5) nl how k = 2) ∧ (∃ s, s < ns ∧ upd (τ 6) nl (nI i) k = nI s) ∧ (∃ d9, d9 < 4 ∧ upd (τ 7) nl (nI d) k = nI d9) ∧ (∃ r9, 1 ≤ r9 ∧ r9 ≤ 3 ∧ upd (τ 10) nl (nI r) k = nI r9)
    by_cases h9 : k = nl
    · subst h9
      rw [upd_at, upd_at, upd_at, upd_at]
      exact ⟨hw3, ⟨i, hi, rfl⟩, ⟨d, hd, rfl⟩, ⟨r, hr1, hr3, rfl⟩⟩
    · rw [upd_ne _ _ h9, upd_ne _ _ h9, upd_ne _ _ h9, upd_ne _ _ h9]
      exact hF k (by omega)
  · intro k hk
    obtain ⟨a1, a2, a3, a4, a5⟩ := hC k hk
    refine ⟨a1, a2, a3, a4, ?_⟩
    rcases a5 with h | ⟨q, hq, h⟩
    · exact Or.inl h
    · exact Or.inr ⟨q, by omega, h⟩
theorem Iv.lift {τ : Tau} {nw ns nl nc : Nat} (hI : Iv τ nw ns nl nc) {k : Nat} (hk : k < nl) : Iv (ti τ 4 k 1) nw ns nl nc := by
  obtain ⟨⟨w1, w2⟩, ⟨s1, s2, s3⟩, ⟨l1, l2⟩, ⟨c1, c2⟩, ⟨t1, t2⟩, ho, hf, h4, h4n, hF, hC, hZ, hE⟩ := id hI
  refine ⟨⟨w1, w2⟩, ⟨s1, s2, s3⟩, ⟨l1, l2⟩, ⟨c1, c2⟩, ⟨t1, t2⟩, ho, hf, ?_, ?_, hF, hC, hZ, hE⟩
  · intro j hj
    show upd (τ 4) k 1 j = 0 ∨ upd (τ 4) k 1 j = 1
    by_cases h9 : j = k
    · rw [h9, upd_at]; exact Or.inr rfl
    · rw [upd_ne _ _ h9]; exact h4 j hj
  · intro j hj1 hj2
    show upd (τ 4) k 1 j = 0
    rw [upd_ne _ _ (by omega)]; exact h4n j hj1 hj2
theorem Iv.plan {τ : Tau} {nw ns nl nc : Nat} (hI : Iv τ nw ns nl nc) {i b n : Nat} {r : Int32} (hi : i < ns) (hn1 : 1 ≤ n) (hn : n ≤ 100) (hbn : b + n ≤ 672) (hr : 1 ≤ r ∧ r ≤ 3) (h30 : ¬ τ 0 3 = 30) : Iv (nx_plan τ (nI i) (nI b) (nI n) r) nw ns nl (nc + 1) := by
  obtain ⟨⟨w1, w2⟩, ⟨s1, s2, s3⟩, ⟨l1, l2⟩, ⟨c1, c2⟩, ⟨t1, t2⟩, ho, hf, h4, h4n, hF, hC, hZ, hE⟩ := id hI
  have hcn : cx (τ 0 3) = nc := by rw [c1]; exact cx_nI (by omega)
  have h1 := nI_up (N := 30) c1 c2 (by omega) h30
  unfold nx_plan
  rw [hcn]
  refine ⟨⟨w1, w2⟩, ⟨s1, s2, s3⟩, ⟨l1, l2⟩, ⟨nI_suc c1, h1⟩, ⟨t1, t2⟩, ho, hf, h4, h4n, hF, ?_, fun k hk => hZ k (by omega), hE⟩
  intro k hk
  show (∃ s, s < ns ∧ upd (τ 11) nc (nI i) k = nI s) ∧ (∃ b9 n9, upd (τ 12) nc (nI b) k = nI b9 ∧ upd (τ 13) nc (nI n) k = nI n9 ∧ 1 ≤ n9 ∧ n9 ≤ 100 ∧ b9 + n9 ≤ 672) ∧ (1 ≤ upd (τ 14) nc r k ∧ upd (τ 14) nc r k ≤ 3) ∧ (0 ≤ τ 15 k ∧ τ 15 k ≤ upd (τ 14) nc r k) ∧ (upd (τ 17) nc (-1) k = -1 ∨ ∃ q, q ≤ nl ∧ upd (τ 17) nc (-1) k = nI q)
  by_cases h9 : k = nc
  · subst h9
    rw [upd_at, upd_at, upd_at, upd_at, upd_at, (hZ k (Nat.le_refl _) (by omega)).1]
    exact ⟨⟨i, hi, rfl⟩, ⟨b, n, rfl, rfl, hn1, hn, hbn⟩, hr, ⟨by decide, by lia⟩, Or.inl rfl⟩
  · rw [upd_ne _ _ h9, upd_ne _ _ h9, upd_ne _ _ h9, upd_ne _ _ h9, upd_ne _ _ h9]
    exact hC k (by omega)
theorem Iv.chg {τ : Tau} {nw ns nl nc : Nat} (hI : Iv τ nw ns nl nc) {τ2 : Tau} {k : Nat} (hk : k < nc) (hτ : ∀ i, i < 11 → τ2 i = τ i) (hτ2 : ∀ i, i < 18 → ∀ j, j ≠ k → τ2 i j = τ i j) (h18 : ∀ r, r < 4 → 0 ≤ τ2 18 r ∧ τ2 18 r ≤ 50) (hck : ChOk τ2 ns nl k) : Iv τ2 nw ns nl nc := by
  obtain ⟨⟨w1, w2⟩, ⟨s1, s2, s3⟩, ⟨l1, l2⟩, ⟨c1, c2⟩, ⟨t1, t2⟩, ho, hf, h4, h4n, hF, hC, hZ, hE⟩ := id hI
  unfold Iv
  simp only [hτ 0 (by omega), hτ 1 (by omega), hτ 2 (by omega), hτ 3 (by omega), hτ 4 (by omega)]
  refine ⟨⟨w1, w2⟩, ⟨s1, s2, s3⟩, ⟨l1, l2⟩, ⟨c1, c2⟩, ⟨t1, t2⟩, ho, hf, h4, h4n, ?_, ?_, ?_, h18⟩
  · intro j hj
    have := hF j hj
    unfold FrOk at this ⊢
    simp only [hτ 5 (by omega), hτ 6 (by omega), hτ 7 (by omega), hτ 10 (by omega)]
    exact this
  · intro j hj
    by_cases h9 : j = k
    · rw [h9]; exact hck
    · have := hC j hj
      unfold ChOk at this ⊢
      simp only [hτ2 11 (by omega) j h9, hτ2 12 (by omega) j h9, hτ2 13 (by omega) j h9, hτ2 14 (by omega) j h9, hτ2 15 (by omega) j h9, hτ2 17 (by omega) j h9]
      exact this
  · intro j h1 h2
    rw [hτ2 15 (by omega) j (by omega), hτ2 16 (by omega) j (by omega)]
    exact hZ j h1 h2
theorem Iv.exc {τ : Tau} {nw ns nl nc : Nat} (hI : Iv τ nw ns nl nc) {r : Nat} {n : Int32} (hn : 0 ≤ n ∧ n ≤ 50) : Iv (ti τ 18 r n) nw ns nl nc := by
  obtain ⟨⟨w1, w2⟩, ⟨s1, s2, s3⟩, ⟨l1, l2⟩, ⟨c1, c2⟩, ⟨t1, t2⟩, ho, hf, h4, h4n, hF, hC, hZ, hE⟩ := id hI
  refine ⟨⟨w1, w2⟩, ⟨s1, s2, s3⟩, ⟨l1, l2⟩, ⟨c1, c2⟩, ⟨t1, t2⟩, ho, hf, h4, h4n, hF, hC, hZ, ?_⟩
  intro j hj
  show 0 ≤ upd (τ 18) r n j ∧ upd (τ 18) r n j ≤ 50
  by_cases h9 : j = r
  · rw [h9, upd_at]; exact hn
  · rw [upd_ne _ _ h9]; exact hE j hj
