section XA
variable {p : Program} {l : Launch} {e : Env} {R : Room} {s : State} {m : MethodId} {args : Array Value} {below : List Frame} {meth : Method} {c : Code} {H : Heap} {locs : List Loc} {cells slots : Nat} {Q : State → Prop}
variable {cc : ByteArray} {nL : Nat} {D : va_G} {ids : Nat → ClassId} {n0 : Nat} {RR : List Nat} {ad : Nat → Nat} {cn : Nat → va_E} {pc : Nat} {ls : Array Slot} {rest : List Value}
theorem xo_aastN (MC : ro_C p s m args meth c cc nL "FrostCalendar" D ids n0) (HP : ro_P D n0 RR ad cn H) (HS : va_S (fun q => n0 ≤ q) s.heap H locs) (t0 : Nat) {C : String} {r : Nat} (hr : r ∈ RR) {n : Nat} {f : Nat → Option Nat} (hf : cn r = .inl (ids t0, n, .inr (.inr (.inr (.inr f))))) (ht : (uTy ids)[t0]? = some (ids t0, .object C)) (k : Nat) (hk : k < n) (hn : n ≤ 100) {i : Int32} (hi : i = nI k) (hdg : decode cc pc = .ok (.aastore, 1))
    (kk : ∀ (H1 : Heap) (locs1 : List Loc), ro_P D n0 RR ad (va_up cn r (.inl (ids t0, n, .inr (.inr (.inr (.inr (va_up f k none))))))) H1 → va_S (fun q => n0 ≤ q) s.heap H1 locs1 → W p l e R s m args below meth c H1 locs1 cells slots Q (F0 m (pc + 1) ls rest)) : W p l e R s m args below meth c H locs cells slots Q (F0 m pc ls (.null :: .int i :: .ref (ad r) :: rest)) := by
  subst hi
  refine ro_aastN MC HP HS t0 hr hf ht (vp_in_nI hk (by omega)) hdg fun H1 locs1 h1 h2 => ?_
  rw [nI_clamp (by omega)] at h1; exact kk H1 locs1 h1 h2
theorem xo_aastM (MC : ro_C p s m args meth c cc nL "FrostCalendar" D ids n0) (HP : ro_P D n0 RR ad cn H) (HS : va_S (fun q => n0 ≤ q) s.heap H locs) (t0 : Nat) {C : String} {r : Nat} (hr : r ∈ RR) {n v : Nat} {f : Nat → Option Nat} (hf : cn r = .inl (ids t0, n, .inr (.inr (.inr (.inr f))))) (ht : (uTy ids)[t0]? = some (ids t0, .object C)) (hv : va_Any C s H v) (k : Nat) (hk : k < n) (hn : n ≤ 100) {i : Int32} (hi : i = nI k) (hdg : decode cc pc = .ok (.aastore, 1))
    (kk : ∀ (H1 : Heap) (locs1 : List Loc), ro_P D n0 RR ad (va_up cn r (.inl (ids t0, n, .inr (.inr (.inr (.inr (va_up f k (some v)))))))) H1 → va_S (fun q => n0 ≤ q) s.heap H1 locs1 → W p l e R s m args below meth c H1 locs1 cells slots Q (F0 m (pc + 1) ls rest)) : W p l e R s m args below meth c H locs cells slots Q (F0 m pc ls (.ref v :: .int i :: .ref (ad r) :: rest)) := by
  subst hi
  refine ro_aastM MC HP HS t0 hr hf ht hv (vp_in_nI hk (by omega)) hdg fun H1 locs1 h1 h2 => ?_
  rw [nI_clamp (by omega)] at h1; exact kk H1 locs1 h1 h2
theorem xo_aast (MC : ro_C p s m args meth c cc nL "FrostCalendar" D ids n0) (HP : ro_P D n0 RR ad cn H) (HS : va_S (fun q => n0 ≤ q) s.heap H locs) (t0 : Nat) {q : vw_C} {r rv ci : Nat} {vs : List Value} (hr : r ∈ RR) {n : Nat} {f : Nat → Option Nat} (hf : cn r = .inl (ids t0, n, .inr (.inr (.inr (.inr f))))) (ht : (uTy ids)[t0]? = some (ids t0, .object q.1)) (hrv : rv ∈ RR) (hfv : cn rv = .inr (ci, vs)) (hc : vwCl[ci]? = some q) (k : Nat) (hk : k < n) (hn : n ≤ 100) {i : Int32} (hi : i = nI k) (hdg : decode cc pc = .ok (.aastore, 1))
    (kk : ∀ (H1 : Heap) (locs1 : List Loc), ro_P D n0 RR ad (va_up cn r (.inl (ids t0, n, .inr (.inr (.inr (.inr (va_up f k (some (ad rv))))))))) H1 → va_S (fun q => n0 ≤ q) s.heap H1 locs1 → W p l e R s m args below meth c H1 locs1 cells slots Q (F0 m (pc + 1) ls rest)) : W p l e R s m args below meth c H locs cells slots Q (F0 m pc ls (.ref (ad rv) :: .int i :: .ref (ad r) :: rest)) := by
  subst hi
  refine ro_aast MC HP HS t0 hr hf ht hrv hfv hc (vp_in_nI hk (by omega)) hdg fun H1 locs1 h1 h2 => ?_
  rw [nI_clamp (by omega)] at h1; exact kk H1 locs1 h1 h2
end XA
theorem lt_of {x : Int32} {n N : Nat} (hx : x = nI n) (hN : N < 2 ^ 31) (hn : n < 2 ^ 31) (h : ¬ nI N ≤ x) : n < N := by
  rcases Nat.lt_or_ge n N with h9 | h9
  · exact h9
  · exact absurd (by rw [hx]; exact nI_le h9 hn) h
theorem chF_of {τ2 : Tau} {k : Nat} {a b c d e f g h : Int32} (h11 : τ2 11 k = a) (h13 : τ2 13 k = b) (h14 : τ2 14 k = c) (h12 : τ2 12 k = d) (h15 : τ2 15 k = e) (h16 : τ2 16 k = f) (h17 : bI (¬ τ2 17 k = -1) = g) (hfl : flb τ2 k = h) : (Sum.inr (0, [.int a, .int b, .int c, .int d, .int e, .int f, .int g, .int h]) : va_E) = .inr (0, chF τ2 k) := by
  subst h11 h13 h14 h12 h15 h16 h17 hfl
  rfl
theorem fst1_none {p : Nat → Bool} : ∀ {n i : Nat}, fst1 p n i = none ↔ ∀ j, j < n → p (i + j) = false
  | 0, i => by simp [fst1]
  | n + 1, i => by
    rw [fst1]
    by_cases h : p i = true
    · rw [if_pos h]
      simp only [reduceCtorEq, false_iff]
      intro h9
      have := h9 0 (by omega)
      rw [Nat.add_zero, h] at this
      cases this
    · rw [if_neg h, fst1_none]
      constructor
      · intro h9 j hj
        rcases Nat.eq_zero_or_pos j with h0 | h0
        · subst h0; simpa using h
        · have := h9 (j - 1) (by omega)
          rwa [show i + 1 + (j - 1) = i + j by omega] at this
      · intro h9 j hj
        have := h9 (j + 1) (by omega)
        rwa [show i + (j + 1) = i + 1 + j by omega] at this
theorem ct_z {p : Nat → Bool} : ∀ {n : Nat}, ct p n = 0 ↔ ∀ j, j < n → p j = false
  | 0 => by simp [ct]
  | n + 1 => by
    rw [ct]
    constructor
    · intro h j hj
      by_cases hp : p n = true
      · rw [if_pos hp] at h; omega
      · rcases Nat.lt_or_ge j n with h1 | h1
        · exact ct_z.mp (by omega) j h1
        · rw [show j = n by omega]; simpa using hp
    · intro h
      rw [ct_z.mpr fun j hj => h j (by omega), if_neg (by rw [h n (by omega)]; decide)]
theorem fb_bad {τ : Tau} {k b9 n9 : Nat} (hb9 : τ 12 k = nI b9) (hbn : b9 + n9 ≤ 672) (hcl : cx (τ 13 k) = n9) : fbv (τ 12 k) (fst1 (badB τ k) (cx (τ 13 k)) 0) = -1 ↔ badN τ k = 0 := by
  unfold badN
  rw [hcl, ct_z]
  cases hf : fst1 (badB τ k) n9 0 with
  | none =>
    have := fst1_none.mp hf
    simp only [Nat.zero_add] at this
    exact ⟨fun _ => this, fun _ => rfl⟩
  | some j =>
    have hj := fst1_lt n9 0 j hf
    have h1 : ¬ fbv (τ 12 k) (some j) = -1 := by show ¬ τ 12 k + nI j = -1; rw [hr_add hb9]; exact nI_m1 (by omega)
    constructor
    · intro h; exact absurd h h1
    · intro h
      have := fst1_none.mpr (fun j hj => by rw [Nat.zero_add]; exact h j hj : ∀ j, j < n9 → badB τ k (0 + j) = false)
      rw [this] at hf; cases hf
theorem ct_lift {f : Nat → Int32} {n k : Nat} (hk : k < n) (h0 : f k = 0) : ct (fun j => f j == 0) n = ct (fun j => upd f k 1 j == 0) n + 1 := by
  induction n with
  | zero => omega
  | succ n ih =>
    rw [ct, ct]
    by_cases h : k = n
    · subst h
      have e : ct (fun j => upd f k 1 j == 0) k = ct (fun j => f j == 0) k := ct_ext fun j hj => by rw [pk_un (by omega)]
      rw [e]
      simp [h0, pk_us]
    · rw [ih (by omega), show (upd f k 1 n == 0) = (f n == 0) by rw [pk_un (fun e => h e.symm)]]
      omega
theorem st_lift {τ : Tau} {nl k : Nat} (hcs : cx (τ 0 2) = nl) (hnl : nl ≤ 20) (hk : k < nl) (h0 : τ 4 k = 0) : nI (cntS τ) - 1 = nI (cntS (ti τ 4 k 1)) := by
  have e : cntS τ = cntS (ti τ 4 k 1) + 1 := by
    show ct (fun j => τ 4 j == 0) (cx (τ 0 2)) = ct (fun j => upd (τ 4) k 1 j == 0) (cx (τ 0 2)) + 1
    rw [hcs]; exact ct_lift hk h0
  rw [e, ← nI_1]; lia
theorem bel_same {p p2 : Nat → Int32} {ns : Nat} (hns : ns ≤ 16) (h0 : p 0 = -1) (ht : ∀ k, 1 ≤ k → k < ns → ∃ j, j < k ∧ p k = nI j) (he : ∀ j, j < ns → p2 j = p j) (b : Nat) : ∀ n k, k < ns → bel p2 n k b = bel p n k b := by
  intro n
  induction n with
  | zero => intro k hk; rfl
  | succ n ih =>
    intro k hk
    rw [bel, bel, he k hk]
    rcases Nat.eq_zero_or_pos k with h | h
    · subst h; simp [h0]
    · obtain ⟨j, hj, e⟩ := ht k h hk
      rw [e, cx_nI (by omega), ih j (by omega)]
theorem bel_fuel {p : Nat → Int32} {ns : Nat} (hns : ns ≤ 16) (h0 : p 0 = -1) (ht : ∀ k, 1 ≤ k → k < ns → ∃ j, j < k ∧ p k = nI j) (b : Nat) : ∀ n k, k < n → k < ns → bel p n k b = bel p (n + 1) k b := by
  intro n
  induction n with
  | zero => intro k hk; omega
  | succ n ih =>
    intro k hk hks
    rw [bel, bel]
    rcases Nat.eq_zero_or_pos k with h | h
    · subst h; simp [h0]
    · obtain ⟨j, hj, e⟩ := ht k h hks
      rw [e, cx_nI (by omega), ih j (by omega) (by omega)]
theorem sc_bit {τ : Tau} {nw ns nl nc i : Nat} (hI : Iv τ nw ns nl nc) {sa : Nat → Int32} (h1b : ∀ k, k < ns → ∀ b, b < 16 → bit (sa k) b = bel (τ 1) 16 k b) (hi : i < ns) (h16 : ns < 16) : ∀ k, k < ns + 1 → ∀ b, b < 16 → bit (upd sa ns (sa i ||| 1 <<< (nI ns &&& 31)) k) b = bel (upd (τ 1) ns (nI i)) 16 k b := by
  obtain ⟨h0, ht⟩ := hI.2.2.2.2.1
  have hs : ∀ b n k, k < ns → bel (upd (τ 1) ns (nI i)) n k b = bel (τ 1) n k b := fun b => bel_same (by omega) h0 ht (fun j hj => pk_un (by omega)) b
  intro k hk b hb
  by_cases h : k = ns
  · subst h
    rw [pk_us, bit_or _ _ (by omega), bit_one k (by omega) b (by omega), bel, pk_us, cx_nI (by omega), hs b 15 i hi, bel_fuel (by omega) h0 ht b 15 i (by omega) hi, ← h1b i hi b hb, show (nI i == -1) = false from beq_eq_false_iff_ne.mpr (nI_m1 (by omega))]
    by_cases hbk : b = k
    · subst hbk; simp
    · simp [hbk, Ne.symm hbk]
  · rw [pk_un h, hs b 16 k (by omega)]
    exact h1b k (by omega) b hb
