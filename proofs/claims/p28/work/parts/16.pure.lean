theorem nI_b {n N : Nat} (h : n ≤ N) (hN : N < 2 ^ 31) : 0 ≤ nI n ∧ nI n ≤ nI N := ⟨by rw [← nI_0]; exact nI_le (Nat.zero_le _) (by omega), nI_le h hN⟩
theorem cx_nI {n : Nat} (h : n < 2 ^ 31) : cx (nI n) = n := nI_clamp h
theorem ok_ix {a x : Int32} {n N : Nat} (hx : x = nI n) (hn : n ≤ N) (hN : N ≤ 100000) (h : 0 ≤ a ∧ a ≤ x - 1) : ∃ k, k < n ∧ a = nI k ∧ cx a = k := by
  have hb := nI_b hn (show N < 2 ^ 31 by omega)
  have hc := nI_b hN (show 100000 < 2 ^ 31 by omega)
  have h9 : nI 100000 = 100000 := rfl
  rw [h9] at hc
  subst hx
  obtain ⟨k, hk, rfl⟩ := nI_ex (x := a) (n := n) h.1 (by lia) (by omega)
  exact ⟨k, hk, rfl, cx_nI (by omega)⟩
theorem ix_ok {x : Int32} {n k : Nat} (hx : x = nI n) (hn : n ≤ 100000) (h : k < n) : 0 ≤ nI k ∧ nI k ≤ x - 1 := by
  subst hx
  have hb := nI_b hn (show 100000 < 2 ^ 31 by omega)
  have h9 : nI 100000 = 100000 := rfl
  rw [h9] at hb
  have h1 := nI_lt h (show n < 2 ^ 31 by omega)
  have h2 := nI_pos' (n := k) (by omega)
  exact ⟨h2, by lia⟩
theorem Iv.s {τ : Tau} {nw ns nl nc : Nat} (hI : Iv τ nw ns nl nc) {a : Int32} (h : 0 ≤ a ∧ a ≤ τ 0 1 - 1) : ∃ k, k < ns ∧ a = nI k ∧ cx a = k := ok_ix hI.2.1.1 hI.2.1.2.2 (by omega) h
theorem Iv.n {τ : Tau} {nw ns nl nc : Nat} (hI : Iv τ nw ns nl nc) {a : Int32} (h : 0 ≤ a ∧ a ≤ τ 0 2 - 1) : ∃ k, k < nl ∧ a = nI k ∧ cx a = k := ok_ix hI.2.2.1.1 hI.2.2.1.2 (by omega) h
theorem Iv.c {τ : Tau} {nw ns nl nc : Nat} (hI : Iv τ nw ns nl nc) {a : Int32} (h : 0 ≤ a ∧ a ≤ τ 0 3 - 1) : ∃ k, k < nc ∧ a = nI k ∧ cx a = k := ok_ix hI.2.2.2.1.1 hI.2.2.2.1.2 (by omega) h
theorem okL.ix {a : Int32} (h : 0 ≤ a ∧ a ≤ 3) : ∃ k, k < 4 ∧ a = nI k ∧ cx a = k := by
  obtain ⟨k, hk, rfl⟩ := nI_ex (x := a) (n := 4) h.1 (by show a < 4; lia) (by omega)
  exact ⟨k, hk, rfl, cx_nI (by omega)⟩
theorem okR.ix {a : Int32} (h : 1 ≤ a ∧ a ≤ 3) : ∃ k, 1 ≤ k ∧ k < 4 ∧ a = nI k ∧ cx a = k := by
  obtain ⟨k, hk, rfl, h2⟩ := okL.ix (a := a) ⟨by lia, h.2⟩
  refine ⟨k, ?_, hk, rfl, h2⟩
  rcases Nat.eq_zero_or_pos k with h0 | h0
  · subst h0; rw [nI_0] at h; exact absurd h.1 (by decide)
  · exact h0
theorem fd_ix {a d : Int32} {k : Nat} (ha : a = nI k) (hk : k < 4) (h : -1 ≤ d ∧ d ≤ 28) : ∃ e, e < 30 ∧ d + 1 = nI e ∧ 30 * a + d + 1 = nI (30 * k + e) ∧ ixF a d = 30 * k + e := by
  obtain ⟨e, he, h1⟩ := nI_ex (x := d + 1) (n := 30) (by lia) (by show d + 1 < 30; lia) (by omega)
  have h2 : 30 * a + d + 1 = nI (30 * k + e) := by
    rw [← nI_add, ← pk_mul, ← ha, ← h1, show nI 30 = 30 from rfl]; lia
  exact ⟨e, he, h1, h2, by rw [ixF, h2]; exact cx_nI (by omega)⟩
theorem nI_ne {n N : Nat} {x : Int32} (hx : x = nI n) (h : ¬ x = nI N) : n ≠ N := fun e => h (by rw [hx, e])
theorem t0_self (τ : Tau) (k : Nat) : t0 τ k (τ 0 k) = τ := by
  funext i j
  by_cases hi : i = 0
  · subst hi
    rw [t0, va_up_self]
    by_cases hj : j = k
    · subst hj; exact pk_us
    · exact pk_un hj
  · rw [t0, va_up_ne _ _ hi]
theorem kn_le {x : Int32} {n k : Nat} (hx : x = nI n) (h : n ≤ k) (hk : k < 2 ^ 31) : x ≤ nI k := by rw [hx]; exact nI_le h hk
theorem kn_nle {x : Int32} {n k : Nat} (hx : x = nI n) (h : k < n) (hn : n < 2 ^ 31) : ¬ x ≤ nI k := by rw [hx]; exact nI_ge h hn
theorem nI_m1 {n : Nat} (h : n < 2 ^ 31) : ¬ nI n = -1 := by have := nI_pos' h; intro e; rw [e] at this; exact absurd this (by decide)
theorem thr_ix {x : Int32} {hh : Nat} (h : hh < 672) (h1 : -11 ≤ x) (h2 : x ≤ 12) : ∃ t, t < 720 ∧ nI hh + x + 24 = nI t ∧ (nI t / 24 = nI (t / 24)) ∧ t / 24 < 30 := by
  have hb := nI_b (n := hh) (N := 671) (by omega) (by omega)
  have h9 : nI 671 = 671 := rfl
  rw [h9] at hb
  obtain ⟨t, ht, he⟩ := nI_ex (x := nI hh + x + 24) (n := 720) (by lia) (by show nI hh + x + 24 < 720; lia) (by omega)
  exact ⟨t, ht, he, pk_div (a := t) (d := 24) (by omega) (by omega) (by omega), by omega⟩
theorem ho_ix {x : Int32} {d q : Nat} (hx : x = nI d) (hd : d < 4) (hq : q < 30) : 30 * x + nI q = nI (30 * d + q) := by
  rw [hx, ← nI_add, ← pk_mul]; rfl
theorem mk_t {p : Nat → Bool} {k : Nat} (h : p k = true) : mk p k ||| 1 <<< (nI k &&& 31) = mk p (k + 1) := by simp [mk, h]
theorem mk_f {p : Nat → Bool} {k : Nat} (h : p k = false) : mk p k ||| 0 = mk p (k + 1) := by simp [mk, h]
theorem ct_t {p : Nat → Bool} {k : Nat} (h : p k = true) : nI (ct p k) + 1 = nI (ct p (k + 1)) := by simp [ct, h, nI_1]
theorem ct_f {p : Nat → Bool} {k : Nat} (h : p k = false) : nI (ct p k) + 0 = nI (ct p (k + 1)) := by simp [ct, h]
theorem fst1_snoc (p : Nat → Bool) : ∀ (n i : Nat), fst1 p (n + 1) i = (match fst1 p n i with | some j => some j | none => if p (i + n) = true then some (i + n) else none) := by
  intro n
  induction n with
  | zero => intro i; simp [fst1]
  | succ n ih =>
    intro i
    rw [fst1]
    by_cases h : p i = true
    · rw [if_pos h]; simp [fst1, h]
    · rw [if_neg h, ih (i + 1)]
      have e : i + 1 + n = i + (n + 1) := by omega
      rw [e]
      conv => rhs; rw [fst1, if_neg h]
theorem fst1_lt {p : Nat → Bool} : ∀ (n i j : Nat), fst1 p n i = some j → i ≤ j ∧ j < i + n := by
  intro n
  induction n with
  | zero => intro i j h; simp [fst1] at h
  | succ n ih =>
    intro i j h
    rw [fst1] at h
    by_cases hp : p i = true
    · rw [if_pos hp] at h; cases h; omega
    · rw [if_neg hp] at h; have := ih _ _ h; omega
/-- the hour that fst1 finds, -1 for none -/
def fbv (x : Int32) : Option Nat → Int32
  | none => -1
  | some j => x + nI j
theorem rt_firstBad_eq (τ : Tau) (c : Int32) : rt_firstBad τ c = fbv (τ 12 (cx c)) (fst1 (badB τ (cx c)) (cx (τ 13 (cx c))) 0) := by
  unfold rt_firstBad fbv; split <;> simp_all
theorem hr_add {x : Int32} {b j : Nat} (h : x = nI b) : x + nI j = nI (b + j) := by rw [h, nI_add]
theorem ct_le (p : Nat → Bool) : ∀ n, ct p n ≤ n
  | 0 => Nat.le_refl _
  | n + 1 => by have := ct_le p n; rw [ct]; split <;> omega
theorem nI_sub1 {h n : Nat} {x : Int32} (hx : x = nI n) (h1 : n ≤ h + 1) : nI h - x + 1 = nI (h + 1 - n) := by
  rw [hx, ← pk_sub h1, ← nI_1]; lia
theorem rkS_le (ex : Nat → Int32) : ∀ n r, r ≤ 4 → r ≤ rkS ex n r ∧ rkS ex n r ≤ 4 := by
  intro n
  induction n with
  | zero => intro r h; exact ⟨Nat.le_refl _, h⟩
  | succ n ih =>
    intro r h
    rw [rkS]
    split
    · next h9 => have := ih (r + 1) (by omega); omega
    · omega
theorem bI_ite {q : Prop} [Decidable q] : (if q then (1 : Int32) else 0) = bI q := rfl
theorem nI_z {n : Nat} (h : n < 2 ^ 31) : nI n = 0 ↔ n = 0 := by rw [← nI_0]; exact nI_eq h (by omega)
theorem fbv_step {x : Int32} {p : Nat → Bool} {n b : Nat} (hx : x = nI b) (hb : b + n < 2 ^ 31) : fbv x (fst1 p (n + 1) 0) = if fbv x (fst1 p n 0) = -1 ∧ p n = true then x + nI n else fbv x (fst1 p n 0) := by
  rw [fst1_snoc]
  cases hf : fst1 p n 0 with
  | none =>
    by_cases hp : p n = true
    · simp [fbv, hp]
    · simp [fbv, hp]
  | some j =>
    have hj := fst1_lt n 0 j hf
    have hne : ¬ fbv x (some j) = -1 := by
      show ¬ x + nI j = -1
      rw [hr_add hx]; exact nI_m1 (by omega)
    simp [hne]
theorem nsp_stop {fr : Nat → Bool} {many o : Int32} {n h : Nat} (e : (if fr h = true then o + 1 else 0) = many) : nsp fr many (n + 1) h o = nI h - many + 1 := by rw [nsp, if_pos e]
theorem nsp_go {fr : Nat → Bool} {many o : Int32} {n h : Nat} (e : ¬ (if fr h = true then o + 1 else 0) = many) : nsp fr many (n + 1) h o = nsp fr many n (h + 1) (if fr h = true then o + 1 else 0) := by rw [nsp, if_neg e]
