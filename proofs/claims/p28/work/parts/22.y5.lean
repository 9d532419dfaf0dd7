theorem bit_n0 {x : Int32} {q : Nat} : bit x q = true ↔ ¬ (x >>> (nI q &&& 31)) &&& 1 = 0 := by
  unfold bit
  simp
theorem rkS_nz (ex : Nat → Int32) : ∀ n r, 4 ≤ r + n → rkS ex n r < 4 → ¬ ex (rkS ex n r) = 0 := by
  intro n
  induction n with
  | zero => intro r h1 h2; rw [rkS] at h2; omega
  | succ n ih =>
    intro r h1 h2
    rw [rkS] at h2 ⊢
    by_cases h : r < 4 ∧ ex r = 0
    · rw [if_pos h] at h2 ⊢
      exact ih (r + 1) (by omega) h2
    · rw [if_neg h] at h2 ⊢
      exact fun h9 => h ⟨h2, h9⟩
theorem lf_k3b {τ : Tau} {ad : Nat → Nat} {nl q : Nat} {ff : Nat → Option Nat} (h3b : ∀ k, k < 20 → ff k = if k < nl ∧ τ 4 k = 0 then some (ad (40 + k)) else none) (hq : q < nl) : ∀ k, k < 20 → va_up ff q none k = if k < nl ∧ (ti τ 4 q 1) 4 k = 0 then some (ad (40 + k)) else none := by
  intro k hk
  show _ = if k < nl ∧ upd (τ 4) q 1 k = 0 then some (ad (40 + k)) else none
  by_cases h : k = q
  · subst h
    rw [va_up_self, upd_at, if_neg (fun h => absurd h.2 (by decide))]
  · rw [va_up_ne _ _ h, upd_ne _ _ h]
    exact h3b k hk
theorem fe_bit {τ : Tau} {d e : Nat} {f9 x : Int32} (hd : d < 4) (he : e < 30) (hx : x = nI e) (h : ∀ g, g < 30 → bit f9 g = !(τ 3 (30 * d + g) == 0)) : ∀ g, g < 30 → bit (f9 ^^^ 1 <<< (x &&& 31)) g = !(upd (τ 3) (30 * d + e) (bI (τ 3 (30 * d + e) = 0)) (30 * d + g) == 0) := by
  intro g hg
  rw [hx, bit_xor _ _ (by omega), bit_one e (by omega) g (by omega), h g hg]
  by_cases hge : g = e
  · subst hge
    rw [upd_at]
    by_cases h0 : τ 3 (30 * d + g) = 0
    · rw [bI_t h0, h0]; simp
    · rw [bI_f h0, show (τ 3 (30 * d + g) == 0) = false from beq_eq_false_iff_ne.mpr h0]; simp
  · rw [upd_ne _ _ (by omega), show decide (g = e) = false from decide_eq_false hge]
    simp
theorem fe_val {τ : Tau} {k : Nat} : bI ((!((upd (τ 3) k (bI (τ 3 k = 0))) k == 0)) = true) = bI (τ 3 k = 0) := by
  rw [upd_at]
  by_cases h0 : τ 3 k = 0
  · rw [bI_t h0]; rfl
  · rw [bI_f h0]; rfl
