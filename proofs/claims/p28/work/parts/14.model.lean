abbrev Tau : Type := Nat → Nat → Int32
/-- a truth as an int -/
def bI (q : Prop) [Decidable q] : Int32 := if q then 1 else 0
theorem bI_t {q : Prop} [Decidable q] (h : q) : bI q = 1 := if_pos h
theorem bI_f {q : Prop} [Decidable q] (h : ¬ q) : bI q = 0 := if_neg h
theorem bI_0 {q : Prop} [Decidable q] : bI q = 0 ↔ ¬ q := by unfold bI; split <;> simp_all
theorem bI_n0 {q : Prop} [Decidable q] : ¬ bI q = 0 ↔ q := by unfold bI; split <;> simp_all
theorem bI_1 {q : Prop} [Decidable q] : bI q = 1 ↔ q := by unfold bI; split <;> simp_all
theorem bI_nar {q : Prop} [Decidable q] : narrow .boolean (.int (bI q)) = .int (bI q) := by unfold bI; split <;> rfl
theorem bI_vnar {q : Prop} [Decidable q] : vp_nar .boolean (bI q) = bI q := by unfold bI; split <;> rfl
theorem bI_cong {q r : Prop} [Decidable q] [Decidable r] (h : q ↔ r) : bI q = bI r := by unfold bI; simp only [h]
theorem nI_ex {x : Int32} {n : Nat} (h0 : 0 ≤ x) (h1 : x < nI n) (hn : n < 2 ^ 31) : ∃ k, k < n ∧ x = nI k := by
  rcases pk_ix x (n := n) hn with h | h | h
  · exact absurd h0 (by lia)
  · exact absurd h1 (by lia)
  · exact h
/-- an upward loop -/
theorem ro_loop (N : Nat) (P : Nat → Prop) (hend : P N) (hstep : ∀ i, i < N → P (i + 1) → P i) : ∀ i, i ≤ N → P i := by
  intro i hi
  obtain ⟨d, hd⟩ : ∃ d, N = i + d := ⟨N - i, by omega⟩
  induction d generalizing i with
  | zero => subst hd; exact hend
  | succ d ih => exact hstep i (by omega) (ih (i + 1) (by omega) (by omega))
