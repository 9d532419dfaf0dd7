theorem okF_k {τ : Tau} {nw ns nl nc k : Nat} {a : Int32} (hI : Iv τ nw ns nl nc) (hka : a = nI k) (hk : k < 20) : okF τ a ↔ (k < nl ∧ τ 4 k = 0) := by
  have hc : cx a = k := by rw [hka]; exact cx_nI (by omega)
  constructor
  · rintro ⟨h1, h2⟩
    obtain ⟨j, hj, ha, hja⟩ := hI.n h1
    rw [hc] at hja h2
    subst hja
    exact ⟨hj, h2⟩
  · rintro ⟨h1, h2⟩
    refine ⟨?_, by rw [hc]; exact h2⟩
    rw [hka]
    exact ix_ok hI.2.2.1.1 (by have := hI.2.2.1.2; omega) h1
theorem okC_k {τ : Tau} {nw ns nl nc k : Nat} {a : Int32} (hI : Iv τ nw ns nl nc) (hka : a = nI k) (hk : k < 30) : okC τ a ↔ k < nc := by
  have hc : cx a = k := by rw [hka]; exact cx_nI (by omega)
  constructor
  · intro h1
    obtain ⟨j, hj, ha, hja⟩ := hI.c h1
    rw [hc] at hja
    subst hja
    exact hj
  · intro h1
    show 0 ≤ a ∧ a ≤ τ 0 3 - 1
    rw [hka]
    exact ix_ok hI.2.2.2.1.1 (by have := hI.2.2.2.1.2; omega) h1
