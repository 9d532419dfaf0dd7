/-- what a public call leaves -/
def aft (D : va_G) (ids : Nat → ClassId) (n0 : Nat) (ad : Nat → Nat) (cn : Nat → va_E) (τ2 : Tau) (H1 : Heap) : Prop := ∃ (RR1 : List Nat) (ad1 : Nat → Nat) (cn1 : Nat → va_E) (nw1 ns1 nl1 nc1 : Nat), xH D ids n0 RR1 ad1 cn1 τ2 ns1 nl1 nc1 H1 ∧ Iv τ2 nw1 ns1 nl1 nc1 ∧ (∀ r, r < 18 → ad1 r = ad r) ∧ ∀ r, 11 ≤ r → r < 40 → cn1 r = cn r
theorem aft.rf {D : va_G} {ids : Nat → ClassId} {n0 : Nat} {RR : List Nat} {ad : Nat → Nat} {cn : Nat → va_E} {τ : Tau} {nw ns nl nc : Nat} {H : Heap} (h : xH D ids n0 RR ad cn τ ns nl nc H) (hI : Iv τ nw ns nl nc) : aft D ids n0 ad cn τ H := ⟨RR, ad, cn, nw, ns, nl, nc, h, hI, fun _ _ => rfl, fun _ _ _ => rfl⟩
theorem aft.r6 {D : va_G} {ids : Nat → ClassId} {n0 : Nat} {RR : List Nat} {ad : Nat → Nat} {cn cn1 : Nat → va_E} {τ : Tau} {nw ns nl nc : Nat} {H : Heap} (h : xH D ids n0 RR ad cn1 τ ns nl nc H) (hI : Iv τ nw ns nl nc) (h6 : eq6 cn cn1) : aft D ids n0 ad cn τ H := ⟨RR, ad, cn1, nw, ns, nl, nc, h, hI, fun _ _ => rfl, fun r h1 _ => h6 r (by omega)⟩
theorem ch_len {τ : Tau} {nw ns nl nc k : Nat} (hI : Iv τ nw ns nl nc) (hk : k < nc) : 1 ≤ τ 13 k ∧ τ 13 k ≤ 100 := by
  obtain ⟨-, ⟨b, n, -, hn, h1, h2, -⟩, -⟩ := hI.2.2.2.2.2.2.2.2.2.2.1 k hk
  rw [hn]
  exact ⟨nI_le (a := 1) h1 (by omega), nI_le (b := 100) h2 (by omega)⟩
theorem okP_iff {w f n : Int32} (hw : 0 ≤ w ∧ w ≤ 671) (hn : 1 ≤ n ∧ n ≤ 100) : (w ≤ f ∧ f ≤ 672 - n) ↔ (w ≤ f ∧ f < 672 ∧ f + n ≤ 672) := by
  constructor
  · rintro ⟨h1, h2⟩
    exact ⟨h1, by lia, by lia⟩
  · rintro ⟨h1, h2, h3⟩
    exact ⟨h1, by lia⟩
