/-! sets of freezes, in numbers -/
theorem mk_same {p : Nat → Bool} {k : Nat} (h : p k = false) : mk p k = mk p (k + 1) := by simp [mk, h]
abbrev tsB (τ : Tau) (nl i : Nat) : Nat → Bool := fun k => decide (k < nl) && τ 4 k == 0 && touS τ k (nI i)
abbrev haB (τ : Tau) (nl : Nat) (a : Int32) (hh : Nat) : Nat → Bool := fun k => decide (k < nl) && τ 4 k == 0 && bit a k && hoB τ k (nI hh)
theorem mk_lay {p q : Nat → Bool} {nl : Nat} (hnl : nl ≤ 20) (h : ∀ k, k < 20 → p k = (decide (k < nl) && q k)) : mk p 20 = mk q nl := by
  rw [mk_tail (m := nl) hnl (fun k h1 h2 => by rw [h k h2]; simp; omega)]
  exact mk_ext fun k hk => by rw [h k (by omega)]; simp [hk]
theorem hoS_eq {τ : Tau} {nl i hh : Nat} (hnl : nl ≤ 20) (hcs : cx (τ 0 2) = nl) : mk (haB τ nl (mk (tsB τ nl i) 20) hh) 20 = hoS τ (nI i) (nI hh) := by
  unfold hoS
  rw [hcs]
  refine mk_lay hnl fun k hk => ?_
  show (decide (k < nl) && τ 4 k == 0 && bit (mk (tsB τ nl i) 20) k && hoB τ k (nI hh)) = _
  rw [bit_mk _ 20 (by omega) k (by omega)]
  simp only [tsB]
  cases decide (k < nl) <;> cases (τ 4 k == 0) <;> simp [hk]
/-- x is the set of the freezes that touch the change c and from which it isn't excused -/
def isAg (τ : Tau) (nl c : Nat) (x : Int32) : Prop := ∀ q, q < 20 → bit x q = (decide (q < nl) && tch τ q c && !exB τ c q)
theorem agn_eq {τ : Tau} {nl c hh : Nat} {x : Int32} (hnl : nl ≤ 20) (hcs : cx (τ 0 2) = nl) (hx : isAg τ nl c x) : mk (haB τ nl x hh) 20 = agn τ c (nI hh) := by
  unfold agn
  rw [hcs]
  refine mk_lay hnl fun k hk => ?_
  show (decide (k < nl) && τ 4 k == 0 && bit x k && hoB τ k (nI hh)) = _
  rw [hx k hk]
  unfold tch
  cases decide (k < nl) <;> cases (τ 4 k == 0) <;> cases exB τ c k <;> simp
/-- any of the freezes of the set x, number below n, holds in the hour -/
def anB (τ : Tau) (x : Int32) (hh : Nat) : Nat → Bool
  | 0 => false
  | n + 1 => anB τ x hh n || (bit x n && hoB τ n (nI hh))
theorem anB_f {τ : Tau} {x : Int32} {hh : Nat} : ∀ {n : Nat}, anB τ x hh n = false ↔ ∀ k, k < n → (bit x k && hoB τ k (nI hh)) = false
  | 0 => by simp [anB]
  | n + 1 => by
    rw [anB, Bool.or_eq_false_iff, anB_f]
    constructor
    · intro h k hk
      rcases Nat.lt_or_ge k n with h1 | h1
      · exact h.1 k h1
      · rw [show k = n by omega]; exact h.2
    · intro h
      exact ⟨fun k hk => h k (by omega), h n (by omega)⟩
theorem anB_bad {τ : Tau} {nl c : Nat} {x : Int32} {b j : Nat} (hnl : nl ≤ 20) (hcs : cx (τ 0 2) = nl) (hx : isAg τ nl c x) (hb : τ 12 c = nI b) : anB τ x (b + j) 20 = badB τ c j := by
  unfold badB
  rw [hr_add hb]
  have h1 : agn τ c (nI (b + j)) = 0 ↔ anB τ x (b + j) 20 = false := by
    rw [anB_f]
    unfold agn
    rw [hcs, mk_z (by omega)]
    constructor
    · intro h k hk
      rw [hx k hk]
      by_cases hn : k < nl
      · have := h k hn
        cases h3 : exB τ c k <;> cases h4 : tch τ k c <;> simp_all
      · simp [hn]
    · intro h k hk
      have := h k (by omega)
      rw [hx k (by omega)] at this
      cases h3 : exB τ c k <;> cases h4 : tch τ k c <;> simp_all
  cases h2 : anB τ x (b + j) 20 with
  | false => rw [h1.mpr h2]; rfl
  | true =>
    have : ¬ agn τ c (nI (b + j)) = 0 := fun h => by rw [h1.mp h] at h2; cases h2
    simp [this]
theorem ct_or (p q : Nat → Bool) : ∀ n, ct p n + ct (fun j => !p j && q j) n = ct (fun j => p j || q j) n
  | 0 => rfl
  | n + 1 => by
    have := ct_or p q n
    simp only [ct]
    by_cases h1 : p n = true <;> by_cases h2 : q n = true <;> simp [h1, h2] <;> omega
theorem ct_ext {p q : Nat → Bool} : ∀ {n : Nat}, (∀ k, k < n → p k = q k) → ct p n = ct q n
  | 0, _ => rfl
  | n + 1, h => by rw [ct, ct, ct_ext (fun k hk => h k (by omega)), h n (by omega)]
theorem ct_none {p : Nat → Bool} : ∀ {n : Nat}, (∀ k, k < n → p k = false) → ct p n = 0
  | 0, _ => rfl
  | n + 1, h => by rw [ct, ct_none (fun k hk => h k (by omega)), h n (by omega)]; rfl
theorem fst1_go {p : Nat → Bool} {n i : Nat} (h : p i = false) : fst1 p (n + 1) i = fst1 p n (i + 1) := by rw [fst1, if_neg (by rw [h]; decide)]
theorem fst1_st {p : Nat → Bool} {n i : Nat} (h : p i = true) : fst1 p (n + 1) i = some i := by rw [fst1, if_pos h]
theorem isX.marks {ids : Nat → ClassId} {ad : Nat → Nat} {cn : Nat → va_E} {τ : Tau} {ns nl nc : Nat} {sa bm fm : Nat → Int32} {lf ff cf : Nat → Option Nat} (h : isX ids ad cn τ ns nl nc sa bm fm lf ff cf) (hnl : nl ≤ 20) (bm2 : Nat → Int32) : isX ids ad (va_up cn 6 (.inl (ids 1, 100, .inl bm2))) τ ns nl nc sa bm2 fm lf ff cf := by
  obtain ⟨h0, h1, h1b, h2, h2b, h7, h7b, h3, h3b, h40, h4, h4b, h60, h5, h6⟩ := h
  refine ⟨?_, ?_, h1b, ?_, h2b, ?_, h7b, ?_, h3b, ?_, ?_, h4b, ?_, ?_, va_up_self ..⟩
  · rw [va_up_ne _ _ (by omega)]; exact h0
  · rw [va_up_ne _ _ (by omega)]; exact h1
  · rw [va_up_ne _ _ (by omega)]; exact h2
  · intro j hj; rw [va_up_ne _ _ (by omega)]; exact h7 j hj
  · rw [va_up_ne _ _ (by omega)]; exact h3
  · intro k hk; rw [va_up_ne _ _ (by omega)]; exact h40 k hk
  · rw [va_up_ne _ _ (by omega)]; exact h4
  · intro k hk; rw [va_up_ne _ _ (by omega)]; exact h60 k hk
  · rw [va_up_ne _ _ (by omega)]; exact h5
/-- the calendar with its marks -/
def xB (D : va_G) (ids : Nat → ClassId) (n0 : Nat) (RR : List Nat) (ad : Nat → Nat) (cn : Nat → va_E) (τ : Tau) (ns nl nc : Nat) (bm : Nat → Int32) (H : Heap) : Prop := ro_P D n0 RR ad cn H ∧ isR RR nl nc ∧ ∃ (sa fm : Nat → Int32) (lf ff cf : Nat → Option Nat), isX ids ad cn τ ns nl nc sa bm fm lf ff cf
theorem xB.h {D : va_G} {ids : Nat → ClassId} {n0 : Nat} {RR : List Nat} {ad : Nat → Nat} {cn : Nat → va_E} {τ : Tau} {ns nl nc : Nat} {bm : Nat → Int32} {H : Heap} (h : xB D ids n0 RR ad cn τ ns nl nc bm H) : xH D ids n0 RR ad cn τ ns nl nc H := by
  obtain ⟨h1, h2, sa, fm, lf, ff, cf, h3⟩ := h
  exact ⟨h1, h2, sa, bm, fm, lf, ff, cf, h3⟩
theorem xH.b {D : va_G} {ids : Nat → ClassId} {n0 : Nat} {RR : List Nat} {ad : Nat → Nat} {cn : Nat → va_E} {τ : Tau} {ns nl nc : Nat} {H : Heap} (h : xH D ids n0 RR ad cn τ ns nl nc H) : ∃ bm, xB D ids n0 RR ad cn τ ns nl nc bm H := by
  obtain ⟨h1, h2, sa, bm, fm, lf, ff, cf, h3⟩ := h
  exact ⟨bm, h1, h2, sa, fm, lf, ff, cf, h3⟩
/-- cn1 is cn but for role 6 -/
def eq6 (cn cn1 : Nat → va_E) : Prop := ∀ r, r ≠ 6 → cn1 r = cn r
theorem eq6.rf (cn : Nat → va_E) : eq6 cn cn := fun _ _ => rfl
theorem eq6.up {cn cn1 : Nat → va_E} {e : va_E} (h : eq6 cn cn1) : eq6 cn (va_up cn1 6 e) := fun r hr => by rw [va_up_ne _ _ hr]; exact h r hr
theorem eq6.tr {cn cn1 cn2 : Nat → va_E} (h : eq6 cn cn1) (h2 : eq6 cn1 cn2) : eq6 cn cn2 := fun r hr => (h2 r hr).trans (h r hr)
