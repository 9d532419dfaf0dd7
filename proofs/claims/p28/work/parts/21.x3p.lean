/-! the marks -/
theorem mkB_same {bm1 : Nat → Int32} {m ho : Nat → Bool} {j : Nat} (hm : ∀ i, i < 100 → (bm1 i == 0) = !(m i || (decide (i < j) && ho i))) (hj : (m j || !ho j) = true) : ∀ i, i < 100 → (bm1 i == 0) = !(m i || (decide (i < j + 1) && ho i)) := by
  intro i hi
  rw [hm i hi]
  by_cases h : i = j
  · subst h
    revert hj
    cases m i <;> cases ho i <;> simp
  · rw [show decide (i < j + 1) = decide (i < j) by by_cases h2 : i < j <;> simp [h2] <;> omega]
theorem mkB_new {bm1 : Nat → Int32} {m ho : Nat → Bool} {j : Nat} (hm : ∀ i, i < 100 → (bm1 i == 0) = !(m i || (decide (i < j) && ho i))) (hj : ho j = true) : ∀ i, i < 100 → (upd bm1 j 1 i == 0) = !(m i || (decide (i < j + 1) && ho i)) := by
  intro i hi
  by_cases h : i = j
  · subst h
    rw [pk_us, hj]
    simp
  · rw [pk_un h, hm i hi, show decide (i < j + 1) = decide (i < j) by by_cases h2 : i < j <;> simp [h2] <;> omega]
theorem xB.up {D : va_G} {ids : Nat → ClassId} {n0 : Nat} {RR : List Nat} {ad : Nat → Nat} {cn : Nat → va_E} {τ : Tau} {ns nl nc : Nat} {sa bm bm2 fm : Nat → Int32} {lf ff cf : Nat → Option Nat} {H : Heap} (h1 : ro_P D n0 RR ad (va_up cn 6 (.inl (ids 1, 100, .inl bm2))) H) (h2 : isR RR nl nc) (h3 : isX ids ad cn τ ns nl nc sa bm fm lf ff cf) (hnl : nl ≤ 20) : xB D ids n0 RR ad (va_up cn 6 (.inl (ids 1, 100, .inl bm2))) τ ns nl nc bm2 H :=
  ⟨h1, h2, sa, fm, lf, ff, cf, h3.marks hnl bm2⟩
theorem an_same {τ : Tau} {x : Int32} {b9 q : Nat} (hb : bit x q = false) : (fun i => anB τ x (b9 + i) q) = fun i => anB τ x (b9 + i) (q + 1) := by
  funext i
  simp [anB, hb]
theorem an_step {τ : Tau} {x : Int32} {b9 q n9 : Nat} (hb : bit x q = true) : nI (ct (fun i => anB τ x (b9 + i) q) n9) + nI (ct (fun i => !(decide (i < n9) && anB τ x (b9 + i) q) && hoB τ q (nI (b9 + i))) n9) = nI (ct (fun i => anB τ x (b9 + i) (q + 1)) n9) := by
  rw [nI_add, ct_ext (p := fun i => !(decide (i < n9) && anB τ x (b9 + i) q) && hoB τ q (nI (b9 + i))) (q := fun i => !(anB τ x (b9 + i) q) && hoB τ q (nI (b9 + i))) (fun i hi => by simp [hi]), ct_or]
  congr 1
  exact ct_ext fun i hi => by simp [anB, hb]
theorem an_mark {τ : Tau} {x : Int32} {b9 q n9 : Nat} {bm : Nat → Int32} (hb : bit x q = true) (hm : ∀ i, i < 100 → (bm i == 0) = !((decide (i < n9) && anB τ x (b9 + i) q) || (decide (i < n9) && hoB τ q (nI (b9 + i))))) : ∀ i, i < 100 → (bm i == 0) = !(decide (i < n9) && anB τ x (b9 + i) (q + 1)) := by
  intro i hi
  rw [hm i hi, anB, hb]
  cases decide (i < n9) <;> simp
theorem an_keep {τ : Tau} {x : Int32} {b9 q n9 : Nat} {bm : Nat → Int32} (hb : bit x q = false) (hm : ∀ i, i < 100 → (bm i == 0) = !(decide (i < n9) && anB τ x (b9 + i) q)) : ∀ i, i < 100 → (bm i == 0) = !(decide (i < n9) && anB τ x (b9 + i) (q + 1)) := by
  intro i hi
  rw [hm i hi, anB, hb]
  simp
theorem ag_no {τ : Tau} {nl c q : Nat} {x : Int32} (hx : isAg τ nl c x) (hq : q < 20) (h : ¬ (q < nl ∧ τ 4 q = 0)) : bit x q = false := by
  rw [hx q hq]
  unfold tch
  by_cases h9 : q < nl
  · have h8 : ¬ τ 4 q = 0 := fun h7 => h ⟨h9, h7⟩
    rw [show (τ 4 q == 0) = false from beq_eq_false_iff_ne.mpr h8]
    simp
  · simp [h9]
theorem cl_new {bm1 : Nat → Int32} {j : Nat} (h : ∀ i, i < j → bm1 i = 0) : ∀ i, i < j + 1 → upd bm1 j 0 i = 0 := by
  intro i hi
  by_cases h9 : i = j
  · rw [h9, pk_us]
  · rw [pk_un h9]; exact h i (by omega)
