/-! the start: what holds of every state holds of the first -/
theorem en_nd : ∀ x ∈ uNd, Cond.declares x ∈ lw_tbl := by decide +kernel
theorem en_nc : ∀ q ∈ uNc, Cond.castable q.1 q.2 ∈ lw_tbl := by decide +kernel
theorem en_ao : ∀ C ∈ uAO, Cond.arrayOver (.object C) ∈ lw_tbl := by decide +kernel
theorem en_nl : ∀ q ∈ uNl, Cond.methodLinkNest q.1 q.2.1 q.2.2.1 q.2.2.2 ∈ lw_tbl := by decide +kernel
theorem en_nt : ∀ q ∈ uNt, Cond.stringRef "FrostCalendar" q.1 q.2 ∈ lw_tbl := by decide +kernel
theorem en_ex : ∀ q ∈ uNt, Cond.exactly (.string "FrostCalendar" q.1) "java/lang/String" ∈ flatC (Jvm.Cond.and given_1 narrow_1) := by decide +kernel
theorem en_nx : ∀ q ∈ uNx, Cond.not (.castable q.1 q.2) ∈ flatC (Jvm.Cond.and given_1 narrow_1) := by decide +kernel
theorem en_u : Cond.isRef (.static Bundle.tN "UNASSIGNED_STACK" Bundle.steD) ∈ flatC (Jvm.Cond.and given_1 narrow_1) := by decide +kernel
theorem en_s : Cond.isRef (.static Bundle.tN "SUPPRESSED_SENTINEL" Bundle.listD) ∈ flatC (Jvm.Cond.and given_1 narrow_1) := by decide +kernel
theorem en_lu : Cond.laysStatic Bundle.tN "UNASSIGNED_STACK" Bundle.steD ∈ lw_tbl := by decide +kernel
theorem en_ls : Cond.laysStatic Bundle.tN "SUPPRESSED_SENTINEL" Bundle.listD ∈ lw_tbl := by decide +kernel
theorem en_it : Cond.initialized Bundle.tN ∈ lw_tbl := by decide +kernel
theorem en_pr {s : State} {args : Array Value} {ty : FieldType} (hno : ∀ C, ty ≠ .object C) (h : (Cond.arrayClass ty).before args s = true) : ∃ cA : ClassId, ArrOfT s cA ty ∧ va_RA s cA ty := by
  obtain ⟨c, k, comp, h1, h2, h3⟩ := Cond.arrayClass_spec h
  refine ⟨c, fun n z => ⟨fun k h => (by cases h), k, h2, comp, h3⟩, ?_⟩
  cases ty with
  | object C => exact absurd rfl (hno C)
  | _ => exact h1
theorem en_ob {s : State} {args : Array Value} {C : String} (h : (Cond.arrayOver (.object C)).before args s = true) : ∃ cA : ClassId, ArrOfT s cA (.object C) ∧ va_RA s cA (.object C) := by
  obtain ⟨comp, c, k, h1, h2, h3, h4, h5⟩ := Cond.arrayOver_spec h
  exact ⟨c, fun n z => ⟨fun k h => (by cases h), k, h3, comp, h4⟩, k, comp, h3, h4, h1, h5⟩
theorem en_start {s : State} {b : Nat} (hts : ∀ w ∈ lw_tbl, w.before #[Value.ref b] s = true) (hgv : (Jvm.Cond.and given_1 narrow_1).before #[Value.ref b] s = true) : ∃ (D : va_G) (ids : Nat → ClassId), En D ids s.heap.size s := by
  have hq := flat_of_before _ hgv
  obtain ⟨i0, hi0⟩ := en_pr (ty := .int) (fun C h => by cases h) (hts _ (uU_tb kw59))
  obtain ⟨i1, hi1⟩ := en_pr (ty := .boolean) (fun C h => by cases h) (hts _ (uU_tb kw60))
  obtain ⟨i2, hi2⟩ := en_pr (ty := .int) (fun C h => by cases h) (hts _ (uU_tb kw59))
  obtain ⟨i3, hi3⟩ := en_ob (hts _ (en_ao "FrostCalendar$Land" (by decide)))
  obtain ⟨i4, hi4⟩ := en_ob (hts _ (en_ao "FrostCalendar$Freeze" (by decide)))
  obtain ⟨i5, hi5⟩ := en_ob (hts _ (en_ao "FrostCalendar$Change" (by decide)))
  obtain ⟨c0, iS0, hK0⟩ := u_known hts (fun w hw => uU_tb (inU0 w hw)) (hts _ (uU_tb kw396))
  obtain ⟨c1, iS1, hK1⟩ := u_known hts (fun w hw => uU_tb (inU2 w hw)) (hts _ (uU_tb kw282))
  obtain ⟨c2, iS2, hK2⟩ := u_known hts (fun w hw => uU_tb (inU3 w hw)) (hts _ (uU_tb kw304))
  obtain ⟨c3, iS3, hK3⟩ := u_known hts (fun w hw => uU_tb (inU4 w hw)) (hts _ (uU_tb kw250))
  obtain ⟨c4, iS4, hK4⟩ := u_known hts (fun w hw => uU_tb (inU5 w hw)) (hts _ (uU_tb kw46))
  obtain ⟨c5, iS5, hK5⟩ := u_known hts (fun w hw => uU_tb (inU6 w hw)) (hts _ (uU_tb kw33))
  have hA : ∀ a : Nat, a < s.heap.size → ¬ (fun q : Nat => s.heap.size ≤ q) a := fun a h h1 => Nat.not_le.mpr h h1
  refine ⟨(fun k => [c0, c1, c2, c3, c4, c5].getD k c0, fun k => [iS0, iS1, iS2, iS3, iS4, iS5].getD k iS0), fun k => [i0, i1, i2, i3, i4, i5].getD k i0, ⟨fun k q hk => ?_, fun k q hk => ?_⟩, vx_Zqof (hts _ en_lu) (hts _ en_it) (hq _ en_u) hA, vx_Zqof (hts _ en_ls) (hts _ en_it) (hq _ en_s) hA, Nat.le_refl _, fun q hm => ?_, fun x hm => va_Nw.of rfl (hts _ (en_nd x hm)), fun q hm => va_Nw.of rfl (hts _ (en_nc q hm)), fun C hm => va_AO.of (hts _ (en_ao C hm)), fun q hm => va_Nc.of (hq _ (en_nx q hm)), fun q hm => va_Nw.of rfl (hts _ (en_nl q hm))⟩
  · rcases k with _ | _ | _ | _ | _ | _ | k
    · cases hk; exact hK0
    · cases hk; exact hK1
    · cases hk; exact hK2
    · cases hk; exact hK3
    · cases hk; exact hK4
    · cases hk; exact hK5
    · simp [vwCl] at hk
  · rcases k with _ | _ | _ | _ | _ | _ | k
    · cases hk; exact hi0
    · cases hk; exact hi1
    · cases hk; exact hi2
    · cases hk; exact hi3
    · cases hk; exact hi4
    · cases hk; exact hi5
    · simp [uTy] at hk
  · obtain ⟨a, c, cA, kA, q1, -⟩ := Cond.exactly_spec (hq _ (en_ex q hm))
    exact ⟨a, vk_R.of (A := #[Value.ref b]) (hts _ (en_nt q hm)) q1⟩
