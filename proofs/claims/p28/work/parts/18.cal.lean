/-! the calendar's cells -/
def isR (RR : List Nat) (nl nc : Nat) : Prop := ∀ r, r ∈ RR ↔ (r < 18 ∨ (40 ≤ r ∧ r < 40 + nl) ∨ (60 ≤ r ∧ r < 60 + nc))
theorem isR.l {RR : List Nat} {nl nc : Nat} (h : isR RR nl nc) {r : Nat} (hr : r < 18) : r ∈ RR := (h r).mpr (Or.inl hr)
theorem isR.f {RR : List Nat} {nl nc : Nat} (h : isR RR nl nc) {k : Nat} (hk : k < nl) : 40 + k ∈ RR := (h _).mpr (Or.inr (Or.inl ⟨by omega, by omega⟩))
theorem isR.c {RR : List Nat} {nl nc : Nat} (h : isR RR nl nc) {k : Nat} (hk : k < nc) : 60 + k ∈ RR := (h _).mpr (Or.inr (Or.inr ⟨by omega, by omega⟩))
abbrev xoF (τ : Tau) (ad : Nat → Nat) : List Value := [.ref (ad 1), .int (τ 0 1), .ref (ad 2), .int (τ 0 0), .ref (ad 3), .int (τ 0 2), .int (nI (cntS τ)), .ref (ad 4), .int (τ 0 3), .ref (ad 5), .ref (ad 6)]
def frE (τ : Tau) (ad : Nat → Nat) (k : Nat) : va_E := if τ 5 k = 0 then .inr (3, [.int (τ 6 k), .int (τ 10 k), .int (τ 8 k), .int (τ 9 k)]) else if τ 5 k = 1 then .inr (1, [.int (τ 6 k), .int (τ 10 k), .ref (ad (7 + cx (τ 7 k))), .int (τ 8 k), .int (τ 9 k)]) else .inr (2, [.int (τ 6 k), .int (τ 10 k), .ref (ad (7 + cx (τ 7 k)))])
abbrev flb (τ : Tau) (k : Nat) : Int32 := if τ 17 k = -1 then 20 else τ 17 k
abbrev chF (τ : Tau) (k : Nat) : List Value := [.int (τ 11 k), .int (τ 13 k), .int (τ 14 k), .int (τ 12 k), .int (τ 15 k), .int (τ 16 k), .int (bI (¬ τ 17 k = -1)), .int (flb τ k)]
def isX (ids : Nat → ClassId) (ad : Nat → Nat) (cn : Nat → va_E) (τ : Tau) (ns nl nc : Nat) (sa bm fm : Nat → Int32) (lf ff cf : Nat → Option Nat) : Prop :=
  cn 0 = .inr (5, xoF τ ad) ∧ cn 1 = .inl (ids 0, 16, .inl sa) ∧ (∀ k, k < ns → ∀ b, b < 16 → bit (sa k) b = bel (τ 1) 16 k b) ∧ cn 2 = .inl (ids 3, 4, .inr (.inr (.inr (.inr lf)))) ∧ (∀ j, j < 4 → lf j = some (ad (7 + j))) ∧ (∀ j, j < 4 → cn (7 + j) = .inr (4, [.int (τ 2 j), .int (fm j)])) ∧ (∀ j, j < 4 → ∀ d, d < 30 → bit (fm j) d = !(τ 3 (30 * j + d) == 0)) ∧ cn 3 = .inl (ids 4, 20, .inr (.inr (.inr (.inr ff)))) ∧ (∀ k, k < 20 → ff k = if k < nl ∧ τ 4 k = 0 then some (ad (40 + k)) else none) ∧ (∀ k, k < nl → cn (40 + k) = frE τ ad k) ∧ cn 4 = .inl (ids 5, 30, .inr (.inr (.inr (.inr cf)))) ∧ (∀ k, k < 30 → cf k = if k < nc then some (ad (60 + k)) else none) ∧ (∀ k, k < nc → cn (60 + k) = .inr (0, chF τ k)) ∧ cn 5 = .inl (ids 0, 4, .inl (τ 18)) ∧ cn 6 = .inl (ids 1, 100, .inl bm)
def xH (D : va_G) (ids : Nat → ClassId) (n0 : Nat) (RR : List Nat) (ad : Nat → Nat) (cn : Nat → va_E) (τ : Tau) (ns nl nc : Nat) (H : Heap) : Prop := ro_P D n0 RR ad cn H ∧ isR RR nl nc ∧ ∃ (sa bm fm : Nat → Int32) (lf ff cf : Nat → Option Nat), isX ids ad cn τ ns nl nc sa bm fm lf ff cf
/-- the heap has grown, what was there is as it was -/
def grow (H H1 : Heap) : Prop := H.size ≤ H1.size ∧ ∀ q : Nat, q < H.size → H1[q]? = H[q]?
theorem grow.rf (H : Heap) : grow H H := ⟨Nat.le_refl _, fun _ _ => rfl⟩
theorem xH.keep {D : va_G} {ids : Nat → ClassId} {n0 : Nat} {RR : List Nat} {ad : Nat → Nat} {cn : Nat → va_E} {τ : Tau} {ns nl nc : Nat} {H H1 : Heap} (h : xH D ids n0 RR ad cn τ ns nl nc H) (hg : grow H H1) : xH D ids n0 RR ad cn τ ns nl nc H1 := ⟨h.1.keep hg.2, h.2⟩
section XO
variable {p : Program} {l : Launch} {e : Env} {R : Room} {s : State} {m : MethodId} {args : Array Value} {below : List Frame} {meth : Method} {c : Code} {H : Heap} {locs : List Loc} {cells slots : Nat} {Q : State → Prop}
variable {cc : ByteArray} {nL : Nat} {D : va_G} {ids : Nat → ClassId} {n0 : Nat} {RR : List Nat} {ad : Nat → Nat} {cn : Nat → va_E} {pc : Nat} {ls : Array Slot} {rest : List Value} {τ : Tau}
theorem xo_fscope (MC : ro_C p s m args meth c cc nL "FrostCalendar" D ids n0) (HP : ro_P D n0 RR ad cn H) {k : Nat} (hr : 40 + k ∈ RR) (hf : cn (40 + k) = frE τ ad k) (hdg : decode cc pc = .ok (.getfield 220, 3))
    (kk : W p l e R s m args below meth c H locs cells slots Q (F0 m (pc + 3) ls (.int (τ 6 k) :: rest))) : W p l e R s m args below meth c H locs cells slots Q (F0 m pc ls (.ref (ad (40 + k)) :: rest)) := by
  unfold frE at hf
  split at hf
  · exact ro_get MC HP hr hf (rfl : vwCl[3]? = some (RX4, TX4, 4)) inU4 0 (by decide) kw261 rfl rfl hdg kk
  · split at hf
    · exact ro_get MC HP hr hf (rfl : vwCl[1]? = some (RX2, TX2, 5)) inU2 0 (by decide) kw261 rfl rfl hdg kk
    · exact ro_get MC HP hr hf (rfl : vwCl[2]? = some (RX3, TX3, 3)) inU3 0 (by decide) kw261 rfl rfl hdg kk
theorem xo_frank (MC : ro_C p s m args meth c cc nL "FrostCalendar" D ids n0) (HP : ro_P D n0 RR ad cn H) {k : Nat} (hr : 40 + k ∈ RR) (hf : cn (40 + k) = frE τ ad k) (hdg : decode cc pc = .ok (.getfield 186, 3))
    (kk : W p l e R s m args below meth c H locs cells slots Q (F0 m (pc + 3) ls (.int (τ 10 k) :: rest))) : W p l e R s m args below meth c H locs cells slots Q (F0 m pc ls (.ref (ad (40 + k)) :: rest)) := by
  unfold frE at hf
  split at hf
  · exact ro_get MC HP hr hf (rfl : vwCl[3]? = some (RX4, TX4, 4)) inU4 1 (by decide) kw263 rfl rfl hdg kk
  · split at hf
    · exact ro_get MC HP hr hf (rfl : vwCl[1]? = some (RX2, TX2, 5)) inU2 1 (by decide) kw263 rfl rfl hdg kk
    · exact ro_get MC HP hr hf (rfl : vwCl[2]? = some (RX3, TX3, 3)) inU3 1 (by decide) kw263 rfl rfl hdg kk
theorem xo_iald (MC : ro_C p s m args meth c cc nL "FrostCalendar" D ids n0) (HP : ro_P D n0 RR ad cn H) {r : Nat} (hr : r ∈ RR) {n : Nat} {f : Nat → Int32} (hf : cn r = .inl (ids 0, n, .inl f)) (k : Nat) (hk : k < n) (hn : n ≤ 100) {i : Int32} (hi : i = nI k) (hdg : decode cc pc = .ok (.iaload, 1))
    (kk : W p l e R s m args below meth c H locs cells slots Q (F0 m (pc + 1) ls (.int (f k) :: rest))) : W p l e R s m args below meth c H locs cells slots Q (F0 m pc ls (.int i :: .ref (ad r) :: rest)) := by
  subst hi
  refine ro_iald MC HP hr hf (vp_in_nI hk (by omega)) hdg ?_
  rw [nI_clamp (by omega)]; exact kk
theorem xo_zald (MC : ro_C p s m args meth c cc nL "FrostCalendar" D ids n0) (HP : ro_P D n0 RR ad cn H) {r : Nat} (hr : r ∈ RR) {n : Nat} {f : Nat → Int32} (hf : cn r = .inl (ids 1, n, .inl f)) (k : Nat) (hk : k < n) (hn : n ≤ 100) {i : Int32} (hi : i = nI k) (hdg : decode cc pc = .ok (.baload, 1))
    (kk : W p l e R s m args below meth c H locs cells slots Q (F0 m (pc + 1) ls (.int (f k) :: rest))) : W p l e R s m args below meth c H locs cells slots Q (F0 m pc ls (.int i :: .ref (ad r) :: rest)) := by
  subst hi
  refine ro_zald MC HP hr hf (vp_in_nI hk (by omega)) hdg ?_
  rw [nI_clamp (by omega)]; exact kk
theorem xo_aald (MC : ro_C p s m args meth c cc nL "FrostCalendar" D ids n0) (HP : ro_P D n0 RR ad cn H) (t0 : Nat) {C : String} {r : Nat} (hr : r ∈ RR) {n : Nat} {f : Nat → Option Nat} (hf : cn r = .inl (ids t0, n, .inr (.inr (.inr (.inr f))))) (ht : (uTy ids)[t0]? = some (ids t0, .object C)) (k : Nat) (hk : k < n) (hn : n ≤ 100) {v : Option Nat} (hv : f k = v) {i : Int32} (hi : i = nI k) (hdg : decode cc pc = .ok (.aaload, 1))
    (kk : W p l e R s m args below meth c H locs cells slots Q (F0 m (pc + 1) ls (va_rf v :: rest))) : W p l e R s m args below meth c H locs cells slots Q (F0 m pc ls (.int i :: .ref (ad r) :: rest)) := by
  subst hi
  refine ro_aald MC HP t0 hr hf ht (vp_in_nI hk (by omega)) hdg ?_
  rw [nI_clamp (by omega), hv]; exact kk
theorem xo_iast (MC : ro_C p s m args meth c cc nL "FrostCalendar" D ids n0) (HP : ro_P D n0 RR ad cn H) (HS : va_S (fun q => n0 ≤ q) s.heap H locs) {r : Nat} (hr : r ∈ RR) {n : Nat} {f : Nat → Int32} (hf : cn r = .inl (ids 0, n, .inl f)) (k : Nat) (hk : k < n) (hn : n ≤ 100) {i x : Int32} (hi : i = nI k) (hdg : decode cc pc = .ok (.iastore, 1))
    (kk : ∀ (H1 : Heap) (locs1 : List Loc), ro_P D n0 RR ad (va_up cn r (.inl (ids 0, n, .inl (upd f k x)))) H1 → va_S (fun q => n0 ≤ q) s.heap H1 locs1 → W p l e R s m args below meth c H1 locs1 cells slots Q (F0 m (pc + 1) ls rest)) : W p l e R s m args below meth c H locs cells slots Q (F0 m pc ls (.int x :: .int i :: .ref (ad r) :: rest)) := by
  subst hi
  refine ro_iast MC HP HS hr hf (vp_in_nI hk (by omega)) hdg fun H1 locs1 h1 h2 => ?_
  rw [nI_clamp (by omega)] at h1; exact kk H1 locs1 h1 h2
theorem xo_zast (MC : ro_C p s m args meth c cc nL "FrostCalendar" D ids n0) (HP : ro_P D n0 RR ad cn H) (HS : va_S (fun q => n0 ≤ q) s.heap H locs) {r : Nat} (hr : r ∈ RR) {n : Nat} {f : Nat → Int32} (hf : cn r = .inl (ids 1, n, .inl f)) (k : Nat) (hk : k < n) (hn : n ≤ 100) {i x : Int32} (hi : i = nI k) (hnar : vp_nar .boolean x = x) (hdg : decode cc pc = .ok (.bastore, 1))
    (kk : ∀ (H1 : Heap) (locs1 : List Loc), ro_P D n0 RR ad (va_up cn r (.inl (ids 1, n, .inl (upd f k x)))) H1 → va_S (fun q => n0 ≤ q) s.heap H1 locs1 → W p l e R s m args below meth c H1 locs1 cells slots Q (F0 m (pc + 1) ls rest)) : W p l e R s m args below meth c H locs cells slots Q (F0 m pc ls (.int x :: .int i :: .ref (ad r) :: rest)) := by
  subst hi
  refine ro_zast MC HP HS hr hf (vp_in_nI hk (by omega)) hnar hdg fun H1 locs1 h1 h2 => ?_
  rw [nI_clamp (by omega)] at h1; exact kk H1 locs1 h1 h2
end XO
theorem Iv.sb {τ : Tau} {nw ns nl nc : Nat} (hI : Iv τ nw ns nl nc) : 1 ≤ τ 0 1 ∧ τ 0 1 ≤ 16 := by
  obtain ⟨h1, h2, h3⟩ := hI.2.1
  rw [h1]; exact ⟨nI_le (a := 1) h2 (by omega), nI_le (b := 16) h3 (by omega)⟩
theorem Iv.lb {τ : Tau} {nw ns nl nc : Nat} (hI : Iv τ nw ns nl nc) : 0 ≤ τ 0 2 ∧ τ 0 2 ≤ 20 := by
  obtain ⟨h1, h2⟩ := hI.2.2.1
  rw [h1]; exact nI_b (N := 20) h2 (by omega)
theorem Iv.cb {τ : Tau} {nw ns nl nc : Nat} (hI : Iv τ nw ns nl nc) : 0 ≤ τ 0 3 ∧ τ 0 3 ≤ 30 := by
  obtain ⟨h1, h2⟩ := hI.2.2.2.1
  rw [h1]; exact nI_b (N := 30) h2 (by omega)
theorem Iv.wb {τ : Tau} {nw ns nl nc : Nat} (hI : Iv τ nw ns nl nc) : 0 ≤ τ 0 0 ∧ τ 0 0 ≤ 671 := by
  obtain ⟨h1, h2⟩ := hI.1
  rw [h1]; exact nI_b (N := 671) h2 (by omega)
theorem fm_v1 : ∀ t : Nat, t < 720 → ¬ 0 ≤ (nI t - 24) ^^^ 24 → ¬ (nI t - 24) - (nI t - 24) / 24 * 24 = 0 → (nI t - 24) - (nI t - 24) / 24 * 24 + 24 = nI (t % 24) := by decide +kernel
theorem fm_v2 : ∀ t : Nat, t < 720 → (0 ≤ (nI t - 24) ^^^ 24 ∨ (nI t - 24) - (nI t - 24) / 24 * 24 = 0) → (nI t - 24) - (nI t - 24) / 24 * 24 = nI (t % 24) := by decide +kernel
theorem fd_v1 : ∀ t : Nat, t < 720 → ¬ 0 ≤ (nI t - 24) ^^^ 24 → ¬ (nI t - 24) / 24 * 24 = nI t - 24 → (nI t - 24) / 24 - 1 = nI (t / 24) - 1 := by decide +kernel
theorem fd_v2 : ∀ t : Nat, t < 720 → (0 ≤ (nI t - 24) ^^^ 24 ∨ (nI t - 24) / 24 * 24 = nI t - 24) → (nI t - 24) / 24 = nI (t / 24) - 1 := by decide +kernel
