abbrev Tau : Type := Nat → Nat → Int32
def tmC : Nat → Nat
  | 3 => 1
  | 4 => 1
  | _ => 0
def tmN : Nat → Nat
  | 1 => 16
  | 2 => 4
  | 3 => 120
  | 4 => 20
  | 5 => 20
  | 6 => 20
  | 7 => 20
  | 8 => 20
  | 9 => 20
  | 10 => 20
  | 18 => 4
  | _ => 30
abbrev moF (τ : Tau) (th : Int32) (ad : Nat → Nat) : List Value := [.int th, .int (τ 0 0), .int (τ 0 1), .ref (ad 12), .ref (ad 13), .ref (ad 14), .int (τ 0 2), .ref (ad 15), .ref (ad 16), .ref (ad 17), .ref (ad 18), .ref (ad 19), .ref (ad 20), .ref (ad 21), .int (τ 0 3), .ref (ad 22), .ref (ad 23), .ref (ad 24), .ref (ad 25), .ref (ad 26), .ref (ad 27), .ref (ad 28), .ref (ad 29)]
/-- the reference's cells -/
def isM (ids : Nat → ClassId) (ad : Nat → Nat) (cn : Nat → va_E) (τ : Tau) (th : Int32) : Prop := cn 11 = .inr (6, moF τ th ad) ∧ ∀ i, 1 ≤ i → i ≤ 18 → cn (11 + i) = .inl (ids (tmC i), tmN i, .inl (τ i))
theorem isM.obj {ids : Nat → ClassId} {ad : Nat → Nat} {cn : Nat → va_E} {τ τ2 : Tau} {th th2 : Int32} (h : isM ids ad cn τ th) (hτ : ∀ i, 1 ≤ i → τ2 i = τ i) : isM ids ad (va_up cn 11 (.inr (6, moF τ2 th2 ad))) τ2 th2 :=
  ⟨va_up_self .., fun i h1 h2 => by rw [va_up_ne _ _ (by omega), hτ i h1]; exact h.2 i h1 h2⟩
theorem isM.arr {ids : Nat → ClassId} {ad : Nat → Nat} {cn : Nat → va_E} {τ : Tau} {th : Int32} (h : isM ids ad cn τ th) (i : Nat) (h1 : 1 ≤ i) (h2 : i ≤ 18) (g : Nat → Int32) : isM ids ad (va_up cn (11 + i) (.inl (ids (tmC i), tmN i, .inl g))) (va_up τ i g) th := by
  refine ⟨?_, fun j h3 h4 => ?_⟩
  · rw [va_up_ne _ _ (by omega), h.1]
    simp only [moF, va_up_ne τ g (show 0 ≠ i by omega)]
  · by_cases hj : j = i
    · subst hj
      rw [va_up_self, va_up_self]
    · rw [va_up_ne _ _ (by omega), va_up_ne _ _ hj]
      exact h.2 j h3 h4
def sM (D : va_G) (ids : Nat → ClassId) (n0 : Nat) (RR : List Nat) (ad : Nat → Nat) (τ : Tau) (th : Int32) (fr : Nat → va_E) (H : Heap) : Prop :=
  ∃ cn, ro_P D n0 RR ad cn H ∧ isM ids ad cn τ th ∧ (∀ r, r < 11 ∨ 29 < r → cn r = fr r) ∧ ∀ r, r < 31 → r ∈ RR
section MO
variable {p : Program} {l : Launch} {e : Env} {R : Room} {s : State} {m : MethodId} {args : Array Value} {below : List Frame} {meth : Method} {c : Code} {H : Heap} {locs : List Loc} {cells slots : Nat} {Q : State → Prop}
variable {cc : ByteArray} {nL : Nat} {own : String} {D : va_G} {ids : Nat → ClassId} {n0 : Nat} {RR : List Nat} {ad : Nat → Nat} {pc : Nat} {ls : Array Slot} {rest : List Value} {τ : Tau} {th : Int32} {fr : Nat → va_E}
theorem mo_get (MC : ro_C p s m args meth c cc nL "FrostCalendarModel" D ids n0) (hw : sM D ids n0 RR ad τ th fr H) (k : Nat) (hk : k < 23) {index : Nat} (hlink : Cond.fieldLink "FrostCalendarModel" index "FrostCalendarModel" (TX7 k).2.1 (TX7 k).2.2.1 ∈ uU) (hsame : (TX7 k).1 = "FrostCalendarModel") {v : Value} (hv : (moF τ th ad)[k]? = some v) (hdg : decode cc pc = .ok (.getfield index, 3))
    (kk : W p l e R s m args below meth c H locs cells slots Q (F0 m (pc + 3) ls (v :: rest))) : W p l e R s m args below meth c H locs cells slots Q (F0 m pc ls (.ref (ad 11) :: rest)) := by
  obtain ⟨cn, HP, hM, -, hRR⟩ := hw
  exact ro_get MC HP (hRR 11 (by decide)) hM.1 (rfl : vwCl[6]? = some (RX7, TX7, 23)) inU7 k hk hlink hsame hv hdg kk
theorem mo_put (MC : ro_C p s m args meth c cc nL "FrostCalendarModel" D ids n0) (hw : sM D ids n0 RR ad τ th fr H) (HS : va_S (fun q => n0 ≤ q) s.heap H locs) (k : Nat) (hk : k < 23) {index : Nat} (hlink : Cond.fieldLink "FrostCalendarModel" index "FrostCalendarModel" (TX7 k).2.1 (TX7 k).2.2.1 ∈ uU) (hsame : (TX7 k).1 = "FrostCalendarModel") (hfin : (TX7 k).2.2.2 = false) (hint : tyX7 k = .int) {v : Int32} (τ2 : Tau) (th2 : Int32) (hset : (moF τ th ad).set k (.int v) = moF τ2 th2 ad) (hτ : ∀ i, 1 ≤ i → τ2 i = τ i) (hdg : decode cc pc = .ok (.putfield index, 3))
    (kk : ∀ (H1 : Heap) (locs1 : List Loc), sM D ids n0 RR ad τ2 th2 fr H1 → va_S (fun q => n0 ≤ q) s.heap H1 locs1 → W p l e R s m args below meth c H1 locs1 cells slots Q (F0 m (pc + 3) ls rest)) : W p l e R s m args below meth c H locs cells slots Q (F0 m pc ls (.int v :: .ref (ad 11) :: rest)) := by
  obtain ⟨cn, HP, hM, hfr, hRR⟩ := hw
  refine ro_put MC HP HS (hRR 11 (by decide)) hM.1 (rfl : vwCl[6]? = some (RX7, TX7, 23)) inU7 tyX7_ok nmX7 k hk hlink hsame hfin (by rw [hint]; rfl) (by rw [hint]; rfl) hk hdg fun H1 locs1 h1 h2 => ?_
  rw [hset] at h1
  exact kk H1 locs1 ⟨_, h1, hM.obj hτ, fun r hr => by rw [va_up_ne _ _ (by omega)]; exact hfr r hr, hRR⟩ h2
theorem mo_iald (MC : ro_C p s m args meth c cc nL own D ids n0) (hw : sM D ids n0 RR ad τ th fr H) (i : Nat) (h1 : 1 ≤ i) (h2 : i ≤ 18) (hc : tmC i = 0) (k : Nat) (hk : k < tmN i) {x : Int32} (hx9 : x = nI k) (hdg : decode cc pc = .ok (.iaload, 1))
    (kk : W p l e R s m args below meth c H locs cells slots Q (F0 m (pc + 1) ls (.int (τ i k) :: rest))) : W p l e R s m args below meth c H locs cells slots Q (F0 m pc ls (.int x :: .ref (ad (11 + i)) :: rest)) := by
  obtain ⟨cn, HP, hM, -, hRR⟩ := hw
  have hN : tmN i ≤ 120 := by unfold tmN; split <;> omega
  have hf := hM.2 i h1 h2
  rw [hc] at hf
  subst hx9
  refine ro_iald MC HP (hRR (11 + i) (by omega)) hf (vp_in_nI hk (by omega)) hdg ?_
  rw [nI_clamp (by omega)]
  exact kk
theorem mo_zald (MC : ro_C p s m args meth c cc nL own D ids n0) (hw : sM D ids n0 RR ad τ th fr H) (i : Nat) (h1 : 1 ≤ i) (h2 : i ≤ 18) (hc : tmC i = 1) (k : Nat) (hk : k < tmN i) {x : Int32} (hx9 : x = nI k) (hdg : decode cc pc = .ok (.baload, 1))
    (kk : W p l e R s m args below meth c H locs cells slots Q (F0 m (pc + 1) ls (.int (τ i k) :: rest))) : W p l e R s m args below meth c H locs cells slots Q (F0 m pc ls (.int x :: .ref (ad (11 + i)) :: rest)) := by
  obtain ⟨cn, HP, hM, -, hRR⟩ := hw
  have hN : tmN i ≤ 120 := by unfold tmN; split <;> omega
  have hf := hM.2 i h1 h2
  rw [hc] at hf
  subst hx9
  refine ro_zald MC HP (hRR (11 + i) (by omega)) hf (vp_in_nI hk (by omega)) hdg ?_
  rw [nI_clamp (by omega)]
  exact kk
theorem mo_iast (MC : ro_C p s m args meth c cc nL own D ids n0) (hw : sM D ids n0 RR ad τ th fr H) (HS : va_S (fun q => n0 ≤ q) s.heap H locs) (i : Nat) (h1 : 1 ≤ i) (h2 : i ≤ 18) (hc : tmC i = 0) (k : Nat) (hk : k < tmN i) {x v : Int32} (hx9 : x = nI k) (hdg : decode cc pc = .ok (.iastore, 1))
    (kk : ∀ (H1 : Heap) (locs1 : List Loc), sM D ids n0 RR ad (va_up τ i (upd (τ i) k v)) th fr H1 → va_S (fun q => n0 ≤ q) s.heap H1 locs1 → W p l e R s m args below meth c H1 locs1 cells slots Q (F0 m (pc + 1) ls rest)) : W p l e R s m args below meth c H locs cells slots Q (F0 m pc ls (.int v :: .int x :: .ref (ad (11 + i)) :: rest)) := by
  obtain ⟨cn, HP, hM, hfr, hRR⟩ := hw
  have hN : tmN i ≤ 120 := by unfold tmN; split <;> omega
  have hf := hM.2 i h1 h2
  have hA := hM.arr i h1 h2 (upd (τ i) k v)
  rw [hc] at hf hA
  subst hx9
  refine ro_iast MC HP HS (hRR (11 + i) (by omega)) hf (vp_in_nI hk (by omega)) hdg fun H1 locs1 h3 h4 => ?_
  rw [nI_clamp (by omega)] at h3
  exact kk H1 locs1 ⟨_, h3, hA, fun r hr => by rw [va_up_ne _ _ (by omega)]; exact hfr r hr, hRR⟩ h4
theorem mo_zast (MC : ro_C p s m args meth c cc nL own D ids n0) (hw : sM D ids n0 RR ad τ th fr H) (HS : va_S (fun q => n0 ≤ q) s.heap H locs) (i : Nat) (h1 : 1 ≤ i) (h2 : i ≤ 18) (hc : tmC i = 1) (k : Nat) (hk : k < tmN i) {x v : Int32} (hx9 : x = nI k) (hnar : vp_nar .boolean v = v) (hdg : decode cc pc = .ok (.bastore, 1))
    (kk : ∀ (H1 : Heap) (locs1 : List Loc), sM D ids n0 RR ad (va_up τ i (upd (τ i) k v)) th fr H1 → va_S (fun q => n0 ≤ q) s.heap H1 locs1 → W p l e R s m args below meth c H1 locs1 cells slots Q (F0 m (pc + 1) ls rest)) : W p l e R s m args below meth c H locs cells slots Q (F0 m pc ls (.int v :: .int x :: .ref (ad (11 + i)) :: rest)) := by
  obtain ⟨cn, HP, hM, hfr, hRR⟩ := hw
  have hN : tmN i ≤ 120 := by unfold tmN; split <;> omega
  have hf := hM.2 i h1 h2
  have hA := hM.arr i h1 h2 (upd (τ i) k v)
  rw [hc] at hf hA
  subst hx9
  refine ro_zast MC HP HS (hRR (11 + i) (by omega)) hf (vp_in_nI hk (by omega)) hnar hdg fun H1 locs1 h3 h4 => ?_
  rw [nI_clamp (by omega)] at h3
  exact kk H1 locs1 ⟨_, h3, hA, fun r hr => by rw [va_up_ne _ _ (by omega)]; exact hfr r hr, hRR⟩ h4
theorem mo_recv (MC : ro_C p s m args meth c cc nL own D ids n0) (hw : sM D ids n0 RR ad τ th fr H) : ∃ cell : Cell, H[ad 11]? = some cell ∧ cell.vm.isStatics = false ∧ s.vm.findClass RX7 = some cell.cls := by
  obtain ⟨cn, HP, hM, -, hRR⟩ := hw
  exact ro_recv MC HP (hRR 11 (by decide)) hM.1 (rfl : vwCl[6]? = some (RX7, TX7, 23))
end MO
/-- a truth as an int -/
def bI (q : Prop) [Decidable q] : Int32 := if q then 1 else 0
theorem bI_t {q : Prop} [Decidable q] (h : q) : bI q = 1 := if_pos h
theorem bI_f {q : Prop} [Decidable q] (h : ¬ q) : bI q = 0 := if_neg h
theorem bI_0 {q : Prop} [Decidable q] : bI q = 0 ↔ ¬ q := by unfold bI; split <;> simp_all
theorem bI_n0 {q : Prop} [Decidable q] : ¬ bI q = 0 ↔ q := by unfold bI; split <;> simp_all
theorem bI_1 {q : Prop} [Decidable q] : bI q = 1 ↔ q := by unfold bI; split <;> simp_all
theorem bI_nar {q : Prop} [Decidable q] : narrow .boolean (.int (bI q)) = .int (bI q) := by unfold bI; split <;> rfl
theorem bI_vnar {q : Prop} [Decidable q] : vp_nar .boolean (bI q) = bI q := by unfold bI; split <;> rfl
theorem bI_cong {q r : Prop} [Decidable q] [Decidable r] (h : q ↔ r) : bI q = bI r := by unfold bI; simp only [h]
theorem nI_ex {x : Int32} {n : Nat} (h0 : 0 ≤ x) (h1 : x < nI n) (hn : n < 2 ^ 31) : ∃ k, k < n ∧ x = nI k := by
  rcases pk_ix x (n := n) hn with h | h | h
  · exact absurd h0 (by lia)
  · exact absurd h1 (by lia)
  · exact h
/-- an upward loop -/
theorem ro_loop (N : Nat) (P : Nat → Prop) (hend : P N) (hstep : ∀ i, i < N → P (i + 1) → P i) : ∀ i, i ≤ N → P i := by
  intro i hi
  obtain ⟨d, hd⟩ : ∃ d, N = i + d := ⟨N - i, by omega⟩
  induction d generalizing i with
  | zero => subst hd; exact hend
  | succ d ih => exact hstep i (by omega) (ih (i + 1) (by omega) (by omega))
