section EE
variable {p : Program} {l : Launch} {e : Env} {R : Room} {s : State} {m : MethodId} {args : Array Value} {below : List Frame} {meth : Method} {c : Code} {H : Heap} {locs : List Loc} {cells slots : Nat} {Q : State → Prop}
variable {cc : ByteArray} {nL : Nat} {own : String} {D : va_G} {ids : Nat → ClassId} {n0 : Nat} {RR : List Nat} {ad : Nat → Nat} {cn : Nat → va_E} {pc : Nat} {ls : Array Slot} {rest : List Value}
theorem ro_putE {a9 : Nat} (MC : ro_C p s m args meth c cc nL own D ids n0) (HP : ro_P D n0 RR ad cn H) (HS : va_S (fun q => n0 ≤ q) s.heap H locs) {r : Nat} (ha9 : ad r = a9) (hr : r ∈ RR) {ci N : Nat} {C ref : String} {T : u_T} {fs : List Value} (hf : cn r = .inr (ci, fs)) (hc : vwCl[ci]? = some (C, T, N)) (hin : ∀ w ∈ u_ws C T N, w ∈ uU) {ty0 : Nat → FieldType} (hty : ∀ k, k < N → parseFieldDescriptor (T k).2.2.1 = some (ty0 k)) (hnm : ∀ a, a < N → ∀ b, b < N → a ≠ b → (T a).2.1 ≠ (T b).2.1) (k : Nat) (hk : k < N) {index : Nat} (hlink : Cond.fieldLink own index ref (T k).2.1 (T k).2.2.1 ∈ uU) (hsame : (T k).1 = ref) (hfin : (T k).2.2.2 = false) {v : Value} (hn : narrow (ty0 k) v = v) (hfit : fits (ty0 k) v = true) (hl : k < fs.length) (hdg : decode cc pc = .ok (.putfield index, 3))
    (kk : ∀ (H1 : Heap) (locs1 : List Loc), ro_P D n0 RR ad (va_up cn r (.inr (ci, fs.set k v))) H1 → va_S (fun q => n0 ≤ q) s.heap H1 locs1 → W p l e R s m args below meth c H1 locs1 cells slots Q (F0 m (pc + 3) ls rest)) : W p l e R s m args below meth c H locs cells slots Q (F0 m pc ls (v :: .ref a9 :: rest)) := by
  subst ha9
  exact ro_put MC HP HS hr hf hc hin hty hnm k hk hlink hsame hfin hn hfit hl hdg kk
theorem xo_aastE {a9 b9 : Nat} (MC : ro_C p s m args meth c cc nL "FrostCalendar" D ids n0) (HP : ro_P D n0 RR ad cn H) (HS : va_S (fun q => n0 ≤ q) s.heap H locs) (t0 : Nat) {q : vw_C} {r rv ci : Nat} {vs : List Value} (ha9 : ad r = a9) (hr : r ∈ RR) {n : Nat} {f : Nat → Option Nat} (hf : cn r = .inl (ids t0, n, .inr (.inr (.inr (.inr f))))) (ht : (uTy ids)[t0]? = some (ids t0, .object q.1)) (hb9 : ad rv = b9) (hrv : rv ∈ RR) (hfv : cn rv = .inr (ci, vs)) (hc : vwCl[ci]? = some q) (k : Nat) (hk : k < n) (hn : n ≤ 100) {i : Int32} (hi : i = nI k) (hdg : decode cc pc = .ok (.aastore, 1))
    (kk : ∀ (H1 : Heap) (locs1 : List Loc), ro_P D n0 RR ad (va_up cn r (.inl (ids t0, n, .inr (.inr (.inr (.inr (va_up f k (some b9)))))))) H1 → va_S (fun q => n0 ≤ q) s.heap H1 locs1 → W p l e R s m args below meth c H1 locs1 cells slots Q (F0 m (pc + 1) ls rest)) : W p l e R s m args below meth c H locs cells slots Q (F0 m pc ls (.ref b9 :: .int i :: .ref a9 :: rest)) := by
  subst ha9 hb9
  exact xo_aast MC HP HS t0 hr hf ht hrv hfv hc k hk hn hi hdg kk
end EE
theorem lays_row {τ : Tau} {how s d a b r : Int32} {i : Nat} (h : 1 ≤ i ∧ (i < 5 ∨ 10 < i)) : nx_lays τ how s d a b r i = τ i := by
  unfold nx_lays
  rw [t0, va_up_ne _ _ (by omega), ti_low (by omega), ti_low (by omega), ti_low (by omega), ti_low (by omega), ti_low (by omega), ti_low (by omega)]
theorem lay_at {τ : Tau} {nl : Nat} (hcn : cx (τ 0 2) = nl) {how s d a b r : Int32} : nx_lays τ how s d a b r 5 nl = how ∧ nx_lays τ how s d a b r 6 nl = s ∧ nx_lays τ how s d a b r 7 nl = d ∧ nx_lays τ how s d a b r 8 nl = a ∧ nx_lays τ how s d a b r 9 nl = b ∧ nx_lays τ how s d a b r 10 nl = r := by
  unfold nx_lays
  rw [hcn]
  exact ⟨upd_at .., upd_at .., upd_at .., upd_at .., upd_at .., upd_at ..⟩
theorem lay_new0 {τ : Tau} {nl : Nat} (hcn : cx (τ 0 2) = nl) {ad1 : Nat → Nat} {s d a b r : Int32} : (Sum.inr (3, [.int s, .int r, .int a, .int b]) : va_E) = frE (nx_lays τ 0 s d a b r) ad1 nl := by
  obtain ⟨e5, e6, e7, e8, e9, e10⟩ := lay_at hcn (how := 0) (s := s) (d := d) (a := a) (b := b) (r := r)
  simp only [frE, e5, e6, e7, e8, e9, e10, if_true]
theorem lay_new1 {τ : Tau} {nl : Nat} (hcn : cx (τ 0 2) = nl) {ad1 : Nat → Nat} {s d a b r : Int32} {k : Nat} (hd : cx d = k) : (Sum.inr (1, [.int s, .int r, .ref (ad1 (7 + k)), .int a, .int b]) : va_E) = frE (nx_lays τ 1 s d a b r) ad1 nl := by
  obtain ⟨e5, e6, e7, e8, e9, e10⟩ := lay_at hcn (how := 1) (s := s) (d := d) (a := a) (b := b) (r := r)
  simp only [frE, e5, e6, e7, e8, e9, e10, hd]
  rfl
theorem lay_new2 {τ : Tau} {nl : Nat} (hcn : cx (τ 0 2) = nl) {ad1 : Nat → Nat} {s d a b r : Int32} {k : Nat} (hd : cx d = k) : (Sum.inr (2, [.int s, .int r, .ref (ad1 (7 + k))]) : va_E) = frE (nx_lays τ 2 s d a b r) ad1 nl := by
  obtain ⟨e5, e6, e7, e8, e9, e10⟩ := lay_at hcn (how := 2) (s := s) (d := d) (a := a) (b := b) (r := r)
  simp only [frE, e5, e6, e7, e8, e9, e10, hd]
  rfl
theorem plan_row {τ : Tau} {s f n r : Int32} {i : Nat} (h : 1 ≤ i ∧ (i < 11 ∨ i = 18)) : nx_plan τ s f n r i = τ i := by
  unfold nx_plan
  rw [t0, va_up_ne _ _ (by omega), ti_low (by omega), ti_low (by omega), ti_low (by omega), ti_low (by omega), ti_low (by omega)]
theorem pln_new {τ : Tau} {nw ns nl nc : Nat} (hI : Iv τ nw ns nl nc) (hlt : nc < 30) {s f n r : Int32} : (Sum.inr (0, [.int s, .int n, .int r, .int f, .int 0, .int 0, .int 0, .int 20]) : va_E) = .inr (0, chF (nx_plan τ s f n r) nc) := by
  have hcn : cx (τ 0 3) = nc := by rw [hI.2.2.2.1.1]; exact cx_nI (by omega)
  obtain ⟨z1, z2⟩ := hI.2.2.2.2.2.2.2.2.2.2.2.1 nc (Nat.le_refl _) hlt
  have e17 : nx_plan τ s f n r 17 nc = -1 := by unfold nx_plan; rw [hcn]; exact upd_at ..
  refine chF_of ?_ ?_ ?_ ?_ z1 z2 (bI_f (fun h => h e17)) (if_pos e17)
  · unfold nx_plan; rw [hcn]; exact upd_at ..
  · unfold nx_plan; rw [hcn]; exact upd_at ..
  · unfold nx_plan; rw [hcn]; exact upd_at ..
  · unfold nx_plan; rw [hcn]; exact upd_at ..
theorem pl_ix {w f n : Int32} (hw : 0 ≤ w ∧ w ≤ 671) (hn : 1 ≤ n ∧ n ≤ 100) (h : w ≤ f ∧ f < 672 ∧ f + n ≤ 672) : ∃ b m, f = nI b ∧ n = nI m ∧ 1 ≤ m ∧ m ≤ 100 ∧ b + m ≤ 672 := by
  obtain ⟨h1, h2, h3⟩ := h
  obtain ⟨b, hb, hba⟩ := nI_ex (x := f) (n := 672) (by lia) (by show f < 672; exact h2) (by omega)
  obtain ⟨m, hm, hma⟩ := nI_ex (x := n) (n := 101) (by lia) (by show n < 101; lia) (by omega)
  refine ⟨b, m, hba, hma, ?_, by omega, ?_⟩
  · rcases Nat.eq_zero_or_pos m with h0 | h0
    · subst h0; rw [hma] at hn; exact absurd hn.1 (by decide)
    · exact h0
  · rcases Nat.lt_or_ge 672 (b + m) with h7 | h7
    · exfalso
      have h6 : f + n = nI (b + m) := by rw [hba, hma, nI_add]
      have h5 : nI 673 ≤ nI (b + m) := nI_le h7 (by omega)
      rw [← h6] at h5
      have h4 : nI 673 = 673 := rfl
      rw [h4] at h5
      lia
    · exact h7
