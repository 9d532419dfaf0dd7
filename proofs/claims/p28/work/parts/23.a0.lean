section GG
variable {p : Program} {l : Launch} {e : Env} {R : Room} {s : State} {m : MethodId} {args : Array Value} {below : List Frame} {meth : Method} {c : Code} {H : Heap} {locs : List Loc} {cells slots : Nat} {Q : State → Prop}
variable {cc : ByteArray} {nL : Nat} {own : String} {D : va_G} {ids : Nat → ClassId} {n0 : Nat} {RR : List Nat} {ad : Nat → Nat} {cn : Nat → va_E} {pc : Nat} {ls : Array Slot} {rest : List Value}
theorem ro_newaG (MC : ro_C p s m args meth c cc nL own D ids n0) (HP : ro_P D n0 RR ad cn H) (HS : va_S (fun q => n0 ≤ q) s.heap H locs) (r : Nat) (hr : r ∉ RR) {atype : ArrayType} (t0 : Nat) {ty : FieldType} (hty : newarray.typeOf atype = ty) (harr : Cond.arrayClass ty ∈ uU) (ht : (uTy ids)[t0]? = some (ids t0, ty)) {x : vp_A} (hobj : ∀ C, ty ≠ .object C) (hx9 : vp_cell (ids t0) x = arrV (ids t0) x.1 (fun _ => defaultValue ty))
    {n : Int32} (hn : ¬ n < 0) (hN : n.toNatClampNeg = x.1) (hbytes : x.1 * componentBytes ty ≤ 536870912) (hcells : cells + 1 ≤ R.cells) (hslots : slots + x.1 ≤ R.slots) (hdg : decode cc pc = .ok (.newarray atype, 2))
    (kk : ∀ (ad1 : Nat → Nat) (cn1 : Nat → va_E) (H1 : Heap), ro_P D n0 (RR ++ [r]) ad1 cn1 H1 → (∀ j, j ≠ r → ad1 j = ad j) → (∀ j, j ≠ r → cn1 j = cn j) → cn1 r = (.inl (ids t0, x)) → va_S (fun q => n0 ≤ q) s.heap H1 locs → W p l e R s m args below meth c H1 locs (cells + 1) (slots + x.1) Q (F0 m (pc + 2) ls (.ref (ad1 r) :: rest))) : W p l e R s m args below meth c H locs cells slots Q (F0 m pc ls (.int n :: rest)) := by
  refine ro_newa MC HP HS r hr t0 hty harr ht hobj hx9 hn hN hbytes hcells hslots hdg fun q H1 _ h1 h2 => ?_
  have h9 := kk (va_up ad r q) (va_up cn r (.inl (ids t0, x))) H1 h1 (fun j hj => va_up_ne _ _ hj) (fun j hj => va_up_ne _ _ hj) (va_up_self ..) h2
  rw [va_up_self] at h9
  exact h9
theorem ro_newqG (MC : ro_C p s m args meth c cc nL own D ids n0) (HP : ro_P D n0 RR ad cn H) (HS : va_S (fun q => n0 ≤ q) s.heap H locs) (r : Nat) (hr : r ∉ RR) {C : String} {index : Nat} (hcl : Cond.classLink own index C ∈ uU) (hao : C ∈ uAO) (t0 : Nat) (ht : (uTy ids)[t0]? = some (ids t0, .object C))
    {n : Int32} (N : Nat) (hn : ¬ n < 0) (hN : n.toNatClampNeg = N) (hbytes : N * 4 ≤ 536870912) (hcells : cells + 1 ≤ R.cells) (hslots : slots + N ≤ R.slots) (hdg : decode cc pc = .ok (.anewarray index, 3))
    (kk : ∀ (ad1 : Nat → Nat) (cn1 : Nat → va_E) (H1 : Heap), ro_P D n0 (RR ++ [r]) ad1 cn1 H1 → (∀ j, j ≠ r → ad1 j = ad j) → (∀ j, j ≠ r → cn1 j = cn j) → cn1 r = (.inl (ids t0, N, .inr (.inr (.inr (.inr (fun _ => none)))))) → va_S (fun q => n0 ≤ q) s.heap H1 locs → W p l e R s m args below meth c H1 locs (cells + 1) (slots + N) Q (F0 m (pc + 3) ls (.ref (ad1 r) :: rest))) : W p l e R s m args below meth c H locs cells slots Q (F0 m pc ls (.int n :: rest)) := by
  refine ro_newq MC HP HS r hr hcl hao t0 ht N hn hN hbytes hcells hslots hdg fun q H1 _ h1 h2 => ?_
  have h9 := kk (va_up ad r q) (va_up cn r (.inl (ids t0, N, .inr (.inr (.inr (.inr (fun _ => none))))))) H1 h1 (fun j hj => va_up_ne _ _ hj) (fun j hj => va_up_ne _ _ hj) (va_up_self ..) h2
  rw [va_up_self] at h9
  exact h9
theorem ro_newG (MC : ro_C p s m args meth c cc nL own D ids n0) (HP : ro_P D n0 RR ad cn H) (HS : va_S (fun q => n0 ≤ q) s.heap H locs) (r : Nat) (hr : r ∉ RR) {ci N : Nat} {C : String} {T : u_T} (fs : List Value) (hc : vwCl[ci]? = some (C, T, N)) (hin : ∀ w ∈ u_ws C T N, w ∈ uU) {ty0 : Nat → FieldType} (hty : ∀ k, k < N → parseFieldDescriptor (T k).2.2.1 = some (ty0 k)) {index : Nat} (hcl : Cond.classLink own index C ∈ uU) (hinst : Cond.instantiable C N ∈ uU) (hini : Cond.initialized C ∈ uU) (hfs : ∀ j, j < N → defaultValue (ty0 j) = vp_V fs j) (hcells : cells + 1 ≤ R.cells) (hslots : slots + N ≤ R.slots) (hdg : decode cc pc = .ok (.new index, 3))
    (kk : ∀ (ad1 : Nat → Nat) (cn1 : Nat → va_E) (H1 : Heap), ro_P D n0 (RR ++ [r]) ad1 cn1 H1 → (∀ j, j ≠ r → ad1 j = ad j) → (∀ j, j ≠ r → cn1 j = cn j) → cn1 r = (.inr (ci, fs)) → va_S (fun q => n0 ≤ q) s.heap H1 locs → W p l e R s m args below meth c H1 locs (cells + 1) (slots + N) Q (F0 m (pc + 3) ls (.ref (ad1 r) :: rest))) : W p l e R s m args below meth c H locs cells slots Q (F0 m pc ls rest) := by
  refine ro_new MC HP HS r hr fs hc hin hty hcl hinst hini hfs hcells hslots hdg fun q H1 _ h1 h2 => ?_
  have h9 := kk (va_up ad r q) (va_up cn r (.inr (ci, fs))) H1 h1 (fun j hj => va_up_ne _ _ hj) (fun j hj => va_up_ne _ _ hj) (va_up_self ..) h2
  rw [va_up_self] at h9
  exact h9
theorem ro_putG {a9 : Nat} (MC : ro_C p s m args meth c cc nL own D ids n0) (HP : ro_P D n0 RR ad cn H) (HS : va_S (fun q => n0 ≤ q) s.heap H locs) {r : Nat} (ha9 : ad r = a9) (hr : r ∈ RR) {ci N : Nat} {C ref : String} {T : u_T} {fs : List Value} (hf : cn r = .inr (ci, fs)) (hc : vwCl[ci]? = some (C, T, N)) (hin : ∀ w ∈ u_ws C T N, w ∈ uU) {ty0 : Nat → FieldType} (hty : ∀ k, k < N → parseFieldDescriptor (T k).2.2.1 = some (ty0 k)) (hnm : ∀ a, a < N → ∀ b, b < N → a ≠ b → (T a).2.1 ≠ (T b).2.1) (k : Nat) (hk : k < N) {index : Nat} (hlink : Cond.fieldLink own index ref (T k).2.1 (T k).2.2.1 ∈ uU) (hsame : (T k).1 = ref) (hfin : (T k).2.2.2 = false) {v : Value} (hn : narrow (ty0 k) v = v) (hfit : fits (ty0 k) v = true) (hl : k < fs.length) (hdg : decode cc pc = .ok (.putfield index, 3))
    (kk : ∀ (cn1 : Nat → va_E) (H1 : Heap) (locs1 : List Loc), ro_P D n0 RR ad cn1 H1 → (∀ j, j ≠ r → cn1 j = cn j) → cn1 r = .inr (ci, fs.set k v) → va_S (fun q => n0 ≤ q) s.heap H1 locs1 → W p l e R s m args below meth c H1 locs1 cells slots Q (F0 m (pc + 3) ls rest)) : W p l e R s m args below meth c H locs cells slots Q (F0 m pc ls (v :: .ref a9 :: rest)) := by
  subst ha9
  exact ro_put MC HP HS hr hf hc hin hty hnm k hk hlink hsame hfin hn hfit hl hdg fun H1 locs1 h1 h2 => kk _ H1 locs1 h1 (fun j hj => va_up_ne _ _ hj) (va_up_self ..) h2
theorem ro_putFG {a9 : Nat} (MC : ro_C p s m args meth c cc nL own D ids n0) (hinit : meth.name = "<init>") (HP : ro_P D n0 RR ad cn H) (HS : va_S (fun q => n0 ≤ q) s.heap H locs) {r : Nat} (ha9 : ad r = a9) (hr : r ∈ RR) {ci N : Nat} {C : String} {T : u_T} {fs : List Value} (hf : cn r = .inr (ci, fs)) (hc : vwCl[ci]? = some (C, T, N)) (hin : ∀ w ∈ u_ws C T N, w ∈ uU) {ty0 : Nat → FieldType} (hty : ∀ k, k < N → parseFieldDescriptor (T k).2.2.1 = some (ty0 k)) (hnm : ∀ a, a < N → ∀ b, b < N → a ≠ b → (T a).2.1 ≠ (T b).2.1) (k : Nat) (hk : k < N) {index : Nat} (hlink : Cond.fieldLink own index own (T k).2.1 (T k).2.2.1 ∈ uU) (hsame : (T k).1 = own) (hfin : (T k).2.2.2 = true) {v : Value} (hn : narrow (ty0 k) v = v) (hfit : fits (ty0 k) v = true) (hl : k < fs.length) (hdg : decode cc pc = .ok (.putfield index, 3))
    (kk : ∀ (cn1 : Nat → va_E) (H1 : Heap) (locs1 : List Loc), ro_P D n0 RR ad cn1 H1 → (∀ j, j ≠ r → cn1 j = cn j) → cn1 r = .inr (ci, fs.set k v) → va_S (fun q => n0 ≤ q) s.heap H1 locs1 → W p l e R s m args below meth c H1 locs1 cells slots Q (F0 m (pc + 3) ls rest)) : W p l e R s m args below meth c H locs cells slots Q (F0 m pc ls (v :: .ref a9 :: rest)) := by
  subst ha9
  exact ro_putF MC hinit HP HS hr hf hc hin hty hnm k hk hlink hsame hfin hn hfit hl hdg fun H1 locs1 h1 h2 => kk _ H1 locs1 h1 (fun j hj => va_up_ne _ _ hj) (va_up_self ..) h2
theorem ro_getE {a9 : Nat} (MC : ro_C p s m args meth c cc nL own D ids n0) (HP : ro_P D n0 RR ad cn H) {r : Nat} (ha9 : ad r = a9) (hr : r ∈ RR) {ci N : Nat} {C ref : String} {T : u_T} {fs : List Value} (hf : cn r = .inr (ci, fs)) (hc : vwCl[ci]? = some (C, T, N)) (hin : ∀ w ∈ u_ws C T N, w ∈ uU) (k : Nat) (hk : k < N) {index : Nat} (hlink : Cond.fieldLink own index ref (T k).2.1 (T k).2.2.1 ∈ uU) (hsame : (T k).1 = ref) {v : Value} (hv : fs[k]? = some v) (hdg : decode cc pc = .ok (.getfield index, 3))
    (kk : W p l e R s m args below meth c H locs cells slots Q (F0 m (pc + 3) ls (v :: rest))) : W p l e R s m args below meth c H locs cells slots Q (F0 m pc ls (.ref a9 :: rest)) := by
  subst ha9
  exact ro_get MC HP hr hf hc hin k hk hlink hsame hv hdg kk
end GG
def taI : Tau := va_up (va_up (fun _ _ => 0) 1 (upd (fun _ => 0) 0 (-1))) 0 (upd (fun _ => 0) 1 1)
theorem taI_row {i : Nat} (h : 2 ≤ i) : taI i = fun _ => 0 := by
  unfold taI
  rw [va_up_ne _ _ (by omega), va_up_ne _ _ (by omega)]
theorem taI_0 (j : Nat) (h : j ≠ 1) : taI 0 j = 0 := by
  show upd (fun _ => 0) 1 1 j = 0
  rw [upd_ne _ _ h]
theorem Iv.init : Iv taI 0 1 0 0 := by
  refine ⟨⟨rfl, by omega⟩, ⟨rfl, by omega, by omega⟩, ⟨rfl, by omega⟩, ⟨rfl, by omega⟩, ⟨rfl, fun k h1 h2 => by omega⟩, ?_, ?_, ?_, ?_, fun k hk => by omega, fun k hk => by omega, ?_, ?_⟩
  · intro j _; rw [taI_row (by omega)]; show (-11 : Int32) ≤ 0 ∧ (0 : Int32) ≤ 12; decide
  · intro j _; rw [taI_row (by omega)]; exact Or.inl rfl
  · intro j _; rw [taI_row (by omega)]; exact Or.inl rfl
  · intro j _ _; rw [taI_row (by omega)]
  · intro j _ _; rw [taI_row (by omega), taI_row (by omega)]; exact ⟨rfl, rfl⟩
  · intro j _; rw [taI_row (by omega)]; show (0 : Int32) ≤ 0 ∧ (0 : Int32) ≤ 50; decide
