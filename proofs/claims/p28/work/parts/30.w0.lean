section LW
variable {p : Program} {l : Launch} {e : Env} {R : Room} {s : State} {m : MethodId} {args : Array Value} {below : List Frame} {meth : Method} {c : Code} {H : Heap} {locs : List Loc} {cells slots mc ms : Nat} {Q : State → Prop}
variable {cc : ByteArray} {nL maxL index : Nat} {own : String} {D : va_G} {ids : Nat → ClassId} {n0 : Nat} {pc : Nat} {ls : Array Slot} {As rest st0 : List Value} {y : MethodName} {cy : ByteArray} {ret : Option FieldType} {hh : List (Nat × Nat × Nat × Nat)} {rm : Room} {post : Option Value → Heap → Prop}
/-- the words that a call of y, a static method with handlers, wants -/
def ro_LW (own : String) (index : Nat) (y : MethodName) (cy : ByteArray) (maxL : Nat) (ret : Option FieldType) (hh : List (Nat × Nat × Nat × Nat)) (n : Nat) : Prop :=
  Cond.codeWith y cy maxL ret hh ∈ uU ∧ Cond.methodLink own index y ∈ uU ∧ Cond.initialized y.cls ∈ uU ∧ Cond.static y ∈ uU ∧ y.cls ≠ "java/lang/invoke/MethodHandle" ∧ y.cls ≠ "java/lang/invoke/VarHandle" ∧ (parseMethodDescriptor y.desc).map (fun d => d.parameters.length) = some n
theorem ro_callW (MC : ro_C p s m args meth c cc nL own D ids n0) (HS : va_S (fun q => n0 ≤ q) s.heap H locs) (hM : ro_MW l y cy maxL ret hh rm D ids n0 As H post) (hL : ro_LW own index y cy maxL ret hh As.length) (hR : rm.frames + 1 ≤ R.frames ∧ 8 + (maxL + 11) + rm.locals ≤ R.locals)
    (hsize : ls.size = nL) (hst : st0 = As.reverse ++ rest) (hcat : (rest.map fun v => v.category).sum ≤ 8) (hdg : decode cc pc = .ok (.invokestatic index, 3)) (hf : cells + rm.cells ≤ R.cells ∧ slots + rm.slots ≤ R.slots)
    (kk : ∀ (v : Option Value) (H1 : Heap) (locs1 : List Loc), post v H1 → H.size ≤ H1.size → va_S (fun q => n0 ≤ q) s.heap H1 locs1 → W p l e R s m args below meth c H1 locs1 (cells + rm.cells) (slots + rm.slots) Q (F0 m (pc + 3) ls (v.toList ++ rest))) : W p l e R s m args below meth c H locs cells slots Q (F0 m pc ls st0) :=
  ro_back HS (vx_runSW MC.1 hM (by
    obtain ⟨⟨hx, hb, hml, hown, hts⟩, hE, -⟩ := MC
    have hG := uU_cons hL.1
    refine vx_cwSW As.length hts (fun w hw => ?_) rfl rfl rfl hL.2.2.2.2 hR
    unfold va_wsS at hw
    rcases List.mem_append.mp hw with h | h
    · have h9 : w ∈ uU := by
        simp only [List.mem_cons, List.not_mem_nil, or_false] at h
        rcases h with rfl | rfl | rfl <;> first | exact hL.2.1 | exact hL.2.2.1 | exact hL.2.2.2.1
      exact ⟨h9, uU_gd h9⟩
    · exact hG w h) ⟨En.blind, ro_callee MC.2.1 HS⟩ rfl rfl hsize hst (by rw [show (F0 m pc ls st0).monitorRoom = 0 from rfl]; omega) hdg hf) kk
/-- an int of the script -/
theorem ro_sld (MC : ro_C p s m args meth c cc nL own D ids n0) (HS : va_S (fun q => n0 ≤ q) s.heap H locs) {b L : Nat} {xs : Nat → Int32} (hX : va_X b L xs s s.heap) (hb0 : b < n0) {i : Int32} (k : Nat) (hi : i = nI k) (hk : k < L) (hL : L ≤ 3072) (hdg : decode cc pc = .ok (.iaload, 1))
    (kk : W p l e R s m args below meth c H locs cells slots Q (F0 m (pc + 1) ls (.int (xs k) :: rest))) : W p l e R s m args below meth c H locs cells slots Q (F0 m pc ls (.int i :: .ref b :: rest)) := by
  subst hi
  obtain ⟨⟨hx, hb, hml, hown, hts⟩, hE, -⟩ := MC
  refine va_sld hx hb hX (Nat.lt_of_lt_of_le hb0 hE.2.2.2.1) (Nat.not_le.mpr hb0) HS (vp_in_nI hk (by omega)) hdg ?_
  rw [nI_clamp (by omega)]
  exact kk
end LW
theorem kc7 : Cond.constant "FrostCalendarLaw" 7 1000308223 ∈ uU := uU_in 502 (by decide +kernel) (by decide +kernel)
theorem kc8 : Cond.constant "FrostCalendarLaw" 8 751363397 ∈ uU := uU_in 503 (by decide +kernel) (by decide +kernel)
theorem kc9 : Cond.constant "FrostCalendarLaw" 9 2147483647 ∈ uU := uU_in 507 (by decide +kernel) (by decide +kernel)
/-! the law's arrays: role 11 + i holds row i of A: 0 freezes, 1 changes, 2 in, 3 off, 4 feast, 5 left, 6 g -/
def wN : Nat → Nat
  | 0 => 42
  | 1 => 42
  | 2 => 8
  | _ => 4
theorem wN_le (i : Nat) : wN i ≤ 42 := by unfold wN; split <;> omega
def isW (ids : Nat → ClassId) (cn : Nat → va_E) (A : Tau) : Prop := ∀ i, i < 7 → cn (11 + i) = .inl (ids 0, wN i, .inl (A i))
/-- the calendar and the law's arrays, at the addresses aa -/
def wB (D : va_G) (ids : Nat → ClassId) (n0 : Nat) (aa : Nat → Nat) (τ : Tau) (nw ns nl nc : Nat) (A : Tau) (H : Heap) : Prop := Iv τ nw ns nl nc ∧ ∃ (RR : List Nat) (ad : Nat → Nat) (cn : Nat → va_E), xH D ids n0 RR ad cn τ ns nl nc H ∧ isW ids cn A ∧ ∀ r, r < 18 → ad r = aa r
theorem wB.keep {D : va_G} {ids : Nat → ClassId} {n0 : Nat} {aa : Nat → Nat} {τ : Tau} {nw ns nl nc : Nat} {A : Tau} {H H1 : Heap} (h : wB D ids n0 aa τ nw ns nl nc A H) (hg : grow H H1) : wB D ids n0 aa τ nw ns nl nc A H1 := by
  obtain ⟨h1, RR, ad, cn, h2, h3, h4⟩ := h
  exact ⟨h1, RR, ad, cn, h2.keep hg, h3, h4⟩
def wF (τ : Tau) (fa : Nat → Int32) (k : Nat) : Prop := fa (7 * k) = bI (τ 4 k = 0) ∧ fa (7 * k + 1) = τ 5 k ∧ fa (7 * k + 2) = τ 6 k ∧ fa (7 * k + 3) = τ 7 k ∧ (¬ τ 5 k = 2 → fa (7 * k + 4) = τ 8 k ∧ fa (7 * k + 5) = τ 9 k) ∧ fa (7 * k + 6) = τ 10 k ∧ (τ 5 k = 1 → (∃ a, a < 24 ∧ τ 8 k = nI a) ∧ ∃ b, b < 24 ∧ τ 9 k = nI b)
def wC (τ : Tau) (ca : Nat → Int32) (n : Nat) : Prop := ca (7 * n) = τ 11 n ∧ ca (7 * n + 1) = τ 12 n ∧ ca (7 * n + 2) = τ 13 n ∧ ca (7 * n + 3) = τ 14 n ∧ ca (7 * n + 4) = τ 15 n ∧ ca (7 * n + 5) = τ 16 n ∧ ca (7 * n + 6) = τ 17 n
/-- the law's arrays say what the state says -/
def wOk (τ : Tau) (ns nl nc : Nat) (A : Tau) : Prop :=
  (ns ≤ 8 ∧ nl ≤ 6 ∧ nc ≤ 6) ∧ (A 6 0 = τ 0 0 ∧ A 6 1 = τ 0 1 ∧ A 6 2 = τ 0 2 ∧ A 6 3 = τ 0 3) ∧ (∀ k, k < nl → wF τ (A 0) k) ∧ (∀ n, n < nc → wC τ (A 1) n) ∧ (∀ k, k < ns → ∀ b, b < 16 → bit (A 2 k) b = bel (τ 1) 16 k b) ∧ (∀ j, j < 4 → A 3 j = τ 2 j) ∧ (∀ j, j < 4 → ∀ d, d < 30 → bit (A 4 j) d = !(τ 3 (30 * j + d) == 0)) ∧ ∀ r, 1 ≤ r → r < 4 → A 5 r = τ 18 r
/-- a freeze that counts against a change -/
def agB (τ : Tau) (n k : Nat) : Bool := !exB τ n k && tch τ k n
section WB
variable {p : Program} {l : Launch} {e : Env} {R : Room} {s : State} {m : MethodId} {args : Array Value} {below : List Frame} {meth : Method} {c : Code} {H : Heap} {locs : List Loc} {cells slots : Nat} {Q : State → Prop}
variable {cc : ByteArray} {nL : Nat} {own : String} {D : va_G} {ids : Nat → ClassId} {n0 : Nat} {aa : Nat → Nat} {pc : Nat} {ls : Array Slot} {rest st0 : List Value} {τ : Tau} {nw ns nl nc : Nat} {A : Tau}
theorem wb_iald (MC : ro_C p s m args meth c cc nL own D ids n0) (hB : wB D ids n0 aa τ nw ns nl nc A H) (i : Nat) (hi : i < 7) (k : Nat) (hk : k < wN i) {x v : Int32} (hx9 : x = nI k) (hv : A i k = v) (hdg : decode cc pc = .ok (.iaload, 1))
    (kk : W p l e R s m args below meth c H locs cells slots Q (F0 m (pc + 1) ls (.int v :: rest))) : W p l e R s m args below meth c H locs cells slots Q (F0 m pc ls (.int x :: .ref (aa (11 + i)) :: rest)) := by
  obtain ⟨-, RR, ad, cn, hX, hW, had⟩ := hB
  have hN := wN_le i
  rw [← had (11 + i) (by omega), hx9]
  refine ro_iald MC hX.1 (hX.2.1.l (by omega)) (hW i hi) (vp_in_nI hk (by omega)) hdg ?_
  rw [nI_clamp (by omega), hv]
  exact kk
theorem wb_iast (MC : ro_C p s m args meth c cc nL own D ids n0) (hB : wB D ids n0 aa τ nw ns nl nc A H) (HS : va_S (fun q => n0 ≤ q) s.heap H locs) (i : Nat) (hi : i < 7) (k : Nat) (hk : k < wN i) {x v : Int32} (hx9 : x = nI k) (hdg : decode cc pc = .ok (.iastore, 1))
    (kk : ∀ (H1 : Heap) (locs1 : List Loc), wB D ids n0 aa τ nw ns nl nc (ti A i k v) H1 → va_S (fun q => n0 ≤ q) s.heap H1 locs1 → W p l e R s m args below meth c H1 locs1 cells slots Q (F0 m (pc + 1) ls rest)) : W p l e R s m args below meth c H locs cells slots Q (F0 m pc ls (.int v :: .int x :: .ref (aa (11 + i)) :: rest)) := by
  obtain ⟨hI, RR, ad, cn, ⟨HP, hRR, sa, bm, fm, lf, ff, cf, hx⟩, hW, had⟩ := hB
  have hN := wN_le i
  rw [← had (11 + i) (by omega), hx9]
  refine ro_iast MC HP HS (hRR.l (by omega)) (hW i hi) (vp_in_nI hk (by omega)) hdg fun H1 locs1 h1 h2 => ?_
  rw [nI_clamp (by omega)] at h1
  refine kk H1 locs1 ⟨hI, RR, ad, _, ⟨h1, hRR, sa, bm, fm, lf, ff, cf, hx.cg fun r hr => va_up_ne _ _ (by omega)⟩, fun j hj => ?_, had⟩ h2
  by_cases hji : j = i
  · subst hji
    rw [va_up_self, show ti A j k v j = upd (A j) k v from va_up_self ..]
  · rw [va_up_ne _ _ (by omega), show ti A i k v j = A j from va_up_ne _ _ hji]
    exact hW j hj
theorem aft.wB {RR : List Nat} {ad : Nat → Nat} {cn : Nat → va_E} {τ2 : Tau} {H1 : Heap} (ha : aft D ids n0 ad cn τ2 H1) (hW : isW ids cn A) (had : ∀ r, r < 18 → ad r = aa r) : ∃ nw1 ns1 nl1 nc1, wB D ids n0 aa τ2 nw1 ns1 nl1 nc1 A H1 := by
  obtain ⟨RR1, ad1, cn1, nw1, ns1, nl1, nc1, h1, h2, h3, h4⟩ := ha
  exact ⟨nw1, ns1, nl1, nc1, h2, RR1, ad1, cn1, h1, fun i hi => (h4 (11 + i) (by omega) (by omega)).trans (hW i hi), fun r hr => (h3 r hr).trans (had r hr)⟩
/-- a call of a public method that doesn't throw there -/
theorem wb_call (MC : ro_C p s m args meth c cc nL own D ids n0) (HS : va_S (fun q => n0 ≤ q) s.heap H locs) (hB : wB D ids n0 aa τ nw ns nl nc A H) {y : MethodName} {cy : ByteArray} {maxL index : Nat} {ret : Option FieldType} {rm : Room} {As : List Value} {th rt : Int32} {τ2 : Tau} {px : String → Heap → Prop}
    (hM : ∀ (RR : List Nat) (ad : Nat → Nat) (cn : Nat → va_E), xH D ids n0 RR ad cn τ ns nl nc H → ro_T l y cy maxL ret rm D ids n0 (.ref (ad 0) :: As) H (fun v H1 => th = 0 ∧ v = some (.int rt) ∧ aft D ids n0 ad cn τ2 H1) px) (hpx : ∀ E9 H1, px E9 H1 → False) (hyc : y.cls = "FrostCalendar")
    (hL : ro_L own index y cy maxL ret As.length) (hin : Cond.instanceMethod y ∈ uU) (hse : Cond.selects y.cls y y ∈ uU) (hR : rm.frames + 1 ≤ R.frames ∧ 8 + (maxL + 11) + rm.locals ≤ R.locals)
    (hsize : ls.size = nL) (hst : st0 = As.reverse ++ .ref (aa 0) :: rest) (hcat : (rest.map fun v => v.category).sum ≤ 8) (hdg : decode cc pc = .ok (.invokevirtual index, 3)) (hf : cells + rm.cells ≤ R.cells ∧ slots + rm.slots ≤ R.slots)
    (kk : ∀ (nw1 ns1 nl1 nc1 : Nat) (H1 : Heap) (locs1 : List Loc), wB D ids n0 aa τ2 nw1 ns1 nl1 nc1 A H1 → va_S (fun q => n0 ≤ q) s.heap H1 locs1 → W p l e R s m args below meth c H1 locs1 (cells + rm.cells) (slots + rm.slots) Q (F0 m (pc + 3) ls (.int rt :: rest))) : W p l e R s m args below meth c H locs cells slots Q (F0 m pc ls st0) := by
  obtain ⟨hI, RR, ad, cn, hX, hW, had⟩ := hB
  have h0 : ad 0 = aa 0 := had 0 (by omega)
  obtain ⟨sa, bm, fm, lf, ff, cf, hx0, -⟩ := hX.2.2
  have hrec := ro_recv MC hX.1 (hX.2.1.l (by decide)) hx0 (rfl : vwCl[5]? = some (RX6, TX6, 11))
  refine ro_callVT MC HS (rest := rest) (As := As) (hM RR ad cn hX) hL hin hse hR (by rw [hyc]; exact hrec) hsize (by rw [hst, h0]) hcat hdg hf (fun E9 ce q9 H1 l1 h1 _ _ _ _ _ => (hpx E9 H1 h1).elim) (fun v9 H1 l1 hp hz HS1 => ?_)
  obtain ⟨-, rfl, ha⟩ := hp
  obtain ⟨nw1, ns1, nl1, nc1, hB1⟩ := ha.wB (RR := RR) hW had
  exact kk nw1 ns1 nl1 nc1 H1 l1 hB1 HS1
end WB
/-! a method that reads the script -/
def ro_MX (l : Launch) (y : MethodName) (cy : ByteArray) (maxL : Nat) (ret : Option FieldType) (rm : Room) (D : va_G) (ids : Nat → ClassId) (n0 b L : Nat) (xs : Nat → Int32) (as : List Value) (Hh : Heap) (post : Option Value → Heap → Prop) : Prop :=
  Met l y (.code y cy maxL ret :: uU) rm (va_Pc as (fun U => (En D ids n0 U ∧ U.heap = Hh) ∧ va_X b L xs U Hh)) (ro_Q n0 post) rm.cells rm.slots (fun q => n0 ≤ q)
theorem ro_ofMX {l : Launch} {D : va_G} {ids : Nat → ClassId} {n0 b L : Nat} {xs : Nat → Int32} {y : MethodName} {cy : ByteArray} {maxL : Nat} {ret : Option FieldType} {rm : Room} {as : List Value} {Hh : Heap} {post : Option Value → Heap → Prop} (hy : plainName y.cls = true) (hlen : (lg_sl as).length ≤ maxL)
    (body : ∀ (p : Program) (e : Env) (s : State) (m : MethodId) (below : List Frame) (meth : Method) (c : Code), ro_C p s m as.toArray meth c cy maxL y.cls D ids n0 → s.heap = Hh → va_X b L xs s Hh → meth.sig.returnType = ret → meth.name = y.name → va_S (fun q => n0 ≤ q) s.heap Hh [] → ∀ ls, lv_has ls maxL (lv_args 0 as) → W p l e rm s m as.toArray below meth c Hh [] 0 0 (MQ below (ro_Q n0 post) as.toArray s rm.cells rm.slots (fun q => n0 ≤ q)) (F0 m 0 ls [])) : ro_MX l y cy maxL ret rm D ids n0 b L xs as Hh post := by
  refine Met.ofW (cc := cy) (maxL := maxL) (ret := ret) hy rfl ?_
  intro p e s m args below meth c s₁ B hml hv
  obtain ⟨rfl, ⟨hE, rfl⟩, hX⟩ := hv
  have hts := atoms_spec (ws := .code y cy maxL ret :: uU) B.pre
  have hown := findClass_of_methodNamed B.named
  have K := body p e s m below meth c ⟨⟨B.exec, B.bytes, hml, hown, fun w h => hts w (List.mem_cons_of_mem _ h)⟩, hE, B.notSynchronized⟩ rfl hX B.returns (name_of_methodNamed B.named B.method).1 va_S.rf _ (lv_entry as hlen)
  rw [lg_entry_eq]
  exact K
theorem EnX.blind {D : va_G} {ids : Nat → ClassId} {n0 b L : Nat} {xs : Nat → Int32} {as : List Value} {Hh : Heap} : FrameBlind (va_Pc as (fun U => (En D ids n0 U ∧ U.heap = Hh) ∧ va_X b L xs U Hh)) := by
  intro a U g mk h
  obtain ⟨h1, ⟨h2, h3⟩, h4⟩ := h
  exact ⟨h1, ⟨En.moved (s := U) (U := U.calling g mk a) (State.WarmedH.refl U) h2.2.2.2.1 (fun _ _ => rfl) h2, h3⟩, va_X.moved (u := U) (U := U.calling g mk a) (State.WarmedH.refl U).alike h4⟩
theorem ro_callSX {p : Program} {l : Launch} {e : Env} {R : Room} {s : State} {m : MethodId} {args : Array Value} {below : List Frame} {meth : Method} {c : Code} {H : Heap} {locs : List Loc} {cells slots : Nat} {Q : State → Prop} {cc : ByteArray} {nL maxL index : Nat} {own : String} {D : va_G} {ids : Nat → ClassId} {n0 : Nat} {pc : Nat} {ls : Array Slot} {As rest st0 : List Value} {y : MethodName} {cy : ByteArray} {ret : Option FieldType} {rm : Room} {post : Option Value → Heap → Prop} {b L : Nat} {xs : Nat → Int32}
    (MC : ro_C p s m args meth c cc nL own D ids n0) (HS : va_S (fun q => n0 ≤ q) s.heap H locs) (hscr : va_X b L xs s s.heap) (hb0 : b < n0) (hM : ro_MX l y cy maxL ret rm D ids n0 b L xs As H post) (hL : ro_L own index y cy maxL ret As.length) (hin : Cond.static y ∈ uU) (hR : rm.frames + 1 ≤ R.frames ∧ 8 + (maxL + 11) + rm.locals ≤ R.locals)
    (hsize : ls.size = nL) (hst : st0 = As.reverse ++ rest) (hcat : (rest.map fun v => v.category).sum ≤ 8) (hdg : decode cc pc = .ok (.invokestatic index, 3)) (hf : cells + rm.cells ≤ R.cells ∧ slots + rm.slots ≤ R.slots)
    (kk : ∀ (v : Option Value) (H1 : Heap) (locs1 : List Loc), post v H1 → H.size ≤ H1.size → va_S (fun q => n0 ≤ q) s.heap H1 locs1 → W p l e R s m args below meth c H1 locs1 (cells + rm.cells) (slots + rm.slots) Q (F0 m (pc + 3) ls (v.toList ++ rest))) : W p l e R s m args below meth c H locs cells slots Q (F0 m pc ls st0) :=
  ro_back HS (va_runS MC.1 hM ⟨ro_callB MC hL hR, MC.1.2.2.2.2 _ hin⟩ ⟨EnX.blind, fun U hU hW => by
    obtain ⟨q1, q2, q3⟩ := ro_callee (as := As) MC.2.1 HS U hU hW
    exact ⟨q1, ⟨q2, q3⟩, va_X.moved hW.alike (hscr.kept (HS.2.1 b (Nat.lt_of_lt_of_le hb0 MC.2.1.2.2.2.1) (Nat.not_le.mpr hb0)))⟩⟩ rfl rfl hsize hst (by rw [show (F0 m pc ls st0).monitorRoom = 0 from rfl]; omega) hdg hf) kk
