section HW
variable {p : Program} {l : Launch} {e : Env} {R : Room} {s : State} {m : MethodId} {args : Array Value} {below : List Frame} {meth : Method} {c : Code} {H : Heap} {locs : List Loc} {cells slots : Nat} {Q : State → Prop}
variable {cc : ByteArray} {nL : Nat} {own : String} {D : va_G} {ids : Nat → ClassId} {n0 : Nat} {RR : List Nat} {ad : Nat → Nat} {cn : Nat → va_E} {pc : Nat} {ls : Array Slot} {rest : List Value}
abbrev hT4 (c : Code) : List (Nat × Nat × Nat × Nat) := c.exceptionTable.toList.map (fun h => (h.startPc, h.endPc, h.handlerPc, h.catchType))
/-- caught by the i-th row of the method's table -/
theorem ro_catch (MC : ro_C p s m args meth c cc nL own D ids n0) {hh : List (Nat × Nat × Nat × Nat)} (hT : hT4 c = hh) (i : Nat) {sp ep hp ct : Nat} (hi : hh[i]? = some (sp, ep, hp, ct)) (hcov : sp ≤ pc ∧ pc < ep) (hct : ct ≠ 0) {E name : String} (hlink : Cond.classLink own ct name ∈ uU) (hcast : (E, name) ∈ uNc)
    (hpass : ∀ j, j < i → ∀ q, hh[j]? = some q → q.2.2.2 ≠ 0 ∧ ∃ nm, Cond.classLink own q.2.2.2 nm ∈ uU ∧ (E, nm) ∈ uNx) {ce : Cell} {q9 : Addr} (hcell : H[q9]? = some ce) (hv : ce.vm = .none) (hcl : s.vm.findClass E = some ce.cls)
    (kk : W p l e R s m args below meth c H locs cells slots Q (F0 m hp ls [.ref q9])) : vx_W p l e R s m args below meth c H locs cells slots Q (F0 m pc ls rest) q9 := by
  obtain ⟨⟨hx, hb, hml, hown, hts⟩, hE, hlk⟩ := MC
  subst hT
  rw [List.getElem?_map] at hi
  cases hx9 : c.exceptionTable.toList[i]? with
  | none => rw [hx9] at hi; cases hi
  | some x =>
    rw [hx9] at hi
    simp only [Option.map_some, Option.some.injEq, Prod.mk.injEq] at hi
    obtain ⟨h1, h2, h3, h4⟩ := hi
    obtain ⟨hlt, hgx⟩ := List.getElem?_eq_some_iff.mp hx9
    have hsplit : c.exceptionTable.toList = c.exceptionTable.toList.take i ++ x :: c.exceptionTable.toList.drop (i + 1) := by
      rw [← hgx, ← List.drop_eq_getElem_cons hlt, List.take_append_drop]
    refine vx_catch hown _ x _ hsplit ?_ ?_ (by rw [h4]; exact hct) (by rw [h4]; exact hts _ hlink) (va_Nw.use rfl (hE.2.2.2.2.2.2.1 _ hcast)) hcell hv hcl (by rw [h3]; exact kk)
    · intro z hz
      obtain ⟨j, hj⟩ := List.getElem?_of_mem hz
      rw [List.getElem?_take] at hj
      by_cases hji : j < i
      · rw [if_pos hji] at hj
        obtain ⟨g1, nm, g2, g3⟩ := hpass j hji (z.startPc, z.endPc, z.handlerPc, z.catchType) (by rw [List.getElem?_map, hj]; rfl)
        exact Or.inr ⟨g1, nm, hts _ g2, hE.2.2.2.2.2.2.2.2.1 _ g3⟩
      · rw [if_neg hji] at hj; cases hj
    · simp only [covers, h1, h2]
      simp [hcov.1, hcov.2]
end HW
theorem ro_ofW {l : Launch} {D : va_G} {ids : Nat → ClassId} {n0 : Nat} {y : MethodName} {cy : ByteArray} {maxL : Nat} {ret : Option FieldType} {hh : List (Nat × Nat × Nat × Nat)} {rm : Room} {as : List Value} {Hh : Heap} {post : Option Value → Heap → Prop} (hy : plainName y.cls = true) (hlen : (lg_sl as).length ≤ maxL)
    (body : ∀ (p : Program) (e : Env) (s : State) (m : MethodId) (below : List Frame) (meth : Method) (c : Code), ro_C p s m as.toArray meth c cy maxL y.cls D ids n0 → s.heap = Hh → meth.sig.returnType = ret → hT4 c = hh → va_S (fun q => n0 ≤ q) s.heap Hh [] → ∀ ls, lv_has ls maxL (lv_args 0 as) → W p l e rm s m as.toArray below meth c Hh [] 0 0 (MQ below (ro_Q n0 post) as.toArray s rm.cells rm.slots (fun q => n0 ≤ q)) (F0 m 0 ls [])) : ro_MW l y cy maxL ret hh rm D ids n0 as Hh post := by
  unfold ro_MW Met
  refine MetFree.of_bodyS (code := cy) (maxLocals := maxL) (ret := ret) hy ?_ ?_
  · intro args s m h hn
    obtain ⟨m9, meth, c, hn9, h1, h2, h3, h4, -, h5, h6, -⟩ := Cond.codeWith_spec (atoms_spec (ws := .codeWith y cy maxL ret hh :: uU) h _ List.mem_cons_self)
    cases hn.symm.trans hn9
    exact ⟨meth, c, h1, h2, h3, h4, h5, h6⟩
  · intro p e s m args below meth c s₁ B hml hv _
    have hh0 : s₁.heap = s.heap := by rw [B.state]; rfl
    obtain ⟨rfl, hE, rfl⟩ := hv
    have hts := atoms_spec (ws := .codeWith y cy maxL ret hh :: uU) B.pre
    have hown := findClass_of_methodNamed B.named
    obtain ⟨m9, meth9, c9, hn9, h1, h2, h3, h4, h7, h5, h6, -⟩ := Cond.codeWith_spec (hts _ List.mem_cons_self)
    cases B.named.symm.trans hn9
    have X := Stand.of_body B
    cases B.method.symm.trans h1
    have hc9 : meth.code = some c := X.code
    cases hc9.symm.trans h2
    have K := body p e s m below meth c ⟨⟨B.exec, B.bytes, hml, hown, fun w h => hts w (List.mem_cons_of_mem _ h)⟩, hE, B.notSynchronized⟩ rfl B.returns h7 va_S.rf _ (lv_entry as hlen)
    rw [← lg_entry_eq] at K
    obtain ⟨t, a1, o, b1, b2, b3⟩ := K s₁ hh0 X
    exact ⟨t, o, a1, b1, b2, ⟨b3.1, b3.2⟩⟩
theorem isX.cg {ids : Nat → ClassId} {ad : Nat → Nat} {cn cn2 : Nat → va_E} {τ : Tau} {ns nl nc : Nat} {sa bm fm : Nat → Int32} {lf ff cf : Nat → Option Nat} (h : isX ids ad cn τ ns nl nc sa bm fm lf ff cf) (hc : ∀ r, r ≤ 10 ∨ 40 ≤ r → cn2 r = cn r) : isX ids ad cn2 τ ns nl nc sa bm fm lf ff cf := by
  obtain ⟨h0, h1, h1b, h2, h2b, h7, h7b, h3, h3b, h40, h4, h4b, h60, h5, h6⟩ := h
  exact ⟨(hc 0 (by omega)).trans h0, (hc 1 (by omega)).trans h1, h1b, (hc 2 (by omega)).trans h2, h2b, fun j hj => (hc (7 + j) (by omega)).trans (h7 j hj), h7b, (hc 3 (by omega)).trans h3, h3b, fun k hk => (hc (40 + k) (by omega)).trans (h40 k hk), (hc 4 (by omega)).trans h4, h4b, fun k hk => (hc (60 + k) (by omega)).trans (h60 k hk), (hc 5 (by omega)).trans h5, (hc 6 (by omega)).trans h6⟩
