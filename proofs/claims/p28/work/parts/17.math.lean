/-- as ro_ofM, for a method of a class in which the machine runs some (other) methods itself -/
theorem ro_ofMF {l : Launch} {D : va_G} {ids : Nat → ClassId} {n0 : Nat} {y : MethodName} {cy : ByteArray} {maxL : Nat} {ret : Option FieldType} {rm : Room} {as : List Value} {Hh : Heap} {post : Option Value → Heap → Prop} (hy : plainFor y = true) (hlen : (lg_sl as).length ≤ maxL)
    (body : ∀ (p : Program) (e : Env) (s : State) (m : MethodId) (below : List Frame) (meth : Method) (c : Code), ro_C p s m as.toArray meth c cy maxL y.cls D ids n0 → s.heap = Hh → meth.sig.returnType = ret → meth.name = y.name → va_S (fun q => n0 ≤ q) s.heap Hh [] → ∀ ls, lv_has ls maxL (lv_args 0 as) → W p l e rm s m as.toArray below meth c Hh [] 0 0 (MQ below (ro_Q n0 post) as.toArray s rm.cells rm.slots (fun q => n0 ≤ q)) (F0 m 0 ls [])) : ro_M l y cy maxL ret rm D ids n0 as Hh post := by
  unfold ro_M Met
  refine MetFree.of_bodySF (code := cy) (maxLocals := maxL) (ret := ret) hy ?_ ?_
  · intro args s m h hn
    obtain ⟨meth, c, h1, h2, h3, h4, h5, h6, -, -⟩ := Cond.code_spec hn (atoms_spec (ws := .code y cy maxL ret :: uU) h _ List.mem_cons_self)
    exact ⟨meth, c, h1, h2, h3, h4, h5, h6⟩
  · intro p e s m args below meth c s₁ B hml hv _
    have hh0 : s₁.heap = s.heap := by rw [B.state]; rfl
    obtain ⟨rfl, hE, rfl⟩ := hv
    have hts := atoms_spec (ws := .code y cy maxL ret :: uU) B.pre
    have hown := findClass_of_methodNamed B.named
    have K := body p e s m below meth c ⟨⟨B.exec, B.bytes, hml, hown, fun w h => hts w (List.mem_cons_of_mem _ h)⟩, hE, B.notSynchronized⟩ rfl B.returns (name_of_methodNamed B.named B.method).1 va_S.rf _ (lv_entry as hlen)
    rw [← lg_entry_eq] at K
    obtain ⟨t, a1, o, b1, b2, b3⟩ := K s₁ hh0 (Stand.of_body B)
    exact ⟨t, o, a1, b1, b2, ⟨b3.1, b3.2⟩⟩
