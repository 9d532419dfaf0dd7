section LW
variable {p : Program} {l : Launch} {e : Env} {R : Room} {s : State} {m : MethodId} {args : Array Value} {below : List Frame} {meth : Method} {c : Code} {H : Heap} {locs : List Loc} {cells slots mc ms : Nat} {Q : State → Prop}
variable {cc : ByteArray} {nL maxL index : Nat} {own : String} {D : va_G} {ids : Nat → ClassId} {n0 : Nat} {pc : Nat} {ls : Array Slot} {As rest st0 : List Value} {y : MethodName} {cy : ByteArray} {ret : Option FieldType} {hh : List (Nat × Nat × Nat × Nat)} {rm : Room} {post : Option Value → Heap → Prop}
/-- the words that a call of y, a static method with handlers, wants -/
def ro_LW (own : String) (index : Nat) (y : MethodName) (cy : ByteArray) (maxL : Nat) (ret : Option FieldType) (hh : List (Nat × Nat × Nat × Nat)) (n : Nat) : Prop :=
  Cond.codeWith y cy maxL ret hh ∈ uU ∧ Cond.methodLink own index y ∈ uU ∧ Cond.initialized y.cls ∈ uU ∧ Cond.static y ∈ uU ∧ y.cls ≠ "java/lang/invoke/MethodHandle" ∧ y.cls ≠ "java/lang/invoke/VarHandle" ∧ (parseMethodDescriptor y.desc).map (fun d => d.parameters.length) = some n
theorem ro_callW (MC : ro_C p s m args meth c cc nL own D ids n0) (HS : va_S (fun q => n0 ≤ q) s.heap H locs) (hM : ro_MW l y cy maxL ret hh rm D ids n0 As H post) (hL : ro_LW own index y cy maxL ret hh As.length) (hR : rm.frames + 1 ≤ R.frames ∧ 8 + (maxL + 11) + rm.locals ≤ R.locals)
    (hsize : ls.size = nL) (hst : st0 = As.reverse ++ rest) (hcat : (rest.map fun v => v.category).sum ≤ 8) (hdg : decode cc pc = .ok (.invokestatic index, 3)) (hf : cells + rm.cells ≤ R.cells ∧ slots + rm.slots ≤ R.slots)
    (kk : ∀ (v : Option Value) (H1 : Heap) (locs1 : List Loc), post v H1 → H.size ≤ H1.size → va_S (fun q => n0 ≤ q) s.heap H1 locs1 → W p l e R s m args below meth c H1 locs1 (cells + rm.cells) (slots + rm.slots) Q (F0 m (pc + 3) ls (v.toList ++ rest))) : W p l e R s m args below meth c H locs cells slots Q (F0 m pc ls st0) :=
  ro_back HS (vx_runSW MC.1 hM (by
    obtain ⟨⟨hx, hb, hml, hown, hts⟩, hE, -⟩ := MC
    have hG := uU_cons hL.1
    refine vx_cwSW As.length hts (fun w hw => ?_) rfl rfl rfl hL.2.2.2.2 hR
    unfold va_wsS at hw
    rcases List.mem_append.mp hw with h | h
    · have h9 : w ∈ uU := by
        simp only [List.mem_cons, List.not_mem_nil, or_false] at h
        rcases h with rfl | rfl | rfl <;> first | exact hL.2.1 | exact hL.2.2.1 | exact hL.2.2.2.1
      exact ⟨h9, uU_gd h9⟩
    · exact hG w h) ⟨En.blind, ro_callee MC.2.1 HS⟩ rfl rfl hsize hst (by rw [show (F0 m pc ls st0).monitorRoom = 0 from rfl]; omega) hdg hf) kk
/-- an int of the script -/
theorem ro_sld (MC : ro_C p s m args meth c cc nL own D ids n0) (HS : va_S (fun q => n0 ≤ q) s.heap H locs) {b L : Nat} {xs : Nat → Int32} (hX : va_X b L xs s s.heap) (hb0 : b < n0) {i : Int32} (k : Nat) (hi : i = nI k) (hk : k < L) (hL : L ≤ 3072) (hdg : decode cc pc = .ok (.iaload, 1))
    (kk : W p l e R s m args below meth c H locs cells slots Q (F0 m (pc + 1) ls (.int (xs k) :: rest))) : W p l e R s m args below meth c H locs cells slots Q (F0 m pc ls (.int i :: .ref b :: rest)) := by
  subst hi
  obtain ⟨⟨hx, hb, hml, hown, hts⟩, hE, -⟩ := MC
  refine va_sld hx hb hX (Nat.lt_of_lt_of_le hb0 hE.2.2.2.1) (Nat.not_le.mpr hb0) HS (vp_in_nI hk (by omega)) hdg ?_
  rw [nI_clamp (by omega)]
  exact kk
end LW
/-- both sides, between two calls -/
def bw (D : va_G) (ids : Nat → ClassId) (n0 a0 a11 a30 : Nat) (H : Heap) : Prop := ∃ (RR : List Nat) (ad : Nat → Nat) (cn : Nat → va_E) (τ : Tau) (th : Int32) (nw ns nl nc : Nat) (out : Nat → Int64), xH D ids n0 RR ad cn τ ns nl nc H ∧ Iv τ nw ns nl nc ∧ isM ids ad cn τ th ∧ cn 30 = .inl (ids 2, 1, .inr (.inl out)) ∧ ad 0 = a0 ∧ ad 11 = a11 ∧ ad 30 = a30
theorem moF_ad {τ : Tau} {th : Int32} {ad ad1 : Nat → Nat} (h : ∀ r, r < 31 → ad1 r = ad r) : moF τ th ad1 = moF τ th ad := by
  simp only [moF, h 12 (by omega), h 13 (by omega), h 14 (by omega), h 15 (by omega), h 16 (by omega), h 17 (by omega), h 18 (by omega), h 19 (by omega), h 20 (by omega), h 21 (by omega), h 22 (by omega), h 23 (by omega), h 24 (by omega), h 25 (by omega), h 26 (by omega), h 27 (by omega), h 28 (by omega), h 29 (by omega)]
theorem isM.tr {ids : Nat → ClassId} {ad ad1 : Nat → Nat} {cn cn1 : Nat → va_E} {τ : Tau} {th : Int32} (h : isM ids ad cn τ th) (had : ∀ r, r < 31 → ad1 r = ad r) (hcn : ∀ r, 11 ≤ r → r < 40 → r ≠ 30 → cn1 r = cn r) : isM ids ad1 cn1 τ th :=
  ⟨by rw [hcn 11 (by omega) (by omega) (by omega), moF_ad had]; exact h.1, fun i h1 h2 => (hcn (11 + i) (by omega) (by omega) (by omega)).trans (h.2 i h1 h2)⟩
theorem xH.sM {D : va_G} {ids : Nat → ClassId} {n0 : Nat} {RR : List Nat} {ad : Nat → Nat} {cn : Nat → va_E} {τ τ2 : Tau} {ns nl nc : Nat} {H : Heap} {th : Int32} (h : xH D ids n0 RR ad cn τ2 ns nl nc H) (hM : isM ids ad cn τ th) : sM D ids n0 RR ad τ th cn H := ⟨cn, h.1, hM, fun _ _ => rfl, fun r hr => h.2.1.l hr⟩
/-- after the reference's call -/
theorem bw.of {D : va_G} {ids : Nat → ClassId} {n0 a0 a11 a30 : Nat} {RR : List Nat} {ad : Nat → Nat} {cn : Nat → va_E} {τ2 : Tau} {nw ns nl nc : Nat} {H H2 : Heap} {th : Int32} {out : Nat → Int64} (hX : xH D ids n0 RR ad cn τ2 ns nl nc H) (hI : Iv τ2 nw ns nl nc) (h30 : cn 30 = .inl (ids 2, 1, .inr (.inl out))) (hs : sM D ids n0 RR ad τ2 th cn H2) (h0 : ad 0 = a0) (h11 : ad 11 = a11) (h3 : ad 30 = a30) : bw D ids n0 a0 a11 a30 H2 := by
  obtain ⟨cn2, hP, hM, hfr, hR⟩ := hs
  obtain ⟨-, hRR, sa, bm, fm, lf, ff, cf, hx⟩ := hX
  exact ⟨RR, ad, cn2, τ2, th, nw, ns, nl, nc, out, ⟨hP, hRR, sa, bm, fm, lf, ff, cf, hx.cg (fun r hr => hfr r (by omega))⟩, hI, hM, (hfr 30 (by omega)).trans h30, h0, h11, h3⟩
theorem wf_un {D : va_G} {ids : Nat → ClassId} {n0 : Nat} {RR : List Nat} {ad : Nat → Nat} {cn : Nat → va_E} {τ nx : Tau} {nw ns nl nc : Nat} {H H1 : Heap} {th0 th rt : Int32} {out : Nat → Int64} (hX : xH D ids n0 RR ad cn τ ns nl nc H) (hI : Iv τ nw ns nl nc) (hM : isM ids ad cn τ th0) (h30 : cn 30 = .inl (ids 2, 1, .inr (.inl out))) (h0 : th = 0 → wft D ids n0 ad cn nx (.inl (ids 2, 1, .inr (.inl (vp_updL out 0 rt.toInt64)))) H1) (h1 : ¬ th = 0 → grow H H1) :
    ∃ (RR1 : List Nat) (ad1 : Nat → Nat) (cn1 : Nat → va_E) (nw1 ns1 nl1 nc1 : Nat) (out1 : Nat → Int64), xH D ids n0 RR1 ad1 cn1 (if th = 0 then nx else τ) ns1 nl1 nc1 H1 ∧ Iv (if th = 0 then nx else τ) nw1 ns1 nl1 nc1 ∧ (∀ r, r < 31 → ad1 r = ad r) ∧ sM D ids n0 RR1 ad1 τ th0 cn1 H1 ∧ cn1 30 = .inl (ids 2, 1, .inr (.inl out1)) ∧ (th = 0 → out1 0 = rt.toInt64) := by
  by_cases h : th = 0
  · obtain ⟨RR1, ad1, cn1, nw1, ns1, nl1, nc1, a1, a2, a3, a4, a5⟩ := h0 h
    refine ⟨RR1, ad1, cn1, nw1, ns1, nl1, nc1, _, by rw [if_pos h]; exact a1, by rw [if_pos h]; exact a2, a3, a1.sM (hM.tr a3 a4), a5, fun _ => rfl⟩
  · refine ⟨RR, ad, cn, nw, ns, nl, nc, out, by rw [if_neg h]; exact hX.keep (h1 h), by rw [if_neg h]; exact hI, fun _ _ => rfl, (hX.keep (h1 h)).sM hM, h30, fun h9 => absurd h9 h⟩
section LE
variable {p : Program} {l : Launch} {e : Env} {R : Room} {s : State} {m : MethodId} {args : Array Value} {below : List Frame} {meth : Method} {c : Code} {H : Heap} {locs : List Loc} {cells slots : Nat} {Q : State → Prop}
variable {cc : ByteArray} {nL : Nat} {own : String} {D : va_G} {ids : Nat → ClassId} {n0 : Nat} {RR : List Nat} {ad : Nat → Nat} {cn : Nat → va_E} {pc : Nat} {ls : Array Slot} {rest : List Value}
theorem ro_laldE {a9 : Nat} (MC : ro_C p s m args meth c cc nL own D ids n0) (HP : ro_P D n0 RR ad cn H) {r : Nat} (ha9 : ad r = a9) (hr : r ∈ RR) {n : Nat} {f : Nat → Int64} (hf : cn r = .inl (ids 2, n, .inr (.inl f))) {i : Int32} (hin : vp_in i n) (hdg : decode cc pc = .ok (.laload, 1))
    (kk : W p l e R s m args below meth c H locs cells slots Q (F0 m (pc + 1) ls (.long (f i.toNatClampNeg) :: rest))) : W p l e R s m args below meth c H locs cells slots Q (F0 m pc ls (.int i :: .ref a9 :: rest)) := by
  subst ha9
  exact ro_lald MC HP hr hf hin hdg kk
end LE
