section OB
variable {p : Program} {l : Launch} {e : Env} {R : Room} {s : State} {m : MethodId} {args : Array Value} {below : List Frame} {meth : Method} {c : Code} {H : Heap} {locs : List Loc} {cells slots : Nat} {Q : State → Prop}
variable {cc : ByteArray} {nL : Nat} {own : String} {D : va_G} {ids : Nat → ClassId} {n0 : Nat} {pc : Nat} {ls : Array Slot} {rest : List Value}
/-- over Object's constructor -/
theorem ro_obj (MC : ro_C p s m args meth c cc nL own D ids n0) {idx a : Nat} (hlink : Cond.methodLink own idx Lib.objectInit ∈ uU) (hinst : Cond.instanceMethod Lib.objectInit ∈ uU) (hcode : Cond.code Lib.objectInit ⟨#[0xb1]⟩ 1 none ∈ uU) (hsize : ls.size = nL) (hdg : decode cc pc = .ok (.invokespecial idx, 3)) (hR : 1 ≤ R.frames ∧ (rest.map fun v => v.category).sum + 12 ≤ R.locals)
    (kk : W p l e R s m args below meth c H locs cells slots Q (F0 m (pc + 3) ls rest)) : W p l e R s m args below meth c H locs cells slots Q (F0 m pc ls (.ref a :: rest)) := by
  obtain ⟨⟨hx, hb, hml, hown, hts⟩, hE, -⟩ := MC
  intro T hT X
  obtain ⟨vm', X', st⟩ := X.initObject hx hown (hts _ hlink) (hts _ hinst) (hts _ hcode) (g := F0 m pc ls (.ref a :: rest)) rfl (hsize.trans hml.symm) rfl (by rw [hb]; exact hdg) hR.1 (by rw [show (F0 m pc ls (.ref a :: rest)).monitorRoom = 0 from rfl]; have := hR.2; omega)
  obtain ⟨t2, a1, b1⟩ := kk (T.setVm vm') hT X'
  exact ⟨t2, st t2 a1, b1⟩
end OB
theorem xoF_ad {τ : Tau} {ad ad1 : Nat → Nat} (h : ∀ r, r < 18 → ad1 r = ad r) : xoF τ ad1 = xoF τ ad := by
  simp only [xoF, h 1 (by omega), h 2 (by omega), h 3 (by omega), h 4 (by omega), h 5 (by omega), h 6 (by omega)]
theorem isR.addF {RR : List Nat} {nl nc : Nat} (h : isR RR nl nc) (hnl : nl < 20) : isR (RR ++ [40 + nl]) (nl + 1) nc := by
  intro r
  rw [List.mem_append, h r, List.mem_singleton]
  omega
theorem isR.addC {RR : List Nat} {nl nc : Nat} (h : isR RR nl nc) : isR (RR ++ [60 + nc]) nl (nc + 1) := by
  intro r
  rw [List.mem_append, h r, List.mem_singleton]
  omega
theorem isR.nf {RR : List Nat} {nl nc : Nat} (h : isR RR nl nc) (hnl : nl < 20) : 40 + nl ∉ RR := fun h9 => by have := (h _).mp h9; omega
theorem isR.nc {RR : List Nat} {nl nc : Nat} (h : isR RR nl nc) (hnl : nl ≤ 20) : 60 + nc ∉ RR := fun h9 => by have := (h _).mp h9; omega
theorem lay_k3b {τ : Tau} {ad : Nat → Nat} {nl q : Nat} {ff : Nat → Option Nat} (h3b : ∀ k, k < 20 → ff k = if k < nl ∧ τ 4 k = 0 then some (ad (40 + k)) else none) (hz : τ 4 nl = 0) : ∀ k, k < 20 → va_up ff nl (some (va_up ad (40 + nl) q (40 + nl))) k = if k < nl + 1 ∧ τ 4 k = 0 then some (va_up ad (40 + nl) q (40 + k)) else none := by
  intro k hk
  by_cases h : k = nl
  · subst h
    rw [va_up_self, if_pos ⟨by omega, hz⟩]
  · rw [va_up_ne _ _ h, va_up_ne _ _ (by omega), h3b k hk]
    by_cases h9 : k < nl
    · simp [h9, show k < nl + 1 by omega]
    · simp [h9, show ¬ k < nl + 1 by omega]
theorem lay_old {τ : Tau} {nw ns nl nc : Nat} (hI : Iv τ nw ns nl nc) {ad : Nat → Nat} {q : Nat} {how s d a b r : Int32} {k : Nat} (hk : k < nl) : frE (nx_lays τ how s d a b r) (va_up ad (40 + nl) q) k = frE τ ad k := by
  have hnl := hI.2.2.1.2
  have hcn : cx (τ 0 2) = nl := by rw [hI.2.2.1.1]; exact cx_nI (by omega)
  obtain ⟨-, -, ⟨d9, hd, h9⟩, -⟩ := hI.2.2.2.2.2.2.2.2.2.1 k hk
  have h8 : cx (τ 7 k) = d9 := by rw [h9]; exact cx_nI (by omega)
  have e5 : nx_lays τ how s d a b r 5 k = τ 5 k := by show upd (τ 5) (cx (τ 0 2)) how k = _; rw [hcn]; exact upd_ne _ _ (by omega)
  have e6 : nx_lays τ how s d a b r 6 k = τ 6 k := by show upd (τ 6) (cx (τ 0 2)) s k = _; rw [hcn]; exact upd_ne _ _ (by omega)
  have e7 : nx_lays τ how s d a b r 7 k = τ 7 k := by show upd (τ 7) (cx (τ 0 2)) d k = _; rw [hcn]; exact upd_ne _ _ (by omega)
  have e8 : nx_lays τ how s d a b r 8 k = τ 8 k := by show upd (τ 8) (cx (τ 0 2)) a k = _; rw [hcn]; exact upd_ne _ _ (by omega)
  have e9 : nx_lays τ how s d a b r 9 k = τ 9 k := by show upd (τ 9) (cx (τ 0 2)) b k = _; rw [hcn]; exact upd_ne _ _ (by omega)
  have e10 : nx_lays τ how s d a b r 10 k = τ 10 k := by show upd (τ 10) (cx (τ 0 2)) r k = _; rw [hcn]; exact upd_ne _ _ (by omega)
  simp only [frE, e5, e6, e7, e8, e9, e10]
  rw [va_up_ne ad q (show 7 + cx (τ 7 k) ≠ 40 + nl by omega)]
theorem st_lay {τ : Tau} {nw ns nl nc : Nat} (hI : Iv τ nw ns nl nc) (hlt : nl < 20) {how s d a b r : Int32} : nI (cntS τ) + 1 = nI (cntS (nx_lays τ how s d a b r)) := by
  have hcn : cx (τ 0 2) = nl := by rw [hI.2.2.1.1]; exact cx_nI (by omega)
  have h1 : cx (τ 0 2 + 1) = nl + 1 := by rw [hI.2.2.1.1, nI_1]; exact cx_nI (by omega)
  have hz : τ 4 nl = 0 := hI.2.2.2.2.2.2.2.2.1 nl (Nat.le_refl _) hlt
  have e : cntS (nx_lays τ how s d a b r) = cntS τ + 1 := by
    show ct (fun k => τ 4 k == 0) (cx (τ 0 2 + 1)) = ct (fun k => τ 4 k == 0) (cx (τ 0 2)) + 1
    rw [h1, hcn, ct, hz]; rfl
  rw [e, nI_1]
theorem pln_k4b {ad : Nat → Nat} {nc q : Nat} {cf : Nat → Option Nat} (h4b : ∀ k, k < 30 → cf k = if k < nc then some (ad (60 + k)) else none) : ∀ k, k < 30 → va_up cf nc (some (va_up ad (60 + nc) q (60 + nc))) k = if k < nc + 1 then some (va_up ad (60 + nc) q (60 + k)) else none := by
  intro k hk
  by_cases h : k = nc
  · subst h
    rw [va_up_self, if_pos (by omega)]
  · rw [va_up_ne _ _ h, va_up_ne _ _ (by omega), h4b k hk]
    by_cases h9 : k < nc
    · simp [h9, show k < nc + 1 by omega]
    · simp [h9, show ¬ k < nc + 1 by omega]
theorem pln_old {τ : Tau} {nw ns nl nc : Nat} (hI : Iv τ nw ns nl nc) {s f n r : Int32} {k : Nat} (hk : k < nc) : chF (nx_plan τ s f n r) k = chF τ k := by
  have hnc := hI.2.2.2.1.2
  have hcn : cx (τ 0 3) = nc := by rw [hI.2.2.2.1.1]; exact cx_nI (by omega)
  have e5 : ∀ i x, upd (τ i) nc x k = τ i k := fun i x => upd_ne _ _ (by omega)
  unfold nx_plan
  rw [hcn]
  show ([.int (upd (τ 11) nc s k), .int (upd (τ 13) nc n k), .int (upd (τ 14) nc r k), .int (upd (τ 12) nc f k), .int (τ 15 k), .int (τ 16 k), .int (bI (¬ upd (τ 17) nc (-1) k = -1)), .int (if upd (τ 17) nc (-1) k = -1 then 20 else upd (τ 17) nc (-1) k)] : List Value) = _
  rw [e5 11, e5 12, e5 13, e5 14, e5 17]
