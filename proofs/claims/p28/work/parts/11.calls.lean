section RC
variable {p : Program} {l : Launch} {e : Env} {R : Room} {s : State} {m : MethodId} {args : Array Value} {below : List Frame} {meth : Method} {c : Code} {H : Heap} {locs : List Loc} {cells slots : Nat} {Q : State → Prop}
variable {cc : ByteArray} {nL : Nat} {own : String} {D : va_G} {ids : Nat → ClassId} {n0 : Nat} {RR : List Nat} {ad : Nat → Nat} {cn : Nat → va_E} {pc : Nat} {ls : Array Slot} {rest st0 : List Value}
variable {y : MethodName} {cy : ByteArray} {maxL : Nat} {ret : Option FieldType} {rm : Room} {as As : List Value} {Hh : Heap} {post : Option Value → Heap → Prop} {px px2 : String → Heap → Prop} {b index mc ms : Nat} {a : Array Value}
theorem ro_ofM (hy : plainName y.cls = true) (hlen : (lg_sl as).length ≤ maxL)
    (body : ∀ (p : Program) (e : Env) (s : State) (m : MethodId) (below : List Frame) (meth : Method) (c : Code), ro_C p s m as.toArray meth c cy maxL y.cls D ids n0 → s.heap = Hh → meth.sig.returnType = ret → meth.name = y.name → va_S (fun q => n0 ≤ q) s.heap Hh [] → ∀ ls, lv_has ls maxL (lv_args 0 as) → W p l e rm s m as.toArray below meth c Hh [] 0 0 (MQ below (ro_Q n0 post) as.toArray s rm.cells rm.slots (fun q => n0 ≤ q)) (F0 m 0 ls [])) : ro_M l y cy maxL ret rm D ids n0 as Hh post := by
  refine Met.ofW (cc := cy) (maxL := maxL) (ret := ret) hy rfl ?_
  intro p e s m args below meth c s₁ B hml hv
  obtain ⟨rfl, hE, rfl⟩ := hv
  have hts := atoms_spec (ws := .code y cy maxL ret :: uU) B.pre
  have hown := findClass_of_methodNamed B.named
  have K := body p e s m below meth c ⟨⟨B.exec, B.bytes, hml, hown, fun w h => hts w (List.mem_cons_of_mem _ h)⟩, hE, B.notSynchronized⟩ rfl B.returns (name_of_methodNamed B.named B.method).1 va_S.rf _ (lv_entry as hlen)
  rw [lg_entry_eq]
  exact K
theorem ro_ofT (hy : plainName y.cls = true) (hlen : (lg_sl as).length ≤ maxL)
    (body : ∀ (p : Program) (e : Env) (s : State) (m : MethodId) (below : List Frame) (meth : Method) (c : Code), ro_C p s m as.toArray meth c cy maxL y.cls D ids n0 → s.heap = Hh → meth.sig.returnType = ret → (∀ x ∈ c.exceptionTable.toList, False) → va_S (fun q => n0 ≤ q) s.heap Hh [] → ∀ ls, lv_has ls maxL (lv_args 0 as) → W p l e rm s m as.toArray below meth c Hh [] 0 0 (vx_MQ below (ro_Q n0 post) (ro_X n0 px) as.toArray s rm.cells rm.slots (fun q => n0 ≤ q)) (F0 m 0 ls [])) : ro_T l y cy maxL ret rm D ids n0 as Hh post px := by
  refine vx_ofW (cc := cy) (maxL := maxL) (ret := ret) hy rfl ?_
  intro p e s m args below meth c s₁ B hml hno hv
  obtain ⟨rfl, hE, rfl⟩ := hv
  have hts := atoms_spec (ws := .code y cy maxL ret :: uU) B.pre
  have hown := findClass_of_methodNamed B.named
  have K := body p e s m below meth c ⟨⟨B.exec, B.bytes, hml, hown, fun w h => hts w (List.mem_cons_of_mem _ h)⟩, hE, B.notSynchronized⟩ rfl B.returns hno va_S.rf _ (lv_entry as hlen)
  rw [lg_entry_eq]
  exact K
/-- a method with handlers of its own, that returns -/
def ro_MW (l : Launch) (y : MethodName) (cy : ByteArray) (maxL : Nat) (ret : Option FieldType) (hh : List (Nat × Nat × Nat × Nat)) (rm : Room) (D : va_G) (ids : Nat → ClassId) (n0 : Nat) (as : List Value) (Hh : Heap) (post : Option Value → Heap → Prop) : Prop :=
  Met l y (.codeWith y cy maxL ret hh :: uU) rm (ro_pre D ids n0 as Hh) (ro_Q n0 post) rm.cells rm.slots (fun q => n0 ≤ q)
theorem ro_callee (hE : En D ids n0 s) (HS : va_S (fun q => n0 ≤ q) s.heap H locs) : ∀ U : State, U.heap = H → s.WarmedH U.vm → ro_pre D ids n0 as H as.toArray U := fun U hU hW =>
  ⟨rfl, En.moved hW (by rw [hU]; exact Nat.le_trans hE.2.2.2.1 HS.1) (fun q hq => by rw [hU]; exact HS.2.1 q (Nat.lt_of_lt_of_le hq hE.2.2.2.1) (Nat.not_le.mpr hq)) hE, hU⟩
theorem ro_back (HS : va_S (fun q => n0 ≤ q) s.heap H locs) (hr : va_Run p l e R s m args below meth c H locs cells slots mc ms (F0 m pc ls st0) rest (ro_Q n0 post a) (fun q => n0 ≤ q))
    (kk : ∀ (v : Option Value) (H1 : Heap) (locs1 : List Loc), post v H1 → H.size ≤ H1.size → va_S (fun q => n0 ≤ q) s.heap H1 locs1 → W p l e R s m args below meth c H1 locs1 (cells + mc) (slots + ms) Q (F0 m (pc + 3) ls (v.toList ++ rest))) : W p l e R s m args below meth c H locs cells slots Q (F0 m pc ls st0) := by
  intro T hT X
  obtain ⟨v, st₀, t, T', L, h0, X', hL, e1, e2, ⟨v', hv, hp, hF⟩, st⟩ := hr T hT X
  cases hv
  obtain ⟨k1, k2, k3⟩ := vx_keep h0 e1 HS (fun _ _ h => h) (fun _ h => h) hL hF
  obtain ⟨t2, a1, b1⟩ := kk v T'.heap (locs ++ L) (by rw [e1]; exact hp) k1 k3 T' rfl X'
  exact ⟨t2, st t2 a1, b1⟩
theorem ro_backT (HS : va_S (fun q => n0 ≤ q) s.heap H locs) (hr : vx_Run p l e R s m args below meth c H locs cells slots mc ms (F0 m pc ls st0) rest (ro_Q n0 post a) (ro_X n0 px) (fun q => n0 ≤ q))
    (kx : ∀ (E : String) (ce : Cell) (q9 : Addr) (H1 : Heap) (locs1 : List Loc), px E H1 → H.size ≤ H1.size → va_S (fun q => n0 ≤ q) s.heap H1 locs1 → H1[q9]? = some ce → ce.vm = .none → s.vm.findClass E = some ce.cls → vx_W p l e R s m args below meth c H1 locs1 (cells + mc) (slots + ms) Q (F0 m pc ls rest) q9)
    (kk : ∀ (v : Option Value) (H1 : Heap) (locs1 : List Loc), post v H1 → H.size ≤ H1.size → va_S (fun q => n0 ≤ q) s.heap H1 locs1 → W p l e R s m args below meth c H1 locs1 (cells + mc) (slots + ms) Q (F0 m (pc + 3) ls (v.toList ++ rest))) : W p l e R s m args below meth c H locs cells slots Q (F0 m pc ls st0) := by
  intro T hT X
  rcases hr T hT X with ⟨v, st₀, t, T', L, h0, X', hL, e1, e2, ⟨v', hv, hp, hF⟩, st⟩ | ⟨q, st₀, t, T', L, E, ce, h0, X', hL, e1, e2, ⟨hp, hF⟩, hce, hcv, hcl, st⟩
  · cases hv
    obtain ⟨k1, k2, k3⟩ := vx_keep h0 e1 HS (fun _ _ h => h) (fun _ h => h) hL hF
    obtain ⟨t2, a1, b1⟩ := kk v T'.heap (locs ++ L) (by rw [e1]; exact hp) k1 k3 T' rfl X'
    exact ⟨t2, st t2 a1, b1⟩
  · obtain ⟨k1, k2, k3⟩ := vx_keep h0 e1 HS (fun _ _ h => h) (fun _ h => h) hL hF
    obtain ⟨t2, a1, b1⟩ := kx E ce q T'.heap (locs ++ L) (by rw [e1]; exact hp) k1 k3 (by rw [e1]; exact hce) hcv hcl T' rfl X'
    exact ⟨t2, st.trans a1, b1⟩
/-- the words that a call of y wants -/
def ro_L (own : String) (index : Nat) (y : MethodName) (cy : ByteArray) (maxL : Nat) (ret : Option FieldType) (n : Nat) : Prop :=
  Cond.code y cy maxL ret ∈ uU ∧ Cond.methodLink own index y ∈ uU ∧ Cond.initialized y.cls ∈ uU ∧ y.cls ≠ "java/lang/invoke/MethodHandle" ∧ y.cls ≠ "java/lang/invoke/VarHandle" ∧ (parseMethodDescriptor y.desc).map (fun d => d.parameters.length) = some n
theorem ro_callB (MC : ro_C p s m args meth c cc nL own D ids n0) {n : Nat} (hL : ro_L own index y cy maxL ret n) (hR : rm.frames + 1 ≤ R.frames ∧ 8 + (maxL + 11) + rm.locals ≤ R.locals) : CallB R s args own index y cy maxL ret (.code y cy maxL ret :: uU) rm rm.cells rm.slots n := by
  obtain ⟨⟨hx, hb, hml, hown, hts⟩, hE, -⟩ := MC
  exact callB_of n hts (uU_cons hL.1) rfl rfl rfl (hts _ hL.2.2.1) (hts _ hL.2.1) hL.2.2.2 hR
theorem ro_recv {ci : Nat} {fs : List Value} {q : vw_C} {r : Nat} (MC : ro_C p s m args meth c cc nL own D ids n0) (HP : ro_P D n0 RR ad cn H) (hr : r ∈ RR) (hf : cn r = .inr (ci, fs)) (hc : vwCl[ci]? = some q) : ∃ cell : Cell, H[ad r]? = some cell ∧ cell.vm.isStatics = false ∧ s.vm.findClass q.1 = some cell.cls := by
  obtain ⟨k, hi, hw⟩ := ro_ix (ad := ad) (cn := cn) hr
  rw [hf] at hw
  exact va_recv MC.2.1.1 HP.1 hc hw
theorem ro_callV (MC : ro_C p s m args meth c cc nL own D ids n0) (HS : va_S (fun q => n0 ≤ q) s.heap H locs) (hM : ro_M l y cy maxL ret rm D ids n0 (.ref b :: As) H post) (hL : ro_L own index y cy maxL ret As.length) (hin : Cond.instanceMethod y ∈ uU) (hse : Cond.selects y.cls y y ∈ uU) (hR : rm.frames + 1 ≤ R.frames ∧ 8 + (maxL + 11) + rm.locals ≤ R.locals)
    (hrecv : ∃ cell : Cell, H[b]? = some cell ∧ cell.vm.isStatics = false ∧ s.vm.findClass y.cls = some cell.cls) (hsize : ls.size = nL) (hst : st0 = As.reverse ++ .ref b :: rest) (hcat : (rest.map fun v => v.category).sum ≤ 8) (hdg : decode cc pc = .ok (.invokevirtual index, 3)) (hf : cells + rm.cells ≤ R.cells ∧ slots + rm.slots ≤ R.slots)
    (kk : ∀ (v : Option Value) (H1 : Heap) (locs1 : List Loc), post v H1 → H.size ≤ H1.size → va_S (fun q => n0 ≤ q) s.heap H1 locs1 → W p l e R s m args below meth c H1 locs1 (cells + rm.cells) (slots + rm.slots) Q (F0 m (pc + 3) ls (v.toList ++ rest))) : W p l e R s m args below meth c H locs cells slots Q (F0 m pc ls st0) :=
  ro_back HS (va_runV MC.1 hM ⟨ro_callB MC hL hR, MC.1.2.2.2.2 _ hin, MC.1.2.2.2.2 _ hse⟩ ⟨En.blind, hrecv, ro_callee MC.2.1 HS⟩ rfl rfl hsize hst (by rw [show (F0 m pc ls st0).monitorRoom = 0 from rfl]; omega) hdg hf) kk
theorem ro_callVT (MC : ro_C p s m args meth c cc nL own D ids n0) (HS : va_S (fun q => n0 ≤ q) s.heap H locs) (hM : ro_T l y cy maxL ret rm D ids n0 (.ref b :: As) H post px) (hL : ro_L own index y cy maxL ret As.length) (hin : Cond.instanceMethod y ∈ uU) (hse : Cond.selects y.cls y y ∈ uU) (hR : rm.frames + 1 ≤ R.frames ∧ 8 + (maxL + 11) + rm.locals ≤ R.locals)
    (hrecv : ∃ cell : Cell, H[b]? = some cell ∧ cell.vm.isStatics = false ∧ s.vm.findClass y.cls = some cell.cls) (hsize : ls.size = nL) (hst : st0 = As.reverse ++ .ref b :: rest) (hcat : (rest.map fun v => v.category).sum ≤ 8) (hdg : decode cc pc = .ok (.invokevirtual index, 3)) (hf : cells + rm.cells ≤ R.cells ∧ slots + rm.slots ≤ R.slots)
    (kx : ∀ (E : String) (ce : Cell) (q9 : Addr) (H1 : Heap) (locs1 : List Loc), px E H1 → H.size ≤ H1.size → va_S (fun q => n0 ≤ q) s.heap H1 locs1 → H1[q9]? = some ce → ce.vm = .none → s.vm.findClass E = some ce.cls → vx_W p l e R s m args below meth c H1 locs1 (cells + rm.cells) (slots + rm.slots) Q (F0 m pc ls rest) q9)
    (kk : ∀ (v : Option Value) (H1 : Heap) (locs1 : List Loc), post v H1 → H.size ≤ H1.size → va_S (fun q => n0 ≤ q) s.heap H1 locs1 → W p l e R s m args below meth c H1 locs1 (cells + rm.cells) (slots + rm.slots) Q (F0 m (pc + 3) ls (v.toList ++ rest))) : W p l e R s m args below meth c H locs cells slots Q (F0 m pc ls st0) :=
  ro_backT HS (vx_runV MC.1 hM ⟨ro_callB MC hL hR, MC.1.2.2.2.2 _ hin, MC.1.2.2.2.2 _ hse⟩ ⟨En.blind, hrecv, ro_callee MC.2.1 HS⟩ rfl rfl hsize hst (by rw [show (F0 m pc ls st0).monitorRoom = 0 from rfl]; omega) hdg hf) kx kk
theorem ro_callS (MC : ro_C p s m args meth c cc nL own D ids n0) (HS : va_S (fun q => n0 ≤ q) s.heap H locs) (hM : ro_M l y cy maxL ret rm D ids n0 As H post) (hL : ro_L own index y cy maxL ret As.length) (hin : Cond.static y ∈ uU) (hR : rm.frames + 1 ≤ R.frames ∧ 8 + (maxL + 11) + rm.locals ≤ R.locals)
    (hsize : ls.size = nL) (hst : st0 = As.reverse ++ rest) (hcat : (rest.map fun v => v.category).sum ≤ 8) (hdg : decode cc pc = .ok (.invokestatic index, 3)) (hf : cells + rm.cells ≤ R.cells ∧ slots + rm.slots ≤ R.slots)
    (kk : ∀ (v : Option Value) (H1 : Heap) (locs1 : List Loc), post v H1 → H.size ≤ H1.size → va_S (fun q => n0 ≤ q) s.heap H1 locs1 → W p l e R s m args below meth c H1 locs1 (cells + rm.cells) (slots + rm.slots) Q (F0 m (pc + 3) ls (v.toList ++ rest))) : W p l e R s m args below meth c H locs cells slots Q (F0 m pc ls st0) :=
  ro_back HS (va_runS MC.1 hM ⟨ro_callB MC hL hR, MC.1.2.2.2.2 _ hin⟩ ⟨En.blind, ro_callee MC.2.1 HS⟩ rfl rfl hsize hst (by rw [show (F0 m pc ls st0).monitorRoom = 0 from rfl]; omega) hdg hf) kk
theorem ro_callST (MC : ro_C p s m args meth c cc nL own D ids n0) (HS : va_S (fun q => n0 ≤ q) s.heap H locs) (hM : ro_T l y cy maxL ret rm D ids n0 As H post px) (hL : ro_L own index y cy maxL ret As.length) (hin : Cond.static y ∈ uU) (hR : rm.frames + 1 ≤ R.frames ∧ 8 + (maxL + 11) + rm.locals ≤ R.locals)
    (hsize : ls.size = nL) (hst : st0 = As.reverse ++ rest) (hcat : (rest.map fun v => v.category).sum ≤ 8) (hdg : decode cc pc = .ok (.invokestatic index, 3)) (hf : cells + rm.cells ≤ R.cells ∧ slots + rm.slots ≤ R.slots)
    (kx : ∀ (E : String) (ce : Cell) (q9 : Addr) (H1 : Heap) (locs1 : List Loc), px E H1 → H.size ≤ H1.size → va_S (fun q => n0 ≤ q) s.heap H1 locs1 → H1[q9]? = some ce → ce.vm = .none → s.vm.findClass E = some ce.cls → vx_W p l e R s m args below meth c H1 locs1 (cells + rm.cells) (slots + rm.slots) Q (F0 m pc ls rest) q9)
    (kk : ∀ (v : Option Value) (H1 : Heap) (locs1 : List Loc), post v H1 → H.size ≤ H1.size → va_S (fun q => n0 ≤ q) s.heap H1 locs1 → W p l e R s m args below meth c H1 locs1 (cells + rm.cells) (slots + rm.slots) Q (F0 m (pc + 3) ls (v.toList ++ rest))) : W p l e R s m args below meth c H locs cells slots Q (F0 m pc ls st0) :=
  ro_backT HS (vx_runS MC.1 hM ⟨ro_callB MC hL hR, MC.1.2.2.2.2 _ hin⟩ ⟨En.blind, ro_callee MC.2.1 HS⟩ rfl rfl hsize hst (by rw [show (F0 m pc ls st0).monitorRoom = 0 from rfl]; omega) hdg hf) kx kk
theorem ro_callI (MC : ro_C p s m args meth c cc nL own D ids n0) (HS : va_S (fun q => n0 ≤ q) s.heap H locs) (hM : ro_M l y cy maxL none rm D ids n0 (.ref b :: As) H post) (hL : ro_L own index y cy maxL none As.length) (hin : Cond.instanceMethod y ∈ uU) (hnm : y.name = "<init>") (hR : rm.frames + 1 ≤ R.frames ∧ 8 + (maxL + 11) + rm.locals ≤ R.locals)
    (hsize : ls.size = nL) (hst : st0 = As.reverse ++ .ref b :: rest) (hcat : (rest.map fun v => v.category).sum ≤ 8) (hdg : decode cc pc = .ok (.invokespecial index, 3)) (hf : cells + rm.cells ≤ R.cells ∧ slots + rm.slots ≤ R.slots)
    (kk : ∀ (v : Option Value) (H1 : Heap) (locs1 : List Loc), post v H1 → H.size ≤ H1.size → va_S (fun q => n0 ≤ q) s.heap H1 locs1 → W p l e R s m args below meth c H1 locs1 (cells + rm.cells) (slots + rm.slots) Q (F0 m (pc + 3) ls (v.toList ++ rest))) : W p l e R s m args below meth c H locs cells slots Q (F0 m pc ls st0) :=
  ro_back HS (va_runI MC.1 hM ⟨ro_callB MC hL hR, hnm, MC.1.2.2.2.2 _ hin⟩ ⟨En.blind, ro_callee MC.2.1 HS⟩ rfl rfl hsize hst (by rw [show (F0 m pc ls st0).monitorRoom = 0 from rfl]; omega) hdg hf) kk
/-- the words that a nest mate's call of y wants -/
def ro_LN (own : String) (index : Nat) (y : MethodName) (host : String) (cy : ByteArray) (maxL : Nat) (ret : Option FieldType) (n : Nat) : Prop :=
  Cond.code y cy maxL ret ∈ uU ∧ (own, index, y, host) ∈ uNl ∧ Cond.initialized y.cls ∈ uU ∧ y.cls ≠ "java/lang/invoke/MethodHandle" ∧ y.cls ≠ "java/lang/invoke/VarHandle" ∧ (parseMethodDescriptor y.desc).map (fun d => d.parameters.length) = some n
theorem ro_callN (MC : ro_C p s m args meth c cc nL own D ids n0) {n : Nat} {host : String} (hL : ro_LN own index y host cy maxL ret n) (hR : rm.frames + 1 ≤ R.frames ∧ 8 + (maxL + 11) + rm.locals ≤ R.locals) : va_CN R s args own index y host cy maxL ret (.code y cy maxL ret :: uU) rm rm.cells rm.slots n := by
  obtain ⟨⟨hx, hb, hml, hown, hts⟩, hE, -⟩ := MC
  exact va_cnB n hts (uU_cons hL.1) rfl rfl rfl (hE.2.2.2.2.2.2.2.2.2 _ hL.2.1) (hts _ hL.2.2.1) hL.2.2.2 hR
theorem ro_callSN (MC : ro_C p s m args meth c cc nL own D ids n0) (HS : va_S (fun q => n0 ≤ q) s.heap H locs) {host : String} (hM : ro_M l y cy maxL ret rm D ids n0 As H post) (hL : ro_LN own index y host cy maxL ret As.length) (hin : Cond.static y ∈ uU) (hR : rm.frames + 1 ≤ R.frames ∧ 8 + (maxL + 11) + rm.locals ≤ R.locals)
    (hsize : ls.size = nL) (hst : st0 = As.reverse ++ rest) (hcat : (rest.map fun v => v.category).sum ≤ 8) (hdg : decode cc pc = .ok (.invokestatic index, 3)) (hf : cells + rm.cells ≤ R.cells ∧ slots + rm.slots ≤ R.slots)
    (kk : ∀ (v : Option Value) (H1 : Heap) (locs1 : List Loc), post v H1 → H.size ≤ H1.size → va_S (fun q => n0 ≤ q) s.heap H1 locs1 → W p l e R s m args below meth c H1 locs1 (cells + rm.cells) (slots + rm.slots) Q (F0 m (pc + 3) ls (v.toList ++ rest))) : W p l e R s m args below meth c H locs cells slots Q (F0 m pc ls st0) :=
  ro_back HS (va_runSN MC.1 hM ⟨ro_callN MC hL hR, MC.1.2.2.2.2 _ hin, trivial⟩ ⟨En.blind, ro_callee MC.2.1 HS⟩ rfl rfl hsize hst (by rw [show (F0 m pc ls st0).monitorRoom = 0 from rfl]; omega) hdg hf) kk
theorem ro_callIN (MC : ro_C p s m args meth c cc nL own D ids n0) (HS : va_S (fun q => n0 ≤ q) s.heap H locs) {host : String} (hM : ro_M l y cy maxL none rm D ids n0 (.ref b :: As) H post) (hL : ro_LN own index y host cy maxL none As.length) (hin : Cond.instanceMethod y ∈ uU) (hnm : y.name = "<init>") (hR : rm.frames + 1 ≤ R.frames ∧ 8 + (maxL + 11) + rm.locals ≤ R.locals)
    (hsize : ls.size = nL) (hst : st0 = As.reverse ++ .ref b :: rest) (hcat : (rest.map fun v => v.category).sum ≤ 8) (hdg : decode cc pc = .ok (.invokespecial index, 3)) (hf : cells + rm.cells ≤ R.cells ∧ slots + rm.slots ≤ R.slots)
    (kk : ∀ (v : Option Value) (H1 : Heap) (locs1 : List Loc), post v H1 → H.size ≤ H1.size → va_S (fun q => n0 ≤ q) s.heap H1 locs1 → W p l e R s m args below meth c H1 locs1 (cells + rm.cells) (slots + rm.slots) Q (F0 m (pc + 3) ls (v.toList ++ rest))) : W p l e R s m args below meth c H locs cells slots Q (F0 m pc ls st0) :=
  ro_back HS (va_runIN MC.1 hM ⟨ro_callN MC hL hR, hnm, MC.1.2.2.2.2 _ hin⟩ ⟨En.blind, ro_callee MC.2.1 HS⟩ rfl rfl hsize hst (by rw [show (F0 m pc ls st0).monitorRoom = 0 from rfl]; omega) hdg hf) kk
/-- a call of an abstract method x of owner, on a receiver of class C, whose method is y -/
theorem ro_callA (MC : ro_C p s m args meth c cc nL own D ids n0) (HS : va_S (fun q => n0 ≤ q) s.heap H locs) {C owner : String} {x : MethodName} (hM : ro_M l y cy maxL ret rm D ids n0 (.ref b :: As) H post) (h0 : Cond.code y cy maxL ret ∈ uU) (h1 : Cond.methodLink own index x ∈ uU) (h2 : Cond.sameMethod x.cls owner x.name x.desc ∈ uU) (h3 : Cond.selects C x y ∈ uU) (h4 : Cond.instanceMethod y ∈ uU) (h5 : Cond.initialized y.cls ∈ uU) (h6 : (⟨owner, x.name, x.desc⟩ : MethodName) ∈ uNd) (hd : owner ≠ "java/lang/invoke/MethodHandle" ∧ owner ≠ "java/lang/invoke/VarHandle" ∧ (parseMethodDescriptor x.desc).map (fun d => d.parameters.length) = some As.length) (hR : rm.frames + 1 ≤ R.frames ∧ 8 + (maxL + 11) + rm.locals ≤ R.locals)
    (hrecv : ∃ cell : Cell, H[b]? = some cell ∧ cell.vm.isStatics = false ∧ s.vm.findClass C = some cell.cls) (hsize : ls.size = nL) (hst : st0 = As.reverse ++ .ref b :: rest) (hcat : (rest.map fun v => v.category).sum ≤ 8) (hdg : decode cc pc = .ok (.invokevirtual index, 3)) (hf : cells + rm.cells ≤ R.cells ∧ slots + rm.slots ≤ R.slots)
    (kk : ∀ (v : Option Value) (H1 : Heap) (locs1 : List Loc), post v H1 → H.size ≤ H1.size → va_S (fun q => n0 ≤ q) s.heap H1 locs1 → W p l e R s m args below meth c H1 locs1 (cells + rm.cells) (slots + rm.slots) Q (F0 m (pc + 3) ls (v.toList ++ rest))) : W p l e R s m args below meth c H locs cells slots Q (F0 m pc ls st0) := by
  refine ro_back HS (va_runU MC.1 hM (va_cwA (C := C) (owner := owner) (x := x) As.length MC.1.2.2.2.2 (fun w hw => ?_) rfl rfl rfl (MC.2.1.2.2.2.2.2.1 _ h6) hd hR) ⟨En.blind, hrecv, ro_callee MC.2.1 HS⟩ rfl rfl hsize hst (by rw [show (F0 m pc ls st0).monitorRoom = 0 from rfl]; omega) hdg hf) kk
  rcases List.mem_append.mp hw with hw | hw
  · simp only [List.mem_cons, List.not_mem_nil, or_false] at hw
    rcases hw with rfl | rfl | rfl | rfl | rfl
    · exact ⟨h1, uU_gd h1⟩
    · exact ⟨h2, uU_gd h2⟩
    · exact ⟨h3, uU_gd h3⟩
    · exact ⟨h4, uU_gd h4⟩
    · exact ⟨h5, uU_gd h5⟩
  · exact uU_cons h0 w hw
/-! ends -/
theorem ro_F {t : State} (HS : va_S (fun q => n0 ≤ q) s.heap H locs) (h1 : H.size ≤ t.heap.size) (h2 : ∀ q : Nat, q < H.size → t.heap[q]? = H[q]?) : va_F (fun q => n0 ≤ q) s t := ⟨Nat.le_trans HS.1 h1, fun q h3 h4 => (h2 q (Nat.lt_of_lt_of_le h3 HS.1)).trans (HS.2.1 q h3 h4)⟩
theorem ro_iretM (MC : ro_C p s m args meth c cc nL own D ids n0) (HS : va_S (fun q => n0 ≤ q) s.heap H locs) (hr : meth.sig.returnType = some .int) {v : Int32} (hq : post (some (.int v)) H) (hc : cells ≤ mc) (hs : slots ≤ ms) (hdg : decode cc pc = .ok (.ireturn, 1)) : W p l e R s m args below meth c H locs cells slots (MQ below (ro_Q n0 post) args s mc ms (fun q => n0 ≤ q)) (F0 m pc ls [.int v]) :=
  W.widen hc hs (W.iret MC.1.1 MC.1.2.1 hr (fun t ht hW => ⟨_, rfl, by rw [ht]; exact hq, HS.F ht⟩) HS.2.2 hdg MC.2.2)
theorem ro_zretM (MC : ro_C p s m args meth c cc nL own D ids n0) (HS : va_S (fun q => n0 ≤ q) s.heap H locs) (hr : meth.sig.returnType = some .boolean) {v : Int32} (hn : narrow .boolean (.int v) = .int v) (hq : post (some (.int v)) H) (hc : cells ≤ mc) (hs : slots ≤ ms) (hdg : decode cc pc = .ok (.ireturn, 1)) : W p l e R s m args below meth c H locs cells slots (MQ below (ro_Q n0 post) args s mc ms (fun q => n0 ≤ q)) (F0 m pc ls [.int v]) :=
  W.widen hc hs (W.zret MC.1.1 MC.1.2.1 hr hn (fun t ht hW => ⟨_, rfl, by rw [ht]; exact hq, HS.F ht⟩) HS.2.2 hdg MC.2.2)
theorem ro_vretM (MC : ro_C p s m args meth c cc nL own D ids n0) (HS : va_S (fun q => n0 ≤ q) s.heap H locs) (hr : meth.sig.returnType = none) (hq : post none H) (hc : cells ≤ mc) (hs : slots ≤ ms) (hdg : decode cc pc = .ok (.return_, 1)) : W p l e R s m args below meth c H locs cells slots (MQ below (ro_Q n0 post) args s mc ms (fun q => n0 ≤ q)) (F0 m pc ls []) :=
  W.widen hc hs (W.vret MC.1.1 MC.1.2.1 hr (fun t ht hW => ⟨_, rfl, by rw [ht]; exact hq, HS.F ht⟩) HS.2.2 hdg MC.2.2)
theorem ro_aretM (MC : ro_C p s m args meth c cc nL own D ids n0) (HS : va_S (fun q => n0 ≤ q) s.heap H locs) {C : String} (hr : meth.sig.returnType = some (.object C)) {v : Value} (hv : v = .null ∨ ∃ a, v = .ref a) (hq : post (some v) H) (hc : cells ≤ mc) (hs : slots ≤ ms) (hdg : decode cc pc = .ok (.areturn, 1)) : W p l e R s m args below meth c H locs cells slots (MQ below (ro_Q n0 post) args s mc ms (fun q => n0 ≤ q)) (F0 m pc ls [v]) :=
  W.widen hc hs (W.aret MC.1.1 MC.1.2.1 hr (Or.inl ⟨_, rfl⟩) hv (fun t ht hW => ⟨_, rfl, by rw [ht]; exact hq, HS.F ht⟩) HS.2.2 hdg MC.2.2)
theorem ro_MT {g : JFrame} (k : W p l e R s m args below meth c H locs cells slots (MQ below (ro_Q n0 post) args s mc ms (fun q => n0 ≤ q)) g) : W p l e R s m args below meth c H locs cells slots (vx_MQ below (ro_Q n0 post) (ro_X n0 px) args s mc ms (fun q => n0 ≤ q)) g := vx_ret k
/-- a callee's throw goes on to the caller -/
theorem ro_out (MC : ro_C p s m args meth c cc nL own D ids n0) (hno : ∀ x ∈ c.exceptionTable.toList, False) (hc : cells ≤ mc) (hs : slots ≤ ms) (hpx : ∀ (E : String) (H1 : Heap), px E H1 → px2 E H1) :
    ∀ (E : String) (ce : Cell) (q9 : Addr) (H1 : Heap) (locs1 : List Loc), px E H1 → H.size ≤ H1.size → va_S (fun q => n0 ≤ q) s.heap H1 locs1 → H1[q9]? = some ce → ce.vm = .none → s.vm.findClass E = some ce.cls → vx_W p l e R s m args below meth c H1 locs1 cells slots (vx_MQ below (ro_Q n0 post) (ro_X n0 px2) args s mc ms (fun q => n0 ≤ q)) (F0 m pc ls rest) q9 := fun E ce q9 H1 locs1 hp hz HS h1 h2 h3 =>
  vx_out (fun x hx => (hno x hx).elim) MC.2.2 h1 h2 h3 (fun t ht hW => ⟨by rw [ht]; exact hpx E H1 hp, HS.F ht⟩) HS.2.2 hc hs
theorem ro_nong (hE : En D ids n0 s) {L : List Cond} {X : String} (hc : (X, X) ∈ uNc) (h1 : ∀ w ∈ L.filter goodWord, w.before args s = true) (h2 : ∀ w ∈ L.filter (fun w => !goodWord w), w = Cond.castable X X ∨ w ∈ uNd.map Cond.declares) : ∀ w ∈ L, w.before args s = true := by
  intro w hw
  by_cases g : goodWord w = true
  · exact h1 w (List.mem_filter.mpr ⟨hw, g⟩)
  · have g' : (!goodWord w) = true := by
      cases hgw : goodWord w
      · rfl
      · exact absurd hgw g
    rcases h2 w (List.mem_filter.mpr ⟨hw, g'⟩) with rfl | h3
    · exact va_Nw.use rfl (hE.2.2.2.2.2.2.1 _ hc)
    · obtain ⟨x, hx, rfl⟩ := List.mem_map.mp h3
      exact va_Nw.use rfl (hE.2.2.2.2.2.1 _ hx)
/-- what a throw of new cls(text) wants of the tables -/
def ro_TH (ik is ic : Nat) (cls text : String) : Prop := Bundle.fit cls = true ∧ Cond.classLink "FrostCalendar" ik cls ∈ uU ∧ Cond.initialized cls ∈ uU ∧ (is, text) ∈ uNt ∧ (cls, cls) ∈ uNc ∧ (∀ w ∈ (vx_atS "FrostCalendar" ic cls ["java/lang/RuntimeException", "java/lang/Exception"]).filter goodWord, w ∈ uU) ∧ (∀ w ∈ (vx_atS "FrostCalendar" ic cls ["java/lang/RuntimeException", "java/lang/Exception"]).filter (fun w => !goodWord w), w = Cond.castable cls cls ∨ w ∈ uNd.map Cond.declares) ∧ (∀ w ∈ Cond.classLink "FrostCalendar" ik cls :: Cond.initialized cls :: vx_atS "FrostCalendar" ic cls ["java/lang/RuntimeException", "java/lang/Exception"], vx_ot w = true)
theorem ro_throw (hl : l.stackTraces = false) (MC : ro_C p s m args meth c cc nL "FrostCalendar" D ids n0) (HS : va_S (fun q => n0 ≤ q) s.heap H locs) (hno : ∀ x ∈ c.exceptionTable.toList, False) {ik is ic : Nat} {cls text : String} (hT : ro_TH ik is ic cls text) (hsize : ls.size = nL)
    (d0 : decode cc pc = .ok (.new ik, 3)) (d3 : decode cc (pc + 3) = .ok (.dup, 1)) (d4 : decode cc (pc + 4) = .ok (.ldc is, 2)) (d6 : decode cc (pc + 6) = .ok (.invokespecial ic, 3)) (d9 : decode cc (pc + 9) = .ok (.athrow, 1))
    (hR : 6 ≤ R.frames ∧ (rest.map fun v => v.category).sum + 82 ≤ R.locals ∧ cells + 1 ≤ R.cells ∧ slots + 6 ≤ R.slots) (hpx : ∀ H1 : Heap, H.size ≤ H1.size → (∀ q : Nat, q < H.size → H1[q]? = H[q]?) → px cls H1) (hc : cells + 1 ≤ mc) (hs : slots + 6 ≤ ms) :
    W p l e R s m args below meth c H locs cells slots (vx_MQ below (ro_Q n0 post) (ro_X n0 px) args s mc ms (fun q => n0 ≤ q)) (F0 m pc ls rest) := by
  obtain ⟨⟨hx, hb, hml, hown, hts⟩, hE, hlk⟩ := MC
  obtain ⟨t1, t2, t3, t4, t5, t6, t7, t8⟩ := hT
  obtain ⟨sa, hsa⟩ := hE.2.2.2.2.1 _ t4
  exact vx_throwS hx hb hl hown t1 (by decide +kernel) (hts _ t2) (hts _ t3) hsa (ro_nong hE t5 (fun w hw => hts w (t6 w hw)) t7) t8 hE.2.1 hE.2.2.1 HS (hsize.trans hml.symm) d0 d3 d4 d6 d9 (fun x hx => (hno x hx).elim) (by show 2 + 3 < R.frames; omega) (by show _ + (13 * (2 + 1) + 43) ≤ R.locals; omega) hR.2.2.1 hR.2.2.2 hlk
    (fun t hW h1 h2 => ⟨hpx _ h1 h2, ro_F HS h1 h2⟩) HS.2.2 hc hs
theorem ro_throwW (hl : l.stackTraces = false) (MC : ro_C p s m args meth c cc nL "FrostCalendar" D ids n0) (HS : va_S (fun q => n0 ≤ q) s.heap H locs) (hno : ∀ x ∈ c.exceptionTable.toList, False) {ik is ic : Nat} {cls text : String} (hT : ro_TH ik is ic cls text) (hsize : ls.size = nL)
    (d0 : decode cc pc = .ok (.new ik, 3)) (d3 : decode cc (pc + 3) = .ok (.dup, 1)) (d4 : decode cc (pc + 4) = .ok (.ldc_w is, 3)) (d6 : decode cc (pc + 7) = .ok (.invokespecial ic, 3)) (d9 : decode cc (pc + 10) = .ok (.athrow, 1))
    (hR : 6 ≤ R.frames ∧ (rest.map fun v => v.category).sum + 82 ≤ R.locals ∧ cells + 1 ≤ R.cells ∧ slots + 6 ≤ R.slots) (hpx : ∀ H1 : Heap, H.size ≤ H1.size → (∀ q : Nat, q < H.size → H1[q]? = H[q]?) → px cls H1) (hc : cells + 1 ≤ mc) (hs : slots + 6 ≤ ms) :
    W p l e R s m args below meth c H locs cells slots (vx_MQ below (ro_Q n0 post) (ro_X n0 px) args s mc ms (fun q => n0 ≤ q)) (F0 m pc ls rest) := by
  obtain ⟨⟨hx, hb, hml, hown, hts⟩, hE, hlk⟩ := MC
  obtain ⟨t1, t2, t3, t4, t5, t6, t7, t8⟩ := hT
  obtain ⟨sa, hsa⟩ := hE.2.2.2.2.1 _ t4
  exact vx_throwSW hx hb hl hown t1 (by decide +kernel) (hts _ t2) (hts _ t3) hsa (ro_nong hE t5 (fun w hw => hts w (t6 w hw)) t7) t8 hE.2.1 hE.2.2.1 HS (hsize.trans hml.symm) d0 d3 d4 d6 d9 (fun x hx => (hno x hx).elim) (by show 2 + 3 < R.frames; omega) (by show _ + (13 * (2 + 1) + 43) ≤ R.locals; omega) hR.2.2.1 hR.2.2.2 hlk
    (fun t hW h1 h2 => ⟨hpx _ h1 h2, ro_F HS h1 h2⟩) HS.2.2 hc hs
end RC
