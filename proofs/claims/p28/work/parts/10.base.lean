/-! one list of words for all methods -/
def uU : List Cond := lw_tbl.filter goodWord
theorem uU_tb {w : Cond} (h : w ∈ uU) : w ∈ lw_tbl := (List.mem_filter.mp h).1
theorem uU_gd {w : Cond} (h : w ∈ uU) : (w.onTables && w.keeps) = true ∨ ∃ ty, w = .arrayClass ty := good_of_word (List.mem_filter.mp h).2
theorem uU_in (i : Nat) {w : Cond} (h : lw_tbl[i]? = some w) (hg : goodWord w = true) : w ∈ uU := List.mem_filter.mpr ⟨List.mem_of_getElem? h, hg⟩
theorem uU_cons {w0 : Cond} (h : w0 ∈ uU) : GoodIn uU (w0 :: uU) := fun w hw => by
  rcases List.mem_cons.mp hw with rfl | hw
  · exact ⟨h, uU_gd h⟩
  · exact ⟨hw, uU_gd hw⟩
/-! what holds of every state of the run -/
abbrev uTy (ids : Nat → ClassId) : List (ClassId × FieldType) := [(ids 0, .int), (ids 1, .boolean), (ids 2, .int), (ids 3, .object "FrostCalendar$Land"), (ids 4, .object "FrostCalendar$Freeze"), (ids 5, .object "FrostCalendar$Change")]
def uNt : List (Nat × String) := [(199, "no such scope"), (49, "there are 16 scopes"), (202, "no such land"), (213, "out of its range"), (75, "now would be above 671"), (218, "20 freezes were laid"), (206, "no such freeze any more"), (120, "there are 30 changes"), (209, "no such change"), (216, "the change is not PLANNED"), (150, "the change is approved up to its risk"), (152, "now is not the first hour of the change"), (154, "the change is not approved up to its risk"), (159, "the change is not let through"), (182, "the freeze does not touch the change"), (184, "the change is excused from the freeze already"), (192, "there is no exception that could be spent")]
def uNd : List MethodName := [⟨"FrostCalendar$Freeze", "holdsIn", "(I)Z"⟩, ⟨"java/lang/RuntimeException", "<init>", "(Ljava/lang/String;)V"⟩, ⟨"java/lang/Exception", "<init>", "(Ljava/lang/String;)V"⟩, ⟨"java/lang/Throwable", "<init>", "(Ljava/lang/String;)V"⟩]
def uEx : List String := ["java/lang/IndexOutOfBoundsException", "java/lang/IllegalStateException", "java/lang/IllegalArgumentException", "java/util/NoSuchElementException"]
def uNc : List (String × String) := [("FrostCalendar$FreezeOnce", "FrostCalendar$Freeze"), ("FrostCalendar$FreezeDaily", "FrostCalendar$Freeze"), ("FrostCalendar$FreezeOnFeasts", "FrostCalendar$Freeze"), ("java/lang/IndexOutOfBoundsException", "java/lang/IndexOutOfBoundsException"), ("java/lang/IllegalStateException", "java/lang/IllegalStateException"), ("java/lang/IllegalArgumentException", "java/lang/IllegalArgumentException"), ("java/util/NoSuchElementException", "java/util/NoSuchElementException")]
def uAO : List String := ["FrostCalendar$Land", "FrostCalendar$Freeze", "FrostCalendar$Change"]
def uNx : List (String × String) := (uEx.flatMap fun a => uEx.map fun b => (a, b)).filter fun q => !(q.1 == q.2)
def uNl : List (String × Nat × MethodName × String) := [("FrostCalendar", 42, yX5_init, "FrostCalendar"), ("FrostCalendar$Land", 27, yX6_isInSet, "FrostCalendar")]
def En (D : va_G) (ids : Nat → ClassId) (n0 : Nat) (U : State) : Prop :=
  va_K D vwCl (uTy ids) U ∧ vx_Zq Bundle.tN "UNASSIGNED_STACK" Bundle.steD (fun q => n0 ≤ q) U U.heap ∧ vx_Zq Bundle.tN "SUPPRESSED_SENTINEL" Bundle.listD (fun q => n0 ≤ q) U U.heap ∧ n0 ≤ U.heap.size ∧ (∀ q ∈ uNt, ∃ a, vk_R "FrostCalendar" q.1 q.2 a U) ∧ (∀ x ∈ uNd, va_Nw (.declares x) U) ∧ (∀ q ∈ uNc, va_Nw (.castable q.1 q.2) U) ∧ (∀ C ∈ uAO, va_AO C U) ∧ (∀ q ∈ uNx, va_Nc q.1 q.2 U) ∧ (∀ q ∈ uNl, va_Nw (.methodLinkNest q.1 q.2.1 q.2.2.1 q.2.2.2) U)
theorem En.moved {D : va_G} {ids : Nat → ClassId} {n0 : Nat} {s U : State} (hW : s.WarmedH U.vm) (hz : n0 ≤ U.heap.size) (hq : ∀ q, q < n0 → U.heap[q]? = s.heap[q]?) (h : En D ids n0 s) : En D ids n0 U := by
  obtain ⟨h1, h2, h3, h4, h5, h6, h7, h8, h9, h10⟩ := h
  refine ⟨va_K.moved hW.alike h1, vx_Zq.moved hW.alike (vx_Zq.kept h2 fun a _ ha => hq a (Nat.not_le.mp ha)), vx_Zq.moved hW.alike (vx_Zq.kept h3 fun a _ ha => hq a (Nat.not_le.mp ha)), hz, ?_, ?_, ?_, ?_, ?_, ?_⟩
  · intro q hm; obtain ⟨a, ha⟩ := h5 q hm; exact ⟨a, vk_R.warm hW ha⟩
  · intro q hm; exact va_Nw.warmD hW (h6 q hm)
  · intro q hm; exact va_Nw.warmC hW (h7 q hm)
  · intro q hm; exact va_AO.moved hW.alike (h8 q hm)
  · intro q hm; exact va_Nc.moved hW.alike (h9 q hm)
  · intro q hm; exact va_Nw.warmM hW (h10 q hm)
theorem En.blind {D : va_G} {ids : Nat → ClassId} {n0 : Nat} {as : List Value} {Hh : Heap} : FrameBlind (va_Pc as (fun U => En D ids n0 U ∧ U.heap = Hh)) := by
  intro a U g mk h
  obtain ⟨h1, h2, h3⟩ := h
  exact ⟨h1, En.moved (s := U) (U := U.calling g mk a) (State.WarmedH.refl U) h2.2.2.2.1 (fun _ _ => rfl) h2, h3⟩
/-! the world by roles: role r lies at ad r and holds cn r -/
def ro_ws (RR : List Nat) (ad : Nat → Nat) (cn : Nat → va_E) : va_W := RR.map fun r => (ad r, cn r)
def ro_P (D : va_G) (n0 : Nat) (RR : List Nat) (ad : Nat → Nat) (cn : Nat → va_E) (H : Heap) : Prop := va_P D vwCl (ro_ws RR ad cn) H ∧ va_D (fun q => n0 ≤ q) (ro_ws RR ad cn)
theorem ro_ix {RR : List Nat} {ad : Nat → Nat} {cn : Nat → va_E} {r : Nat} (h : r ∈ RR) : ∃ k : Nat, RR[k]? = some r ∧ (ro_ws RR ad cn)[k]? = some (ad r, cn r) := by
  obtain ⟨k, hk⟩ := List.getElem?_of_mem h
  exact ⟨k, hk, by simp [ro_ws, hk]⟩
theorem ro_set {A : Nat → Prop} {RR : List Nat} {ad : Nat → Nat} {cn : Nat → va_E} {r k : Nat} {e : va_E} (hD : va_D A (ro_ws RR ad cn)) (hk : RR[k]? = some r) : (ro_ws RR ad cn).set k (ad r, e) = ro_ws RR ad (va_up cn r e) := by
  have hl := (List.getElem?_eq_some_iff.mp hk).1
  apply List.ext_getElem?
  intro j
  by_cases hj : j = k
  · subst hj
    rw [List.getElem?_set_self (by simp [ro_ws]; exact hl)]
    simp [ro_ws, hk, va_up]
  · rw [List.getElem?_set_ne (Ne.symm hj)]
    simp only [ro_ws, List.getElem?_map]
    cases hb : RR[j]? with
    | none => rfl
    | some b =>
      have hbr : b ≠ r := by
        intro hbr
        subst hbr
        exact hj (hD.1 j k _ _ (by simp [ro_ws, hb] <;> rfl) (by simp [ro_ws, hk] <;> rfl) rfl)
      simp [va_up, hbr]
theorem ro_push {RR : List Nat} {ad : Nat → Nat} {cn : Nat → va_E} {r q : Nat} {e : va_E} (h : r ∉ RR) : ro_ws RR ad cn ++ [(q, e)] = ro_ws (RR ++ [r]) (va_up ad r q) (va_up cn r e) := by
  simp only [ro_ws, List.map_append, List.map_cons, List.map_nil, va_up_self]
  congr 1
  apply List.map_congr_left
  intro b hb
  have hbr : b ≠ r := fun z => h (z ▸ hb)
  rw [va_up_ne _ _ hbr, va_up_ne _ _ hbr]
theorem ro_P.keep {D : va_G} {n0 : Nat} {RR : List Nat} {ad : Nat → Nat} {cn : Nat → va_E} {H H1 : Heap} (h : ro_P D n0 RR ad cn H) (hq : ∀ q : Nat, q < H.size → H1[q]? = H[q]?) : ro_P D n0 RR ad cn H1 := ⟨fun k q hk => (h.1 k q hk).kept (hq _ (h.1 k q hk).lt), h.2⟩
/-- contracts: entered with the heap Hh -/
def ro_pre (D : va_G) (ids : Nat → ClassId) (n0 : Nat) (as : List Value) (Hh : Heap) : Array Value → State → Prop := va_Pc as (fun U => En D ids n0 U ∧ U.heap = Hh)
def ro_Q (n0 : Nat) (post : Option Value → Heap → Prop) : Array Value → State → Outcome → State → Prop := fun _ st oc t => ∃ v, oc = .returned v ∧ post v t.heap ∧ va_F (fun q => n0 ≤ q) st t
def ro_X (n0 : Nat) (px : String → Heap → Prop) : String → State → State → Prop := fun E st t => px E t.heap ∧ va_F (fun q => n0 ≤ q) st t
/-- a method that returns -/
def ro_M (l : Launch) (y : MethodName) (cy : ByteArray) (maxL : Nat) (ret : Option FieldType) (rm : Room) (D : va_G) (ids : Nat → ClassId) (n0 : Nat) (as : List Value) (Hh : Heap) (post : Option Value → Heap → Prop) : Prop :=
  Met l y (.code y cy maxL ret :: uU) rm (ro_pre D ids n0 as Hh) (ro_Q n0 post) rm.cells rm.slots (fun q => n0 ≤ q)
/-- a method that returns or throws -/
def ro_T (l : Launch) (y : MethodName) (cy : ByteArray) (maxL : Nat) (ret : Option FieldType) (rm : Room) (D : va_G) (ids : Nat → ClassId) (n0 : Nat) (as : List Value) (Hh : Heap) (post : Option Value → Heap → Prop) (px : String → Heap → Prop) : Prop :=
  vx_Met l y (.code y cy maxL ret :: uU) rm (ro_pre D ids n0 as Hh) (ro_Q n0 post) (ro_X n0 px) rm.cells rm.slots (fun q => n0 ≤ q)
/-- what a body has at hand -/
def ro_C (p : Program) (s : State) (m : MethodId) (args : Array Value) (meth : Method) (c : Code) (cc : ByteArray) (nL : Nat) (own : String) (D : va_G) (ids : Nat → ClassId) (n0 : Nat) : Prop := CallFix p m c cc nL s args uU own ∧ En D ids n0 s ∧ meth.locks = false
section RO
variable {p : Program} {l : Launch} {e : Env} {R : Room} {s : State} {m : MethodId} {args : Array Value} {below : List Frame} {meth : Method} {c : Code} {H : Heap} {locs : List Loc} {cells slots : Nat} {Q : State → Prop}
variable {cc : ByteArray} {nL : Nat} {own : String} {D : va_G} {ids : Nat → ClassId} {n0 : Nat} {RR : List Nat} {ad : Nat → Nat} {cn : Nat → va_E} {pc : Nat} {ls : Array Slot} {rest : List Value}
theorem ro_P.of (h : ro_P D n0 RR ad cn H) : va_P D vwCl (ro_ws RR ad cn) H := h.1
theorem ro_get (MC : ro_C p s m args meth c cc nL own D ids n0) (HP : ro_P D n0 RR ad cn H) {r : Nat} (hr : r ∈ RR) {ci N : Nat} {C ref : String} {T : u_T} {fs : List Value} (hf : cn r = .inr (ci, fs)) (hc : vwCl[ci]? = some (C, T, N)) (hin : ∀ w ∈ u_ws C T N, w ∈ uU) (k : Nat) (hk : k < N) {index : Nat} (hlink : Cond.fieldLink own index ref (T k).2.1 (T k).2.2.1 ∈ uU) (hsame : (T k).1 = ref) {v : Value} (hv : fs[k]? = some v) (hdg : decode cc pc = .ok (.getfield index, 3))
    (kk : W p l e R s m args below meth c H locs cells slots Q (F0 m (pc + 3) ls (v :: rest))) : W p l e R s m args below meth c H locs cells slots Q (F0 m pc ls (.ref (ad r) :: rest)) := by
  obtain ⟨⟨hx, hb, hml, hown, hts⟩, hE, -⟩ := MC
  obtain ⟨i, hi, hw⟩ := ro_ix (ad := ad) (cn := cn) hr
  rw [hf] at hw
  exact va_get hx hb hts hin hown hE.1 HP.1 i hw hc k hk (hts _ hlink) (fun x h => by rw [← hsame]; exact h) hv hdg kk
theorem ro_put (MC : ro_C p s m args meth c cc nL own D ids n0) (HP : ro_P D n0 RR ad cn H) (HS : va_S (fun q => n0 ≤ q) s.heap H locs) {r : Nat} (hr : r ∈ RR) {ci N : Nat} {C ref : String} {T : u_T} {fs : List Value} (hf : cn r = .inr (ci, fs)) (hc : vwCl[ci]? = some (C, T, N)) (hin : ∀ w ∈ u_ws C T N, w ∈ uU) {ty0 : Nat → FieldType} (hty : ∀ k, k < N → parseFieldDescriptor (T k).2.2.1 = some (ty0 k)) (hnm : ∀ a, a < N → ∀ b, b < N → a ≠ b → (T a).2.1 ≠ (T b).2.1) (k : Nat) (hk : k < N) {index : Nat} (hlink : Cond.fieldLink own index ref (T k).2.1 (T k).2.2.1 ∈ uU) (hsame : (T k).1 = ref) (hfin : (T k).2.2.2 = false) {v : Value} (hn : narrow (ty0 k) v = v) (hfit : fits (ty0 k) v = true) (hl : k < fs.length) (hdg : decode cc pc = .ok (.putfield index, 3))
    (kk : ∀ (H1 : Heap) (locs1 : List Loc), ro_P D n0 RR ad (va_up cn r (.inr (ci, fs.set k v))) H1 → va_S (fun q => n0 ≤ q) s.heap H1 locs1 → W p l e R s m args below meth c H1 locs1 cells slots Q (F0 m (pc + 3) ls rest)) : W p l e R s m args below meth c H locs cells slots Q (F0 m pc ls (v :: .ref (ad r) :: rest)) := by
  obtain ⟨⟨hx, hb, hml, hown, hts⟩, hE, -⟩ := MC
  obtain ⟨i, hi, hw⟩ := ro_ix (ad := ad) (cn := cn) hr
  rw [hf] at hw
  refine va_put hx hb hts hin ty0 hty hnm hown hE.1 HP.1 HP.2 HS i hw hc k hk (hts _ hlink) (fun x h => by rw [← hsame]; exact h) hfin (hty k hk) hn hfit hl hdg fun H1 locs1 h1 h2 h3 => ?_
  rw [ro_set HP.2 hi] at h1 h2
  exact kk H1 locs1 ⟨h1, h2⟩ h3
theorem ro_putF (MC : ro_C p s m args meth c cc nL own D ids n0) (hinit : meth.name = "<init>") (HP : ro_P D n0 RR ad cn H) (HS : va_S (fun q => n0 ≤ q) s.heap H locs) {r : Nat} (hr : r ∈ RR) {ci N : Nat} {C : String} {T : u_T} {fs : List Value} (hf : cn r = .inr (ci, fs)) (hc : vwCl[ci]? = some (C, T, N)) (hin : ∀ w ∈ u_ws C T N, w ∈ uU) {ty0 : Nat → FieldType} (hty : ∀ k, k < N → parseFieldDescriptor (T k).2.2.1 = some (ty0 k)) (hnm : ∀ a, a < N → ∀ b, b < N → a ≠ b → (T a).2.1 ≠ (T b).2.1) (k : Nat) (hk : k < N) {index : Nat} (hlink : Cond.fieldLink own index own (T k).2.1 (T k).2.2.1 ∈ uU) (hsame : (T k).1 = own) (hfin : (T k).2.2.2 = true) {v : Value} (hn : narrow (ty0 k) v = v) (hfit : fits (ty0 k) v = true) (hl : k < fs.length) (hdg : decode cc pc = .ok (.putfield index, 3))
    (kk : ∀ (H1 : Heap) (locs1 : List Loc), ro_P D n0 RR ad (va_up cn r (.inr (ci, fs.set k v))) H1 → va_S (fun q => n0 ≤ q) s.heap H1 locs1 → W p l e R s m args below meth c H1 locs1 cells slots Q (F0 m (pc + 3) ls rest)) : W p l e R s m args below meth c H locs cells slots Q (F0 m pc ls (v :: .ref (ad r) :: rest)) := by
  obtain ⟨⟨hx, hb, hml, hown, hts⟩, hE, -⟩ := MC
  obtain ⟨i, hi, hw⟩ := ro_ix (ad := ad) (cn := cn) hr
  rw [hf] at hw
  refine va_putF hx hb hts hin ty0 hty hnm hown hE.1 HP.1 HP.2 HS i hw hc k hk (hts _ hlink) (fun x h => by rw [← hsame]; exact h) hfin hinit hsame (hty k hk) hn hfit hl hdg fun H1 locs1 h1 h2 h3 => ?_
  rw [ro_set HP.2 hi] at h1 h2
  exact kk H1 locs1 ⟨h1, h2⟩ h3
theorem ro_iald (MC : ro_C p s m args meth c cc nL own D ids n0) (HP : ro_P D n0 RR ad cn H) {r : Nat} (hr : r ∈ RR) {n : Nat} {f : Nat → Int32} (hf : cn r = .inl (ids 0, n, .inl f)) {i : Int32} (hin : vp_in i n) (hdg : decode cc pc = .ok (.iaload, 1))
    (kk : W p l e R s m args below meth c H locs cells slots Q (F0 m (pc + 1) ls (.int (f i.toNatClampNeg) :: rest))) : W p l e R s m args below meth c H locs cells slots Q (F0 m pc ls (.int i :: .ref (ad r) :: rest)) := by
  obtain ⟨⟨hx, hb, hml, hown, hts⟩, hE, -⟩ := MC
  obtain ⟨k, hi, hw⟩ := ro_ix (ad := ad) (cn := cn) hr
  rw [hf] at hw
  exact va_iald hx hb hE.1 HP.1 k 0 hw rfl hin hdg kk
theorem ro_zald (MC : ro_C p s m args meth c cc nL own D ids n0) (HP : ro_P D n0 RR ad cn H) {r : Nat} (hr : r ∈ RR) {n : Nat} {f : Nat → Int32} (hf : cn r = .inl (ids 1, n, .inl f)) {i : Int32} (hin : vp_in i n) (hdg : decode cc pc = .ok (.baload, 1))
    (kk : W p l e R s m args below meth c H locs cells slots Q (F0 m (pc + 1) ls (.int (f i.toNatClampNeg) :: rest))) : W p l e R s m args below meth c H locs cells slots Q (F0 m pc ls (.int i :: .ref (ad r) :: rest)) := by
  obtain ⟨⟨hx, hb, hml, hown, hts⟩, hE, -⟩ := MC
  obtain ⟨k, hi, hw⟩ := ro_ix (ad := ad) (cn := cn) hr
  rw [hf] at hw
  exact va_zald hx hb hE.1 HP.1 k 1 hw rfl hin hdg kk
theorem ro_aald (MC : ro_C p s m args meth c cc nL own D ids n0) (HP : ro_P D n0 RR ad cn H) (t0 : Nat) {C : String} {r : Nat} (hr : r ∈ RR) {n : Nat} {f : Nat → Option Nat} (hf : cn r = .inl (ids t0, n, .inr (.inr (.inr (.inr f))))) (ht : (uTy ids)[t0]? = some (ids t0, .object C)) {i : Int32} (hin : vp_in i n) (hdg : decode cc pc = .ok (.aaload, 1))
    (kk : W p l e R s m args below meth c H locs cells slots Q (F0 m (pc + 1) ls (va_rf (f i.toNatClampNeg) :: rest))) : W p l e R s m args below meth c H locs cells slots Q (F0 m pc ls (.int i :: .ref (ad r) :: rest)) := by
  obtain ⟨⟨hx, hb, hml, hown, hts⟩, hE, -⟩ := MC
  obtain ⟨k, hi, hw⟩ := ro_ix (ad := ad) (cn := cn) hr
  rw [hf] at hw
  exact va_aldq hx hb hE.1 HP.1 k t0 hw ht hin hdg kk
theorem ro_iast (MC : ro_C p s m args meth c cc nL own D ids n0) (HP : ro_P D n0 RR ad cn H) (HS : va_S (fun q => n0 ≤ q) s.heap H locs) {r : Nat} (hr : r ∈ RR) {n : Nat} {f : Nat → Int32} (hf : cn r = .inl (ids 0, n, .inl f)) {i x : Int32} (hin : vp_in i n) (hdg : decode cc pc = .ok (.iastore, 1))
    (kk : ∀ (H1 : Heap) (locs1 : List Loc), ro_P D n0 RR ad (va_up cn r (.inl (ids 0, n, .inl (upd f i.toNatClampNeg x)))) H1 → va_S (fun q => n0 ≤ q) s.heap H1 locs1 → W p l e R s m args below meth c H1 locs1 cells slots Q (F0 m (pc + 1) ls rest)) : W p l e R s m args below meth c H locs cells slots Q (F0 m pc ls (.int x :: .int i :: .ref (ad r) :: rest)) := by
  obtain ⟨⟨hx, hb, hml, hown, hts⟩, hE, -⟩ := MC
  obtain ⟨k, hi, hw⟩ := ro_ix (ad := ad) (cn := cn) hr
  rw [hf] at hw
  refine va_iast hx hb hE.1 HP.1 HP.2 HS k 0 hw rfl hin hdg fun H1 locs1 h1 h2 h3 => ?_
  rw [ro_set HP.2 hi] at h1 h2
  exact kk H1 locs1 ⟨h1, h2⟩ h3
theorem ro_zast (MC : ro_C p s m args meth c cc nL own D ids n0) (HP : ro_P D n0 RR ad cn H) (HS : va_S (fun q => n0 ≤ q) s.heap H locs) {r : Nat} (hr : r ∈ RR) {n : Nat} {f : Nat → Int32} (hf : cn r = .inl (ids 1, n, .inl f)) {i x : Int32} (hin : vp_in i n) (hnar : vp_nar .boolean x = x) (hdg : decode cc pc = .ok (.bastore, 1))
    (kk : ∀ (H1 : Heap) (locs1 : List Loc), ro_P D n0 RR ad (va_up cn r (.inl (ids 1, n, .inl (upd f i.toNatClampNeg x)))) H1 → va_S (fun q => n0 ≤ q) s.heap H1 locs1 → W p l e R s m args below meth c H1 locs1 cells slots Q (F0 m (pc + 1) ls rest)) : W p l e R s m args below meth c H locs cells slots Q (F0 m pc ls (.int x :: .int i :: .ref (ad r) :: rest)) := by
  obtain ⟨⟨hx, hb, hml, hown, hts⟩, hE, -⟩ := MC
  obtain ⟨k, hi, hw⟩ := ro_ix (ad := ad) (cn := cn) hr
  rw [hf] at hw
  refine va_zast hx hb hE.1 HP.1 HP.2 HS k 1 hw rfl hin hdg fun H1 locs1 h1 h2 h3 => ?_
  rw [ro_set HP.2 hi, hnar] at h1 h2
  exact kk H1 locs1 ⟨h1, h2⟩ h3
theorem ro_any {ci : Nat} {fs : List Value} {q : vw_C} {r : Nat} {E : String} (hE : En D ids n0 s) (HP : ro_P D n0 RR ad cn H) (hr : r ∈ RR) (hf : cn r = .inr (ci, fs)) (hc : vwCl[ci]? = some q) (hcast : (q.1, E) ∈ uNc) : va_Any E s H (ad r) := by
  obtain ⟨k, hi, hw⟩ := ro_ix (ad := ad) (cn := cn) hr
  rw [hf] at hw
  refine va_rAny hE.1 HP.1 hw hc fun comp c0 h1 h2 => ?_
  obtain ⟨c3, c4, hc3, hc4, hasg⟩ := Cond.castable_spec (hE.2.2.2.2.2.2.1 _ hcast)
  cases Option.some.inj (hc3.symm.trans h2)
  cases Option.some.inj (hc4.symm.trans h1)
  exact hasg
theorem ro_aastM (MC : ro_C p s m args meth c cc nL own D ids n0) (HP : ro_P D n0 RR ad cn H) (HS : va_S (fun q => n0 ≤ q) s.heap H locs) (t0 : Nat) {C : String} {r : Nat} (hr : r ∈ RR) {n v : Nat} {f : Nat → Option Nat} (hf : cn r = .inl (ids t0, n, .inr (.inr (.inr (.inr f))))) (ht : (uTy ids)[t0]? = some (ids t0, .object C)) (hv : va_Any C s H v) {i : Int32} (hin : vp_in i n) (hdg : decode cc pc = .ok (.aastore, 1))
    (kk : ∀ (H1 : Heap) (locs1 : List Loc), ro_P D n0 RR ad (va_up cn r (.inl (ids t0, n, .inr (.inr (.inr (.inr (va_up f i.toNatClampNeg (some v)))))))) H1 → va_S (fun q => n0 ≤ q) s.heap H1 locs1 → W p l e R s m args below meth c H1 locs1 cells slots Q (F0 m (pc + 1) ls rest)) : W p l e R s m args below meth c H locs cells slots Q (F0 m pc ls (.ref v :: .int i :: .ref (ad r) :: rest)) := by
  obtain ⟨⟨hx, hb, hml, hown, hts⟩, hE, -⟩ := MC
  obtain ⟨k, hi, hw⟩ := ro_ix (ad := ad) (cn := cn) hr
  rw [hf] at hw
  refine va_astqM hx hb hE.1 HP.1 HP.2 HS k t0 hw ht hv hin hdg fun H1 locs1 h1 h2 h3 => ?_
  rw [ro_set HP.2 hi] at h1 h2
  exact kk H1 locs1 ⟨h1, h2⟩ h3
theorem ro_aast (MC : ro_C p s m args meth c cc nL own D ids n0) (HP : ro_P D n0 RR ad cn H) (HS : va_S (fun q => n0 ≤ q) s.heap H locs) (t0 : Nat) {q : vw_C} {r rv ci : Nat} {vs : List Value} (hr : r ∈ RR) {n : Nat} {f : Nat → Option Nat} (hf : cn r = .inl (ids t0, n, .inr (.inr (.inr (.inr f))))) (ht : (uTy ids)[t0]? = some (ids t0, .object q.1)) (hrv : rv ∈ RR) (hfv : cn rv = .inr (ci, vs)) (hc : vwCl[ci]? = some q) {i : Int32} (hin : vp_in i n) (hdg : decode cc pc = .ok (.aastore, 1))
    (kk : ∀ (H1 : Heap) (locs1 : List Loc), ro_P D n0 RR ad (va_up cn r (.inl (ids t0, n, .inr (.inr (.inr (.inr (va_up f i.toNatClampNeg (some (ad rv))))))))) H1 → va_S (fun q => n0 ≤ q) s.heap H1 locs1 → W p l e R s m args below meth c H1 locs1 cells slots Q (F0 m (pc + 1) ls rest)) : W p l e R s m args below meth c H locs cells slots Q (F0 m pc ls (.ref (ad rv) :: .int i :: .ref (ad r) :: rest)) := by
  obtain ⟨⟨hx, hb, hml, hown, hts⟩, hE, -⟩ := MC
  obtain ⟨k, hi, hw⟩ := ro_ix (ad := ad) (cn := cn) hr
  obtain ⟨kv, hiv, hwv⟩ := ro_ix (ad := ad) (cn := cn) hrv
  rw [hf] at hw
  rw [hfv] at hwv
  refine va_astq hx hb hE.1 HP.1 HP.2 HS k t0 kv ci hw ht hwv hc hin hdg fun H1 locs1 h1 h2 h3 => ?_
  rw [ro_set HP.2 hi] at h1 h2
  exact kk H1 locs1 ⟨h1, h2⟩ h3
theorem ro_aastN (MC : ro_C p s m args meth c cc nL own D ids n0) (HP : ro_P D n0 RR ad cn H) (HS : va_S (fun q => n0 ≤ q) s.heap H locs) (t0 : Nat) {C : String} {r : Nat} (hr : r ∈ RR) {n : Nat} {f : Nat → Option Nat} (hf : cn r = .inl (ids t0, n, .inr (.inr (.inr (.inr f))))) (ht : (uTy ids)[t0]? = some (ids t0, .object C)) {i : Int32} (hin : vp_in i n) (hdg : decode cc pc = .ok (.aastore, 1))
    (kk : ∀ (H1 : Heap) (locs1 : List Loc), ro_P D n0 RR ad (va_up cn r (.inl (ids t0, n, .inr (.inr (.inr (.inr (va_up f i.toNatClampNeg none))))))) H1 → va_S (fun q => n0 ≤ q) s.heap H1 locs1 → W p l e R s m args below meth c H1 locs1 cells slots Q (F0 m (pc + 1) ls rest)) : W p l e R s m args below meth c H locs cells slots Q (F0 m pc ls (.null :: .int i :: .ref (ad r) :: rest)) := by
  obtain ⟨⟨hx, hb, hml, hown, hts⟩, hE, -⟩ := MC
  obtain ⟨k, hi, hw⟩ := ro_ix (ad := ad) (cn := cn) hr
  rw [hf] at hw
  refine va_astqN hx hb hE.1 HP.1 HP.2 HS k t0 hw ht hin hdg fun H1 locs1 h1 h2 h3 => ?_
  rw [ro_set HP.2 hi] at h1 h2
  exact kk H1 locs1 ⟨h1, h2⟩ h3
theorem ro_new (MC : ro_C p s m args meth c cc nL own D ids n0) (HP : ro_P D n0 RR ad cn H) (HS : va_S (fun q => n0 ≤ q) s.heap H locs) (r : Nat) (hr : r ∉ RR) {ci N : Nat} {C : String} {T : u_T} (fs : List Value) (hc : vwCl[ci]? = some (C, T, N)) (hin : ∀ w ∈ u_ws C T N, w ∈ uU) {ty0 : Nat → FieldType} (hty : ∀ k, k < N → parseFieldDescriptor (T k).2.2.1 = some (ty0 k)) {index : Nat} (hcl : Cond.classLink own index C ∈ uU) (hinst : Cond.instantiable C N ∈ uU) (hini : Cond.initialized C ∈ uU) (hfs : ∀ j, j < N → defaultValue (ty0 j) = vp_V fs j) (hcells : cells + 1 ≤ R.cells) (hslots : slots + N ≤ R.slots) (hdg : decode cc pc = .ok (.new index, 3))
    (kk : ∀ (q : Nat) (H1 : Heap), n0 ≤ q → ro_P D n0 (RR ++ [r]) (va_up ad r q) (va_up cn r (.inr (ci, fs))) H1 → va_S (fun q => n0 ≤ q) s.heap H1 locs → W p l e R s m args below meth c H1 locs (cells + 1) (slots + N) Q (F0 m (pc + 3) ls (.ref q :: rest))) : W p l e R s m args below meth c H locs cells slots Q (F0 m pc ls rest) := by
  obtain ⟨⟨hx, hb, hml, hown, hts⟩, hE, -⟩ := MC
  refine va_new hx hb hts hin ty0 hty hown (hts _ hcl) (hts _ hinst) (hts _ hini) hE.1 HP.1 HP.2 HS (fun q h => Nat.le_trans hE.2.2.2.1 h) hc hfs hcells hslots hdg fun q H1 h1 h2 h3 => ?_
  have hn : n0 ≤ q := h2.2 (ro_ws RR ad cn).length (q, .inr (ci, fs)) (by simp)
  rw [ro_push hr] at h1 h2
  exact kk q H1 hn ⟨h1, h2⟩ h3
theorem ro_newa (MC : ro_C p s m args meth c cc nL own D ids n0) (HP : ro_P D n0 RR ad cn H) (HS : va_S (fun q => n0 ≤ q) s.heap H locs) (r : Nat) (hr : r ∉ RR) {atype : ArrayType} (t0 : Nat) {ty : FieldType} (hty : newarray.typeOf atype = ty) (harr : Cond.arrayClass ty ∈ uU) (ht : (uTy ids)[t0]? = some (ids t0, ty)) {x : vp_A} (hobj : ∀ C, ty ≠ .object C) (hx9 : vp_cell (ids t0) x = arrV (ids t0) x.1 (fun _ => defaultValue ty))
    {n : Int32} (hn : ¬ n < 0) (hN : n.toNatClampNeg = x.1) (hbytes : x.1 * componentBytes ty ≤ 536870912) (hcells : cells + 1 ≤ R.cells) (hslots : slots + x.1 ≤ R.slots) (hdg : decode cc pc = .ok (.newarray atype, 2))
    (kk : ∀ (q : Nat) (H1 : Heap), n0 ≤ q → ro_P D n0 (RR ++ [r]) (va_up ad r q) (va_up cn r (.inl (ids t0, x))) H1 → va_S (fun q => n0 ≤ q) s.heap H1 locs → W p l e R s m args below meth c H1 locs (cells + 1) (slots + x.1) Q (F0 m (pc + 2) ls (.ref q :: rest))) : W p l e R s m args below meth c H locs cells slots Q (F0 m pc ls (.int n :: rest)) := by
  obtain ⟨⟨hx, hb, hml, hown, hts⟩, hE, -⟩ := MC
  subst hty
  refine va_newaK hx hb (hts _ harr) rfl hdg rfl hn hN hbytes hcells hslots rfl fun H1 cA e1 z1 o1 hAr hfc => ?_
  have hcA : cA = ids t0 := by
    have h9 := (hE.1.2 t0 _ ht).2
    unfold va_RA at h9
    split at h9
    · next C h8 => exact absurd h8 (hobj C)
    · exact Option.some.inj (hfc.symm.trans h9)
  subst hcA
  have hk : ∀ (k : Nat) (y : Nat × va_E), (ro_ws RR ad cn)[k]? = some y → H1[y.1]? = H[y.1]? := fun k y hy => o1 y.1 ((HP.1 k y hy).lt)
  have h1 : va_P D vwCl (ro_ws RR ad cn ++ [(H.size, .inl (ids t0, x))]) H1 := (HP.1.kept hk).app (fun k y hy => by
    have hz : k < 1 := (List.getElem?_eq_some_iff.mp hy).1
    rw [show k = 0 by omega] at hy
    cases hy
    show H1[H.size]? = some (vp_cell _ _)
    rw [hx9]; exact e1)
  have hA : n0 ≤ H.size := Nat.le_trans hE.2.2.2.1 HS.1
  have h2 : va_D (fun q => n0 ≤ q) (ro_ws RR ad cn ++ [(H.size, .inl (ids t0, x))]) := HP.2.push HP.1 rfl hA
  rw [ro_push hr] at h1 h2
  exact kk H.size H1 hA ⟨h1, h2⟩ ⟨Nat.le_trans HS.1 (by omega), fun y h1 h2 => (o1 y (Nat.lt_of_lt_of_le h1 HS.1)).trans (HS.2.1 y h1 h2), HS.2.2⟩
theorem ro_newq (MC : ro_C p s m args meth c cc nL own D ids n0) (HP : ro_P D n0 RR ad cn H) (HS : va_S (fun q => n0 ≤ q) s.heap H locs) (r : Nat) (hr : r ∉ RR) {C : String} {index : Nat} (hcl : Cond.classLink own index C ∈ uU) (hao : C ∈ uAO) (t0 : Nat) (ht : (uTy ids)[t0]? = some (ids t0, .object C))
    {n : Int32} (N : Nat) (hn : ¬ n < 0) (hN : n.toNatClampNeg = N) (hbytes : N * 4 ≤ 536870912) (hcells : cells + 1 ≤ R.cells) (hslots : slots + N ≤ R.slots) (hdg : decode cc pc = .ok (.anewarray index, 3))
    (kk : ∀ (q : Nat) (H1 : Heap), n0 ≤ q → ro_P D n0 (RR ++ [r]) (va_up ad r q) (va_up cn r (.inl (ids t0, N, .inr (.inr (.inr (.inr (fun _ => none))))))) H1 → va_S (fun q => n0 ≤ q) s.heap H1 locs → W p l e R s m args below meth c H1 locs (cells + 1) (slots + N) Q (F0 m (pc + 3) ls (.ref q :: rest))) : W p l e R s m args below meth c H locs cells slots Q (F0 m pc ls (.int n :: rest)) := by
  obtain ⟨⟨hx, hb, hml, hown, hts⟩, hE, -⟩ := MC
  refine va_newq hx hb hown (hts _ hcl) (hE.2.2.2.2.2.2.2.1 _ hao) hE.1 HP.1 HP.2 HS (fun q h => Nat.le_trans hE.2.2.2.1 h) hn hN hbytes hcells hslots hdg fun q cA H1 hK1 h1 h2 h3 => ?_
  have hcA : cA = ids t0 := by
    have h8 := (hK1.2 6 (cA, .object C) rfl).2
    have h9 := (hE.1.2 t0 _ ht).2
    obtain ⟨-, -, -, -, -, h8⟩ := h8
    obtain ⟨-, -, -, -, -, h9⟩ := h9
    exact Option.some.inj (h8.symm.trans h9)
  subst hcA
  have hn9 : n0 ≤ q := h2.2 (ro_ws RR ad cn).length (q, .inl (ids t0, N, .inr (.inr (.inr (.inr (fun _ => none)))))) (by simp)
  rw [ro_push hr] at h1 h2
  exact kk q H1 hn9 ⟨h1, h2⟩ h3
end RO
