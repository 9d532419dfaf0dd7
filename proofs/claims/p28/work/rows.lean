section
-- ===== PART A: goes FIRST, ahead of the names: the tables' words, and 'selects' of the private methods out of them =====
/-- a private method of a class that the tables say can be made, by its rows of tables_1 -/
def lw_okq (q : MethodName × Nat) : Prop := (q.1.cls ≠ "java/lang/invoke/MethodHandle" ∧ q.1.cls ≠ "java/lang/invoke/VarHandle") ∧ Cond.instantiable q.1.cls q.2 ∈ tables_1 ∧ Cond.privateMethod q.1 ∈ tables_1 ∧ Cond.instanceMethod q.1 ∈ tables_1
theorem lw_p0 : lw_okq (⟨"FrostCalendar", "needScope", "(I)V"⟩, 11) := ⟨⟨by decide +kernel, by decide +kernel⟩, List.mem_of_getElem? (i := 17) (by decide +kernel), List.mem_of_getElem? (i := 84) (by decide +kernel), List.mem_of_getElem? (i := 85) (by decide +kernel)⟩
theorem lw_p1 : lw_okq (⟨"java/lang/Throwable", "fillInStackTrace", "(I)Ljava/lang/Throwable;"⟩, 6) := ⟨⟨by decide +kernel, by decide +kernel⟩, List.mem_of_getElem? (i := 127) (by decide +kernel), List.mem_of_getElem? (i := 125) (by decide +kernel), List.mem_of_getElem? (i := 126) (by decide +kernel)⟩
theorem lw_p2 : lw_okq (⟨"FrostCalendar", "needLand", "(I)LFrostCalendar$Land;"⟩, 11) := ⟨⟨by decide +kernel, by decide +kernel⟩, List.mem_of_getElem? (i := 17) (by decide +kernel), List.mem_of_getElem? (i := 177) (by decide +kernel), List.mem_of_getElem? (i := 178) (by decide +kernel)⟩
theorem lw_p3 : lw_okq (⟨"FrostCalendar", "needRoomForFreeze", "()V"⟩, 11) := ⟨⟨by decide +kernel, by decide +kernel⟩, List.mem_of_getElem? (i := 17) (by decide +kernel), List.mem_of_getElem? (i := 229) (by decide +kernel), List.mem_of_getElem? (i := 230) (by decide +kernel)⟩
theorem lw_p4 : lw_okq (⟨"FrostCalendar", "lay", "(LFrostCalendar$Freeze;)I"⟩, 11) := ⟨⟨by decide +kernel, by decide +kernel⟩, List.mem_of_getElem? (i := 17) (by decide +kernel), List.mem_of_getElem? (i := 258) (by decide +kernel), List.mem_of_getElem? (i := 259) (by decide +kernel)⟩
theorem lw_p5 : lw_okq (⟨"FrostCalendar", "needFreeze", "(I)LFrostCalendar$Freeze;"⟩, 11) := ⟨⟨by decide +kernel, by decide +kernel⟩, List.mem_of_getElem? (i := 17) (by decide +kernel), List.mem_of_getElem? (i := 304) (by decide +kernel), List.mem_of_getElem? (i := 305) (by decide +kernel)⟩
theorem lw_p6 : lw_okq (⟨"FrostCalendar", "freezesTouchingScope", "(I)I"⟩, 11) := ⟨⟨by decide +kernel, by decide +kernel⟩, List.mem_of_getElem? (i := 17) (by decide +kernel), List.mem_of_getElem? (i := 328) (by decide +kernel), List.mem_of_getElem? (i := 329) (by decide +kernel)⟩
theorem lw_p7 : lw_okq (⟨"FrostCalendar", "isOneInTheOther", "(II)Z"⟩, 11) := ⟨⟨by decide +kernel, by decide +kernel⟩, List.mem_of_getElem? (i := 17) (by decide +kernel), List.mem_of_getElem? (i := 332) (by decide +kernel), List.mem_of_getElem? (i := 333) (by decide +kernel)⟩
theorem lw_p8 : lw_okq (⟨"FrostCalendar", "holdingAmong", "(II)I"⟩, 11) := ⟨⟨by decide +kernel, by decide +kernel⟩, List.mem_of_getElem? (i := 17) (by decide +kernel), List.mem_of_getElem? (i := 337) (by decide +kernel), List.mem_of_getElem? (i := 338) (by decide +kernel)⟩
theorem lw_p9 : lw_okq (⟨"FrostCalendar", "needChange", "(I)LFrostCalendar$Change;"⟩, 11) := ⟨⟨by decide +kernel, by decide +kernel⟩, List.mem_of_getElem? (i := 17) (by decide +kernel), List.mem_of_getElem? (i := 420) (by decide +kernel), List.mem_of_getElem? (i := 421) (by decide +kernel)⟩
theorem lw_p10 : lw_okq (⟨"FrostCalendar", "countBadHours", "(LFrostCalendar$Change;)I"⟩, 11) := ⟨⟨by decide +kernel, by decide +kernel⟩, List.mem_of_getElem? (i := 17) (by decide +kernel), List.mem_of_getElem? (i := 429) (by decide +kernel), List.mem_of_getElem? (i := 430) (by decide +kernel)⟩
theorem lw_p11 : lw_okq (⟨"FrostCalendar", "freezesAgainst", "(LFrostCalendar$Change;)I"⟩, 11) := ⟨⟨by decide +kernel, by decide +kernel⟩, List.mem_of_getElem? (i := 17) (by decide +kernel), List.mem_of_getElem? (i := 433) (by decide +kernel), List.mem_of_getElem? (i := 434) (by decide +kernel)⟩
theorem lw_p12 : lw_okq (⟨"FrostCalendar", "freezesTouchingChange", "(LFrostCalendar$Change;)I"⟩, 11) := ⟨⟨by decide +kernel, by decide +kernel⟩, List.mem_of_getElem? (i := 17) (by decide +kernel), List.mem_of_getElem? (i := 437) (by decide +kernel), List.mem_of_getElem? (i := 438) (by decide +kernel)⟩
theorem lw_p13 : lw_okq (⟨"FrostCalendar", "markBadHours", "(LFrostCalendar$Change;LFrostCalendar$Freeze;)I"⟩, 11) := ⟨⟨by decide +kernel, by decide +kernel⟩, List.mem_of_getElem? (i := 17) (by decide +kernel), List.mem_of_getElem? (i := 441) (by decide +kernel), List.mem_of_getElem? (i := 442) (by decide +kernel)⟩
theorem lw_p14 : lw_okq (⟨"FrostCalendar", "firstBadHour", "(LFrostCalendar$Change;)I"⟩, 11) := ⟨⟨by decide +kernel, by decide +kernel⟩, List.mem_of_getElem? (i := 17) (by decide +kernel), List.mem_of_getElem? (i := 456) (by decide +kernel), List.mem_of_getElem? (i := 457) (by decide +kernel)⟩
theorem lw_p15 : lw_okq (⟨"FrostCalendar", "rankToSpend", "(I)I"⟩, 11) := ⟨⟨by decide +kernel, by decide +kernel⟩, List.mem_of_getElem? (i := 17) (by decide +kernel), List.mem_of_getElem? (i := 479) (by decide +kernel), List.mem_of_getElem? (i := 480) (by decide +kernel)⟩
def lw_privs_1 : List (MethodName × Nat) := [(⟨"FrostCalendar", "needScope", "(I)V"⟩, 11), (⟨"java/lang/Throwable", "fillInStackTrace", "(I)Ljava/lang/Throwable;"⟩, 6), (⟨"FrostCalendar", "needLand", "(I)LFrostCalendar$Land;"⟩, 11), (⟨"FrostCalendar", "needRoomForFreeze", "()V"⟩, 11), (⟨"FrostCalendar", "lay", "(LFrostCalendar$Freeze;)I"⟩, 11), (⟨"FrostCalendar", "needFreeze", "(I)LFrostCalendar$Freeze;"⟩, 11), (⟨"FrostCalendar", "freezesTouchingScope", "(I)I"⟩, 11), (⟨"FrostCalendar", "isOneInTheOther", "(II)Z"⟩, 11), (⟨"FrostCalendar", "holdingAmong", "(II)I"⟩, 11), (⟨"FrostCalendar", "needChange", "(I)LFrostCalendar$Change;"⟩, 11), (⟨"FrostCalendar", "countBadHours", "(LFrostCalendar$Change;)I"⟩, 11), (⟨"FrostCalendar", "freezesAgainst", "(LFrostCalendar$Change;)I"⟩, 11), (⟨"FrostCalendar", "freezesTouchingChange", "(LFrostCalendar$Change;)I"⟩, 11), (⟨"FrostCalendar", "markBadHours", "(LFrostCalendar$Change;LFrostCalendar$Freeze;)I"⟩, 11), (⟨"FrostCalendar", "firstBadHour", "(LFrostCalendar$Change;)I"⟩, 11), (⟨"FrostCalendar", "rankToSpend", "(I)I"⟩, 11)]
theorem lw_r1 : ∀ q ∈ lw_privs_1, lw_okq q := List.forall_mem_cons.mpr ⟨lw_p0, List.forall_mem_cons.mpr ⟨lw_p1, List.forall_mem_cons.mpr ⟨lw_p2, List.forall_mem_cons.mpr ⟨lw_p3, List.forall_mem_cons.mpr ⟨lw_p4, List.forall_mem_cons.mpr ⟨lw_p5, List.forall_mem_cons.mpr ⟨lw_p6, List.forall_mem_cons.mpr ⟨lw_p7, List.forall_mem_cons.mpr ⟨lw_p8, List.forall_mem_cons.mpr ⟨lw_p9, List.forall_mem_cons.mpr ⟨lw_p10, List.forall_mem_cons.mpr ⟨lw_p11, List.forall_mem_cons.mpr ⟨lw_p12, List.forall_mem_cons.mpr ⟨lw_p13, List.forall_mem_cons.mpr ⟨lw_p14, List.forall_mem_cons.mpr ⟨lw_p15, fun _ h => absurd h List.not_mem_nil⟩⟩⟩⟩⟩⟩⟩⟩⟩⟩⟩⟩⟩⟩⟩⟩
def lw_privs : List (MethodName × Nat) := lw_privs_1
def lw_tbl : List Cond := k2_sels lw_privs ++ tables_1
theorem lw_privs_ok : ∀ q ∈ lw_privs, lw_okq q := lw_r1
end
section
/-! ===== BEGIN words of one list among another's, by their places ===== -/
theorem goodIn_r {big : List Cond} (ws : List Cond) (ps : List Nat) (hp : ws = ps.filterMap (fun i => big[i]?)) (h : ws.all goodWord = true) : GoodIn big ws := by
  intro w hw
  have h1 := List.all_eq_true.mp h w hw
  rw [hp] at hw
  obtain ⟨i, -, hi⟩ := List.mem_filterMap.mp hw
  have hm : w ∈ big := by first | exact List.mem_of_getElem? hi | exact List.getElem?_mem hi
  exact ⟨hm, good_of_word h1⟩
theorem goodIn_app {big a b : List Cond} (ha : GoodIn big a) (hb : GoodIn big b) : GoodIn big (a ++ b) := fun w h => (List.mem_append.mp h).elim (ha w) (hb w)
theorem goodIn_ca {big a b : List Cond} {c : Cond} (ha : GoodIn big (c :: a)) (hb : GoodIn big b) : GoodIn big (c :: (a ++ b)) := fun w h => (List.mem_cons.mp h).elim (fun e => ha w (List.mem_cons.mpr (Or.inl e))) (fun h => (List.mem_append.mp h).elim (fun h => ha w (List.mem_cons.mpr (Or.inr h))) (hb w))
theorem goodIn_sub {big ws : List Cond} (hm : ∀ w ∈ ws, w ∈ big) (h : ws.all goodWord = true) : GoodIn big ws := fun w hw => ⟨hm w hw, good_of_word (List.all_eq_true.mp h w hw)⟩
/-! ===== END ===== -/

/-! ===== BEGIN exceptions that leave a method, and their catching by the caller (launches without stack traces) ===== -/
section VXA
/-! The laws vx_back, vx_callV, vx_callS, vx_callSW, vx_throw0, vx_throwS follow proofs of the library, with one case more: JvmDerived/Free/Laws.lean (Back.of_free), Shelf42/LK1.lean (callV, callS), Shelf/KitTraced.lean (throwNew0V, throwNewS). -/
/-- where a method has thrown q: the class by its name, the cell, what was written, the world -/
def vx_T (XC : String → State → State → Prop) (st : State) (q : Addr) (t : State) (mc ms : Nat) (free : Addr → Prop) : Prop :=
  ∃ (E : String) (ce : Cell) (L : List Loc), XC E st t ∧ t.heap[q]? = some ce ∧ ce.vm = .none ∧ st.vm.findClass E = some ce.cls ∧ st.WarmedH t.vm ∧ st.sameButNew ({ t with vm := st.vm } : State) L mc ms ∧ ∀ z ∈ L, free z.base
def vx_Q (Qc : Array Value → State → Outcome → State → Prop) (XC : String → State → State → Prop) (mc ms : Nat) (free : Addr → Prop) : Array Value → State → Outcome → State → Prop := fun a st o t =>
  (Qc a st o t ∧ ∃ L, FrameEnd st o t L mc ms ∧ ∀ q ∈ L, free q.base) ∨ ∃ q, o = .threw q ∧ vx_T XC st q t mc ms free
/-- a callee that returns or throws -/
def vx_Met (l : Launch) (y : MethodName) (ws : List Cond) (rm : Room) (Pc : Array Value → State → Prop) (Qc : Array Value → State → Outcome → State → Prop) (XC : String → State → State → Prop) (mc ms : Nat) (free : Addr → Prop) : Prop :=
  MetFree l y (headSpec ws rm) Pc (fun _ _ _ _ _ => True) (vx_Q Qc XC mc ms free)
def vx_Post (XC : String → State → State → Prop) (mc ms : Nat) (free : Addr → Prop) : Pt → Array Value → Addr → Pt → Prop := fun A a q B =>
  ∃ (g : JFrame) (mk : MethodId) (t : State) (L : List Loc) (E : String) (ce : Cell), B.U.heap = t.heap ∧ B.U.vm = t.vm ∧ XC E (A.U.calling g mk a) t ∧ t.heap[q]? = some ce ∧ ce.vm = .none ∧ A.U.vm.findClass E = some ce.cls ∧ B.locs = A.locs ++ L ∧ (∀ z ∈ L, free z.base) ∧ B.cells = A.cells + mc ∧ B.slots = A.slots + ms
def vx_Back (l : Launch) (R : Room) (p : Program) (e : Env) (below : List Frame) (s : State) (sargs : Array Value) (y : MethodName) (len W9 : Nat)
    (Pre : Pt → Array Value → Prop) (Post : Pt → Array Value → Option Value → Pt → Prop) (PostX : Pt → Array Value → Addr → Pt → Prop) : Prop :=
  ∀ (m : MethodId) (meth : Method) (c : Code) (A : Pt) (g : JFrame) (ig : Instr) (mk : MethodId) (a : Array Value),
    Stand p l e R s m sargs below meth c A.U A.locs A.cells A.slots → g.method = m → g.locals.size = c.maxLocals → decode c.code g.pc = .ok (ig, len) →
    2 * g.monitorRoom + (g.stack.map fun v => v.category).sum ≤ W9 → A.U.methodNamed? y = some mk → Pre A a →
    (∃ (v : Option Value) (B : Pt), Stand p l e R s m sargs below meth c B.U B.locs B.cells B.slots ∧ Post A a v B ∧
      Steps p.tables e below (doInvoke e (A.U.setTop g) [] mk a).1 (B.U.setTop { g with pc := g.pc + len, stack := v.toList ++ g.stack })) ∨
    (∃ (q : Addr) (B : Pt), Stand p l e R s m sargs below meth c B.U B.locs B.cells B.slots ∧ PostX A a q B ∧
      Steps p.tables e below (doInvoke e (A.U.setTop g) [] mk a).1 ((B.U.setTop g).pushFrame (.throwing q)))
section Payer
variable {l : Launch} {R : Room} {p : Program} {e : Env} {below : List Frame} {s : State} {sargs : Array Value} {y : MethodName} {len W9 : Nat}
theorem vx_back {ws : List Cond} {rm : Room} {Pc : Array Value → State → Prop} {Qc : Array Value → State → Outcome → State → Prop} {XC : String → State → State → Prop} {mc ms : Nat} {free : Addr → Prop} {bytes : ByteArray} {maxL : Nat} {ret : Option FieldType}
    (hM : vx_Met l y ws rm Pc Qc XC mc ms free) (hblind : FrameBlind Pc) (hrc : rm.cells = mc) (hrs : rm.slots = ms)
    (hframes : rm.frames + 1 ≤ R.frames) (hlocals : W9 + (maxL + 11) + rm.locals ≤ R.locals)
    (hws : ∀ w ∈ ws, ∀ a' U, s.WarmedH U.vm → w.before a' U = true) (hcode : Cond.code y bytes maxL ret ∈ ws) (hinit : ∀ a' U, s.WarmedH U.vm → (Cond.initialized y.cls).before a' U = true) :
    vx_Back l R p e below s sargs y len W9 (PreOf R mc ms Pc) (PostOf Qc mc ms free) (vx_Post XC mc ms free) := by
  intro m meth c A g ig mk a X hg hsize hdg hW hn hp
  have h1 : (headSpec ws rm).pre.before a A.U = true := atoms_intro fun w hw => hws w hw _ _ X.warmed
  have h2 : (Cond.code y bytes maxL ret).before a A.U = true := hws _ hcode _ _ X.warmed
  have h3 : (Cond.initialized y.cls).before a A.U = true := hinit _ _ X.warmed
  have h4 : A.cells + (headSpec ws rm).room.cells ≤ R.cells := by rw [show (headSpec ws rm).room.cells = mc from hrc]; exact hp.1
  have h5 : A.slots + (headSpec ws rm).room.slots ≤ R.slots := by rw [show (headSpec ws rm).room.slots = ms from hrs]; exact hp.2.1
  have hPc : Pc a (A.U.calling g mk a) := hblind _ _ _ _ hp.2.2
  obtain ⟨U, Ls, c0, s0⟩ := A
  dsimp only [Pt.U, Pt.locs, Pt.cells, Pt.slots] at h1 h2 h3 h4 h5 X hn hPc ⊢
  obtain ⟨methY, cY, hmY, hcY, -, hlY, -, -, -, -⟩ := Cond.code_spec hn h2
  obtain ⟨kY, hkY, -⟩ := className_of_methodNamed hn
  have hinitY : kY.init = .initialized := Cond.initialized_spec (findClass_of_methodNamed hn) hkY h3
  have h : At U g.method c below := by rw [hg]; exact X.here
  have hlocals9 : W9 + (maxL + 11) + (headSpec ws rm).room.locals ≤ R.locals := hlocals
  have happ : (headSpec ws rm).appliesLoose y e.platform (U.calling g mk a) = true :=
    Spec.appliesLoose_calling (g := g) h hdg hn hkY hinitY
      (X.room_calling (g := g) (R' := (headSpec ws rm).room) hsize hmY hcY hframes (by rw [hlY]; omega) h4 h5) h1
  obtain ⟨mid, hmid⟩ := h.above
  have hfr : (U.setTop g).frames = (.java g :: mid) ++ below := by rw [State.frames_setTop' g h.top, hmid]; rfl
  obtain ⟨o, s₂, hsteps, -, hend, hq⟩ := Steps.callFree hM p X.admits X.cas X.clock (acts := []) hfr happ hPc trivial
  have hq' : vx_Q Qc XC mc ms free a (U.calling g mk a) o s₂ := hq
  rw [State.frames_setTop' g h.top] at hend
  obtain ⟨g₀, hg0⟩ := Option.isSome_iff_exists.mp h.top
  obtain ⟨r, hr⟩ := State.topJava?_eq_some.mp hg0
  have hr' : (({ U with heap := s₂.heap, slotsUsed := s₂.slotsUsed } : State).setVm s₂.vm).frames = .java g₀ :: r := hr
  rcases hq' with ⟨hqc, L, hfe, hL⟩ | ⟨q, rfl, E, ce, L, hx, hce, hcv, hcl, hW₂, hsm, hL⟩
  · obtain ⟨⟨v, rfl⟩, hW₂, e2, q2, q3, q4, q5, q6⟩ := id hfe
    have e3 : s₂ = ({ (U.calling g mk a).setFrames s₂.frames with heap := s₂.heap, slotsUsed := s₂.slotsUsed } : State).setVm s₂.vm := by
      have : s₂ = ({ s₂ with vm := (U.calling g mk a).vm } : State).setVm s₂.vm := rfl
      rw [e2] at this
      exact this
    obtain ⟨c₂, i₂, len₂, hc₂, hd₂, hf₂⟩ := hend
    have hW' : U.WarmedH s₂.vm := hW₂
    have hcc : c₂ = c := by
      have h1 : s₂.code? g.method = U.code? g.method := by
        rw [State.code?_eq, State.code?_eq, hW'.alike.method?]
      exact Option.some.inj (hc₂.symm.trans (h1.trans h.code))
    subst hcc
    have hlen : len₂ = len := by rw [hdg] at hd₂; cases hd₂; rfl
    subst hlen
    have hs₂ : s₂ = (({ U with heap := s₂.heap, slotsUsed := s₂.slotsUsed } : State).setVm s₂.vm).setTop { g with pc := g.pc + len₂, stack := v.toList ++ g.stack } := by
      refine e3.trans ?_
      rw [hf₂, State.calling_eq h.top, State.setFrames_setFrames, State.setTop_of_frames _ hr', hr]
      rfl
    have hsame : U.sameButNew ({ U with heap := s₂.heap, slotsUsed := s₂.slotsUsed } : State) L mc ms := by
      refine ⟨?_, q2, q3, q4, q5, q6⟩
      obtain ⟨t, ht, -⟩ := State.frames_cons hr
      show ({ U with heap := s₂.heap, slotsUsed := s₂.slotsUsed } : State) = { U.setFrames U.frames with heap := s₂.heap, slotsUsed := s₂.slotsUsed }
      rw [State.setFrames_self ht]
    subst hg
    refine Or.inl ⟨v, ⟨(({ U with heap := s₂.heap, slotsUsed := s₂.slotsUsed } : State).setVm s₂.vm), Ls ++ L, c0 + mc, s0 + ms⟩,
      ⟨X.admits, X.cas, X.clock, X.frames, X.room, X.hears, X.method, X.code, (X.here.setHeapUsed s₂.heap s₂.slotsUsed).setVm hW'.alike, X.tail, State.WarmedH.trans X.warmed hW', X.limits, X.bytes, X.same.trans (hsame.setVm s.vm)⟩,
      ⟨g, mk, s₂, L, rfl, rfl, hqc, rfl, hL, rfl, rfl⟩, ?_⟩
    show Steps p.tables e below _ ((({ U with heap := s₂.heap, slotsUsed := s₂.slotsUsed } : State).setVm s₂.vm).setTop { g with pc := g.pc + len₂, stack := v.toList ++ g.stack })
    rw [← hs₂]
    exact hsteps
  · obtain ⟨e2, q2, q3, q4, q5, q6⟩ := id hsm
    have e3 : s₂ = ({ (U.calling g mk a).setFrames s₂.frames with heap := s₂.heap, slotsUsed := s₂.slotsUsed } : State).setVm s₂.vm := by
      have : s₂ = ({ s₂ with vm := (U.calling g mk a).vm } : State).setVm s₂.vm := rfl
      rw [e2] at this
      exact this
    have hf₂ : s₂.frames = .throwing q :: .java g :: U.frames.tail := hend
    have hW' : U.WarmedH s₂.vm := hW₂
    have hs₂ : s₂ = ((({ U with heap := s₂.heap, slotsUsed := s₂.slotsUsed } : State).setVm s₂.vm).setTop g).pushFrame (.throwing q) := by
      refine e3.trans ?_
      rw [hf₂, State.calling_eq h.top, State.setFrames_setFrames, State.pushFrame, State.frames_setTop _ hr', State.setTop_of_frames _ hr', State.setFrames_setFrames, hr]
      rfl
    have hsame : U.sameButNew ({ U with heap := s₂.heap, slotsUsed := s₂.slotsUsed } : State) L mc ms := by
      refine ⟨?_, q2, q3, q4, q5, q6⟩
      obtain ⟨t, ht, -⟩ := State.frames_cons hr
      show ({ U with heap := s₂.heap, slotsUsed := s₂.slotsUsed } : State) = { U.setFrames U.frames with heap := s₂.heap, slotsUsed := s₂.slotsUsed }
      rw [State.setFrames_self ht]
    subst hg
    refine Or.inr ⟨q, ⟨(({ U with heap := s₂.heap, slotsUsed := s₂.slotsUsed } : State).setVm s₂.vm), Ls ++ L, c0 + mc, s0 + ms⟩,
      ⟨X.admits, X.cas, X.clock, X.frames, X.room, X.hears, X.method, X.code, (X.here.setHeapUsed s₂.heap s₂.slotsUsed).setVm hW'.alike, X.tail, State.WarmedH.trans X.warmed hW', X.limits, X.bytes, X.same.trans (hsame.setVm s.vm)⟩,
      ⟨g, mk, s₂, L, E, ce, rfl, rfl, hx, hce, hcv, hcl, rfl, hL, rfl, rfl⟩, ?_⟩
    show Steps p.tables e below _ (((({ U with heap := s₂.heap, slotsUsed := s₂.slotsUsed } : State).setVm s₂.vm).setTop g).pushFrame (.throwing q))
    rw [← hs₂]
    exact hsteps
end Payer
section Calls
variable {p : Program} {l : Launch} {e : Env} {R : Room} {s : State} {m : MethodId} {args : Array Value} {below : List Frame} {meth : Method} {c : Code} {T : State} {locs : List Loc} {cells slots : Nat}
theorem vx_callV (X : Stand p l e R s m args below meth c T locs cells slots) (hexec : p.tables.exec = Jvm.exec) {own C : String} {index : Nat} {y : MethodName} {bytes : ByteArray} {maxL : Nat} {ret : Option FieldType}
    (hown : s.vm.findClass own = some m.cls) (hlink : (Cond.methodLink own index y).before args s = true) (hinst : (Cond.instanceMethod y).before args s = true) (hsel : (Cond.selects C y y).before args s = true)
    (hcode : (Cond.code y bytes maxL ret).before args s = true) (hy : y.cls ≠ "java/lang/invoke/MethodHandle" ∧ y.cls ≠ "java/lang/invoke/VarHandle")
    {W9 : Nat} {Pre : Pt → Array Value → Prop} {Post : Pt → Array Value → Option Value → Pt → Prop} {PostX : Pt → Array Value → Addr → Pt → Prop} (hK : vx_Back l R p e below s args y 3 W9 Pre Post PostX)
    {b : Addr} {cellB : Cell} (hcell : T.heap[b]? = some cellB) (hobj : cellB.vm.isStatics = false) (hcls : s.vm.findClass C = some cellB.cls)
    {g : JFrame} (hg : g.method = m) (hsize : g.locals.size = c.maxLocals) {argsL rest : List Value} (hlen : ∀ sig, parseMethodDescriptor y.desc = some sig → argsL.length = sig.parameters.length)
    (hstack : g.stack = argsL.reverse ++ .ref b :: rest) (hW : 2 * g.monitorRoom + (rest.map fun v => v.category).sum ≤ W9) (hdg : decode c.code g.pc = .ok (.invokevirtual index, 3))
    (hpre : ∀ vm₁, s.WarmedH vm₁ → Pre ⟨T.setVm vm₁, locs, cells, slots⟩ (Value.ref b :: argsL).toArray) :
    (∃ (v : Option Value) (vm₁ : Vm) (B : Pt), s.WarmedH vm₁ ∧ Stand p l e R s m args below meth c B.U B.locs B.cells B.slots ∧ Post ⟨T.setVm vm₁, locs, cells, slots⟩ (Value.ref b :: argsL).toArray v B ∧
      ∀ target, Steps p.tables e below (B.U.setTop { g with pc := g.pc + 3, stack := v.toList ++ rest }) target → Steps p.tables e below (T.setTop g) target) ∨
    (∃ (q : Addr) (vm₁ : Vm) (B : Pt), s.WarmedH vm₁ ∧ Stand p l e R s m args below meth c B.U B.locs B.cells B.slots ∧ PostX ⟨T.setVm vm₁, locs, cells, slots⟩ (Value.ref b :: argsL).toArray q B ∧
      Steps p.tables e below (T.setTop g) ((B.U.setTop { g with stack := rest }).pushFrame (.throwing q))) := by
  obtain ⟨mk, methM, hnamed, hmethM, hstM, habM⟩ := Cond.instanceMethod_spec hinst
  obtain ⟨methM', cM, hmethM', -, -, -, -, -, -, hsigM⟩ := Cond.code_spec hnamed hcode
  cases hmethM.symm.trans hmethM'
  obtain ⟨c2, r2, m2, q1, q2, q3, q4, kP, hkP, hkPi⟩ := Cond.selects_spec hsel
  cases hcls.symm.trans q1
  cases (State.methodFound?_of_named hnamed hy).symm.trans q2
  cases hnamed.symm.trans q3
  have hselP : selectMethod e.platform s.vm cellB.cls mk = .method mk := by rw [Launch.admits_selectMethod X.admits]; exact q4
  obtain ⟨vm₁, X₁, hstep₁⟩ := X.invokevirtual hexec hown hlink hnamed hmethM hstM hkP hkPi hy (a := b) (cell := cellB) hcell
    (fun z h => by rw [h] at hobj; cases hobj) hselP hmethM habM hkP hkPi (g := g) hg (argsL := argsL) (rest := rest) (hlen _ hsigM) hstack hdg
  rcases hK m meth c ⟨T.setVm vm₁, locs, cells, slots⟩ { g with stack := rest } (.invokevirtual index) mk (Value.ref b :: argsL).toArray X₁ hg hsize hdg hW (X₁.named hnamed) (hpre vm₁ X₁.warmed) with ⟨v, B, X', hpost, hsteps⟩ | ⟨q, B, X', hpost, hsteps⟩
  · exact Or.inl ⟨v, vm₁, B, X₁.warmed, X', hpost, fun target h => hstep₁ _ fun acts => by rw [doInvoke_state]; exact hsteps.trans h⟩
  · exact Or.inr ⟨q, vm₁, B, X₁.warmed, X', hpost, hstep₁ _ fun acts => by rw [doInvoke_state]; exact hsteps⟩
theorem vx_callS (X : Stand p l e R s m args below meth c T locs cells slots) (hexec : p.tables.exec = Jvm.exec) {own : String} {index : Nat} {y : MethodName} {bytes : ByteArray} {maxL : Nat} {ret : Option FieldType}
    (hown : s.vm.findClass own = some m.cls) (hlink : (Cond.methodLink own index y).before args s = true) (hstat : (Cond.static y).before args s = true) (hinit : (Cond.initialized y.cls).before args s = true)
    (hcode : (Cond.code y bytes maxL ret).before args s = true) (hy : y.cls ≠ "java/lang/invoke/MethodHandle" ∧ y.cls ≠ "java/lang/invoke/VarHandle")
    {W9 : Nat} {Pre : Pt → Array Value → Prop} {Post : Pt → Array Value → Option Value → Pt → Prop} {PostX : Pt → Array Value → Addr → Pt → Prop} (hK : vx_Back l R p e below s args y 3 W9 Pre Post PostX)
    {g : JFrame} (hg : g.method = m) (hsize : g.locals.size = c.maxLocals) {argsL rest : List Value} (hlen : ∀ sig, parseMethodDescriptor y.desc = some sig → argsL.length = sig.parameters.length)
    (hstack : g.stack = argsL.reverse ++ rest) (hW : 2 * g.monitorRoom + (rest.map fun v => v.category).sum ≤ W9) (hdg : decode c.code g.pc = .ok (.invokestatic index, 3))
    (hpre : ∀ vm₁, s.WarmedH vm₁ → Pre ⟨T.setVm vm₁, locs, cells, slots⟩ argsL.toArray) :
    (∃ (v : Option Value) (vm₁ : Vm) (B : Pt), s.WarmedH vm₁ ∧ Stand p l e R s m args below meth c B.U B.locs B.cells B.slots ∧ Post ⟨T.setVm vm₁, locs, cells, slots⟩ argsL.toArray v B ∧
      ∀ target, Steps p.tables e below (B.U.setTop { g with pc := g.pc + 3, stack := v.toList ++ rest }) target → Steps p.tables e below (T.setTop g) target) ∨
    (∃ (q : Addr) (vm₁ : Vm) (B : Pt), s.WarmedH vm₁ ∧ Stand p l e R s m args below meth c B.U B.locs B.cells B.slots ∧ PostX ⟨T.setVm vm₁, locs, cells, slots⟩ argsL.toArray q B ∧
      Steps p.tables e below (T.setTop g) ((B.U.setTop { g with stack := rest }).pushFrame (.throwing q))) := by
  obtain ⟨mk, hnamed⟩ := Cond.code_named hcode
  obtain ⟨methM, cM, hmethM, -, -, -, -, -, -, hsigM⟩ := Cond.code_spec hnamed hcode
  have hstatic : methM.isStatic = true := Cond.static_spec hnamed hmethM hstat
  obtain ⟨kP, hkP, -⟩ := className_of_methodNamed hnamed
  have hinitP : kP.init = .initialized := Cond.initialized_spec (findClass_of_methodNamed hnamed) hkP hinit
  obtain ⟨vm₁, X₁, hstep₁⟩ := X.invokestatic hexec hown hlink hnamed hmethM hstatic hkP hinitP hy (g := g) hg (argsL := argsL) (rest := rest) (hlen _ hsigM) hstack hdg
  rcases hK m meth c ⟨T.setVm vm₁, locs, cells, slots⟩ { g with stack := rest } (.invokestatic index) mk argsL.toArray X₁ hg hsize hdg hW (X₁.named hnamed) (hpre vm₁ X₁.warmed) with ⟨v, B, X', hpost, hsteps⟩ | ⟨q, B, X', hpost, hsteps⟩
  · exact Or.inl ⟨v, vm₁, B, X₁.warmed, X', hpost, fun target h => hstep₁ _ fun acts => by rw [doInvoke_state]; exact hsteps.trans h⟩
  · exact Or.inr ⟨q, vm₁, B, X₁.warmed, X', hpost, hstep₁ _ fun acts => by rw [doInvoke_state]; exact hsteps⟩
end Calls
theorem vx_cls {s : State} {T : State} {vm₁ : Vm} {E : String} {k : ClassId} (hW : s.WarmedH vm₁) (h : (T.setVm vm₁).vm.findClass E = some k) : s.vm.findClass E = some k := by
  have h1 : vm₁.findClass E = some k := h
  rw [hW.alike.findClass] at h1
  exact h1
/-- the method's frame g, with q thrown over it -/
def vx_W (p : Program) (l : Launch) (e : Env) (R : Room) (s : State) (m : MethodId) (args : Array Value) (below : List Frame) (meth : Method) (c : Code) (H : Heap) (locs : List Loc) (cells slots : Nat) (Q : State → Prop) (g : JFrame) (q : Addr) : Prop :=
  ∀ T : State, T.heap = H → Stand p l e R s m args below meth c T locs cells slots → ∃ t, Steps p.tables e below ((T.setTop g).pushFrame (.throwing q)) t ∧ Q t
def vx_Run (p : Program) (l : Launch) (e : Env) (R : Room) (s : State) (m : MethodId) (args : Array Value) (below : List Frame) (meth : Method) (c : Code) (H : Heap) (locs : List Loc) (cells slots mc ms : Nat) (g : JFrame) (rest : List Value) (Qa : State → Outcome → State → Prop) (XC : String → State → State → Prop) (free : Addr → Prop) : Prop :=
  ∀ T : State, T.heap = H → Stand p l e R s m args below meth c T locs cells slots →
    (∃ (v : Option Value) (st₀ t T' : State) (L : List Loc), st₀.heap = H ∧ Stand p l e R s m args below meth c T' (locs ++ L) (cells + mc) (slots + ms) ∧ (∀ q ∈ L, free q.base) ∧ T'.heap = t.heap ∧ T'.vm = t.vm ∧ Qa st₀ (.returned v) t ∧
      Goes p e below T g T' { g with pc := g.pc + 3, stack := v.toList ++ rest }) ∨
    (∃ (q : Addr) (st₀ t T' : State) (L : List Loc) (E : String) (ce : Cell), st₀.heap = H ∧ Stand p l e R s m args below meth c T' (locs ++ L) (cells + mc) (slots + ms) ∧ (∀ z ∈ L, free z.base) ∧ T'.heap = t.heap ∧ T'.vm = t.vm ∧ XC E st₀ t ∧ t.heap[q]? = some ce ∧ ce.vm = .none ∧ s.vm.findClass E = some ce.cls ∧
      Steps p.tables e below (T.setTop g) ((T'.setTop { g with stack := rest }).pushFrame (.throwing q)))
def vx_X {S : Type} (px : S → Prop) (B : String → S → State → Prop) (A : Nat → Prop) : String → State → State → Prop := fun E st t => ∃ u : S, px u ∧ B E u t ∧ va_F A st t
section Runs
variable {p : Program} {l : Launch} {e : Env} {R : Room} {s : State} {m : MethodId} {args : Array Value} {below : List Frame} {meth : Method} {c : Code} {H : Heap} {locs : List Loc} {cells slots : Nat}
variable {y : MethodName} {bytes cc : ByteArray} {maxL nL mc ms n index : Nat} {ret : Option FieldType} {ws : List Cond} {rm : Room} {Pc : Array Value → State → Prop} {Qc : Array Value → State → Outcome → State → Prop} {XC : String → State → State → Prop} {free : Addr → Prop} {Ts : List Cond} {own C : String} {b : Addr} {As rest : List Value} {g : JFrame}
theorem vx_callBack (cb : CallB R s args own index y bytes maxL ret ws rm mc ms n) (hM : vx_Met l y ws rm Pc Qc XC mc ms free) (hbl : FrameBlind Pc) : vx_Back l R p e below s args y 3 8 (PreOf R mc ms Pc) (PostOf Qc mc ms free) (vx_Post XC mc ms free) := by
  obtain ⟨hrc, hrs, hfr, hlo, hws, hcw, -, hini, -⟩ := cb
  exact vx_back (bytes := bytes) (maxL := maxL) (ret := ret) hM hbl hrc hrs hfr hlo hws hcw (fun a' U hW => word_at hW (Or.inl (by first | rfl | simp [Cond.onTables, Cond.keeps, Cond.steady])) hini)
theorem vx_runV (S : CallFix p m c cc nL s args Ts own) (hM : vx_Met l y ws rm Pc Qc XC mc ms free) (cw : CallW R s args own C index y bytes maxL ret ws rm mc ms n) (hp : PreV s H C b Pc As)
    (hg : g.method = m) (hn : As.length = n) (hsize : g.locals.size = nL) (hstack : g.stack = As.reverse ++ .ref b :: rest) (hW : 2 * g.monitorRoom + (rest.map fun v => v.category).sum ≤ 8) (hdg : decode cc g.pc = .ok (.invokevirtual index, 3)) (hf : cells + mc ≤ R.cells ∧ slots + ms ≤ R.slots) :
    vx_Run p l e R s m args below meth c H locs cells slots mc ms g rest (Qc (Value.ref b :: As).toArray) XC free := by
  have hK : vx_Back l R p e below s args y 3 8 (PreOf R mc ms Pc) (PostOf Qc mc ms free) (vx_Post XC mc ms free) := vx_callBack cw.1 hM hp.1
  obtain ⟨⟨-, -, -, -, -, -, hcode, -, hy, hlen, hl⟩, hin, hse⟩ := cw
  obtain ⟨hx, hb, hml, ho, -⟩ := S
  obtain ⟨-, ⟨cellB, hcB, hoB, hclB⟩, hPc⟩ := hp
  intro T hT X
  rcases vx_callV X hx (C := C) (bytes := bytes) (maxL := maxL) (ret := ret) ho hl hin hse hcode hy hK (by rw [hT]; exact hcB) hoB hclB hg (hsize.trans hml.symm) (argsL := As) (rest := rest) (fun sig h => hn.trans (hlen sig h)) hstack hW (by rw [hb]; exact hdg)
    (fun vm₁ hW₁ => ⟨hf.1, hf.2, hPc (T.setVm vm₁) hT hW₁⟩) with ⟨v, vm₁, ⟨U', l2, c2, s2⟩, hW₁, X', ⟨g', mk, t, L, e1, e2, hq, h1, hL, h2, h3⟩, st⟩ | ⟨q, vm₁, ⟨U', l2, c2, s2⟩, hW₁, X', ⟨g', mk, t, L, E, ce, e1, e2, hq, hce, hcv, hcl, h1, hL, h2, h3⟩, st⟩
  · dsimp only [Pt.U, Pt.locs, Pt.cells, Pt.slots] at X' e1 e2 h1 h2 h3 st
    subst h1; subst h2; subst h3
    exact Or.inl ⟨v, (T.setVm vm₁).calling g' mk (Value.ref b :: As).toArray, t, U', L, hT, X', hL, e1, e2, hq, st⟩
  · dsimp only [Pt.U, Pt.locs, Pt.cells, Pt.slots] at X' e1 e2 h1 h2 h3 st hcl
    subst h1; subst h2; subst h3
    exact Or.inr ⟨q, (T.setVm vm₁).calling g' mk (Value.ref b :: As).toArray, t, U', L, E, ce, hT, X', hL, e1, e2, hq, hce, hcv, vx_cls hW₁ hcl, st⟩
theorem vx_runS (S : CallFix p m c cc nL s args Ts own) (hM : vx_Met l y ws rm Pc Qc XC mc ms free) (cw : CallB R s args own index y bytes maxL ret ws rm mc ms n ∧ (Cond.static y).before args s = true) (hp : PreS s H Pc As)
    (hg : g.method = m) (hn : As.length = n) (hsize : g.locals.size = nL) (hstack : g.stack = As.reverse ++ rest) (hW : 2 * g.monitorRoom + (rest.map fun v => v.category).sum ≤ 8) (hdg : decode cc g.pc = .ok (.invokestatic index, 3)) (hf : cells + mc ≤ R.cells ∧ slots + ms ≤ R.slots) :
    vx_Run p l e R s m args below meth c H locs cells slots mc ms g rest (Qc As.toArray) XC free := by
  have hK : vx_Back l R p e below s args y 3 8 (PreOf R mc ms Pc) (PostOf Qc mc ms free) (vx_Post XC mc ms free) := vx_callBack cw.1 hM hp.1
  obtain ⟨⟨-, -, -, -, -, -, hcode, hini, hy, hlen, hl⟩, hstt⟩ := cw
  obtain ⟨hx, hb, hml, ho, -⟩ := S
  intro T hT X
  rcases vx_callS X hx (bytes := bytes) (maxL := maxL) (ret := ret) ho hl hstt hini hcode hy hK hg (hsize.trans hml.symm) (argsL := As) (rest := rest) (fun sig h => hn.trans (hlen sig h)) hstack hW (by rw [hb]; exact hdg)
    (fun vm₁ hW₁ => ⟨hf.1, hf.2, hp.2 (T.setVm vm₁) hT hW₁⟩) with ⟨v, vm₁, ⟨U', l2, c2, s2⟩, hW₁, X', ⟨g', mk, t, L, e1, e2, hq, h1, hL, h2, h3⟩, st⟩ | ⟨q, vm₁, ⟨U', l2, c2, s2⟩, hW₁, X', ⟨g', mk, t, L, E, ce, e1, e2, hq, hce, hcv, hcl, h1, hL, h2, h3⟩, st⟩
  · dsimp only [Pt.U, Pt.locs, Pt.cells, Pt.slots] at X' e1 e2 h1 h2 h3 st
    subst h1; subst h2; subst h3
    exact Or.inl ⟨v, (T.setVm vm₁).calling g' mk As.toArray, t, U', L, hT, X', hL, e1, e2, hq, st⟩
  · dsimp only [Pt.U, Pt.locs, Pt.cells, Pt.slots] at X' e1 e2 h1 h2 h3 st hcl
    subst h1; subst h2; subst h3
    exact Or.inr ⟨q, (T.setVm vm₁).calling g' mk As.toArray, t, U', L, E, ce, hT, X', hL, e1, e2, hq, hce, hcv, vx_cls hW₁ hcl, st⟩
end Runs
section Rows
variable {p : Program} {l : Launch} {e : Env} {R : Room} {s : State} {m : MethodId} {args : Array Value} {below : List Frame} {meth : Method} {c : Code} {H : Heap} {locs : List Loc} {cells slots : Nat} {Q : State → Prop}
variable {mc ms : Nat} {free : Addr → Prop} {A0 A1 : Nat → Prop} {H0 : Heap} {a : Array Value} {pc : Nat} {ls : Array Slot} {st0 rest : List Value}
theorem vx_keep {st₀ t T' : State} {L : List Loc} (h0 : st₀.heap = H) (e1 : T'.heap = t.heap) (hS : va_S A0 H0 H locs) (hA : ∀ q, q < H.size → A1 q → A0 q) (hf : ∀ q, free q → A0 q) (hL : ∀ q ∈ L, free q.base) (hF : va_F A1 st₀ t) :
    H.size ≤ T'.heap.size ∧ (∀ q : Nat, q < H.size → ¬ A1 q → T'.heap[q]? = H[q]?) ∧ va_S A0 H0 T'.heap (locs ++ L) := by
  obtain ⟨hz, hk⟩ := hF
  rw [h0] at hz hk
  exact ⟨by rw [e1]; exact hz, fun q h1 h2 => by rw [e1]; exact hk q h1 h2,
    ⟨Nat.le_trans hS.1 (by rw [e1]; exact hz), fun q h1 h2 => by rw [e1, hk q (Nat.lt_of_lt_of_le h1 hS.1) (fun z => h2 (hA q (Nat.lt_of_lt_of_le h1 hS.1) z))]; exact hS.2.1 q h1 h2, fun q hq => by
      rcases List.mem_append.mp hq with h | h
      · exact hS.2.2 q h
      · exact hf _ (hL q h)⟩⟩
theorem vx_calli {S SX : Type} {post : Int32 → S → Prop} {px : SX → Prop} {B : S → State → Prop} {BX : String → SX → State → Prop} {AX : Nat → Prop} (hr : vx_Run p l e R s m args below meth c H locs cells slots mc ms (F0 m pc ls st0) rest (va_Qi post B A1 a) (vx_X px BX AX) free) (hS : va_S A0 H0 H locs) (hA : ∀ q, q < H.size → A1 q → A0 q) (hf : ∀ q, free q → A0 q) (hAX : ∀ q, q < H.size → AX q → A0 q)
    (kx : ∀ (E : String) (ce : Cell) (q9 : Addr) (u : SX) (t : State) (H1 : Heap) (locs1 : List Loc), t.heap = H1 → s.vm.Alike t.vm → px u → BX E u t → H.size ≤ H1.size → (∀ q : Nat, q < H.size → ¬ AX q → H1[q]? = H[q]?) → va_S A0 H0 H1 locs1 → H1[q9]? = some ce → ce.vm = .none → s.vm.findClass E = some ce.cls → vx_W p l e R s m args below meth c H1 locs1 (cells + mc) (slots + ms) Q (F0 m pc ls rest) q9)
    (kk : ∀ (r : Int32) (u : S) (t : State) (H1 : Heap) (locs1 : List Loc), t.heap = H1 → s.vm.Alike t.vm → post r u → B u t → H.size ≤ H1.size → (∀ q : Nat, q < H.size → ¬ A1 q → H1[q]? = H[q]?) → va_S A0 H0 H1 locs1 → W p l e R s m args below meth c H1 locs1 (cells + mc) (slots + ms) Q (F0 m (pc + 3) ls (.int r :: rest))) : W p l e R s m args below meth c H locs cells slots Q (F0 m pc ls st0) := by
  intro T hT X
  rcases hr T hT X with ⟨v, st₀, t, T', L, h0, X', hL, e1, e2, ⟨⟨r, u, hv, hp, hb⟩, hF⟩, st⟩ | ⟨q, st₀, t, T', L, E, ce, h0, X', hL, e1, e2, ⟨u, hp, hb, hF⟩, hce, hcv, hcl, st⟩
  · cases hv
    obtain ⟨k1, k2, k3⟩ := vx_keep h0 e1 hS hA hf hL hF
    obtain ⟨t2, a1, b1⟩ := kk r u t T'.heap (locs ++ L) e1.symm (by rw [← e2]; exact X'.warmed.alike) hp hb k1 k2 k3 T' rfl X'
    exact ⟨t2, st t2 a1, b1⟩
  · obtain ⟨k1, k2, k3⟩ := vx_keep h0 e1 hS hAX hf hL hF
    obtain ⟨t2, a1, b1⟩ := kx E ce q u t T'.heap (locs ++ L) e1.symm (by rw [← e2]; exact X'.warmed.alike) hp hb k1 k2 k3 (by rw [e1]; exact hce) hcv hcl T' rfl X'
    exact ⟨t2, st.trans a1, b1⟩
theorem vx_calll {S SX : Type} {post : Int64 → S → Prop} {px : SX → Prop} {B : S → State → Prop} {BX : String → SX → State → Prop} {AX : Nat → Prop} (hr : vx_Run p l e R s m args below meth c H locs cells slots mc ms (F0 m pc ls st0) rest (va_Ql post B A1 a) (vx_X px BX AX) free) (hS : va_S A0 H0 H locs) (hA : ∀ q, q < H.size → A1 q → A0 q) (hf : ∀ q, free q → A0 q) (hAX : ∀ q, q < H.size → AX q → A0 q)
    (kx : ∀ (E : String) (ce : Cell) (q9 : Addr) (u : SX) (t : State) (H1 : Heap) (locs1 : List Loc), t.heap = H1 → s.vm.Alike t.vm → px u → BX E u t → H.size ≤ H1.size → (∀ q : Nat, q < H.size → ¬ AX q → H1[q]? = H[q]?) → va_S A0 H0 H1 locs1 → H1[q9]? = some ce → ce.vm = .none → s.vm.findClass E = some ce.cls → vx_W p l e R s m args below meth c H1 locs1 (cells + mc) (slots + ms) Q (F0 m pc ls rest) q9)
    (kk : ∀ (r : Int64) (u : S) (t : State) (H1 : Heap) (locs1 : List Loc), t.heap = H1 → s.vm.Alike t.vm → post r u → B u t → H.size ≤ H1.size → (∀ q : Nat, q < H.size → ¬ A1 q → H1[q]? = H[q]?) → va_S A0 H0 H1 locs1 → W p l e R s m args below meth c H1 locs1 (cells + mc) (slots + ms) Q (F0 m (pc + 3) ls (.long r :: rest))) : W p l e R s m args below meth c H locs cells slots Q (F0 m pc ls st0) := by
  intro T hT X
  rcases hr T hT X with ⟨v, st₀, t, T', L, h0, X', hL, e1, e2, ⟨⟨r, u, hv, hp, hb⟩, hF⟩, st⟩ | ⟨q, st₀, t, T', L, E, ce, h0, X', hL, e1, e2, ⟨u, hp, hb, hF⟩, hce, hcv, hcl, st⟩
  · cases hv
    obtain ⟨k1, k2, k3⟩ := vx_keep h0 e1 hS hA hf hL hF
    obtain ⟨t2, a1, b1⟩ := kk r u t T'.heap (locs ++ L) e1.symm (by rw [← e2]; exact X'.warmed.alike) hp hb k1 k2 k3 T' rfl X'
    exact ⟨t2, st t2 a1, b1⟩
  · obtain ⟨k1, k2, k3⟩ := vx_keep h0 e1 hS hAX hf hL hF
    obtain ⟨t2, a1, b1⟩ := kx E ce q u t T'.heap (locs ++ L) e1.symm (by rw [← e2]; exact X'.warmed.alike) hp hb k1 k2 k3 (by rw [e1]; exact hce) hcv hcl T' rfl X'
    exact ⟨t2, st.trans a1, b1⟩
theorem vx_callf {S SX : Type} {post : UInt32 → S → Prop} {px : SX → Prop} {B : S → State → Prop} {BX : String → SX → State → Prop} {AX : Nat → Prop} (hr : vx_Run p l e R s m args below meth c H locs cells slots mc ms (F0 m pc ls st0) rest (va_Qf post B A1 a) (vx_X px BX AX) free) (hS : va_S A0 H0 H locs) (hA : ∀ q, q < H.size → A1 q → A0 q) (hf : ∀ q, free q → A0 q) (hAX : ∀ q, q < H.size → AX q → A0 q)
    (kx : ∀ (E : String) (ce : Cell) (q9 : Addr) (u : SX) (t : State) (H1 : Heap) (locs1 : List Loc), t.heap = H1 → s.vm.Alike t.vm → px u → BX E u t → H.size ≤ H1.size → (∀ q : Nat, q < H.size → ¬ AX q → H1[q]? = H[q]?) → va_S A0 H0 H1 locs1 → H1[q9]? = some ce → ce.vm = .none → s.vm.findClass E = some ce.cls → vx_W p l e R s m args below meth c H1 locs1 (cells + mc) (slots + ms) Q (F0 m pc ls rest) q9)
    (kk : ∀ (r : UInt32) (u : S) (t : State) (H1 : Heap) (locs1 : List Loc), t.heap = H1 → s.vm.Alike t.vm → post r u → B u t → H.size ≤ H1.size → (∀ q : Nat, q < H.size → ¬ A1 q → H1[q]? = H[q]?) → va_S A0 H0 H1 locs1 → W p l e R s m args below meth c H1 locs1 (cells + mc) (slots + ms) Q (F0 m (pc + 3) ls (.float r :: rest))) : W p l e R s m args below meth c H locs cells slots Q (F0 m pc ls st0) := by
  intro T hT X
  rcases hr T hT X with ⟨v, st₀, t, T', L, h0, X', hL, e1, e2, ⟨⟨r, u, hv, hp, hb⟩, hF⟩, st⟩ | ⟨q, st₀, t, T', L, E, ce, h0, X', hL, e1, e2, ⟨u, hp, hb, hF⟩, hce, hcv, hcl, st⟩
  · cases hv
    obtain ⟨k1, k2, k3⟩ := vx_keep h0 e1 hS hA hf hL hF
    obtain ⟨t2, a1, b1⟩ := kk r u t T'.heap (locs ++ L) e1.symm (by rw [← e2]; exact X'.warmed.alike) hp hb k1 k2 k3 T' rfl X'
    exact ⟨t2, st t2 a1, b1⟩
  · obtain ⟨k1, k2, k3⟩ := vx_keep h0 e1 hS hAX hf hL hF
    obtain ⟨t2, a1, b1⟩ := kx E ce q u t T'.heap (locs ++ L) e1.symm (by rw [← e2]; exact X'.warmed.alike) hp hb k1 k2 k3 (by rw [e1]; exact hce) hcv hcl T' rfl X'
    exact ⟨t2, st.trans a1, b1⟩
theorem vx_calld {S SX : Type} {post : UInt64 → S → Prop} {px : SX → Prop} {B : S → State → Prop} {BX : String → SX → State → Prop} {AX : Nat → Prop} (hr : vx_Run p l e R s m args below meth c H locs cells slots mc ms (F0 m pc ls st0) rest (va_Qd post B A1 a) (vx_X px BX AX) free) (hS : va_S A0 H0 H locs) (hA : ∀ q, q < H.size → A1 q → A0 q) (hf : ∀ q, free q → A0 q) (hAX : ∀ q, q < H.size → AX q → A0 q)
    (kx : ∀ (E : String) (ce : Cell) (q9 : Addr) (u : SX) (t : State) (H1 : Heap) (locs1 : List Loc), t.heap = H1 → s.vm.Alike t.vm → px u → BX E u t → H.size ≤ H1.size → (∀ q : Nat, q < H.size → ¬ AX q → H1[q]? = H[q]?) → va_S A0 H0 H1 locs1 → H1[q9]? = some ce → ce.vm = .none → s.vm.findClass E = some ce.cls → vx_W p l e R s m args below meth c H1 locs1 (cells + mc) (slots + ms) Q (F0 m pc ls rest) q9)
    (kk : ∀ (r : UInt64) (u : S) (t : State) (H1 : Heap) (locs1 : List Loc), t.heap = H1 → s.vm.Alike t.vm → post r u → B u t → H.size ≤ H1.size → (∀ q : Nat, q < H.size → ¬ A1 q → H1[q]? = H[q]?) → va_S A0 H0 H1 locs1 → W p l e R s m args below meth c H1 locs1 (cells + mc) (slots + ms) Q (F0 m (pc + 3) ls (.double r :: rest))) : W p l e R s m args below meth c H locs cells slots Q (F0 m pc ls st0) := by
  intro T hT X
  rcases hr T hT X with ⟨v, st₀, t, T', L, h0, X', hL, e1, e2, ⟨⟨r, u, hv, hp, hb⟩, hF⟩, st⟩ | ⟨q, st₀, t, T', L, E, ce, h0, X', hL, e1, e2, ⟨u, hp, hb, hF⟩, hce, hcv, hcl, st⟩
  · cases hv
    obtain ⟨k1, k2, k3⟩ := vx_keep h0 e1 hS hA hf hL hF
    obtain ⟨t2, a1, b1⟩ := kk r u t T'.heap (locs ++ L) e1.symm (by rw [← e2]; exact X'.warmed.alike) hp hb k1 k2 k3 T' rfl X'
    exact ⟨t2, st t2 a1, b1⟩
  · obtain ⟨k1, k2, k3⟩ := vx_keep h0 e1 hS hAX hf hL hF
    obtain ⟨t2, a1, b1⟩ := kx E ce q u t T'.heap (locs ++ L) e1.symm (by rw [← e2]; exact X'.warmed.alike) hp hb k1 k2 k3 (by rw [e1]; exact hce) hcv hcl T' rfl X'
    exact ⟨t2, st.trans a1, b1⟩
theorem vx_callv {S SX : Type} {post : S → Prop} {px : SX → Prop} {B : S → State → Prop} {BX : String → SX → State → Prop} {AX : Nat → Prop} (hr : vx_Run p l e R s m args below meth c H locs cells slots mc ms (F0 m pc ls st0) rest (va_Qv post B A1 a) (vx_X px BX AX) free) (hS : va_S A0 H0 H locs) (hA : ∀ q, q < H.size → A1 q → A0 q) (hf : ∀ q, free q → A0 q) (hAX : ∀ q, q < H.size → AX q → A0 q)
    (kx : ∀ (E : String) (ce : Cell) (q9 : Addr) (u : SX) (t : State) (H1 : Heap) (locs1 : List Loc), t.heap = H1 → s.vm.Alike t.vm → px u → BX E u t → H.size ≤ H1.size → (∀ q : Nat, q < H.size → ¬ AX q → H1[q]? = H[q]?) → va_S A0 H0 H1 locs1 → H1[q9]? = some ce → ce.vm = .none → s.vm.findClass E = some ce.cls → vx_W p l e R s m args below meth c H1 locs1 (cells + mc) (slots + ms) Q (F0 m pc ls rest) q9)
    (kk : ∀ (u : S) (t : State) (H1 : Heap) (locs1 : List Loc), t.heap = H1 → s.vm.Alike t.vm → post u → B u t → H.size ≤ H1.size → (∀ q : Nat, q < H.size → ¬ A1 q → H1[q]? = H[q]?) → va_S A0 H0 H1 locs1 → W p l e R s m args below meth c H1 locs1 (cells + mc) (slots + ms) Q (F0 m (pc + 3) ls (rest))) : W p l e R s m args below meth c H locs cells slots Q (F0 m pc ls st0) := by
  intro T hT X
  rcases hr T hT X with ⟨v, st₀, t, T', L, h0, X', hL, e1, e2, ⟨⟨u, hv, hp, hb⟩, hF⟩, st⟩ | ⟨q, st₀, t, T', L, E, ce, h0, X', hL, e1, e2, ⟨u, hp, hb, hF⟩, hce, hcv, hcl, st⟩
  · cases hv
    obtain ⟨k1, k2, k3⟩ := vx_keep h0 e1 hS hA hf hL hF
    obtain ⟨t2, a1, b1⟩ := kk u t T'.heap (locs ++ L) e1.symm (by rw [← e2]; exact X'.warmed.alike) hp hb k1 k2 k3 T' rfl X'
    exact ⟨t2, st t2 a1, b1⟩
  · obtain ⟨k1, k2, k3⟩ := vx_keep h0 e1 hS hAX hf hL hF
    obtain ⟨t2, a1, b1⟩ := kx E ce q u t T'.heap (locs ++ L) e1.symm (by rw [← e2]; exact X'.warmed.alike) hp hb k1 k2 k3 (by rw [e1]; exact hce) hcv hcl T' rfl X'
    exact ⟨t2, st.trans a1, b1⟩
/-- caught by the row x of this method's table; the rows ahead don't take it -/
theorem vx_catch {own name : String} {E : String} {ce : Cell} {q : Addr} (hown : s.vm.findClass own = some m.cls) (pre : List ExceptionTableEntry) (x : ExceptionTableEntry) (suf : List ExceptionTableEntry) (hsplit : c.exceptionTable.toList = pre ++ x :: suf)
    (hpass : ∀ z ∈ pre, covers z pc = false ∨ (z.catchType ≠ 0 ∧ ∃ nm : String, (Cond.classLink own z.catchType nm).before args s = true ∧ va_Nc E nm s)) (hx : covers x pc = true) (h0 : x.catchType ≠ 0)
    (hlink : (Cond.classLink own x.catchType name).before args s = true) (hcast : (Cond.castable E name).before args s = true) (hcell : H[q]? = some ce) (hv : ce.vm = .none) (hcl : s.vm.findClass E = some ce.cls)
    (kk : W p l e R s m args below meth c H locs cells slots Q (F0 m x.handlerPc ls [.ref q])) : vx_W p l e R s m args below meth c H locs cells slots Q (F0 m pc ls rest) q := by
  intro T hT X
  have hpl : e.platform.magicAccessors = ({} : Platform).magicAccessors := by rw [X.admits.platform]
  obtain ⟨c3, c4, hc3, hc4, hasg⟩ := Cond.castable_spec hcast
  cases Option.some.inj (hc3.symm.trans hcl)
  obtain ⟨c5, hc5, hcl5⟩ := Cond.classLink_spec hown hlink e.platform hpl
  cases Option.some.inj (hc4.symm.trans hc5)
  obtain ⟨vm', X', st⟩ := X.thenCaughtThrough q (g := F0 m pc ls rest) rfl (Steps.refl _) (by rw [hT]; exact hcell) (by rw [hv]; rfl) (by obtain ⟨k9, h9, -⟩ := Vm.findClass_spec hcl; exact ⟨k9, h9⟩) pre x suf hsplit
    (fun z hz => by
      rcases hpass z hz with h | ⟨hz0, nm, hl1, hn1⟩
      · exact Or.inl h
      · obtain ⟨c6, hc6, hcl6⟩ := Cond.classLink_spec hown hl1 e.platform hpl
        obtain ⟨a8, b8, h1, h2, h3⟩ := hn1
        cases Option.some.inj (h1.symm.trans hcl)
        cases Option.some.inj (h2.symm.trans hc6)
        exact Or.inr ⟨hz0, _, hcl6, h3⟩) hx (Or.inr ⟨h0, c4, hcl5, hasg⟩)
  obtain ⟨t, a1, b1⟩ := kk (T.setVm vm') hT X'
  exact ⟨t, st.trans a1, b1⟩
end Rows
section Ends
variable {p : Program} {l : Launch} {e : Env} {R : Room} {s : State} {m : MethodId} {args : Array Value} {below : List Frame} {meth : Method} {c : Code} {H : Heap} {locs : List Loc} {cells slots : Nat} {Q : State → Prop}
variable {mc ms : Nat} {free : Addr → Prop} {A0 A1 : Nat → Prop} {H0 : Heap} {a : Array Value} {ls : Array Slot} {st0 rest : List Value}
variable {Qc : Array Value → State → Outcome → State → Prop} {XC : String → State → State → Prop}
/-- what a body that may throw owes at its end -/
def vx_MQ (below : List Frame) (Qc : Array Value → State → Outcome → State → Prop) (XC : String → State → State → Prop) (a : Array Value) (s : State) (mc ms : Nat) (free : Addr → Prop) : State → Prop := fun t =>
  ∃ o, t.status = .running ∧ Ended t below o ∧ vx_Q Qc XC mc ms free a s o t
theorem vx_ret {g : JFrame} {mc ms : Nat} (k : W p l e R s m args below meth c H locs cells slots (MQ below Qc args s mc ms free) g) : W p l e R s m args below meth c H locs cells slots (vx_MQ below Qc XC args s mc ms free) g := by
  intro T hT X
  obtain ⟨t, a1, o, b1, b2, b3, b4⟩ := k T hT X
  exact ⟨t, a1, o, b1, b2, Or.inl ⟨b3, b4⟩⟩
/-- not caught here: it goes on to the caller -/
theorem vx_widen {g : JFrame} {q : Addr} {k n : Nat} (h1 : cells ≤ k) (h2 : slots ≤ n) (kk : vx_W p l e R s m args below meth c H locs k n Q g q) : vx_W p l e R s m args below meth c H locs cells slots Q g q := fun T hT X => kk T hT (stand_widen X h1 h2)
theorem vx_out {pc : Nat} {E : String} {ce : Cell} {q : Addr} {mc ms : Nat} (hout : ∀ x ∈ c.exceptionTable.toList, covers x pc = false) (hlocks : meth.locks = false) (hcell : H[q]? = some ce) (hv : ce.vm = .none) (hcl : s.vm.findClass E = some ce.cls)
    (hx : ∀ t : State, t.heap = H → s.vm.Alike t.vm → XC E s t) (hf : ∀ z ∈ locs, free z.base) (hc : cells ≤ mc) (hs : slots ≤ ms) :
    vx_W p l e R s m args below meth c H locs cells slots (vx_MQ below Qc XC args s mc ms free) (F0 m pc ls rest) q := by
  intro T hT X
  obtain ⟨st1, hrun, hend, hW, hsm⟩ := X.leaveThrown q (g := F0 m pc ls rest) rfl rfl rfl hout hlocks
  have hcell9 : (T.setFrames (.throwing q :: below)).heap[q]? = some ce := by
    show T.heap[q]? = some ce
    rw [hT]; exact hcell
  exact ⟨_, st1, .threw q, hrun, hend, Or.inr ⟨q, rfl, E, ce, locs, hx _ hT hW.alike, hcell9, hv, hcl, hW, hsm.mono hc hs, hf⟩⟩
theorem vx_frame {U : State} {k n : Nat} (h : s.sameButNew ({ U with vm := s.vm } : State) locs k n) : s.heap.size ≤ U.heap.size ∧ ∀ q : Nat, q < s.heap.size → (∀ z ∈ locs, z.base ≠ q) → U.heap[q]? = s.heap[q]? := by
  obtain ⟨-, h2, -, -, -, h6⟩ := h
  refine ⟨h2, fun q hq hz => ?_⟩
  obtain ⟨c9, e1, e2, e3, e4⟩ := h6 q _ (Array.getElem?_eq_getElem hq)
  have hs : c9.slots = (s.heap[q]).slots := Array.ext_getElem? fun i => e4 i fun hm => hz _ hm rfl
  have h9 : c9 = s.heap[q] := by
    rw [hs] at e2
    exact e2
  have e5 : U.heap[q]? = some c9 := e1
  rw [e5, h9, Array.getElem?_eq_getElem hq]
/-- the words of a throw but the four that speak of the heap -/
def vx_no (w : Cond) : Bool := decide (w ≠ .isRef (.static Bundle.tN "UNASSIGNED_STACK" Bundle.steD)) && decide (w ≠ .isRef (.static Bundle.tN "SUPPRESSED_SENTINEL" Bundle.listD)) && decide (w ≠ .laysStatic Bundle.tN "UNASSIGNED_STACK" Bundle.steD) && decide (w ≠ .laysStatic Bundle.tN "SUPPRESSED_SENTINEL" Bundle.listD)
def vx_at0 (own : String) (ic : Nat) (X : String) (names : List String) : List Cond := (Bundle.ownAtoms0 own ic X names).filter vx_no
def vx_atS (own : String) (ic : Nat) (X : String) (names : List String) : List Cond := (Bundle.ownAtoms own ic X names).filter vx_no
/-- a word that the tables alone decide, or a good one -/
def vx_ot (w : Cond) : Bool := w.onTables || goodWord w
theorem vx_ot_at {args a' : Array Value} {s U : State} {w : Cond} (hW : s.WarmedH U.vm) (hvm : s.vm = U.vm) (hg : vx_ot w = true) (h : w.before args s = true) : w.before a' U = true := by
  simp only [vx_ot, Bool.or_eq_true] at hg
  rcases hg with hg | hg
  · exact va_tabs hg hvm h
  · exact word_at hW (good_of_word hg) h
/-- a list's words: the good ones out of the method's own list, the others by premises of their own -/
theorem vx_hat {args : Array Value} {s : State} {L B : List Cond} (h1 : ∀ w ∈ L.filter goodWord, w.before args s = true) (h2 : ∀ w ∈ L.filter (fun w => !goodWord w), w ∈ B) (h3 : ∀ w ∈ B, w.before args s = true) : ∀ w ∈ L, w.before args s = true := by
  intro w hw
  by_cases g : goodWord w = true
  · exact h1 w (List.mem_filter.mpr ⟨hw, g⟩)
  · refine h3 w (h2 w (List.mem_filter.mpr ⟨hw, ?_⟩))
    show (!goodWord w) = true
    cases hgw : goodWord w
    · rfl
    · exact absurd hgw g
theorem vx_c {args : Array Value} {s : State} {w : Cond} {B : List Cond} (h : w.before args s = true) (t : ∀ w ∈ B, w.before args s = true) : ∀ w' ∈ w :: B, w'.before args s = true := fun w' h' => (List.mem_cons.mp h').elim (fun e => by rw [e]; exact h) (t w')
theorem vx_n {args : Array Value} {s : State} : ∀ w ∈ ([] : List Cond), w.before args s = true := fun _ h => nomatch h
theorem vx_own {args : Array Value} {s : State} {L : List Cond} (h1 : ∀ w ∈ L.filter vx_no, w.before args s = true)
    (hU : (Cond.isRef (.static Bundle.tN "UNASSIGNED_STACK" Bundle.steD)).before args s = true) (hN : (Cond.isRef (.static Bundle.tN "SUPPRESSED_SENTINEL" Bundle.listD)).before args s = true)
    (lU : (Cond.laysStatic Bundle.tN "UNASSIGNED_STACK" Bundle.steD).before args s = true) (lN : (Cond.laysStatic Bundle.tN "SUPPRESSED_SENTINEL" Bundle.listD).before args s = true) : ∀ w ∈ L, w.before args s = true := by
  intro w hw
  by_cases e1 : w = .isRef (.static Bundle.tN "UNASSIGNED_STACK" Bundle.steD)
  · rw [e1]; exact hU
  · by_cases e2 : w = .isRef (.static Bundle.tN "SUPPRESSED_SENTINEL" Bundle.listD)
    · rw [e2]; exact hN
    · by_cases e3 : w = .laysStatic Bundle.tN "UNASSIGNED_STACK" Bundle.steD
      · rw [e3]; exact lU
      · by_cases e4 : w = .laysStatic Bundle.tN "SUPPRESSED_SENTINEL" Bundle.listD
        · rw [e4]; exact lN
        · exact h1 w (List.mem_filter.mpr ⟨hw, by unfold vx_no; rw [decide_eq_true e1, decide_eq_true e2, decide_eq_true e3, decide_eq_true e4]; rfl⟩)
/-- where a static field lies, its class's statics cell in H -/
def vx_L (C n d : String) (A : Nat → Prop) (U : State) (H : Heap) : Prop := ∃ (c : ClassId) (k : Class) (i : Nat) (f : Field) (a : Nat) (cell : Cell), U.vm.findClass C = some c ∧ U.fieldFound? C n d = some (c, k, i, f) ∧ f.isStatic = true ∧ k.statics = some a ∧ H[a]? = some cell ∧ cell.vm.isStatics = true ∧ cell.cls = c ∧ f.slot < cell.slots.size ∧ k.staticTypes[f.slot]? = some f.type ∧ ¬ A a
theorem vx_L.moved {C n d : String} {A : Nat → Prop} {u U : State} {H : Heap} (hvm : u.vm.Alike U.vm) (h : vx_L C n d A u H) : vx_L C n d A U H := by
  obtain ⟨c, k, i, f, a, cell, h1, h2, h3, h4, h5, h6, h7, h8, h9, h10⟩ := h
  obtain ⟨k', hi', he⟩ := State.fieldFound?_setVm hvm h2
  exact ⟨c, k', i, f, a, cell, by rw [hvm.findClass]; exact h1, hi', h3, by rw [he]; exact h4, h5, h6, h7, h8, by rw [he]; exact h9, h10⟩
theorem vx_L.kept {C n d : String} {A : Nat → Prop} {U : State} {H H1 : Heap} (h : vx_L C n d A U H) (hq : ∀ a : Nat, a < H.size → ¬ A a → H1[a]? = H[a]?) : vx_L C n d A U H1 := by
  obtain ⟨c, k, i, f, a, cell, h1, h2, h3, h4, h5, h6, h7, h8, h9, h10⟩ := h
  exact ⟨c, k, i, f, a, cell, h1, h2, h3, h4, by rw [hq a (Array.getElem?_eq_some_iff.mp h5).1 h10]; exact h5, h6, h7, h8, h9, h10⟩
theorem vx_L.narrow {C n d : String} {A B : Nat → Prop} {U : State} {H : Heap} (h : vx_L C n d A U H) (hAB : ∀ q, B q → A q) : vx_L C n d B U H := by
  obtain ⟨c, k, i, f, a, cell, h1, h2, h3, h4, h5, h6, h7, h8, h9, h10⟩ := h
  exact ⟨c, k, i, f, a, cell, h1, h2, h3, h4, h5, h6, h7, h8, h9, fun z => h10 (hAB _ z)⟩
theorem vx_L.word {C n d : String} {A : Nat → Prop} {s : State} {args : Array Value} (h : vx_L C n d A s s.heap) : (Cond.laysStatic C n d).before args s = true := by
  obtain ⟨c, k, i, f, a, cell, h1, h2, h3, h4, h5, h6, h7, h8, h9, -⟩ := h
  show (Cond.laysStatic C n d).holds args s none s [] = true
  exact Cond.laysStatic_of h1 h2 h3 h4 h5 h6 h7 h8 h9
/-- .. and what it holds: null or some reference -/
def vx_Zq (C n d : String) (A : Nat → Prop) (U : State) (H : Heap) : Prop := va_Zq C n d A U H ∧ vx_L C n d A U H
theorem vx_Zq.moved {C n d : String} {A : Nat → Prop} {u U : State} {H : Heap} (hvm : u.vm.Alike U.vm) (h : vx_Zq C n d A u H) : vx_Zq C n d A U H := ⟨va_Zq.moved hvm h.1, vx_L.moved hvm h.2⟩
theorem vx_Zq.kept {C n d : String} {A : Nat → Prop} {U : State} {H H1 : Heap} (h : vx_Zq C n d A U H) (hq : ∀ a : Nat, a < H.size → ¬ A a → H1[a]? = H[a]?) : vx_Zq C n d A U H1 := ⟨va_Zq.kept h.1 hq, vx_L.kept h.2 hq⟩
theorem vx_Zq.narrow {C n d : String} {A B : Nat → Prop} {U : State} {H : Heap} (h : vx_Zq C n d A U H) (hAB : ∀ q, B q → A q) : vx_Zq C n d B U H := ⟨va_Zq.narrow h.1 hAB, vx_L.narrow h.2 hAB⟩
theorem vx_Zqof {args : Array Value} {s : State} {C n d : String} {A : Nat → Prop} (hl : (Cond.laysStatic C n d).before args s = true) (hini : (Cond.initialized C).before args s = true) (h : (Cond.isRef (.static C n d)).before args s = true) (hA : ∀ a : Nat, a < s.heap.size → ¬ A a) : vx_Zq C n d A s s.heap := by
  refine ⟨va_Zqof hl hini h hA, ?_⟩
  obtain ⟨c, k, i, f, a, cell, h1, h2, h3, h4, h5, h6, h7, h8, h9⟩ := Cond.laysStatic_spec hl
  exact ⟨c, k, i, f, a, cell, h1, h2, h3, h4, h5, h6, h7, h8, h9, hA a (Array.getElem?_eq_some_iff.mp h5).1⟩
theorem vx_isRef {C n d : String} {v : Value} {A : Nat → Prop} {s : State} {args : Array Value} (h : va_Z C n d v A s s.heap) (hv : v.isRef = true) : (Cond.isRef (.static C n d)).before args s = true := by
  obtain ⟨cf, kf, fi, f, a, cell, h1, h2, h3, h4, h5, h6, h7, -⟩ := h
  have he : (Term.static C n d).eval args s none [] s = some v := by
    simp [Term.eval, State.fieldNamed?, h1, h2, h4, h5, h6, h7]
  simp only [Cond.before, Cond.holds, Cond.value, he]
  cases v <;> simp_all [Value.isRef]
theorem vx_isRefq {C n d : String} {A : Nat → Prop} {s : State} {args : Array Value} (h : va_Zq C n d A s s.heap) : (Cond.isRef (.static C n d)).before args s = true := by
  rcases h with h | ⟨t, h⟩
  · exact vx_isRef h rfl
  · exact vx_isRef h rfl
/-- the same frame, seen from here: as if the method were called anew in this heap -/
theorem vx_rebase {T : State} (X : Stand p l e R s m args below meth c T locs cells slots) {R' : Room} (hf : R'.frames ≤ R.frames) (hl : R'.locals ≤ R.locals) (hc : cells + R'.cells ≤ R.cells) (hs : slots + R'.slots ≤ R.slots) :
    Stand p l e R' ((T.setVm s.vm).setFrames (.invoking m args :: below)) m args below meth c T [] 0 0 := by
  have htop : (T.setVm s.vm).topJava?.isSome := X.here.top
  have hF : ((T.setVm s.vm).setFrames (.invoking m args :: below)).frames = .invoking m args :: below := State.frames_setFrames _ (State.cur_lt_of_top htop)
  obtain ⟨g₀, hg0⟩ := Option.isSome_iff_exists.mp htop
  obtain ⟨r, hr⟩ := State.topJava?_eq_some.mp hg0
  have hl9 : e.platform.stackLimits (T.setVm s.vm).me = e.platform.stackLimits s.me := X.limits
  have hb9 : (T.setVm s.vm).me.stackBytes = s.me.stackBytes := X.bytes
  refine ⟨X.admits, X.cas, X.clock, hF, ?_, X.hears, X.method, X.code, X.here, X.tail, X.warmed, ?_, ?_, ?_⟩
  · have h := X.room
    have hU : ((T.setVm s.vm).setFrames (.invoking m args :: below)).localsInUse = s.localsInUse := by
      rw [State.localsInUse_invoking hF (meth := meth) (c := c) X.method X.code, State.localsInUse_invoking X.frames X.method X.code]
    simp only [State.hasRoom, Bool.and_eq_true, decide_eq_true_eq] at h ⊢
    obtain ⟨⟨⟨⟨h1, h2, h3, h4, h5, h6⟩, h7⟩, h8⟩, h9⟩ := h
    rw [X.frames, List.length_cons] at h2 h3
    have q1 := X.heapSize
    have q2 := X.used
    simp only [hF, hU, List.length_cons, State.stackLimits_setFrames, State.stackBytes_setFrames, hl9, hb9]
    refine ⟨⟨⟨⟨by omega, by omega, by omega, by omega, by omega, h6⟩, ?_⟩, ?_⟩, X.book⟩
    · show T.heap.size + R'.cells ≤ e.platform.maxCells
      omega
    · show T.slotsUsed + R'.slots ≤ e.platform.maxSlots
      omega
  · rw [State.stackLimits_setFrames]; rfl
  · rw [State.stackBytes_setFrames]; rfl
  · refine ⟨?_, Nat.le_refl _, Nat.le_refl _, ?_, ?_, fun a c9 h9 => ⟨c9, h9, rfl, rfl, fun _ _ => rfl⟩⟩
    · obtain ⟨t, ht, -⟩ := State.frames_cons hr
      show T.setVm s.vm = { ((T.setVm s.vm).setFrames (.invoking m args :: below)).setFrames (T.setVm s.vm).frames with heap := T.heap, slotsUsed := T.slotsUsed }
      rw [State.setFrames_setFrames, State.setFrames_self ht]
      rfl
    · show T.slotsUsed = T.slotsUsed + ((T.heap.toList.drop T.heap.size).map (·.slots.size)).sum
      rw [List.drop_eq_nil_of_le (Nat.le_of_eq Array.length_toList)]
      rfl
    · show ((T.heap.toList.drop T.heap.size).map (·.slots.size)).sum ≤ 0
      rw [List.drop_eq_nil_of_le (Nat.le_of_eq Array.length_toList)]
      exact Nat.le_refl _
/-- 'throw new E()': new; dup; invokespecial; athrow -/
theorem vx_throw0 {cc : ByteArray} {pc : Nat} (hexec : p.tables.exec = Jvm.exec) (hb : c.code = cc) (hl : l.stackTraces = false) {own cls : String} {names : List String} {ik ic mc ms : Nat} {A : Nat → Prop}
    (hown : s.vm.findClass own = some m.cls) (hcls : Bundle.fit cls = true) (hnames : ∀ n ∈ names, Bundle.fit n = true)
    (hk : (Cond.classLink own ik cls).before args s = true) (hini : (Cond.initialized cls).before args s = true) (hat : ∀ w ∈ vx_at0 own ic cls names, w.before args s = true)
    (hgood : ∀ w ∈ Cond.classLink own ik cls :: Cond.initialized cls :: vx_at0 own ic cls names, vx_ot w = true)
    (hU : vx_Zq Bundle.tN "UNASSIGNED_STACK" Bundle.steD A s s.heap) (hN : vx_Zq Bundle.tN "SUPPRESSED_SENTINEL" Bundle.listD A s s.heap) (hS : va_S A s.heap H locs) (hsize : ls.size = c.maxLocals)
    (d0 : decode cc pc = .ok (.new ik, 3)) (d3 : decode cc (pc + 3) = .ok (.dup, 1)) (d4 : decode cc (pc + 4) = .ok (.invokespecial ic, 3)) (d7 : decode cc (pc + 7) = .ok (.athrow, 1))
    (hout : ∀ x ∈ c.exceptionTable.toList, covers x (pc + 7) = false)
    (hRframes : names.length + 3 < R.frames) (hRlocals : (rest.map fun v => v.category).sum + (13 * (names.length + 1) + 42) ≤ R.locals) (hRcells : cells + 1 ≤ R.cells) (hRslots : slots + 6 ≤ R.slots) (hlocks : meth.locks = false)
    (hx : ∀ t : State, s.vm.Alike t.vm → H.size ≤ t.heap.size → (∀ q : Nat, q < H.size → t.heap[q]? = H[q]?) → XC cls s t)
    (hf : ∀ z ∈ locs, free z.base) (hc : cells + 1 ≤ mc) (hs : slots + 6 ≤ ms) :
    W p l e R s m args below meth c H locs cells slots (vx_MQ below Qc XC args s mc ms free) (F0 m pc ls rest) := by
  intro T hT X
  have htr : e.platform.stackTraces = false := (show e.platform.stackTraces = l.stackTraces by rw [X.admits.platform]).trans hl
  have Y := vx_rebase X (R' := { frames := R.frames, locals := R.locals, cells := 1, slots := 6 }) (Nat.le_refl _) (Nat.le_refl _) hRcells hRslots
  obtain ⟨s', hA⟩ : ∃ z, z = (T.setVm s.vm).setFrames (.invoking m args :: below) := ⟨_, rfl⟩
  rw [← hA] at Y
  have hvm : s'.vm = s.vm := by rw [hA]; rfl
  have hhp : s'.heap = H := by rw [hA]; exact hT
  have hW0 : s.WarmedH s'.vm := by rw [hvm]; exact State.WarmedH.refl s
  have hat' : ∀ w ∈ vx_at0 own ic cls names, w.before args s' = true := fun w hw => vx_ot_at hW0 hvm.symm (hgood w (List.mem_cons_of_mem _ (List.mem_cons_of_mem _ hw))) (hat w hw)
  have hk' : (Cond.classLink own ik cls).before args s' = true := vx_ot_at hW0 hvm.symm (hgood _ List.mem_cons_self) hk
  have hini' : (Cond.initialized cls).before args s' = true := vx_ot_at hW0 hvm.symm (hgood _ (List.mem_cons_of_mem _ List.mem_cons_self)) hini
  have hU' : vx_Zq Bundle.tN "UNASSIGNED_STACK" Bundle.steD A s' s'.heap := by rw [hhp]; exact vx_Zq.moved hW0.alike (hU.kept hS.2.1)
  have hN' : vx_Zq Bundle.tN "SUPPRESSED_SENTINEL" Bundle.listD A s' s'.heap := by rw [hhp]; exact vx_Zq.moved hW0.alike (hN.kept hS.2.1)
  have h : ∀ w ∈ Bundle.ownAtoms0 own ic cls names, w.before args s' = true := vx_own hat' (vx_isRefq hU'.1) (vx_isRefq hN'.1) hU'.2.word hN'.2.word
  have hown' : s'.vm.findClass own = some m.cls := by rw [hvm]; exact hown
  have hins : (Cond.instantiable cls 6).before args s' = true := h _ (by simp [Bundle.ownAtoms0])
  obtain ⟨vm₁, cX, kX, hfX, hkX, -, -, X₁, st1⟩ := Y.newCold hexec (own := own) (C := cls) (index := ik) (n := 6) hown' hk' hins hini'
    (g := F0 m pc ls rest) rfl (by rw [hb]; exact d0) (Nat.le_refl _) (Nat.le_refl _)
  generalize hT1 : (T.setVm vm₁).pushCell { cls := cX, slots := kX.instanceTypes.map defaultValue, vm := .none } = T1 at X₁ st1
  have hcat : (Value.ref T.heap.size).category = 1 := rfl
  have hcellA : T1.heap[T.heap.size]? = some (freshCell cX kX) := by rw [← hT1]; exact State.heap_pushCell_size _ _
  have d3' : decode c.code (pc + 3) = .ok (.dup, 1) := by rw [hb]; exact d3
  obtain ⟨U, hsteps, hrun, hend, hW, hsame, ce, hce, hO⟩ := X₁.ctorThrow0 hexec htr (own := own) (cls := cls) (names := names) (ic := ic) hown' hcls hnames h (fun x hx => nomatch hx) hfX hkX hcellA (by rw [hhp, hT]; exact Nat.le_refl _)
    (g := { method := m, pc := pc + 4, locals := ls, stack := .ref T.heap.size :: .ref T.heap.size :: rest, locked := none }) rfl hsize rfl rfl (rest := rest) rfl
    (by rw [hb]; exact d4) (by rw [hb]; exact d7) hout hRframes (by simp only [List.map_cons, List.sum_cons, hcat]; omega) hlocks
  obtain ⟨f1, f2⟩ := vx_frame hsame
  rw [hhp] at f1 f2
  have hWs : s.WarmedH U.vm := State.WarmedH.trans hW0 hW
  have hcl : s.vm.findClass cls = some ce.cls := by
    have h9 := hO.cls
    rw [hvm] at h9
    exact h9
  have hall : s.sameButNew ({ U with vm := s.vm } : State) locs mc ms := by
    subst hA
    obtain ⟨e1, e2⟩ := hsame
    rw [State.setFrames_setFrames] at e1
    have h2 : (T.setVm s.vm).sameButNew ({ U with vm := s.vm } : State) [] (0 + 1) (0 + 6) := ⟨e1, e2⟩
    have h3 := X.same.trans h2
    rw [List.append_nil] at h3
    exact h3.mono hc hs
  refine ⟨U, ?_, .threw T.heap.size, hrun, hend, Or.inr ⟨T.heap.size, rfl, cls, ce, locs, hx U hWs.alike f1 (fun q hq => f2 q hq (fun z hz => nomatch hz)), hce, hO.vm, hcl, hWs, hall, hf⟩⟩
  refine st1 _ ?_
  show Steps p.tables e below (T1.setTop { method := m, pc := pc + 3, locals := ls, stack := .ref T.heap.size :: rest, locked := none }) _
  jvm_step X₁.here [X₁.here.top, hexec, d3', Value.category]
  exact hsteps
/-- 'throw new E("text")': new; dup; ldc; invokespecial; athrow -/
theorem vx_throwS {cc : ByteArray} {pc : Nat} (hexec : p.tables.exec = Jvm.exec) (hb : c.code = cc) (hl : l.stackTraces = false) {own cls text : String} {names : List String} {ik is ic mc ms sa : Nat} {A : Nat → Prop}
    (hown : s.vm.findClass own = some m.cls) (hcls : Bundle.fit cls = true) (hnames : ∀ n ∈ names, Bundle.fit n = true)
    (hk : (Cond.classLink own ik cls).before args s = true) (hini : (Cond.initialized cls).before args s = true) (hstr : vk_R own is text sa s) (hat : ∀ w ∈ vx_atS own ic cls names, w.before args s = true)
    (hgood : ∀ w ∈ Cond.classLink own ik cls :: Cond.initialized cls :: vx_atS own ic cls names, vx_ot w = true)
    (hU : vx_Zq Bundle.tN "UNASSIGNED_STACK" Bundle.steD A s s.heap) (hN : vx_Zq Bundle.tN "SUPPRESSED_SENTINEL" Bundle.listD A s s.heap) (hS : va_S A s.heap H locs) (hsize : ls.size = c.maxLocals)
    (d0 : decode cc pc = .ok (.new ik, 3)) (d3 : decode cc (pc + 3) = .ok (.dup, 1)) (d4 : decode cc (pc + 4) = .ok (.ldc is, 2)) (d6 : decode cc (pc + 6) = .ok (.invokespecial ic, 3)) (d9 : decode cc (pc + 9) = .ok (.athrow, 1))
    (hout : ∀ x ∈ c.exceptionTable.toList, covers x (pc + 9) = false)
    (hRframes : names.length + 3 < R.frames) (hRlocals : (rest.map fun v => v.category).sum + (13 * (names.length + 1) + 43) ≤ R.locals) (hRcells : cells + 1 ≤ R.cells) (hRslots : slots + 6 ≤ R.slots) (hlocks : meth.locks = false)
    (hx : ∀ t : State, s.vm.Alike t.vm → H.size ≤ t.heap.size → (∀ q : Nat, q < H.size → t.heap[q]? = H[q]?) → XC cls s t)
    (hf : ∀ z ∈ locs, free z.base) (hc : cells + 1 ≤ mc) (hs : slots + 6 ≤ ms) :
    W p l e R s m args below meth c H locs cells slots (vx_MQ below Qc XC args s mc ms free) (F0 m pc ls rest) := by
  intro T hT X
  have htr : e.platform.stackTraces = false := (show e.platform.stackTraces = l.stackTraces by rw [X.admits.platform]).trans hl
  have Y := vx_rebase X (R' := { frames := R.frames, locals := R.locals, cells := 1, slots := 6 }) (Nat.le_refl _) (Nat.le_refl _) hRcells hRslots
  obtain ⟨s', hA⟩ : ∃ z, z = (T.setVm s.vm).setFrames (.invoking m args :: below) := ⟨_, rfl⟩
  rw [← hA] at Y
  have hvm : s'.vm = s.vm := by rw [hA]; rfl
  have hhp : s'.heap = H := by rw [hA]; exact hT
  have hW0 : s.WarmedH s'.vm := by rw [hvm]; exact State.WarmedH.refl s
  have hat' : ∀ w ∈ vx_atS own ic cls names, w.before args s' = true := fun w hw => vx_ot_at hW0 hvm.symm (hgood w (List.mem_cons_of_mem _ (List.mem_cons_of_mem _ hw))) (hat w hw)
  have hk' : (Cond.classLink own ik cls).before args s' = true := vx_ot_at hW0 hvm.symm (hgood _ List.mem_cons_self) hk
  have hini' : (Cond.initialized cls).before args s' = true := vx_ot_at hW0 hvm.symm (hgood _ (List.mem_cons_of_mem _ List.mem_cons_self)) hini
  have hU' : vx_Zq Bundle.tN "UNASSIGNED_STACK" Bundle.steD A s' s'.heap := by rw [hhp]; exact vx_Zq.moved hW0.alike (hU.kept hS.2.1)
  have hN' : vx_Zq Bundle.tN "SUPPRESSED_SENTINEL" Bundle.listD A s' s'.heap := by rw [hhp]; exact vx_Zq.moved hW0.alike (hN.kept hS.2.1)
  have h : ∀ w ∈ Bundle.ownAtoms own ic cls names, w.before args s' = true := vx_own hat' (vx_isRefq hU'.1) (vx_isRefq hN'.1) hU'.2.word hN'.2.word
  have hown' : s'.vm.findClass own = some m.cls := by rw [hvm]; exact hown
  have hins : (Cond.instantiable cls 6).before args s' = true := h _ (by simp [Bundle.ownAtoms])
  obtain ⟨vm₁, cX, kX, hfX, hkX, -, -, X₁, st1⟩ := Y.newCold hexec (own := own) (C := cls) (index := ik) (n := 6) hown' hk' hins hini'
    (g := F0 m pc ls rest) rfl (by rw [hb]; exact d0) (Nat.le_refl _) (Nat.le_refl _)
  generalize hT1 : (T.setVm vm₁).pushCell { cls := cX, slots := kX.instanceTypes.map defaultValue, vm := .none } = T1 at X₁ st1
  have hcat : (Value.ref T.heap.size).category = 1 := rfl
  have hcellA : T1.heap[T.heap.size]? = some (freshCell cX kX) := by rw [← hT1]; exact State.heap_pushCell_size _ _
  have d3' : decode c.code (pc + 3) = .ok (.dup, 1) := by rw [hb]; exact d3
  have d4' : decode c.code (pc + 4) = .ok (.ldc is, 2) := by rw [hb]; exact d4
  have hstr' : vk_R own is text sa s' := vk_R.warm hW0 hstr
  obtain ⟨U, hsteps, hrun, hend, hW, hsame, ce, hce, hO⟩ := X₁.ctorThrowS hexec htr (own := own) (cls := cls) (names := names) (ic := ic) hown' hcls hnames h (fun x hx => nomatch hx) hfX hkX hcellA (by rw [hhp, hT]; exact Nat.le_refl _) (msg := .ref sa) rfl
    (g := { method := m, pc := pc + 6, locals := ls, stack := .ref sa :: .ref T.heap.size :: .ref T.heap.size :: rest, locked := none }) rfl hsize rfl rfl (rest := rest) rfl
    (by rw [hb]; exact d6) (by rw [hb]; exact d9) hout hRframes (by simp only [List.map_cons, List.sum_cons, hcat]; omega) hlocks
  obtain ⟨f1, f2⟩ := vx_frame hsame
  rw [hhp] at f1 f2
  have hWs : s.WarmedH U.vm := State.WarmedH.trans hW0 hW
  have hcl : s.vm.findClass cls = some ce.cls := by
    have h9 := hO.cls
    rw [hvm] at h9
    exact h9
  have hall : s.sameButNew ({ U with vm := s.vm } : State) locs mc ms := by
    subst hA
    obtain ⟨e1, e2⟩ := hsame
    rw [State.setFrames_setFrames] at e1
    have h2 : (T.setVm s.vm).sameButNew ({ U with vm := s.vm } : State) [] (0 + 1) (0 + 6) := ⟨e1, e2⟩
    have h3 := X.same.trans h2
    rw [List.append_nil] at h3
    exact h3.mono hc hs
  refine ⟨U, ?_, .threw T.heap.size, hrun, hend, Or.inr ⟨T.heap.size, rfl, cls, ce, locs, hx U hWs.alike f1 (fun q hq => f2 q hq (fun z hz => nomatch hz)), hce, hO.vm, hcl, hWs, hall, hf⟩⟩
  refine st1 _ ?_
  show Steps p.tables e below (T1.setTop { method := m, pc := pc + 3, locals := ls, stack := .ref T.heap.size :: rest, locked := none }) _
  jvm_step X₁.here [X₁.here.top, hexec, d3', Value.category]
  exact X₁.ldcString hexec (own := own) (text := text) (index := is) (a := sa) hown' hstr'.1 hstr'.2
    (g := { method := m, pc := pc + 4, locals := ls, stack := .ref T.heap.size :: .ref T.heap.size :: rest, locked := none }) rfl d4' _ hsteps
/-- 'throw new E("text")', the text by a wide index -/
theorem vx_throwSW {cc : ByteArray} {pc : Nat} (hexec : p.tables.exec = Jvm.exec) (hb : c.code = cc) (hl : l.stackTraces = false) {own cls text : String} {names : List String} {ik is ic mc ms sa : Nat} {A : Nat → Prop}
    (hown : s.vm.findClass own = some m.cls) (hcls : Bundle.fit cls = true) (hnames : ∀ n ∈ names, Bundle.fit n = true)
    (hk : (Cond.classLink own ik cls).before args s = true) (hini : (Cond.initialized cls).before args s = true) (hstr : vk_R own is text sa s) (hat : ∀ w ∈ vx_atS own ic cls names, w.before args s = true)
    (hgood : ∀ w ∈ Cond.classLink own ik cls :: Cond.initialized cls :: vx_atS own ic cls names, vx_ot w = true)
    (hU : vx_Zq Bundle.tN "UNASSIGNED_STACK" Bundle.steD A s s.heap) (hN : vx_Zq Bundle.tN "SUPPRESSED_SENTINEL" Bundle.listD A s s.heap) (hS : va_S A s.heap H locs) (hsize : ls.size = c.maxLocals)
    (d0 : decode cc pc = .ok (.new ik, 3)) (d3 : decode cc (pc + 3) = .ok (.dup, 1)) (d4 : decode cc (pc + 4) = .ok (.ldc_w is, 3)) (d7 : decode cc (pc + 7) = .ok (.invokespecial ic, 3)) (d10 : decode cc (pc + 10) = .ok (.athrow, 1))
    (hout : ∀ x ∈ c.exceptionTable.toList, covers x (pc + 10) = false)
    (hRframes : names.length + 3 < R.frames) (hRlocals : (rest.map fun v => v.category).sum + (13 * (names.length + 1) + 43) ≤ R.locals) (hRcells : cells + 1 ≤ R.cells) (hRslots : slots + 6 ≤ R.slots) (hlocks : meth.locks = false)
    (hx : ∀ t : State, s.vm.Alike t.vm → H.size ≤ t.heap.size → (∀ q : Nat, q < H.size → t.heap[q]? = H[q]?) → XC cls s t)
    (hf : ∀ z ∈ locs, free z.base) (hc : cells + 1 ≤ mc) (hs : slots + 6 ≤ ms) :
    W p l e R s m args below meth c H locs cells slots (vx_MQ below Qc XC args s mc ms free) (F0 m pc ls rest) := by
  intro T hT X
  have htr : e.platform.stackTraces = false := (show e.platform.stackTraces = l.stackTraces by rw [X.admits.platform]).trans hl
  have Y := vx_rebase X (R' := { frames := R.frames, locals := R.locals, cells := 1, slots := 6 }) (Nat.le_refl _) (Nat.le_refl _) hRcells hRslots
  obtain ⟨s', hA⟩ : ∃ z, z = (T.setVm s.vm).setFrames (.invoking m args :: below) := ⟨_, rfl⟩
  rw [← hA] at Y
  have hvm : s'.vm = s.vm := by rw [hA]; rfl
  have hhp : s'.heap = H := by rw [hA]; exact hT
  have hW0 : s.WarmedH s'.vm := by rw [hvm]; exact State.WarmedH.refl s
  have hat' : ∀ w ∈ vx_atS own ic cls names, w.before args s' = true := fun w hw => vx_ot_at hW0 hvm.symm (hgood w (List.mem_cons_of_mem _ (List.mem_cons_of_mem _ hw))) (hat w hw)
  have hk' : (Cond.classLink own ik cls).before args s' = true := vx_ot_at hW0 hvm.symm (hgood _ List.mem_cons_self) hk
  have hini' : (Cond.initialized cls).before args s' = true := vx_ot_at hW0 hvm.symm (hgood _ (List.mem_cons_of_mem _ List.mem_cons_self)) hini
  have hU' : vx_Zq Bundle.tN "UNASSIGNED_STACK" Bundle.steD A s' s'.heap := by rw [hhp]; exact vx_Zq.moved hW0.alike (hU.kept hS.2.1)
  have hN' : vx_Zq Bundle.tN "SUPPRESSED_SENTINEL" Bundle.listD A s' s'.heap := by rw [hhp]; exact vx_Zq.moved hW0.alike (hN.kept hS.2.1)
  have h : ∀ w ∈ Bundle.ownAtoms own ic cls names, w.before args s' = true := vx_own hat' (vx_isRefq hU'.1) (vx_isRefq hN'.1) hU'.2.word hN'.2.word
  have hown' : s'.vm.findClass own = some m.cls := by rw [hvm]; exact hown
  have hins : (Cond.instantiable cls 6).before args s' = true := h _ (by simp [Bundle.ownAtoms])
  obtain ⟨vm₁, cX, kX, hfX, hkX, -, -, X₁, st1⟩ := Y.newCold hexec (own := own) (C := cls) (index := ik) (n := 6) hown' hk' hins hini'
    (g := F0 m pc ls rest) rfl (by rw [hb]; exact d0) (Nat.le_refl _) (Nat.le_refl _)
  generalize hT1 : (T.setVm vm₁).pushCell { cls := cX, slots := kX.instanceTypes.map defaultValue, vm := .none } = T1 at X₁ st1
  have hcat : (Value.ref T.heap.size).category = 1 := rfl
  have hcellA : T1.heap[T.heap.size]? = some (freshCell cX kX) := by rw [← hT1]; exact State.heap_pushCell_size _ _
  have d3' : decode c.code (pc + 3) = .ok (.dup, 1) := by rw [hb]; exact d3
  have d4' : decode c.code (pc + 4) = .ok (.ldc_w is, 3) := by rw [hb]; exact d4
  have hstr' : vk_R own is text sa s' := vk_R.warm hW0 hstr
  obtain ⟨U, hsteps, hrun, hend, hW, hsame, ce, hce, hO⟩ := X₁.ctorThrowS hexec htr (own := own) (cls := cls) (names := names) (ic := ic) hown' hcls hnames h (fun x hx => nomatch hx) hfX hkX hcellA (by rw [hhp, hT]; exact Nat.le_refl _) (msg := .ref sa) rfl
    (g := { method := m, pc := pc + 7, locals := ls, stack := .ref sa :: .ref T.heap.size :: .ref T.heap.size :: rest, locked := none }) rfl hsize rfl rfl (rest := rest) rfl
    (by rw [hb]; exact d7) (by rw [hb]; exact d10) hout hRframes (by simp only [List.map_cons, List.sum_cons, hcat]; omega) hlocks
  obtain ⟨f1, f2⟩ := vx_frame hsame
  rw [hhp] at f1 f2
  have hWs : s.WarmedH U.vm := State.WarmedH.trans hW0 hW
  have hcl : s.vm.findClass cls = some ce.cls := by
    have h9 := hO.cls
    rw [hvm] at h9
    exact h9
  have hall : s.sameButNew ({ U with vm := s.vm } : State) locs mc ms := by
    subst hA
    obtain ⟨e1, e2⟩ := hsame
    rw [State.setFrames_setFrames] at e1
    have h2 : (T.setVm s.vm).sameButNew ({ U with vm := s.vm } : State) [] (0 + 1) (0 + 6) := ⟨e1, e2⟩
    have h3 := X.same.trans h2
    rw [List.append_nil] at h3
    exact h3.mono hc hs
  refine ⟨U, ?_, .threw T.heap.size, hrun, hend, Or.inr ⟨T.heap.size, rfl, cls, ce, locs, hx U hWs.alike f1 (fun q hq => f2 q hq (fun z hz => nomatch hz)), hce, hO.vm, hcl, hWs, hall, hf⟩⟩
  refine st1 _ ?_
  show Steps p.tables e below (T1.setTop { method := m, pc := pc + 3, locals := ls, stack := .ref T.heap.size :: rest, locked := none }) _
  jvm_step X₁.here [X₁.here.top, hexec, d3', Value.category]
  exact X₁.ldcStringW hexec (own := own) (text := text) (index := is) (a := sa) hown' hstr'.1 hstr'.2
    (g := { method := m, pc := pc + 4, locals := ls, stack := .ref T.heap.size :: .ref T.heap.size :: rest, locked := none }) rfl d4' _ hsteps
end Ends
section Bodies
variable {l : Launch}
theorem vx_ofW {y : MethodName} {ws ws' : List Cond} {rm : Room} {Pc : Array Value → State → Prop} {Qc : Array Value → State → Outcome → State → Prop} {XC : String → State → State → Prop} {mc ms : Nat} {free : Addr → Prop} {cc : ByteArray} {maxL : Nat} {ret : Option FieldType}
    (hy : plainName y.cls = true) (hw : ws = Cond.code y cc maxL ret :: ws')
    (body : ∀ p e s m args below meth c s₁, BodyLoose p l y (headSpec ws rm) cc maxL ret e s m args below meth c s₁ → c.maxLocals = maxL → (∀ x ∈ c.exceptionTable.toList, False) → Pc args s →
      W p l e (headSpec ws rm).room s m args below meth c s.heap [] 0 0 (vx_MQ below Qc XC args s mc ms free) (entryFrame m args maxL)) : vx_Met l y ws rm Pc Qc XC mc ms free := by
  refine MetFree.of_bodyS (code := cc) (maxLocals := maxL) (ret := ret) hy ?_ ?_
  · intro args s m h hn
    obtain ⟨meth, c, h1, h2, h3, h4, h5, h6, -, -⟩ := Cond.code_spec hn (atoms_spec (ws := ws) h _ (by rw [hw]; exact List.mem_cons_self))
    exact ⟨meth, c, h1, h2, h3, h4, h5, h6⟩
  · intro p e s m args below meth c s₁ B hml hP _
    have hh0 : s₁.heap = s.heap := by rw [B.state]; rfl
    have ht : ∀ x ∈ c.exceptionTable.toList, False := by
      obtain ⟨meth9, c9, h1, h2, -, -, -, -, h7, -⟩ := Cond.code_spec B.named (atoms_spec (ws := ws) B.pre _ (by rw [hw]; exact List.mem_cons_self))
      cases Option.some.inj (h1.symm.trans B.method)
      cases Option.some.inj (h2.symm.trans (Stand.of_body B).code)
      intro x hx
      rw [Array.isEmpty_iff.mp h7] at hx
      cases hx
    obtain ⟨t, a1, o, b1, b2, b3⟩ := body p e s m args below meth c s₁ B hml ht hP s₁ hh0 (Stand.of_body B)
    exact ⟨t, o, a1, b1, b2, b3⟩
/-- the table of a body with handlers -/
theorem vx_table {p : Program} {x y : MethodName} {S : Spec} {cc bytes : ByteArray} {maxL maxL' : Nat} {ret ret' : Option FieldType} {e : Env} {s s₁ : State} {m : MethodId} {args : Array Value} {below : List Frame} {meth : Method} {c : Code} {hh : List (Nat × Nat × Nat × Nat)}
    (B : BodyLoose p l y S cc maxL ret e s m args below meth c s₁) (h : (Cond.codeWith y bytes maxL' ret' hh).before args s = true) : c.exceptionTable.toList = tableOf hh := by
  obtain ⟨m9, meth9, c9, hn9, h1, h2, -, -, h6, -⟩ := Cond.codeWith_spec h
  cases Option.some.inj (hn9.symm.trans B.named)
  cases Option.some.inj (h1.symm.trans B.method)
  cases Option.some.inj (h2.symm.trans (Stand.of_body B).code)
  rw [← h6, table_eq]
end Bodies
end VXA
/-! ===== END ===== -/
/-! ===== BEGIN a static call of a method with an exception table ===== -/
section VXS
variable {p : Program} {l : Launch} {e : Env} {R : Room} {s : State} {m : MethodId} {args : Array Value} {below : List Frame} {meth : Method} {c : Code} {T : State} {H : Heap} {locs : List Loc} {cells slots : Nat}
abbrev vx_CSW (R : Room) (s : State) (args : Array Value) (own : String) (index : Nat) (y : MethodName) (bytes : ByteArray) (maxL : Nat) (ret : Option FieldType) (hh : List (Nat × Nat × Nat × Nat)) (ws : List Cond) (rm : Room) (mc ms n : Nat) : Prop :=
  (rm.cells = mc ∧ rm.slots = ms ∧ rm.frames + 1 ≤ R.frames ∧ 8 + (maxL + 11) + rm.locals ≤ R.locals ∧ (∀ w ∈ ws, ∀ (a' : Array Value) (U : State), s.WarmedH U.vm → w.before a' U = true) ∧ Cond.codeWith y bytes maxL ret hh ∈ ws) ∧
  (Cond.codeWith y bytes maxL ret hh).before args s = true ∧ (Cond.initialized y.cls).before args s = true ∧ (y.cls ≠ "java/lang/invoke/MethodHandle" ∧ y.cls ≠ "java/lang/invoke/VarHandle") ∧
  (∀ sig, parseMethodDescriptor y.desc = some sig → n = sig.parameters.length) ∧ (Cond.methodLink own index y).before args s = true ∧ (Cond.static y).before args s = true
theorem vx_cwSW {own : String} {index maxL mc ms : Nat} {y : MethodName} {bytes : ByteArray} {ret : Option FieldType} {hh : List (Nat × Nat × Nat × Nat)} {Ts ws ws' : List Cond} {rm : Room} (n : Nat) (ht : ∀ w ∈ Ts, w.before args s = true) (hT : GoodIn Ts (va_wsS own index y ws)) (hw : ws = Cond.codeWith y bytes maxL ret hh :: ws') (hrc : rm.cells = mc) (hrs : rm.slots = ms)
    (hd : y.cls ≠ "java/lang/invoke/MethodHandle" ∧ y.cls ≠ "java/lang/invoke/VarHandle" ∧ (parseMethodDescriptor y.desc).map (fun d => d.parameters.length) = some n) (hR : rm.frames + 1 ≤ R.frames ∧ 8 + (maxL + 11) + rm.locals ≤ R.locals) :
    vx_CSW R s args own index y bytes maxL ret hh ws rm mc ms n := by
  have ok : ∀ w ∈ va_wsS own index y ws, w.before args s = true := fun w h => ht w (hT w h).1
  have hG : GoodIn Ts ws := fun w h => hT w (by unfold va_wsS; exact List.mem_append_right _ h)
  have hc : Cond.codeWith y bytes maxL ret hh ∈ ws := by rw [hw]; exact List.mem_cons_self
  refine ⟨⟨hrc, hrs, hR.1, hR.2, pay_in ht hG, hc⟩, ht _ (hG _ hc).1, ok _ (by simp [va_wsS]), ⟨hd.1, hd.2.1⟩, fun sig h => ?_, ok _ (by simp [va_wsS]), ok _ (by simp [va_wsS])⟩
  have h2 := hd.2.2
  rw [h] at h2
  exact (Option.some.inj h2).symm
theorem vx_callSW (X : Stand p l e R s m args below meth c T locs cells slots) (hexec : p.tables.exec = Jvm.exec) {own : String} {index : Nat} {y : MethodName} {bytes : ByteArray} {maxL : Nat} {ret : Option FieldType} {hh : List (Nat × Nat × Nat × Nat)}
    (hown : s.vm.findClass own = some m.cls) (hlink : (Cond.methodLink own index y).before args s = true) (hstat : (Cond.static y).before args s = true) (hinit : (Cond.initialized y.cls).before args s = true)
    (hcode : (Cond.codeWith y bytes maxL ret hh).before args s = true) (hy : y.cls ≠ "java/lang/invoke/MethodHandle" ∧ y.cls ≠ "java/lang/invoke/VarHandle")
    {W9 : Nat} {Pre : Pt → Array Value → Prop} {Post : Pt → Array Value → Option Value → Pt → Prop} (hK : Back l R p e below s args y 3 W9 Pre Post)
    {g : JFrame} (hg : g.method = m) (hsize : g.locals.size = c.maxLocals) {argsL rest : List Value} (hlen : ∀ sig, parseMethodDescriptor y.desc = some sig → argsL.length = sig.parameters.length)
    (hstack : g.stack = argsL.reverse ++ rest) (hW : 2 * g.monitorRoom + (rest.map fun v => v.category).sum ≤ W9) (hdg : decode c.code g.pc = .ok (.invokestatic index, 3))
    (hpre : ∀ vm₁, s.WarmedH vm₁ → Pre ⟨T.setVm vm₁, locs, cells, slots⟩ argsL.toArray) :
    ∃ (v : Option Value) (vm₁ : Vm) (B : Pt), s.WarmedH vm₁ ∧ Stand p l e R s m args below meth c B.U B.locs B.cells B.slots ∧ Post ⟨T.setVm vm₁, locs, cells, slots⟩ argsL.toArray v B ∧
      ∀ target, Steps p.tables e below (B.U.setTop { g with pc := g.pc + 3, stack := v.toList ++ rest }) target → Steps p.tables e below (T.setTop g) target := by
  obtain ⟨mk, methM, cM, hnamed, hmethM, -, -, -, -, -, -, hsigM⟩ := Cond.codeWith_spec hcode
  have hstatic : methM.isStatic = true := Cond.static_spec hnamed hmethM hstat
  obtain ⟨kP, hkP, -⟩ := className_of_methodNamed hnamed
  have hinitP : kP.init = .initialized := Cond.initialized_spec (findClass_of_methodNamed hnamed) hkP hinit
  obtain ⟨vm₁, X₁, hstep₁⟩ := X.invokestatic hexec hown hlink hnamed hmethM hstatic hkP hinitP hy (g := g) hg (argsL := argsL) (rest := rest) (hlen _ hsigM) hstack hdg
  obtain ⟨v, B, X', hpost, hsteps⟩ := hK m meth c ⟨T.setVm vm₁, locs, cells, slots⟩ { g with stack := rest } (.invokestatic index) mk argsL.toArray X₁ hg hsize hdg hW (X₁.named hnamed) (hpre vm₁ X₁.warmed)
  exact ⟨v, vm₁, B, X₁.warmed, X', hpost, fun target h => hstep₁ _ fun acts => by rw [doInvoke_state]; exact hsteps.trans h⟩
theorem vx_runSW {y : MethodName} {bytes cc : ByteArray} {maxL nL mc ms n index : Nat} {ret : Option FieldType} {hh : List (Nat × Nat × Nat × Nat)} {ws : List Cond} {rm : Room} {Pc : Array Value → State → Prop} {Qc : Array Value → State → Outcome → State → Prop} {free : Addr → Prop} {Ts : List Cond} {own : String} {As rest : List Value} {g : JFrame}
    (S : CallFix p m c cc nL s args Ts own) (hM : Met l y ws rm Pc Qc mc ms free) (cw : vx_CSW R s args own index y bytes maxL ret hh ws rm mc ms n) (hp : PreS s H Pc As)
    (hg : g.method = m) (hn : As.length = n) (hsize : g.locals.size = nL) (hstack : g.stack = As.reverse ++ rest) (hW : 2 * g.monitorRoom + (rest.map fun v => v.category).sum ≤ 8) (hdg : decode cc g.pc = .ok (.invokestatic index, 3)) (hf : cells + mc ≤ R.cells ∧ slots + ms ≤ R.slots) :
    va_Run p l e R s m args below meth c H locs cells slots mc ms g rest (Qc As.toArray) (free) := by
  obtain ⟨⟨hrc, hrs, hfr, hlo, hws, hcw⟩, hcode, hini, hy, hlen, hl, hstt⟩ := cw
  have hK : Back l R p e below s args y 3 8 (PreOf R mc ms Pc) (PostOf Qc mc ms free) := va_backW (hh := hh) (bytes := bytes) (maxL := maxL) (ret := ret) hM hp.1 hrc hrs hfr hlo hws hcw (fun a' U hW => word_at hW (Or.inl (by first | rfl | simp [Cond.onTables, Cond.keeps, Cond.steady])) hini)
  obtain ⟨hx, hb, hml, ho, -⟩ := S
  intro T hT X
  obtain ⟨v, vm₁, ⟨U', l2, c2, s2⟩, hW₁, X', ⟨g', mk, t, L, e1, e2, hq, h1, hL, h2, h3⟩, st⟩ := vx_callSW X hx (hh := hh) (bytes := bytes) (maxL := maxL) (ret := ret) ho hl hstt hini hcode hy hK hg (hsize.trans hml.symm) (argsL := As) (rest := rest) (fun sig h => hn.trans (hlen sig h)) hstack hW (by rw [hb]; exact hdg)
    (fun vm₁ hW₁ => ⟨hf.1, hf.2, hp.2 (T.setVm vm₁) hT hW₁⟩)
  dsimp only [Pt.U, Pt.locs, Pt.cells, Pt.slots] at X' e1 e2 h1 h2 h3 st
  subst h1; subst h2; subst h3
  exact ⟨v, (T.setVm vm₁).calling g' mk As.toArray, t, U', L, hT, X', hL, e1, e2, hq, st⟩
/-- not caught here, past rows that name other classes: it goes on to the caller -/
theorem vx_outP {p : Program} {l : Launch} {e : Env} {R : Room} {s : State} {m : MethodId} {args : Array Value} {below : List Frame} {meth : Method} {c : Code} {H : Heap} {locs : List Loc} {cells slots : Nat} {free : Addr → Prop} {ls : Array Slot} {rest : List Value} {Qc : Array Value → State → Outcome → State → Prop} {XC : String → State → State → Prop}
    {pc : Nat} {own E : String} {ce : Cell} {q : Addr} {mc ms : Nat} (hown : s.vm.findClass own = some m.cls) (hlocks : meth.locks = false)
    (hpass : ∀ z ∈ c.exceptionTable.toList, covers z pc = false ∨ (z.catchType ≠ 0 ∧ ∃ nm : String, (Cond.classLink own z.catchType nm).before args s = true ∧ va_Nc E nm s)) (hcell : H[q]? = some ce) (hv : ce.vm = .none) (hcl : s.vm.findClass E = some ce.cls)
    (hx : ∀ t : State, t.heap = H → s.vm.Alike t.vm → XC E s t) (hf : ∀ z ∈ locs, free z.base) (hc : cells ≤ mc) (hs : slots ≤ ms) :
    vx_W p l e R s m args below meth c H locs cells slots (vx_MQ below Qc XC args s mc ms free) (F0 m pc ls rest) q := by
  intro T hT X
  have hpl : e.platform.magicAccessors = ({} : Platform).magicAccessors := by rw [X.admits.platform]
  obtain ⟨vm', hW', X', st⟩ := X.outThrough hlocks q (g := F0 m pc ls rest) rfl rfl rfl (cell := ce) (by rw [hT]; exact hcell) (by rw [hv]; rfl)
    (by obtain ⟨k9, h9, -⟩ := Vm.findClass_spec hcl; exact ⟨k9, h9⟩) (fun z hz => by
      rcases hpass z hz with h | ⟨hz0, nm, hl1, hn1⟩
      · exact Or.inl h
      · obtain ⟨c6, hc6, hcl6⟩ := Cond.classLink_spec hown hl1 e.platform hpl
        obtain ⟨a8, b8, h1, h2, h3⟩ := hn1
        cases Option.some.inj (h1.symm.trans hcl)
        cases Option.some.inj (h2.symm.trans hc6)
        exact Or.inr ⟨hz0, _, hcl6, h3⟩)
  obtain ⟨g₀, hfr⟩ := X'.frames_eq
  have hcell9 : ((T.setVm vm').setFrames (.throwing q :: below)).heap[q]? = some ce := by
    show T.heap[q]? = some ce
    rw [hT]; exact hcell
  have hend : Ended ((T.setVm vm').setFrames (.throwing q :: below)) below (.threw q) := State.frames_setFrames _ (State.cur_lt_of_frames hfr)
  refine ⟨(T.setVm vm').setFrames (.throwing q :: below), ?_, .threw q, X'.here.running, hend, Or.inr ⟨q, rfl, E, ce, locs, hx _ hT (X'.ends _).1.alike, hcell9, hv, hcl, (X'.ends _).1, (X'.ends _).2.mono hc hs, hf⟩⟩
  rw [X.pushThrowing_eq]
  exact st
/-- a thing of a world lies in the heap -/
theorem vx_lt {D : va_G} {cl : List vw_C} {ws : va_W} {H1 : Heap} (h : va_P D cl ws H1) {k : Nat} {q : Nat × va_E} (hk : ws[k]? = some q) : q.1 < H1.size := (h k q hk).lt
end VXS
/-! ===== END ===== -/
/-! ===== BEGIN methods with a table of their own: called by a name, returning or throwing ===== -/
section VXH
/-! vx_backW, vx_callVX, vx_callSX, vx_callVW, vx_runVW, vx_runVX, vx_runSX, vx_ofWH follow the same proofs as their sisters above (Free/Laws.lean, Shelf42/LK1.lean); vx_outP calls Shelf42/NT130.lean (outThrough). -/
section
variable {l : Launch} {R : Room} {p : Program} {e : Env} {below : List Frame} {s : State} {sargs : Array Value} {y : MethodName} {len W9 : Nat}
theorem vx_backW {ws : List Cond} {rm : Room} {Pc : Array Value → State → Prop} {Qc : Array Value → State → Outcome → State → Prop} {XC : String → State → State → Prop} {mc ms : Nat} {free : Addr → Prop} {bytes : ByteArray} {maxL : Nat} {ret : Option FieldType} {hh : List (Nat × Nat × Nat × Nat)}
    (hM : vx_Met l y ws rm Pc Qc XC mc ms free) (hblind : FrameBlind Pc) (hrc : rm.cells = mc) (hrs : rm.slots = ms)
    (hframes : rm.frames + 1 ≤ R.frames) (hlocals : W9 + (maxL + 11) + rm.locals ≤ R.locals)
    (hws : ∀ w ∈ ws, ∀ a' U, s.WarmedH U.vm → w.before a' U = true) (hcode : Cond.codeWith y bytes maxL ret hh ∈ ws) (hinit : ∀ a' U, s.WarmedH U.vm → (Cond.initialized y.cls).before a' U = true) :
    vx_Back l R p e below s sargs y len W9 (PreOf R mc ms Pc) (PostOf Qc mc ms free) (vx_Post XC mc ms free) := by
  intro m meth c A g ig mk a X hg hsize hdg hW hn hp
  have h1 : (headSpec ws rm).pre.before a A.U = true := atoms_intro fun w hw => hws w hw _ _ X.warmed
  have h2 : (Cond.codeWith y bytes maxL ret hh).before a A.U = true := hws _ hcode _ _ X.warmed
  have h3 : (Cond.initialized y.cls).before a A.U = true := hinit _ _ X.warmed
  have h4 : A.cells + (headSpec ws rm).room.cells ≤ R.cells := by rw [show (headSpec ws rm).room.cells = mc from hrc]; exact hp.1
  have h5 : A.slots + (headSpec ws rm).room.slots ≤ R.slots := by rw [show (headSpec ws rm).room.slots = ms from hrs]; exact hp.2.1
  have hPc : Pc a (A.U.calling g mk a) := hblind _ _ _ _ hp.2.2
  obtain ⟨U, Ls, c0, s0⟩ := A
  dsimp only [Pt.U, Pt.locs, Pt.cells, Pt.slots] at h1 h2 h3 h4 h5 X hn hPc ⊢
  obtain ⟨m9, methY, cY, hn9, hmY, hcY, -, hlY, -⟩ := Cond.codeWith_spec h2
  cases Option.some.inj (hn9.symm.trans hn)
  obtain ⟨kY, hkY, -⟩ := className_of_methodNamed hn
  have hinitY : kY.init = .initialized := Cond.initialized_spec (findClass_of_methodNamed hn) hkY h3
  have h : At U g.method c below := by rw [hg]; exact X.here
  have hlocals9 : W9 + (maxL + 11) + (headSpec ws rm).room.locals ≤ R.locals := hlocals
  have happ : (headSpec ws rm).appliesLoose y e.platform (U.calling g mk a) = true :=
    Spec.appliesLoose_calling (g := g) h hdg hn hkY hinitY
      (X.room_calling (g := g) (R' := (headSpec ws rm).room) hsize hmY hcY hframes (by rw [hlY]; omega) h4 h5) h1
  obtain ⟨mid, hmid⟩ := h.above
  have hfr : (U.setTop g).frames = (.java g :: mid) ++ below := by rw [State.frames_setTop' g h.top, hmid]; rfl
  obtain ⟨o, s₂, hsteps, -, hend, hq⟩ := Steps.callFree hM p X.admits X.cas X.clock (acts := []) hfr happ hPc trivial
  have hq' : vx_Q Qc XC mc ms free a (U.calling g mk a) o s₂ := hq
  rw [State.frames_setTop' g h.top] at hend
  obtain ⟨g₀, hg0⟩ := Option.isSome_iff_exists.mp h.top
  obtain ⟨r, hr⟩ := State.topJava?_eq_some.mp hg0
  have hr' : (({ U with heap := s₂.heap, slotsUsed := s₂.slotsUsed } : State).setVm s₂.vm).frames = .java g₀ :: r := hr
  rcases hq' with ⟨hqc, L, hfe, hL⟩ | ⟨q, rfl, E, ce, L, hx, hce, hcv, hcl, hW₂, hsm, hL⟩
  · obtain ⟨⟨v, rfl⟩, hW₂, e2, q2, q3, q4, q5, q6⟩ := id hfe
    have e3 : s₂ = ({ (U.calling g mk a).setFrames s₂.frames with heap := s₂.heap, slotsUsed := s₂.slotsUsed } : State).setVm s₂.vm := by
      have : s₂ = ({ s₂ with vm := (U.calling g mk a).vm } : State).setVm s₂.vm := rfl
      rw [e2] at this
      exact this
    obtain ⟨c₂, i₂, len₂, hc₂, hd₂, hf₂⟩ := hend
    have hW' : U.WarmedH s₂.vm := hW₂
    have hcc : c₂ = c := by
      have h1 : s₂.code? g.method = U.code? g.method := by
        rw [State.code?_eq, State.code?_eq, hW'.alike.method?]
      exact Option.some.inj (hc₂.symm.trans (h1.trans h.code))
    subst hcc
    have hlen : len₂ = len := by rw [hdg] at hd₂; cases hd₂; rfl
    subst hlen
    have hs₂ : s₂ = (({ U with heap := s₂.heap, slotsUsed := s₂.slotsUsed } : State).setVm s₂.vm).setTop { g with pc := g.pc + len₂, stack := v.toList ++ g.stack } := by
      refine e3.trans ?_
      rw [hf₂, State.calling_eq h.top, State.setFrames_setFrames, State.setTop_of_frames _ hr', hr]
      rfl
    have hsame : U.sameButNew ({ U with heap := s₂.heap, slotsUsed := s₂.slotsUsed } : State) L mc ms := by
      refine ⟨?_, q2, q3, q4, q5, q6⟩
      obtain ⟨t, ht, -⟩ := State.frames_cons hr
      show ({ U with heap := s₂.heap, slotsUsed := s₂.slotsUsed } : State) = { U.setFrames U.frames with heap := s₂.heap, slotsUsed := s₂.slotsUsed }
      rw [State.setFrames_self ht]
    subst hg
    refine Or.inl ⟨v, ⟨(({ U with heap := s₂.heap, slotsUsed := s₂.slotsUsed } : State).setVm s₂.vm), Ls ++ L, c0 + mc, s0 + ms⟩,
      ⟨X.admits, X.cas, X.clock, X.frames, X.room, X.hears, X.method, X.code, (X.here.setHeapUsed s₂.heap s₂.slotsUsed).setVm hW'.alike, X.tail, State.WarmedH.trans X.warmed hW', X.limits, X.bytes, X.same.trans (hsame.setVm s.vm)⟩,
      ⟨g, mk, s₂, L, rfl, rfl, hqc, rfl, hL, rfl, rfl⟩, ?_⟩
    show Steps p.tables e below _ ((({ U with heap := s₂.heap, slotsUsed := s₂.slotsUsed } : State).setVm s₂.vm).setTop { g with pc := g.pc + len₂, stack := v.toList ++ g.stack })
    rw [← hs₂]
    exact hsteps
  · obtain ⟨e2, q2, q3, q4, q5, q6⟩ := id hsm
    have e3 : s₂ = ({ (U.calling g mk a).setFrames s₂.frames with heap := s₂.heap, slotsUsed := s₂.slotsUsed } : State).setVm s₂.vm := by
      have : s₂ = ({ s₂ with vm := (U.calling g mk a).vm } : State).setVm s₂.vm := rfl
      rw [e2] at this
      exact this
    have hf₂ : s₂.frames = .throwing q :: .java g :: U.frames.tail := hend
    have hW' : U.WarmedH s₂.vm := hW₂
    have hs₂ : s₂ = ((({ U with heap := s₂.heap, slotsUsed := s₂.slotsUsed } : State).setVm s₂.vm).setTop g).pushFrame (.throwing q) := by
      refine e3.trans ?_
      rw [hf₂, State.calling_eq h.top, State.setFrames_setFrames, State.pushFrame, State.frames_setTop _ hr', State.setTop_of_frames _ hr', State.setFrames_setFrames, hr]
      rfl
    have hsame : U.sameButNew ({ U with heap := s₂.heap, slotsUsed := s₂.slotsUsed } : State) L mc ms := by
      refine ⟨?_, q2, q3, q4, q5, q6⟩
      obtain ⟨t, ht, -⟩ := State.frames_cons hr
      show ({ U with heap := s₂.heap, slotsUsed := s₂.slotsUsed } : State) = { U.setFrames U.frames with heap := s₂.heap, slotsUsed := s₂.slotsUsed }
      rw [State.setFrames_self ht]
    subst hg
    refine Or.inr ⟨q, ⟨(({ U with heap := s₂.heap, slotsUsed := s₂.slotsUsed } : State).setVm s₂.vm), Ls ++ L, c0 + mc, s0 + ms⟩,
      ⟨X.admits, X.cas, X.clock, X.frames, X.room, X.hears, X.method, X.code, (X.here.setHeapUsed s₂.heap s₂.slotsUsed).setVm hW'.alike, X.tail, State.WarmedH.trans X.warmed hW', X.limits, X.bytes, X.same.trans (hsame.setVm s.vm)⟩,
      ⟨g, mk, s₂, L, E, ce, rfl, rfl, hx, hce, hcv, hcl, rfl, hL, rfl, rfl⟩, ?_⟩
    show Steps p.tables e below _ (((({ U with heap := s₂.heap, slotsUsed := s₂.slotsUsed } : State).setVm s₂.vm).setTop g).pushFrame (.throwing q))
    rw [← hs₂]
    exact hsteps
end
variable {p : Program} {l : Launch} {e : Env} {R : Room} {s : State} {m : MethodId} {args : Array Value} {below : List Frame} {meth : Method} {c : Code} {T : State} {H : Heap} {locs : List Loc} {cells slots : Nat}
theorem vx_callVX (X : Stand p l e R s m args below meth c T locs cells slots) (hexec : p.tables.exec = Jvm.exec) {own C : String} {index : Nat} {y : MethodName} {bytes : ByteArray} {maxL : Nat} {ret : Option FieldType} {hh : List (Nat × Nat × Nat × Nat)}
    (hown : s.vm.findClass own = some m.cls) (hlink : (Cond.methodLink own index y).before args s = true) (hinst : (Cond.instanceMethod y).before args s = true) (hsel : (Cond.selects C y y).before args s = true)
    (hcode : (Cond.codeWith y bytes maxL ret hh).before args s = true) (hy : y.cls ≠ "java/lang/invoke/MethodHandle" ∧ y.cls ≠ "java/lang/invoke/VarHandle")
    {W9 : Nat} {Pre : Pt → Array Value → Prop} {Post : Pt → Array Value → Option Value → Pt → Prop} {PostX : Pt → Array Value → Addr → Pt → Prop} (hK : vx_Back l R p e below s args y 3 W9 Pre Post PostX)
    {b : Addr} {cellB : Cell} (hcell : T.heap[b]? = some cellB) (hobj : cellB.vm.isStatics = false) (hcls : s.vm.findClass C = some cellB.cls)
    {g : JFrame} (hg : g.method = m) (hsize : g.locals.size = c.maxLocals) {argsL rest : List Value} (hlen : ∀ sig, parseMethodDescriptor y.desc = some sig → argsL.length = sig.parameters.length)
    (hstack : g.stack = argsL.reverse ++ .ref b :: rest) (hW : 2 * g.monitorRoom + (rest.map fun v => v.category).sum ≤ W9) (hdg : decode c.code g.pc = .ok (.invokevirtual index, 3))
    (hpre : ∀ vm₁, s.WarmedH vm₁ → Pre ⟨T.setVm vm₁, locs, cells, slots⟩ (Value.ref b :: argsL).toArray) :
    (∃ (v : Option Value) (vm₁ : Vm) (B : Pt), s.WarmedH vm₁ ∧ Stand p l e R s m args below meth c B.U B.locs B.cells B.slots ∧ Post ⟨T.setVm vm₁, locs, cells, slots⟩ (Value.ref b :: argsL).toArray v B ∧
      ∀ target, Steps p.tables e below (B.U.setTop { g with pc := g.pc + 3, stack := v.toList ++ rest }) target → Steps p.tables e below (T.setTop g) target) ∨
    (∃ (q : Addr) (vm₁ : Vm) (B : Pt), s.WarmedH vm₁ ∧ Stand p l e R s m args below meth c B.U B.locs B.cells B.slots ∧ PostX ⟨T.setVm vm₁, locs, cells, slots⟩ (Value.ref b :: argsL).toArray q B ∧
      Steps p.tables e below (T.setTop g) ((B.U.setTop { g with stack := rest }).pushFrame (.throwing q))) := by
  obtain ⟨mk, methM, hnamed, hmethM, hstM, habM⟩ := Cond.instanceMethod_spec hinst
  obtain ⟨m8, methM', cM, hn8, hmethM', -, -, -, -, -, -, hsigM⟩ := Cond.codeWith_spec hcode
  cases Option.some.inj (hn8.symm.trans hnamed)
  cases hmethM.symm.trans hmethM'
  obtain ⟨c2, r2, m2, q1, q2, q3, q4, kP, hkP, hkPi⟩ := Cond.selects_spec hsel
  cases hcls.symm.trans q1
  cases (State.methodFound?_of_named hnamed hy).symm.trans q2
  cases hnamed.symm.trans q3
  have hselP : selectMethod e.platform s.vm cellB.cls mk = .method mk := by rw [Launch.admits_selectMethod X.admits]; exact q4
  obtain ⟨vm₁, X₁, hstep₁⟩ := X.invokevirtual hexec hown hlink hnamed hmethM hstM hkP hkPi hy (a := b) (cell := cellB) hcell
    (fun z h => by rw [h] at hobj; cases hobj) hselP hmethM habM hkP hkPi (g := g) hg (argsL := argsL) (rest := rest) (hlen _ hsigM) hstack hdg
  rcases hK m meth c ⟨T.setVm vm₁, locs, cells, slots⟩ { g with stack := rest } (.invokevirtual index) mk (Value.ref b :: argsL).toArray X₁ hg hsize hdg hW (X₁.named hnamed) (hpre vm₁ X₁.warmed) with ⟨v, B, X', hpost, hsteps⟩ | ⟨q, B, X', hpost, hsteps⟩
  · exact Or.inl ⟨v, vm₁, B, X₁.warmed, X', hpost, fun target h => hstep₁ _ fun acts => by rw [doInvoke_state]; exact hsteps.trans h⟩
  · exact Or.inr ⟨q, vm₁, B, X₁.warmed, X', hpost, hstep₁ _ fun acts => by rw [doInvoke_state]; exact hsteps⟩
theorem vx_callSX (X : Stand p l e R s m args below meth c T locs cells slots) (hexec : p.tables.exec = Jvm.exec) {own : String} {index : Nat} {y : MethodName} {bytes : ByteArray} {maxL : Nat} {ret : Option FieldType} {hh : List (Nat × Nat × Nat × Nat)}
    (hown : s.vm.findClass own = some m.cls) (hlink : (Cond.methodLink own index y).before args s = true) (hstat : (Cond.static y).before args s = true) (hinit : (Cond.initialized y.cls).before args s = true)
    (hcode : (Cond.codeWith y bytes maxL ret hh).before args s = true) (hy : y.cls ≠ "java/lang/invoke/MethodHandle" ∧ y.cls ≠ "java/lang/invoke/VarHandle")
    {W9 : Nat} {Pre : Pt → Array Value → Prop} {Post : Pt → Array Value → Option Value → Pt → Prop} {PostX : Pt → Array Value → Addr → Pt → Prop} (hK : vx_Back l R p e below s args y 3 W9 Pre Post PostX)
    {g : JFrame} (hg : g.method = m) (hsize : g.locals.size = c.maxLocals) {argsL rest : List Value} (hlen : ∀ sig, parseMethodDescriptor y.desc = some sig → argsL.length = sig.parameters.length)
    (hstack : g.stack = argsL.reverse ++ rest) (hW : 2 * g.monitorRoom + (rest.map fun v => v.category).sum ≤ W9) (hdg : decode c.code g.pc = .ok (.invokestatic index, 3))
    (hpre : ∀ vm₁, s.WarmedH vm₁ → Pre ⟨T.setVm vm₁, locs, cells, slots⟩ argsL.toArray) :
    (∃ (v : Option Value) (vm₁ : Vm) (B : Pt), s.WarmedH vm₁ ∧ Stand p l e R s m args below meth c B.U B.locs B.cells B.slots ∧ Post ⟨T.setVm vm₁, locs, cells, slots⟩ argsL.toArray v B ∧
      ∀ target, Steps p.tables e below (B.U.setTop { g with pc := g.pc + 3, stack := v.toList ++ rest }) target → Steps p.tables e below (T.setTop g) target) ∨
    (∃ (q : Addr) (vm₁ : Vm) (B : Pt), s.WarmedH vm₁ ∧ Stand p l e R s m args below meth c B.U B.locs B.cells B.slots ∧ PostX ⟨T.setVm vm₁, locs, cells, slots⟩ argsL.toArray q B ∧
      Steps p.tables e below (T.setTop g) ((B.U.setTop { g with stack := rest }).pushFrame (.throwing q))) := by
  obtain ⟨mk, methM, cM, hnamed, hmethM, -, -, -, -, -, -, hsigM⟩ := Cond.codeWith_spec hcode
  have hstatic : methM.isStatic = true := Cond.static_spec hnamed hmethM hstat
  obtain ⟨kP, hkP, -⟩ := className_of_methodNamed hnamed
  have hinitP : kP.init = .initialized := Cond.initialized_spec (findClass_of_methodNamed hnamed) hkP hinit
  obtain ⟨vm₁, X₁, hstep₁⟩ := X.invokestatic hexec hown hlink hnamed hmethM hstatic hkP hinitP hy (g := g) hg (argsL := argsL) (rest := rest) (hlen _ hsigM) hstack hdg
  rcases hK m meth c ⟨T.setVm vm₁, locs, cells, slots⟩ { g with stack := rest } (.invokestatic index) mk argsL.toArray X₁ hg hsize hdg hW (X₁.named hnamed) (hpre vm₁ X₁.warmed) with ⟨v, B, X', hpost, hsteps⟩ | ⟨q, B, X', hpost, hsteps⟩
  · exact Or.inl ⟨v, vm₁, B, X₁.warmed, X', hpost, fun target h => hstep₁ _ fun acts => by rw [doInvoke_state]; exact hsteps.trans h⟩
  · exact Or.inr ⟨q, vm₁, B, X₁.warmed, X', hpost, hstep₁ _ fun acts => by rw [doInvoke_state]; exact hsteps⟩
theorem vx_callVW (X : Stand p l e R s m args below meth c T locs cells slots) (hexec : p.tables.exec = Jvm.exec) {own C : String} {index : Nat} {y : MethodName} {bytes : ByteArray} {maxL : Nat} {ret : Option FieldType} {hh : List (Nat × Nat × Nat × Nat)}
    (hown : s.vm.findClass own = some m.cls) (hlink : (Cond.methodLink own index y).before args s = true) (hinst : (Cond.instanceMethod y).before args s = true) (hsel : (Cond.selects C y y).before args s = true)
    (hcode : (Cond.codeWith y bytes maxL ret hh).before args s = true) (hy : y.cls ≠ "java/lang/invoke/MethodHandle" ∧ y.cls ≠ "java/lang/invoke/VarHandle")
    {W9 : Nat} {Pre : Pt → Array Value → Prop} {Post : Pt → Array Value → Option Value → Pt → Prop} (hK : Back l R p e below s args y 3 W9 Pre Post)
    {b : Addr} {cellB : Cell} (hcell : T.heap[b]? = some cellB) (hobj : cellB.vm.isStatics = false) (hcls : s.vm.findClass C = some cellB.cls)
    {g : JFrame} (hg : g.method = m) (hsize : g.locals.size = c.maxLocals) {argsL rest : List Value} (hlen : ∀ sig, parseMethodDescriptor y.desc = some sig → argsL.length = sig.parameters.length)
    (hstack : g.stack = argsL.reverse ++ .ref b :: rest) (hW : 2 * g.monitorRoom + (rest.map fun v => v.category).sum ≤ W9) (hdg : decode c.code g.pc = .ok (.invokevirtual index, 3))
    (hpre : ∀ vm₁, s.WarmedH vm₁ → Pre ⟨T.setVm vm₁, locs, cells, slots⟩ (Value.ref b :: argsL).toArray) :
    ∃ (v : Option Value) (vm₁ : Vm) (B : Pt), s.WarmedH vm₁ ∧ Stand p l e R s m args below meth c B.U B.locs B.cells B.slots ∧ Post ⟨T.setVm vm₁, locs, cells, slots⟩ (Value.ref b :: argsL).toArray v B ∧
      ∀ target, Steps p.tables e below (B.U.setTop { g with pc := g.pc + 3, stack := v.toList ++ rest }) target → Steps p.tables e below (T.setTop g) target := by
  obtain ⟨mk, methM, hnamed, hmethM, hstM, habM⟩ := Cond.instanceMethod_spec hinst
  obtain ⟨m8, methM', cM, hn8, hmethM', -, -, -, -, -, -, hsigM⟩ := Cond.codeWith_spec hcode
  cases Option.some.inj (hn8.symm.trans hnamed)
  cases hmethM.symm.trans hmethM'
  obtain ⟨c2, r2, m2, q1, q2, q3, q4, kP, hkP, hkPi⟩ := Cond.selects_spec hsel
  cases hcls.symm.trans q1
  cases (State.methodFound?_of_named hnamed hy).symm.trans q2
  cases hnamed.symm.trans q3
  have hselP : selectMethod e.platform s.vm cellB.cls mk = .method mk := by rw [Launch.admits_selectMethod X.admits]; exact q4
  obtain ⟨vm₁, X₁, hstep₁⟩ := X.invokevirtual hexec hown hlink hnamed hmethM hstM hkP hkPi hy (a := b) (cell := cellB) hcell
    (fun z h => by rw [h] at hobj; cases hobj) hselP hmethM habM hkP hkPi (g := g) hg (argsL := argsL) (rest := rest) (hlen _ hsigM) hstack hdg
  obtain ⟨v, B, X', hpost, hsteps⟩ := hK m meth c ⟨T.setVm vm₁, locs, cells, slots⟩ { g with stack := rest } (.invokevirtual index) mk (Value.ref b :: argsL).toArray X₁ hg hsize hdg hW (X₁.named hnamed) (hpre vm₁ X₁.warmed)
  exact ⟨v, vm₁, B, X₁.warmed, X', hpost, fun target h => hstep₁ _ fun acts => by rw [doInvoke_state]; exact hsteps.trans h⟩
abbrev vx_CVW (R : Room) (s : State) (args : Array Value) (own C : String) (index : Nat) (y : MethodName) (bytes : ByteArray) (maxL : Nat) (ret : Option FieldType) (hh : List (Nat × Nat × Nat × Nat)) (ws : List Cond) (rm : Room) (mc ms n : Nat) : Prop :=
  (rm.cells = mc ∧ rm.slots = ms ∧ rm.frames + 1 ≤ R.frames ∧ 8 + (maxL + 11) + rm.locals ≤ R.locals ∧ (∀ w ∈ ws, ∀ (a' : Array Value) (U : State), s.WarmedH U.vm → w.before a' U = true) ∧ Cond.codeWith y bytes maxL ret hh ∈ ws) ∧
  (Cond.codeWith y bytes maxL ret hh).before args s = true ∧ (Cond.initialized y.cls).before args s = true ∧ (y.cls ≠ "java/lang/invoke/MethodHandle" ∧ y.cls ≠ "java/lang/invoke/VarHandle") ∧
  (∀ sig, parseMethodDescriptor y.desc = some sig → n = sig.parameters.length) ∧ (Cond.methodLink own index y).before args s = true ∧ (Cond.instanceMethod y).before args s = true ∧ (Cond.selects C y y).before args s = true
theorem vx_cwVW {own C : String} {index maxL mc ms : Nat} {y : MethodName} {bytes : ByteArray} {ret : Option FieldType} {hh : List (Nat × Nat × Nat × Nat)} {Ts ws ws' : List Cond} {rm : Room} (n : Nat) (ht : ∀ w ∈ Ts, w.before args s = true) (hT : GoodIn Ts (wsV own index C y ws)) (hw : ws = Cond.codeWith y bytes maxL ret hh :: ws') (hrc : rm.cells = mc) (hrs : rm.slots = ms)
    (hd : y.cls = C ∧ y.cls ≠ "java/lang/invoke/MethodHandle" ∧ y.cls ≠ "java/lang/invoke/VarHandle" ∧ (parseMethodDescriptor y.desc).map (fun d => d.parameters.length) = some n) (hR : rm.frames + 1 ≤ R.frames ∧ 8 + (maxL + 11) + rm.locals ≤ R.locals) :
    vx_CVW R s args own C index y bytes maxL ret hh ws rm mc ms n := by
  obtain ⟨hC, hd⟩ := hd
  subst hC
  have ok : ∀ w ∈ wsV own index y.cls y ws, w.before args s = true := fun w h => ht w (hT w h).1
  have hG : GoodIn Ts ws := fun w h => hT w (by unfold wsV; exact List.mem_append_right _ h)
  have hc : Cond.codeWith y bytes maxL ret hh ∈ ws := by rw [hw]; exact List.mem_cons_self
  refine ⟨⟨hrc, hrs, hR.1, hR.2, pay_in ht hG, hc⟩, ht _ (hG _ hc).1, ok _ (by simp [wsV]), ⟨hd.1, hd.2.1⟩, fun sig h => ?_, ok _ (by simp [wsV]), ok _ (by simp [wsV]), ok _ (by simp [wsV])⟩
  have h2 := hd.2.2
  rw [h] at h2
  exact (Option.some.inj h2).symm
theorem vx_runVW {y : MethodName} {bytes cc : ByteArray} {maxL nL mc ms n index : Nat} {ret : Option FieldType} {hh : List (Nat × Nat × Nat × Nat)} {ws : List Cond} {rm : Room} {Pc : Array Value → State → Prop} {Qc : Array Value → State → Outcome → State → Prop} {free : Addr → Prop} {Ts : List Cond} {own C : String} {b : Addr} {As rest : List Value} {g : JFrame}
    (S : CallFix p m c cc nL s args Ts own) (hM : Met l y ws rm Pc Qc mc ms free) (cw : vx_CVW R s args own C index y bytes maxL ret hh ws rm mc ms n) (hp : PreV s H C b Pc As)
    (hg : g.method = m) (hn : As.length = n) (hsize : g.locals.size = nL) (hstack : g.stack = As.reverse ++ .ref b :: rest) (hW : 2 * g.monitorRoom + (rest.map fun v => v.category).sum ≤ 8) (hdg : decode cc g.pc = .ok (.invokevirtual index, 3)) (hf : cells + mc ≤ R.cells ∧ slots + ms ≤ R.slots) :
    va_Run p l e R s m args below meth c H locs cells slots mc ms g rest (Qc (Value.ref b :: As).toArray) free := by
  obtain ⟨⟨hrc, hrs, hfr, hlo, hws, hcw⟩, hcode, hini, hy, hlen, hl, hin, hse⟩ := cw
  have hK : Back l R p e below s args y 3 8 (PreOf R mc ms Pc) (PostOf Qc mc ms free) := va_backW (hh := hh) (bytes := bytes) (maxL := maxL) (ret := ret) hM hp.1 hrc hrs hfr hlo hws hcw (fun a' U hW => word_at hW (Or.inl (by first | rfl | simp [Cond.onTables, Cond.keeps, Cond.steady])) hini)
  obtain ⟨hx, hb, hml, ho, -⟩ := S
  obtain ⟨-, ⟨cellB, hcB, hoB, hclB⟩, hPc⟩ := hp
  intro T hT X
  obtain ⟨v, vm₁, ⟨U', l2, c2, s2⟩, hW₁, X', ⟨g', mk, t, L, e1, e2, hq, h1, hL, h2, h3⟩, st⟩ := vx_callVW X hx (C := C) (hh := hh) (bytes := bytes) (maxL := maxL) (ret := ret) ho hl hin hse hcode hy hK (by rw [hT]; exact hcB) hoB hclB hg (hsize.trans hml.symm) (argsL := As) (rest := rest) (fun sig h => hn.trans (hlen sig h)) hstack hW (by rw [hb]; exact hdg)
    (fun vm₁ hW₁ => ⟨hf.1, hf.2, hPc (T.setVm vm₁) hT hW₁⟩)
  dsimp only [Pt.U, Pt.locs, Pt.cells, Pt.slots] at X' e1 e2 h1 h2 h3 st
  subst h1; subst h2; subst h3
  exact ⟨v, (T.setVm vm₁).calling g' mk (Value.ref b :: As).toArray, t, U', L, hT, X', hL, e1, e2, hq, st⟩
section
variable {y : MethodName} {bytes cc : ByteArray} {maxL nL mc ms n index : Nat} {ret : Option FieldType} {ws : List Cond} {rm : Room} {Pc : Array Value → State → Prop} {Qc : Array Value → State → Outcome → State → Prop} {XC : String → State → State → Prop} {free : Addr → Prop} {Ts : List Cond} {own C : String} {b : Addr} {As rest : List Value} {g : JFrame}
theorem vx_runVX {hh : List (Nat × Nat × Nat × Nat)} (S : CallFix p m c cc nL s args Ts own) (hM : vx_Met l y ws rm Pc Qc XC mc ms free) (cw : vx_CVW R s args own C index y bytes maxL ret hh ws rm mc ms n) (hp : PreV s H C b Pc As)
    (hg : g.method = m) (hn : As.length = n) (hsize : g.locals.size = nL) (hstack : g.stack = As.reverse ++ .ref b :: rest) (hW : 2 * g.monitorRoom + (rest.map fun v => v.category).sum ≤ 8) (hdg : decode cc g.pc = .ok (.invokevirtual index, 3)) (hf : cells + mc ≤ R.cells ∧ slots + ms ≤ R.slots) :
    vx_Run p l e R s m args below meth c H locs cells slots mc ms g rest (Qc (Value.ref b :: As).toArray) XC free := by
  obtain ⟨⟨hrc, hrs, hfr, hlo, hws, hcw⟩, hcode, hini, hy, hlen, hl, hin, hse⟩ := cw
  have hK : vx_Back l R p e below s args y 3 8 (PreOf R mc ms Pc) (PostOf Qc mc ms free) (vx_Post XC mc ms free) := vx_backW (hh := hh) (bytes := bytes) (maxL := maxL) (ret := ret) hM hp.1 hrc hrs hfr hlo hws hcw (fun a' U hW => word_at hW (Or.inl (by first | rfl | simp [Cond.onTables, Cond.keeps, Cond.steady])) hini)
  obtain ⟨hx, hb, hml, ho, -⟩ := S
  obtain ⟨-, ⟨cellB, hcB, hoB, hclB⟩, hPc⟩ := hp
  intro T hT X
  rcases vx_callVX X hx (C := C) (hh := hh) (bytes := bytes) (maxL := maxL) (ret := ret) ho hl hin hse hcode hy hK (by rw [hT]; exact hcB) hoB hclB hg (hsize.trans hml.symm) (argsL := As) (rest := rest) (fun sig h => hn.trans (hlen sig h)) hstack hW (by rw [hb]; exact hdg)
    (fun vm₁ hW₁ => ⟨hf.1, hf.2, hPc (T.setVm vm₁) hT hW₁⟩) with ⟨v, vm₁, ⟨U', l2, c2, s2⟩, hW₁, X', ⟨g', mk, t, L, e1, e2, hq, h1, hL, h2, h3⟩, st⟩ | ⟨q, vm₁, ⟨U', l2, c2, s2⟩, hW₁, X', ⟨g', mk, t, L, E, ce, e1, e2, hq, hce, hcv, hcl, h1, hL, h2, h3⟩, st⟩
  · dsimp only [Pt.U, Pt.locs, Pt.cells, Pt.slots] at X' e1 e2 h1 h2 h3 st
    subst h1; subst h2; subst h3
    exact Or.inl ⟨v, (T.setVm vm₁).calling g' mk (Value.ref b :: As).toArray, t, U', L, hT, X', hL, e1, e2, hq, st⟩
  · dsimp only [Pt.U, Pt.locs, Pt.cells, Pt.slots] at X' e1 e2 h1 h2 h3 st hcl
    subst h1; subst h2; subst h3
    exact Or.inr ⟨q, (T.setVm vm₁).calling g' mk (Value.ref b :: As).toArray, t, U', L, E, ce, hT, X', hL, e1, e2, hq, hce, hcv, vx_cls hW₁ hcl, st⟩
theorem vx_runSX {hh : List (Nat × Nat × Nat × Nat)} (S : CallFix p m c cc nL s args Ts own) (hM : vx_Met l y ws rm Pc Qc XC mc ms free) (cw : vx_CSW R s args own index y bytes maxL ret hh ws rm mc ms n) (hp : PreS s H Pc As)
    (hg : g.method = m) (hn : As.length = n) (hsize : g.locals.size = nL) (hstack : g.stack = As.reverse ++ rest) (hW : 2 * g.monitorRoom + (rest.map fun v => v.category).sum ≤ 8) (hdg : decode cc g.pc = .ok (.invokestatic index, 3)) (hf : cells + mc ≤ R.cells ∧ slots + ms ≤ R.slots) :
    vx_Run p l e R s m args below meth c H locs cells slots mc ms g rest (Qc As.toArray) XC free := by
  obtain ⟨⟨hrc, hrs, hfr, hlo, hws, hcw⟩, hcode, hini, hy, hlen, hl, hstt⟩ := cw
  have hK : vx_Back l R p e below s args y 3 8 (PreOf R mc ms Pc) (PostOf Qc mc ms free) (vx_Post XC mc ms free) := vx_backW (hh := hh) (bytes := bytes) (maxL := maxL) (ret := ret) hM hp.1 hrc hrs hfr hlo hws hcw (fun a' U hW => word_at hW (Or.inl (by first | rfl | simp [Cond.onTables, Cond.keeps, Cond.steady])) hini)
  obtain ⟨hx, hb, hml, ho, -⟩ := S
  intro T hT X
  rcases vx_callSX X hx (hh := hh) (bytes := bytes) (maxL := maxL) (ret := ret) ho hl hstt hini hcode hy hK hg (hsize.trans hml.symm) (argsL := As) (rest := rest) (fun sig h => hn.trans (hlen sig h)) hstack hW (by rw [hb]; exact hdg)
    (fun vm₁ hW₁ => ⟨hf.1, hf.2, hp.2 (T.setVm vm₁) hT hW₁⟩) with ⟨v, vm₁, ⟨U', l2, c2, s2⟩, hW₁, X', ⟨g', mk, t, L, e1, e2, hq, h1, hL, h2, h3⟩, st⟩ | ⟨q, vm₁, ⟨U', l2, c2, s2⟩, hW₁, X', ⟨g', mk, t, L, E, ce, e1, e2, hq, hce, hcv, hcl, h1, hL, h2, h3⟩, st⟩
  · dsimp only [Pt.U, Pt.locs, Pt.cells, Pt.slots] at X' e1 e2 h1 h2 h3 st
    subst h1; subst h2; subst h3
    exact Or.inl ⟨v, (T.setVm vm₁).calling g' mk As.toArray, t, U', L, hT, X', hL, e1, e2, hq, st⟩
  · dsimp only [Pt.U, Pt.locs, Pt.cells, Pt.slots] at X' e1 e2 h1 h2 h3 st hcl
    subst h1; subst h2; subst h3
    exact Or.inr ⟨q, (T.setVm vm₁).calling g' mk As.toArray, t, U', L, E, ce, hT, X', hL, e1, e2, hq, hce, hcv, vx_cls hW₁ hcl, st⟩
end
end VXH
theorem vx_ofWH {l : Launch} {y : MethodName} {ws ws' : List Cond} {rm : Room} {Pc : Array Value → State → Prop} {Qc : Array Value → State → Outcome → State → Prop} {XC : String → State → State → Prop} {mc ms : Nat} {free : Addr → Prop} {cc : ByteArray} {maxL : Nat} {ret : Option FieldType} {hh : List (Nat × Nat × Nat × Nat)}
    (hy : plainName y.cls = true) (hw : ws = Cond.codeWith y cc maxL ret hh :: ws')
    (body : ∀ p e s m args below meth c s₁, BodyLoose p l y (headSpec ws rm) cc maxL ret e s m args below meth c s₁ → c.maxLocals = maxL → Pc args s →
      W p l e (headSpec ws rm).room s m args below meth c s.heap [] 0 0 (vx_MQ below Qc XC args s mc ms free) (entryFrame m args maxL)) : vx_Met l y ws rm Pc Qc XC mc ms free := by
  refine MetFree.of_bodyS (code := cc) (maxLocals := maxL) (ret := ret) hy ?_ ?_
  · intro args s m h hn
    obtain ⟨m9, meth, c, hn9, h1, h2, h3, h4, -, h5, h6, -⟩ := Cond.codeWith_spec (atoms_spec (ws := ws) h _ (by rw [hw]; exact List.mem_cons_self))
    cases hn.symm.trans hn9
    exact ⟨meth, c, h1, h2, h3, h4, h5, h6⟩
  · intro p e s m args below meth c s₁ B hml hP _
    have hh0 : s₁.heap = s.heap := by rw [B.state]; rfl
    obtain ⟨t, a1, o, b1, b2, b3⟩ := body p e s m args below meth c s₁ B hml hP s₁ hh0 (Stand.of_body B)
    exact ⟨t, o, a1, b1, b2, b3⟩
/-! ===== END ===== -/
end
section
/-! ===== BEGIN printed: names, fields, word lists, decode rows ===== -/
def RX0 : String := "FrostCalendar$Change"
def TX0 : u_T := fun k => match k with
  | 0 => ("FrostCalendar$Change", "scope", "I", true)
  | 1 => ("FrostCalendar$Change", "length", "I", true)
  | 2 => ("FrostCalendar$Change", "risk", "I", true)
  | 3 => ("FrostCalendar$Change", "from", "I", false)
  | 4 => ("FrostCalendar$Change", "approvedRank", "I", false)
  | 5 => ("FrostCalendar$Change", "excusedFrom", "I", false)
  | 6 => ("FrostCalendar$Change", "hasBegun", "Z", false)
  | _ => ("FrostCalendar$Change", "freezesLaidBefore", "I", false)
def tyX0 : Nat → FieldType := fun k => match k with
  | 0 => .int
  | 1 => .int
  | 2 => .int
  | 3 => .int
  | 4 => .int
  | 5 => .int
  | 6 => .boolean
  | _ => .int
abbrev wsX00 : List Cond := u_ws RX0 TX0 8
theorem nmX0 : ∀ a, a < 8 → ∀ b, b < 8 → a ≠ b → (TX0 a).2.1 ≠ (TX0 b).2.1 := by decide +kernel
theorem tyX0_ok : ∀ k, k < 8 → parseFieldDescriptor (TX0 k).2.2.1 = some (tyX0 k) := by decide +kernel
abbrev cX0_init : ByteArray := prog_2_method_1_code
def yX0_init : MethodName := ⟨RX0, "<init>", "(IIII)V"⟩
abbrev cX0_hourBehind : ByteArray := prog_2_method_2_code
def yX0_hourBehind : MethodName := ⟨RX0, "hourBehind", "()I"⟩
def RX1 : String := "FrostCalendar$Freeze"
def TX1 : u_T := fun k => match k with
  | _ => ("", "", "", false)
def tyX1 : Nat → FieldType := fun k => match k with
  | _ => .int
abbrev wsX10 : List Cond := u_ws RX1 TX1 0
theorem nmX1 : ∀ a, a < 0 → ∀ b, b < 0 → a ≠ b → (TX1 a).2.1 ≠ (TX1 b).2.1 := by decide +kernel
theorem tyX1_ok : ∀ k, k < 0 → parseFieldDescriptor (TX1 k).2.2.1 = some (tyX1 k) := by decide +kernel
abbrev cX1_init : ByteArray := prog_3_method_1_code
def yX1_init : MethodName := ⟨RX1, "<init>", "(II)V"⟩
def RX2 : String := "FrostCalendar$FreezeDaily"
def TX2 : u_T := fun k => match k with
  | 0 => ("FrostCalendar$Freeze", "scope", "I", true)
  | 1 => ("FrostCalendar$Freeze", "rank", "I", true)
  | 2 => ("FrostCalendar$FreezeDaily", "land", "LFrostCalendar$Land;", true)
  | 3 => ("FrostCalendar$FreezeDaily", "first", "I", true)
  | _ => ("FrostCalendar$FreezeDaily", "second", "I", true)
def tyX2 : Nat → FieldType := fun k => match k with
  | 0 => .int
  | 1 => .int
  | 2 => .object "FrostCalendar$Land"
  | 3 => .int
  | _ => .int
abbrev wsX20 : List Cond := u_ws RX2 TX2 5
theorem nmX2 : ∀ a, a < 5 → ∀ b, b < 5 → a ≠ b → (TX2 a).2.1 ≠ (TX2 b).2.1 := by decide +kernel
theorem tyX2_ok : ∀ k, k < 5 → parseFieldDescriptor (TX2 k).2.2.1 = some (tyX2 k) := by decide +kernel
abbrev cX2_init : ByteArray := prog_4_method_1_code
def yX2_init : MethodName := ⟨RX2, "<init>", "(IILFrostCalendar$Land;II)V"⟩
abbrev cX2_holdsIn : ByteArray := prog_4_method_2_code
def yX2_holdsIn : MethodName := ⟨RX2, "holdsIn", "(I)Z"⟩
def RX3 : String := "FrostCalendar$FreezeOnFeasts"
def TX3 : u_T := fun k => match k with
  | 0 => ("FrostCalendar$Freeze", "scope", "I", true)
  | 1 => ("FrostCalendar$Freeze", "rank", "I", true)
  | _ => ("FrostCalendar$FreezeOnFeasts", "land", "LFrostCalendar$Land;", true)
def tyX3 : Nat → FieldType := fun k => match k with
  | 0 => .int
  | 1 => .int
  | _ => .object "FrostCalendar$Land"
abbrev wsX30 : List Cond := u_ws RX3 TX3 3
theorem nmX3 : ∀ a, a < 3 → ∀ b, b < 3 → a ≠ b → (TX3 a).2.1 ≠ (TX3 b).2.1 := by decide +kernel
theorem tyX3_ok : ∀ k, k < 3 → parseFieldDescriptor (TX3 k).2.2.1 = some (tyX3 k) := by decide +kernel
abbrev cX3_init : ByteArray := prog_5_method_1_code
def yX3_init : MethodName := ⟨RX3, "<init>", "(IILFrostCalendar$Land;)V"⟩
abbrev cX3_holdsIn : ByteArray := prog_5_method_2_code
def yX3_holdsIn : MethodName := ⟨RX3, "holdsIn", "(I)Z"⟩
def RX4 : String := "FrostCalendar$FreezeOnce"
def TX4 : u_T := fun k => match k with
  | 0 => ("FrostCalendar$Freeze", "scope", "I", true)
  | 1 => ("FrostCalendar$Freeze", "rank", "I", true)
  | 2 => ("FrostCalendar$FreezeOnce", "from", "I", true)
  | _ => ("FrostCalendar$FreezeOnce", "to", "I", true)
def tyX4 : Nat → FieldType := fun k => match k with
  | 0 => .int
  | 1 => .int
  | 2 => .int
  | _ => .int
abbrev wsX40 : List Cond := u_ws RX4 TX4 4
theorem nmX4 : ∀ a, a < 4 → ∀ b, b < 4 → a ≠ b → (TX4 a).2.1 ≠ (TX4 b).2.1 := by decide +kernel
theorem tyX4_ok : ∀ k, k < 4 → parseFieldDescriptor (TX4 k).2.2.1 = some (tyX4 k) := by decide +kernel
abbrev cX4_init : ByteArray := prog_6_method_1_code
def yX4_init : MethodName := ⟨RX4, "<init>", "(IIII)V"⟩
abbrev cX4_holdsIn : ByteArray := prog_6_method_2_code
def yX4_holdsIn : MethodName := ⟨RX4, "holdsIn", "(I)Z"⟩
def RX5 : String := "FrostCalendar$Land"
def TX5 : u_T := fun k => match k with
  | 0 => ("FrostCalendar$Land", "offset", "I", false)
  | _ => ("FrostCalendar$Land", "feastDays", "I", false)
def tyX5 : Nat → FieldType := fun k => match k with
  | 0 => .int
  | _ => .int
abbrev wsX50 : List Cond := u_ws RX5 TX5 2
theorem nmX5 : ∀ a, a < 2 → ∀ b, b < 2 → a ≠ b → (TX5 a).2.1 ≠ (TX5 b).2.1 := by decide +kernel
theorem tyX5_ok : ∀ k, k < 2 → parseFieldDescriptor (TX5 k).2.2.1 = some (tyX5 k) := by decide +kernel
abbrev cX5_init : ByteArray := prog_7_method_1_code
def yX5_init : MethodName := ⟨RX5, "<init>", "()V"⟩
abbrev cX5_hourOfDay : ByteArray := prog_7_method_2_code
def yX5_hourOfDay : MethodName := ⟨RX5, "hourOfDay", "(I)I"⟩
abbrev cX5_dayOf : ByteArray := prog_7_method_3_code
def yX5_dayOf : MethodName := ⟨RX5, "dayOf", "(I)I"⟩
abbrev cX5_isFeastDay : ByteArray := prog_7_method_4_code
def yX5_isFeastDay : MethodName := ⟨RX5, "isFeastDay", "(I)Z"⟩
abbrev cX5_turnFeastDay : ByteArray := prog_7_method_5_code
def yX5_turnFeastDay : MethodName := ⟨RX5, "turnFeastDay", "(I)V"⟩
def RX6 : String := "FrostCalendar"
def TX6 : u_T := fun k => match k with
  | 0 => ("FrostCalendar", "scopesAround", "[I", true)
  | 1 => ("FrostCalendar", "scopeCount", "I", false)
  | 2 => ("FrostCalendar", "lands", "[LFrostCalendar$Land;", true)
  | 3 => ("FrostCalendar", "hourOfNow", "I", false)
  | 4 => ("FrostCalendar", "freezes", "[LFrostCalendar$Freeze;", true)
  | 5 => ("FrostCalendar", "laidFreezes", "I", false)
  | 6 => ("FrostCalendar", "standingFreezes", "I", false)
  | 7 => ("FrostCalendar", "changes", "[LFrostCalendar$Change;", true)
  | 8 => ("FrostCalendar", "changeCount", "I", false)
  | 9 => ("FrostCalendar", "exceptionsLeft", "[I", true)
  | _ => ("FrostCalendar", "badMarks", "[Z", true)
def tyX6 : Nat → FieldType := fun k => match k with
  | 0 => .array .int
  | 1 => .int
  | 2 => .array (.object "FrostCalendar$Land")
  | 3 => .int
  | 4 => .array (.object "FrostCalendar$Freeze")
  | 5 => .int
  | 6 => .int
  | 7 => .array (.object "FrostCalendar$Change")
  | 8 => .int
  | 9 => .array .int
  | _ => .array .boolean
abbrev wsX60 : List Cond := u_ws RX6 TX6 11
theorem nmX6 : ∀ a, a < 11 → ∀ b, b < 11 → a ≠ b → (TX6 a).2.1 ≠ (TX6 b).2.1 := by decide +kernel
theorem tyX6_ok : ∀ k, k < 11 → parseFieldDescriptor (TX6 k).2.2.1 = some (tyX6 k) := by decide +kernel
abbrev cX6_init : ByteArray := prog_1_method_1_code
def yX6_init : MethodName := ⟨RX6, "<init>", "()V"⟩
abbrev cX6_scope : ByteArray := prog_1_method_2_code
def yX6_scope : MethodName := ⟨RX6, "scope", "(I)I"⟩
abbrev cX6_offset : ByteArray := prog_1_method_3_code
def yX6_offset : MethodName := ⟨RX6, "offset", "(II)I"⟩
abbrev cX6_feast : ByteArray := prog_1_method_4_code
def yX6_feast : MethodName := ⟨RX6, "feast", "(II)Z"⟩
abbrev cX6_pass : ByteArray := prog_1_method_5_code
def yX6_pass : MethodName := ⟨RX6, "pass", "(I)I"⟩
abbrev cX6_now : ByteArray := prog_1_method_6_code
def yX6_now : MethodName := ⟨RX6, "now", "()I"⟩
abbrev cX6_once : ByteArray := prog_1_method_7_code
def yX6_once : MethodName := ⟨RX6, "once", "(IIII)I"⟩
abbrev cX6_daily : ByteArray := prog_1_method_8_code
def yX6_daily : MethodName := ⟨RX6, "daily", "(IIIII)I"⟩
abbrev cX6_feasts : ByteArray := prog_1_method_9_code
def yX6_feasts : MethodName := ⟨RX6, "feasts", "(III)I"⟩
abbrev cX6_lift : ByteArray := prog_1_method_10_code
def yX6_lift : MethodName := ⟨RX6, "lift", "(I)I"⟩
abbrev cX6_holding : ByteArray := prog_1_method_11_code
def yX6_holding : MethodName := ⟨RX6, "holding", "(II)I"⟩
abbrev cX6_hours : ByteArray := prog_1_method_12_code
def yX6_hours : MethodName := ⟨RX6, "hours", "(I)I"⟩
abbrev cX6_nextSpan : ByteArray := prog_1_method_13_code
def yX6_nextSpan : MethodName := ⟨RX6, "nextSpan", "(III)I"⟩
abbrev cX6_plan : ByteArray := prog_1_method_14_code
def yX6_plan : MethodName := ⟨RX6, "plan", "(IIII)I"⟩
abbrev cX6_move : ByteArray := prog_1_method_15_code
def yX6_move : MethodName := ⟨RX6, "move", "(II)I"⟩
abbrev cX6_approve : ByteArray := prog_1_method_16_code
def yX6_approve : MethodName := ⟨RX6, "approve", "(I)I"⟩
abbrev cX6_begin : ByteArray := prog_1_method_17_code
def yX6_begin : MethodName := ⟨RX6, "begin", "(I)I"⟩
abbrev cX6_state : ByteArray := prog_1_method_18_code
def yX6_state : MethodName := ⟨RX6, "state", "(I)I"⟩
abbrev cX6_approved : ByteArray := prog_1_method_19_code
def yX6_approved : MethodName := ⟨RX6, "approved", "(I)I"⟩
abbrev cX6_exceptions : ByteArray := prog_1_method_20_code
def yX6_exceptions : MethodName := ⟨RX6, "exceptions", "(II)I"⟩
abbrev cX6_left : ByteArray := prog_1_method_21_code
def yX6_left : MethodName := ⟨RX6, "left", "(I)I"⟩
abbrev cX6_excuse : ByteArray := prog_1_method_22_code
def yX6_excuse : MethodName := ⟨RX6, "excuse", "(II)I"⟩
abbrev cX6_badHours : ByteArray := prog_1_method_23_code
def yX6_badHours : MethodName := ⟨RX6, "badHours", "(I)I"⟩
abbrev cX6_badHoursOneByOne : ByteArray := prog_1_method_24_code
def yX6_badHoursOneByOne : MethodName := ⟨RX6, "badHoursOneByOne", "(I)I"⟩
abbrev cX6_firstBad : ByteArray := prog_1_method_25_code
def yX6_firstBad : MethodName := ⟨RX6, "firstBad", "(I)I"⟩
abbrev cX6_reasons : ByteArray := prog_1_method_26_code
def yX6_reasons : MethodName := ⟨RX6, "reasons", "(I)I"⟩
abbrev cX6_needScope : ByteArray := prog_1_method_27_code
def yX6_needScope : MethodName := ⟨RX6, "needScope", "(I)V"⟩
abbrev cX6_needLand : ByteArray := prog_1_method_28_code
def yX6_needLand : MethodName := ⟨RX6, "needLand", "(I)LFrostCalendar$Land;"⟩
abbrev cX6_needFreeze : ByteArray := prog_1_method_29_code
def yX6_needFreeze : MethodName := ⟨RX6, "needFreeze", "(I)LFrostCalendar$Freeze;"⟩
abbrev cX6_needChange : ByteArray := prog_1_method_30_code
def yX6_needChange : MethodName := ⟨RX6, "needChange", "(I)LFrostCalendar$Change;"⟩
abbrev cX6_needRange : ByteArray := prog_1_method_31_code
def yX6_needRange : MethodName := ⟨RX6, "needRange", "(III)V"⟩
abbrev cX6_needPlanned : ByteArray := prog_1_method_32_code
def yX6_needPlanned : MethodName := ⟨RX6, "needPlanned", "(LFrostCalendar$Change;)V"⟩
abbrev cX6_needRoomForFreeze : ByteArray := prog_1_method_33_code
def yX6_needRoomForFreeze : MethodName := ⟨RX6, "needRoomForFreeze", "()V"⟩
abbrev cX6_isInSet : ByteArray := prog_1_method_34_code
def yX6_isInSet : MethodName := ⟨RX6, "isInSet", "(II)Z"⟩
abbrev cX6_lay : ByteArray := prog_1_method_35_code
def yX6_lay : MethodName := ⟨RX6, "lay", "(LFrostCalendar$Freeze;)I"⟩
abbrev cX6_isOneInTheOther : ByteArray := prog_1_method_36_code
def yX6_isOneInTheOther : MethodName := ⟨RX6, "isOneInTheOther", "(II)Z"⟩
abbrev cX6_freezesTouchingScope : ByteArray := prog_1_method_37_code
def yX6_freezesTouchingScope : MethodName := ⟨RX6, "freezesTouchingScope", "(I)I"⟩
abbrev cX6_freezesTouchingChange : ByteArray := prog_1_method_38_code
def yX6_freezesTouchingChange : MethodName := ⟨RX6, "freezesTouchingChange", "(LFrostCalendar$Change;)I"⟩
abbrev cX6_freezesAgainst : ByteArray := prog_1_method_39_code
def yX6_freezesAgainst : MethodName := ⟨RX6, "freezesAgainst", "(LFrostCalendar$Change;)I"⟩
abbrev cX6_holdingAmong : ByteArray := prog_1_method_40_code
def yX6_holdingAmong : MethodName := ⟨RX6, "holdingAmong", "(II)I"⟩
abbrev cX6_countBadHours : ByteArray := prog_1_method_41_code
def yX6_countBadHours : MethodName := ⟨RX6, "countBadHours", "(LFrostCalendar$Change;)I"⟩
abbrev cX6_markBadHours : ByteArray := prog_1_method_42_code
def yX6_markBadHours : MethodName := ⟨RX6, "markBadHours", "(LFrostCalendar$Change;LFrostCalendar$Freeze;)I"⟩
abbrev cX6_firstBadHour : ByteArray := prog_1_method_43_code
def yX6_firstBadHour : MethodName := ⟨RX6, "firstBadHour", "(LFrostCalendar$Change;)I"⟩
abbrev cX6_rankToSpend : ByteArray := prog_1_method_44_code
def yX6_rankToSpend : MethodName := ⟨RX6, "rankToSpend", "(I)I"⟩
def RX7 : String := "FrostCalendarModel"
def TX7 : u_T := fun k => match k with
  | _ => ("", "", "", false)
def tyX7 : Nat → FieldType := fun k => match k with
  | _ => .int
abbrev wsX70 : List Cond := u_ws RX7 TX7 0
theorem nmX7 : ∀ a, a < 0 → ∀ b, b < 0 → a ≠ b → (TX7 a).2.1 ≠ (TX7 b).2.1 := by decide +kernel
theorem tyX7_ok : ∀ k, k < 0 → parseFieldDescriptor (TX7 k).2.2.1 = some (tyX7 k) := by decide +kernel
def RJx145de : String := "java/io/Serializable"
def TJx145de : u_T := fun k => match k with
  | _ => ("", "", "", false)
def tyJx145de : Nat → FieldType := fun k => match k with
  | _ => .int
abbrev wsJx145de0 : List Cond := u_ws RJx145de TJx145de 0
theorem nmJx145de : ∀ a, a < 0 → ∀ b, b < 0 → a ≠ b → (TJx145de a).2.1 ≠ (TJx145de b).2.1 := by decide +kernel
theorem tyJx145de_ok : ∀ k, k < 0 → parseFieldDescriptor (TJx145de k).2.2.1 = some (tyJx145de k) := by decide +kernel
def RJ9 : String := "java/lang/Math"
def TJ9 : u_T := fun k => match k with
  | _ => ("", "", "", false)
def tyJ9 : Nat → FieldType := fun k => match k with
  | _ => .int
abbrev wsJ90 : List Cond := u_ws RJ9 TJ9 0
theorem nmJ9 : ∀ a, a < 0 → ∀ b, b < 0 → a ≠ b → (TJ9 a).2.1 ≠ (TJ9 b).2.1 := by decide +kernel
theorem tyJ9_ok : ∀ k, k < 0 → parseFieldDescriptor (TJ9 k).2.2.1 = some (tyJ9 k) := by decide +kernel
abbrev cJ9_floorDiv_7cf53 : ByteArray := prog_15_method_47_code
def yJ9_floorDiv_7cf53 : MethodName := ⟨RJ9, "floorDiv", "(II)I"⟩
abbrev cJ9_floorMod_7cf53 : ByteArray := prog_15_method_50_code
def yJ9_floorMod_7cf53 : MethodName := ⟨RJ9, "floorMod", "(II)I"⟩
def RJ0 : String := "java/lang/String"
def TJ0 : u_T := fun k => match k with
  | _ => ("", "", "", false)
def tyJ0 : Nat → FieldType := fun k => match k with
  | _ => .int
abbrev wsJ00 : List Cond := u_ws RJ0 TJ0 0
theorem nmJ0 : ∀ a, a < 0 → ∀ b, b < 0 → a ≠ b → (TJ0 a).2.1 ≠ (TJ0 b).2.1 := by decide +kernel
theorem tyJ0_ok : ∀ k, k < 0 → parseFieldDescriptor (TJ0 k).2.2.1 = some (tyJ0 k) := by decide +kernel
def RL : String := "FrostCalendarLaw"
abbrev cL_cell : ByteArray := method_2_code
def yL_cell : MethodName := ⟨RL, "cell", "([II)I"⟩
abbrev cL_low : ByteArray := method_3_code
def yL_low : MethodName := ⟨RL, "low", "(II)I"⟩
abbrev cL_holds : ByteArray := method_4_code
def yL_holds : MethodName := ⟨RL, "holds", "([III[I[I)Z"⟩
abbrev cL_touches : ByteArray := method_5_code
def yL_touches : MethodName := ⟨RL, "touches", "(II[I)Z"⟩
abbrev cL_against : ByteArray := method_6_code
def yL_against : MethodName := ⟨RL, "against", "([II[II[I)Z"⟩
abbrev cL_bad : ByteArray := method_7_code
def yL_bad : MethodName := ⟨RL, "bad", "([I[II[I[I[I[I)I"⟩
abbrev cL_refused : ByteArray := method_8_code
def yL_refused : MethodName := ⟨RL, "refused", "(LFrostCalendar;III)I"⟩
abbrev cL_change : ByteArray := method_9_code
def yL_change : MethodName := ⟨RL, "change", "(LFrostCalendar;I[I[I[I[I[I[I)Z"⟩
abbrev cL_law : ByteArray := code
def yL_law : MethodName := ⟨RL, "law", "([I)Z"⟩
theorem inJx145de : ∀ w ∈ wsJx145de0, w ∈ lw_tbl := by decide +kernel
theorem inJ9 : ∀ w ∈ wsJ90, w ∈ lw_tbl := by decide +kernel
theorem inJ0 : ∀ w ∈ wsJ00, w ∈ lw_tbl := by decide +kernel
abbrev vwCl : List vw_C := [(RX0, TX0, 8), (RX2, TX2, 5), (RX3, TX3, 3), (RX4, TX4, 4), (RX5, TX5, 2), (RX6, TX6, 11)]
end
section
theorem dX0_init_0 : decode cX0_init 0 = .ok (.aload_n 0, 1) := by decide +kernel
theorem dX0_init_1 : decode cX0_init 1 = .ok (.invokespecial 3, 3) := by decide +kernel
theorem dX0_init_4 : decode cX0_init 4 = .ok (.aload_n 0, 1) := by decide +kernel
theorem dX0_init_5 : decode cX0_init 5 = .ok (.bipush 20, 2) := by decide +kernel
theorem dX0_init_7 : decode cX0_init 7 = .ok (.putfield 9, 3) := by decide +kernel
theorem dX0_init_10 : decode cX0_init 10 = .ok (.aload_n 0, 1) := by decide +kernel
theorem dX0_init_11 : decode cX0_init 11 = .ok (.iload_n 1, 1) := by decide +kernel
theorem dX0_init_12 : decode cX0_init 12 = .ok (.putfield 15, 3) := by decide +kernel
theorem dX0_init_15 : decode cX0_init 15 = .ok (.aload_n 0, 1) := by decide +kernel
theorem dX0_init_16 : decode cX0_init 16 = .ok (.iload_n 2, 1) := by decide +kernel
theorem dX0_init_17 : decode cX0_init 17 = .ok (.putfield 18, 3) := by decide +kernel
theorem dX0_init_20 : decode cX0_init 20 = .ok (.aload_n 0, 1) := by decide +kernel
theorem dX0_init_21 : decode cX0_init 21 = .ok (.iload_n 3, 1) := by decide +kernel
theorem dX0_init_22 : decode cX0_init 22 = .ok (.putfield 21, 3) := by decide +kernel
theorem dX0_init_25 : decode cX0_init 25 = .ok (.aload_n 0, 1) := by decide +kernel
theorem dX0_init_26 : decode cX0_init 26 = .ok (.iload 4, 2) := by decide +kernel
theorem dX0_init_28 : decode cX0_init 28 = .ok (.putfield 24, 3) := by decide +kernel
theorem dX0_init_31 : decode cX0_init 31 = .ok (.return_, 1) := by decide +kernel
theorem dX0_hourBehind_0 : decode cX0_hourBehind 0 = .ok (.aload_n 0, 1) := by decide +kernel
theorem dX0_hourBehind_1 : decode cX0_hourBehind 1 = .ok (.getfield 18, 3) := by decide +kernel
theorem dX0_hourBehind_4 : decode cX0_hourBehind 4 = .ok (.aload_n 0, 1) := by decide +kernel
theorem dX0_hourBehind_5 : decode cX0_hourBehind 5 = .ok (.getfield 21, 3) := by decide +kernel
theorem dX0_hourBehind_8 : decode cX0_hourBehind 8 = .ok (.iadd, 1) := by decide +kernel
theorem dX0_hourBehind_9 : decode cX0_hourBehind 9 = .ok (.ireturn, 1) := by decide +kernel
theorem dX1_init_0 : decode cX1_init 0 = .ok (.aload_n 0, 1) := by decide +kernel
theorem dX1_init_1 : decode cX1_init 1 = .ok (.invokespecial 1, 3) := by decide +kernel
theorem dX1_init_4 : decode cX1_init 4 = .ok (.aload_n 0, 1) := by decide +kernel
theorem dX1_init_5 : decode cX1_init 5 = .ok (.iload_n 1, 1) := by decide +kernel
theorem dX1_init_6 : decode cX1_init 6 = .ok (.putfield 7, 3) := by decide +kernel
theorem dX1_init_9 : decode cX1_init 9 = .ok (.aload_n 0, 1) := by decide +kernel
theorem dX1_init_10 : decode cX1_init 10 = .ok (.iload_n 2, 1) := by decide +kernel
theorem dX1_init_11 : decode cX1_init 11 = .ok (.putfield 13, 3) := by decide +kernel
theorem dX1_init_14 : decode cX1_init 14 = .ok (.return_, 1) := by decide +kernel
theorem dX2_init_0 : decode cX2_init 0 = .ok (.aload_n 0, 1) := by decide +kernel
theorem dX2_init_1 : decode cX2_init 1 = .ok (.iload_n 1, 1) := by decide +kernel
theorem dX2_init_2 : decode cX2_init 2 = .ok (.iload_n 2, 1) := by decide +kernel
theorem dX2_init_3 : decode cX2_init 3 = .ok (.invokespecial 1, 3) := by decide +kernel
theorem dX2_init_6 : decode cX2_init 6 = .ok (.aload_n 0, 1) := by decide +kernel
theorem dX2_init_7 : decode cX2_init 7 = .ok (.aload_n 3, 1) := by decide +kernel
theorem dX2_init_8 : decode cX2_init 8 = .ok (.putfield 7, 3) := by decide +kernel
theorem dX2_init_11 : decode cX2_init 11 = .ok (.aload_n 0, 1) := by decide +kernel
theorem dX2_init_12 : decode cX2_init 12 = .ok (.iload 4, 2) := by decide +kernel
theorem dX2_init_14 : decode cX2_init 14 = .ok (.putfield 13, 3) := by decide +kernel
theorem dX2_init_17 : decode cX2_init 17 = .ok (.aload_n 0, 1) := by decide +kernel
theorem dX2_init_18 : decode cX2_init 18 = .ok (.iload 5, 2) := by decide +kernel
theorem dX2_init_20 : decode cX2_init 20 = .ok (.putfield 17, 3) := by decide +kernel
theorem dX2_init_23 : decode cX2_init 23 = .ok (.return_, 1) := by decide +kernel
theorem dX2_holdsIn_0 : decode cX2_holdsIn 0 = .ok (.aload_n 0, 1) := by decide +kernel
theorem dX2_holdsIn_1 : decode cX2_holdsIn 1 = .ok (.getfield 7, 3) := by decide +kernel
theorem dX2_holdsIn_4 : decode cX2_holdsIn 4 = .ok (.iload_n 1, 1) := by decide +kernel
theorem dX2_holdsIn_5 : decode cX2_holdsIn 5 = .ok (.invokevirtual 20, 3) := by decide +kernel
theorem dX2_holdsIn_8 : decode cX2_holdsIn 8 = .ok (.istore_n 2, 1) := by decide +kernel
theorem dX2_holdsIn_9 : decode cX2_holdsIn 9 = .ok (.aload_n 0, 1) := by decide +kernel
theorem dX2_holdsIn_10 : decode cX2_holdsIn 10 = .ok (.getfield 13, 3) := by decide +kernel
theorem dX2_holdsIn_13 : decode cX2_holdsIn 13 = .ok (.aload_n 0, 1) := by decide +kernel
theorem dX2_holdsIn_14 : decode cX2_holdsIn 14 = .ok (.getfield 17, 3) := by decide +kernel
theorem dX2_holdsIn_17 : decode cX2_holdsIn 17 = .ok (.if_icmp .ge 25, 3) := by decide +kernel
theorem dX2_holdsIn_20 : decode cX2_holdsIn 20 = .ok (.iload_n 2, 1) := by decide +kernel
theorem dX2_holdsIn_21 : decode cX2_holdsIn 21 = .ok (.aload_n 0, 1) := by decide +kernel
theorem dX2_holdsIn_22 : decode cX2_holdsIn 22 = .ok (.getfield 13, 3) := by decide +kernel
theorem dX2_holdsIn_25 : decode cX2_holdsIn 25 = .ok (.if_icmp .lt 15, 3) := by decide +kernel
theorem dX2_holdsIn_28 : decode cX2_holdsIn 28 = .ok (.iload_n 2, 1) := by decide +kernel
theorem dX2_holdsIn_29 : decode cX2_holdsIn 29 = .ok (.aload_n 0, 1) := by decide +kernel
theorem dX2_holdsIn_30 : decode cX2_holdsIn 30 = .ok (.getfield 17, 3) := by decide +kernel
theorem dX2_holdsIn_33 : decode cX2_holdsIn 33 = .ok (.if_icmp .ge 7, 3) := by decide +kernel
theorem dX2_holdsIn_36 : decode cX2_holdsIn 36 = .ok (.iconst 1, 1) := by decide +kernel
theorem dX2_holdsIn_37 : decode cX2_holdsIn 37 = .ok (.goto 4, 3) := by decide +kernel
theorem dX2_holdsIn_40 : decode cX2_holdsIn 40 = .ok (.iconst 0, 1) := by decide +kernel
theorem dX2_holdsIn_41 : decode cX2_holdsIn 41 = .ok (.ireturn, 1) := by decide +kernel
theorem dX2_holdsIn_42 : decode cX2_holdsIn 42 = .ok (.iload_n 2, 1) := by decide +kernel
theorem dX2_holdsIn_43 : decode cX2_holdsIn 43 = .ok (.aload_n 0, 1) := by decide +kernel
theorem dX2_holdsIn_44 : decode cX2_holdsIn 44 = .ok (.getfield 13, 3) := by decide +kernel
theorem dX2_holdsIn_47 : decode cX2_holdsIn 47 = .ok (.if_icmp .ge 11, 3) := by decide +kernel
theorem dX2_holdsIn_50 : decode cX2_holdsIn 50 = .ok (.iload_n 2, 1) := by decide +kernel
theorem dX2_holdsIn_51 : decode cX2_holdsIn 51 = .ok (.aload_n 0, 1) := by decide +kernel
theorem dX2_holdsIn_52 : decode cX2_holdsIn 52 = .ok (.getfield 17, 3) := by decide +kernel
theorem dX2_holdsIn_55 : decode cX2_holdsIn 55 = .ok (.if_icmp .ge 7, 3) := by decide +kernel
theorem dX2_holdsIn_58 : decode cX2_holdsIn 58 = .ok (.iconst 1, 1) := by decide +kernel
theorem dX2_holdsIn_59 : decode cX2_holdsIn 59 = .ok (.goto 4, 3) := by decide +kernel
theorem dX2_holdsIn_62 : decode cX2_holdsIn 62 = .ok (.iconst 0, 1) := by decide +kernel
theorem dX2_holdsIn_63 : decode cX2_holdsIn 63 = .ok (.ireturn, 1) := by decide +kernel
theorem dX3_init_0 : decode cX3_init 0 = .ok (.aload_n 0, 1) := by decide +kernel
theorem dX3_init_1 : decode cX3_init 1 = .ok (.iload_n 1, 1) := by decide +kernel
theorem dX3_init_2 : decode cX3_init 2 = .ok (.iload_n 2, 1) := by decide +kernel
theorem dX3_init_3 : decode cX3_init 3 = .ok (.invokespecial 1, 3) := by decide +kernel
theorem dX3_init_6 : decode cX3_init 6 = .ok (.aload_n 0, 1) := by decide +kernel
theorem dX3_init_7 : decode cX3_init 7 = .ok (.aload_n 3, 1) := by decide +kernel
theorem dX3_init_8 : decode cX3_init 8 = .ok (.putfield 7, 3) := by decide +kernel
theorem dX3_init_11 : decode cX3_init 11 = .ok (.return_, 1) := by decide +kernel
theorem dX3_holdsIn_0 : decode cX3_holdsIn 0 = .ok (.aload_n 0, 1) := by decide +kernel
theorem dX3_holdsIn_1 : decode cX3_holdsIn 1 = .ok (.getfield 7, 3) := by decide +kernel
theorem dX3_holdsIn_4 : decode cX3_holdsIn 4 = .ok (.aload_n 0, 1) := by decide +kernel
theorem dX3_holdsIn_5 : decode cX3_holdsIn 5 = .ok (.getfield 7, 3) := by decide +kernel
theorem dX3_holdsIn_8 : decode cX3_holdsIn 8 = .ok (.iload_n 1, 1) := by decide +kernel
theorem dX3_holdsIn_9 : decode cX3_holdsIn 9 = .ok (.invokevirtual 13, 3) := by decide +kernel
theorem dX3_holdsIn_12 : decode cX3_holdsIn 12 = .ok (.invokevirtual 19, 3) := by decide +kernel
theorem dX3_holdsIn_15 : decode cX3_holdsIn 15 = .ok (.ireturn, 1) := by decide +kernel
theorem dX4_init_0 : decode cX4_init 0 = .ok (.aload_n 0, 1) := by decide +kernel
theorem dX4_init_1 : decode cX4_init 1 = .ok (.iload_n 1, 1) := by decide +kernel
theorem dX4_init_2 : decode cX4_init 2 = .ok (.iload_n 2, 1) := by decide +kernel
theorem dX4_init_3 : decode cX4_init 3 = .ok (.invokespecial 1, 3) := by decide +kernel
theorem dX4_init_6 : decode cX4_init 6 = .ok (.aload_n 0, 1) := by decide +kernel
theorem dX4_init_7 : decode cX4_init 7 = .ok (.iload_n 3, 1) := by decide +kernel
theorem dX4_init_8 : decode cX4_init 8 = .ok (.putfield 7, 3) := by decide +kernel
theorem dX4_init_11 : decode cX4_init 11 = .ok (.aload_n 0, 1) := by decide +kernel
theorem dX4_init_12 : decode cX4_init 12 = .ok (.iload 4, 2) := by decide +kernel
theorem dX4_init_14 : decode cX4_init 14 = .ok (.putfield 13, 3) := by decide +kernel
theorem dX4_init_17 : decode cX4_init 17 = .ok (.return_, 1) := by decide +kernel
theorem dX4_holdsIn_0 : decode cX4_holdsIn 0 = .ok (.iload_n 1, 1) := by decide +kernel
theorem dX4_holdsIn_1 : decode cX4_holdsIn 1 = .ok (.aload_n 0, 1) := by decide +kernel
theorem dX4_holdsIn_2 : decode cX4_holdsIn 2 = .ok (.getfield 7, 3) := by decide +kernel
theorem dX4_holdsIn_5 : decode cX4_holdsIn 5 = .ok (.if_icmp .lt 15, 3) := by decide +kernel
theorem dX4_holdsIn_8 : decode cX4_holdsIn 8 = .ok (.iload_n 1, 1) := by decide +kernel
theorem dX4_holdsIn_9 : decode cX4_holdsIn 9 = .ok (.aload_n 0, 1) := by decide +kernel
theorem dX4_holdsIn_10 : decode cX4_holdsIn 10 = .ok (.getfield 13, 3) := by decide +kernel
theorem dX4_holdsIn_13 : decode cX4_holdsIn 13 = .ok (.if_icmp .ge 7, 3) := by decide +kernel
theorem dX4_holdsIn_16 : decode cX4_holdsIn 16 = .ok (.iconst 1, 1) := by decide +kernel
theorem dX4_holdsIn_17 : decode cX4_holdsIn 17 = .ok (.goto 4, 3) := by decide +kernel
theorem dX4_holdsIn_20 : decode cX4_holdsIn 20 = .ok (.iconst 0, 1) := by decide +kernel
theorem dX4_holdsIn_21 : decode cX4_holdsIn 21 = .ok (.ireturn, 1) := by decide +kernel
theorem dX5_init_0 : decode cX5_init 0 = .ok (.aload_n 0, 1) := by decide +kernel
theorem dX5_init_1 : decode cX5_init 1 = .ok (.invokespecial 3, 3) := by decide +kernel
theorem dX5_init_4 : decode cX5_init 4 = .ok (.return_, 1) := by decide +kernel
theorem dX5_hourOfDay_0 : decode cX5_hourOfDay 0 = .ok (.iload_n 1, 1) := by decide +kernel
theorem dX5_hourOfDay_1 : decode cX5_hourOfDay 1 = .ok (.aload_n 0, 1) := by decide +kernel
theorem dX5_hourOfDay_2 : decode cX5_hourOfDay 2 = .ok (.getfield 9, 3) := by decide +kernel
theorem dX5_hourOfDay_5 : decode cX5_hourOfDay 5 = .ok (.iadd, 1) := by decide +kernel
theorem dX5_hourOfDay_6 : decode cX5_hourOfDay 6 = .ok (.bipush 24, 2) := by decide +kernel
theorem dX5_hourOfDay_8 : decode cX5_hourOfDay 8 = .ok (.invokestatic 15, 3) := by decide +kernel
theorem dX5_hourOfDay_11 : decode cX5_hourOfDay 11 = .ok (.ireturn, 1) := by decide +kernel
theorem dX5_dayOf_0 : decode cX5_dayOf 0 = .ok (.iload_n 1, 1) := by decide +kernel
theorem dX5_dayOf_1 : decode cX5_dayOf 1 = .ok (.aload_n 0, 1) := by decide +kernel
theorem dX5_dayOf_2 : decode cX5_dayOf 2 = .ok (.getfield 9, 3) := by decide +kernel
theorem dX5_dayOf_5 : decode cX5_dayOf 5 = .ok (.iadd, 1) := by decide +kernel
theorem dX5_dayOf_6 : decode cX5_dayOf 6 = .ok (.bipush 24, 2) := by decide +kernel
theorem dX5_dayOf_8 : decode cX5_dayOf 8 = .ok (.invokestatic 21, 3) := by decide +kernel
theorem dX5_dayOf_11 : decode cX5_dayOf 11 = .ok (.ireturn, 1) := by decide +kernel
theorem dX5_isFeastDay_0 : decode cX5_isFeastDay 0 = .ok (.aload_n 0, 1) := by decide +kernel
theorem dX5_isFeastDay_1 : decode cX5_isFeastDay 1 = .ok (.getfield 24, 3) := by decide +kernel
theorem dX5_isFeastDay_4 : decode cX5_isFeastDay 4 = .ok (.iload_n 1, 1) := by decide +kernel
theorem dX5_isFeastDay_5 : decode cX5_isFeastDay 5 = .ok (.iconst (-1), 1) := by decide +kernel
theorem dX5_isFeastDay_6 : decode cX5_isFeastDay 6 = .ok (.isub, 1) := by decide +kernel
theorem dX5_isFeastDay_7 : decode cX5_isFeastDay 7 = .ok (.invokestatic 27, 3) := by decide +kernel
theorem dX5_isFeastDay_10 : decode cX5_isFeastDay 10 = .ok (.ireturn, 1) := by decide +kernel
theorem dX5_turnFeastDay_0 : decode cX5_turnFeastDay 0 = .ok (.aload_n 0, 1) := by decide +kernel
theorem dX5_turnFeastDay_1 : decode cX5_turnFeastDay 1 = .ok (.dup, 1) := by decide +kernel
theorem dX5_turnFeastDay_2 : decode cX5_turnFeastDay 2 = .ok (.getfield 24, 3) := by decide +kernel
theorem dX5_turnFeastDay_5 : decode cX5_turnFeastDay 5 = .ok (.iconst 1, 1) := by decide +kernel
theorem dX5_turnFeastDay_6 : decode cX5_turnFeastDay 6 = .ok (.iload_n 1, 1) := by decide +kernel
theorem dX5_turnFeastDay_7 : decode cX5_turnFeastDay 7 = .ok (.iconst (-1), 1) := by decide +kernel
theorem dX5_turnFeastDay_8 : decode cX5_turnFeastDay 8 = .ok (.isub, 1) := by decide +kernel
theorem dX5_turnFeastDay_9 : decode cX5_turnFeastDay 9 = .ok (.ishl, 1) := by decide +kernel
theorem dX5_turnFeastDay_10 : decode cX5_turnFeastDay 10 = .ok (.ixor, 1) := by decide +kernel
theorem dX5_turnFeastDay_11 : decode cX5_turnFeastDay 11 = .ok (.putfield 24, 3) := by decide +kernel
theorem dX5_turnFeastDay_14 : decode cX5_turnFeastDay 14 = .ok (.return_, 1) := by decide +kernel
theorem dX6_init_0 : decode cX6_init 0 = .ok (.aload_n 0, 1) := by decide +kernel
theorem dX6_init_1 : decode cX6_init 1 = .ok (.invokespecial 1, 3) := by decide +kernel
theorem dX6_init_4 : decode cX6_init 4 = .ok (.aload_n 0, 1) := by decide +kernel
theorem dX6_init_5 : decode cX6_init 5 = .ok (.bipush 16, 2) := by decide +kernel
theorem dX6_init_7 : decode cX6_init 7 = .ok (.newarray .int, 2) := by decide +kernel
theorem dX6_init_9 : decode cX6_init 9 = .ok (.putfield 9, 3) := by decide +kernel
theorem dX6_init_12 : decode cX6_init 12 = .ok (.aload_n 0, 1) := by decide +kernel
theorem dX6_init_13 : decode cX6_init 13 = .ok (.iconst 4, 1) := by decide +kernel
theorem dX6_init_14 : decode cX6_init 14 = .ok (.anewarray 13, 3) := by decide +kernel
theorem dX6_init_17 : decode cX6_init 17 = .ok (.putfield 15, 3) := by decide +kernel
theorem dX6_init_20 : decode cX6_init 20 = .ok (.aload_n 0, 1) := by decide +kernel
theorem dX6_init_21 : decode cX6_init 21 = .ok (.bipush 20, 2) := by decide +kernel
theorem dX6_init_23 : decode cX6_init 23 = .ok (.anewarray 19, 3) := by decide +kernel
theorem dX6_init_26 : decode cX6_init 26 = .ok (.putfield 21, 3) := by decide +kernel
theorem dX6_init_29 : decode cX6_init 29 = .ok (.aload_n 0, 1) := by decide +kernel
theorem dX6_init_30 : decode cX6_init 30 = .ok (.bipush 30, 2) := by decide +kernel
theorem dX6_init_32 : decode cX6_init 32 = .ok (.anewarray 25, 3) := by decide +kernel
theorem dX6_init_35 : decode cX6_init 35 = .ok (.putfield 27, 3) := by decide +kernel
theorem dX6_init_38 : decode cX6_init 38 = .ok (.aload_n 0, 1) := by decide +kernel
theorem dX6_init_39 : decode cX6_init 39 = .ok (.iconst 4, 1) := by decide +kernel
theorem dX6_init_40 : decode cX6_init 40 = .ok (.newarray .int, 2) := by decide +kernel
theorem dX6_init_42 : decode cX6_init 42 = .ok (.putfield 31, 3) := by decide +kernel
theorem dX6_init_45 : decode cX6_init 45 = .ok (.aload_n 0, 1) := by decide +kernel
theorem dX6_init_46 : decode cX6_init 46 = .ok (.bipush 100, 2) := by decide +kernel
theorem dX6_init_48 : decode cX6_init 48 = .ok (.newarray .boolean, 2) := by decide +kernel
theorem dX6_init_50 : decode cX6_init 50 = .ok (.putfield 34, 3) := by decide +kernel
theorem dX6_init_53 : decode cX6_init 53 = .ok (.aload_n 0, 1) := by decide +kernel
theorem dX6_init_54 : decode cX6_init 54 = .ok (.getfield 9, 3) := by decide +kernel
theorem dX6_init_57 : decode cX6_init 57 = .ok (.iconst 0, 1) := by decide +kernel
theorem dX6_init_58 : decode cX6_init 58 = .ok (.iconst 1, 1) := by decide +kernel
theorem dX6_init_59 : decode cX6_init 59 = .ok (.iastore, 1) := by decide +kernel
theorem dX6_init_60 : decode cX6_init 60 = .ok (.aload_n 0, 1) := by decide +kernel
theorem dX6_init_61 : decode cX6_init 61 = .ok (.iconst 1, 1) := by decide +kernel
theorem dX6_init_62 : decode cX6_init 62 = .ok (.putfield 38, 3) := by decide +kernel
theorem dX6_init_65 : decode cX6_init 65 = .ok (.iconst 0, 1) := by decide +kernel
theorem dX6_init_66 : decode cX6_init 66 = .ok (.istore_n 1, 1) := by decide +kernel
theorem dX6_init_67 : decode cX6_init 67 = .ok (.iload_n 1, 1) := by decide +kernel
theorem dX6_init_68 : decode cX6_init 68 = .ok (.iconst 4, 1) := by decide +kernel
theorem dX6_init_69 : decode cX6_init 69 = .ok (.if_icmp .ge 22, 3) := by decide +kernel
theorem dX6_init_72 : decode cX6_init 72 = .ok (.aload_n 0, 1) := by decide +kernel
theorem dX6_init_73 : decode cX6_init 73 = .ok (.getfield 15, 3) := by decide +kernel
theorem dX6_init_76 : decode cX6_init 76 = .ok (.iload_n 1, 1) := by decide +kernel
theorem dX6_init_77 : decode cX6_init 77 = .ok (.new 13, 3) := by decide +kernel
theorem dX6_init_80 : decode cX6_init 80 = .ok (.dup, 1) := by decide +kernel
theorem dX6_init_81 : decode cX6_init 81 = .ok (.invokespecial 42, 3) := by decide +kernel
theorem dX6_init_84 : decode cX6_init 84 = .ok (.aastore, 1) := by decide +kernel
theorem dX6_init_85 : decode cX6_init 85 = .ok (.iinc 1 1, 3) := by decide +kernel
theorem dX6_init_88 : decode cX6_init 88 = .ok (.goto (-21), 3) := by decide +kernel
theorem dX6_init_91 : decode cX6_init 91 = .ok (.return_, 1) := by decide +kernel
theorem dX6_scope_0 : decode cX6_scope 0 = .ok (.aload_n 0, 1) := by decide +kernel
theorem dX6_scope_1 : decode cX6_scope 1 = .ok (.iload_n 1, 1) := by decide +kernel
theorem dX6_scope_2 : decode cX6_scope 2 = .ok (.invokevirtual 43, 3) := by decide +kernel
theorem dX6_scope_5 : decode cX6_scope 5 = .ok (.aload_n 0, 1) := by decide +kernel
theorem dX6_scope_6 : decode cX6_scope 6 = .ok (.getfield 38, 3) := by decide +kernel
theorem dX6_scope_9 : decode cX6_scope 9 = .ok (.bipush 16, 2) := by decide +kernel
theorem dX6_scope_11 : decode cX6_scope 11 = .ok (.if_icmp .lt 13, 3) := by decide +kernel
theorem dX6_scope_14 : decode cX6_scope 14 = .ok (.new 47, 3) := by decide +kernel
theorem dX6_scope_17 : decode cX6_scope 17 = .ok (.dup, 1) := by decide +kernel
theorem dX6_scope_18 : decode cX6_scope 18 = .ok (.ldc 49, 2) := by decide +kernel
theorem dX6_scope_20 : decode cX6_scope 20 = .ok (.invokespecial 51, 3) := by decide +kernel
theorem dX6_scope_23 : decode cX6_scope 23 = .ok (.athrow, 1) := by decide +kernel
theorem dX6_scope_24 : decode cX6_scope 24 = .ok (.aload_n 0, 1) := by decide +kernel
theorem dX6_scope_25 : decode cX6_scope 25 = .ok (.getfield 38, 3) := by decide +kernel
theorem dX6_scope_28 : decode cX6_scope 28 = .ok (.istore_n 2, 1) := by decide +kernel
theorem dX6_scope_29 : decode cX6_scope 29 = .ok (.aload_n 0, 1) := by decide +kernel
theorem dX6_scope_30 : decode cX6_scope 30 = .ok (.getfield 9, 3) := by decide +kernel
theorem dX6_scope_33 : decode cX6_scope 33 = .ok (.iload_n 2, 1) := by decide +kernel
theorem dX6_scope_34 : decode cX6_scope 34 = .ok (.aload_n 0, 1) := by decide +kernel
theorem dX6_scope_35 : decode cX6_scope 35 = .ok (.getfield 9, 3) := by decide +kernel
theorem dX6_scope_38 : decode cX6_scope 38 = .ok (.iload_n 1, 1) := by decide +kernel
theorem dX6_scope_39 : decode cX6_scope 39 = .ok (.iaload, 1) := by decide +kernel
theorem dX6_scope_40 : decode cX6_scope 40 = .ok (.iconst 1, 1) := by decide +kernel
theorem dX6_scope_41 : decode cX6_scope 41 = .ok (.iload_n 2, 1) := by decide +kernel
theorem dX6_scope_42 : decode cX6_scope 42 = .ok (.ishl, 1) := by decide +kernel
theorem dX6_scope_43 : decode cX6_scope 43 = .ok (.ior, 1) := by decide +kernel
theorem dX6_scope_44 : decode cX6_scope 44 = .ok (.iastore, 1) := by decide +kernel
theorem dX6_scope_45 : decode cX6_scope 45 = .ok (.aload_n 0, 1) := by decide +kernel
theorem dX6_scope_46 : decode cX6_scope 46 = .ok (.iload_n 2, 1) := by decide +kernel
theorem dX6_scope_47 : decode cX6_scope 47 = .ok (.iconst 1, 1) := by decide +kernel
theorem dX6_scope_48 : decode cX6_scope 48 = .ok (.iadd, 1) := by decide +kernel
theorem dX6_scope_49 : decode cX6_scope 49 = .ok (.putfield 38, 3) := by decide +kernel
theorem dX6_scope_52 : decode cX6_scope 52 = .ok (.iload_n 2, 1) := by decide +kernel
theorem dX6_scope_53 : decode cX6_scope 53 = .ok (.ireturn, 1) := by decide +kernel
theorem dX6_offset_0 : decode cX6_offset 0 = .ok (.aload_n 0, 1) := by decide +kernel
theorem dX6_offset_1 : decode cX6_offset 1 = .ok (.iload_n 1, 1) := by decide +kernel
theorem dX6_offset_2 : decode cX6_offset 2 = .ok (.invokevirtual 54, 3) := by decide +kernel
theorem dX6_offset_5 : decode cX6_offset 5 = .ok (.astore_n 3, 1) := by decide +kernel
theorem dX6_offset_6 : decode cX6_offset 6 = .ok (.iload_n 2, 1) := by decide +kernel
theorem dX6_offset_7 : decode cX6_offset 7 = .ok (.bipush (-11), 2) := by decide +kernel
theorem dX6_offset_9 : decode cX6_offset 9 = .ok (.bipush 12, 2) := by decide +kernel
theorem dX6_offset_11 : decode cX6_offset 11 = .ok (.invokestatic 58, 3) := by decide +kernel
theorem dX6_offset_14 : decode cX6_offset 14 = .ok (.aload_n 3, 1) := by decide +kernel
theorem dX6_offset_15 : decode cX6_offset 15 = .ok (.getfield 62, 3) := by decide +kernel
theorem dX6_offset_18 : decode cX6_offset 18 = .ok (.istore 4, 2) := by decide +kernel
theorem dX6_offset_20 : decode cX6_offset 20 = .ok (.aload_n 3, 1) := by decide +kernel
theorem dX6_offset_21 : decode cX6_offset 21 = .ok (.iload_n 2, 1) := by decide +kernel
theorem dX6_offset_22 : decode cX6_offset 22 = .ok (.putfield 62, 3) := by decide +kernel
theorem dX6_offset_25 : decode cX6_offset 25 = .ok (.iload 4, 2) := by decide +kernel
theorem dX6_offset_27 : decode cX6_offset 27 = .ok (.ireturn, 1) := by decide +kernel
theorem dX6_feast_0 : decode cX6_feast 0 = .ok (.aload_n 0, 1) := by decide +kernel
theorem dX6_feast_1 : decode cX6_feast 1 = .ok (.iload_n 1, 1) := by decide +kernel
theorem dX6_feast_2 : decode cX6_feast 2 = .ok (.invokevirtual 54, 3) := by decide +kernel
theorem dX6_feast_5 : decode cX6_feast 5 = .ok (.astore_n 3, 1) := by decide +kernel
theorem dX6_feast_6 : decode cX6_feast 6 = .ok (.iload_n 2, 1) := by decide +kernel
theorem dX6_feast_7 : decode cX6_feast 7 = .ok (.iconst (-1), 1) := by decide +kernel
theorem dX6_feast_8 : decode cX6_feast 8 = .ok (.bipush 28, 2) := by decide +kernel
theorem dX6_feast_10 : decode cX6_feast 10 = .ok (.invokestatic 58, 3) := by decide +kernel
theorem dX6_feast_13 : decode cX6_feast 13 = .ok (.aload_n 3, 1) := by decide +kernel
theorem dX6_feast_14 : decode cX6_feast 14 = .ok (.iload_n 2, 1) := by decide +kernel
theorem dX6_feast_15 : decode cX6_feast 15 = .ok (.invokevirtual 65, 3) := by decide +kernel
theorem dX6_feast_18 : decode cX6_feast 18 = .ok (.aload_n 3, 1) := by decide +kernel
theorem dX6_feast_19 : decode cX6_feast 19 = .ok (.iload_n 2, 1) := by decide +kernel
theorem dX6_feast_20 : decode cX6_feast 20 = .ok (.invokevirtual 68, 3) := by decide +kernel
theorem dX6_feast_23 : decode cX6_feast 23 = .ok (.ireturn, 1) := by decide +kernel
theorem dX6_pass_0 : decode cX6_pass 0 = .ok (.iload_n 1, 1) := by decide +kernel
theorem dX6_pass_1 : decode cX6_pass 1 = .ok (.iconst 1, 1) := by decide +kernel
theorem dX6_pass_2 : decode cX6_pass 2 = .ok (.bipush 100, 2) := by decide +kernel
theorem dX6_pass_4 : decode cX6_pass 4 = .ok (.invokestatic 58, 3) := by decide +kernel
theorem dX6_pass_7 : decode cX6_pass 7 = .ok (.aload_n 0, 1) := by decide +kernel
theorem dX6_pass_8 : decode cX6_pass 8 = .ok (.getfield 72, 3) := by decide +kernel
theorem dX6_pass_11 : decode cX6_pass 11 = .ok (.iload_n 1, 1) := by decide +kernel
theorem dX6_pass_12 : decode cX6_pass 12 = .ok (.iadd, 1) := by decide +kernel
theorem dX6_pass_13 : decode cX6_pass 13 = .ok (.sipush 672, 3) := by decide +kernel
theorem dX6_pass_16 : decode cX6_pass 16 = .ok (.if_icmp .lt 13, 3) := by decide +kernel
theorem dX6_pass_19 : decode cX6_pass 19 = .ok (.new 47, 3) := by decide +kernel
theorem dX6_pass_22 : decode cX6_pass 22 = .ok (.dup, 1) := by decide +kernel
theorem dX6_pass_23 : decode cX6_pass 23 = .ok (.ldc 75, 2) := by decide +kernel
theorem dX6_pass_25 : decode cX6_pass 25 = .ok (.invokespecial 51, 3) := by decide +kernel
theorem dX6_pass_28 : decode cX6_pass 28 = .ok (.athrow, 1) := by decide +kernel
theorem dX6_pass_29 : decode cX6_pass 29 = .ok (.aload_n 0, 1) := by decide +kernel
theorem dX6_pass_30 : decode cX6_pass 30 = .ok (.dup, 1) := by decide +kernel
theorem dX6_pass_31 : decode cX6_pass 31 = .ok (.getfield 72, 3) := by decide +kernel
theorem dX6_pass_34 : decode cX6_pass 34 = .ok (.iload_n 1, 1) := by decide +kernel
theorem dX6_pass_35 : decode cX6_pass 35 = .ok (.iadd, 1) := by decide +kernel
theorem dX6_pass_36 : decode cX6_pass 36 = .ok (.putfield 72, 3) := by decide +kernel
theorem dX6_pass_39 : decode cX6_pass 39 = .ok (.aload_n 0, 1) := by decide +kernel
theorem dX6_pass_40 : decode cX6_pass 40 = .ok (.getfield 72, 3) := by decide +kernel
theorem dX6_pass_43 : decode cX6_pass 43 = .ok (.ireturn, 1) := by decide +kernel
theorem dX6_now_0 : decode cX6_now 0 = .ok (.aload_n 0, 1) := by decide +kernel
theorem dX6_now_1 : decode cX6_now 1 = .ok (.getfield 72, 3) := by decide +kernel
theorem dX6_now_4 : decode cX6_now 4 = .ok (.ireturn, 1) := by decide +kernel
theorem dX6_once_0 : decode cX6_once 0 = .ok (.aload_n 0, 1) := by decide +kernel
theorem dX6_once_1 : decode cX6_once 1 = .ok (.iload_n 1, 1) := by decide +kernel
theorem dX6_once_2 : decode cX6_once 2 = .ok (.invokevirtual 43, 3) := by decide +kernel
theorem dX6_once_5 : decode cX6_once 5 = .ok (.iload_n 2, 1) := by decide +kernel
theorem dX6_once_6 : decode cX6_once 6 = .ok (.iconst 0, 1) := by decide +kernel
theorem dX6_once_7 : decode cX6_once 7 = .ok (.sipush 671, 3) := by decide +kernel
theorem dX6_once_10 : decode cX6_once 10 = .ok (.invokestatic 58, 3) := by decide +kernel
theorem dX6_once_13 : decode cX6_once 13 = .ok (.iload_n 3, 1) := by decide +kernel
theorem dX6_once_14 : decode cX6_once 14 = .ok (.iload_n 2, 1) := by decide +kernel
theorem dX6_once_15 : decode cX6_once 15 = .ok (.iconst 1, 1) := by decide +kernel
theorem dX6_once_16 : decode cX6_once 16 = .ok (.iadd, 1) := by decide +kernel
theorem dX6_once_17 : decode cX6_once 17 = .ok (.sipush 672, 3) := by decide +kernel
theorem dX6_once_20 : decode cX6_once 20 = .ok (.invokestatic 58, 3) := by decide +kernel
theorem dX6_once_23 : decode cX6_once 23 = .ok (.iload 4, 2) := by decide +kernel
theorem dX6_once_25 : decode cX6_once 25 = .ok (.iconst 1, 1) := by decide +kernel
theorem dX6_once_26 : decode cX6_once 26 = .ok (.iconst 3, 1) := by decide +kernel
theorem dX6_once_27 : decode cX6_once 27 = .ok (.invokestatic 58, 3) := by decide +kernel
theorem dX6_once_30 : decode cX6_once 30 = .ok (.aload_n 0, 1) := by decide +kernel
theorem dX6_once_31 : decode cX6_once 31 = .ok (.invokevirtual 77, 3) := by decide +kernel
theorem dX6_once_34 : decode cX6_once 34 = .ok (.aload_n 0, 1) := by decide +kernel
theorem dX6_once_35 : decode cX6_once 35 = .ok (.new 80, 3) := by decide +kernel
theorem dX6_once_38 : decode cX6_once 38 = .ok (.dup, 1) := by decide +kernel
theorem dX6_once_39 : decode cX6_once 39 = .ok (.iload_n 1, 1) := by decide +kernel
theorem dX6_once_40 : decode cX6_once 40 = .ok (.iload 4, 2) := by decide +kernel
theorem dX6_once_42 : decode cX6_once 42 = .ok (.iload_n 2, 1) := by decide +kernel
theorem dX6_once_43 : decode cX6_once 43 = .ok (.iload_n 3, 1) := by decide +kernel
theorem dX6_once_44 : decode cX6_once 44 = .ok (.invokespecial 82, 3) := by decide +kernel
theorem dX6_once_47 : decode cX6_once 47 = .ok (.invokevirtual 85, 3) := by decide +kernel
theorem dX6_once_50 : decode cX6_once 50 = .ok (.ireturn, 1) := by decide +kernel
theorem dX6_daily_0 : decode cX6_daily 0 = .ok (.aload_n 0, 1) := by decide +kernel
theorem dX6_daily_1 : decode cX6_daily 1 = .ok (.iload_n 1, 1) := by decide +kernel
theorem dX6_daily_2 : decode cX6_daily 2 = .ok (.invokevirtual 43, 3) := by decide +kernel
theorem dX6_daily_5 : decode cX6_daily 5 = .ok (.aload_n 0, 1) := by decide +kernel
theorem dX6_daily_6 : decode cX6_daily 6 = .ok (.iload_n 2, 1) := by decide +kernel
theorem dX6_daily_7 : decode cX6_daily 7 = .ok (.invokevirtual 54, 3) := by decide +kernel
theorem dX6_daily_10 : decode cX6_daily 10 = .ok (.astore 6, 2) := by decide +kernel
theorem dX6_daily_12 : decode cX6_daily 12 = .ok (.iload_n 3, 1) := by decide +kernel
theorem dX6_daily_13 : decode cX6_daily 13 = .ok (.iconst 0, 1) := by decide +kernel
theorem dX6_daily_14 : decode cX6_daily 14 = .ok (.bipush 23, 2) := by decide +kernel
theorem dX6_daily_16 : decode cX6_daily 16 = .ok (.invokestatic 58, 3) := by decide +kernel
theorem dX6_daily_19 : decode cX6_daily 19 = .ok (.iload 4, 2) := by decide +kernel
theorem dX6_daily_21 : decode cX6_daily 21 = .ok (.iconst 0, 1) := by decide +kernel
theorem dX6_daily_22 : decode cX6_daily 22 = .ok (.bipush 23, 2) := by decide +kernel
theorem dX6_daily_24 : decode cX6_daily 24 = .ok (.invokestatic 58, 3) := by decide +kernel
theorem dX6_daily_27 : decode cX6_daily 27 = .ok (.iload 5, 2) := by decide +kernel
theorem dX6_daily_29 : decode cX6_daily 29 = .ok (.iconst 1, 1) := by decide +kernel
theorem dX6_daily_30 : decode cX6_daily 30 = .ok (.iconst 3, 1) := by decide +kernel
theorem dX6_daily_31 : decode cX6_daily 31 = .ok (.invokestatic 58, 3) := by decide +kernel
theorem dX6_daily_34 : decode cX6_daily 34 = .ok (.aload_n 0, 1) := by decide +kernel
theorem dX6_daily_35 : decode cX6_daily 35 = .ok (.invokevirtual 77, 3) := by decide +kernel
theorem dX6_daily_38 : decode cX6_daily 38 = .ok (.aload_n 0, 1) := by decide +kernel
theorem dX6_daily_39 : decode cX6_daily 39 = .ok (.new 89, 3) := by decide +kernel
theorem dX6_daily_42 : decode cX6_daily 42 = .ok (.dup, 1) := by decide +kernel
theorem dX6_daily_43 : decode cX6_daily 43 = .ok (.iload_n 1, 1) := by decide +kernel
theorem dX6_daily_44 : decode cX6_daily 44 = .ok (.iload 5, 2) := by decide +kernel
theorem dX6_daily_46 : decode cX6_daily 46 = .ok (.aload 6, 2) := by decide +kernel
theorem dX6_daily_48 : decode cX6_daily 48 = .ok (.iload_n 3, 1) := by decide +kernel
theorem dX6_daily_49 : decode cX6_daily 49 = .ok (.iload 4, 2) := by decide +kernel
theorem dX6_daily_51 : decode cX6_daily 51 = .ok (.invokespecial 91, 3) := by decide +kernel
theorem dX6_daily_54 : decode cX6_daily 54 = .ok (.invokevirtual 85, 3) := by decide +kernel
theorem dX6_daily_57 : decode cX6_daily 57 = .ok (.ireturn, 1) := by decide +kernel
theorem dX6_feasts_0 : decode cX6_feasts 0 = .ok (.aload_n 0, 1) := by decide +kernel
theorem dX6_feasts_1 : decode cX6_feasts 1 = .ok (.iload_n 1, 1) := by decide +kernel
theorem dX6_feasts_2 : decode cX6_feasts 2 = .ok (.invokevirtual 43, 3) := by decide +kernel
theorem dX6_feasts_5 : decode cX6_feasts 5 = .ok (.aload_n 0, 1) := by decide +kernel
theorem dX6_feasts_6 : decode cX6_feasts 6 = .ok (.iload_n 2, 1) := by decide +kernel
theorem dX6_feasts_7 : decode cX6_feasts 7 = .ok (.invokevirtual 54, 3) := by decide +kernel
theorem dX6_feasts_10 : decode cX6_feasts 10 = .ok (.astore 4, 2) := by decide +kernel
theorem dX6_feasts_12 : decode cX6_feasts 12 = .ok (.iload_n 3, 1) := by decide +kernel
theorem dX6_feasts_13 : decode cX6_feasts 13 = .ok (.iconst 1, 1) := by decide +kernel
theorem dX6_feasts_14 : decode cX6_feasts 14 = .ok (.iconst 3, 1) := by decide +kernel
theorem dX6_feasts_15 : decode cX6_feasts 15 = .ok (.invokestatic 58, 3) := by decide +kernel
theorem dX6_feasts_18 : decode cX6_feasts 18 = .ok (.aload_n 0, 1) := by decide +kernel
theorem dX6_feasts_19 : decode cX6_feasts 19 = .ok (.invokevirtual 77, 3) := by decide +kernel
theorem dX6_feasts_22 : decode cX6_feasts 22 = .ok (.aload_n 0, 1) := by decide +kernel
theorem dX6_feasts_23 : decode cX6_feasts 23 = .ok (.new 94, 3) := by decide +kernel
theorem dX6_feasts_26 : decode cX6_feasts 26 = .ok (.dup, 1) := by decide +kernel
theorem dX6_feasts_27 : decode cX6_feasts 27 = .ok (.iload_n 1, 1) := by decide +kernel
theorem dX6_feasts_28 : decode cX6_feasts 28 = .ok (.iload_n 3, 1) := by decide +kernel
theorem dX6_feasts_29 : decode cX6_feasts 29 = .ok (.aload 4, 2) := by decide +kernel
theorem dX6_feasts_31 : decode cX6_feasts 31 = .ok (.invokespecial 96, 3) := by decide +kernel
theorem dX6_feasts_34 : decode cX6_feasts 34 = .ok (.invokevirtual 85, 3) := by decide +kernel
theorem dX6_feasts_37 : decode cX6_feasts 37 = .ok (.ireturn, 1) := by decide +kernel
theorem dX6_lift_0 : decode cX6_lift 0 = .ok (.aload_n 0, 1) := by decide +kernel
theorem dX6_lift_1 : decode cX6_lift 1 = .ok (.iload_n 1, 1) := by decide +kernel
theorem dX6_lift_2 : decode cX6_lift 2 = .ok (.invokevirtual 99, 3) := by decide +kernel
theorem dX6_lift_5 : decode cX6_lift 5 = .ok (.pop, 1) := by decide +kernel
theorem dX6_lift_6 : decode cX6_lift 6 = .ok (.aload_n 0, 1) := by decide +kernel
theorem dX6_lift_7 : decode cX6_lift 7 = .ok (.getfield 21, 3) := by decide +kernel
theorem dX6_lift_10 : decode cX6_lift 10 = .ok (.iload_n 1, 1) := by decide +kernel
theorem dX6_lift_11 : decode cX6_lift 11 = .ok (.aconst_null, 1) := by decide +kernel
theorem dX6_lift_12 : decode cX6_lift 12 = .ok (.aastore, 1) := by decide +kernel
theorem dX6_lift_13 : decode cX6_lift 13 = .ok (.aload_n 0, 1) := by decide +kernel
theorem dX6_lift_14 : decode cX6_lift 14 = .ok (.dup, 1) := by decide +kernel
theorem dX6_lift_15 : decode cX6_lift 15 = .ok (.getfield 103, 3) := by decide +kernel
theorem dX6_lift_18 : decode cX6_lift 18 = .ok (.iconst 1, 1) := by decide +kernel
theorem dX6_lift_19 : decode cX6_lift 19 = .ok (.isub, 1) := by decide +kernel
theorem dX6_lift_20 : decode cX6_lift 20 = .ok (.putfield 103, 3) := by decide +kernel
theorem dX6_lift_23 : decode cX6_lift 23 = .ok (.aload_n 0, 1) := by decide +kernel
theorem dX6_lift_24 : decode cX6_lift 24 = .ok (.getfield 103, 3) := by decide +kernel
theorem dX6_lift_27 : decode cX6_lift 27 = .ok (.ireturn, 1) := by decide +kernel
theorem dX6_holding_0 : decode cX6_holding 0 = .ok (.aload_n 0, 1) := by decide +kernel
theorem dX6_holding_1 : decode cX6_holding 1 = .ok (.iload_n 1, 1) := by decide +kernel
theorem dX6_holding_2 : decode cX6_holding 2 = .ok (.invokevirtual 43, 3) := by decide +kernel
theorem dX6_holding_5 : decode cX6_holding 5 = .ok (.iload_n 2, 1) := by decide +kernel
theorem dX6_holding_6 : decode cX6_holding 6 = .ok (.iconst 0, 1) := by decide +kernel
theorem dX6_holding_7 : decode cX6_holding 7 = .ok (.sipush 671, 3) := by decide +kernel
theorem dX6_holding_10 : decode cX6_holding 10 = .ok (.invokestatic 58, 3) := by decide +kernel
theorem dX6_holding_13 : decode cX6_holding 13 = .ok (.aload_n 0, 1) := by decide +kernel
theorem dX6_holding_14 : decode cX6_holding 14 = .ok (.aload_n 0, 1) := by decide +kernel
theorem dX6_holding_15 : decode cX6_holding 15 = .ok (.iload_n 1, 1) := by decide +kernel
theorem dX6_holding_16 : decode cX6_holding 16 = .ok (.invokevirtual 106, 3) := by decide +kernel
theorem dX6_holding_19 : decode cX6_holding 19 = .ok (.iload_n 2, 1) := by decide +kernel
theorem dX6_holding_20 : decode cX6_holding 20 = .ok (.invokevirtual 110, 3) := by decide +kernel
theorem dX6_holding_23 : decode cX6_holding 23 = .ok (.ireturn, 1) := by decide +kernel
theorem dX6_hours_0 : decode cX6_hours 0 = .ok (.aload_n 0, 1) := by decide +kernel
theorem dX6_hours_1 : decode cX6_hours 1 = .ok (.iload_n 1, 1) := by decide +kernel
theorem dX6_hours_2 : decode cX6_hours 2 = .ok (.invokevirtual 99, 3) := by decide +kernel
theorem dX6_hours_5 : decode cX6_hours 5 = .ok (.astore_n 2, 1) := by decide +kernel
theorem dX6_hours_6 : decode cX6_hours 6 = .ok (.iconst 0, 1) := by decide +kernel
theorem dX6_hours_7 : decode cX6_hours 7 = .ok (.istore_n 3, 1) := by decide +kernel
theorem dX6_hours_8 : decode cX6_hours 8 = .ok (.iconst 0, 1) := by decide +kernel
theorem dX6_hours_9 : decode cX6_hours 9 = .ok (.istore 4, 2) := by decide +kernel
theorem dX6_hours_11 : decode cX6_hours 11 = .ok (.iload 4, 2) := by decide +kernel
theorem dX6_hours_13 : decode cX6_hours 13 = .ok (.sipush 672, 3) := by decide +kernel
theorem dX6_hours_16 : decode cX6_hours 16 = .ok (.if_icmp .ge 21, 3) := by decide +kernel
theorem dX6_hours_19 : decode cX6_hours 19 = .ok (.aload_n 2, 1) := by decide +kernel
theorem dX6_hours_20 : decode cX6_hours 20 = .ok (.iload 4, 2) := by decide +kernel
theorem dX6_hours_22 : decode cX6_hours 22 = .ok (.invokevirtual 114, 3) := by decide +kernel
theorem dX6_hours_25 : decode cX6_hours 25 = .ok (.ifCond .eq 6, 3) := by decide +kernel
theorem dX6_hours_28 : decode cX6_hours 28 = .ok (.iinc 3 1, 3) := by decide +kernel
theorem dX6_hours_31 : decode cX6_hours 31 = .ok (.iinc 4 1, 3) := by decide +kernel
theorem dX6_hours_34 : decode cX6_hours 34 = .ok (.goto (-23), 3) := by decide +kernel
theorem dX6_hours_37 : decode cX6_hours 37 = .ok (.iload_n 3, 1) := by decide +kernel
theorem dX6_hours_38 : decode cX6_hours 38 = .ok (.ireturn, 1) := by decide +kernel
theorem dX6_nextSpan_0 : decode cX6_nextSpan 0 = .ok (.aload_n 0, 1) := by decide +kernel
theorem dX6_nextSpan_1 : decode cX6_nextSpan 1 = .ok (.iload_n 1, 1) := by decide +kernel
theorem dX6_nextSpan_2 : decode cX6_nextSpan 2 = .ok (.invokevirtual 43, 3) := by decide +kernel
theorem dX6_nextSpan_5 : decode cX6_nextSpan 5 = .ok (.iload_n 2, 1) := by decide +kernel
theorem dX6_nextSpan_6 : decode cX6_nextSpan 6 = .ok (.iconst 0, 1) := by decide +kernel
theorem dX6_nextSpan_7 : decode cX6_nextSpan 7 = .ok (.sipush 671, 3) := by decide +kernel
theorem dX6_nextSpan_10 : decode cX6_nextSpan 10 = .ok (.invokestatic 58, 3) := by decide +kernel
theorem dX6_nextSpan_13 : decode cX6_nextSpan 13 = .ok (.iload_n 3, 1) := by decide +kernel
theorem dX6_nextSpan_14 : decode cX6_nextSpan 14 = .ok (.iconst 1, 1) := by decide +kernel
theorem dX6_nextSpan_15 : decode cX6_nextSpan 15 = .ok (.bipush 100, 2) := by decide +kernel
theorem dX6_nextSpan_17 : decode cX6_nextSpan 17 = .ok (.invokestatic 58, 3) := by decide +kernel
theorem dX6_nextSpan_20 : decode cX6_nextSpan 20 = .ok (.aload_n 0, 1) := by decide +kernel
theorem dX6_nextSpan_21 : decode cX6_nextSpan 21 = .ok (.iload_n 1, 1) := by decide +kernel
theorem dX6_nextSpan_22 : decode cX6_nextSpan 22 = .ok (.invokevirtual 106, 3) := by decide +kernel
theorem dX6_nextSpan_25 : decode cX6_nextSpan 25 = .ok (.istore 4, 2) := by decide +kernel
theorem dX6_nextSpan_27 : decode cX6_nextSpan 27 = .ok (.iconst 0, 1) := by decide +kernel
theorem dX6_nextSpan_28 : decode cX6_nextSpan 28 = .ok (.istore 5, 2) := by decide +kernel
theorem dX6_nextSpan_30 : decode cX6_nextSpan 30 = .ok (.iload_n 2, 1) := by decide +kernel
theorem dX6_nextSpan_31 : decode cX6_nextSpan 31 = .ok (.istore 6, 2) := by decide +kernel
theorem dX6_nextSpan_33 : decode cX6_nextSpan 33 = .ok (.iload 6, 2) := by decide +kernel
theorem dX6_nextSpan_35 : decode cX6_nextSpan 35 = .ok (.sipush 672, 3) := by decide +kernel
theorem dX6_nextSpan_38 : decode cX6_nextSpan 38 = .ok (.if_icmp .ge 43, 3) := by decide +kernel
theorem dX6_nextSpan_41 : decode cX6_nextSpan 41 = .ok (.aload_n 0, 1) := by decide +kernel
theorem dX6_nextSpan_42 : decode cX6_nextSpan 42 = .ok (.iload 4, 2) := by decide +kernel
theorem dX6_nextSpan_44 : decode cX6_nextSpan 44 = .ok (.iload 6, 2) := by decide +kernel
theorem dX6_nextSpan_46 : decode cX6_nextSpan 46 = .ok (.invokevirtual 110, 3) := by decide +kernel
theorem dX6_nextSpan_49 : decode cX6_nextSpan 49 = .ok (.ifCond .ne 10, 3) := by decide +kernel
theorem dX6_nextSpan_52 : decode cX6_nextSpan 52 = .ok (.iload 5, 2) := by decide +kernel
theorem dX6_nextSpan_54 : decode cX6_nextSpan 54 = .ok (.iconst 1, 1) := by decide +kernel
theorem dX6_nextSpan_55 : decode cX6_nextSpan 55 = .ok (.iadd, 1) := by decide +kernel
theorem dX6_nextSpan_56 : decode cX6_nextSpan 56 = .ok (.goto 4, 3) := by decide +kernel
theorem dX6_nextSpan_59 : decode cX6_nextSpan 59 = .ok (.iconst 0, 1) := by decide +kernel
theorem dX6_nextSpan_60 : decode cX6_nextSpan 60 = .ok (.istore 5, 2) := by decide +kernel
theorem dX6_nextSpan_62 : decode cX6_nextSpan 62 = .ok (.iload 5, 2) := by decide +kernel
theorem dX6_nextSpan_64 : decode cX6_nextSpan 64 = .ok (.iload_n 3, 1) := by decide +kernel
theorem dX6_nextSpan_65 : decode cX6_nextSpan 65 = .ok (.if_icmp .ne 10, 3) := by decide +kernel
theorem dX6_nextSpan_68 : decode cX6_nextSpan 68 = .ok (.iload 6, 2) := by decide +kernel
theorem dX6_nextSpan_70 : decode cX6_nextSpan 70 = .ok (.iload_n 3, 1) := by decide +kernel
theorem dX6_nextSpan_71 : decode cX6_nextSpan 71 = .ok (.isub, 1) := by decide +kernel
theorem dX6_nextSpan_72 : decode cX6_nextSpan 72 = .ok (.iconst 1, 1) := by decide +kernel
theorem dX6_nextSpan_73 : decode cX6_nextSpan 73 = .ok (.iadd, 1) := by decide +kernel
theorem dX6_nextSpan_74 : decode cX6_nextSpan 74 = .ok (.ireturn, 1) := by decide +kernel
theorem dX6_nextSpan_75 : decode cX6_nextSpan 75 = .ok (.iinc 6 1, 3) := by decide +kernel
theorem dX6_nextSpan_78 : decode cX6_nextSpan 78 = .ok (.goto (-45), 3) := by decide +kernel
theorem dX6_nextSpan_81 : decode cX6_nextSpan 81 = .ok (.iconst (-1), 1) := by decide +kernel
theorem dX6_nextSpan_82 : decode cX6_nextSpan 82 = .ok (.ireturn, 1) := by decide +kernel
theorem dX6_plan_0 : decode cX6_plan 0 = .ok (.aload_n 0, 1) := by decide +kernel
theorem dX6_plan_1 : decode cX6_plan 1 = .ok (.iload_n 1, 1) := by decide +kernel
theorem dX6_plan_2 : decode cX6_plan 2 = .ok (.invokevirtual 43, 3) := by decide +kernel
theorem dX6_plan_5 : decode cX6_plan 5 = .ok (.iload_n 3, 1) := by decide +kernel
theorem dX6_plan_6 : decode cX6_plan 6 = .ok (.iconst 1, 1) := by decide +kernel
theorem dX6_plan_7 : decode cX6_plan 7 = .ok (.bipush 100, 2) := by decide +kernel
theorem dX6_plan_9 : decode cX6_plan 9 = .ok (.invokestatic 58, 3) := by decide +kernel
theorem dX6_plan_12 : decode cX6_plan 12 = .ok (.iload_n 2, 1) := by decide +kernel
theorem dX6_plan_13 : decode cX6_plan 13 = .ok (.aload_n 0, 1) := by decide +kernel
theorem dX6_plan_14 : decode cX6_plan 14 = .ok (.getfield 72, 3) := by decide +kernel
theorem dX6_plan_17 : decode cX6_plan 17 = .ok (.sipush 672, 3) := by decide +kernel
theorem dX6_plan_20 : decode cX6_plan 20 = .ok (.iload_n 3, 1) := by decide +kernel
theorem dX6_plan_21 : decode cX6_plan 21 = .ok (.isub, 1) := by decide +kernel
theorem dX6_plan_22 : decode cX6_plan 22 = .ok (.invokestatic 58, 3) := by decide +kernel
theorem dX6_plan_25 : decode cX6_plan 25 = .ok (.iload 4, 2) := by decide +kernel
theorem dX6_plan_27 : decode cX6_plan 27 = .ok (.iconst 1, 1) := by decide +kernel
theorem dX6_plan_28 : decode cX6_plan 28 = .ok (.iconst 3, 1) := by decide +kernel
theorem dX6_plan_29 : decode cX6_plan 29 = .ok (.invokestatic 58, 3) := by decide +kernel
theorem dX6_plan_32 : decode cX6_plan 32 = .ok (.aload_n 0, 1) := by decide +kernel
theorem dX6_plan_33 : decode cX6_plan 33 = .ok (.getfield 117, 3) := by decide +kernel
theorem dX6_plan_36 : decode cX6_plan 36 = .ok (.bipush 30, 2) := by decide +kernel
theorem dX6_plan_38 : decode cX6_plan 38 = .ok (.if_icmp .lt 13, 3) := by decide +kernel
theorem dX6_plan_41 : decode cX6_plan 41 = .ok (.new 47, 3) := by decide +kernel
theorem dX6_plan_44 : decode cX6_plan 44 = .ok (.dup, 1) := by decide +kernel
theorem dX6_plan_45 : decode cX6_plan 45 = .ok (.ldc 120, 2) := by decide +kernel
theorem dX6_plan_47 : decode cX6_plan 47 = .ok (.invokespecial 51, 3) := by decide +kernel
theorem dX6_plan_50 : decode cX6_plan 50 = .ok (.athrow, 1) := by decide +kernel
theorem dX6_plan_51 : decode cX6_plan 51 = .ok (.aload_n 0, 1) := by decide +kernel
theorem dX6_plan_52 : decode cX6_plan 52 = .ok (.getfield 117, 3) := by decide +kernel
theorem dX6_plan_55 : decode cX6_plan 55 = .ok (.istore 5, 2) := by decide +kernel
theorem dX6_plan_57 : decode cX6_plan 57 = .ok (.aload_n 0, 1) := by decide +kernel
theorem dX6_plan_58 : decode cX6_plan 58 = .ok (.getfield 27, 3) := by decide +kernel
theorem dX6_plan_61 : decode cX6_plan 61 = .ok (.iload 5, 2) := by decide +kernel
theorem dX6_plan_63 : decode cX6_plan 63 = .ok (.new 25, 3) := by decide +kernel
theorem dX6_plan_66 : decode cX6_plan 66 = .ok (.dup, 1) := by decide +kernel
theorem dX6_plan_67 : decode cX6_plan 67 = .ok (.iload_n 1, 1) := by decide +kernel
theorem dX6_plan_68 : decode cX6_plan 68 = .ok (.iload_n 2, 1) := by decide +kernel
theorem dX6_plan_69 : decode cX6_plan 69 = .ok (.iload_n 3, 1) := by decide +kernel
theorem dX6_plan_70 : decode cX6_plan 70 = .ok (.iload 4, 2) := by decide +kernel
theorem dX6_plan_72 : decode cX6_plan 72 = .ok (.invokespecial 122, 3) := by decide +kernel
theorem dX6_plan_75 : decode cX6_plan 75 = .ok (.aastore, 1) := by decide +kernel
theorem dX6_plan_76 : decode cX6_plan 76 = .ok (.aload_n 0, 1) := by decide +kernel
theorem dX6_plan_77 : decode cX6_plan 77 = .ok (.iload 5, 2) := by decide +kernel
theorem dX6_plan_79 : decode cX6_plan 79 = .ok (.iconst 1, 1) := by decide +kernel
theorem dX6_plan_80 : decode cX6_plan 80 = .ok (.iadd, 1) := by decide +kernel
theorem dX6_plan_81 : decode cX6_plan 81 = .ok (.putfield 117, 3) := by decide +kernel
theorem dX6_plan_84 : decode cX6_plan 84 = .ok (.iload 5, 2) := by decide +kernel
theorem dX6_plan_86 : decode cX6_plan 86 = .ok (.ireturn, 1) := by decide +kernel
theorem dX6_move_0 : decode cX6_move 0 = .ok (.aload_n 0, 1) := by decide +kernel
theorem dX6_move_1 : decode cX6_move 1 = .ok (.iload_n 1, 1) := by decide +kernel
theorem dX6_move_2 : decode cX6_move 2 = .ok (.invokevirtual 123, 3) := by decide +kernel
theorem dX6_move_5 : decode cX6_move 5 = .ok (.astore_n 3, 1) := by decide +kernel
theorem dX6_move_6 : decode cX6_move 6 = .ok (.iload_n 2, 1) := by decide +kernel
theorem dX6_move_7 : decode cX6_move 7 = .ok (.aload_n 0, 1) := by decide +kernel
theorem dX6_move_8 : decode cX6_move 8 = .ok (.getfield 72, 3) := by decide +kernel
theorem dX6_move_11 : decode cX6_move 11 = .ok (.sipush 672, 3) := by decide +kernel
theorem dX6_move_14 : decode cX6_move 14 = .ok (.aload_n 3, 1) := by decide +kernel
theorem dX6_move_15 : decode cX6_move 15 = .ok (.getfield 127, 3) := by decide +kernel
theorem dX6_move_18 : decode cX6_move 18 = .ok (.isub, 1) := by decide +kernel
theorem dX6_move_19 : decode cX6_move 19 = .ok (.invokestatic 58, 3) := by decide +kernel
theorem dX6_move_22 : decode cX6_move 22 = .ok (.aload_n 3, 1) := by decide +kernel
theorem dX6_move_23 : decode cX6_move 23 = .ok (.invokestatic 130, 3) := by decide +kernel
theorem dX6_move_26 : decode cX6_move 26 = .ok (.aload_n 3, 1) := by decide +kernel
theorem dX6_move_27 : decode cX6_move 27 = .ok (.iload_n 2, 1) := by decide +kernel
theorem dX6_move_28 : decode cX6_move 28 = .ok (.putfield 134, 3) := by decide +kernel
theorem dX6_move_31 : decode cX6_move 31 = .ok (.aload_n 3, 1) := by decide +kernel
theorem dX6_move_32 : decode cX6_move 32 = .ok (.iconst 0, 1) := by decide +kernel
theorem dX6_move_33 : decode cX6_move 33 = .ok (.putfield 137, 3) := by decide +kernel
theorem dX6_move_36 : decode cX6_move 36 = .ok (.aload_n 3, 1) := by decide +kernel
theorem dX6_move_37 : decode cX6_move 37 = .ok (.iconst 0, 1) := by decide +kernel
theorem dX6_move_38 : decode cX6_move 38 = .ok (.putfield 140, 3) := by decide +kernel
theorem dX6_move_41 : decode cX6_move 41 = .ok (.aload_n 0, 1) := by decide +kernel
theorem dX6_move_42 : decode cX6_move 42 = .ok (.aload_n 3, 1) := by decide +kernel
theorem dX6_move_43 : decode cX6_move 43 = .ok (.invokevirtual 143, 3) := by decide +kernel
theorem dX6_move_46 : decode cX6_move 46 = .ok (.ireturn, 1) := by decide +kernel
theorem dX6_approve_0 : decode cX6_approve 0 = .ok (.aload_n 0, 1) := by decide +kernel
theorem dX6_approve_1 : decode cX6_approve 1 = .ok (.iload_n 1, 1) := by decide +kernel
theorem dX6_approve_2 : decode cX6_approve 2 = .ok (.invokevirtual 123, 3) := by decide +kernel
theorem dX6_approve_5 : decode cX6_approve 5 = .ok (.astore_n 2, 1) := by decide +kernel
theorem dX6_approve_6 : decode cX6_approve 6 = .ok (.aload_n 2, 1) := by decide +kernel
theorem dX6_approve_7 : decode cX6_approve 7 = .ok (.invokestatic 130, 3) := by decide +kernel
theorem dX6_approve_10 : decode cX6_approve 10 = .ok (.aload_n 2, 1) := by decide +kernel
theorem dX6_approve_11 : decode cX6_approve 11 = .ok (.getfield 137, 3) := by decide +kernel
theorem dX6_approve_14 : decode cX6_approve 14 = .ok (.aload_n 2, 1) := by decide +kernel
theorem dX6_approve_15 : decode cX6_approve 15 = .ok (.getfield 147, 3) := by decide +kernel
theorem dX6_approve_18 : decode cX6_approve 18 = .ok (.if_icmp .lt 13, 3) := by decide +kernel
theorem dX6_approve_21 : decode cX6_approve 21 = .ok (.new 47, 3) := by decide +kernel
theorem dX6_approve_24 : decode cX6_approve 24 = .ok (.dup, 1) := by decide +kernel
theorem dX6_approve_25 : decode cX6_approve 25 = .ok (.ldc 150, 2) := by decide +kernel
theorem dX6_approve_27 : decode cX6_approve 27 = .ok (.invokespecial 51, 3) := by decide +kernel
theorem dX6_approve_30 : decode cX6_approve 30 = .ok (.athrow, 1) := by decide +kernel
theorem dX6_approve_31 : decode cX6_approve 31 = .ok (.aload_n 2, 1) := by decide +kernel
theorem dX6_approve_32 : decode cX6_approve 32 = .ok (.dup, 1) := by decide +kernel
theorem dX6_approve_33 : decode cX6_approve 33 = .ok (.getfield 137, 3) := by decide +kernel
theorem dX6_approve_36 : decode cX6_approve 36 = .ok (.iconst 1, 1) := by decide +kernel
theorem dX6_approve_37 : decode cX6_approve 37 = .ok (.iadd, 1) := by decide +kernel
theorem dX6_approve_38 : decode cX6_approve 38 = .ok (.putfield 137, 3) := by decide +kernel
theorem dX6_approve_41 : decode cX6_approve 41 = .ok (.aload_n 2, 1) := by decide +kernel
theorem dX6_approve_42 : decode cX6_approve 42 = .ok (.getfield 137, 3) := by decide +kernel
theorem dX6_approve_45 : decode cX6_approve 45 = .ok (.ireturn, 1) := by decide +kernel
theorem dX6_begin_0 : decode cX6_begin 0 = .ok (.aload_n 0, 1) := by decide +kernel
theorem dX6_begin_1 : decode cX6_begin 1 = .ok (.iload_n 1, 1) := by decide +kernel
theorem dX6_begin_2 : decode cX6_begin 2 = .ok (.invokevirtual 123, 3) := by decide +kernel
theorem dX6_begin_5 : decode cX6_begin 5 = .ok (.astore_n 2, 1) := by decide +kernel
theorem dX6_begin_6 : decode cX6_begin 6 = .ok (.aload_n 2, 1) := by decide +kernel
theorem dX6_begin_7 : decode cX6_begin 7 = .ok (.invokestatic 130, 3) := by decide +kernel
theorem dX6_begin_10 : decode cX6_begin 10 = .ok (.aload_n 2, 1) := by decide +kernel
theorem dX6_begin_11 : decode cX6_begin 11 = .ok (.getfield 134, 3) := by decide +kernel
theorem dX6_begin_14 : decode cX6_begin 14 = .ok (.aload_n 0, 1) := by decide +kernel
theorem dX6_begin_15 : decode cX6_begin 15 = .ok (.getfield 72, 3) := by decide +kernel
theorem dX6_begin_18 : decode cX6_begin 18 = .ok (.if_icmp .eq 13, 3) := by decide +kernel
theorem dX6_begin_21 : decode cX6_begin 21 = .ok (.new 47, 3) := by decide +kernel
theorem dX6_begin_24 : decode cX6_begin 24 = .ok (.dup, 1) := by decide +kernel
theorem dX6_begin_25 : decode cX6_begin 25 = .ok (.ldc 152, 2) := by decide +kernel
theorem dX6_begin_27 : decode cX6_begin 27 = .ok (.invokespecial 51, 3) := by decide +kernel
theorem dX6_begin_30 : decode cX6_begin 30 = .ok (.athrow, 1) := by decide +kernel
theorem dX6_begin_31 : decode cX6_begin 31 = .ok (.aload_n 2, 1) := by decide +kernel
theorem dX6_begin_32 : decode cX6_begin 32 = .ok (.getfield 137, 3) := by decide +kernel
theorem dX6_begin_35 : decode cX6_begin 35 = .ok (.aload_n 2, 1) := by decide +kernel
theorem dX6_begin_36 : decode cX6_begin 36 = .ok (.getfield 147, 3) := by decide +kernel
theorem dX6_begin_39 : decode cX6_begin 39 = .ok (.if_icmp .ge 13, 3) := by decide +kernel
theorem dX6_begin_42 : decode cX6_begin 42 = .ok (.new 47, 3) := by decide +kernel
theorem dX6_begin_45 : decode cX6_begin 45 = .ok (.dup, 1) := by decide +kernel
theorem dX6_begin_46 : decode cX6_begin 46 = .ok (.ldc 154, 2) := by decide +kernel
theorem dX6_begin_48 : decode cX6_begin 48 = .ok (.invokespecial 51, 3) := by decide +kernel
theorem dX6_begin_51 : decode cX6_begin 51 = .ok (.athrow, 1) := by decide +kernel
theorem dX6_begin_52 : decode cX6_begin 52 = .ok (.aload_n 0, 1) := by decide +kernel
theorem dX6_begin_53 : decode cX6_begin 53 = .ok (.aload_n 2, 1) := by decide +kernel
theorem dX6_begin_54 : decode cX6_begin 54 = .ok (.invokevirtual 156, 3) := by decide +kernel
theorem dX6_begin_57 : decode cX6_begin 57 = .ok (.iconst (-1), 1) := by decide +kernel
theorem dX6_begin_58 : decode cX6_begin 58 = .ok (.if_icmp .eq 13, 3) := by decide +kernel
theorem dX6_begin_61 : decode cX6_begin 61 = .ok (.new 47, 3) := by decide +kernel
theorem dX6_begin_64 : decode cX6_begin 64 = .ok (.dup, 1) := by decide +kernel
theorem dX6_begin_65 : decode cX6_begin 65 = .ok (.ldc 159, 2) := by decide +kernel
theorem dX6_begin_67 : decode cX6_begin 67 = .ok (.invokespecial 51, 3) := by decide +kernel
theorem dX6_begin_70 : decode cX6_begin 70 = .ok (.athrow, 1) := by decide +kernel
theorem dX6_begin_71 : decode cX6_begin 71 = .ok (.aload_n 2, 1) := by decide +kernel
theorem dX6_begin_72 : decode cX6_begin 72 = .ok (.iconst 1, 1) := by decide +kernel
theorem dX6_begin_73 : decode cX6_begin 73 = .ok (.putfield 161, 3) := by decide +kernel
theorem dX6_begin_76 : decode cX6_begin 76 = .ok (.aload_n 2, 1) := by decide +kernel
theorem dX6_begin_77 : decode cX6_begin 77 = .ok (.aload_n 0, 1) := by decide +kernel
theorem dX6_begin_78 : decode cX6_begin 78 = .ok (.getfield 165, 3) := by decide +kernel
theorem dX6_begin_81 : decode cX6_begin 81 = .ok (.putfield 168, 3) := by decide +kernel
theorem dX6_begin_84 : decode cX6_begin 84 = .ok (.aload_n 2, 1) := by decide +kernel
theorem dX6_begin_85 : decode cX6_begin 85 = .ok (.invokevirtual 171, 3) := by decide +kernel
theorem dX6_begin_88 : decode cX6_begin 88 = .ok (.ireturn, 1) := by decide +kernel
theorem dX6_state_0 : decode cX6_state 0 = .ok (.aload_n 0, 1) := by decide +kernel
theorem dX6_state_1 : decode cX6_state 1 = .ok (.iload_n 1, 1) := by decide +kernel
theorem dX6_state_2 : decode cX6_state 2 = .ok (.invokevirtual 123, 3) := by decide +kernel
theorem dX6_state_5 : decode cX6_state 5 = .ok (.astore_n 2, 1) := by decide +kernel
theorem dX6_state_6 : decode cX6_state 6 = .ok (.aload_n 2, 1) := by decide +kernel
theorem dX6_state_7 : decode cX6_state 7 = .ok (.getfield 161, 3) := by decide +kernel
theorem dX6_state_10 : decode cX6_state 10 = .ok (.ifCond .ne 5, 3) := by decide +kernel
theorem dX6_state_13 : decode cX6_state 13 = .ok (.iconst 0, 1) := by decide +kernel
theorem dX6_state_14 : decode cX6_state 14 = .ok (.ireturn, 1) := by decide +kernel
theorem dX6_state_15 : decode cX6_state 15 = .ok (.aload_n 0, 1) := by decide +kernel
theorem dX6_state_16 : decode cX6_state 16 = .ok (.getfield 72, 3) := by decide +kernel
theorem dX6_state_19 : decode cX6_state 19 = .ok (.aload_n 2, 1) := by decide +kernel
theorem dX6_state_20 : decode cX6_state 20 = .ok (.invokevirtual 171, 3) := by decide +kernel
theorem dX6_state_23 : decode cX6_state 23 = .ok (.if_icmp .ge 7, 3) := by decide +kernel
theorem dX6_state_26 : decode cX6_state 26 = .ok (.iconst 1, 1) := by decide +kernel
theorem dX6_state_27 : decode cX6_state 27 = .ok (.goto 4, 3) := by decide +kernel
theorem dX6_state_30 : decode cX6_state 30 = .ok (.iconst 2, 1) := by decide +kernel
theorem dX6_state_31 : decode cX6_state 31 = .ok (.ireturn, 1) := by decide +kernel
theorem dX6_approved_0 : decode cX6_approved 0 = .ok (.aload_n 0, 1) := by decide +kernel
theorem dX6_approved_1 : decode cX6_approved 1 = .ok (.iload_n 1, 1) := by decide +kernel
theorem dX6_approved_2 : decode cX6_approved 2 = .ok (.invokevirtual 123, 3) := by decide +kernel
theorem dX6_approved_5 : decode cX6_approved 5 = .ok (.getfield 137, 3) := by decide +kernel
theorem dX6_approved_8 : decode cX6_approved 8 = .ok (.ireturn, 1) := by decide +kernel
theorem dX6_exceptions_0 : decode cX6_exceptions 0 = .ok (.iload_n 1, 1) := by decide +kernel
theorem dX6_exceptions_1 : decode cX6_exceptions 1 = .ok (.iconst 1, 1) := by decide +kernel
theorem dX6_exceptions_2 : decode cX6_exceptions 2 = .ok (.iconst 3, 1) := by decide +kernel
theorem dX6_exceptions_3 : decode cX6_exceptions 3 = .ok (.invokestatic 58, 3) := by decide +kernel
theorem dX6_exceptions_6 : decode cX6_exceptions 6 = .ok (.iload_n 2, 1) := by decide +kernel
theorem dX6_exceptions_7 : decode cX6_exceptions 7 = .ok (.iconst 0, 1) := by decide +kernel
theorem dX6_exceptions_8 : decode cX6_exceptions 8 = .ok (.bipush 50, 2) := by decide +kernel
theorem dX6_exceptions_10 : decode cX6_exceptions 10 = .ok (.invokestatic 58, 3) := by decide +kernel
theorem dX6_exceptions_13 : decode cX6_exceptions 13 = .ok (.aload_n 0, 1) := by decide +kernel
theorem dX6_exceptions_14 : decode cX6_exceptions 14 = .ok (.getfield 31, 3) := by decide +kernel
theorem dX6_exceptions_17 : decode cX6_exceptions 17 = .ok (.iload_n 1, 1) := by decide +kernel
theorem dX6_exceptions_18 : decode cX6_exceptions 18 = .ok (.iaload, 1) := by decide +kernel
theorem dX6_exceptions_19 : decode cX6_exceptions 19 = .ok (.istore_n 3, 1) := by decide +kernel
theorem dX6_exceptions_20 : decode cX6_exceptions 20 = .ok (.aload_n 0, 1) := by decide +kernel
theorem dX6_exceptions_21 : decode cX6_exceptions 21 = .ok (.getfield 31, 3) := by decide +kernel
theorem dX6_exceptions_24 : decode cX6_exceptions 24 = .ok (.iload_n 1, 1) := by decide +kernel
theorem dX6_exceptions_25 : decode cX6_exceptions 25 = .ok (.iload_n 2, 1) := by decide +kernel
theorem dX6_exceptions_26 : decode cX6_exceptions 26 = .ok (.iastore, 1) := by decide +kernel
theorem dX6_exceptions_27 : decode cX6_exceptions 27 = .ok (.iload_n 3, 1) := by decide +kernel
theorem dX6_exceptions_28 : decode cX6_exceptions 28 = .ok (.ireturn, 1) := by decide +kernel
theorem dX6_left_0 : decode cX6_left 0 = .ok (.iload_n 1, 1) := by decide +kernel
theorem dX6_left_1 : decode cX6_left 1 = .ok (.iconst 1, 1) := by decide +kernel
theorem dX6_left_2 : decode cX6_left 2 = .ok (.iconst 3, 1) := by decide +kernel
theorem dX6_left_3 : decode cX6_left 3 = .ok (.invokestatic 58, 3) := by decide +kernel
theorem dX6_left_6 : decode cX6_left 6 = .ok (.aload_n 0, 1) := by decide +kernel
theorem dX6_left_7 : decode cX6_left 7 = .ok (.getfield 31, 3) := by decide +kernel
theorem dX6_left_10 : decode cX6_left 10 = .ok (.iload_n 1, 1) := by decide +kernel
theorem dX6_left_11 : decode cX6_left 11 = .ok (.iaload, 1) := by decide +kernel
theorem dX6_left_12 : decode cX6_left 12 = .ok (.ireturn, 1) := by decide +kernel
theorem dX6_excuse_0 : decode cX6_excuse 0 = .ok (.aload_n 0, 1) := by decide +kernel
theorem dX6_excuse_1 : decode cX6_excuse 1 = .ok (.iload_n 1, 1) := by decide +kernel
theorem dX6_excuse_2 : decode cX6_excuse 2 = .ok (.invokevirtual 123, 3) := by decide +kernel
theorem dX6_excuse_5 : decode cX6_excuse 5 = .ok (.astore_n 3, 1) := by decide +kernel
theorem dX6_excuse_6 : decode cX6_excuse 6 = .ok (.aload_n 0, 1) := by decide +kernel
theorem dX6_excuse_7 : decode cX6_excuse 7 = .ok (.iload_n 2, 1) := by decide +kernel
theorem dX6_excuse_8 : decode cX6_excuse 8 = .ok (.invokevirtual 99, 3) := by decide +kernel
theorem dX6_excuse_11 : decode cX6_excuse 11 = .ok (.astore 4, 2) := by decide +kernel
theorem dX6_excuse_13 : decode cX6_excuse 13 = .ok (.aload_n 0, 1) := by decide +kernel
theorem dX6_excuse_14 : decode cX6_excuse 14 = .ok (.aload_n 3, 1) := by decide +kernel
theorem dX6_excuse_15 : decode cX6_excuse 15 = .ok (.invokevirtual 175, 3) := by decide +kernel
theorem dX6_excuse_18 : decode cX6_excuse 18 = .ok (.iload_n 2, 1) := by decide +kernel
theorem dX6_excuse_19 : decode cX6_excuse 19 = .ok (.invokestatic 178, 3) := by decide +kernel
theorem dX6_excuse_22 : decode cX6_excuse 22 = .ok (.ifCond .ne 13, 3) := by decide +kernel
theorem dX6_excuse_25 : decode cX6_excuse 25 = .ok (.new 47, 3) := by decide +kernel
theorem dX6_excuse_28 : decode cX6_excuse 28 = .ok (.dup, 1) := by decide +kernel
theorem dX6_excuse_29 : decode cX6_excuse 29 = .ok (.ldc 182, 2) := by decide +kernel
theorem dX6_excuse_31 : decode cX6_excuse 31 = .ok (.invokespecial 51, 3) := by decide +kernel
theorem dX6_excuse_34 : decode cX6_excuse 34 = .ok (.athrow, 1) := by decide +kernel
theorem dX6_excuse_35 : decode cX6_excuse 35 = .ok (.aload_n 3, 1) := by decide +kernel
theorem dX6_excuse_36 : decode cX6_excuse 36 = .ok (.getfield 140, 3) := by decide +kernel
theorem dX6_excuse_39 : decode cX6_excuse 39 = .ok (.iload_n 2, 1) := by decide +kernel
theorem dX6_excuse_40 : decode cX6_excuse 40 = .ok (.invokestatic 178, 3) := by decide +kernel
theorem dX6_excuse_43 : decode cX6_excuse 43 = .ok (.ifCond .eq 13, 3) := by decide +kernel
theorem dX6_excuse_46 : decode cX6_excuse 46 = .ok (.new 47, 3) := by decide +kernel
end
section
theorem dX6_excuse_49 : decode cX6_excuse 49 = .ok (.dup, 1) := by decide +kernel
theorem dX6_excuse_50 : decode cX6_excuse 50 = .ok (.ldc 184, 2) := by decide +kernel
theorem dX6_excuse_52 : decode cX6_excuse 52 = .ok (.invokespecial 51, 3) := by decide +kernel
theorem dX6_excuse_55 : decode cX6_excuse 55 = .ok (.athrow, 1) := by decide +kernel
theorem dX6_excuse_56 : decode cX6_excuse 56 = .ok (.aload_n 0, 1) := by decide +kernel
theorem dX6_excuse_57 : decode cX6_excuse 57 = .ok (.aload 4, 2) := by decide +kernel
theorem dX6_excuse_59 : decode cX6_excuse 59 = .ok (.getfield 186, 3) := by decide +kernel
theorem dX6_excuse_62 : decode cX6_excuse 62 = .ok (.invokevirtual 189, 3) := by decide +kernel
theorem dX6_excuse_65 : decode cX6_excuse 65 = .ok (.istore 5, 2) := by decide +kernel
theorem dX6_excuse_67 : decode cX6_excuse 67 = .ok (.iload 5, 2) := by decide +kernel
theorem dX6_excuse_69 : decode cX6_excuse 69 = .ok (.iconst (-1), 1) := by decide +kernel
theorem dX6_excuse_70 : decode cX6_excuse 70 = .ok (.if_icmp .ne 13, 3) := by decide +kernel
theorem dX6_excuse_73 : decode cX6_excuse 73 = .ok (.new 47, 3) := by decide +kernel
theorem dX6_excuse_76 : decode cX6_excuse 76 = .ok (.dup, 1) := by decide +kernel
theorem dX6_excuse_77 : decode cX6_excuse 77 = .ok (.ldc 192, 2) := by decide +kernel
theorem dX6_excuse_79 : decode cX6_excuse 79 = .ok (.invokespecial 51, 3) := by decide +kernel
theorem dX6_excuse_82 : decode cX6_excuse 82 = .ok (.athrow, 1) := by decide +kernel
theorem dX6_excuse_83 : decode cX6_excuse 83 = .ok (.aload_n 0, 1) := by decide +kernel
theorem dX6_excuse_84 : decode cX6_excuse 84 = .ok (.getfield 31, 3) := by decide +kernel
theorem dX6_excuse_87 : decode cX6_excuse 87 = .ok (.iload 5, 2) := by decide +kernel
theorem dX6_excuse_89 : decode cX6_excuse 89 = .ok (.dup2, 1) := by decide +kernel
theorem dX6_excuse_90 : decode cX6_excuse 90 = .ok (.iaload, 1) := by decide +kernel
theorem dX6_excuse_91 : decode cX6_excuse 91 = .ok (.iconst 1, 1) := by decide +kernel
theorem dX6_excuse_92 : decode cX6_excuse 92 = .ok (.isub, 1) := by decide +kernel
theorem dX6_excuse_93 : decode cX6_excuse 93 = .ok (.iastore, 1) := by decide +kernel
theorem dX6_excuse_94 : decode cX6_excuse 94 = .ok (.aload_n 3, 1) := by decide +kernel
theorem dX6_excuse_95 : decode cX6_excuse 95 = .ok (.dup, 1) := by decide +kernel
theorem dX6_excuse_96 : decode cX6_excuse 96 = .ok (.getfield 140, 3) := by decide +kernel
theorem dX6_excuse_99 : decode cX6_excuse 99 = .ok (.iconst 1, 1) := by decide +kernel
theorem dX6_excuse_100 : decode cX6_excuse 100 = .ok (.iload_n 2, 1) := by decide +kernel
theorem dX6_excuse_101 : decode cX6_excuse 101 = .ok (.ishl, 1) := by decide +kernel
theorem dX6_excuse_102 : decode cX6_excuse 102 = .ok (.ior, 1) := by decide +kernel
theorem dX6_excuse_103 : decode cX6_excuse 103 = .ok (.putfield 140, 3) := by decide +kernel
theorem dX6_excuse_106 : decode cX6_excuse 106 = .ok (.iload 5, 2) := by decide +kernel
theorem dX6_excuse_108 : decode cX6_excuse 108 = .ok (.ireturn, 1) := by decide +kernel
theorem dX6_badHours_0 : decode cX6_badHours 0 = .ok (.aload_n 0, 1) := by decide +kernel
theorem dX6_badHours_1 : decode cX6_badHours 1 = .ok (.aload_n 0, 1) := by decide +kernel
theorem dX6_badHours_2 : decode cX6_badHours 2 = .ok (.iload_n 1, 1) := by decide +kernel
theorem dX6_badHours_3 : decode cX6_badHours 3 = .ok (.invokevirtual 123, 3) := by decide +kernel
theorem dX6_badHours_6 : decode cX6_badHours 6 = .ok (.invokevirtual 143, 3) := by decide +kernel
theorem dX6_badHours_9 : decode cX6_badHours 9 = .ok (.ireturn, 1) := by decide +kernel
theorem dX6_badHoursOneByOne_0 : decode cX6_badHoursOneByOne 0 = .ok (.aload_n 0, 1) := by decide +kernel
theorem dX6_badHoursOneByOne_1 : decode cX6_badHoursOneByOne 1 = .ok (.iload_n 1, 1) := by decide +kernel
theorem dX6_badHoursOneByOne_2 : decode cX6_badHoursOneByOne 2 = .ok (.invokevirtual 123, 3) := by decide +kernel
theorem dX6_badHoursOneByOne_5 : decode cX6_badHoursOneByOne 5 = .ok (.astore_n 2, 1) := by decide +kernel
theorem dX6_badHoursOneByOne_6 : decode cX6_badHoursOneByOne 6 = .ok (.aload_n 0, 1) := by decide +kernel
theorem dX6_badHoursOneByOne_7 : decode cX6_badHoursOneByOne 7 = .ok (.aload_n 2, 1) := by decide +kernel
theorem dX6_badHoursOneByOne_8 : decode cX6_badHoursOneByOne 8 = .ok (.invokevirtual 194, 3) := by decide +kernel
theorem dX6_badHoursOneByOne_11 : decode cX6_badHoursOneByOne 11 = .ok (.istore_n 3, 1) := by decide +kernel
theorem dX6_badHoursOneByOne_12 : decode cX6_badHoursOneByOne 12 = .ok (.iconst 0, 1) := by decide +kernel
theorem dX6_badHoursOneByOne_13 : decode cX6_badHoursOneByOne 13 = .ok (.istore 4, 2) := by decide +kernel
theorem dX6_badHoursOneByOne_15 : decode cX6_badHoursOneByOne 15 = .ok (.aload_n 2, 1) := by decide +kernel
theorem dX6_badHoursOneByOne_16 : decode cX6_badHoursOneByOne 16 = .ok (.getfield 134, 3) := by decide +kernel
theorem dX6_badHoursOneByOne_19 : decode cX6_badHoursOneByOne 19 = .ok (.istore 5, 2) := by decide +kernel
theorem dX6_badHoursOneByOne_21 : decode cX6_badHoursOneByOne 21 = .ok (.iload 5, 2) := by decide +kernel
theorem dX6_badHoursOneByOne_23 : decode cX6_badHoursOneByOne 23 = .ok (.aload_n 2, 1) := by decide +kernel
theorem dX6_badHoursOneByOne_24 : decode cX6_badHoursOneByOne 24 = .ok (.invokevirtual 171, 3) := by decide +kernel
theorem dX6_badHoursOneByOne_27 : decode cX6_badHoursOneByOne 27 = .ok (.if_icmp .ge 22, 3) := by decide +kernel
theorem dX6_badHoursOneByOne_30 : decode cX6_badHoursOneByOne 30 = .ok (.aload_n 0, 1) := by decide +kernel
theorem dX6_badHoursOneByOne_31 : decode cX6_badHoursOneByOne 31 = .ok (.iload_n 3, 1) := by decide +kernel
theorem dX6_badHoursOneByOne_32 : decode cX6_badHoursOneByOne 32 = .ok (.iload 5, 2) := by decide +kernel
theorem dX6_badHoursOneByOne_34 : decode cX6_badHoursOneByOne 34 = .ok (.invokevirtual 110, 3) := by decide +kernel
theorem dX6_badHoursOneByOne_37 : decode cX6_badHoursOneByOne 37 = .ok (.ifCond .eq 6, 3) := by decide +kernel
theorem dX6_badHoursOneByOne_40 : decode cX6_badHoursOneByOne 40 = .ok (.iinc 4 1, 3) := by decide +kernel
theorem dX6_badHoursOneByOne_43 : decode cX6_badHoursOneByOne 43 = .ok (.iinc 5 1, 3) := by decide +kernel
theorem dX6_badHoursOneByOne_46 : decode cX6_badHoursOneByOne 46 = .ok (.goto (-25), 3) := by decide +kernel
theorem dX6_badHoursOneByOne_49 : decode cX6_badHoursOneByOne 49 = .ok (.iload 4, 2) := by decide +kernel
theorem dX6_badHoursOneByOne_51 : decode cX6_badHoursOneByOne 51 = .ok (.ireturn, 1) := by decide +kernel
theorem dX6_firstBad_0 : decode cX6_firstBad 0 = .ok (.aload_n 0, 1) := by decide +kernel
theorem dX6_firstBad_1 : decode cX6_firstBad 1 = .ok (.aload_n 0, 1) := by decide +kernel
theorem dX6_firstBad_2 : decode cX6_firstBad 2 = .ok (.iload_n 1, 1) := by decide +kernel
theorem dX6_firstBad_3 : decode cX6_firstBad 3 = .ok (.invokevirtual 123, 3) := by decide +kernel
theorem dX6_firstBad_6 : decode cX6_firstBad 6 = .ok (.invokevirtual 156, 3) := by decide +kernel
theorem dX6_firstBad_9 : decode cX6_firstBad 9 = .ok (.ireturn, 1) := by decide +kernel
theorem dX6_reasons_0 : decode cX6_reasons 0 = .ok (.aload_n 0, 1) := by decide +kernel
theorem dX6_reasons_1 : decode cX6_reasons 1 = .ok (.iload_n 1, 1) := by decide +kernel
theorem dX6_reasons_2 : decode cX6_reasons 2 = .ok (.invokevirtual 123, 3) := by decide +kernel
theorem dX6_reasons_5 : decode cX6_reasons 5 = .ok (.astore_n 2, 1) := by decide +kernel
theorem dX6_reasons_6 : decode cX6_reasons 6 = .ok (.aload_n 0, 1) := by decide +kernel
theorem dX6_reasons_7 : decode cX6_reasons 7 = .ok (.aload_n 2, 1) := by decide +kernel
theorem dX6_reasons_8 : decode cX6_reasons 8 = .ok (.invokevirtual 194, 3) := by decide +kernel
theorem dX6_reasons_11 : decode cX6_reasons 11 = .ok (.istore_n 3, 1) := by decide +kernel
theorem dX6_reasons_12 : decode cX6_reasons 12 = .ok (.iconst 0, 1) := by decide +kernel
theorem dX6_reasons_13 : decode cX6_reasons 13 = .ok (.istore 4, 2) := by decide +kernel
theorem dX6_reasons_15 : decode cX6_reasons 15 = .ok (.aload_n 2, 1) := by decide +kernel
theorem dX6_reasons_16 : decode cX6_reasons 16 = .ok (.getfield 134, 3) := by decide +kernel
theorem dX6_reasons_19 : decode cX6_reasons 19 = .ok (.istore 5, 2) := by decide +kernel
theorem dX6_reasons_21 : decode cX6_reasons 21 = .ok (.iload 5, 2) := by decide +kernel
theorem dX6_reasons_23 : decode cX6_reasons 23 = .ok (.aload_n 2, 1) := by decide +kernel
theorem dX6_reasons_24 : decode cX6_reasons 24 = .ok (.invokevirtual 171, 3) := by decide +kernel
theorem dX6_reasons_27 : decode cX6_reasons 27 = .ok (.if_icmp .ge 21, 3) := by decide +kernel
theorem dX6_reasons_30 : decode cX6_reasons 30 = .ok (.iload 4, 2) := by decide +kernel
theorem dX6_reasons_32 : decode cX6_reasons 32 = .ok (.aload_n 0, 1) := by decide +kernel
theorem dX6_reasons_33 : decode cX6_reasons 33 = .ok (.iload_n 3, 1) := by decide +kernel
theorem dX6_reasons_34 : decode cX6_reasons 34 = .ok (.iload 5, 2) := by decide +kernel
theorem dX6_reasons_36 : decode cX6_reasons 36 = .ok (.invokevirtual 110, 3) := by decide +kernel
theorem dX6_reasons_39 : decode cX6_reasons 39 = .ok (.ior, 1) := by decide +kernel
theorem dX6_reasons_40 : decode cX6_reasons 40 = .ok (.istore 4, 2) := by decide +kernel
theorem dX6_reasons_42 : decode cX6_reasons 42 = .ok (.iinc 5 1, 3) := by decide +kernel
theorem dX6_reasons_45 : decode cX6_reasons 45 = .ok (.goto (-24), 3) := by decide +kernel
theorem dX6_reasons_48 : decode cX6_reasons 48 = .ok (.iload 4, 2) := by decide +kernel
theorem dX6_reasons_50 : decode cX6_reasons 50 = .ok (.ireturn, 1) := by decide +kernel
theorem dX6_needScope_0 : decode cX6_needScope 0 = .ok (.iload_n 1, 1) := by decide +kernel
theorem dX6_needScope_1 : decode cX6_needScope 1 = .ok (.ifCond .lt 17, 3) := by decide +kernel
theorem dX6_needScope_4 : decode cX6_needScope 4 = .ok (.iload_n 1, 1) := by decide +kernel
theorem dX6_needScope_5 : decode cX6_needScope 5 = .ok (.aload_n 0, 1) := by decide +kernel
theorem dX6_needScope_6 : decode cX6_needScope 6 = .ok (.getfield 38, 3) := by decide +kernel
theorem dX6_needScope_9 : decode cX6_needScope 9 = .ok (.if_icmp .ge 9, 3) := by decide +kernel
theorem dX6_needScope_12 : decode cX6_needScope 12 = .ok (.iload_n 1, 1) := by decide +kernel
theorem dX6_needScope_13 : decode cX6_needScope 13 = .ok (.bipush 16, 2) := by decide +kernel
theorem dX6_needScope_15 : decode cX6_needScope 15 = .ok (.if_icmp .lt 13, 3) := by decide +kernel
theorem dX6_needScope_18 : decode cX6_needScope 18 = .ok (.new 197, 3) := by decide +kernel
theorem dX6_needScope_21 : decode cX6_needScope 21 = .ok (.dup, 1) := by decide +kernel
theorem dX6_needScope_22 : decode cX6_needScope 22 = .ok (.ldc 199, 2) := by decide +kernel
theorem dX6_needScope_24 : decode cX6_needScope 24 = .ok (.invokespecial 201, 3) := by decide +kernel
theorem dX6_needScope_27 : decode cX6_needScope 27 = .ok (.athrow, 1) := by decide +kernel
theorem dX6_needScope_28 : decode cX6_needScope 28 = .ok (.return_, 1) := by decide +kernel
theorem dX6_needLand_0 : decode cX6_needLand 0 = .ok (.iload_n 1, 1) := by decide +kernel
theorem dX6_needLand_1 : decode cX6_needLand 1 = .ok (.ifCond .lt 17, 3) := by decide +kernel
theorem dX6_needLand_4 : decode cX6_needLand 4 = .ok (.iload_n 1, 1) := by decide +kernel
theorem dX6_needLand_5 : decode cX6_needLand 5 = .ok (.iconst 4, 1) := by decide +kernel
theorem dX6_needLand_6 : decode cX6_needLand 6 = .ok (.if_icmp .ge 12, 3) := by decide +kernel
theorem dX6_needLand_9 : decode cX6_needLand 9 = .ok (.aload_n 0, 1) := by decide +kernel
theorem dX6_needLand_10 : decode cX6_needLand 10 = .ok (.getfield 15, 3) := by decide +kernel
theorem dX6_needLand_13 : decode cX6_needLand 13 = .ok (.iload_n 1, 1) := by decide +kernel
theorem dX6_needLand_14 : decode cX6_needLand 14 = .ok (.aaload, 1) := by decide +kernel
theorem dX6_needLand_15 : decode cX6_needLand 15 = .ok (.goto 4, 3) := by decide +kernel
theorem dX6_needLand_18 : decode cX6_needLand 18 = .ok (.aconst_null, 1) := by decide +kernel
theorem dX6_needLand_19 : decode cX6_needLand 19 = .ok (.astore_n 2, 1) := by decide +kernel
theorem dX6_needLand_20 : decode cX6_needLand 20 = .ok (.aload_n 2, 1) := by decide +kernel
theorem dX6_needLand_21 : decode cX6_needLand 21 = .ok (.ifnonnull 13, 3) := by decide +kernel
theorem dX6_needLand_24 : decode cX6_needLand 24 = .ok (.new 197, 3) := by decide +kernel
theorem dX6_needLand_27 : decode cX6_needLand 27 = .ok (.dup, 1) := by decide +kernel
theorem dX6_needLand_28 : decode cX6_needLand 28 = .ok (.ldc 202, 2) := by decide +kernel
theorem dX6_needLand_30 : decode cX6_needLand 30 = .ok (.invokespecial 201, 3) := by decide +kernel
theorem dX6_needLand_33 : decode cX6_needLand 33 = .ok (.athrow, 1) := by decide +kernel
theorem dX6_needLand_34 : decode cX6_needLand 34 = .ok (.aload_n 2, 1) := by decide +kernel
theorem dX6_needLand_35 : decode cX6_needLand 35 = .ok (.areturn, 1) := by decide +kernel
theorem dX6_needFreeze_0 : decode cX6_needFreeze 0 = .ok (.iload_n 1, 1) := by decide +kernel
theorem dX6_needFreeze_1 : decode cX6_needFreeze 1 = .ok (.ifCond .lt 18, 3) := by decide +kernel
theorem dX6_needFreeze_4 : decode cX6_needFreeze 4 = .ok (.iload_n 1, 1) := by decide +kernel
theorem dX6_needFreeze_5 : decode cX6_needFreeze 5 = .ok (.bipush 20, 2) := by decide +kernel
theorem dX6_needFreeze_7 : decode cX6_needFreeze 7 = .ok (.if_icmp .ge 12, 3) := by decide +kernel
theorem dX6_needFreeze_10 : decode cX6_needFreeze 10 = .ok (.aload_n 0, 1) := by decide +kernel
theorem dX6_needFreeze_11 : decode cX6_needFreeze 11 = .ok (.getfield 21, 3) := by decide +kernel
theorem dX6_needFreeze_14 : decode cX6_needFreeze 14 = .ok (.iload_n 1, 1) := by decide +kernel
theorem dX6_needFreeze_15 : decode cX6_needFreeze 15 = .ok (.aaload, 1) := by decide +kernel
theorem dX6_needFreeze_16 : decode cX6_needFreeze 16 = .ok (.goto 4, 3) := by decide +kernel
theorem dX6_needFreeze_19 : decode cX6_needFreeze 19 = .ok (.aconst_null, 1) := by decide +kernel
theorem dX6_needFreeze_20 : decode cX6_needFreeze 20 = .ok (.astore_n 2, 1) := by decide +kernel
theorem dX6_needFreeze_21 : decode cX6_needFreeze 21 = .ok (.aload_n 2, 1) := by decide +kernel
theorem dX6_needFreeze_22 : decode cX6_needFreeze 22 = .ok (.ifnonnull 13, 3) := by decide +kernel
theorem dX6_needFreeze_25 : decode cX6_needFreeze 25 = .ok (.new 204, 3) := by decide +kernel
theorem dX6_needFreeze_28 : decode cX6_needFreeze 28 = .ok (.dup, 1) := by decide +kernel
theorem dX6_needFreeze_29 : decode cX6_needFreeze 29 = .ok (.ldc 206, 2) := by decide +kernel
theorem dX6_needFreeze_31 : decode cX6_needFreeze 31 = .ok (.invokespecial 208, 3) := by decide +kernel
theorem dX6_needFreeze_34 : decode cX6_needFreeze 34 = .ok (.athrow, 1) := by decide +kernel
theorem dX6_needFreeze_35 : decode cX6_needFreeze 35 = .ok (.aload_n 2, 1) := by decide +kernel
theorem dX6_needFreeze_36 : decode cX6_needFreeze 36 = .ok (.areturn, 1) := by decide +kernel
theorem dX6_needChange_0 : decode cX6_needChange 0 = .ok (.iload_n 1, 1) := by decide +kernel
theorem dX6_needChange_1 : decode cX6_needChange 1 = .ok (.ifCond .lt 18, 3) := by decide +kernel
theorem dX6_needChange_4 : decode cX6_needChange 4 = .ok (.iload_n 1, 1) := by decide +kernel
theorem dX6_needChange_5 : decode cX6_needChange 5 = .ok (.bipush 30, 2) := by decide +kernel
theorem dX6_needChange_7 : decode cX6_needChange 7 = .ok (.if_icmp .ge 12, 3) := by decide +kernel
theorem dX6_needChange_10 : decode cX6_needChange 10 = .ok (.aload_n 0, 1) := by decide +kernel
theorem dX6_needChange_11 : decode cX6_needChange 11 = .ok (.getfield 27, 3) := by decide +kernel
theorem dX6_needChange_14 : decode cX6_needChange 14 = .ok (.iload_n 1, 1) := by decide +kernel
theorem dX6_needChange_15 : decode cX6_needChange 15 = .ok (.aaload, 1) := by decide +kernel
theorem dX6_needChange_16 : decode cX6_needChange 16 = .ok (.goto 4, 3) := by decide +kernel
theorem dX6_needChange_19 : decode cX6_needChange 19 = .ok (.aconst_null, 1) := by decide +kernel
theorem dX6_needChange_20 : decode cX6_needChange 20 = .ok (.astore_n 2, 1) := by decide +kernel
theorem dX6_needChange_21 : decode cX6_needChange 21 = .ok (.aload_n 2, 1) := by decide +kernel
theorem dX6_needChange_22 : decode cX6_needChange 22 = .ok (.ifnonnull 13, 3) := by decide +kernel
theorem dX6_needChange_25 : decode cX6_needChange 25 = .ok (.new 197, 3) := by decide +kernel
theorem dX6_needChange_28 : decode cX6_needChange 28 = .ok (.dup, 1) := by decide +kernel
theorem dX6_needChange_29 : decode cX6_needChange 29 = .ok (.ldc 209, 2) := by decide +kernel
theorem dX6_needChange_31 : decode cX6_needChange 31 = .ok (.invokespecial 201, 3) := by decide +kernel
theorem dX6_needChange_34 : decode cX6_needChange 34 = .ok (.athrow, 1) := by decide +kernel
theorem dX6_needChange_35 : decode cX6_needChange 35 = .ok (.aload_n 2, 1) := by decide +kernel
theorem dX6_needChange_36 : decode cX6_needChange 36 = .ok (.areturn, 1) := by decide +kernel
theorem dX6_needRange_0 : decode cX6_needRange 0 = .ok (.iload_n 0, 1) := by decide +kernel
theorem dX6_needRange_1 : decode cX6_needRange 1 = .ok (.iload_n 1, 1) := by decide +kernel
theorem dX6_needRange_2 : decode cX6_needRange 2 = .ok (.if_icmp .lt 8, 3) := by decide +kernel
theorem dX6_needRange_5 : decode cX6_needRange 5 = .ok (.iload_n 0, 1) := by decide +kernel
theorem dX6_needRange_6 : decode cX6_needRange 6 = .ok (.iload_n 2, 1) := by decide +kernel
theorem dX6_needRange_7 : decode cX6_needRange 7 = .ok (.if_icmp .le 13, 3) := by decide +kernel
theorem dX6_needRange_10 : decode cX6_needRange 10 = .ok (.new 211, 3) := by decide +kernel
theorem dX6_needRange_13 : decode cX6_needRange 13 = .ok (.dup, 1) := by decide +kernel
theorem dX6_needRange_14 : decode cX6_needRange 14 = .ok (.ldc 213, 2) := by decide +kernel
theorem dX6_needRange_16 : decode cX6_needRange 16 = .ok (.invokespecial 215, 3) := by decide +kernel
theorem dX6_needRange_19 : decode cX6_needRange 19 = .ok (.athrow, 1) := by decide +kernel
theorem dX6_needRange_20 : decode cX6_needRange 20 = .ok (.return_, 1) := by decide +kernel
theorem dX6_needPlanned_0 : decode cX6_needPlanned 0 = .ok (.aload_n 0, 1) := by decide +kernel
theorem dX6_needPlanned_1 : decode cX6_needPlanned 1 = .ok (.getfield 161, 3) := by decide +kernel
theorem dX6_needPlanned_4 : decode cX6_needPlanned 4 = .ok (.ifCond .eq 13, 3) := by decide +kernel
theorem dX6_needPlanned_7 : decode cX6_needPlanned 7 = .ok (.new 47, 3) := by decide +kernel
theorem dX6_needPlanned_10 : decode cX6_needPlanned 10 = .ok (.dup, 1) := by decide +kernel
theorem dX6_needPlanned_11 : decode cX6_needPlanned 11 = .ok (.ldc 216, 2) := by decide +kernel
theorem dX6_needPlanned_13 : decode cX6_needPlanned 13 = .ok (.invokespecial 51, 3) := by decide +kernel
theorem dX6_needPlanned_16 : decode cX6_needPlanned 16 = .ok (.athrow, 1) := by decide +kernel
theorem dX6_needPlanned_17 : decode cX6_needPlanned 17 = .ok (.return_, 1) := by decide +kernel
theorem dX6_needRoomForFreeze_0 : decode cX6_needRoomForFreeze 0 = .ok (.aload_n 0, 1) := by decide +kernel
theorem dX6_needRoomForFreeze_1 : decode cX6_needRoomForFreeze 1 = .ok (.getfield 165, 3) := by decide +kernel
theorem dX6_needRoomForFreeze_4 : decode cX6_needRoomForFreeze 4 = .ok (.bipush 20, 2) := by decide +kernel
theorem dX6_needRoomForFreeze_6 : decode cX6_needRoomForFreeze 6 = .ok (.if_icmp .lt 13, 3) := by decide +kernel
theorem dX6_needRoomForFreeze_9 : decode cX6_needRoomForFreeze 9 = .ok (.new 47, 3) := by decide +kernel
theorem dX6_needRoomForFreeze_12 : decode cX6_needRoomForFreeze 12 = .ok (.dup, 1) := by decide +kernel
theorem dX6_needRoomForFreeze_13 : decode cX6_needRoomForFreeze 13 = .ok (.ldc 218, 2) := by decide +kernel
theorem dX6_needRoomForFreeze_15 : decode cX6_needRoomForFreeze 15 = .ok (.invokespecial 51, 3) := by decide +kernel
theorem dX6_needRoomForFreeze_18 : decode cX6_needRoomForFreeze 18 = .ok (.athrow, 1) := by decide +kernel
theorem dX6_needRoomForFreeze_19 : decode cX6_needRoomForFreeze 19 = .ok (.return_, 1) := by decide +kernel
theorem dX6_isInSet_0 : decode cX6_isInSet 0 = .ok (.iload_n 0, 1) := by decide +kernel
theorem dX6_isInSet_1 : decode cX6_isInSet 1 = .ok (.iload_n 1, 1) := by decide +kernel
theorem dX6_isInSet_2 : decode cX6_isInSet 2 = .ok (.ishr, 1) := by decide +kernel
theorem dX6_isInSet_3 : decode cX6_isInSet 3 = .ok (.iconst 1, 1) := by decide +kernel
theorem dX6_isInSet_4 : decode cX6_isInSet 4 = .ok (.iand, 1) := by decide +kernel
theorem dX6_isInSet_5 : decode cX6_isInSet 5 = .ok (.ifCond .eq 7, 3) := by decide +kernel
theorem dX6_isInSet_8 : decode cX6_isInSet 8 = .ok (.iconst 1, 1) := by decide +kernel
theorem dX6_isInSet_9 : decode cX6_isInSet 9 = .ok (.goto 4, 3) := by decide +kernel
theorem dX6_isInSet_12 : decode cX6_isInSet 12 = .ok (.iconst 0, 1) := by decide +kernel
theorem dX6_isInSet_13 : decode cX6_isInSet 13 = .ok (.ireturn, 1) := by decide +kernel
theorem dX6_lay_0 : decode cX6_lay 0 = .ok (.aload_n 0, 1) := by decide +kernel
theorem dX6_lay_1 : decode cX6_lay 1 = .ok (.getfield 165, 3) := by decide +kernel
theorem dX6_lay_4 : decode cX6_lay 4 = .ok (.istore_n 2, 1) := by decide +kernel
theorem dX6_lay_5 : decode cX6_lay 5 = .ok (.aload_n 0, 1) := by decide +kernel
theorem dX6_lay_6 : decode cX6_lay 6 = .ok (.getfield 21, 3) := by decide +kernel
theorem dX6_lay_9 : decode cX6_lay 9 = .ok (.iload_n 2, 1) := by decide +kernel
theorem dX6_lay_10 : decode cX6_lay 10 = .ok (.aload_n 1, 1) := by decide +kernel
theorem dX6_lay_11 : decode cX6_lay 11 = .ok (.aastore, 1) := by decide +kernel
theorem dX6_lay_12 : decode cX6_lay 12 = .ok (.aload_n 0, 1) := by decide +kernel
theorem dX6_lay_13 : decode cX6_lay 13 = .ok (.iload_n 2, 1) := by decide +kernel
theorem dX6_lay_14 : decode cX6_lay 14 = .ok (.iconst 1, 1) := by decide +kernel
theorem dX6_lay_15 : decode cX6_lay 15 = .ok (.iadd, 1) := by decide +kernel
theorem dX6_lay_16 : decode cX6_lay 16 = .ok (.putfield 165, 3) := by decide +kernel
theorem dX6_lay_19 : decode cX6_lay 19 = .ok (.aload_n 0, 1) := by decide +kernel
theorem dX6_lay_20 : decode cX6_lay 20 = .ok (.dup, 1) := by decide +kernel
theorem dX6_lay_21 : decode cX6_lay 21 = .ok (.getfield 103, 3) := by decide +kernel
theorem dX6_lay_24 : decode cX6_lay 24 = .ok (.iconst 1, 1) := by decide +kernel
theorem dX6_lay_25 : decode cX6_lay 25 = .ok (.iadd, 1) := by decide +kernel
theorem dX6_lay_26 : decode cX6_lay 26 = .ok (.putfield 103, 3) := by decide +kernel
theorem dX6_lay_29 : decode cX6_lay 29 = .ok (.iload_n 2, 1) := by decide +kernel
theorem dX6_lay_30 : decode cX6_lay 30 = .ok (.ireturn, 1) := by decide +kernel
theorem dX6_isOneInTheOther_0 : decode cX6_isOneInTheOther 0 = .ok (.aload_n 0, 1) := by decide +kernel
theorem dX6_isOneInTheOther_1 : decode cX6_isOneInTheOther 1 = .ok (.getfield 9, 3) := by decide +kernel
theorem dX6_isOneInTheOther_4 : decode cX6_isOneInTheOther 4 = .ok (.iload_n 1, 1) := by decide +kernel
theorem dX6_isOneInTheOther_5 : decode cX6_isOneInTheOther 5 = .ok (.iaload, 1) := by decide +kernel
theorem dX6_isOneInTheOther_6 : decode cX6_isOneInTheOther 6 = .ok (.iload_n 2, 1) := by decide +kernel
theorem dX6_isOneInTheOther_7 : decode cX6_isOneInTheOther 7 = .ok (.invokestatic 178, 3) := by decide +kernel
theorem dX6_isOneInTheOther_10 : decode cX6_isOneInTheOther 10 = .ok (.ifCond .ne 16, 3) := by decide +kernel
theorem dX6_isOneInTheOther_13 : decode cX6_isOneInTheOther 13 = .ok (.aload_n 0, 1) := by decide +kernel
theorem dX6_isOneInTheOther_14 : decode cX6_isOneInTheOther 14 = .ok (.getfield 9, 3) := by decide +kernel
theorem dX6_isOneInTheOther_17 : decode cX6_isOneInTheOther 17 = .ok (.iload_n 2, 1) := by decide +kernel
theorem dX6_isOneInTheOther_18 : decode cX6_isOneInTheOther 18 = .ok (.iaload, 1) := by decide +kernel
theorem dX6_isOneInTheOther_19 : decode cX6_isOneInTheOther 19 = .ok (.iload_n 1, 1) := by decide +kernel
theorem dX6_isOneInTheOther_20 : decode cX6_isOneInTheOther 20 = .ok (.invokestatic 178, 3) := by decide +kernel
theorem dX6_isOneInTheOther_23 : decode cX6_isOneInTheOther 23 = .ok (.ifCond .eq 7, 3) := by decide +kernel
theorem dX6_isOneInTheOther_26 : decode cX6_isOneInTheOther 26 = .ok (.iconst 1, 1) := by decide +kernel
theorem dX6_isOneInTheOther_27 : decode cX6_isOneInTheOther 27 = .ok (.goto 4, 3) := by decide +kernel
theorem dX6_isOneInTheOther_30 : decode cX6_isOneInTheOther 30 = .ok (.iconst 0, 1) := by decide +kernel
theorem dX6_isOneInTheOther_31 : decode cX6_isOneInTheOther 31 = .ok (.ireturn, 1) := by decide +kernel
theorem dX6_freezesTouchingScope_0 : decode cX6_freezesTouchingScope 0 = .ok (.iconst 0, 1) := by decide +kernel
theorem dX6_freezesTouchingScope_1 : decode cX6_freezesTouchingScope 1 = .ok (.istore_n 2, 1) := by decide +kernel
theorem dX6_freezesTouchingScope_2 : decode cX6_freezesTouchingScope 2 = .ok (.iconst 0, 1) := by decide +kernel
theorem dX6_freezesTouchingScope_3 : decode cX6_freezesTouchingScope 3 = .ok (.istore_n 3, 1) := by decide +kernel
theorem dX6_freezesTouchingScope_4 : decode cX6_freezesTouchingScope 4 = .ok (.iload_n 3, 1) := by decide +kernel
theorem dX6_freezesTouchingScope_5 : decode cX6_freezesTouchingScope 5 = .ok (.bipush 20, 2) := by decide +kernel
theorem dX6_freezesTouchingScope_7 : decode cX6_freezesTouchingScope 7 = .ok (.if_icmp .ge 41, 3) := by decide +kernel
theorem dX6_freezesTouchingScope_10 : decode cX6_freezesTouchingScope 10 = .ok (.aload_n 0, 1) := by decide +kernel
theorem dX6_freezesTouchingScope_11 : decode cX6_freezesTouchingScope 11 = .ok (.getfield 21, 3) := by decide +kernel
theorem dX6_freezesTouchingScope_14 : decode cX6_freezesTouchingScope 14 = .ok (.iload_n 3, 1) := by decide +kernel
theorem dX6_freezesTouchingScope_15 : decode cX6_freezesTouchingScope 15 = .ok (.aaload, 1) := by decide +kernel
theorem dX6_freezesTouchingScope_16 : decode cX6_freezesTouchingScope 16 = .ok (.astore 4, 2) := by decide +kernel
theorem dX6_freezesTouchingScope_18 : decode cX6_freezesTouchingScope 18 = .ok (.aload 4, 2) := by decide +kernel
theorem dX6_freezesTouchingScope_20 : decode cX6_freezesTouchingScope 20 = .ok (.ifnull 22, 3) := by decide +kernel
theorem dX6_freezesTouchingScope_23 : decode cX6_freezesTouchingScope 23 = .ok (.aload_n 0, 1) := by decide +kernel
theorem dX6_freezesTouchingScope_24 : decode cX6_freezesTouchingScope 24 = .ok (.aload 4, 2) := by decide +kernel
theorem dX6_freezesTouchingScope_26 : decode cX6_freezesTouchingScope 26 = .ok (.getfield 220, 3) := by decide +kernel
theorem dX6_freezesTouchingScope_29 : decode cX6_freezesTouchingScope 29 = .ok (.iload_n 1, 1) := by decide +kernel
theorem dX6_freezesTouchingScope_30 : decode cX6_freezesTouchingScope 30 = .ok (.invokevirtual 223, 3) := by decide +kernel
theorem dX6_freezesTouchingScope_33 : decode cX6_freezesTouchingScope 33 = .ok (.ifCond .eq 9, 3) := by decide +kernel
theorem dX6_freezesTouchingScope_36 : decode cX6_freezesTouchingScope 36 = .ok (.iload_n 2, 1) := by decide +kernel
theorem dX6_freezesTouchingScope_37 : decode cX6_freezesTouchingScope 37 = .ok (.iconst 1, 1) := by decide +kernel
theorem dX6_freezesTouchingScope_38 : decode cX6_freezesTouchingScope 38 = .ok (.iload_n 3, 1) := by decide +kernel
theorem dX6_freezesTouchingScope_39 : decode cX6_freezesTouchingScope 39 = .ok (.ishl, 1) := by decide +kernel
theorem dX6_freezesTouchingScope_40 : decode cX6_freezesTouchingScope 40 = .ok (.ior, 1) := by decide +kernel
theorem dX6_freezesTouchingScope_41 : decode cX6_freezesTouchingScope 41 = .ok (.istore_n 2, 1) := by decide +kernel
theorem dX6_freezesTouchingScope_42 : decode cX6_freezesTouchingScope 42 = .ok (.iinc 3 1, 3) := by decide +kernel
theorem dX6_freezesTouchingScope_45 : decode cX6_freezesTouchingScope 45 = .ok (.goto (-41), 3) := by decide +kernel
theorem dX6_freezesTouchingScope_48 : decode cX6_freezesTouchingScope 48 = .ok (.iload_n 2, 1) := by decide +kernel
theorem dX6_freezesTouchingScope_49 : decode cX6_freezesTouchingScope 49 = .ok (.ireturn, 1) := by decide +kernel
theorem dX6_freezesTouchingChange_0 : decode cX6_freezesTouchingChange 0 = .ok (.iconst 1, 1) := by decide +kernel
theorem dX6_freezesTouchingChange_1 : decode cX6_freezesTouchingChange 1 = .ok (.aload_n 1, 1) := by decide +kernel
theorem dX6_freezesTouchingChange_2 : decode cX6_freezesTouchingChange 2 = .ok (.getfield 168, 3) := by decide +kernel
theorem dX6_freezesTouchingChange_5 : decode cX6_freezesTouchingChange 5 = .ok (.ishl, 1) := by decide +kernel
theorem dX6_freezesTouchingChange_6 : decode cX6_freezesTouchingChange 6 = .ok (.iconst 1, 1) := by decide +kernel
theorem dX6_freezesTouchingChange_7 : decode cX6_freezesTouchingChange 7 = .ok (.isub, 1) := by decide +kernel
theorem dX6_freezesTouchingChange_8 : decode cX6_freezesTouchingChange 8 = .ok (.istore_n 2, 1) := by decide +kernel
theorem dX6_freezesTouchingChange_9 : decode cX6_freezesTouchingChange 9 = .ok (.aload_n 0, 1) := by decide +kernel
theorem dX6_freezesTouchingChange_10 : decode cX6_freezesTouchingChange 10 = .ok (.aload_n 1, 1) := by decide +kernel
theorem dX6_freezesTouchingChange_11 : decode cX6_freezesTouchingChange 11 = .ok (.getfield 226, 3) := by decide +kernel
theorem dX6_freezesTouchingChange_14 : decode cX6_freezesTouchingChange 14 = .ok (.invokevirtual 106, 3) := by decide +kernel
theorem dX6_freezesTouchingChange_17 : decode cX6_freezesTouchingChange 17 = .ok (.iload_n 2, 1) := by decide +kernel
theorem dX6_freezesTouchingChange_18 : decode cX6_freezesTouchingChange 18 = .ok (.iand, 1) := by decide +kernel
theorem dX6_freezesTouchingChange_19 : decode cX6_freezesTouchingChange 19 = .ok (.ireturn, 1) := by decide +kernel
theorem dX6_freezesAgainst_0 : decode cX6_freezesAgainst 0 = .ok (.aload_n 0, 1) := by decide +kernel
theorem dX6_freezesAgainst_1 : decode cX6_freezesAgainst 1 = .ok (.aload_n 1, 1) := by decide +kernel
theorem dX6_freezesAgainst_2 : decode cX6_freezesAgainst 2 = .ok (.invokevirtual 175, 3) := by decide +kernel
theorem dX6_freezesAgainst_5 : decode cX6_freezesAgainst 5 = .ok (.aload_n 1, 1) := by decide +kernel
theorem dX6_freezesAgainst_6 : decode cX6_freezesAgainst 6 = .ok (.getfield 140, 3) := by decide +kernel
theorem dX6_freezesAgainst_9 : decode cX6_freezesAgainst 9 = .ok (.iconst (-1), 1) := by decide +kernel
theorem dX6_freezesAgainst_10 : decode cX6_freezesAgainst 10 = .ok (.ixor, 1) := by decide +kernel
theorem dX6_freezesAgainst_11 : decode cX6_freezesAgainst 11 = .ok (.iand, 1) := by decide +kernel
theorem dX6_freezesAgainst_12 : decode cX6_freezesAgainst 12 = .ok (.ireturn, 1) := by decide +kernel
theorem dX6_holdingAmong_0 : decode cX6_holdingAmong 0 = .ok (.iconst 0, 1) := by decide +kernel
theorem dX6_holdingAmong_1 : decode cX6_holdingAmong 1 = .ok (.istore_n 3, 1) := by decide +kernel
theorem dX6_holdingAmong_2 : decode cX6_holdingAmong 2 = .ok (.iconst 0, 1) := by decide +kernel
theorem dX6_holdingAmong_3 : decode cX6_holdingAmong 3 = .ok (.istore 4, 2) := by decide +kernel
theorem dX6_holdingAmong_5 : decode cX6_holdingAmong 5 = .ok (.iload 4, 2) := by decide +kernel
theorem dX6_holdingAmong_7 : decode cX6_holdingAmong 7 = .ok (.bipush 20, 2) := by decide +kernel
theorem dX6_holdingAmong_9 : decode cX6_holdingAmong 9 = .ok (.if_icmp .ge 48, 3) := by decide +kernel
theorem dX6_holdingAmong_12 : decode cX6_holdingAmong 12 = .ok (.aload_n 0, 1) := by decide +kernel
theorem dX6_holdingAmong_13 : decode cX6_holdingAmong 13 = .ok (.getfield 21, 3) := by decide +kernel
theorem dX6_holdingAmong_16 : decode cX6_holdingAmong 16 = .ok (.iload 4, 2) := by decide +kernel
theorem dX6_holdingAmong_18 : decode cX6_holdingAmong 18 = .ok (.aaload, 1) := by decide +kernel
theorem dX6_holdingAmong_19 : decode cX6_holdingAmong 19 = .ok (.astore 5, 2) := by decide +kernel
theorem dX6_holdingAmong_21 : decode cX6_holdingAmong 21 = .ok (.aload 5, 2) := by decide +kernel
theorem dX6_holdingAmong_23 : decode cX6_holdingAmong 23 = .ok (.ifnull 28, 3) := by decide +kernel
theorem dX6_holdingAmong_26 : decode cX6_holdingAmong 26 = .ok (.iload_n 1, 1) := by decide +kernel
theorem dX6_holdingAmong_27 : decode cX6_holdingAmong 27 = .ok (.iload 4, 2) := by decide +kernel
theorem dX6_holdingAmong_29 : decode cX6_holdingAmong 29 = .ok (.invokestatic 178, 3) := by decide +kernel
theorem dX6_holdingAmong_32 : decode cX6_holdingAmong 32 = .ok (.ifCond .eq 19, 3) := by decide +kernel
theorem dX6_holdingAmong_35 : decode cX6_holdingAmong 35 = .ok (.aload 5, 2) := by decide +kernel
theorem dX6_holdingAmong_37 : decode cX6_holdingAmong 37 = .ok (.iload_n 2, 1) := by decide +kernel
theorem dX6_holdingAmong_38 : decode cX6_holdingAmong 38 = .ok (.invokevirtual 114, 3) := by decide +kernel
theorem dX6_holdingAmong_41 : decode cX6_holdingAmong 41 = .ok (.ifCond .eq 10, 3) := by decide +kernel
theorem dX6_holdingAmong_44 : decode cX6_holdingAmong 44 = .ok (.iload_n 3, 1) := by decide +kernel
theorem dX6_holdingAmong_45 : decode cX6_holdingAmong 45 = .ok (.iconst 1, 1) := by decide +kernel
theorem dX6_holdingAmong_46 : decode cX6_holdingAmong 46 = .ok (.iload 4, 2) := by decide +kernel
theorem dX6_holdingAmong_48 : decode cX6_holdingAmong 48 = .ok (.ishl, 1) := by decide +kernel
theorem dX6_holdingAmong_49 : decode cX6_holdingAmong 49 = .ok (.ior, 1) := by decide +kernel
theorem dX6_holdingAmong_50 : decode cX6_holdingAmong 50 = .ok (.istore_n 3, 1) := by decide +kernel
theorem dX6_holdingAmong_51 : decode cX6_holdingAmong 51 = .ok (.iinc 4 1, 3) := by decide +kernel
theorem dX6_holdingAmong_54 : decode cX6_holdingAmong 54 = .ok (.goto (-49), 3) := by decide +kernel
theorem dX6_holdingAmong_57 : decode cX6_holdingAmong 57 = .ok (.iload_n 3, 1) := by decide +kernel
theorem dX6_holdingAmong_58 : decode cX6_holdingAmong 58 = .ok (.ireturn, 1) := by decide +kernel
theorem dX6_countBadHours_0 : decode cX6_countBadHours 0 = .ok (.iconst 0, 1) := by decide +kernel
theorem dX6_countBadHours_1 : decode cX6_countBadHours 1 = .ok (.istore_n 2, 1) := by decide +kernel
theorem dX6_countBadHours_2 : decode cX6_countBadHours 2 = .ok (.iload_n 2, 1) := by decide +kernel
theorem dX6_countBadHours_3 : decode cX6_countBadHours 3 = .ok (.bipush 100, 2) := by decide +kernel
theorem dX6_countBadHours_5 : decode cX6_countBadHours 5 = .ok (.if_icmp .ge 16, 3) := by decide +kernel
theorem dX6_countBadHours_8 : decode cX6_countBadHours 8 = .ok (.aload_n 0, 1) := by decide +kernel
theorem dX6_countBadHours_9 : decode cX6_countBadHours 9 = .ok (.getfield 34, 3) := by decide +kernel
theorem dX6_countBadHours_12 : decode cX6_countBadHours 12 = .ok (.iload_n 2, 1) := by decide +kernel
theorem dX6_countBadHours_13 : decode cX6_countBadHours 13 = .ok (.iconst 0, 1) := by decide +kernel
theorem dX6_countBadHours_14 : decode cX6_countBadHours 14 = .ok (.bastore, 1) := by decide +kernel
theorem dX6_countBadHours_15 : decode cX6_countBadHours 15 = .ok (.iinc 2 1, 3) := by decide +kernel
theorem dX6_countBadHours_18 : decode cX6_countBadHours 18 = .ok (.goto (-16), 3) := by decide +kernel
theorem dX6_countBadHours_21 : decode cX6_countBadHours 21 = .ok (.aload_n 0, 1) := by decide +kernel
theorem dX6_countBadHours_22 : decode cX6_countBadHours 22 = .ok (.aload_n 1, 1) := by decide +kernel
theorem dX6_countBadHours_23 : decode cX6_countBadHours 23 = .ok (.invokevirtual 194, 3) := by decide +kernel
theorem dX6_countBadHours_26 : decode cX6_countBadHours 26 = .ok (.istore_n 2, 1) := by decide +kernel
theorem dX6_countBadHours_27 : decode cX6_countBadHours 27 = .ok (.iconst 0, 1) := by decide +kernel
theorem dX6_countBadHours_28 : decode cX6_countBadHours 28 = .ok (.istore_n 3, 1) := by decide +kernel
theorem dX6_countBadHours_29 : decode cX6_countBadHours 29 = .ok (.iconst 0, 1) := by decide +kernel
theorem dX6_countBadHours_30 : decode cX6_countBadHours 30 = .ok (.istore 4, 2) := by decide +kernel
theorem dX6_countBadHours_32 : decode cX6_countBadHours 32 = .ok (.iload 4, 2) := by decide +kernel
theorem dX6_countBadHours_34 : decode cX6_countBadHours 34 = .ok (.bipush 20, 2) := by decide +kernel
theorem dX6_countBadHours_36 : decode cX6_countBadHours 36 = .ok (.if_icmp .ge 42, 3) := by decide +kernel
theorem dX6_countBadHours_39 : decode cX6_countBadHours 39 = .ok (.aload_n 0, 1) := by decide +kernel
theorem dX6_countBadHours_40 : decode cX6_countBadHours 40 = .ok (.getfield 21, 3) := by decide +kernel
theorem dX6_countBadHours_43 : decode cX6_countBadHours 43 = .ok (.iload 4, 2) := by decide +kernel
theorem dX6_countBadHours_45 : decode cX6_countBadHours 45 = .ok (.aaload, 1) := by decide +kernel
theorem dX6_countBadHours_46 : decode cX6_countBadHours 46 = .ok (.astore 5, 2) := by decide +kernel
theorem dX6_countBadHours_48 : decode cX6_countBadHours 48 = .ok (.aload 5, 2) := by decide +kernel
theorem dX6_countBadHours_50 : decode cX6_countBadHours 50 = .ok (.ifnull 22, 3) := by decide +kernel
theorem dX6_countBadHours_53 : decode cX6_countBadHours 53 = .ok (.iload_n 2, 1) := by decide +kernel
theorem dX6_countBadHours_54 : decode cX6_countBadHours 54 = .ok (.iload 4, 2) := by decide +kernel
theorem dX6_countBadHours_56 : decode cX6_countBadHours 56 = .ok (.invokestatic 178, 3) := by decide +kernel
theorem dX6_countBadHours_59 : decode cX6_countBadHours 59 = .ok (.ifCond .eq 13, 3) := by decide +kernel
theorem dX6_countBadHours_62 : decode cX6_countBadHours 62 = .ok (.iload_n 3, 1) := by decide +kernel
theorem dX6_countBadHours_63 : decode cX6_countBadHours 63 = .ok (.aload_n 0, 1) := by decide +kernel
theorem dX6_countBadHours_64 : decode cX6_countBadHours 64 = .ok (.aload_n 1, 1) := by decide +kernel
theorem dX6_countBadHours_65 : decode cX6_countBadHours 65 = .ok (.aload 5, 2) := by decide +kernel
theorem dX6_countBadHours_67 : decode cX6_countBadHours 67 = .ok (.invokevirtual 227, 3) := by decide +kernel
theorem dX6_countBadHours_70 : decode cX6_countBadHours 70 = .ok (.iadd, 1) := by decide +kernel
theorem dX6_countBadHours_71 : decode cX6_countBadHours 71 = .ok (.istore_n 3, 1) := by decide +kernel
theorem dX6_countBadHours_72 : decode cX6_countBadHours 72 = .ok (.iinc 4 1, 3) := by decide +kernel
theorem dX6_countBadHours_75 : decode cX6_countBadHours 75 = .ok (.goto (-43), 3) := by decide +kernel
theorem dX6_countBadHours_78 : decode cX6_countBadHours 78 = .ok (.iload_n 3, 1) := by decide +kernel
theorem dX6_countBadHours_79 : decode cX6_countBadHours 79 = .ok (.ireturn, 1) := by decide +kernel
theorem dX6_markBadHours_0 : decode cX6_markBadHours 0 = .ok (.iconst 0, 1) := by decide +kernel
theorem dX6_markBadHours_1 : decode cX6_markBadHours 1 = .ok (.istore_n 3, 1) := by decide +kernel
theorem dX6_markBadHours_2 : decode cX6_markBadHours 2 = .ok (.iconst 0, 1) := by decide +kernel
theorem dX6_markBadHours_3 : decode cX6_markBadHours 3 = .ok (.istore 4, 2) := by decide +kernel
theorem dX6_markBadHours_5 : decode cX6_markBadHours 5 = .ok (.iload 4, 2) := by decide +kernel
theorem dX6_markBadHours_7 : decode cX6_markBadHours 7 = .ok (.aload_n 1, 1) := by decide +kernel
theorem dX6_markBadHours_8 : decode cX6_markBadHours 8 = .ok (.getfield 127, 3) := by decide +kernel
theorem dX6_markBadHours_11 : decode cX6_markBadHours 11 = .ok (.if_icmp .ge 51, 3) := by decide +kernel
theorem dX6_markBadHours_14 : decode cX6_markBadHours 14 = .ok (.iload 4, 2) := by decide +kernel
theorem dX6_markBadHours_16 : decode cX6_markBadHours 16 = .ok (.bipush 100, 2) := by decide +kernel
theorem dX6_markBadHours_18 : decode cX6_markBadHours 18 = .ok (.if_icmp .ge 44, 3) := by decide +kernel
theorem dX6_markBadHours_21 : decode cX6_markBadHours 21 = .ok (.aload_n 0, 1) := by decide +kernel
theorem dX6_markBadHours_22 : decode cX6_markBadHours 22 = .ok (.getfield 34, 3) := by decide +kernel
theorem dX6_markBadHours_25 : decode cX6_markBadHours 25 = .ok (.iload 4, 2) := by decide +kernel
theorem dX6_markBadHours_27 : decode cX6_markBadHours 27 = .ok (.baload, 1) := by decide +kernel
theorem dX6_markBadHours_28 : decode cX6_markBadHours 28 = .ok (.ifCond .ne 28, 3) := by decide +kernel
theorem dX6_markBadHours_31 : decode cX6_markBadHours 31 = .ok (.aload_n 2, 1) := by decide +kernel
theorem dX6_markBadHours_32 : decode cX6_markBadHours 32 = .ok (.aload_n 1, 1) := by decide +kernel
theorem dX6_markBadHours_33 : decode cX6_markBadHours 33 = .ok (.getfield 134, 3) := by decide +kernel
theorem dX6_markBadHours_36 : decode cX6_markBadHours 36 = .ok (.iload 4, 2) := by decide +kernel
theorem dX6_markBadHours_38 : decode cX6_markBadHours 38 = .ok (.iadd, 1) := by decide +kernel
theorem dX6_markBadHours_39 : decode cX6_markBadHours 39 = .ok (.invokevirtual 114, 3) := by decide +kernel
theorem dX6_markBadHours_42 : decode cX6_markBadHours 42 = .ok (.ifCond .eq 14, 3) := by decide +kernel
theorem dX6_markBadHours_45 : decode cX6_markBadHours 45 = .ok (.aload_n 0, 1) := by decide +kernel
theorem dX6_markBadHours_46 : decode cX6_markBadHours 46 = .ok (.getfield 34, 3) := by decide +kernel
theorem dX6_markBadHours_49 : decode cX6_markBadHours 49 = .ok (.iload 4, 2) := by decide +kernel
theorem dX6_markBadHours_51 : decode cX6_markBadHours 51 = .ok (.iconst 1, 1) := by decide +kernel
theorem dX6_markBadHours_52 : decode cX6_markBadHours 52 = .ok (.bastore, 1) := by decide +kernel
theorem dX6_markBadHours_53 : decode cX6_markBadHours 53 = .ok (.iinc 3 1, 3) := by decide +kernel
theorem dX6_markBadHours_56 : decode cX6_markBadHours 56 = .ok (.iinc 4 1, 3) := by decide +kernel
theorem dX6_markBadHours_59 : decode cX6_markBadHours 59 = .ok (.goto (-54), 3) := by decide +kernel
theorem dX6_markBadHours_62 : decode cX6_markBadHours 62 = .ok (.iload_n 3, 1) := by decide +kernel
theorem dX6_markBadHours_63 : decode cX6_markBadHours 63 = .ok (.ireturn, 1) := by decide +kernel
theorem dX6_firstBadHour_0 : decode cX6_firstBadHour 0 = .ok (.aload_n 0, 1) := by decide +kernel
theorem dX6_firstBadHour_1 : decode cX6_firstBadHour 1 = .ok (.aload_n 1, 1) := by decide +kernel
theorem dX6_firstBadHour_2 : decode cX6_firstBadHour 2 = .ok (.invokevirtual 194, 3) := by decide +kernel
theorem dX6_firstBadHour_5 : decode cX6_firstBadHour 5 = .ok (.istore_n 2, 1) := by decide +kernel
theorem dX6_firstBadHour_6 : decode cX6_firstBadHour 6 = .ok (.aload_n 1, 1) := by decide +kernel
theorem dX6_firstBadHour_7 : decode cX6_firstBadHour 7 = .ok (.getfield 134, 3) := by decide +kernel
theorem dX6_firstBadHour_10 : decode cX6_firstBadHour 10 = .ok (.istore_n 3, 1) := by decide +kernel
theorem dX6_firstBadHour_11 : decode cX6_firstBadHour 11 = .ok (.iload_n 3, 1) := by decide +kernel
theorem dX6_firstBadHour_12 : decode cX6_firstBadHour 12 = .ok (.aload_n 1, 1) := by decide +kernel
theorem dX6_firstBadHour_13 : decode cX6_firstBadHour 13 = .ok (.invokevirtual 171, 3) := by decide +kernel
theorem dX6_firstBadHour_16 : decode cX6_firstBadHour 16 = .ok (.if_icmp .ge 20, 3) := by decide +kernel
theorem dX6_firstBadHour_19 : decode cX6_firstBadHour 19 = .ok (.aload_n 0, 1) := by decide +kernel
theorem dX6_firstBadHour_20 : decode cX6_firstBadHour 20 = .ok (.iload_n 2, 1) := by decide +kernel
theorem dX6_firstBadHour_21 : decode cX6_firstBadHour 21 = .ok (.iload_n 3, 1) := by decide +kernel
theorem dX6_firstBadHour_22 : decode cX6_firstBadHour 22 = .ok (.invokevirtual 110, 3) := by decide +kernel
theorem dX6_firstBadHour_25 : decode cX6_firstBadHour 25 = .ok (.ifCond .eq 5, 3) := by decide +kernel
theorem dX6_firstBadHour_28 : decode cX6_firstBadHour 28 = .ok (.iload_n 3, 1) := by decide +kernel
theorem dX6_firstBadHour_29 : decode cX6_firstBadHour 29 = .ok (.ireturn, 1) := by decide +kernel
theorem dX6_firstBadHour_30 : decode cX6_firstBadHour 30 = .ok (.iinc 3 1, 3) := by decide +kernel
theorem dX6_firstBadHour_33 : decode cX6_firstBadHour 33 = .ok (.goto (-22), 3) := by decide +kernel
theorem dX6_firstBadHour_36 : decode cX6_firstBadHour 36 = .ok (.iconst (-1), 1) := by decide +kernel
theorem dX6_firstBadHour_37 : decode cX6_firstBadHour 37 = .ok (.ireturn, 1) := by decide +kernel
theorem dX6_rankToSpend_0 : decode cX6_rankToSpend 0 = .ok (.iload_n 1, 1) := by decide +kernel
theorem dX6_rankToSpend_1 : decode cX6_rankToSpend 1 = .ok (.istore_n 2, 1) := by decide +kernel
theorem dX6_rankToSpend_2 : decode cX6_rankToSpend 2 = .ok (.iload_n 2, 1) := by decide +kernel
theorem dX6_rankToSpend_3 : decode cX6_rankToSpend 3 = .ok (.iconst 3, 1) := by decide +kernel
theorem dX6_rankToSpend_4 : decode cX6_rankToSpend 4 = .ok (.if_icmp .gt 20, 3) := by decide +kernel
theorem dX6_rankToSpend_7 : decode cX6_rankToSpend 7 = .ok (.aload_n 0, 1) := by decide +kernel
theorem dX6_rankToSpend_8 : decode cX6_rankToSpend 8 = .ok (.getfield 31, 3) := by decide +kernel
theorem dX6_rankToSpend_11 : decode cX6_rankToSpend 11 = .ok (.iload_n 2, 1) := by decide +kernel
theorem dX6_rankToSpend_12 : decode cX6_rankToSpend 12 = .ok (.iaload, 1) := by decide +kernel
theorem dX6_rankToSpend_13 : decode cX6_rankToSpend 13 = .ok (.ifCond .le 5, 3) := by decide +kernel
theorem dX6_rankToSpend_16 : decode cX6_rankToSpend 16 = .ok (.iload_n 2, 1) := by decide +kernel
theorem dX6_rankToSpend_17 : decode cX6_rankToSpend 17 = .ok (.ireturn, 1) := by decide +kernel
theorem dX6_rankToSpend_18 : decode cX6_rankToSpend 18 = .ok (.iinc 2 1, 3) := by decide +kernel
theorem dX6_rankToSpend_21 : decode cX6_rankToSpend 21 = .ok (.goto (-19), 3) := by decide +kernel
theorem dX6_rankToSpend_24 : decode cX6_rankToSpend 24 = .ok (.iconst (-1), 1) := by decide +kernel
theorem dX6_rankToSpend_25 : decode cX6_rankToSpend 25 = .ok (.ireturn, 1) := by decide +kernel
theorem dJ9_floorDiv_7cf53_0 : decode cJ9_floorDiv_7cf53 0 = .ok (.iload_n 0, 1) := by decide +kernel
theorem dJ9_floorDiv_7cf53_1 : decode cJ9_floorDiv_7cf53 1 = .ok (.iload_n 1, 1) := by decide +kernel
theorem dJ9_floorDiv_7cf53_2 : decode cJ9_floorDiv_7cf53 2 = .ok (.idiv, 1) := by decide +kernel
theorem dJ9_floorDiv_7cf53_3 : decode cJ9_floorDiv_7cf53 3 = .ok (.istore_n 2, 1) := by decide +kernel
theorem dJ9_floorDiv_7cf53_4 : decode cJ9_floorDiv_7cf53 4 = .ok (.iload_n 0, 1) := by decide +kernel
theorem dJ9_floorDiv_7cf53_5 : decode cJ9_floorDiv_7cf53 5 = .ok (.iload_n 1, 1) := by decide +kernel
theorem dJ9_floorDiv_7cf53_6 : decode cJ9_floorDiv_7cf53 6 = .ok (.ixor, 1) := by decide +kernel
theorem dJ9_floorDiv_7cf53_7 : decode cJ9_floorDiv_7cf53 7 = .ok (.ifCond .ge 14, 3) := by decide +kernel
theorem dJ9_floorDiv_7cf53_10 : decode cJ9_floorDiv_7cf53 10 = .ok (.iload_n 2, 1) := by decide +kernel
theorem dJ9_floorDiv_7cf53_11 : decode cJ9_floorDiv_7cf53 11 = .ok (.iload_n 1, 1) := by decide +kernel
theorem dJ9_floorDiv_7cf53_12 : decode cJ9_floorDiv_7cf53 12 = .ok (.imul, 1) := by decide +kernel
theorem dJ9_floorDiv_7cf53_13 : decode cJ9_floorDiv_7cf53 13 = .ok (.iload_n 0, 1) := by decide +kernel
theorem dJ9_floorDiv_7cf53_14 : decode cJ9_floorDiv_7cf53 14 = .ok (.if_icmp .eq 7, 3) := by decide +kernel
theorem dJ9_floorDiv_7cf53_17 : decode cJ9_floorDiv_7cf53 17 = .ok (.iload_n 2, 1) := by decide +kernel
theorem dJ9_floorDiv_7cf53_18 : decode cJ9_floorDiv_7cf53 18 = .ok (.iconst 1, 1) := by decide +kernel
theorem dJ9_floorDiv_7cf53_19 : decode cJ9_floorDiv_7cf53 19 = .ok (.isub, 1) := by decide +kernel
theorem dJ9_floorDiv_7cf53_20 : decode cJ9_floorDiv_7cf53 20 = .ok (.ireturn, 1) := by decide +kernel
theorem dJ9_floorDiv_7cf53_21 : decode cJ9_floorDiv_7cf53 21 = .ok (.iload_n 2, 1) := by decide +kernel
theorem dJ9_floorDiv_7cf53_22 : decode cJ9_floorDiv_7cf53 22 = .ok (.ireturn, 1) := by decide +kernel
theorem dJ9_floorMod_7cf53_0 : decode cJ9_floorMod_7cf53 0 = .ok (.iload_n 0, 1) := by decide +kernel
theorem dJ9_floorMod_7cf53_1 : decode cJ9_floorMod_7cf53 1 = .ok (.iload_n 1, 1) := by decide +kernel
theorem dJ9_floorMod_7cf53_2 : decode cJ9_floorMod_7cf53 2 = .ok (.irem, 1) := by decide +kernel
theorem dJ9_floorMod_7cf53_3 : decode cJ9_floorMod_7cf53 3 = .ok (.istore_n 2, 1) := by decide +kernel
theorem dJ9_floorMod_7cf53_4 : decode cJ9_floorMod_7cf53 4 = .ok (.iload_n 0, 1) := by decide +kernel
theorem dJ9_floorMod_7cf53_5 : decode cJ9_floorMod_7cf53 5 = .ok (.iload_n 1, 1) := by decide +kernel
theorem dJ9_floorMod_7cf53_6 : decode cJ9_floorMod_7cf53 6 = .ok (.ixor, 1) := by decide +kernel
theorem dJ9_floorMod_7cf53_7 : decode cJ9_floorMod_7cf53 7 = .ok (.ifCond .ge 11, 3) := by decide +kernel
theorem dJ9_floorMod_7cf53_10 : decode cJ9_floorMod_7cf53 10 = .ok (.iload_n 2, 1) := by decide +kernel
theorem dJ9_floorMod_7cf53_11 : decode cJ9_floorMod_7cf53 11 = .ok (.ifCond .eq 7, 3) := by decide +kernel
theorem dJ9_floorMod_7cf53_14 : decode cJ9_floorMod_7cf53 14 = .ok (.iload_n 2, 1) := by decide +kernel
theorem dJ9_floorMod_7cf53_15 : decode cJ9_floorMod_7cf53 15 = .ok (.iload_n 1, 1) := by decide +kernel
theorem dJ9_floorMod_7cf53_16 : decode cJ9_floorMod_7cf53 16 = .ok (.iadd, 1) := by decide +kernel
theorem dJ9_floorMod_7cf53_17 : decode cJ9_floorMod_7cf53 17 = .ok (.ireturn, 1) := by decide +kernel
theorem dJ9_floorMod_7cf53_18 : decode cJ9_floorMod_7cf53 18 = .ok (.iload_n 2, 1) := by decide +kernel
theorem dJ9_floorMod_7cf53_19 : decode cJ9_floorMod_7cf53 19 = .ok (.ireturn, 1) := by decide +kernel
theorem dL_cell_0 : decode cL_cell 0 = .ok (.iload_n 1, 1) := by decide +kernel
theorem dL_cell_1 : decode cL_cell 1 = .ok (.aload_n 0, 1) := by decide +kernel
theorem dL_cell_2 : decode cL_cell 2 = .ok (.arraylength, 1) := by decide +kernel
theorem dL_cell_3 : decode cL_cell 3 = .ok (.if_icmp .ge 9, 3) := by decide +kernel
theorem dL_cell_6 : decode cL_cell 6 = .ok (.aload_n 0, 1) := by decide +kernel
theorem dL_cell_7 : decode cL_cell 7 = .ok (.iload_n 1, 1) := by decide +kernel
theorem dL_cell_8 : decode cL_cell 8 = .ok (.iaload, 1) := by decide +kernel
theorem dL_cell_9 : decode cL_cell 9 = .ok (.goto 12, 3) := by decide +kernel
theorem dL_cell_12 : decode cL_cell 12 = .ok (.ldc 7, 2) := by decide +kernel
theorem dL_cell_14 : decode cL_cell 14 = .ok (.iload_n 1, 1) := by decide +kernel
theorem dL_cell_15 : decode cL_cell 15 = .ok (.iconst 1, 1) := by decide +kernel
theorem dL_cell_16 : decode cL_cell 16 = .ok (.iadd, 1) := by decide +kernel
theorem dL_cell_17 : decode cL_cell 17 = .ok (.imul, 1) := by decide +kernel
theorem dL_cell_18 : decode cL_cell 18 = .ok (.ldc 8, 2) := by decide +kernel
theorem dL_cell_20 : decode cL_cell 20 = .ok (.iadd, 1) := by decide +kernel
theorem dL_cell_21 : decode cL_cell 21 = .ok (.ireturn, 1) := by decide +kernel
theorem dL_low_0 : decode cL_low 0 = .ok (.iload_n 0, 1) := by decide +kernel
theorem dL_low_1 : decode cL_low 1 = .ok (.ldc 9, 2) := by decide +kernel
theorem dL_low_3 : decode cL_low 3 = .ok (.iand, 1) := by decide +kernel
theorem dL_low_4 : decode cL_low 4 = .ok (.iload_n 1, 1) := by decide +kernel
theorem dL_low_5 : decode cL_low 5 = .ok (.irem, 1) := by decide +kernel
theorem dL_low_6 : decode cL_low 6 = .ok (.ireturn, 1) := by decide +kernel
theorem dL_holds_0 : decode cL_holds 0 = .ok (.bipush 7, 2) := by decide +kernel
theorem dL_holds_2 : decode cL_holds 2 = .ok (.iload_n 1, 1) := by decide +kernel
theorem dL_holds_3 : decode cL_holds 3 = .ok (.imul, 1) := by decide +kernel
theorem dL_holds_4 : decode cL_holds 4 = .ok (.istore 5, 2) := by decide +kernel
theorem dL_holds_6 : decode cL_holds 6 = .ok (.aload_n 0, 1) := by decide +kernel
theorem dL_holds_7 : decode cL_holds 7 = .ok (.iload 5, 2) := by decide +kernel
theorem dL_holds_9 : decode cL_holds 9 = .ok (.iconst 1, 1) := by decide +kernel
theorem dL_holds_10 : decode cL_holds 10 = .ok (.iadd, 1) := by decide +kernel
theorem dL_holds_11 : decode cL_holds 11 = .ok (.iaload, 1) := by decide +kernel
theorem dL_holds_12 : decode cL_holds 12 = .ok (.ifCond .ne 29, 3) := by decide +kernel
theorem dL_holds_15 : decode cL_holds 15 = .ok (.iload_n 2, 1) := by decide +kernel
theorem dL_holds_16 : decode cL_holds 16 = .ok (.aload_n 0, 1) := by decide +kernel
theorem dL_holds_17 : decode cL_holds 17 = .ok (.iload 5, 2) := by decide +kernel
theorem dL_holds_19 : decode cL_holds 19 = .ok (.iconst 4, 1) := by decide +kernel
theorem dL_holds_20 : decode cL_holds 20 = .ok (.iadd, 1) := by decide +kernel
theorem dL_holds_21 : decode cL_holds 21 = .ok (.iaload, 1) := by decide +kernel
theorem dL_holds_22 : decode cL_holds 22 = .ok (.if_icmp .lt 17, 3) := by decide +kernel
theorem dL_holds_25 : decode cL_holds 25 = .ok (.iload_n 2, 1) := by decide +kernel
theorem dL_holds_26 : decode cL_holds 26 = .ok (.aload_n 0, 1) := by decide +kernel
theorem dL_holds_27 : decode cL_holds 27 = .ok (.iload 5, 2) := by decide +kernel
theorem dL_holds_29 : decode cL_holds 29 = .ok (.iconst 5, 1) := by decide +kernel
theorem dL_holds_30 : decode cL_holds 30 = .ok (.iadd, 1) := by decide +kernel
theorem dL_holds_31 : decode cL_holds 31 = .ok (.iaload, 1) := by decide +kernel
theorem dL_holds_32 : decode cL_holds 32 = .ok (.if_icmp .ge 7, 3) := by decide +kernel
theorem dL_holds_35 : decode cL_holds 35 = .ok (.iconst 1, 1) := by decide +kernel
theorem dL_holds_36 : decode cL_holds 36 = .ok (.goto 4, 3) := by decide +kernel
theorem dL_holds_39 : decode cL_holds 39 = .ok (.iconst 0, 1) := by decide +kernel
theorem dL_holds_40 : decode cL_holds 40 = .ok (.ireturn, 1) := by decide +kernel
theorem dL_holds_41 : decode cL_holds 41 = .ok (.iload_n 2, 1) := by decide +kernel
theorem dL_holds_42 : decode cL_holds 42 = .ok (.aload_n 3, 1) := by decide +kernel
theorem dL_holds_43 : decode cL_holds 43 = .ok (.aload_n 0, 1) := by decide +kernel
theorem dL_holds_44 : decode cL_holds 44 = .ok (.iload 5, 2) := by decide +kernel
theorem dL_holds_46 : decode cL_holds 46 = .ok (.iconst 3, 1) := by decide +kernel
theorem dL_holds_47 : decode cL_holds 47 = .ok (.iadd, 1) := by decide +kernel
theorem dL_holds_48 : decode cL_holds 48 = .ok (.iaload, 1) := by decide +kernel
theorem dL_holds_49 : decode cL_holds 49 = .ok (.iaload, 1) := by decide +kernel
theorem dL_holds_50 : decode cL_holds 50 = .ok (.iadd, 1) := by decide +kernel
theorem dL_holds_51 : decode cL_holds 51 = .ok (.bipush 24, 2) := by decide +kernel
theorem dL_holds_53 : decode cL_holds 53 = .ok (.iadd, 1) := by decide +kernel
theorem dL_holds_54 : decode cL_holds 54 = .ok (.istore 6, 2) := by decide +kernel
theorem dL_holds_56 : decode cL_holds 56 = .ok (.aload_n 0, 1) := by decide +kernel
theorem dL_holds_57 : decode cL_holds 57 = .ok (.iload 5, 2) := by decide +kernel
theorem dL_holds_59 : decode cL_holds 59 = .ok (.iconst 1, 1) := by decide +kernel
theorem dL_holds_60 : decode cL_holds 60 = .ok (.iadd, 1) := by decide +kernel
theorem dL_holds_61 : decode cL_holds 61 = .ok (.iaload, 1) := by decide +kernel
theorem dL_holds_62 : decode cL_holds 62 = .ok (.iconst 2, 1) := by decide +kernel
theorem dL_holds_63 : decode cL_holds 63 = .ok (.if_icmp .ne 30, 3) := by decide +kernel
theorem dL_holds_66 : decode cL_holds 66 = .ok (.aload 4, 2) := by decide +kernel
theorem dL_holds_68 : decode cL_holds 68 = .ok (.aload_n 0, 1) := by decide +kernel
theorem dL_holds_69 : decode cL_holds 69 = .ok (.iload 5, 2) := by decide +kernel
theorem dL_holds_71 : decode cL_holds 71 = .ok (.iconst 3, 1) := by decide +kernel
theorem dL_holds_72 : decode cL_holds 72 = .ok (.iadd, 1) := by decide +kernel
theorem dL_holds_73 : decode cL_holds 73 = .ok (.iaload, 1) := by decide +kernel
theorem dL_holds_74 : decode cL_holds 74 = .ok (.iaload, 1) := by decide +kernel
theorem dL_holds_75 : decode cL_holds 75 = .ok (.iload 6, 2) := by decide +kernel
theorem dL_holds_77 : decode cL_holds 77 = .ok (.bipush 24, 2) := by decide +kernel
theorem dL_holds_79 : decode cL_holds 79 = .ok (.idiv, 1) := by decide +kernel
theorem dL_holds_80 : decode cL_holds 80 = .ok (.ishr, 1) := by decide +kernel
theorem dL_holds_81 : decode cL_holds 81 = .ok (.iconst 1, 1) := by decide +kernel
theorem dL_holds_82 : decode cL_holds 82 = .ok (.iand, 1) := by decide +kernel
theorem dL_holds_83 : decode cL_holds 83 = .ok (.iconst 1, 1) := by decide +kernel
theorem dL_holds_84 : decode cL_holds 84 = .ok (.if_icmp .ne 7, 3) := by decide +kernel
theorem dL_holds_87 : decode cL_holds 87 = .ok (.iconst 1, 1) := by decide +kernel
theorem dL_holds_88 : decode cL_holds 88 = .ok (.goto 4, 3) := by decide +kernel
theorem dL_holds_91 : decode cL_holds 91 = .ok (.iconst 0, 1) := by decide +kernel
theorem dL_holds_92 : decode cL_holds 92 = .ok (.ireturn, 1) := by decide +kernel
theorem dL_holds_93 : decode cL_holds 93 = .ok (.aload_n 0, 1) := by decide +kernel
theorem dL_holds_94 : decode cL_holds 94 = .ok (.iload 5, 2) := by decide +kernel
theorem dL_holds_96 : decode cL_holds 96 = .ok (.iconst 4, 1) := by decide +kernel
theorem dL_holds_97 : decode cL_holds 97 = .ok (.iadd, 1) := by decide +kernel
theorem dL_holds_98 : decode cL_holds 98 = .ok (.iaload, 1) := by decide +kernel
theorem dL_holds_99 : decode cL_holds 99 = .ok (.istore 7, 2) := by decide +kernel
theorem dL_holds_101 : decode cL_holds 101 = .ok (.aload_n 0, 1) := by decide +kernel
theorem dL_holds_102 : decode cL_holds 102 = .ok (.iload 5, 2) := by decide +kernel
theorem dL_holds_104 : decode cL_holds 104 = .ok (.iconst 5, 1) := by decide +kernel
theorem dL_holds_105 : decode cL_holds 105 = .ok (.iadd, 1) := by decide +kernel
theorem dL_holds_106 : decode cL_holds 106 = .ok (.iaload, 1) := by decide +kernel
theorem dL_holds_107 : decode cL_holds 107 = .ok (.iload 7, 2) := by decide +kernel
theorem dL_holds_109 : decode cL_holds 109 = .ok (.isub, 1) := by decide +kernel
theorem dL_holds_110 : decode cL_holds 110 = .ok (.bipush 23, 2) := by decide +kernel
theorem dL_holds_112 : decode cL_holds 112 = .ok (.iadd, 1) := by decide +kernel
theorem dL_holds_113 : decode cL_holds 113 = .ok (.bipush 24, 2) := by decide +kernel
theorem dL_holds_115 : decode cL_holds 115 = .ok (.irem, 1) := by decide +kernel
theorem dL_holds_116 : decode cL_holds 116 = .ok (.iconst 1, 1) := by decide +kernel
theorem dL_holds_117 : decode cL_holds 117 = .ok (.iadd, 1) := by decide +kernel
theorem dL_holds_118 : decode cL_holds 118 = .ok (.istore 8, 2) := by decide +kernel
theorem dL_holds_120 : decode cL_holds 120 = .ok (.iload 6, 2) := by decide +kernel
theorem dL_holds_122 : decode cL_holds 122 = .ok (.iload 7, 2) := by decide +kernel
theorem dL_holds_124 : decode cL_holds 124 = .ok (.isub, 1) := by decide +kernel
theorem dL_holds_125 : decode cL_holds 125 = .ok (.bipush 24, 2) := by decide +kernel
theorem dL_holds_127 : decode cL_holds 127 = .ok (.iadd, 1) := by decide +kernel
theorem dL_holds_128 : decode cL_holds 128 = .ok (.bipush 24, 2) := by decide +kernel
theorem dL_holds_130 : decode cL_holds 130 = .ok (.irem, 1) := by decide +kernel
theorem dL_holds_131 : decode cL_holds 131 = .ok (.iload 8, 2) := by decide +kernel
theorem dL_holds_133 : decode cL_holds 133 = .ok (.if_icmp .ge 7, 3) := by decide +kernel
theorem dL_holds_136 : decode cL_holds 136 = .ok (.iconst 1, 1) := by decide +kernel
theorem dL_holds_137 : decode cL_holds 137 = .ok (.goto 4, 3) := by decide +kernel
theorem dL_holds_140 : decode cL_holds 140 = .ok (.iconst 0, 1) := by decide +kernel
theorem dL_holds_141 : decode cL_holds 141 = .ok (.ireturn, 1) := by decide +kernel
theorem dL_touches_0 : decode cL_touches 0 = .ok (.aload_n 2, 1) := by decide +kernel
theorem dL_touches_1 : decode cL_touches 1 = .ok (.iload_n 0, 1) := by decide +kernel
theorem dL_touches_2 : decode cL_touches 2 = .ok (.iaload, 1) := by decide +kernel
theorem dL_touches_3 : decode cL_touches 3 = .ok (.iload_n 1, 1) := by decide +kernel
theorem dL_touches_4 : decode cL_touches 4 = .ok (.ishr, 1) := by decide +kernel
theorem dL_touches_5 : decode cL_touches 5 = .ok (.iconst 1, 1) := by decide +kernel
theorem dL_touches_6 : decode cL_touches 6 = .ok (.iand, 1) := by decide +kernel
theorem dL_touches_7 : decode cL_touches 7 = .ok (.iconst 1, 1) := by decide +kernel
theorem dL_touches_8 : decode cL_touches 8 = .ok (.if_icmp .eq 14, 3) := by decide +kernel
theorem dL_touches_11 : decode cL_touches 11 = .ok (.aload_n 2, 1) := by decide +kernel
theorem dL_touches_12 : decode cL_touches 12 = .ok (.iload_n 1, 1) := by decide +kernel
theorem dL_touches_13 : decode cL_touches 13 = .ok (.iaload, 1) := by decide +kernel
theorem dL_touches_14 : decode cL_touches 14 = .ok (.iload_n 0, 1) := by decide +kernel
theorem dL_touches_15 : decode cL_touches 15 = .ok (.ishr, 1) := by decide +kernel
theorem dL_touches_16 : decode cL_touches 16 = .ok (.iconst 1, 1) := by decide +kernel
theorem dL_touches_17 : decode cL_touches 17 = .ok (.iand, 1) := by decide +kernel
theorem dL_touches_18 : decode cL_touches 18 = .ok (.iconst 1, 1) := by decide +kernel
theorem dL_touches_19 : decode cL_touches 19 = .ok (.if_icmp .ne 7, 3) := by decide +kernel
theorem dL_touches_22 : decode cL_touches 22 = .ok (.iconst 1, 1) := by decide +kernel
theorem dL_touches_23 : decode cL_touches 23 = .ok (.goto 4, 3) := by decide +kernel
theorem dL_touches_26 : decode cL_touches 26 = .ok (.iconst 0, 1) := by decide +kernel
theorem dL_touches_27 : decode cL_touches 27 = .ok (.ireturn, 1) := by decide +kernel
theorem dL_against_0 : decode cL_against 0 = .ok (.bipush 7, 2) := by decide +kernel
theorem dL_against_2 : decode cL_against 2 = .ok (.iload_n 3, 1) := by decide +kernel
theorem dL_against_3 : decode cL_against 3 = .ok (.imul, 1) := by decide +kernel
theorem dL_against_4 : decode cL_against 4 = .ok (.istore 5, 2) := by decide +kernel
theorem dL_against_6 : decode cL_against 6 = .ok (.aload_n 0, 1) := by decide +kernel
theorem dL_against_7 : decode cL_against 7 = .ok (.bipush 7, 2) := by decide +kernel
theorem dL_against_9 : decode cL_against 9 = .ok (.iload_n 1, 1) := by decide +kernel
theorem dL_against_10 : decode cL_against 10 = .ok (.imul, 1) := by decide +kernel
theorem dL_against_11 : decode cL_against 11 = .ok (.iaload, 1) := by decide +kernel
theorem dL_against_12 : decode cL_against 12 = .ok (.iconst 1, 1) := by decide +kernel
theorem dL_against_13 : decode cL_against 13 = .ok (.if_icmp .ne 61, 3) := by decide +kernel
theorem dL_against_16 : decode cL_against 16 = .ok (.aload_n 2, 1) := by decide +kernel
theorem dL_against_17 : decode cL_against 17 = .ok (.iload 5, 2) := by decide +kernel
theorem dL_against_19 : decode cL_against 19 = .ok (.bipush 6, 2) := by decide +kernel
theorem dL_against_21 : decode cL_against 21 = .ok (.iadd, 1) := by decide +kernel
theorem dL_against_22 : decode cL_against 22 = .ok (.iaload, 1) := by decide +kernel
theorem dL_against_23 : decode cL_against 23 = .ok (.ifCond .lt 14, 3) := by decide +kernel
theorem dL_against_26 : decode cL_against 26 = .ok (.iload_n 1, 1) := by decide +kernel
theorem dL_against_27 : decode cL_against 27 = .ok (.aload_n 2, 1) := by decide +kernel
theorem dL_against_28 : decode cL_against 28 = .ok (.iload 5, 2) := by decide +kernel
theorem dL_against_30 : decode cL_against 30 = .ok (.bipush 6, 2) := by decide +kernel
theorem dL_against_32 : decode cL_against 32 = .ok (.iadd, 1) := by decide +kernel
theorem dL_against_33 : decode cL_against 33 = .ok (.iaload, 1) := by decide +kernel
theorem dL_against_34 : decode cL_against 34 = .ok (.if_icmp .ge 40, 3) := by decide +kernel
theorem dL_against_37 : decode cL_against 37 = .ok (.aload_n 0, 1) := by decide +kernel
theorem dL_against_38 : decode cL_against 38 = .ok (.bipush 7, 2) := by decide +kernel
theorem dL_against_40 : decode cL_against 40 = .ok (.iload_n 1, 1) := by decide +kernel
theorem dL_against_41 : decode cL_against 41 = .ok (.imul, 1) := by decide +kernel
theorem dL_against_42 : decode cL_against 42 = .ok (.iconst 2, 1) := by decide +kernel
theorem dL_against_43 : decode cL_against 43 = .ok (.iadd, 1) := by decide +kernel
theorem dL_against_44 : decode cL_against 44 = .ok (.iaload, 1) := by decide +kernel
theorem dL_against_45 : decode cL_against 45 = .ok (.aload_n 2, 1) := by decide +kernel
theorem dL_against_46 : decode cL_against 46 = .ok (.iload 5, 2) := by decide +kernel
theorem dL_against_48 : decode cL_against 48 = .ok (.iaload, 1) := by decide +kernel
theorem dL_against_49 : decode cL_against 49 = .ok (.aload 4, 2) := by decide +kernel
theorem dL_against_51 : decode cL_against 51 = .ok (.invokestatic 10, 3) := by decide +kernel
theorem dL_against_54 : decode cL_against 54 = .ok (.ifCond .eq 20, 3) := by decide +kernel
theorem dL_against_57 : decode cL_against 57 = .ok (.aload_n 2, 1) := by decide +kernel
theorem dL_against_58 : decode cL_against 58 = .ok (.iload 5, 2) := by decide +kernel
theorem dL_against_60 : decode cL_against 60 = .ok (.iconst 5, 1) := by decide +kernel
theorem dL_against_61 : decode cL_against 61 = .ok (.iadd, 1) := by decide +kernel
theorem dL_against_62 : decode cL_against 62 = .ok (.iaload, 1) := by decide +kernel
theorem dL_against_63 : decode cL_against 63 = .ok (.iload_n 1, 1) := by decide +kernel
theorem dL_against_64 : decode cL_against 64 = .ok (.ishr, 1) := by decide +kernel
theorem dL_against_65 : decode cL_against 65 = .ok (.iconst 1, 1) := by decide +kernel
theorem dL_against_66 : decode cL_against 66 = .ok (.iand, 1) := by decide +kernel
theorem dL_against_67 : decode cL_against 67 = .ok (.ifCond .ne 7, 3) := by decide +kernel
theorem dL_against_70 : decode cL_against 70 = .ok (.iconst 1, 1) := by decide +kernel
theorem dL_against_71 : decode cL_against 71 = .ok (.goto 4, 3) := by decide +kernel
theorem dL_against_74 : decode cL_against 74 = .ok (.iconst 0, 1) := by decide +kernel
theorem dL_against_75 : decode cL_against 75 = .ok (.ireturn, 1) := by decide +kernel
theorem dL_bad_0 : decode cL_bad 0 = .ok (.iconst 0, 1) := by decide +kernel
theorem dL_bad_1 : decode cL_bad 1 = .ok (.istore 7, 2) := by decide +kernel
theorem dL_bad_3 : decode cL_bad 3 = .ok (.aload_n 1, 1) := by decide +kernel
theorem dL_bad_4 : decode cL_bad 4 = .ok (.bipush 7, 2) := by decide +kernel
theorem dL_bad_6 : decode cL_bad 6 = .ok (.iload_n 2, 1) := by decide +kernel
theorem dL_bad_7 : decode cL_bad 7 = .ok (.imul, 1) := by decide +kernel
theorem dL_bad_8 : decode cL_bad 8 = .ok (.iconst 1, 1) := by decide +kernel
theorem dL_bad_9 : decode cL_bad 9 = .ok (.iadd, 1) := by decide +kernel
theorem dL_bad_10 : decode cL_bad 10 = .ok (.iaload, 1) := by decide +kernel
theorem dL_bad_11 : decode cL_bad 11 = .ok (.istore 8, 2) := by decide +kernel
end
section
theorem dL_bad_13 : decode cL_bad 13 = .ok (.iload 8, 2) := by decide +kernel
theorem dL_bad_15 : decode cL_bad 15 = .ok (.aload_n 1, 1) := by decide +kernel
theorem dL_bad_16 : decode cL_bad 16 = .ok (.bipush 7, 2) := by decide +kernel
theorem dL_bad_18 : decode cL_bad 18 = .ok (.iload_n 2, 1) := by decide +kernel
theorem dL_bad_19 : decode cL_bad 19 = .ok (.imul, 1) := by decide +kernel
theorem dL_bad_20 : decode cL_bad 20 = .ok (.iconst 1, 1) := by decide +kernel
theorem dL_bad_21 : decode cL_bad 21 = .ok (.iadd, 1) := by decide +kernel
theorem dL_bad_22 : decode cL_bad 22 = .ok (.iaload, 1) := by decide +kernel
theorem dL_bad_23 : decode cL_bad 23 = .ok (.aload_n 1, 1) := by decide +kernel
theorem dL_bad_24 : decode cL_bad 24 = .ok (.bipush 7, 2) := by decide +kernel
theorem dL_bad_26 : decode cL_bad 26 = .ok (.iload_n 2, 1) := by decide +kernel
theorem dL_bad_27 : decode cL_bad 27 = .ok (.imul, 1) := by decide +kernel
theorem dL_bad_28 : decode cL_bad 28 = .ok (.iconst 2, 1) := by decide +kernel
theorem dL_bad_29 : decode cL_bad 29 = .ok (.iadd, 1) := by decide +kernel
theorem dL_bad_30 : decode cL_bad 30 = .ok (.iaload, 1) := by decide +kernel
theorem dL_bad_31 : decode cL_bad 31 = .ok (.iadd, 1) := by decide +kernel
theorem dL_bad_32 : decode cL_bad 32 = .ok (.if_icmp .ge 82, 3) := by decide +kernel
theorem dL_bad_35 : decode cL_bad 35 = .ok (.iconst 0, 1) := by decide +kernel
theorem dL_bad_36 : decode cL_bad 36 = .ok (.istore 9, 2) := by decide +kernel
theorem dL_bad_38 : decode cL_bad 38 = .ok (.iconst 0, 1) := by decide +kernel
theorem dL_bad_39 : decode cL_bad 39 = .ok (.istore 10, 2) := by decide +kernel
theorem dL_bad_41 : decode cL_bad 41 = .ok (.iload 10, 2) := by decide +kernel
theorem dL_bad_43 : decode cL_bad 43 = .ok (.aload 6, 2) := by decide +kernel
theorem dL_bad_45 : decode cL_bad 45 = .ok (.iconst 2, 1) := by decide +kernel
theorem dL_bad_46 : decode cL_bad 46 = .ok (.iaload, 1) := by decide +kernel
theorem dL_bad_47 : decode cL_bad 47 = .ok (.if_icmp .ge 46, 3) := by decide +kernel
theorem dL_bad_50 : decode cL_bad 50 = .ok (.iload 9, 2) := by decide +kernel
theorem dL_bad_52 : decode cL_bad 52 = .ok (.aload_n 0, 1) := by decide +kernel
theorem dL_bad_53 : decode cL_bad 53 = .ok (.iload 10, 2) := by decide +kernel
theorem dL_bad_55 : decode cL_bad 55 = .ok (.aload_n 1, 1) := by decide +kernel
theorem dL_bad_56 : decode cL_bad 56 = .ok (.iload_n 2, 1) := by decide +kernel
theorem dL_bad_57 : decode cL_bad 57 = .ok (.aload_n 3, 1) := by decide +kernel
theorem dL_bad_58 : decode cL_bad 58 = .ok (.invokestatic 16, 3) := by decide +kernel
theorem dL_bad_61 : decode cL_bad 61 = .ok (.ifCond .eq 22, 3) := by decide +kernel
theorem dL_bad_64 : decode cL_bad 64 = .ok (.aload_n 0, 1) := by decide +kernel
theorem dL_bad_65 : decode cL_bad 65 = .ok (.iload 10, 2) := by decide +kernel
theorem dL_bad_67 : decode cL_bad 67 = .ok (.iload 8, 2) := by decide +kernel
theorem dL_bad_69 : decode cL_bad 69 = .ok (.aload 4, 2) := by decide +kernel
theorem dL_bad_71 : decode cL_bad 71 = .ok (.aload 5, 2) := by decide +kernel
theorem dL_bad_73 : decode cL_bad 73 = .ok (.invokestatic 20, 3) := by decide +kernel
theorem dL_bad_76 : decode cL_bad 76 = .ok (.ifCond .eq 7, 3) := by decide +kernel
theorem dL_bad_79 : decode cL_bad 79 = .ok (.iconst 1, 1) := by decide +kernel
theorem dL_bad_80 : decode cL_bad 80 = .ok (.goto 4, 3) := by decide +kernel
theorem dL_bad_83 : decode cL_bad 83 = .ok (.iconst 0, 1) := by decide +kernel
theorem dL_bad_84 : decode cL_bad 84 = .ok (.ior, 1) := by decide +kernel
theorem dL_bad_85 : decode cL_bad 85 = .ok (.istore 9, 2) := by decide +kernel
theorem dL_bad_87 : decode cL_bad 87 = .ok (.iinc 10 1, 3) := by decide +kernel
theorem dL_bad_90 : decode cL_bad 90 = .ok (.goto (-49), 3) := by decide +kernel
theorem dL_bad_93 : decode cL_bad 93 = .ok (.iload 7, 2) := by decide +kernel
theorem dL_bad_95 : decode cL_bad 95 = .ok (.iload 9, 2) := by decide +kernel
theorem dL_bad_97 : decode cL_bad 97 = .ok (.ifCond .eq 7, 3) := by decide +kernel
theorem dL_bad_100 : decode cL_bad 100 = .ok (.iconst 1, 1) := by decide +kernel
theorem dL_bad_101 : decode cL_bad 101 = .ok (.goto 4, 3) := by decide +kernel
theorem dL_bad_104 : decode cL_bad 104 = .ok (.iconst 0, 1) := by decide +kernel
theorem dL_bad_105 : decode cL_bad 105 = .ok (.iadd, 1) := by decide +kernel
theorem dL_bad_106 : decode cL_bad 106 = .ok (.istore 7, 2) := by decide +kernel
theorem dL_bad_108 : decode cL_bad 108 = .ok (.iinc 8 1, 3) := by decide +kernel
theorem dL_bad_111 : decode cL_bad 111 = .ok (.goto (-98), 3) := by decide +kernel
theorem dL_bad_114 : decode cL_bad 114 = .ok (.iload 7, 2) := by decide +kernel
theorem dL_bad_116 : decode cL_bad 116 = .ok (.ireturn, 1) := by decide +kernel
theorem dL_refused_0 : decode cL_refused 0 = .ok (.iload_n 1, 1) := by decide +kernel
theorem dL_refused_1 : decode cL_refused 1 = .ok (.ifCond .ne 11, 3) := by decide +kernel
theorem dL_refused_4 : decode cL_refused 4 = .ok (.aload_n 0, 1) := by decide +kernel
theorem dL_refused_5 : decode cL_refused 5 = .ok (.iload_n 2, 1) := by decide +kernel
theorem dL_refused_6 : decode cL_refused 6 = .ok (.invokevirtual 24, 3) := by decide +kernel
theorem dL_refused_9 : decode cL_refused 9 = .ok (.goto 75, 3) := by decide +kernel
theorem dL_refused_12 : decode cL_refused 12 = .ok (.iload_n 1, 1) := by decide +kernel
theorem dL_refused_13 : decode cL_refused 13 = .ok (.iconst 1, 1) := by decide +kernel
theorem dL_refused_14 : decode cL_refused 14 = .ok (.if_icmp .ne 11, 3) := by decide +kernel
theorem dL_refused_17 : decode cL_refused 17 = .ok (.aload_n 0, 1) := by decide +kernel
theorem dL_refused_18 : decode cL_refused 18 = .ok (.iload_n 2, 1) := by decide +kernel
theorem dL_refused_19 : decode cL_refused 19 = .ok (.invokevirtual 30, 3) := by decide +kernel
theorem dL_refused_22 : decode cL_refused 22 = .ok (.goto 62, 3) := by decide +kernel
theorem dL_refused_25 : decode cL_refused 25 = .ok (.iload_n 1, 1) := by decide +kernel
theorem dL_refused_26 : decode cL_refused 26 = .ok (.iconst 2, 1) := by decide +kernel
theorem dL_refused_27 : decode cL_refused 27 = .ok (.if_icmp .ne 12, 3) := by decide +kernel
theorem dL_refused_30 : decode cL_refused 30 = .ok (.aload_n 0, 1) := by decide +kernel
theorem dL_refused_31 : decode cL_refused 31 = .ok (.iload_n 2, 1) := by decide +kernel
theorem dL_refused_32 : decode cL_refused 32 = .ok (.iload_n 3, 1) := by decide +kernel
theorem dL_refused_33 : decode cL_refused 33 = .ok (.invokevirtual 33, 3) := by decide +kernel
theorem dL_refused_36 : decode cL_refused 36 = .ok (.goto 48, 3) := by decide +kernel
theorem dL_refused_39 : decode cL_refused 39 = .ok (.iload_n 1, 1) := by decide +kernel
theorem dL_refused_40 : decode cL_refused 40 = .ok (.iconst 3, 1) := by decide +kernel
theorem dL_refused_41 : decode cL_refused 41 = .ok (.if_icmp .ne 11, 3) := by decide +kernel
theorem dL_refused_44 : decode cL_refused 44 = .ok (.aload_n 0, 1) := by decide +kernel
theorem dL_refused_45 : decode cL_refused 45 = .ok (.iload_n 2, 1) := by decide +kernel
theorem dL_refused_46 : decode cL_refused 46 = .ok (.invokevirtual 37, 3) := by decide +kernel
theorem dL_refused_49 : decode cL_refused 49 = .ok (.goto 35, 3) := by decide +kernel
theorem dL_refused_52 : decode cL_refused 52 = .ok (.iload_n 1, 1) := by decide +kernel
theorem dL_refused_53 : decode cL_refused 53 = .ok (.iconst 4, 1) := by decide +kernel
theorem dL_refused_54 : decode cL_refused 54 = .ok (.if_icmp .ne 12, 3) := by decide +kernel
theorem dL_refused_57 : decode cL_refused 57 = .ok (.aload_n 0, 1) := by decide +kernel
theorem dL_refused_58 : decode cL_refused 58 = .ok (.iload_n 2, 1) := by decide +kernel
theorem dL_refused_59 : decode cL_refused 59 = .ok (.iload_n 3, 1) := by decide +kernel
theorem dL_refused_60 : decode cL_refused 60 = .ok (.invokevirtual 40, 3) := by decide +kernel
theorem dL_refused_63 : decode cL_refused 63 = .ok (.goto 21, 3) := by decide +kernel
theorem dL_refused_66 : decode cL_refused 66 = .ok (.iload_n 1, 1) := by decide +kernel
theorem dL_refused_67 : decode cL_refused 67 = .ok (.iconst 5, 1) := by decide +kernel
theorem dL_refused_68 : decode cL_refused 68 = .ok (.if_icmp .ne 11, 3) := by decide +kernel
theorem dL_refused_71 : decode cL_refused 71 = .ok (.aload_n 0, 1) := by decide +kernel
theorem dL_refused_72 : decode cL_refused 72 = .ok (.iload_n 2, 1) := by decide +kernel
theorem dL_refused_73 : decode cL_refused 73 = .ok (.invokevirtual 43, 3) := by decide +kernel
theorem dL_refused_76 : decode cL_refused 76 = .ok (.goto 8, 3) := by decide +kernel
theorem dL_refused_79 : decode cL_refused 79 = .ok (.aload_n 0, 1) := by decide +kernel
theorem dL_refused_80 : decode cL_refused 80 = .ok (.iload_n 2, 1) := by decide +kernel
theorem dL_refused_81 : decode cL_refused 81 = .ok (.invokevirtual 46, 3) := by decide +kernel
theorem dL_refused_84 : decode cL_refused 84 = .ok (.iconst 0, 1) := by decide +kernel
theorem dL_refused_85 : decode cL_refused 85 = .ok (.imul, 1) := by decide +kernel
theorem dL_refused_86 : decode cL_refused 86 = .ok (.ireturn, 1) := by decide +kernel
theorem dL_refused_87 : decode cL_refused 87 = .ok (.astore 4, 2) := by decide +kernel
theorem dL_refused_89 : decode cL_refused 89 = .ok (.iconst 1, 1) := by decide +kernel
theorem dL_refused_90 : decode cL_refused 90 = .ok (.ireturn, 1) := by decide +kernel
theorem dL_refused_91 : decode cL_refused 91 = .ok (.astore 4, 2) := by decide +kernel
theorem dL_refused_93 : decode cL_refused 93 = .ok (.iconst 2, 1) := by decide +kernel
theorem dL_refused_94 : decode cL_refused 94 = .ok (.ireturn, 1) := by decide +kernel
theorem dL_refused_95 : decode cL_refused 95 = .ok (.astore 4, 2) := by decide +kernel
theorem dL_refused_97 : decode cL_refused 97 = .ok (.iconst 3, 1) := by decide +kernel
theorem dL_refused_98 : decode cL_refused 98 = .ok (.ireturn, 1) := by decide +kernel
theorem dL_refused_99 : decode cL_refused 99 = .ok (.astore 4, 2) := by decide +kernel
theorem dL_refused_101 : decode cL_refused 101 = .ok (.iconst 4, 1) := by decide +kernel
theorem dL_refused_102 : decode cL_refused 102 = .ok (.ireturn, 1) := by decide +kernel
theorem dL_change_0 : decode cL_change 0 = .ok (.bipush 7, 2) := by decide +kernel
theorem dL_change_2 : decode cL_change 2 = .ok (.iload_n 1, 1) := by decide +kernel
theorem dL_change_3 : decode cL_change 3 = .ok (.imul, 1) := by decide +kernel
theorem dL_change_4 : decode cL_change 4 = .ok (.istore 8, 2) := by decide +kernel
theorem dL_change_6 : decode cL_change 6 = .ok (.iconst 0, 1) := by decide +kernel
theorem dL_change_7 : decode cL_change 7 = .ok (.istore 9, 2) := by decide +kernel
theorem dL_change_9 : decode cL_change 9 = .ok (.iconst (-1), 1) := by decide +kernel
theorem dL_change_10 : decode cL_change 10 = .ok (.istore 10, 2) := by decide +kernel
theorem dL_change_12 : decode cL_change 12 = .ok (.aload_n 3, 1) := by decide +kernel
theorem dL_change_13 : decode cL_change 13 = .ok (.iload 8, 2) := by decide +kernel
theorem dL_change_15 : decode cL_change 15 = .ok (.iconst 1, 1) := by decide +kernel
theorem dL_change_16 : decode cL_change 16 = .ok (.iadd, 1) := by decide +kernel
theorem dL_change_17 : decode cL_change 17 = .ok (.iaload, 1) := by decide +kernel
theorem dL_change_18 : decode cL_change 18 = .ok (.aload_n 3, 1) := by decide +kernel
theorem dL_change_19 : decode cL_change 19 = .ok (.iload 8, 2) := by decide +kernel
theorem dL_change_21 : decode cL_change 21 = .ok (.iconst 2, 1) := by decide +kernel
theorem dL_change_22 : decode cL_change 22 = .ok (.iadd, 1) := by decide +kernel
theorem dL_change_23 : decode cL_change 23 = .ok (.iaload, 1) := by decide +kernel
theorem dL_change_24 : decode cL_change 24 = .ok (.iadd, 1) := by decide +kernel
theorem dL_change_25 : decode cL_change 25 = .ok (.iconst 1, 1) := by decide +kernel
theorem dL_change_26 : decode cL_change 26 = .ok (.isub, 1) := by decide +kernel
theorem dL_change_27 : decode cL_change 27 = .ok (.istore 11, 2) := by decide +kernel
theorem dL_change_29 : decode cL_change 29 = .ok (.iload 11, 2) := by decide +kernel
theorem dL_change_31 : decode cL_change 31 = .ok (.aload_n 3, 1) := by decide +kernel
theorem dL_change_32 : decode cL_change 32 = .ok (.iload 8, 2) := by decide +kernel
theorem dL_change_34 : decode cL_change 34 = .ok (.iconst 1, 1) := by decide +kernel
theorem dL_change_35 : decode cL_change 35 = .ok (.iadd, 1) := by decide +kernel
theorem dL_change_36 : decode cL_change 36 = .ok (.iaload, 1) := by decide +kernel
theorem dL_change_37 : decode cL_change 37 = .ok (.if_icmp .lt 71, 3) := by decide +kernel
theorem dL_change_40 : decode cL_change 40 = .ok (.iconst 0, 1) := by decide +kernel
theorem dL_change_41 : decode cL_change 41 = .ok (.istore 12, 2) := by decide +kernel
theorem dL_change_43 : decode cL_change 43 = .ok (.iload 12, 2) := by decide +kernel
theorem dL_change_45 : decode cL_change 45 = .ok (.aload 7, 2) := by decide +kernel
theorem dL_change_47 : decode cL_change 47 = .ok (.iconst 2, 1) := by decide +kernel
theorem dL_change_48 : decode cL_change 48 = .ok (.iaload, 1) := by decide +kernel
theorem dL_change_49 : decode cL_change 49 = .ok (.if_icmp .ge 53, 3) := by decide +kernel
theorem dL_change_52 : decode cL_change 52 = .ok (.aload_n 2, 1) := by decide +kernel
theorem dL_change_53 : decode cL_change 53 = .ok (.iload 12, 2) := by decide +kernel
theorem dL_change_55 : decode cL_change 55 = .ok (.aload_n 3, 1) := by decide +kernel
theorem dL_change_56 : decode cL_change 56 = .ok (.iload_n 1, 1) := by decide +kernel
theorem dL_change_57 : decode cL_change 57 = .ok (.aload 4, 2) := by decide +kernel
theorem dL_change_59 : decode cL_change 59 = .ok (.invokestatic 16, 3) := by decide +kernel
theorem dL_change_62 : decode cL_change 62 = .ok (.ifCond .eq 34, 3) := by decide +kernel
theorem dL_change_65 : decode cL_change 65 = .ok (.aload_n 2, 1) := by decide +kernel
theorem dL_change_66 : decode cL_change 66 = .ok (.iload 12, 2) := by decide +kernel
theorem dL_change_68 : decode cL_change 68 = .ok (.iload 11, 2) := by decide +kernel
theorem dL_change_70 : decode cL_change 70 = .ok (.aload 5, 2) := by decide +kernel
theorem dL_change_72 : decode cL_change 72 = .ok (.aload 6, 2) := by decide +kernel
theorem dL_change_74 : decode cL_change 74 = .ok (.invokestatic 20, 3) := by decide +kernel
theorem dL_change_77 : decode cL_change 77 = .ok (.ifCond .ne 6, 3) := by decide +kernel
theorem dL_change_80 : decode cL_change 80 = .ok (.goto 16, 3) := by decide +kernel
theorem dL_change_83 : decode cL_change 83 = .ok (.iload 9, 2) := by decide +kernel
theorem dL_change_85 : decode cL_change 85 = .ok (.iconst 1, 1) := by decide +kernel
theorem dL_change_86 : decode cL_change 86 = .ok (.iload 12, 2) := by decide +kernel
theorem dL_change_88 : decode cL_change 88 = .ok (.ishl, 1) := by decide +kernel
theorem dL_change_89 : decode cL_change 89 = .ok (.ior, 1) := by decide +kernel
theorem dL_change_90 : decode cL_change 90 = .ok (.istore 9, 2) := by decide +kernel
theorem dL_change_92 : decode cL_change 92 = .ok (.iload 11, 2) := by decide +kernel
theorem dL_change_94 : decode cL_change 94 = .ok (.istore 10, 2) := by decide +kernel
theorem dL_change_96 : decode cL_change 96 = .ok (.iinc 12 1, 3) := by decide +kernel
theorem dL_change_99 : decode cL_change 99 = .ok (.goto (-56), 3) := by decide +kernel
theorem dL_change_102 : decode cL_change 102 = .ok (.iinc 11 (-1), 3) := by decide +kernel
theorem dL_change_105 : decode cL_change 105 = .ok (.goto (-76), 3) := by decide +kernel
theorem dL_change_108 : decode cL_change 108 = .ok (.aload_n 2, 1) := by decide +kernel
theorem dL_change_109 : decode cL_change 109 = .ok (.aload_n 3, 1) := by decide +kernel
theorem dL_change_110 : decode cL_change 110 = .ok (.iload_n 1, 1) := by decide +kernel
theorem dL_change_111 : decode cL_change 111 = .ok (.aload 4, 2) := by decide +kernel
theorem dL_change_113 : decode cL_change 113 = .ok (.aload 5, 2) := by decide +kernel
theorem dL_change_115 : decode cL_change 115 = .ok (.aload 6, 2) := by decide +kernel
theorem dL_change_117 : decode cL_change 117 = .ok (.aload 7, 2) := by decide +kernel
theorem dL_change_119 : decode cL_change 119 = .ok (.invokestatic 57, 3) := by decide +kernel
theorem dL_change_122 : decode cL_change 122 = .ok (.istore 11, 2) := by decide +kernel
theorem dL_change_124 : decode cL_change 124 = .ok (.aload_n 3, 1) := by decide +kernel
theorem dL_change_125 : decode cL_change 125 = .ok (.iload 8, 2) := by decide +kernel
theorem dL_change_127 : decode cL_change 127 = .ok (.bipush 6, 2) := by decide +kernel
theorem dL_change_129 : decode cL_change 129 = .ok (.iadd, 1) := by decide +kernel
theorem dL_change_130 : decode cL_change 130 = .ok (.iaload, 1) := by decide +kernel
theorem dL_change_131 : decode cL_change 131 = .ok (.ifCond .ge 7, 3) := by decide +kernel
theorem dL_change_134 : decode cL_change 134 = .ok (.iconst 0, 1) := by decide +kernel
theorem dL_change_135 : decode cL_change 135 = .ok (.goto 28, 3) := by decide +kernel
theorem dL_change_138 : decode cL_change 138 = .ok (.aload 7, 2) := by decide +kernel
theorem dL_change_140 : decode cL_change 140 = .ok (.iconst 0, 1) := by decide +kernel
theorem dL_change_141 : decode cL_change 141 = .ok (.iaload, 1) := by decide +kernel
theorem dL_change_142 : decode cL_change 142 = .ok (.aload_n 3, 1) := by decide +kernel
theorem dL_change_143 : decode cL_change 143 = .ok (.iload 8, 2) := by decide +kernel
theorem dL_change_145 : decode cL_change 145 = .ok (.iconst 1, 1) := by decide +kernel
theorem dL_change_146 : decode cL_change 146 = .ok (.iadd, 1) := by decide +kernel
theorem dL_change_147 : decode cL_change 147 = .ok (.iaload, 1) := by decide +kernel
theorem dL_change_148 : decode cL_change 148 = .ok (.aload_n 3, 1) := by decide +kernel
theorem dL_change_149 : decode cL_change 149 = .ok (.iload 8, 2) := by decide +kernel
theorem dL_change_151 : decode cL_change 151 = .ok (.iconst 2, 1) := by decide +kernel
theorem dL_change_152 : decode cL_change 152 = .ok (.iadd, 1) := by decide +kernel
theorem dL_change_153 : decode cL_change 153 = .ok (.iaload, 1) := by decide +kernel
theorem dL_change_154 : decode cL_change 154 = .ok (.iadd, 1) := by decide +kernel
theorem dL_change_155 : decode cL_change 155 = .ok (.if_icmp .ge 7, 3) := by decide +kernel
theorem dL_change_158 : decode cL_change 158 = .ok (.iconst 1, 1) := by decide +kernel
theorem dL_change_159 : decode cL_change 159 = .ok (.goto 4, 3) := by decide +kernel
theorem dL_change_162 : decode cL_change 162 = .ok (.iconst 2, 1) := by decide +kernel
theorem dL_change_163 : decode cL_change 163 = .ok (.istore 12, 2) := by decide +kernel
theorem dL_change_165 : decode cL_change 165 = .ok (.aload_n 0, 1) := by decide +kernel
theorem dL_change_166 : decode cL_change 166 = .ok (.iload_n 1, 1) := by decide +kernel
theorem dL_change_167 : decode cL_change 167 = .ok (.invokevirtual 61, 3) := by decide +kernel
theorem dL_change_170 : decode cL_change 170 = .ok (.iload 11, 2) := by decide +kernel
theorem dL_change_172 : decode cL_change 172 = .ok (.if_icmp .ne 61, 3) := by decide +kernel
theorem dL_change_175 : decode cL_change 175 = .ok (.aload_n 0, 1) := by decide +kernel
theorem dL_change_176 : decode cL_change 176 = .ok (.iload_n 1, 1) := by decide +kernel
theorem dL_change_177 : decode cL_change 177 = .ok (.invokevirtual 64, 3) := by decide +kernel
theorem dL_change_180 : decode cL_change 180 = .ok (.iload 11, 2) := by decide +kernel
theorem dL_change_182 : decode cL_change 182 = .ok (.if_icmp .ne 51, 3) := by decide +kernel
theorem dL_change_185 : decode cL_change 185 = .ok (.aload_n 0, 1) := by decide +kernel
theorem dL_change_186 : decode cL_change 186 = .ok (.iload_n 1, 1) := by decide +kernel
theorem dL_change_187 : decode cL_change 187 = .ok (.invokevirtual 67, 3) := by decide +kernel
theorem dL_change_190 : decode cL_change 190 = .ok (.iload 9, 2) := by decide +kernel
theorem dL_change_192 : decode cL_change 192 = .ok (.if_icmp .ne 41, 3) := by decide +kernel
theorem dL_change_195 : decode cL_change 195 = .ok (.aload_n 0, 1) := by decide +kernel
theorem dL_change_196 : decode cL_change 196 = .ok (.iload_n 1, 1) := by decide +kernel
theorem dL_change_197 : decode cL_change 197 = .ok (.invokevirtual 70, 3) := by decide +kernel
theorem dL_change_200 : decode cL_change 200 = .ok (.iload 10, 2) := by decide +kernel
theorem dL_change_202 : decode cL_change 202 = .ok (.if_icmp .ne 31, 3) := by decide +kernel
theorem dL_change_205 : decode cL_change 205 = .ok (.aload_n 0, 1) := by decide +kernel
theorem dL_change_206 : decode cL_change 206 = .ok (.iload_n 1, 1) := by decide +kernel
theorem dL_change_207 : decode cL_change 207 = .ok (.invokevirtual 73, 3) := by decide +kernel
theorem dL_change_210 : decode cL_change 210 = .ok (.iload 12, 2) := by decide +kernel
theorem dL_change_212 : decode cL_change 212 = .ok (.if_icmp .ne 21, 3) := by decide +kernel
theorem dL_change_215 : decode cL_change 215 = .ok (.aload_n 0, 1) := by decide +kernel
theorem dL_change_216 : decode cL_change 216 = .ok (.iload_n 1, 1) := by decide +kernel
theorem dL_change_217 : decode cL_change 217 = .ok (.invokevirtual 76, 3) := by decide +kernel
theorem dL_change_220 : decode cL_change 220 = .ok (.aload_n 3, 1) := by decide +kernel
theorem dL_change_221 : decode cL_change 221 = .ok (.iload 8, 2) := by decide +kernel
theorem dL_change_223 : decode cL_change 223 = .ok (.iconst 4, 1) := by decide +kernel
theorem dL_change_224 : decode cL_change 224 = .ok (.iadd, 1) := by decide +kernel
theorem dL_change_225 : decode cL_change 225 = .ok (.iaload, 1) := by decide +kernel
theorem dL_change_226 : decode cL_change 226 = .ok (.if_icmp .ne 7, 3) := by decide +kernel
theorem dL_change_229 : decode cL_change 229 = .ok (.iconst 1, 1) := by decide +kernel
theorem dL_change_230 : decode cL_change 230 = .ok (.goto 4, 3) := by decide +kernel
theorem dL_change_233 : decode cL_change 233 = .ok (.iconst 0, 1) := by decide +kernel
theorem dL_change_234 : decode cL_change 234 = .ok (.ireturn, 1) := by decide +kernel
theorem dL_law_0 : decode cL_law 0 = .ok (.new 25, 3) := by decide +kernel
theorem dL_law_3 : decode cL_law 3 = .ok (.dup, 1) := by decide +kernel
theorem dL_law_4 : decode cL_law 4 = .ok (.invokespecial 79, 3) := by decide +kernel
theorem dL_law_7 : decode cL_law 7 = .ok (.astore_n 1, 1) := by decide +kernel
theorem dL_law_8 : decode cL_law 8 = .ok (.bipush 42, 2) := by decide +kernel
theorem dL_law_10 : decode cL_law 10 = .ok (.newarray .int, 2) := by decide +kernel
theorem dL_law_12 : decode cL_law 12 = .ok (.astore_n 2, 1) := by decide +kernel
theorem dL_law_13 : decode cL_law 13 = .ok (.bipush 42, 2) := by decide +kernel
theorem dL_law_15 : decode cL_law 15 = .ok (.newarray .int, 2) := by decide +kernel
theorem dL_law_17 : decode cL_law 17 = .ok (.astore_n 3, 1) := by decide +kernel
theorem dL_law_18 : decode cL_law 18 = .ok (.bipush 8, 2) := by decide +kernel
theorem dL_law_20 : decode cL_law 20 = .ok (.newarray .int, 2) := by decide +kernel
theorem dL_law_22 : decode cL_law 22 = .ok (.astore 4, 2) := by decide +kernel
theorem dL_law_24 : decode cL_law 24 = .ok (.iconst 4, 1) := by decide +kernel
theorem dL_law_25 : decode cL_law 25 = .ok (.newarray .int, 2) := by decide +kernel
theorem dL_law_27 : decode cL_law 27 = .ok (.astore 5, 2) := by decide +kernel
theorem dL_law_29 : decode cL_law 29 = .ok (.iconst 4, 1) := by decide +kernel
theorem dL_law_30 : decode cL_law 30 = .ok (.newarray .int, 2) := by decide +kernel
theorem dL_law_32 : decode cL_law 32 = .ok (.astore 6, 2) := by decide +kernel
theorem dL_law_34 : decode cL_law 34 = .ok (.iconst 4, 1) := by decide +kernel
theorem dL_law_35 : decode cL_law 35 = .ok (.newarray .int, 2) := by decide +kernel
theorem dL_law_37 : decode cL_law 37 = .ok (.astore 7, 2) := by decide +kernel
theorem dL_law_39 : decode cL_law 39 = .ok (.iconst 4, 1) := by decide +kernel
theorem dL_law_40 : decode cL_law 40 = .ok (.newarray .int, 2) := by decide +kernel
theorem dL_law_42 : decode cL_law 42 = .ok (.astore 8, 2) := by decide +kernel
theorem dL_law_44 : decode cL_law 44 = .ok (.aload 4, 2) := by decide +kernel
theorem dL_law_46 : decode cL_law 46 = .ok (.iconst 0, 1) := by decide +kernel
theorem dL_law_47 : decode cL_law 47 = .ok (.iconst 1, 1) := by decide +kernel
theorem dL_law_48 : decode cL_law 48 = .ok (.iastore, 1) := by decide +kernel
theorem dL_law_49 : decode cL_law 49 = .ok (.aload 8, 2) := by decide +kernel
theorem dL_law_51 : decode cL_law 51 = .ok (.iconst 1, 1) := by decide +kernel
theorem dL_law_52 : decode cL_law 52 = .ok (.iconst 1, 1) := by decide +kernel
theorem dL_law_53 : decode cL_law 53 = .ok (.iastore, 1) := by decide +kernel
theorem dL_law_54 : decode cL_law 54 = .ok (.iconst 0, 1) := by decide +kernel
theorem dL_law_55 : decode cL_law 55 = .ok (.istore 9, 2) := by decide +kernel
theorem dL_law_57 : decode cL_law 57 = .ok (.iload 9, 2) := by decide +kernel
theorem dL_law_59 : decode cL_law 59 = .ok (.bipush 60, 2) := by decide +kernel
theorem dL_law_61 : decode cL_law 61 = .ok (.if_icmp .ge 2037, 3) := by decide +kernel
theorem dL_law_64 : decode cL_law 64 = .ok (.aload_n 0, 1) := by decide +kernel
theorem dL_law_65 : decode cL_law 65 = .ok (.iconst 2, 1) := by decide +kernel
theorem dL_law_66 : decode cL_law 66 = .ok (.iload 9, 2) := by decide +kernel
theorem dL_law_68 : decode cL_law 68 = .ok (.imul, 1) := by decide +kernel
theorem dL_law_69 : decode cL_law 69 = .ok (.invokestatic 80, 3) := by decide +kernel
theorem dL_law_72 : decode cL_law 72 = .ok (.istore 10, 2) := by decide +kernel
theorem dL_law_74 : decode cL_law 74 = .ok (.aload_n 0, 1) := by decide +kernel
theorem dL_law_75 : decode cL_law 75 = .ok (.iconst 2, 1) := by decide +kernel
theorem dL_law_76 : decode cL_law 76 = .ok (.iload 9, 2) := by decide +kernel
theorem dL_law_78 : decode cL_law 78 = .ok (.imul, 1) := by decide +kernel
theorem dL_law_79 : decode cL_law 79 = .ok (.iconst 1, 1) := by decide +kernel
theorem dL_law_80 : decode cL_law 80 = .ok (.iadd, 1) := by decide +kernel
theorem dL_law_81 : decode cL_law 81 = .ok (.invokestatic 80, 3) := by decide +kernel
theorem dL_law_84 : decode cL_law 84 = .ok (.istore 11, 2) := by decide +kernel
theorem dL_law_86 : decode cL_law 86 = .ok (.iload 10, 2) := by decide +kernel
theorem dL_law_88 : decode cL_law 88 = .ok (.bipush 18, 2) := by decide +kernel
theorem dL_law_90 : decode cL_law 90 = .ok (.invokestatic 84, 3) := by decide +kernel
theorem dL_law_93 : decode cL_law 93 = .ok (.istore 12, 2) := by decide +kernel
theorem dL_law_95 : decode cL_law 95 = .ok (.iload 10, 2) := by decide +kernel
theorem dL_law_97 : decode cL_law 97 = .ok (.iconst 5, 1) := by decide +kernel
theorem dL_law_98 : decode cL_law 98 = .ok (.ishr, 1) := by decide +kernel
theorem dL_law_99 : decode cL_law 99 = .ok (.aload 8, 2) := by decide +kernel
theorem dL_law_101 : decode cL_law 101 = .ok (.iconst 1, 1) := by decide +kernel
theorem dL_law_102 : decode cL_law 102 = .ok (.iaload, 1) := by decide +kernel
theorem dL_law_103 : decode cL_law 103 = .ok (.invokestatic 84, 3) := by decide +kernel
theorem dL_law_106 : decode cL_law 106 = .ok (.istore 13, 2) := by decide +kernel
theorem dL_law_108 : decode cL_law 108 = .ok (.iload 10, 2) := by decide +kernel
theorem dL_law_110 : decode cL_law 110 = .ok (.bipush 9, 2) := by decide +kernel
theorem dL_law_112 : decode cL_law 112 = .ok (.ishr, 1) := by decide +kernel
theorem dL_law_113 : decode cL_law 113 = .ok (.iconst 4, 1) := by decide +kernel
theorem dL_law_114 : decode cL_law 114 = .ok (.invokestatic 84, 3) := by decide +kernel
theorem dL_law_117 : decode cL_law 117 = .ok (.istore 14, 2) := by decide +kernel
theorem dL_law_119 : decode cL_law 119 = .ok (.iconst 1, 1) := by decide +kernel
theorem dL_law_120 : decode cL_law 120 = .ok (.iload 10, 2) := by decide +kernel
theorem dL_law_122 : decode cL_law 122 = .ok (.bipush 11, 2) := by decide +kernel
theorem dL_law_124 : decode cL_law 124 = .ok (.ishr, 1) := by decide +kernel
theorem dL_law_125 : decode cL_law 125 = .ok (.iconst 3, 1) := by decide +kernel
theorem dL_law_126 : decode cL_law 126 = .ok (.invokestatic 84, 3) := by decide +kernel
theorem dL_law_129 : decode cL_law 129 = .ok (.iadd, 1) := by decide +kernel
theorem dL_law_130 : decode cL_law 130 = .ok (.istore 15, 2) := by decide +kernel
theorem dL_law_132 : decode cL_law 132 = .ok (.aload 8, 2) := by decide +kernel
theorem dL_law_134 : decode cL_law 134 = .ok (.iconst 3, 1) := by decide +kernel
theorem dL_law_135 : decode cL_law 135 = .ok (.iaload, 1) := by decide +kernel
theorem dL_law_136 : decode cL_law 136 = .ok (.ifCond .ne 7, 3) := by decide +kernel
theorem dL_law_139 : decode cL_law 139 = .ok (.iconst 0, 1) := by decide +kernel
theorem dL_law_140 : decode cL_law 140 = .ok (.goto 14, 3) := by decide +kernel
theorem dL_law_143 : decode cL_law 143 = .ok (.iload 11, 2) := by decide +kernel
theorem dL_law_145 : decode cL_law 145 = .ok (.iconst 3, 1) := by decide +kernel
theorem dL_law_146 : decode cL_law 146 = .ok (.ishr, 1) := by decide +kernel
theorem dL_law_147 : decode cL_law 147 = .ok (.aload 8, 2) := by decide +kernel
theorem dL_law_149 : decode cL_law 149 = .ok (.iconst 3, 1) := by decide +kernel
theorem dL_law_150 : decode cL_law 150 = .ok (.iaload, 1) := by decide +kernel
theorem dL_law_151 : decode cL_law 151 = .ok (.invokestatic 84, 3) := by decide +kernel
theorem dL_law_154 : decode cL_law 154 = .ok (.istore 16, 2) := by decide +kernel
theorem dL_law_156 : decode cL_law 156 = .ok (.aload 8, 2) := by decide +kernel
theorem dL_law_158 : decode cL_law 158 = .ok (.iconst 2, 1) := by decide +kernel
theorem dL_law_159 : decode cL_law 159 = .ok (.iaload, 1) := by decide +kernel
theorem dL_law_160 : decode cL_law 160 = .ok (.ifCond .ne 7, 3) := by decide +kernel
theorem dL_law_163 : decode cL_law 163 = .ok (.iconst 0, 1) := by decide +kernel
theorem dL_law_164 : decode cL_law 164 = .ok (.goto 15, 3) := by decide +kernel
theorem dL_law_167 : decode cL_law 167 = .ok (.iload 11, 2) := by decide +kernel
theorem dL_law_169 : decode cL_law 169 = .ok (.bipush 6, 2) := by decide +kernel
theorem dL_law_171 : decode cL_law 171 = .ok (.ishr, 1) := by decide +kernel
theorem dL_law_172 : decode cL_law 172 = .ok (.aload 8, 2) := by decide +kernel
theorem dL_law_174 : decode cL_law 174 = .ok (.iconst 2, 1) := by decide +kernel
theorem dL_law_175 : decode cL_law 175 = .ok (.iaload, 1) := by decide +kernel
theorem dL_law_176 : decode cL_law 176 = .ok (.invokestatic 84, 3) := by decide +kernel
theorem dL_law_179 : decode cL_law 179 = .ok (.istore 17, 2) := by decide +kernel
theorem dL_law_181 : decode cL_law 181 = .ok (.bipush 7, 2) := by decide +kernel
theorem dL_law_183 : decode cL_law 183 = .ok (.aload 8, 2) := by decide +kernel
theorem dL_law_185 : decode cL_law 185 = .ok (.iconst 2, 1) := by decide +kernel
theorem dL_law_186 : decode cL_law 186 = .ok (.iaload, 1) := by decide +kernel
theorem dL_law_187 : decode cL_law 187 = .ok (.imul, 1) := by decide +kernel
theorem dL_law_188 : decode cL_law 188 = .ok (.istore 18, 2) := by decide +kernel
theorem dL_law_190 : decode cL_law 190 = .ok (.iload 12, 2) := by decide +kernel
theorem dL_law_192 : decode cL_law 192 = .ok (.iconst 2, 1) := by decide +kernel
theorem dL_law_193 : decode cL_law 193 = .ok (.if_icmp .ge 59, 3) := by decide +kernel
theorem dL_law_196 : decode cL_law 196 = .ok (.aload 8, 2) := by decide +kernel
theorem dL_law_198 : decode cL_law 198 = .ok (.iconst 1, 1) := by decide +kernel
theorem dL_law_199 : decode cL_law 199 = .ok (.iaload, 1) := by decide +kernel
theorem dL_law_200 : decode cL_law 200 = .ok (.bipush 8, 2) := by decide +kernel
theorem dL_law_202 : decode cL_law 202 = .ok (.if_icmp .ne 6, 3) := by decide +kernel
theorem dL_law_205 : decode cL_law 205 = .ok (.goto 1887, 3) := by decide +kernel
theorem dL_law_208 : decode cL_law 208 = .ok (.aload 4, 2) := by decide +kernel
theorem dL_law_210 : decode cL_law 210 = .ok (.aload 8, 2) := by decide +kernel
theorem dL_law_212 : decode cL_law 212 = .ok (.iconst 1, 1) := by decide +kernel
theorem dL_law_213 : decode cL_law 213 = .ok (.iaload, 1) := by decide +kernel
theorem dL_law_214 : decode cL_law 214 = .ok (.aload 4, 2) := by decide +kernel
theorem dL_law_216 : decode cL_law 216 = .ok (.iload 13, 2) := by decide +kernel
theorem dL_law_218 : decode cL_law 218 = .ok (.iaload, 1) := by decide +kernel
theorem dL_law_219 : decode cL_law 219 = .ok (.iconst 1, 1) := by decide +kernel
theorem dL_law_220 : decode cL_law 220 = .ok (.aload 8, 2) := by decide +kernel
theorem dL_law_222 : decode cL_law 222 = .ok (.iconst 1, 1) := by decide +kernel
theorem dL_law_223 : decode cL_law 223 = .ok (.iaload, 1) := by decide +kernel
theorem dL_law_224 : decode cL_law 224 = .ok (.ishl, 1) := by decide +kernel
theorem dL_law_225 : decode cL_law 225 = .ok (.ior, 1) := by decide +kernel
theorem dL_law_226 : decode cL_law 226 = .ok (.iastore, 1) := by decide +kernel
theorem dL_law_227 : decode cL_law 227 = .ok (.aload 8, 2) := by decide +kernel
theorem dL_law_229 : decode cL_law 229 = .ok (.iconst 1, 1) := by decide +kernel
theorem dL_law_230 : decode cL_law 230 = .ok (.dup2, 1) := by decide +kernel
theorem dL_law_231 : decode cL_law 231 = .ok (.iaload, 1) := by decide +kernel
theorem dL_law_232 : decode cL_law 232 = .ok (.iconst 1, 1) := by decide +kernel
theorem dL_law_233 : decode cL_law 233 = .ok (.iadd, 1) := by decide +kernel
theorem dL_law_234 : decode cL_law 234 = .ok (.iastore, 1) := by decide +kernel
theorem dL_law_235 : decode cL_law 235 = .ok (.aload_n 1, 1) := by decide +kernel
theorem dL_law_236 : decode cL_law 236 = .ok (.iload 13, 2) := by decide +kernel
theorem dL_law_238 : decode cL_law 238 = .ok (.invokevirtual 87, 3) := by decide +kernel
theorem dL_law_241 : decode cL_law 241 = .ok (.aload 8, 2) := by decide +kernel
theorem dL_law_243 : decode cL_law 243 = .ok (.iconst 1, 1) := by decide +kernel
theorem dL_law_244 : decode cL_law 244 = .ok (.iaload, 1) := by decide +kernel
theorem dL_law_245 : decode cL_law 245 = .ok (.iconst 1, 1) := by decide +kernel
theorem dL_law_246 : decode cL_law 246 = .ok (.isub, 1) := by decide +kernel
theorem dL_law_247 : decode cL_law 247 = .ok (.if_icmp .eq 1793, 3) := by decide +kernel
theorem dL_law_250 : decode cL_law 250 = .ok (.iconst 0, 1) := by decide +kernel
theorem dL_law_251 : decode cL_law 251 = .ok (.ireturn, 1) := by decide +kernel
theorem dL_law_252 : decode cL_law 252 = .ok (.iload 12, 2) := by decide +kernel
theorem dL_law_254 : decode cL_law 254 = .ok (.iconst 2, 1) := by decide +kernel
theorem dL_law_255 : decode cL_law 255 = .ok (.if_icmp .ne 46, 3) := by decide +kernel
theorem dL_law_258 : decode cL_law 258 = .ok (.aload 5, 2) := by decide +kernel
theorem dL_law_260 : decode cL_law 260 = .ok (.iload 14, 2) := by decide +kernel
theorem dL_law_262 : decode cL_law 262 = .ok (.iaload, 1) := by decide +kernel
theorem dL_law_263 : decode cL_law 263 = .ok (.istore 19, 2) := by decide +kernel
theorem dL_law_265 : decode cL_law 265 = .ok (.aload 5, 2) := by decide +kernel
theorem dL_law_267 : decode cL_law 267 = .ok (.iload 14, 2) := by decide +kernel
theorem dL_law_269 : decode cL_law 269 = .ok (.iload 11, 2) := by decide +kernel
theorem dL_law_271 : decode cL_law 271 = .ok (.bipush 24, 2) := by decide +kernel
theorem dL_law_273 : decode cL_law 273 = .ok (.invokestatic 84, 3) := by decide +kernel
theorem dL_law_276 : decode cL_law 276 = .ok (.bipush 11, 2) := by decide +kernel
theorem dL_law_278 : decode cL_law 278 = .ok (.isub, 1) := by decide +kernel
theorem dL_law_279 : decode cL_law 279 = .ok (.iastore, 1) := by decide +kernel
theorem dL_law_280 : decode cL_law 280 = .ok (.aload_n 1, 1) := by decide +kernel
theorem dL_law_281 : decode cL_law 281 = .ok (.iload 14, 2) := by decide +kernel
theorem dL_law_283 : decode cL_law 283 = .ok (.aload 5, 2) := by decide +kernel
theorem dL_law_285 : decode cL_law 285 = .ok (.iload 14, 2) := by decide +kernel
theorem dL_law_287 : decode cL_law 287 = .ok (.iaload, 1) := by decide +kernel
theorem dL_law_288 : decode cL_law 288 = .ok (.invokevirtual 90, 3) := by decide +kernel
theorem dL_law_291 : decode cL_law 291 = .ok (.iload 19, 2) := by decide +kernel
theorem dL_law_293 : decode cL_law 293 = .ok (.if_icmp .eq 5, 3) := by decide +kernel
theorem dL_law_296 : decode cL_law 296 = .ok (.iconst 0, 1) := by decide +kernel
theorem dL_law_297 : decode cL_law 297 = .ok (.ireturn, 1) := by decide +kernel
theorem dL_law_298 : decode cL_law 298 = .ok (.goto 1742, 3) := by decide +kernel
theorem dL_law_301 : decode cL_law 301 = .ok (.iload 12, 2) := by decide +kernel
theorem dL_law_303 : decode cL_law 303 = .ok (.iconst 3, 1) := by decide +kernel
theorem dL_law_304 : decode cL_law 304 = .ok (.if_icmp .ne 61, 3) := by decide +kernel
theorem dL_law_307 : decode cL_law 307 = .ok (.iload 11, 2) := by decide +kernel
theorem dL_law_309 : decode cL_law 309 = .ok (.bipush 30, 2) := by decide +kernel
theorem dL_law_311 : decode cL_law 311 = .ok (.invokestatic 84, 3) := by decide +kernel
theorem dL_law_314 : decode cL_law 314 = .ok (.istore 19, 2) := by decide +kernel
theorem dL_law_316 : decode cL_law 316 = .ok (.aload 6, 2) := by decide +kernel
theorem dL_law_318 : decode cL_law 318 = .ok (.iload 14, 2) := by decide +kernel
theorem dL_law_320 : decode cL_law 320 = .ok (.dup2, 1) := by decide +kernel
theorem dL_law_321 : decode cL_law 321 = .ok (.iaload, 1) := by decide +kernel
theorem dL_law_322 : decode cL_law 322 = .ok (.iconst 1, 1) := by decide +kernel
theorem dL_law_323 : decode cL_law 323 = .ok (.iload 19, 2) := by decide +kernel
theorem dL_law_325 : decode cL_law 325 = .ok (.ishl, 1) := by decide +kernel
theorem dL_law_326 : decode cL_law 326 = .ok (.ixor, 1) := by decide +kernel
theorem dL_law_327 : decode cL_law 327 = .ok (.iastore, 1) := by decide +kernel
theorem dL_law_328 : decode cL_law 328 = .ok (.aload_n 1, 1) := by decide +kernel
theorem dL_law_329 : decode cL_law 329 = .ok (.iload 14, 2) := by decide +kernel
theorem dL_law_331 : decode cL_law 331 = .ok (.iload 19, 2) := by decide +kernel
theorem dL_law_333 : decode cL_law 333 = .ok (.iconst 1, 1) := by decide +kernel
theorem dL_law_334 : decode cL_law 334 = .ok (.isub, 1) := by decide +kernel
theorem dL_law_335 : decode cL_law 335 = .ok (.invokevirtual 93, 3) := by decide +kernel
theorem dL_law_338 : decode cL_law 338 = .ok (.aload 6, 2) := by decide +kernel
theorem dL_law_340 : decode cL_law 340 = .ok (.iload 14, 2) := by decide +kernel
theorem dL_law_342 : decode cL_law 342 = .ok (.iaload, 1) := by decide +kernel
theorem dL_law_343 : decode cL_law 343 = .ok (.iload 19, 2) := by decide +kernel
theorem dL_law_345 : decode cL_law 345 = .ok (.ishr, 1) := by decide +kernel
theorem dL_law_346 : decode cL_law 346 = .ok (.iconst 1, 1) := by decide +kernel
theorem dL_law_347 : decode cL_law 347 = .ok (.iand, 1) := by decide +kernel
theorem dL_law_348 : decode cL_law 348 = .ok (.iconst 1, 1) := by decide +kernel
theorem dL_law_349 : decode cL_law 349 = .ok (.if_icmp .ne 7, 3) := by decide +kernel
theorem dL_law_352 : decode cL_law 352 = .ok (.iconst 1, 1) := by decide +kernel
theorem dL_law_353 : decode cL_law 353 = .ok (.goto 4, 3) := by decide +kernel
theorem dL_law_356 : decode cL_law 356 = .ok (.iconst 0, 1) := by decide +kernel
theorem dL_law_357 : decode cL_law 357 = .ok (.if_icmp .eq 5, 3) := by decide +kernel
theorem dL_law_360 : decode cL_law 360 = .ok (.iconst 0, 1) := by decide +kernel
theorem dL_law_361 : decode cL_law 361 = .ok (.ireturn, 1) := by decide +kernel
theorem dL_law_362 : decode cL_law 362 = .ok (.goto 1678, 3) := by decide +kernel
theorem dL_law_365 : decode cL_law 365 = .ok (.iload 12, 2) := by decide +kernel
theorem dL_law_367 : decode cL_law 367 = .ok (.bipush 7, 2) := by decide +kernel
theorem dL_law_369 : decode cL_law 369 = .ok (.if_icmp .ge 305, 3) := by decide +kernel
theorem dL_law_372 : decode cL_law 372 = .ok (.aload 8, 2) := by decide +kernel
theorem dL_law_374 : decode cL_law 374 = .ok (.iconst 2, 1) := by decide +kernel
theorem dL_law_375 : decode cL_law 375 = .ok (.iaload, 1) := by decide +kernel
theorem dL_law_376 : decode cL_law 376 = .ok (.bipush 6, 2) := by decide +kernel
theorem dL_law_378 : decode cL_law 378 = .ok (.if_icmp .ne 6, 3) := by decide +kernel
theorem dL_law_381 : decode cL_law 381 = .ok (.goto 1711, 3) := by decide +kernel
theorem dL_law_384 : decode cL_law 384 = .ok (.aload_n 2, 1) := by decide +kernel
theorem dL_law_385 : decode cL_law 385 = .ok (.iload 18, 2) := by decide +kernel
theorem dL_law_387 : decode cL_law 387 = .ok (.iconst 1, 1) := by decide +kernel
theorem dL_law_388 : decode cL_law 388 = .ok (.iastore, 1) := by decide +kernel
theorem dL_law_389 : decode cL_law 389 = .ok (.aload_n 2, 1) := by decide +kernel
theorem dL_law_390 : decode cL_law 390 = .ok (.iload 18, 2) := by decide +kernel
theorem dL_law_392 : decode cL_law 392 = .ok (.iconst 1, 1) := by decide +kernel
theorem dL_law_393 : decode cL_law 393 = .ok (.iadd, 1) := by decide +kernel
theorem dL_law_394 : decode cL_law 394 = .ok (.iload 12, 2) := by decide +kernel
theorem dL_law_396 : decode cL_law 396 = .ok (.iconst 4, 1) := by decide +kernel
theorem dL_law_397 : decode cL_law 397 = .ok (.isub, 1) := by decide +kernel
theorem dL_law_398 : decode cL_law 398 = .ok (.iastore, 1) := by decide +kernel
theorem dL_law_399 : decode cL_law 399 = .ok (.aload_n 2, 1) := by decide +kernel
theorem dL_law_400 : decode cL_law 400 = .ok (.iload 18, 2) := by decide +kernel
theorem dL_law_402 : decode cL_law 402 = .ok (.iconst 2, 1) := by decide +kernel
theorem dL_law_403 : decode cL_law 403 = .ok (.iadd, 1) := by decide +kernel
theorem dL_law_404 : decode cL_law 404 = .ok (.iload 13, 2) := by decide +kernel
theorem dL_law_406 : decode cL_law 406 = .ok (.iastore, 1) := by decide +kernel
theorem dL_law_407 : decode cL_law 407 = .ok (.aload_n 2, 1) := by decide +kernel
theorem dL_law_408 : decode cL_law 408 = .ok (.iload 18, 2) := by decide +kernel
theorem dL_law_410 : decode cL_law 410 = .ok (.iconst 3, 1) := by decide +kernel
theorem dL_law_411 : decode cL_law 411 = .ok (.iadd, 1) := by decide +kernel
theorem dL_law_412 : decode cL_law 412 = .ok (.iload 12, 2) := by decide +kernel
theorem dL_law_414 : decode cL_law 414 = .ok (.iconst 4, 1) := by decide +kernel
theorem dL_law_415 : decode cL_law 415 = .ok (.if_icmp .ne 7, 3) := by decide +kernel
theorem dL_law_418 : decode cL_law 418 = .ok (.iconst 0, 1) := by decide +kernel
theorem dL_law_419 : decode cL_law 419 = .ok (.goto 5, 3) := by decide +kernel
theorem dL_law_422 : decode cL_law 422 = .ok (.iload 14, 2) := by decide +kernel
theorem dL_law_424 : decode cL_law 424 = .ok (.iastore, 1) := by decide +kernel
theorem dL_law_425 : decode cL_law 425 = .ok (.aload_n 2, 1) := by decide +kernel
theorem dL_law_426 : decode cL_law 426 = .ok (.iload 18, 2) := by decide +kernel
theorem dL_law_428 : decode cL_law 428 = .ok (.iconst 4, 1) := by decide +kernel
theorem dL_law_429 : decode cL_law 429 = .ok (.iadd, 1) := by decide +kernel
theorem dL_law_430 : decode cL_law 430 = .ok (.iload 12, 2) := by decide +kernel
theorem dL_law_432 : decode cL_law 432 = .ok (.iconst 4, 1) := by decide +kernel
theorem dL_law_433 : decode cL_law 433 = .ok (.if_icmp .ne 14, 3) := by decide +kernel
theorem dL_law_436 : decode cL_law 436 = .ok (.iload 11, 2) := by decide +kernel
theorem dL_law_438 : decode cL_law 438 = .ok (.sipush 672, 3) := by decide +kernel
theorem dL_law_441 : decode cL_law 441 = .ok (.invokestatic 84, 3) := by decide +kernel
theorem dL_law_444 : decode cL_law 444 = .ok (.goto 10, 3) := by decide +kernel
theorem dL_law_447 : decode cL_law 447 = .ok (.iload 11, 2) := by decide +kernel
theorem dL_law_449 : decode cL_law 449 = .ok (.bipush 24, 2) := by decide +kernel
theorem dL_law_451 : decode cL_law 451 = .ok (.invokestatic 84, 3) := by decide +kernel
theorem dL_law_454 : decode cL_law 454 = .ok (.iastore, 1) := by decide +kernel
theorem dL_law_455 : decode cL_law 455 = .ok (.aload_n 2, 1) := by decide +kernel
theorem dL_law_456 : decode cL_law 456 = .ok (.iload 18, 2) := by decide +kernel
theorem dL_law_458 : decode cL_law 458 = .ok (.iconst 5, 1) := by decide +kernel
theorem dL_law_459 : decode cL_law 459 = .ok (.iadd, 1) := by decide +kernel
theorem dL_law_460 : decode cL_law 460 = .ok (.iload 12, 2) := by decide +kernel
theorem dL_law_462 : decode cL_law 462 = .ok (.iconst 4, 1) := by decide +kernel
theorem dL_law_463 : decode cL_law 463 = .ok (.if_icmp .ne 33, 3) := by decide +kernel
theorem dL_law_466 : decode cL_law 466 = .ok (.aload_n 2, 1) := by decide +kernel
theorem dL_law_467 : decode cL_law 467 = .ok (.iload 18, 2) := by decide +kernel
theorem dL_law_469 : decode cL_law 469 = .ok (.iconst 4, 1) := by decide +kernel
theorem dL_law_470 : decode cL_law 470 = .ok (.iadd, 1) := by decide +kernel
theorem dL_law_471 : decode cL_law 471 = .ok (.iaload, 1) := by decide +kernel
theorem dL_law_472 : decode cL_law 472 = .ok (.iconst 1, 1) := by decide +kernel
theorem dL_law_473 : decode cL_law 473 = .ok (.iadd, 1) := by decide +kernel
theorem dL_law_474 : decode cL_law 474 = .ok (.iload 11, 2) := by decide +kernel
theorem dL_law_476 : decode cL_law 476 = .ok (.bipush 12, 2) := by decide +kernel
theorem dL_law_478 : decode cL_law 478 = .ok (.ishr, 1) := by decide +kernel
theorem dL_law_479 : decode cL_law 479 = .ok (.sipush 672, 3) := by decide +kernel
theorem dL_law_482 : decode cL_law 482 = .ok (.aload_n 2, 1) := by decide +kernel
theorem dL_law_483 : decode cL_law 483 = .ok (.iload 18, 2) := by decide +kernel
theorem dL_law_485 : decode cL_law 485 = .ok (.iconst 4, 1) := by decide +kernel
theorem dL_law_486 : decode cL_law 486 = .ok (.iadd, 1) := by decide +kernel
theorem dL_law_487 : decode cL_law 487 = .ok (.iaload, 1) := by decide +kernel
theorem dL_law_488 : decode cL_law 488 = .ok (.isub, 1) := by decide +kernel
theorem dL_law_489 : decode cL_law 489 = .ok (.invokestatic 84, 3) := by decide +kernel
theorem dL_law_492 : decode cL_law 492 = .ok (.iadd, 1) := by decide +kernel
theorem dL_law_493 : decode cL_law 493 = .ok (.goto 13, 3) := by decide +kernel
theorem dL_law_496 : decode cL_law 496 = .ok (.iload 11, 2) := by decide +kernel
theorem dL_law_498 : decode cL_law 498 = .ok (.bipush 8, 2) := by decide +kernel
theorem dL_law_500 : decode cL_law 500 = .ok (.ishr, 1) := by decide +kernel
theorem dL_law_501 : decode cL_law 501 = .ok (.bipush 24, 2) := by decide +kernel
theorem dL_law_503 : decode cL_law 503 = .ok (.invokestatic 84, 3) := by decide +kernel
theorem dL_law_506 : decode cL_law 506 = .ok (.iastore, 1) := by decide +kernel
theorem dL_law_507 : decode cL_law 507 = .ok (.aload_n 2, 1) := by decide +kernel
theorem dL_law_508 : decode cL_law 508 = .ok (.iload 18, 2) := by decide +kernel
theorem dL_law_510 : decode cL_law 510 = .ok (.bipush 6, 2) := by decide +kernel
theorem dL_law_512 : decode cL_law 512 = .ok (.iadd, 1) := by decide +kernel
theorem dL_law_513 : decode cL_law 513 = .ok (.iload 15, 2) := by decide +kernel
theorem dL_law_515 : decode cL_law 515 = .ok (.iastore, 1) := by decide +kernel
theorem dL_law_516 : decode cL_law 516 = .ok (.aload 8, 2) := by decide +kernel
theorem dL_law_518 : decode cL_law 518 = .ok (.iconst 2, 1) := by decide +kernel
theorem dL_law_519 : decode cL_law 519 = .ok (.dup2, 1) := by decide +kernel
theorem dL_law_520 : decode cL_law 520 = .ok (.iaload, 1) := by decide +kernel
theorem dL_law_521 : decode cL_law 521 = .ok (.iconst 1, 1) := by decide +kernel
theorem dL_law_522 : decode cL_law 522 = .ok (.iadd, 1) := by decide +kernel
theorem dL_law_523 : decode cL_law 523 = .ok (.iastore, 1) := by decide +kernel
theorem dL_law_524 : decode cL_law 524 = .ok (.iload 12, 2) := by decide +kernel
theorem dL_law_526 : decode cL_law 526 = .ok (.iconst 4, 1) := by decide +kernel
theorem dL_law_527 : decode cL_law 527 = .ok (.if_icmp .ne 26, 3) := by decide +kernel
theorem dL_law_530 : decode cL_law 530 = .ok (.aload_n 1, 1) := by decide +kernel
theorem dL_law_531 : decode cL_law 531 = .ok (.iload 13, 2) := by decide +kernel
theorem dL_law_533 : decode cL_law 533 = .ok (.aload_n 2, 1) := by decide +kernel
theorem dL_law_534 : decode cL_law 534 = .ok (.iload 18, 2) := by decide +kernel
theorem dL_law_536 : decode cL_law 536 = .ok (.iconst 4, 1) := by decide +kernel
theorem dL_law_537 : decode cL_law 537 = .ok (.iadd, 1) := by decide +kernel
theorem dL_law_538 : decode cL_law 538 = .ok (.iaload, 1) := by decide +kernel
theorem dL_law_539 : decode cL_law 539 = .ok (.aload_n 2, 1) := by decide +kernel
theorem dL_law_540 : decode cL_law 540 = .ok (.iload 18, 2) := by decide +kernel
theorem dL_law_542 : decode cL_law 542 = .ok (.iconst 5, 1) := by decide +kernel
theorem dL_law_543 : decode cL_law 543 = .ok (.iadd, 1) := by decide +kernel
theorem dL_law_544 : decode cL_law 544 = .ok (.iaload, 1) := by decide +kernel
theorem dL_law_545 : decode cL_law 545 = .ok (.iload 15, 2) := by decide +kernel
theorem dL_law_547 : decode cL_law 547 = .ok (.invokevirtual 97, 3) := by decide +kernel
theorem dL_law_550 : decode cL_law 550 = .ok (.goto 44, 3) := by decide +kernel
theorem dL_law_553 : decode cL_law 553 = .ok (.iload 12, 2) := by decide +kernel
theorem dL_law_555 : decode cL_law 555 = .ok (.iconst 5, 1) := by decide +kernel
theorem dL_law_556 : decode cL_law 556 = .ok (.if_icmp .ne 28, 3) := by decide +kernel
theorem dL_law_559 : decode cL_law 559 = .ok (.aload_n 1, 1) := by decide +kernel
theorem dL_law_560 : decode cL_law 560 = .ok (.iload 13, 2) := by decide +kernel
theorem dL_law_562 : decode cL_law 562 = .ok (.iload 14, 2) := by decide +kernel
theorem dL_law_564 : decode cL_law 564 = .ok (.aload_n 2, 1) := by decide +kernel
theorem dL_law_565 : decode cL_law 565 = .ok (.iload 18, 2) := by decide +kernel
theorem dL_law_567 : decode cL_law 567 = .ok (.iconst 4, 1) := by decide +kernel
theorem dL_law_568 : decode cL_law 568 = .ok (.iadd, 1) := by decide +kernel
theorem dL_law_569 : decode cL_law 569 = .ok (.iaload, 1) := by decide +kernel
theorem dL_law_570 : decode cL_law 570 = .ok (.aload_n 2, 1) := by decide +kernel
theorem dL_law_571 : decode cL_law 571 = .ok (.iload 18, 2) := by decide +kernel
theorem dL_law_573 : decode cL_law 573 = .ok (.iconst 5, 1) := by decide +kernel
theorem dL_law_574 : decode cL_law 574 = .ok (.iadd, 1) := by decide +kernel
theorem dL_law_575 : decode cL_law 575 = .ok (.iaload, 1) := by decide +kernel
theorem dL_law_576 : decode cL_law 576 = .ok (.iload 15, 2) := by decide +kernel
theorem dL_law_578 : decode cL_law 578 = .ok (.invokevirtual 101, 3) := by decide +kernel
theorem dL_law_581 : decode cL_law 581 = .ok (.goto 13, 3) := by decide +kernel
theorem dL_law_584 : decode cL_law 584 = .ok (.aload_n 1, 1) := by decide +kernel
theorem dL_law_585 : decode cL_law 585 = .ok (.iload 13, 2) := by decide +kernel
theorem dL_law_587 : decode cL_law 587 = .ok (.iload 14, 2) := by decide +kernel
theorem dL_law_589 : decode cL_law 589 = .ok (.iload 15, 2) := by decide +kernel
theorem dL_law_591 : decode cL_law 591 = .ok (.invokevirtual 105, 3) := by decide +kernel
theorem dL_law_594 : decode cL_law 594 = .ok (.istore 19, 2) := by decide +kernel
theorem dL_law_596 : decode cL_law 596 = .ok (.iload 19, 2) := by decide +kernel
theorem dL_law_598 : decode cL_law 598 = .ok (.aload 8, 2) := by decide +kernel
theorem dL_law_600 : decode cL_law 600 = .ok (.iconst 2, 1) := by decide +kernel
theorem dL_law_601 : decode cL_law 601 = .ok (.iaload, 1) := by decide +kernel
theorem dL_law_602 : decode cL_law 602 = .ok (.iconst 1, 1) := by decide +kernel
theorem dL_law_603 : decode cL_law 603 = .ok (.isub, 1) := by decide +kernel
theorem dL_law_604 : decode cL_law 604 = .ok (.if_icmp .eq 5, 3) := by decide +kernel
theorem dL_law_607 : decode cL_law 607 = .ok (.iconst 0, 1) := by decide +kernel
theorem dL_law_608 : decode cL_law 608 = .ok (.ireturn, 1) := by decide +kernel
theorem dL_law_609 : decode cL_law 609 = .ok (.iconst 0, 1) := by decide +kernel
theorem dL_law_610 : decode cL_law 610 = .ok (.istore 20, 2) := by decide +kernel
theorem dL_law_612 : decode cL_law 612 = .ok (.iconst 0, 1) := by decide +kernel
theorem dL_law_613 : decode cL_law 613 = .ok (.istore 21, 2) := by decide +kernel
theorem dL_law_615 : decode cL_law 615 = .ok (.iload 21, 2) := by decide +kernel
theorem dL_law_617 : decode cL_law 617 = .ok (.sipush 672, 3) := by decide +kernel
theorem dL_law_620 : decode cL_law 620 = .ok (.if_icmp .ge 38, 3) := by decide +kernel
theorem dL_law_623 : decode cL_law 623 = .ok (.iload 20, 2) := by decide +kernel
theorem dL_law_625 : decode cL_law 625 = .ok (.aload_n 2, 1) := by decide +kernel
theorem dL_law_626 : decode cL_law 626 = .ok (.aload 8, 2) := by decide +kernel
theorem dL_law_628 : decode cL_law 628 = .ok (.iconst 2, 1) := by decide +kernel
theorem dL_law_629 : decode cL_law 629 = .ok (.iaload, 1) := by decide +kernel
theorem dL_law_630 : decode cL_law 630 = .ok (.iconst 1, 1) := by decide +kernel
theorem dL_law_631 : decode cL_law 631 = .ok (.isub, 1) := by decide +kernel
theorem dL_law_632 : decode cL_law 632 = .ok (.iload 21, 2) := by decide +kernel
theorem dL_law_634 : decode cL_law 634 = .ok (.aload 5, 2) := by decide +kernel
theorem dL_law_636 : decode cL_law 636 = .ok (.aload 6, 2) := by decide +kernel
theorem dL_law_638 : decode cL_law 638 = .ok (.invokestatic 20, 3) := by decide +kernel
theorem dL_law_641 : decode cL_law 641 = .ok (.ifCond .eq 7, 3) := by decide +kernel
theorem dL_law_644 : decode cL_law 644 = .ok (.iconst 1, 1) := by decide +kernel
theorem dL_law_645 : decode cL_law 645 = .ok (.goto 4, 3) := by decide +kernel
theorem dL_law_648 : decode cL_law 648 = .ok (.iconst 0, 1) := by decide +kernel
theorem dL_law_649 : decode cL_law 649 = .ok (.iadd, 1) := by decide +kernel
theorem dL_law_650 : decode cL_law 650 = .ok (.istore 20, 2) := by decide +kernel
theorem dL_law_652 : decode cL_law 652 = .ok (.iinc 21 1, 3) := by decide +kernel
theorem dL_law_655 : decode cL_law 655 = .ok (.goto (-40), 3) := by decide +kernel
theorem dL_law_658 : decode cL_law 658 = .ok (.aload_n 1, 1) := by decide +kernel
theorem dL_law_659 : decode cL_law 659 = .ok (.iload 19, 2) := by decide +kernel
theorem dL_law_661 : decode cL_law 661 = .ok (.invokevirtual 46, 3) := by decide +kernel
theorem dL_law_664 : decode cL_law 664 = .ok (.iload 20, 2) := by decide +kernel
theorem dL_law_666 : decode cL_law 666 = .ok (.if_icmp .eq 5, 3) := by decide +kernel
theorem dL_law_669 : decode cL_law 669 = .ok (.iconst 0, 1) := by decide +kernel
theorem dL_law_670 : decode cL_law 670 = .ok (.ireturn, 1) := by decide +kernel
theorem dL_law_671 : decode cL_law 671 = .ok (.goto 1369, 3) := by decide +kernel
theorem dL_law_674 : decode cL_law 674 = .ok (.iload 12, 2) := by decide +kernel
theorem dL_law_676 : decode cL_law 676 = .ok (.bipush 7, 2) := by decide +kernel
theorem dL_law_678 : decode cL_law 678 = .ok (.if_icmp .ne 116, 3) := by decide +kernel
theorem dL_law_681 : decode cL_law 681 = .ok (.iload 11, 2) := by decide +kernel
theorem dL_law_683 : decode cL_law 683 = .ok (.iconst 3, 1) := by decide +kernel
theorem dL_law_684 : decode cL_law 684 = .ok (.invokestatic 84, 3) := by decide +kernel
theorem dL_law_687 : decode cL_law 687 = .ok (.ifCond .le 6, 3) := by decide +kernel
theorem dL_law_690 : decode cL_law 690 = .ok (.goto 1402, 3) := by decide +kernel
theorem dL_law_693 : decode cL_law 693 = .ok (.aload 8, 2) := by decide +kernel
theorem dL_law_695 : decode cL_law 695 = .ok (.iconst 2, 1) := by decide +kernel
theorem dL_law_696 : decode cL_law 696 = .ok (.iaload, 1) := by decide +kernel
theorem dL_law_697 : decode cL_law 697 = .ok (.ifCond .eq 13, 3) := by decide +kernel
theorem dL_law_700 : decode cL_law 700 = .ok (.aload_n 2, 1) := by decide +kernel
theorem dL_law_701 : decode cL_law 701 = .ok (.bipush 7, 2) := by decide +kernel
theorem dL_law_703 : decode cL_law 703 = .ok (.iload 17, 2) := by decide +kernel
theorem dL_law_705 : decode cL_law 705 = .ok (.imul, 1) := by decide +kernel
theorem dL_law_706 : decode cL_law 706 = .ok (.iaload, 1) := by decide +kernel
theorem dL_law_707 : decode cL_law 707 = .ok (.ifCond .ne 30, 3) := by decide +kernel
theorem dL_law_710 : decode cL_law 710 = .ok (.aload_n 1, 1) := by decide +kernel
theorem dL_law_711 : decode cL_law 711 = .ok (.iconst 3, 1) := by decide +kernel
theorem dL_law_712 : decode cL_law 712 = .ok (.iload 17, 2) := by decide +kernel
theorem dL_law_714 : decode cL_law 714 = .ok (.iconst 0, 1) := by decide +kernel
theorem dL_law_715 : decode cL_law 715 = .ok (.invokestatic 109, 3) := by decide +kernel
theorem dL_law_718 : decode cL_law 718 = .ok (.iconst 2, 1) := by decide +kernel
theorem dL_law_719 : decode cL_law 719 = .ok (.if_icmp .ne 16, 3) := by decide +kernel
theorem dL_law_722 : decode cL_law 722 = .ok (.aload_n 1, 1) := by decide +kernel
theorem dL_law_723 : decode cL_law 723 = .ok (.bipush 6, 2) := by decide +kernel
theorem dL_law_725 : decode cL_law 725 = .ok (.iload 17, 2) := by decide +kernel
theorem dL_law_727 : decode cL_law 727 = .ok (.iconst 0, 1) := by decide +kernel
theorem dL_law_728 : decode cL_law 728 = .ok (.invokestatic 109, 3) := by decide +kernel
theorem dL_law_731 : decode cL_law 731 = .ok (.iconst 2, 1) := by decide +kernel
theorem dL_law_732 : decode cL_law 732 = .ok (.if_icmp .eq 1360, 3) := by decide +kernel
theorem dL_law_735 : decode cL_law 735 = .ok (.iconst 0, 1) := by decide +kernel
theorem dL_law_736 : decode cL_law 736 = .ok (.ireturn, 1) := by decide +kernel
theorem dL_law_737 : decode cL_law 737 = .ok (.aload_n 2, 1) := by decide +kernel
theorem dL_law_738 : decode cL_law 738 = .ok (.bipush 7, 2) := by decide +kernel
theorem dL_law_740 : decode cL_law 740 = .ok (.iload 17, 2) := by decide +kernel
theorem dL_law_742 : decode cL_law 742 = .ok (.imul, 1) := by decide +kernel
theorem dL_law_743 : decode cL_law 743 = .ok (.iconst 0, 1) := by decide +kernel
theorem dL_law_744 : decode cL_law 744 = .ok (.iastore, 1) := by decide +kernel
end
section
theorem dL_law_745 : decode cL_law 745 = .ok (.iconst 0, 1) := by decide +kernel
theorem dL_law_746 : decode cL_law 746 = .ok (.istore 19, 2) := by decide +kernel
theorem dL_law_748 : decode cL_law 748 = .ok (.iconst 0, 1) := by decide +kernel
theorem dL_law_749 : decode cL_law 749 = .ok (.istore 20, 2) := by decide +kernel
theorem dL_law_751 : decode cL_law 751 = .ok (.iload 20, 2) := by decide +kernel
theorem dL_law_753 : decode cL_law 753 = .ok (.aload 8, 2) := by decide +kernel
theorem dL_law_755 : decode cL_law 755 = .ok (.iconst 2, 1) := by decide +kernel
theorem dL_law_756 : decode cL_law 756 = .ok (.iaload, 1) := by decide +kernel
theorem dL_law_757 : decode cL_law 757 = .ok (.if_icmp .ge 21, 3) := by decide +kernel
theorem dL_law_760 : decode cL_law 760 = .ok (.iload 19, 2) := by decide +kernel
theorem dL_law_762 : decode cL_law 762 = .ok (.aload_n 2, 1) := by decide +kernel
theorem dL_law_763 : decode cL_law 763 = .ok (.bipush 7, 2) := by decide +kernel
theorem dL_law_765 : decode cL_law 765 = .ok (.iload 20, 2) := by decide +kernel
theorem dL_law_767 : decode cL_law 767 = .ok (.imul, 1) := by decide +kernel
theorem dL_law_768 : decode cL_law 768 = .ok (.iaload, 1) := by decide +kernel
theorem dL_law_769 : decode cL_law 769 = .ok (.iadd, 1) := by decide +kernel
theorem dL_law_770 : decode cL_law 770 = .ok (.istore 19, 2) := by decide +kernel
theorem dL_law_772 : decode cL_law 772 = .ok (.iinc 20 1, 3) := by decide +kernel
theorem dL_law_775 : decode cL_law 775 = .ok (.goto (-24), 3) := by decide +kernel
theorem dL_law_778 : decode cL_law 778 = .ok (.aload_n 1, 1) := by decide +kernel
theorem dL_law_779 : decode cL_law 779 = .ok (.iload 17, 2) := by decide +kernel
theorem dL_law_781 : decode cL_law 781 = .ok (.invokevirtual 37, 3) := by decide +kernel
theorem dL_law_784 : decode cL_law 784 = .ok (.iload 19, 2) := by decide +kernel
theorem dL_law_786 : decode cL_law 786 = .ok (.if_icmp .eq 5, 3) := by decide +kernel
theorem dL_law_789 : decode cL_law 789 = .ok (.iconst 0, 1) := by decide +kernel
theorem dL_law_790 : decode cL_law 790 = .ok (.ireturn, 1) := by decide +kernel
theorem dL_law_791 : decode cL_law 791 = .ok (.goto 1249, 3) := by decide +kernel
theorem dL_law_794 : decode cL_law 794 = .ok (.iload 12, 2) := by decide +kernel
theorem dL_law_796 : decode cL_law 796 = .ok (.bipush 10, 2) := by decide +kernel
theorem dL_law_798 : decode cL_law 798 = .ok (.if_icmp .ge 181, 3) := by decide +kernel
theorem dL_law_801 : decode cL_law 801 = .ok (.iconst 1, 1) := by decide +kernel
theorem dL_law_802 : decode cL_law 802 = .ok (.iload 11, 2) := by decide +kernel
theorem dL_law_804 : decode cL_law 804 = .ok (.bipush 9, 2) := by decide +kernel
theorem dL_law_806 : decode cL_law 806 = .ok (.ishr, 1) := by decide +kernel
theorem dL_law_807 : decode cL_law 807 = .ok (.bipush 30, 2) := by decide +kernel
theorem dL_law_809 : decode cL_law 809 = .ok (.invokestatic 84, 3) := by decide +kernel
theorem dL_law_812 : decode cL_law 812 = .ok (.iadd, 1) := by decide +kernel
theorem dL_law_813 : decode cL_law 813 = .ok (.istore 19, 2) := by decide +kernel
theorem dL_law_815 : decode cL_law 815 = .ok (.aload 8, 2) := by decide +kernel
theorem dL_law_817 : decode cL_law 817 = .ok (.iconst 3, 1) := by decide +kernel
theorem dL_law_818 : decode cL_law 818 = .ok (.iaload, 1) := by decide +kernel
theorem dL_law_819 : decode cL_law 819 = .ok (.bipush 6, 2) := by decide +kernel
theorem dL_law_821 : decode cL_law 821 = .ok (.if_icmp .eq 1271, 3) := by decide +kernel
theorem dL_law_824 : decode cL_law 824 = .ok (.aload 8, 2) := by decide +kernel
theorem dL_law_826 : decode cL_law 826 = .ok (.iconst 0, 1) := by decide +kernel
theorem dL_law_827 : decode cL_law 827 = .ok (.iaload, 1) := by decide +kernel
theorem dL_law_828 : decode cL_law 828 = .ok (.iload 19, 2) := by decide +kernel
theorem dL_law_830 : decode cL_law 830 = .ok (.iadd, 1) := by decide +kernel
theorem dL_law_831 : decode cL_law 831 = .ok (.sipush 672, 3) := by decide +kernel
theorem dL_law_834 : decode cL_law 834 = .ok (.if_icmp .le 6, 3) := by decide +kernel
theorem dL_law_837 : decode cL_law 837 = .ok (.goto 1255, 3) := by decide +kernel
theorem dL_law_840 : decode cL_law 840 = .ok (.bipush 7, 2) := by decide +kernel
theorem dL_law_842 : decode cL_law 842 = .ok (.aload 8, 2) := by decide +kernel
theorem dL_law_844 : decode cL_law 844 = .ok (.iconst 3, 1) := by decide +kernel
theorem dL_law_845 : decode cL_law 845 = .ok (.iaload, 1) := by decide +kernel
theorem dL_law_846 : decode cL_law 846 = .ok (.imul, 1) := by decide +kernel
theorem dL_law_847 : decode cL_law 847 = .ok (.istore 20, 2) := by decide +kernel
theorem dL_law_849 : decode cL_law 849 = .ok (.aload_n 3, 1) := by decide +kernel
theorem dL_law_850 : decode cL_law 850 = .ok (.iload 20, 2) := by decide +kernel
theorem dL_law_852 : decode cL_law 852 = .ok (.iload 13, 2) := by decide +kernel
theorem dL_law_854 : decode cL_law 854 = .ok (.iastore, 1) := by decide +kernel
theorem dL_law_855 : decode cL_law 855 = .ok (.aload_n 3, 1) := by decide +kernel
theorem dL_law_856 : decode cL_law 856 = .ok (.iload 20, 2) := by decide +kernel
theorem dL_law_858 : decode cL_law 858 = .ok (.iconst 1, 1) := by decide +kernel
theorem dL_law_859 : decode cL_law 859 = .ok (.iadd, 1) := by decide +kernel
theorem dL_law_860 : decode cL_law 860 = .ok (.aload 8, 2) := by decide +kernel
theorem dL_law_862 : decode cL_law 862 = .ok (.iconst 0, 1) := by decide +kernel
theorem dL_law_863 : decode cL_law 863 = .ok (.iaload, 1) := by decide +kernel
theorem dL_law_864 : decode cL_law 864 = .ok (.iload 11, 2) := by decide +kernel
theorem dL_law_866 : decode cL_law 866 = .ok (.sipush 673, 3) := by decide +kernel
theorem dL_law_869 : decode cL_law 869 = .ok (.iload 19, 2) := by decide +kernel
theorem dL_law_871 : decode cL_law 871 = .ok (.isub, 1) := by decide +kernel
theorem dL_law_872 : decode cL_law 872 = .ok (.aload 8, 2) := by decide +kernel
theorem dL_law_874 : decode cL_law 874 = .ok (.iconst 0, 1) := by decide +kernel
theorem dL_law_875 : decode cL_law 875 = .ok (.iaload, 1) := by decide +kernel
theorem dL_law_876 : decode cL_law 876 = .ok (.isub, 1) := by decide +kernel
theorem dL_law_877 : decode cL_law 877 = .ok (.bipush 20, 2) := by decide +kernel
theorem dL_law_879 : decode cL_law 879 = .ok (.if_icmp .ge 17, 3) := by decide +kernel
theorem dL_law_882 : decode cL_law 882 = .ok (.sipush 673, 3) := by decide +kernel
theorem dL_law_885 : decode cL_law 885 = .ok (.iload 19, 2) := by decide +kernel
theorem dL_law_887 : decode cL_law 887 = .ok (.isub, 1) := by decide +kernel
theorem dL_law_888 : decode cL_law 888 = .ok (.aload 8, 2) := by decide +kernel
theorem dL_law_890 : decode cL_law 890 = .ok (.iconst 0, 1) := by decide +kernel
theorem dL_law_891 : decode cL_law 891 = .ok (.iaload, 1) := by decide +kernel
theorem dL_law_892 : decode cL_law 892 = .ok (.isub, 1) := by decide +kernel
theorem dL_law_893 : decode cL_law 893 = .ok (.goto 5, 3) := by decide +kernel
theorem dL_law_896 : decode cL_law 896 = .ok (.bipush 20, 2) := by decide +kernel
theorem dL_law_898 : decode cL_law 898 = .ok (.invokestatic 84, 3) := by decide +kernel
theorem dL_law_901 : decode cL_law 901 = .ok (.iadd, 1) := by decide +kernel
theorem dL_law_902 : decode cL_law 902 = .ok (.iastore, 1) := by decide +kernel
theorem dL_law_903 : decode cL_law 903 = .ok (.aload_n 3, 1) := by decide +kernel
theorem dL_law_904 : decode cL_law 904 = .ok (.iload 20, 2) := by decide +kernel
theorem dL_law_906 : decode cL_law 906 = .ok (.iconst 2, 1) := by decide +kernel
theorem dL_law_907 : decode cL_law 907 = .ok (.iadd, 1) := by decide +kernel
theorem dL_law_908 : decode cL_law 908 = .ok (.iload 19, 2) := by decide +kernel
theorem dL_law_910 : decode cL_law 910 = .ok (.iastore, 1) := by decide +kernel
theorem dL_law_911 : decode cL_law 911 = .ok (.aload_n 3, 1) := by decide +kernel
theorem dL_law_912 : decode cL_law 912 = .ok (.iload 20, 2) := by decide +kernel
theorem dL_law_914 : decode cL_law 914 = .ok (.iconst 3, 1) := by decide +kernel
theorem dL_law_915 : decode cL_law 915 = .ok (.iadd, 1) := by decide +kernel
theorem dL_law_916 : decode cL_law 916 = .ok (.iload 15, 2) := by decide +kernel
theorem dL_law_918 : decode cL_law 918 = .ok (.iastore, 1) := by decide +kernel
theorem dL_law_919 : decode cL_law 919 = .ok (.aload_n 3, 1) := by decide +kernel
theorem dL_law_920 : decode cL_law 920 = .ok (.iload 20, 2) := by decide +kernel
theorem dL_law_922 : decode cL_law 922 = .ok (.iconst 4, 1) := by decide +kernel
theorem dL_law_923 : decode cL_law 923 = .ok (.iadd, 1) := by decide +kernel
theorem dL_law_924 : decode cL_law 924 = .ok (.iconst 0, 1) := by decide +kernel
theorem dL_law_925 : decode cL_law 925 = .ok (.iastore, 1) := by decide +kernel
theorem dL_law_926 : decode cL_law 926 = .ok (.aload_n 3, 1) := by decide +kernel
theorem dL_law_927 : decode cL_law 927 = .ok (.iload 20, 2) := by decide +kernel
theorem dL_law_929 : decode cL_law 929 = .ok (.iconst 5, 1) := by decide +kernel
theorem dL_law_930 : decode cL_law 930 = .ok (.iadd, 1) := by decide +kernel
theorem dL_law_931 : decode cL_law 931 = .ok (.iconst 0, 1) := by decide +kernel
theorem dL_law_932 : decode cL_law 932 = .ok (.iastore, 1) := by decide +kernel
theorem dL_law_933 : decode cL_law 933 = .ok (.aload_n 3, 1) := by decide +kernel
theorem dL_law_934 : decode cL_law 934 = .ok (.iload 20, 2) := by decide +kernel
theorem dL_law_936 : decode cL_law 936 = .ok (.bipush 6, 2) := by decide +kernel
theorem dL_law_938 : decode cL_law 938 = .ok (.iadd, 1) := by decide +kernel
theorem dL_law_939 : decode cL_law 939 = .ok (.iconst (-1), 1) := by decide +kernel
theorem dL_law_940 : decode cL_law 940 = .ok (.iastore, 1) := by decide +kernel
theorem dL_law_941 : decode cL_law 941 = .ok (.aload 8, 2) := by decide +kernel
theorem dL_law_943 : decode cL_law 943 = .ok (.iconst 3, 1) := by decide +kernel
theorem dL_law_944 : decode cL_law 944 = .ok (.dup2, 1) := by decide +kernel
theorem dL_law_945 : decode cL_law 945 = .ok (.iaload, 1) := by decide +kernel
theorem dL_law_946 : decode cL_law 946 = .ok (.iconst 1, 1) := by decide +kernel
theorem dL_law_947 : decode cL_law 947 = .ok (.iadd, 1) := by decide +kernel
theorem dL_law_948 : decode cL_law 948 = .ok (.iastore, 1) := by decide +kernel
theorem dL_law_949 : decode cL_law 949 = .ok (.aload_n 1, 1) := by decide +kernel
theorem dL_law_950 : decode cL_law 950 = .ok (.iload 13, 2) := by decide +kernel
theorem dL_law_952 : decode cL_law 952 = .ok (.aload_n 3, 1) := by decide +kernel
theorem dL_law_953 : decode cL_law 953 = .ok (.iload 20, 2) := by decide +kernel
theorem dL_law_955 : decode cL_law 955 = .ok (.iconst 1, 1) := by decide +kernel
theorem dL_law_956 : decode cL_law 956 = .ok (.iadd, 1) := by decide +kernel
theorem dL_law_957 : decode cL_law 957 = .ok (.iaload, 1) := by decide +kernel
theorem dL_law_958 : decode cL_law 958 = .ok (.iload 19, 2) := by decide +kernel
theorem dL_law_960 : decode cL_law 960 = .ok (.iload 15, 2) := by decide +kernel
theorem dL_law_962 : decode cL_law 962 = .ok (.invokevirtual 113, 3) := by decide +kernel
theorem dL_law_965 : decode cL_law 965 = .ok (.aload 8, 2) := by decide +kernel
theorem dL_law_967 : decode cL_law 967 = .ok (.iconst 3, 1) := by decide +kernel
theorem dL_law_968 : decode cL_law 968 = .ok (.iaload, 1) := by decide +kernel
theorem dL_law_969 : decode cL_law 969 = .ok (.iconst 1, 1) := by decide +kernel
theorem dL_law_970 : decode cL_law 970 = .ok (.isub, 1) := by decide +kernel
theorem dL_law_971 : decode cL_law 971 = .ok (.if_icmp .eq 5, 3) := by decide +kernel
theorem dL_law_974 : decode cL_law 974 = .ok (.iconst 0, 1) := by decide +kernel
theorem dL_law_975 : decode cL_law 975 = .ok (.ireturn, 1) := by decide +kernel
theorem dL_law_976 : decode cL_law 976 = .ok (.goto 1064, 3) := by decide +kernel
theorem dL_law_979 : decode cL_law 979 = .ok (.iload 12, 2) := by decide +kernel
theorem dL_law_981 : decode cL_law 981 = .ok (.bipush 10, 2) := by decide +kernel
theorem dL_law_983 : decode cL_law 983 = .ok (.if_icmp .ne 155, 3) := by decide +kernel
theorem dL_law_986 : decode cL_law 986 = .ok (.aload 8, 2) := by decide +kernel
theorem dL_law_988 : decode cL_law 988 = .ok (.iconst 0, 1) := by decide +kernel
theorem dL_law_989 : decode cL_law 989 = .ok (.iaload, 1) := by decide +kernel
theorem dL_law_990 : decode cL_law 990 = .ok (.iload 11, 2) := by decide +kernel
theorem dL_law_992 : decode cL_law 992 = .ok (.bipush 9, 2) := by decide +kernel
theorem dL_law_994 : decode cL_law 994 = .ok (.ishr, 1) := by decide +kernel
theorem dL_law_995 : decode cL_law 995 = .ok (.bipush 40, 2) := by decide +kernel
theorem dL_law_997 : decode cL_law 997 = .ok (.invokestatic 84, 3) := by decide +kernel
theorem dL_law_1000 : decode cL_law 1000 = .ok (.iadd, 1) := by decide +kernel
theorem dL_law_1001 : decode cL_law 1001 = .ok (.istore 19, 2) := by decide +kernel
theorem dL_law_1003 : decode cL_law 1003 = .ok (.aload 8, 2) := by decide +kernel
theorem dL_law_1005 : decode cL_law 1005 = .ok (.iconst 3, 1) := by decide +kernel
theorem dL_law_1006 : decode cL_law 1006 = .ok (.iaload, 1) := by decide +kernel
theorem dL_law_1007 : decode cL_law 1007 = .ok (.ifCond .ne 6, 3) := by decide +kernel
theorem dL_law_1010 : decode cL_law 1010 = .ok (.goto 1082, 3) := by decide +kernel
theorem dL_law_1013 : decode cL_law 1013 = .ok (.iload 19, 2) := by decide +kernel
theorem dL_law_1015 : decode cL_law 1015 = .ok (.aload_n 3, 1) := by decide +kernel
theorem dL_law_1016 : decode cL_law 1016 = .ok (.bipush 7, 2) := by decide +kernel
theorem dL_law_1018 : decode cL_law 1018 = .ok (.iload 16, 2) := by decide +kernel
theorem dL_law_1020 : decode cL_law 1020 = .ok (.imul, 1) := by decide +kernel
theorem dL_law_1021 : decode cL_law 1021 = .ok (.iconst 2, 1) := by decide +kernel
theorem dL_law_1022 : decode cL_law 1022 = .ok (.iadd, 1) := by decide +kernel
theorem dL_law_1023 : decode cL_law 1023 = .ok (.iaload, 1) := by decide +kernel
theorem dL_law_1024 : decode cL_law 1024 = .ok (.iadd, 1) := by decide +kernel
theorem dL_law_1025 : decode cL_law 1025 = .ok (.sipush 672, 3) := by decide +kernel
theorem dL_law_1028 : decode cL_law 1028 = .ok (.if_icmp .le 7, 3) := by decide +kernel
theorem dL_law_1031 : decode cL_law 1031 = .ok (.iconst 3, 1) := by decide +kernel
theorem dL_law_1032 : decode cL_law 1032 = .ok (.goto 21, 3) := by decide +kernel
theorem dL_law_1035 : decode cL_law 1035 = .ok (.aload_n 3, 1) := by decide +kernel
theorem dL_law_1036 : decode cL_law 1036 = .ok (.bipush 7, 2) := by decide +kernel
theorem dL_law_1038 : decode cL_law 1038 = .ok (.iload 16, 2) := by decide +kernel
theorem dL_law_1040 : decode cL_law 1040 = .ok (.imul, 1) := by decide +kernel
theorem dL_law_1041 : decode cL_law 1041 = .ok (.bipush 6, 2) := by decide +kernel
theorem dL_law_1043 : decode cL_law 1043 = .ok (.iadd, 1) := by decide +kernel
theorem dL_law_1044 : decode cL_law 1044 = .ok (.iaload, 1) := by decide +kernel
theorem dL_law_1045 : decode cL_law 1045 = .ok (.ifCond .lt 7, 3) := by decide +kernel
theorem dL_law_1048 : decode cL_law 1048 = .ok (.iconst 4, 1) := by decide +kernel
theorem dL_law_1049 : decode cL_law 1049 = .ok (.goto 4, 3) := by decide +kernel
theorem dL_law_1052 : decode cL_law 1052 = .ok (.iconst 0, 1) := by decide +kernel
theorem dL_law_1053 : decode cL_law 1053 = .ok (.istore 20, 2) := by decide +kernel
theorem dL_law_1055 : decode cL_law 1055 = .ok (.iload 20, 2) := by decide +kernel
theorem dL_law_1057 : decode cL_law 1057 = .ok (.ifCond .le 19, 3) := by decide +kernel
theorem dL_law_1060 : decode cL_law 1060 = .ok (.aload_n 1, 1) := by decide +kernel
theorem dL_law_1061 : decode cL_law 1061 = .ok (.iconst 4, 1) := by decide +kernel
theorem dL_law_1062 : decode cL_law 1062 = .ok (.iload 16, 2) := by decide +kernel
theorem dL_law_1064 : decode cL_law 1064 = .ok (.iload 19, 2) := by decide +kernel
theorem dL_law_1066 : decode cL_law 1066 = .ok (.invokestatic 109, 3) := by decide +kernel
theorem dL_law_1069 : decode cL_law 1069 = .ok (.iload 20, 2) := by decide +kernel
theorem dL_law_1071 : decode cL_law 1071 = .ok (.if_icmp .eq 1021, 3) := by decide +kernel
theorem dL_law_1074 : decode cL_law 1074 = .ok (.iconst 0, 1) := by decide +kernel
theorem dL_law_1075 : decode cL_law 1075 = .ok (.ireturn, 1) := by decide +kernel
theorem dL_law_1076 : decode cL_law 1076 = .ok (.aload_n 3, 1) := by decide +kernel
theorem dL_law_1077 : decode cL_law 1077 = .ok (.bipush 7, 2) := by decide +kernel
theorem dL_law_1079 : decode cL_law 1079 = .ok (.iload 16, 2) := by decide +kernel
theorem dL_law_1081 : decode cL_law 1081 = .ok (.imul, 1) := by decide +kernel
theorem dL_law_1082 : decode cL_law 1082 = .ok (.iconst 1, 1) := by decide +kernel
theorem dL_law_1083 : decode cL_law 1083 = .ok (.iadd, 1) := by decide +kernel
theorem dL_law_1084 : decode cL_law 1084 = .ok (.iload 19, 2) := by decide +kernel
theorem dL_law_1086 : decode cL_law 1086 = .ok (.iastore, 1) := by decide +kernel
theorem dL_law_1087 : decode cL_law 1087 = .ok (.aload_n 3, 1) := by decide +kernel
theorem dL_law_1088 : decode cL_law 1088 = .ok (.bipush 7, 2) := by decide +kernel
theorem dL_law_1090 : decode cL_law 1090 = .ok (.iload 16, 2) := by decide +kernel
theorem dL_law_1092 : decode cL_law 1092 = .ok (.imul, 1) := by decide +kernel
theorem dL_law_1093 : decode cL_law 1093 = .ok (.iconst 4, 1) := by decide +kernel
theorem dL_law_1094 : decode cL_law 1094 = .ok (.iadd, 1) := by decide +kernel
theorem dL_law_1095 : decode cL_law 1095 = .ok (.iconst 0, 1) := by decide +kernel
theorem dL_law_1096 : decode cL_law 1096 = .ok (.iastore, 1) := by decide +kernel
theorem dL_law_1097 : decode cL_law 1097 = .ok (.aload_n 3, 1) := by decide +kernel
theorem dL_law_1098 : decode cL_law 1098 = .ok (.bipush 7, 2) := by decide +kernel
theorem dL_law_1100 : decode cL_law 1100 = .ok (.iload 16, 2) := by decide +kernel
theorem dL_law_1102 : decode cL_law 1102 = .ok (.imul, 1) := by decide +kernel
theorem dL_law_1103 : decode cL_law 1103 = .ok (.iconst 5, 1) := by decide +kernel
theorem dL_law_1104 : decode cL_law 1104 = .ok (.iadd, 1) := by decide +kernel
theorem dL_law_1105 : decode cL_law 1105 = .ok (.iconst 0, 1) := by decide +kernel
theorem dL_law_1106 : decode cL_law 1106 = .ok (.iastore, 1) := by decide +kernel
theorem dL_law_1107 : decode cL_law 1107 = .ok (.aload_n 1, 1) := by decide +kernel
theorem dL_law_1108 : decode cL_law 1108 = .ok (.iload 16, 2) := by decide +kernel
theorem dL_law_1110 : decode cL_law 1110 = .ok (.iload 19, 2) := by decide +kernel
theorem dL_law_1112 : decode cL_law 1112 = .ok (.invokevirtual 40, 3) := by decide +kernel
theorem dL_law_1115 : decode cL_law 1115 = .ok (.aload_n 2, 1) := by decide +kernel
theorem dL_law_1116 : decode cL_law 1116 = .ok (.aload_n 3, 1) := by decide +kernel
theorem dL_law_1117 : decode cL_law 1117 = .ok (.iload 16, 2) := by decide +kernel
theorem dL_law_1119 : decode cL_law 1119 = .ok (.aload 4, 2) := by decide +kernel
theorem dL_law_1121 : decode cL_law 1121 = .ok (.aload 5, 2) := by decide +kernel
theorem dL_law_1123 : decode cL_law 1123 = .ok (.aload 6, 2) := by decide +kernel
theorem dL_law_1125 : decode cL_law 1125 = .ok (.aload 8, 2) := by decide +kernel
theorem dL_law_1127 : decode cL_law 1127 = .ok (.invokestatic 57, 3) := by decide +kernel
theorem dL_law_1130 : decode cL_law 1130 = .ok (.if_icmp .eq 5, 3) := by decide +kernel
theorem dL_law_1133 : decode cL_law 1133 = .ok (.iconst 0, 1) := by decide +kernel
theorem dL_law_1134 : decode cL_law 1134 = .ok (.ireturn, 1) := by decide +kernel
theorem dL_law_1135 : decode cL_law 1135 = .ok (.goto 905, 3) := by decide +kernel
theorem dL_law_1138 : decode cL_law 1138 = .ok (.iload 12, 2) := by decide +kernel
theorem dL_law_1140 : decode cL_law 1140 = .ok (.bipush 11, 2) := by decide +kernel
theorem dL_law_1142 : decode cL_law 1142 = .ok (.if_icmp .ne 102, 3) := by decide +kernel
theorem dL_law_1145 : decode cL_law 1145 = .ok (.aload 8, 2) := by decide +kernel
theorem dL_law_1147 : decode cL_law 1147 = .ok (.iconst 3, 1) := by decide +kernel
theorem dL_law_1148 : decode cL_law 1148 = .ok (.iaload, 1) := by decide +kernel
theorem dL_law_1149 : decode cL_law 1149 = .ok (.ifCond .eq 37, 3) := by decide +kernel
theorem dL_law_1152 : decode cL_law 1152 = .ok (.aload_n 3, 1) := by decide +kernel
theorem dL_law_1153 : decode cL_law 1153 = .ok (.bipush 7, 2) := by decide +kernel
theorem dL_law_1155 : decode cL_law 1155 = .ok (.iload 16, 2) := by decide +kernel
theorem dL_law_1157 : decode cL_law 1157 = .ok (.imul, 1) := by decide +kernel
theorem dL_law_1158 : decode cL_law 1158 = .ok (.bipush 6, 2) := by decide +kernel
theorem dL_law_1160 : decode cL_law 1160 = .ok (.iadd, 1) := by decide +kernel
theorem dL_law_1161 : decode cL_law 1161 = .ok (.iaload, 1) := by decide +kernel
theorem dL_law_1162 : decode cL_law 1162 = .ok (.ifCond .ge 24, 3) := by decide +kernel
theorem dL_law_1165 : decode cL_law 1165 = .ok (.aload_n 3, 1) := by decide +kernel
theorem dL_law_1166 : decode cL_law 1166 = .ok (.bipush 7, 2) := by decide +kernel
theorem dL_law_1168 : decode cL_law 1168 = .ok (.iload 16, 2) := by decide +kernel
theorem dL_law_1170 : decode cL_law 1170 = .ok (.imul, 1) := by decide +kernel
theorem dL_law_1171 : decode cL_law 1171 = .ok (.iconst 4, 1) := by decide +kernel
theorem dL_law_1172 : decode cL_law 1172 = .ok (.iadd, 1) := by decide +kernel
theorem dL_law_1173 : decode cL_law 1173 = .ok (.iaload, 1) := by decide +kernel
theorem dL_law_1174 : decode cL_law 1174 = .ok (.aload_n 3, 1) := by decide +kernel
theorem dL_law_1175 : decode cL_law 1175 = .ok (.bipush 7, 2) := by decide +kernel
theorem dL_law_1177 : decode cL_law 1177 = .ok (.iload 16, 2) := by decide +kernel
theorem dL_law_1179 : decode cL_law 1179 = .ok (.imul, 1) := by decide +kernel
theorem dL_law_1180 : decode cL_law 1180 = .ok (.iconst 3, 1) := by decide +kernel
theorem dL_law_1181 : decode cL_law 1181 = .ok (.iadd, 1) := by decide +kernel
theorem dL_law_1182 : decode cL_law 1182 = .ok (.iaload, 1) := by decide +kernel
theorem dL_law_1183 : decode cL_law 1183 = .ok (.if_icmp .ne 28, 3) := by decide +kernel
theorem dL_law_1186 : decode cL_law 1186 = .ok (.aload_n 1, 1) := by decide +kernel
theorem dL_law_1187 : decode cL_law 1187 = .ok (.iconst 1, 1) := by decide +kernel
theorem dL_law_1188 : decode cL_law 1188 = .ok (.iload 16, 2) := by decide +kernel
theorem dL_law_1190 : decode cL_law 1190 = .ok (.iconst 0, 1) := by decide +kernel
theorem dL_law_1191 : decode cL_law 1191 = .ok (.invokestatic 109, 3) := by decide +kernel
theorem dL_law_1194 : decode cL_law 1194 = .ok (.aload 8, 2) := by decide +kernel
theorem dL_law_1196 : decode cL_law 1196 = .ok (.iconst 3, 1) := by decide +kernel
theorem dL_law_1197 : decode cL_law 1197 = .ok (.iaload, 1) := by decide +kernel
theorem dL_law_1198 : decode cL_law 1198 = .ok (.ifCond .ne 7, 3) := by decide +kernel
theorem dL_law_1201 : decode cL_law 1201 = .ok (.iconst 1, 1) := by decide +kernel
theorem dL_law_1202 : decode cL_law 1202 = .ok (.goto 4, 3) := by decide +kernel
theorem dL_law_1205 : decode cL_law 1205 = .ok (.iconst 4, 1) := by decide +kernel
theorem dL_law_1206 : decode cL_law 1206 = .ok (.if_icmp .eq 886, 3) := by decide +kernel
theorem dL_law_1209 : decode cL_law 1209 = .ok (.iconst 0, 1) := by decide +kernel
theorem dL_law_1210 : decode cL_law 1210 = .ok (.ireturn, 1) := by decide +kernel
theorem dL_law_1211 : decode cL_law 1211 = .ok (.aload_n 3, 1) := by decide +kernel
theorem dL_law_1212 : decode cL_law 1212 = .ok (.bipush 7, 2) := by decide +kernel
theorem dL_law_1214 : decode cL_law 1214 = .ok (.iload 16, 2) := by decide +kernel
theorem dL_law_1216 : decode cL_law 1216 = .ok (.imul, 1) := by decide +kernel
theorem dL_law_1217 : decode cL_law 1217 = .ok (.iconst 4, 1) := by decide +kernel
theorem dL_law_1218 : decode cL_law 1218 = .ok (.iadd, 1) := by decide +kernel
theorem dL_law_1219 : decode cL_law 1219 = .ok (.dup2, 1) := by decide +kernel
theorem dL_law_1220 : decode cL_law 1220 = .ok (.iaload, 1) := by decide +kernel
theorem dL_law_1221 : decode cL_law 1221 = .ok (.iconst 1, 1) := by decide +kernel
theorem dL_law_1222 : decode cL_law 1222 = .ok (.iadd, 1) := by decide +kernel
theorem dL_law_1223 : decode cL_law 1223 = .ok (.iastore, 1) := by decide +kernel
theorem dL_law_1224 : decode cL_law 1224 = .ok (.aload_n 1, 1) := by decide +kernel
theorem dL_law_1225 : decode cL_law 1225 = .ok (.iload 16, 2) := by decide +kernel
theorem dL_law_1227 : decode cL_law 1227 = .ok (.invokevirtual 30, 3) := by decide +kernel
theorem dL_law_1230 : decode cL_law 1230 = .ok (.aload_n 3, 1) := by decide +kernel
theorem dL_law_1231 : decode cL_law 1231 = .ok (.bipush 7, 2) := by decide +kernel
theorem dL_law_1233 : decode cL_law 1233 = .ok (.iload 16, 2) := by decide +kernel
theorem dL_law_1235 : decode cL_law 1235 = .ok (.imul, 1) := by decide +kernel
theorem dL_law_1236 : decode cL_law 1236 = .ok (.iconst 4, 1) := by decide +kernel
theorem dL_law_1237 : decode cL_law 1237 = .ok (.iadd, 1) := by decide +kernel
theorem dL_law_1238 : decode cL_law 1238 = .ok (.iaload, 1) := by decide +kernel
theorem dL_law_1239 : decode cL_law 1239 = .ok (.if_icmp .eq 801, 3) := by decide +kernel
theorem dL_law_1242 : decode cL_law 1242 = .ok (.iconst 0, 1) := by decide +kernel
theorem dL_law_1243 : decode cL_law 1243 = .ok (.ireturn, 1) := by decide +kernel
theorem dL_law_1244 : decode cL_law 1244 = .ok (.iload 12, 2) := by decide +kernel
theorem dL_law_1246 : decode cL_law 1246 = .ok (.bipush 12, 2) := by decide +kernel
theorem dL_law_1248 : decode cL_law 1248 = .ok (.if_icmp .ne 54, 3) := by decide +kernel
theorem dL_law_1251 : decode cL_law 1251 = .ok (.iload 11, 2) := by decide +kernel
theorem dL_law_1253 : decode cL_law 1253 = .ok (.iconst 4, 1) := by decide +kernel
theorem dL_law_1254 : decode cL_law 1254 = .ok (.invokestatic 84, 3) := by decide +kernel
theorem dL_law_1257 : decode cL_law 1257 = .ok (.istore 19, 2) := by decide +kernel
theorem dL_law_1259 : decode cL_law 1259 = .ok (.aload 7, 2) := by decide +kernel
theorem dL_law_1261 : decode cL_law 1261 = .ok (.iload 15, 2) := by decide +kernel
theorem dL_law_1263 : decode cL_law 1263 = .ok (.iaload, 1) := by decide +kernel
theorem dL_law_1264 : decode cL_law 1264 = .ok (.istore 20, 2) := by decide +kernel
theorem dL_law_1266 : decode cL_law 1266 = .ok (.aload 7, 2) := by decide +kernel
theorem dL_law_1268 : decode cL_law 1268 = .ok (.iload 15, 2) := by decide +kernel
theorem dL_law_1270 : decode cL_law 1270 = .ok (.iload 19, 2) := by decide +kernel
theorem dL_law_1272 : decode cL_law 1272 = .ok (.iastore, 1) := by decide +kernel
theorem dL_law_1273 : decode cL_law 1273 = .ok (.aload_n 1, 1) := by decide +kernel
theorem dL_law_1274 : decode cL_law 1274 = .ok (.iload 15, 2) := by decide +kernel
theorem dL_law_1276 : decode cL_law 1276 = .ok (.iload 19, 2) := by decide +kernel
theorem dL_law_1278 : decode cL_law 1278 = .ok (.invokevirtual 116, 3) := by decide +kernel
theorem dL_law_1281 : decode cL_law 1281 = .ok (.iload 20, 2) := by decide +kernel
theorem dL_law_1283 : decode cL_law 1283 = .ok (.if_icmp .ne 14, 3) := by decide +kernel
theorem dL_law_1286 : decode cL_law 1286 = .ok (.aload_n 1, 1) := by decide +kernel
theorem dL_law_1287 : decode cL_law 1287 = .ok (.iload 15, 2) := by decide +kernel
theorem dL_law_1289 : decode cL_law 1289 = .ok (.invokevirtual 119, 3) := by decide +kernel
theorem dL_law_1292 : decode cL_law 1292 = .ok (.iload 19, 2) := by decide +kernel
theorem dL_law_1294 : decode cL_law 1294 = .ok (.if_icmp .eq 5, 3) := by decide +kernel
theorem dL_law_1297 : decode cL_law 1297 = .ok (.iconst 0, 1) := by decide +kernel
theorem dL_law_1298 : decode cL_law 1298 = .ok (.ireturn, 1) := by decide +kernel
theorem dL_law_1299 : decode cL_law 1299 = .ok (.goto 741, 3) := by decide +kernel
theorem dL_law_1302 : decode cL_law 1302 = .ok (.iload 12, 2) := by decide +kernel
theorem dL_law_1304 : decode cL_law 1304 = .ok (.bipush 13, 2) := by decide +kernel
theorem dL_law_1306 : decode cL_law 1306 = .ok (.if_icmp .ne 157, 3) := by decide +kernel
theorem dL_law_1309 : decode cL_law 1309 = .ok (.aload 8, 2) := by decide +kernel
theorem dL_law_1311 : decode cL_law 1311 = .ok (.iconst 3, 1) := by decide +kernel
theorem dL_law_1312 : decode cL_law 1312 = .ok (.iaload, 1) := by decide +kernel
theorem dL_law_1313 : decode cL_law 1313 = .ok (.ifCond .eq 779, 3) := by decide +kernel
theorem dL_law_1316 : decode cL_law 1316 = .ok (.aload 8, 2) := by decide +kernel
theorem dL_law_1318 : decode cL_law 1318 = .ok (.iconst 2, 1) := by decide +kernel
theorem dL_law_1319 : decode cL_law 1319 = .ok (.iaload, 1) := by decide +kernel
theorem dL_law_1320 : decode cL_law 1320 = .ok (.ifCond .ne 6, 3) := by decide +kernel
theorem dL_law_1323 : decode cL_law 1323 = .ok (.goto 769, 3) := by decide +kernel
theorem dL_law_1326 : decode cL_law 1326 = .ok (.aload_n 2, 1) := by decide +kernel
theorem dL_law_1327 : decode cL_law 1327 = .ok (.bipush 7, 2) := by decide +kernel
theorem dL_law_1329 : decode cL_law 1329 = .ok (.iload 17, 2) := by decide +kernel
theorem dL_law_1331 : decode cL_law 1331 = .ok (.imul, 1) := by decide +kernel
theorem dL_law_1332 : decode cL_law 1332 = .ok (.bipush 6, 2) := by decide +kernel
theorem dL_law_1334 : decode cL_law 1334 = .ok (.iadd, 1) := by decide +kernel
theorem dL_law_1335 : decode cL_law 1335 = .ok (.iaload, 1) := by decide +kernel
theorem dL_law_1336 : decode cL_law 1336 = .ok (.istore 19, 2) := by decide +kernel
theorem dL_law_1338 : decode cL_law 1338 = .ok (.iload 19, 2) := by decide +kernel
theorem dL_law_1340 : decode cL_law 1340 = .ok (.iconst 4, 1) := by decide +kernel
theorem dL_law_1341 : decode cL_law 1341 = .ok (.if_icmp .ge 17, 3) := by decide +kernel
theorem dL_law_1344 : decode cL_law 1344 = .ok (.aload 7, 2) := by decide +kernel
theorem dL_law_1346 : decode cL_law 1346 = .ok (.iload 19, 2) := by decide +kernel
theorem dL_law_1348 : decode cL_law 1348 = .ok (.iaload, 1) := by decide +kernel
theorem dL_law_1349 : decode cL_law 1349 = .ok (.ifCond .ne 9, 3) := by decide +kernel
theorem dL_law_1352 : decode cL_law 1352 = .ok (.iinc 19 1, 3) := by decide +kernel
theorem dL_law_1355 : decode cL_law 1355 = .ok (.goto (-17), 3) := by decide +kernel
theorem dL_law_1358 : decode cL_law 1358 = .ok (.aload_n 2, 1) := by decide +kernel
theorem dL_law_1359 : decode cL_law 1359 = .ok (.bipush 7, 2) := by decide +kernel
theorem dL_law_1361 : decode cL_law 1361 = .ok (.iload 17, 2) := by decide +kernel
theorem dL_law_1363 : decode cL_law 1363 = .ok (.imul, 1) := by decide +kernel
theorem dL_law_1364 : decode cL_law 1364 = .ok (.iaload, 1) := by decide +kernel
theorem dL_law_1365 : decode cL_law 1365 = .ok (.ifCond .ne 7, 3) := by decide +kernel
theorem dL_law_1368 : decode cL_law 1368 = .ok (.iconst 2, 1) := by decide +kernel
theorem dL_law_1369 : decode cL_law 1369 = .ok (.goto 28, 3) := by decide +kernel
theorem dL_law_1372 : decode cL_law 1372 = .ok (.aload_n 2, 1) := by decide +kernel
theorem dL_law_1373 : decode cL_law 1373 = .ok (.iload 17, 2) := by decide +kernel
theorem dL_law_1375 : decode cL_law 1375 = .ok (.aload_n 3, 1) := by decide +kernel
theorem dL_law_1376 : decode cL_law 1376 = .ok (.iload 16, 2) := by decide +kernel
theorem dL_law_1378 : decode cL_law 1378 = .ok (.aload 4, 2) := by decide +kernel
theorem dL_law_1380 : decode cL_law 1380 = .ok (.invokestatic 16, 3) := by decide +kernel
theorem dL_law_1383 : decode cL_law 1383 = .ok (.ifCond .eq 9, 3) := by decide +kernel
theorem dL_law_1386 : decode cL_law 1386 = .ok (.iload 19, 2) := by decide +kernel
theorem dL_law_1388 : decode cL_law 1388 = .ok (.iconst 4, 1) := by decide +kernel
theorem dL_law_1389 : decode cL_law 1389 = .ok (.if_icmp .ne 7, 3) := by decide +kernel
theorem dL_law_1392 : decode cL_law 1392 = .ok (.iconst 4, 1) := by decide +kernel
theorem dL_law_1393 : decode cL_law 1393 = .ok (.goto 4, 3) := by decide +kernel
theorem dL_law_1396 : decode cL_law 1396 = .ok (.iconst 0, 1) := by decide +kernel
theorem dL_law_1397 : decode cL_law 1397 = .ok (.istore 20, 2) := by decide +kernel
theorem dL_law_1399 : decode cL_law 1399 = .ok (.iload 20, 2) := by decide +kernel
theorem dL_law_1401 : decode cL_law 1401 = .ok (.ifCond .le 19, 3) := by decide +kernel
theorem dL_law_1404 : decode cL_law 1404 = .ok (.aload_n 1, 1) := by decide +kernel
theorem dL_law_1405 : decode cL_law 1405 = .ok (.iconst 2, 1) := by decide +kernel
theorem dL_law_1406 : decode cL_law 1406 = .ok (.iload 16, 2) := by decide +kernel
theorem dL_law_1408 : decode cL_law 1408 = .ok (.iload 17, 2) := by decide +kernel
theorem dL_law_1410 : decode cL_law 1410 = .ok (.invokestatic 109, 3) := by decide +kernel
theorem dL_law_1413 : decode cL_law 1413 = .ok (.iload 20, 2) := by decide +kernel
theorem dL_law_1415 : decode cL_law 1415 = .ok (.if_icmp .eq 677, 3) := by decide +kernel
theorem dL_law_1418 : decode cL_law 1418 = .ok (.iconst 0, 1) := by decide +kernel
theorem dL_law_1419 : decode cL_law 1419 = .ok (.ireturn, 1) := by decide +kernel
theorem dL_law_1420 : decode cL_law 1420 = .ok (.aload 7, 2) := by decide +kernel
theorem dL_law_1422 : decode cL_law 1422 = .ok (.iload 19, 2) := by decide +kernel
theorem dL_law_1424 : decode cL_law 1424 = .ok (.dup2, 1) := by decide +kernel
theorem dL_law_1425 : decode cL_law 1425 = .ok (.iaload, 1) := by decide +kernel
theorem dL_law_1426 : decode cL_law 1426 = .ok (.iconst 1, 1) := by decide +kernel
theorem dL_law_1427 : decode cL_law 1427 = .ok (.isub, 1) := by decide +kernel
theorem dL_law_1428 : decode cL_law 1428 = .ok (.iastore, 1) := by decide +kernel
theorem dL_law_1429 : decode cL_law 1429 = .ok (.aload_n 3, 1) := by decide +kernel
theorem dL_law_1430 : decode cL_law 1430 = .ok (.bipush 7, 2) := by decide +kernel
theorem dL_law_1432 : decode cL_law 1432 = .ok (.iload 16, 2) := by decide +kernel
theorem dL_law_1434 : decode cL_law 1434 = .ok (.imul, 1) := by decide +kernel
theorem dL_law_1435 : decode cL_law 1435 = .ok (.iconst 5, 1) := by decide +kernel
theorem dL_law_1436 : decode cL_law 1436 = .ok (.iadd, 1) := by decide +kernel
theorem dL_law_1437 : decode cL_law 1437 = .ok (.dup2, 1) := by decide +kernel
theorem dL_law_1438 : decode cL_law 1438 = .ok (.iaload, 1) := by decide +kernel
theorem dL_law_1439 : decode cL_law 1439 = .ok (.iconst 1, 1) := by decide +kernel
theorem dL_law_1440 : decode cL_law 1440 = .ok (.iload 17, 2) := by decide +kernel
theorem dL_law_1442 : decode cL_law 1442 = .ok (.ishl, 1) := by decide +kernel
theorem dL_law_1443 : decode cL_law 1443 = .ok (.ior, 1) := by decide +kernel
theorem dL_law_1444 : decode cL_law 1444 = .ok (.iastore, 1) := by decide +kernel
theorem dL_law_1445 : decode cL_law 1445 = .ok (.aload_n 1, 1) := by decide +kernel
theorem dL_law_1446 : decode cL_law 1446 = .ok (.iload 16, 2) := by decide +kernel
theorem dL_law_1448 : decode cL_law 1448 = .ok (.iload 17, 2) := by decide +kernel
theorem dL_law_1450 : decode cL_law 1450 = .ok (.invokevirtual 33, 3) := by decide +kernel
theorem dL_law_1453 : decode cL_law 1453 = .ok (.iload 19, 2) := by decide +kernel
theorem dL_law_1455 : decode cL_law 1455 = .ok (.if_icmp .eq 5, 3) := by decide +kernel
theorem dL_law_1458 : decode cL_law 1458 = .ok (.iconst 0, 1) := by decide +kernel
theorem dL_law_1459 : decode cL_law 1459 = .ok (.ireturn, 1) := by decide +kernel
theorem dL_law_1460 : decode cL_law 1460 = .ok (.goto 580, 3) := by decide +kernel
theorem dL_law_1463 : decode cL_law 1463 = .ok (.iload 12, 2) := by decide +kernel
theorem dL_law_1465 : decode cL_law 1465 = .ok (.bipush 16, 2) := by decide +kernel
theorem dL_law_1467 : decode cL_law 1467 = .ok (.if_icmp .ge 267, 3) := by decide +kernel
theorem dL_law_1470 : decode cL_law 1470 = .ok (.aload 8, 2) := by decide +kernel
theorem dL_law_1472 : decode cL_law 1472 = .ok (.iconst 3, 1) := by decide +kernel
theorem dL_law_1473 : decode cL_law 1473 = .ok (.iaload, 1) := by decide +kernel
theorem dL_law_1474 : decode cL_law 1474 = .ok (.ifCond .ne 6, 3) := by decide +kernel
theorem dL_law_1477 : decode cL_law 1477 = .ok (.goto 615, 3) := by decide +kernel
theorem dL_law_1480 : decode cL_law 1480 = .ok (.bipush 7, 2) := by decide +kernel
theorem dL_law_1482 : decode cL_law 1482 = .ok (.iload 16, 2) := by decide +kernel
theorem dL_law_1484 : decode cL_law 1484 = .ok (.imul, 1) := by decide +kernel
theorem dL_law_1485 : decode cL_law 1485 = .ok (.istore 19, 2) := by decide +kernel
theorem dL_law_1487 : decode cL_law 1487 = .ok (.aload_n 3, 1) := by decide +kernel
theorem dL_law_1488 : decode cL_law 1488 = .ok (.iload 19, 2) := by decide +kernel
theorem dL_law_1490 : decode cL_law 1490 = .ok (.iconst 1, 1) := by decide +kernel
theorem dL_law_1491 : decode cL_law 1491 = .ok (.iadd, 1) := by decide +kernel
theorem dL_law_1492 : decode cL_law 1492 = .ok (.iaload, 1) := by decide +kernel
theorem dL_law_1493 : decode cL_law 1493 = .ok (.aload 8, 2) := by decide +kernel
theorem dL_law_1495 : decode cL_law 1495 = .ok (.iconst 0, 1) := by decide +kernel
theorem dL_law_1496 : decode cL_law 1496 = .ok (.iaload, 1) := by decide +kernel
theorem dL_law_1497 : decode cL_law 1497 = .ok (.isub, 1) := by decide +kernel
theorem dL_law_1498 : decode cL_law 1498 = .ok (.istore 20, 2) := by decide +kernel
theorem dL_law_1500 : decode cL_law 1500 = .ok (.aload_n 3, 1) := by decide +kernel
theorem dL_law_1501 : decode cL_law 1501 = .ok (.iload 19, 2) := by decide +kernel
theorem dL_law_1503 : decode cL_law 1503 = .ok (.bipush 6, 2) := by decide +kernel
theorem dL_law_1505 : decode cL_law 1505 = .ok (.iadd, 1) := by decide +kernel
theorem dL_law_1506 : decode cL_law 1506 = .ok (.iaload, 1) := by decide +kernel
theorem dL_law_1507 : decode cL_law 1507 = .ok (.ifCond .ge 48, 3) := by decide +kernel
theorem dL_law_1510 : decode cL_law 1510 = .ok (.iload 20, 2) := by decide +kernel
theorem dL_law_1512 : decode cL_law 1512 = .ok (.ifCond .le 43, 3) := by decide +kernel
theorem dL_law_1515 : decode cL_law 1515 = .ok (.iload 20, 2) := by decide +kernel
theorem dL_law_1517 : decode cL_law 1517 = .ok (.bipush 101, 2) := by decide +kernel
theorem dL_law_1519 : decode cL_law 1519 = .ok (.if_icmp .ge 36, 3) := by decide +kernel
theorem dL_law_1522 : decode cL_law 1522 = .ok (.iload 11, 2) := by decide +kernel
theorem dL_law_1524 : decode cL_law 1524 = .ok (.iconst 2, 1) := by decide +kernel
theorem dL_law_1525 : decode cL_law 1525 = .ok (.invokestatic 84, 3) := by decide +kernel
theorem dL_law_1528 : decode cL_law 1528 = .ok (.ifCond .ne 27, 3) := by decide +kernel
theorem dL_law_1531 : decode cL_law 1531 = .ok (.aload 8, 2) := by decide +kernel
theorem dL_law_1533 : decode cL_law 1533 = .ok (.iconst 0, 1) := by decide +kernel
theorem dL_law_1534 : decode cL_law 1534 = .ok (.dup2, 1) := by decide +kernel
theorem dL_law_1535 : decode cL_law 1535 = .ok (.iaload, 1) := by decide +kernel
theorem dL_law_1536 : decode cL_law 1536 = .ok (.iload 20, 2) := by decide +kernel
theorem dL_law_1538 : decode cL_law 1538 = .ok (.iadd, 1) := by decide +kernel
theorem dL_law_1539 : decode cL_law 1539 = .ok (.iastore, 1) := by decide +kernel
theorem dL_law_1540 : decode cL_law 1540 = .ok (.aload_n 1, 1) := by decide +kernel
theorem dL_law_1541 : decode cL_law 1541 = .ok (.iload 20, 2) := by decide +kernel
theorem dL_law_1543 : decode cL_law 1543 = .ok (.invokevirtual 43, 3) := by decide +kernel
theorem dL_law_1546 : decode cL_law 1546 = .ok (.aload 8, 2) := by decide +kernel
theorem dL_law_1548 : decode cL_law 1548 = .ok (.iconst 0, 1) := by decide +kernel
theorem dL_law_1549 : decode cL_law 1549 = .ok (.iaload, 1) := by decide +kernel
theorem dL_law_1550 : decode cL_law 1550 = .ok (.if_icmp .eq 5, 3) := by decide +kernel
theorem dL_law_1553 : decode cL_law 1553 = .ok (.iconst 0, 1) := by decide +kernel
theorem dL_law_1554 : decode cL_law 1554 = .ok (.ireturn, 1) := by decide +kernel
theorem dL_law_1555 : decode cL_law 1555 = .ok (.aload_n 3, 1) := by decide +kernel
theorem dL_law_1556 : decode cL_law 1556 = .ok (.iload 19, 2) := by decide +kernel
theorem dL_law_1558 : decode cL_law 1558 = .ok (.bipush 6, 2) := by decide +kernel
theorem dL_law_1560 : decode cL_law 1560 = .ok (.iadd, 1) := by decide +kernel
theorem dL_law_1561 : decode cL_law 1561 = .ok (.iaload, 1) := by decide +kernel
theorem dL_law_1562 : decode cL_law 1562 = .ok (.ifCond .ge 54, 3) := by decide +kernel
theorem dL_law_1565 : decode cL_law 1565 = .ok (.aload_n 3, 1) := by decide +kernel
theorem dL_law_1566 : decode cL_law 1566 = .ok (.iload 19, 2) := by decide +kernel
theorem dL_law_1568 : decode cL_law 1568 = .ok (.iconst 4, 1) := by decide +kernel
theorem dL_law_1569 : decode cL_law 1569 = .ok (.iadd, 1) := by decide +kernel
theorem dL_law_1570 : decode cL_law 1570 = .ok (.iaload, 1) := by decide +kernel
theorem dL_law_1571 : decode cL_law 1571 = .ok (.aload_n 3, 1) := by decide +kernel
theorem dL_law_1572 : decode cL_law 1572 = .ok (.iload 19, 2) := by decide +kernel
theorem dL_law_1574 : decode cL_law 1574 = .ok (.iconst 3, 1) := by decide +kernel
theorem dL_law_1575 : decode cL_law 1575 = .ok (.iadd, 1) := by decide +kernel
theorem dL_law_1576 : decode cL_law 1576 = .ok (.iaload, 1) := by decide +kernel
theorem dL_law_1577 : decode cL_law 1577 = .ok (.if_icmp .ge 39, 3) := by decide +kernel
theorem dL_law_1580 : decode cL_law 1580 = .ok (.iload 11, 2) := by decide +kernel
theorem dL_law_1582 : decode cL_law 1582 = .ok (.iconst 4, 1) := by decide +kernel
theorem dL_law_1583 : decode cL_law 1583 = .ok (.invokestatic 84, 3) := by decide +kernel
theorem dL_law_1586 : decode cL_law 1586 = .ok (.ifCond .le 30, 3) := by decide +kernel
theorem dL_law_1589 : decode cL_law 1589 = .ok (.aload_n 3, 1) := by decide +kernel
theorem dL_law_1590 : decode cL_law 1590 = .ok (.iload 19, 2) := by decide +kernel
theorem dL_law_1592 : decode cL_law 1592 = .ok (.iconst 4, 1) := by decide +kernel
theorem dL_law_1593 : decode cL_law 1593 = .ok (.iadd, 1) := by decide +kernel
theorem dL_law_1594 : decode cL_law 1594 = .ok (.dup2, 1) := by decide +kernel
theorem dL_law_1595 : decode cL_law 1595 = .ok (.iaload, 1) := by decide +kernel
theorem dL_law_1596 : decode cL_law 1596 = .ok (.iconst 1, 1) := by decide +kernel
theorem dL_law_1597 : decode cL_law 1597 = .ok (.iadd, 1) := by decide +kernel
theorem dL_law_1598 : decode cL_law 1598 = .ok (.iastore, 1) := by decide +kernel
theorem dL_law_1599 : decode cL_law 1599 = .ok (.aload_n 1, 1) := by decide +kernel
theorem dL_law_1600 : decode cL_law 1600 = .ok (.iload 16, 2) := by decide +kernel
theorem dL_law_1602 : decode cL_law 1602 = .ok (.invokevirtual 30, 3) := by decide +kernel
theorem dL_law_1605 : decode cL_law 1605 = .ok (.aload_n 3, 1) := by decide +kernel
theorem dL_law_1606 : decode cL_law 1606 = .ok (.iload 19, 2) := by decide +kernel
theorem dL_law_1608 : decode cL_law 1608 = .ok (.iconst 4, 1) := by decide +kernel
theorem dL_law_1609 : decode cL_law 1609 = .ok (.iadd, 1) := by decide +kernel
theorem dL_law_1610 : decode cL_law 1610 = .ok (.iaload, 1) := by decide +kernel
theorem dL_law_1611 : decode cL_law 1611 = .ok (.if_icmp .eq (-56), 3) := by decide +kernel
theorem dL_law_1614 : decode cL_law 1614 = .ok (.iconst 0, 1) := by decide +kernel
theorem dL_law_1615 : decode cL_law 1615 = .ok (.ireturn, 1) := by decide +kernel
theorem dL_law_1616 : decode cL_law 1616 = .ok (.aload_n 3, 1) := by decide +kernel
theorem dL_law_1617 : decode cL_law 1617 = .ok (.iload 19, 2) := by decide +kernel
theorem dL_law_1619 : decode cL_law 1619 = .ok (.bipush 6, 2) := by decide +kernel
theorem dL_law_1621 : decode cL_law 1621 = .ok (.iadd, 1) := by decide +kernel
theorem dL_law_1622 : decode cL_law 1622 = .ok (.iaload, 1) := by decide +kernel
theorem dL_law_1623 : decode cL_law 1623 = .ok (.ifCond .ge 53, 3) := by decide +kernel
theorem dL_law_1626 : decode cL_law 1626 = .ok (.aload_n 3, 1) := by decide +kernel
theorem dL_law_1627 : decode cL_law 1627 = .ok (.iload 19, 2) := by decide +kernel
theorem dL_law_1629 : decode cL_law 1629 = .ok (.iconst 1, 1) := by decide +kernel
theorem dL_law_1630 : decode cL_law 1630 = .ok (.iadd, 1) := by decide +kernel
theorem dL_law_1631 : decode cL_law 1631 = .ok (.iaload, 1) := by decide +kernel
theorem dL_law_1632 : decode cL_law 1632 = .ok (.aload 8, 2) := by decide +kernel
theorem dL_law_1634 : decode cL_law 1634 = .ok (.iconst 0, 1) := by decide +kernel
theorem dL_law_1635 : decode cL_law 1635 = .ok (.iaload, 1) := by decide +kernel
theorem dL_law_1636 : decode cL_law 1636 = .ok (.if_icmp .ne 40, 3) := by decide +kernel
theorem dL_law_1639 : decode cL_law 1639 = .ok (.aload_n 3, 1) := by decide +kernel
theorem dL_law_1640 : decode cL_law 1640 = .ok (.iload 19, 2) := by decide +kernel
theorem dL_law_1642 : decode cL_law 1642 = .ok (.iconst 4, 1) := by decide +kernel
theorem dL_law_1643 : decode cL_law 1643 = .ok (.iadd, 1) := by decide +kernel
theorem dL_law_1644 : decode cL_law 1644 = .ok (.iaload, 1) := by decide +kernel
theorem dL_law_1645 : decode cL_law 1645 = .ok (.aload_n 3, 1) := by decide +kernel
theorem dL_law_1646 : decode cL_law 1646 = .ok (.iload 19, 2) := by decide +kernel
theorem dL_law_1648 : decode cL_law 1648 = .ok (.iconst 3, 1) := by decide +kernel
theorem dL_law_1649 : decode cL_law 1649 = .ok (.iadd, 1) := by decide +kernel
theorem dL_law_1650 : decode cL_law 1650 = .ok (.iaload, 1) := by decide +kernel
theorem dL_law_1651 : decode cL_law 1651 = .ok (.if_icmp .ne 25, 3) := by decide +kernel
theorem dL_law_1654 : decode cL_law 1654 = .ok (.aload_n 2, 1) := by decide +kernel
theorem dL_law_1655 : decode cL_law 1655 = .ok (.aload_n 3, 1) := by decide +kernel
theorem dL_law_1656 : decode cL_law 1656 = .ok (.iload 16, 2) := by decide +kernel
theorem dL_law_1658 : decode cL_law 1658 = .ok (.aload 4, 2) := by decide +kernel
theorem dL_law_1660 : decode cL_law 1660 = .ok (.aload 5, 2) := by decide +kernel
theorem dL_law_1662 : decode cL_law 1662 = .ok (.aload 6, 2) := by decide +kernel
theorem dL_law_1664 : decode cL_law 1664 = .ok (.aload 8, 2) := by decide +kernel
theorem dL_law_1666 : decode cL_law 1666 = .ok (.invokestatic 57, 3) := by decide +kernel
theorem dL_law_1669 : decode cL_law 1669 = .ok (.ifCond .ne 7, 3) := by decide +kernel
theorem dL_law_1672 : decode cL_law 1672 = .ok (.iconst 1, 1) := by decide +kernel
theorem dL_law_1673 : decode cL_law 1673 = .ok (.goto 4, 3) := by decide +kernel
theorem dL_law_1676 : decode cL_law 1676 = .ok (.iconst 0, 1) := by decide +kernel
theorem dL_law_1677 : decode cL_law 1677 = .ok (.istore 21, 2) := by decide +kernel
theorem dL_law_1679 : decode cL_law 1679 = .ok (.iload 21, 2) := by decide +kernel
theorem dL_law_1681 : decode cL_law 1681 = .ok (.ifCond .ne 17, 3) := by decide +kernel
theorem dL_law_1684 : decode cL_law 1684 = .ok (.aload_n 1, 1) := by decide +kernel
theorem dL_law_1685 : decode cL_law 1685 = .ok (.iconst 0, 1) := by decide +kernel
theorem dL_law_1686 : decode cL_law 1686 = .ok (.iload 16, 2) := by decide +kernel
theorem dL_law_1688 : decode cL_law 1688 = .ok (.iconst 0, 1) := by decide +kernel
theorem dL_law_1689 : decode cL_law 1689 = .ok (.invokestatic 109, 3) := by decide +kernel
theorem dL_law_1692 : decode cL_law 1692 = .ok (.iconst 4, 1) := by decide +kernel
theorem dL_law_1693 : decode cL_law 1693 = .ok (.if_icmp .eq 399, 3) := by decide +kernel
theorem dL_law_1696 : decode cL_law 1696 = .ok (.iconst 0, 1) := by decide +kernel
theorem dL_law_1697 : decode cL_law 1697 = .ok (.ireturn, 1) := by decide +kernel
theorem dL_law_1698 : decode cL_law 1698 = .ok (.aload_n 3, 1) := by decide +kernel
theorem dL_law_1699 : decode cL_law 1699 = .ok (.iload 19, 2) := by decide +kernel
theorem dL_law_1701 : decode cL_law 1701 = .ok (.bipush 6, 2) := by decide +kernel
theorem dL_law_1703 : decode cL_law 1703 = .ok (.iadd, 1) := by decide +kernel
theorem dL_law_1704 : decode cL_law 1704 = .ok (.aload 8, 2) := by decide +kernel
theorem dL_law_1706 : decode cL_law 1706 = .ok (.iconst 2, 1) := by decide +kernel
theorem dL_law_1707 : decode cL_law 1707 = .ok (.iaload, 1) := by decide +kernel
theorem dL_law_1708 : decode cL_law 1708 = .ok (.iastore, 1) := by decide +kernel
theorem dL_law_1709 : decode cL_law 1709 = .ok (.aload_n 1, 1) := by decide +kernel
theorem dL_law_1710 : decode cL_law 1710 = .ok (.iload 16, 2) := by decide +kernel
theorem dL_law_1712 : decode cL_law 1712 = .ok (.invokevirtual 24, 3) := by decide +kernel
theorem dL_law_1715 : decode cL_law 1715 = .ok (.aload 8, 2) := by decide +kernel
theorem dL_law_1717 : decode cL_law 1717 = .ok (.iconst 0, 1) := by decide +kernel
theorem dL_law_1718 : decode cL_law 1718 = .ok (.iaload, 1) := by decide +kernel
theorem dL_law_1719 : decode cL_law 1719 = .ok (.aload_n 3, 1) := by decide +kernel
theorem dL_law_1720 : decode cL_law 1720 = .ok (.iload 19, 2) := by decide +kernel
theorem dL_law_1722 : decode cL_law 1722 = .ok (.iconst 2, 1) := by decide +kernel
theorem dL_law_1723 : decode cL_law 1723 = .ok (.iadd, 1) := by decide +kernel
theorem dL_law_1724 : decode cL_law 1724 = .ok (.iaload, 1) := by decide +kernel
theorem dL_law_1725 : decode cL_law 1725 = .ok (.iadd, 1) := by decide +kernel
theorem dL_law_1726 : decode cL_law 1726 = .ok (.if_icmp .eq 5, 3) := by decide +kernel
theorem dL_law_1729 : decode cL_law 1729 = .ok (.iconst 0, 1) := by decide +kernel
theorem dL_law_1730 : decode cL_law 1730 = .ok (.ireturn, 1) := by decide +kernel
theorem dL_law_1731 : decode cL_law 1731 = .ok (.goto 309, 3) := by decide +kernel
theorem dL_law_1734 : decode cL_law 1734 = .ok (.iload 12, 2) := by decide +kernel
theorem dL_law_1736 : decode cL_law 1736 = .ok (.bipush 16, 2) := by decide +kernel
theorem dL_law_1738 : decode cL_law 1738 = .ok (.if_icmp .ne 68, 3) := by decide +kernel
theorem dL_law_1741 : decode cL_law 1741 = .ok (.iconst 1, 1) := by decide +kernel
theorem dL_law_1742 : decode cL_law 1742 = .ok (.iload 11, 2) := by decide +kernel
theorem dL_law_1744 : decode cL_law 1744 = .ok (.bipush 30, 2) := by decide +kernel
theorem dL_law_1746 : decode cL_law 1746 = .ok (.invokestatic 84, 3) := by decide +kernel
theorem dL_law_1749 : decode cL_law 1749 = .ok (.iadd, 1) := by decide +kernel
theorem dL_law_1750 : decode cL_law 1750 = .ok (.istore 19, 2) := by decide +kernel
theorem dL_law_1752 : decode cL_law 1752 = .ok (.aload 8, 2) := by decide +kernel
theorem dL_law_1754 : decode cL_law 1754 = .ok (.iconst 0, 1) := by decide +kernel
theorem dL_law_1755 : decode cL_law 1755 = .ok (.iaload, 1) := by decide +kernel
theorem dL_law_1756 : decode cL_law 1756 = .ok (.iload 19, 2) := by decide +kernel
theorem dL_law_1758 : decode cL_law 1758 = .ok (.iadd, 1) := by decide +kernel
theorem dL_law_1759 : decode cL_law 1759 = .ok (.sipush 671, 3) := by decide +kernel
theorem dL_law_1762 : decode cL_law 1762 = .ok (.if_icmp .le 17, 3) := by decide +kernel
theorem dL_law_1765 : decode cL_law 1765 = .ok (.aload_n 1, 1) := by decide +kernel
theorem dL_law_1766 : decode cL_law 1766 = .ok (.iconst 5, 1) := by decide +kernel
theorem dL_law_1767 : decode cL_law 1767 = .ok (.iload 19, 2) := by decide +kernel
theorem dL_law_1769 : decode cL_law 1769 = .ok (.iconst 0, 1) := by decide +kernel
theorem dL_law_1770 : decode cL_law 1770 = .ok (.invokestatic 109, 3) := by decide +kernel
theorem dL_law_1773 : decode cL_law 1773 = .ok (.iconst 4, 1) := by decide +kernel
theorem dL_law_1774 : decode cL_law 1774 = .ok (.if_icmp .eq 318, 3) := by decide +kernel
theorem dL_law_1777 : decode cL_law 1777 = .ok (.iconst 0, 1) := by decide +kernel
theorem dL_law_1778 : decode cL_law 1778 = .ok (.ireturn, 1) := by decide +kernel
theorem dL_law_1779 : decode cL_law 1779 = .ok (.aload 8, 2) := by decide +kernel
theorem dL_law_1781 : decode cL_law 1781 = .ok (.iconst 0, 1) := by decide +kernel
theorem dL_law_1782 : decode cL_law 1782 = .ok (.dup2, 1) := by decide +kernel
theorem dL_law_1783 : decode cL_law 1783 = .ok (.iaload, 1) := by decide +kernel
theorem dL_law_1784 : decode cL_law 1784 = .ok (.iload 19, 2) := by decide +kernel
theorem dL_law_1786 : decode cL_law 1786 = .ok (.iadd, 1) := by decide +kernel
theorem dL_law_1787 : decode cL_law 1787 = .ok (.iastore, 1) := by decide +kernel
theorem dL_law_1788 : decode cL_law 1788 = .ok (.aload_n 1, 1) := by decide +kernel
theorem dL_law_1789 : decode cL_law 1789 = .ok (.iload 19, 2) := by decide +kernel
theorem dL_law_1791 : decode cL_law 1791 = .ok (.invokevirtual 43, 3) := by decide +kernel
theorem dL_law_1794 : decode cL_law 1794 = .ok (.aload 8, 2) := by decide +kernel
theorem dL_law_1796 : decode cL_law 1796 = .ok (.iconst 0, 1) := by decide +kernel
theorem dL_law_1797 : decode cL_law 1797 = .ok (.iaload, 1) := by decide +kernel
theorem dL_law_1798 : decode cL_law 1798 = .ok (.if_icmp .eq 5, 3) := by decide +kernel
theorem dL_law_1801 : decode cL_law 1801 = .ok (.iconst 0, 1) := by decide +kernel
theorem dL_law_1802 : decode cL_law 1802 = .ok (.ireturn, 1) := by decide +kernel
theorem dL_law_1803 : decode cL_law 1803 = .ok (.goto 237, 3) := by decide +kernel
theorem dL_law_1806 : decode cL_law 1806 = .ok (.iload 11, 2) := by decide +kernel
theorem dL_law_1808 : decode cL_law 1808 = .ok (.sipush 672, 3) := by decide +kernel
theorem dL_law_1811 : decode cL_law 1811 = .ok (.invokestatic 84, 3) := by decide +kernel
theorem dL_law_1814 : decode cL_law 1814 = .ok (.istore 19, 2) := by decide +kernel
theorem dL_law_1816 : decode cL_law 1816 = .ok (.iconst 1, 1) := by decide +kernel
theorem dL_law_1817 : decode cL_law 1817 = .ok (.iload 11, 2) := by decide +kernel
theorem dL_law_1819 : decode cL_law 1819 = .ok (.bipush 10, 2) := by decide +kernel
theorem dL_law_1821 : decode cL_law 1821 = .ok (.ishr, 1) := by decide +kernel
theorem dL_law_1822 : decode cL_law 1822 = .ok (.bipush 40, 2) := by decide +kernel
theorem dL_law_1824 : decode cL_law 1824 = .ok (.invokestatic 84, 3) := by decide +kernel
theorem dL_law_1827 : decode cL_law 1827 = .ok (.iadd, 1) := by decide +kernel
theorem dL_law_1828 : decode cL_law 1828 = .ok (.istore 20, 2) := by decide +kernel
theorem dL_law_1830 : decode cL_law 1830 = .ok (.iconst 0, 1) := by decide +kernel
theorem dL_law_1831 : decode cL_law 1831 = .ok (.istore 21, 2) := by decide +kernel
theorem dL_law_1833 : decode cL_law 1833 = .ok (.iconst 0, 1) := by decide +kernel
theorem dL_law_1834 : decode cL_law 1834 = .ok (.istore 22, 2) := by decide +kernel
theorem dL_law_1836 : decode cL_law 1836 = .ok (.iconst (-1), 1) := by decide +kernel
theorem dL_law_1837 : decode cL_law 1837 = .ok (.istore 23, 2) := by decide +kernel
theorem dL_law_1839 : decode cL_law 1839 = .ok (.iload 19, 2) := by decide +kernel
theorem dL_law_1841 : decode cL_law 1841 = .ok (.istore 24, 2) := by decide +kernel
theorem dL_law_1843 : decode cL_law 1843 = .ok (.iload 24, 2) := by decide +kernel
theorem dL_law_1845 : decode cL_law 1845 = .ok (.sipush 672, 3) := by decide +kernel
theorem dL_law_1848 : decode cL_law 1848 = .ok (.if_icmp .ge 162, 3) := by decide +kernel
theorem dL_law_1851 : decode cL_law 1851 = .ok (.iload 23, 2) := by decide +kernel
theorem dL_law_1853 : decode cL_law 1853 = .ok (.ifCond .ge 157, 3) := by decide +kernel
theorem dL_law_1856 : decode cL_law 1856 = .ok (.iconst 1, 1) := by decide +kernel
theorem dL_law_1857 : decode cL_law 1857 = .ok (.istore 25, 2) := by decide +kernel
theorem dL_law_1859 : decode cL_law 1859 = .ok (.iconst 0, 1) := by decide +kernel
theorem dL_law_1860 : decode cL_law 1860 = .ok (.istore 26, 2) := by decide +kernel
theorem dL_law_1862 : decode cL_law 1862 = .ok (.iload 26, 2) := by decide +kernel
theorem dL_law_1864 : decode cL_law 1864 = .ok (.aload 8, 2) := by decide +kernel
theorem dL_law_1866 : decode cL_law 1866 = .ok (.iconst 2, 1) := by decide +kernel
theorem dL_law_1867 : decode cL_law 1867 = .ok (.iaload, 1) := by decide +kernel
theorem dL_law_1868 : decode cL_law 1868 = .ok (.if_icmp .ge 101, 3) := by decide +kernel
theorem dL_law_1871 : decode cL_law 1871 = .ok (.aload_n 2, 1) := by decide +kernel
theorem dL_law_1872 : decode cL_law 1872 = .ok (.bipush 7, 2) := by decide +kernel
theorem dL_law_1874 : decode cL_law 1874 = .ok (.iload 26, 2) := by decide +kernel
theorem dL_law_1876 : decode cL_law 1876 = .ok (.imul, 1) := by decide +kernel
theorem dL_law_1877 : decode cL_law 1877 = .ok (.iaload, 1) := by decide +kernel
theorem dL_law_1878 : decode cL_law 1878 = .ok (.iconst 1, 1) := by decide +kernel
theorem dL_law_1879 : decode cL_law 1879 = .ok (.if_icmp .ne 41, 3) := by decide +kernel
theorem dL_law_1882 : decode cL_law 1882 = .ok (.aload_n 2, 1) := by decide +kernel
theorem dL_law_1883 : decode cL_law 1883 = .ok (.bipush 7, 2) := by decide +kernel
theorem dL_law_1885 : decode cL_law 1885 = .ok (.iload 26, 2) := by decide +kernel
theorem dL_law_1887 : decode cL_law 1887 = .ok (.imul, 1) := by decide +kernel
theorem dL_law_1888 : decode cL_law 1888 = .ok (.iconst 2, 1) := by decide +kernel
theorem dL_law_1889 : decode cL_law 1889 = .ok (.iadd, 1) := by decide +kernel
theorem dL_law_1890 : decode cL_law 1890 = .ok (.iaload, 1) := by decide +kernel
theorem dL_law_1891 : decode cL_law 1891 = .ok (.iload 13, 2) := by decide +kernel
theorem dL_law_1893 : decode cL_law 1893 = .ok (.aload 4, 2) := by decide +kernel
theorem dL_law_1895 : decode cL_law 1895 = .ok (.invokestatic 10, 3) := by decide +kernel
theorem dL_law_1898 : decode cL_law 1898 = .ok (.ifCond .eq 22, 3) := by decide +kernel
theorem dL_law_1901 : decode cL_law 1901 = .ok (.aload_n 2, 1) := by decide +kernel
theorem dL_law_1902 : decode cL_law 1902 = .ok (.iload 26, 2) := by decide +kernel
theorem dL_law_1904 : decode cL_law 1904 = .ok (.iload 24, 2) := by decide +kernel
theorem dL_law_1906 : decode cL_law 1906 = .ok (.aload 5, 2) := by decide +kernel
theorem dL_law_1908 : decode cL_law 1908 = .ok (.aload 6, 2) := by decide +kernel
theorem dL_law_1910 : decode cL_law 1910 = .ok (.invokestatic 20, 3) := by decide +kernel
theorem dL_law_1913 : decode cL_law 1913 = .ok (.ifCond .eq 7, 3) := by decide +kernel
theorem dL_law_1916 : decode cL_law 1916 = .ok (.iconst 1, 1) := by decide +kernel
theorem dL_law_1917 : decode cL_law 1917 = .ok (.goto 4, 3) := by decide +kernel
end
section
theorem dL_law_1920 : decode cL_law 1920 = .ok (.iconst 0, 1) := by decide +kernel
theorem dL_law_1921 : decode cL_law 1921 = .ok (.istore 27, 2) := by decide +kernel
theorem dL_law_1923 : decode cL_law 1923 = .ok (.iload 21, 2) := by decide +kernel
theorem dL_law_1925 : decode cL_law 1925 = .ok (.iload 27, 2) := by decide +kernel
theorem dL_law_1927 : decode cL_law 1927 = .ok (.ifCond .eq 17, 3) := by decide +kernel
theorem dL_law_1930 : decode cL_law 1930 = .ok (.iload 24, 2) := by decide +kernel
theorem dL_law_1932 : decode cL_law 1932 = .ok (.iload 19, 2) := by decide +kernel
theorem dL_law_1934 : decode cL_law 1934 = .ok (.if_icmp .ne 10, 3) := by decide +kernel
theorem dL_law_1937 : decode cL_law 1937 = .ok (.iconst 1, 1) := by decide +kernel
theorem dL_law_1938 : decode cL_law 1938 = .ok (.iload 26, 2) := by decide +kernel
theorem dL_law_1940 : decode cL_law 1940 = .ok (.ishl, 1) := by decide +kernel
theorem dL_law_1941 : decode cL_law 1941 = .ok (.goto 4, 3) := by decide +kernel
theorem dL_law_1944 : decode cL_law 1944 = .ok (.iconst 0, 1) := by decide +kernel
theorem dL_law_1945 : decode cL_law 1945 = .ok (.ior, 1) := by decide +kernel
theorem dL_law_1946 : decode cL_law 1946 = .ok (.istore 21, 2) := by decide +kernel
theorem dL_law_1948 : decode cL_law 1948 = .ok (.iload 25, 2) := by decide +kernel
theorem dL_law_1950 : decode cL_law 1950 = .ok (.iload 27, 2) := by decide +kernel
theorem dL_law_1952 : decode cL_law 1952 = .ok (.ifCond .ne 7, 3) := by decide +kernel
theorem dL_law_1955 : decode cL_law 1955 = .ok (.iconst 1, 1) := by decide +kernel
theorem dL_law_1956 : decode cL_law 1956 = .ok (.goto 4, 3) := by decide +kernel
theorem dL_law_1959 : decode cL_law 1959 = .ok (.iconst 0, 1) := by decide +kernel
theorem dL_law_1960 : decode cL_law 1960 = .ok (.iand, 1) := by decide +kernel
theorem dL_law_1961 : decode cL_law 1961 = .ok (.istore 25, 2) := by decide +kernel
theorem dL_law_1963 : decode cL_law 1963 = .ok (.iinc 26 1, 3) := by decide +kernel
theorem dL_law_1966 : decode cL_law 1966 = .ok (.goto (-104), 3) := by decide +kernel
theorem dL_law_1969 : decode cL_law 1969 = .ok (.iload 25, 2) := by decide +kernel
theorem dL_law_1971 : decode cL_law 1971 = .ok (.ifCond .eq 10, 3) := by decide +kernel
theorem dL_law_1974 : decode cL_law 1974 = .ok (.iload 22, 2) := by decide +kernel
theorem dL_law_1976 : decode cL_law 1976 = .ok (.iconst 1, 1) := by decide +kernel
theorem dL_law_1977 : decode cL_law 1977 = .ok (.iadd, 1) := by decide +kernel
theorem dL_law_1978 : decode cL_law 1978 = .ok (.goto 4, 3) := by decide +kernel
theorem dL_law_1981 : decode cL_law 1981 = .ok (.iconst 0, 1) := by decide +kernel
theorem dL_law_1982 : decode cL_law 1982 = .ok (.istore 22, 2) := by decide +kernel
theorem dL_law_1984 : decode cL_law 1984 = .ok (.iload 22, 2) := by decide +kernel
theorem dL_law_1986 : decode cL_law 1986 = .ok (.iload 20, 2) := by decide +kernel
theorem dL_law_1988 : decode cL_law 1988 = .ok (.if_icmp .ne 13, 3) := by decide +kernel
theorem dL_law_1991 : decode cL_law 1991 = .ok (.iload 24, 2) := by decide +kernel
theorem dL_law_1993 : decode cL_law 1993 = .ok (.iconst 1, 1) := by decide +kernel
theorem dL_law_1994 : decode cL_law 1994 = .ok (.iadd, 1) := by decide +kernel
theorem dL_law_1995 : decode cL_law 1995 = .ok (.iload 20, 2) := by decide +kernel
theorem dL_law_1997 : decode cL_law 1997 = .ok (.isub, 1) := by decide +kernel
theorem dL_law_1998 : decode cL_law 1998 = .ok (.goto 4, 3) := by decide +kernel
theorem dL_law_2001 : decode cL_law 2001 = .ok (.iconst (-1), 1) := by decide +kernel
theorem dL_law_2002 : decode cL_law 2002 = .ok (.istore 23, 2) := by decide +kernel
theorem dL_law_2004 : decode cL_law 2004 = .ok (.iinc 24 1, 3) := by decide +kernel
theorem dL_law_2007 : decode cL_law 2007 = .ok (.goto (-164), 3) := by decide +kernel
theorem dL_law_2010 : decode cL_law 2010 = .ok (.aload_n 1, 1) := by decide +kernel
theorem dL_law_2011 : decode cL_law 2011 = .ok (.iload 13, 2) := by decide +kernel
theorem dL_law_2013 : decode cL_law 2013 = .ok (.iload 19, 2) := by decide +kernel
theorem dL_law_2015 : decode cL_law 2015 = .ok (.iload 20, 2) := by decide +kernel
theorem dL_law_2017 : decode cL_law 2017 = .ok (.invokevirtual 122, 3) := by decide +kernel
theorem dL_law_2020 : decode cL_law 2020 = .ok (.iload 23, 2) := by decide +kernel
theorem dL_law_2022 : decode cL_law 2022 = .ok (.if_icmp .ne 16, 3) := by decide +kernel
theorem dL_law_2025 : decode cL_law 2025 = .ok (.aload_n 1, 1) := by decide +kernel
theorem dL_law_2026 : decode cL_law 2026 = .ok (.iload 13, 2) := by decide +kernel
theorem dL_law_2028 : decode cL_law 2028 = .ok (.iload 19, 2) := by decide +kernel
theorem dL_law_2030 : decode cL_law 2030 = .ok (.invokevirtual 125, 3) := by decide +kernel
theorem dL_law_2033 : decode cL_law 2033 = .ok (.iload 21, 2) := by decide +kernel
theorem dL_law_2035 : decode cL_law 2035 = .ok (.if_icmp .eq 5, 3) := by decide +kernel
theorem dL_law_2038 : decode cL_law 2038 = .ok (.iconst 0, 1) := by decide +kernel
theorem dL_law_2039 : decode cL_law 2039 = .ok (.ireturn, 1) := by decide +kernel
theorem dL_law_2040 : decode cL_law 2040 = .ok (.iconst 0, 1) := by decide +kernel
theorem dL_law_2041 : decode cL_law 2041 = .ok (.istore 19, 2) := by decide +kernel
theorem dL_law_2043 : decode cL_law 2043 = .ok (.iload 19, 2) := by decide +kernel
theorem dL_law_2045 : decode cL_law 2045 = .ok (.aload 8, 2) := by decide +kernel
theorem dL_law_2047 : decode cL_law 2047 = .ok (.iconst 3, 1) := by decide +kernel
theorem dL_law_2048 : decode cL_law 2048 = .ok (.iaload, 1) := by decide +kernel
theorem dL_law_2049 : decode cL_law 2049 = .ok (.if_icmp .ge 30, 3) := by decide +kernel
theorem dL_law_2052 : decode cL_law 2052 = .ok (.aload_n 1, 1) := by decide +kernel
theorem dL_law_2053 : decode cL_law 2053 = .ok (.iload 19, 2) := by decide +kernel
theorem dL_law_2055 : decode cL_law 2055 = .ok (.aload_n 2, 1) := by decide +kernel
theorem dL_law_2056 : decode cL_law 2056 = .ok (.aload_n 3, 1) := by decide +kernel
theorem dL_law_2057 : decode cL_law 2057 = .ok (.aload 4, 2) := by decide +kernel
theorem dL_law_2059 : decode cL_law 2059 = .ok (.aload 5, 2) := by decide +kernel
theorem dL_law_2061 : decode cL_law 2061 = .ok (.aload 6, 2) := by decide +kernel
theorem dL_law_2063 : decode cL_law 2063 = .ok (.aload 8, 2) := by decide +kernel
theorem dL_law_2065 : decode cL_law 2065 = .ok (.invokestatic 128, 3) := by decide +kernel
theorem dL_law_2068 : decode cL_law 2068 = .ok (.ifCond .ne 5, 3) := by decide +kernel
theorem dL_law_2071 : decode cL_law 2071 = .ok (.iconst 0, 1) := by decide +kernel
theorem dL_law_2072 : decode cL_law 2072 = .ok (.ireturn, 1) := by decide +kernel
theorem dL_law_2073 : decode cL_law 2073 = .ok (.iinc 19 1, 3) := by decide +kernel
theorem dL_law_2076 : decode cL_law 2076 = .ok (.goto (-33), 3) := by decide +kernel
theorem dL_law_2079 : decode cL_law 2079 = .ok (.aload_n 1, 1) := by decide +kernel
theorem dL_law_2080 : decode cL_law 2080 = .ok (.invokevirtual 132, 3) := by decide +kernel
theorem dL_law_2083 : decode cL_law 2083 = .ok (.aload 8, 2) := by decide +kernel
theorem dL_law_2085 : decode cL_law 2085 = .ok (.iconst 0, 1) := by decide +kernel
theorem dL_law_2086 : decode cL_law 2086 = .ok (.iaload, 1) := by decide +kernel
theorem dL_law_2087 : decode cL_law 2087 = .ok (.if_icmp .eq 5, 3) := by decide +kernel
theorem dL_law_2090 : decode cL_law 2090 = .ok (.iconst 0, 1) := by decide +kernel
theorem dL_law_2091 : decode cL_law 2091 = .ok (.ireturn, 1) := by decide +kernel
theorem dL_law_2092 : decode cL_law 2092 = .ok (.iinc 9 1, 3) := by decide +kernel
theorem dL_law_2095 : decode cL_law 2095 = .ok (.goto (-2038), 3) := by decide +kernel
theorem dL_law_2098 : decode cL_law 2098 = .ok (.iconst 1, 1) := by decide +kernel
theorem dL_law_2099 : decode cL_law 2099 = .ok (.ireturn, 1) := by decide +kernel
end
section
/-! one list of words for all methods -/
def uU : List Cond := lw_tbl.filter goodWord
theorem uU_tb {w : Cond} (h : w ∈ uU) : w ∈ lw_tbl := (List.mem_filter.mp h).1
theorem uU_gd {w : Cond} (h : w ∈ uU) : (w.onTables && w.keeps) = true ∨ ∃ ty, w = .arrayClass ty := good_of_word (List.mem_filter.mp h).2
theorem uU_in (i : Nat) {w : Cond} (h : lw_tbl[i]? = some w) (hg : goodWord w = true) : w ∈ uU := List.mem_filter.mpr ⟨List.mem_of_getElem? h, hg⟩
theorem uU_cons {w0 : Cond} (h : w0 ∈ uU) : GoodIn uU (w0 :: uU) := fun w hw => by
  rcases List.mem_cons.mp hw with rfl | hw
  · exact ⟨h, uU_gd h⟩
  · exact ⟨hw, uU_gd hw⟩
/-! what holds of every state of the run -/
abbrev uTy (ids : Nat → ClassId) : List (ClassId × FieldType) := [(ids 0, .int), (ids 1, .boolean), (ids 2, .int), (ids 3, .object "FrostCalendar$Land"), (ids 4, .object "FrostCalendar$Freeze"), (ids 5, .object "FrostCalendar$Change")]
def uNt : List (Nat × String) := [(199, "no such scope"), (49, "there are 16 scopes"), (202, "no such land"), (213, "out of its range"), (75, "now would be above 671"), (218, "20 freezes were laid"), (206, "no such freeze any more"), (120, "there are 30 changes"), (209, "no such change"), (216, "the change is not PLANNED"), (150, "the change is approved up to its risk"), (152, "now is not the first hour of the change"), (154, "the change is not approved up to its risk"), (159, "the change is not let through"), (182, "the freeze does not touch the change"), (184, "the change is excused from the freeze already"), (192, "there is no exception that could be spent")]
def uNd : List MethodName := [⟨"FrostCalendar$Freeze", "holdsIn", "(I)Z"⟩, ⟨"java/lang/RuntimeException", "<init>", "(Ljava/lang/String;)V"⟩, ⟨"java/lang/Exception", "<init>", "(Ljava/lang/String;)V"⟩, ⟨"java/lang/Throwable", "<init>", "(Ljava/lang/String;)V"⟩]
def uEx : List String := ["java/lang/IndexOutOfBoundsException", "java/lang/IllegalStateException", "java/lang/IllegalArgumentException", "java/util/NoSuchElementException"]
def uNc : List (String × String) := [("FrostCalendar$FreezeOnce", "FrostCalendar$Freeze"), ("FrostCalendar$FreezeDaily", "FrostCalendar$Freeze"), ("FrostCalendar$FreezeOnFeasts", "FrostCalendar$Freeze"), ("java/lang/IndexOutOfBoundsException", "java/lang/IndexOutOfBoundsException"), ("java/lang/IllegalStateException", "java/lang/IllegalStateException"), ("java/lang/IllegalArgumentException", "java/lang/IllegalArgumentException"), ("java/util/NoSuchElementException", "java/util/NoSuchElementException")]
def uAO : List String := ["FrostCalendar$Land", "FrostCalendar$Freeze", "FrostCalendar$Change"]
def uNx : List (String × String) := (uEx.flatMap fun a => uEx.map fun b => (a, b)).filter fun q => !(q.1 == q.2)
def uNl : List (String × Nat × MethodName × String) := [("FrostCalendar", 42, yX5_init, "FrostCalendar"), ("FrostCalendar$Land", 27, yX6_isInSet, "FrostCalendar")]
def En (D : va_G) (ids : Nat → ClassId) (n0 : Nat) (U : State) : Prop :=
  va_K D vwCl (uTy ids) U ∧ vx_Zq Bundle.tN "UNASSIGNED_STACK" Bundle.steD (fun q => n0 ≤ q) U U.heap ∧ vx_Zq Bundle.tN "SUPPRESSED_SENTINEL" Bundle.listD (fun q => n0 ≤ q) U U.heap ∧ n0 ≤ U.heap.size ∧ (∀ q ∈ uNt, ∃ a, vk_R "FrostCalendar" q.1 q.2 a U) ∧ (∀ x ∈ uNd, va_Nw (.declares x) U) ∧ (∀ q ∈ uNc, va_Nw (.castable q.1 q.2) U) ∧ (∀ C ∈ uAO, va_AO C U) ∧ (∀ q ∈ uNx, va_Nc q.1 q.2 U) ∧ (∀ q ∈ uNl, va_Nw (.methodLinkNest q.1 q.2.1 q.2.2.1 q.2.2.2) U)
theorem En.moved {D : va_G} {ids : Nat → ClassId} {n0 : Nat} {s U : State} (hW : s.WarmedH U.vm) (hz : n0 ≤ U.heap.size) (hq : ∀ q, q < n0 → U.heap[q]? = s.heap[q]?) (h : En D ids n0 s) : En D ids n0 U := by
  obtain ⟨h1, h2, h3, h4, h5, h6, h7, h8, h9, h10⟩ := h
  refine ⟨va_K.moved hW.alike h1, vx_Zq.moved hW.alike (vx_Zq.kept h2 fun a _ ha => hq a (Nat.not_le.mp ha)), vx_Zq.moved hW.alike (vx_Zq.kept h3 fun a _ ha => hq a (Nat.not_le.mp ha)), hz, ?_, ?_, ?_, ?_, ?_, ?_⟩
  · intro q hm; obtain ⟨a, ha⟩ := h5 q hm; exact ⟨a, vk_R.warm hW ha⟩
  · intro q hm; exact va_Nw.warmD hW (h6 q hm)
  · intro q hm; exact va_Nw.warmC hW (h7 q hm)
  · intro q hm; exact va_AO.moved hW.alike (h8 q hm)
  · intro q hm; exact va_Nc.moved hW.alike (h9 q hm)
  · intro q hm; exact va_Nw.warmM hW (h10 q hm)
theorem En.blind {D : va_G} {ids : Nat → ClassId} {n0 : Nat} {as : List Value} {Hh : Heap} : FrameBlind (va_Pc as (fun U => En D ids n0 U ∧ U.heap = Hh)) := by
  intro a U g mk h
  obtain ⟨h1, h2, h3⟩ := h
  exact ⟨h1, En.moved (s := U) (U := U.calling g mk a) (State.WarmedH.refl U) h2.2.2.2.1 (fun _ _ => rfl) h2, h3⟩
/-! the world by roles: role r lies at ad r and holds cn r -/
def ro_ws (RR : List Nat) (ad : Nat → Nat) (cn : Nat → va_E) : va_W := RR.map fun r => (ad r, cn r)
def ro_P (D : va_G) (n0 : Nat) (RR : List Nat) (ad : Nat → Nat) (cn : Nat → va_E) (H : Heap) : Prop := va_P D vwCl (ro_ws RR ad cn) H ∧ va_D (fun q => n0 ≤ q) (ro_ws RR ad cn)
theorem ro_ix {RR : List Nat} {ad : Nat → Nat} {cn : Nat → va_E} {r : Nat} (h : r ∈ RR) : ∃ k : Nat, RR[k]? = some r ∧ (ro_ws RR ad cn)[k]? = some (ad r, cn r) := by
  obtain ⟨k, hk⟩ := List.getElem?_of_mem h
  exact ⟨k, hk, by simp [ro_ws, hk]⟩
theorem ro_set {A : Nat → Prop} {RR : List Nat} {ad : Nat → Nat} {cn : Nat → va_E} {r k : Nat} {e : va_E} (hD : va_D A (ro_ws RR ad cn)) (hk : RR[k]? = some r) : (ro_ws RR ad cn).set k (ad r, e) = ro_ws RR ad (va_up cn r e) := by
  have hl := (List.getElem?_eq_some_iff.mp hk).1
  apply List.ext_getElem?
  intro j
  by_cases hj : j = k
  · subst hj
    rw [List.getElem?_set_self (by simp [ro_ws]; exact hl)]
    simp [ro_ws, hk, va_up]
  · rw [List.getElem?_set_ne (Ne.symm hj)]
    simp only [ro_ws, List.getElem?_map]
    cases hb : RR[j]? with
    | none => rfl
    | some b =>
      have hbr : b ≠ r := by
        intro hbr
        subst hbr
        exact hj (hD.1 j k _ _ (by simp [ro_ws, hb] <;> rfl) (by simp [ro_ws, hk] <;> rfl) rfl)
      simp [va_up, hbr]
theorem ro_push {RR : List Nat} {ad : Nat → Nat} {cn : Nat → va_E} {r q : Nat} {e : va_E} (h : r ∉ RR) : ro_ws RR ad cn ++ [(q, e)] = ro_ws (RR ++ [r]) (va_up ad r q) (va_up cn r e) := by
  simp only [ro_ws, List.map_append, List.map_cons, List.map_nil, va_up_self]
  congr 1
  apply List.map_congr_left
  intro b hb
  have hbr : b ≠ r := fun z => h (z ▸ hb)
  rw [va_up_ne _ _ hbr, va_up_ne _ _ hbr]
theorem ro_P.keep {D : va_G} {n0 : Nat} {RR : List Nat} {ad : Nat → Nat} {cn : Nat → va_E} {H H1 : Heap} (h : ro_P D n0 RR ad cn H) (hq : ∀ q : Nat, q < H.size → H1[q]? = H[q]?) : ro_P D n0 RR ad cn H1 := ⟨fun k q hk => (h.1 k q hk).kept (hq _ (h.1 k q hk).lt), h.2⟩
/-- contracts: entered with the heap Hh -/
def ro_pre (D : va_G) (ids : Nat → ClassId) (n0 : Nat) (as : List Value) (Hh : Heap) : Array Value → State → Prop := va_Pc as (fun U => En D ids n0 U ∧ U.heap = Hh)
def ro_Q (n0 : Nat) (post : Option Value → Heap → Prop) : Array Value → State → Outcome → State → Prop := fun _ st oc t => ∃ v, oc = .returned v ∧ post v t.heap ∧ va_F (fun q => n0 ≤ q) st t
def ro_X (n0 : Nat) (px : String → Heap → Prop) : String → State → State → Prop := fun E st t => px E t.heap ∧ va_F (fun q => n0 ≤ q) st t
/-- a method that returns -/
def ro_M (l : Launch) (y : MethodName) (cy : ByteArray) (maxL : Nat) (ret : Option FieldType) (rm : Room) (D : va_G) (ids : Nat → ClassId) (n0 : Nat) (as : List Value) (Hh : Heap) (post : Option Value → Heap → Prop) : Prop :=
  Met l y (.code y cy maxL ret :: uU) rm (ro_pre D ids n0 as Hh) (ro_Q n0 post) rm.cells rm.slots (fun q => n0 ≤ q)
/-- a method that returns or throws -/
def ro_T (l : Launch) (y : MethodName) (cy : ByteArray) (maxL : Nat) (ret : Option FieldType) (rm : Room) (D : va_G) (ids : Nat → ClassId) (n0 : Nat) (as : List Value) (Hh : Heap) (post : Option Value → Heap → Prop) (px : String → Heap → Prop) : Prop :=
  vx_Met l y (.code y cy maxL ret :: uU) rm (ro_pre D ids n0 as Hh) (ro_Q n0 post) (ro_X n0 px) rm.cells rm.slots (fun q => n0 ≤ q)
/-- what a body has at hand -/
def ro_C (p : Program) (s : State) (m : MethodId) (args : Array Value) (meth : Method) (c : Code) (cc : ByteArray) (nL : Nat) (own : String) (D : va_G) (ids : Nat → ClassId) (n0 : Nat) : Prop := CallFix p m c cc nL s args uU own ∧ En D ids n0 s ∧ meth.locks = false
section RO
variable {p : Program} {l : Launch} {e : Env} {R : Room} {s : State} {m : MethodId} {args : Array Value} {below : List Frame} {meth : Method} {c : Code} {H : Heap} {locs : List Loc} {cells slots : Nat} {Q : State → Prop}
variable {cc : ByteArray} {nL : Nat} {own : String} {D : va_G} {ids : Nat → ClassId} {n0 : Nat} {RR : List Nat} {ad : Nat → Nat} {cn : Nat → va_E} {pc : Nat} {ls : Array Slot} {rest : List Value}
theorem ro_P.of (h : ro_P D n0 RR ad cn H) : va_P D vwCl (ro_ws RR ad cn) H := h.1
theorem ro_get (MC : ro_C p s m args meth c cc nL own D ids n0) (HP : ro_P D n0 RR ad cn H) {r : Nat} (hr : r ∈ RR) {ci N : Nat} {C ref : String} {T : u_T} {fs : List Value} (hf : cn r = .inr (ci, fs)) (hc : vwCl[ci]? = some (C, T, N)) (hin : ∀ w ∈ u_ws C T N, w ∈ uU) (k : Nat) (hk : k < N) {index : Nat} (hlink : Cond.fieldLink own index ref (T k).2.1 (T k).2.2.1 ∈ uU) (hsame : (T k).1 = ref) {v : Value} (hv : fs[k]? = some v) (hdg : decode cc pc = .ok (.getfield index, 3))
    (kk : W p l e R s m args below meth c H locs cells slots Q (F0 m (pc + 3) ls (v :: rest))) : W p l e R s m args below meth c H locs cells slots Q (F0 m pc ls (.ref (ad r) :: rest)) := by
  obtain ⟨⟨hx, hb, hml, hown, hts⟩, hE, -⟩ := MC
  obtain ⟨i, hi, hw⟩ := ro_ix (ad := ad) (cn := cn) hr
  rw [hf] at hw
  exact va_get hx hb hts hin hown hE.1 HP.1 i hw hc k hk (hts _ hlink) (fun x h => by rw [← hsame]; exact h) hv hdg kk
theorem ro_put (MC : ro_C p s m args meth c cc nL own D ids n0) (HP : ro_P D n0 RR ad cn H) (HS : va_S (fun q => n0 ≤ q) s.heap H locs) {r : Nat} (hr : r ∈ RR) {ci N : Nat} {C ref : String} {T : u_T} {fs : List Value} (hf : cn r = .inr (ci, fs)) (hc : vwCl[ci]? = some (C, T, N)) (hin : ∀ w ∈ u_ws C T N, w ∈ uU) {ty0 : Nat → FieldType} (hty : ∀ k, k < N → parseFieldDescriptor (T k).2.2.1 = some (ty0 k)) (hnm : ∀ a, a < N → ∀ b, b < N → a ≠ b → (T a).2.1 ≠ (T b).2.1) (k : Nat) (hk : k < N) {index : Nat} (hlink : Cond.fieldLink own index ref (T k).2.1 (T k).2.2.1 ∈ uU) (hsame : (T k).1 = ref) (hfin : (T k).2.2.2 = false) {v : Value} (hn : narrow (ty0 k) v = v) (hfit : fits (ty0 k) v = true) (hl : k < fs.length) (hdg : decode cc pc = .ok (.putfield index, 3))
    (kk : ∀ (H1 : Heap) (locs1 : List Loc), ro_P D n0 RR ad (va_up cn r (.inr (ci, fs.set k v))) H1 → va_S (fun q => n0 ≤ q) s.heap H1 locs1 → W p l e R s m args below meth c H1 locs1 cells slots Q (F0 m (pc + 3) ls rest)) : W p l e R s m args below meth c H locs cells slots Q (F0 m pc ls (v :: .ref (ad r) :: rest)) := by
  obtain ⟨⟨hx, hb, hml, hown, hts⟩, hE, -⟩ := MC
  obtain ⟨i, hi, hw⟩ := ro_ix (ad := ad) (cn := cn) hr
  rw [hf] at hw
  refine va_put hx hb hts hin ty0 hty hnm hown hE.1 HP.1 HP.2 HS i hw hc k hk (hts _ hlink) (fun x h => by rw [← hsame]; exact h) hfin (hty k hk) hn hfit hl hdg fun H1 locs1 h1 h2 h3 => ?_
  rw [ro_set HP.2 hi] at h1 h2
  exact kk H1 locs1 ⟨h1, h2⟩ h3
theorem ro_putF (MC : ro_C p s m args meth c cc nL own D ids n0) (hinit : meth.name = "<init>") (HP : ro_P D n0 RR ad cn H) (HS : va_S (fun q => n0 ≤ q) s.heap H locs) {r : Nat} (hr : r ∈ RR) {ci N : Nat} {C : String} {T : u_T} {fs : List Value} (hf : cn r = .inr (ci, fs)) (hc : vwCl[ci]? = some (C, T, N)) (hin : ∀ w ∈ u_ws C T N, w ∈ uU) {ty0 : Nat → FieldType} (hty : ∀ k, k < N → parseFieldDescriptor (T k).2.2.1 = some (ty0 k)) (hnm : ∀ a, a < N → ∀ b, b < N → a ≠ b → (T a).2.1 ≠ (T b).2.1) (k : Nat) (hk : k < N) {index : Nat} (hlink : Cond.fieldLink own index own (T k).2.1 (T k).2.2.1 ∈ uU) (hsame : (T k).1 = own) (hfin : (T k).2.2.2 = true) {v : Value} (hn : narrow (ty0 k) v = v) (hfit : fits (ty0 k) v = true) (hl : k < fs.length) (hdg : decode cc pc = .ok (.putfield index, 3))
    (kk : ∀ (H1 : Heap) (locs1 : List Loc), ro_P D n0 RR ad (va_up cn r (.inr (ci, fs.set k v))) H1 → va_S (fun q => n0 ≤ q) s.heap H1 locs1 → W p l e R s m args below meth c H1 locs1 cells slots Q (F0 m (pc + 3) ls rest)) : W p l e R s m args below meth c H locs cells slots Q (F0 m pc ls (v :: .ref (ad r) :: rest)) := by
  obtain ⟨⟨hx, hb, hml, hown, hts⟩, hE, -⟩ := MC
  obtain ⟨i, hi, hw⟩ := ro_ix (ad := ad) (cn := cn) hr
  rw [hf] at hw
  refine va_putF hx hb hts hin ty0 hty hnm hown hE.1 HP.1 HP.2 HS i hw hc k hk (hts _ hlink) (fun x h => by rw [← hsame]; exact h) hfin hinit hsame (hty k hk) hn hfit hl hdg fun H1 locs1 h1 h2 h3 => ?_
  rw [ro_set HP.2 hi] at h1 h2
  exact kk H1 locs1 ⟨h1, h2⟩ h3
theorem ro_iald (MC : ro_C p s m args meth c cc nL own D ids n0) (HP : ro_P D n0 RR ad cn H) {r : Nat} (hr : r ∈ RR) {n : Nat} {f : Nat → Int32} (hf : cn r = .inl (ids 0, n, .inl f)) {i : Int32} (hin : vp_in i n) (hdg : decode cc pc = .ok (.iaload, 1))
    (kk : W p l e R s m args below meth c H locs cells slots Q (F0 m (pc + 1) ls (.int (f i.toNatClampNeg) :: rest))) : W p l e R s m args below meth c H locs cells slots Q (F0 m pc ls (.int i :: .ref (ad r) :: rest)) := by
  obtain ⟨⟨hx, hb, hml, hown, hts⟩, hE, -⟩ := MC
  obtain ⟨k, hi, hw⟩ := ro_ix (ad := ad) (cn := cn) hr
  rw [hf] at hw
  exact va_iald hx hb hE.1 HP.1 k 0 hw rfl hin hdg kk
theorem ro_zald (MC : ro_C p s m args meth c cc nL own D ids n0) (HP : ro_P D n0 RR ad cn H) {r : Nat} (hr : r ∈ RR) {n : Nat} {f : Nat → Int32} (hf : cn r = .inl (ids 1, n, .inl f)) {i : Int32} (hin : vp_in i n) (hdg : decode cc pc = .ok (.baload, 1))
    (kk : W p l e R s m args below meth c H locs cells slots Q (F0 m (pc + 1) ls (.int (f i.toNatClampNeg) :: rest))) : W p l e R s m args below meth c H locs cells slots Q (F0 m pc ls (.int i :: .ref (ad r) :: rest)) := by
  obtain ⟨⟨hx, hb, hml, hown, hts⟩, hE, -⟩ := MC
  obtain ⟨k, hi, hw⟩ := ro_ix (ad := ad) (cn := cn) hr
  rw [hf] at hw
  exact va_zald hx hb hE.1 HP.1 k 1 hw rfl hin hdg kk
theorem ro_aald (MC : ro_C p s m args meth c cc nL own D ids n0) (HP : ro_P D n0 RR ad cn H) (t0 : Nat) {C : String} {r : Nat} (hr : r ∈ RR) {n : Nat} {f : Nat → Option Nat} (hf : cn r = .inl (ids t0, n, .inr (.inr (.inr (.inr f))))) (ht : (uTy ids)[t0]? = some (ids t0, .object C)) {i : Int32} (hin : vp_in i n) (hdg : decode cc pc = .ok (.aaload, 1))
    (kk : W p l e R s m args below meth c H locs cells slots Q (F0 m (pc + 1) ls (va_rf (f i.toNatClampNeg) :: rest))) : W p l e R s m args below meth c H locs cells slots Q (F0 m pc ls (.int i :: .ref (ad r) :: rest)) := by
  obtain ⟨⟨hx, hb, hml, hown, hts⟩, hE, -⟩ := MC
  obtain ⟨k, hi, hw⟩ := ro_ix (ad := ad) (cn := cn) hr
  rw [hf] at hw
  exact va_aldq hx hb hE.1 HP.1 k t0 hw ht hin hdg kk
theorem ro_iast (MC : ro_C p s m args meth c cc nL own D ids n0) (HP : ro_P D n0 RR ad cn H) (HS : va_S (fun q => n0 ≤ q) s.heap H locs) {r : Nat} (hr : r ∈ RR) {n : Nat} {f : Nat → Int32} (hf : cn r = .inl (ids 0, n, .inl f)) {i x : Int32} (hin : vp_in i n) (hdg : decode cc pc = .ok (.iastore, 1))
    (kk : ∀ (H1 : Heap) (locs1 : List Loc), ro_P D n0 RR ad (va_up cn r (.inl (ids 0, n, .inl (upd f i.toNatClampNeg x)))) H1 → va_S (fun q => n0 ≤ q) s.heap H1 locs1 → W p l e R s m args below meth c H1 locs1 cells slots Q (F0 m (pc + 1) ls rest)) : W p l e R s m args below meth c H locs cells slots Q (F0 m pc ls (.int x :: .int i :: .ref (ad r) :: rest)) := by
  obtain ⟨⟨hx, hb, hml, hown, hts⟩, hE, -⟩ := MC
  obtain ⟨k, hi, hw⟩ := ro_ix (ad := ad) (cn := cn) hr
  rw [hf] at hw
  refine va_iast hx hb hE.1 HP.1 HP.2 HS k 0 hw rfl hin hdg fun H1 locs1 h1 h2 h3 => ?_
  rw [ro_set HP.2 hi] at h1 h2
  exact kk H1 locs1 ⟨h1, h2⟩ h3
theorem ro_zast (MC : ro_C p s m args meth c cc nL own D ids n0) (HP : ro_P D n0 RR ad cn H) (HS : va_S (fun q => n0 ≤ q) s.heap H locs) {r : Nat} (hr : r ∈ RR) {n : Nat} {f : Nat → Int32} (hf : cn r = .inl (ids 1, n, .inl f)) {i x : Int32} (hin : vp_in i n) (hnar : vp_nar .boolean x = x) (hdg : decode cc pc = .ok (.bastore, 1))
    (kk : ∀ (H1 : Heap) (locs1 : List Loc), ro_P D n0 RR ad (va_up cn r (.inl (ids 1, n, .inl (upd f i.toNatClampNeg x)))) H1 → va_S (fun q => n0 ≤ q) s.heap H1 locs1 → W p l e R s m args below meth c H1 locs1 cells slots Q (F0 m (pc + 1) ls rest)) : W p l e R s m args below meth c H locs cells slots Q (F0 m pc ls (.int x :: .int i :: .ref (ad r) :: rest)) := by
  obtain ⟨⟨hx, hb, hml, hown, hts⟩, hE, -⟩ := MC
  obtain ⟨k, hi, hw⟩ := ro_ix (ad := ad) (cn := cn) hr
  rw [hf] at hw
  refine va_zast hx hb hE.1 HP.1 HP.2 HS k 1 hw rfl hin hdg fun H1 locs1 h1 h2 h3 => ?_
  rw [ro_set HP.2 hi, hnar] at h1 h2
  exact kk H1 locs1 ⟨h1, h2⟩ h3
theorem ro_any {ci : Nat} {fs : List Value} {q : vw_C} {r : Nat} {E : String} (hE : En D ids n0 s) (HP : ro_P D n0 RR ad cn H) (hr : r ∈ RR) (hf : cn r = .inr (ci, fs)) (hc : vwCl[ci]? = some q) (hcast : (q.1, E) ∈ uNc) : va_Any E s H (ad r) := by
  obtain ⟨k, hi, hw⟩ := ro_ix (ad := ad) (cn := cn) hr
  rw [hf] at hw
  refine va_rAny hE.1 HP.1 hw hc fun comp c0 h1 h2 => ?_
  obtain ⟨c3, c4, hc3, hc4, hasg⟩ := Cond.castable_spec (hE.2.2.2.2.2.2.1 _ hcast)
  cases Option.some.inj (hc3.symm.trans h2)
  cases Option.some.inj (hc4.symm.trans h1)
  exact hasg
theorem ro_aastM (MC : ro_C p s m args meth c cc nL own D ids n0) (HP : ro_P D n0 RR ad cn H) (HS : va_S (fun q => n0 ≤ q) s.heap H locs) (t0 : Nat) {C : String} {r : Nat} (hr : r ∈ RR) {n v : Nat} {f : Nat → Option Nat} (hf : cn r = .inl (ids t0, n, .inr (.inr (.inr (.inr f))))) (ht : (uTy ids)[t0]? = some (ids t0, .object C)) (hv : va_Any C s H v) {i : Int32} (hin : vp_in i n) (hdg : decode cc pc = .ok (.aastore, 1))
    (kk : ∀ (H1 : Heap) (locs1 : List Loc), ro_P D n0 RR ad (va_up cn r (.inl (ids t0, n, .inr (.inr (.inr (.inr (va_up f i.toNatClampNeg (some v)))))))) H1 → va_S (fun q => n0 ≤ q) s.heap H1 locs1 → W p l e R s m args below meth c H1 locs1 cells slots Q (F0 m (pc + 1) ls rest)) : W p l e R s m args below meth c H locs cells slots Q (F0 m pc ls (.ref v :: .int i :: .ref (ad r) :: rest)) := by
  obtain ⟨⟨hx, hb, hml, hown, hts⟩, hE, -⟩ := MC
  obtain ⟨k, hi, hw⟩ := ro_ix (ad := ad) (cn := cn) hr
  rw [hf] at hw
  refine va_astqM hx hb hE.1 HP.1 HP.2 HS k t0 hw ht hv hin hdg fun H1 locs1 h1 h2 h3 => ?_
  rw [ro_set HP.2 hi] at h1 h2
  exact kk H1 locs1 ⟨h1, h2⟩ h3
theorem ro_aast (MC : ro_C p s m args meth c cc nL own D ids n0) (HP : ro_P D n0 RR ad cn H) (HS : va_S (fun q => n0 ≤ q) s.heap H locs) (t0 : Nat) {q : vw_C} {r rv ci : Nat} {vs : List Value} (hr : r ∈ RR) {n : Nat} {f : Nat → Option Nat} (hf : cn r = .inl (ids t0, n, .inr (.inr (.inr (.inr f))))) (ht : (uTy ids)[t0]? = some (ids t0, .object q.1)) (hrv : rv ∈ RR) (hfv : cn rv = .inr (ci, vs)) (hc : vwCl[ci]? = some q) {i : Int32} (hin : vp_in i n) (hdg : decode cc pc = .ok (.aastore, 1))
    (kk : ∀ (H1 : Heap) (locs1 : List Loc), ro_P D n0 RR ad (va_up cn r (.inl (ids t0, n, .inr (.inr (.inr (.inr (va_up f i.toNatClampNeg (some (ad rv))))))))) H1 → va_S (fun q => n0 ≤ q) s.heap H1 locs1 → W p l e R s m args below meth c H1 locs1 cells slots Q (F0 m (pc + 1) ls rest)) : W p l e R s m args below meth c H locs cells slots Q (F0 m pc ls (.ref (ad rv) :: .int i :: .ref (ad r) :: rest)) := by
  obtain ⟨⟨hx, hb, hml, hown, hts⟩, hE, -⟩ := MC
  obtain ⟨k, hi, hw⟩ := ro_ix (ad := ad) (cn := cn) hr
  obtain ⟨kv, hiv, hwv⟩ := ro_ix (ad := ad) (cn := cn) hrv
  rw [hf] at hw
  rw [hfv] at hwv
  refine va_astq hx hb hE.1 HP.1 HP.2 HS k t0 kv ci hw ht hwv hc hin hdg fun H1 locs1 h1 h2 h3 => ?_
  rw [ro_set HP.2 hi] at h1 h2
  exact kk H1 locs1 ⟨h1, h2⟩ h3
theorem ro_aastN (MC : ro_C p s m args meth c cc nL own D ids n0) (HP : ro_P D n0 RR ad cn H) (HS : va_S (fun q => n0 ≤ q) s.heap H locs) (t0 : Nat) {C : String} {r : Nat} (hr : r ∈ RR) {n : Nat} {f : Nat → Option Nat} (hf : cn r = .inl (ids t0, n, .inr (.inr (.inr (.inr f))))) (ht : (uTy ids)[t0]? = some (ids t0, .object C)) {i : Int32} (hin : vp_in i n) (hdg : decode cc pc = .ok (.aastore, 1))
    (kk : ∀ (H1 : Heap) (locs1 : List Loc), ro_P D n0 RR ad (va_up cn r (.inl (ids t0, n, .inr (.inr (.inr (.inr (va_up f i.toNatClampNeg none))))))) H1 → va_S (fun q => n0 ≤ q) s.heap H1 locs1 → W p l e R s m args below meth c H1 locs1 cells slots Q (F0 m (pc + 1) ls rest)) : W p l e R s m args below meth c H locs cells slots Q (F0 m pc ls (.null :: .int i :: .ref (ad r) :: rest)) := by
  obtain ⟨⟨hx, hb, hml, hown, hts⟩, hE, -⟩ := MC
  obtain ⟨k, hi, hw⟩ := ro_ix (ad := ad) (cn := cn) hr
  rw [hf] at hw
  refine va_astqN hx hb hE.1 HP.1 HP.2 HS k t0 hw ht hin hdg fun H1 locs1 h1 h2 h3 => ?_
  rw [ro_set HP.2 hi] at h1 h2
  exact kk H1 locs1 ⟨h1, h2⟩ h3
theorem ro_new (MC : ro_C p s m args meth c cc nL own D ids n0) (HP : ro_P D n0 RR ad cn H) (HS : va_S (fun q => n0 ≤ q) s.heap H locs) (r : Nat) (hr : r ∉ RR) {ci N : Nat} {C : String} {T : u_T} (fs : List Value) (hc : vwCl[ci]? = some (C, T, N)) (hin : ∀ w ∈ u_ws C T N, w ∈ uU) {ty0 : Nat → FieldType} (hty : ∀ k, k < N → parseFieldDescriptor (T k).2.2.1 = some (ty0 k)) {index : Nat} (hcl : Cond.classLink own index C ∈ uU) (hinst : Cond.instantiable C N ∈ uU) (hini : Cond.initialized C ∈ uU) (hfs : ∀ j, j < N → defaultValue (ty0 j) = vp_V fs j) (hcells : cells + 1 ≤ R.cells) (hslots : slots + N ≤ R.slots) (hdg : decode cc pc = .ok (.new index, 3))
    (kk : ∀ (q : Nat) (H1 : Heap), n0 ≤ q → ro_P D n0 (RR ++ [r]) (va_up ad r q) (va_up cn r (.inr (ci, fs))) H1 → va_S (fun q => n0 ≤ q) s.heap H1 locs → W p l e R s m args below meth c H1 locs (cells + 1) (slots + N) Q (F0 m (pc + 3) ls (.ref q :: rest))) : W p l e R s m args below meth c H locs cells slots Q (F0 m pc ls rest) := by
  obtain ⟨⟨hx, hb, hml, hown, hts⟩, hE, -⟩ := MC
  refine va_new hx hb hts hin ty0 hty hown (hts _ hcl) (hts _ hinst) (hts _ hini) hE.1 HP.1 HP.2 HS (fun q h => Nat.le_trans hE.2.2.2.1 h) hc hfs hcells hslots hdg fun q H1 h1 h2 h3 => ?_
  have hn : n0 ≤ q := h2.2 (ro_ws RR ad cn).length (q, .inr (ci, fs)) (by simp)
  rw [ro_push hr] at h1 h2
  exact kk q H1 hn ⟨h1, h2⟩ h3
theorem ro_newa (MC : ro_C p s m args meth c cc nL own D ids n0) (HP : ro_P D n0 RR ad cn H) (HS : va_S (fun q => n0 ≤ q) s.heap H locs) (r : Nat) (hr : r ∉ RR) {atype : ArrayType} (t0 : Nat) {ty : FieldType} (hty : newarray.typeOf atype = ty) (harr : Cond.arrayClass ty ∈ uU) (ht : (uTy ids)[t0]? = some (ids t0, ty)) {x : vp_A} (hobj : ∀ C, ty ≠ .object C) (hx9 : vp_cell (ids t0) x = arrV (ids t0) x.1 (fun _ => defaultValue ty))
    {n : Int32} (hn : ¬ n < 0) (hN : n.toNatClampNeg = x.1) (hbytes : x.1 * componentBytes ty ≤ 536870912) (hcells : cells + 1 ≤ R.cells) (hslots : slots + x.1 ≤ R.slots) (hdg : decode cc pc = .ok (.newarray atype, 2))
    (kk : ∀ (q : Nat) (H1 : Heap), n0 ≤ q → ro_P D n0 (RR ++ [r]) (va_up ad r q) (va_up cn r (.inl (ids t0, x))) H1 → va_S (fun q => n0 ≤ q) s.heap H1 locs → W p l e R s m args below meth c H1 locs (cells + 1) (slots + x.1) Q (F0 m (pc + 2) ls (.ref q :: rest))) : W p l e R s m args below meth c H locs cells slots Q (F0 m pc ls (.int n :: rest)) := by
  obtain ⟨⟨hx, hb, hml, hown, hts⟩, hE, -⟩ := MC
  subst hty
  refine va_newaK hx hb (hts _ harr) rfl hdg rfl hn hN hbytes hcells hslots rfl fun H1 cA e1 z1 o1 hAr hfc => ?_
  have hcA : cA = ids t0 := by
    have h9 := (hE.1.2 t0 _ ht).2
    unfold va_RA at h9
    split at h9
    · next C h8 => exact absurd h8 (hobj C)
    · exact Option.some.inj (hfc.symm.trans h9)
  subst hcA
  have hk : ∀ (k : Nat) (y : Nat × va_E), (ro_ws RR ad cn)[k]? = some y → H1[y.1]? = H[y.1]? := fun k y hy => o1 y.1 ((HP.1 k y hy).lt)
  have h1 : va_P D vwCl (ro_ws RR ad cn ++ [(H.size, .inl (ids t0, x))]) H1 := (HP.1.kept hk).app (fun k y hy => by
    have hz : k < 1 := (List.getElem?_eq_some_iff.mp hy).1
    rw [show k = 0 by omega] at hy
    cases hy
    show H1[H.size]? = some (vp_cell _ _)
    rw [hx9]; exact e1)
  have hA : n0 ≤ H.size := Nat.le_trans hE.2.2.2.1 HS.1
  have h2 : va_D (fun q => n0 ≤ q) (ro_ws RR ad cn ++ [(H.size, .inl (ids t0, x))]) := HP.2.push HP.1 rfl hA
  rw [ro_push hr] at h1 h2
  exact kk H.size H1 hA ⟨h1, h2⟩ ⟨Nat.le_trans HS.1 (by omega), fun y h1 h2 => (o1 y (Nat.lt_of_lt_of_le h1 HS.1)).trans (HS.2.1 y h1 h2), HS.2.2⟩
theorem ro_newq (MC : ro_C p s m args meth c cc nL own D ids n0) (HP : ro_P D n0 RR ad cn H) (HS : va_S (fun q => n0 ≤ q) s.heap H locs) (r : Nat) (hr : r ∉ RR) {C : String} {index : Nat} (hcl : Cond.classLink own index C ∈ uU) (hao : C ∈ uAO) (t0 : Nat) (ht : (uTy ids)[t0]? = some (ids t0, .object C))
    {n : Int32} (N : Nat) (hn : ¬ n < 0) (hN : n.toNatClampNeg = N) (hbytes : N * 4 ≤ 536870912) (hcells : cells + 1 ≤ R.cells) (hslots : slots + N ≤ R.slots) (hdg : decode cc pc = .ok (.anewarray index, 3))
    (kk : ∀ (q : Nat) (H1 : Heap), n0 ≤ q → ro_P D n0 (RR ++ [r]) (va_up ad r q) (va_up cn r (.inl (ids t0, N, .inr (.inr (.inr (.inr (fun _ => none))))))) H1 → va_S (fun q => n0 ≤ q) s.heap H1 locs → W p l e R s m args below meth c H1 locs (cells + 1) (slots + N) Q (F0 m (pc + 3) ls (.ref q :: rest))) : W p l e R s m args below meth c H locs cells slots Q (F0 m pc ls (.int n :: rest)) := by
  obtain ⟨⟨hx, hb, hml, hown, hts⟩, hE, -⟩ := MC
  refine va_newq hx hb hown (hts _ hcl) (hE.2.2.2.2.2.2.2.1 _ hao) hE.1 HP.1 HP.2 HS (fun q h => Nat.le_trans hE.2.2.2.1 h) hn hN hbytes hcells hslots hdg fun q cA H1 hK1 h1 h2 h3 => ?_
  have hcA : cA = ids t0 := by
    have h8 := (hK1.2 6 (cA, .object C) rfl).2
    have h9 := (hE.1.2 t0 _ ht).2
    obtain ⟨-, -, -, -, -, h8⟩ := h8
    obtain ⟨-, -, -, -, -, h9⟩ := h9
    exact Option.some.inj (h8.symm.trans h9)
  subst hcA
  have hn9 : n0 ≤ q := h2.2 (ro_ws RR ad cn).length (q, .inl (ids t0, N, .inr (.inr (.inr (.inr (fun _ => none)))))) (by simp)
  rw [ro_push hr] at h1 h2
  exact kk q H1 hn9 ⟨h1, h2⟩ h3
end RO
end
section
section RC
variable {p : Program} {l : Launch} {e : Env} {R : Room} {s : State} {m : MethodId} {args : Array Value} {below : List Frame} {meth : Method} {c : Code} {H : Heap} {locs : List Loc} {cells slots : Nat} {Q : State → Prop}
variable {cc : ByteArray} {nL : Nat} {own : String} {D : va_G} {ids : Nat → ClassId} {n0 : Nat} {RR : List Nat} {ad : Nat → Nat} {cn : Nat → va_E} {pc : Nat} {ls : Array Slot} {rest st0 : List Value}
variable {y : MethodName} {cy : ByteArray} {maxL : Nat} {ret : Option FieldType} {rm : Room} {as As : List Value} {Hh : Heap} {post : Option Value → Heap → Prop} {px px2 : String → Heap → Prop} {b index mc ms : Nat} {a : Array Value}
theorem ro_ofM (hy : plainName y.cls = true) (hlen : (lg_sl as).length ≤ maxL)
    (body : ∀ (p : Program) (e : Env) (s : State) (m : MethodId) (below : List Frame) (meth : Method) (c : Code), ro_C p s m as.toArray meth c cy maxL y.cls D ids n0 → s.heap = Hh → meth.sig.returnType = ret → meth.name = y.name → va_S (fun q => n0 ≤ q) s.heap Hh [] → ∀ ls, lv_has ls maxL (lv_args 0 as) → W p l e rm s m as.toArray below meth c Hh [] 0 0 (MQ below (ro_Q n0 post) as.toArray s rm.cells rm.slots (fun q => n0 ≤ q)) (F0 m 0 ls [])) : ro_M l y cy maxL ret rm D ids n0 as Hh post := by
  refine Met.ofW (cc := cy) (maxL := maxL) (ret := ret) hy rfl ?_
  intro p e s m args below meth c s₁ B hml hv
  obtain ⟨rfl, hE, rfl⟩ := hv
  have hts := atoms_spec (ws := .code y cy maxL ret :: uU) B.pre
  have hown := findClass_of_methodNamed B.named
  have K := body p e s m below meth c ⟨⟨B.exec, B.bytes, hml, hown, fun w h => hts w (List.mem_cons_of_mem _ h)⟩, hE, B.notSynchronized⟩ rfl B.returns (name_of_methodNamed B.named B.method).1 va_S.rf _ (lv_entry as hlen)
  rw [lg_entry_eq]
  exact K
theorem ro_ofT (hy : plainName y.cls = true) (hlen : (lg_sl as).length ≤ maxL)
    (body : ∀ (p : Program) (e : Env) (s : State) (m : MethodId) (below : List Frame) (meth : Method) (c : Code), ro_C p s m as.toArray meth c cy maxL y.cls D ids n0 → s.heap = Hh → meth.sig.returnType = ret → (∀ x ∈ c.exceptionTable.toList, False) → va_S (fun q => n0 ≤ q) s.heap Hh [] → ∀ ls, lv_has ls maxL (lv_args 0 as) → W p l e rm s m as.toArray below meth c Hh [] 0 0 (vx_MQ below (ro_Q n0 post) (ro_X n0 px) as.toArray s rm.cells rm.slots (fun q => n0 ≤ q)) (F0 m 0 ls [])) : ro_T l y cy maxL ret rm D ids n0 as Hh post px := by
  refine vx_ofW (cc := cy) (maxL := maxL) (ret := ret) hy rfl ?_
  intro p e s m args below meth c s₁ B hml hno hv
  obtain ⟨rfl, hE, rfl⟩ := hv
  have hts := atoms_spec (ws := .code y cy maxL ret :: uU) B.pre
  have hown := findClass_of_methodNamed B.named
  have K := body p e s m below meth c ⟨⟨B.exec, B.bytes, hml, hown, fun w h => hts w (List.mem_cons_of_mem _ h)⟩, hE, B.notSynchronized⟩ rfl B.returns hno va_S.rf _ (lv_entry as hlen)
  rw [lg_entry_eq]
  exact K
/-- a method with handlers of its own, that returns -/
def ro_MW (l : Launch) (y : MethodName) (cy : ByteArray) (maxL : Nat) (ret : Option FieldType) (hh : List (Nat × Nat × Nat × Nat)) (rm : Room) (D : va_G) (ids : Nat → ClassId) (n0 : Nat) (as : List Value) (Hh : Heap) (post : Option Value → Heap → Prop) : Prop :=
  Met l y (.codeWith y cy maxL ret hh :: uU) rm (ro_pre D ids n0 as Hh) (ro_Q n0 post) rm.cells rm.slots (fun q => n0 ≤ q)
theorem ro_callee (hE : En D ids n0 s) (HS : va_S (fun q => n0 ≤ q) s.heap H locs) : ∀ U : State, U.heap = H → s.WarmedH U.vm → ro_pre D ids n0 as H as.toArray U := fun U hU hW =>
  ⟨rfl, En.moved hW (by rw [hU]; exact Nat.le_trans hE.2.2.2.1 HS.1) (fun q hq => by rw [hU]; exact HS.2.1 q (Nat.lt_of_lt_of_le hq hE.2.2.2.1) (Nat.not_le.mpr hq)) hE, hU⟩
theorem ro_back (HS : va_S (fun q => n0 ≤ q) s.heap H locs) (hr : va_Run p l e R s m args below meth c H locs cells slots mc ms (F0 m pc ls st0) rest (ro_Q n0 post a) (fun q => n0 ≤ q))
    (kk : ∀ (v : Option Value) (H1 : Heap) (locs1 : List Loc), post v H1 → H.size ≤ H1.size → va_S (fun q => n0 ≤ q) s.heap H1 locs1 → W p l e R s m args below meth c H1 locs1 (cells + mc) (slots + ms) Q (F0 m (pc + 3) ls (v.toList ++ rest))) : W p l e R s m args below meth c H locs cells slots Q (F0 m pc ls st0) := by
  intro T hT X
  obtain ⟨v, st₀, t, T', L, h0, X', hL, e1, e2, ⟨v', hv, hp, hF⟩, st⟩ := hr T hT X
  cases hv
  obtain ⟨k1, k2, k3⟩ := vx_keep h0 e1 HS (fun _ _ h => h) (fun _ h => h) hL hF
  obtain ⟨t2, a1, b1⟩ := kk v T'.heap (locs ++ L) (by rw [e1]; exact hp) k1 k3 T' rfl X'
  exact ⟨t2, st t2 a1, b1⟩
theorem ro_backT (HS : va_S (fun q => n0 ≤ q) s.heap H locs) (hr : vx_Run p l e R s m args below meth c H locs cells slots mc ms (F0 m pc ls st0) rest (ro_Q n0 post a) (ro_X n0 px) (fun q => n0 ≤ q))
    (kx : ∀ (E : String) (ce : Cell) (q9 : Addr) (H1 : Heap) (locs1 : List Loc), px E H1 → H.size ≤ H1.size → va_S (fun q => n0 ≤ q) s.heap H1 locs1 → H1[q9]? = some ce → ce.vm = .none → s.vm.findClass E = some ce.cls → vx_W p l e R s m args below meth c H1 locs1 (cells + mc) (slots + ms) Q (F0 m pc ls rest) q9)
    (kk : ∀ (v : Option Value) (H1 : Heap) (locs1 : List Loc), post v H1 → H.size ≤ H1.size → va_S (fun q => n0 ≤ q) s.heap H1 locs1 → W p l e R s m args below meth c H1 locs1 (cells + mc) (slots + ms) Q (F0 m (pc + 3) ls (v.toList ++ rest))) : W p l e R s m args below meth c H locs cells slots Q (F0 m pc ls st0) := by
  intro T hT X
  rcases hr T hT X with ⟨v, st₀, t, T', L, h0, X', hL, e1, e2, ⟨v', hv, hp, hF⟩, st⟩ | ⟨q, st₀, t, T', L, E, ce, h0, X', hL, e1, e2, ⟨hp, hF⟩, hce, hcv, hcl, st⟩
  · cases hv
    obtain ⟨k1, k2, k3⟩ := vx_keep h0 e1 HS (fun _ _ h => h) (fun _ h => h) hL hF
    obtain ⟨t2, a1, b1⟩ := kk v T'.heap (locs ++ L) (by rw [e1]; exact hp) k1 k3 T' rfl X'
    exact ⟨t2, st t2 a1, b1⟩
  · obtain ⟨k1, k2, k3⟩ := vx_keep h0 e1 HS (fun _ _ h => h) (fun _ h => h) hL hF
    obtain ⟨t2, a1, b1⟩ := kx E ce q T'.heap (locs ++ L) (by rw [e1]; exact hp) k1 k3 (by rw [e1]; exact hce) hcv hcl T' rfl X'
    exact ⟨t2, st.trans a1, b1⟩
/-- the words that a call of y wants -/
def ro_L (own : String) (index : Nat) (y : MethodName) (cy : ByteArray) (maxL : Nat) (ret : Option FieldType) (n : Nat) : Prop :=
  Cond.code y cy maxL ret ∈ uU ∧ Cond.methodLink own index y ∈ uU ∧ Cond.initialized y.cls ∈ uU ∧ y.cls ≠ "java/lang/invoke/MethodHandle" ∧ y.cls ≠ "java/lang/invoke/VarHandle" ∧ (parseMethodDescriptor y.desc).map (fun d => d.parameters.length) = some n
theorem ro_callB (MC : ro_C p s m args meth c cc nL own D ids n0) {n : Nat} (hL : ro_L own index y cy maxL ret n) (hR : rm.frames + 1 ≤ R.frames ∧ 8 + (maxL + 11) + rm.locals ≤ R.locals) : CallB R s args own index y cy maxL ret (.code y cy maxL ret :: uU) rm rm.cells rm.slots n := by
  obtain ⟨⟨hx, hb, hml, hown, hts⟩, hE, -⟩ := MC
  exact callB_of n hts (uU_cons hL.1) rfl rfl rfl (hts _ hL.2.2.1) (hts _ hL.2.1) hL.2.2.2 hR
theorem ro_recv {ci : Nat} {fs : List Value} {q : vw_C} {r : Nat} (MC : ro_C p s m args meth c cc nL own D ids n0) (HP : ro_P D n0 RR ad cn H) (hr : r ∈ RR) (hf : cn r = .inr (ci, fs)) (hc : vwCl[ci]? = some q) : ∃ cell : Cell, H[ad r]? = some cell ∧ cell.vm.isStatics = false ∧ s.vm.findClass q.1 = some cell.cls := by
  obtain ⟨k, hi, hw⟩ := ro_ix (ad := ad) (cn := cn) hr
  rw [hf] at hw
  exact va_recv MC.2.1.1 HP.1 hc hw
theorem ro_callV (MC : ro_C p s m args meth c cc nL own D ids n0) (HS : va_S (fun q => n0 ≤ q) s.heap H locs) (hM : ro_M l y cy maxL ret rm D ids n0 (.ref b :: As) H post) (hL : ro_L own index y cy maxL ret As.length) (hin : Cond.instanceMethod y ∈ uU) (hse : Cond.selects y.cls y y ∈ uU) (hR : rm.frames + 1 ≤ R.frames ∧ 8 + (maxL + 11) + rm.locals ≤ R.locals)
    (hrecv : ∃ cell : Cell, H[b]? = some cell ∧ cell.vm.isStatics = false ∧ s.vm.findClass y.cls = some cell.cls) (hsize : ls.size = nL) (hst : st0 = As.reverse ++ .ref b :: rest) (hcat : (rest.map fun v => v.category).sum ≤ 8) (hdg : decode cc pc = .ok (.invokevirtual index, 3)) (hf : cells + rm.cells ≤ R.cells ∧ slots + rm.slots ≤ R.slots)
    (kk : ∀ (v : Option Value) (H1 : Heap) (locs1 : List Loc), post v H1 → H.size ≤ H1.size → va_S (fun q => n0 ≤ q) s.heap H1 locs1 → W p l e R s m args below meth c H1 locs1 (cells + rm.cells) (slots + rm.slots) Q (F0 m (pc + 3) ls (v.toList ++ rest))) : W p l e R s m args below meth c H locs cells slots Q (F0 m pc ls st0) :=
  ro_back HS (va_runV MC.1 hM ⟨ro_callB MC hL hR, MC.1.2.2.2.2 _ hin, MC.1.2.2.2.2 _ hse⟩ ⟨En.blind, hrecv, ro_callee MC.2.1 HS⟩ rfl rfl hsize hst (by rw [show (F0 m pc ls st0).monitorRoom = 0 from rfl]; omega) hdg hf) kk
theorem ro_callVT (MC : ro_C p s m args meth c cc nL own D ids n0) (HS : va_S (fun q => n0 ≤ q) s.heap H locs) (hM : ro_T l y cy maxL ret rm D ids n0 (.ref b :: As) H post px) (hL : ro_L own index y cy maxL ret As.length) (hin : Cond.instanceMethod y ∈ uU) (hse : Cond.selects y.cls y y ∈ uU) (hR : rm.frames + 1 ≤ R.frames ∧ 8 + (maxL + 11) + rm.locals ≤ R.locals)
    (hrecv : ∃ cell : Cell, H[b]? = some cell ∧ cell.vm.isStatics = false ∧ s.vm.findClass y.cls = some cell.cls) (hsize : ls.size = nL) (hst : st0 = As.reverse ++ .ref b :: rest) (hcat : (rest.map fun v => v.category).sum ≤ 8) (hdg : decode cc pc = .ok (.invokevirtual index, 3)) (hf : cells + rm.cells ≤ R.cells ∧ slots + rm.slots ≤ R.slots)
    (kx : ∀ (E : String) (ce : Cell) (q9 : Addr) (H1 : Heap) (locs1 : List Loc), px E H1 → H.size ≤ H1.size → va_S (fun q => n0 ≤ q) s.heap H1 locs1 → H1[q9]? = some ce → ce.vm = .none → s.vm.findClass E = some ce.cls → vx_W p l e R s m args below meth c H1 locs1 (cells + rm.cells) (slots + rm.slots) Q (F0 m pc ls rest) q9)
    (kk : ∀ (v : Option Value) (H1 : Heap) (locs1 : List Loc), post v H1 → H.size ≤ H1.size → va_S (fun q => n0 ≤ q) s.heap H1 locs1 → W p l e R s m args below meth c H1 locs1 (cells + rm.cells) (slots + rm.slots) Q (F0 m (pc + 3) ls (v.toList ++ rest))) : W p l e R s m args below meth c H locs cells slots Q (F0 m pc ls st0) :=
  ro_backT HS (vx_runV MC.1 hM ⟨ro_callB MC hL hR, MC.1.2.2.2.2 _ hin, MC.1.2.2.2.2 _ hse⟩ ⟨En.blind, hrecv, ro_callee MC.2.1 HS⟩ rfl rfl hsize hst (by rw [show (F0 m pc ls st0).monitorRoom = 0 from rfl]; omega) hdg hf) kx kk
theorem ro_callS (MC : ro_C p s m args meth c cc nL own D ids n0) (HS : va_S (fun q => n0 ≤ q) s.heap H locs) (hM : ro_M l y cy maxL ret rm D ids n0 As H post) (hL : ro_L own index y cy maxL ret As.length) (hin : Cond.static y ∈ uU) (hR : rm.frames + 1 ≤ R.frames ∧ 8 + (maxL + 11) + rm.locals ≤ R.locals)
    (hsize : ls.size = nL) (hst : st0 = As.reverse ++ rest) (hcat : (rest.map fun v => v.category).sum ≤ 8) (hdg : decode cc pc = .ok (.invokestatic index, 3)) (hf : cells + rm.cells ≤ R.cells ∧ slots + rm.slots ≤ R.slots)
    (kk : ∀ (v : Option Value) (H1 : Heap) (locs1 : List Loc), post v H1 → H.size ≤ H1.size → va_S (fun q => n0 ≤ q) s.heap H1 locs1 → W p l e R s m args below meth c H1 locs1 (cells + rm.cells) (slots + rm.slots) Q (F0 m (pc + 3) ls (v.toList ++ rest))) : W p l e R s m args below meth c H locs cells slots Q (F0 m pc ls st0) :=
  ro_back HS (va_runS MC.1 hM ⟨ro_callB MC hL hR, MC.1.2.2.2.2 _ hin⟩ ⟨En.blind, ro_callee MC.2.1 HS⟩ rfl rfl hsize hst (by rw [show (F0 m pc ls st0).monitorRoom = 0 from rfl]; omega) hdg hf) kk
theorem ro_callST (MC : ro_C p s m args meth c cc nL own D ids n0) (HS : va_S (fun q => n0 ≤ q) s.heap H locs) (hM : ro_T l y cy maxL ret rm D ids n0 As H post px) (hL : ro_L own index y cy maxL ret As.length) (hin : Cond.static y ∈ uU) (hR : rm.frames + 1 ≤ R.frames ∧ 8 + (maxL + 11) + rm.locals ≤ R.locals)
    (hsize : ls.size = nL) (hst : st0 = As.reverse ++ rest) (hcat : (rest.map fun v => v.category).sum ≤ 8) (hdg : decode cc pc = .ok (.invokestatic index, 3)) (hf : cells + rm.cells ≤ R.cells ∧ slots + rm.slots ≤ R.slots)
    (kx : ∀ (E : String) (ce : Cell) (q9 : Addr) (H1 : Heap) (locs1 : List Loc), px E H1 → H.size ≤ H1.size → va_S (fun q => n0 ≤ q) s.heap H1 locs1 → H1[q9]? = some ce → ce.vm = .none → s.vm.findClass E = some ce.cls → vx_W p l e R s m args below meth c H1 locs1 (cells + rm.cells) (slots + rm.slots) Q (F0 m pc ls rest) q9)
    (kk : ∀ (v : Option Value) (H1 : Heap) (locs1 : List Loc), post v H1 → H.size ≤ H1.size → va_S (fun q => n0 ≤ q) s.heap H1 locs1 → W p l e R s m args below meth c H1 locs1 (cells + rm.cells) (slots + rm.slots) Q (F0 m (pc + 3) ls (v.toList ++ rest))) : W p l e R s m args below meth c H locs cells slots Q (F0 m pc ls st0) :=
  ro_backT HS (vx_runS MC.1 hM ⟨ro_callB MC hL hR, MC.1.2.2.2.2 _ hin⟩ ⟨En.blind, ro_callee MC.2.1 HS⟩ rfl rfl hsize hst (by rw [show (F0 m pc ls st0).monitorRoom = 0 from rfl]; omega) hdg hf) kx kk
theorem ro_callI (MC : ro_C p s m args meth c cc nL own D ids n0) (HS : va_S (fun q => n0 ≤ q) s.heap H locs) (hM : ro_M l y cy maxL none rm D ids n0 (.ref b :: As) H post) (hL : ro_L own index y cy maxL none As.length) (hin : Cond.instanceMethod y ∈ uU) (hnm : y.name = "<init>") (hR : rm.frames + 1 ≤ R.frames ∧ 8 + (maxL + 11) + rm.locals ≤ R.locals)
    (hsize : ls.size = nL) (hst : st0 = As.reverse ++ .ref b :: rest) (hcat : (rest.map fun v => v.category).sum ≤ 8) (hdg : decode cc pc = .ok (.invokespecial index, 3)) (hf : cells + rm.cells ≤ R.cells ∧ slots + rm.slots ≤ R.slots)
    (kk : ∀ (v : Option Value) (H1 : Heap) (locs1 : List Loc), post v H1 → H.size ≤ H1.size → va_S (fun q => n0 ≤ q) s.heap H1 locs1 → W p l e R s m args below meth c H1 locs1 (cells + rm.cells) (slots + rm.slots) Q (F0 m (pc + 3) ls (v.toList ++ rest))) : W p l e R s m args below meth c H locs cells slots Q (F0 m pc ls st0) :=
  ro_back HS (va_runI MC.1 hM ⟨ro_callB MC hL hR, hnm, MC.1.2.2.2.2 _ hin⟩ ⟨En.blind, ro_callee MC.2.1 HS⟩ rfl rfl hsize hst (by rw [show (F0 m pc ls st0).monitorRoom = 0 from rfl]; omega) hdg hf) kk
/-- the words that a nest mate's call of y wants -/
def ro_LN (own : String) (index : Nat) (y : MethodName) (host : String) (cy : ByteArray) (maxL : Nat) (ret : Option FieldType) (n : Nat) : Prop :=
  Cond.code y cy maxL ret ∈ uU ∧ (own, index, y, host) ∈ uNl ∧ Cond.initialized y.cls ∈ uU ∧ y.cls ≠ "java/lang/invoke/MethodHandle" ∧ y.cls ≠ "java/lang/invoke/VarHandle" ∧ (parseMethodDescriptor y.desc).map (fun d => d.parameters.length) = some n
theorem ro_callN (MC : ro_C p s m args meth c cc nL own D ids n0) {n : Nat} {host : String} (hL : ro_LN own index y host cy maxL ret n) (hR : rm.frames + 1 ≤ R.frames ∧ 8 + (maxL + 11) + rm.locals ≤ R.locals) : va_CN R s args own index y host cy maxL ret (.code y cy maxL ret :: uU) rm rm.cells rm.slots n := by
  obtain ⟨⟨hx, hb, hml, hown, hts⟩, hE, -⟩ := MC
  exact va_cnB n hts (uU_cons hL.1) rfl rfl rfl (hE.2.2.2.2.2.2.2.2.2 _ hL.2.1) (hts _ hL.2.2.1) hL.2.2.2 hR
theorem ro_callSN (MC : ro_C p s m args meth c cc nL own D ids n0) (HS : va_S (fun q => n0 ≤ q) s.heap H locs) {host : String} (hM : ro_M l y cy maxL ret rm D ids n0 As H post) (hL : ro_LN own index y host cy maxL ret As.length) (hin : Cond.static y ∈ uU) (hR : rm.frames + 1 ≤ R.frames ∧ 8 + (maxL + 11) + rm.locals ≤ R.locals)
    (hsize : ls.size = nL) (hst : st0 = As.reverse ++ rest) (hcat : (rest.map fun v => v.category).sum ≤ 8) (hdg : decode cc pc = .ok (.invokestatic index, 3)) (hf : cells + rm.cells ≤ R.cells ∧ slots + rm.slots ≤ R.slots)
    (kk : ∀ (v : Option Value) (H1 : Heap) (locs1 : List Loc), post v H1 → H.size ≤ H1.size → va_S (fun q => n0 ≤ q) s.heap H1 locs1 → W p l e R s m args below meth c H1 locs1 (cells + rm.cells) (slots + rm.slots) Q (F0 m (pc + 3) ls (v.toList ++ rest))) : W p l e R s m args below meth c H locs cells slots Q (F0 m pc ls st0) :=
  ro_back HS (va_runSN MC.1 hM ⟨ro_callN MC hL hR, MC.1.2.2.2.2 _ hin, trivial⟩ ⟨En.blind, ro_callee MC.2.1 HS⟩ rfl rfl hsize hst (by rw [show (F0 m pc ls st0).monitorRoom = 0 from rfl]; omega) hdg hf) kk
theorem ro_callIN (MC : ro_C p s m args meth c cc nL own D ids n0) (HS : va_S (fun q => n0 ≤ q) s.heap H locs) {host : String} (hM : ro_M l y cy maxL none rm D ids n0 (.ref b :: As) H post) (hL : ro_LN own index y host cy maxL none As.length) (hin : Cond.instanceMethod y ∈ uU) (hnm : y.name = "<init>") (hR : rm.frames + 1 ≤ R.frames ∧ 8 + (maxL + 11) + rm.locals ≤ R.locals)
    (hsize : ls.size = nL) (hst : st0 = As.reverse ++ .ref b :: rest) (hcat : (rest.map fun v => v.category).sum ≤ 8) (hdg : decode cc pc = .ok (.invokespecial index, 3)) (hf : cells + rm.cells ≤ R.cells ∧ slots + rm.slots ≤ R.slots)
    (kk : ∀ (v : Option Value) (H1 : Heap) (locs1 : List Loc), post v H1 → H.size ≤ H1.size → va_S (fun q => n0 ≤ q) s.heap H1 locs1 → W p l e R s m args below meth c H1 locs1 (cells + rm.cells) (slots + rm.slots) Q (F0 m (pc + 3) ls (v.toList ++ rest))) : W p l e R s m args below meth c H locs cells slots Q (F0 m pc ls st0) :=
  ro_back HS (va_runIN MC.1 hM ⟨ro_callN MC hL hR, hnm, MC.1.2.2.2.2 _ hin⟩ ⟨En.blind, ro_callee MC.2.1 HS⟩ rfl rfl hsize hst (by rw [show (F0 m pc ls st0).monitorRoom = 0 from rfl]; omega) hdg hf) kk
/-- a call of an abstract method x of owner, on a receiver of class C, whose method is y -/
theorem ro_callA (MC : ro_C p s m args meth c cc nL own D ids n0) (HS : va_S (fun q => n0 ≤ q) s.heap H locs) {C owner : String} {x : MethodName} (hM : ro_M l y cy maxL ret rm D ids n0 (.ref b :: As) H post) (h0 : Cond.code y cy maxL ret ∈ uU) (h1 : Cond.methodLink own index x ∈ uU) (h2 : Cond.sameMethod x.cls owner x.name x.desc ∈ uU) (h3 : Cond.selects C x y ∈ uU) (h4 : Cond.instanceMethod y ∈ uU) (h5 : Cond.initialized y.cls ∈ uU) (h6 : (⟨owner, x.name, x.desc⟩ : MethodName) ∈ uNd) (hd : owner ≠ "java/lang/invoke/MethodHandle" ∧ owner ≠ "java/lang/invoke/VarHandle" ∧ (parseMethodDescriptor x.desc).map (fun d => d.parameters.length) = some As.length) (hR : rm.frames + 1 ≤ R.frames ∧ 8 + (maxL + 11) + rm.locals ≤ R.locals)
    (hrecv : ∃ cell : Cell, H[b]? = some cell ∧ cell.vm.isStatics = false ∧ s.vm.findClass C = some cell.cls) (hsize : ls.size = nL) (hst : st0 = As.reverse ++ .ref b :: rest) (hcat : (rest.map fun v => v.category).sum ≤ 8) (hdg : decode cc pc = .ok (.invokevirtual index, 3)) (hf : cells + rm.cells ≤ R.cells ∧ slots + rm.slots ≤ R.slots)
    (kk : ∀ (v : Option Value) (H1 : Heap) (locs1 : List Loc), post v H1 → H.size ≤ H1.size → va_S (fun q => n0 ≤ q) s.heap H1 locs1 → W p l e R s m args below meth c H1 locs1 (cells + rm.cells) (slots + rm.slots) Q (F0 m (pc + 3) ls (v.toList ++ rest))) : W p l e R s m args below meth c H locs cells slots Q (F0 m pc ls st0) := by
  refine ro_back HS (va_runU MC.1 hM (va_cwA (C := C) (owner := owner) (x := x) As.length MC.1.2.2.2.2 (fun w hw => ?_) rfl rfl rfl (MC.2.1.2.2.2.2.2.1 _ h6) hd hR) ⟨En.blind, hrecv, ro_callee MC.2.1 HS⟩ rfl rfl hsize hst (by rw [show (F0 m pc ls st0).monitorRoom = 0 from rfl]; omega) hdg hf) kk
  rcases List.mem_append.mp hw with hw | hw
  · simp only [List.mem_cons, List.not_mem_nil, or_false] at hw
    rcases hw with rfl | rfl | rfl | rfl | rfl
    · exact ⟨h1, uU_gd h1⟩
    · exact ⟨h2, uU_gd h2⟩
    · exact ⟨h3, uU_gd h3⟩
    · exact ⟨h4, uU_gd h4⟩
    · exact ⟨h5, uU_gd h5⟩
  · exact uU_cons h0 w hw
/-! ends -/
theorem ro_F {t : State} (HS : va_S (fun q => n0 ≤ q) s.heap H locs) (h1 : H.size ≤ t.heap.size) (h2 : ∀ q : Nat, q < H.size → t.heap[q]? = H[q]?) : va_F (fun q => n0 ≤ q) s t := ⟨Nat.le_trans HS.1 h1, fun q h3 h4 => (h2 q (Nat.lt_of_lt_of_le h3 HS.1)).trans (HS.2.1 q h3 h4)⟩
theorem ro_iretM (MC : ro_C p s m args meth c cc nL own D ids n0) (HS : va_S (fun q => n0 ≤ q) s.heap H locs) (hr : meth.sig.returnType = some .int) {v : Int32} (hq : post (some (.int v)) H) (hc : cells ≤ mc) (hs : slots ≤ ms) (hdg : decode cc pc = .ok (.ireturn, 1)) : W p l e R s m args below meth c H locs cells slots (MQ below (ro_Q n0 post) args s mc ms (fun q => n0 ≤ q)) (F0 m pc ls [.int v]) :=
  W.widen hc hs (W.iret MC.1.1 MC.1.2.1 hr (fun t ht hW => ⟨_, rfl, by rw [ht]; exact hq, HS.F ht⟩) HS.2.2 hdg MC.2.2)
theorem ro_zretM (MC : ro_C p s m args meth c cc nL own D ids n0) (HS : va_S (fun q => n0 ≤ q) s.heap H locs) (hr : meth.sig.returnType = some .boolean) {v : Int32} (hn : narrow .boolean (.int v) = .int v) (hq : post (some (.int v)) H) (hc : cells ≤ mc) (hs : slots ≤ ms) (hdg : decode cc pc = .ok (.ireturn, 1)) : W p l e R s m args below meth c H locs cells slots (MQ below (ro_Q n0 post) args s mc ms (fun q => n0 ≤ q)) (F0 m pc ls [.int v]) :=
  W.widen hc hs (W.zret MC.1.1 MC.1.2.1 hr hn (fun t ht hW => ⟨_, rfl, by rw [ht]; exact hq, HS.F ht⟩) HS.2.2 hdg MC.2.2)
theorem ro_vretM (MC : ro_C p s m args meth c cc nL own D ids n0) (HS : va_S (fun q => n0 ≤ q) s.heap H locs) (hr : meth.sig.returnType = none) (hq : post none H) (hc : cells ≤ mc) (hs : slots ≤ ms) (hdg : decode cc pc = .ok (.return_, 1)) : W p l e R s m args below meth c H locs cells slots (MQ below (ro_Q n0 post) args s mc ms (fun q => n0 ≤ q)) (F0 m pc ls []) :=
  W.widen hc hs (W.vret MC.1.1 MC.1.2.1 hr (fun t ht hW => ⟨_, rfl, by rw [ht]; exact hq, HS.F ht⟩) HS.2.2 hdg MC.2.2)
theorem ro_aretM (MC : ro_C p s m args meth c cc nL own D ids n0) (HS : va_S (fun q => n0 ≤ q) s.heap H locs) {C : String} (hr : meth.sig.returnType = some (.object C)) {v : Value} (hv : v = .null ∨ ∃ a, v = .ref a) (hq : post (some v) H) (hc : cells ≤ mc) (hs : slots ≤ ms) (hdg : decode cc pc = .ok (.areturn, 1)) : W p l e R s m args below meth c H locs cells slots (MQ below (ro_Q n0 post) args s mc ms (fun q => n0 ≤ q)) (F0 m pc ls [v]) :=
  W.widen hc hs (W.aret MC.1.1 MC.1.2.1 hr (Or.inl ⟨_, rfl⟩) hv (fun t ht hW => ⟨_, rfl, by rw [ht]; exact hq, HS.F ht⟩) HS.2.2 hdg MC.2.2)
theorem ro_MT {g : JFrame} (k : W p l e R s m args below meth c H locs cells slots (MQ below (ro_Q n0 post) args s mc ms (fun q => n0 ≤ q)) g) : W p l e R s m args below meth c H locs cells slots (vx_MQ below (ro_Q n0 post) (ro_X n0 px) args s mc ms (fun q => n0 ≤ q)) g := vx_ret k
/-- a callee's throw goes on to the caller -/
theorem ro_out (MC : ro_C p s m args meth c cc nL own D ids n0) (hno : ∀ x ∈ c.exceptionTable.toList, False) (hc : cells ≤ mc) (hs : slots ≤ ms) (hpx : ∀ (E : String) (H1 : Heap), px E H1 → px2 E H1) :
    ∀ (E : String) (ce : Cell) (q9 : Addr) (H1 : Heap) (locs1 : List Loc), px E H1 → H.size ≤ H1.size → va_S (fun q => n0 ≤ q) s.heap H1 locs1 → H1[q9]? = some ce → ce.vm = .none → s.vm.findClass E = some ce.cls → vx_W p l e R s m args below meth c H1 locs1 cells slots (vx_MQ below (ro_Q n0 post) (ro_X n0 px2) args s mc ms (fun q => n0 ≤ q)) (F0 m pc ls rest) q9 := fun E ce q9 H1 locs1 hp hz HS h1 h2 h3 =>
  vx_out (fun x hx => (hno x hx).elim) MC.2.2 h1 h2 h3 (fun t ht hW => ⟨by rw [ht]; exact hpx E H1 hp, HS.F ht⟩) HS.2.2 hc hs
theorem ro_nong (hE : En D ids n0 s) {L : List Cond} {X : String} (hc : (X, X) ∈ uNc) (h1 : ∀ w ∈ L.filter goodWord, w.before args s = true) (h2 : ∀ w ∈ L.filter (fun w => !goodWord w), w = Cond.castable X X ∨ w ∈ uNd.map Cond.declares) : ∀ w ∈ L, w.before args s = true := by
  intro w hw
  by_cases g : goodWord w = true
  · exact h1 w (List.mem_filter.mpr ⟨hw, g⟩)
  · have g' : (!goodWord w) = true := by
      cases hgw : goodWord w
      · rfl
      · exact absurd hgw g
    rcases h2 w (List.mem_filter.mpr ⟨hw, g'⟩) with rfl | h3
    · exact va_Nw.use rfl (hE.2.2.2.2.2.2.1 _ hc)
    · obtain ⟨x, hx, rfl⟩ := List.mem_map.mp h3
      exact va_Nw.use rfl (hE.2.2.2.2.2.1 _ hx)
/-- what a throw of new cls(text) wants of the tables -/
def ro_TH (ik is ic : Nat) (cls text : String) : Prop := Bundle.fit cls = true ∧ Cond.classLink "FrostCalendar" ik cls ∈ uU ∧ Cond.initialized cls ∈ uU ∧ (is, text) ∈ uNt ∧ (cls, cls) ∈ uNc ∧ (∀ w ∈ (vx_atS "FrostCalendar" ic cls ["java/lang/RuntimeException", "java/lang/Exception"]).filter goodWord, w ∈ uU) ∧ (∀ w ∈ (vx_atS "FrostCalendar" ic cls ["java/lang/RuntimeException", "java/lang/Exception"]).filter (fun w => !goodWord w), w = Cond.castable cls cls ∨ w ∈ uNd.map Cond.declares) ∧ (∀ w ∈ Cond.classLink "FrostCalendar" ik cls :: Cond.initialized cls :: vx_atS "FrostCalendar" ic cls ["java/lang/RuntimeException", "java/lang/Exception"], vx_ot w = true)
theorem ro_throw (hl : l.stackTraces = false) (MC : ro_C p s m args meth c cc nL "FrostCalendar" D ids n0) (HS : va_S (fun q => n0 ≤ q) s.heap H locs) (hno : ∀ x ∈ c.exceptionTable.toList, False) {ik is ic : Nat} {cls text : String} (hT : ro_TH ik is ic cls text) (hsize : ls.size = nL)
    (d0 : decode cc pc = .ok (.new ik, 3)) (d3 : decode cc (pc + 3) = .ok (.dup, 1)) (d4 : decode cc (pc + 4) = .ok (.ldc is, 2)) (d6 : decode cc (pc + 6) = .ok (.invokespecial ic, 3)) (d9 : decode cc (pc + 9) = .ok (.athrow, 1))
    (hR : 6 ≤ R.frames ∧ (rest.map fun v => v.category).sum + 82 ≤ R.locals ∧ cells + 1 ≤ R.cells ∧ slots + 6 ≤ R.slots) (hpx : ∀ H1 : Heap, H.size ≤ H1.size → (∀ q : Nat, q < H.size → H1[q]? = H[q]?) → px cls H1) (hc : cells + 1 ≤ mc) (hs : slots + 6 ≤ ms) :
    W p l e R s m args below meth c H locs cells slots (vx_MQ below (ro_Q n0 post) (ro_X n0 px) args s mc ms (fun q => n0 ≤ q)) (F0 m pc ls rest) := by
  obtain ⟨⟨hx, hb, hml, hown, hts⟩, hE, hlk⟩ := MC
  obtain ⟨t1, t2, t3, t4, t5, t6, t7, t8⟩ := hT
  obtain ⟨sa, hsa⟩ := hE.2.2.2.2.1 _ t4
  exact vx_throwS hx hb hl hown t1 (by decide +kernel) (hts _ t2) (hts _ t3) hsa (ro_nong hE t5 (fun w hw => hts w (t6 w hw)) t7) t8 hE.2.1 hE.2.2.1 HS (hsize.trans hml.symm) d0 d3 d4 d6 d9 (fun x hx => (hno x hx).elim) (by show 2 + 3 < R.frames; omega) (by show _ + (13 * (2 + 1) + 43) ≤ R.locals; omega) hR.2.2.1 hR.2.2.2 hlk
    (fun t hW h1 h2 => ⟨hpx _ h1 h2, ro_F HS h1 h2⟩) HS.2.2 hc hs
theorem ro_throwW (hl : l.stackTraces = false) (MC : ro_C p s m args meth c cc nL "FrostCalendar" D ids n0) (HS : va_S (fun q => n0 ≤ q) s.heap H locs) (hno : ∀ x ∈ c.exceptionTable.toList, False) {ik is ic : Nat} {cls text : String} (hT : ro_TH ik is ic cls text) (hsize : ls.size = nL)
    (d0 : decode cc pc = .ok (.new ik, 3)) (d3 : decode cc (pc + 3) = .ok (.dup, 1)) (d4 : decode cc (pc + 4) = .ok (.ldc_w is, 3)) (d6 : decode cc (pc + 7) = .ok (.invokespecial ic, 3)) (d9 : decode cc (pc + 10) = .ok (.athrow, 1))
    (hR : 6 ≤ R.frames ∧ (rest.map fun v => v.category).sum + 82 ≤ R.locals ∧ cells + 1 ≤ R.cells ∧ slots + 6 ≤ R.slots) (hpx : ∀ H1 : Heap, H.size ≤ H1.size → (∀ q : Nat, q < H.size → H1[q]? = H[q]?) → px cls H1) (hc : cells + 1 ≤ mc) (hs : slots + 6 ≤ ms) :
    W p l e R s m args below meth c H locs cells slots (vx_MQ below (ro_Q n0 post) (ro_X n0 px) args s mc ms (fun q => n0 ≤ q)) (F0 m pc ls rest) := by
  obtain ⟨⟨hx, hb, hml, hown, hts⟩, hE, hlk⟩ := MC
  obtain ⟨t1, t2, t3, t4, t5, t6, t7, t8⟩ := hT
  obtain ⟨sa, hsa⟩ := hE.2.2.2.2.1 _ t4
  exact vx_throwSW hx hb hl hown t1 (by decide +kernel) (hts _ t2) (hts _ t3) hsa (ro_nong hE t5 (fun w hw => hts w (t6 w hw)) t7) t8 hE.2.1 hE.2.2.1 HS (hsize.trans hml.symm) d0 d3 d4 d6 d9 (fun x hx => (hno x hx).elim) (by show 2 + 3 < R.frames; omega) (by show _ + (13 * (2 + 1) + 43) ≤ R.locals; omega) hR.2.2.1 hR.2.2.2 hlk
    (fun t hW h1 h2 => ⟨hpx _ h1 h2, ro_F HS h1 h2⟩) HS.2.2 hc hs
end RC
end
section
/-! a throw of NoSuchElementException: its constructor's link to RuntimeException's stands at place 13 of its pool, so the kit's list of words for a throw (place 7) doesn't fit it; the two laws follow the kit's for the others -/
def nxN : String := "java/util/NoSuchElementException"
def nxR : String := "java/lang/RuntimeException"
def nxB : ByteArray := ⟨#[0x2a, 0x2b, 0xb7, 0x00, 0x0d, 0xb1]⟩
theorem nxB_0 : decode nxB 0 = .ok (.aload_n 0, 1) := by decide +kernel
theorem nxB_1 : decode nxB 1 = .ok (.aload_n 1, 1) := by decide +kernel
theorem nxB_2 : decode nxB 2 = .ok (.invokespecial 13, 3) := by decide +kernel
theorem nxB_5 : decode nxB 5 = .ok (.return_, 1) := by decide +kernel
def nx_tail (own : String) (ic : Nat) : List Cond := [.methodLink own ic (Bundle.initS nxN), .instantiable nxN 6, .castable nxN nxN, .selects nxN Bundle.tFill0 Bundle.tFill0, .selects nxN Bundle.tFill Bundle.tFill, .lays nxN Bundle.tN "cause" "Ljava/lang/Throwable;", .lays nxN Bundle.tN "stackTrace" Bundle.steD, .lays nxN Bundle.tN "suppressedExceptions" Bundle.listD, .lays nxN Bundle.tN "detailMessage" "Ljava/lang/String;", .isRef (.static Bundle.tN "UNASSIGNED_STACK" Bundle.steD), .isRef (.static Bundle.tN "SUPPRESSED_SENTINEL" Bundle.listD), .fieldLink Bundle.tN 198 Bundle.tN "backtrace" "Ljava/lang/Object;", .lays Bundle.tN Bundle.tN "backtrace" "Ljava/lang/Object;", .lays nxN Bundle.tN "backtrace" "Ljava/lang/Object;"]
def nx_at (own : String) (ic : Nat) : List Cond := Bundle.throwableAtoms ++ (Bundle.throwableSAtoms ++ (Bundle.passSAtoms nxN nxR 13 nxB ++ (Bundle.chainSAtoms nxR ["java/lang/Exception"] ++ nx_tail own ic)))
theorem nx_i1 {own : String} {ic : Nat} {w : Cond} (h : w ∈ Bundle.throwableAtoms) : w ∈ nx_at own ic := List.mem_append_left _ h
theorem nx_i2 {own : String} {ic : Nat} {w : Cond} (h : w ∈ Bundle.throwableSAtoms) : w ∈ nx_at own ic := List.mem_append_right _ (List.mem_append_left _ h)
theorem nx_i3 {own : String} {ic : Nat} {w : Cond} (h : w ∈ Bundle.passSAtoms nxN nxR 13 nxB) : w ∈ nx_at own ic := List.mem_append_right _ (List.mem_append_right _ (List.mem_append_left _ h))
theorem nx_i4 {own : String} {ic : Nat} {w : Cond} (h : w ∈ Bundle.chainSAtoms nxR ["java/lang/Exception"]) : w ∈ nx_at own ic := List.mem_append_right _ (List.mem_append_right _ (List.mem_append_right _ (List.mem_append_left _ h)))
theorem nx_i5 {own : String} {ic : Nat} {w : Cond} (h : w ∈ nx_tail own ic) : w ∈ nx_at own ic := List.mem_append_right _ (List.mem_append_right _ (List.mem_append_right _ (List.mem_append_right _ h)))
section NX
variable {p : Program} {l : Launch} {e : Env} {R : Room} {s : State} {m : MethodId} {args : Array Value} {below : List Frame} {meth : Method} {c : Code} {T : State} {H : Heap} {locs : List Loc} {cells slots : Nat}
set_option maxHeartbeats 4000000 in
theorem nx_ctor (X : Stand p l e R s m args below meth c T [] cells slots) (hexec : p.tables.exec = Jvm.exec) (htr : e.platform.stackTraces = false) {own : String} {ic : Nat} (hown : s.vm.findClass own = some m.cls)
    (h : ∀ w ∈ nx_at own ic, w.before args s = true) {a : Addr} {cX : ClassId} {kX : Class} (hfoundX : s.vm.findClass nxN = some cX) (hkX : s.vm.classes[cX]? = some kX) (hcell : T.heap[a]? = some (freshCell cX kX)) (hnew : s.heap.size ≤ a) {msg : Value} (hmsg : msg.isRef = true)
    {g : JFrame} (hg : g.method = m) (hsize : g.locals.size = c.maxLocals) (hlocked : g.locked = none) (hentered : g.entered = []) {rest : List Value} (hstack : g.stack = msg :: .ref a :: .ref a :: rest)
    (hd6 : decode c.code g.pc = .ok (.invokespecial ic, 3)) (hd9 : decode c.code (g.pc + 3) = .ok (.athrow, 1)) (hout : ∀ x ∈ c.exceptionTable.toList, covers x (g.pc + 3) = false)
    (hRframes : 5 < R.frames) (hRlocals : 2 * g.monitorRoom + ((Value.ref a :: rest).map fun v => v.category).sum + 81 ≤ R.locals) (hlocks : meth.locks = false) :
    ∃ U : State, Steps p.tables e below (T.setTop g) U ∧ U.status = .running ∧ Ended U below (.threw a) ∧ s.WarmedH U.vm ∧ s.sameButNew ({ U with vm := s.vm } : State) [] cells slots ∧ ∃ ce, U.heap[a]? = some ce ∧ ce.cls = cX ∧ ce.vm = .none := by
  have howns : e.platform.frameOwnsMonitors = true := by rw [X.admits.platform]
  have hfin : e.platform.finalization = false := by rw [X.admits.platform]
  have hpl : e.platform.magicAccessors = ({} : Platform).magicAccessors := by rw [X.admits.platform]
  have t : ∀ w ∈ nx_tail own ic, w.holds args s none s [] = true := fun w hw => h w (nx_i5 hw)
  obtain ⟨TC, Z0, L, -, Y⟩ := ThrowableC.of_atoms (args := args) howns hfin hpl (fun w hw => h w (nx_i1 hw))
  obtain ⟨Z, M, LZ, LM, hnZ⟩ := Init0T.ofS_atoms (args := args) hpl L Y (fun w hw => h w (nx_i2 hw))
  obtain ⟨P1, L1, hP1m, hP1s⟩ := PassC.ofS_atoms (args := args) (s := s) (X := nxN) (Y := nxR) hpl (by decide +kernel) (by decide +kernel) nxB_0 nxB_1 nxB_2 nxB_5 (fun w hw => h w (nx_i3 hw))
  obtain ⟨P2, Ps, hlen, L2, hL, hP2m, hlink2, hlink⟩ := Bundle.chainS (args := args) hpl hnZ ["java/lang/Exception"] nxR (by decide +kernel) (by decide +kernel) (fun w hw => h w (nx_i4 hw))
  have hlink1 : P1.sup = P2.m := Option.some.inj (hP1s.symm.trans hP2m)
  have hfound : s.vm.findClass nxN = some P1.m.cls := findClass_of_methodNamed hP1m
  cases Option.some.inj (hfoundX.symm.trans hfound)
  obtain ⟨c1, kX', hc1, hk, hord, -, -, hn6⟩ := Cond.instantiable_spec (t (.instantiable nxN 6) (by simp [nx_tail]))
  cases Option.some.inj (hc1.symm.trans hfound)
  cases Option.some.inj (hkX.symm.trans hk)
  have hsel0 : selectMethod e.platform s.vm P1.m.cls TC.fill0 = .method TC.fill0 := by
    obtain ⟨c2, r2, m2, q1, q2, q3, q4, -⟩ := Cond.selects_spec (t (.selects nxN Bundle.tFill0 Bundle.tFill0) (by simp [nx_tail]))
    cases Option.some.inj (q1.symm.trans hfound)
    cases Option.some.inj (q2.symm.trans (State.methodFound?_of_named Y.fill0 (by decide)))
    cases Option.some.inj (q3.symm.trans Y.fill0)
    rw [Launch.admits_selectMethod X.admits]; exact q4
  have hselF : selectMethod e.platform s.vm P1.m.cls TC.fill = .method TC.fill := by
    obtain ⟨c2, r2, m2, q1, q2, q3, q4, -⟩ := Cond.selects_spec (t (.selects nxN Bundle.tFill Bundle.tFill) (by simp [nx_tail]))
    cases Option.some.inj (q1.symm.trans hfound)
    cases Option.some.inj (q2.symm.trans (State.methodFound?_of_named Y.fill (by decide)))
    cases Option.some.inj (q3.symm.trans Y.fill)
    rw [Launch.admits_selectMethod X.admits]; exact q4
  obtain ⟨cellS0, hcS0, hiss⟩ := Y.statics
  obtain ⟨u0, hu0⟩ := Cond.staticRefV Y.unassigned L.unassignedStatic L.statics hcS0 hiss (t (.isRef (.static Bundle.tN "UNASSIGNED_STACK" Bundle.steD)) (by simp [nx_tail]))
  obtain ⟨sen, hsen⟩ := Cond.staticRefV Y.sentinel L.sentinelStatic L.statics hcS0 hiss (t (.isRef (.static Bundle.tN "SUPPRESSED_SENTINEL" Bundle.listD)) (by simp [nx_tail]))
  obtain ⟨ci198, i198, fB, hk198, hg198, ha198, hsB, -, hnB, htB, hffB⟩ := Cond.ownField (t := .object "java/lang/Object") Y.found L.cls (by decide +kernel) (t (.fieldLink Bundle.tN 198 Bundle.tN "backtrace" "Ljava/lang/Object;") (by simp [nx_tail])) (t (.lays Bundle.tN Bundle.tN "backtrace" "Ljava/lang/Object;") (by simp [nx_tail])) e.platform hpl
  obtain ⟨cellS, hcS', heS, -, hkeep⟩ := X.same.2.2.2.2.2 TC.aS cellS0 hcS0
  have hcellS : T.heap[TC.aS]? = some cellS := hcS'
  have hknownS : cellS.vm ≠ .unknown := by
    rw [heS]; intro hu
    rw [show cellS0.vm = .unknown from hu] at hiss
    cases hiss
  have hneS : TC.aS ≠ a := Nat.ne_of_lt (Nat.lt_of_lt_of_le (Array.getElem?_eq_some_iff.mp hcS0).1 hnew)
  obtain ⟨iM, hffM⟩ := Y.msg
  obtain ⟨tyC, dC, hdC, hdnC⟩ := Cond.laysAt hfound hk Y.cause (t (.lays nxN Bundle.tN "cause" "Ljava/lang/Throwable;") (by simp [nx_tail]))
  obtain ⟨tyS, dS, hdS, hdnS⟩ := Cond.laysAt hfound hk Y.stack (t (.lays nxN Bundle.tN "stackTrace" Bundle.steD) (by simp [nx_tail]))
  obtain ⟨tyP, dP, hdP, hdnP⟩ := Cond.laysAt hfound hk Y.supp (t (.lays nxN Bundle.tN "suppressedExceptions" Bundle.listD) (by simp [nx_tail]))
  obtain ⟨tyM, dM, hdM, hdnM⟩ := Cond.laysAt hfound hk hffM (t (.lays nxN Bundle.tN "detailMessage" "Ljava/lang/String;") (by simp [nx_tail]))
  obtain ⟨tyB, dB, hdB, hdnB⟩ := Cond.laysAt hfound hk hffB (t (.lays nxN Bundle.tN "backtrace" "Ljava/lang/Object;") (by simp [nx_tail]))
  have bC := Cond.laysApart hdB hdC hdnB hdnC (by rw [hnB, Y.causeName]; decide)
  have bS := Cond.laysApart hdB hdS hdnB hdnS (by rw [hnB, Y.stackName]; decide)
  have bP := Cond.laysApart hdB hdP hdnB hdnP (by rw [hnB, Y.suppName]; decide)
  have hskip : SkipFacts TC e.platform s (fun u => u) u0 ((preparedCellV TC.toThrowableT (freshCell P1.m.cls kX) a u0 sen).withEntry T.cur) :=
    ⟨{ ci198 := ci198, i198 := i198, fBack := fB }, ⟨hk198, hg198, ha198, hsB⟩, by
      have := fresh_default (c := P1.m.cls) tyB
      rw [htB] at this
      simpa [preparedCellV, Cell.setSlot, Cell.withEntry, Array.getElem?_setIfInBounds, bC, bS, bP, bC.symm, bS.symm, bP.symm, defaultValue] using this, fun _ _ => rfl⟩
  obtain ⟨tm, methC, cdC, kC, vm₁, hnC, -, -, -, -, -, -, -, hW₁, st1⟩ := Steps.initColdS (tb := p.tables) (e := e) (below := below) (s := s) (U := T) X.here hexec X.warmed hpl hown (t := Bundle.initS nxN) rfl rfl (by decide +kernel)
    (t (.methodLink own ic (Bundle.initS nxN)) (by simp [nx_tail])) (h (.instanceMethod (Bundle.initS nxN)) (nx_i3 (by simp [Bundle.passSAtoms]))) (bytes := nxB) (maxL := 2) (h (.code (Bundle.initS nxN) nxB 2 none) (nx_i3 (by simp [Bundle.passSAtoms])))
    (f := g) hg (a := a) (msg := msg) (rest := .ref a :: rest) hstack hd6
  cases Option.some.inj (hnC.symm.trans hP1m)
  have X₁ := X.noted hW₁
  obtain ⟨vm₂, X₂, st2⟩ := X₁.ctorMessageOffV hexec (g := { g with stack := .ref a :: rest }) hg hsize TC L Z LZ M LM (P1 :: P2 :: Ps)
    (fun P hP => by
      rcases List.mem_cons.mp hP with rfl | hP
      · exact L1
      · rcases List.mem_cons.mp hP with rfl | hP
        · exact L2
        · exact hL P hP) ⟨hlink1, hlink2, hlink⟩ (u0 := u0) (sen := sen) (self := a) hmsg (cell := freshCell P1.m.cls kX) (cellS := cellS)
    hcell (fun _ => by simp) (by simp) rfl rfl hsel0 hselF hcellS hneS hknownS (by rw [hkeep _ (fun hm => nomatch hm)]; exact hu0) (by rw [hkeep _ (fun hm => nomatch hm)]; exact hsen)
    (Takes.of_laid hk hord tyC (by rw [Y.causeType]; rfl)) (Takes.of_laid hk hord tyS (by rw [Y.stackType]; exact fits_refV_array _ u0)) (Takes.of_laid hk hord tyP (by rw [Y.suppType]; exact fits_refV_object _ sen))
    (Takes.of_laid hk hord tyM (by rw [Y.msgType]; exact fits_refV_object _ ⟨msg, hmsg⟩)) Y.objLocals hskip htr [] hd6
    (by simp only [List.length_cons, List.length_nil] at hlen ⊢; omega) (by simp only [List.length_cons, List.length_nil] at hlen ⊢; rw [hlen]; exact hRlocals)
  obtain ⟨hwalk, hrun, hended, hWU, hsame⟩ := X₂.athrowLeaves hexec (g := { g with stack := .ref a :: rest, pc := g.pc + 3 }) hg hlocked hentered hout (a := a) (rest := rest) rfl hd9
  have hlt : a < ((T.setVm vm₁).setVm vm₂).heap.size := (Array.getElem?_eq_some_iff.mp hcell).1
  have hU := heapAt_setCell_self (s := (T.setVm vm₁).setVm vm₂) (plainBareV TC.toThrowableT (freshCell P1.m.cls kX) a u0 sen msg) hlt
  refine ⟨_, st1 _ (fun acts => ?_), hrun, hended, hWU, hsame.weaken (fun y hy hlt' => ?_) (Nat.le_refl _) (Nat.le_refl _), _, hU, rfl, rfl⟩
  · rw [doInvoke_state]
    exact st2 _ hwalk
  · rcases List.mem_append.mp hy with h1 | h1
    · exact h1
    · exfalso
      have hb : y.base = a := by
        simp only [List.mem_cons, List.not_mem_nil, or_false] at h1
        rcases h1 with rfl | rfl | rfl | rfl | rfl <;> rfl
      rw [hb] at hlt'
      exact Nat.not_lt.mpr hnew hlt'
end NX
/-- what a throw of new NoSuchElementException(text) wants of the tables -/
def ro_TN (ik is ic : Nat) (text : String) : Prop := Cond.classLink "FrostCalendar" ik nxN ∈ uU ∧ Cond.initialized nxN ∈ uU ∧ (is, text) ∈ uNt ∧ (nxN, nxN) ∈ uNc ∧ (∀ w ∈ ((nx_at "FrostCalendar" ic).filter vx_no).filter goodWord, w ∈ uU) ∧ (∀ w ∈ ((nx_at "FrostCalendar" ic).filter vx_no).filter (fun w => !goodWord w), w = Cond.castable nxN nxN ∨ w ∈ uNd.map Cond.declares) ∧ (∀ w ∈ Cond.classLink "FrostCalendar" ik nxN :: Cond.initialized nxN :: (nx_at "FrostCalendar" ic).filter vx_no, vx_ot w = true)
section NT
variable {p : Program} {l : Launch} {e : Env} {R : Room} {s : State} {m : MethodId} {args : Array Value} {below : List Frame} {meth : Method} {c : Code} {H : Heap} {locs : List Loc} {cells slots : Nat}
variable {cc : ByteArray} {nL : Nat} {D : va_G} {ids : Nat → ClassId} {n0 : Nat} {pc : Nat} {ls : Array Slot} {rest : List Value} {post : Option Value → Heap → Prop} {px : String → Heap → Prop} {mc ms : Nat}
set_option maxHeartbeats 4000000 in
theorem ro_throwN (hl : l.stackTraces = false) (MC : ro_C p s m args meth c cc nL "FrostCalendar" D ids n0) (HS : va_S (fun q => n0 ≤ q) s.heap H locs) (hno : ∀ x ∈ c.exceptionTable.toList, False) {ik is ic : Nat} {text : String} (hT : ro_TN ik is ic text) (hsize : ls.size = nL)
    (d0 : decode cc pc = .ok (.new ik, 3)) (d3 : decode cc (pc + 3) = .ok (.dup, 1)) (d4 : decode cc (pc + 4) = .ok (.ldc is, 2)) (d6 : decode cc (pc + 6) = .ok (.invokespecial ic, 3)) (d9 : decode cc (pc + 9) = .ok (.athrow, 1))
    (hR : 6 ≤ R.frames ∧ (rest.map fun v => v.category).sum + 82 ≤ R.locals ∧ cells + 1 ≤ R.cells ∧ slots + 6 ≤ R.slots) (hpx : ∀ H1 : Heap, H.size ≤ H1.size → (∀ q : Nat, q < H.size → H1[q]? = H[q]?) → px nxN H1) (hc : cells + 1 ≤ mc) (hs : slots + 6 ≤ ms) :
    W p l e R s m args below meth c H locs cells slots (vx_MQ below (ro_Q n0 post) (ro_X n0 px) args s mc ms (fun q => n0 ≤ q)) (F0 m pc ls rest) := by
  obtain ⟨⟨hexec, hb, hml, hown, hts⟩, hE, hlocks⟩ := MC
  obtain ⟨t1, t2, t3, t4, t5, t6, t7⟩ := hT
  obtain ⟨sa, hstr⟩ := hE.2.2.2.2.1 _ t3
  have hat : ∀ w ∈ (nx_at "FrostCalendar" ic).filter vx_no, w.before args s = true := ro_nong hE t4 (fun w hw => hts w (t5 w hw)) t6
  intro T hT X
  have htr : e.platform.stackTraces = false := (show e.platform.stackTraces = l.stackTraces by rw [X.admits.platform]).trans hl
  have Y := vx_rebase X (R' := { frames := R.frames, locals := R.locals, cells := 1, slots := 6 }) (Nat.le_refl _) (Nat.le_refl _) hR.2.2.1 hR.2.2.2
  obtain ⟨s', hA⟩ : ∃ z, z = (T.setVm s.vm).setFrames (.invoking m args :: below) := ⟨_, rfl⟩
  rw [← hA] at Y
  have hvm : s'.vm = s.vm := by rw [hA]; rfl
  have hhp : s'.heap = H := by rw [hA]; exact hT
  have hW0 : s.WarmedH s'.vm := by rw [hvm]; exact State.WarmedH.refl s
  have hat' : ∀ w ∈ (nx_at "FrostCalendar" ic).filter vx_no, w.before args s' = true := fun w hw => vx_ot_at hW0 hvm.symm (t7 w (List.mem_cons_of_mem _ (List.mem_cons_of_mem _ hw))) (hat w hw)
  have hk' : (Cond.classLink "FrostCalendar" ik nxN).before args s' = true := vx_ot_at hW0 hvm.symm (t7 _ List.mem_cons_self) (hts _ t1)
  have hini' : (Cond.initialized nxN).before args s' = true := vx_ot_at hW0 hvm.symm (t7 _ (List.mem_cons_of_mem _ List.mem_cons_self)) (hts _ t2)
  have hU' : vx_Zq Bundle.tN "UNASSIGNED_STACK" Bundle.steD (fun q => n0 ≤ q) s' s'.heap := by rw [hhp]; exact vx_Zq.moved hW0.alike (hE.2.1.kept HS.2.1)
  have hN' : vx_Zq Bundle.tN "SUPPRESSED_SENTINEL" Bundle.listD (fun q => n0 ≤ q) s' s'.heap := by rw [hhp]; exact vx_Zq.moved hW0.alike (hE.2.2.1.kept HS.2.1)
  have h : ∀ w ∈ nx_at "FrostCalendar" ic, w.before args s' = true := vx_own hat' (vx_isRefq hU'.1) (vx_isRefq hN'.1) hU'.2.word hN'.2.word
  have hown' : s'.vm.findClass "FrostCalendar" = some m.cls := by rw [hvm]; exact hown
  have hins : (Cond.instantiable nxN 6).before args s' = true := h _ (nx_i5 (by simp [nx_tail]))
  obtain ⟨vm₁, cX, kX, hfX, hkX, -, -, X₁, st1⟩ := Y.newCold hexec (own := "FrostCalendar") (C := nxN) (index := ik) (n := 6) hown' hk' hins hini'
    (g := F0 m pc ls rest) rfl (by rw [hb]; exact d0) (Nat.le_refl _) (Nat.le_refl _)
  generalize hT1 : (T.setVm vm₁).pushCell { cls := cX, slots := kX.instanceTypes.map defaultValue, vm := .none } = T1 at X₁ st1
  have hcat : (Value.ref T.heap.size).category = 1 := rfl
  have hcellA : T1.heap[T.heap.size]? = some (freshCell cX kX) := by rw [← hT1]; exact State.heap_pushCell_size _ _
  have d3' : decode c.code (pc + 3) = .ok (.dup, 1) := by rw [hb]; exact d3
  have d4' : decode c.code (pc + 4) = .ok (.ldc is, 2) := by rw [hb]; exact d4
  have hstr' : vk_R "FrostCalendar" is text sa s' := vk_R.warm hW0 hstr
  obtain ⟨U, hsteps, hrun, hend, hW, hsame, ce, hce, hO1, hO2⟩ := nx_ctor X₁ hexec htr (own := "FrostCalendar") (ic := ic) hown' h hfX hkX hcellA (by rw [hhp, hT]; exact Nat.le_refl _) (msg := .ref sa) rfl
    (g := { method := m, pc := pc + 6, locals := ls, stack := .ref sa :: .ref T.heap.size :: .ref T.heap.size :: rest, locked := none }) rfl (hsize.trans hml.symm) rfl rfl (rest := rest) rfl
    (by rw [hb]; exact d6) (by rw [hb]; exact d9) (fun x hx => (hno x hx).elim) hR.1 (by simp only [List.map_cons, List.sum_cons, hcat]; show 2 * 0 + _ + 81 ≤ R.locals; omega) hlocks
  obtain ⟨f1, f2⟩ := vx_frame hsame
  rw [hhp] at f1 f2
  have f3 : ∀ q : Nat, q < H.size → U.heap[q]? = H[q]? := fun q hq => f2 q hq (fun z hz => nomatch hz)
  have hWs : s.WarmedH U.vm := State.WarmedH.trans hW0 hW
  have hcl : s.vm.findClass nxN = some ce.cls := by
    have h9 := hfX
    rw [hvm] at h9
    rw [h9, hO1]
  have hall : s.sameButNew ({ U with vm := s.vm } : State) locs mc ms := by
    subst hA
    obtain ⟨e1, e2⟩ := hsame
    rw [State.setFrames_setFrames] at e1
    have h2 : (T.setVm s.vm).sameButNew ({ U with vm := s.vm } : State) [] (0 + 1) (0 + 6) := ⟨e1, e2⟩
    have h3 := X.same.trans h2
    rw [List.append_nil] at h3
    exact h3.mono hc hs
  refine ⟨U, ?_, .threw T.heap.size, hrun, hend, Or.inr ⟨T.heap.size, rfl, nxN, ce, locs, ⟨hpx _ f1 f3, ro_F HS f1 f3⟩, hce, hO2, hcl, hWs, hall, HS.2.2⟩⟩
  refine st1 _ ?_
  show Steps p.tables e below (T1.setTop { method := m, pc := pc + 3, locals := ls, stack := .ref T.heap.size :: rest, locked := none }) _
  jvm_step X₁.here [X₁.here.top, hexec, d3', Value.category]
  exact X₁.ldcString hexec (own := "FrostCalendar") (text := text) (index := is) (a := sa) hown' hstr'.1 hstr'.2
    (g := { method := m, pc := pc + 4, locals := ls, stack := .ref T.heap.size :: .ref T.heap.size :: rest, locked := none }) rfl d4' _ hsteps
end NT
end
section
theorem kw0 : Cond.selects "FrostCalendar" yX6_needScope yX6_needScope ∈ uU := uU_in 0 (by decide +kernel) (by decide +kernel)
theorem kw1 : Cond.selects "java/lang/Throwable" ⟨"java/lang/Throwable", "fillInStackTrace", "(I)Ljava/lang/Throwable;"⟩ ⟨"java/lang/Throwable", "fillInStackTrace", "(I)Ljava/lang/Throwable;"⟩ ∈ uU := uU_in 1 (by decide +kernel) (by decide +kernel)
theorem kw2 : Cond.selects "FrostCalendar" yX6_needLand yX6_needLand ∈ uU := uU_in 2 (by decide +kernel) (by decide +kernel)
theorem kw3 : Cond.selects "FrostCalendar" yX6_needRoomForFreeze yX6_needRoomForFreeze ∈ uU := uU_in 3 (by decide +kernel) (by decide +kernel)
theorem kw4 : Cond.selects "FrostCalendar" yX6_lay yX6_lay ∈ uU := uU_in 4 (by decide +kernel) (by decide +kernel)
theorem kw5 : Cond.selects "FrostCalendar" yX6_needFreeze yX6_needFreeze ∈ uU := uU_in 5 (by decide +kernel) (by decide +kernel)
theorem kw6 : Cond.selects "FrostCalendar" yX6_freezesTouchingScope yX6_freezesTouchingScope ∈ uU := uU_in 6 (by decide +kernel) (by decide +kernel)
theorem kw7 : Cond.selects "FrostCalendar" yX6_isOneInTheOther yX6_isOneInTheOther ∈ uU := uU_in 7 (by decide +kernel) (by decide +kernel)
theorem kw8 : Cond.selects "FrostCalendar" yX6_holdingAmong yX6_holdingAmong ∈ uU := uU_in 8 (by decide +kernel) (by decide +kernel)
theorem kw9 : Cond.selects "FrostCalendar" yX6_needChange yX6_needChange ∈ uU := uU_in 9 (by decide +kernel) (by decide +kernel)
theorem kw10 : Cond.selects "FrostCalendar" yX6_countBadHours yX6_countBadHours ∈ uU := uU_in 10 (by decide +kernel) (by decide +kernel)
theorem kw11 : Cond.selects "FrostCalendar" yX6_freezesAgainst yX6_freezesAgainst ∈ uU := uU_in 11 (by decide +kernel) (by decide +kernel)
theorem kw12 : Cond.selects "FrostCalendar" yX6_freezesTouchingChange yX6_freezesTouchingChange ∈ uU := uU_in 12 (by decide +kernel) (by decide +kernel)
theorem kw13 : Cond.selects "FrostCalendar" yX6_markBadHours yX6_markBadHours ∈ uU := uU_in 13 (by decide +kernel) (by decide +kernel)
theorem kw14 : Cond.selects "FrostCalendar" yX6_firstBadHour yX6_firstBadHour ∈ uU := uU_in 14 (by decide +kernel) (by decide +kernel)
theorem kw15 : Cond.selects "FrostCalendar" yX6_rankToSpend yX6_rankToSpend ∈ uU := uU_in 15 (by decide +kernel) (by decide +kernel)
theorem kw16 : Cond.initialized "FrostCalendarLaw" ∈ uU := uU_in 16 (by decide +kernel) (by decide +kernel)
theorem kw17 : Cond.initialized "FrostCalendar" ∈ uU := uU_in 17 (by decide +kernel) (by decide +kernel)
theorem kw18 : Cond.initialized "FrostCalendar$Land" ∈ uU := uU_in 18 (by decide +kernel) (by decide +kernel)
theorem kw19 : Cond.initialized "java/lang/Throwable" ∈ uU := uU_in 19 (by decide +kernel) (by decide +kernel)
theorem kw20 : Cond.initialized "java/lang/Exception" ∈ uU := uU_in 20 (by decide +kernel) (by decide +kernel)
theorem kw21 : Cond.initialized "java/lang/RuntimeException" ∈ uU := uU_in 21 (by decide +kernel) (by decide +kernel)
theorem kw22 : Cond.initialized "java/lang/IndexOutOfBoundsException" ∈ uU := uU_in 22 (by decide +kernel) (by decide +kernel)
theorem kw23 : Cond.initialized "java/lang/IllegalStateException" ∈ uU := uU_in 23 (by decide +kernel) (by decide +kernel)
theorem kw24 : Cond.initialized "java/lang/IllegalArgumentException" ∈ uU := uU_in 24 (by decide +kernel) (by decide +kernel)
theorem kw25 : Cond.initialized "FrostCalendar$Freeze" ∈ uU := uU_in 25 (by decide +kernel) (by decide +kernel)
theorem kw26 : Cond.initialized "FrostCalendar$FreezeOnce" ∈ uU := uU_in 26 (by decide +kernel) (by decide +kernel)
theorem kw27 : Cond.initialized "FrostCalendar$FreezeDaily" ∈ uU := uU_in 27 (by decide +kernel) (by decide +kernel)
theorem kw28 : Cond.initialized "FrostCalendar$FreezeOnFeasts" ∈ uU := uU_in 28 (by decide +kernel) (by decide +kernel)
theorem kw29 : Cond.initialized "java/util/NoSuchElementException" ∈ uU := uU_in 29 (by decide +kernel) (by decide +kernel)
theorem kw30 : Cond.initialized "java/lang/Math" ∈ uU := uU_in 30 (by decide +kernel) (by decide +kernel)
theorem kw31 : Cond.initialized "FrostCalendar$Change" ∈ uU := uU_in 31 (by decide +kernel) (by decide +kernel)
theorem kw32 : Cond.classLink "FrostCalendarLaw" 25 "FrostCalendar" ∈ uU := uU_in 32 (by decide +kernel) (by decide +kernel)
theorem kw33 : Cond.instantiable "FrostCalendar" 11 ∈ uU := uU_in 33 (by decide +kernel) (by decide +kernel)
theorem kw34 : Cond.methodLink "FrostCalendarLaw" 79 yX6_init ∈ uU := uU_in 34 (by decide +kernel) (by decide +kernel)
theorem kw35 : Cond.instanceMethod yX6_init ∈ uU := uU_in 35 (by decide +kernel) (by decide +kernel)
theorem kw36 : Cond.code yX6_init cX6_init 2 none ∈ uU := uU_in 36 (by decide +kernel) (by decide +kernel)
theorem kw37 : Cond.methodLink "FrostCalendar" 1 ⟨"java/lang/Object", "<init>", "()V"⟩ ∈ uU := uU_in 37 (by decide +kernel) (by decide +kernel)
theorem kw38 : Cond.instanceMethod ⟨"java/lang/Object", "<init>", "()V"⟩ ∈ uU := uU_in 38 (by decide +kernel) (by decide +kernel)
theorem kw39 : Cond.code ⟨"java/lang/Object", "<init>", "()V"⟩ object_method_1_code 1 none ∈ uU := uU_in 39 (by decide +kernel) (by decide +kernel)
theorem kw40 : Cond.classLink "FrostCalendar" 13 "FrostCalendar$Land" ∈ uU := uU_in 40 (by decide +kernel) (by decide +kernel)
theorem kw42 : Cond.classLink "FrostCalendar" 19 "FrostCalendar$Freeze" ∈ uU := uU_in 42 (by decide +kernel) (by decide +kernel)
theorem kw44 : Cond.classLink "FrostCalendar" 25 "FrostCalendar$Change" ∈ uU := uU_in 44 (by decide +kernel) (by decide +kernel)
theorem kw46 : Cond.instantiable "FrostCalendar$Land" 2 ∈ uU := uU_in 46 (by decide +kernel) (by decide +kernel)
theorem kw48 : Cond.instanceMethod yX5_init ∈ uU := uU_in 48 (by decide +kernel) (by decide +kernel)
theorem kw49 : Cond.code yX5_init cX5_init 1 none ∈ uU := uU_in 49 (by decide +kernel) (by decide +kernel)
theorem kw50 : Cond.methodLink "FrostCalendar$Land" 3 ⟨"java/lang/Object", "<init>", "()V"⟩ ∈ uU := uU_in 50 (by decide +kernel) (by decide +kernel)
theorem kw51 : Cond.fieldLink "FrostCalendar$Land" 9 "FrostCalendar$Land" "offset" "I" ∈ uU := uU_in 51 (by decide +kernel) (by decide +kernel)
theorem kw52 : Cond.fieldLink "FrostCalendar" 62 "FrostCalendar$Land" "offset" "I" ∈ uU := uU_in 52 (by decide +kernel) (by decide +kernel)
theorem kw53 : Cond.fieldLink "FrostCalendar$Land" 24 "FrostCalendar$Land" "feastDays" "I" ∈ uU := uU_in 53 (by decide +kernel) (by decide +kernel)
theorem kw59 : Cond.arrayClass FieldType.int ∈ uU := uU_in 59 (by decide +kernel) (by decide +kernel)
theorem kw60 : Cond.arrayClass FieldType.boolean ∈ uU := uU_in 60 (by decide +kernel) (by decide +kernel)
theorem kw61 : Cond.fieldLink "FrostCalendar" 9 "FrostCalendar" "scopesAround" "[I" ∈ uU := uU_in 61 (by decide +kernel) (by decide +kernel)
theorem kw62 : Cond.fieldLink "FrostCalendar" 38 "FrostCalendar" "scopeCount" "I" ∈ uU := uU_in 62 (by decide +kernel) (by decide +kernel)
theorem kw63 : Cond.fieldLink "FrostCalendar" 15 "FrostCalendar" "lands" "[LFrostCalendar$Land;" ∈ uU := uU_in 63 (by decide +kernel) (by decide +kernel)
theorem kw64 : Cond.fieldLink "FrostCalendar" 72 "FrostCalendar" "hourOfNow" "I" ∈ uU := uU_in 64 (by decide +kernel) (by decide +kernel)
theorem kw65 : Cond.fieldLink "FrostCalendar" 21 "FrostCalendar" "freezes" "[LFrostCalendar$Freeze;" ∈ uU := uU_in 65 (by decide +kernel) (by decide +kernel)
theorem kw66 : Cond.fieldLink "FrostCalendar" 165 "FrostCalendar" "laidFreezes" "I" ∈ uU := uU_in 66 (by decide +kernel) (by decide +kernel)
theorem kw67 : Cond.fieldLink "FrostCalendar" 103 "FrostCalendar" "standingFreezes" "I" ∈ uU := uU_in 67 (by decide +kernel) (by decide +kernel)
theorem kw68 : Cond.fieldLink "FrostCalendar" 27 "FrostCalendar" "changes" "[LFrostCalendar$Change;" ∈ uU := uU_in 68 (by decide +kernel) (by decide +kernel)
theorem kw69 : Cond.fieldLink "FrostCalendar" 117 "FrostCalendar" "changeCount" "I" ∈ uU := uU_in 69 (by decide +kernel) (by decide +kernel)
theorem kw70 : Cond.fieldLink "FrostCalendar" 31 "FrostCalendar" "exceptionsLeft" "[I" ∈ uU := uU_in 70 (by decide +kernel) (by decide +kernel)
theorem kw71 : Cond.fieldLink "FrostCalendar" 34 "FrostCalendar" "badMarks" "[Z" ∈ uU := uU_in 71 (by decide +kernel) (by decide +kernel)
theorem kw95 : Cond.methodLink "FrostCalendarLaw" 87 yX6_scope ∈ uU := uU_in 95 (by decide +kernel) (by decide +kernel)
theorem kw96 : Cond.instanceMethod yX6_scope ∈ uU := uU_in 96 (by decide +kernel) (by decide +kernel)
theorem kw97 : Cond.selects "FrostCalendar" yX6_scope yX6_scope ∈ uU := uU_in 97 (by decide +kernel) (by decide +kernel)
theorem kw98 : Cond.code yX6_scope cX6_scope 3 (some FieldType.int) ∈ uU := uU_in 98 (by decide +kernel) (by decide +kernel)
theorem kw99 : Cond.methodLink "FrostCalendar" 43 yX6_needScope ∈ uU := uU_in 99 (by decide +kernel) (by decide +kernel)
theorem kw101 : Cond.instanceMethod yX6_needScope ∈ uU := uU_in 101 (by decide +kernel) (by decide +kernel)
theorem kw102 : Cond.code yX6_needScope cX6_needScope 2 none ∈ uU := uU_in 102 (by decide +kernel) (by decide +kernel)
theorem kw103 : Cond.classLink "FrostCalendar" 197 "java/lang/IndexOutOfBoundsException" ∈ uU := uU_in 103 (by decide +kernel) (by decide +kernel)
theorem kw104 : Cond.instantiable "java/lang/IndexOutOfBoundsException" 6 ∈ uU := uU_in 104 (by decide +kernel) (by decide +kernel)
theorem kw112 : Cond.selects "java/lang/IndexOutOfBoundsException" ⟨"java/lang/Throwable", "fillInStackTrace", "(I)Ljava/lang/Throwable;"⟩ ⟨"java/lang/Throwable", "fillInStackTrace", "(I)Ljava/lang/Throwable;"⟩ ∈ uU := uU_in 112 (by decide +kernel) (by decide +kernel)
theorem kw113 : Cond.selects "java/lang/IndexOutOfBoundsException" ⟨"java/lang/Throwable", "fillInStackTrace", "()Ljava/lang/Throwable;"⟩ ⟨"java/lang/Throwable", "fillInStackTrace", "()Ljava/lang/Throwable;"⟩ ∈ uU := uU_in 113 (by decide +kernel) (by decide +kernel)
theorem kw124 : Cond.fieldLink "java/lang/Throwable" 198 "java/lang/Throwable" "backtrace" "Ljava/lang/Object;" ∈ uU := uU_in 124 (by decide +kernel) (by decide +kernel)
theorem kw126 : Cond.instanceMethod ⟨"java/lang/Throwable", "<init>", "()V"⟩ ∈ uU := uU_in 126 (by decide +kernel) (by decide +kernel)
theorem kw127 : Cond.code ⟨"java/lang/Throwable", "<init>", "()V"⟩ prog_18_method_1_code 1 none ∈ uU := uU_in 127 (by decide +kernel) (by decide +kernel)
theorem kw128 : Cond.methodLink "java/lang/Throwable" 1 ⟨"java/lang/Object", "<init>", "()V"⟩ ∈ uU := uU_in 128 (by decide +kernel) (by decide +kernel)
theorem kw129 : Cond.fieldLink "java/lang/Throwable" 13 "java/lang/Throwable" "UNASSIGNED_STACK" "[Ljava/lang/StackTraceElement;" ∈ uU := uU_in 129 (by decide +kernel) (by decide +kernel)
theorem kw131 : Cond.fieldLink "java/lang/Throwable" 20 "java/lang/Throwable" "SUPPRESSED_SENTINEL" "Ljava/util/List;" ∈ uU := uU_in 131 (by decide +kernel) (by decide +kernel)
theorem kw133 : Cond.methodLink "java/lang/Throwable" 27 ⟨"java/lang/Throwable", "fillInStackTrace", "()Ljava/lang/Throwable;"⟩ ∈ uU := uU_in 133 (by decide +kernel) (by decide +kernel)
theorem kw134 : Cond.instanceMethod ⟨"java/lang/Throwable", "fillInStackTrace", "()Ljava/lang/Throwable;"⟩ ∈ uU := uU_in 134 (by decide +kernel) (by decide +kernel)
theorem kw135 : Cond.sameMethod "java/lang/Throwable" "java/lang/Throwable" "fillInStackTrace" "()Ljava/lang/Throwable;" ∈ uU := uU_in 135 (by decide +kernel) (by decide +kernel)
theorem kw136 : Cond.selects "java/lang/IllegalArgumentException" ⟨"java/lang/Throwable", "fillInStackTrace", "()Ljava/lang/Throwable;"⟩ ⟨"java/lang/Throwable", "fillInStackTrace", "()Ljava/lang/Throwable;"⟩ ∈ uU := uU_in 136 (by decide +kernel) (by decide +kernel)
theorem kw137 : Cond.selects "java/lang/IllegalStateException" ⟨"java/lang/Throwable", "fillInStackTrace", "()Ljava/lang/Throwable;"⟩ ⟨"java/lang/Throwable", "fillInStackTrace", "()Ljava/lang/Throwable;"⟩ ∈ uU := uU_in 137 (by decide +kernel) (by decide +kernel)
theorem kw138 : Cond.selects "java/util/NoSuchElementException" ⟨"java/lang/Throwable", "fillInStackTrace", "()Ljava/lang/Throwable;"⟩ ⟨"java/lang/Throwable", "fillInStackTrace", "()Ljava/lang/Throwable;"⟩ ∈ uU := uU_in 138 (by decide +kernel) (by decide +kernel)
theorem kw140 : Cond.methodLink "java/lang/Throwable" 202 ⟨"java/lang/Throwable", "fillInStackTrace", "(I)Ljava/lang/Throwable;"⟩ ∈ uU := uU_in 140 (by decide +kernel) (by decide +kernel)
theorem kw142 : Cond.instanceMethod ⟨"java/lang/Throwable", "fillInStackTrace", "(I)Ljava/lang/Throwable;"⟩ ∈ uU := uU_in 142 (by decide +kernel) (by decide +kernel)
theorem kw143 : Cond.instantiable "java/lang/Throwable" 6 ∈ uU := uU_in 143 (by decide +kernel) (by decide +kernel)
theorem kw146 : Cond.methodLink "FrostCalendar" 201 ⟨"java/lang/IndexOutOfBoundsException", "<init>", "(Ljava/lang/String;)V"⟩ ∈ uU := uU_in 146 (by decide +kernel) (by decide +kernel)
theorem kw147 : Cond.instanceMethod ⟨"java/lang/IndexOutOfBoundsException", "<init>", "(Ljava/lang/String;)V"⟩ ∈ uU := uU_in 147 (by decide +kernel) (by decide +kernel)
theorem kw148 : Cond.code ⟨"java/lang/IndexOutOfBoundsException", "<init>", "(Ljava/lang/String;)V"⟩ prog_14_method_2_code 2 none ∈ uU := uU_in 148 (by decide +kernel) (by decide +kernel)
theorem kw149 : Cond.methodLink "java/lang/IndexOutOfBoundsException" 7 ⟨"java/lang/RuntimeException", "<init>", "(Ljava/lang/String;)V"⟩ ∈ uU := uU_in 149 (by decide +kernel) (by decide +kernel)
theorem kw150 : Cond.instanceMethod ⟨"java/lang/RuntimeException", "<init>", "(Ljava/lang/String;)V"⟩ ∈ uU := uU_in 150 (by decide +kernel) (by decide +kernel)
theorem kw151 : Cond.code ⟨"java/lang/RuntimeException", "<init>", "(Ljava/lang/String;)V"⟩ prog_16_method_2_code 2 none ∈ uU := uU_in 151 (by decide +kernel) (by decide +kernel)
theorem kw152 : Cond.methodLink "java/lang/RuntimeException" 7 ⟨"java/lang/Exception", "<init>", "(Ljava/lang/String;)V"⟩ ∈ uU := uU_in 152 (by decide +kernel) (by decide +kernel)
theorem kw153 : Cond.instanceMethod ⟨"java/lang/Exception", "<init>", "(Ljava/lang/String;)V"⟩ ∈ uU := uU_in 153 (by decide +kernel) (by decide +kernel)
theorem kw154 : Cond.code ⟨"java/lang/Exception", "<init>", "(Ljava/lang/String;)V"⟩ prog_11_method_2_code 2 none ∈ uU := uU_in 154 (by decide +kernel) (by decide +kernel)
theorem kw155 : Cond.methodLink "java/lang/Exception" 7 ⟨"java/lang/Throwable", "<init>", "(Ljava/lang/String;)V"⟩ ∈ uU := uU_in 155 (by decide +kernel) (by decide +kernel)
theorem kw156 : Cond.instanceMethod ⟨"java/lang/Throwable", "<init>", "(Ljava/lang/String;)V"⟩ ∈ uU := uU_in 156 (by decide +kernel) (by decide +kernel)
theorem kw157 : Cond.code ⟨"java/lang/Throwable", "<init>", "(Ljava/lang/String;)V"⟩ prog_18_method_2_code 2 none ∈ uU := uU_in 157 (by decide +kernel) (by decide +kernel)
theorem kw159 : Cond.fieldLink "java/lang/Throwable" 31 "java/lang/Throwable" "detailMessage" "Ljava/lang/String;" ∈ uU := uU_in 159 (by decide +kernel) (by decide +kernel)
theorem kw160 : Cond.fieldLink "java/lang/Throwable" 7 "java/lang/Throwable" "cause" "Ljava/lang/Throwable;" ∈ uU := uU_in 160 (by decide +kernel) (by decide +kernel)
theorem kw161 : Cond.fieldLink "java/lang/Throwable" 17 "java/lang/Throwable" "stackTrace" "[Ljava/lang/StackTraceElement;" ∈ uU := uU_in 161 (by decide +kernel) (by decide +kernel)
theorem kw162 : Cond.fieldLink "java/lang/Throwable" 24 "java/lang/Throwable" "suppressedExceptions" "Ljava/util/List;" ∈ uU := uU_in 162 (by decide +kernel) (by decide +kernel)
theorem kw171 : Cond.arrayClass FieldType.byte ∈ uU := uU_in 171 (by decide +kernel) (by decide +kernel)
theorem kw172 : Cond.classLink "FrostCalendar" 47 "java/lang/IllegalStateException" ∈ uU := uU_in 172 (by decide +kernel) (by decide +kernel)
theorem kw173 : Cond.instantiable "java/lang/IllegalStateException" 6 ∈ uU := uU_in 173 (by decide +kernel) (by decide +kernel)
theorem kw175 : Cond.selects "java/lang/IllegalStateException" ⟨"java/lang/Throwable", "fillInStackTrace", "(I)Ljava/lang/Throwable;"⟩ ⟨"java/lang/Throwable", "fillInStackTrace", "(I)Ljava/lang/Throwable;"⟩ ∈ uU := uU_in 175 (by decide +kernel) (by decide +kernel)
theorem kw182 : Cond.methodLink "FrostCalendar" 51 ⟨"java/lang/IllegalStateException", "<init>", "(Ljava/lang/String;)V"⟩ ∈ uU := uU_in 182 (by decide +kernel) (by decide +kernel)
theorem kw183 : Cond.instanceMethod ⟨"java/lang/IllegalStateException", "<init>", "(Ljava/lang/String;)V"⟩ ∈ uU := uU_in 183 (by decide +kernel) (by decide +kernel)
theorem kw184 : Cond.code ⟨"java/lang/IllegalStateException", "<init>", "(Ljava/lang/String;)V"⟩ prog_13_method_2_code 2 none ∈ uU := uU_in 184 (by decide +kernel) (by decide +kernel)
theorem kw185 : Cond.methodLink "java/lang/IllegalStateException" 7 ⟨"java/lang/RuntimeException", "<init>", "(Ljava/lang/String;)V"⟩ ∈ uU := uU_in 185 (by decide +kernel) (by decide +kernel)
theorem kw188 : Cond.methodLink "FrostCalendarLaw" 90 yX6_offset ∈ uU := uU_in 188 (by decide +kernel) (by decide +kernel)
theorem kw189 : Cond.instanceMethod yX6_offset ∈ uU := uU_in 189 (by decide +kernel) (by decide +kernel)
theorem kw190 : Cond.selects "FrostCalendar" yX6_offset yX6_offset ∈ uU := uU_in 190 (by decide +kernel) (by decide +kernel)
theorem kw191 : Cond.code yX6_offset cX6_offset 5 (some FieldType.int) ∈ uU := uU_in 191 (by decide +kernel) (by decide +kernel)
theorem kw192 : Cond.methodLink "FrostCalendar" 54 yX6_needLand ∈ uU := uU_in 192 (by decide +kernel) (by decide +kernel)
theorem kw194 : Cond.instanceMethod yX6_needLand ∈ uU := uU_in 194 (by decide +kernel) (by decide +kernel)
theorem kw195 : Cond.code yX6_needLand cX6_needLand 3 (some (FieldType.object "FrostCalendar$Land")) ∈ uU := uU_in 195 (by decide +kernel) (by decide +kernel)
theorem kw197 : Cond.methodLink "FrostCalendar" 58 yX6_needRange ∈ uU := uU_in 197 (by decide +kernel) (by decide +kernel)
theorem kw198 : Cond.static yX6_needRange ∈ uU := uU_in 198 (by decide +kernel) (by decide +kernel)
theorem kw199 : Cond.code yX6_needRange cX6_needRange 3 none ∈ uU := uU_in 199 (by decide +kernel) (by decide +kernel)
theorem kw200 : Cond.classLink "FrostCalendar" 211 "java/lang/IllegalArgumentException" ∈ uU := uU_in 200 (by decide +kernel) (by decide +kernel)
theorem kw201 : Cond.instantiable "java/lang/IllegalArgumentException" 6 ∈ uU := uU_in 201 (by decide +kernel) (by decide +kernel)
theorem kw203 : Cond.selects "java/lang/IllegalArgumentException" ⟨"java/lang/Throwable", "fillInStackTrace", "(I)Ljava/lang/Throwable;"⟩ ⟨"java/lang/Throwable", "fillInStackTrace", "(I)Ljava/lang/Throwable;"⟩ ∈ uU := uU_in 203 (by decide +kernel) (by decide +kernel)
theorem kw210 : Cond.methodLink "FrostCalendar" 215 ⟨"java/lang/IllegalArgumentException", "<init>", "(Ljava/lang/String;)V"⟩ ∈ uU := uU_in 210 (by decide +kernel) (by decide +kernel)
theorem kw211 : Cond.instanceMethod ⟨"java/lang/IllegalArgumentException", "<init>", "(Ljava/lang/String;)V"⟩ ∈ uU := uU_in 211 (by decide +kernel) (by decide +kernel)
theorem kw212 : Cond.code ⟨"java/lang/IllegalArgumentException", "<init>", "(Ljava/lang/String;)V"⟩ prog_12_method_2_code 2 none ∈ uU := uU_in 212 (by decide +kernel) (by decide +kernel)
theorem kw213 : Cond.methodLink "java/lang/IllegalArgumentException" 7 ⟨"java/lang/RuntimeException", "<init>", "(Ljava/lang/String;)V"⟩ ∈ uU := uU_in 213 (by decide +kernel) (by decide +kernel)
theorem kw216 : Cond.methodLink "FrostCalendarLaw" 93 yX6_feast ∈ uU := uU_in 216 (by decide +kernel) (by decide +kernel)
theorem kw217 : Cond.instanceMethod yX6_feast ∈ uU := uU_in 217 (by decide +kernel) (by decide +kernel)
theorem kw218 : Cond.selects "FrostCalendar" yX6_feast yX6_feast ∈ uU := uU_in 218 (by decide +kernel) (by decide +kernel)
theorem kw219 : Cond.code yX6_feast cX6_feast 4 (some FieldType.boolean) ∈ uU := uU_in 219 (by decide +kernel) (by decide +kernel)
theorem kw220 : Cond.methodLink "FrostCalendar" 65 yX5_turnFeastDay ∈ uU := uU_in 220 (by decide +kernel) (by decide +kernel)
theorem kw221 : Cond.instanceMethod yX5_turnFeastDay ∈ uU := uU_in 221 (by decide +kernel) (by decide +kernel)
theorem kw222 : Cond.selects "FrostCalendar$Land" yX5_turnFeastDay yX5_turnFeastDay ∈ uU := uU_in 222 (by decide +kernel) (by decide +kernel)
theorem kw223 : Cond.code yX5_turnFeastDay cX5_turnFeastDay 2 none ∈ uU := uU_in 223 (by decide +kernel) (by decide +kernel)
theorem kw224 : Cond.methodLink "FrostCalendar" 68 yX5_isFeastDay ∈ uU := uU_in 224 (by decide +kernel) (by decide +kernel)
theorem kw225 : Cond.instanceMethod yX5_isFeastDay ∈ uU := uU_in 225 (by decide +kernel) (by decide +kernel)
theorem kw226 : Cond.selects "FrostCalendar$Land" yX5_isFeastDay yX5_isFeastDay ∈ uU := uU_in 226 (by decide +kernel) (by decide +kernel)
theorem kw227 : Cond.code yX5_isFeastDay cX5_isFeastDay 2 (some FieldType.boolean) ∈ uU := uU_in 227 (by decide +kernel) (by decide +kernel)
theorem kw229 : Cond.static yX6_isInSet ∈ uU := uU_in 229 (by decide +kernel) (by decide +kernel)
theorem kw230 : Cond.code yX6_isInSet cX6_isInSet 2 (some FieldType.boolean) ∈ uU := uU_in 230 (by decide +kernel) (by decide +kernel)
theorem kw231 : Cond.methodLink "FrostCalendarLaw" 43 yX6_pass ∈ uU := uU_in 231 (by decide +kernel) (by decide +kernel)
theorem kw232 : Cond.instanceMethod yX6_pass ∈ uU := uU_in 232 (by decide +kernel) (by decide +kernel)
theorem kw233 : Cond.selects "FrostCalendar" yX6_pass yX6_pass ∈ uU := uU_in 233 (by decide +kernel) (by decide +kernel)
theorem kw234 : Cond.code yX6_pass cX6_pass 2 (some FieldType.int) ∈ uU := uU_in 234 (by decide +kernel) (by decide +kernel)
theorem kw236 : Cond.methodLink "FrostCalendarLaw" 132 yX6_now ∈ uU := uU_in 236 (by decide +kernel) (by decide +kernel)
theorem kw237 : Cond.instanceMethod yX6_now ∈ uU := uU_in 237 (by decide +kernel) (by decide +kernel)
theorem kw238 : Cond.selects "FrostCalendar" yX6_now yX6_now ∈ uU := uU_in 238 (by decide +kernel) (by decide +kernel)
theorem kw239 : Cond.code yX6_now cX6_now 1 (some FieldType.int) ∈ uU := uU_in 239 (by decide +kernel) (by decide +kernel)
theorem kw240 : Cond.methodLink "FrostCalendarLaw" 97 yX6_once ∈ uU := uU_in 240 (by decide +kernel) (by decide +kernel)
theorem kw241 : Cond.instanceMethod yX6_once ∈ uU := uU_in 241 (by decide +kernel) (by decide +kernel)
theorem kw242 : Cond.selects "FrostCalendar" yX6_once yX6_once ∈ uU := uU_in 242 (by decide +kernel) (by decide +kernel)
theorem kw243 : Cond.code yX6_once cX6_once 5 (some FieldType.int) ∈ uU := uU_in 243 (by decide +kernel) (by decide +kernel)
theorem kw244 : Cond.methodLink "FrostCalendar" 77 yX6_needRoomForFreeze ∈ uU := uU_in 244 (by decide +kernel) (by decide +kernel)
theorem kw246 : Cond.instanceMethod yX6_needRoomForFreeze ∈ uU := uU_in 246 (by decide +kernel) (by decide +kernel)
theorem kw247 : Cond.code yX6_needRoomForFreeze cX6_needRoomForFreeze 1 none ∈ uU := uU_in 247 (by decide +kernel) (by decide +kernel)
theorem kw249 : Cond.classLink "FrostCalendar" 80 "FrostCalendar$FreezeOnce" ∈ uU := uU_in 249 (by decide +kernel) (by decide +kernel)
theorem kw250 : Cond.instantiable "FrostCalendar$FreezeOnce" 4 ∈ uU := uU_in 250 (by decide +kernel) (by decide +kernel)
theorem kw251 : Cond.methodLink "FrostCalendar" 82 yX4_init ∈ uU := uU_in 251 (by decide +kernel) (by decide +kernel)
theorem kw252 : Cond.instanceMethod yX4_init ∈ uU := uU_in 252 (by decide +kernel) (by decide +kernel)
theorem kw253 : Cond.code yX4_init cX4_init 5 none ∈ uU := uU_in 253 (by decide +kernel) (by decide +kernel)
theorem kw254 : Cond.methodLink "FrostCalendar$FreezeOnce" 1 yX1_init ∈ uU := uU_in 254 (by decide +kernel) (by decide +kernel)
theorem kw255 : Cond.instanceMethod yX1_init ∈ uU := uU_in 255 (by decide +kernel) (by decide +kernel)
theorem kw256 : Cond.code yX1_init cX1_init 3 none ∈ uU := uU_in 256 (by decide +kernel) (by decide +kernel)
theorem kw257 : Cond.methodLink "FrostCalendar$Freeze" 1 ⟨"java/lang/Object", "<init>", "()V"⟩ ∈ uU := uU_in 257 (by decide +kernel) (by decide +kernel)
theorem kw258 : Cond.fieldLink "FrostCalendar$FreezeOnce" 7 "FrostCalendar$FreezeOnce" "from" "I" ∈ uU := uU_in 258 (by decide +kernel) (by decide +kernel)
theorem kw259 : Cond.fieldLink "FrostCalendar$FreezeOnce" 13 "FrostCalendar$FreezeOnce" "to" "I" ∈ uU := uU_in 259 (by decide +kernel) (by decide +kernel)
theorem kw260 : Cond.fieldLink "FrostCalendar$Freeze" 7 "FrostCalendar$Freeze" "scope" "I" ∈ uU := uU_in 260 (by decide +kernel) (by decide +kernel)
theorem kw261 : Cond.fieldLink "FrostCalendar" 220 "FrostCalendar$Freeze" "scope" "I" ∈ uU := uU_in 261 (by decide +kernel) (by decide +kernel)
theorem kw262 : Cond.fieldLink "FrostCalendar$Freeze" 13 "FrostCalendar$Freeze" "rank" "I" ∈ uU := uU_in 262 (by decide +kernel) (by decide +kernel)
theorem kw263 : Cond.fieldLink "FrostCalendar" 186 "FrostCalendar$Freeze" "rank" "I" ∈ uU := uU_in 263 (by decide +kernel) (by decide +kernel)
theorem kw273 : Cond.methodLink "FrostCalendar" 85 yX6_lay ∈ uU := uU_in 273 (by decide +kernel) (by decide +kernel)
theorem kw275 : Cond.instanceMethod yX6_lay ∈ uU := uU_in 275 (by decide +kernel) (by decide +kernel)
theorem kw276 : Cond.code yX6_lay cX6_lay 3 (some FieldType.int) ∈ uU := uU_in 276 (by decide +kernel) (by decide +kernel)
theorem kw277 : Cond.methodLink "FrostCalendarLaw" 101 yX6_daily ∈ uU := uU_in 277 (by decide +kernel) (by decide +kernel)
theorem kw278 : Cond.instanceMethod yX6_daily ∈ uU := uU_in 278 (by decide +kernel) (by decide +kernel)
theorem kw279 : Cond.selects "FrostCalendar" yX6_daily yX6_daily ∈ uU := uU_in 279 (by decide +kernel) (by decide +kernel)
theorem kw280 : Cond.code yX6_daily cX6_daily 7 (some FieldType.int) ∈ uU := uU_in 280 (by decide +kernel) (by decide +kernel)
theorem kw281 : Cond.classLink "FrostCalendar" 89 "FrostCalendar$FreezeDaily" ∈ uU := uU_in 281 (by decide +kernel) (by decide +kernel)
theorem kw282 : Cond.instantiable "FrostCalendar$FreezeDaily" 5 ∈ uU := uU_in 282 (by decide +kernel) (by decide +kernel)
theorem kw283 : Cond.methodLink "FrostCalendar" 91 yX2_init ∈ uU := uU_in 283 (by decide +kernel) (by decide +kernel)
theorem kw284 : Cond.instanceMethod yX2_init ∈ uU := uU_in 284 (by decide +kernel) (by decide +kernel)
theorem kw285 : Cond.code yX2_init cX2_init 6 none ∈ uU := uU_in 285 (by decide +kernel) (by decide +kernel)
theorem kw286 : Cond.methodLink "FrostCalendar$FreezeDaily" 1 yX1_init ∈ uU := uU_in 286 (by decide +kernel) (by decide +kernel)
theorem kw287 : Cond.fieldLink "FrostCalendar$FreezeDaily" 7 "FrostCalendar$FreezeDaily" "land" "LFrostCalendar$Land;" ∈ uU := uU_in 287 (by decide +kernel) (by decide +kernel)
theorem kw288 : Cond.fieldLink "FrostCalendar$FreezeDaily" 13 "FrostCalendar$FreezeDaily" "first" "I" ∈ uU := uU_in 288 (by decide +kernel) (by decide +kernel)
theorem kw289 : Cond.fieldLink "FrostCalendar$FreezeDaily" 17 "FrostCalendar$FreezeDaily" "second" "I" ∈ uU := uU_in 289 (by decide +kernel) (by decide +kernel)
theorem kw299 : Cond.methodLink "FrostCalendarLaw" 105 yX6_feasts ∈ uU := uU_in 299 (by decide +kernel) (by decide +kernel)
theorem kw300 : Cond.instanceMethod yX6_feasts ∈ uU := uU_in 300 (by decide +kernel) (by decide +kernel)
theorem kw301 : Cond.selects "FrostCalendar" yX6_feasts yX6_feasts ∈ uU := uU_in 301 (by decide +kernel) (by decide +kernel)
theorem kw302 : Cond.code yX6_feasts cX6_feasts 5 (some FieldType.int) ∈ uU := uU_in 302 (by decide +kernel) (by decide +kernel)
theorem kw303 : Cond.classLink "FrostCalendar" 94 "FrostCalendar$FreezeOnFeasts" ∈ uU := uU_in 303 (by decide +kernel) (by decide +kernel)
theorem kw304 : Cond.instantiable "FrostCalendar$FreezeOnFeasts" 3 ∈ uU := uU_in 304 (by decide +kernel) (by decide +kernel)
theorem kw305 : Cond.methodLink "FrostCalendar" 96 yX3_init ∈ uU := uU_in 305 (by decide +kernel) (by decide +kernel)
theorem kw306 : Cond.instanceMethod yX3_init ∈ uU := uU_in 306 (by decide +kernel) (by decide +kernel)
theorem kw307 : Cond.code yX3_init cX3_init 4 none ∈ uU := uU_in 307 (by decide +kernel) (by decide +kernel)
theorem kw308 : Cond.methodLink "FrostCalendar$FreezeOnFeasts" 1 yX1_init ∈ uU := uU_in 308 (by decide +kernel) (by decide +kernel)
theorem kw309 : Cond.fieldLink "FrostCalendar$FreezeOnFeasts" 7 "FrostCalendar$FreezeOnFeasts" "land" "LFrostCalendar$Land;" ∈ uU := uU_in 309 (by decide +kernel) (by decide +kernel)
theorem kw315 : Cond.methodLink "FrostCalendarLaw" 37 yX6_lift ∈ uU := uU_in 315 (by decide +kernel) (by decide +kernel)
theorem kw316 : Cond.instanceMethod yX6_lift ∈ uU := uU_in 316 (by decide +kernel) (by decide +kernel)
theorem kw317 : Cond.selects "FrostCalendar" yX6_lift yX6_lift ∈ uU := uU_in 317 (by decide +kernel) (by decide +kernel)
theorem kw318 : Cond.code yX6_lift cX6_lift 2 (some FieldType.int) ∈ uU := uU_in 318 (by decide +kernel) (by decide +kernel)
theorem kw319 : Cond.methodLink "FrostCalendar" 99 yX6_needFreeze ∈ uU := uU_in 319 (by decide +kernel) (by decide +kernel)
theorem kw321 : Cond.instanceMethod yX6_needFreeze ∈ uU := uU_in 321 (by decide +kernel) (by decide +kernel)
theorem kw322 : Cond.code yX6_needFreeze cX6_needFreeze 3 (some (FieldType.object "FrostCalendar$Freeze")) ∈ uU := uU_in 322 (by decide +kernel) (by decide +kernel)
theorem kw323 : Cond.classLink "FrostCalendar" 204 "java/util/NoSuchElementException" ∈ uU := uU_in 323 (by decide +kernel) (by decide +kernel)
theorem kw324 : Cond.instantiable "java/util/NoSuchElementException" 6 ∈ uU := uU_in 324 (by decide +kernel) (by decide +kernel)
theorem kw326 : Cond.selects "java/util/NoSuchElementException" ⟨"java/lang/Throwable", "fillInStackTrace", "(I)Ljava/lang/Throwable;"⟩ ⟨"java/lang/Throwable", "fillInStackTrace", "(I)Ljava/lang/Throwable;"⟩ ∈ uU := uU_in 326 (by decide +kernel) (by decide +kernel)
theorem kw333 : Cond.methodLink "FrostCalendar" 208 ⟨"java/util/NoSuchElementException", "<init>", "(Ljava/lang/String;)V"⟩ ∈ uU := uU_in 333 (by decide +kernel) (by decide +kernel)
theorem kw334 : Cond.instanceMethod ⟨"java/util/NoSuchElementException", "<init>", "(Ljava/lang/String;)V"⟩ ∈ uU := uU_in 334 (by decide +kernel) (by decide +kernel)
theorem kw335 : Cond.code ⟨"java/util/NoSuchElementException", "<init>", "(Ljava/lang/String;)V"⟩ prog_19_method_4_code 2 none ∈ uU := uU_in 335 (by decide +kernel) (by decide +kernel)
theorem kw336 : Cond.methodLink "java/util/NoSuchElementException" 13 ⟨"java/lang/RuntimeException", "<init>", "(Ljava/lang/String;)V"⟩ ∈ uU := uU_in 336 (by decide +kernel) (by decide +kernel)
theorem kw339 : Cond.methodLink "FrostCalendarLaw" 125 yX6_holding ∈ uU := uU_in 339 (by decide +kernel) (by decide +kernel)
theorem kw340 : Cond.instanceMethod yX6_holding ∈ uU := uU_in 340 (by decide +kernel) (by decide +kernel)
theorem kw341 : Cond.selects "FrostCalendar" yX6_holding yX6_holding ∈ uU := uU_in 341 (by decide +kernel) (by decide +kernel)
theorem kw342 : Cond.code yX6_holding cX6_holding 3 (some FieldType.int) ∈ uU := uU_in 342 (by decide +kernel) (by decide +kernel)
theorem kw343 : Cond.methodLink "FrostCalendar" 106 yX6_freezesTouchingScope ∈ uU := uU_in 343 (by decide +kernel) (by decide +kernel)
theorem kw345 : Cond.instanceMethod yX6_freezesTouchingScope ∈ uU := uU_in 345 (by decide +kernel) (by decide +kernel)
theorem kw346 : Cond.code yX6_freezesTouchingScope cX6_freezesTouchingScope 5 (some FieldType.int) ∈ uU := uU_in 346 (by decide +kernel) (by decide +kernel)
theorem kw347 : Cond.methodLink "FrostCalendar" 223 yX6_isOneInTheOther ∈ uU := uU_in 347 (by decide +kernel) (by decide +kernel)
theorem kw349 : Cond.instanceMethod yX6_isOneInTheOther ∈ uU := uU_in 349 (by decide +kernel) (by decide +kernel)
theorem kw350 : Cond.code yX6_isOneInTheOther cX6_isOneInTheOther 3 (some FieldType.boolean) ∈ uU := uU_in 350 (by decide +kernel) (by decide +kernel)
theorem kw351 : Cond.methodLink "FrostCalendar" 178 yX6_isInSet ∈ uU := uU_in 351 (by decide +kernel) (by decide +kernel)
theorem kw352 : Cond.methodLink "FrostCalendar" 110 yX6_holdingAmong ∈ uU := uU_in 352 (by decide +kernel) (by decide +kernel)
theorem kw354 : Cond.instanceMethod yX6_holdingAmong ∈ uU := uU_in 354 (by decide +kernel) (by decide +kernel)
theorem kw355 : Cond.code yX6_holdingAmong cX6_holdingAmong 6 (some FieldType.int) ∈ uU := uU_in 355 (by decide +kernel) (by decide +kernel)
theorem kw356 : Cond.methodLink "FrostCalendar" 114 ⟨"FrostCalendar$Freeze", "holdsIn", "(I)Z"⟩ ∈ uU := uU_in 356 (by decide +kernel) (by decide +kernel)
theorem kw358 : Cond.sameMethod "FrostCalendar$Freeze" "FrostCalendar$Freeze" "holdsIn" "(I)Z" ∈ uU := uU_in 358 (by decide +kernel) (by decide +kernel)
theorem kw359 : Cond.selects "FrostCalendar$FreezeDaily" ⟨"FrostCalendar$Freeze", "holdsIn", "(I)Z"⟩ yX2_holdsIn ∈ uU := uU_in 359 (by decide +kernel) (by decide +kernel)
theorem kw360 : Cond.instanceMethod yX2_holdsIn ∈ uU := uU_in 360 (by decide +kernel) (by decide +kernel)
theorem kw361 : Cond.code yX2_holdsIn cX2_holdsIn 3 (some FieldType.boolean) ∈ uU := uU_in 361 (by decide +kernel) (by decide +kernel)
theorem kw362 : Cond.methodLink "FrostCalendar$FreezeDaily" 20 yX5_hourOfDay ∈ uU := uU_in 362 (by decide +kernel) (by decide +kernel)
theorem kw363 : Cond.instanceMethod yX5_hourOfDay ∈ uU := uU_in 363 (by decide +kernel) (by decide +kernel)
theorem kw364 : Cond.selects "FrostCalendar$Land" yX5_hourOfDay yX5_hourOfDay ∈ uU := uU_in 364 (by decide +kernel) (by decide +kernel)
theorem kw365 : Cond.code yX5_hourOfDay cX5_hourOfDay 2 (some FieldType.int) ∈ uU := uU_in 365 (by decide +kernel) (by decide +kernel)
theorem kw366 : Cond.methodLink "FrostCalendar$Land" 15 yJ9_floorMod_7cf53 ∈ uU := uU_in 366 (by decide +kernel) (by decide +kernel)
theorem kw367 : Cond.static yJ9_floorMod_7cf53 ∈ uU := uU_in 367 (by decide +kernel) (by decide +kernel)
theorem kw368 : Cond.code yJ9_floorMod_7cf53 cJ9_floorMod_7cf53 3 (some FieldType.int) ∈ uU := uU_in 368 (by decide +kernel) (by decide +kernel)
theorem kw369 : Cond.selects "FrostCalendar$FreezeOnFeasts" ⟨"FrostCalendar$Freeze", "holdsIn", "(I)Z"⟩ yX3_holdsIn ∈ uU := uU_in 369 (by decide +kernel) (by decide +kernel)
theorem kw370 : Cond.instanceMethod yX3_holdsIn ∈ uU := uU_in 370 (by decide +kernel) (by decide +kernel)
theorem kw371 : Cond.code yX3_holdsIn cX3_holdsIn 2 (some FieldType.boolean) ∈ uU := uU_in 371 (by decide +kernel) (by decide +kernel)
theorem kw372 : Cond.methodLink "FrostCalendar$FreezeOnFeasts" 13 yX5_dayOf ∈ uU := uU_in 372 (by decide +kernel) (by decide +kernel)
theorem kw373 : Cond.instanceMethod yX5_dayOf ∈ uU := uU_in 373 (by decide +kernel) (by decide +kernel)
theorem kw374 : Cond.selects "FrostCalendar$Land" yX5_dayOf yX5_dayOf ∈ uU := uU_in 374 (by decide +kernel) (by decide +kernel)
theorem kw375 : Cond.code yX5_dayOf cX5_dayOf 2 (some FieldType.int) ∈ uU := uU_in 375 (by decide +kernel) (by decide +kernel)
theorem kw376 : Cond.methodLink "FrostCalendar$Land" 21 yJ9_floorDiv_7cf53 ∈ uU := uU_in 376 (by decide +kernel) (by decide +kernel)
theorem kw377 : Cond.static yJ9_floorDiv_7cf53 ∈ uU := uU_in 377 (by decide +kernel) (by decide +kernel)
theorem kw378 : Cond.code yJ9_floorDiv_7cf53 cJ9_floorDiv_7cf53 3 (some FieldType.int) ∈ uU := uU_in 378 (by decide +kernel) (by decide +kernel)
theorem kw379 : Cond.methodLink "FrostCalendar$FreezeOnFeasts" 19 yX5_isFeastDay ∈ uU := uU_in 379 (by decide +kernel) (by decide +kernel)
theorem kw380 : Cond.selects "FrostCalendar$FreezeOnce" ⟨"FrostCalendar$Freeze", "holdsIn", "(I)Z"⟩ yX4_holdsIn ∈ uU := uU_in 380 (by decide +kernel) (by decide +kernel)
theorem kw381 : Cond.instanceMethod yX4_holdsIn ∈ uU := uU_in 381 (by decide +kernel) (by decide +kernel)
theorem kw382 : Cond.code yX4_holdsIn cX4_holdsIn 2 (some FieldType.boolean) ∈ uU := uU_in 382 (by decide +kernel) (by decide +kernel)
theorem kw383 : Cond.methodLink "FrostCalendarLaw" 46 yX6_hours ∈ uU := uU_in 383 (by decide +kernel) (by decide +kernel)
theorem kw384 : Cond.instanceMethod yX6_hours ∈ uU := uU_in 384 (by decide +kernel) (by decide +kernel)
theorem kw385 : Cond.selects "FrostCalendar" yX6_hours yX6_hours ∈ uU := uU_in 385 (by decide +kernel) (by decide +kernel)
theorem kw386 : Cond.code yX6_hours cX6_hours 5 (some FieldType.int) ∈ uU := uU_in 386 (by decide +kernel) (by decide +kernel)
theorem kw387 : Cond.methodLink "FrostCalendarLaw" 122 yX6_nextSpan ∈ uU := uU_in 387 (by decide +kernel) (by decide +kernel)
theorem kw388 : Cond.instanceMethod yX6_nextSpan ∈ uU := uU_in 388 (by decide +kernel) (by decide +kernel)
theorem kw389 : Cond.selects "FrostCalendar" yX6_nextSpan yX6_nextSpan ∈ uU := uU_in 389 (by decide +kernel) (by decide +kernel)
theorem kw390 : Cond.code yX6_nextSpan cX6_nextSpan 7 (some FieldType.int) ∈ uU := uU_in 390 (by decide +kernel) (by decide +kernel)
theorem kw391 : Cond.methodLink "FrostCalendarLaw" 113 yX6_plan ∈ uU := uU_in 391 (by decide +kernel) (by decide +kernel)
theorem kw392 : Cond.instanceMethod yX6_plan ∈ uU := uU_in 392 (by decide +kernel) (by decide +kernel)
theorem kw393 : Cond.selects "FrostCalendar" yX6_plan yX6_plan ∈ uU := uU_in 393 (by decide +kernel) (by decide +kernel)
theorem kw394 : Cond.code yX6_plan cX6_plan 6 (some FieldType.int) ∈ uU := uU_in 394 (by decide +kernel) (by decide +kernel)
theorem kw396 : Cond.instantiable "FrostCalendar$Change" 8 ∈ uU := uU_in 396 (by decide +kernel) (by decide +kernel)
theorem kw397 : Cond.methodLink "FrostCalendar" 122 yX0_init ∈ uU := uU_in 397 (by decide +kernel) (by decide +kernel)
theorem kw398 : Cond.instanceMethod yX0_init ∈ uU := uU_in 398 (by decide +kernel) (by decide +kernel)
theorem kw399 : Cond.code yX0_init cX0_init 5 none ∈ uU := uU_in 399 (by decide +kernel) (by decide +kernel)
theorem kw400 : Cond.methodLink "FrostCalendar$Change" 3 ⟨"java/lang/Object", "<init>", "()V"⟩ ∈ uU := uU_in 400 (by decide +kernel) (by decide +kernel)
theorem kw401 : Cond.fieldLink "FrostCalendar$Change" 15 "FrostCalendar$Change" "scope" "I" ∈ uU := uU_in 401 (by decide +kernel) (by decide +kernel)
theorem kw402 : Cond.fieldLink "FrostCalendar" 226 "FrostCalendar$Change" "scope" "I" ∈ uU := uU_in 402 (by decide +kernel) (by decide +kernel)
theorem kw403 : Cond.fieldLink "FrostCalendar$Change" 21 "FrostCalendar$Change" "length" "I" ∈ uU := uU_in 403 (by decide +kernel) (by decide +kernel)
theorem kw404 : Cond.fieldLink "FrostCalendar" 127 "FrostCalendar$Change" "length" "I" ∈ uU := uU_in 404 (by decide +kernel) (by decide +kernel)
theorem kw405 : Cond.fieldLink "FrostCalendar$Change" 24 "FrostCalendar$Change" "risk" "I" ∈ uU := uU_in 405 (by decide +kernel) (by decide +kernel)
theorem kw406 : Cond.fieldLink "FrostCalendar" 147 "FrostCalendar$Change" "risk" "I" ∈ uU := uU_in 406 (by decide +kernel) (by decide +kernel)
theorem kw407 : Cond.fieldLink "FrostCalendar$Change" 18 "FrostCalendar$Change" "from" "I" ∈ uU := uU_in 407 (by decide +kernel) (by decide +kernel)
theorem kw408 : Cond.fieldLink "FrostCalendar" 134 "FrostCalendar$Change" "from" "I" ∈ uU := uU_in 408 (by decide +kernel) (by decide +kernel)
theorem kw409 : Cond.fieldLink "FrostCalendar" 137 "FrostCalendar$Change" "approvedRank" "I" ∈ uU := uU_in 409 (by decide +kernel) (by decide +kernel)
theorem kw410 : Cond.fieldLink "FrostCalendar" 140 "FrostCalendar$Change" "excusedFrom" "I" ∈ uU := uU_in 410 (by decide +kernel) (by decide +kernel)
theorem kw411 : Cond.fieldLink "FrostCalendar" 161 "FrostCalendar$Change" "hasBegun" "Z" ∈ uU := uU_in 411 (by decide +kernel) (by decide +kernel)
theorem kw412 : Cond.fieldLink "FrostCalendar$Change" 9 "FrostCalendar$Change" "freezesLaidBefore" "I" ∈ uU := uU_in 412 (by decide +kernel) (by decide +kernel)
theorem kw413 : Cond.fieldLink "FrostCalendar" 168 "FrostCalendar$Change" "freezesLaidBefore" "I" ∈ uU := uU_in 413 (by decide +kernel) (by decide +kernel)
theorem kw431 : Cond.methodLink "FrostCalendarLaw" 40 yX6_move ∈ uU := uU_in 431 (by decide +kernel) (by decide +kernel)
theorem kw432 : Cond.instanceMethod yX6_move ∈ uU := uU_in 432 (by decide +kernel) (by decide +kernel)
theorem kw433 : Cond.selects "FrostCalendar" yX6_move yX6_move ∈ uU := uU_in 433 (by decide +kernel) (by decide +kernel)
theorem kw434 : Cond.code yX6_move cX6_move 4 (some FieldType.int) ∈ uU := uU_in 434 (by decide +kernel) (by decide +kernel)
theorem kw435 : Cond.methodLink "FrostCalendar" 123 yX6_needChange ∈ uU := uU_in 435 (by decide +kernel) (by decide +kernel)
theorem kw437 : Cond.instanceMethod yX6_needChange ∈ uU := uU_in 437 (by decide +kernel) (by decide +kernel)
theorem kw438 : Cond.code yX6_needChange cX6_needChange 3 (some (FieldType.object "FrostCalendar$Change")) ∈ uU := uU_in 438 (by decide +kernel) (by decide +kernel)
theorem kw440 : Cond.methodLink "FrostCalendar" 130 yX6_needPlanned ∈ uU := uU_in 440 (by decide +kernel) (by decide +kernel)
theorem kw441 : Cond.static yX6_needPlanned ∈ uU := uU_in 441 (by decide +kernel) (by decide +kernel)
theorem kw442 : Cond.code yX6_needPlanned cX6_needPlanned 1 none ∈ uU := uU_in 442 (by decide +kernel) (by decide +kernel)
theorem kw444 : Cond.methodLink "FrostCalendar" 143 yX6_countBadHours ∈ uU := uU_in 444 (by decide +kernel) (by decide +kernel)
theorem kw446 : Cond.instanceMethod yX6_countBadHours ∈ uU := uU_in 446 (by decide +kernel) (by decide +kernel)
theorem kw447 : Cond.code yX6_countBadHours cX6_countBadHours 6 (some FieldType.int) ∈ uU := uU_in 447 (by decide +kernel) (by decide +kernel)
theorem kw448 : Cond.methodLink "FrostCalendar" 194 yX6_freezesAgainst ∈ uU := uU_in 448 (by decide +kernel) (by decide +kernel)
theorem kw450 : Cond.instanceMethod yX6_freezesAgainst ∈ uU := uU_in 450 (by decide +kernel) (by decide +kernel)
theorem kw451 : Cond.code yX6_freezesAgainst cX6_freezesAgainst 2 (some FieldType.int) ∈ uU := uU_in 451 (by decide +kernel) (by decide +kernel)
theorem kw452 : Cond.methodLink "FrostCalendar" 175 yX6_freezesTouchingChange ∈ uU := uU_in 452 (by decide +kernel) (by decide +kernel)
theorem kw454 : Cond.instanceMethod yX6_freezesTouchingChange ∈ uU := uU_in 454 (by decide +kernel) (by decide +kernel)
theorem kw455 : Cond.code yX6_freezesTouchingChange cX6_freezesTouchingChange 3 (some FieldType.int) ∈ uU := uU_in 455 (by decide +kernel) (by decide +kernel)
theorem kw456 : Cond.methodLink "FrostCalendar" 227 yX6_markBadHours ∈ uU := uU_in 456 (by decide +kernel) (by decide +kernel)
theorem kw458 : Cond.instanceMethod yX6_markBadHours ∈ uU := uU_in 458 (by decide +kernel) (by decide +kernel)
theorem kw459 : Cond.code yX6_markBadHours cX6_markBadHours 5 (some FieldType.int) ∈ uU := uU_in 459 (by decide +kernel) (by decide +kernel)
theorem kw460 : Cond.methodLink "FrostCalendarLaw" 30 yX6_approve ∈ uU := uU_in 460 (by decide +kernel) (by decide +kernel)
theorem kw461 : Cond.instanceMethod yX6_approve ∈ uU := uU_in 461 (by decide +kernel) (by decide +kernel)
theorem kw462 : Cond.selects "FrostCalendar" yX6_approve yX6_approve ∈ uU := uU_in 462 (by decide +kernel) (by decide +kernel)
theorem kw463 : Cond.code yX6_approve cX6_approve 3 (some FieldType.int) ∈ uU := uU_in 463 (by decide +kernel) (by decide +kernel)
theorem kw465 : Cond.methodLink "FrostCalendarLaw" 24 yX6_begin ∈ uU := uU_in 465 (by decide +kernel) (by decide +kernel)
theorem kw466 : Cond.instanceMethod yX6_begin ∈ uU := uU_in 466 (by decide +kernel) (by decide +kernel)
theorem kw467 : Cond.selects "FrostCalendar" yX6_begin yX6_begin ∈ uU := uU_in 467 (by decide +kernel) (by decide +kernel)
theorem kw468 : Cond.code yX6_begin cX6_begin 3 (some FieldType.int) ∈ uU := uU_in 468 (by decide +kernel) (by decide +kernel)
theorem kw471 : Cond.methodLink "FrostCalendar" 156 yX6_firstBadHour ∈ uU := uU_in 471 (by decide +kernel) (by decide +kernel)
theorem kw473 : Cond.instanceMethod yX6_firstBadHour ∈ uU := uU_in 473 (by decide +kernel) (by decide +kernel)
theorem kw474 : Cond.code yX6_firstBadHour cX6_firstBadHour 4 (some FieldType.int) ∈ uU := uU_in 474 (by decide +kernel) (by decide +kernel)
theorem kw475 : Cond.methodLink "FrostCalendar" 171 yX0_hourBehind ∈ uU := uU_in 475 (by decide +kernel) (by decide +kernel)
theorem kw476 : Cond.instanceMethod yX0_hourBehind ∈ uU := uU_in 476 (by decide +kernel) (by decide +kernel)
theorem kw477 : Cond.selects "FrostCalendar$Change" yX0_hourBehind yX0_hourBehind ∈ uU := uU_in 477 (by decide +kernel) (by decide +kernel)
theorem kw478 : Cond.code yX0_hourBehind cX0_hourBehind 1 (some FieldType.int) ∈ uU := uU_in 478 (by decide +kernel) (by decide +kernel)
theorem kw480 : Cond.methodLink "FrostCalendarLaw" 116 yX6_exceptions ∈ uU := uU_in 480 (by decide +kernel) (by decide +kernel)
theorem kw481 : Cond.instanceMethod yX6_exceptions ∈ uU := uU_in 481 (by decide +kernel) (by decide +kernel)
theorem kw482 : Cond.selects "FrostCalendar" yX6_exceptions yX6_exceptions ∈ uU := uU_in 482 (by decide +kernel) (by decide +kernel)
theorem kw483 : Cond.code yX6_exceptions cX6_exceptions 4 (some FieldType.int) ∈ uU := uU_in 483 (by decide +kernel) (by decide +kernel)
theorem kw484 : Cond.methodLink "FrostCalendarLaw" 119 yX6_left ∈ uU := uU_in 484 (by decide +kernel) (by decide +kernel)
theorem kw485 : Cond.instanceMethod yX6_left ∈ uU := uU_in 485 (by decide +kernel) (by decide +kernel)
theorem kw486 : Cond.selects "FrostCalendar" yX6_left yX6_left ∈ uU := uU_in 486 (by decide +kernel) (by decide +kernel)
theorem kw487 : Cond.code yX6_left cX6_left 2 (some FieldType.int) ∈ uU := uU_in 487 (by decide +kernel) (by decide +kernel)
theorem kw488 : Cond.methodLink "FrostCalendarLaw" 33 yX6_excuse ∈ uU := uU_in 488 (by decide +kernel) (by decide +kernel)
theorem kw489 : Cond.instanceMethod yX6_excuse ∈ uU := uU_in 489 (by decide +kernel) (by decide +kernel)
theorem kw490 : Cond.selects "FrostCalendar" yX6_excuse yX6_excuse ∈ uU := uU_in 490 (by decide +kernel) (by decide +kernel)
theorem kw491 : Cond.code yX6_excuse cX6_excuse 6 (some FieldType.int) ∈ uU := uU_in 491 (by decide +kernel) (by decide +kernel)
theorem kw494 : Cond.methodLink "FrostCalendar" 189 yX6_rankToSpend ∈ uU := uU_in 494 (by decide +kernel) (by decide +kernel)
theorem kw496 : Cond.instanceMethod yX6_rankToSpend ∈ uU := uU_in 496 (by decide +kernel) (by decide +kernel)
theorem kw497 : Cond.code yX6_rankToSpend cX6_rankToSpend 3 (some FieldType.int) ∈ uU := uU_in 497 (by decide +kernel) (by decide +kernel)
theorem kw499 : Cond.methodLink "FrostCalendarLaw" 80 yL_cell ∈ uU := uU_in 499 (by decide +kernel) (by decide +kernel)
theorem kw500 : Cond.static yL_cell ∈ uU := uU_in 500 (by decide +kernel) (by decide +kernel)
theorem kw501 : Cond.code yL_cell cL_cell 2 (some FieldType.int) ∈ uU := uU_in 501 (by decide +kernel) (by decide +kernel)
theorem kw504 : Cond.methodLink "FrostCalendarLaw" 84 yL_low ∈ uU := uU_in 504 (by decide +kernel) (by decide +kernel)
theorem kw505 : Cond.static yL_low ∈ uU := uU_in 505 (by decide +kernel) (by decide +kernel)
theorem kw506 : Cond.code yL_low cL_low 2 (some FieldType.int) ∈ uU := uU_in 506 (by decide +kernel) (by decide +kernel)
theorem kw508 : Cond.methodLink "FrostCalendarLaw" 20 yL_holds ∈ uU := uU_in 508 (by decide +kernel) (by decide +kernel)
theorem kw509 : Cond.static yL_holds ∈ uU := uU_in 509 (by decide +kernel) (by decide +kernel)
theorem kw510 : Cond.code yL_holds cL_holds 9 (some FieldType.boolean) ∈ uU := uU_in 510 (by decide +kernel) (by decide +kernel)
theorem kw511 : Cond.methodLink "FrostCalendarLaw" 10 yL_touches ∈ uU := uU_in 511 (by decide +kernel) (by decide +kernel)
theorem kw512 : Cond.static yL_touches ∈ uU := uU_in 512 (by decide +kernel) (by decide +kernel)
theorem kw513 : Cond.code yL_touches cL_touches 3 (some FieldType.boolean) ∈ uU := uU_in 513 (by decide +kernel) (by decide +kernel)
theorem kw514 : Cond.methodLink "FrostCalendarLaw" 16 yL_against ∈ uU := uU_in 514 (by decide +kernel) (by decide +kernel)
theorem kw515 : Cond.static yL_against ∈ uU := uU_in 515 (by decide +kernel) (by decide +kernel)
theorem kw516 : Cond.code yL_against cL_against 6 (some FieldType.boolean) ∈ uU := uU_in 516 (by decide +kernel) (by decide +kernel)
theorem kw517 : Cond.methodLink "FrostCalendarLaw" 57 yL_bad ∈ uU := uU_in 517 (by decide +kernel) (by decide +kernel)
theorem kw518 : Cond.static yL_bad ∈ uU := uU_in 518 (by decide +kernel) (by decide +kernel)
theorem kw519 : Cond.code yL_bad cL_bad 11 (some FieldType.int) ∈ uU := uU_in 519 (by decide +kernel) (by decide +kernel)
theorem kw520 : Cond.methodLink "FrostCalendarLaw" 109 yL_refused ∈ uU := uU_in 520 (by decide +kernel) (by decide +kernel)
theorem kw521 : Cond.static yL_refused ∈ uU := uU_in 521 (by decide +kernel) (by decide +kernel)
theorem kw522 : Cond.codeWith yL_refused cL_refused 5 (some FieldType.int) [(0, 86, 87, 49), (0, 86, 91, 51), (0, 86, 95, 53), (0, 86, 99, 55)] ∈ uU := uU_in 522 (by decide +kernel) (by decide +kernel)
theorem kw523 : Cond.classLink "FrostCalendarLaw" 49 "java/lang/IndexOutOfBoundsException" ∈ uU := uU_in 523 (by decide +kernel) (by decide +kernel)
theorem kw524 : Cond.classLink "FrostCalendarLaw" 51 "java/util/NoSuchElementException" ∈ uU := uU_in 524 (by decide +kernel) (by decide +kernel)
theorem kw525 : Cond.classLink "FrostCalendarLaw" 53 "java/lang/IllegalArgumentException" ∈ uU := uU_in 525 (by decide +kernel) (by decide +kernel)
theorem kw526 : Cond.classLink "FrostCalendarLaw" 55 "java/lang/IllegalStateException" ∈ uU := uU_in 526 (by decide +kernel) (by decide +kernel)
theorem kw527 : Cond.methodLink "FrostCalendarLaw" 128 yL_change ∈ uU := uU_in 527 (by decide +kernel) (by decide +kernel)
theorem kw528 : Cond.static yL_change ∈ uU := uU_in 528 (by decide +kernel) (by decide +kernel)
theorem kw529 : Cond.code yL_change cL_change 13 (some FieldType.boolean) ∈ uU := uU_in 529 (by decide +kernel) (by decide +kernel)
theorem kw530 : Cond.methodLink "FrostCalendarLaw" 61 yX6_badHours ∈ uU := uU_in 530 (by decide +kernel) (by decide +kernel)
theorem kw531 : Cond.instanceMethod yX6_badHours ∈ uU := uU_in 531 (by decide +kernel) (by decide +kernel)
theorem kw532 : Cond.selects "FrostCalendar" yX6_badHours yX6_badHours ∈ uU := uU_in 532 (by decide +kernel) (by decide +kernel)
theorem kw533 : Cond.code yX6_badHours cX6_badHours 2 (some FieldType.int) ∈ uU := uU_in 533 (by decide +kernel) (by decide +kernel)
theorem kw534 : Cond.methodLink "FrostCalendarLaw" 64 yX6_badHoursOneByOne ∈ uU := uU_in 534 (by decide +kernel) (by decide +kernel)
theorem kw535 : Cond.instanceMethod yX6_badHoursOneByOne ∈ uU := uU_in 535 (by decide +kernel) (by decide +kernel)
theorem kw536 : Cond.selects "FrostCalendar" yX6_badHoursOneByOne yX6_badHoursOneByOne ∈ uU := uU_in 536 (by decide +kernel) (by decide +kernel)
theorem kw537 : Cond.code yX6_badHoursOneByOne cX6_badHoursOneByOne 6 (some FieldType.int) ∈ uU := uU_in 537 (by decide +kernel) (by decide +kernel)
theorem kw538 : Cond.methodLink "FrostCalendarLaw" 67 yX6_reasons ∈ uU := uU_in 538 (by decide +kernel) (by decide +kernel)
theorem kw539 : Cond.instanceMethod yX6_reasons ∈ uU := uU_in 539 (by decide +kernel) (by decide +kernel)
theorem kw540 : Cond.selects "FrostCalendar" yX6_reasons yX6_reasons ∈ uU := uU_in 540 (by decide +kernel) (by decide +kernel)
theorem kw541 : Cond.code yX6_reasons cX6_reasons 6 (some FieldType.int) ∈ uU := uU_in 541 (by decide +kernel) (by decide +kernel)
theorem kw542 : Cond.methodLink "FrostCalendarLaw" 70 yX6_firstBad ∈ uU := uU_in 542 (by decide +kernel) (by decide +kernel)
theorem kw543 : Cond.instanceMethod yX6_firstBad ∈ uU := uU_in 543 (by decide +kernel) (by decide +kernel)
theorem kw544 : Cond.selects "FrostCalendar" yX6_firstBad yX6_firstBad ∈ uU := uU_in 544 (by decide +kernel) (by decide +kernel)
theorem kw545 : Cond.code yX6_firstBad cX6_firstBad 2 (some FieldType.int) ∈ uU := uU_in 545 (by decide +kernel) (by decide +kernel)
theorem kw546 : Cond.methodLink "FrostCalendarLaw" 73 yX6_state ∈ uU := uU_in 546 (by decide +kernel) (by decide +kernel)
theorem kw547 : Cond.instanceMethod yX6_state ∈ uU := uU_in 547 (by decide +kernel) (by decide +kernel)
theorem kw548 : Cond.selects "FrostCalendar" yX6_state yX6_state ∈ uU := uU_in 548 (by decide +kernel) (by decide +kernel)
theorem kw549 : Cond.code yX6_state cX6_state 3 (some FieldType.int) ∈ uU := uU_in 549 (by decide +kernel) (by decide +kernel)
theorem kw550 : Cond.methodLink "FrostCalendarLaw" 76 yX6_approved ∈ uU := uU_in 550 (by decide +kernel) (by decide +kernel)
theorem kw551 : Cond.instanceMethod yX6_approved ∈ uU := uU_in 551 (by decide +kernel) (by decide +kernel)
theorem kw552 : Cond.selects "FrostCalendar" yX6_approved yX6_approved ∈ uU := uU_in 552 (by decide +kernel) (by decide +kernel)
theorem kw553 : Cond.code yX6_approved cX6_approved 2 (some FieldType.int) ∈ uU := uU_in 553 (by decide +kernel) (by decide +kernel)
theorem kw554 : Cond.sameMethod "java/lang/Throwable" "java/lang/Throwable" "fillInStackTrace" "(I)Ljava/lang/Throwable;" ∈ uU := uU_in 554 (by decide +kernel) (by decide +kernel)
theorem inU0 : ∀ w ∈ u_ws RX0 TX0 8, w ∈ uU := by decide +kernel
theorem inU2 : ∀ w ∈ u_ws RX2 TX2 5, w ∈ uU := by decide +kernel
theorem inU3 : ∀ w ∈ u_ws RX3 TX3 3, w ∈ uU := by decide +kernel
theorem inU4 : ∀ w ∈ u_ws RX4 TX4 4, w ∈ uU := by decide +kernel
theorem inU5 : ∀ w ∈ u_ws RX5 TX5 2, w ∈ uU := by decide +kernel
theorem inU6 : ∀ w ∈ u_ws RX6 TX6 11, w ∈ uU := by decide +kernel
end
section
theorem lkX6_43 : ro_L "FrostCalendar" 43 yX6_needScope cX6_needScope 2 none 1 := ⟨kw102, kw99, kw17, by decide +kernel, by decide +kernel, by decide +kernel⟩
theorem lkX6_54 : ro_L "FrostCalendar" 54 yX6_needLand cX6_needLand 3 (some (FieldType.object "FrostCalendar$Land")) 1 := ⟨kw195, kw192, kw17, by decide +kernel, by decide +kernel, by decide +kernel⟩
theorem lkX6_58 : ro_L "FrostCalendar" 58 yX6_needRange cX6_needRange 3 none 3 := ⟨kw199, kw197, kw17, by decide +kernel, by decide +kernel, by decide +kernel⟩
theorem lkX6_65 : ro_L "FrostCalendar" 65 yX5_turnFeastDay cX5_turnFeastDay 2 none 1 := ⟨kw223, kw220, kw18, by decide +kernel, by decide +kernel, by decide +kernel⟩
theorem lkX6_68 : ro_L "FrostCalendar" 68 yX5_isFeastDay cX5_isFeastDay 2 (some FieldType.boolean) 1 := ⟨kw227, kw224, kw18, by decide +kernel, by decide +kernel, by decide +kernel⟩
theorem lkX6_77 : ro_L "FrostCalendar" 77 yX6_needRoomForFreeze cX6_needRoomForFreeze 1 none 0 := ⟨kw247, kw244, kw17, by decide +kernel, by decide +kernel, by decide +kernel⟩
theorem lkX6_82 : ro_L "FrostCalendar" 82 yX4_init cX4_init 5 none 4 := ⟨kw253, kw251, kw26, by decide +kernel, by decide +kernel, by decide +kernel⟩
theorem lkX6_85 : ro_L "FrostCalendar" 85 yX6_lay cX6_lay 3 (some FieldType.int) 1 := ⟨kw276, kw273, kw17, by decide +kernel, by decide +kernel, by decide +kernel⟩
theorem lkX6_91 : ro_L "FrostCalendar" 91 yX2_init cX2_init 6 none 5 := ⟨kw285, kw283, kw27, by decide +kernel, by decide +kernel, by decide +kernel⟩
theorem lkX6_96 : ro_L "FrostCalendar" 96 yX3_init cX3_init 4 none 3 := ⟨kw307, kw305, kw28, by decide +kernel, by decide +kernel, by decide +kernel⟩
theorem lkX6_99 : ro_L "FrostCalendar" 99 yX6_needFreeze cX6_needFreeze 3 (some (FieldType.object "FrostCalendar$Freeze")) 1 := ⟨kw322, kw319, kw17, by decide +kernel, by decide +kernel, by decide +kernel⟩
theorem lkX6_106 : ro_L "FrostCalendar" 106 yX6_freezesTouchingScope cX6_freezesTouchingScope 5 (some FieldType.int) 1 := ⟨kw346, kw343, kw17, by decide +kernel, by decide +kernel, by decide +kernel⟩
theorem lkX6_110 : ro_L "FrostCalendar" 110 yX6_holdingAmong cX6_holdingAmong 6 (some FieldType.int) 2 := ⟨kw355, kw352, kw17, by decide +kernel, by decide +kernel, by decide +kernel⟩
theorem lkX6_122 : ro_L "FrostCalendar" 122 yX0_init cX0_init 5 none 4 := ⟨kw399, kw397, kw31, by decide +kernel, by decide +kernel, by decide +kernel⟩
theorem lkX6_123 : ro_L "FrostCalendar" 123 yX6_needChange cX6_needChange 3 (some (FieldType.object "FrostCalendar$Change")) 1 := ⟨kw438, kw435, kw17, by decide +kernel, by decide +kernel, by decide +kernel⟩
theorem lkX6_130 : ro_L "FrostCalendar" 130 yX6_needPlanned cX6_needPlanned 1 none 1 := ⟨kw442, kw440, kw17, by decide +kernel, by decide +kernel, by decide +kernel⟩
theorem lkX6_143 : ro_L "FrostCalendar" 143 yX6_countBadHours cX6_countBadHours 6 (some FieldType.int) 1 := ⟨kw447, kw444, kw17, by decide +kernel, by decide +kernel, by decide +kernel⟩
theorem lkX6_156 : ro_L "FrostCalendar" 156 yX6_firstBadHour cX6_firstBadHour 4 (some FieldType.int) 1 := ⟨kw474, kw471, kw17, by decide +kernel, by decide +kernel, by decide +kernel⟩
theorem lkX6_171 : ro_L "FrostCalendar" 171 yX0_hourBehind cX0_hourBehind 1 (some FieldType.int) 0 := ⟨kw478, kw475, kw31, by decide +kernel, by decide +kernel, by decide +kernel⟩
theorem lkX6_175 : ro_L "FrostCalendar" 175 yX6_freezesTouchingChange cX6_freezesTouchingChange 3 (some FieldType.int) 1 := ⟨kw455, kw452, kw17, by decide +kernel, by decide +kernel, by decide +kernel⟩
theorem lkX6_178 : ro_L "FrostCalendar" 178 yX6_isInSet cX6_isInSet 2 (some FieldType.boolean) 2 := ⟨kw230, kw351, kw17, by decide +kernel, by decide +kernel, by decide +kernel⟩
theorem lkX6_189 : ro_L "FrostCalendar" 189 yX6_rankToSpend cX6_rankToSpend 3 (some FieldType.int) 1 := ⟨kw497, kw494, kw17, by decide +kernel, by decide +kernel, by decide +kernel⟩
theorem lkX6_194 : ro_L "FrostCalendar" 194 yX6_freezesAgainst cX6_freezesAgainst 2 (some FieldType.int) 1 := ⟨kw451, kw448, kw17, by decide +kernel, by decide +kernel, by decide +kernel⟩
theorem lkX6_223 : ro_L "FrostCalendar" 223 yX6_isOneInTheOther cX6_isOneInTheOther 3 (some FieldType.boolean) 2 := ⟨kw350, kw347, kw17, by decide +kernel, by decide +kernel, by decide +kernel⟩
theorem lkX6_227 : ro_L "FrostCalendar" 227 yX6_markBadHours cX6_markBadHours 5 (some FieldType.int) 2 := ⟨kw459, kw456, kw17, by decide +kernel, by decide +kernel, by decide +kernel⟩
theorem lkX2_1 : ro_L "FrostCalendar$FreezeDaily" 1 yX1_init cX1_init 3 none 2 := ⟨kw256, kw286, kw25, by decide +kernel, by decide +kernel, by decide +kernel⟩
theorem lkX2_20 : ro_L "FrostCalendar$FreezeDaily" 20 yX5_hourOfDay cX5_hourOfDay 2 (some FieldType.int) 1 := ⟨kw365, kw362, kw18, by decide +kernel, by decide +kernel, by decide +kernel⟩
theorem lkX3_1 : ro_L "FrostCalendar$FreezeOnFeasts" 1 yX1_init cX1_init 3 none 2 := ⟨kw256, kw308, kw25, by decide +kernel, by decide +kernel, by decide +kernel⟩
theorem lkX3_13 : ro_L "FrostCalendar$FreezeOnFeasts" 13 yX5_dayOf cX5_dayOf 2 (some FieldType.int) 1 := ⟨kw375, kw372, kw18, by decide +kernel, by decide +kernel, by decide +kernel⟩
theorem lkX3_19 : ro_L "FrostCalendar$FreezeOnFeasts" 19 yX5_isFeastDay cX5_isFeastDay 2 (some FieldType.boolean) 1 := ⟨kw227, kw379, kw18, by decide +kernel, by decide +kernel, by decide +kernel⟩
theorem lkX4_1 : ro_L "FrostCalendar$FreezeOnce" 1 yX1_init cX1_init 3 none 2 := ⟨kw256, kw254, kw25, by decide +kernel, by decide +kernel, by decide +kernel⟩
theorem lkX5_15 : ro_L "FrostCalendar$Land" 15 yJ9_floorMod_7cf53 cJ9_floorMod_7cf53 3 (some FieldType.int) 2 := ⟨kw368, kw366, kw30, by decide +kernel, by decide +kernel, by decide +kernel⟩
theorem lkX5_21 : ro_L "FrostCalendar$Land" 21 yJ9_floorDiv_7cf53 cJ9_floorDiv_7cf53 3 (some FieldType.int) 2 := ⟨kw378, kw376, kw30, by decide +kernel, by decide +kernel, by decide +kernel⟩
theorem lkL_10 : ro_L "FrostCalendarLaw" 10 yL_touches cL_touches 3 (some FieldType.boolean) 3 := ⟨kw513, kw511, kw16, by decide +kernel, by decide +kernel, by decide +kernel⟩
theorem lkL_16 : ro_L "FrostCalendarLaw" 16 yL_against cL_against 6 (some FieldType.boolean) 5 := ⟨kw516, kw514, kw16, by decide +kernel, by decide +kernel, by decide +kernel⟩
theorem lkL_20 : ro_L "FrostCalendarLaw" 20 yL_holds cL_holds 9 (some FieldType.boolean) 5 := ⟨kw510, kw508, kw16, by decide +kernel, by decide +kernel, by decide +kernel⟩
theorem lkL_24 : ro_L "FrostCalendarLaw" 24 yX6_begin cX6_begin 3 (some FieldType.int) 1 := ⟨kw468, kw465, kw17, by decide +kernel, by decide +kernel, by decide +kernel⟩
theorem lkL_30 : ro_L "FrostCalendarLaw" 30 yX6_approve cX6_approve 3 (some FieldType.int) 1 := ⟨kw463, kw460, kw17, by decide +kernel, by decide +kernel, by decide +kernel⟩
theorem lkL_33 : ro_L "FrostCalendarLaw" 33 yX6_excuse cX6_excuse 6 (some FieldType.int) 2 := ⟨kw491, kw488, kw17, by decide +kernel, by decide +kernel, by decide +kernel⟩
theorem lkL_37 : ro_L "FrostCalendarLaw" 37 yX6_lift cX6_lift 2 (some FieldType.int) 1 := ⟨kw318, kw315, kw17, by decide +kernel, by decide +kernel, by decide +kernel⟩
theorem lkL_40 : ro_L "FrostCalendarLaw" 40 yX6_move cX6_move 4 (some FieldType.int) 2 := ⟨kw434, kw431, kw17, by decide +kernel, by decide +kernel, by decide +kernel⟩
theorem lkL_43 : ro_L "FrostCalendarLaw" 43 yX6_pass cX6_pass 2 (some FieldType.int) 1 := ⟨kw234, kw231, kw17, by decide +kernel, by decide +kernel, by decide +kernel⟩
theorem lkL_46 : ro_L "FrostCalendarLaw" 46 yX6_hours cX6_hours 5 (some FieldType.int) 1 := ⟨kw386, kw383, kw17, by decide +kernel, by decide +kernel, by decide +kernel⟩
theorem lkL_57 : ro_L "FrostCalendarLaw" 57 yL_bad cL_bad 11 (some FieldType.int) 7 := ⟨kw519, kw517, kw16, by decide +kernel, by decide +kernel, by decide +kernel⟩
theorem lkL_61 : ro_L "FrostCalendarLaw" 61 yX6_badHours cX6_badHours 2 (some FieldType.int) 1 := ⟨kw533, kw530, kw17, by decide +kernel, by decide +kernel, by decide +kernel⟩
theorem lkL_64 : ro_L "FrostCalendarLaw" 64 yX6_badHoursOneByOne cX6_badHoursOneByOne 6 (some FieldType.int) 1 := ⟨kw537, kw534, kw17, by decide +kernel, by decide +kernel, by decide +kernel⟩
theorem lkL_67 : ro_L "FrostCalendarLaw" 67 yX6_reasons cX6_reasons 6 (some FieldType.int) 1 := ⟨kw541, kw538, kw17, by decide +kernel, by decide +kernel, by decide +kernel⟩
theorem lkL_70 : ro_L "FrostCalendarLaw" 70 yX6_firstBad cX6_firstBad 2 (some FieldType.int) 1 := ⟨kw545, kw542, kw17, by decide +kernel, by decide +kernel, by decide +kernel⟩
theorem lkL_73 : ro_L "FrostCalendarLaw" 73 yX6_state cX6_state 3 (some FieldType.int) 1 := ⟨kw549, kw546, kw17, by decide +kernel, by decide +kernel, by decide +kernel⟩
theorem lkL_76 : ro_L "FrostCalendarLaw" 76 yX6_approved cX6_approved 2 (some FieldType.int) 1 := ⟨kw553, kw550, kw17, by decide +kernel, by decide +kernel, by decide +kernel⟩
theorem lkL_79 : ro_L "FrostCalendarLaw" 79 yX6_init cX6_init 2 none 0 := ⟨kw36, kw34, kw17, by decide +kernel, by decide +kernel, by decide +kernel⟩
theorem lkL_80 : ro_L "FrostCalendarLaw" 80 yL_cell cL_cell 2 (some FieldType.int) 2 := ⟨kw501, kw499, kw16, by decide +kernel, by decide +kernel, by decide +kernel⟩
theorem lkL_84 : ro_L "FrostCalendarLaw" 84 yL_low cL_low 2 (some FieldType.int) 2 := ⟨kw506, kw504, kw16, by decide +kernel, by decide +kernel, by decide +kernel⟩
theorem lkL_87 : ro_L "FrostCalendarLaw" 87 yX6_scope cX6_scope 3 (some FieldType.int) 1 := ⟨kw98, kw95, kw17, by decide +kernel, by decide +kernel, by decide +kernel⟩
theorem lkL_90 : ro_L "FrostCalendarLaw" 90 yX6_offset cX6_offset 5 (some FieldType.int) 2 := ⟨kw191, kw188, kw17, by decide +kernel, by decide +kernel, by decide +kernel⟩
theorem lkL_93 : ro_L "FrostCalendarLaw" 93 yX6_feast cX6_feast 4 (some FieldType.boolean) 2 := ⟨kw219, kw216, kw17, by decide +kernel, by decide +kernel, by decide +kernel⟩
theorem lkL_97 : ro_L "FrostCalendarLaw" 97 yX6_once cX6_once 5 (some FieldType.int) 4 := ⟨kw243, kw240, kw17, by decide +kernel, by decide +kernel, by decide +kernel⟩
theorem lkL_101 : ro_L "FrostCalendarLaw" 101 yX6_daily cX6_daily 7 (some FieldType.int) 5 := ⟨kw280, kw277, kw17, by decide +kernel, by decide +kernel, by decide +kernel⟩
theorem lkL_105 : ro_L "FrostCalendarLaw" 105 yX6_feasts cX6_feasts 5 (some FieldType.int) 3 := ⟨kw302, kw299, kw17, by decide +kernel, by decide +kernel, by decide +kernel⟩
theorem lkL_113 : ro_L "FrostCalendarLaw" 113 yX6_plan cX6_plan 6 (some FieldType.int) 4 := ⟨kw394, kw391, kw17, by decide +kernel, by decide +kernel, by decide +kernel⟩
theorem lkL_116 : ro_L "FrostCalendarLaw" 116 yX6_exceptions cX6_exceptions 4 (some FieldType.int) 2 := ⟨kw483, kw480, kw17, by decide +kernel, by decide +kernel, by decide +kernel⟩
theorem lkL_119 : ro_L "FrostCalendarLaw" 119 yX6_left cX6_left 2 (some FieldType.int) 1 := ⟨kw487, kw484, kw17, by decide +kernel, by decide +kernel, by decide +kernel⟩
theorem lkL_122 : ro_L "FrostCalendarLaw" 122 yX6_nextSpan cX6_nextSpan 7 (some FieldType.int) 3 := ⟨kw390, kw387, kw17, by decide +kernel, by decide +kernel, by decide +kernel⟩
theorem lkL_125 : ro_L "FrostCalendarLaw" 125 yX6_holding cX6_holding 3 (some FieldType.int) 2 := ⟨kw342, kw339, kw17, by decide +kernel, by decide +kernel, by decide +kernel⟩
theorem lkL_128 : ro_L "FrostCalendarLaw" 128 yL_change cL_change 13 (some FieldType.boolean) 8 := ⟨kw529, kw527, kw16, by decide +kernel, by decide +kernel, by decide +kernel⟩
theorem lkL_132 : ro_L "FrostCalendarLaw" 132 yX6_now cX6_now 1 (some FieldType.int) 0 := ⟨kw239, kw236, kw17, by decide +kernel, by decide +kernel, by decide +kernel⟩
theorem th_199 : ro_TH 197 199 201 "java/lang/IndexOutOfBoundsException" "no such scope" := ⟨by decide +kernel, kw103, kw22, by decide +kernel, by decide +kernel, by decide +kernel, by decide +kernel, by decide +kernel⟩
theorem th_202 : ro_TH 197 202 201 "java/lang/IndexOutOfBoundsException" "no such land" := ⟨by decide +kernel, kw103, kw22, by decide +kernel, by decide +kernel, by decide +kernel, by decide +kernel, by decide +kernel⟩
theorem th_209 : ro_TH 197 209 201 "java/lang/IndexOutOfBoundsException" "no such change" := ⟨by decide +kernel, kw103, kw22, by decide +kernel, by decide +kernel, by decide +kernel, by decide +kernel, by decide +kernel⟩
theorem th_206 : ro_TN 204 206 208 "no such freeze any more" := ⟨kw323, kw29, by decide +kernel, by decide +kernel, by decide +kernel, by decide +kernel, by decide +kernel⟩
theorem th_213 : ro_TH 211 213 215 "java/lang/IllegalArgumentException" "out of its range" := ⟨by decide +kernel, kw200, kw24, by decide +kernel, by decide +kernel, by decide +kernel, by decide +kernel, by decide +kernel⟩
theorem th_120 : ro_TH 47 120 51 "java/lang/IllegalStateException" "there are 30 changes" := ⟨by decide +kernel, kw172, kw23, by decide +kernel, by decide +kernel, by decide +kernel, by decide +kernel, by decide +kernel⟩
theorem th_150 : ro_TH 47 150 51 "java/lang/IllegalStateException" "the change is approved up to its risk" := ⟨by decide +kernel, kw172, kw23, by decide +kernel, by decide +kernel, by decide +kernel, by decide +kernel, by decide +kernel⟩
theorem th_152 : ro_TH 47 152 51 "java/lang/IllegalStateException" "now is not the first hour of the change" := ⟨by decide +kernel, kw172, kw23, by decide +kernel, by decide +kernel, by decide +kernel, by decide +kernel, by decide +kernel⟩
theorem th_154 : ro_TH 47 154 51 "java/lang/IllegalStateException" "the change is not approved up to its risk" := ⟨by decide +kernel, kw172, kw23, by decide +kernel, by decide +kernel, by decide +kernel, by decide +kernel, by decide +kernel⟩
theorem th_159 : ro_TH 47 159 51 "java/lang/IllegalStateException" "the change is not let through" := ⟨by decide +kernel, kw172, kw23, by decide +kernel, by decide +kernel, by decide +kernel, by decide +kernel, by decide +kernel⟩
theorem th_182 : ro_TH 47 182 51 "java/lang/IllegalStateException" "the freeze does not touch the change" := ⟨by decide +kernel, kw172, kw23, by decide +kernel, by decide +kernel, by decide +kernel, by decide +kernel, by decide +kernel⟩
theorem th_184 : ro_TH 47 184 51 "java/lang/IllegalStateException" "the change is excused from the freeze already" := ⟨by decide +kernel, kw172, kw23, by decide +kernel, by decide +kernel, by decide +kernel, by decide +kernel, by decide +kernel⟩
theorem th_192 : ro_TH 47 192 51 "java/lang/IllegalStateException" "there is no exception that could be spent" := ⟨by decide +kernel, kw172, kw23, by decide +kernel, by decide +kernel, by decide +kernel, by decide +kernel, by decide +kernel⟩
theorem th_216 : ro_TH 47 216 51 "java/lang/IllegalStateException" "the change is not PLANNED" := ⟨by decide +kernel, kw172, kw23, by decide +kernel, by decide +kernel, by decide +kernel, by decide +kernel, by decide +kernel⟩
theorem th_218 : ro_TH 47 218 51 "java/lang/IllegalStateException" "20 freezes were laid" := ⟨by decide +kernel, kw172, kw23, by decide +kernel, by decide +kernel, by decide +kernel, by decide +kernel, by decide +kernel⟩
theorem th_49 : ro_TH 47 49 51 "java/lang/IllegalStateException" "there are 16 scopes" := ⟨by decide +kernel, kw172, kw23, by decide +kernel, by decide +kernel, by decide +kernel, by decide +kernel, by decide +kernel⟩
theorem th_75 : ro_TH 47 75 51 "java/lang/IllegalStateException" "now would be above 671" := ⟨by decide +kernel, kw172, kw23, by decide +kernel, by decide +kernel, by decide +kernel, by decide +kernel, by decide +kernel⟩
theorem lnX6_42 : ro_LN "FrostCalendar" 42 yX5_init "FrostCalendar" cX5_init 1 none 0 := ⟨kw49, by decide +kernel, kw18, by decide +kernel, by decide +kernel, by decide +kernel⟩
theorem lnX5_27 : ro_LN "FrostCalendar$Land" 27 yX6_isInSet "FrostCalendar" cX6_isInSet 2 (some FieldType.boolean) 2 := ⟨kw230, by decide +kernel, kw17, by decide +kernel, by decide +kernel, by decide +kernel⟩
end
section
abbrev Tau : Type := Nat → Nat → Int32
/-- a truth as an int -/
def bI (q : Prop) [Decidable q] : Int32 := if q then 1 else 0
theorem bI_t {q : Prop} [Decidable q] (h : q) : bI q = 1 := if_pos h
theorem bI_f {q : Prop} [Decidable q] (h : ¬ q) : bI q = 0 := if_neg h
theorem bI_0 {q : Prop} [Decidable q] : bI q = 0 ↔ ¬ q := by unfold bI; split <;> simp_all
theorem bI_n0 {q : Prop} [Decidable q] : ¬ bI q = 0 ↔ q := by unfold bI; split <;> simp_all
theorem bI_1 {q : Prop} [Decidable q] : bI q = 1 ↔ q := by unfold bI; split <;> simp_all
theorem bI_nar {q : Prop} [Decidable q] : narrow .boolean (.int (bI q)) = .int (bI q) := by unfold bI; split <;> rfl
theorem bI_vnar {q : Prop} [Decidable q] : vp_nar .boolean (bI q) = bI q := by unfold bI; split <;> rfl
theorem bI_cong {q r : Prop} [Decidable q] [Decidable r] (h : q ↔ r) : bI q = bI r := by unfold bI; simp only [h]
theorem nI_ex {x : Int32} {n : Nat} (h0 : 0 ≤ x) (h1 : x < nI n) (hn : n < 2 ^ 31) : ∃ k, k < n ∧ x = nI k := by
  rcases pk_ix x (n := n) hn with h | h | h
  · exact absurd h0 (by lia)
  · exact absurd h1 (by lia)
  · exact h
/-- an upward loop -/
theorem ro_loop (N : Nat) (P : Nat → Prop) (hend : P N) (hstep : ∀ i, i < N → P (i + 1) → P i) : ∀ i, i ≤ N → P i := by
  intro i hi
  obtain ⟨d, hd⟩ : ∃ d, N = i + d := ⟨N - i, by omega⟩
  induction d generalizing i with
  | zero => subst hd; exact hend
  | succ d ih => exact hstep i (by omega) (ih (i + 1) (by omega) (by omega))
end
section
/-! what each call answers and does, in numbers -/
abbrev t0 (τ : Tau) (k : Nat) (v : Int32) : Tau := va_up τ 0 (upd (τ 0) k v)
abbrev ti (τ : Tau) (i k : Nat) (v : Int32) : Tau := va_up τ i (upd (τ i) k v)
abbrev cx (a : Int32) : Nat := a.toNatClampNeg
abbrev okS (τ : Tau) (a : Int32) : Prop := 0 ≤ a ∧ a ≤ τ 0 1 - 1
abbrev okL (a : Int32) : Prop := 0 ≤ a ∧ a ≤ 3
abbrev okC (τ : Tau) (a : Int32) : Prop := 0 ≤ a ∧ a ≤ τ 0 3 - 1
abbrev okN (τ : Tau) (a : Int32) : Prop := 0 ≤ a ∧ a ≤ τ 0 2 - 1
abbrev okF (τ : Tau) (a : Int32) : Prop := (0 ≤ a ∧ a ≤ τ 0 2 - 1) ∧ τ 4 (cx a) = 0
abbrev okP (τ : Tau) (f n : Int32) : Prop := τ 0 0 ≤ f ∧ f < 672 ∧ f + n ≤ 672
/-- the bits k below n of which p is true -/
def mk (p : Nat → Bool) : Nat → Int32
  | 0 => 0
  | n + 1 => mk p n ||| (if p n = true then 1 <<< (nI n &&& 31) else 0)
def ct (p : Nat → Bool) : Nat → Nat
  | 0 => 0
  | n + 1 => ct p n + (if p n = true then 1 else 0)
/-- the bits that any of n sets has -/
def orr (f : Nat → Int32) : Nat → Int32
  | 0 => 0
  | n + 1 => orr f n ||| f n
/-- the first of n (from i on) of which p is true, if there is one -/
def fst1 (p : Nat → Bool) : Nat → Nat → Option Nat
  | 0, _ => none
  | n + 1, i => if p i = true then some i else fst1 p n (i + 1)
/-- whether b is a or above a: the tree par, n steps at most -/
def bel (par : Nat → Int32) : Nat → Nat → Nat → Bool
  | 0, _, _ => false
  | n + 1, a, b => a == b || (!(par a == -1) && bel par n (cx (par a)) b)
def touS (τ : Tau) (k : Nat) (s : Int32) : Bool := bel (τ 1) 16 (cx s) (cx (τ 6 k)) || bel (τ 1) 16 (cx (τ 6 k)) (cx s)
def thr (τ : Tau) (k : Nat) (h : Int32) : Int32 := h + τ 2 (cx (τ 7 k)) + 24
def hoB (τ : Tau) (k : Nat) (h : Int32) : Bool :=
  if τ 5 k = 0 then decide (τ 8 k ≤ h ∧ h < τ 9 k)
  else if ¬ τ 5 k = 1 then !(τ 3 (cx (30 * τ 7 k + thr τ k h / 24)) == 0)
  else decide (τ 8 k = τ 9 k ∨ (τ 8 k < τ 9 k ∧ τ 8 k ≤ thr τ k h - thr τ k h / 24 * 24 ∧ thr τ k h - thr τ k h / 24 * 24 < τ 9 k) ∨ (¬ τ 8 k < τ 9 k ∧ (τ 8 k ≤ thr τ k h - thr τ k h / 24 * 24 ∨ thr τ k h - thr τ k h / 24 * 24 < τ 9 k)))
/-- the freezes that touch a scope and hold in an hour -/
def hoS (τ : Tau) (s h : Int32) : Int32 := mk (fun k => τ 4 k == 0 && touS τ k s && hoB τ k h) (cx (τ 0 2))
def exB (τ : Tau) (c k : Nat) : Bool := (τ 16 c >>> (nI k &&& 31)) &&& 1 == 1
def tch (τ : Tau) (k c : Nat) : Bool := τ 4 k == 0 && !(!(τ 17 c == -1) && decide (τ 17 c ≤ nI k)) && touS τ k (τ 11 c)
def agn (τ : Tau) (c : Nat) (h : Int32) : Int32 := mk (fun k => !exB τ c k && tch τ k c && hoB τ k h) (cx (τ 0 2))
def badB (τ : Tau) (c : Nat) (j : Nat) : Bool := !(agn τ c (τ 12 c + nI j) == 0)
def badN (τ : Tau) (c : Nat) : Nat := ct (badB τ c) (cx (τ 13 c))
def nsp (fr : Nat → Bool) (many : Int32) : Nat → Nat → Int32 → Int32
  | 0, _, _ => -1
  | n + 1, h, o => if (if fr h = true then o + 1 else 0) = many then nI h - many + 1 else nsp fr many n (h + 1) (if fr h = true then o + 1 else 0)
def rkS (ex : Nat → Int32) : Nat → Nat → Nat
  | 0, r => r
  | n + 1, r => if r < 4 ∧ ex r = 0 then rkS ex n (r + 1) else r
def th_scope (τ : Tau) (a : Int32) : Int32 := if ¬ okS τ a then 1 else if τ 0 1 = 16 then 2 else 0
def nx_scope (τ : Tau) (a : Int32) : Tau := t0 (ti τ 1 (cx (τ 0 1)) a) 1 (τ 0 1 + 1)
def rt_scope (τ : Tau) (_ : Int32) : Int32 := τ 0 1
def th_offset (_ : Tau) (a b : Int32) : Int32 := if ¬ okL a then 1 else if -11 ≤ b ∧ b ≤ 12 then 0 else 2
def nx_offset (τ : Tau) (a b : Int32) : Tau := ti τ 2 (cx a) b
def rt_offset (τ : Tau) (a _ : Int32) : Int32 := τ 2 (cx a)
def th_feast (_ : Tau) (a d : Int32) : Int32 := if ¬ okL a then 1 else if -1 ≤ d ∧ d ≤ 28 then 0 else 2
abbrev ixF (a d : Int32) : Nat := cx (30 * a + d + 1)
def nx_feast (τ : Tau) (a d : Int32) : Tau := ti τ 3 (ixF a d) (bI (τ 3 (ixF a d) = 0))
def rt_feast (τ : Tau) (a d : Int32) : Int32 := bI (τ 3 (ixF a d) = 0)
def th_pass (τ : Tau) (h : Int32) : Int32 := if ¬ (1 ≤ h ∧ h ≤ 100) then 1 else if 672 ≤ τ 0 0 + h then 2 else 0
def nx_pass (τ : Tau) (h : Int32) : Tau := t0 τ 0 (τ 0 0 + h)
def rt_pass (τ : Tau) (h : Int32) : Int32 := τ 0 0 + h
def nx_lays (τ : Tau) (how s d one two rank : Int32) : Tau := t0 (ti (ti (ti (ti (ti (ti τ 5 (cx (τ 0 2)) how) 6 (cx (τ 0 2)) s) 7 (cx (τ 0 2)) d) 8 (cx (τ 0 2)) one) 9 (cx (τ 0 2)) two) 10 (cx (τ 0 2)) rank) 2 (τ 0 2 + 1)
def th_once (τ : Tau) (s f t r : Int32) : Int32 := if ¬ okS τ s then 1 else if ¬ ((0 ≤ f ∧ f ≤ 671) ∧ f < t ∧ t ≤ 672 ∧ (1 ≤ r ∧ r ≤ 3)) then 2 else if τ 0 2 = 20 then 3 else 0
def nx_once (τ : Tau) (s f t r : Int32) : Tau := nx_lays τ 0 s 0 f t r
def rt_once (τ : Tau) (_ _ _ _ : Int32) : Int32 := τ 0 2
def th_daily (τ : Tau) (s d f t r : Int32) : Int32 := if ¬ okS τ s ∨ ¬ okL d then 1 else if ¬ ((0 ≤ f ∧ f ≤ 23) ∧ (0 ≤ t ∧ t ≤ 23) ∧ (1 ≤ r ∧ r ≤ 3)) then 2 else if τ 0 2 = 20 then 3 else 0
def nx_daily (τ : Tau) (s d f t r : Int32) : Tau := nx_lays τ 1 s d f t r
def rt_daily (τ : Tau) (_ _ _ _ _ : Int32) : Int32 := τ 0 2
def th_feasts (τ : Tau) (s d r : Int32) : Int32 := if ¬ okS τ s ∨ ¬ okL d then 1 else if ¬ (1 ≤ r ∧ r ≤ 3) then 2 else if τ 0 2 = 20 then 3 else 0
def nx_feasts (τ : Tau) (s d r : Int32) : Tau := nx_lays τ 2 s d 0 0 r
def rt_feasts (τ : Tau) (_ _ _ : Int32) : Int32 := τ 0 2
def th_lift (τ : Tau) (k : Int32) : Int32 := if okF τ k then 0 else 1
def nx_lift (τ : Tau) (k : Int32) : Tau := ti τ 4 (cx k) 1
abbrev cntS (τ : Tau) : Nat := ct (fun k => τ 4 k == 0) (cx (τ 0 2))
def rt_lift (τ : Tau) (k : Int32) : Int32 := nI (cntS (nx_lift τ k))
def th_holding (τ : Tau) (s h : Int32) : Int32 := if ¬ okS τ s then 1 else if 0 ≤ h ∧ h ≤ 671 then 0 else 2
def rt_holding (τ : Tau) (s h : Int32) : Int32 := hoS τ s h
def th_hours (τ : Tau) (k : Int32) : Int32 := if okF τ k then 0 else 1
def rt_hours (τ : Tau) (k : Int32) : Int32 := nI (ct (fun h => hoB τ (cx k) (nI h)) 672)
def th_nextSpan (τ : Tau) (s f n : Int32) : Int32 := if ¬ okS τ s then 1 else if (0 ≤ f ∧ f ≤ 671) ∧ (1 ≤ n ∧ n ≤ 100) then 0 else 2
def rt_nextSpan (τ : Tau) (s f n : Int32) : Int32 := nsp (fun h => hoS τ s (nI h) == 0) n (672 - cx f) (cx f) 0
def th_plan (τ : Tau) (s f n r : Int32) : Int32 := if ¬ okS τ s then 1 else if ¬ ((1 ≤ n ∧ n ≤ 100) ∧ (1 ≤ r ∧ r ≤ 3) ∧ okP τ f n) then 2 else if τ 0 3 = 30 then 3 else 0
def nx_plan (τ : Tau) (s f n r : Int32) : Tau := t0 (ti (ti (ti (ti (ti τ 11 (cx (τ 0 3)) s) 12 (cx (τ 0 3)) f) 13 (cx (τ 0 3)) n) 14 (cx (τ 0 3)) r) 17 (cx (τ 0 3)) (-1)) 3 (τ 0 3 + 1)
def rt_plan (τ : Tau) (_ _ _ _ : Int32) : Int32 := τ 0 3
def th_move (τ : Tau) (c f : Int32) : Int32 := if ¬ okC τ c then 1 else if ¬ okP τ f (τ 13 (cx c)) then 2 else if ¬ τ 17 (cx c) = -1 then 3 else 0
def nx_move (τ : Tau) (c f : Int32) : Tau := ti (ti (ti τ 12 (cx c) f) 15 (cx c) 0) 16 (cx c) 0
def rt_move (τ : Tau) (c f : Int32) : Int32 := nI (badN (nx_move τ c f) (cx c))
def th_approve (τ : Tau) (c : Int32) : Int32 := if ¬ okC τ c then 1 else if ¬ τ 17 (cx c) = -1 ∨ τ 15 (cx c) = τ 14 (cx c) then 2 else 0
def nx_approve (τ : Tau) (c : Int32) : Tau := ti τ 15 (cx c) (τ 15 (cx c) + 1)
def rt_approve (τ : Tau) (c : Int32) : Int32 := τ 15 (cx c) + 1
def th_begin (τ : Tau) (c : Int32) : Int32 := if ¬ okC τ c then 1 else if (τ 17 (cx c) = -1 ∧ τ 0 0 = τ 12 (cx c) ∧ τ 15 (cx c) = τ 14 (cx c)) ∧ badN τ (cx c) = 0 then 0 else 2
def nx_begin (τ : Tau) (c : Int32) : Tau := ti τ 17 (cx c) (τ 0 2)
def rt_begin (τ : Tau) (c : Int32) : Int32 := τ 12 (cx c) + τ 13 (cx c)
def th_state (τ : Tau) (c : Int32) : Int32 := if okC τ c then 0 else 1
def rt_state (τ : Tau) (c : Int32) : Int32 := if τ 17 (cx c) = -1 then 0 else if τ 12 (cx c) + τ 13 (cx c) ≤ τ 0 0 then 2 else 1
def th_approved (τ : Tau) (c : Int32) : Int32 := if okC τ c then 0 else 1
def rt_approved (τ : Tau) (c : Int32) : Int32 := τ 15 (cx c)
def th_exceptions (_ : Tau) (r n : Int32) : Int32 := if (1 ≤ r ∧ r ≤ 3) ∧ (0 ≤ n ∧ n ≤ 50) then 0 else 1
def nx_exceptions (τ : Tau) (r n : Int32) : Tau := ti τ 18 (cx r) n
def rt_exceptions (τ : Tau) (r _ : Int32) : Int32 := τ 18 (cx r)
def th_left (_ : Tau) (r : Int32) : Int32 := if 1 ≤ r ∧ r ≤ 3 then 0 else 1
def rt_left (τ : Tau) (r : Int32) : Int32 := τ 18 (cx r)
abbrev rkx (τ : Tau) (k : Nat) : Nat := rkS (τ 18) 4 (cx (τ 10 k))
def th_excuse (τ : Tau) (c k : Int32) : Int32 := if ¬ okC τ c then 1 else if ¬ okF τ k then 2 else if tch τ (cx k) (cx c) = true ∧ (τ 16 (cx c) >>> (k &&& 31)) &&& 1 = 0 ∧ rkx τ (cx k) < 4 then 0 else 3
def nx_excuse (τ : Tau) (c k : Int32) : Tau := ti (ti τ 16 (cx c) (τ 16 (cx c) ||| 1 <<< (k &&& 31))) 18 (rkx τ (cx k)) (τ 18 (rkx τ (cx k)) - 1)
def rt_excuse (τ : Tau) (_ k : Int32) : Int32 := nI (rkx τ (cx k))
def th_badHours (τ : Tau) (c : Int32) : Int32 := if okC τ c then 0 else 1
def rt_badHours (τ : Tau) (c : Int32) : Int32 := nI (badN τ (cx c))
def rt_firstBad (τ : Tau) (c : Int32) : Int32 := match fst1 (badB τ (cx c)) (cx (τ 13 (cx c))) 0 with
  | none => -1
  | some j => τ 12 (cx c) + nI j
def rt_reasons (τ : Tau) (c : Int32) : Int32 := orr (fun j => agn τ (cx c) (τ 12 (cx c) + nI j)) (cx (τ 13 (cx c)))
/-! what holds of the numbers between calls -/
def FrOk (τ : Tau) (ns k : Nat) : Prop := (τ 5 k = 0 ∨ τ 5 k = 1 ∨ τ 5 k = 2) ∧ (∃ s, s < ns ∧ τ 6 k = nI s) ∧ (∃ d, d < 4 ∧ τ 7 k = nI d) ∧ (∃ r, 1 ≤ r ∧ r ≤ 3 ∧ τ 10 k = nI r)
def ChOk (τ : Tau) (ns nl k : Nat) : Prop := (∃ s, s < ns ∧ τ 11 k = nI s) ∧ (∃ b n, τ 12 k = nI b ∧ τ 13 k = nI n ∧ 1 ≤ n ∧ n ≤ 100 ∧ b + n ≤ 672) ∧ (1 ≤ τ 14 k ∧ τ 14 k ≤ 3) ∧ (0 ≤ τ 15 k ∧ τ 15 k ≤ τ 14 k) ∧ (τ 17 k = -1 ∨ ∃ q, q ≤ nl ∧ τ 17 k = nI q)
def Iv (τ : Tau) (nw ns nl nc : Nat) : Prop :=
  (τ 0 0 = nI nw ∧ nw ≤ 671) ∧ (τ 0 1 = nI ns ∧ 1 ≤ ns ∧ ns ≤ 16) ∧ (τ 0 2 = nI nl ∧ nl ≤ 20) ∧ (τ 0 3 = nI nc ∧ nc ≤ 30) ∧ (τ 1 0 = -1 ∧ ∀ k, 1 ≤ k → k < ns → ∃ j, j < k ∧ τ 1 k = nI j) ∧ (∀ j, j < 4 → -11 ≤ τ 2 j ∧ τ 2 j ≤ 12) ∧ (∀ i, i < 120 → τ 3 i = 0 ∨ τ 3 i = 1) ∧ (∀ k, k < 20 → τ 4 k = 0 ∨ τ 4 k = 1) ∧ (∀ k, nl ≤ k → k < 20 → τ 4 k = 0) ∧ (∀ k, k < nl → FrOk τ ns k) ∧ (∀ k, k < nc → ChOk τ ns nl k) ∧ (∀ k, nc ≤ k → k < 30 → τ 15 k = 0 ∧ τ 16 k = 0) ∧ ∀ r, r < 4 → 0 ≤ τ 18 r ∧ τ 18 r ≤ 50
end
section
theorem nI_b {n N : Nat} (h : n ≤ N) (hN : N < 2 ^ 31) : 0 ≤ nI n ∧ nI n ≤ nI N := ⟨by rw [← nI_0]; exact nI_le (Nat.zero_le _) (by omega), nI_le h hN⟩
theorem cx_nI {n : Nat} (h : n < 2 ^ 31) : cx (nI n) = n := nI_clamp h
theorem ok_ix {a x : Int32} {n N : Nat} (hx : x = nI n) (hn : n ≤ N) (hN : N ≤ 100000) (h : 0 ≤ a ∧ a ≤ x - 1) : ∃ k, k < n ∧ a = nI k ∧ cx a = k := by
  have hb := nI_b hn (show N < 2 ^ 31 by omega)
  have hc := nI_b hN (show 100000 < 2 ^ 31 by omega)
  have h9 : nI 100000 = 100000 := rfl
  rw [h9] at hc
  subst hx
  obtain ⟨k, hk, rfl⟩ := nI_ex (x := a) (n := n) h.1 (by lia) (by omega)
  exact ⟨k, hk, rfl, cx_nI (by omega)⟩
theorem ix_ok {x : Int32} {n k : Nat} (hx : x = nI n) (hn : n ≤ 100000) (h : k < n) : 0 ≤ nI k ∧ nI k ≤ x - 1 := by
  subst hx
  have hb := nI_b hn (show 100000 < 2 ^ 31 by omega)
  have h9 : nI 100000 = 100000 := rfl
  rw [h9] at hb
  have h1 := nI_lt h (show n < 2 ^ 31 by omega)
  have h2 := nI_pos' (n := k) (by omega)
  exact ⟨h2, by lia⟩
theorem Iv.s {τ : Tau} {nw ns nl nc : Nat} (hI : Iv τ nw ns nl nc) {a : Int32} (h : 0 ≤ a ∧ a ≤ τ 0 1 - 1) : ∃ k, k < ns ∧ a = nI k ∧ cx a = k := ok_ix hI.2.1.1 hI.2.1.2.2 (by omega) h
theorem Iv.n {τ : Tau} {nw ns nl nc : Nat} (hI : Iv τ nw ns nl nc) {a : Int32} (h : 0 ≤ a ∧ a ≤ τ 0 2 - 1) : ∃ k, k < nl ∧ a = nI k ∧ cx a = k := ok_ix hI.2.2.1.1 hI.2.2.1.2 (by omega) h
theorem Iv.c {τ : Tau} {nw ns nl nc : Nat} (hI : Iv τ nw ns nl nc) {a : Int32} (h : 0 ≤ a ∧ a ≤ τ 0 3 - 1) : ∃ k, k < nc ∧ a = nI k ∧ cx a = k := ok_ix hI.2.2.2.1.1 hI.2.2.2.1.2 (by omega) h
theorem okL.ix {a : Int32} (h : 0 ≤ a ∧ a ≤ 3) : ∃ k, k < 4 ∧ a = nI k ∧ cx a = k := by
  obtain ⟨k, hk, rfl⟩ := nI_ex (x := a) (n := 4) h.1 (by show a < 4; lia) (by omega)
  exact ⟨k, hk, rfl, cx_nI (by omega)⟩
theorem okR.ix {a : Int32} (h : 1 ≤ a ∧ a ≤ 3) : ∃ k, 1 ≤ k ∧ k < 4 ∧ a = nI k ∧ cx a = k := by
  obtain ⟨k, hk, rfl, h2⟩ := okL.ix (a := a) ⟨by lia, h.2⟩
  refine ⟨k, ?_, hk, rfl, h2⟩
  rcases Nat.eq_zero_or_pos k with h0 | h0
  · subst h0; rw [nI_0] at h; exact absurd h.1 (by decide)
  · exact h0
theorem fd_ix {a d : Int32} {k : Nat} (ha : a = nI k) (hk : k < 4) (h : -1 ≤ d ∧ d ≤ 28) : ∃ e, e < 30 ∧ d + 1 = nI e ∧ 30 * a + d + 1 = nI (30 * k + e) ∧ ixF a d = 30 * k + e := by
  obtain ⟨e, he, h1⟩ := nI_ex (x := d + 1) (n := 30) (by lia) (by show d + 1 < 30; lia) (by omega)
  have h2 : 30 * a + d + 1 = nI (30 * k + e) := by
    rw [← nI_add, ← pk_mul, ← ha, ← h1, show nI 30 = 30 from rfl]; lia
  exact ⟨e, he, h1, h2, by rw [ixF, h2]; exact cx_nI (by omega)⟩
theorem nI_ne {n N : Nat} {x : Int32} (hx : x = nI n) (h : ¬ x = nI N) : n ≠ N := fun e => h (by rw [hx, e])
theorem t0_self (τ : Tau) (k : Nat) : t0 τ k (τ 0 k) = τ := by
  funext i j
  by_cases hi : i = 0
  · subst hi
    rw [t0, va_up_self]
    by_cases hj : j = k
    · subst hj; exact pk_us
    · exact pk_un hj
  · rw [t0, va_up_ne _ _ hi]
theorem kn_le {x : Int32} {n k : Nat} (hx : x = nI n) (h : n ≤ k) (hk : k < 2 ^ 31) : x ≤ nI k := by rw [hx]; exact nI_le h hk
theorem kn_nle {x : Int32} {n k : Nat} (hx : x = nI n) (h : k < n) (hn : n < 2 ^ 31) : ¬ x ≤ nI k := by rw [hx]; exact nI_ge h hn
theorem nI_m1 {n : Nat} (h : n < 2 ^ 31) : ¬ nI n = -1 := by have := nI_pos' h; intro e; rw [e] at this; exact absurd this (by decide)
theorem thr_ix {x : Int32} {hh : Nat} (h : hh < 672) (h1 : -11 ≤ x) (h2 : x ≤ 12) : ∃ t, t < 720 ∧ nI hh + x + 24 = nI t ∧ (nI t / 24 = nI (t / 24)) ∧ t / 24 < 30 := by
  have hb := nI_b (n := hh) (N := 671) (by omega) (by omega)
  have h9 : nI 671 = 671 := rfl
  rw [h9] at hb
  obtain ⟨t, ht, he⟩ := nI_ex (x := nI hh + x + 24) (n := 720) (by lia) (by show nI hh + x + 24 < 720; lia) (by omega)
  exact ⟨t, ht, he, pk_div (a := t) (d := 24) (by omega) (by omega) (by omega), by omega⟩
theorem ho_ix {x : Int32} {d q : Nat} (hx : x = nI d) (hd : d < 4) (hq : q < 30) : 30 * x + nI q = nI (30 * d + q) := by
  rw [hx, ← nI_add, ← pk_mul]; rfl
theorem mk_t {p : Nat → Bool} {k : Nat} (h : p k = true) : mk p k ||| 1 <<< (nI k &&& 31) = mk p (k + 1) := by simp [mk, h]
theorem mk_f {p : Nat → Bool} {k : Nat} (h : p k = false) : mk p k ||| 0 = mk p (k + 1) := by simp [mk, h]
theorem ct_t {p : Nat → Bool} {k : Nat} (h : p k = true) : nI (ct p k) + 1 = nI (ct p (k + 1)) := by simp [ct, h, nI_1]
theorem ct_f {p : Nat → Bool} {k : Nat} (h : p k = false) : nI (ct p k) + 0 = nI (ct p (k + 1)) := by simp [ct, h]
theorem fst1_snoc (p : Nat → Bool) : ∀ (n i : Nat), fst1 p (n + 1) i = (match fst1 p n i with | some j => some j | none => if p (i + n) = true then some (i + n) else none) := by
  intro n
  induction n with
  | zero => intro i; simp [fst1]
  | succ n ih =>
    intro i
    rw [fst1]
    by_cases h : p i = true
    · rw [if_pos h]; simp [fst1, h]
    · rw [if_neg h, ih (i + 1)]
      have e : i + 1 + n = i + (n + 1) := by omega
      rw [e]
      conv => rhs; rw [fst1, if_neg h]
theorem fst1_lt {p : Nat → Bool} : ∀ (n i j : Nat), fst1 p n i = some j → i ≤ j ∧ j < i + n := by
  intro n
  induction n with
  | zero => intro i j h; simp [fst1] at h
  | succ n ih =>
    intro i j h
    rw [fst1] at h
    by_cases hp : p i = true
    · rw [if_pos hp] at h; cases h; omega
    · rw [if_neg hp] at h; have := ih _ _ h; omega
/-- the hour that fst1 finds, -1 for none -/
def fbv (x : Int32) : Option Nat → Int32
  | none => -1
  | some j => x + nI j
theorem rt_firstBad_eq (τ : Tau) (c : Int32) : rt_firstBad τ c = fbv (τ 12 (cx c)) (fst1 (badB τ (cx c)) (cx (τ 13 (cx c))) 0) := by
  unfold rt_firstBad fbv; split <;> simp_all
theorem hr_add {x : Int32} {b j : Nat} (h : x = nI b) : x + nI j = nI (b + j) := by rw [h, nI_add]
theorem ct_le (p : Nat → Bool) : ∀ n, ct p n ≤ n
  | 0 => Nat.le_refl _
  | n + 1 => by have := ct_le p n; rw [ct]; split <;> omega
theorem nI_sub1 {h n : Nat} {x : Int32} (hx : x = nI n) (h1 : n ≤ h + 1) : nI h - x + 1 = nI (h + 1 - n) := by
  rw [hx, ← pk_sub h1, ← nI_1]; lia
theorem rkS_le (ex : Nat → Int32) : ∀ n r, r ≤ 4 → r ≤ rkS ex n r ∧ rkS ex n r ≤ 4 := by
  intro n
  induction n with
  | zero => intro r h; exact ⟨Nat.le_refl _, h⟩
  | succ n ih =>
    intro r h
    rw [rkS]
    split
    · next h9 => have := ih (r + 1) (by omega); omega
    · omega
theorem bI_ite {q : Prop} [Decidable q] : (if q then (1 : Int32) else 0) = bI q := rfl
theorem nI_z {n : Nat} (h : n < 2 ^ 31) : nI n = 0 ↔ n = 0 := by rw [← nI_0]; exact nI_eq h (by omega)
theorem fbv_step {x : Int32} {p : Nat → Bool} {n b : Nat} (hx : x = nI b) (hb : b + n < 2 ^ 31) : fbv x (fst1 p (n + 1) 0) = if fbv x (fst1 p n 0) = -1 ∧ p n = true then x + nI n else fbv x (fst1 p n 0) := by
  rw [fst1_snoc]
  cases hf : fst1 p n 0 with
  | none =>
    by_cases hp : p n = true
    · simp [fbv, hp]
    · simp [fbv, hp]
  | some j =>
    have hj := fst1_lt n 0 j hf
    have hne : ¬ fbv x (some j) = -1 := by
      show ¬ x + nI j = -1
      rw [hr_add hx]; exact nI_m1 (by omega)
    simp [hne]
theorem nsp_stop {fr : Nat → Bool} {many o : Int32} {n h : Nat} (e : (if fr h = true then o + 1 else 0) = many) : nsp fr many (n + 1) h o = nI h - many + 1 := by rw [nsp, if_pos e]
theorem nsp_go {fr : Nat → Bool} {many o : Int32} {n h : Nat} (e : ¬ (if fr h = true then o + 1 else 0) = many) : nsp fr many (n + 1) h o = nsp fr many n (h + 1) (if fr h = true then o + 1 else 0) := by rw [nsp, if_neg e]
end
section
/-! bits of sets -/
def bit (x : Int32) (b : Nat) : Bool := !((x >>> (nI b &&& 31)) &&& 1 == 0)
theorem and31 : ∀ b : Nat, b < 31 → nI b &&& 31 = nI b := by decide +kernel
theorem smod32 : ∀ b : Nat, b < 31 → ((nI b).toBitVec.smod 32).toNat = b := by decide +kernel
theorem bit_lsb (x : Int32) {b : Nat} (hb : b < 31) : bit x b = x.toBitVec.getLsbD b := by
  unfold bit
  rw [and31 b hb]
  have h1 : (x >>> nI b).toBitVec = x.toBitVec.sshiftRight b := by
    rw [Int32.toBitVec_shiftRight, BitVec.sshiftRight', smod32 b hb]
  have h2 : (x >>> nI b) &&& 1 = nI ((x >>> nI b).toBitVec.toNat % 2 ^ 1) := pk_and _ 1 rfl
  have h3 : (x >>> nI b).toBitVec.getLsbD 0 = x.toBitVec.getLsbD b := by
    rw [h1, BitVec.getLsbD_sshiftRight]
    simp
    intro h; omega
  rw [h2, ← h3]
  have h4 : (x >>> nI b).toBitVec.getLsbD 0 = decide ((x >>> nI b).toBitVec.toNat % 2 = 1) := by
    rw [BitVec.getLsbD, Nat.testBit_zero]
  rw [h4]
  rcases Nat.mod_two_eq_zero_or_one (x >>> nI b).toBitVec.toNat with h | h
  · rw [show (2 : Nat) ^ 1 = 2 from rfl, h]; rfl
  · rw [show (2 : Nat) ^ 1 = 2 from rfl, h]; rfl
theorem bit_or (x y : Int32) {b : Nat} (hb : b < 31) : bit (x ||| y) b = (bit x b || bit y b) := by
  rw [bit_lsb _ hb, bit_lsb _ hb, bit_lsb _ hb, Int32.toBitVec_or, BitVec.getLsbD_or]
theorem bit_and (x y : Int32) {b : Nat} (hb : b < 31) : bit (x &&& y) b = (bit x b && bit y b) := by
  rw [bit_lsb _ hb, bit_lsb _ hb, bit_lsb _ hb, Int32.toBitVec_and, BitVec.getLsbD_and]
theorem bit_xor (x y : Int32) {b : Nat} (hb : b < 31) : bit (x ^^^ y) b = (bit x b ^^ bit y b) := by
  rw [bit_lsb _ hb, bit_lsb _ hb, bit_lsb _ hb, Int32.toBitVec_xor, BitVec.getLsbD_xor]
theorem bit_m1 : ∀ b : Nat, b < 31 → bit (-1) b = true := by decide +kernel
theorem bit_not (x : Int32) {b : Nat} (hb : b < 31) : bit (x ^^^ (-1)) b = !bit x b := by
  rw [bit_xor _ _ hb, bit_m1 b hb]; simp
theorem bit_one : ∀ k : Nat, k < 31 → ∀ b : Nat, b < 31 → bit (1 <<< (nI k &&& 31)) b = decide (b = k) := by decide +kernel
theorem bit_0 : ∀ b : Nat, b < 31 → bit 0 b = false := by decide +kernel
theorem bit_low : ∀ n : Nat, n < 21 → ∀ b : Nat, b < 20 → bit (1 <<< (nI n &&& 31) - 1) b = decide (b < n) := by decide +kernel
theorem bit_mk (p : Nat → Bool) : ∀ n : Nat, n ≤ 31 → ∀ b : Nat, b < 31 → bit (mk p n) b = (decide (b < n) && p b) := by
  intro n
  induction n with
  | zero => intro _ b hb; rw [mk, bit_0 b hb]; simp
  | succ n ih =>
    intro hn b hb
    rw [mk, bit_or _ _ hb, ih (by omega) b hb]
    by_cases hp : p n = true
    · rw [if_pos hp, bit_one n (by omega) b hb]
      by_cases h : b = n
      · subst h; simp [hp]
      · have e : decide (b < n + 1) = decide (b < n) := by
          by_cases h2 : b < n
          · simp [h2]; omega
          · simp [h2]; omega
        rw [e]; simp [h]
    · rw [if_neg hp, bit_0 b hb]
      by_cases h : b = n
      · subst h; simp [hp]
      · have e : decide (b < n + 1) = decide (b < n) := by
          by_cases h2 : b < n
          · simp [h2]; omega
          · simp [h2]; omega
        rw [e]; simp
theorem mk_ext {p q : Nat → Bool} : ∀ {n : Nat}, (∀ k, k < n → p k = q k) → mk p n = mk q n
  | 0, _ => rfl
  | n + 1, h => by rw [mk, mk, mk_ext (fun k hk => h k (by omega)), h n (by omega)]
theorem mk_tail {p : Nat → Bool} {m : Nat} : ∀ {n : Nat}, m ≤ n → (∀ k, m ≤ k → k < n → p k = false) → mk p n = mk p m := by
  intro n
  induction n with
  | zero => intro h _; rw [Nat.le_zero.mp h]
  | succ n ih =>
    intro h hp
    rcases Nat.lt_or_ge n m with h1 | h1
    · rw [show m = n + 1 by omega]
    · rw [mk, ih h1 (fun k h2 h3 => hp k h2 (by omega)), hp n h1 (by omega)]; simp
theorem mk_z {p : Nat → Bool} {n : Nat} (hn : n ≤ 31) : mk p n = 0 ↔ ∀ k, k < n → p k = false := by
  constructor
  · intro h k hk
    have h1 := bit_mk p n hn k (by omega)
    rw [h, bit_0 k (by omega)] at h1
    simpa [hk] using h1.symm
  · intro h
    rw [mk_tail (m := 0) (Nat.zero_le _) (fun k _ hk => h k hk)]; rfl
theorem exB_bit (τ : Tau) (c : Nat) {k : Nat} (hk : k < 31) : exB τ c k = bit (τ 16 c) k := by
  unfold exB bit
  rw [and31 k hk]
  have h2 : (τ 16 c >>> nI k) &&& 1 = nI ((τ 16 c >>> nI k).toBitVec.toNat % 2 ^ 1) := pk_and _ 1 rfl
  rw [h2]
  rcases Nat.mod_two_eq_zero_or_one (τ 16 c >>> nI k).toBitVec.toNat with h | h
  · rw [show (2 : Nat) ^ 1 = 2 from rfl, h]; rfl
  · rw [show (2 : Nat) ^ 1 = 2 from rfl, h]; rfl
end
section
/-- as ro_ofM, for a method of a class in which the machine runs some (other) methods itself -/
theorem ro_ofMF {l : Launch} {D : va_G} {ids : Nat → ClassId} {n0 : Nat} {y : MethodName} {cy : ByteArray} {maxL : Nat} {ret : Option FieldType} {rm : Room} {as : List Value} {Hh : Heap} {post : Option Value → Heap → Prop} (hy : plainFor y = true) (hlen : (lg_sl as).length ≤ maxL)
    (body : ∀ (p : Program) (e : Env) (s : State) (m : MethodId) (below : List Frame) (meth : Method) (c : Code), ro_C p s m as.toArray meth c cy maxL y.cls D ids n0 → s.heap = Hh → meth.sig.returnType = ret → meth.name = y.name → va_S (fun q => n0 ≤ q) s.heap Hh [] → ∀ ls, lv_has ls maxL (lv_args 0 as) → W p l e rm s m as.toArray below meth c Hh [] 0 0 (MQ below (ro_Q n0 post) as.toArray s rm.cells rm.slots (fun q => n0 ≤ q)) (F0 m 0 ls [])) : ro_M l y cy maxL ret rm D ids n0 as Hh post := by
  unfold ro_M Met
  refine MetFree.of_bodySF (code := cy) (maxLocals := maxL) (ret := ret) hy ?_ ?_
  · intro args s m h hn
    obtain ⟨meth, c, h1, h2, h3, h4, h5, h6, -, -⟩ := Cond.code_spec hn (atoms_spec (ws := .code y cy maxL ret :: uU) h _ List.mem_cons_self)
    exact ⟨meth, c, h1, h2, h3, h4, h5, h6⟩
  · intro p e s m args below meth c s₁ B hml hv _
    have hh0 : s₁.heap = s.heap := by rw [B.state]; rfl
    obtain ⟨rfl, hE, rfl⟩ := hv
    have hts := atoms_spec (ws := .code y cy maxL ret :: uU) B.pre
    have hown := findClass_of_methodNamed B.named
    have K := body p e s m below meth c ⟨⟨B.exec, B.bytes, hml, hown, fun w h => hts w (List.mem_cons_of_mem _ h)⟩, hE, B.notSynchronized⟩ rfl B.returns (name_of_methodNamed B.named B.method).1 va_S.rf _ (lv_entry as hlen)
    rw [← lg_entry_eq] at K
    obtain ⟨t, a1, o, b1, b2, b3⟩ := K s₁ hh0 (Stand.of_body B)
    exact ⟨t, o, a1, b1, b2, ⟨b3.1, b3.2⟩⟩
end
section
/-! the calendar's cells -/
def isR (RR : List Nat) (nl nc : Nat) : Prop := ∀ r, r ∈ RR ↔ (r < 18 ∨ (40 ≤ r ∧ r < 40 + nl) ∨ (60 ≤ r ∧ r < 60 + nc))
theorem isR.l {RR : List Nat} {nl nc : Nat} (h : isR RR nl nc) {r : Nat} (hr : r < 18) : r ∈ RR := (h r).mpr (Or.inl hr)
theorem isR.f {RR : List Nat} {nl nc : Nat} (h : isR RR nl nc) {k : Nat} (hk : k < nl) : 40 + k ∈ RR := (h _).mpr (Or.inr (Or.inl ⟨by omega, by omega⟩))
theorem isR.c {RR : List Nat} {nl nc : Nat} (h : isR RR nl nc) {k : Nat} (hk : k < nc) : 60 + k ∈ RR := (h _).mpr (Or.inr (Or.inr ⟨by omega, by omega⟩))
abbrev xoF (τ : Tau) (ad : Nat → Nat) : List Value := [.ref (ad 1), .int (τ 0 1), .ref (ad 2), .int (τ 0 0), .ref (ad 3), .int (τ 0 2), .int (nI (cntS τ)), .ref (ad 4), .int (τ 0 3), .ref (ad 5), .ref (ad 6)]
def frE (τ : Tau) (ad : Nat → Nat) (k : Nat) : va_E := if τ 5 k = 0 then .inr (3, [.int (τ 6 k), .int (τ 10 k), .int (τ 8 k), .int (τ 9 k)]) else if τ 5 k = 1 then .inr (1, [.int (τ 6 k), .int (τ 10 k), .ref (ad (7 + cx (τ 7 k))), .int (τ 8 k), .int (τ 9 k)]) else .inr (2, [.int (τ 6 k), .int (τ 10 k), .ref (ad (7 + cx (τ 7 k)))])
abbrev flb (τ : Tau) (k : Nat) : Int32 := if τ 17 k = -1 then 20 else τ 17 k
abbrev chF (τ : Tau) (k : Nat) : List Value := [.int (τ 11 k), .int (τ 13 k), .int (τ 14 k), .int (τ 12 k), .int (τ 15 k), .int (τ 16 k), .int (bI (¬ τ 17 k = -1)), .int (flb τ k)]
def isX (ids : Nat → ClassId) (ad : Nat → Nat) (cn : Nat → va_E) (τ : Tau) (ns nl nc : Nat) (sa bm fm : Nat → Int32) (lf ff cf : Nat → Option Nat) : Prop :=
  cn 0 = .inr (5, xoF τ ad) ∧ cn 1 = .inl (ids 0, 16, .inl sa) ∧ (∀ k, k < ns → ∀ b, b < 16 → bit (sa k) b = bel (τ 1) 16 k b) ∧ cn 2 = .inl (ids 3, 4, .inr (.inr (.inr (.inr lf)))) ∧ (∀ j, j < 4 → lf j = some (ad (7 + j))) ∧ (∀ j, j < 4 → cn (7 + j) = .inr (4, [.int (τ 2 j), .int (fm j)])) ∧ (∀ j, j < 4 → ∀ d, d < 30 → bit (fm j) d = !(τ 3 (30 * j + d) == 0)) ∧ cn 3 = .inl (ids 4, 20, .inr (.inr (.inr (.inr ff)))) ∧ (∀ k, k < 20 → ff k = if k < nl ∧ τ 4 k = 0 then some (ad (40 + k)) else none) ∧ (∀ k, k < nl → cn (40 + k) = frE τ ad k) ∧ cn 4 = .inl (ids 5, 30, .inr (.inr (.inr (.inr cf)))) ∧ (∀ k, k < 30 → cf k = if k < nc then some (ad (60 + k)) else none) ∧ (∀ k, k < nc → cn (60 + k) = .inr (0, chF τ k)) ∧ cn 5 = .inl (ids 0, 4, .inl (τ 18)) ∧ cn 6 = .inl (ids 1, 100, .inl bm)
def xH (D : va_G) (ids : Nat → ClassId) (n0 : Nat) (RR : List Nat) (ad : Nat → Nat) (cn : Nat → va_E) (τ : Tau) (ns nl nc : Nat) (H : Heap) : Prop := ro_P D n0 RR ad cn H ∧ isR RR nl nc ∧ ∃ (sa bm fm : Nat → Int32) (lf ff cf : Nat → Option Nat), isX ids ad cn τ ns nl nc sa bm fm lf ff cf
/-- the heap has grown, what was there is as it was -/
def grow (H H1 : Heap) : Prop := H.size ≤ H1.size ∧ ∀ q : Nat, q < H.size → H1[q]? = H[q]?
theorem grow.rf (H : Heap) : grow H H := ⟨Nat.le_refl _, fun _ _ => rfl⟩
theorem xH.keep {D : va_G} {ids : Nat → ClassId} {n0 : Nat} {RR : List Nat} {ad : Nat → Nat} {cn : Nat → va_E} {τ : Tau} {ns nl nc : Nat} {H H1 : Heap} (h : xH D ids n0 RR ad cn τ ns nl nc H) (hg : grow H H1) : xH D ids n0 RR ad cn τ ns nl nc H1 := ⟨h.1.keep hg.2, h.2⟩
section XO
variable {p : Program} {l : Launch} {e : Env} {R : Room} {s : State} {m : MethodId} {args : Array Value} {below : List Frame} {meth : Method} {c : Code} {H : Heap} {locs : List Loc} {cells slots : Nat} {Q : State → Prop}
variable {cc : ByteArray} {nL : Nat} {D : va_G} {ids : Nat → ClassId} {n0 : Nat} {RR : List Nat} {ad : Nat → Nat} {cn : Nat → va_E} {pc : Nat} {ls : Array Slot} {rest : List Value} {τ : Tau}
theorem xo_fscope (MC : ro_C p s m args meth c cc nL "FrostCalendar" D ids n0) (HP : ro_P D n0 RR ad cn H) {k : Nat} (hr : 40 + k ∈ RR) (hf : cn (40 + k) = frE τ ad k) (hdg : decode cc pc = .ok (.getfield 220, 3))
    (kk : W p l e R s m args below meth c H locs cells slots Q (F0 m (pc + 3) ls (.int (τ 6 k) :: rest))) : W p l e R s m args below meth c H locs cells slots Q (F0 m pc ls (.ref (ad (40 + k)) :: rest)) := by
  unfold frE at hf
  split at hf
  · exact ro_get MC HP hr hf (rfl : vwCl[3]? = some (RX4, TX4, 4)) inU4 0 (by decide) kw261 rfl rfl hdg kk
  · split at hf
    · exact ro_get MC HP hr hf (rfl : vwCl[1]? = some (RX2, TX2, 5)) inU2 0 (by decide) kw261 rfl rfl hdg kk
    · exact ro_get MC HP hr hf (rfl : vwCl[2]? = some (RX3, TX3, 3)) inU3 0 (by decide) kw261 rfl rfl hdg kk
theorem xo_frank (MC : ro_C p s m args meth c cc nL "FrostCalendar" D ids n0) (HP : ro_P D n0 RR ad cn H) {k : Nat} (hr : 40 + k ∈ RR) (hf : cn (40 + k) = frE τ ad k) (hdg : decode cc pc = .ok (.getfield 186, 3))
    (kk : W p l e R s m args below meth c H locs cells slots Q (F0 m (pc + 3) ls (.int (τ 10 k) :: rest))) : W p l e R s m args below meth c H locs cells slots Q (F0 m pc ls (.ref (ad (40 + k)) :: rest)) := by
  unfold frE at hf
  split at hf
  · exact ro_get MC HP hr hf (rfl : vwCl[3]? = some (RX4, TX4, 4)) inU4 1 (by decide) kw263 rfl rfl hdg kk
  · split at hf
    · exact ro_get MC HP hr hf (rfl : vwCl[1]? = some (RX2, TX2, 5)) inU2 1 (by decide) kw263 rfl rfl hdg kk
    · exact ro_get MC HP hr hf (rfl : vwCl[2]? = some (RX3, TX3, 3)) inU3 1 (by decide) kw263 rfl rfl hdg kk
theorem xo_iald (MC : ro_C p s m args meth c cc nL "FrostCalendar" D ids n0) (HP : ro_P D n0 RR ad cn H) {r : Nat} (hr : r ∈ RR) {n : Nat} {f : Nat → Int32} (hf : cn r = .inl (ids 0, n, .inl f)) (k : Nat) (hk : k < n) (hn : n ≤ 100) {i : Int32} (hi : i = nI k) (hdg : decode cc pc = .ok (.iaload, 1))
    (kk : W p l e R s m args below meth c H locs cells slots Q (F0 m (pc + 1) ls (.int (f k) :: rest))) : W p l e R s m args below meth c H locs cells slots Q (F0 m pc ls (.int i :: .ref (ad r) :: rest)) := by
  subst hi
  refine ro_iald MC HP hr hf (vp_in_nI hk (by omega)) hdg ?_
  rw [nI_clamp (by omega)]; exact kk
theorem xo_zald (MC : ro_C p s m args meth c cc nL "FrostCalendar" D ids n0) (HP : ro_P D n0 RR ad cn H) {r : Nat} (hr : r ∈ RR) {n : Nat} {f : Nat → Int32} (hf : cn r = .inl (ids 1, n, .inl f)) (k : Nat) (hk : k < n) (hn : n ≤ 100) {i : Int32} (hi : i = nI k) (hdg : decode cc pc = .ok (.baload, 1))
    (kk : W p l e R s m args below meth c H locs cells slots Q (F0 m (pc + 1) ls (.int (f k) :: rest))) : W p l e R s m args below meth c H locs cells slots Q (F0 m pc ls (.int i :: .ref (ad r) :: rest)) := by
  subst hi
  refine ro_zald MC HP hr hf (vp_in_nI hk (by omega)) hdg ?_
  rw [nI_clamp (by omega)]; exact kk
theorem xo_aald (MC : ro_C p s m args meth c cc nL "FrostCalendar" D ids n0) (HP : ro_P D n0 RR ad cn H) (t0 : Nat) {C : String} {r : Nat} (hr : r ∈ RR) {n : Nat} {f : Nat → Option Nat} (hf : cn r = .inl (ids t0, n, .inr (.inr (.inr (.inr f))))) (ht : (uTy ids)[t0]? = some (ids t0, .object C)) (k : Nat) (hk : k < n) (hn : n ≤ 100) {v : Option Nat} (hv : f k = v) {i : Int32} (hi : i = nI k) (hdg : decode cc pc = .ok (.aaload, 1))
    (kk : W p l e R s m args below meth c H locs cells slots Q (F0 m (pc + 1) ls (va_rf v :: rest))) : W p l e R s m args below meth c H locs cells slots Q (F0 m pc ls (.int i :: .ref (ad r) :: rest)) := by
  subst hi
  refine ro_aald MC HP t0 hr hf ht (vp_in_nI hk (by omega)) hdg ?_
  rw [nI_clamp (by omega), hv]; exact kk
theorem xo_iast (MC : ro_C p s m args meth c cc nL "FrostCalendar" D ids n0) (HP : ro_P D n0 RR ad cn H) (HS : va_S (fun q => n0 ≤ q) s.heap H locs) {r : Nat} (hr : r ∈ RR) {n : Nat} {f : Nat → Int32} (hf : cn r = .inl (ids 0, n, .inl f)) (k : Nat) (hk : k < n) (hn : n ≤ 100) {i x : Int32} (hi : i = nI k) (hdg : decode cc pc = .ok (.iastore, 1))
    (kk : ∀ (H1 : Heap) (locs1 : List Loc), ro_P D n0 RR ad (va_up cn r (.inl (ids 0, n, .inl (upd f k x)))) H1 → va_S (fun q => n0 ≤ q) s.heap H1 locs1 → W p l e R s m args below meth c H1 locs1 cells slots Q (F0 m (pc + 1) ls rest)) : W p l e R s m args below meth c H locs cells slots Q (F0 m pc ls (.int x :: .int i :: .ref (ad r) :: rest)) := by
  subst hi
  refine ro_iast MC HP HS hr hf (vp_in_nI hk (by omega)) hdg fun H1 locs1 h1 h2 => ?_
  rw [nI_clamp (by omega)] at h1; exact kk H1 locs1 h1 h2
theorem xo_zast (MC : ro_C p s m args meth c cc nL "FrostCalendar" D ids n0) (HP : ro_P D n0 RR ad cn H) (HS : va_S (fun q => n0 ≤ q) s.heap H locs) {r : Nat} (hr : r ∈ RR) {n : Nat} {f : Nat → Int32} (hf : cn r = .inl (ids 1, n, .inl f)) (k : Nat) (hk : k < n) (hn : n ≤ 100) {i x : Int32} (hi : i = nI k) (hnar : vp_nar .boolean x = x) (hdg : decode cc pc = .ok (.bastore, 1))
    (kk : ∀ (H1 : Heap) (locs1 : List Loc), ro_P D n0 RR ad (va_up cn r (.inl (ids 1, n, .inl (upd f k x)))) H1 → va_S (fun q => n0 ≤ q) s.heap H1 locs1 → W p l e R s m args below meth c H1 locs1 cells slots Q (F0 m (pc + 1) ls rest)) : W p l e R s m args below meth c H locs cells slots Q (F0 m pc ls (.int x :: .int i :: .ref (ad r) :: rest)) := by
  subst hi
  refine ro_zast MC HP HS hr hf (vp_in_nI hk (by omega)) hnar hdg fun H1 locs1 h1 h2 => ?_
  rw [nI_clamp (by omega)] at h1; exact kk H1 locs1 h1 h2
end XO
theorem Iv.sb {τ : Tau} {nw ns nl nc : Nat} (hI : Iv τ nw ns nl nc) : 1 ≤ τ 0 1 ∧ τ 0 1 ≤ 16 := by
  obtain ⟨h1, h2, h3⟩ := hI.2.1
  rw [h1]; exact ⟨nI_le (a := 1) h2 (by omega), nI_le (b := 16) h3 (by omega)⟩
theorem Iv.lb {τ : Tau} {nw ns nl nc : Nat} (hI : Iv τ nw ns nl nc) : 0 ≤ τ 0 2 ∧ τ 0 2 ≤ 20 := by
  obtain ⟨h1, h2⟩ := hI.2.2.1
  rw [h1]; exact nI_b (N := 20) h2 (by omega)
theorem Iv.cb {τ : Tau} {nw ns nl nc : Nat} (hI : Iv τ nw ns nl nc) : 0 ≤ τ 0 3 ∧ τ 0 3 ≤ 30 := by
  obtain ⟨h1, h2⟩ := hI.2.2.2.1
  rw [h1]; exact nI_b (N := 30) h2 (by omega)
theorem Iv.wb {τ : Tau} {nw ns nl nc : Nat} (hI : Iv τ nw ns nl nc) : 0 ≤ τ 0 0 ∧ τ 0 0 ≤ 671 := by
  obtain ⟨h1, h2⟩ := hI.1
  rw [h1]; exact nI_b (N := 671) h2 (by omega)
theorem fm_v1 : ∀ t : Nat, t < 720 → ¬ 0 ≤ (nI t - 24) ^^^ 24 → ¬ (nI t - 24) - (nI t - 24) / 24 * 24 = 0 → (nI t - 24) - (nI t - 24) / 24 * 24 + 24 = nI (t % 24) := by decide +kernel
theorem fm_v2 : ∀ t : Nat, t < 720 → (0 ≤ (nI t - 24) ^^^ 24 ∨ (nI t - 24) - (nI t - 24) / 24 * 24 = 0) → (nI t - 24) - (nI t - 24) / 24 * 24 = nI (t % 24) := by decide +kernel
theorem fd_v1 : ∀ t : Nat, t < 720 → ¬ 0 ≤ (nI t - 24) ^^^ 24 → ¬ (nI t - 24) / 24 * 24 = nI t - 24 → (nI t - 24) / 24 - 1 = nI (t / 24) - 1 := by decide +kernel
theorem fd_v2 : ∀ t : Nat, t < 720 → (0 ≤ (nI t - 24) ^^^ 24 ∨ (nI t - 24) / 24 * 24 = nI t - 24) → (nI t - 24) / 24 = nI (t / 24) - 1 := by decide +kernel
end
section
theorem ay_floorMod_7cf53_0 {t : Nat} (ht : t < 720) (c_7 : 0 ≤ ((nI t - 24) ^^^ 24)) : ((nI t - 24) - (nI t - 24) / 24 * 24) = nI (t % 24) := by
  exact fm_v2 t ht (Or.inl c_7)
theorem ay_floorMod_7cf53_1 {t : Nat} (ht : t < 720) (c_7 : ¬ (0 ≤ ((nI t - 24) ^^^ 24))) (c_11 : ((nI t - 24) - (nI t - 24) / 24 * 24) = 0) : ((nI t - 24) - (nI t - 24) / 24 * 24) = nI (t % 24) := by
  exact fm_v2 t ht (Or.inr c_11)
theorem ay_floorMod_7cf53_2 {t : Nat} (ht : t < 720) (c_7 : ¬ (0 ≤ ((nI t - 24) ^^^ 24))) (c_11 : ¬ (((nI t - 24) - (nI t - 24) / 24 * 24) = 0)) : (((nI t - 24) - (nI t - 24) / 24 * 24) + 24) = nI (t % 24) := by
  exact fm_v1 t ht c_7 c_11
theorem ay_floorDiv_7cf53_0 {t : Nat} (ht : t < 720) (c_7 : 0 ≤ ((nI t - 24) ^^^ 24)) : ((nI t - 24) / 24) = nI (t / 24) - 1 := by
  exact fd_v2 t ht (Or.inl c_7)
theorem ay_floorDiv_7cf53_1 {t : Nat} (ht : t < 720) (c_7 : ¬ (0 ≤ ((nI t - 24) ^^^ 24))) (c_14 : (((nI t - 24) / 24) * 24) = (nI t - 24)) : ((nI t - 24) / 24) = nI (t / 24) - 1 := by
  exact fd_v2 t ht (Or.inr c_14)
theorem ay_floorDiv_7cf53_2 {t : Nat} (ht : t < 720) (c_7 : ¬ (0 ≤ ((nI t - 24) ^^^ 24))) (c_14 : ¬ ((((nI t - 24) / 24) * 24) = (nI t - 24))) : (((nI t - 24) / 24) - 1) = nI (t / 24) - 1 := by
  exact fd_v1 t ht c_7 c_14
set_option maxHeartbeats 4000000 in
set_option maxRecDepth 100000 in
theorem j_floorMod {l : Launch} (D : va_G) (ids : Nat → ClassId) (n0 : Nat) {Hh : Heap} {t : Nat} (ht : t < 720) : ro_M l yJ9_floorMod_7cf53 cJ9_floorMod_7cf53 3 (some FieldType.int) { frames := 0, cells := 0, slots := 0, locals := 0 } D ids n0 [.int ((nI t - 24)), .int 24] Hh (fun v H1 => v = some (.int (nI (t % 24))) ∧ Hh = H1) := by
  refine ro_ofMF (by decide +kernel) (Nat.le_of_ble_eq_true rfl) ?_
  intro p e s m below meth c MC hhp hr hnm HS ls hl
  have hx := MC.1.1
  have hb := MC.1.2.1
  have hl : lv_has ls 3 [(0, .int ((nI t - 24))), (1, .int 24)] := hl
  refine lv_iload_n hx hb dJ9_floorMod_7cf53_0 rfl (lv_at hl 0 rfl) ?_
  refine lv_iload_n hx hb dJ9_floorMod_7cf53_1 rfl (lv_at hl 1 rfl) ?_
  refine lv_irem hx hb dJ9_floorMod_7cf53_2 (by decide) ?_
  refine lv_istore_n (lv' := [(2, .int (((nI t - 24) - (nI t - 24) / 24 * 24))), (0, .int ((nI t - 24))), (1, .int 24)]) hx hb dJ9_floorMod_7cf53_3 rfl hl (by decide) rfl (fun ls hl => ?_)
  refine lv_iload_n hx hb dJ9_floorMod_7cf53_4 rfl (lv_at hl 1 rfl) ?_
  refine lv_iload_n hx hb dJ9_floorMod_7cf53_5 rfl (lv_at hl 2 rfl) ?_
  refine lv_ixor hx hb dJ9_floorMod_7cf53_6 ?_
  refine lv_if_ge (tgt := 18) hx hb dJ9_floorMod_7cf53_7 (by decide) (fun c_7 => ?_) (fun c_7 => ?_)
  · refine lv_iload_n hx hb dJ9_floorMod_7cf53_18 rfl (lv_at hl 0 rfl) ?_
    exact ro_iretM MC HS hr (⟨by rw [ay_floorMod_7cf53_0 ht c_7], rfl⟩) (Nat.le_of_ble_eq_true rfl) (Nat.le_of_ble_eq_true rfl) dJ9_floorMod_7cf53_19
  · refine lv_iload_n hx hb dJ9_floorMod_7cf53_10 rfl (lv_at hl 0 rfl) ?_
    refine lv_if_eq (tgt := 18) hx hb dJ9_floorMod_7cf53_11 (by decide) (fun c_11 => ?_) (fun c_11 => ?_)
    · refine lv_iload_n hx hb dJ9_floorMod_7cf53_18 rfl (lv_at hl 0 rfl) ?_
      exact ro_iretM MC HS hr (⟨by rw [ay_floorMod_7cf53_1 ht c_7 c_11], rfl⟩) (Nat.le_of_ble_eq_true rfl) (Nat.le_of_ble_eq_true rfl) dJ9_floorMod_7cf53_19
    · refine lv_iload_n hx hb dJ9_floorMod_7cf53_14 rfl (lv_at hl 0 rfl) ?_
      refine lv_iload_n hx hb dJ9_floorMod_7cf53_15 rfl (lv_at hl 2 rfl) ?_
      refine lv_iadd hx hb dJ9_floorMod_7cf53_16 ?_
      exact ro_iretM MC HS hr (⟨by rw [ay_floorMod_7cf53_2 ht c_7 c_11], rfl⟩) (Nat.le_of_ble_eq_true rfl) (Nat.le_of_ble_eq_true rfl) dJ9_floorMod_7cf53_17
set_option maxHeartbeats 4000000 in
set_option maxRecDepth 100000 in
theorem j_floorDiv {l : Launch} (D : va_G) (ids : Nat → ClassId) (n0 : Nat) {Hh : Heap} {t : Nat} (ht : t < 720) : ro_M l yJ9_floorDiv_7cf53 cJ9_floorDiv_7cf53 3 (some FieldType.int) { frames := 0, cells := 0, slots := 0, locals := 0 } D ids n0 [.int ((nI t - 24)), .int 24] Hh (fun v H1 => v = some (.int (nI (t / 24) - 1)) ∧ Hh = H1) := by
  refine ro_ofMF (by decide +kernel) (Nat.le_of_ble_eq_true rfl) ?_
  intro p e s m below meth c MC hhp hr hnm HS ls hl
  have hx := MC.1.1
  have hb := MC.1.2.1
  have hl : lv_has ls 3 [(0, .int ((nI t - 24))), (1, .int 24)] := hl
  refine lv_iload_n hx hb dJ9_floorDiv_7cf53_0 rfl (lv_at hl 0 rfl) ?_
  refine lv_iload_n hx hb dJ9_floorDiv_7cf53_1 rfl (lv_at hl 1 rfl) ?_
  refine lv_idiv hx hb dJ9_floorDiv_7cf53_2 (by decide) ?_
  refine lv_istore_n (lv' := [(2, .int (((nI t - 24) / 24))), (0, .int ((nI t - 24))), (1, .int 24)]) hx hb dJ9_floorDiv_7cf53_3 rfl hl (by decide) rfl (fun ls hl => ?_)
  refine lv_iload_n hx hb dJ9_floorDiv_7cf53_4 rfl (lv_at hl 1 rfl) ?_
  refine lv_iload_n hx hb dJ9_floorDiv_7cf53_5 rfl (lv_at hl 2 rfl) ?_
  refine lv_ixor hx hb dJ9_floorDiv_7cf53_6 ?_
  refine lv_if_ge (tgt := 21) hx hb dJ9_floorDiv_7cf53_7 (by decide) (fun c_7 => ?_) (fun c_7 => ?_)
  · refine lv_iload_n hx hb dJ9_floorDiv_7cf53_21 rfl (lv_at hl 0 rfl) ?_
    exact ro_iretM MC HS hr (⟨by rw [ay_floorDiv_7cf53_0 ht c_7], rfl⟩) (Nat.le_of_ble_eq_true rfl) (Nat.le_of_ble_eq_true rfl) dJ9_floorDiv_7cf53_22
  · refine lv_iload_n hx hb dJ9_floorDiv_7cf53_10 rfl (lv_at hl 0 rfl) ?_
    refine lv_iload_n hx hb dJ9_floorDiv_7cf53_11 rfl (lv_at hl 2 rfl) ?_
    refine lv_imul hx hb dJ9_floorDiv_7cf53_12 ?_
    refine lv_iload_n hx hb dJ9_floorDiv_7cf53_13 rfl (lv_at hl 1 rfl) ?_
    refine lv_icmp_eq (tgt := 21) hx hb dJ9_floorDiv_7cf53_14 (by decide) (fun c_14 => ?_) (fun c_14 => ?_)
    · refine lv_iload_n hx hb dJ9_floorDiv_7cf53_21 rfl (lv_at hl 0 rfl) ?_
      exact ro_iretM MC HS hr (⟨by rw [ay_floorDiv_7cf53_1 ht c_7 c_14], rfl⟩) (Nat.le_of_ble_eq_true rfl) (Nat.le_of_ble_eq_true rfl) dJ9_floorDiv_7cf53_22
    · refine lv_iload_n hx hb dJ9_floorDiv_7cf53_17 rfl (lv_at hl 0 rfl) ?_
      refine lv_iconst (v := 1) hx hb dJ9_floorDiv_7cf53_18 (by decide) ?_
      refine lv_isub hx hb dJ9_floorDiv_7cf53_19 ?_
      exact ro_iretM MC HS hr (⟨by rw [ay_floorDiv_7cf53_2 ht c_7 c_14], rfl⟩) (Nat.le_of_ble_eq_true rfl) (Nat.le_of_ble_eq_true rfl) dJ9_floorDiv_7cf53_20
set_option maxHeartbeats 4000000 in
set_option maxRecDepth 100000 in
theorem x_isInSet {l : Launch} (D : va_G) (ids : Nat → ClassId) (n0 : Nat) {Hh : Heap} (a : Int32) (k : Nat) : ro_M l yX6_isInSet cX6_isInSet 2 (some FieldType.boolean) { frames := 0, cells := 0, slots := 0, locals := 0 } D ids n0 [.int a, .int (nI k)] Hh (fun v H1 => v = some (.int (bI (bit a k = true))) ∧ Hh = H1) := by
  refine ro_ofM (by decide +kernel) (Nat.le_of_ble_eq_true rfl) ?_
  intro p e s m below meth c MC hhp hr hnm HS ls hl
  have hx := MC.1.1
  have hb := MC.1.2.1
  have hl : lv_has ls 2 [(0, .int a), (1, .int (nI k))] := hl
  refine lv_iload_n hx hb dX6_isInSet_0 rfl (lv_at hl 0 rfl) ?_
  refine lv_iload_n hx hb dX6_isInSet_1 rfl (lv_at hl 1 rfl) ?_
  refine lv_ishr hx hb dX6_isInSet_2 ?_
  refine lv_iconst (v := 1) hx hb dX6_isInSet_3 (by decide) ?_
  refine lv_iand hx hb dX6_isInSet_4 ?_
  refine lv_if_eq (tgt := 12) hx hb dX6_isInSet_5 (by decide) (fun c_5 => ?_) (fun c_5 => ?_)
  · refine lv_iconst (v := 0) hx hb dX6_isInSet_12 (by decide) ?_
    exact ro_zretM MC HS hr (by first | rfl | exact bI_nar) (⟨by rw [bI_f (by unfold bit; simp [c_5])], rfl⟩) (Nat.le_of_ble_eq_true rfl) (Nat.le_of_ble_eq_true rfl) dX6_isInSet_13
  · refine lv_iconst (v := 1) hx hb dX6_isInSet_8 (by decide) ?_
    refine lv_goto (tgt := 13) hx hb dX6_isInSet_9 (by decide) ?_
    exact ro_zretM MC HS hr (by first | rfl | exact bI_nar) (⟨by rw [bI_t (by unfold bit; simp [c_5])], rfl⟩) (Nat.le_of_ble_eq_true rfl) (Nat.le_of_ble_eq_true rfl) dX6_isInSet_13
set_option maxHeartbeats 4000000 in
set_option maxRecDepth 100000 in
theorem x_hourBehind {l : Launch} {D : va_G} {ids : Nat → ClassId} {n0 : Nat} {RR : List Nat} {ad : Nat → Nat} {cn : Nat → va_E} {τ : Tau} {ns nl nc : Nat} {Hh : Heap} (hX : xH D ids n0 RR ad cn τ ns nl nc Hh) {k : Nat} (hk : k < nc) : ro_M l yX0_hourBehind cX0_hourBehind 1 (some FieldType.int) { frames := 0, cells := 0, slots := 0, locals := 0 } D ids n0 [.ref (ad (60 + k))] Hh (fun v H1 => v = some (.int (τ 12 k + τ 13 k)) ∧ Hh = H1) := by
  refine ro_ofM (by decide +kernel) (Nat.le_of_ble_eq_true rfl) ?_
  intro p e s m below meth c MC hhp hr hnm HS ls hl
  have hx := MC.1.1
  have hb := MC.1.2.1
  have hl : lv_has ls 1 [(0, .ref (ad (60 + k)))] := hl
  obtain ⟨HP, hRR, sa, bm, fm, lf, ff, cf, h0, h1, h1b, h2, h2b, h7, h7b, h3, h3b, h40, h4, h4b, h60, h5, h6⟩ := id hX
  refine lv_aload_n hx hb dX0_hourBehind_0 rfl (lv_at hl 0 rfl) ?_
  refine ro_get MC HP (hRR.c (show k < nc by omega)) (h60 k (by omega)) (rfl : vwCl[0]? = some (RX0, TX0, 8)) inU0 3 (by decide) kw407 rfl rfl dX0_hourBehind_1 ?_
  refine lv_aload_n hx hb dX0_hourBehind_4 rfl (lv_at hl 0 rfl) ?_
  refine ro_get MC HP (hRR.c (show k < nc by omega)) (h60 k (by omega)) (rfl : vwCl[0]? = some (RX0, TX0, 8)) inU0 1 (by decide) kw403 rfl rfl dX0_hourBehind_5 ?_
  refine lv_iadd hx hb dX0_hourBehind_8 ?_
  exact ro_iretM MC HS hr (⟨rfl, rfl⟩) (Nat.le_of_ble_eq_true rfl) (Nat.le_of_ble_eq_true rfl) dX0_hourBehind_9
set_option maxHeartbeats 4000000 in
set_option maxRecDepth 100000 in
theorem x_hourOfDay {l : Launch} {D : va_G} {ids : Nat → ClassId} {n0 : Nat} {RR : List Nat} {ad : Nat → Nat} {cn : Nat → va_E} {τ : Tau} {ns nl nc : Nat} {Hh : Heap} (hX : xH D ids n0 RR ad cn τ ns nl nc Hh) {j t : Nat} {h : Int32} (hj : j < 4) (ht : t < 720) (hte : h + τ 2 j = nI t - 24) : ro_M l yX5_hourOfDay cX5_hourOfDay 2 (some FieldType.int) { frames := 1, cells := 0, slots := 0, locals := 30 } D ids n0 [.ref (ad (7 + j)), .int h] Hh (fun v H1 => v = some (.int (nI (t % 24))) ∧ Hh = H1) := by
  refine ro_ofM (by decide +kernel) (Nat.le_of_ble_eq_true rfl) ?_
  intro p e s m below meth c MC hhp hr hnm HS ls hl
  have hx := MC.1.1
  have hb := MC.1.2.1
  have hl : lv_has ls 2 [(0, .ref (ad (7 + j))), (1, .int h)] := hl
  obtain ⟨HP, hRR, sa, bm, fm, lf, ff, cf, h0, h1, h1b, h2, h2b, h7, h7b, h3, h3b, h40, h4, h4b, h60, h5, h6⟩ := id hX
  refine lv_iload_n hx hb dX5_hourOfDay_0 rfl (lv_at hl 1 rfl) ?_
  refine lv_aload_n hx hb dX5_hourOfDay_1 rfl (lv_at hl 0 rfl) ?_
  refine ro_get MC HP (hRR.l (show 7 + j < 18 by omega)) (h7 j (by omega)) (rfl : vwCl[4]? = some (RX5, TX5, 2)) inU5 0 (by decide) kw51 rfl rfl dX5_hourOfDay_2 ?_
  refine lv_iadd hx hb dX5_hourOfDay_5 ?_
  refine lv_bipush (v := 24) hx hb dX5_hourOfDay_6 (by decide) ?_
  refine ro_callS MC HS (rest := []) (As := [.int ((h + τ 2 j)), .int 24]) (by rw [hte]; exact j_floorMod D ids n0 ht) (lkX5_15) (kw367) ⟨Nat.le_of_ble_eq_true rfl, Nat.le_of_ble_eq_true rfl⟩ hl.1 rfl (Nat.le_of_ble_eq_true rfl) dX5_hourOfDay_8 ⟨Nat.le_of_ble_eq_true rfl, Nat.le_of_ble_eq_true rfl⟩ (fun v9 H1 lH1 hp hz HS => ?_)
  obtain ⟨rfl, rfl⟩ := hp
  exact ro_iretM MC HS hr (⟨rfl, rfl⟩) (Nat.le_of_ble_eq_true rfl) (Nat.le_of_ble_eq_true rfl) dX5_hourOfDay_11
set_option maxHeartbeats 4000000 in
set_option maxRecDepth 100000 in
theorem x_dayOf {l : Launch} {D : va_G} {ids : Nat → ClassId} {n0 : Nat} {RR : List Nat} {ad : Nat → Nat} {cn : Nat → va_E} {τ : Tau} {ns nl nc : Nat} {Hh : Heap} (hX : xH D ids n0 RR ad cn τ ns nl nc Hh) {j t : Nat} {h : Int32} (hj : j < 4) (ht : t < 720) (hte : h + τ 2 j = nI t - 24) : ro_M l yX5_dayOf cX5_dayOf 2 (some FieldType.int) { frames := 1, cells := 0, slots := 0, locals := 30 } D ids n0 [.ref (ad (7 + j)), .int h] Hh (fun v H1 => v = some (.int (nI (t / 24) - 1)) ∧ Hh = H1) := by
  refine ro_ofM (by decide +kernel) (Nat.le_of_ble_eq_true rfl) ?_
  intro p e s m below meth c MC hhp hr hnm HS ls hl
  have hx := MC.1.1
  have hb := MC.1.2.1
  have hl : lv_has ls 2 [(0, .ref (ad (7 + j))), (1, .int h)] := hl
  obtain ⟨HP, hRR, sa, bm, fm, lf, ff, cf, h0, h1, h1b, h2, h2b, h7, h7b, h3, h3b, h40, h4, h4b, h60, h5, h6⟩ := id hX
  refine lv_iload_n hx hb dX5_dayOf_0 rfl (lv_at hl 1 rfl) ?_
  refine lv_aload_n hx hb dX5_dayOf_1 rfl (lv_at hl 0 rfl) ?_
  refine ro_get MC HP (hRR.l (show 7 + j < 18 by omega)) (h7 j (by omega)) (rfl : vwCl[4]? = some (RX5, TX5, 2)) inU5 0 (by decide) kw51 rfl rfl dX5_dayOf_2 ?_
  refine lv_iadd hx hb dX5_dayOf_5 ?_
  refine lv_bipush (v := 24) hx hb dX5_dayOf_6 (by decide) ?_
  refine ro_callS MC HS (rest := []) (As := [.int ((h + τ 2 j)), .int 24]) (by rw [hte]; exact j_floorDiv D ids n0 ht) (lkX5_21) (kw377) ⟨Nat.le_of_ble_eq_true rfl, Nat.le_of_ble_eq_true rfl⟩ hl.1 rfl (Nat.le_of_ble_eq_true rfl) dX5_dayOf_8 ⟨Nat.le_of_ble_eq_true rfl, Nat.le_of_ble_eq_true rfl⟩ (fun v9 H1 lH1 hp hz HS => ?_)
  obtain ⟨rfl, rfl⟩ := hp
  exact ro_iretM MC HS hr (⟨rfl, rfl⟩) (Nat.le_of_ble_eq_true rfl) (Nat.le_of_ble_eq_true rfl) dX5_dayOf_11
set_option maxHeartbeats 4000000 in
set_option maxRecDepth 100000 in
theorem x_isFeastDay {l : Launch} {D : va_G} {ids : Nat → ClassId} {n0 : Nat} {RR : List Nat} {ad : Nat → Nat} {cn : Nat → va_E} {τ : Tau} {ns nl nc : Nat} {Hh : Heap} (hX : xH D ids n0 RR ad cn τ ns nl nc Hh) {j t : Nat} {d9 : Int32} (hj : j < 4) (ht : t < 30) (hte : d9 - (-1) = nI t) : ro_M l yX5_isFeastDay cX5_isFeastDay 2 (some FieldType.boolean) { frames := 1, cells := 0, slots := 0, locals := 30 } D ids n0 [.ref (ad (7 + j)), .int d9] Hh (fun v H1 => v = some (.int (bI ((!(τ 3 (30 * j + t) == 0)) = true))) ∧ Hh = H1) := by
  refine ro_ofM (by decide +kernel) (Nat.le_of_ble_eq_true rfl) ?_
  intro p e s m below meth c MC hhp hr hnm HS ls hl
  have hx := MC.1.1
  have hb := MC.1.2.1
  have hl : lv_has ls 2 [(0, .ref (ad (7 + j))), (1, .int d9)] := hl
  obtain ⟨HP, hRR, sa, bm, fm, lf, ff, cf, h0, h1, h1b, h2, h2b, h7, h7b, h3, h3b, h40, h4, h4b, h60, h5, h6⟩ := id hX
  refine lv_aload_n hx hb dX5_isFeastDay_0 rfl (lv_at hl 0 rfl) ?_
  refine ro_get MC HP (hRR.l (show 7 + j < 18 by omega)) (h7 j (by omega)) (rfl : vwCl[4]? = some (RX5, TX5, 2)) inU5 1 (by decide) kw53 rfl rfl dX5_isFeastDay_1 ?_
  refine lv_iload_n hx hb dX5_isFeastDay_4 rfl (lv_at hl 1 rfl) ?_
  refine lv_iconst (v := (-1)) hx hb dX5_isFeastDay_5 (by decide) ?_
  refine lv_isub hx hb dX5_isFeastDay_6 ?_
  refine ro_callSN MC HS (rest := []) (As := [.int (fm j), .int ((d9 - (-1)))]) (by rw [hte]; exact x_isInSet D ids n0 (fm j) t) (lnX5_27) (kw229) ⟨Nat.le_of_ble_eq_true rfl, Nat.le_of_ble_eq_true rfl⟩ hl.1 rfl (Nat.le_of_ble_eq_true rfl) dX5_isFeastDay_7 ⟨Nat.le_of_ble_eq_true rfl, Nat.le_of_ble_eq_true rfl⟩ (fun v9 H1 lH1 hp hz HS => ?_)
  obtain ⟨rfl, rfl⟩ := hp
  exact ro_zretM MC HS hr (by first | rfl | exact bI_nar) (⟨by rw [h7b j hj t ht], rfl⟩) (Nat.le_of_ble_eq_true rfl) (Nat.le_of_ble_eq_true rfl) dX5_isFeastDay_10
end
section
theorem ay_once_0 {τ : Tau} {k hh : Nat} (h5k : τ 5 k = 0) (c_5 : nI hh < τ 8 k) : 0 = bI (hoB τ k (nI hh) = true) := by
  unfold hoB bI; grind
theorem ay_once_1 {τ : Tau} {k hh : Nat} (h5k : τ 5 k = 0) (c_5 : ¬ (nI hh < τ 8 k)) (c_13 : τ 9 k ≤ nI hh) : 0 = bI (hoB τ k (nI hh) = true) := by
  unfold hoB bI; grind
theorem ay_once_2 {τ : Tau} {k hh : Nat} (h5k : τ 5 k = 0) (c_5 : ¬ (nI hh < τ 8 k)) (c_13 : ¬ (τ 9 k ≤ nI hh)) : 1 = bI (hoB τ k (nI hh) = true) := by
  unfold hoB bI; grind
theorem ay_daily_0 {τ : Tau} {k hh t9 : Nat} (h50 : ¬ τ 5 k = 0) (h5k : τ 5 k = 1) (hthr : thr τ k (nI hh) = nI t9) (hrem : nI t9 - nI t9 / 24 * 24 = nI (t9 % 24)) (c_17 : τ 9 k ≤ τ 8 k) (c_47 : τ 8 k ≤ nI (t9 % 24)) : 1 = bI (hoB τ k (nI hh) = true) := by
  unfold hoB bI; rw [if_neg h50, hthr, hrem, if_neg (not_not_intro h5k)]; grind
theorem ay_daily_1 {τ : Tau} {k hh t9 : Nat} (h50 : ¬ τ 5 k = 0) (h5k : τ 5 k = 1) (hthr : thr τ k (nI hh) = nI t9) (hrem : nI t9 - nI t9 / 24 * 24 = nI (t9 % 24)) (c_17 : τ 9 k ≤ τ 8 k) (c_47 : ¬ (τ 8 k ≤ nI (t9 % 24))) (c_55 : τ 9 k ≤ nI (t9 % 24)) : 0 = bI (hoB τ k (nI hh) = true) := by
  unfold hoB bI; rw [if_neg h50, hthr, hrem, if_neg (not_not_intro h5k)]; grind
theorem ay_daily_2 {τ : Tau} {k hh t9 : Nat} (h50 : ¬ τ 5 k = 0) (h5k : τ 5 k = 1) (hthr : thr τ k (nI hh) = nI t9) (hrem : nI t9 - nI t9 / 24 * 24 = nI (t9 % 24)) (c_17 : τ 9 k ≤ τ 8 k) (c_47 : ¬ (τ 8 k ≤ nI (t9 % 24))) (c_55 : ¬ (τ 9 k ≤ nI (t9 % 24))) : 1 = bI (hoB τ k (nI hh) = true) := by
  unfold hoB bI; rw [if_neg h50, hthr, hrem, if_neg (not_not_intro h5k)]; grind
theorem ay_daily_3 {τ : Tau} {k hh t9 : Nat} (h50 : ¬ τ 5 k = 0) (h5k : τ 5 k = 1) (hthr : thr τ k (nI hh) = nI t9) (hrem : nI t9 - nI t9 / 24 * 24 = nI (t9 % 24)) (c_17 : ¬ (τ 9 k ≤ τ 8 k)) (c_25 : nI (t9 % 24) < τ 8 k) : 0 = bI (hoB τ k (nI hh) = true) := by
  unfold hoB bI; rw [if_neg h50, hthr, hrem, if_neg (not_not_intro h5k)]; grind
theorem ay_daily_4 {τ : Tau} {k hh t9 : Nat} (h50 : ¬ τ 5 k = 0) (h5k : τ 5 k = 1) (hthr : thr τ k (nI hh) = nI t9) (hrem : nI t9 - nI t9 / 24 * 24 = nI (t9 % 24)) (c_17 : ¬ (τ 9 k ≤ τ 8 k)) (c_25 : ¬ (nI (t9 % 24) < τ 8 k)) (c_33 : τ 9 k ≤ nI (t9 % 24)) : 0 = bI (hoB τ k (nI hh) = true) := by
  unfold hoB bI; rw [if_neg h50, hthr, hrem, if_neg (not_not_intro h5k)]; grind
theorem ay_daily_5 {τ : Tau} {k hh t9 : Nat} (h50 : ¬ τ 5 k = 0) (h5k : τ 5 k = 1) (hthr : thr τ k (nI hh) = nI t9) (hrem : nI t9 - nI t9 / 24 * 24 = nI (t9 % 24)) (c_17 : ¬ (τ 9 k ≤ τ 8 k)) (c_25 : ¬ (nI (t9 % 24) < τ 8 k)) (c_33 : ¬ (τ 9 k ≤ nI (t9 % 24))) : 1 = bI (hoB τ k (nI hh) = true) := by
  unfold hoB bI; rw [if_neg h50, hthr, hrem, if_neg (not_not_intro h5k)]; grind
set_option maxHeartbeats 4000000 in
set_option maxRecDepth 100000 in
theorem x_onceH {l : Launch} {D : va_G} {ids : Nat → ClassId} {n0 : Nat} {RR : List Nat} {ad : Nat → Nat} {cn : Nat → va_E} {τ : Tau} {ns nl nc : Nat} {Hh : Heap} (hX : xH D ids n0 RR ad cn τ ns nl nc Hh) {nw : Nat} (hI : Iv τ nw ns nl nc) {k hh : Nat} (hk : k < nl) (hh9 : hh < 672) (h5k : τ 5 k = 0) : ro_M l yX4_holdsIn cX4_holdsIn 2 (some FieldType.boolean) { frames := 3, cells := 0, slots := 0, locals := 90 } D ids n0 [.ref (ad (40 + k)), .int (nI hh)] Hh (fun v H1 => v = some (.int (bI (hoB τ k (nI hh) = true))) ∧ Hh = H1) := by
  refine ro_ofM (by decide +kernel) (Nat.le_of_ble_eq_true rfl) ?_
  intro p e s m below meth c MC hhp hr hnm HS ls hl
  have hx := MC.1.1
  have hb := MC.1.2.1
  have hl : lv_has ls 2 [(0, .ref (ad (40 + k))), (1, .int (nI hh))] := hl
  obtain ⟨HP, hRR, sa, bm, fm, lf, ff, cf, h0, h1, h1b, h2, h2b, h7, h7b, h3, h3b, h40, h4, h4b, h60, h5, h6⟩ := id hX
  have hnl := hI.2.2.1.2
  have hf : cn (40 + k) = .inr (3, [.int (τ 6 k), .int (τ 10 k), .int (τ 8 k), .int (τ 9 k)]) := by rw [h40 k hk, frE, if_pos h5k]
  refine lv_iload_n hx hb dX4_holdsIn_0 rfl (lv_at hl 1 rfl) ?_
  refine lv_aload_n hx hb dX4_holdsIn_1 rfl (lv_at hl 0 rfl) ?_
  refine ro_get MC HP (hRR.f hk) hf (rfl : vwCl[3]? = some (RX4, TX4, 4)) inU4 2 (by decide) kw258 rfl rfl dX4_holdsIn_2 ?_
  refine lv_icmp_lt (tgt := 20) hx hb dX4_holdsIn_5 (by decide) (fun c_5 => ?_) (fun c_5 => ?_)
  · refine lv_iconst (v := 0) hx hb dX4_holdsIn_20 (by decide) ?_
    exact ro_zretM MC HS hr (by first | rfl | exact bI_nar) (⟨by rw [ay_once_0 h5k c_5], rfl⟩) (Nat.le_of_ble_eq_true rfl) (Nat.le_of_ble_eq_true rfl) dX4_holdsIn_21
  · refine lv_iload_n hx hb dX4_holdsIn_8 rfl (lv_at hl 1 rfl) ?_
    refine lv_aload_n hx hb dX4_holdsIn_9 rfl (lv_at hl 0 rfl) ?_
    refine ro_get MC HP (hRR.f hk) hf (rfl : vwCl[3]? = some (RX4, TX4, 4)) inU4 3 (by decide) kw259 rfl rfl dX4_holdsIn_10 ?_
    refine lv_icmp_ge (tgt := 20) hx hb dX4_holdsIn_13 (by decide) (fun c_13 => ?_) (fun c_13 => ?_)
    · refine lv_iconst (v := 0) hx hb dX4_holdsIn_20 (by decide) ?_
      exact ro_zretM MC HS hr (by first | rfl | exact bI_nar) (⟨by rw [ay_once_1 h5k c_5 c_13], rfl⟩) (Nat.le_of_ble_eq_true rfl) (Nat.le_of_ble_eq_true rfl) dX4_holdsIn_21
    · refine lv_iconst (v := 1) hx hb dX4_holdsIn_16 (by decide) ?_
      refine lv_goto (tgt := 21) hx hb dX4_holdsIn_17 (by decide) ?_
      exact ro_zretM MC HS hr (by first | rfl | exact bI_nar) (⟨by rw [ay_once_2 h5k c_5 c_13], rfl⟩) (Nat.le_of_ble_eq_true rfl) (Nat.le_of_ble_eq_true rfl) dX4_holdsIn_21
set_option maxHeartbeats 4000000 in
set_option maxRecDepth 100000 in
theorem x_dailyH {l : Launch} {D : va_G} {ids : Nat → ClassId} {n0 : Nat} {RR : List Nat} {ad : Nat → Nat} {cn : Nat → va_E} {τ : Tau} {ns nl nc : Nat} {Hh : Heap} (hX : xH D ids n0 RR ad cn τ ns nl nc Hh) {nw : Nat} (hI : Iv τ nw ns nl nc) {k hh : Nat} (hk : k < nl) (hh9 : hh < 672) (h50 : ¬ τ 5 k = 0) (h5k : τ 5 k = 1) : ro_M l yX2_holdsIn cX2_holdsIn 3 (some FieldType.boolean) { frames := 3, cells := 0, slots := 0, locals := 90 } D ids n0 [.ref (ad (40 + k)), .int (nI hh)] Hh (fun v H1 => v = some (.int (bI (hoB τ k (nI hh) = true))) ∧ Hh = H1) := by
  refine ro_ofM (by decide +kernel) (Nat.le_of_ble_eq_true rfl) ?_
  intro p e s m below meth c MC hhp hr hnm HS ls hl
  have hx := MC.1.1
  have hb := MC.1.2.1
  have hl : lv_has ls 3 [(0, .ref (ad (40 + k))), (1, .int (nI hh))] := hl
  obtain ⟨HP, hRR, sa, bm, fm, lf, ff, cf, h0, h1, h1b, h2, h2b, h7, h7b, h3, h3b, h40, h4, h4b, h60, h5, h6⟩ := id hX
  have hnl := hI.2.2.1.2
  obtain ⟨-, -, ⟨d9, hd, hld⟩, -⟩ := hI.2.2.2.2.2.2.2.2.2.1 k hk
  have hcd : cx (τ 7 k) = d9 := by rw [hld]; exact cx_nI (by omega)
  obtain ⟨o1, o2⟩ := hI.2.2.2.2.2.1 d9 hd
  obtain ⟨t9, ht, hte, htd, ht3⟩ := thr_ix hh9 o1 o2
  have hts : nI hh + τ 2 d9 = nI t9 - 24 := by lia
  have hrem : nI t9 - nI t9 / 24 * 24 = nI (t9 % 24) := pk_rem (a := t9) (d := 24) (by omega) (by omega) (by omega)
  have hthr : thr τ k (nI hh) = nI t9 := by unfold thr; rw [hcd]; exact hte
  have hcx : cx (30 * τ 7 k + thr τ k (nI hh) / 24) = 30 * d9 + t9 / 24 := by rw [hthr, htd, ho_ix hld hd ht3]; exact cx_nI (by omega)
  have hf : cn (40 + k) = .inr (1, [.int (τ 6 k), .int (τ 10 k), .ref (ad (7 + d9)), .int (τ 8 k), .int (τ 9 k)]) := by rw [h40 k hk, frE, if_neg h50, if_pos h5k, hcd]
  refine lv_aload_n hx hb dX2_holdsIn_0 rfl (lv_at hl 0 rfl) ?_
  refine ro_get MC HP (hRR.f hk) hf (rfl : vwCl[1]? = some (RX2, TX2, 5)) inU2 2 (by decide) kw287 rfl rfl dX2_holdsIn_1 ?_
  refine lv_iload_n hx hb dX2_holdsIn_4 rfl (lv_at hl 1 rfl) ?_
  refine ro_callV MC HS (rest := []) (As := [.int (nI hh)]) (x_hourOfDay hX hd ht hts) (lkX2_20) (kw363) (kw364) ⟨Nat.le_of_ble_eq_true rfl, Nat.le_of_ble_eq_true rfl⟩ (ro_recv MC HP (hRR.l (show 7 + d9 < 18 by omega)) (h7 d9 (by omega)) (rfl : vwCl[4]? = some (RX5, TX5, 2))) hl.1 rfl (Nat.le_of_ble_eq_true rfl) dX2_holdsIn_5 ⟨Nat.le_of_ble_eq_true rfl, Nat.le_of_ble_eq_true rfl⟩ (fun v9 H1 lH1 hp hz HS => ?_)
  obtain ⟨rfl, rfl⟩ := hp
  refine lv_istore_n (lv' := [(2, .int (nI (t9 % 24))), (0, .ref (ad (40 + k))), (1, .int (nI hh))]) hx hb dX2_holdsIn_8 rfl hl (by decide) rfl (fun ls hl => ?_)
  refine lv_aload_n hx hb dX2_holdsIn_9 rfl (lv_at hl 1 rfl) ?_
  refine ro_get MC HP (hRR.f hk) hf (rfl : vwCl[1]? = some (RX2, TX2, 5)) inU2 3 (by decide) kw288 rfl rfl dX2_holdsIn_10 ?_
  refine lv_aload_n hx hb dX2_holdsIn_13 rfl (lv_at hl 1 rfl) ?_
  refine ro_get MC HP (hRR.f hk) hf (rfl : vwCl[1]? = some (RX2, TX2, 5)) inU2 4 (by decide) kw289 rfl rfl dX2_holdsIn_14 ?_
  refine lv_icmp_ge (tgt := 42) hx hb dX2_holdsIn_17 (by decide) (fun c_17 => ?_) (fun c_17 => ?_)
  · refine lv_iload_n hx hb dX2_holdsIn_42 rfl (lv_at hl 0 rfl) ?_
    refine lv_aload_n hx hb dX2_holdsIn_43 rfl (lv_at hl 1 rfl) ?_
    refine ro_get MC HP (hRR.f hk) hf (rfl : vwCl[1]? = some (RX2, TX2, 5)) inU2 3 (by decide) kw288 rfl rfl dX2_holdsIn_44 ?_
    refine lv_icmp_ge (tgt := 58) hx hb dX2_holdsIn_47 (by decide) (fun c_47 => ?_) (fun c_47 => ?_)
    · refine lv_iconst (v := 1) hx hb dX2_holdsIn_58 (by decide) ?_
      refine lv_goto (tgt := 63) hx hb dX2_holdsIn_59 (by decide) ?_
      exact ro_zretM MC HS hr (by first | rfl | exact bI_nar) (⟨by rw [ay_daily_0 h50 h5k hthr hrem c_17 c_47], rfl⟩) (Nat.le_of_ble_eq_true rfl) (Nat.le_of_ble_eq_true rfl) dX2_holdsIn_63
    · refine lv_iload_n hx hb dX2_holdsIn_50 rfl (lv_at hl 0 rfl) ?_
      refine lv_aload_n hx hb dX2_holdsIn_51 rfl (lv_at hl 1 rfl) ?_
      refine ro_get MC HP (hRR.f hk) hf (rfl : vwCl[1]? = some (RX2, TX2, 5)) inU2 4 (by decide) kw289 rfl rfl dX2_holdsIn_52 ?_
      refine lv_icmp_ge (tgt := 62) hx hb dX2_holdsIn_55 (by decide) (fun c_55 => ?_) (fun c_55 => ?_)
      · refine lv_iconst (v := 0) hx hb dX2_holdsIn_62 (by decide) ?_
        exact ro_zretM MC HS hr (by first | rfl | exact bI_nar) (⟨by rw [ay_daily_1 h50 h5k hthr hrem c_17 c_47 c_55], rfl⟩) (Nat.le_of_ble_eq_true rfl) (Nat.le_of_ble_eq_true rfl) dX2_holdsIn_63
      · refine lv_iconst (v := 1) hx hb dX2_holdsIn_58 (by decide) ?_
        refine lv_goto (tgt := 63) hx hb dX2_holdsIn_59 (by decide) ?_
        exact ro_zretM MC HS hr (by first | rfl | exact bI_nar) (⟨by rw [ay_daily_2 h50 h5k hthr hrem c_17 c_47 c_55], rfl⟩) (Nat.le_of_ble_eq_true rfl) (Nat.le_of_ble_eq_true rfl) dX2_holdsIn_63
  · refine lv_iload_n hx hb dX2_holdsIn_20 rfl (lv_at hl 0 rfl) ?_
    refine lv_aload_n hx hb dX2_holdsIn_21 rfl (lv_at hl 1 rfl) ?_
    refine ro_get MC HP (hRR.f hk) hf (rfl : vwCl[1]? = some (RX2, TX2, 5)) inU2 3 (by decide) kw288 rfl rfl dX2_holdsIn_22 ?_
    refine lv_icmp_lt (tgt := 40) hx hb dX2_holdsIn_25 (by decide) (fun c_25 => ?_) (fun c_25 => ?_)
    · refine lv_iconst (v := 0) hx hb dX2_holdsIn_40 (by decide) ?_
      exact ro_zretM MC HS hr (by first | rfl | exact bI_nar) (⟨by rw [ay_daily_3 h50 h5k hthr hrem c_17 c_25], rfl⟩) (Nat.le_of_ble_eq_true rfl) (Nat.le_of_ble_eq_true rfl) dX2_holdsIn_41
    · refine lv_iload_n hx hb dX2_holdsIn_28 rfl (lv_at hl 0 rfl) ?_
      refine lv_aload_n hx hb dX2_holdsIn_29 rfl (lv_at hl 1 rfl) ?_
      refine ro_get MC HP (hRR.f hk) hf (rfl : vwCl[1]? = some (RX2, TX2, 5)) inU2 4 (by decide) kw289 rfl rfl dX2_holdsIn_30 ?_
      refine lv_icmp_ge (tgt := 40) hx hb dX2_holdsIn_33 (by decide) (fun c_33 => ?_) (fun c_33 => ?_)
      · refine lv_iconst (v := 0) hx hb dX2_holdsIn_40 (by decide) ?_
        exact ro_zretM MC HS hr (by first | rfl | exact bI_nar) (⟨by rw [ay_daily_4 h50 h5k hthr hrem c_17 c_25 c_33], rfl⟩) (Nat.le_of_ble_eq_true rfl) (Nat.le_of_ble_eq_true rfl) dX2_holdsIn_41
      · refine lv_iconst (v := 1) hx hb dX2_holdsIn_36 (by decide) ?_
        refine lv_goto (tgt := 41) hx hb dX2_holdsIn_37 (by decide) ?_
        exact ro_zretM MC HS hr (by first | rfl | exact bI_nar) (⟨by rw [ay_daily_5 h50 h5k hthr hrem c_17 c_25 c_33], rfl⟩) (Nat.le_of_ble_eq_true rfl) (Nat.le_of_ble_eq_true rfl) dX2_holdsIn_41
set_option maxHeartbeats 4000000 in
set_option maxRecDepth 100000 in
theorem x_feastsH {l : Launch} {D : va_G} {ids : Nat → ClassId} {n0 : Nat} {RR : List Nat} {ad : Nat → Nat} {cn : Nat → va_E} {τ : Tau} {ns nl nc : Nat} {Hh : Heap} (hX : xH D ids n0 RR ad cn τ ns nl nc Hh) {nw : Nat} (hI : Iv τ nw ns nl nc) {k hh : Nat} (hk : k < nl) (hh9 : hh < 672) (h50 : ¬ τ 5 k = 0) (h5k : ¬ τ 5 k = 1) : ro_M l yX3_holdsIn cX3_holdsIn 2 (some FieldType.boolean) { frames := 3, cells := 0, slots := 0, locals := 90 } D ids n0 [.ref (ad (40 + k)), .int (nI hh)] Hh (fun v H1 => v = some (.int (bI (hoB τ k (nI hh) = true))) ∧ Hh = H1) := by
  refine ro_ofM (by decide +kernel) (Nat.le_of_ble_eq_true rfl) ?_
  intro p e s m below meth c MC hhp hr hnm HS ls hl
  have hx := MC.1.1
  have hb := MC.1.2.1
  have hl : lv_has ls 2 [(0, .ref (ad (40 + k))), (1, .int (nI hh))] := hl
  obtain ⟨HP, hRR, sa, bm, fm, lf, ff, cf, h0, h1, h1b, h2, h2b, h7, h7b, h3, h3b, h40, h4, h4b, h60, h5, h6⟩ := id hX
  have hnl := hI.2.2.1.2
  obtain ⟨-, -, ⟨d9, hd, hld⟩, -⟩ := hI.2.2.2.2.2.2.2.2.2.1 k hk
  have hcd : cx (τ 7 k) = d9 := by rw [hld]; exact cx_nI (by omega)
  obtain ⟨o1, o2⟩ := hI.2.2.2.2.2.1 d9 hd
  obtain ⟨t9, ht, hte, htd, ht3⟩ := thr_ix hh9 o1 o2
  have hts : nI hh + τ 2 d9 = nI t9 - 24 := by lia
  have hrem : nI t9 - nI t9 / 24 * 24 = nI (t9 % 24) := pk_rem (a := t9) (d := 24) (by omega) (by omega) (by omega)
  have hthr : thr τ k (nI hh) = nI t9 := by unfold thr; rw [hcd]; exact hte
  have hcx : cx (30 * τ 7 k + thr τ k (nI hh) / 24) = 30 * d9 + t9 / 24 := by rw [hthr, htd, ho_ix hld hd ht3]; exact cx_nI (by omega)
  have hf : cn (40 + k) = .inr (2, [.int (τ 6 k), .int (τ 10 k), .ref (ad (7 + d9))]) := by rw [h40 k hk, frE, if_neg h50, if_neg h5k, hcd]
  refine lv_aload_n hx hb dX3_holdsIn_0 rfl (lv_at hl 0 rfl) ?_
  refine ro_get MC HP (hRR.f hk) hf (rfl : vwCl[2]? = some (RX3, TX3, 3)) inU3 2 (by decide) kw309 rfl rfl dX3_holdsIn_1 ?_
  refine lv_aload_n hx hb dX3_holdsIn_4 rfl (lv_at hl 0 rfl) ?_
  refine ro_get MC HP (hRR.f hk) hf (rfl : vwCl[2]? = some (RX3, TX3, 3)) inU3 2 (by decide) kw309 rfl rfl dX3_holdsIn_5 ?_
  refine lv_iload_n hx hb dX3_holdsIn_8 rfl (lv_at hl 1 rfl) ?_
  refine ro_callV MC HS (rest := [.ref (ad (7 + d9))]) (As := [.int (nI hh)]) (x_dayOf hX hd ht hts) (lkX3_13) (kw373) (kw374) ⟨Nat.le_of_ble_eq_true rfl, Nat.le_of_ble_eq_true rfl⟩ (ro_recv MC HP (hRR.l (show 7 + d9 < 18 by omega)) (h7 d9 (by omega)) (rfl : vwCl[4]? = some (RX5, TX5, 2))) hl.1 rfl (Nat.le_of_ble_eq_true rfl) dX3_holdsIn_9 ⟨Nat.le_of_ble_eq_true rfl, Nat.le_of_ble_eq_true rfl⟩ (fun v9 H1 lH1 hp hz HS => ?_)
  obtain ⟨rfl, rfl⟩ := hp
  refine ro_callV MC HS (rest := []) (As := [.int ((nI (t9 / 24) - 1))]) (x_isFeastDay hX hd ht3 (by lia)) (lkX3_19) (kw225) (kw226) ⟨Nat.le_of_ble_eq_true rfl, Nat.le_of_ble_eq_true rfl⟩ (ro_recv MC HP (hRR.l (show 7 + d9 < 18 by omega)) (h7 d9 (by omega)) (rfl : vwCl[4]? = some (RX5, TX5, 2))) hl.1 rfl (Nat.le_of_ble_eq_true rfl) dX3_holdsIn_12 ⟨Nat.le_of_ble_eq_true rfl, Nat.le_of_ble_eq_true rfl⟩ (fun v9 H2 lH2 hp hz HS => ?_)
  obtain ⟨rfl, rfl⟩ := hp
  exact ro_zretM MC HS hr (by first | rfl | exact bI_nar) (⟨by unfold hoB; rw [if_neg h50, if_pos h5k, hcx], rfl⟩) (Nat.le_of_ble_eq_true rfl) (Nat.le_of_ble_eq_true rfl) dX3_holdsIn_15
set_option maxHeartbeats 4000000 in
theorem xo_holds {p : Program} {l : Launch} {e : Env} {R : Room} {s : State} {m : MethodId} {args : Array Value} {below : List Frame} {meth : Method} {c : Code} {locs : List Loc} {cells slots : Nat} {Q : State → Prop} {cc : ByteArray} {nL : Nat} {pc : Nat} {ls : Array Slot} {rest : List Value} {x : Int32} {D : va_G} {ids : Nat → ClassId} {n0 : Nat} {RR : List Nat} {ad : Nat → Nat} {cn : Nat → va_E} {τ : Tau} {ns nl nc : Nat} {Hh : Heap} (hX : xH D ids n0 RR ad cn τ ns nl nc Hh) {nw : Nat} (hI : Iv τ nw ns nl nc) (MC : ro_C p s m args meth c cc nL "FrostCalendar" D ids n0) (HS : va_S (fun q => n0 ≤ q) s.heap Hh locs) {k hh : Nat} (hk : k < nl) (hh9 : hh < 672) (hx9 : x = nI hh) (hsize : ls.size = nL) (hcat : (rest.map fun v => v.category).sum ≤ 8) (hR : 4 ≤ R.frames ∧ 120 ≤ R.locals) (hdg : decode cc pc = .ok (.invokevirtual 114, 3)) (hf : cells + 0 ≤ R.cells ∧ slots + 0 ≤ R.slots)
    (kk : ∀ (locs1 : List Loc), va_S (fun q => n0 ≤ q) s.heap Hh locs1 → W p l e R s m args below meth c Hh locs1 (cells + 0) (slots + 0) Q (F0 m (pc + 3) ls (.int (bI (hoB τ k (nI hh) = true)) :: rest))) : W p l e R s m args below meth c Hh locs cells slots Q (F0 m pc ls (.int x :: .ref (ad (40 + k)) :: rest)) := by
  subst hx9
  obtain ⟨HP, hRR, sa, bm, fm, lf, ff, cf, h0, h1, h1b, h2, h2b, h7, h7b, h3, h3b, h40, h4, h4b, h60, h5, h6⟩ := id hX
  by_cases h50 : τ 5 k = 0
  · refine ro_callA MC HS (rest := rest) (As := [.int (nI hh)]) (C := "FrostCalendar$FreezeOnce") (owner := "FrostCalendar$Freeze") (x := ⟨"FrostCalendar$Freeze", "holdsIn", "(I)Z"⟩) (x_onceH hX hI hk hh9 h50) kw382 kw356 kw358 kw380 kw381 kw26 (by decide +kernel) ⟨by decide +kernel, by decide +kernel, (by show _ = some 1; decide +kernel)⟩ ⟨by show 3 + 1 ≤ R.frames; omega, by show 8 + (2 + 11) + 90 ≤ R.locals; omega⟩ (ro_recv MC HP (hRR.f hk) (by rw [h40 k hk, frE, if_pos h50]) (rfl : vwCl[3]? = some (RX4, TX4, 4))) hsize rfl hcat hdg hf (fun v9 H9 l9 hp hz HS => ?_)
    obtain ⟨rfl, rfl⟩ := hp
    exact kk l9 HS
  · by_cases h51 : τ 5 k = 1
    · refine ro_callA MC HS (rest := rest) (As := [.int (nI hh)]) (C := "FrostCalendar$FreezeDaily") (owner := "FrostCalendar$Freeze") (x := ⟨"FrostCalendar$Freeze", "holdsIn", "(I)Z"⟩) (x_dailyH hX hI hk hh9 h50 h51) kw361 kw356 kw358 kw359 kw360 kw27 (by decide +kernel) ⟨by decide +kernel, by decide +kernel, (by show _ = some 1; decide +kernel)⟩ ⟨by show 3 + 1 ≤ R.frames; omega, by show 8 + (3 + 11) + 90 ≤ R.locals; omega⟩ (ro_recv MC HP (hRR.f hk) (by rw [h40 k hk, frE, if_neg h50, if_pos h51]) (rfl : vwCl[1]? = some (RX2, TX2, 5))) hsize rfl hcat hdg hf (fun v9 H9 l9 hp hz HS => ?_)
      obtain ⟨rfl, rfl⟩ := hp
      exact kk l9 HS
    · refine ro_callA MC HS (rest := rest) (As := [.int (nI hh)]) (C := "FrostCalendar$FreezeOnFeasts") (owner := "FrostCalendar$Freeze") (x := ⟨"FrostCalendar$Freeze", "holdsIn", "(I)Z"⟩) (x_feastsH hX hI hk hh9 h50 h51) kw371 kw356 kw358 kw369 kw370 kw28 (by decide +kernel) ⟨by decide +kernel, by decide +kernel, (by show _ = some 1; decide +kernel)⟩ ⟨by show 3 + 1 ≤ R.frames; omega, by show 8 + (2 + 11) + 90 ≤ R.locals; omega⟩ (ro_recv MC HP (hRR.f hk) (by rw [h40 k hk, frE, if_neg h50, if_neg h51]) (rfl : vwCl[2]? = some (RX3, TX3, 3))) hsize rfl hcat hdg hf (fun v9 H9 l9 hp hz HS => ?_)
      obtain ⟨rfl, rfl⟩ := hp
      exact kk l9 HS
end
section
/-! sets of freezes, in numbers -/
theorem mk_same {p : Nat → Bool} {k : Nat} (h : p k = false) : mk p k = mk p (k + 1) := by simp [mk, h]
abbrev tsB (τ : Tau) (nl i : Nat) : Nat → Bool := fun k => decide (k < nl) && τ 4 k == 0 && touS τ k (nI i)
abbrev haB (τ : Tau) (nl : Nat) (a : Int32) (hh : Nat) : Nat → Bool := fun k => decide (k < nl) && τ 4 k == 0 && bit a k && hoB τ k (nI hh)
theorem mk_lay {p q : Nat → Bool} {nl : Nat} (hnl : nl ≤ 20) (h : ∀ k, k < 20 → p k = (decide (k < nl) && q k)) : mk p 20 = mk q nl := by
  rw [mk_tail (m := nl) hnl (fun k h1 h2 => by rw [h k h2]; simp; omega)]
  exact mk_ext fun k hk => by rw [h k (by omega)]; simp [hk]
theorem hoS_eq {τ : Tau} {nl i hh : Nat} (hnl : nl ≤ 20) (hcs : cx (τ 0 2) = nl) : mk (haB τ nl (mk (tsB τ nl i) 20) hh) 20 = hoS τ (nI i) (nI hh) := by
  unfold hoS
  rw [hcs]
  refine mk_lay hnl fun k hk => ?_
  show (decide (k < nl) && τ 4 k == 0 && bit (mk (tsB τ nl i) 20) k && hoB τ k (nI hh)) = _
  rw [bit_mk _ 20 (by omega) k (by omega)]
  simp only [tsB]
  cases decide (k < nl) <;> cases (τ 4 k == 0) <;> simp [hk]
/-- x is the set of the freezes that touch the change c and from which it isn't excused -/
def isAg (τ : Tau) (nl c : Nat) (x : Int32) : Prop := ∀ q, q < 20 → bit x q = (decide (q < nl) && tch τ q c && !exB τ c q)
theorem agn_eq {τ : Tau} {nl c hh : Nat} {x : Int32} (hnl : nl ≤ 20) (hcs : cx (τ 0 2) = nl) (hx : isAg τ nl c x) : mk (haB τ nl x hh) 20 = agn τ c (nI hh) := by
  unfold agn
  rw [hcs]
  refine mk_lay hnl fun k hk => ?_
  show (decide (k < nl) && τ 4 k == 0 && bit x k && hoB τ k (nI hh)) = _
  rw [hx k hk]
  unfold tch
  cases decide (k < nl) <;> cases (τ 4 k == 0) <;> cases exB τ c k <;> simp
/-- any of the freezes of the set x, number below n, holds in the hour -/
def anB (τ : Tau) (x : Int32) (hh : Nat) : Nat → Bool
  | 0 => false
  | n + 1 => anB τ x hh n || (bit x n && hoB τ n (nI hh))
theorem anB_f {τ : Tau} {x : Int32} {hh : Nat} : ∀ {n : Nat}, anB τ x hh n = false ↔ ∀ k, k < n → (bit x k && hoB τ k (nI hh)) = false
  | 0 => by simp [anB]
  | n + 1 => by
    rw [anB, Bool.or_eq_false_iff, anB_f]
    constructor
    · intro h k hk
      rcases Nat.lt_or_ge k n with h1 | h1
      · exact h.1 k h1
      · rw [show k = n by omega]; exact h.2
    · intro h
      exact ⟨fun k hk => h k (by omega), h n (by omega)⟩
theorem anB_bad {τ : Tau} {nl c : Nat} {x : Int32} {b j : Nat} (hnl : nl ≤ 20) (hcs : cx (τ 0 2) = nl) (hx : isAg τ nl c x) (hb : τ 12 c = nI b) : anB τ x (b + j) 20 = badB τ c j := by
  unfold badB
  rw [hr_add hb]
  have h1 : agn τ c (nI (b + j)) = 0 ↔ anB τ x (b + j) 20 = false := by
    rw [anB_f]
    unfold agn
    rw [hcs, mk_z (by omega)]
    constructor
    · intro h k hk
      rw [hx k hk]
      by_cases hn : k < nl
      · have := h k hn
        cases h3 : exB τ c k <;> cases h4 : tch τ k c <;> simp_all
      · simp [hn]
    · intro h k hk
      have := h k (by omega)
      rw [hx k (by omega)] at this
      cases h3 : exB τ c k <;> cases h4 : tch τ k c <;> simp_all
  cases h2 : anB τ x (b + j) 20 with
  | false => rw [h1.mpr h2]; rfl
  | true =>
    have : ¬ agn τ c (nI (b + j)) = 0 := fun h => by rw [h1.mp h] at h2; cases h2
    simp [this]
theorem ct_or (p q : Nat → Bool) : ∀ n, ct p n + ct (fun j => !p j && q j) n = ct (fun j => p j || q j) n
  | 0 => rfl
  | n + 1 => by
    have := ct_or p q n
    simp only [ct]
    by_cases h1 : p n = true <;> by_cases h2 : q n = true <;> simp [h1, h2] <;> omega
theorem ct_ext {p q : Nat → Bool} : ∀ {n : Nat}, (∀ k, k < n → p k = q k) → ct p n = ct q n
  | 0, _ => rfl
  | n + 1, h => by rw [ct, ct, ct_ext (fun k hk => h k (by omega)), h n (by omega)]
theorem ct_none {p : Nat → Bool} : ∀ {n : Nat}, (∀ k, k < n → p k = false) → ct p n = 0
  | 0, _ => rfl
  | n + 1, h => by rw [ct, ct_none (fun k hk => h k (by omega)), h n (by omega)]; rfl
theorem fst1_go {p : Nat → Bool} {n i : Nat} (h : p i = false) : fst1 p (n + 1) i = fst1 p n (i + 1) := by rw [fst1, if_neg (by rw [h]; decide)]
theorem fst1_st {p : Nat → Bool} {n i : Nat} (h : p i = true) : fst1 p (n + 1) i = some i := by rw [fst1, if_pos h]
theorem isX.marks {ids : Nat → ClassId} {ad : Nat → Nat} {cn : Nat → va_E} {τ : Tau} {ns nl nc : Nat} {sa bm fm : Nat → Int32} {lf ff cf : Nat → Option Nat} (h : isX ids ad cn τ ns nl nc sa bm fm lf ff cf) (hnl : nl ≤ 20) (bm2 : Nat → Int32) : isX ids ad (va_up cn 6 (.inl (ids 1, 100, .inl bm2))) τ ns nl nc sa bm2 fm lf ff cf := by
  obtain ⟨h0, h1, h1b, h2, h2b, h7, h7b, h3, h3b, h40, h4, h4b, h60, h5, h6⟩ := h
  refine ⟨?_, ?_, h1b, ?_, h2b, ?_, h7b, ?_, h3b, ?_, ?_, h4b, ?_, ?_, va_up_self ..⟩
  · rw [va_up_ne _ _ (by omega)]; exact h0
  · rw [va_up_ne _ _ (by omega)]; exact h1
  · rw [va_up_ne _ _ (by omega)]; exact h2
  · intro j hj; rw [va_up_ne _ _ (by omega)]; exact h7 j hj
  · rw [va_up_ne _ _ (by omega)]; exact h3
  · intro k hk; rw [va_up_ne _ _ (by omega)]; exact h40 k hk
  · rw [va_up_ne _ _ (by omega)]; exact h4
  · intro k hk; rw [va_up_ne _ _ (by omega)]; exact h60 k hk
  · rw [va_up_ne _ _ (by omega)]; exact h5
/-- the calendar with its marks -/
def xB (D : va_G) (ids : Nat → ClassId) (n0 : Nat) (RR : List Nat) (ad : Nat → Nat) (cn : Nat → va_E) (τ : Tau) (ns nl nc : Nat) (bm : Nat → Int32) (H : Heap) : Prop := ro_P D n0 RR ad cn H ∧ isR RR nl nc ∧ ∃ (sa fm : Nat → Int32) (lf ff cf : Nat → Option Nat), isX ids ad cn τ ns nl nc sa bm fm lf ff cf
theorem xB.h {D : va_G} {ids : Nat → ClassId} {n0 : Nat} {RR : List Nat} {ad : Nat → Nat} {cn : Nat → va_E} {τ : Tau} {ns nl nc : Nat} {bm : Nat → Int32} {H : Heap} (h : xB D ids n0 RR ad cn τ ns nl nc bm H) : xH D ids n0 RR ad cn τ ns nl nc H := by
  obtain ⟨h1, h2, sa, fm, lf, ff, cf, h3⟩ := h
  exact ⟨h1, h2, sa, bm, fm, lf, ff, cf, h3⟩
theorem xH.b {D : va_G} {ids : Nat → ClassId} {n0 : Nat} {RR : List Nat} {ad : Nat → Nat} {cn : Nat → va_E} {τ : Tau} {ns nl nc : Nat} {H : Heap} (h : xH D ids n0 RR ad cn τ ns nl nc H) : ∃ bm, xB D ids n0 RR ad cn τ ns nl nc bm H := by
  obtain ⟨h1, h2, sa, bm, fm, lf, ff, cf, h3⟩ := h
  exact ⟨bm, h1, h2, sa, fm, lf, ff, cf, h3⟩
/-- cn1 is cn but for role 6 -/
def eq6 (cn cn1 : Nat → va_E) : Prop := ∀ r, r ≠ 6 → cn1 r = cn r
theorem eq6.rf (cn : Nat → va_E) : eq6 cn cn := fun _ _ => rfl
theorem eq6.up {cn cn1 : Nat → va_E} {e : va_E} (h : eq6 cn cn1) : eq6 cn (va_up cn1 6 e) := fun r hr => by rw [va_up_ne _ _ hr]; exact h r hr
theorem eq6.tr {cn cn1 cn2 : Nat → va_E} (h : eq6 cn cn1) (h2 : eq6 cn1 cn2) : eq6 cn cn2 := fun r hr => (h2 r hr).trans (h r hr)
end
section
set_option maxHeartbeats 4000000 in
set_option maxRecDepth 100000 in
theorem x_isOne {l : Launch} {D : va_G} {ids : Nat → ClassId} {n0 : Nat} {RR : List Nat} {ad : Nat → Nat} {cn : Nat → va_E} {τ : Tau} {ns nl nc : Nat} {Hh : Heap} (hX : xH D ids n0 RR ad cn τ ns nl nc Hh) {nw : Nat} (hI : Iv τ nw ns nl nc) {i j : Nat} (hi : i < ns) (hj : j < ns) : ro_M l yX6_isOneInTheOther cX6_isOneInTheOther 3 (some FieldType.boolean) { frames := 1, cells := 0, slots := 0, locals := 30 } D ids n0 [.ref (ad 0), .int (nI i), .int (nI j)] Hh (fun v H1 => v = some (.int (bI ((bel (τ 1) 16 i j || bel (τ 1) 16 j i) = true))) ∧ Hh = H1) := by
  refine ro_ofM (by decide +kernel) (Nat.le_of_ble_eq_true rfl) ?_
  intro p e s m below meth c MC hhp hr hnm HS ls hl
  have hx := MC.1.1
  have hb := MC.1.2.1
  have hl : lv_has ls 3 [(0, .ref (ad 0)), (1, .int (nI i)), (2, .int (nI j))] := hl
  obtain ⟨HP, hRR, sa, bm, fm, lf, ff, cf, h0, h1, h1b, h2, h2b, h7, h7b, h3, h3b, h40, h4, h4b, h60, h5, h6⟩ := id hX
  have hnl := hI.2.2.1.2
  have hns := hI.2.1.2.2
  have hcs : cx (τ 0 2) = nl := by rw [hI.2.2.1.1]; exact cx_nI (by omega)
  refine lv_aload_n hx hb dX6_isOneInTheOther_0 rfl (lv_at hl 0 rfl) ?_
  refine ro_get MC HP (hRR.l (by decide)) h0 (rfl : vwCl[5]? = some (RX6, TX6, 11)) inU6 0 (by decide) kw61 rfl rfl dX6_isOneInTheOther_1 ?_
  refine lv_iload_n hx hb dX6_isOneInTheOther_4 rfl (lv_at hl 1 rfl) ?_
  refine xo_iald MC HP (hRR.l (show 1 < 18 by omega)) h1 i (show i < 16 by omega) (by omega) rfl dX6_isOneInTheOther_5 ?_
  refine lv_iload_n hx hb dX6_isOneInTheOther_6 rfl (lv_at hl 2 rfl) ?_
  refine ro_callS MC HS (rest := []) (As := [.int (sa i), .int (nI j)]) (x_isInSet D ids n0 (sa i) j) (lkX6_178) (kw229) ⟨Nat.le_of_ble_eq_true rfl, Nat.le_of_ble_eq_true rfl⟩ hl.1 rfl (Nat.le_of_ble_eq_true rfl) dX6_isOneInTheOther_7 ⟨Nat.le_of_ble_eq_true rfl, Nat.le_of_ble_eq_true rfl⟩ (fun v9 H1 lH1 hp hz HS => ?_)
  obtain ⟨rfl, rfl⟩ := hp
  refine lv_if_ne (tgt := 26) hx hb dX6_isOneInTheOther_10 (by decide) (fun c_10 => ?_) (fun c_10 => ?_)
  · have f_10 := bI_n0.mp c_10
    refine lv_iconst (v := 1) hx hb dX6_isOneInTheOther_26 (by decide) ?_
    refine lv_goto (tgt := 31) hx hb dX6_isOneInTheOther_27 (by decide) ?_
    exact ro_zretM MC HS hr (by first | rfl | exact bI_nar) (⟨by rw [← h1b i hi j (by omega), ← h1b j hj i (by omega)]; rw [bI_t (by simp [f_10])], rfl⟩) (Nat.le_of_ble_eq_true rfl) (Nat.le_of_ble_eq_true rfl) dX6_isOneInTheOther_31
  · have f_10 := bI_0.mp c_10
    refine lv_aload_n hx hb dX6_isOneInTheOther_13 rfl (lv_at hl 0 rfl) ?_
    refine ro_get MC HP (hRR.l (by decide)) h0 (rfl : vwCl[5]? = some (RX6, TX6, 11)) inU6 0 (by decide) kw61 rfl rfl dX6_isOneInTheOther_14 ?_
    refine lv_iload_n hx hb dX6_isOneInTheOther_17 rfl (lv_at hl 2 rfl) ?_
    refine xo_iald MC HP (hRR.l (show 1 < 18 by omega)) h1 j (show j < 16 by omega) (by omega) rfl dX6_isOneInTheOther_18 ?_
    refine lv_iload_n hx hb dX6_isOneInTheOther_19 rfl (lv_at hl 1 rfl) ?_
    refine ro_callS MC HS (rest := []) (As := [.int (sa j), .int (nI i)]) (x_isInSet D ids n0 (sa j) i) (lkX6_178) (kw229) ⟨Nat.le_of_ble_eq_true rfl, Nat.le_of_ble_eq_true rfl⟩ hl.1 rfl (Nat.le_of_ble_eq_true rfl) dX6_isOneInTheOther_20 ⟨Nat.le_of_ble_eq_true rfl, Nat.le_of_ble_eq_true rfl⟩ (fun v9 H2 lH2 hp hz HS => ?_)
    obtain ⟨rfl, rfl⟩ := hp
    refine lv_if_eq (tgt := 30) hx hb dX6_isOneInTheOther_23 (by decide) (fun c_23 => ?_) (fun c_23 => ?_)
    · have f_23 := bI_0.mp c_23
      refine lv_iconst (v := 0) hx hb dX6_isOneInTheOther_30 (by decide) ?_
      exact ro_zretM MC HS hr (by first | rfl | exact bI_nar) (⟨by rw [← h1b i hi j (by omega), ← h1b j hj i (by omega)]; rw [bI_f (by simp [f_10, f_23])], rfl⟩) (Nat.le_of_ble_eq_true rfl) (Nat.le_of_ble_eq_true rfl) dX6_isOneInTheOther_31
    · have f_23 := bI_n0.mp c_23
      refine lv_iconst (v := 1) hx hb dX6_isOneInTheOther_26 (by decide) ?_
      refine lv_goto (tgt := 31) hx hb dX6_isOneInTheOther_27 (by decide) ?_
      exact ro_zretM MC HS hr (by first | rfl | exact bI_nar) (⟨by rw [← h1b i hi j (by omega), ← h1b j hj i (by omega)]; rw [bI_t (by simp [f_10, f_23])], rfl⟩) (Nat.le_of_ble_eq_true rfl) (Nat.le_of_ble_eq_true rfl) dX6_isOneInTheOther_31
set_option maxHeartbeats 4000000 in
set_option maxRecDepth 100000 in
theorem x_touchScope {l : Launch} {D : va_G} {ids : Nat → ClassId} {n0 : Nat} {RR : List Nat} {ad : Nat → Nat} {cn : Nat → va_E} {τ : Tau} {ns nl nc : Nat} {Hh : Heap} (hX : xH D ids n0 RR ad cn τ ns nl nc Hh) {nw : Nat} (hI : Iv τ nw ns nl nc) {i : Nat} (hi : i < ns) : ro_M l yX6_freezesTouchingScope cX6_freezesTouchingScope 5 (some FieldType.int) { frames := 2, cells := 0, slots := 0, locals := 60 } D ids n0 [.ref (ad 0), .int (nI i)] Hh (fun v H1 => v = some (.int (mk (tsB τ nl i) 20)) ∧ Hh = H1) := by
  refine ro_ofM (by decide +kernel) (Nat.le_of_ble_eq_true rfl) ?_
  intro p e s m below meth c MC hhp hr hnm HS ls hl
  have hx := MC.1.1
  have hb := MC.1.2.1
  have hl : lv_has ls 5 [(0, .ref (ad 0)), (1, .int (nI i))] := hl
  obtain ⟨HP, hRR, sa, bm, fm, lf, ff, cf, h0, h1, h1b, h2, h2b, h7, h7b, h3, h3b, h40, h4, h4b, h60, h5, h6⟩ := id hX
  have hnl := hI.2.2.1.2
  have hns := hI.2.1.2.2
  have hcs : cx (τ 0 2) = nl := by rw [hI.2.2.1.1]; exact cx_nI (by omega)
  have loop : ∀ k : Nat, k ≤ 20 → ∀ (locs : List Loc) (ls : Array Slot), va_S (fun q => n0 ≤ q) s.heap Hh locs → lv_has ls 5 [(3, .int (nI k)), (2, .int (mk (tsB τ nl i) k)), (0, .ref (ad 0)), (1, .int (nI i))] → W p l e { frames := 2, cells := 0, slots := 0, locals := 60 } s m ([.ref (ad 0), .int (nI i)] : List Value).toArray below meth c Hh locs 0 0 (MQ below (ro_Q n0 (fun v H1 => v = some (.int (mk (tsB τ nl i) 20)) ∧ Hh = H1)) ([.ref (ad 0), .int (nI i)] : List Value).toArray s 0 0 (fun q => n0 ≤ q)) (F0 m 4 ls []) := by
    refine ro_loop (20) (fun k : Nat => ∀ (locs : List Loc) (ls : Array Slot), va_S (fun q => n0 ≤ q) s.heap Hh locs → lv_has ls 5 [(3, .int (nI k)), (2, .int (mk (tsB τ nl i) k)), (0, .ref (ad 0)), (1, .int (nI i))] → W p l e { frames := 2, cells := 0, slots := 0, locals := 60 } s m ([.ref (ad 0), .int (nI i)] : List Value).toArray below meth c Hh locs 0 0 (MQ below (ro_Q n0 (fun v H1 => v = some (.int (mk (tsB τ nl i) 20)) ∧ Hh = H1)) ([.ref (ad 0), .int (nI i)] : List Value).toArray s 0 0 (fun q => n0 ≤ q)) (F0 m 4 ls [])) ?_ ?_
    · intro locs ls HS hl
      refine lv_iload_n hx hb dX6_freezesTouchingScope_4 rfl (lv_at hl 0 rfl) ?_
      refine lv_bipush (v := 20) hx hb dX6_freezesTouchingScope_5 (by decide) ?_
      refine lv_icmp_ge (tgt := 48) hx hb dX6_freezesTouchingScope_7 (by decide) (fun c_7 => ?_) (fun c_7 => absurd (kn_le (n := 20) rfl (Nat.le_refl _) (by omega)) c_7)
      refine lv_iload_n hx hb dX6_freezesTouchingScope_48 rfl (lv_at hl 1 rfl) ?_
      exact ro_iretM MC HS hr (⟨rfl, rfl⟩) (Nat.le_of_ble_eq_true rfl) (Nat.le_of_ble_eq_true rfl) dX6_freezesTouchingScope_49
    · intro k hkk ih locs ls HS hl
      refine lv_iload_n hx hb dX6_freezesTouchingScope_4 rfl (lv_at hl 0 rfl) ?_
      refine lv_bipush (v := 20) hx hb dX6_freezesTouchingScope_5 (by decide) ?_
      refine lv_icmp_ge (tgt := 48) hx hb dX6_freezesTouchingScope_7 (by decide) (fun c_7 => absurd c_7 (kn_nle (n := 20) rfl hkk (by omega))) (fun c_7 => ?_)
      refine lv_aload_n hx hb dX6_freezesTouchingScope_10 rfl (lv_at hl 2 rfl) ?_
      refine ro_get MC HP (hRR.l (by decide)) h0 (rfl : vwCl[5]? = some (RX6, TX6, 11)) inU6 4 (by decide) kw65 rfl rfl dX6_freezesTouchingScope_11 ?_
      refine lv_iload_n hx hb dX6_freezesTouchingScope_14 rfl (lv_at hl 0 rfl) ?_
      by_cases hz_15 : k < nl ∧ τ 4 k = 0
      · have hz_15n := hz_15.1
        refine xo_aald MC HP 4 (hRR.l (by decide)) h3 rfl k (show k < 20 by omega) (by omega) ((h3b k (by omega)).trans (if_pos hz_15)) rfl dX6_freezesTouchingScope_15 ?_
        refine lv_astore (lv' := [(4, .ref (ad (40 + k))), (3, .int (nI k)), (2, .int (mk (tsB τ nl i) k)), (0, .ref (ad 0)), (1, .int (nI i))]) hx hb dX6_freezesTouchingScope_16 hl (by decide) rfl (fun ls hl => ?_)
        refine lv_aload hx hb dX6_freezesTouchingScope_18 (lv_at hl 0 rfl) ?_
        refine lv_ifnull hx hb dX6_freezesTouchingScope_20 ?_
        refine lv_aload_n hx hb dX6_freezesTouchingScope_23 rfl (lv_at hl 3 rfl) ?_
        refine lv_aload hx hb dX6_freezesTouchingScope_24 (lv_at hl 0 rfl) ?_
        refine xo_fscope MC HP (hRR.f (show k < nl by omega)) (h40 k (by omega)) dX6_freezesTouchingScope_26 ?_
        refine lv_iload_n hx hb dX6_freezesTouchingScope_29 rfl (lv_at hl 4 rfl) ?_
        obtain ⟨-, ⟨u, hu, hsu⟩, -, -⟩ := hI.2.2.2.2.2.2.2.2.2.1 k hz_15.1
        have hcu : cx (τ 6 k) = u := by rw [hsu]; exact cx_nI (by omega)
        refine ro_callV MC HS (rest := []) (As := [.int (τ 6 k), .int (nI i)]) (by rw [hsu]; exact x_isOne hX hI hu hi) (lkX6_223) (kw349) (kw7) ⟨Nat.le_of_ble_eq_true rfl, Nat.le_of_ble_eq_true rfl⟩ (ro_recv MC HP (hRR.l (by decide)) h0 (rfl : vwCl[5]? = some (RX6, TX6, 11))) hl.1 rfl (Nat.le_of_ble_eq_true rfl) dX6_freezesTouchingScope_30 ⟨Nat.le_of_ble_eq_true rfl, Nat.le_of_ble_eq_true rfl⟩ (fun v9 H1 lH1 hp hz HS => ?_)
        obtain ⟨rfl, rfl⟩ := hp
        refine lv_if_eq (tgt := 42) hx hb dX6_freezesTouchingScope_33 (by decide) (fun c_33 => ?_) (fun c_33 => ?_)
        · have f_33 := bI_0.mp c_33
          refine lv_iinc (v := nI k + 1) (lv' := [(3, .int (nI k + 1)), (4, .ref (ad (40 + k))), (2, .int (mk (tsB τ nl i) k)), (0, .ref (ad 0)), (1, .int (nI i))]) hx hb dX6_freezesTouchingScope_42 hl (k := 1) rfl rfl (by decide) rfl (fun ls hl => ?_)
          refine lv_goto (tgt := 4) hx hb dX6_freezesTouchingScope_45 (by decide) ?_
          have hfk : tsB τ nl i k = false := by simp only [tsB, touS]; rw [hcu, cx_nI (n := i) (by omega), Bool.or_comm]; simp [hz_15.1, hz_15.2]; simpa using f_33
          rw [mk_same (p := tsB τ nl i) hfk, nI_1] at hl
          exact ih _ ls HS (lv_sub hl [0, 2, 3, 4] rfl)
        · have f_33 := bI_n0.mp c_33
          refine lv_iload_n hx hb dX6_freezesTouchingScope_36 rfl (lv_at hl 2 rfl) ?_
          refine lv_iconst (v := 1) hx hb dX6_freezesTouchingScope_37 (by decide) ?_
          refine lv_iload_n hx hb dX6_freezesTouchingScope_38 rfl (lv_at hl 1 rfl) ?_
          refine lv_ishl hx hb dX6_freezesTouchingScope_39 ?_
          refine lv_ior hx hb dX6_freezesTouchingScope_40 ?_
          refine lv_istore_n (lv' := [(2, .int ((mk (tsB τ nl i) k ||| (1 <<< (nI k &&& 31))))), (4, .ref (ad (40 + k))), (3, .int (nI k)), (0, .ref (ad 0)), (1, .int (nI i))]) hx hb dX6_freezesTouchingScope_41 rfl hl (by decide) rfl (fun ls hl => ?_)
          refine lv_iinc (v := nI k + 1) (lv' := [(3, .int (nI k + 1)), (2, .int ((mk (tsB τ nl i) k ||| (1 <<< (nI k &&& 31))))), (4, .ref (ad (40 + k))), (0, .ref (ad 0)), (1, .int (nI i))]) hx hb dX6_freezesTouchingScope_42 hl (k := 2) rfl rfl (by decide) rfl (fun ls hl => ?_)
          refine lv_goto (tgt := 4) hx hb dX6_freezesTouchingScope_45 (by decide) ?_
          have hfk : tsB τ nl i k = true := by simp only [tsB, touS]; rw [hcu, cx_nI (n := i) (by omega), Bool.or_comm]; simp [hz_15.1, hz_15.2]; simpa using f_33
          rw [mk_t (p := tsB τ nl i) hfk, nI_1] at hl
          exact ih _ ls HS (lv_sub hl [0, 1, 3, 4] rfl)
      · refine xo_aald MC HP 4 (hRR.l (by decide)) h3 rfl k (show k < 20 by omega) (by omega) ((h3b k (by omega)).trans (if_neg hz_15)) rfl dX6_freezesTouchingScope_15 ?_
        refine lv_astoreN (lv' := [(4, .null), (3, .int (nI k)), (2, .int (mk (tsB τ nl i) k)), (0, .ref (ad 0)), (1, .int (nI i))]) hx hb dX6_freezesTouchingScope_16 hl (by decide) rfl (fun ls hl => ?_)
        refine lv_aloadN hx hb dX6_freezesTouchingScope_18 (lv_at hl 0 rfl) ?_
        refine lv_ifnullN (tgt := 42) hx hb dX6_freezesTouchingScope_20 (by decide) ?_
        refine lv_iinc (v := nI k + 1) (lv' := [(3, .int (nI k + 1)), (4, .null), (2, .int (mk (tsB τ nl i) k)), (0, .ref (ad 0)), (1, .int (nI i))]) hx hb dX6_freezesTouchingScope_42 hl (k := 1) rfl rfl (by decide) rfl (fun ls hl => ?_)
        refine lv_goto (tgt := 4) hx hb dX6_freezesTouchingScope_45 (by decide) ?_
        have hfk : tsB τ nl i k = false := by simp only [tsB]; cases h8 : decide (k < nl) <;> cases h9 : (τ 4 k == 0) <;> simp_all
        rw [mk_same (p := tsB τ nl i) hfk, nI_1] at hl
        exact ih _ ls HS (lv_sub hl [0, 2, 3, 4] rfl)
  refine lv_iconst (v := 0) hx hb dX6_freezesTouchingScope_0 (by decide) ?_
  refine lv_istore_n (lv' := [(2, .int 0), (0, .ref (ad 0)), (1, .int (nI i))]) hx hb dX6_freezesTouchingScope_1 rfl hl (by decide) rfl (fun ls hl => ?_)
  refine lv_iconst (v := 0) hx hb dX6_freezesTouchingScope_2 (by decide) ?_
  refine lv_istore_n (lv' := [(3, .int 0), (2, .int 0), (0, .ref (ad 0)), (1, .int (nI i))]) hx hb dX6_freezesTouchingScope_3 rfl hl (by decide) rfl (fun ls hl => ?_)
  exact loop 0 (Nat.zero_le _) _ ls HS (lv_sub hl [0, 1, 2, 3] rfl)
theorem flb_bit {τ : Tau} {nw ns nl nc : Nat} (hI : Iv τ nw ns nl nc) {k u : Nat} (hk : k < nc) (hsu : τ 11 k = nI u) {q : Nat} (hq : q < 20) : bit (mk (tsB τ nl u) 20 &&& (1 <<< (flb τ k &&& 31) - 1)) q = (decide (q < nl) && tch τ q k) := by
  have hnl := hI.2.2.1.2
  obtain ⟨-, -, -, -, hbg⟩ := hI.2.2.2.2.2.2.2.2.2.2.1 k hk
  obtain ⟨f9, hf9, hfe, hfd⟩ : ∃ f9, f9 < 21 ∧ flb τ k = nI f9 ∧ (decide (q < f9) = !(!(τ 17 k == -1) && decide (τ 17 k ≤ nI q))) := by
    rcases hbg with h | ⟨y, hy, h⟩
    · exact ⟨20, by omega, by rw [flb, if_pos h]; rfl, by rw [h]; simp [hq]⟩
    · refine ⟨y, by omega, by rw [flb, if_neg (by rw [h]; exact nI_m1 (by omega))]; exact h, ?_⟩
      rw [h, show (nI y == -1) = false from beq_eq_false_iff_ne.mpr (nI_m1 (by omega))]
      have := nI_leI (a := y) (b := q) (by omega) (by omega)
      by_cases h9 : y ≤ q
      · simp [this.mpr h9]; omega
      · have h8 : ¬ nI y ≤ nI q := fun h7 => h9 (this.mp h7)
        simp [h8]; omega
  rw [bit_and _ _ (by omega), bit_mk _ 20 (by omega) q (by omega), hfe, bit_low f9 hf9 q hq, hfd]
  unfold tch
  rw [hsu]
  simp only [tsB]
  cases decide (q < nl) <;> cases (τ 4 q == 0) <;> cases touS τ q (nI u) <;> simp [hq]
set_option maxHeartbeats 4000000 in
set_option maxRecDepth 100000 in
theorem x_touchChange {l : Launch} {D : va_G} {ids : Nat → ClassId} {n0 : Nat} {RR : List Nat} {ad : Nat → Nat} {cn : Nat → va_E} {τ : Tau} {ns nl nc : Nat} {Hh : Heap} (hX : xH D ids n0 RR ad cn τ ns nl nc Hh) {nw : Nat} (hI : Iv τ nw ns nl nc) {k : Nat} (hk : k < nc) : ro_M l yX6_freezesTouchingChange cX6_freezesTouchingChange 3 (some FieldType.int) { frames := 3, cells := 0, slots := 0, locals := 90 } D ids n0 [.ref (ad 0), .ref (ad (60 + k))] Hh (fun v H1 => ∃ x, v = some (.int x) ∧ (∀ q, q < 20 → bit x q = (decide (q < nl) && tch τ q k)) ∧ Hh = H1) := by
  refine ro_ofM (by decide +kernel) (Nat.le_of_ble_eq_true rfl) ?_
  intro p e s m below meth c MC hhp hr hnm HS ls hl
  have hx := MC.1.1
  have hb := MC.1.2.1
  have hl : lv_has ls 3 [(0, .ref (ad 0)), (1, .ref (ad (60 + k)))] := hl
  obtain ⟨HP, hRR, sa, bm, fm, lf, ff, cf, h0, h1, h1b, h2, h2b, h7, h7b, h3, h3b, h40, h4, h4b, h60, h5, h6⟩ := id hX
  have hnl := hI.2.2.1.2
  have hns := hI.2.1.2.2
  have hcs : cx (τ 0 2) = nl := by rw [hI.2.2.1.1]; exact cx_nI (by omega)
  have hnc := hI.2.2.2.1.2
  obtain ⟨⟨u, hu, hsu⟩, ⟨b9, n9, hb9, hn9, h1n, hn1, hbn⟩, -, -, hbg⟩ := hI.2.2.2.2.2.2.2.2.2.2.1 k hk
  have hcl : cx (τ 13 k) = n9 := by rw [hn9]; exact cx_nI (by omega)
  refine lv_iconst (v := 1) hx hb dX6_freezesTouchingChange_0 (by decide) ?_
  refine lv_aload_n hx hb dX6_freezesTouchingChange_1 rfl (lv_at hl 1 rfl) ?_
  refine ro_get MC HP (hRR.c (show k < nc by omega)) (h60 k (by omega)) (rfl : vwCl[0]? = some (RX0, TX0, 8)) inU0 7 (by decide) kw413 rfl rfl dX6_freezesTouchingChange_2 ?_
  refine lv_ishl hx hb dX6_freezesTouchingChange_5 ?_
  refine lv_iconst (v := 1) hx hb dX6_freezesTouchingChange_6 (by decide) ?_
  refine lv_isub hx hb dX6_freezesTouchingChange_7 ?_
  refine lv_istore_n (lv' := [(2, .int (((1 <<< (flb τ k &&& 31)) - 1))), (0, .ref (ad 0)), (1, .ref (ad (60 + k)))]) hx hb dX6_freezesTouchingChange_8 rfl hl (by decide) rfl (fun ls hl => ?_)
  refine lv_aload_n hx hb dX6_freezesTouchingChange_9 rfl (lv_at hl 1 rfl) ?_
  refine lv_aload_n hx hb dX6_freezesTouchingChange_10 rfl (lv_at hl 2 rfl) ?_
  refine ro_get MC HP (hRR.c (show k < nc by omega)) (h60 k (by omega)) (rfl : vwCl[0]? = some (RX0, TX0, 8)) inU0 0 (by decide) kw402 rfl rfl dX6_freezesTouchingChange_11 ?_
  refine ro_callV MC HS (rest := []) (As := [.int (τ 11 k)]) (by rw [hsu]; exact x_touchScope hX hI hu) (lkX6_106) (kw345) (kw6) ⟨Nat.le_of_ble_eq_true rfl, Nat.le_of_ble_eq_true rfl⟩ (ro_recv MC HP (hRR.l (by decide)) h0 (rfl : vwCl[5]? = some (RX6, TX6, 11))) hl.1 rfl (Nat.le_of_ble_eq_true rfl) dX6_freezesTouchingChange_14 ⟨Nat.le_of_ble_eq_true rfl, Nat.le_of_ble_eq_true rfl⟩ (fun v9 H1 lH1 hp hz HS => ?_)
  obtain ⟨rfl, rfl⟩ := hp
  refine lv_iload_n hx hb dX6_freezesTouchingChange_17 rfl (lv_at hl 0 rfl) ?_
  refine lv_iand hx hb dX6_freezesTouchingChange_18 ?_
  exact ro_iretM MC HS hr (⟨_, rfl, fun q hq => flb_bit hI hk hsu hq, rfl⟩) (Nat.le_of_ble_eq_true rfl) (Nat.le_of_ble_eq_true rfl) dX6_freezesTouchingChange_19
set_option maxHeartbeats 4000000 in
set_option maxRecDepth 100000 in
theorem x_against {l : Launch} {D : va_G} {ids : Nat → ClassId} {n0 : Nat} {RR : List Nat} {ad : Nat → Nat} {cn : Nat → va_E} {τ : Tau} {ns nl nc : Nat} {Hh : Heap} (hX : xH D ids n0 RR ad cn τ ns nl nc Hh) {nw : Nat} (hI : Iv τ nw ns nl nc) {k : Nat} (hk : k < nc) : ro_M l yX6_freezesAgainst cX6_freezesAgainst 2 (some FieldType.int) { frames := 4, cells := 0, slots := 0, locals := 120 } D ids n0 [.ref (ad 0), .ref (ad (60 + k))] Hh (fun v H1 => ∃ x, v = some (.int x) ∧ isAg τ nl k x ∧ Hh = H1) := by
  refine ro_ofM (by decide +kernel) (Nat.le_of_ble_eq_true rfl) ?_
  intro p e s m below meth c MC hhp hr hnm HS ls hl
  have hx := MC.1.1
  have hb := MC.1.2.1
  have hl : lv_has ls 2 [(0, .ref (ad 0)), (1, .ref (ad (60 + k)))] := hl
  obtain ⟨HP, hRR, sa, bm, fm, lf, ff, cf, h0, h1, h1b, h2, h2b, h7, h7b, h3, h3b, h40, h4, h4b, h60, h5, h6⟩ := id hX
  have hnl := hI.2.2.1.2
  have hns := hI.2.1.2.2
  have hcs : cx (τ 0 2) = nl := by rw [hI.2.2.1.1]; exact cx_nI (by omega)
  have hnc := hI.2.2.2.1.2
  obtain ⟨⟨u, hu, hsu⟩, ⟨b9, n9, hb9, hn9, h1n, hn1, hbn⟩, -, -, hbg⟩ := hI.2.2.2.2.2.2.2.2.2.2.1 k hk
  have hcl : cx (τ 13 k) = n9 := by rw [hn9]; exact cx_nI (by omega)
  refine lv_aload_n hx hb dX6_freezesAgainst_0 rfl (lv_at hl 0 rfl) ?_
  refine lv_aload_n hx hb dX6_freezesAgainst_1 rfl (lv_at hl 1 rfl) ?_
  refine ro_callV MC HS (rest := []) (As := [.ref (ad (60 + k))]) (x_touchChange hX hI hk) (lkX6_175) (kw454) (kw12) ⟨Nat.le_of_ble_eq_true rfl, Nat.le_of_ble_eq_true rfl⟩ (ro_recv MC HP (hRR.l (by decide)) h0 (rfl : vwCl[5]? = some (RX6, TX6, 11))) hl.1 rfl (Nat.le_of_ble_eq_true rfl) dX6_freezesAgainst_2 ⟨Nat.le_of_ble_eq_true rfl, Nat.le_of_ble_eq_true rfl⟩ (fun v9 H1 lH1 hp hz HS => ?_)
  obtain ⟨x, rfl, hxb, rfl⟩ := hp
  refine lv_aload_n hx hb dX6_freezesAgainst_5 rfl (lv_at hl 1 rfl) ?_
  refine ro_get MC HP (hRR.c (show k < nc by omega)) (h60 k (by omega)) (rfl : vwCl[0]? = some (RX0, TX0, 8)) inU0 5 (by decide) kw410 rfl rfl dX6_freezesAgainst_6 ?_
  refine lv_iconst (v := (-1)) hx hb dX6_freezesAgainst_9 (by decide) ?_
  refine lv_ixor hx hb dX6_freezesAgainst_10 ?_
  refine lv_iand hx hb dX6_freezesAgainst_11 ?_
  exact ro_iretM MC HS hr (⟨_, rfl, fun q hq => by rw [bit_and _ _ (by omega), hxb q hq, bit_not _ (by omega), ← exB_bit τ k (by omega)], rfl⟩) (Nat.le_of_ble_eq_true rfl) (Nat.le_of_ble_eq_true rfl) dX6_freezesAgainst_12
set_option maxHeartbeats 4000000 in
set_option maxRecDepth 100000 in
theorem x_holdingAmong {l : Launch} {D : va_G} {ids : Nat → ClassId} {n0 : Nat} {RR : List Nat} {ad : Nat → Nat} {cn : Nat → va_E} {τ : Tau} {ns nl nc : Nat} {Hh : Heap} (hX : xH D ids n0 RR ad cn τ ns nl nc Hh) {nw : Nat} (hI : Iv τ nw ns nl nc) {hh : Nat} (hh9 : hh < 672) (a : Int32) : ro_M l yX6_holdingAmong cX6_holdingAmong 6 (some FieldType.int) { frames := 4, cells := 0, slots := 0, locals := 120 } D ids n0 [.ref (ad 0), .int a, .int (nI hh)] Hh (fun v H1 => v = some (.int (mk (haB τ nl a hh) 20)) ∧ Hh = H1) := by
  refine ro_ofM (by decide +kernel) (Nat.le_of_ble_eq_true rfl) ?_
  intro p e s m below meth c MC hhp hr hnm HS ls hl
  have hx := MC.1.1
  have hb := MC.1.2.1
  have hl : lv_has ls 6 [(0, .ref (ad 0)), (1, .int a), (2, .int (nI hh))] := hl
  obtain ⟨HP, hRR, sa, bm, fm, lf, ff, cf, h0, h1, h1b, h2, h2b, h7, h7b, h3, h3b, h40, h4, h4b, h60, h5, h6⟩ := id hX
  have hnl := hI.2.2.1.2
  have hns := hI.2.1.2.2
  have hcs : cx (τ 0 2) = nl := by rw [hI.2.2.1.1]; exact cx_nI (by omega)
  have loop : ∀ k : Nat, k ≤ 20 → ∀ (locs : List Loc) (ls : Array Slot), va_S (fun q => n0 ≤ q) s.heap Hh locs → lv_has ls 6 [(4, .int (nI k)), (3, .int (mk (haB τ nl a hh) k)), (0, .ref (ad 0)), (1, .int a), (2, .int (nI hh))] → W p l e { frames := 4, cells := 0, slots := 0, locals := 120 } s m ([.ref (ad 0), .int a, .int (nI hh)] : List Value).toArray below meth c Hh locs 0 0 (MQ below (ro_Q n0 (fun v H1 => v = some (.int (mk (haB τ nl a hh) 20)) ∧ Hh = H1)) ([.ref (ad 0), .int a, .int (nI hh)] : List Value).toArray s 0 0 (fun q => n0 ≤ q)) (F0 m 5 ls []) := by
    refine ro_loop (20) (fun k : Nat => ∀ (locs : List Loc) (ls : Array Slot), va_S (fun q => n0 ≤ q) s.heap Hh locs → lv_has ls 6 [(4, .int (nI k)), (3, .int (mk (haB τ nl a hh) k)), (0, .ref (ad 0)), (1, .int a), (2, .int (nI hh))] → W p l e { frames := 4, cells := 0, slots := 0, locals := 120 } s m ([.ref (ad 0), .int a, .int (nI hh)] : List Value).toArray below meth c Hh locs 0 0 (MQ below (ro_Q n0 (fun v H1 => v = some (.int (mk (haB τ nl a hh) 20)) ∧ Hh = H1)) ([.ref (ad 0), .int a, .int (nI hh)] : List Value).toArray s 0 0 (fun q => n0 ≤ q)) (F0 m 5 ls [])) ?_ ?_
    · intro locs ls HS hl
      refine lv_iload hx hb dX6_holdingAmong_5 (lv_at hl 0 rfl) ?_
      refine lv_bipush (v := 20) hx hb dX6_holdingAmong_7 (by decide) ?_
      refine lv_icmp_ge (tgt := 57) hx hb dX6_holdingAmong_9 (by decide) (fun c_9 => ?_) (fun c_9 => absurd (kn_le (n := 20) rfl (Nat.le_refl _) (by omega)) c_9)
      refine lv_iload_n hx hb dX6_holdingAmong_57 rfl (lv_at hl 1 rfl) ?_
      exact ro_iretM MC HS hr (⟨rfl, rfl⟩) (Nat.le_of_ble_eq_true rfl) (Nat.le_of_ble_eq_true rfl) dX6_holdingAmong_58
    · intro k hkk ih locs ls HS hl
      refine lv_iload hx hb dX6_holdingAmong_5 (lv_at hl 0 rfl) ?_
      refine lv_bipush (v := 20) hx hb dX6_holdingAmong_7 (by decide) ?_
      refine lv_icmp_ge (tgt := 57) hx hb dX6_holdingAmong_9 (by decide) (fun c_9 => absurd c_9 (kn_nle (n := 20) rfl hkk (by omega))) (fun c_9 => ?_)
      refine lv_aload_n hx hb dX6_holdingAmong_12 rfl (lv_at hl 2 rfl) ?_
      refine ro_get MC HP (hRR.l (by decide)) h0 (rfl : vwCl[5]? = some (RX6, TX6, 11)) inU6 4 (by decide) kw65 rfl rfl dX6_holdingAmong_13 ?_
      refine lv_iload hx hb dX6_holdingAmong_16 (lv_at hl 0 rfl) ?_
      by_cases hz_18 : k < nl ∧ τ 4 k = 0
      · have hz_18n := hz_18.1
        refine xo_aald MC HP 4 (hRR.l (by decide)) h3 rfl k (show k < 20 by omega) (by omega) ((h3b k (by omega)).trans (if_pos hz_18)) rfl dX6_holdingAmong_18 ?_
        refine lv_astore (lv' := [(5, .ref (ad (40 + k))), (4, .int (nI k)), (3, .int (mk (haB τ nl a hh) k)), (0, .ref (ad 0)), (1, .int a), (2, .int (nI hh))]) hx hb dX6_holdingAmong_19 hl (by decide) rfl (fun ls hl => ?_)
        refine lv_aload hx hb dX6_holdingAmong_21 (lv_at hl 0 rfl) ?_
        refine lv_ifnull hx hb dX6_holdingAmong_23 ?_
        refine lv_iload_n hx hb dX6_holdingAmong_26 rfl (lv_at hl 4 rfl) ?_
        refine lv_iload hx hb dX6_holdingAmong_27 (lv_at hl 1 rfl) ?_
        refine ro_callS MC HS (rest := []) (As := [.int a, .int (nI k)]) (x_isInSet D ids n0 a k) (lkX6_178) (kw229) ⟨Nat.le_of_ble_eq_true rfl, Nat.le_of_ble_eq_true rfl⟩ hl.1 rfl (Nat.le_of_ble_eq_true rfl) dX6_holdingAmong_29 ⟨Nat.le_of_ble_eq_true rfl, Nat.le_of_ble_eq_true rfl⟩ (fun v9 H1 lH1 hp hz HS => ?_)
        obtain ⟨rfl, rfl⟩ := hp
        refine lv_if_eq (tgt := 51) hx hb dX6_holdingAmong_32 (by decide) (fun c_32 => ?_) (fun c_32 => ?_)
        · have f_32 := bI_0.mp c_32
          refine lv_iinc (v := nI k + 1) (lv' := [(4, .int (nI k + 1)), (5, .ref (ad (40 + k))), (3, .int (mk (haB τ nl a hh) k)), (0, .ref (ad 0)), (1, .int a), (2, .int (nI hh))]) hx hb dX6_holdingAmong_51 hl (k := 1) rfl rfl (by decide) rfl (fun ls hl => ?_)
          refine lv_goto (tgt := 5) hx hb dX6_holdingAmong_54 (by decide) ?_
          have hfk : haB τ nl a hh k = false := by simp [haB, hz_18.1, hz_18.2, f_32]
          rw [mk_same (p := haB τ nl a hh) hfk, nI_1] at hl
          exact ih _ ls HS (lv_sub hl [0, 2, 3, 4, 5] rfl)
        · have f_32 := bI_n0.mp c_32
          refine lv_aload hx hb dX6_holdingAmong_35 (lv_at hl 0 rfl) ?_
          refine lv_iload_n hx hb dX6_holdingAmong_37 rfl (lv_at hl 5 rfl) ?_
          refine xo_holds hX hI MC HS (k := k) (hh := hh) (show k < nl by omega) (by omega) rfl hl.1 (Nat.le_of_ble_eq_true rfl) ⟨Nat.le_of_ble_eq_true rfl, Nat.le_of_ble_eq_true rfl⟩ dX6_holdingAmong_38 ⟨Nat.le_of_ble_eq_true rfl, Nat.le_of_ble_eq_true rfl⟩ (fun lH2 HS => ?_)
          refine lv_if_eq (tgt := 51) hx hb dX6_holdingAmong_41 (by decide) (fun c_41 => ?_) (fun c_41 => ?_)
          · have f_41 := bI_0.mp c_41
            refine lv_iinc (v := nI k + 1) (lv' := [(4, .int (nI k + 1)), (5, .ref (ad (40 + k))), (3, .int (mk (haB τ nl a hh) k)), (0, .ref (ad 0)), (1, .int a), (2, .int (nI hh))]) hx hb dX6_holdingAmong_51 hl (k := 1) rfl rfl (by decide) rfl (fun ls hl => ?_)
            refine lv_goto (tgt := 5) hx hb dX6_holdingAmong_54 (by decide) ?_
            have hfk : haB τ nl a hh k = false := by simp [haB, hz_18.1, hz_18.2, f_32, f_41]
            rw [mk_same (p := haB τ nl a hh) hfk, nI_1] at hl
            exact ih _ ls HS (lv_sub hl [0, 2, 3, 4, 5] rfl)
          · have f_41 := bI_n0.mp c_41
            refine lv_iload_n hx hb dX6_holdingAmong_44 rfl (lv_at hl 2 rfl) ?_
            refine lv_iconst (v := 1) hx hb dX6_holdingAmong_45 (by decide) ?_
            refine lv_iload hx hb dX6_holdingAmong_46 (lv_at hl 1 rfl) ?_
            refine lv_ishl hx hb dX6_holdingAmong_48 ?_
            refine lv_ior hx hb dX6_holdingAmong_49 ?_
            refine lv_istore_n (lv' := [(3, .int ((mk (haB τ nl a hh) k ||| (1 <<< (nI k &&& 31))))), (5, .ref (ad (40 + k))), (4, .int (nI k)), (0, .ref (ad 0)), (1, .int a), (2, .int (nI hh))]) hx hb dX6_holdingAmong_50 rfl hl (by decide) rfl (fun ls hl => ?_)
            refine lv_iinc (v := nI k + 1) (lv' := [(4, .int (nI k + 1)), (3, .int ((mk (haB τ nl a hh) k ||| (1 <<< (nI k &&& 31))))), (5, .ref (ad (40 + k))), (0, .ref (ad 0)), (1, .int a), (2, .int (nI hh))]) hx hb dX6_holdingAmong_51 hl (k := 2) rfl rfl (by decide) rfl (fun ls hl => ?_)
            refine lv_goto (tgt := 5) hx hb dX6_holdingAmong_54 (by decide) ?_
            have hfk : haB τ nl a hh k = true := by simp [haB, hz_18.1, hz_18.2, f_32, f_41]
            rw [mk_t (p := haB τ nl a hh) hfk, nI_1] at hl
            exact ih _ ls HS (lv_sub hl [0, 1, 3, 4, 5] rfl)
      · refine xo_aald MC HP 4 (hRR.l (by decide)) h3 rfl k (show k < 20 by omega) (by omega) ((h3b k (by omega)).trans (if_neg hz_18)) rfl dX6_holdingAmong_18 ?_
        refine lv_astoreN (lv' := [(5, .null), (4, .int (nI k)), (3, .int (mk (haB τ nl a hh) k)), (0, .ref (ad 0)), (1, .int a), (2, .int (nI hh))]) hx hb dX6_holdingAmong_19 hl (by decide) rfl (fun ls hl => ?_)
        refine lv_aloadN hx hb dX6_holdingAmong_21 (lv_at hl 0 rfl) ?_
        refine lv_ifnullN (tgt := 51) hx hb dX6_holdingAmong_23 (by decide) ?_
        refine lv_iinc (v := nI k + 1) (lv' := [(4, .int (nI k + 1)), (5, .null), (3, .int (mk (haB τ nl a hh) k)), (0, .ref (ad 0)), (1, .int a), (2, .int (nI hh))]) hx hb dX6_holdingAmong_51 hl (k := 1) rfl rfl (by decide) rfl (fun ls hl => ?_)
        refine lv_goto (tgt := 5) hx hb dX6_holdingAmong_54 (by decide) ?_
        have hfk : haB τ nl a hh k = false := by simp only [haB]; cases h8 : decide (k < nl) <;> cases h9 : (τ 4 k == 0) <;> simp_all
        rw [mk_same (p := haB τ nl a hh) hfk, nI_1] at hl
        exact ih _ ls HS (lv_sub hl [0, 2, 3, 4, 5] rfl)
  refine lv_iconst (v := 0) hx hb dX6_holdingAmong_0 (by decide) ?_
  refine lv_istore_n (lv' := [(3, .int 0), (0, .ref (ad 0)), (1, .int a), (2, .int (nI hh))]) hx hb dX6_holdingAmong_1 rfl hl (by decide) rfl (fun ls hl => ?_)
  refine lv_iconst (v := 0) hx hb dX6_holdingAmong_2 (by decide) ?_
  refine lv_istore (lv' := [(4, .int 0), (3, .int 0), (0, .ref (ad 0)), (1, .int a), (2, .int (nI hh))]) hx hb dX6_holdingAmong_3 hl (by decide) rfl (fun ls hl => ?_)
  exact loop 0 (Nat.zero_le _) _ ls HS (lv_sub hl [0, 1, 2, 3, 4] rfl)
set_option maxHeartbeats 4000000 in
set_option maxRecDepth 100000 in
theorem x_firstBadHour {l : Launch} {D : va_G} {ids : Nat → ClassId} {n0 : Nat} {RR : List Nat} {ad : Nat → Nat} {cn : Nat → va_E} {τ : Tau} {ns nl nc : Nat} {Hh : Heap} (hX : xH D ids n0 RR ad cn τ ns nl nc Hh) {nw : Nat} (hI : Iv τ nw ns nl nc) {k : Nat} (hk : k < nc) : ro_M l yX6_firstBadHour cX6_firstBadHour 4 (some FieldType.int) { frames := 6, cells := 0, slots := 0, locals := 180 } D ids n0 [.ref (ad 0), .ref (ad (60 + k))] Hh (fun v H1 => v = some (.int (fbv (τ 12 k) (fst1 (badB τ k) (cx (τ 13 k)) 0))) ∧ Hh = H1) := by
  refine ro_ofM (by decide +kernel) (Nat.le_of_ble_eq_true rfl) ?_
  intro p e s m below meth c MC hhp hr hnm HS ls hl
  have hx := MC.1.1
  have hb := MC.1.2.1
  have hl : lv_has ls 4 [(0, .ref (ad 0)), (1, .ref (ad (60 + k)))] := hl
  obtain ⟨HP, hRR, sa, bm, fm, lf, ff, cf, h0, h1, h1b, h2, h2b, h7, h7b, h3, h3b, h40, h4, h4b, h60, h5, h6⟩ := id hX
  have hnl := hI.2.2.1.2
  have hns := hI.2.1.2.2
  have hcs : cx (τ 0 2) = nl := by rw [hI.2.2.1.1]; exact cx_nI (by omega)
  have hnc := hI.2.2.2.1.2
  obtain ⟨⟨u, hu, hsu⟩, ⟨b9, n9, hb9, hn9, h1n, hn1, hbn⟩, -, -, hbg⟩ := hI.2.2.2.2.2.2.2.2.2.2.1 k hk
  have hcl : cx (τ 13 k) = n9 := by rw [hn9]; exact cx_nI (by omega)
  refine lv_aload_n hx hb dX6_firstBadHour_0 rfl (lv_at hl 0 rfl) ?_
  refine lv_aload_n hx hb dX6_firstBadHour_1 rfl (lv_at hl 1 rfl) ?_
  refine ro_callV MC HS (rest := []) (As := [.ref (ad (60 + k))]) (x_against hX hI hk) (lkX6_194) (kw450) (kw11) ⟨Nat.le_of_ble_eq_true rfl, Nat.le_of_ble_eq_true rfl⟩ (ro_recv MC HP (hRR.l (by decide)) h0 (rfl : vwCl[5]? = some (RX6, TX6, 11))) hl.1 rfl (Nat.le_of_ble_eq_true rfl) dX6_firstBadHour_2 ⟨Nat.le_of_ble_eq_true rfl, Nat.le_of_ble_eq_true rfl⟩ (fun v9 H1 lH1 hp hz HS => ?_)
  obtain ⟨x, rfl, hxb, rfl⟩ := hp
  refine lv_istore_n (lv' := [(2, .int x), (0, .ref (ad 0)), (1, .ref (ad (60 + k)))]) hx hb dX6_firstBadHour_5 rfl hl (by decide) rfl (fun ls hl => ?_)
  refine lv_aload_n hx hb dX6_firstBadHour_6 rfl (lv_at hl 2 rfl) ?_
  refine ro_get MC HP (hRR.c (show k < nc by omega)) (h60 k (by omega)) (rfl : vwCl[0]? = some (RX0, TX0, 8)) inU0 3 (by decide) kw408 rfl rfl dX6_firstBadHour_7 ?_
  refine lv_istore_n (lv' := [(3, .int (τ 12 k)), (2, .int x), (0, .ref (ad 0)), (1, .ref (ad (60 + k)))]) hx hb dX6_firstBadHour_10 rfl hl (by decide) rfl (fun ls hl => ?_)
  have hen : τ 12 k + τ 13 k = nI (b9 + n9) := by rw [hb9, hn9, nI_add]
  have loop : ∀ j : Nat, j ≤ n9 → fst1 (badB τ k) (n9 - j) j = fst1 (badB τ k) n9 0 → ∀ (locs : List Loc) (ls : Array Slot), va_S (fun q => n0 ≤ q) s.heap Hh locs → lv_has ls 4 [(3, .int (nI (b9 + j))), (2, .int x), (0, .ref (ad 0)), (1, .ref (ad (60 + k)))] → W p l e { frames := 6, cells := 0, slots := 0, locals := 180 } s m ([.ref (ad 0), .ref (ad (60 + k))] : List Value).toArray below meth c Hh locs 0 0 (MQ below (ro_Q n0 (fun v H1 => v = some (.int (fbv (τ 12 k) (fst1 (badB τ k) (cx (τ 13 k)) 0))) ∧ Hh = H1)) ([.ref (ad 0), .ref (ad (60 + k))] : List Value).toArray s 0 0 (fun q => n0 ≤ q)) (F0 m 11 ls []) := by
    refine ro_loop n9 (fun j : Nat => fst1 (badB τ k) (n9 - j) j = fst1 (badB τ k) n9 0 → ∀ (locs : List Loc) (ls : Array Slot), va_S (fun q => n0 ≤ q) s.heap Hh locs → lv_has ls 4 [(3, .int (nI (b9 + j))), (2, .int x), (0, .ref (ad 0)), (1, .ref (ad (60 + k)))] → W p l e { frames := 6, cells := 0, slots := 0, locals := 180 } s m ([.ref (ad 0), .ref (ad (60 + k))] : List Value).toArray below meth c Hh locs 0 0 (MQ below (ro_Q n0 (fun v H1 => v = some (.int (fbv (τ 12 k) (fst1 (badB τ k) (cx (τ 13 k)) 0))) ∧ Hh = H1)) ([.ref (ad 0), .ref (ad (60 + k))] : List Value).toArray s 0 0 (fun q => n0 ≤ q)) (F0 m 11 ls [])) ?_ ?_
    · intro hR locs ls HS hl
      have hR2 : fst1 (badB τ k) n9 0 = none := by rw [← hR, Nat.sub_self]; rfl
      refine lv_iload_n hx hb dX6_firstBadHour_11 rfl (lv_at hl 0 rfl) ?_
      refine lv_aload_n hx hb dX6_firstBadHour_12 rfl (lv_at hl 3 rfl) ?_
      refine ro_callV MC HS (rest := [.int (nI (b9 + n9))]) (As := []) (x_hourBehind hX hk) (lkX6_171) (kw476) (kw477) ⟨Nat.le_of_ble_eq_true rfl, Nat.le_of_ble_eq_true rfl⟩ (ro_recv MC HP (hRR.c (show k < nc by omega)) (h60 k (by omega)) (rfl : vwCl[0]? = some (RX0, TX0, 8))) hl.1 rfl (Nat.le_of_ble_eq_true rfl) dX6_firstBadHour_13 ⟨Nat.le_of_ble_eq_true rfl, Nat.le_of_ble_eq_true rfl⟩ (fun v9 H2 lH2 hp hz HS => ?_)
      obtain ⟨rfl, rfl⟩ := hp
      refine lv_icmp_ge (tgt := 36) hx hb dX6_firstBadHour_16 (by decide) (fun c_16 => ?_) (fun c_16 => absurd (kn_le hen (Nat.le_refl _) (by omega)) c_16)
      refine lv_iconst (v := (-1)) hx hb dX6_firstBadHour_36 (by decide) ?_
      exact ro_iretM MC HS hr (⟨by rw [hcl, hR2]; rfl, rfl⟩) (Nat.le_of_ble_eq_true rfl) (Nat.le_of_ble_eq_true rfl) dX6_firstBadHour_37
    · intro j hj ih hR locs ls HS hl
      rw [show n9 - j = (n9 - (j + 1)) + 1 by omega] at hR
      have hbj : badB τ k j = !(mk (haB τ nl x (b9 + j)) 20 == 0) := by rw [agn_eq hnl hcs hxb]; unfold badB; rw [hr_add hb9]
      refine lv_iload_n hx hb dX6_firstBadHour_11 rfl (lv_at hl 0 rfl) ?_
      refine lv_aload_n hx hb dX6_firstBadHour_12 rfl (lv_at hl 3 rfl) ?_
      refine ro_callV MC HS (rest := [.int (nI (b9 + j))]) (As := []) (x_hourBehind hX hk) (lkX6_171) (kw476) (kw477) ⟨Nat.le_of_ble_eq_true rfl, Nat.le_of_ble_eq_true rfl⟩ (ro_recv MC HP (hRR.c (show k < nc by omega)) (h60 k (by omega)) (rfl : vwCl[0]? = some (RX0, TX0, 8))) hl.1 rfl (Nat.le_of_ble_eq_true rfl) dX6_firstBadHour_13 ⟨Nat.le_of_ble_eq_true rfl, Nat.le_of_ble_eq_true rfl⟩ (fun v9 H3 lH3 hp hz HS => ?_)
      obtain ⟨rfl, rfl⟩ := hp
      refine lv_icmp_ge (tgt := 36) hx hb dX6_firstBadHour_16 (by decide) (fun c_16 => absurd c_16 (kn_nle hen (show b9 + j < b9 + n9 by omega) (by omega))) (fun c_16 => ?_)
      refine lv_aload_n hx hb dX6_firstBadHour_19 rfl (lv_at hl 2 rfl) ?_
      refine lv_iload_n hx hb dX6_firstBadHour_20 rfl (lv_at hl 1 rfl) ?_
      refine lv_iload_n hx hb dX6_firstBadHour_21 rfl (lv_at hl 0 rfl) ?_
      refine ro_callV MC HS (rest := []) (As := [.int x, .int (nI (b9 + j))]) (x_holdingAmong hX hI (hh := b9 + j) (by omega) x) (lkX6_110) (kw354) (kw8) ⟨Nat.le_of_ble_eq_true rfl, Nat.le_of_ble_eq_true rfl⟩ (ro_recv MC HP (hRR.l (by decide)) h0 (rfl : vwCl[5]? = some (RX6, TX6, 11))) hl.1 rfl (Nat.le_of_ble_eq_true rfl) dX6_firstBadHour_22 ⟨Nat.le_of_ble_eq_true rfl, Nat.le_of_ble_eq_true rfl⟩ (fun v9 H4 lH4 hp hz HS => ?_)
      obtain ⟨rfl, rfl⟩ := hp
      refine lv_if_eq (tgt := 30) hx hb dX6_firstBadHour_25 (by decide) (fun c_25 => ?_) (fun c_25 => ?_)
      · refine lv_iinc (v := nI (b9 + j) + 1) (lv' := [(3, .int (nI (b9 + j) + 1)), (2, .int x), (0, .ref (ad 0)), (1, .ref (ad (60 + k)))]) hx hb dX6_firstBadHour_30 hl (k := 0) rfl rfl (by decide) rfl (fun ls hl => ?_)
        refine lv_goto (tgt := 11) hx hb dX6_firstBadHour_33 (by decide) ?_
        rw [fst1_go (by rw [hbj]; simp [c_25])] at hR
        rw [nI_1] at hl
        exact ih hR _ ls HS (lv_sub hl [0, 1, 2, 3] rfl)
      · refine lv_iload_n hx hb dX6_firstBadHour_28 rfl (lv_at hl 0 rfl) ?_
        rw [fst1_st (by rw [hbj]; simp [c_25])] at hR
        exact ro_iretM MC HS hr (⟨by rw [hcl, ← hR]; show _ = some (Value.int (τ 12 k + nI j)); rw [hr_add hb9], rfl⟩) (Nat.le_of_ble_eq_true rfl) (Nat.le_of_ble_eq_true rfl) dX6_firstBadHour_29
  rw [hb9] at hl
  exact loop 0 (Nat.zero_le _) rfl _ ls HS (lv_sub hl [0, 1, 2, 3] rfl)
set_option maxHeartbeats 4000000 in
set_option maxRecDepth 100000 in
theorem x_rankToSpend {l : Launch} {D : va_G} {ids : Nat → ClassId} {n0 : Nat} {RR : List Nat} {ad : Nat → Nat} {cn : Nat → va_E} {τ : Tau} {ns nl nc : Nat} {Hh : Heap} (hX : xH D ids n0 RR ad cn τ ns nl nc Hh) {nw : Nat} (hI : Iv τ nw ns nl nc) {r9 : Nat} (hr1 : 1 ≤ r9) (hr3 : r9 ≤ 3) : ro_M l yX6_rankToSpend cX6_rankToSpend 3 (some FieldType.int) { frames := 0, cells := 0, slots := 0, locals := 0 } D ids n0 [.ref (ad 0), .int (nI r9)] Hh (fun v H1 => v = some (.int (if rkS (τ 18) 4 r9 < 4 then nI (rkS (τ 18) 4 r9) else -1)) ∧ Hh = H1) := by
  refine ro_ofM (by decide +kernel) (Nat.le_of_ble_eq_true rfl) ?_
  intro p e s m below meth c MC hhp hr hnm HS ls hl
  have hx := MC.1.1
  have hb := MC.1.2.1
  have hl : lv_has ls 3 [(0, .ref (ad 0)), (1, .int (nI r9))] := hl
  obtain ⟨HP, hRR, sa, bm, fm, lf, ff, cf, h0, h1, h1b, h2, h2b, h7, h7b, h3, h3b, h40, h4, h4b, h60, h5, h6⟩ := id hX
  refine lv_iload_n hx hb dX6_rankToSpend_0 rfl (lv_at hl 1 rfl) ?_
  refine lv_istore_n (lv' := [(2, .int (nI r9)), (0, .ref (ad 0)), (1, .int (nI r9))]) hx hb dX6_rankToSpend_1 rfl hl (by decide) rfl (fun ls hl => ?_)
  have loop : ∀ n : Nat, ∀ (r : Nat), r ≤ 4 → 4 ≤ r + n → rkS (τ 18) n r = rkS (τ 18) 4 r9 → ∀ (locs : List Loc) (ls : Array Slot), va_S (fun q => n0 ≤ q) s.heap Hh locs → lv_has ls 3 [(2, .int (nI r)), (0, .ref (ad 0)), (1, .int (nI r9))] → W p l e { frames := 0, cells := 0, slots := 0, locals := 0 } s m ([.ref (ad 0), .int (nI r9)] : List Value).toArray below meth c Hh locs 0 0 (MQ below (ro_Q n0 (fun v H1 => v = some (.int (if rkS (τ 18) 4 r9 < 4 then nI (rkS (τ 18) 4 r9) else -1)) ∧ Hh = H1)) ([.ref (ad 0), .int (nI r9)] : List Value).toArray s 0 0 (fun q => n0 ≤ q)) (F0 m 2 ls []) := by
    intro n
    induction n with
    | zero =>
      intro r hr4 h4r hR locs ls HS hl
      have hR2 : r = rkS (τ 18) 4 r9 := hR
      have h4r9 : 3 < nI r := nI_lt (a := 3) (by omega) (by omega)
      refine lv_iload_n hx hb dX6_rankToSpend_2 rfl (lv_at hl 0 rfl) ?_
      refine lv_iconst (v := 3) hx hb dX6_rankToSpend_3 (by decide) ?_
      refine lv_icmp_gt (tgt := 24) hx hb dX6_rankToSpend_4 (by decide) (fun c_4 => ?_) (fun c_4 => absurd (h4r9) c_4)
      refine lv_iconst (v := (-1)) hx hb dX6_rankToSpend_24 (by decide) ?_
      exact ro_iretM MC HS hr (⟨by rw [if_neg (by omega)], rfl⟩) (Nat.le_of_ble_eq_true rfl) (Nat.le_of_ble_eq_true rfl) dX6_rankToSpend_25
    | succ n ih =>
      intro r hr4 h4r hR locs ls HS hl
      by_cases hrl : r < 4
      · have h4r9 : ¬ 3 < nI r := nI_nlt (b := r) (a := 3) (by omega) (by omega)
        have hex := (hI.2.2.2.2.2.2.2.2.2.2.2.2 r hrl).1
        refine lv_iload_n hx hb dX6_rankToSpend_2 rfl (lv_at hl 0 rfl) ?_
        refine lv_iconst (v := 3) hx hb dX6_rankToSpend_3 (by decide) ?_
        refine lv_icmp_gt (tgt := 24) hx hb dX6_rankToSpend_4 (by decide) (fun c_4 => absurd c_4 (h4r9)) (fun c_4 => ?_)
        refine lv_aload_n hx hb dX6_rankToSpend_7 rfl (lv_at hl 1 rfl) ?_
        refine ro_get MC HP (hRR.l (by decide)) h0 (rfl : vwCl[5]? = some (RX6, TX6, 11)) inU6 9 (by decide) kw70 rfl rfl dX6_rankToSpend_8 ?_
        refine lv_iload_n hx hb dX6_rankToSpend_11 rfl (lv_at hl 0 rfl) ?_
        refine xo_iald MC HP (hRR.l (show 5 < 18 by omega)) h5 r (show r < 4 by omega) (by omega) rfl dX6_rankToSpend_12 ?_
        refine lv_if_le (tgt := 18) hx hb dX6_rankToSpend_13 (by decide) (fun c_13 => ?_) (fun c_13 => ?_)
        · refine lv_iinc (v := nI r + 1) (lv' := [(2, .int (nI r + 1)), (0, .ref (ad 0)), (1, .int (nI r9))]) hx hb dX6_rankToSpend_18 hl (k := 0) rfl rfl (by decide) rfl (fun ls hl => ?_)
          refine lv_goto (tgt := 2) hx hb dX6_rankToSpend_21 (by decide) ?_
          rw [rkS, if_pos ⟨hrl, by lia⟩] at hR
          rw [nI_1] at hl
          exact ih (r + 1) (by omega) (by omega) hR _ ls HS (lv_sub hl [0, 1, 2] rfl)
        · refine lv_iload_n hx hb dX6_rankToSpend_16 rfl (lv_at hl 0 rfl) ?_
          have hR2 : r = rkS (τ 18) 4 r9 := by rw [← hR, rkS, if_neg (fun h9 => c_13 (by rw [h9.2]; decide))]
          exact ro_iretM MC HS hr (⟨by rw [← hR2, if_pos hrl], rfl⟩) (Nat.le_of_ble_eq_true rfl) (Nat.le_of_ble_eq_true rfl) dX6_rankToSpend_17
      · have h4r9 : 3 < nI r := nI_lt (a := 3) (by omega) (by omega)
        have hR2 : r = rkS (τ 18) 4 r9 := by rw [← hR, rkS, if_neg (fun h9 => hrl h9.1)]
        refine lv_iload_n hx hb dX6_rankToSpend_2 rfl (lv_at hl 0 rfl) ?_
        refine lv_iconst (v := 3) hx hb dX6_rankToSpend_3 (by decide) ?_
        refine lv_icmp_gt (tgt := 24) hx hb dX6_rankToSpend_4 (by decide) (fun c_4 => ?_) (fun c_4 => absurd (h4r9) c_4)
        refine lv_iconst (v := (-1)) hx hb dX6_rankToSpend_24 (by decide) ?_
        exact ro_iretM MC HS hr (⟨by rw [if_neg (by omega)], rfl⟩) (Nat.le_of_ble_eq_true rfl) (Nat.le_of_ble_eq_true rfl) dX6_rankToSpend_25
  exact loop 4 r9 (by omega) (by omega) rfl _ ls HS (lv_sub hl [0, 1, 2] rfl)
end
section
/-! the marks -/
theorem mkB_same {bm1 : Nat → Int32} {m ho : Nat → Bool} {j : Nat} (hm : ∀ i, i < 100 → (bm1 i == 0) = !(m i || (decide (i < j) && ho i))) (hj : (m j || !ho j) = true) : ∀ i, i < 100 → (bm1 i == 0) = !(m i || (decide (i < j + 1) && ho i)) := by
  intro i hi
  rw [hm i hi]
  by_cases h : i = j
  · subst h
    revert hj
    cases m i <;> cases ho i <;> simp
  · rw [show decide (i < j + 1) = decide (i < j) by by_cases h2 : i < j <;> simp [h2] <;> omega]
theorem mkB_new {bm1 : Nat → Int32} {m ho : Nat → Bool} {j : Nat} (hm : ∀ i, i < 100 → (bm1 i == 0) = !(m i || (decide (i < j) && ho i))) (hj : ho j = true) : ∀ i, i < 100 → (upd bm1 j 1 i == 0) = !(m i || (decide (i < j + 1) && ho i)) := by
  intro i hi
  by_cases h : i = j
  · subst h
    rw [pk_us, hj]
    simp
  · rw [pk_un h, hm i hi, show decide (i < j + 1) = decide (i < j) by by_cases h2 : i < j <;> simp [h2] <;> omega]
theorem xB.up {D : va_G} {ids : Nat → ClassId} {n0 : Nat} {RR : List Nat} {ad : Nat → Nat} {cn : Nat → va_E} {τ : Tau} {ns nl nc : Nat} {sa bm bm2 fm : Nat → Int32} {lf ff cf : Nat → Option Nat} {H : Heap} (h1 : ro_P D n0 RR ad (va_up cn 6 (.inl (ids 1, 100, .inl bm2))) H) (h2 : isR RR nl nc) (h3 : isX ids ad cn τ ns nl nc sa bm fm lf ff cf) (hnl : nl ≤ 20) : xB D ids n0 RR ad (va_up cn 6 (.inl (ids 1, 100, .inl bm2))) τ ns nl nc bm2 H :=
  ⟨h1, h2, sa, fm, lf, ff, cf, h3.marks hnl bm2⟩
theorem an_same {τ : Tau} {x : Int32} {b9 q : Nat} (hb : bit x q = false) : (fun i => anB τ x (b9 + i) q) = fun i => anB τ x (b9 + i) (q + 1) := by
  funext i
  simp [anB, hb]
theorem an_step {τ : Tau} {x : Int32} {b9 q n9 : Nat} (hb : bit x q = true) : nI (ct (fun i => anB τ x (b9 + i) q) n9) + nI (ct (fun i => !(decide (i < n9) && anB τ x (b9 + i) q) && hoB τ q (nI (b9 + i))) n9) = nI (ct (fun i => anB τ x (b9 + i) (q + 1)) n9) := by
  rw [nI_add, ct_ext (p := fun i => !(decide (i < n9) && anB τ x (b9 + i) q) && hoB τ q (nI (b9 + i))) (q := fun i => !(anB τ x (b9 + i) q) && hoB τ q (nI (b9 + i))) (fun i hi => by simp [hi]), ct_or]
  congr 1
  exact ct_ext fun i hi => by simp [anB, hb]
theorem an_mark {τ : Tau} {x : Int32} {b9 q n9 : Nat} {bm : Nat → Int32} (hb : bit x q = true) (hm : ∀ i, i < 100 → (bm i == 0) = !((decide (i < n9) && anB τ x (b9 + i) q) || (decide (i < n9) && hoB τ q (nI (b9 + i))))) : ∀ i, i < 100 → (bm i == 0) = !(decide (i < n9) && anB τ x (b9 + i) (q + 1)) := by
  intro i hi
  rw [hm i hi, anB, hb]
  cases decide (i < n9) <;> simp
theorem an_keep {τ : Tau} {x : Int32} {b9 q n9 : Nat} {bm : Nat → Int32} (hb : bit x q = false) (hm : ∀ i, i < 100 → (bm i == 0) = !(decide (i < n9) && anB τ x (b9 + i) q)) : ∀ i, i < 100 → (bm i == 0) = !(decide (i < n9) && anB τ x (b9 + i) (q + 1)) := by
  intro i hi
  rw [hm i hi, anB, hb]
  simp
theorem ag_no {τ : Tau} {nl c q : Nat} {x : Int32} (hx : isAg τ nl c x) (hq : q < 20) (h : ¬ (q < nl ∧ τ 4 q = 0)) : bit x q = false := by
  rw [hx q hq]
  unfold tch
  by_cases h9 : q < nl
  · have h8 : ¬ τ 4 q = 0 := fun h7 => h ⟨h9, h7⟩
    rw [show (τ 4 q == 0) = false from beq_eq_false_iff_ne.mpr h8]
    simp
  · simp [h9]
theorem cl_new {bm1 : Nat → Int32} {j : Nat} (h : ∀ i, i < j → bm1 i = 0) : ∀ i, i < j + 1 → upd bm1 j 0 i = 0 := by
  intro i hi
  by_cases h9 : i = j
  · rw [h9, pk_us]
  · rw [pk_un h9]; exact h i (by omega)
end
section
set_option maxHeartbeats 4000000 in
set_option maxRecDepth 100000 in
theorem x_markBad {l : Launch} {D : va_G} {ids : Nat → ClassId} {n0 : Nat} {RR : List Nat} {ad : Nat → Nat} {cn : Nat → va_E} {τ : Tau} {ns nl nc : Nat} {Hh : Heap} {bm : Nat → Int32} (hB : xB D ids n0 RR ad cn τ ns nl nc bm Hh) {nw : Nat} (hI : Iv τ nw ns nl nc) {k q b9 n9 : Nat} (hk : k < nc) (hq : q < nl) (hb9 : τ 12 k = nI b9) (hn9 : τ 13 k = nI n9) (hn1 : n9 ≤ 100) (hbn : b9 + n9 ≤ 672) {mm : Nat → Bool} (hm0 : ∀ i, i < 100 → (bm i == 0) = !mm i) : ro_M l yX6_markBadHours cX6_markBadHours 5 (some FieldType.int) { frames := 4, cells := 0, slots := 0, locals := 120 } D ids n0 [.ref (ad 0), .ref (ad (60 + k)), .ref (ad (40 + q))] Hh (fun v H1 => ∃ cn1 bm1, xB D ids n0 RR ad cn1 τ ns nl nc bm1 H1 ∧ eq6 cn cn1 ∧ (∀ i, i < 100 → (bm1 i == 0) = !(mm i || (decide (i < n9) && hoB τ q (nI (b9 + i))))) ∧ v = some (.int (nI (ct (fun i => !mm i && hoB τ q (nI (b9 + i))) n9)))) := by
  refine ro_ofM (by decide +kernel) (Nat.le_of_ble_eq_true rfl) ?_
  intro p e s m below meth c MC hhp hr hnm HS ls hl
  have hx := MC.1.1
  have hb := MC.1.2.1
  have hl : lv_has ls 5 [(0, .ref (ad 0)), (1, .ref (ad (60 + k))), (2, .ref (ad (40 + q)))] := hl
  have hnl := hI.2.2.1.2
  have hns := hI.2.1.2.2
  have hcs : cx (τ 0 2) = nl := by rw [hI.2.2.1.1]; exact cx_nI (by omega)
  have hnc := hI.2.2.2.1.2
  refine lv_iconst (v := 0) hx hb dX6_markBadHours_0 (by decide) ?_
  refine lv_istore_n (lv' := [(3, .int 0), (0, .ref (ad 0)), (1, .ref (ad (60 + k))), (2, .ref (ad (40 + q)))]) hx hb dX6_markBadHours_1 rfl hl (by decide) rfl (fun ls hl => ?_)
  refine lv_iconst (v := 0) hx hb dX6_markBadHours_2 (by decide) ?_
  refine lv_istore (lv' := [(4, .int 0), (3, .int 0), (0, .ref (ad 0)), (1, .ref (ad (60 + k))), (2, .ref (ad (40 + q)))]) hx hb dX6_markBadHours_3 hl (by decide) rfl (fun ls hl => ?_)
  have loop : ∀ j : Nat, j ≤ n9 → ∀ (cn1 : Nat → va_E) (bm1 : Nat → Int32) (H1 : Heap) (locs : List Loc) (ls : Array Slot), xB D ids n0 RR ad cn1 τ ns nl nc bm1 H1 → eq6 cn cn1 → (∀ i, i < 100 → (bm1 i == 0) = !(mm i || (decide (i < j) && hoB τ q (nI (b9 + i))))) → va_S (fun q => n0 ≤ q) s.heap H1 locs → lv_has ls 5 [(4, .int (nI j)), (3, .int (nI (ct (fun i => !mm i && hoB τ q (nI (b9 + i))) j))), (0, .ref (ad 0)), (1, .ref (ad (60 + k))), (2, .ref (ad (40 + q)))] → W p l e { frames := 4, cells := 0, slots := 0, locals := 120 } s m ([.ref (ad 0), .ref (ad (60 + k)), .ref (ad (40 + q))] : List Value).toArray below meth c H1 locs 0 0 (MQ below (ro_Q n0 (fun v H1 => ∃ cn1 bm1, xB D ids n0 RR ad cn1 τ ns nl nc bm1 H1 ∧ eq6 cn cn1 ∧ (∀ i, i < 100 → (bm1 i == 0) = !(mm i || (decide (i < n9) && hoB τ q (nI (b9 + i))))) ∧ v = some (.int (nI (ct (fun i => !mm i && hoB τ q (nI (b9 + i))) n9))))) ([.ref (ad 0), .ref (ad (60 + k)), .ref (ad (40 + q))] : List Value).toArray s 0 0 (fun q => n0 ≤ q)) (F0 m 5 ls []) := by
    refine ro_loop n9 (fun j : Nat => ∀ (cn1 : Nat → va_E) (bm1 : Nat → Int32) (H1 : Heap) (locs : List Loc) (ls : Array Slot), xB D ids n0 RR ad cn1 τ ns nl nc bm1 H1 → eq6 cn cn1 → (∀ i, i < 100 → (bm1 i == 0) = !(mm i || (decide (i < j) && hoB τ q (nI (b9 + i))))) → va_S (fun q => n0 ≤ q) s.heap H1 locs → lv_has ls 5 [(4, .int (nI j)), (3, .int (nI (ct (fun i => !mm i && hoB τ q (nI (b9 + i))) j))), (0, .ref (ad 0)), (1, .ref (ad (60 + k))), (2, .ref (ad (40 + q)))] → W p l e { frames := 4, cells := 0, slots := 0, locals := 120 } s m ([.ref (ad 0), .ref (ad (60 + k)), .ref (ad (40 + q))] : List Value).toArray below meth c H1 locs 0 0 (MQ below (ro_Q n0 (fun v H1 => ∃ cn1 bm1, xB D ids n0 RR ad cn1 τ ns nl nc bm1 H1 ∧ eq6 cn cn1 ∧ (∀ i, i < 100 → (bm1 i == 0) = !(mm i || (decide (i < n9) && hoB τ q (nI (b9 + i))))) ∧ v = some (.int (nI (ct (fun i => !mm i && hoB τ q (nI (b9 + i))) n9))))) ([.ref (ad 0), .ref (ad (60 + k)), .ref (ad (40 + q))] : List Value).toArray s 0 0 (fun q => n0 ≤ q)) (F0 m 5 ls [])) ?_ ?_
    · intro cn1 bm1 H1 locs ls hB1 he1 hm1 HS hl
      obtain ⟨HP, hRR, sa, fm, lf, ff, cf, h0, h1, h1b, h2, h2b, h7, h7b, h3, h3b, h40, h4, h4b, h60, h5, h6⟩ := id hB1
      refine lv_iload hx hb dX6_markBadHours_5 (lv_at hl 0 rfl) ?_
      refine lv_aload_n hx hb dX6_markBadHours_7 rfl (lv_at hl 3 rfl) ?_
      refine ro_get MC HP (hRR.c (show k < nc by omega)) (h60 k (by omega)) (rfl : vwCl[0]? = some (RX0, TX0, 8)) inU0 1 (by decide) kw404 rfl rfl dX6_markBadHours_8 ?_
      refine lv_icmp_ge (tgt := 62) hx hb dX6_markBadHours_11 (by decide) (fun c_11 => ?_) (fun c_11 => absurd (kn_le hn9 (Nat.le_refl _) (by omega)) c_11)
      refine lv_iload_n hx hb dX6_markBadHours_62 rfl (lv_at hl 1 rfl) ?_
      exact ro_iretM MC HS hr (⟨cn1, bm1, hB1, he1, hm1, rfl⟩) (Nat.le_of_ble_eq_true rfl) (Nat.le_of_ble_eq_true rfl) dX6_markBadHours_63
    · intro j hj ih cn1 bm1 H1 locs ls hB1 he1 hm1 HS hl
      obtain ⟨HP, hRR, sa, fm, lf, ff, cf, h0, h1, h1b, h2, h2b, h7, h7b, h3, h3b, h40, h4, h4b, h60, h5, h6⟩ := id hB1
      have hX := hB1.h
      refine lv_iload hx hb dX6_markBadHours_5 (lv_at hl 0 rfl) ?_
      refine lv_aload_n hx hb dX6_markBadHours_7 rfl (lv_at hl 3 rfl) ?_
      refine ro_get MC HP (hRR.c (show k < nc by omega)) (h60 k (by omega)) (rfl : vwCl[0]? = some (RX0, TX0, 8)) inU0 1 (by decide) kw404 rfl rfl dX6_markBadHours_8 ?_
      refine lv_icmp_ge (tgt := 62) hx hb dX6_markBadHours_11 (by decide) (fun c_11 => absurd c_11 (kn_nle hn9 (show j < n9 by omega) (by omega))) (fun c_11 => ?_)
      refine lv_iload hx hb dX6_markBadHours_14 (lv_at hl 0 rfl) ?_
      refine lv_bipush (v := 100) hx hb dX6_markBadHours_16 (by decide) ?_
      refine lv_icmp_ge (tgt := 62) hx hb dX6_markBadHours_18 (by decide) (fun c_18 => absurd c_18 (kn_nle (n := 100) rfl (show j < 100 by omega) (by omega))) (fun c_18 => ?_)
      refine lv_aload_n hx hb dX6_markBadHours_21 rfl (lv_at hl 2 rfl) ?_
      refine ro_get MC HP (hRR.l (by decide)) h0 (rfl : vwCl[5]? = some (RX6, TX6, 11)) inU6 10 (by decide) kw71 rfl rfl dX6_markBadHours_22 ?_
      refine lv_iload hx hb dX6_markBadHours_25 (lv_at hl 0 rfl) ?_
      refine xo_zald MC HP (hRR.l (show 6 < 18 by omega)) h6 j (show j < 100 by omega) (by omega) rfl dX6_markBadHours_27 ?_
      refine lv_if_ne (tgt := 56) hx hb dX6_markBadHours_28 (by decide) (fun c_28 => ?_) (fun c_28 => ?_)
      · refine lv_iinc (v := nI j + 1) (lv' := [(4, .int (nI j + 1)), (3, .int (nI (ct (fun i => !mm i && hoB τ q (nI (b9 + i))) j))), (0, .ref (ad 0)), (1, .ref (ad (60 + k))), (2, .ref (ad (40 + q)))]) hx hb dX6_markBadHours_56 hl (k := 0) rfl rfl (by decide) rfl (fun ls hl => ?_)
        refine lv_goto (tgt := 5) hx hb dX6_markBadHours_59 (by decide) ?_
        have hmj : mm j = true := by have h9 := hm1 j (by omega); revert h9 c_28; cases mm j <;> simp
        rw [show ct (fun i => !mm i && hoB τ q (nI (b9 + i))) j = ct (fun i => !mm i && hoB τ q (nI (b9 + i))) (j + 1) by simp [ct, hmj], nI_1] at hl
        exact ih _ _ _ _ ls hB1 he1 (mkB_same hm1 (by simp [hmj])) HS (lv_sub hl [0, 1, 2, 3, 4] rfl)
      · refine lv_aload_n hx hb dX6_markBadHours_31 rfl (lv_at hl 4 rfl) ?_
        refine lv_aload_n hx hb dX6_markBadHours_32 rfl (lv_at hl 3 rfl) ?_
        refine ro_get MC HP (hRR.c (show k < nc by omega)) (h60 k (by omega)) (rfl : vwCl[0]? = some (RX0, TX0, 8)) inU0 3 (by decide) kw408 rfl rfl dX6_markBadHours_33 ?_
        refine lv_iload hx hb dX6_markBadHours_36 (lv_at hl 0 rfl) ?_
        refine lv_iadd hx hb dX6_markBadHours_38 ?_
        refine xo_holds hX hI MC HS (k := q) (hh := (b9 + j)) (show q < nl by omega) (by omega) (hr_add hb9) hl.1 (Nat.le_of_ble_eq_true rfl) ⟨Nat.le_of_ble_eq_true rfl, Nat.le_of_ble_eq_true rfl⟩ dX6_markBadHours_39 ⟨Nat.le_of_ble_eq_true rfl, Nat.le_of_ble_eq_true rfl⟩ (fun lH1 HS => ?_)
        refine lv_if_eq (tgt := 56) hx hb dX6_markBadHours_42 (by decide) (fun c_42 => ?_) (fun c_42 => ?_)
        · have f_42 := bI_0.mp c_42
          refine lv_iinc (v := nI j + 1) (lv' := [(4, .int (nI j + 1)), (3, .int (nI (ct (fun i => !mm i && hoB τ q (nI (b9 + i))) j))), (0, .ref (ad 0)), (1, .ref (ad (60 + k))), (2, .ref (ad (40 + q)))]) hx hb dX6_markBadHours_56 hl (k := 0) rfl rfl (by decide) rfl (fun ls hl => ?_)
          refine lv_goto (tgt := 5) hx hb dX6_markBadHours_59 (by decide) ?_
          have hmj : hoB τ q (nI (b9 + j)) = false := by simpa using f_42
          rw [show ct (fun i => !mm i && hoB τ q (nI (b9 + i))) j = ct (fun i => !mm i && hoB τ q (nI (b9 + i))) (j + 1) by simp [ct, hmj], nI_1] at hl
          exact ih _ _ _ _ ls hB1 he1 (mkB_same hm1 (by simp [hmj])) HS (lv_sub hl [0, 1, 2, 3, 4] rfl)
        · have f_42 := bI_n0.mp c_42
          refine lv_aload_n hx hb dX6_markBadHours_45 rfl (lv_at hl 2 rfl) ?_
          refine ro_get MC HP (hRR.l (by decide)) h0 (rfl : vwCl[5]? = some (RX6, TX6, 11)) inU6 10 (by decide) kw71 rfl rfl dX6_markBadHours_46 ?_
          refine lv_iload hx hb dX6_markBadHours_49 (lv_at hl 0 rfl) ?_
          refine lv_iconst (v := 1) hx hb dX6_markBadHours_51 (by decide) ?_
          refine xo_zast MC HP HS (hRR.l (by decide)) h6 j (show j < 100 by omega) (by omega) rfl (by decide) dX6_markBadHours_52 (fun H2 locs2 HP2 HS => ?_)
          have hB2 := xB.up HP2 hRR ⟨h0, h1, h1b, h2, h2b, h7, h7b, h3, h3b, h40, h4, h4b, h60, h5, h6⟩ hnl
          refine lv_iinc (v := nI (ct (fun i => !mm i && hoB τ q (nI (b9 + i))) j) + 1) (lv' := [(3, .int (nI (ct (fun i => !mm i && hoB τ q (nI (b9 + i))) j) + 1)), (4, .int (nI j)), (0, .ref (ad 0)), (1, .ref (ad (60 + k))), (2, .ref (ad (40 + q)))]) hx hb dX6_markBadHours_53 hl (k := 1) rfl rfl (by decide) rfl (fun ls hl => ?_)
          refine lv_iinc (v := nI j + 1) (lv' := [(4, .int (nI j + 1)), (3, .int (nI (ct (fun i => !mm i && hoB τ q (nI (b9 + i))) j) + 1)), (0, .ref (ad 0)), (1, .ref (ad (60 + k))), (2, .ref (ad (40 + q)))]) hx hb dX6_markBadHours_56 hl (k := 1) rfl rfl (by decide) rfl (fun ls hl => ?_)
          refine lv_goto (tgt := 5) hx hb dX6_markBadHours_59 (by decide) ?_
          rw [ct_t (p := (fun i => !mm i && hoB τ q (nI (b9 + i)))) (k := j) (by have h9 := hm1 j (by omega); rw [c_28] at h9; revert h9 f_42; cases mm j <;> cases hoB τ q (nI (b9 + j)) <;> simp), nI_1] at hl
          exact ih _ _ _ _ ls hB2 he1.up (mkB_new hm1 f_42) HS (lv_sub hl [0, 1, 2, 3, 4] rfl)
  exact loop 0 (Nat.zero_le _) cn bm _ _ ls hB (eq6.rf _) (fun i hi => by rw [hm0 i hi]; simp) HS (lv_sub hl [0, 1, 2, 3, 4] rfl)
set_option maxHeartbeats 4000000 in
set_option maxRecDepth 100000 in
theorem x_countBad {l : Launch} {D : va_G} {ids : Nat → ClassId} {n0 : Nat} {RR : List Nat} {ad : Nat → Nat} {cn : Nat → va_E} {τ : Tau} {ns nl nc : Nat} {Hh : Heap} (hX : xH D ids n0 RR ad cn τ ns nl nc Hh) {nw : Nat} (hI : Iv τ nw ns nl nc) {k : Nat} (hk : k < nc) : ro_M l yX6_countBadHours cX6_countBadHours 6 (some FieldType.int) { frames := 6, cells := 0, slots := 0, locals := 180 } D ids n0 [.ref (ad 0), .ref (ad (60 + k))] Hh (fun v H1 => ∃ cn1, xH D ids n0 RR ad cn1 τ ns nl nc H1 ∧ eq6 cn cn1 ∧ v = some (.int (nI (badN τ k)))) := by
  refine ro_ofM (by decide +kernel) (Nat.le_of_ble_eq_true rfl) ?_
  intro p e s m below meth c MC hhp hr hnm HS ls hl
  have hx := MC.1.1
  have hb := MC.1.2.1
  have hl : lv_has ls 6 [(0, .ref (ad 0)), (1, .ref (ad (60 + k)))] := hl
  have hnl := hI.2.2.1.2
  have hns := hI.2.1.2.2
  have hcs : cx (τ 0 2) = nl := by rw [hI.2.2.1.1]; exact cx_nI (by omega)
  have hnc := hI.2.2.2.1.2
  obtain ⟨⟨u, hu, hsu⟩, ⟨b9, n9, hb9, hn9, h1n, hn1, hbn⟩, -, -, hbg⟩ := hI.2.2.2.2.2.2.2.2.2.2.1 k hk
  have hcl : cx (τ 13 k) = n9 := by rw [hn9]; exact cx_nI (by omega)
  obtain ⟨bm, hB⟩ := hX.b
  refine lv_iconst (v := 0) hx hb dX6_countBadHours_0 (by decide) ?_
  refine lv_istore_n (lv' := [(2, .int 0), (0, .ref (ad 0)), (1, .ref (ad (60 + k)))]) hx hb dX6_countBadHours_1 rfl hl (by decide) rfl (fun ls hl => ?_)
  have loop : ∀ j : Nat, j ≤ 100 → ∀ (cn1 : Nat → va_E) (bm1 : Nat → Int32) (H1 : Heap) (locs : List Loc) (ls : Array Slot), xB D ids n0 RR ad cn1 τ ns nl nc bm1 H1 → eq6 cn cn1 → (∀ i, i < j → bm1 i = 0) → va_S (fun q => n0 ≤ q) s.heap H1 locs → lv_has ls 6 [(2, .int (nI j)), (0, .ref (ad 0)), (1, .ref (ad (60 + k)))] → W p l e { frames := 6, cells := 0, slots := 0, locals := 180 } s m ([.ref (ad 0), .ref (ad (60 + k))] : List Value).toArray below meth c H1 locs 0 0 (MQ below (ro_Q n0 (fun v H1 => ∃ cn1, xH D ids n0 RR ad cn1 τ ns nl nc H1 ∧ eq6 cn cn1 ∧ v = some (.int (nI (badN τ k))))) ([.ref (ad 0), .ref (ad (60 + k))] : List Value).toArray s 0 0 (fun q => n0 ≤ q)) (F0 m 2 ls []) := by
    refine ro_loop 100 (fun j : Nat => ∀ (cn1 : Nat → va_E) (bm1 : Nat → Int32) (H1 : Heap) (locs : List Loc) (ls : Array Slot), xB D ids n0 RR ad cn1 τ ns nl nc bm1 H1 → eq6 cn cn1 → (∀ i, i < j → bm1 i = 0) → va_S (fun q => n0 ≤ q) s.heap H1 locs → lv_has ls 6 [(2, .int (nI j)), (0, .ref (ad 0)), (1, .ref (ad (60 + k)))] → W p l e { frames := 6, cells := 0, slots := 0, locals := 180 } s m ([.ref (ad 0), .ref (ad (60 + k))] : List Value).toArray below meth c H1 locs 0 0 (MQ below (ro_Q n0 (fun v H1 => ∃ cn1, xH D ids n0 RR ad cn1 τ ns nl nc H1 ∧ eq6 cn cn1 ∧ v = some (.int (nI (badN τ k))))) ([.ref (ad 0), .ref (ad (60 + k))] : List Value).toArray s 0 0 (fun q => n0 ≤ q)) (F0 m 2 ls [])) ?_ ?_
    · intro cn1 bm1 H1 locs ls hB1 he1 hm1 HS hl
      obtain ⟨HP, hRR, sa, fm, lf, ff, cf, h0, h1, h1b, h2, h2b, h7, h7b, h3, h3b, h40, h4, h4b, h60, h5, h6⟩ := id hB1
      have hX := hB1.h
      refine lv_iload_n hx hb dX6_countBadHours_2 rfl (lv_at hl 0 rfl) ?_
      refine lv_bipush (v := 100) hx hb dX6_countBadHours_3 (by decide) ?_
      refine lv_icmp_ge (tgt := 21) hx hb dX6_countBadHours_5 (by decide) (fun c_5 => ?_) (fun c_5 => absurd (kn_le (n := 100) rfl (Nat.le_refl _) (by omega)) c_5)
      refine lv_aload_n hx hb dX6_countBadHours_21 rfl (lv_at hl 1 rfl) ?_
      refine lv_aload_n hx hb dX6_countBadHours_22 rfl (lv_at hl 2 rfl) ?_
      refine ro_callV MC HS (rest := []) (As := [.ref (ad (60 + k))]) (x_against hX hI hk) (lkX6_194) (kw450) (kw11) ⟨Nat.le_of_ble_eq_true rfl, Nat.le_of_ble_eq_true rfl⟩ (ro_recv MC HP (hRR.l (by decide)) h0 (rfl : vwCl[5]? = some (RX6, TX6, 11))) hl.1 rfl (Nat.le_of_ble_eq_true rfl) dX6_countBadHours_23 ⟨Nat.le_of_ble_eq_true rfl, Nat.le_of_ble_eq_true rfl⟩ (fun v9 H1 lH1 hp hz HS => ?_)
      obtain ⟨x, rfl, hxb, rfl⟩ := hp
      refine lv_istore_n (lv' := [(2, .int x), (0, .ref (ad 0)), (1, .ref (ad (60 + k)))]) hx hb dX6_countBadHours_26 rfl hl (by decide) rfl (fun ls hl => ?_)
      refine lv_iconst (v := 0) hx hb dX6_countBadHours_27 (by decide) ?_
      refine lv_istore_n (lv' := [(3, .int 0), (2, .int x), (0, .ref (ad 0)), (1, .ref (ad (60 + k)))]) hx hb dX6_countBadHours_28 rfl hl (by decide) rfl (fun ls hl => ?_)
      refine lv_iconst (v := 0) hx hb dX6_countBadHours_29 (by decide) ?_
      refine lv_istore (lv' := [(4, .int 0), (3, .int 0), (2, .int x), (0, .ref (ad 0)), (1, .ref (ad (60 + k)))]) hx hb dX6_countBadHours_30 hl (by decide) rfl (fun ls hl => ?_)
      have loop2 : ∀ q : Nat, q ≤ 20 → ∀ (cn2 : Nat → va_E) (bm2 : Nat → Int32) (H2 : Heap) (locs : List Loc) (ls : Array Slot), xB D ids n0 RR ad cn2 τ ns nl nc bm2 H2 → eq6 cn cn2 → (∀ i, i < 100 → (bm2 i == 0) = !(decide (i < n9) && anB τ x (b9 + i) q)) → va_S (fun q => n0 ≤ q) s.heap H2 locs → lv_has ls 6 [(4, .int (nI q)), (3, .int (nI (ct (fun i => anB τ x (b9 + i) q) n9))), (2, .int x), (0, .ref (ad 0)), (1, .ref (ad (60 + k)))] → W p l e { frames := 6, cells := 0, slots := 0, locals := 180 } s m ([.ref (ad 0), .ref (ad (60 + k))] : List Value).toArray below meth c H2 locs 0 0 (MQ below (ro_Q n0 (fun v H1 => ∃ cn1, xH D ids n0 RR ad cn1 τ ns nl nc H1 ∧ eq6 cn cn1 ∧ v = some (.int (nI (badN τ k))))) ([.ref (ad 0), .ref (ad (60 + k))] : List Value).toArray s 0 0 (fun q => n0 ≤ q)) (F0 m 32 ls []) := by
        refine ro_loop 20 (fun q : Nat => ∀ (cn2 : Nat → va_E) (bm2 : Nat → Int32) (H2 : Heap) (locs : List Loc) (ls : Array Slot), xB D ids n0 RR ad cn2 τ ns nl nc bm2 H2 → eq6 cn cn2 → (∀ i, i < 100 → (bm2 i == 0) = !(decide (i < n9) && anB τ x (b9 + i) q)) → va_S (fun q => n0 ≤ q) s.heap H2 locs → lv_has ls 6 [(4, .int (nI q)), (3, .int (nI (ct (fun i => anB τ x (b9 + i) q) n9))), (2, .int x), (0, .ref (ad 0)), (1, .ref (ad (60 + k)))] → W p l e { frames := 6, cells := 0, slots := 0, locals := 180 } s m ([.ref (ad 0), .ref (ad (60 + k))] : List Value).toArray below meth c H2 locs 0 0 (MQ below (ro_Q n0 (fun v H1 => ∃ cn1, xH D ids n0 RR ad cn1 τ ns nl nc H1 ∧ eq6 cn cn1 ∧ v = some (.int (nI (badN τ k))))) ([.ref (ad 0), .ref (ad (60 + k))] : List Value).toArray s 0 0 (fun q => n0 ≤ q)) (F0 m 32 ls [])) ?_ ?_
        · intro cn2 bm2 H2 locs ls hB2 he2 hm2 HS hl
          obtain ⟨HP, hRR, sa, fm, lf, ff, cf, h0, h1, h1b, h2, h2b, h7, h7b, h3, h3b, h40, h4, h4b, h60, h5, h6⟩ := id hB2
          refine lv_iload hx hb dX6_countBadHours_32 (lv_at hl 0 rfl) ?_
          refine lv_bipush (v := 20) hx hb dX6_countBadHours_34 (by decide) ?_
          refine lv_icmp_ge (tgt := 78) hx hb dX6_countBadHours_36 (by decide) (fun c_36 => ?_) (fun c_36 => absurd (kn_le (n := 20) rfl (Nat.le_refl _) (by omega)) c_36)
          refine lv_iload_n hx hb dX6_countBadHours_78 rfl (lv_at hl 1 rfl) ?_
          exact ro_iretM MC HS hr (⟨cn2, hB2.h, he2, by rw [ct_ext (fun i hi => anB_bad hnl hcs hxb hb9), badN, hcl]⟩) (Nat.le_of_ble_eq_true rfl) (Nat.le_of_ble_eq_true rfl) dX6_countBadHours_79
        · intro q hq ih cn2 bm2 H2 locs ls hB2 he2 hm2 HS hl
          obtain ⟨HP, hRR, sa, fm, lf, ff, cf, h0, h1, h1b, h2, h2b, h7, h7b, h3, h3b, h40, h4, h4b, h60, h5, h6⟩ := id hB2
          have hX := hB2.h
          refine lv_iload hx hb dX6_countBadHours_32 (lv_at hl 0 rfl) ?_
          refine lv_bipush (v := 20) hx hb dX6_countBadHours_34 (by decide) ?_
          refine lv_icmp_ge (tgt := 78) hx hb dX6_countBadHours_36 (by decide) (fun c_36 => absurd c_36 (kn_nle (n := 20) rfl (show q < 20 by omega) (by omega))) (fun c_36 => ?_)
          refine lv_aload_n hx hb dX6_countBadHours_39 rfl (lv_at hl 3 rfl) ?_
          refine ro_get MC HP (hRR.l (by decide)) h0 (rfl : vwCl[5]? = some (RX6, TX6, 11)) inU6 4 (by decide) kw65 rfl rfl dX6_countBadHours_40 ?_
          refine lv_iload hx hb dX6_countBadHours_43 (lv_at hl 0 rfl) ?_
          by_cases hz_45 : q < nl ∧ τ 4 q = 0
          · have hz_45n := hz_45.1
            refine xo_aald MC HP 4 (hRR.l (by decide)) h3 rfl q (show q < 20 by omega) (by omega) ((h3b q (by omega)).trans (if_pos hz_45)) rfl dX6_countBadHours_45 ?_
            refine lv_astore (lv' := [(5, .ref (ad (40 + q))), (4, .int (nI q)), (3, .int (nI (ct (fun i => anB τ x (b9 + i) q) n9))), (2, .int x), (0, .ref (ad 0)), (1, .ref (ad (60 + k)))]) hx hb dX6_countBadHours_46 hl (by decide) rfl (fun ls hl => ?_)
            refine lv_aload hx hb dX6_countBadHours_48 (lv_at hl 0 rfl) ?_
            refine lv_ifnull hx hb dX6_countBadHours_50 ?_
            refine lv_iload_n hx hb dX6_countBadHours_53 rfl (lv_at hl 3 rfl) ?_
            refine lv_iload hx hb dX6_countBadHours_54 (lv_at hl 1 rfl) ?_
            refine ro_callS MC HS (rest := []) (As := [.int x, .int (nI q)]) (x_isInSet D ids n0 x q) (lkX6_178) (kw229) ⟨Nat.le_of_ble_eq_true rfl, Nat.le_of_ble_eq_true rfl⟩ hl.1 rfl (Nat.le_of_ble_eq_true rfl) dX6_countBadHours_56 ⟨Nat.le_of_ble_eq_true rfl, Nat.le_of_ble_eq_true rfl⟩ (fun v9 H2 lH2 hp hz HS => ?_)
            obtain ⟨rfl, rfl⟩ := hp
            refine lv_if_eq (tgt := 72) hx hb dX6_countBadHours_59 (by decide) (fun c_59 => ?_) (fun c_59 => ?_)
            · have f_59 := bI_0.mp c_59
              refine lv_iinc (v := nI q + 1) (lv' := [(4, .int (nI q + 1)), (5, .ref (ad (40 + q))), (3, .int (nI (ct (fun i => anB τ x (b9 + i) q) n9))), (2, .int x), (0, .ref (ad 0)), (1, .ref (ad (60 + k)))]) hx hb dX6_countBadHours_72 hl (k := 1) rfl rfl (by decide) rfl (fun ls hl => ?_)
              refine lv_goto (tgt := 32) hx hb dX6_countBadHours_75 (by decide) ?_
              have hbq : bit x q = false := by simpa using f_59
              rw [an_same hbq, nI_1] at hl
              exact ih _ _ _ _ ls hB2 he2 (an_keep hbq hm2) HS (lv_sub hl [0, 2, 3, 4, 5] rfl)
            · have f_59 := bI_n0.mp c_59
              refine lv_iload_n hx hb dX6_countBadHours_62 rfl (lv_at hl 2 rfl) ?_
              refine lv_aload_n hx hb dX6_countBadHours_63 rfl (lv_at hl 4 rfl) ?_
              refine lv_aload_n hx hb dX6_countBadHours_64 rfl (lv_at hl 5 rfl) ?_
              refine lv_aload hx hb dX6_countBadHours_65 (lv_at hl 0 rfl) ?_
              refine ro_callV MC HS (rest := [.int (nI (ct (fun i => anB τ x (b9 + i) q) n9))]) (As := [.ref (ad (60 + k)), .ref (ad (40 + q))]) (x_markBad hB2 hI hk (q := q) hz_45n hb9 hn9 hn1 hbn (mm := (fun i => decide (i < n9) && anB τ x (b9 + i) q)) hm2) (lkX6_227) (kw458) (kw13) ⟨Nat.le_of_ble_eq_true rfl, Nat.le_of_ble_eq_true rfl⟩ (ro_recv MC HP (hRR.l (by decide)) h0 (rfl : vwCl[5]? = some (RX6, TX6, 11))) hl.1 rfl (Nat.le_of_ble_eq_true rfl) dX6_countBadHours_67 ⟨Nat.le_of_ble_eq_true rfl, Nat.le_of_ble_eq_true rfl⟩ (fun v9 H3 lH3 hp hz HS => ?_)
              obtain ⟨cn3, bm3, hB3, he3, hm3, rfl⟩ := hp
              refine lv_iadd hx hb dX6_countBadHours_70 ?_
              refine lv_istore_n (lv' := [(3, .int ((nI (ct (fun i => anB τ x (b9 + i) q) n9) + nI (ct (fun i => !(decide (i < n9) && anB τ x (b9 + i) q) && hoB τ q (nI (b9 + i))) n9)))), (5, .ref (ad (40 + q))), (4, .int (nI q)), (2, .int x), (0, .ref (ad 0)), (1, .ref (ad (60 + k)))]) hx hb dX6_countBadHours_71 rfl hl (by decide) rfl (fun ls hl => ?_)
              refine lv_iinc (v := nI q + 1) (lv' := [(4, .int (nI q + 1)), (3, .int ((nI (ct (fun i => anB τ x (b9 + i) q) n9) + nI (ct (fun i => !(decide (i < n9) && anB τ x (b9 + i) q) && hoB τ q (nI (b9 + i))) n9)))), (5, .ref (ad (40 + q))), (2, .int x), (0, .ref (ad 0)), (1, .ref (ad (60 + k)))]) hx hb dX6_countBadHours_72 hl (k := 2) rfl rfl (by decide) rfl (fun ls hl => ?_)
              refine lv_goto (tgt := 32) hx hb dX6_countBadHours_75 (by decide) ?_
              rw [an_step f_59, nI_1] at hl
              exact ih _ _ _ _ ls hB3 (he2.tr he3) (an_mark f_59 hm3) HS (lv_sub hl [0, 1, 3, 4, 5] rfl)
          · refine xo_aald MC HP 4 (hRR.l (by decide)) h3 rfl q (show q < 20 by omega) (by omega) ((h3b q (by omega)).trans (if_neg hz_45)) rfl dX6_countBadHours_45 ?_
            refine lv_astoreN (lv' := [(5, .null), (4, .int (nI q)), (3, .int (nI (ct (fun i => anB τ x (b9 + i) q) n9))), (2, .int x), (0, .ref (ad 0)), (1, .ref (ad (60 + k)))]) hx hb dX6_countBadHours_46 hl (by decide) rfl (fun ls hl => ?_)
            refine lv_aloadN hx hb dX6_countBadHours_48 (lv_at hl 0 rfl) ?_
            refine lv_ifnullN (tgt := 72) hx hb dX6_countBadHours_50 (by decide) ?_
            refine lv_iinc (v := nI q + 1) (lv' := [(4, .int (nI q + 1)), (5, .null), (3, .int (nI (ct (fun i => anB τ x (b9 + i) q) n9))), (2, .int x), (0, .ref (ad 0)), (1, .ref (ad (60 + k)))]) hx hb dX6_countBadHours_72 hl (k := 1) rfl rfl (by decide) rfl (fun ls hl => ?_)
            refine lv_goto (tgt := 32) hx hb dX6_countBadHours_75 (by decide) ?_
            have hbq : bit x q = false := ag_no hxb hq hz_45
            rw [an_same hbq, nI_1] at hl
            exact ih _ _ _ _ ls hB2 he2 (an_keep hbq hm2) HS (lv_sub hl [0, 2, 3, 4, 5] rfl)
      have hz0 : nI (ct (fun i => anB τ x (b9 + i) 0) n9) = 0 := congrArg nI (ct_none (p := (fun i => anB τ x (b9 + i) 0)) (n := n9) (fun k hk => rfl))
      exact loop2 0 (Nat.zero_le _) cn1 bm1 _ _ ls hB1 he1 (fun i hi => by rw [hm1 i hi]; simp [anB]) HS (lv_sub hl [0, 1, 2, 3, 4] (by rw [hz0]; rfl))
    · intro j hj ih cn1 bm1 H1 locs ls hB1 he1 hm1 HS hl
      obtain ⟨HP, hRR, sa, fm, lf, ff, cf, h0, h1, h1b, h2, h2b, h7, h7b, h3, h3b, h40, h4, h4b, h60, h5, h6⟩ := id hB1
      refine lv_iload_n hx hb dX6_countBadHours_2 rfl (lv_at hl 0 rfl) ?_
      refine lv_bipush (v := 100) hx hb dX6_countBadHours_3 (by decide) ?_
      refine lv_icmp_ge (tgt := 21) hx hb dX6_countBadHours_5 (by decide) (fun c_5 => absurd c_5 (kn_nle (n := 100) rfl (show j < 100 by omega) (by omega))) (fun c_5 => ?_)
      refine lv_aload_n hx hb dX6_countBadHours_8 rfl (lv_at hl 1 rfl) ?_
      refine ro_get MC HP (hRR.l (by decide)) h0 (rfl : vwCl[5]? = some (RX6, TX6, 11)) inU6 10 (by decide) kw71 rfl rfl dX6_countBadHours_9 ?_
      refine lv_iload_n hx hb dX6_countBadHours_12 rfl (lv_at hl 0 rfl) ?_
      refine lv_iconst (v := 0) hx hb dX6_countBadHours_13 (by decide) ?_
      refine xo_zast MC HP HS (hRR.l (by decide)) h6 j (show j < 100 by omega) (by omega) rfl (by decide) dX6_countBadHours_14 (fun H2 locs2 HP2 HS => ?_)
      have hB2 := xB.up HP2 hRR ⟨h0, h1, h1b, h2, h2b, h7, h7b, h3, h3b, h40, h4, h4b, h60, h5, h6⟩ hnl
      refine lv_iinc (v := nI j + 1) (lv' := [(2, .int (nI j + 1)), (0, .ref (ad 0)), (1, .ref (ad (60 + k)))]) hx hb dX6_countBadHours_15 hl (k := 0) rfl rfl (by decide) rfl (fun ls hl => ?_)
      refine lv_goto (tgt := 2) hx hb dX6_countBadHours_18 (by decide) ?_
      rw [nI_1] at hl
      exact ih _ _ _ _ ls hB2 he1.up (cl_new hm1) HS (lv_sub hl [0, 1, 2] rfl)
  exact loop 0 (Nat.zero_le _) cn bm _ _ ls hB (eq6.rf _) (fun i hi => absurd hi (by omega)) HS (lv_sub hl [0, 1, 2] rfl)
end
section
theorem okF_k {τ : Tau} {nw ns nl nc k : Nat} {a : Int32} (hI : Iv τ nw ns nl nc) (hka : a = nI k) (hk : k < 20) : okF τ a ↔ (k < nl ∧ τ 4 k = 0) := by
  have hc : cx a = k := by rw [hka]; exact cx_nI (by omega)
  constructor
  · rintro ⟨h1, h2⟩
    obtain ⟨j, hj, ha, hja⟩ := hI.n h1
    rw [hc] at hja h2
    subst hja
    exact ⟨hj, h2⟩
  · rintro ⟨h1, h2⟩
    refine ⟨?_, by rw [hc]; exact h2⟩
    rw [hka]
    exact ix_ok hI.2.2.1.1 (by have := hI.2.2.1.2; omega) h1
theorem okC_k {τ : Tau} {nw ns nl nc k : Nat} {a : Int32} (hI : Iv τ nw ns nl nc) (hka : a = nI k) (hk : k < 30) : okC τ a ↔ k < nc := by
  have hc : cx a = k := by rw [hka]; exact cx_nI (by omega)
  constructor
  · intro h1
    obtain ⟨j, hj, ha, hja⟩ := hI.c h1
    rw [hc] at hja
    subst hja
    exact hj
  · intro h1
    show 0 ≤ a ∧ a ≤ τ 0 3 - 1
    rw [hka]
    exact ix_ok hI.2.2.2.1.1 (by have := hI.2.2.2.1.2; omega) h1
end
section
theorem aq_nS_0 {τ : Tau} {a : Int32} (hs1 : 1 ≤ τ 0 1) (hs16 : τ 0 1 ≤ 16) (c_1 : a < 0) : ¬ (0 ≤ a ∧ a ≤ τ 0 1 - 1) := by
  grind
theorem aq_nS_1 {τ : Tau} {a : Int32} (hs1 : 1 ≤ τ 0 1) (hs16 : τ 0 1 ≤ 16) (c_1 : ¬ (a < 0)) (c_9 : τ 0 1 ≤ a) : ¬ (0 ≤ a ∧ a ≤ τ 0 1 - 1) := by
  grind
theorem aq_nS_2 {τ : Tau} {a : Int32} (hs1 : 1 ≤ τ 0 1) (hs16 : τ 0 1 ≤ 16) (c_1 : ¬ (a < 0)) (c_9 : ¬ (τ 0 1 ≤ a)) (c_15 : a < 16) : 0 ≤ a ∧ a ≤ τ 0 1 - 1 := by
  grind
theorem aq_nS_3 {τ : Tau} {a : Int32} (hs1 : 1 ≤ τ 0 1) (hs16 : τ 0 1 ≤ 16) (c_1 : ¬ (a < 0)) (c_9 : ¬ (τ 0 1 ≤ a)) (c_15 : ¬ (a < 16)) : ¬ (0 ≤ a ∧ a ≤ τ 0 1 - 1) := by
  grind
theorem aq_nR_0 {v9 lo hi : Int32} (c_2 : v9 < lo) : ¬ (lo ≤ v9 ∧ v9 ≤ hi) := by
  grind
theorem aq_nR_1 {v9 lo hi : Int32} (c_2 : ¬ (v9 < lo)) (c_7 : v9 ≤ hi) : lo ≤ v9 ∧ v9 ≤ hi := by
  grind
theorem aq_nR_2 {v9 lo hi : Int32} (c_2 : ¬ (v9 < lo)) (c_7 : ¬ (v9 ≤ hi)) : ¬ (lo ≤ v9 ∧ v9 ≤ hi) := by
  grind
theorem aq_nL_0 {a : Int32} (c_1 : a < 0) : ¬ (0 ≤ a ∧ a ≤ 3) := by
  grind
theorem aq_nL_1 {a : Int32} (c_1 : ¬ (a < 0)) (c_6 : 4 ≤ a) : ¬ (0 ≤ a ∧ a ≤ 3) := by
  grind
theorem aq_nx_0 {a : Int32} (c_1 : ¬ (a < 0)) : 0 ≤ a := by
  lia
theorem aq_nx_1 {a : Int32} (c_6 : ¬ (4 ≤ a)) : a < 4 := by
  lia
theorem aq_nL_2 {a : Int32} (c_1 : ¬ (a < 0)) (c_6 : ¬ (4 ≤ a)) : 0 ≤ a ∧ a ≤ 3 := by
  grind
theorem aq_nF_0 {τ : Tau} {a : Int32} (hc : 0 ≤ τ 0 2 ∧ τ 0 2 ≤ 20) (c_1 : a < 0) : ¬ okF τ a := by
  intro h9; have h8 := h9.1; clear h9; grind
theorem aq_nF_1 {τ : Tau} {a : Int32} (hc : 0 ≤ τ 0 2 ∧ τ 0 2 ≤ 20) (c_1 : ¬ (a < 0)) (c_7 : 20 ≤ a) : ¬ okF τ a := by
  intro h9; have h8 := h9.1; clear h9; grind
theorem aq_nx_2 {a : Int32} (c_1 : ¬ (a < 0)) : 0 ≤ a := by
  lia
theorem aq_nx_3 {a : Int32} (c_7 : ¬ (20 ≤ a)) : a < 20 := by
  lia
theorem aq_nC_0 {τ : Tau} {a : Int32} (hc : 0 ≤ τ 0 3 ∧ τ 0 3 ≤ 30) (c_1 : a < 0) : ¬ (0 ≤ a ∧ a ≤ τ 0 3 - 1) := by
  grind
theorem aq_nC_1 {τ : Tau} {a : Int32} (hc : 0 ≤ τ 0 3 ∧ τ 0 3 ≤ 30) (c_1 : ¬ (a < 0)) (c_7 : 30 ≤ a) : ¬ (0 ≤ a ∧ a ≤ τ 0 3 - 1) := by
  grind
theorem aq_nx_4 {a : Int32} (c_1 : ¬ (a < 0)) : 0 ≤ a := by
  lia
theorem aq_nx_5 {a : Int32} (c_7 : ¬ (30 ≤ a)) : a < 30 := by
  lia
theorem aq_nM_0 {τ : Tau} (hc : 0 ≤ τ 0 2 ∧ τ 0 2 ≤ 20) (c_6 : τ 0 2 < 20) : ¬ (20 ≤ τ 0 2) := by
  grind
theorem aq_nM_1 {τ : Tau} (hc : 0 ≤ τ 0 2 ∧ τ 0 2 ≤ 20) (c_6 : ¬ (τ 0 2 < 20)) : τ 0 2 = 20 := by
  grind
set_option maxHeartbeats 4000000 in
set_option maxRecDepth 100000 in
theorem x_needScope {l : Launch} (hl9 : l.stackTraces = false) {D : va_G} {ids : Nat → ClassId} {n0 : Nat} {RR : List Nat} {ad : Nat → Nat} {cn : Nat → va_E} {τ : Tau} {ns nl nc : Nat} {Hh : Heap} (hX : xH D ids n0 RR ad cn τ ns nl nc Hh) {nw : Nat} (hI : Iv τ nw ns nl nc) {a : Int32} : ro_T l yX6_needScope cX6_needScope 2 none { frames := 6, cells := 1, slots := 6, locals := 180 } D ids n0 [.ref (ad 0), .int a] Hh (fun v H1 => v = none ∧ (0 ≤ a ∧ a ≤ τ 0 1 - 1) ∧ Hh = H1) (fun E9 H1 => grow Hh H1 ∧ E9 = "java/lang/IndexOutOfBoundsException" ∧ ¬ (0 ≤ a ∧ a ≤ τ 0 1 - 1)) := by
  refine ro_ofT (by decide +kernel) (Nat.le_of_ble_eq_true rfl) ?_
  intro p e s m below meth c MC hhp hr hno HS ls hl
  have hx := MC.1.1
  have hb := MC.1.2.1
  have hl : lv_has ls 2 [(0, .ref (ad 0)), (1, .int a)] := hl
  obtain ⟨HP, hRR, sa, bm, fm, lf, ff, cf, h0, h1, h1b, h2, h2b, h7, h7b, h3, h3b, h40, h4, h4b, h60, h5, h6⟩ := id hX
  have hwb := hI.wb
  have hsb := hI.sb
  have hlb := hI.lb
  have hcb := hI.cb
  have hnl := hI.2.2.1.2
  have hns := hI.2.1.2.2
  have hnc := hI.2.2.2.1.2
  have hcs : cx (τ 0 2) = nl := by rw [hI.2.2.1.1]; exact cx_nI (by omega)
  obtain ⟨hs1, hs16⟩ := hI.sb
  refine lv_iload_n hx hb dX6_needScope_0 rfl (lv_at hl 1 rfl) ?_
  refine lv_if_lt (tgt := 18) hx hb dX6_needScope_1 (by decide) (fun c_1 => ?_) (fun c_1 => ?_)
  · exact ro_throw hl9 MC HS hno th_199 hl.1 dX6_needScope_18 dX6_needScope_21 dX6_needScope_22 dX6_needScope_24 dX6_needScope_27 ⟨Nat.le_of_ble_eq_true rfl, Nat.le_of_ble_eq_true rfl, Nat.le_of_ble_eq_true rfl, Nat.le_of_ble_eq_true rfl⟩ (fun H9 hz9 hq9 => ⟨⟨hz9, hq9⟩, rfl, aq_nS_0 hs1 hs16 c_1⟩) (Nat.le_of_ble_eq_true rfl) (Nat.le_of_ble_eq_true rfl)
  · refine lv_iload_n hx hb dX6_needScope_4 rfl (lv_at hl 1 rfl) ?_
    refine lv_aload_n hx hb dX6_needScope_5 rfl (lv_at hl 0 rfl) ?_
    refine ro_get MC HP (hRR.l (by decide)) h0 (rfl : vwCl[5]? = some (RX6, TX6, 11)) inU6 1 (by decide) kw62 rfl rfl dX6_needScope_6 ?_
    refine lv_icmp_ge (tgt := 18) hx hb dX6_needScope_9 (by decide) (fun c_9 => ?_) (fun c_9 => ?_)
    · exact ro_throw hl9 MC HS hno th_199 hl.1 dX6_needScope_18 dX6_needScope_21 dX6_needScope_22 dX6_needScope_24 dX6_needScope_27 ⟨Nat.le_of_ble_eq_true rfl, Nat.le_of_ble_eq_true rfl, Nat.le_of_ble_eq_true rfl, Nat.le_of_ble_eq_true rfl⟩ (fun H9 hz9 hq9 => ⟨⟨hz9, hq9⟩, rfl, aq_nS_1 hs1 hs16 c_1 c_9⟩) (Nat.le_of_ble_eq_true rfl) (Nat.le_of_ble_eq_true rfl)
    · refine lv_iload_n hx hb dX6_needScope_12 rfl (lv_at hl 1 rfl) ?_
      refine lv_bipush (v := 16) hx hb dX6_needScope_13 (by decide) ?_
      refine lv_icmp_lt (tgt := 28) hx hb dX6_needScope_15 (by decide) (fun c_15 => ?_) (fun c_15 => ?_)
      · exact ro_MT (ro_vretM MC HS hr (⟨rfl, aq_nS_2 hs1 hs16 c_1 c_9 c_15, rfl⟩) (Nat.le_of_ble_eq_true rfl) (Nat.le_of_ble_eq_true rfl) dX6_needScope_28)
      · exact ro_throw hl9 MC HS hno th_199 hl.1 dX6_needScope_18 dX6_needScope_21 dX6_needScope_22 dX6_needScope_24 dX6_needScope_27 ⟨Nat.le_of_ble_eq_true rfl, Nat.le_of_ble_eq_true rfl, Nat.le_of_ble_eq_true rfl, Nat.le_of_ble_eq_true rfl⟩ (fun H9 hz9 hq9 => ⟨⟨hz9, hq9⟩, rfl, aq_nS_3 hs1 hs16 c_1 c_9 c_15⟩) (Nat.le_of_ble_eq_true rfl) (Nat.le_of_ble_eq_true rfl)
set_option maxHeartbeats 4000000 in
set_option maxRecDepth 100000 in
theorem x_needRange {l : Launch} (hl9 : l.stackTraces = false) {D : va_G} {ids : Nat → ClassId} {n0 : Nat} {Hh : Heap} {v9 lo hi : Int32} : ro_T l yX6_needRange cX6_needRange 3 none { frames := 6, cells := 1, slots := 6, locals := 180 } D ids n0 [.int v9, .int lo, .int hi] Hh (fun v H1 => v = none ∧ (lo ≤ v9 ∧ v9 ≤ hi) ∧ Hh = H1) (fun E9 H1 => grow Hh H1 ∧ E9 = "java/lang/IllegalArgumentException" ∧ ¬ (lo ≤ v9 ∧ v9 ≤ hi)) := by
  refine ro_ofT (by decide +kernel) (Nat.le_of_ble_eq_true rfl) ?_
  intro p e s m below meth c MC hhp hr hno HS ls hl
  have hx := MC.1.1
  have hb := MC.1.2.1
  have hl : lv_has ls 3 [(0, .int v9), (1, .int lo), (2, .int hi)] := hl
  refine lv_iload_n hx hb dX6_needRange_0 rfl (lv_at hl 0 rfl) ?_
  refine lv_iload_n hx hb dX6_needRange_1 rfl (lv_at hl 1 rfl) ?_
  refine lv_icmp_lt (tgt := 10) hx hb dX6_needRange_2 (by decide) (fun c_2 => ?_) (fun c_2 => ?_)
  · exact ro_throw hl9 MC HS hno th_213 hl.1 dX6_needRange_10 dX6_needRange_13 dX6_needRange_14 dX6_needRange_16 dX6_needRange_19 ⟨Nat.le_of_ble_eq_true rfl, Nat.le_of_ble_eq_true rfl, Nat.le_of_ble_eq_true rfl, Nat.le_of_ble_eq_true rfl⟩ (fun H9 hz9 hq9 => ⟨⟨hz9, hq9⟩, rfl, aq_nR_0 c_2⟩) (Nat.le_of_ble_eq_true rfl) (Nat.le_of_ble_eq_true rfl)
  · refine lv_iload_n hx hb dX6_needRange_5 rfl (lv_at hl 0 rfl) ?_
    refine lv_iload_n hx hb dX6_needRange_6 rfl (lv_at hl 2 rfl) ?_
    refine lv_icmp_le (tgt := 20) hx hb dX6_needRange_7 (by decide) (fun c_7 => ?_) (fun c_7 => ?_)
    · exact ro_MT (ro_vretM MC HS hr (⟨rfl, aq_nR_1 c_2 c_7, rfl⟩) (Nat.le_of_ble_eq_true rfl) (Nat.le_of_ble_eq_true rfl) dX6_needRange_20)
    · exact ro_throw hl9 MC HS hno th_213 hl.1 dX6_needRange_10 dX6_needRange_13 dX6_needRange_14 dX6_needRange_16 dX6_needRange_19 ⟨Nat.le_of_ble_eq_true rfl, Nat.le_of_ble_eq_true rfl, Nat.le_of_ble_eq_true rfl, Nat.le_of_ble_eq_true rfl⟩ (fun H9 hz9 hq9 => ⟨⟨hz9, hq9⟩, rfl, aq_nR_2 c_2 c_7⟩) (Nat.le_of_ble_eq_true rfl) (Nat.le_of_ble_eq_true rfl)
set_option maxHeartbeats 4000000 in
set_option maxRecDepth 100000 in
theorem x_needLand {l : Launch} (hl9 : l.stackTraces = false) {D : va_G} {ids : Nat → ClassId} {n0 : Nat} {RR : List Nat} {ad : Nat → Nat} {cn : Nat → va_E} {τ : Tau} {ns nl nc : Nat} {Hh : Heap} (hX : xH D ids n0 RR ad cn τ ns nl nc Hh) {nw : Nat} (hI : Iv τ nw ns nl nc) {a : Int32} : ro_T l yX6_needLand cX6_needLand 3 (some (FieldType.object "FrostCalendar$Land")) { frames := 6, cells := 1, slots := 6, locals := 180 } D ids n0 [.ref (ad 0), .int a] Hh (fun v H1 => ∃ k, k < 4 ∧ a = nI k ∧ cx a = k ∧ (0 ≤ a ∧ a ≤ 3) ∧ v = some (.ref (ad (7 + k))) ∧ Hh = H1) (fun E9 H1 => grow Hh H1 ∧ E9 = "java/lang/IndexOutOfBoundsException" ∧ ¬ (0 ≤ a ∧ a ≤ 3)) := by
  refine ro_ofT (by decide +kernel) (Nat.le_of_ble_eq_true rfl) ?_
  intro p e s m below meth c MC hhp hr hno HS ls hl
  have hx := MC.1.1
  have hb := MC.1.2.1
  have hl : lv_has ls 3 [(0, .ref (ad 0)), (1, .int a)] := hl
  obtain ⟨HP, hRR, sa, bm, fm, lf, ff, cf, h0, h1, h1b, h2, h2b, h7, h7b, h3, h3b, h40, h4, h4b, h60, h5, h6⟩ := id hX
  have hwb := hI.wb
  have hsb := hI.sb
  have hlb := hI.lb
  have hcb := hI.cb
  have hnl := hI.2.2.1.2
  have hns := hI.2.1.2.2
  have hnc := hI.2.2.2.1.2
  have hcs : cx (τ 0 2) = nl := by rw [hI.2.2.1.1]; exact cx_nI (by omega)
  refine lv_iload_n hx hb dX6_needLand_0 rfl (lv_at hl 1 rfl) ?_
  refine lv_if_lt (tgt := 18) hx hb dX6_needLand_1 (by decide) (fun c_1 => ?_) (fun c_1 => ?_)
  · refine lv_null hx hb dX6_needLand_18 ?_
    refine lv_astore_nN (lv' := [(2, .null), (0, .ref (ad 0)), (1, .int a)]) hx hb dX6_needLand_19 rfl hl (by decide) rfl (fun ls hl => ?_)
    refine lv_aload_nN hx hb dX6_needLand_20 rfl (lv_at hl 0 rfl) ?_
    refine lv_ifnonnullN hx hb dX6_needLand_21 ?_
    exact ro_throw hl9 MC HS hno th_202 hl.1 dX6_needLand_24 dX6_needLand_27 dX6_needLand_28 dX6_needLand_30 dX6_needLand_33 ⟨Nat.le_of_ble_eq_true rfl, Nat.le_of_ble_eq_true rfl, Nat.le_of_ble_eq_true rfl, Nat.le_of_ble_eq_true rfl⟩ (fun H9 hz9 hq9 => ⟨⟨hz9, hq9⟩, rfl, aq_nL_0 c_1⟩) (Nat.le_of_ble_eq_true rfl) (Nat.le_of_ble_eq_true rfl)
  · refine lv_iload_n hx hb dX6_needLand_4 rfl (lv_at hl 1 rfl) ?_
    refine lv_iconst (v := 4) hx hb dX6_needLand_5 (by decide) ?_
    refine lv_icmp_ge (tgt := 18) hx hb dX6_needLand_6 (by decide) (fun c_6 => ?_) (fun c_6 => ?_)
    · refine lv_null hx hb dX6_needLand_18 ?_
      refine lv_astore_nN (lv' := [(2, .null), (0, .ref (ad 0)), (1, .int a)]) hx hb dX6_needLand_19 rfl hl (by decide) rfl (fun ls hl => ?_)
      refine lv_aload_nN hx hb dX6_needLand_20 rfl (lv_at hl 0 rfl) ?_
      refine lv_ifnonnullN hx hb dX6_needLand_21 ?_
      exact ro_throw hl9 MC HS hno th_202 hl.1 dX6_needLand_24 dX6_needLand_27 dX6_needLand_28 dX6_needLand_30 dX6_needLand_33 ⟨Nat.le_of_ble_eq_true rfl, Nat.le_of_ble_eq_true rfl, Nat.le_of_ble_eq_true rfl, Nat.le_of_ble_eq_true rfl⟩ (fun H9 hz9 hq9 => ⟨⟨hz9, hq9⟩, rfl, aq_nL_1 c_1 c_6⟩) (Nat.le_of_ble_eq_true rfl) (Nat.le_of_ble_eq_true rfl)
    · refine lv_aload_n hx hb dX6_needLand_9 rfl (lv_at hl 0 rfl) ?_
      refine ro_get MC HP (hRR.l (by decide)) h0 (rfl : vwCl[5]? = some (RX6, TX6, 11)) inU6 2 (by decide) kw63 rfl rfl dX6_needLand_10 ?_
      refine lv_iload_n hx hb dX6_needLand_13 rfl (lv_at hl 1 rfl) ?_
      obtain ⟨k, hk, hka⟩ := nI_ex (x := a) (n := 4) (aq_nx_0 c_1) (by show a < 4; exact aq_nx_1 c_6) (by omega)
      have hkc : cx a = k := by rw [hka]; exact cx_nI (by omega)
      refine xo_aald MC HP 3 (hRR.l (by decide)) h2 rfl k (show k < 4 by omega) (by omega) (h2b k (by omega)) hka dX6_needLand_14 ?_
      refine lv_goto (tgt := 19) hx hb dX6_needLand_15 (by decide) ?_
      refine lv_astore_n (lv' := [(2, .ref (ad (7 + k))), (0, .ref (ad 0)), (1, .int a)]) hx hb dX6_needLand_19 rfl hl (by decide) rfl (fun ls hl => ?_)
      refine lv_aload_n hx hb dX6_needLand_20 rfl (lv_at hl 0 rfl) ?_
      refine lv_ifnonnull (tgt := 34) hx hb dX6_needLand_21 (by decide) ?_
      refine lv_aload_n hx hb dX6_needLand_34 rfl (lv_at hl 0 rfl) ?_
      exact ro_MT (ro_aretM MC HS hr (Or.inr ⟨_, rfl⟩) (⟨k, hk, hka, hkc, aq_nL_2 c_1 c_6, rfl, rfl⟩) (Nat.le_of_ble_eq_true rfl) (Nat.le_of_ble_eq_true rfl) dX6_needLand_35)
set_option maxHeartbeats 4000000 in
set_option maxRecDepth 100000 in
theorem x_needFreeze {l : Launch} (hl9 : l.stackTraces = false) {D : va_G} {ids : Nat → ClassId} {n0 : Nat} {RR : List Nat} {ad : Nat → Nat} {cn : Nat → va_E} {τ : Tau} {ns nl nc : Nat} {Hh : Heap} (hX : xH D ids n0 RR ad cn τ ns nl nc Hh) {nw : Nat} (hI : Iv τ nw ns nl nc) {a : Int32} : ro_T l yX6_needFreeze cX6_needFreeze 3 (some (FieldType.object "FrostCalendar$Freeze")) { frames := 6, cells := 1, slots := 6, locals := 180 } D ids n0 [.ref (ad 0), .int a] Hh (fun v H1 => ∃ k, k < nl ∧ τ 4 k = 0 ∧ a = nI k ∧ cx a = k ∧ okF τ a ∧ v = some (.ref (ad (40 + k))) ∧ Hh = H1) (fun E9 H1 => grow Hh H1 ∧ E9 = "java/util/NoSuchElementException" ∧ ¬ okF τ a) := by
  refine ro_ofT (by decide +kernel) (Nat.le_of_ble_eq_true rfl) ?_
  intro p e s m below meth c MC hhp hr hno HS ls hl
  have hx := MC.1.1
  have hb := MC.1.2.1
  have hl : lv_has ls 3 [(0, .ref (ad 0)), (1, .int a)] := hl
  obtain ⟨HP, hRR, sa, bm, fm, lf, ff, cf, h0, h1, h1b, h2, h2b, h7, h7b, h3, h3b, h40, h4, h4b, h60, h5, h6⟩ := id hX
  have hwb := hI.wb
  have hsb := hI.sb
  have hlb := hI.lb
  have hcb := hI.cb
  have hnl := hI.2.2.1.2
  have hns := hI.2.1.2.2
  have hnc := hI.2.2.2.1.2
  have hcs : cx (τ 0 2) = nl := by rw [hI.2.2.1.1]; exact cx_nI (by omega)
  refine lv_iload_n hx hb dX6_needFreeze_0 rfl (lv_at hl 1 rfl) ?_
  refine lv_if_lt (tgt := 19) hx hb dX6_needFreeze_1 (by decide) (fun c_1 => ?_) (fun c_1 => ?_)
  · refine lv_null hx hb dX6_needFreeze_19 ?_
    refine lv_astore_nN (lv' := [(2, .null), (0, .ref (ad 0)), (1, .int a)]) hx hb dX6_needFreeze_20 rfl hl (by decide) rfl (fun ls hl => ?_)
    refine lv_aload_nN hx hb dX6_needFreeze_21 rfl (lv_at hl 0 rfl) ?_
    refine lv_ifnonnullN hx hb dX6_needFreeze_22 ?_
    exact ro_throwN hl9 MC HS hno th_206 hl.1 dX6_needFreeze_25 dX6_needFreeze_28 dX6_needFreeze_29 dX6_needFreeze_31 dX6_needFreeze_34 ⟨Nat.le_of_ble_eq_true rfl, Nat.le_of_ble_eq_true rfl, Nat.le_of_ble_eq_true rfl, Nat.le_of_ble_eq_true rfl⟩ (fun H9 hz9 hq9 => ⟨⟨hz9, hq9⟩, rfl, aq_nF_0 hI.lb c_1⟩) (Nat.le_of_ble_eq_true rfl) (Nat.le_of_ble_eq_true rfl)
  · refine lv_iload_n hx hb dX6_needFreeze_4 rfl (lv_at hl 1 rfl) ?_
    refine lv_bipush (v := 20) hx hb dX6_needFreeze_5 (by decide) ?_
    refine lv_icmp_ge (tgt := 19) hx hb dX6_needFreeze_7 (by decide) (fun c_7 => ?_) (fun c_7 => ?_)
    · refine lv_null hx hb dX6_needFreeze_19 ?_
      refine lv_astore_nN (lv' := [(2, .null), (0, .ref (ad 0)), (1, .int a)]) hx hb dX6_needFreeze_20 rfl hl (by decide) rfl (fun ls hl => ?_)
      refine lv_aload_nN hx hb dX6_needFreeze_21 rfl (lv_at hl 0 rfl) ?_
      refine lv_ifnonnullN hx hb dX6_needFreeze_22 ?_
      exact ro_throwN hl9 MC HS hno th_206 hl.1 dX6_needFreeze_25 dX6_needFreeze_28 dX6_needFreeze_29 dX6_needFreeze_31 dX6_needFreeze_34 ⟨Nat.le_of_ble_eq_true rfl, Nat.le_of_ble_eq_true rfl, Nat.le_of_ble_eq_true rfl, Nat.le_of_ble_eq_true rfl⟩ (fun H9 hz9 hq9 => ⟨⟨hz9, hq9⟩, rfl, aq_nF_1 hI.lb c_1 c_7⟩) (Nat.le_of_ble_eq_true rfl) (Nat.le_of_ble_eq_true rfl)
    · refine lv_aload_n hx hb dX6_needFreeze_10 rfl (lv_at hl 0 rfl) ?_
      refine ro_get MC HP (hRR.l (by decide)) h0 (rfl : vwCl[5]? = some (RX6, TX6, 11)) inU6 4 (by decide) kw65 rfl rfl dX6_needFreeze_11 ?_
      refine lv_iload_n hx hb dX6_needFreeze_14 rfl (lv_at hl 1 rfl) ?_
      obtain ⟨k, hk, hka⟩ := nI_ex (x := a) (n := 20) (aq_nx_2 c_1) (by show a < 20; exact aq_nx_3 c_7) (by omega)
      have hkc : cx a = k := by rw [hka]; exact cx_nI (by omega)
      by_cases hz_15 : k < nl ∧ τ 4 k = 0
      · have hz_15n := hz_15.1
        refine xo_aald MC HP 4 (hRR.l (by decide)) h3 rfl k (show k < 20 by omega) (by omega) ((h3b k (by omega)).trans (if_pos hz_15)) hka dX6_needFreeze_15 ?_
        refine lv_goto (tgt := 20) hx hb dX6_needFreeze_16 (by decide) ?_
        refine lv_astore_n (lv' := [(2, .ref (ad (40 + k))), (0, .ref (ad 0)), (1, .int a)]) hx hb dX6_needFreeze_20 rfl hl (by decide) rfl (fun ls hl => ?_)
        refine lv_aload_n hx hb dX6_needFreeze_21 rfl (lv_at hl 0 rfl) ?_
        refine lv_ifnonnull (tgt := 35) hx hb dX6_needFreeze_22 (by decide) ?_
        refine lv_aload_n hx hb dX6_needFreeze_35 rfl (lv_at hl 0 rfl) ?_
        exact ro_MT (ro_aretM MC HS hr (Or.inr ⟨_, rfl⟩) (⟨k, hz_15.1, hz_15.2, hka, hkc, (okF_k hI hka (by omega)).mpr hz_15, rfl, rfl⟩) (Nat.le_of_ble_eq_true rfl) (Nat.le_of_ble_eq_true rfl) dX6_needFreeze_36)
      · refine xo_aald MC HP 4 (hRR.l (by decide)) h3 rfl k (show k < 20 by omega) (by omega) ((h3b k (by omega)).trans (if_neg hz_15)) hka dX6_needFreeze_15 ?_
        refine lv_goto (tgt := 20) hx hb dX6_needFreeze_16 (by decide) ?_
        refine lv_astore_nN (lv' := [(2, .null), (0, .ref (ad 0)), (1, .int a)]) hx hb dX6_needFreeze_20 rfl hl (by decide) rfl (fun ls hl => ?_)
        refine lv_aload_nN hx hb dX6_needFreeze_21 rfl (lv_at hl 0 rfl) ?_
        refine lv_ifnonnullN hx hb dX6_needFreeze_22 ?_
        exact ro_throwN hl9 MC HS hno th_206 hl.1 dX6_needFreeze_25 dX6_needFreeze_28 dX6_needFreeze_29 dX6_needFreeze_31 dX6_needFreeze_34 ⟨Nat.le_of_ble_eq_true rfl, Nat.le_of_ble_eq_true rfl, Nat.le_of_ble_eq_true rfl, Nat.le_of_ble_eq_true rfl⟩ (fun H9 hz9 hq9 => ⟨⟨hz9, hq9⟩, rfl, fun h9 => hz_15 ((okF_k hI hka (by omega)).mp h9)⟩) (Nat.le_of_ble_eq_true rfl) (Nat.le_of_ble_eq_true rfl)
set_option maxHeartbeats 4000000 in
set_option maxRecDepth 100000 in
theorem x_needChange {l : Launch} (hl9 : l.stackTraces = false) {D : va_G} {ids : Nat → ClassId} {n0 : Nat} {RR : List Nat} {ad : Nat → Nat} {cn : Nat → va_E} {τ : Tau} {ns nl nc : Nat} {Hh : Heap} (hX : xH D ids n0 RR ad cn τ ns nl nc Hh) {nw : Nat} (hI : Iv τ nw ns nl nc) {a : Int32} : ro_T l yX6_needChange cX6_needChange 3 (some (FieldType.object "FrostCalendar$Change")) { frames := 6, cells := 1, slots := 6, locals := 180 } D ids n0 [.ref (ad 0), .int a] Hh (fun v H1 => ∃ k, k < nc ∧ a = nI k ∧ cx a = k ∧ (0 ≤ a ∧ a ≤ τ 0 3 - 1) ∧ v = some (.ref (ad (60 + k))) ∧ Hh = H1) (fun E9 H1 => grow Hh H1 ∧ E9 = "java/lang/IndexOutOfBoundsException" ∧ ¬ (0 ≤ a ∧ a ≤ τ 0 3 - 1)) := by
  refine ro_ofT (by decide +kernel) (Nat.le_of_ble_eq_true rfl) ?_
  intro p e s m below meth c MC hhp hr hno HS ls hl
  have hx := MC.1.1
  have hb := MC.1.2.1
  have hl : lv_has ls 3 [(0, .ref (ad 0)), (1, .int a)] := hl
  obtain ⟨HP, hRR, sa, bm, fm, lf, ff, cf, h0, h1, h1b, h2, h2b, h7, h7b, h3, h3b, h40, h4, h4b, h60, h5, h6⟩ := id hX
  have hwb := hI.wb
  have hsb := hI.sb
  have hlb := hI.lb
  have hcb := hI.cb
  have hnl := hI.2.2.1.2
  have hns := hI.2.1.2.2
  have hnc := hI.2.2.2.1.2
  have hcs : cx (τ 0 2) = nl := by rw [hI.2.2.1.1]; exact cx_nI (by omega)
  refine lv_iload_n hx hb dX6_needChange_0 rfl (lv_at hl 1 rfl) ?_
  refine lv_if_lt (tgt := 19) hx hb dX6_needChange_1 (by decide) (fun c_1 => ?_) (fun c_1 => ?_)
  · refine lv_null hx hb dX6_needChange_19 ?_
    refine lv_astore_nN (lv' := [(2, .null), (0, .ref (ad 0)), (1, .int a)]) hx hb dX6_needChange_20 rfl hl (by decide) rfl (fun ls hl => ?_)
    refine lv_aload_nN hx hb dX6_needChange_21 rfl (lv_at hl 0 rfl) ?_
    refine lv_ifnonnullN hx hb dX6_needChange_22 ?_
    exact ro_throw hl9 MC HS hno th_209 hl.1 dX6_needChange_25 dX6_needChange_28 dX6_needChange_29 dX6_needChange_31 dX6_needChange_34 ⟨Nat.le_of_ble_eq_true rfl, Nat.le_of_ble_eq_true rfl, Nat.le_of_ble_eq_true rfl, Nat.le_of_ble_eq_true rfl⟩ (fun H9 hz9 hq9 => ⟨⟨hz9, hq9⟩, rfl, aq_nC_0 hI.cb c_1⟩) (Nat.le_of_ble_eq_true rfl) (Nat.le_of_ble_eq_true rfl)
  · refine lv_iload_n hx hb dX6_needChange_4 rfl (lv_at hl 1 rfl) ?_
    refine lv_bipush (v := 30) hx hb dX6_needChange_5 (by decide) ?_
    refine lv_icmp_ge (tgt := 19) hx hb dX6_needChange_7 (by decide) (fun c_7 => ?_) (fun c_7 => ?_)
    · refine lv_null hx hb dX6_needChange_19 ?_
      refine lv_astore_nN (lv' := [(2, .null), (0, .ref (ad 0)), (1, .int a)]) hx hb dX6_needChange_20 rfl hl (by decide) rfl (fun ls hl => ?_)
      refine lv_aload_nN hx hb dX6_needChange_21 rfl (lv_at hl 0 rfl) ?_
      refine lv_ifnonnullN hx hb dX6_needChange_22 ?_
      exact ro_throw hl9 MC HS hno th_209 hl.1 dX6_needChange_25 dX6_needChange_28 dX6_needChange_29 dX6_needChange_31 dX6_needChange_34 ⟨Nat.le_of_ble_eq_true rfl, Nat.le_of_ble_eq_true rfl, Nat.le_of_ble_eq_true rfl, Nat.le_of_ble_eq_true rfl⟩ (fun H9 hz9 hq9 => ⟨⟨hz9, hq9⟩, rfl, aq_nC_1 hI.cb c_1 c_7⟩) (Nat.le_of_ble_eq_true rfl) (Nat.le_of_ble_eq_true rfl)
    · refine lv_aload_n hx hb dX6_needChange_10 rfl (lv_at hl 0 rfl) ?_
      refine ro_get MC HP (hRR.l (by decide)) h0 (rfl : vwCl[5]? = some (RX6, TX6, 11)) inU6 7 (by decide) kw68 rfl rfl dX6_needChange_11 ?_
      refine lv_iload_n hx hb dX6_needChange_14 rfl (lv_at hl 1 rfl) ?_
      obtain ⟨k, hk, hka⟩ := nI_ex (x := a) (n := 30) (aq_nx_4 c_1) (by show a < 30; exact aq_nx_5 c_7) (by omega)
      have hkc : cx a = k := by rw [hka]; exact cx_nI (by omega)
      by_cases hz_15 : k < nc
      · have hz_15n := hz_15
        refine xo_aald MC HP 5 (hRR.l (by decide)) h4 rfl k (show k < 30 by omega) (by omega) ((h4b k (by omega)).trans (if_pos hz_15)) hka dX6_needChange_15 ?_
        refine lv_goto (tgt := 20) hx hb dX6_needChange_16 (by decide) ?_
        refine lv_astore_n (lv' := [(2, .ref (ad (60 + k))), (0, .ref (ad 0)), (1, .int a)]) hx hb dX6_needChange_20 rfl hl (by decide) rfl (fun ls hl => ?_)
        refine lv_aload_n hx hb dX6_needChange_21 rfl (lv_at hl 0 rfl) ?_
        refine lv_ifnonnull (tgt := 35) hx hb dX6_needChange_22 (by decide) ?_
        refine lv_aload_n hx hb dX6_needChange_35 rfl (lv_at hl 0 rfl) ?_
        exact ro_MT (ro_aretM MC HS hr (Or.inr ⟨_, rfl⟩) (⟨k, hz_15, hka, hkc, (okC_k hI hka (by omega)).mpr hz_15, rfl, rfl⟩) (Nat.le_of_ble_eq_true rfl) (Nat.le_of_ble_eq_true rfl) dX6_needChange_36)
      · refine xo_aald MC HP 5 (hRR.l (by decide)) h4 rfl k (show k < 30 by omega) (by omega) ((h4b k (by omega)).trans (if_neg hz_15)) hka dX6_needChange_15 ?_
        refine lv_goto (tgt := 20) hx hb dX6_needChange_16 (by decide) ?_
        refine lv_astore_nN (lv' := [(2, .null), (0, .ref (ad 0)), (1, .int a)]) hx hb dX6_needChange_20 rfl hl (by decide) rfl (fun ls hl => ?_)
        refine lv_aload_nN hx hb dX6_needChange_21 rfl (lv_at hl 0 rfl) ?_
        refine lv_ifnonnullN hx hb dX6_needChange_22 ?_
        exact ro_throw hl9 MC HS hno th_209 hl.1 dX6_needChange_25 dX6_needChange_28 dX6_needChange_29 dX6_needChange_31 dX6_needChange_34 ⟨Nat.le_of_ble_eq_true rfl, Nat.le_of_ble_eq_true rfl, Nat.le_of_ble_eq_true rfl, Nat.le_of_ble_eq_true rfl⟩ (fun H9 hz9 hq9 => ⟨⟨hz9, hq9⟩, rfl, fun h9 => hz_15 ((okC_k hI hka (by omega)).mp h9)⟩) (Nat.le_of_ble_eq_true rfl) (Nat.le_of_ble_eq_true rfl)
set_option maxHeartbeats 4000000 in
set_option maxRecDepth 100000 in
theorem x_needPlanned {l : Launch} (hl9 : l.stackTraces = false) {D : va_G} {ids : Nat → ClassId} {n0 : Nat} {RR : List Nat} {ad : Nat → Nat} {cn : Nat → va_E} {τ : Tau} {ns nl nc : Nat} {Hh : Heap} (hX : xH D ids n0 RR ad cn τ ns nl nc Hh) {nw : Nat} (hI : Iv τ nw ns nl nc) {k : Nat} (hk : k < nc) : ro_T l yX6_needPlanned cX6_needPlanned 1 none { frames := 6, cells := 1, slots := 6, locals := 180 } D ids n0 [.ref (ad (60 + k))] Hh (fun v H1 => v = none ∧ τ 17 k = -1 ∧ Hh = H1) (fun E9 H1 => grow Hh H1 ∧ E9 = "java/lang/IllegalStateException" ∧ ¬ (τ 17 k = -1)) := by
  refine ro_ofT (by decide +kernel) (Nat.le_of_ble_eq_true rfl) ?_
  intro p e s m below meth c MC hhp hr hno HS ls hl
  have hx := MC.1.1
  have hb := MC.1.2.1
  have hl : lv_has ls 1 [(0, .ref (ad (60 + k)))] := hl
  obtain ⟨HP, hRR, sa, bm, fm, lf, ff, cf, h0, h1, h1b, h2, h2b, h7, h7b, h3, h3b, h40, h4, h4b, h60, h5, h6⟩ := id hX
  have hwb := hI.wb
  have hsb := hI.sb
  have hlb := hI.lb
  have hcb := hI.cb
  have hnl := hI.2.2.1.2
  have hns := hI.2.1.2.2
  have hnc := hI.2.2.2.1.2
  have hcs : cx (τ 0 2) = nl := by rw [hI.2.2.1.1]; exact cx_nI (by omega)
  refine lv_aload_n hx hb dX6_needPlanned_0 rfl (lv_at hl 0 rfl) ?_
  refine ro_get MC HP (hRR.c (show k < nc by omega)) (h60 k (by omega)) (rfl : vwCl[0]? = some (RX0, TX0, 8)) inU0 6 (by decide) kw411 rfl rfl dX6_needPlanned_1 ?_
  refine lv_if_eq (tgt := 17) hx hb dX6_needPlanned_4 (by decide) (fun c_4 => ?_) (fun c_4 => ?_)
  · have f_4 := bI_0.mp c_4
    exact ro_MT (ro_vretM MC HS hr (⟨rfl, Classical.not_not.mp f_4, rfl⟩) (Nat.le_of_ble_eq_true rfl) (Nat.le_of_ble_eq_true rfl) dX6_needPlanned_17)
  · have f_4 := bI_n0.mp c_4
    exact ro_throw hl9 MC HS hno th_216 hl.1 dX6_needPlanned_7 dX6_needPlanned_10 dX6_needPlanned_11 dX6_needPlanned_13 dX6_needPlanned_16 ⟨Nat.le_of_ble_eq_true rfl, Nat.le_of_ble_eq_true rfl, Nat.le_of_ble_eq_true rfl, Nat.le_of_ble_eq_true rfl⟩ (fun H9 hz9 hq9 => ⟨⟨hz9, hq9⟩, rfl, f_4⟩) (Nat.le_of_ble_eq_true rfl) (Nat.le_of_ble_eq_true rfl)
set_option maxHeartbeats 4000000 in
set_option maxRecDepth 100000 in
theorem x_needRoom {l : Launch} (hl9 : l.stackTraces = false) {D : va_G} {ids : Nat → ClassId} {n0 : Nat} {RR : List Nat} {ad : Nat → Nat} {cn : Nat → va_E} {τ : Tau} {ns nl nc : Nat} {Hh : Heap} (hX : xH D ids n0 RR ad cn τ ns nl nc Hh) {nw : Nat} (hI : Iv τ nw ns nl nc) : ro_T l yX6_needRoomForFreeze cX6_needRoomForFreeze 1 none { frames := 6, cells := 1, slots := 6, locals := 180 } D ids n0 [.ref (ad 0)] Hh (fun v H1 => v = none ∧ ¬ (20 ≤ τ 0 2) ∧ Hh = H1) (fun E9 H1 => grow Hh H1 ∧ E9 = "java/lang/IllegalStateException" ∧ τ 0 2 = 20) := by
  refine ro_ofT (by decide +kernel) (Nat.le_of_ble_eq_true rfl) ?_
  intro p e s m below meth c MC hhp hr hno HS ls hl
  have hx := MC.1.1
  have hb := MC.1.2.1
  have hl : lv_has ls 1 [(0, .ref (ad 0))] := hl
  obtain ⟨HP, hRR, sa, bm, fm, lf, ff, cf, h0, h1, h1b, h2, h2b, h7, h7b, h3, h3b, h40, h4, h4b, h60, h5, h6⟩ := id hX
  have hwb := hI.wb
  have hsb := hI.sb
  have hlb := hI.lb
  have hcb := hI.cb
  have hnl := hI.2.2.1.2
  have hns := hI.2.1.2.2
  have hnc := hI.2.2.2.1.2
  have hcs : cx (τ 0 2) = nl := by rw [hI.2.2.1.1]; exact cx_nI (by omega)
  refine lv_aload_n hx hb dX6_needRoomForFreeze_0 rfl (lv_at hl 0 rfl) ?_
  refine ro_get MC HP (hRR.l (by decide)) h0 (rfl : vwCl[5]? = some (RX6, TX6, 11)) inU6 5 (by decide) kw66 rfl rfl dX6_needRoomForFreeze_1 ?_
  refine lv_bipush (v := 20) hx hb dX6_needRoomForFreeze_4 (by decide) ?_
  refine lv_icmp_lt (tgt := 19) hx hb dX6_needRoomForFreeze_6 (by decide) (fun c_6 => ?_) (fun c_6 => ?_)
  · exact ro_MT (ro_vretM MC HS hr (⟨rfl, aq_nM_0 hI.lb c_6, rfl⟩) (Nat.le_of_ble_eq_true rfl) (Nat.le_of_ble_eq_true rfl) dX6_needRoomForFreeze_19)
  · exact ro_throw hl9 MC HS hno th_218 hl.1 dX6_needRoomForFreeze_9 dX6_needRoomForFreeze_12 dX6_needRoomForFreeze_13 dX6_needRoomForFreeze_15 dX6_needRoomForFreeze_18 ⟨Nat.le_of_ble_eq_true rfl, Nat.le_of_ble_eq_true rfl, Nat.le_of_ble_eq_true rfl, Nat.le_of_ble_eq_true rfl⟩ (fun H9 hz9 hq9 => ⟨⟨hz9, hq9⟩, rfl, aq_nM_1 hI.lb c_6⟩) (Nat.le_of_ble_eq_true rfl) (Nat.le_of_ble_eq_true rfl)
end
section
/-- what a public call leaves -/
def aft (D : va_G) (ids : Nat → ClassId) (n0 : Nat) (ad : Nat → Nat) (cn : Nat → va_E) (τ2 : Tau) (H1 : Heap) : Prop := ∃ (RR1 : List Nat) (ad1 : Nat → Nat) (cn1 : Nat → va_E) (nw1 ns1 nl1 nc1 : Nat), xH D ids n0 RR1 ad1 cn1 τ2 ns1 nl1 nc1 H1 ∧ Iv τ2 nw1 ns1 nl1 nc1 ∧ (∀ r, r < 18 → ad1 r = ad r) ∧ ∀ r, 11 ≤ r → r < 40 → cn1 r = cn r
theorem aft.rf {D : va_G} {ids : Nat → ClassId} {n0 : Nat} {RR : List Nat} {ad : Nat → Nat} {cn : Nat → va_E} {τ : Tau} {nw ns nl nc : Nat} {H : Heap} (h : xH D ids n0 RR ad cn τ ns nl nc H) (hI : Iv τ nw ns nl nc) : aft D ids n0 ad cn τ H := ⟨RR, ad, cn, nw, ns, nl, nc, h, hI, fun _ _ => rfl, fun _ _ _ => rfl⟩
theorem aft.r6 {D : va_G} {ids : Nat → ClassId} {n0 : Nat} {RR : List Nat} {ad : Nat → Nat} {cn cn1 : Nat → va_E} {τ : Tau} {nw ns nl nc : Nat} {H : Heap} (h : xH D ids n0 RR ad cn1 τ ns nl nc H) (hI : Iv τ nw ns nl nc) (h6 : eq6 cn cn1) : aft D ids n0 ad cn τ H := ⟨RR, ad, cn1, nw, ns, nl, nc, h, hI, fun _ _ => rfl, fun r h1 _ => h6 r (by omega)⟩
theorem ch_len {τ : Tau} {nw ns nl nc k : Nat} (hI : Iv τ nw ns nl nc) (hk : k < nc) : 1 ≤ τ 13 k ∧ τ 13 k ≤ 100 := by
  obtain ⟨-, ⟨b, n, -, hn, h1, h2, -⟩, -⟩ := hI.2.2.2.2.2.2.2.2.2.2.1 k hk
  rw [hn]
  exact ⟨nI_le (a := 1) h1 (by omega), nI_le (b := 100) h2 (by omega)⟩
theorem okP_iff {w f n : Int32} (hw : 0 ≤ w ∧ w ≤ 671) (hn : 1 ≤ n ∧ n ≤ 100) : (w ≤ f ∧ f ≤ 672 - n) ↔ (w ≤ f ∧ f < 672 ∧ f + n ≤ 672) := by
  constructor
  · rintro ⟨h1, h2⟩
    exact ⟨h1, by lia, by lia⟩
  · rintro ⟨h1, h2, h3⟩
    exact ⟨h1, by lia⟩
end
section
theorem aq_left_0 {τ : Tau} {r9 : Int32} (hn9 : ¬ (1 ≤ r9 ∧ r9 ≤ 3)) : th_left τ r9 = 1 := by
  unfold th_left; grind
theorem aq_left_1 {τ : Tau} {r9 : Int32} (hf_1 : 1 ≤ r9 ∧ r9 ≤ 3) : th_left τ r9 = 0 := by
  unfold th_left; grind
theorem aq_state_0 {τ : Tau} {c9 : Int32} (hn9 : ¬ (0 ≤ c9 ∧ c9 ≤ τ 0 3 - 1)) : th_state τ c9 = 1 := by
  unfold th_state; grind
theorem aq_state_1 {τ : Tau} {c9 : Int32} {k : Nat} (hf_2 : 0 ≤ c9 ∧ c9 ≤ τ 0 3 - 1) (hkc : cx c9 = k) (hle15 : τ 15 k ≤ τ 14 k) (f_10 : ¬ τ 17 k = -1) (c_23 : (τ 12 k + τ 13 k) ≤ τ 0 0) : th_state τ c9 = 0 := by
  unfold th_state; grind
theorem aq_state_2 {τ : Tau} {c9 : Int32} {k : Nat} (hwb : 0 ≤ τ 0 0 ∧ τ 0 0 ≤ 671) (hsb : 1 ≤ τ 0 1 ∧ τ 0 1 ≤ 16) (hlb : 0 ≤ τ 0 2 ∧ τ 0 2 ≤ 20) (hcb : 0 ≤ τ 0 3 ∧ τ 0 3 ≤ 30) (hf_2 : 0 ≤ c9 ∧ c9 ≤ τ 0 3 - 1) (hkc : cx c9 = k) (hle15 : τ 15 k ≤ τ 14 k) (hln : 1 ≤ τ 13 k ∧ τ 13 k ≤ 100) (f_10 : ¬ τ 17 k = -1) (c_23 : (τ 12 k + τ 13 k) ≤ τ 0 0) : rt_state τ c9 = 2 := by
  unfold rt_state; grind
theorem aq_state_3 {τ : Tau} {c9 : Int32} {k : Nat} (hf_2 : 0 ≤ c9 ∧ c9 ≤ τ 0 3 - 1) (hkc : cx c9 = k) (hle15 : τ 15 k ≤ τ 14 k) (f_10 : ¬ τ 17 k = -1) (c_23 : ¬ ((τ 12 k + τ 13 k) ≤ τ 0 0)) : th_state τ c9 = 0 := by
  unfold th_state; grind
theorem aq_state_4 {τ : Tau} {c9 : Int32} {k : Nat} (hwb : 0 ≤ τ 0 0 ∧ τ 0 0 ≤ 671) (hsb : 1 ≤ τ 0 1 ∧ τ 0 1 ≤ 16) (hlb : 0 ≤ τ 0 2 ∧ τ 0 2 ≤ 20) (hcb : 0 ≤ τ 0 3 ∧ τ 0 3 ≤ 30) (hf_2 : 0 ≤ c9 ∧ c9 ≤ τ 0 3 - 1) (hkc : cx c9 = k) (hle15 : τ 15 k ≤ τ 14 k) (hln : 1 ≤ τ 13 k ∧ τ 13 k ≤ 100) (f_10 : ¬ τ 17 k = -1) (c_23 : ¬ ((τ 12 k + τ 13 k) ≤ τ 0 0)) : rt_state τ c9 = 1 := by
  unfold rt_state; grind
theorem aq_state_5 {τ : Tau} {c9 : Int32} {k : Nat} (hf_2 : 0 ≤ c9 ∧ c9 ≤ τ 0 3 - 1) (hkc : cx c9 = k) (hle15 : τ 15 k ≤ τ 14 k) (f_10 : ¬ (¬ τ 17 k = -1)) : th_state τ c9 = 0 := by
  unfold th_state; grind
theorem aq_state_6 {τ : Tau} {c9 : Int32} {k : Nat} (hwb : 0 ≤ τ 0 0 ∧ τ 0 0 ≤ 671) (hsb : 1 ≤ τ 0 1 ∧ τ 0 1 ≤ 16) (hlb : 0 ≤ τ 0 2 ∧ τ 0 2 ≤ 20) (hcb : 0 ≤ τ 0 3 ∧ τ 0 3 ≤ 30) (hf_2 : 0 ≤ c9 ∧ c9 ≤ τ 0 3 - 1) (hkc : cx c9 = k) (hle15 : τ 15 k ≤ τ 14 k) (hln : 1 ≤ τ 13 k ∧ τ 13 k ≤ 100) (f_10 : ¬ (¬ τ 17 k = -1)) : rt_state τ c9 = 0 := by
  unfold rt_state; grind
theorem aq_approved_0 {τ : Tau} {c9 : Int32} (hn9 : ¬ (0 ≤ c9 ∧ c9 ≤ τ 0 3 - 1)) : th_approved τ c9 = 1 := by
  unfold th_approved; grind
theorem aq_approved_1 {τ : Tau} {c9 : Int32} {k : Nat} (hf_3 : 0 ≤ c9 ∧ c9 ≤ τ 0 3 - 1) (hkc : cx c9 = k) (hle15 : τ 15 k ≤ τ 14 k) : th_approved τ c9 = 0 := by
  unfold th_approved; grind
theorem aq_approved_2 {τ : Tau} {c9 : Int32} {k : Nat} (hwb : 0 ≤ τ 0 0 ∧ τ 0 0 ≤ 671) (hsb : 1 ≤ τ 0 1 ∧ τ 0 1 ≤ 16) (hlb : 0 ≤ τ 0 2 ∧ τ 0 2 ≤ 20) (hcb : 0 ≤ τ 0 3 ∧ τ 0 3 ≤ 30) (hf_3 : 0 ≤ c9 ∧ c9 ≤ τ 0 3 - 1) (hkc : cx c9 = k) (hle15 : τ 15 k ≤ τ 14 k) (hln : 1 ≤ τ 13 k ∧ τ 13 k ≤ 100) : rt_approved τ c9 = τ 15 k := by
  unfold rt_approved; grind
theorem aq_holding_0 {τ : Tau} {s9 h9 : Int32} (hn9 : ¬ (0 ≤ s9 ∧ s9 ≤ τ 0 1 - 1)) : th_holding τ s9 h9 = 1 := by
  unfold th_holding; grind
theorem aq_holding_1 {τ : Tau} {s9 h9 : Int32} (hf_4 : 0 ≤ s9 ∧ s9 ≤ τ 0 1 - 1) (hn9 : ¬ (0 ≤ h9 ∧ h9 ≤ 671)) : th_holding τ s9 h9 = 2 := by
  unfold th_holding; grind
theorem aq_holding_2 {τ : Tau} {s9 h9 : Int32} (hf_4 : 0 ≤ s9 ∧ s9 ≤ τ 0 1 - 1) (hf_5 : 0 ≤ h9 ∧ h9 ≤ 671) : th_holding τ s9 h9 = 0 := by
  unfold th_holding; grind
theorem aq_firstBad_0 {τ : Tau} {c9 : Int32} (hn9 : ¬ (0 ≤ c9 ∧ c9 ≤ τ 0 3 - 1)) : th_badHours τ c9 = 1 := by
  unfold th_badHours; grind
theorem aq_firstBad_1 {τ : Tau} {c9 : Int32} {k : Nat} (hf_6 : 0 ≤ c9 ∧ c9 ≤ τ 0 3 - 1) (hkc : cx c9 = k) (hle15 : τ 15 k ≤ τ 14 k) : th_badHours τ c9 = 0 := by
  unfold th_badHours; grind
theorem aq_badHours_0 {τ : Tau} {c9 : Int32} (hn9 : ¬ (0 ≤ c9 ∧ c9 ≤ τ 0 3 - 1)) : th_badHours τ c9 = 1 := by
  unfold th_badHours; grind
theorem aq_badHours_1 {τ : Tau} {c9 : Int32} {k : Nat} (hf_7 : 0 ≤ c9 ∧ c9 ≤ τ 0 3 - 1) (hkc : cx c9 = k) (hle15 : τ 15 k ≤ τ 14 k) : th_badHours τ c9 = 0 := by
  unfold th_badHours; grind
theorem aq_hours_0 {τ : Tau} {f9 : Int32} (hn9 : ¬ (okF τ f9)) : th_hours τ f9 = 1 := by
  unfold th_hours; grind
theorem aq_hours_1 {τ : Tau} {f9 : Int32} {q : Nat} (hf_8 : okF τ f9) (hqc : cx f9 = q) : th_hours τ f9 = 0 := by
  unfold th_hours; grind
theorem aq_badHoursOneByOne_0 {τ : Tau} {c9 : Int32} (hn9 : ¬ (0 ≤ c9 ∧ c9 ≤ τ 0 3 - 1)) : th_badHours τ c9 = 1 := by
  unfold th_badHours; grind
theorem aq_badHoursOneByOne_1 {τ : Tau} {c9 : Int32} {k : Nat} (hf_9 : 0 ≤ c9 ∧ c9 ≤ τ 0 3 - 1) (hkc : cx c9 = k) (hle15 : τ 15 k ≤ τ 14 k) : th_badHours τ c9 = 0 := by
  unfold th_badHours; grind
theorem aq_reasons_0 {τ : Tau} {c9 : Int32} (hn9 : ¬ (0 ≤ c9 ∧ c9 ≤ τ 0 3 - 1)) : th_badHours τ c9 = 1 := by
  unfold th_badHours; grind
theorem aq_reasons_1 {τ : Tau} {c9 : Int32} {k : Nat} (hf_10 : 0 ≤ c9 ∧ c9 ≤ τ 0 3 - 1) (hkc : cx c9 = k) (hle15 : τ 15 k ≤ τ 14 k) : th_badHours τ c9 = 0 := by
  unfold th_badHours; grind
set_option maxHeartbeats 4000000 in
set_option maxRecDepth 100000 in
theorem q_left {l : Launch} (hl9 : l.stackTraces = false) {D : va_G} {ids : Nat → ClassId} {n0 : Nat} {RR : List Nat} {ad : Nat → Nat} {cn : Nat → va_E} {τ : Tau} {ns nl nc : Nat} {Hh : Heap} (hX : xH D ids n0 RR ad cn τ ns nl nc Hh) {nw : Nat} (hI : Iv τ nw ns nl nc) {r9 : Int32} : ro_T l yX6_left cX6_left 2 (some FieldType.int) { frames := 7, cells := 8, slots := 48, locals := 210 } D ids n0 [.ref (ad 0), .int r9] Hh (fun v H1 => th_left τ r9 = 0 ∧ v = some (.int (rt_left τ r9)) ∧ aft D ids n0 ad cn (τ) H1) (fun E9 H1 => grow Hh H1 ∧ ((th_left τ r9 = 1 ∧ E9 = "java/lang/IllegalArgumentException"))) := by
  refine ro_ofT (by decide +kernel) (Nat.le_of_ble_eq_true rfl) ?_
  intro p e s m below meth c MC hhp hr hno HS ls hl
  have hx := MC.1.1
  have hb := MC.1.2.1
  have hl : lv_has ls 2 [(0, .ref (ad 0)), (1, .int r9)] := hl
  obtain ⟨HP, hRR, sa, bm, fm, lf, ff, cf, h0, h1, h1b, h2, h2b, h7, h7b, h3, h3b, h40, h4, h4b, h60, h5, h6⟩ := id hX
  have hwb := hI.wb
  have hsb := hI.sb
  have hlb := hI.lb
  have hcb := hI.cb
  have hnl := hI.2.2.1.2
  have hns := hI.2.1.2.2
  have hnc := hI.2.2.2.1.2
  have hcs : cx (τ 0 2) = nl := by rw [hI.2.2.1.1]; exact cx_nI (by omega)
  refine lv_iload_n hx hb dX6_left_0 rfl (lv_at hl 1 rfl) ?_
  refine lv_iconst (v := 1) hx hb dX6_left_1 (by decide) ?_
  refine lv_iconst (v := 3) hx hb dX6_left_2 (by decide) ?_
  refine ro_callST MC HS (rest := []) (As := [.int r9, .int 1, .int 3]) (x_needRange hl9) (lkX6_58) (kw198) ⟨Nat.le_of_ble_eq_true rfl, Nat.le_of_ble_eq_true rfl⟩ hl.1 rfl (Nat.le_of_ble_eq_true rfl) dX6_left_3 ⟨Nat.le_of_ble_eq_true rfl, Nat.le_of_ble_eq_true rfl⟩ (ro_out MC hno (Nat.le_of_ble_eq_true rfl) (Nat.le_of_ble_eq_true rfl) (fun E9 H9 hp => by obtain ⟨hg9, rfl, hn9⟩ := hp; exact ⟨hg9, ⟨aq_left_0 hn9, rfl⟩⟩)) (fun v9 H1 lH1 hp hz HS => ?_)
  obtain ⟨rfl, hf_1, rfl⟩ := hp
  obtain ⟨r8, hr1, hr4, hra, hrc⟩ := okR.ix hf_1
  refine lv_aload_n hx hb dX6_left_6 rfl (lv_at hl 0 rfl) ?_
  refine ro_get MC HP (hRR.l (by decide)) h0 (rfl : vwCl[5]? = some (RX6, TX6, 11)) inU6 9 (by decide) kw70 rfl rfl dX6_left_7 ?_
  refine lv_iload_n hx hb dX6_left_10 rfl (lv_at hl 1 rfl) ?_
  refine xo_iald MC HP (hRR.l (show 5 < 18 by omega)) h5 r8 (show r8 < 4 by omega) (by omega) hra dX6_left_11 ?_
  exact ro_MT (ro_iretM MC HS hr (⟨aq_left_1 hf_1, by rw [rt_left, hrc], aft.rf hX hI⟩) (Nat.le_of_ble_eq_true rfl) (Nat.le_of_ble_eq_true rfl) dX6_left_12)
set_option maxHeartbeats 4000000 in
set_option maxRecDepth 100000 in
theorem q_state {l : Launch} (hl9 : l.stackTraces = false) {D : va_G} {ids : Nat → ClassId} {n0 : Nat} {RR : List Nat} {ad : Nat → Nat} {cn : Nat → va_E} {τ : Tau} {ns nl nc : Nat} {Hh : Heap} (hX : xH D ids n0 RR ad cn τ ns nl nc Hh) {nw : Nat} (hI : Iv τ nw ns nl nc) {c9 : Int32} : ro_T l yX6_state cX6_state 3 (some FieldType.int) { frames := 7, cells := 8, slots := 48, locals := 210 } D ids n0 [.ref (ad 0), .int c9] Hh (fun v H1 => th_state τ c9 = 0 ∧ v = some (.int (rt_state τ c9)) ∧ aft D ids n0 ad cn (τ) H1) (fun E9 H1 => grow Hh H1 ∧ ((th_state τ c9 = 1 ∧ E9 = "java/lang/IndexOutOfBoundsException"))) := by
  refine ro_ofT (by decide +kernel) (Nat.le_of_ble_eq_true rfl) ?_
  intro p e s m below meth c MC hhp hr hno HS ls hl
  have hx := MC.1.1
  have hb := MC.1.2.1
  have hl : lv_has ls 3 [(0, .ref (ad 0)), (1, .int c9)] := hl
  obtain ⟨HP, hRR, sa, bm, fm, lf, ff, cf, h0, h1, h1b, h2, h2b, h7, h7b, h3, h3b, h40, h4, h4b, h60, h5, h6⟩ := id hX
  have hwb := hI.wb
  have hsb := hI.sb
  have hlb := hI.lb
  have hcb := hI.cb
  have hnl := hI.2.2.1.2
  have hns := hI.2.1.2.2
  have hnc := hI.2.2.2.1.2
  have hcs : cx (τ 0 2) = nl := by rw [hI.2.2.1.1]; exact cx_nI (by omega)
  refine lv_aload_n hx hb dX6_state_0 rfl (lv_at hl 0 rfl) ?_
  refine lv_iload_n hx hb dX6_state_1 rfl (lv_at hl 1 rfl) ?_
  refine ro_callVT MC HS (rest := []) (As := [.int c9]) (x_needChange hl9 hX hI) (lkX6_123) (kw437) (kw9) ⟨Nat.le_of_ble_eq_true rfl, Nat.le_of_ble_eq_true rfl⟩ (ro_recv MC HP (hRR.l (by decide)) h0 (rfl : vwCl[5]? = some (RX6, TX6, 11))) hl.1 rfl (Nat.le_of_ble_eq_true rfl) dX6_state_2 ⟨Nat.le_of_ble_eq_true rfl, Nat.le_of_ble_eq_true rfl⟩ (ro_out MC hno (Nat.le_of_ble_eq_true rfl) (Nat.le_of_ble_eq_true rfl) (fun E9 H9 hp => by obtain ⟨hg9, rfl, hn9⟩ := hp; exact ⟨hg9, ⟨aq_state_0 hn9, rfl⟩⟩)) (fun v9 H1 lH1 hp hz HS => ?_)
  obtain ⟨k, hk, hka, hkc, hf_2, rfl, rfl⟩ := hp
  have hle15 := (hI.2.2.2.2.2.2.2.2.2.2.1 k hk).2.2.2.1.2
  have hln := ch_len hI hk
  refine lv_astore_n (lv' := [(2, .ref (ad (60 + k))), (0, .ref (ad 0)), (1, .int c9)]) hx hb dX6_state_5 rfl hl (by decide) rfl (fun ls hl => ?_)
  refine lv_aload_n hx hb dX6_state_6 rfl (lv_at hl 0 rfl) ?_
  refine ro_get MC HP (hRR.c (show k < nc by omega)) (h60 k (by omega)) (rfl : vwCl[0]? = some (RX0, TX0, 8)) inU0 6 (by decide) kw411 rfl rfl dX6_state_7 ?_
  refine lv_if_ne (tgt := 15) hx hb dX6_state_10 (by decide) (fun c_10 => ?_) (fun c_10 => ?_)
  · have f_10 := bI_n0.mp c_10
    refine lv_aload_n hx hb dX6_state_15 rfl (lv_at hl 1 rfl) ?_
    refine ro_get MC HP (hRR.l (by decide)) h0 (rfl : vwCl[5]? = some (RX6, TX6, 11)) inU6 3 (by decide) kw64 rfl rfl dX6_state_16 ?_
    refine lv_aload_n hx hb dX6_state_19 rfl (lv_at hl 0 rfl) ?_
    refine ro_callV MC HS (rest := [.int (τ 0 0)]) (As := []) (x_hourBehind hX hk) (lkX6_171) (kw476) (kw477) ⟨Nat.le_of_ble_eq_true rfl, Nat.le_of_ble_eq_true rfl⟩ (ro_recv MC HP (hRR.c (show k < nc by omega)) (h60 k (by omega)) (rfl : vwCl[0]? = some (RX0, TX0, 8))) hl.1 rfl (Nat.le_of_ble_eq_true rfl) dX6_state_20 ⟨Nat.le_of_ble_eq_true rfl, Nat.le_of_ble_eq_true rfl⟩ (fun v9 H2 lH2 hp hz HS => ?_)
    obtain ⟨rfl, rfl⟩ := hp
    refine lv_icmp_ge (tgt := 30) hx hb dX6_state_23 (by decide) (fun c_23 => ?_) (fun c_23 => ?_)
    · refine lv_iconst (v := 2) hx hb dX6_state_30 (by decide) ?_
      exact ro_MT (ro_iretM MC HS hr (⟨aq_state_1 hf_2 hkc hle15 f_10 c_23, by rw [aq_state_2 hwb hsb hlb hcb hf_2 hkc hle15 hln f_10 c_23], aft.rf hX hI⟩) (Nat.le_of_ble_eq_true rfl) (Nat.le_of_ble_eq_true rfl) dX6_state_31)
    · refine lv_iconst (v := 1) hx hb dX6_state_26 (by decide) ?_
      refine lv_goto (tgt := 31) hx hb dX6_state_27 (by decide) ?_
      exact ro_MT (ro_iretM MC HS hr (⟨aq_state_3 hf_2 hkc hle15 f_10 c_23, by rw [aq_state_4 hwb hsb hlb hcb hf_2 hkc hle15 hln f_10 c_23], aft.rf hX hI⟩) (Nat.le_of_ble_eq_true rfl) (Nat.le_of_ble_eq_true rfl) dX6_state_31)
  · have f_10 := bI_0.mp c_10
    refine lv_iconst (v := 0) hx hb dX6_state_13 (by decide) ?_
    exact ro_MT (ro_iretM MC HS hr (⟨aq_state_5 hf_2 hkc hle15 f_10, by rw [aq_state_6 hwb hsb hlb hcb hf_2 hkc hle15 hln f_10], aft.rf hX hI⟩) (Nat.le_of_ble_eq_true rfl) (Nat.le_of_ble_eq_true rfl) dX6_state_14)
set_option maxHeartbeats 4000000 in
set_option maxRecDepth 100000 in
theorem q_approved {l : Launch} (hl9 : l.stackTraces = false) {D : va_G} {ids : Nat → ClassId} {n0 : Nat} {RR : List Nat} {ad : Nat → Nat} {cn : Nat → va_E} {τ : Tau} {ns nl nc : Nat} {Hh : Heap} (hX : xH D ids n0 RR ad cn τ ns nl nc Hh) {nw : Nat} (hI : Iv τ nw ns nl nc) {c9 : Int32} : ro_T l yX6_approved cX6_approved 2 (some FieldType.int) { frames := 7, cells := 8, slots := 48, locals := 210 } D ids n0 [.ref (ad 0), .int c9] Hh (fun v H1 => th_approved τ c9 = 0 ∧ v = some (.int (rt_approved τ c9)) ∧ aft D ids n0 ad cn (τ) H1) (fun E9 H1 => grow Hh H1 ∧ ((th_approved τ c9 = 1 ∧ E9 = "java/lang/IndexOutOfBoundsException"))) := by
  refine ro_ofT (by decide +kernel) (Nat.le_of_ble_eq_true rfl) ?_
  intro p e s m below meth c MC hhp hr hno HS ls hl
  have hx := MC.1.1
  have hb := MC.1.2.1
  have hl : lv_has ls 2 [(0, .ref (ad 0)), (1, .int c9)] := hl
  obtain ⟨HP, hRR, sa, bm, fm, lf, ff, cf, h0, h1, h1b, h2, h2b, h7, h7b, h3, h3b, h40, h4, h4b, h60, h5, h6⟩ := id hX
  have hwb := hI.wb
  have hsb := hI.sb
  have hlb := hI.lb
  have hcb := hI.cb
  have hnl := hI.2.2.1.2
  have hns := hI.2.1.2.2
  have hnc := hI.2.2.2.1.2
  have hcs : cx (τ 0 2) = nl := by rw [hI.2.2.1.1]; exact cx_nI (by omega)
  refine lv_aload_n hx hb dX6_approved_0 rfl (lv_at hl 0 rfl) ?_
  refine lv_iload_n hx hb dX6_approved_1 rfl (lv_at hl 1 rfl) ?_
  refine ro_callVT MC HS (rest := []) (As := [.int c9]) (x_needChange hl9 hX hI) (lkX6_123) (kw437) (kw9) ⟨Nat.le_of_ble_eq_true rfl, Nat.le_of_ble_eq_true rfl⟩ (ro_recv MC HP (hRR.l (by decide)) h0 (rfl : vwCl[5]? = some (RX6, TX6, 11))) hl.1 rfl (Nat.le_of_ble_eq_true rfl) dX6_approved_2 ⟨Nat.le_of_ble_eq_true rfl, Nat.le_of_ble_eq_true rfl⟩ (ro_out MC hno (Nat.le_of_ble_eq_true rfl) (Nat.le_of_ble_eq_true rfl) (fun E9 H9 hp => by obtain ⟨hg9, rfl, hn9⟩ := hp; exact ⟨hg9, ⟨aq_approved_0 hn9, rfl⟩⟩)) (fun v9 H1 lH1 hp hz HS => ?_)
  obtain ⟨k, hk, hka, hkc, hf_3, rfl, rfl⟩ := hp
  have hle15 := (hI.2.2.2.2.2.2.2.2.2.2.1 k hk).2.2.2.1.2
  have hln := ch_len hI hk
  refine ro_get MC HP (hRR.c (show k < nc by omega)) (h60 k (by omega)) (rfl : vwCl[0]? = some (RX0, TX0, 8)) inU0 4 (by decide) kw409 rfl rfl dX6_approved_5 ?_
  exact ro_MT (ro_iretM MC HS hr (⟨aq_approved_1 hf_3 hkc hle15, by rw [aq_approved_2 hwb hsb hlb hcb hf_3 hkc hle15 hln], aft.rf hX hI⟩) (Nat.le_of_ble_eq_true rfl) (Nat.le_of_ble_eq_true rfl) dX6_approved_8)
set_option maxHeartbeats 4000000 in
set_option maxRecDepth 100000 in
theorem q_holding {l : Launch} (hl9 : l.stackTraces = false) {D : va_G} {ids : Nat → ClassId} {n0 : Nat} {RR : List Nat} {ad : Nat → Nat} {cn : Nat → va_E} {τ : Tau} {ns nl nc : Nat} {Hh : Heap} (hX : xH D ids n0 RR ad cn τ ns nl nc Hh) {nw : Nat} (hI : Iv τ nw ns nl nc) {s9 h9 : Int32} : ro_T l yX6_holding cX6_holding 3 (some FieldType.int) { frames := 7, cells := 8, slots := 48, locals := 210 } D ids n0 [.ref (ad 0), .int s9, .int h9] Hh (fun v H1 => th_holding τ s9 h9 = 0 ∧ v = some (.int (rt_holding τ s9 h9)) ∧ aft D ids n0 ad cn (τ) H1) (fun E9 H1 => grow Hh H1 ∧ ((th_holding τ s9 h9 = 1 ∧ E9 = "java/lang/IndexOutOfBoundsException") ∨ (th_holding τ s9 h9 = 2 ∧ E9 = "java/lang/IllegalArgumentException"))) := by
  refine ro_ofT (by decide +kernel) (Nat.le_of_ble_eq_true rfl) ?_
  intro p e s m below meth c MC hhp hr hno HS ls hl
  have hx := MC.1.1
  have hb := MC.1.2.1
  have hl : lv_has ls 3 [(0, .ref (ad 0)), (1, .int s9), (2, .int h9)] := hl
  obtain ⟨HP, hRR, sa, bm, fm, lf, ff, cf, h0, h1, h1b, h2, h2b, h7, h7b, h3, h3b, h40, h4, h4b, h60, h5, h6⟩ := id hX
  have hwb := hI.wb
  have hsb := hI.sb
  have hlb := hI.lb
  have hcb := hI.cb
  have hnl := hI.2.2.1.2
  have hns := hI.2.1.2.2
  have hnc := hI.2.2.2.1.2
  have hcs : cx (τ 0 2) = nl := by rw [hI.2.2.1.1]; exact cx_nI (by omega)
  refine lv_aload_n hx hb dX6_holding_0 rfl (lv_at hl 0 rfl) ?_
  refine lv_iload_n hx hb dX6_holding_1 rfl (lv_at hl 1 rfl) ?_
  refine ro_callVT MC HS (rest := []) (As := [.int s9]) (x_needScope hl9 hX hI) (lkX6_43) (kw101) (kw0) ⟨Nat.le_of_ble_eq_true rfl, Nat.le_of_ble_eq_true rfl⟩ (ro_recv MC HP (hRR.l (by decide)) h0 (rfl : vwCl[5]? = some (RX6, TX6, 11))) hl.1 rfl (Nat.le_of_ble_eq_true rfl) dX6_holding_2 ⟨Nat.le_of_ble_eq_true rfl, Nat.le_of_ble_eq_true rfl⟩ (ro_out MC hno (Nat.le_of_ble_eq_true rfl) (Nat.le_of_ble_eq_true rfl) (fun E9 H9 hp => by obtain ⟨hg9, rfl, hn9⟩ := hp; exact ⟨hg9, Or.inl (⟨aq_holding_0 hn9, rfl⟩)⟩)) (fun v9 H1 lH1 hp hz HS => ?_)
  obtain ⟨rfl, hf_4, rfl⟩ := hp
  obtain ⟨i, hi, hia, hic⟩ := hI.s hf_4
  refine lv_iload_n hx hb dX6_holding_5 rfl (lv_at hl 2 rfl) ?_
  refine lv_iconst (v := 0) hx hb dX6_holding_6 (by decide) ?_
  refine lv_sipush (v := 671) hx hb dX6_holding_7 (by decide) ?_
  refine ro_callST MC HS (rest := []) (As := [.int h9, .int 0, .int 671]) (x_needRange hl9) (lkX6_58) (kw198) ⟨Nat.le_of_ble_eq_true rfl, Nat.le_of_ble_eq_true rfl⟩ hl.1 rfl (Nat.le_of_ble_eq_true rfl) dX6_holding_10 ⟨Nat.le_of_ble_eq_true rfl, Nat.le_of_ble_eq_true rfl⟩ (ro_out MC hno (Nat.le_of_ble_eq_true rfl) (Nat.le_of_ble_eq_true rfl) (fun E9 H9 hp => by obtain ⟨hg9, rfl, hn9⟩ := hp; exact ⟨hg9, Or.inr (⟨aq_holding_1 hf_4 hn9, rfl⟩)⟩)) (fun v9 H2 lH2 hp hz HS => ?_)
  obtain ⟨rfl, hf_5, rfl⟩ := hp
  obtain ⟨hh, hh9, hha⟩ := nI_ex (x := h9) (n := 672) hf_5.1 (by show h9 < 672; lia) (by omega)
  refine lv_aload_n hx hb dX6_holding_13 rfl (lv_at hl 0 rfl) ?_
  refine lv_aload_n hx hb dX6_holding_14 rfl (lv_at hl 0 rfl) ?_
  refine lv_iload_n hx hb dX6_holding_15 rfl (lv_at hl 1 rfl) ?_
  refine ro_callV MC HS (rest := [.ref (ad 0)]) (As := [.int s9]) (by rw [hia]; exact x_touchScope hX hI hi) (lkX6_106) (kw345) (kw6) ⟨Nat.le_of_ble_eq_true rfl, Nat.le_of_ble_eq_true rfl⟩ (ro_recv MC HP (hRR.l (by decide)) h0 (rfl : vwCl[5]? = some (RX6, TX6, 11))) hl.1 rfl (Nat.le_of_ble_eq_true rfl) dX6_holding_16 ⟨Nat.le_of_ble_eq_true rfl, Nat.le_of_ble_eq_true rfl⟩ (fun v9 H3 lH3 hp hz HS => ?_)
  obtain ⟨rfl, rfl⟩ := hp
  refine lv_iload_n hx hb dX6_holding_19 rfl (lv_at hl 2 rfl) ?_
  refine ro_callV MC HS (rest := []) (As := [.int (mk (tsB τ nl i) 20), .int h9]) (by rw [hha]; exact x_holdingAmong hX hI hh9 _) (lkX6_110) (kw354) (kw8) ⟨Nat.le_of_ble_eq_true rfl, Nat.le_of_ble_eq_true rfl⟩ (ro_recv MC HP (hRR.l (by decide)) h0 (rfl : vwCl[5]? = some (RX6, TX6, 11))) hl.1 rfl (Nat.le_of_ble_eq_true rfl) dX6_holding_20 ⟨Nat.le_of_ble_eq_true rfl, Nat.le_of_ble_eq_true rfl⟩ (fun v9 H4 lH4 hp hz HS => ?_)
  obtain ⟨rfl, rfl⟩ := hp
  exact ro_MT (ro_iretM MC HS hr (⟨aq_holding_2 hf_4 hf_5, by rw [rt_holding, hia, hha, hoS_eq hnl hcs], aft.rf hX hI⟩) (Nat.le_of_ble_eq_true rfl) (Nat.le_of_ble_eq_true rfl) dX6_holding_23)
set_option maxHeartbeats 4000000 in
set_option maxRecDepth 100000 in
theorem q_firstBad {l : Launch} (hl9 : l.stackTraces = false) {D : va_G} {ids : Nat → ClassId} {n0 : Nat} {RR : List Nat} {ad : Nat → Nat} {cn : Nat → va_E} {τ : Tau} {ns nl nc : Nat} {Hh : Heap} (hX : xH D ids n0 RR ad cn τ ns nl nc Hh) {nw : Nat} (hI : Iv τ nw ns nl nc) {c9 : Int32} : ro_T l yX6_firstBad cX6_firstBad 2 (some FieldType.int) { frames := 7, cells := 8, slots := 48, locals := 210 } D ids n0 [.ref (ad 0), .int c9] Hh (fun v H1 => th_badHours τ c9 = 0 ∧ v = some (.int (rt_firstBad τ c9)) ∧ aft D ids n0 ad cn (τ) H1) (fun E9 H1 => grow Hh H1 ∧ ((th_badHours τ c9 = 1 ∧ E9 = "java/lang/IndexOutOfBoundsException"))) := by
  refine ro_ofT (by decide +kernel) (Nat.le_of_ble_eq_true rfl) ?_
  intro p e s m below meth c MC hhp hr hno HS ls hl
  have hx := MC.1.1
  have hb := MC.1.2.1
  have hl : lv_has ls 2 [(0, .ref (ad 0)), (1, .int c9)] := hl
  obtain ⟨HP, hRR, sa, bm, fm, lf, ff, cf, h0, h1, h1b, h2, h2b, h7, h7b, h3, h3b, h40, h4, h4b, h60, h5, h6⟩ := id hX
  have hwb := hI.wb
  have hsb := hI.sb
  have hlb := hI.lb
  have hcb := hI.cb
  have hnl := hI.2.2.1.2
  have hns := hI.2.1.2.2
  have hnc := hI.2.2.2.1.2
  have hcs : cx (τ 0 2) = nl := by rw [hI.2.2.1.1]; exact cx_nI (by omega)
  refine lv_aload_n hx hb dX6_firstBad_0 rfl (lv_at hl 0 rfl) ?_
  refine lv_aload_n hx hb dX6_firstBad_1 rfl (lv_at hl 0 rfl) ?_
  refine lv_iload_n hx hb dX6_firstBad_2 rfl (lv_at hl 1 rfl) ?_
  refine ro_callVT MC HS (rest := [.ref (ad 0)]) (As := [.int c9]) (x_needChange hl9 hX hI) (lkX6_123) (kw437) (kw9) ⟨Nat.le_of_ble_eq_true rfl, Nat.le_of_ble_eq_true rfl⟩ (ro_recv MC HP (hRR.l (by decide)) h0 (rfl : vwCl[5]? = some (RX6, TX6, 11))) hl.1 rfl (Nat.le_of_ble_eq_true rfl) dX6_firstBad_3 ⟨Nat.le_of_ble_eq_true rfl, Nat.le_of_ble_eq_true rfl⟩ (ro_out MC hno (Nat.le_of_ble_eq_true rfl) (Nat.le_of_ble_eq_true rfl) (fun E9 H9 hp => by obtain ⟨hg9, rfl, hn9⟩ := hp; exact ⟨hg9, ⟨aq_firstBad_0 hn9, rfl⟩⟩)) (fun v9 H1 lH1 hp hz HS => ?_)
  obtain ⟨k, hk, hka, hkc, hf_6, rfl, rfl⟩ := hp
  have hle15 := (hI.2.2.2.2.2.2.2.2.2.2.1 k hk).2.2.2.1.2
  have hln := ch_len hI hk
  refine ro_callV MC HS (rest := []) (As := [.ref (ad (60 + k))]) (x_firstBadHour hX hI hk) (lkX6_156) (kw473) (kw14) ⟨Nat.le_of_ble_eq_true rfl, Nat.le_of_ble_eq_true rfl⟩ (ro_recv MC HP (hRR.l (by decide)) h0 (rfl : vwCl[5]? = some (RX6, TX6, 11))) hl.1 rfl (Nat.le_of_ble_eq_true rfl) dX6_firstBad_6 ⟨Nat.le_of_ble_eq_true rfl, Nat.le_of_ble_eq_true rfl⟩ (fun v9 H2 lH2 hp hz HS => ?_)
  obtain ⟨rfl, rfl⟩ := hp
  exact ro_MT (ro_iretM MC HS hr (⟨aq_firstBad_1 hf_6 hkc hle15, by rw [rt_firstBad_eq, hkc], aft.rf hX hI⟩) (Nat.le_of_ble_eq_true rfl) (Nat.le_of_ble_eq_true rfl) dX6_firstBad_9)
set_option maxHeartbeats 4000000 in
set_option maxRecDepth 100000 in
theorem q_badHours {l : Launch} (hl9 : l.stackTraces = false) {D : va_G} {ids : Nat → ClassId} {n0 : Nat} {RR : List Nat} {ad : Nat → Nat} {cn : Nat → va_E} {τ : Tau} {ns nl nc : Nat} {Hh : Heap} (hX : xH D ids n0 RR ad cn τ ns nl nc Hh) {nw : Nat} (hI : Iv τ nw ns nl nc) {c9 : Int32} : ro_T l yX6_badHours cX6_badHours 2 (some FieldType.int) { frames := 7, cells := 8, slots := 48, locals := 210 } D ids n0 [.ref (ad 0), .int c9] Hh (fun v H1 => th_badHours τ c9 = 0 ∧ v = some (.int (rt_badHours τ c9)) ∧ aft D ids n0 ad cn (τ) H1) (fun E9 H1 => grow Hh H1 ∧ ((th_badHours τ c9 = 1 ∧ E9 = "java/lang/IndexOutOfBoundsException"))) := by
  refine ro_ofT (by decide +kernel) (Nat.le_of_ble_eq_true rfl) ?_
  intro p e s m below meth c MC hhp hr hno HS ls hl
  have hx := MC.1.1
  have hb := MC.1.2.1
  have hl : lv_has ls 2 [(0, .ref (ad 0)), (1, .int c9)] := hl
  obtain ⟨HP, hRR, sa, bm, fm, lf, ff, cf, h0, h1, h1b, h2, h2b, h7, h7b, h3, h3b, h40, h4, h4b, h60, h5, h6⟩ := id hX
  have hwb := hI.wb
  have hsb := hI.sb
  have hlb := hI.lb
  have hcb := hI.cb
  have hnl := hI.2.2.1.2
  have hns := hI.2.1.2.2
  have hnc := hI.2.2.2.1.2
  have hcs : cx (τ 0 2) = nl := by rw [hI.2.2.1.1]; exact cx_nI (by omega)
  refine lv_aload_n hx hb dX6_badHours_0 rfl (lv_at hl 0 rfl) ?_
  refine lv_aload_n hx hb dX6_badHours_1 rfl (lv_at hl 0 rfl) ?_
  refine lv_iload_n hx hb dX6_badHours_2 rfl (lv_at hl 1 rfl) ?_
  refine ro_callVT MC HS (rest := [.ref (ad 0)]) (As := [.int c9]) (x_needChange hl9 hX hI) (lkX6_123) (kw437) (kw9) ⟨Nat.le_of_ble_eq_true rfl, Nat.le_of_ble_eq_true rfl⟩ (ro_recv MC HP (hRR.l (by decide)) h0 (rfl : vwCl[5]? = some (RX6, TX6, 11))) hl.1 rfl (Nat.le_of_ble_eq_true rfl) dX6_badHours_3 ⟨Nat.le_of_ble_eq_true rfl, Nat.le_of_ble_eq_true rfl⟩ (ro_out MC hno (Nat.le_of_ble_eq_true rfl) (Nat.le_of_ble_eq_true rfl) (fun E9 H9 hp => by obtain ⟨hg9, rfl, hn9⟩ := hp; exact ⟨hg9, ⟨aq_badHours_0 hn9, rfl⟩⟩)) (fun v9 H1 lH1 hp hz HS => ?_)
  obtain ⟨k, hk, hka, hkc, hf_7, rfl, rfl⟩ := hp
  have hle15 := (hI.2.2.2.2.2.2.2.2.2.2.1 k hk).2.2.2.1.2
  have hln := ch_len hI hk
  refine ro_callV MC HS (rest := []) (As := [.ref (ad (60 + k))]) (x_countBad hX hI hk) (lkX6_143) (kw446) (kw10) ⟨Nat.le_of_ble_eq_true rfl, Nat.le_of_ble_eq_true rfl⟩ (ro_recv MC HP (hRR.l (by decide)) h0 (rfl : vwCl[5]? = some (RX6, TX6, 11))) hl.1 rfl (Nat.le_of_ble_eq_true rfl) dX6_badHours_6 ⟨Nat.le_of_ble_eq_true rfl, Nat.le_of_ble_eq_true rfl⟩ (fun v9 H2 lH2 hp hz HS => ?_)
  obtain ⟨cn3, hX3, h63, rfl⟩ := hp
  exact ro_MT (ro_iretM MC HS hr (⟨aq_badHours_1 hf_7 hkc hle15, by rw [rt_badHours, hkc], aft.r6 hX3 hI h63⟩) (Nat.le_of_ble_eq_true rfl) (Nat.le_of_ble_eq_true rfl) dX6_badHours_9)
set_option maxHeartbeats 4000000 in
set_option maxRecDepth 100000 in
theorem q_hours {l : Launch} (hl9 : l.stackTraces = false) {D : va_G} {ids : Nat → ClassId} {n0 : Nat} {RR : List Nat} {ad : Nat → Nat} {cn : Nat → va_E} {τ : Tau} {ns nl nc : Nat} {Hh : Heap} (hX : xH D ids n0 RR ad cn τ ns nl nc Hh) {nw : Nat} (hI : Iv τ nw ns nl nc) {f9 : Int32} : ro_T l yX6_hours cX6_hours 5 (some FieldType.int) { frames := 7, cells := 8, slots := 48, locals := 210 } D ids n0 [.ref (ad 0), .int f9] Hh (fun v H1 => th_hours τ f9 = 0 ∧ v = some (.int (rt_hours τ f9)) ∧ aft D ids n0 ad cn (τ) H1) (fun E9 H1 => grow Hh H1 ∧ ((th_hours τ f9 = 1 ∧ E9 = "java/util/NoSuchElementException"))) := by
  refine ro_ofT (by decide +kernel) (Nat.le_of_ble_eq_true rfl) ?_
  intro p e s m below meth c MC hhp hr hno HS ls hl
  have hx := MC.1.1
  have hb := MC.1.2.1
  have hl : lv_has ls 5 [(0, .ref (ad 0)), (1, .int f9)] := hl
  obtain ⟨HP, hRR, sa, bm, fm, lf, ff, cf, h0, h1, h1b, h2, h2b, h7, h7b, h3, h3b, h40, h4, h4b, h60, h5, h6⟩ := id hX
  have hwb := hI.wb
  have hsb := hI.sb
  have hlb := hI.lb
  have hcb := hI.cb
  have hnl := hI.2.2.1.2
  have hns := hI.2.1.2.2
  have hnc := hI.2.2.2.1.2
  have hcs : cx (τ 0 2) = nl := by rw [hI.2.2.1.1]; exact cx_nI (by omega)
  refine lv_aload_n hx hb dX6_hours_0 rfl (lv_at hl 0 rfl) ?_
  refine lv_iload_n hx hb dX6_hours_1 rfl (lv_at hl 1 rfl) ?_
  refine ro_callVT MC HS (rest := []) (As := [.int f9]) (x_needFreeze hl9 hX hI) (lkX6_99) (kw321) (kw5) ⟨Nat.le_of_ble_eq_true rfl, Nat.le_of_ble_eq_true rfl⟩ (ro_recv MC HP (hRR.l (by decide)) h0 (rfl : vwCl[5]? = some (RX6, TX6, 11))) hl.1 rfl (Nat.le_of_ble_eq_true rfl) dX6_hours_2 ⟨Nat.le_of_ble_eq_true rfl, Nat.le_of_ble_eq_true rfl⟩ (ro_out MC hno (Nat.le_of_ble_eq_true rfl) (Nat.le_of_ble_eq_true rfl) (fun E9 H9 hp => by obtain ⟨hg9, rfl, hn9⟩ := hp; exact ⟨hg9, ⟨aq_hours_0 hn9, rfl⟩⟩)) (fun v9 H1 lH1 hp hz HS => ?_)
  obtain ⟨q, hq, hq4, hqa, hqc, hf_8, rfl, rfl⟩ := hp
  refine lv_astore_n (lv' := [(2, .ref (ad (40 + q))), (0, .ref (ad 0)), (1, .int f9)]) hx hb dX6_hours_5 rfl hl (by decide) rfl (fun ls hl => ?_)
  refine lv_iconst (v := 0) hx hb dX6_hours_6 (by decide) ?_
  refine lv_istore_n (lv' := [(3, .int 0), (2, .ref (ad (40 + q))), (0, .ref (ad 0)), (1, .int f9)]) hx hb dX6_hours_7 rfl hl (by decide) rfl (fun ls hl => ?_)
  refine lv_iconst (v := 0) hx hb dX6_hours_8 (by decide) ?_
  refine lv_istore (lv' := [(4, .int 0), (3, .int 0), (2, .ref (ad (40 + q))), (0, .ref (ad 0)), (1, .int f9)]) hx hb dX6_hours_9 hl (by decide) rfl (fun ls hl => ?_)
  have loop : ∀ h : Nat, h ≤ 672 → ∀ (locs : List Loc) (ls : Array Slot), va_S (fun q => n0 ≤ q) s.heap Hh locs → lv_has ls 5 [(4, .int (nI h)), (3, .int (nI (ct (fun h => hoB τ q (nI h)) h))), (2, .ref (ad (40 + q))), (0, .ref (ad 0)), (1, .int f9)] → W p l e { frames := 7, cells := 8, slots := 48, locals := 210 } s m ([.ref (ad 0), .int f9] : List Value).toArray below meth c Hh locs 1 6 (vx_MQ below (ro_Q n0 (fun v H1 => th_hours τ f9 = 0 ∧ v = some (.int (rt_hours τ f9)) ∧ aft D ids n0 ad cn (τ) H1)) (ro_X n0 (fun E9 H1 => grow Hh H1 ∧ ((th_hours τ f9 = 1 ∧ E9 = "java/util/NoSuchElementException")))) ([.ref (ad 0), .int f9] : List Value).toArray s 8 48 (fun q => n0 ≤ q)) (F0 m 11 ls []) := by
    refine ro_loop (672) (fun h : Nat => ∀ (locs : List Loc) (ls : Array Slot), va_S (fun q => n0 ≤ q) s.heap Hh locs → lv_has ls 5 [(4, .int (nI h)), (3, .int (nI (ct (fun h => hoB τ q (nI h)) h))), (2, .ref (ad (40 + q))), (0, .ref (ad 0)), (1, .int f9)] → W p l e { frames := 7, cells := 8, slots := 48, locals := 210 } s m ([.ref (ad 0), .int f9] : List Value).toArray below meth c Hh locs 1 6 (vx_MQ below (ro_Q n0 (fun v H1 => th_hours τ f9 = 0 ∧ v = some (.int (rt_hours τ f9)) ∧ aft D ids n0 ad cn (τ) H1)) (ro_X n0 (fun E9 H1 => grow Hh H1 ∧ ((th_hours τ f9 = 1 ∧ E9 = "java/util/NoSuchElementException")))) ([.ref (ad 0), .int f9] : List Value).toArray s 8 48 (fun q => n0 ≤ q)) (F0 m 11 ls [])) ?_ ?_
    · intro locs ls HS hl
      refine lv_iload hx hb dX6_hours_11 (lv_at hl 0 rfl) ?_
      refine lv_sipush (v := 672) hx hb dX6_hours_13 (by decide) ?_
      refine lv_icmp_ge (tgt := 37) hx hb dX6_hours_16 (by decide) (fun c_16 => ?_) (fun c_16 => absurd (kn_le (n := 672) rfl (Nat.le_refl _) (by omega)) c_16)
      refine lv_iload_n hx hb dX6_hours_37 rfl (lv_at hl 1 rfl) ?_
      exact ro_MT (ro_iretM MC HS hr (⟨aq_hours_1 hf_8 hqc, by rw [rt_hours, hqc], aft.rf hX hI⟩) (Nat.le_of_ble_eq_true rfl) (Nat.le_of_ble_eq_true rfl) dX6_hours_38)
    · intro h hkh ih locs ls HS hl
      refine lv_iload hx hb dX6_hours_11 (lv_at hl 0 rfl) ?_
      refine lv_sipush (v := 672) hx hb dX6_hours_13 (by decide) ?_
      refine lv_icmp_ge (tgt := 37) hx hb dX6_hours_16 (by decide) (fun c_16 => absurd c_16 (kn_nle (n := 672) rfl hkh (by omega))) (fun c_16 => ?_)
      refine lv_aload_n hx hb dX6_hours_19 rfl (lv_at hl 2 rfl) ?_
      refine lv_iload hx hb dX6_hours_20 (lv_at hl 0 rfl) ?_
      refine xo_holds hX hI MC HS (k := q) (hh := h) (show q < nl by omega) (by omega) rfl hl.1 (Nat.le_of_ble_eq_true rfl) ⟨Nat.le_of_ble_eq_true rfl, Nat.le_of_ble_eq_true rfl⟩ dX6_hours_22 ⟨Nat.le_of_ble_eq_true rfl, Nat.le_of_ble_eq_true rfl⟩ (fun lH2 HS => ?_)
      refine lv_if_eq (tgt := 31) hx hb dX6_hours_25 (by decide) (fun c_25 => ?_) (fun c_25 => ?_)
      · have f_25 := bI_0.mp c_25
        refine lv_iinc (v := nI h + 1) (lv' := [(4, .int (nI h + 1)), (3, .int (nI (ct (fun h => hoB τ q (nI h)) h))), (2, .ref (ad (40 + q))), (0, .ref (ad 0)), (1, .int f9)]) hx hb dX6_hours_31 hl (k := 0) rfl rfl (by decide) rfl (fun ls hl => ?_)
        refine lv_goto (tgt := 11) hx hb dX6_hours_34 (by decide) ?_
        rw [show ct (fun h => hoB τ q (nI h)) h = ct (fun h => hoB τ q (nI h)) (h + 1) by simp [ct, f_25], nI_1] at hl
        exact ih _ ls HS (lv_sub hl [0, 1, 2, 3, 4] rfl)
      · have f_25 := bI_n0.mp c_25
        refine lv_iinc (v := nI (ct (fun h => hoB τ q (nI h)) h) + 1) (lv' := [(3, .int (nI (ct (fun h => hoB τ q (nI h)) h) + 1)), (4, .int (nI h)), (2, .ref (ad (40 + q))), (0, .ref (ad 0)), (1, .int f9)]) hx hb dX6_hours_28 hl (k := 1) rfl rfl (by decide) rfl (fun ls hl => ?_)
        refine lv_iinc (v := nI h + 1) (lv' := [(4, .int (nI h + 1)), (3, .int (nI (ct (fun h => hoB τ q (nI h)) h) + 1)), (2, .ref (ad (40 + q))), (0, .ref (ad 0)), (1, .int f9)]) hx hb dX6_hours_31 hl (k := 1) rfl rfl (by decide) rfl (fun ls hl => ?_)
        refine lv_goto (tgt := 11) hx hb dX6_hours_34 (by decide) ?_
        rw [ct_t (p := (fun h => hoB τ q (nI h))) (k := h) f_25, nI_1] at hl
        exact ih _ ls HS (lv_sub hl [0, 1, 2, 3, 4] rfl)
  exact loop 0 (Nat.zero_le _) _ ls HS (lv_sub hl [0, 1, 2, 3, 4] rfl)
set_option maxHeartbeats 4000000 in
set_option maxRecDepth 100000 in
theorem q_badHoursOneByOne {l : Launch} (hl9 : l.stackTraces = false) {D : va_G} {ids : Nat → ClassId} {n0 : Nat} {RR : List Nat} {ad : Nat → Nat} {cn : Nat → va_E} {τ : Tau} {ns nl nc : Nat} {Hh : Heap} (hX : xH D ids n0 RR ad cn τ ns nl nc Hh) {nw : Nat} (hI : Iv τ nw ns nl nc) {c9 : Int32} : ro_T l yX6_badHoursOneByOne cX6_badHoursOneByOne 6 (some FieldType.int) { frames := 7, cells := 8, slots := 48, locals := 210 } D ids n0 [.ref (ad 0), .int c9] Hh (fun v H1 => th_badHours τ c9 = 0 ∧ v = some (.int (rt_badHours τ c9)) ∧ aft D ids n0 ad cn (τ) H1) (fun E9 H1 => grow Hh H1 ∧ ((th_badHours τ c9 = 1 ∧ E9 = "java/lang/IndexOutOfBoundsException"))) := by
  refine ro_ofT (by decide +kernel) (Nat.le_of_ble_eq_true rfl) ?_
  intro p e s m below meth c MC hhp hr hno HS ls hl
  have hx := MC.1.1
  have hb := MC.1.2.1
  have hl : lv_has ls 6 [(0, .ref (ad 0)), (1, .int c9)] := hl
  obtain ⟨HP, hRR, sa, bm, fm, lf, ff, cf, h0, h1, h1b, h2, h2b, h7, h7b, h3, h3b, h40, h4, h4b, h60, h5, h6⟩ := id hX
  have hwb := hI.wb
  have hsb := hI.sb
  have hlb := hI.lb
  have hcb := hI.cb
  have hnl := hI.2.2.1.2
  have hns := hI.2.1.2.2
  have hnc := hI.2.2.2.1.2
  have hcs : cx (τ 0 2) = nl := by rw [hI.2.2.1.1]; exact cx_nI (by omega)
  refine lv_aload_n hx hb dX6_badHoursOneByOne_0 rfl (lv_at hl 0 rfl) ?_
  refine lv_iload_n hx hb dX6_badHoursOneByOne_1 rfl (lv_at hl 1 rfl) ?_
  refine ro_callVT MC HS (rest := []) (As := [.int c9]) (x_needChange hl9 hX hI) (lkX6_123) (kw437) (kw9) ⟨Nat.le_of_ble_eq_true rfl, Nat.le_of_ble_eq_true rfl⟩ (ro_recv MC HP (hRR.l (by decide)) h0 (rfl : vwCl[5]? = some (RX6, TX6, 11))) hl.1 rfl (Nat.le_of_ble_eq_true rfl) dX6_badHoursOneByOne_2 ⟨Nat.le_of_ble_eq_true rfl, Nat.le_of_ble_eq_true rfl⟩ (ro_out MC hno (Nat.le_of_ble_eq_true rfl) (Nat.le_of_ble_eq_true rfl) (fun E9 H9 hp => by obtain ⟨hg9, rfl, hn9⟩ := hp; exact ⟨hg9, ⟨aq_badHoursOneByOne_0 hn9, rfl⟩⟩)) (fun v9 H1 lH1 hp hz HS => ?_)
  obtain ⟨k, hk, hka, hkc, hf_9, rfl, rfl⟩ := hp
  have hle15 := (hI.2.2.2.2.2.2.2.2.2.2.1 k hk).2.2.2.1.2
  have hln := ch_len hI hk
  refine lv_astore_n (lv' := [(2, .ref (ad (60 + k))), (0, .ref (ad 0)), (1, .int c9)]) hx hb dX6_badHoursOneByOne_5 rfl hl (by decide) rfl (fun ls hl => ?_)
  refine lv_aload_n hx hb dX6_badHoursOneByOne_6 rfl (lv_at hl 1 rfl) ?_
  refine lv_aload_n hx hb dX6_badHoursOneByOne_7 rfl (lv_at hl 0 rfl) ?_
  refine ro_callV MC HS (rest := []) (As := [.ref (ad (60 + k))]) (x_against hX hI hk) (lkX6_194) (kw450) (kw11) ⟨Nat.le_of_ble_eq_true rfl, Nat.le_of_ble_eq_true rfl⟩ (ro_recv MC HP (hRR.l (by decide)) h0 (rfl : vwCl[5]? = some (RX6, TX6, 11))) hl.1 rfl (Nat.le_of_ble_eq_true rfl) dX6_badHoursOneByOne_8 ⟨Nat.le_of_ble_eq_true rfl, Nat.le_of_ble_eq_true rfl⟩ (fun v9 H2 lH2 hp hz HS => ?_)
  obtain ⟨x, rfl, hxb, rfl⟩ := hp
  refine lv_istore_n (lv' := [(3, .int x), (2, .ref (ad (60 + k))), (0, .ref (ad 0)), (1, .int c9)]) hx hb dX6_badHoursOneByOne_11 rfl hl (by decide) rfl (fun ls hl => ?_)
  refine lv_iconst (v := 0) hx hb dX6_badHoursOneByOne_12 (by decide) ?_
  refine lv_istore (lv' := [(4, .int 0), (3, .int x), (2, .ref (ad (60 + k))), (0, .ref (ad 0)), (1, .int c9)]) hx hb dX6_badHoursOneByOne_13 hl (by decide) rfl (fun ls hl => ?_)
  refine lv_aload_n hx hb dX6_badHoursOneByOne_15 rfl (lv_at hl 2 rfl) ?_
  refine ro_get MC HP (hRR.c (show k < nc by omega)) (h60 k (by omega)) (rfl : vwCl[0]? = some (RX0, TX0, 8)) inU0 3 (by decide) kw408 rfl rfl dX6_badHoursOneByOne_16 ?_
  refine lv_istore (lv' := [(5, .int (τ 12 k)), (4, .int 0), (3, .int x), (2, .ref (ad (60 + k))), (0, .ref (ad 0)), (1, .int c9)]) hx hb dX6_badHoursOneByOne_19 hl (by decide) rfl (fun ls hl => ?_)
  obtain ⟨⟨u, hu, hsu⟩, ⟨b9, n9, hb9, hn9, h1n, hn1, hbn⟩, -, -, hbg⟩ := hI.2.2.2.2.2.2.2.2.2.2.1 k hk
  have hcl : cx (τ 13 k) = n9 := by rw [hn9]; exact cx_nI (by omega)
  have hen : τ 12 k + τ 13 k = nI (b9 + n9) := by rw [hb9, hn9, nI_add]
  have loop : ∀ j : Nat, j ≤ n9 → ∀ (locs : List Loc) (ls : Array Slot), va_S (fun q => n0 ≤ q) s.heap Hh locs → lv_has ls 6 [(5, .int (nI (b9 + j))), (4, .int (nI (ct (badB τ k) j))), (3, .int x), (2, .ref (ad (60 + k))), (0, .ref (ad 0)), (1, .int c9)] → W p l e { frames := 7, cells := 8, slots := 48, locals := 210 } s m ([.ref (ad 0), .int c9] : List Value).toArray below meth c Hh locs 1 6 (vx_MQ below (ro_Q n0 (fun v H1 => th_badHours τ c9 = 0 ∧ v = some (.int (rt_badHours τ c9)) ∧ aft D ids n0 ad cn (τ) H1)) (ro_X n0 (fun E9 H1 => grow Hh H1 ∧ ((th_badHours τ c9 = 1 ∧ E9 = "java/lang/IndexOutOfBoundsException")))) ([.ref (ad 0), .int c9] : List Value).toArray s 8 48 (fun q => n0 ≤ q)) (F0 m 21 ls []) := by
    refine ro_loop n9 (fun j : Nat => ∀ (locs : List Loc) (ls : Array Slot), va_S (fun q => n0 ≤ q) s.heap Hh locs → lv_has ls 6 [(5, .int (nI (b9 + j))), (4, .int (nI (ct (badB τ k) j))), (3, .int x), (2, .ref (ad (60 + k))), (0, .ref (ad 0)), (1, .int c9)] → W p l e { frames := 7, cells := 8, slots := 48, locals := 210 } s m ([.ref (ad 0), .int c9] : List Value).toArray below meth c Hh locs 1 6 (vx_MQ below (ro_Q n0 (fun v H1 => th_badHours τ c9 = 0 ∧ v = some (.int (rt_badHours τ c9)) ∧ aft D ids n0 ad cn (τ) H1)) (ro_X n0 (fun E9 H1 => grow Hh H1 ∧ ((th_badHours τ c9 = 1 ∧ E9 = "java/lang/IndexOutOfBoundsException")))) ([.ref (ad 0), .int c9] : List Value).toArray s 8 48 (fun q => n0 ≤ q)) (F0 m 21 ls [])) ?_ ?_
    · intro locs ls HS hl
      refine lv_iload hx hb dX6_badHoursOneByOne_21 (lv_at hl 0 rfl) ?_
      refine lv_aload_n hx hb dX6_badHoursOneByOne_23 rfl (lv_at hl 3 rfl) ?_
      refine ro_callV MC HS (rest := [.int (nI (b9 + n9))]) (As := []) (x_hourBehind hX hk) (lkX6_171) (kw476) (kw477) ⟨Nat.le_of_ble_eq_true rfl, Nat.le_of_ble_eq_true rfl⟩ (ro_recv MC HP (hRR.c (show k < nc by omega)) (h60 k (by omega)) (rfl : vwCl[0]? = some (RX0, TX0, 8))) hl.1 rfl (Nat.le_of_ble_eq_true rfl) dX6_badHoursOneByOne_24 ⟨Nat.le_of_ble_eq_true rfl, Nat.le_of_ble_eq_true rfl⟩ (fun v9 H3 lH3 hp hz HS => ?_)
      obtain ⟨rfl, rfl⟩ := hp
      refine lv_icmp_ge (tgt := 49) hx hb dX6_badHoursOneByOne_27 (by decide) (fun c_27 => ?_) (fun c_27 => absurd (kn_le hen (Nat.le_refl _) (by omega)) c_27)
      refine lv_iload hx hb dX6_badHoursOneByOne_49 (lv_at hl 1 rfl) ?_
      exact ro_MT (ro_iretM MC HS hr (⟨aq_badHoursOneByOne_1 hf_9 hkc hle15, by rw [rt_badHours, hkc, badN, hcl], aft.rf hX hI⟩) (Nat.le_of_ble_eq_true rfl) (Nat.le_of_ble_eq_true rfl) dX6_badHoursOneByOne_51)
    · intro j hj ih locs ls HS hl
      refine lv_iload hx hb dX6_badHoursOneByOne_21 (lv_at hl 0 rfl) ?_
      refine lv_aload_n hx hb dX6_badHoursOneByOne_23 rfl (lv_at hl 3 rfl) ?_
      refine ro_callV MC HS (rest := [.int (nI (b9 + j))]) (As := []) (x_hourBehind hX hk) (lkX6_171) (kw476) (kw477) ⟨Nat.le_of_ble_eq_true rfl, Nat.le_of_ble_eq_true rfl⟩ (ro_recv MC HP (hRR.c (show k < nc by omega)) (h60 k (by omega)) (rfl : vwCl[0]? = some (RX0, TX0, 8))) hl.1 rfl (Nat.le_of_ble_eq_true rfl) dX6_badHoursOneByOne_24 ⟨Nat.le_of_ble_eq_true rfl, Nat.le_of_ble_eq_true rfl⟩ (fun v9 H4 lH4 hp hz HS => ?_)
      obtain ⟨rfl, rfl⟩ := hp
      refine lv_icmp_ge (tgt := 49) hx hb dX6_badHoursOneByOne_27 (by decide) (fun c_27 => absurd c_27 (kn_nle hen (show b9 + j < b9 + n9 by omega) (by omega))) (fun c_27 => ?_)
      refine lv_aload_n hx hb dX6_badHoursOneByOne_30 rfl (lv_at hl 4 rfl) ?_
      refine lv_iload_n hx hb dX6_badHoursOneByOne_31 rfl (lv_at hl 2 rfl) ?_
      refine lv_iload hx hb dX6_badHoursOneByOne_32 (lv_at hl 0 rfl) ?_
      refine ro_callV MC HS (rest := []) (As := [.int x, .int (nI (b9 + j))]) (x_holdingAmong hX hI (hh := b9 + j) (by omega) x) (lkX6_110) (kw354) (kw8) ⟨Nat.le_of_ble_eq_true rfl, Nat.le_of_ble_eq_true rfl⟩ (ro_recv MC HP (hRR.l (by decide)) h0 (rfl : vwCl[5]? = some (RX6, TX6, 11))) hl.1 rfl (Nat.le_of_ble_eq_true rfl) dX6_badHoursOneByOne_34 ⟨Nat.le_of_ble_eq_true rfl, Nat.le_of_ble_eq_true rfl⟩ (fun v9 H5 lH5 hp hz HS => ?_)
      obtain ⟨rfl, rfl⟩ := hp
      refine lv_if_eq (tgt := 43) hx hb dX6_badHoursOneByOne_37 (by decide) (fun c_37 => ?_) (fun c_37 => ?_)
      · refine lv_iinc (v := nI (b9 + j) + 1) (lv' := [(5, .int (nI (b9 + j) + 1)), (4, .int (nI (ct (badB τ k) j))), (3, .int x), (2, .ref (ad (60 + k))), (0, .ref (ad 0)), (1, .int c9)]) hx hb dX6_badHoursOneByOne_43 hl (k := 0) rfl rfl (by decide) rfl (fun ls hl => ?_)
        refine lv_goto (tgt := 21) hx hb dX6_badHoursOneByOne_46 (by decide) ?_
        have hbj : badB τ k j = !(mk (haB τ nl x (b9 + j)) 20 == 0) := by rw [agn_eq hnl hcs hxb]; unfold badB; rw [hr_add hb9]
        rw [show ct (badB τ k) j = ct (badB τ k) (j + 1) by simp [ct, hbj, c_37]] at hl
        rw [nI_1] at hl
        exact ih _ ls HS (lv_sub hl [0, 1, 2, 3, 4, 5] rfl)
      · refine lv_iinc (v := nI (ct (badB τ k) j) + 1) (lv' := [(4, .int (nI (ct (badB τ k) j) + 1)), (5, .int (nI (b9 + j))), (3, .int x), (2, .ref (ad (60 + k))), (0, .ref (ad 0)), (1, .int c9)]) hx hb dX6_badHoursOneByOne_40 hl (k := 1) rfl rfl (by decide) rfl (fun ls hl => ?_)
        refine lv_iinc (v := nI (b9 + j) + 1) (lv' := [(5, .int (nI (b9 + j) + 1)), (4, .int (nI (ct (badB τ k) j) + 1)), (3, .int x), (2, .ref (ad (60 + k))), (0, .ref (ad 0)), (1, .int c9)]) hx hb dX6_badHoursOneByOne_43 hl (k := 1) rfl rfl (by decide) rfl (fun ls hl => ?_)
        refine lv_goto (tgt := 21) hx hb dX6_badHoursOneByOne_46 (by decide) ?_
        have hbj : badB τ k j = !(mk (haB τ nl x (b9 + j)) 20 == 0) := by rw [agn_eq hnl hcs hxb]; unfold badB; rw [hr_add hb9]
        rw [ct_t (p := badB τ k) (k := j) (by rw [hbj]; simp [c_37])] at hl
        rw [nI_1] at hl
        exact ih _ ls HS (lv_sub hl [0, 1, 2, 3, 4, 5] rfl)
  rw [hb9] at hl
  exact loop 0 (Nat.zero_le _) _ ls HS (lv_sub hl [0, 1, 2, 3, 4, 5] rfl)
set_option maxHeartbeats 4000000 in
set_option maxRecDepth 100000 in
theorem q_reasons {l : Launch} (hl9 : l.stackTraces = false) {D : va_G} {ids : Nat → ClassId} {n0 : Nat} {RR : List Nat} {ad : Nat → Nat} {cn : Nat → va_E} {τ : Tau} {ns nl nc : Nat} {Hh : Heap} (hX : xH D ids n0 RR ad cn τ ns nl nc Hh) {nw : Nat} (hI : Iv τ nw ns nl nc) {c9 : Int32} : ro_T l yX6_reasons cX6_reasons 6 (some FieldType.int) { frames := 7, cells := 8, slots := 48, locals := 210 } D ids n0 [.ref (ad 0), .int c9] Hh (fun v H1 => th_badHours τ c9 = 0 ∧ v = some (.int (rt_reasons τ c9)) ∧ aft D ids n0 ad cn (τ) H1) (fun E9 H1 => grow Hh H1 ∧ ((th_badHours τ c9 = 1 ∧ E9 = "java/lang/IndexOutOfBoundsException"))) := by
  refine ro_ofT (by decide +kernel) (Nat.le_of_ble_eq_true rfl) ?_
  intro p e s m below meth c MC hhp hr hno HS ls hl
  have hx := MC.1.1
  have hb := MC.1.2.1
  have hl : lv_has ls 6 [(0, .ref (ad 0)), (1, .int c9)] := hl
  obtain ⟨HP, hRR, sa, bm, fm, lf, ff, cf, h0, h1, h1b, h2, h2b, h7, h7b, h3, h3b, h40, h4, h4b, h60, h5, h6⟩ := id hX
  have hwb := hI.wb
  have hsb := hI.sb
  have hlb := hI.lb
  have hcb := hI.cb
  have hnl := hI.2.2.1.2
  have hns := hI.2.1.2.2
  have hnc := hI.2.2.2.1.2
  have hcs : cx (τ 0 2) = nl := by rw [hI.2.2.1.1]; exact cx_nI (by omega)
  refine lv_aload_n hx hb dX6_reasons_0 rfl (lv_at hl 0 rfl) ?_
  refine lv_iload_n hx hb dX6_reasons_1 rfl (lv_at hl 1 rfl) ?_
  refine ro_callVT MC HS (rest := []) (As := [.int c9]) (x_needChange hl9 hX hI) (lkX6_123) (kw437) (kw9) ⟨Nat.le_of_ble_eq_true rfl, Nat.le_of_ble_eq_true rfl⟩ (ro_recv MC HP (hRR.l (by decide)) h0 (rfl : vwCl[5]? = some (RX6, TX6, 11))) hl.1 rfl (Nat.le_of_ble_eq_true rfl) dX6_reasons_2 ⟨Nat.le_of_ble_eq_true rfl, Nat.le_of_ble_eq_true rfl⟩ (ro_out MC hno (Nat.le_of_ble_eq_true rfl) (Nat.le_of_ble_eq_true rfl) (fun E9 H9 hp => by obtain ⟨hg9, rfl, hn9⟩ := hp; exact ⟨hg9, ⟨aq_reasons_0 hn9, rfl⟩⟩)) (fun v9 H1 lH1 hp hz HS => ?_)
  obtain ⟨k, hk, hka, hkc, hf_10, rfl, rfl⟩ := hp
  have hle15 := (hI.2.2.2.2.2.2.2.2.2.2.1 k hk).2.2.2.1.2
  have hln := ch_len hI hk
  refine lv_astore_n (lv' := [(2, .ref (ad (60 + k))), (0, .ref (ad 0)), (1, .int c9)]) hx hb dX6_reasons_5 rfl hl (by decide) rfl (fun ls hl => ?_)
  refine lv_aload_n hx hb dX6_reasons_6 rfl (lv_at hl 1 rfl) ?_
  refine lv_aload_n hx hb dX6_reasons_7 rfl (lv_at hl 0 rfl) ?_
  refine ro_callV MC HS (rest := []) (As := [.ref (ad (60 + k))]) (x_against hX hI hk) (lkX6_194) (kw450) (kw11) ⟨Nat.le_of_ble_eq_true rfl, Nat.le_of_ble_eq_true rfl⟩ (ro_recv MC HP (hRR.l (by decide)) h0 (rfl : vwCl[5]? = some (RX6, TX6, 11))) hl.1 rfl (Nat.le_of_ble_eq_true rfl) dX6_reasons_8 ⟨Nat.le_of_ble_eq_true rfl, Nat.le_of_ble_eq_true rfl⟩ (fun v9 H2 lH2 hp hz HS => ?_)
  obtain ⟨x, rfl, hxb, rfl⟩ := hp
  refine lv_istore_n (lv' := [(3, .int x), (2, .ref (ad (60 + k))), (0, .ref (ad 0)), (1, .int c9)]) hx hb dX6_reasons_11 rfl hl (by decide) rfl (fun ls hl => ?_)
  refine lv_iconst (v := 0) hx hb dX6_reasons_12 (by decide) ?_
  refine lv_istore (lv' := [(4, .int 0), (3, .int x), (2, .ref (ad (60 + k))), (0, .ref (ad 0)), (1, .int c9)]) hx hb dX6_reasons_13 hl (by decide) rfl (fun ls hl => ?_)
  refine lv_aload_n hx hb dX6_reasons_15 rfl (lv_at hl 2 rfl) ?_
  refine ro_get MC HP (hRR.c (show k < nc by omega)) (h60 k (by omega)) (rfl : vwCl[0]? = some (RX0, TX0, 8)) inU0 3 (by decide) kw408 rfl rfl dX6_reasons_16 ?_
  refine lv_istore (lv' := [(5, .int (τ 12 k)), (4, .int 0), (3, .int x), (2, .ref (ad (60 + k))), (0, .ref (ad 0)), (1, .int c9)]) hx hb dX6_reasons_19 hl (by decide) rfl (fun ls hl => ?_)
  obtain ⟨⟨u, hu, hsu⟩, ⟨b9, n9, hb9, hn9, h1n, hn1, hbn⟩, -, -, hbg⟩ := hI.2.2.2.2.2.2.2.2.2.2.1 k hk
  have hcl : cx (τ 13 k) = n9 := by rw [hn9]; exact cx_nI (by omega)
  have hen : τ 12 k + τ 13 k = nI (b9 + n9) := by rw [hb9, hn9, nI_add]
  have loop : ∀ j : Nat, j ≤ n9 → ∀ (locs : List Loc) (ls : Array Slot), va_S (fun q => n0 ≤ q) s.heap Hh locs → lv_has ls 6 [(5, .int (nI (b9 + j))), (4, .int (orr (fun j => agn τ k (τ 12 k + nI j)) j)), (3, .int x), (2, .ref (ad (60 + k))), (0, .ref (ad 0)), (1, .int c9)] → W p l e { frames := 7, cells := 8, slots := 48, locals := 210 } s m ([.ref (ad 0), .int c9] : List Value).toArray below meth c Hh locs 1 6 (vx_MQ below (ro_Q n0 (fun v H1 => th_badHours τ c9 = 0 ∧ v = some (.int (rt_reasons τ c9)) ∧ aft D ids n0 ad cn (τ) H1)) (ro_X n0 (fun E9 H1 => grow Hh H1 ∧ ((th_badHours τ c9 = 1 ∧ E9 = "java/lang/IndexOutOfBoundsException")))) ([.ref (ad 0), .int c9] : List Value).toArray s 8 48 (fun q => n0 ≤ q)) (F0 m 21 ls []) := by
    refine ro_loop n9 (fun j : Nat => ∀ (locs : List Loc) (ls : Array Slot), va_S (fun q => n0 ≤ q) s.heap Hh locs → lv_has ls 6 [(5, .int (nI (b9 + j))), (4, .int (orr (fun j => agn τ k (τ 12 k + nI j)) j)), (3, .int x), (2, .ref (ad (60 + k))), (0, .ref (ad 0)), (1, .int c9)] → W p l e { frames := 7, cells := 8, slots := 48, locals := 210 } s m ([.ref (ad 0), .int c9] : List Value).toArray below meth c Hh locs 1 6 (vx_MQ below (ro_Q n0 (fun v H1 => th_badHours τ c9 = 0 ∧ v = some (.int (rt_reasons τ c9)) ∧ aft D ids n0 ad cn (τ) H1)) (ro_X n0 (fun E9 H1 => grow Hh H1 ∧ ((th_badHours τ c9 = 1 ∧ E9 = "java/lang/IndexOutOfBoundsException")))) ([.ref (ad 0), .int c9] : List Value).toArray s 8 48 (fun q => n0 ≤ q)) (F0 m 21 ls [])) ?_ ?_
    · intro locs ls HS hl
      refine lv_iload hx hb dX6_reasons_21 (lv_at hl 0 rfl) ?_
      refine lv_aload_n hx hb dX6_reasons_23 rfl (lv_at hl 3 rfl) ?_
      refine ro_callV MC HS (rest := [.int (nI (b9 + n9))]) (As := []) (x_hourBehind hX hk) (lkX6_171) (kw476) (kw477) ⟨Nat.le_of_ble_eq_true rfl, Nat.le_of_ble_eq_true rfl⟩ (ro_recv MC HP (hRR.c (show k < nc by omega)) (h60 k (by omega)) (rfl : vwCl[0]? = some (RX0, TX0, 8))) hl.1 rfl (Nat.le_of_ble_eq_true rfl) dX6_reasons_24 ⟨Nat.le_of_ble_eq_true rfl, Nat.le_of_ble_eq_true rfl⟩ (fun v9 H3 lH3 hp hz HS => ?_)
      obtain ⟨rfl, rfl⟩ := hp
      refine lv_icmp_ge (tgt := 48) hx hb dX6_reasons_27 (by decide) (fun c_27 => ?_) (fun c_27 => absurd (kn_le hen (Nat.le_refl _) (by omega)) c_27)
      refine lv_iload hx hb dX6_reasons_48 (lv_at hl 1 rfl) ?_
      exact ro_MT (ro_iretM MC HS hr (⟨aq_reasons_1 hf_10 hkc hle15, by rw [rt_reasons, hkc, hcl], aft.rf hX hI⟩) (Nat.le_of_ble_eq_true rfl) (Nat.le_of_ble_eq_true rfl) dX6_reasons_50)
    · intro j hj ih locs ls HS hl
      refine lv_iload hx hb dX6_reasons_21 (lv_at hl 0 rfl) ?_
      refine lv_aload_n hx hb dX6_reasons_23 rfl (lv_at hl 3 rfl) ?_
      refine ro_callV MC HS (rest := [.int (nI (b9 + j))]) (As := []) (x_hourBehind hX hk) (lkX6_171) (kw476) (kw477) ⟨Nat.le_of_ble_eq_true rfl, Nat.le_of_ble_eq_true rfl⟩ (ro_recv MC HP (hRR.c (show k < nc by omega)) (h60 k (by omega)) (rfl : vwCl[0]? = some (RX0, TX0, 8))) hl.1 rfl (Nat.le_of_ble_eq_true rfl) dX6_reasons_24 ⟨Nat.le_of_ble_eq_true rfl, Nat.le_of_ble_eq_true rfl⟩ (fun v9 H4 lH4 hp hz HS => ?_)
      obtain ⟨rfl, rfl⟩ := hp
      refine lv_icmp_ge (tgt := 48) hx hb dX6_reasons_27 (by decide) (fun c_27 => absurd c_27 (kn_nle hen (show b9 + j < b9 + n9 by omega) (by omega))) (fun c_27 => ?_)
      refine lv_iload hx hb dX6_reasons_30 (lv_at hl 1 rfl) ?_
      refine lv_aload_n hx hb dX6_reasons_32 rfl (lv_at hl 4 rfl) ?_
      refine lv_iload_n hx hb dX6_reasons_33 rfl (lv_at hl 2 rfl) ?_
      refine lv_iload hx hb dX6_reasons_34 (lv_at hl 0 rfl) ?_
      refine ro_callV MC HS (rest := [.int (orr (fun j => agn τ k (τ 12 k + nI j)) j)]) (As := [.int x, .int (nI (b9 + j))]) (x_holdingAmong hX hI (hh := b9 + j) (by omega) x) (lkX6_110) (kw354) (kw8) ⟨Nat.le_of_ble_eq_true rfl, Nat.le_of_ble_eq_true rfl⟩ (ro_recv MC HP (hRR.l (by decide)) h0 (rfl : vwCl[5]? = some (RX6, TX6, 11))) hl.1 rfl (Nat.le_of_ble_eq_true rfl) dX6_reasons_36 ⟨Nat.le_of_ble_eq_true rfl, Nat.le_of_ble_eq_true rfl⟩ (fun v9 H5 lH5 hp hz HS => ?_)
      obtain ⟨rfl, rfl⟩ := hp
      refine lv_ior hx hb dX6_reasons_39 ?_
      refine lv_istore (lv' := [(4, .int ((orr (fun j => agn τ k (τ 12 k + nI j)) j ||| mk (haB τ nl x (b9 + j)) 20))), (5, .int (nI (b9 + j))), (3, .int x), (2, .ref (ad (60 + k))), (0, .ref (ad 0)), (1, .int c9)]) hx hb dX6_reasons_40 hl (by decide) rfl (fun ls hl => ?_)
      refine lv_iinc (v := nI (b9 + j) + 1) (lv' := [(5, .int (nI (b9 + j) + 1)), (4, .int ((orr (fun j => agn τ k (τ 12 k + nI j)) j ||| mk (haB τ nl x (b9 + j)) 20))), (3, .int x), (2, .ref (ad (60 + k))), (0, .ref (ad 0)), (1, .int c9)]) hx hb dX6_reasons_42 hl (k := 1) rfl rfl (by decide) rfl (fun ls hl => ?_)
      refine lv_goto (tgt := 21) hx hb dX6_reasons_45 (by decide) ?_
      rw [show orr (fun j => agn τ k (τ 12 k + nI j)) j ||| mk (haB τ nl x (b9 + j)) 20 = orr (fun j => agn τ k (τ 12 k + nI j)) (j + 1) by rw [agn_eq hnl hcs hxb, orr, hr_add hb9]] at hl
      rw [nI_1] at hl
      exact ih _ ls HS (lv_sub hl [0, 1, 2, 3, 4, 5] rfl)
  rw [hb9] at hl
  exact loop 0 (Nat.zero_le _) _ ls HS (lv_sub hl [0, 1, 2, 3, 4, 5] rfl)
end
section
/-! the calendar after a write -/
theorem isX.obj {ids : Nat → ClassId} {ad : Nat → Nat} {cn cn1 : Nat → va_E} {τ τ2 : Tau} {nw ns nl nc : Nat} {sa bm fm : Nat → Int32} {lf ff cf : Nat → Option Nat} (h : isX ids ad cn τ ns nl nc sa bm fm lf ff cf) (hI : Iv τ nw ns nl nc) (hcn : ∀ r, r ≠ 0 → cn1 r = cn r) (hτ : ∀ i, 1 ≤ i → τ2 i = τ i) (k0 : cn1 0 = .inr (5, xoF τ2 ad)) : isX ids ad cn1 τ2 ns nl nc sa bm fm lf ff cf := by
  obtain ⟨h0, h1, h1b, h2, h2b, h7, h7b, h3, h3b, h40, h4, h4b, h60, h5, h6⟩ := h
  have hnl := hI.2.2.1.2
  have hns := hI.2.1.2.2
  have hnc := hI.2.2.2.1.2
  have hfr : ∀ k, k < nl → frE τ2 ad k = frE τ ad k := fun k hk => by simp only [frE, hτ 5 (by omega), hτ 6 (by omega), hτ 7 (by omega), hτ 8 (by omega), hτ 9 (by omega), hτ 10 (by omega)]
  have hch : ∀ k, chF τ2 k = chF τ k := fun k => by simp only [chF, flb, hτ 11 (by omega), hτ 12 (by omega), hτ 13 (by omega), hτ 14 (by omega), hτ 15 (by omega), hτ 16 (by omega), hτ 17 (by omega)]
  refine ⟨k0, (hcn 1 (by omega)).trans h1, fun k hk b hb => by rw [hτ 1 (by omega)]; exact h1b k hk b hb, (hcn 2 (by omega)).trans h2, fun j hj => by rw [h2b j hj], fun j hj => by rw [hcn _ (by omega), hτ 2 (by omega)]; exact h7 j hj, fun j hj d hd => by rw [hτ 3 (by omega)]; exact h7b j hj d hd, (hcn 3 (by omega)).trans h3, fun k hk => by rw [h3b k hk, hτ 4 (by omega)], fun k hk => by rw [hcn _ (by omega), hfr k hk]; exact h40 k hk, (hcn 4 (by omega)).trans h4, h4b, fun k hk => by rw [hcn _ (by omega), hch]; exact h60 k hk, (by rw [hcn 5 (by omega), hτ 18 (by omega)]; exact h5), (hcn 6 (by omega)).trans h6⟩
theorem isX.exc {ids : Nat → ClassId} {ad : Nat → Nat} {cn cn1 : Nat → va_E} {τ τ2 : Tau} {nw ns nl nc : Nat} {sa bm fm : Nat → Int32} {lf ff cf : Nat → Option Nat} (h : isX ids ad cn τ ns nl nc sa bm fm lf ff cf) (hI : Iv τ nw ns nl nc) (hcn : ∀ r, r ≠ 5 → cn1 r = cn r) (hτ : ∀ i, i < 18 → τ2 i = τ i) (k5 : cn1 5 = .inl (ids 0, 4, .inl (τ2 18))) : isX ids ad cn1 τ2 ns nl nc sa bm fm lf ff cf := by
  obtain ⟨h0, h1, h1b, h2, h2b, h7, h7b, h3, h3b, h40, h4, h4b, h60, h5, h6⟩ := h
  have hnl := hI.2.2.1.2
  have hns := hI.2.1.2.2
  have hnc := hI.2.2.2.1.2
  have hfr : ∀ k, k < nl → frE τ2 ad k = frE τ ad k := fun k hk => by simp only [frE, hτ 5 (by omega), hτ 6 (by omega), hτ 7 (by omega), hτ 8 (by omega), hτ 9 (by omega), hτ 10 (by omega)]
  have hch : ∀ k, chF τ2 k = chF τ k := fun k => by simp only [chF, flb, hτ 11 (by omega), hτ 12 (by omega), hτ 13 (by omega), hτ 14 (by omega), hτ 15 (by omega), hτ 16 (by omega), hτ 17 (by omega)]
  refine ⟨(by rw [hcn 0 (by omega), h0]; simp only [xoF, cntS, hτ 0 (by omega), hτ 4 (by omega)]), (hcn 1 (by omega)).trans h1, fun k hk b hb => by rw [hτ 1 (by omega)]; exact h1b k hk b hb, (hcn 2 (by omega)).trans h2, fun j hj => by rw [h2b j hj], fun j hj => by rw [hcn _ (by omega), hτ 2 (by omega)]; exact h7 j hj, fun j hj d hd => by rw [hτ 3 (by omega)]; exact h7b j hj d hd, (hcn 3 (by omega)).trans h3, fun k hk => by rw [h3b k hk, hτ 4 (by omega)], fun k hk => by rw [hcn _ (by omega), hfr k hk]; exact h40 k hk, (hcn 4 (by omega)).trans h4, h4b, fun k hk => by rw [hcn _ (by omega), hch]; exact h60 k hk, k5, (hcn 6 (by omega)).trans h6⟩
theorem isX.chg {ids : Nat → ClassId} {ad : Nat → Nat} {cn cn1 : Nat → va_E} {τ τ2 : Tau} {nw ns nl nc k9 : Nat} {sa bm fm : Nat → Int32} {lf ff cf : Nat → Option Nat} (h : isX ids ad cn τ ns nl nc sa bm fm lf ff cf) (hI : Iv τ nw ns nl nc) (hcn : ∀ r, r ≠ 60 + k9 ∧ r ≠ 5 → cn1 r = cn r) (hτ : ∀ i, i < 11 → τ2 i = τ i) (k5 : cn1 5 = .inl (ids 0, 4, .inl (τ2 18))) (k60 : cn1 (60 + k9) = .inr (0, chF τ2 k9)) (hτ9 : ∀ i, i < 18 → ∀ j, j ≠ k9 → τ2 i j = τ i j) : isX ids ad cn1 τ2 ns nl nc sa bm fm lf ff cf := by
  obtain ⟨h0, h1, h1b, h2, h2b, h7, h7b, h3, h3b, h40, h4, h4b, h60, h5, h6⟩ := h
  have hnl := hI.2.2.1.2
  have hns := hI.2.1.2.2
  have hnc := hI.2.2.2.1.2
  have hfr : ∀ k, k < nl → frE τ2 ad k = frE τ ad k := fun k hk => by simp only [frE, hτ 5 (by omega), hτ 6 (by omega), hτ 7 (by omega), hτ 8 (by omega), hτ 9 (by omega), hτ 10 (by omega)]
  refine ⟨(by rw [hcn 0 (by omega), h0]; simp only [xoF, cntS, hτ 0 (by omega), hτ 4 (by omega)]), (hcn 1 (by omega)).trans h1, fun k hk b hb => by rw [hτ 1 (by omega)]; exact h1b k hk b hb, (hcn 2 (by omega)).trans h2, fun j hj => by rw [h2b j hj], fun j hj => by rw [hcn _ (by omega), hτ 2 (by omega)]; exact h7 j hj, fun j hj d hd => by rw [hτ 3 (by omega)]; exact h7b j hj d hd, (hcn 3 (by omega)).trans h3, fun k hk => by rw [h3b k hk, hτ 4 (by omega)], fun k hk => by rw [hcn _ (by omega), hfr k hk]; exact h40 k hk, (hcn 4 (by omega)).trans h4, h4b, fun k hk => by by_cases h9 : k = k9; (· rw [h9]; exact k60); (· rw [hcn _ (by omega)]; simp only [chF, flb, hτ9 11 (by omega) k h9, hτ9 12 (by omega) k h9, hτ9 13 (by omega) k h9, hτ9 14 (by omega) k h9, hτ9 15 (by omega) k h9, hτ9 16 (by omega) k h9, hτ9 17 (by omega) k h9]; exact h60 k hk), k5, (hcn 6 (by omega)).trans h6⟩
theorem isX.lnd {ids : Nat → ClassId} {ad : Nat → Nat} {cn cn1 : Nat → va_E} {τ τ2 : Tau} {nw ns nl nc j9 : Nat} {sa bm fm : Nat → Int32} {lf ff cf : Nat → Option Nat} (h : isX ids ad cn τ ns nl nc sa bm fm lf ff cf) (hI : Iv τ nw ns nl nc) (hcn : ∀ r, r ≠ 7 + j9 → cn1 r = cn r) (hτ : ∀ i, i ≠ 2 ∧ i ≠ 3 → τ2 i = τ i) {f9 : Int32} (hj9 : j9 < 4) (k7 : cn1 (7 + j9) = .inr (4, [.int (τ2 2 j9), .int f9])) (hτ2 : ∀ j, j ≠ j9 → τ2 2 j = τ 2 j) (k7b : ∀ d, d < 30 → bit f9 d = !(τ2 3 (30 * j9 + d) == 0)) (hτ3 : ∀ j, j < 4 → j ≠ j9 → ∀ d, d < 30 → τ2 3 (30 * j + d) = τ 3 (30 * j + d)) : isX ids ad cn1 τ2 ns nl nc sa bm (fun j => if j = j9 then f9 else fm j) lf ff cf := by
  obtain ⟨h0, h1, h1b, h2, h2b, h7, h7b, h3, h3b, h40, h4, h4b, h60, h5, h6⟩ := h
  have hnl := hI.2.2.1.2
  have hns := hI.2.1.2.2
  have hnc := hI.2.2.2.1.2
  have hfr : ∀ k, k < nl → frE τ2 ad k = frE τ ad k := fun k hk => by simp only [frE, hτ 5 (by omega), hτ 6 (by omega), hτ 7 (by omega), hτ 8 (by omega), hτ 9 (by omega), hτ 10 (by omega)]
  have hch : ∀ k, chF τ2 k = chF τ k := fun k => by simp only [chF, flb, hτ 11 (by omega), hτ 12 (by omega), hτ 13 (by omega), hτ 14 (by omega), hτ 15 (by omega), hτ 16 (by omega), hτ 17 (by omega)]
  refine ⟨(by rw [hcn 0 (by omega), h0]; simp only [xoF, cntS, hτ 0 (by omega), hτ 4 (by omega)]), (hcn 1 (by omega)).trans h1, fun k hk b hb => by rw [hτ 1 (by omega)]; exact h1b k hk b hb, (hcn 2 (by omega)).trans h2, fun j hj => by rw [h2b j hj], fun j hj => by by_cases h9 : j = j9; (· rw [h9]; simp only [if_true]; exact k7); (· simp only [if_neg h9]; rw [hcn _ (by omega), hτ2 j h9]; exact h7 j hj), fun j hj d hd => by by_cases h9 : j = j9; (· rw [h9]; simp only [if_true]; exact k7b d hd); (· simp only [if_neg h9]; rw [hτ3 j hj h9 d hd]; exact h7b j hj d hd), (hcn 3 (by omega)).trans h3, fun k hk => by rw [h3b k hk, hτ 4 (by omega)], fun k hk => by rw [hcn _ (by omega), hfr k hk]; exact h40 k hk, (hcn 4 (by omega)).trans h4, h4b, fun k hk => by rw [hcn _ (by omega), hch]; exact h60 k hk, (by rw [hcn 5 (by omega), hτ 18 (by omega)]; exact h5), (hcn 6 (by omega)).trans h6⟩
theorem isX.scp {ids : Nat → ClassId} {ad : Nat → Nat} {cn cn1 : Nat → va_E} {τ τ2 : Tau} {nw ns nl nc : Nat} {sa bm fm : Nat → Int32} {lf ff cf : Nat → Option Nat} (h : isX ids ad cn τ ns nl nc sa bm fm lf ff cf) (hI : Iv τ nw ns nl nc) (hcn : ∀ r, r ≠ 0 ∧ r ≠ 1 → cn1 r = cn r) (hτ : ∀ i, 2 ≤ i → τ2 i = τ i) {sa2 : Nat → Int32} (k0 : cn1 0 = .inr (5, xoF τ2 ad)) (k1 : cn1 1 = .inl (ids 0, 16, .inl sa2)) (k1b : ∀ k, k < ns + 1 → ∀ b, b < 16 → bit (sa2 k) b = bel (τ2 1) 16 k b) : isX ids ad cn1 τ2 (ns + 1) nl nc sa2 bm fm lf ff cf := by
  obtain ⟨h0, h1, h1b, h2, h2b, h7, h7b, h3, h3b, h40, h4, h4b, h60, h5, h6⟩ := h
  have hnl := hI.2.2.1.2
  have hns := hI.2.1.2.2
  have hnc := hI.2.2.2.1.2
  have hfr : ∀ k, k < nl → frE τ2 ad k = frE τ ad k := fun k hk => by simp only [frE, hτ 5 (by omega), hτ 6 (by omega), hτ 7 (by omega), hτ 8 (by omega), hτ 9 (by omega), hτ 10 (by omega)]
  have hch : ∀ k, chF τ2 k = chF τ k := fun k => by simp only [chF, flb, hτ 11 (by omega), hτ 12 (by omega), hτ 13 (by omega), hτ 14 (by omega), hτ 15 (by omega), hτ 16 (by omega), hτ 17 (by omega)]
  refine ⟨k0, k1, k1b, (hcn 2 (by omega)).trans h2, fun j hj => by rw [h2b j hj], fun j hj => by rw [hcn _ (by omega), hτ 2 (by omega)]; exact h7 j hj, fun j hj d hd => by rw [hτ 3 (by omega)]; exact h7b j hj d hd, (hcn 3 (by omega)).trans h3, fun k hk => by rw [h3b k hk, hτ 4 (by omega)], fun k hk => by rw [hcn _ (by omega), hfr k hk]; exact h40 k hk, (hcn 4 (by omega)).trans h4, h4b, fun k hk => by rw [hcn _ (by omega), hch]; exact h60 k hk, (by rw [hcn 5 (by omega), hτ 18 (by omega)]; exact h5), (hcn 6 (by omega)).trans h6⟩
theorem isX.lft {ids : Nat → ClassId} {ad : Nat → Nat} {cn cn1 : Nat → va_E} {τ τ2 : Tau} {nw ns nl nc : Nat} {sa bm fm : Nat → Int32} {lf ff cf : Nat → Option Nat} (h : isX ids ad cn τ ns nl nc sa bm fm lf ff cf) (hI : Iv τ nw ns nl nc) (hcn : ∀ r, r ≠ 0 ∧ r ≠ 3 → cn1 r = cn r) (hτ : ∀ i, i ≠ 4 → τ2 i = τ i) {ff2 : Nat → Option Nat} (k0 : cn1 0 = .inr (5, xoF τ2 ad)) (k3 : cn1 3 = .inl (ids 4, 20, .inr (.inr (.inr (.inr ff2))))) (k3b : ∀ k, k < 20 → ff2 k = if k < nl ∧ τ2 4 k = 0 then some (ad (40 + k)) else none) : isX ids ad cn1 τ2 ns nl nc sa bm fm lf ff2 cf := by
  obtain ⟨h0, h1, h1b, h2, h2b, h7, h7b, h3, h3b, h40, h4, h4b, h60, h5, h6⟩ := h
  have hnl := hI.2.2.1.2
  have hns := hI.2.1.2.2
  have hnc := hI.2.2.2.1.2
  have hfr : ∀ k, k < nl → frE τ2 ad k = frE τ ad k := fun k hk => by simp only [frE, hτ 5 (by omega), hτ 6 (by omega), hτ 7 (by omega), hτ 8 (by omega), hτ 9 (by omega), hτ 10 (by omega)]
  have hch : ∀ k, chF τ2 k = chF τ k := fun k => by simp only [chF, flb, hτ 11 (by omega), hτ 12 (by omega), hτ 13 (by omega), hτ 14 (by omega), hτ 15 (by omega), hτ 16 (by omega), hτ 17 (by omega)]
  refine ⟨k0, (hcn 1 (by omega)).trans h1, fun k hk b hb => by rw [hτ 1 (by omega)]; exact h1b k hk b hb, (hcn 2 (by omega)).trans h2, fun j hj => by rw [h2b j hj], fun j hj => by rw [hcn _ (by omega), hτ 2 (by omega)]; exact h7 j hj, fun j hj d hd => by rw [hτ 3 (by omega)]; exact h7b j hj d hd, k3, k3b, fun k hk => by rw [hcn _ (by omega), hfr k hk]; exact h40 k hk, (hcn 4 (by omega)).trans h4, h4b, fun k hk => by rw [hcn _ (by omega), hch]; exact h60 k hk, (by rw [hcn 5 (by omega), hτ 18 (by omega)]; exact h5), (hcn 6 (by omega)).trans h6⟩
theorem isX.lay {ids : Nat → ClassId} {ad ad1 : Nat → Nat} {cn cn1 : Nat → va_E} {τ τ2 : Tau} {nw ns nl nc : Nat} {sa bm fm : Nat → Int32} {lf ff cf : Nat → Option Nat} (h : isX ids ad cn τ ns nl nc sa bm fm lf ff cf) (hI : Iv τ nw ns nl nc) (hcn : ∀ r, r ≠ 0 ∧ r ≠ 3 ∧ r ≠ 40 + nl → cn1 r = cn r) (hτ : ∀ i, 1 ≤ i ∧ (i < 5 ∨ 10 < i) → τ2 i = τ i) (had : ∀ r, r ≠ 40 + nl → ad1 r = ad r) {ff2 : Nat → Option Nat} (hlt : nl < 20) (k0 : cn1 0 = .inr (5, xoF τ2 ad1)) (k3 : cn1 3 = .inl (ids 4, 20, .inr (.inr (.inr (.inr ff2))))) (k3b : ∀ k, k < 20 → ff2 k = if k < nl + 1 ∧ τ2 4 k = 0 then some (ad1 (40 + k)) else none) (k40 : ∀ k, k < nl + 1 → cn1 (40 + k) = frE τ2 ad1 k) : isX ids ad1 cn1 τ2 ns (nl + 1) nc sa bm fm lf ff2 cf := by
  obtain ⟨h0, h1, h1b, h2, h2b, h7, h7b, h3, h3b, h40, h4, h4b, h60, h5, h6⟩ := h
  have hnl := hI.2.2.1.2
  have hns := hI.2.1.2.2
  have hnc := hI.2.2.2.1.2
  have hl20 : nl < 20 := hlt
  have hch : ∀ k, chF τ2 k = chF τ k := fun k => by simp only [chF, flb, hτ 11 (by omega), hτ 12 (by omega), hτ 13 (by omega), hτ 14 (by omega), hτ 15 (by omega), hτ 16 (by omega), hτ 17 (by omega)]
  refine ⟨k0, (hcn 1 (by omega)).trans h1, fun k hk b hb => by rw [hτ 1 (by omega)]; exact h1b k hk b hb, (hcn 2 (by omega)).trans h2, fun j hj => by rw [h2b j hj, had _ (by omega)], fun j hj => by rw [hcn _ (by omega), hτ 2 (by omega)]; exact h7 j hj, fun j hj d hd => by rw [hτ 3 (by omega)]; exact h7b j hj d hd, k3, k3b, k40, (hcn 4 (by omega)).trans h4, fun k hk => by rw [h4b k hk]; by_cases h9 : k < nc <;> simp only [h9, if_true, if_false] ; rw [had _ (by omega)], fun k hk => by rw [hcn _ (by omega), hch]; exact h60 k hk, (by rw [hcn 5 (by omega), hτ 18 (by omega)]; exact h5), (hcn 6 (by omega)).trans h6⟩
theorem isX.pln {ids : Nat → ClassId} {ad ad1 : Nat → Nat} {cn cn1 : Nat → va_E} {τ τ2 : Tau} {nw ns nl nc : Nat} {sa bm fm : Nat → Int32} {lf ff cf : Nat → Option Nat} (h : isX ids ad cn τ ns nl nc sa bm fm lf ff cf) (hI : Iv τ nw ns nl nc) (hcn : ∀ r, r ≠ 0 ∧ r ≠ 4 ∧ r ≠ 60 + nc → cn1 r = cn r) (hτ : ∀ i, 1 ≤ i ∧ (i < 11 ∨ i = 18) → τ2 i = τ i) (had : ∀ r, r ≠ 60 + nc → ad1 r = ad r) {cf2 : Nat → Option Nat} (k0 : cn1 0 = .inr (5, xoF τ2 ad1)) (k4 : cn1 4 = .inl (ids 5, 30, .inr (.inr (.inr (.inr cf2))))) (k4b : ∀ k, k < 30 → cf2 k = if k < nc + 1 then some (ad1 (60 + k)) else none) (k60 : ∀ k, k < nc + 1 → cn1 (60 + k) = .inr (0, chF τ2 k)) : isX ids ad1 cn1 τ2 ns nl (nc + 1) sa bm fm lf ff cf2 := by
  obtain ⟨h0, h1, h1b, h2, h2b, h7, h7b, h3, h3b, h40, h4, h4b, h60, h5, h6⟩ := h
  have hnl := hI.2.2.1.2
  have hns := hI.2.1.2.2
  have hnc := hI.2.2.2.1.2
  have hfr : ∀ k, k < nl → frE τ2 ad1 k = frE τ ad k := fun k hk => by
    obtain ⟨-, -, ⟨d, hd, h9⟩, -⟩ := hI.2.2.2.2.2.2.2.2.2.1 k hk
    have h8 : cx (τ 7 k) = d := by rw [h9]; exact cx_nI (by omega)
    simp only [frE, hτ 5 (by omega), hτ 6 (by omega), hτ 7 (by omega), hτ 8 (by omega), hτ 9 (by omega), hτ 10 (by omega)]
    rw [had (7 + cx (τ 7 k)) (by omega)]
  refine ⟨k0, (hcn 1 (by omega)).trans h1, fun k hk b hb => by rw [hτ 1 (by omega)]; exact h1b k hk b hb, (hcn 2 (by omega)).trans h2, fun j hj => by rw [h2b j hj, had _ (by omega)], fun j hj => by rw [hcn _ (by omega), hτ 2 (by omega)]; exact h7 j hj, fun j hj d hd => by rw [hτ 3 (by omega)]; exact h7b j hj d hd, (hcn 3 (by omega)).trans h3, fun k hk => by rw [h3b k hk, hτ 4 (by omega)]; by_cases h9 : k < nl ∧ τ 4 k = 0 <;> simp only [h9, if_true, if_false, and_self] ; rw [had _ (by omega)], fun k hk => by rw [hcn _ (by omega), hfr k hk]; exact h40 k hk, k4, k4b, k60, (by rw [hcn 5 (by omega), hτ 18 (by omega)]; exact h5), (hcn 6 (by omega)).trans h6⟩
end
section
/-! the numbers after a write -/
theorem nI_up {x : Int32} {n N : Nat} (hx : x = nI n) (hn : n ≤ N) (hN : N < 100000) (h : ¬ x = nI N) : n + 1 ≤ N := by
  have : n ≠ N := fun e => h (by rw [hx, e])
  omega
theorem nI_suc {x : Int32} {n : Nat} (hx : x = nI n) : x + 1 = nI (n + 1) := by rw [hx, nI_1]
theorem upd_at (f : Nat → Int32) (k : Nat) (v : Int32) : upd f k v k = v := pk_us
theorem upd_ne (f : Nat → Int32) {k j : Nat} (v : Int32) (h : j ≠ k) : upd f k v j = f j := pk_un h
theorem Iv.pass {τ : Tau} {nw ns nl nc : Nat} (hI : Iv τ nw ns nl nc) {h : Int32} (hth : th_pass τ h = 0) : ∃ nw1, Iv (nx_pass τ h) nw1 ns nl nc := by
  obtain ⟨⟨w1, w2⟩, ⟨s1, s2, s3⟩, ⟨l1, l2⟩, ⟨c1, c2⟩, ⟨t1, t2⟩, ho, hf, h4, h4n, hF, hC, hZ, hE⟩ := id hI
  unfold th_pass at hth
  by_cases h1 : 1 ≤ h ∧ h ≤ 100
  · rw [if_neg (by simpa using h1)] at hth
    by_cases h2 : 672 ≤ τ 0 0 + h
    · rw [if_pos h2] at hth; exact absurd hth (by decide)
    · obtain ⟨d, hd, hda⟩ := nI_ex (x := h) (n := 101) (by lia) (by show h < 101; lia) (by omega)
      have e : τ 0 0 + h = nI (nw + d) := by rw [w1, hda, nI_add]
      have hlt : nw + d ≤ 671 := by
        rcases Nat.lt_or_ge 671 (nw + d) with h9 | h9
        · exact absurd (show 672 ≤ τ 0 0 + h by rw [e]; exact nI_le (a := 672) (by omega) (by omega)) h2
        · exact h9
      exact ⟨nw + d, ⟨e, hlt⟩, ⟨s1, s2, s3⟩, ⟨l1, l2⟩, ⟨c1, c2⟩, ⟨t1, t2⟩, ho, hf, h4, h4n, hF, hC, hZ, hE⟩
  · rw [if_pos h1] at hth; exact absurd hth (by decide)
theorem Iv.scope {τ : Tau} {nw ns nl nc : Nat} (hI : Iv τ nw ns nl nc) {i : Nat} (hi : i < ns) (h16 : ¬ τ 0 1 = 16) : Iv (nx_scope τ (nI i)) nw (ns + 1) nl nc := by
  obtain ⟨⟨w1, w2⟩, ⟨s1, s2, s3⟩, ⟨l1, l2⟩, ⟨c1, c2⟩, ⟨t1, t2⟩, ho, hf, h4, h4n, hF, hC, hZ, hE⟩ := id hI
  have hcn : cx (τ 0 1) = ns := by rw [s1]; exact cx_nI (by omega)
  have h1 := nI_up (N := 16) s1 s3 (by omega) h16
  unfold nx_scope
  rw [hcn]
  refine ⟨⟨w1, w2⟩, ⟨nI_suc s1, by omega, h1⟩, ⟨l1, l2⟩, ⟨c1, c2⟩, ⟨?_, ?_⟩, ho, hf, h4, h4n, ?_, ?_, hZ, hE⟩
  · show upd (τ 1) ns (nI i) 0 = -1
    rw [upd_ne _ _ (by omega)]; exact t1
  · intro k hk1 hk2
    show ∃ j, j < k ∧ upd (τ 1) ns (nI i) k = nI j
    by_cases h9 : k = ns
    · subst h9; exact ⟨i, hi, upd_at ..⟩
    · rw [upd_ne _ _ h9]; exact t2 k hk1 (by omega)
  · intro k hk
    obtain ⟨a1, ⟨s, hs, a2⟩, a3, a4⟩ := hF k hk
    exact ⟨a1, ⟨s, by omega, a2⟩, a3, a4⟩
  · intro k hk
    obtain ⟨⟨s, hs, a1⟩, a2⟩ := hC k hk
    exact ⟨⟨s, by omega, a1⟩, a2⟩
theorem Iv.offset {τ : Tau} {nw ns nl nc : Nat} (hI : Iv τ nw ns nl nc) {d : Nat} {b : Int32} (hb : -11 ≤ b ∧ b ≤ 12) : Iv (ti τ 2 d b) nw ns nl nc := by
  obtain ⟨⟨w1, w2⟩, ⟨s1, s2, s3⟩, ⟨l1, l2⟩, ⟨c1, c2⟩, ⟨t1, t2⟩, ho, hf, h4, h4n, hF, hC, hZ, hE⟩ := id hI
  refine ⟨⟨w1, w2⟩, ⟨s1, s2, s3⟩, ⟨l1, l2⟩, ⟨c1, c2⟩, ⟨t1, t2⟩, ?_, hf, h4, h4n, hF, hC, hZ, hE⟩
  intro j hj
  show -11 ≤ upd (τ 2) d b j ∧ upd (τ 2) d b j ≤ 12
  by_cases h9 : j = d
  · rw [h9, upd_at]; exact hb
  · rw [upd_ne _ _ h9]; exact ho j hj
theorem Iv.feast {τ : Tau} {nw ns nl nc : Nat} (hI : Iv τ nw ns nl nc) {d : Nat} {q : Prop} [Decidable q] : Iv (ti τ 3 d (bI q)) nw ns nl nc := by
  obtain ⟨⟨w1, w2⟩, ⟨s1, s2, s3⟩, ⟨l1, l2⟩, ⟨c1, c2⟩, ⟨t1, t2⟩, ho, hf, h4, h4n, hF, hC, hZ, hE⟩ := id hI
  refine ⟨⟨w1, w2⟩, ⟨s1, s2, s3⟩, ⟨l1, l2⟩, ⟨c1, c2⟩, ⟨t1, t2⟩, ho, ?_, h4, h4n, hF, hC, hZ, hE⟩
  intro j hj
  show upd (τ 3) d (bI q) j = 0 ∨ upd (τ 3) d (bI q) j = 1
  by_cases h9 : j = d
  · rw [h9, upd_at]; unfold bI; split
    · exact Or.inr rfl
    · exact Or.inl rfl
  · rw [upd_ne _ _ h9]; exact hf j hj
theorem Iv.lays {τ : Tau} {nw ns nl nc : Nat} (hI : Iv τ nw ns nl nc) {how a b : Int32} {i d r : Nat} (hw3 : how = 0 ∨ how = 1 ∨ how = 2) (hi : i < ns) (hd : d < 4) (hr1 : 1 ≤ r) (hr3 : r ≤ 3) (h20 : ¬ τ 0 2 = 20) : Iv (nx_lays τ how (nI i) (nI d) a b (nI r)) nw ns (nl + 1) nc := by
  obtain ⟨⟨w1, w2⟩, ⟨s1, s2, s3⟩, ⟨l1, l2⟩, ⟨c1, c2⟩, ⟨t1, t2⟩, ho, hf, h4, h4n, hF, hC, hZ, hE⟩ := id hI
  have hcn : cx (τ 0 2) = nl := by rw [l1]; exact cx_nI (by omega)
  have h1 := nI_up (N := 20) l1 l2 (by omega) h20
  unfold nx_lays
  rw [hcn]
  refine ⟨⟨w1, w2⟩, ⟨s1, s2, s3⟩, ⟨nI_suc l1, h1⟩, ⟨c1, c2⟩, ⟨t1, t2⟩, ho, hf, h4, fun k hk => h4n k (by omega), ?_, ?_, hZ, hE⟩
  · intro k hk
    show (upd (τ 5) nl how k = 0 ∨ upd (τ 5) nl how k = 1 ∨ upd (τ 5) nl how k = 2) ∧ (∃ s, s < ns ∧ upd (τ 6) nl (nI i) k = nI s) ∧ (∃ d9, d9 < 4 ∧ upd (τ 7) nl (nI d) k = nI d9) ∧ (∃ r9, 1 ≤ r9 ∧ r9 ≤ 3 ∧ upd (τ 10) nl (nI r) k = nI r9)
    by_cases h9 : k = nl
    · subst h9
      rw [upd_at, upd_at, upd_at, upd_at]
      exact ⟨hw3, ⟨i, hi, rfl⟩, ⟨d, hd, rfl⟩, ⟨r, hr1, hr3, rfl⟩⟩
    · rw [upd_ne _ _ h9, upd_ne _ _ h9, upd_ne _ _ h9, upd_ne _ _ h9]
      exact hF k (by omega)
  · intro k hk
    obtain ⟨a1, a2, a3, a4, a5⟩ := hC k hk
    refine ⟨a1, a2, a3, a4, ?_⟩
    rcases a5 with h | ⟨q, hq, h⟩
    · exact Or.inl h
    · exact Or.inr ⟨q, by omega, h⟩
theorem Iv.lift {τ : Tau} {nw ns nl nc : Nat} (hI : Iv τ nw ns nl nc) {k : Nat} (hk : k < nl) : Iv (ti τ 4 k 1) nw ns nl nc := by
  obtain ⟨⟨w1, w2⟩, ⟨s1, s2, s3⟩, ⟨l1, l2⟩, ⟨c1, c2⟩, ⟨t1, t2⟩, ho, hf, h4, h4n, hF, hC, hZ, hE⟩ := id hI
  refine ⟨⟨w1, w2⟩, ⟨s1, s2, s3⟩, ⟨l1, l2⟩, ⟨c1, c2⟩, ⟨t1, t2⟩, ho, hf, ?_, ?_, hF, hC, hZ, hE⟩
  · intro j hj
    show upd (τ 4) k 1 j = 0 ∨ upd (τ 4) k 1 j = 1
    by_cases h9 : j = k
    · rw [h9, upd_at]; exact Or.inr rfl
    · rw [upd_ne _ _ h9]; exact h4 j hj
  · intro j hj1 hj2
    show upd (τ 4) k 1 j = 0
    rw [upd_ne _ _ (by omega)]; exact h4n j hj1 hj2
theorem Iv.plan {τ : Tau} {nw ns nl nc : Nat} (hI : Iv τ nw ns nl nc) {i b n : Nat} {r : Int32} (hi : i < ns) (hn1 : 1 ≤ n) (hn : n ≤ 100) (hbn : b + n ≤ 672) (hr : 1 ≤ r ∧ r ≤ 3) (h30 : ¬ τ 0 3 = 30) : Iv (nx_plan τ (nI i) (nI b) (nI n) r) nw ns nl (nc + 1) := by
  obtain ⟨⟨w1, w2⟩, ⟨s1, s2, s3⟩, ⟨l1, l2⟩, ⟨c1, c2⟩, ⟨t1, t2⟩, ho, hf, h4, h4n, hF, hC, hZ, hE⟩ := id hI
  have hcn : cx (τ 0 3) = nc := by rw [c1]; exact cx_nI (by omega)
  have h1 := nI_up (N := 30) c1 c2 (by omega) h30
  unfold nx_plan
  rw [hcn]
  refine ⟨⟨w1, w2⟩, ⟨s1, s2, s3⟩, ⟨l1, l2⟩, ⟨nI_suc c1, h1⟩, ⟨t1, t2⟩, ho, hf, h4, h4n, hF, ?_, fun k hk => hZ k (by omega), hE⟩
  intro k hk
  show (∃ s, s < ns ∧ upd (τ 11) nc (nI i) k = nI s) ∧ (∃ b9 n9, upd (τ 12) nc (nI b) k = nI b9 ∧ upd (τ 13) nc (nI n) k = nI n9 ∧ 1 ≤ n9 ∧ n9 ≤ 100 ∧ b9 + n9 ≤ 672) ∧ (1 ≤ upd (τ 14) nc r k ∧ upd (τ 14) nc r k ≤ 3) ∧ (0 ≤ τ 15 k ∧ τ 15 k ≤ upd (τ 14) nc r k) ∧ (upd (τ 17) nc (-1) k = -1 ∨ ∃ q, q ≤ nl ∧ upd (τ 17) nc (-1) k = nI q)
  by_cases h9 : k = nc
  · subst h9
    rw [upd_at, upd_at, upd_at, upd_at, upd_at, (hZ k (Nat.le_refl _) (by omega)).1]
    exact ⟨⟨i, hi, rfl⟩, ⟨b, n, rfl, rfl, hn1, hn, hbn⟩, hr, ⟨by decide, by lia⟩, Or.inl rfl⟩
  · rw [upd_ne _ _ h9, upd_ne _ _ h9, upd_ne _ _ h9, upd_ne _ _ h9, upd_ne _ _ h9]
    exact hC k (by omega)
theorem Iv.chg {τ : Tau} {nw ns nl nc : Nat} (hI : Iv τ nw ns nl nc) {τ2 : Tau} {k : Nat} (hk : k < nc) (hτ : ∀ i, i < 11 → τ2 i = τ i) (hτ2 : ∀ i, i < 18 → ∀ j, j ≠ k → τ2 i j = τ i j) (h18 : ∀ r, r < 4 → 0 ≤ τ2 18 r ∧ τ2 18 r ≤ 50) (hck : ChOk τ2 ns nl k) : Iv τ2 nw ns nl nc := by
  obtain ⟨⟨w1, w2⟩, ⟨s1, s2, s3⟩, ⟨l1, l2⟩, ⟨c1, c2⟩, ⟨t1, t2⟩, ho, hf, h4, h4n, hF, hC, hZ, hE⟩ := id hI
  unfold Iv
  simp only [hτ 0 (by omega), hτ 1 (by omega), hτ 2 (by omega), hτ 3 (by omega), hτ 4 (by omega)]
  refine ⟨⟨w1, w2⟩, ⟨s1, s2, s3⟩, ⟨l1, l2⟩, ⟨c1, c2⟩, ⟨t1, t2⟩, ho, hf, h4, h4n, ?_, ?_, ?_, h18⟩
  · intro j hj
    have := hF j hj
    unfold FrOk at this ⊢
    simp only [hτ 5 (by omega), hτ 6 (by omega), hτ 7 (by omega), hτ 10 (by omega)]
    exact this
  · intro j hj
    by_cases h9 : j = k
    · rw [h9]; exact hck
    · have := hC j hj
      unfold ChOk at this ⊢
      simp only [hτ2 11 (by omega) j h9, hτ2 12 (by omega) j h9, hτ2 13 (by omega) j h9, hτ2 14 (by omega) j h9, hτ2 15 (by omega) j h9, hτ2 17 (by omega) j h9]
      exact this
  · intro j h1 h2
    rw [hτ2 15 (by omega) j (by omega), hτ2 16 (by omega) j (by omega)]
    exact hZ j h1 h2
theorem Iv.exc {τ : Tau} {nw ns nl nc : Nat} (hI : Iv τ nw ns nl nc) {r : Nat} {n : Int32} (hn : 0 ≤ n ∧ n ≤ 50) : Iv (ti τ 18 r n) nw ns nl nc := by
  obtain ⟨⟨w1, w2⟩, ⟨s1, s2, s3⟩, ⟨l1, l2⟩, ⟨c1, c2⟩, ⟨t1, t2⟩, ho, hf, h4, h4n, hF, hC, hZ, hE⟩ := id hI
  refine ⟨⟨w1, w2⟩, ⟨s1, s2, s3⟩, ⟨l1, l2⟩, ⟨c1, c2⟩, ⟨t1, t2⟩, ho, hf, h4, h4n, hF, hC, hZ, ?_⟩
  intro j hj
  show 0 ≤ upd (τ 18) r n j ∧ upd (τ 18) r n j ≤ 50
  by_cases h9 : j = r
  · rw [h9, upd_at]; exact hn
  · rw [upd_ne _ _ h9]; exact hE j hj
end
section
section XA
variable {p : Program} {l : Launch} {e : Env} {R : Room} {s : State} {m : MethodId} {args : Array Value} {below : List Frame} {meth : Method} {c : Code} {H : Heap} {locs : List Loc} {cells slots : Nat} {Q : State → Prop}
variable {cc : ByteArray} {nL : Nat} {D : va_G} {ids : Nat → ClassId} {n0 : Nat} {RR : List Nat} {ad : Nat → Nat} {cn : Nat → va_E} {pc : Nat} {ls : Array Slot} {rest : List Value}
theorem xo_aastN (MC : ro_C p s m args meth c cc nL "FrostCalendar" D ids n0) (HP : ro_P D n0 RR ad cn H) (HS : va_S (fun q => n0 ≤ q) s.heap H locs) (t0 : Nat) {C : String} {r : Nat} (hr : r ∈ RR) {n : Nat} {f : Nat → Option Nat} (hf : cn r = .inl (ids t0, n, .inr (.inr (.inr (.inr f))))) (ht : (uTy ids)[t0]? = some (ids t0, .object C)) (k : Nat) (hk : k < n) (hn : n ≤ 100) {i : Int32} (hi : i = nI k) (hdg : decode cc pc = .ok (.aastore, 1))
    (kk : ∀ (H1 : Heap) (locs1 : List Loc), ro_P D n0 RR ad (va_up cn r (.inl (ids t0, n, .inr (.inr (.inr (.inr (va_up f k none))))))) H1 → va_S (fun q => n0 ≤ q) s.heap H1 locs1 → W p l e R s m args below meth c H1 locs1 cells slots Q (F0 m (pc + 1) ls rest)) : W p l e R s m args below meth c H locs cells slots Q (F0 m pc ls (.null :: .int i :: .ref (ad r) :: rest)) := by
  subst hi
  refine ro_aastN MC HP HS t0 hr hf ht (vp_in_nI hk (by omega)) hdg fun H1 locs1 h1 h2 => ?_
  rw [nI_clamp (by omega)] at h1; exact kk H1 locs1 h1 h2
theorem xo_aastM (MC : ro_C p s m args meth c cc nL "FrostCalendar" D ids n0) (HP : ro_P D n0 RR ad cn H) (HS : va_S (fun q => n0 ≤ q) s.heap H locs) (t0 : Nat) {C : String} {r : Nat} (hr : r ∈ RR) {n v : Nat} {f : Nat → Option Nat} (hf : cn r = .inl (ids t0, n, .inr (.inr (.inr (.inr f))))) (ht : (uTy ids)[t0]? = some (ids t0, .object C)) (hv : va_Any C s H v) (k : Nat) (hk : k < n) (hn : n ≤ 100) {i : Int32} (hi : i = nI k) (hdg : decode cc pc = .ok (.aastore, 1))
    (kk : ∀ (H1 : Heap) (locs1 : List Loc), ro_P D n0 RR ad (va_up cn r (.inl (ids t0, n, .inr (.inr (.inr (.inr (va_up f k (some v)))))))) H1 → va_S (fun q => n0 ≤ q) s.heap H1 locs1 → W p l e R s m args below meth c H1 locs1 cells slots Q (F0 m (pc + 1) ls rest)) : W p l e R s m args below meth c H locs cells slots Q (F0 m pc ls (.ref v :: .int i :: .ref (ad r) :: rest)) := by
  subst hi
  refine ro_aastM MC HP HS t0 hr hf ht hv (vp_in_nI hk (by omega)) hdg fun H1 locs1 h1 h2 => ?_
  rw [nI_clamp (by omega)] at h1; exact kk H1 locs1 h1 h2
theorem xo_aast (MC : ro_C p s m args meth c cc nL "FrostCalendar" D ids n0) (HP : ro_P D n0 RR ad cn H) (HS : va_S (fun q => n0 ≤ q) s.heap H locs) (t0 : Nat) {q : vw_C} {r rv ci : Nat} {vs : List Value} (hr : r ∈ RR) {n : Nat} {f : Nat → Option Nat} (hf : cn r = .inl (ids t0, n, .inr (.inr (.inr (.inr f))))) (ht : (uTy ids)[t0]? = some (ids t0, .object q.1)) (hrv : rv ∈ RR) (hfv : cn rv = .inr (ci, vs)) (hc : vwCl[ci]? = some q) (k : Nat) (hk : k < n) (hn : n ≤ 100) {i : Int32} (hi : i = nI k) (hdg : decode cc pc = .ok (.aastore, 1))
    (kk : ∀ (H1 : Heap) (locs1 : List Loc), ro_P D n0 RR ad (va_up cn r (.inl (ids t0, n, .inr (.inr (.inr (.inr (va_up f k (some (ad rv))))))))) H1 → va_S (fun q => n0 ≤ q) s.heap H1 locs1 → W p l e R s m args below meth c H1 locs1 cells slots Q (F0 m (pc + 1) ls rest)) : W p l e R s m args below meth c H locs cells slots Q (F0 m pc ls (.ref (ad rv) :: .int i :: .ref (ad r) :: rest)) := by
  subst hi
  refine ro_aast MC HP HS t0 hr hf ht hrv hfv hc (vp_in_nI hk (by omega)) hdg fun H1 locs1 h1 h2 => ?_
  rw [nI_clamp (by omega)] at h1; exact kk H1 locs1 h1 h2
end XA
theorem lt_of {x : Int32} {n N : Nat} (hx : x = nI n) (hN : N < 2 ^ 31) (hn : n < 2 ^ 31) (h : ¬ nI N ≤ x) : n < N := by
  rcases Nat.lt_or_ge n N with h9 | h9
  · exact h9
  · exact absurd (by rw [hx]; exact nI_le h9 hn) h
theorem chF_of {τ2 : Tau} {k : Nat} {a b c d e f g h : Int32} (h11 : τ2 11 k = a) (h13 : τ2 13 k = b) (h14 : τ2 14 k = c) (h12 : τ2 12 k = d) (h15 : τ2 15 k = e) (h16 : τ2 16 k = f) (h17 : bI (¬ τ2 17 k = -1) = g) (hfl : flb τ2 k = h) : (Sum.inr (0, [.int a, .int b, .int c, .int d, .int e, .int f, .int g, .int h]) : va_E) = .inr (0, chF τ2 k) := by
  subst h11 h13 h14 h12 h15 h16 h17 hfl
  rfl
theorem fst1_none {p : Nat → Bool} : ∀ {n i : Nat}, fst1 p n i = none ↔ ∀ j, j < n → p (i + j) = false
  | 0, i => by simp [fst1]
  | n + 1, i => by
    rw [fst1]
    by_cases h : p i = true
    · rw [if_pos h]
      simp only [reduceCtorEq, false_iff]
      intro h9
      have := h9 0 (by omega)
      rw [Nat.add_zero, h] at this
      cases this
    · rw [if_neg h, fst1_none]
      constructor
      · intro h9 j hj
        rcases Nat.eq_zero_or_pos j with h0 | h0
        · subst h0; simpa using h
        · have := h9 (j - 1) (by omega)
          rwa [show i + 1 + (j - 1) = i + j by omega] at this
      · intro h9 j hj
        have := h9 (j + 1) (by omega)
        rwa [show i + (j + 1) = i + 1 + j by omega] at this
theorem ct_z {p : Nat → Bool} : ∀ {n : Nat}, ct p n = 0 ↔ ∀ j, j < n → p j = false
  | 0 => by simp [ct]
  | n + 1 => by
    rw [ct]
    constructor
    · intro h j hj
      by_cases hp : p n = true
      · rw [if_pos hp] at h; omega
      · rcases Nat.lt_or_ge j n with h1 | h1
        · exact ct_z.mp (by omega) j h1
        · rw [show j = n by omega]; simpa using hp
    · intro h
      rw [ct_z.mpr fun j hj => h j (by omega), if_neg (by rw [h n (by omega)]; decide)]
theorem fb_bad {τ : Tau} {k b9 n9 : Nat} (hb9 : τ 12 k = nI b9) (hbn : b9 + n9 ≤ 672) (hcl : cx (τ 13 k) = n9) : fbv (τ 12 k) (fst1 (badB τ k) (cx (τ 13 k)) 0) = -1 ↔ badN τ k = 0 := by
  unfold badN
  rw [hcl, ct_z]
  cases hf : fst1 (badB τ k) n9 0 with
  | none =>
    have := fst1_none.mp hf
    simp only [Nat.zero_add] at this
    exact ⟨fun _ => this, fun _ => rfl⟩
  | some j =>
    have hj := fst1_lt n9 0 j hf
    have h1 : ¬ fbv (τ 12 k) (some j) = -1 := by show ¬ τ 12 k + nI j = -1; rw [hr_add hb9]; exact nI_m1 (by omega)
    constructor
    · intro h; exact absurd h h1
    · intro h
      have := fst1_none.mpr (fun j hj => by rw [Nat.zero_add]; exact h j hj : ∀ j, j < n9 → badB τ k (0 + j) = false)
      rw [this] at hf; cases hf
theorem ct_lift {f : Nat → Int32} {n k : Nat} (hk : k < n) (h0 : f k = 0) : ct (fun j => f j == 0) n = ct (fun j => upd f k 1 j == 0) n + 1 := by
  induction n with
  | zero => omega
  | succ n ih =>
    rw [ct, ct]
    by_cases h : k = n
    · subst h
      have e : ct (fun j => upd f k 1 j == 0) k = ct (fun j => f j == 0) k := ct_ext fun j hj => by rw [pk_un (by omega)]
      rw [e]
      simp [h0, pk_us]
    · rw [ih (by omega), show (upd f k 1 n == 0) = (f n == 0) by rw [pk_un (fun e => h e.symm)]]
      omega
theorem st_lift {τ : Tau} {nl k : Nat} (hcs : cx (τ 0 2) = nl) (hnl : nl ≤ 20) (hk : k < nl) (h0 : τ 4 k = 0) : nI (cntS τ) - 1 = nI (cntS (ti τ 4 k 1)) := by
  have e : cntS τ = cntS (ti τ 4 k 1) + 1 := by
    show ct (fun j => τ 4 j == 0) (cx (τ 0 2)) = ct (fun j => upd (τ 4) k 1 j == 0) (cx (τ 0 2)) + 1
    rw [hcs]; exact ct_lift hk h0
  rw [e, ← nI_1]; lia
theorem bel_same {p p2 : Nat → Int32} {ns : Nat} (hns : ns ≤ 16) (h0 : p 0 = -1) (ht : ∀ k, 1 ≤ k → k < ns → ∃ j, j < k ∧ p k = nI j) (he : ∀ j, j < ns → p2 j = p j) (b : Nat) : ∀ n k, k < ns → bel p2 n k b = bel p n k b := by
  intro n
  induction n with
  | zero => intro k hk; rfl
  | succ n ih =>
    intro k hk
    rw [bel, bel, he k hk]
    rcases Nat.eq_zero_or_pos k with h | h
    · subst h; simp [h0]
    · obtain ⟨j, hj, e⟩ := ht k h hk
      rw [e, cx_nI (by omega), ih j (by omega)]
theorem bel_fuel {p : Nat → Int32} {ns : Nat} (hns : ns ≤ 16) (h0 : p 0 = -1) (ht : ∀ k, 1 ≤ k → k < ns → ∃ j, j < k ∧ p k = nI j) (b : Nat) : ∀ n k, k < n → k < ns → bel p n k b = bel p (n + 1) k b := by
  intro n
  induction n with
  | zero => intro k hk; omega
  | succ n ih =>
    intro k hk hks
    rw [bel, bel]
    rcases Nat.eq_zero_or_pos k with h | h
    · subst h; simp [h0]
    · obtain ⟨j, hj, e⟩ := ht k h hks
      rw [e, cx_nI (by omega), ih j (by omega) (by omega)]
theorem sc_bit {τ : Tau} {nw ns nl nc i : Nat} (hI : Iv τ nw ns nl nc) {sa : Nat → Int32} (h1b : ∀ k, k < ns → ∀ b, b < 16 → bit (sa k) b = bel (τ 1) 16 k b) (hi : i < ns) (h16 : ns < 16) : ∀ k, k < ns + 1 → ∀ b, b < 16 → bit (upd sa ns (sa i ||| 1 <<< (nI ns &&& 31)) k) b = bel (upd (τ 1) ns (nI i)) 16 k b := by
  obtain ⟨h0, ht⟩ := hI.2.2.2.2.1
  have hs : ∀ b n k, k < ns → bel (upd (τ 1) ns (nI i)) n k b = bel (τ 1) n k b := fun b => bel_same (by omega) h0 ht (fun j hj => pk_un (by omega)) b
  intro k hk b hb
  by_cases h : k = ns
  · subst h
    rw [pk_us, bit_or _ _ (by omega), bit_one k (by omega) b (by omega), bel, pk_us, cx_nI (by omega), hs b 15 i hi, bel_fuel (by omega) h0 ht b 15 i (by omega) hi, ← h1b i hi b hb, show (nI i == -1) = false from beq_eq_false_iff_ne.mpr (nI_m1 (by omega))]
    by_cases hbk : b = k
    · subst hbk; simp
    · simp [hbk, Ne.symm hbk]
  · rw [pk_un h, hs b 16 k (by omega)]
    exact h1b k (by omega) b hb
end
section
theorem aq_pass_0 {τ : Tau} {h9 : Int32} (hwb : 0 ≤ τ 0 0 ∧ τ 0 0 ≤ 671) (hn9 : ¬ (1 ≤ h9 ∧ h9 ≤ 100)) : th_pass τ h9 = 1 := by
  unfold th_pass; grind
theorem aq_pass_1 {τ : Tau} {h9 : Int32} (hwb : 0 ≤ τ 0 0 ∧ τ 0 0 ≤ 671) (hf_1 : 1 ≤ h9 ∧ h9 ≤ 100) (c_16 : (τ 0 0 + h9) < 672) : th_pass τ h9 = 0 := by
  unfold th_pass; grind
theorem aq_pass_2 {τ : Tau} {h9 : Int32} (hwb : 0 ≤ τ 0 0 ∧ τ 0 0 ≤ 671) (hf_1 : 1 ≤ h9 ∧ h9 ≤ 100) (c_16 : ¬ ((τ 0 0 + h9) < 672)) : th_pass τ h9 = 2 := by
  unfold th_pass; grind
theorem aq_exceptions_0 {τ : Tau} {r9 n9 : Int32} (hn9 : ¬ (1 ≤ r9 ∧ r9 ≤ 3)) : th_exceptions τ r9 n9 = 1 := by
  unfold th_exceptions; grind
theorem aq_exceptions_1 {τ : Tau} {r9 n9 : Int32} (hf_2 : 1 ≤ r9 ∧ r9 ≤ 3) (hn9 : ¬ (0 ≤ n9 ∧ n9 ≤ 50)) : th_exceptions τ r9 n9 = 1 := by
  unfold th_exceptions; grind
theorem aq_exceptions_2 {τ : Tau} {r9 n9 : Int32} (hf_2 : 1 ≤ r9 ∧ r9 ≤ 3) (hf_3 : 0 ≤ n9 ∧ n9 ≤ 50) : th_exceptions τ r9 n9 = 0 := by
  unfold th_exceptions; grind
theorem aq_approve_0 {τ : Tau} {c9 : Int32} (hn9 : ¬ (0 ≤ c9 ∧ c9 ≤ τ 0 3 - 1)) : th_approve τ c9 = 1 := by
  unfold th_approve; grind
theorem aq_approve_1 {τ : Tau} {c9 : Int32} {k : Nat} (hf_4 : 0 ≤ c9 ∧ c9 ≤ τ 0 3 - 1) (hkc : cx c9 = k) (hle15 : τ 15 k ≤ τ 14 k) (hn9 : ¬ (τ 17 k = -1)) : th_approve τ c9 = 2 := by
  unfold th_approve; grind
theorem aq_approve_2 {τ : Tau} {c9 : Int32} {k : Nat} (hf_4 : 0 ≤ c9 ∧ c9 ≤ τ 0 3 - 1) (hkc : cx c9 = k) (hle15 : τ 15 k ≤ τ 14 k) (hf_5 : τ 17 k = -1) (c_18 : τ 15 k < τ 14 k) : th_approve τ c9 = 0 := by
  unfold th_approve; grind
theorem aq_apI_0 {τ : Tau} {k : Nat} (a3 : 1 ≤ τ 14 k ∧ τ 14 k ≤ 3) (a4 : 0 ≤ τ 15 k ∧ τ 15 k ≤ τ 14 k) (c_18 : τ 15 k < τ 14 k) : 0 ≤ τ 15 k + 1 ∧ τ 15 k + 1 ≤ τ 14 k := by
  grind
theorem aq_approve_3 {τ : Tau} {c9 : Int32} {k : Nat} (hf_4 : 0 ≤ c9 ∧ c9 ≤ τ 0 3 - 1) (hkc : cx c9 = k) (hle15 : τ 15 k ≤ τ 14 k) (hf_5 : τ 17 k = -1) (c_18 : ¬ (τ 15 k < τ 14 k)) : th_approve τ c9 = 2 := by
  unfold th_approve; grind
theorem aq_begin_0 {τ : Tau} {c9 : Int32} (hn9 : ¬ (0 ≤ c9 ∧ c9 ≤ τ 0 3 - 1)) : th_begin τ c9 = 1 := by
  unfold th_begin; grind
theorem aq_begin_1 {τ : Tau} {c9 : Int32} {k : Nat} (hf_6 : 0 ≤ c9 ∧ c9 ≤ τ 0 3 - 1) (hkc : cx c9 = k) (hle15 : τ 15 k ≤ τ 14 k) (hn9 : ¬ (τ 17 k = -1)) : th_begin τ c9 = 2 := by
  unfold th_begin; grind
theorem aq_begin_2 {τ : Tau} {c9 : Int32} {k : Nat} (hf_6 : 0 ≤ c9 ∧ c9 ≤ τ 0 3 - 1) (hkc : cx c9 = k) (hle15 : τ 15 k ≤ τ 14 k) (hf_7 : τ 17 k = -1) (c_18 : τ 12 k = τ 0 0) (c_39 : τ 14 k ≤ τ 15 k) (c_58 : fbv (τ 12 k) (fst1 (badB τ k) (cx (τ 13 k)) 0) = (-1)) (hbz : badN τ k = 0) : th_begin τ c9 = 0 := by
  unfold th_begin; grind
theorem aq_begin_3 {τ : Tau} {c9 : Int32} {k : Nat} (hf_6 : 0 ≤ c9 ∧ c9 ≤ τ 0 3 - 1) (hkc : cx c9 = k) (hle15 : τ 15 k ≤ τ 14 k) (hf_7 : τ 17 k = -1) (c_18 : τ 12 k = τ 0 0) (c_39 : τ 14 k ≤ τ 15 k) (c_58 : ¬ (fbv (τ 12 k) (fst1 (badB τ k) (cx (τ 13 k)) 0) = (-1))) (hbz : ¬ badN τ k = 0) : th_begin τ c9 = 2 := by
  unfold th_begin; grind
theorem aq_begin_4 {τ : Tau} {c9 : Int32} {k : Nat} (hf_6 : 0 ≤ c9 ∧ c9 ≤ τ 0 3 - 1) (hkc : cx c9 = k) (hle15 : τ 15 k ≤ τ 14 k) (hf_7 : τ 17 k = -1) (c_18 : τ 12 k = τ 0 0) (c_39 : ¬ (τ 14 k ≤ τ 15 k)) : th_begin τ c9 = 2 := by
  unfold th_begin; grind
theorem aq_begin_5 {τ : Tau} {c9 : Int32} {k : Nat} (hf_6 : 0 ≤ c9 ∧ c9 ≤ τ 0 3 - 1) (hkc : cx c9 = k) (hle15 : τ 15 k ≤ τ 14 k) (hf_7 : τ 17 k = -1) (c_18 : ¬ (τ 12 k = τ 0 0)) : th_begin τ c9 = 2 := by
  unfold th_begin; grind
theorem aq_move_0 {τ : Tau} {c9 f9 : Int32} (hn9 : ¬ (0 ≤ c9 ∧ c9 ≤ τ 0 3 - 1)) : th_move τ c9 f9 = 1 := by
  unfold th_move; grind
theorem aq_move_1 {τ : Tau} {c9 f9 : Int32} {k : Nat} (hf_8 : 0 ≤ c9 ∧ c9 ≤ τ 0 3 - 1) (hkc : cx c9 = k) (hle15 : τ 15 k ≤ τ 14 k) (hn9 : ¬ (τ 0 0 ≤ f9 ∧ f9 < 672 ∧ f9 + τ 13 k ≤ 672)) : th_move τ c9 f9 = 2 := by
  unfold th_move; grind
theorem aq_move_2 {τ : Tau} {c9 f9 : Int32} {k : Nat} (hf_8 : 0 ≤ c9 ∧ c9 ≤ τ 0 3 - 1) (hkc : cx c9 = k) (hle15 : τ 15 k ≤ τ 14 k) (hf_9 : τ 0 0 ≤ f9 ∧ f9 < 672 ∧ f9 + τ 13 k ≤ 672) (hn9 : ¬ (τ 17 k = -1)) : th_move τ c9 f9 = 3 := by
  unfold th_move; grind
theorem aq_mvF_0 {τ : Tau} {k nw n9 : Nat} {f9 : Int32} (hw : τ 0 0 = nI nw ∧ nw ≤ 671) (hn9 : τ 13 k = nI n9) (h1n : 1 ≤ n9) (hn1 : n9 ≤ 100) (hf_9 : τ 0 0 ≤ f9 ∧ f9 < 672 ∧ f9 + τ 13 k ≤ 672) : ∃ b, f9 = nI b ∧ b + n9 ≤ 672 := by
  have hb := nI_b hw.2 (show 671 < 2 ^ 31 by omega)
  have hc := nI_b hn1 (show 100 < 2 ^ 31 by omega)
  have h9 : nI 671 = 671 := rfl
  have h8 : nI 100 = 100 := rfl
  rw [h9, ← hw.1] at hb
  rw [h8, ← hn9] at hc
  obtain ⟨b, hb1, e⟩ := nI_ex (x := f9) (n := 673) (by lia) (by show f9 < 673; lia) (by omega)
  refine ⟨b, e, ?_⟩
  rcases Nat.lt_or_ge 672 (b + n9) with h7 | h7
  · exfalso
    have h6 : f9 + τ 13 k = nI (b + n9) := by rw [e, hn9, nI_add]
    have h5 : nI 673 ≤ nI (b + n9) := nI_le h7 (by omega)
    rw [← h6] at h5
    have h4 : nI 673 = 673 := rfl
    rw [h4] at h5
    lia
  · exact h7
theorem aq_move_3 {τ : Tau} {c9 f9 : Int32} {k : Nat} (hf_8 : 0 ≤ c9 ∧ c9 ≤ τ 0 3 - 1) (hkc : cx c9 = k) (hle15 : τ 15 k ≤ τ 14 k) (hf_9 : τ 0 0 ≤ f9 ∧ f9 < 672 ∧ f9 + τ 13 k ≤ 672) (hf_10 : τ 17 k = -1) : th_move τ c9 f9 = 0 := by
  unfold th_move; grind
theorem aq_offset_0 {τ : Tau} {a9 b9 : Int32} (hn9 : ¬ (0 ≤ a9 ∧ a9 ≤ 3)) : th_offset τ a9 b9 = 1 := by
  unfold th_offset; grind
theorem aq_offset_1 {τ : Tau} {a9 b9 : Int32} (hf_11 : 0 ≤ a9 ∧ a9 ≤ 3) (hn9 : ¬ ((-11) ≤ b9 ∧ b9 ≤ 12)) : th_offset τ a9 b9 = 2 := by
  unfold th_offset; grind
theorem aq_offset_2 {τ : Tau} {a9 b9 : Int32} (hf_11 : 0 ≤ a9 ∧ a9 ≤ 3) (hf_12 : (-11) ≤ b9 ∧ b9 ≤ 12) : th_offset τ a9 b9 = 0 := by
  unfold th_offset; grind
theorem aq_scope_0 {τ : Tau} {a9 : Int32} (hsb : 1 ≤ τ 0 1 ∧ τ 0 1 ≤ 16) (hn9 : ¬ (0 ≤ a9 ∧ a9 ≤ τ 0 1 - 1)) : th_scope τ a9 = 1 := by
  unfold th_scope; grind
theorem aq_scope_1 {τ : Tau} {a9 : Int32} (hsb : 1 ≤ τ 0 1 ∧ τ 0 1 ≤ 16) (hf_13 : 0 ≤ a9 ∧ a9 ≤ τ 0 1 - 1) (c_11 : τ 0 1 < 16) : th_scope τ a9 = 0 := by
  unfold th_scope; grind
theorem aq_scope_2 {τ : Tau} {a9 : Int32} (hsb : 1 ≤ τ 0 1 ∧ τ 0 1 ≤ 16) (hf_13 : 0 ≤ a9 ∧ a9 ≤ τ 0 1 - 1) (c_11 : ¬ (τ 0 1 < 16)) : th_scope τ a9 = 2 := by
  unfold th_scope; grind
set_option maxHeartbeats 4000000 in
set_option maxRecDepth 100000 in
theorem q_pass {l : Launch} (hl9 : l.stackTraces = false) {D : va_G} {ids : Nat → ClassId} {n0 : Nat} {RR : List Nat} {ad : Nat → Nat} {cn : Nat → va_E} {τ : Tau} {ns nl nc : Nat} {Hh : Heap} (hX : xH D ids n0 RR ad cn τ ns nl nc Hh) {nw : Nat} (hI : Iv τ nw ns nl nc) {h9 : Int32} : ro_T l yX6_pass cX6_pass 2 (some FieldType.int) { frames := 8, cells := 8, slots := 48, locals := 240 } D ids n0 [.ref (ad 0), .int h9] Hh (fun v H1 => th_pass τ h9 = 0 ∧ v = some (.int (rt_pass τ h9)) ∧ aft D ids n0 ad cn (nx_pass τ h9) H1) (fun E9 H1 => grow Hh H1 ∧ ((th_pass τ h9 = 1 ∧ E9 = "java/lang/IllegalArgumentException") ∨ (th_pass τ h9 = 2 ∧ E9 = "java/lang/IllegalStateException"))) := by
  refine ro_ofT (by decide +kernel) (Nat.le_of_ble_eq_true rfl) ?_
  intro p e s m below meth c MC hhp hr hno HS ls hl
  have hx := MC.1.1
  have hb := MC.1.2.1
  have hl : lv_has ls 2 [(0, .ref (ad 0)), (1, .int h9)] := hl
  obtain ⟨HP, hRR, sa, bm, fm, lf, ff, cf, h0, h1, h1b, h2, h2b, h7, h7b, h3, h3b, h40, h4, h4b, h60, h5, h6⟩ := id hX
  have hwb := hI.wb
  have hsb := hI.sb
  have hlb := hI.lb
  have hcb := hI.cb
  have hnl := hI.2.2.1.2
  have hns := hI.2.1.2.2
  have hnc := hI.2.2.2.1.2
  have hcs : cx (τ 0 2) = nl := by rw [hI.2.2.1.1]; exact cx_nI (by omega)
  refine lv_iload_n hx hb dX6_pass_0 rfl (lv_at hl 1 rfl) ?_
  refine lv_iconst (v := 1) hx hb dX6_pass_1 (by decide) ?_
  refine lv_bipush (v := 100) hx hb dX6_pass_2 (by decide) ?_
  refine ro_callST MC HS (rest := []) (As := [.int h9, .int 1, .int 100]) (x_needRange hl9) (lkX6_58) (kw198) ⟨Nat.le_of_ble_eq_true rfl, Nat.le_of_ble_eq_true rfl⟩ hl.1 rfl (Nat.le_of_ble_eq_true rfl) dX6_pass_4 ⟨Nat.le_of_ble_eq_true rfl, Nat.le_of_ble_eq_true rfl⟩ (ro_out MC hno (Nat.le_of_ble_eq_true rfl) (Nat.le_of_ble_eq_true rfl) (fun E9 H9 hp => by obtain ⟨hg9, rfl, hn9⟩ := hp; exact ⟨hg9, Or.inl (⟨aq_pass_0 hwb hn9, rfl⟩)⟩)) (fun v9 H1 lH1 hp hz HS => ?_)
  obtain ⟨rfl, hf_1, rfl⟩ := hp
  refine lv_aload_n hx hb dX6_pass_7 rfl (lv_at hl 0 rfl) ?_
  refine ro_get MC HP (hRR.l (by decide)) h0 (rfl : vwCl[5]? = some (RX6, TX6, 11)) inU6 3 (by decide) kw64 rfl rfl dX6_pass_8 ?_
  refine lv_iload_n hx hb dX6_pass_11 rfl (lv_at hl 1 rfl) ?_
  refine lv_iadd hx hb dX6_pass_12 ?_
  refine lv_sipush (v := 672) hx hb dX6_pass_13 (by decide) ?_
  refine lv_icmp_lt (tgt := 29) hx hb dX6_pass_16 (by decide) (fun c_16 => ?_) (fun c_16 => ?_)
  · refine lv_aload_n hx hb dX6_pass_29 rfl (lv_at hl 0 rfl) ?_
    refine lv_dup hx hb dX6_pass_30 rfl ?_
    refine ro_get MC HP (hRR.l (by decide)) h0 (rfl : vwCl[5]? = some (RX6, TX6, 11)) inU6 3 (by decide) kw64 rfl rfl dX6_pass_31 ?_
    refine lv_iload_n hx hb dX6_pass_34 rfl (lv_at hl 1 rfl) ?_
    refine lv_iadd hx hb dX6_pass_35 ?_
    refine ro_put MC HP HS (hRR.l (by decide)) h0 (rfl : vwCl[5]? = some (RX6, TX6, 11)) inU6 tyX6_ok nmX6 3 (by decide) kw64 rfl rfl rfl rfl (Nat.le_of_ble_eq_true rfl) dX6_pass_36 (fun H2 lH2 HP HS => ?_)
    refine lv_aload_n hx hb dX6_pass_39 rfl (lv_at hl 0 rfl) ?_
    refine ro_get MC HP (hRR.l (by decide)) (va_up_self ..) (rfl : vwCl[5]? = some (RX6, TX6, 11)) inU6 3 (by decide) kw64 rfl rfl dX6_pass_40 ?_
    obtain ⟨nw2, hI2⟩ := hI.pass (aq_pass_1 hwb hf_1 c_16)
    exact ro_MT (ro_iretM MC HS hr (⟨aq_pass_1 hwb hf_1 c_16, rfl, RR, ad, _, nw2, ns, nl, nc, ⟨HP, hRR, _, _, _, _, _, _, isX.obj ⟨h0, h1, h1b, h2, h2b, h7, h7b, h3, h3b, h40, h4, h4b, h60, h5, h6⟩ hI (fun r hr => (va_up_ne _ _ (by omega))) (fun i hi => (va_up_ne _ _ (by omega))) (va_up_self ..)⟩, hI2, fun _ _ => rfl, fun r hr1 hr2 => (va_up_ne _ _ (by omega))⟩) (Nat.le_of_ble_eq_true rfl) (Nat.le_of_ble_eq_true rfl) dX6_pass_43)
  · exact ro_throw hl9 MC HS hno th_75 hl.1 dX6_pass_19 dX6_pass_22 dX6_pass_23 dX6_pass_25 dX6_pass_28 ⟨Nat.le_of_ble_eq_true rfl, Nat.le_of_ble_eq_true rfl, Nat.le_of_ble_eq_true rfl, Nat.le_of_ble_eq_true rfl⟩ (fun H9 hz9 hq9 => ⟨⟨hz9, hq9⟩, Or.inr (⟨aq_pass_2 hwb hf_1 c_16, rfl⟩)⟩) (Nat.le_of_ble_eq_true rfl) (Nat.le_of_ble_eq_true rfl)
set_option maxHeartbeats 4000000 in
set_option maxRecDepth 100000 in
theorem q_exceptions {l : Launch} (hl9 : l.stackTraces = false) {D : va_G} {ids : Nat → ClassId} {n0 : Nat} {RR : List Nat} {ad : Nat → Nat} {cn : Nat → va_E} {τ : Tau} {ns nl nc : Nat} {Hh : Heap} (hX : xH D ids n0 RR ad cn τ ns nl nc Hh) {nw : Nat} (hI : Iv τ nw ns nl nc) {r9 n9 : Int32} : ro_T l yX6_exceptions cX6_exceptions 4 (some FieldType.int) { frames := 8, cells := 8, slots := 48, locals := 240 } D ids n0 [.ref (ad 0), .int r9, .int n9] Hh (fun v H1 => th_exceptions τ r9 n9 = 0 ∧ v = some (.int (rt_exceptions τ r9 n9)) ∧ aft D ids n0 ad cn (nx_exceptions τ r9 n9) H1) (fun E9 H1 => grow Hh H1 ∧ ((th_exceptions τ r9 n9 = 1 ∧ E9 = "java/lang/IllegalArgumentException"))) := by
  refine ro_ofT (by decide +kernel) (Nat.le_of_ble_eq_true rfl) ?_
  intro p e s m below meth c MC hhp hr hno HS ls hl
  have hx := MC.1.1
  have hb := MC.1.2.1
  have hl : lv_has ls 4 [(0, .ref (ad 0)), (1, .int r9), (2, .int n9)] := hl
  obtain ⟨HP, hRR, sa, bm, fm, lf, ff, cf, h0, h1, h1b, h2, h2b, h7, h7b, h3, h3b, h40, h4, h4b, h60, h5, h6⟩ := id hX
  have hwb := hI.wb
  have hsb := hI.sb
  have hlb := hI.lb
  have hcb := hI.cb
  have hnl := hI.2.2.1.2
  have hns := hI.2.1.2.2
  have hnc := hI.2.2.2.1.2
  have hcs : cx (τ 0 2) = nl := by rw [hI.2.2.1.1]; exact cx_nI (by omega)
  refine lv_iload_n hx hb dX6_exceptions_0 rfl (lv_at hl 1 rfl) ?_
  refine lv_iconst (v := 1) hx hb dX6_exceptions_1 (by decide) ?_
  refine lv_iconst (v := 3) hx hb dX6_exceptions_2 (by decide) ?_
  refine ro_callST MC HS (rest := []) (As := [.int r9, .int 1, .int 3]) (x_needRange hl9) (lkX6_58) (kw198) ⟨Nat.le_of_ble_eq_true rfl, Nat.le_of_ble_eq_true rfl⟩ hl.1 rfl (Nat.le_of_ble_eq_true rfl) dX6_exceptions_3 ⟨Nat.le_of_ble_eq_true rfl, Nat.le_of_ble_eq_true rfl⟩ (ro_out MC hno (Nat.le_of_ble_eq_true rfl) (Nat.le_of_ble_eq_true rfl) (fun E9 H9 hp => by obtain ⟨hg9, rfl, hn9⟩ := hp; exact ⟨hg9, ⟨aq_exceptions_0 hn9, rfl⟩⟩)) (fun v9 H1 lH1 hp hz HS => ?_)
  obtain ⟨rfl, hf_2, rfl⟩ := hp
  obtain ⟨r8, hr1, hr4, hra, hrc⟩ := okR.ix hf_2
  refine lv_iload_n hx hb dX6_exceptions_6 rfl (lv_at hl 2 rfl) ?_
  refine lv_iconst (v := 0) hx hb dX6_exceptions_7 (by decide) ?_
  refine lv_bipush (v := 50) hx hb dX6_exceptions_8 (by decide) ?_
  refine ro_callST MC HS (rest := []) (As := [.int n9, .int 0, .int 50]) (x_needRange hl9) (lkX6_58) (kw198) ⟨Nat.le_of_ble_eq_true rfl, Nat.le_of_ble_eq_true rfl⟩ hl.1 rfl (Nat.le_of_ble_eq_true rfl) dX6_exceptions_10 ⟨Nat.le_of_ble_eq_true rfl, Nat.le_of_ble_eq_true rfl⟩ (ro_out MC hno (Nat.le_of_ble_eq_true rfl) (Nat.le_of_ble_eq_true rfl) (fun E9 H9 hp => by obtain ⟨hg9, rfl, hn9⟩ := hp; exact ⟨hg9, ⟨aq_exceptions_1 hf_2 hn9, rfl⟩⟩)) (fun v9 H2 lH2 hp hz HS => ?_)
  obtain ⟨rfl, hf_3, rfl⟩ := hp
  have hen := hf_3
  refine lv_aload_n hx hb dX6_exceptions_13 rfl (lv_at hl 0 rfl) ?_
  refine ro_get MC HP (hRR.l (by decide)) h0 (rfl : vwCl[5]? = some (RX6, TX6, 11)) inU6 9 (by decide) kw70 rfl rfl dX6_exceptions_14 ?_
  refine lv_iload_n hx hb dX6_exceptions_17 rfl (lv_at hl 1 rfl) ?_
  refine xo_iald MC HP (hRR.l (show 5 < 18 by omega)) h5 r8 (show r8 < 4 by omega) (by omega) hra dX6_exceptions_18 ?_
  refine lv_istore_n (lv' := [(3, .int (τ 18 r8)), (0, .ref (ad 0)), (1, .int r9), (2, .int n9)]) hx hb dX6_exceptions_19 rfl hl (by decide) rfl (fun ls hl => ?_)
  refine lv_aload_n hx hb dX6_exceptions_20 rfl (lv_at hl 1 rfl) ?_
  refine ro_get MC HP (hRR.l (by decide)) h0 (rfl : vwCl[5]? = some (RX6, TX6, 11)) inU6 9 (by decide) kw70 rfl rfl dX6_exceptions_21 ?_
  refine lv_iload_n hx hb dX6_exceptions_24 rfl (lv_at hl 2 rfl) ?_
  refine lv_iload_n hx hb dX6_exceptions_25 rfl (lv_at hl 3 rfl) ?_
  refine xo_iast MC HP HS (hRR.l (by decide)) h5 r8 (show r8 < 4 by omega) (by omega) hra dX6_exceptions_26 (fun H3 lH3 HP HS => ?_)
  refine lv_iload_n hx hb dX6_exceptions_27 rfl (lv_at hl 0 rfl) ?_
  have e2 : nx_exceptions τ r9 n9 = ti τ 18 r8 n9 := by unfold nx_exceptions; rw [hrc]
  exact ro_MT (ro_iretM MC HS hr (⟨aq_exceptions_2 hf_2 hf_3, by rw [rt_exceptions, hrc], by rw [e2]; exact ⟨RR, ad, _, nw, ns, nl, nc, ⟨HP, hRR, _, _, _, _, _, _, isX.exc ⟨h0, h1, h1b, h2, h2b, h7, h7b, h3, h3b, h40, h4, h4b, h60, h5, h6⟩ hI (fun r hr => (va_up_ne _ _ (by omega))) (fun i hi => (va_up_ne _ _ (by omega))) (va_up_self ..)⟩, hI.exc hen, fun _ _ => rfl, fun r hr1 hr2 => (va_up_ne _ _ (by omega))⟩⟩) (Nat.le_of_ble_eq_true rfl) (Nat.le_of_ble_eq_true rfl) dX6_exceptions_28)
theorem ti_row {τ : Tau} {r k : Nat} {v : Int32} : ∀ i, i < 18 → ∀ j, j ≠ k → ti τ r k v i j = τ i j := by
  intro i hi j hj
  by_cases h : i = r
  · subst h; rw [ti, va_up_self, upd_ne _ _ hj]
  · rw [ti, va_up_ne _ _ h]
theorem ti_low {τ : Tau} {r k : Nat} {v : Int32} {i : Nat} (h : i ≠ r) : ti τ r k v i = τ i := va_up_ne _ _ h
set_option maxHeartbeats 4000000 in
set_option maxRecDepth 100000 in
theorem q_approve {l : Launch} (hl9 : l.stackTraces = false) {D : va_G} {ids : Nat → ClassId} {n0 : Nat} {RR : List Nat} {ad : Nat → Nat} {cn : Nat → va_E} {τ : Tau} {ns nl nc : Nat} {Hh : Heap} (hX : xH D ids n0 RR ad cn τ ns nl nc Hh) {nw : Nat} (hI : Iv τ nw ns nl nc) {c9 : Int32} : ro_T l yX6_approve cX6_approve 3 (some FieldType.int) { frames := 8, cells := 8, slots := 48, locals := 240 } D ids n0 [.ref (ad 0), .int c9] Hh (fun v H1 => th_approve τ c9 = 0 ∧ v = some (.int (rt_approve τ c9)) ∧ aft D ids n0 ad cn (nx_approve τ c9) H1) (fun E9 H1 => grow Hh H1 ∧ ((th_approve τ c9 = 1 ∧ E9 = "java/lang/IndexOutOfBoundsException") ∨ (th_approve τ c9 = 2 ∧ E9 = "java/lang/IllegalStateException"))) := by
  refine ro_ofT (by decide +kernel) (Nat.le_of_ble_eq_true rfl) ?_
  intro p e s m below meth c MC hhp hr hno HS ls hl
  have hx := MC.1.1
  have hb := MC.1.2.1
  have hl : lv_has ls 3 [(0, .ref (ad 0)), (1, .int c9)] := hl
  obtain ⟨HP, hRR, sa, bm, fm, lf, ff, cf, h0, h1, h1b, h2, h2b, h7, h7b, h3, h3b, h40, h4, h4b, h60, h5, h6⟩ := id hX
  have hwb := hI.wb
  have hsb := hI.sb
  have hlb := hI.lb
  have hcb := hI.cb
  have hnl := hI.2.2.1.2
  have hns := hI.2.1.2.2
  have hnc := hI.2.2.2.1.2
  have hcs : cx (τ 0 2) = nl := by rw [hI.2.2.1.1]; exact cx_nI (by omega)
  refine lv_aload_n hx hb dX6_approve_0 rfl (lv_at hl 0 rfl) ?_
  refine lv_iload_n hx hb dX6_approve_1 rfl (lv_at hl 1 rfl) ?_
  refine ro_callVT MC HS (rest := []) (As := [.int c9]) (x_needChange hl9 hX hI) (lkX6_123) (kw437) (kw9) ⟨Nat.le_of_ble_eq_true rfl, Nat.le_of_ble_eq_true rfl⟩ (ro_recv MC HP (hRR.l (by decide)) h0 (rfl : vwCl[5]? = some (RX6, TX6, 11))) hl.1 rfl (Nat.le_of_ble_eq_true rfl) dX6_approve_2 ⟨Nat.le_of_ble_eq_true rfl, Nat.le_of_ble_eq_true rfl⟩ (ro_out MC hno (Nat.le_of_ble_eq_true rfl) (Nat.le_of_ble_eq_true rfl) (fun E9 H9 hp => by obtain ⟨hg9, rfl, hn9⟩ := hp; exact ⟨hg9, Or.inl (⟨aq_approve_0 hn9, rfl⟩)⟩)) (fun v9 H1 lH1 hp hz HS => ?_)
  obtain ⟨k, hk, hka, hkc, hf_4, rfl, rfl⟩ := hp
  have hle15 := (hI.2.2.2.2.2.2.2.2.2.2.1 k hk).2.2.2.1.2
  have hln := ch_len hI hk
  refine lv_astore_n (lv' := [(2, .ref (ad (60 + k))), (0, .ref (ad 0)), (1, .int c9)]) hx hb dX6_approve_5 rfl hl (by decide) rfl (fun ls hl => ?_)
  refine lv_aload_n hx hb dX6_approve_6 rfl (lv_at hl 0 rfl) ?_
  refine ro_callST MC HS (rest := []) (As := [.ref (ad (60 + k))]) (x_needPlanned hl9 hX hI hk) (lkX6_130) (kw441) ⟨Nat.le_of_ble_eq_true rfl, Nat.le_of_ble_eq_true rfl⟩ hl.1 rfl (Nat.le_of_ble_eq_true rfl) dX6_approve_7 ⟨Nat.le_of_ble_eq_true rfl, Nat.le_of_ble_eq_true rfl⟩ (ro_out MC hno (Nat.le_of_ble_eq_true rfl) (Nat.le_of_ble_eq_true rfl) (fun E9 H9 hp => by obtain ⟨hg9, rfl, hn9⟩ := hp; exact ⟨hg9, Or.inr (⟨aq_approve_1 hf_4 hkc hle15 hn9, rfl⟩)⟩)) (fun v9 H2 lH2 hp hz HS => ?_)
  obtain ⟨rfl, hf_5, rfl⟩ := hp
  refine lv_aload_n hx hb dX6_approve_10 rfl (lv_at hl 0 rfl) ?_
  refine ro_get MC HP (hRR.c (show k < nc by omega)) (h60 k (by omega)) (rfl : vwCl[0]? = some (RX0, TX0, 8)) inU0 4 (by decide) kw409 rfl rfl dX6_approve_11 ?_
  refine lv_aload_n hx hb dX6_approve_14 rfl (lv_at hl 0 rfl) ?_
  refine ro_get MC HP (hRR.c (show k < nc by omega)) (h60 k (by omega)) (rfl : vwCl[0]? = some (RX0, TX0, 8)) inU0 2 (by decide) kw406 rfl rfl dX6_approve_15 ?_
  refine lv_icmp_lt (tgt := 31) hx hb dX6_approve_18 (by decide) (fun c_18 => ?_) (fun c_18 => ?_)
  · refine lv_aload_n hx hb dX6_approve_31 rfl (lv_at hl 0 rfl) ?_
    refine lv_dup hx hb dX6_approve_32 rfl ?_
    refine ro_get MC HP (hRR.c (show k < nc by omega)) (h60 k (by omega)) (rfl : vwCl[0]? = some (RX0, TX0, 8)) inU0 4 (by decide) kw409 rfl rfl dX6_approve_33 ?_
    refine lv_iconst (v := 1) hx hb dX6_approve_36 (by decide) ?_
    refine lv_iadd hx hb dX6_approve_37 ?_
    refine ro_put MC HP HS (hRR.c (show k < nc by omega)) (h60 k (by omega)) (rfl : vwCl[0]? = some (RX0, TX0, 8)) inU0 tyX0_ok nmX0 4 (by decide) kw409 rfl rfl rfl rfl (Nat.le_of_ble_eq_true rfl) dX6_approve_38 (fun H3 lH3 HP HS => ?_)
    refine lv_aload_n hx hb dX6_approve_41 rfl (lv_at hl 0 rfl) ?_
    refine ro_get MC HP (hRR.c (show k < nc by omega)) (va_up_self ..) (rfl : vwCl[0]? = some (RX0, TX0, 8)) inU0 4 (by decide) kw409 rfl rfl dX6_approve_42 ?_
    have e2 : nx_approve τ c9 = ti τ 15 k (τ 15 k + 1) := by unfold nx_approve; rw [hkc]
    have hX2 : xH D ids n0 RR ad _ (ti τ 15 k (τ 15 k + 1)) ns nl nc _ := ⟨HP, hRR, _, _, _, _, _, _, isX.chg (k9 := k) ⟨h0, h1, h1b, h2, h2b, h7, h7b, h3, h3b, h40, h4, h4b, h60, h5, h6⟩ hI (fun r hr => (va_up_ne _ _ (by omega))) (fun i hi => ti_low (by omega)) ((va_up_ne _ _ (by omega)).trans h5) ((va_up_self ..).trans (chF_of rfl rfl rfl rfl (upd_at ..) rfl rfl rfl)) ti_row⟩
    have hI2 : Iv (ti τ 15 k (τ 15 k + 1)) nw ns nl nc := hI.chg hk (fun i hi => ti_low (by omega)) ti_row hI.2.2.2.2.2.2.2.2.2.2.2.2 (by
      obtain ⟨a1, a2, a3, a4, a5⟩ := hI.2.2.2.2.2.2.2.2.2.2.1 k hk
      refine ⟨a1, a2, a3, ?_, a5⟩
      show 0 ≤ upd (τ 15) k (τ 15 k + 1) k ∧ upd (τ 15) k (τ 15 k + 1) k ≤ τ 14 k
      rw [upd_at]
      exact aq_apI_0 a3 a4 c_18)
    exact ro_MT (ro_iretM MC HS hr (⟨aq_approve_2 hf_4 hkc hle15 hf_5 c_18, by rw [rt_approve, hkc], by rw [e2]; exact ⟨RR, ad, _, nw, ns, nl, nc, hX2, hI2, fun _ _ => rfl, fun r hr1 hr2 => (va_up_ne _ _ (by omega))⟩⟩) (Nat.le_of_ble_eq_true rfl) (Nat.le_of_ble_eq_true rfl) dX6_approve_45)
  · exact ro_throw hl9 MC HS hno th_150 hl.1 dX6_approve_21 dX6_approve_24 dX6_approve_25 dX6_approve_27 dX6_approve_30 ⟨Nat.le_of_ble_eq_true rfl, Nat.le_of_ble_eq_true rfl, Nat.le_of_ble_eq_true rfl, Nat.le_of_ble_eq_true rfl⟩ (fun H9 hz9 hq9 => ⟨⟨hz9, hq9⟩, Or.inr (⟨aq_approve_3 hf_4 hkc hle15 hf_5 c_18, rfl⟩)⟩) (Nat.le_of_ble_eq_true rfl) (Nat.le_of_ble_eq_true rfl)
set_option maxHeartbeats 4000000 in
set_option maxRecDepth 100000 in
theorem q_begin {l : Launch} (hl9 : l.stackTraces = false) {D : va_G} {ids : Nat → ClassId} {n0 : Nat} {RR : List Nat} {ad : Nat → Nat} {cn : Nat → va_E} {τ : Tau} {ns nl nc : Nat} {Hh : Heap} (hX : xH D ids n0 RR ad cn τ ns nl nc Hh) {nw : Nat} (hI : Iv τ nw ns nl nc) {c9 : Int32} : ro_T l yX6_begin cX6_begin 3 (some FieldType.int) { frames := 8, cells := 8, slots := 48, locals := 240 } D ids n0 [.ref (ad 0), .int c9] Hh (fun v H1 => th_begin τ c9 = 0 ∧ v = some (.int (rt_begin τ c9)) ∧ aft D ids n0 ad cn (nx_begin τ c9) H1) (fun E9 H1 => grow Hh H1 ∧ ((th_begin τ c9 = 1 ∧ E9 = "java/lang/IndexOutOfBoundsException") ∨ (th_begin τ c9 = 2 ∧ E9 = "java/lang/IllegalStateException"))) := by
  refine ro_ofT (by decide +kernel) (Nat.le_of_ble_eq_true rfl) ?_
  intro p e s m below meth c MC hhp hr hno HS ls hl
  have hx := MC.1.1
  have hb := MC.1.2.1
  have hl : lv_has ls 3 [(0, .ref (ad 0)), (1, .int c9)] := hl
  obtain ⟨HP, hRR, sa, bm, fm, lf, ff, cf, h0, h1, h1b, h2, h2b, h7, h7b, h3, h3b, h40, h4, h4b, h60, h5, h6⟩ := id hX
  have hwb := hI.wb
  have hsb := hI.sb
  have hlb := hI.lb
  have hcb := hI.cb
  have hnl := hI.2.2.1.2
  have hns := hI.2.1.2.2
  have hnc := hI.2.2.2.1.2
  have hcs : cx (τ 0 2) = nl := by rw [hI.2.2.1.1]; exact cx_nI (by omega)
  refine lv_aload_n hx hb dX6_begin_0 rfl (lv_at hl 0 rfl) ?_
  refine lv_iload_n hx hb dX6_begin_1 rfl (lv_at hl 1 rfl) ?_
  refine ro_callVT MC HS (rest := []) (As := [.int c9]) (x_needChange hl9 hX hI) (lkX6_123) (kw437) (kw9) ⟨Nat.le_of_ble_eq_true rfl, Nat.le_of_ble_eq_true rfl⟩ (ro_recv MC HP (hRR.l (by decide)) h0 (rfl : vwCl[5]? = some (RX6, TX6, 11))) hl.1 rfl (Nat.le_of_ble_eq_true rfl) dX6_begin_2 ⟨Nat.le_of_ble_eq_true rfl, Nat.le_of_ble_eq_true rfl⟩ (ro_out MC hno (Nat.le_of_ble_eq_true rfl) (Nat.le_of_ble_eq_true rfl) (fun E9 H9 hp => by obtain ⟨hg9, rfl, hn9⟩ := hp; exact ⟨hg9, Or.inl (⟨aq_begin_0 hn9, rfl⟩)⟩)) (fun v9 H1 lH1 hp hz HS => ?_)
  obtain ⟨k, hk, hka, hkc, hf_6, rfl, rfl⟩ := hp
  have hle15 := (hI.2.2.2.2.2.2.2.2.2.2.1 k hk).2.2.2.1.2
  have hln := ch_len hI hk
  refine lv_astore_n (lv' := [(2, .ref (ad (60 + k))), (0, .ref (ad 0)), (1, .int c9)]) hx hb dX6_begin_5 rfl hl (by decide) rfl (fun ls hl => ?_)
  refine lv_aload_n hx hb dX6_begin_6 rfl (lv_at hl 0 rfl) ?_
  refine ro_callST MC HS (rest := []) (As := [.ref (ad (60 + k))]) (x_needPlanned hl9 hX hI hk) (lkX6_130) (kw441) ⟨Nat.le_of_ble_eq_true rfl, Nat.le_of_ble_eq_true rfl⟩ hl.1 rfl (Nat.le_of_ble_eq_true rfl) dX6_begin_7 ⟨Nat.le_of_ble_eq_true rfl, Nat.le_of_ble_eq_true rfl⟩ (ro_out MC hno (Nat.le_of_ble_eq_true rfl) (Nat.le_of_ble_eq_true rfl) (fun E9 H9 hp => by obtain ⟨hg9, rfl, hn9⟩ := hp; exact ⟨hg9, Or.inr (⟨aq_begin_1 hf_6 hkc hle15 hn9, rfl⟩)⟩)) (fun v9 H2 lH2 hp hz HS => ?_)
  obtain ⟨rfl, hf_7, rfl⟩ := hp
  refine lv_aload_n hx hb dX6_begin_10 rfl (lv_at hl 0 rfl) ?_
  refine ro_get MC HP (hRR.c (show k < nc by omega)) (h60 k (by omega)) (rfl : vwCl[0]? = some (RX0, TX0, 8)) inU0 3 (by decide) kw408 rfl rfl dX6_begin_11 ?_
  refine lv_aload_n hx hb dX6_begin_14 rfl (lv_at hl 1 rfl) ?_
  refine ro_get MC HP (hRR.l (by decide)) h0 (rfl : vwCl[5]? = some (RX6, TX6, 11)) inU6 3 (by decide) kw64 rfl rfl dX6_begin_15 ?_
  refine lv_icmp_eq (tgt := 31) hx hb dX6_begin_18 (by decide) (fun c_18 => ?_) (fun c_18 => ?_)
  · refine lv_aload_n hx hb dX6_begin_31 rfl (lv_at hl 0 rfl) ?_
    refine ro_get MC HP (hRR.c (show k < nc by omega)) (h60 k (by omega)) (rfl : vwCl[0]? = some (RX0, TX0, 8)) inU0 4 (by decide) kw409 rfl rfl dX6_begin_32 ?_
    refine lv_aload_n hx hb dX6_begin_35 rfl (lv_at hl 0 rfl) ?_
    refine ro_get MC HP (hRR.c (show k < nc by omega)) (h60 k (by omega)) (rfl : vwCl[0]? = some (RX0, TX0, 8)) inU0 2 (by decide) kw406 rfl rfl dX6_begin_36 ?_
    refine lv_icmp_ge (tgt := 52) hx hb dX6_begin_39 (by decide) (fun c_39 => ?_) (fun c_39 => ?_)
    · refine lv_aload_n hx hb dX6_begin_52 rfl (lv_at hl 1 rfl) ?_
      refine lv_aload_n hx hb dX6_begin_53 rfl (lv_at hl 0 rfl) ?_
      obtain ⟨⟨u, hu, hsu⟩, ⟨b9, n9, hb9, hn9, h1n, hn1, hbn⟩, a3, a4, hbg⟩ := hI.2.2.2.2.2.2.2.2.2.2.1 k hk
      have hcl : cx (τ 13 k) = n9 := by rw [hn9]; exact cx_nI (by omega)
      refine ro_callV MC HS (rest := []) (As := [.ref (ad (60 + k))]) (x_firstBadHour hX hI hk) (lkX6_156) (kw473) (kw14) ⟨Nat.le_of_ble_eq_true rfl, Nat.le_of_ble_eq_true rfl⟩ (ro_recv MC HP (hRR.l (by decide)) h0 (rfl : vwCl[5]? = some (RX6, TX6, 11))) hl.1 rfl (Nat.le_of_ble_eq_true rfl) dX6_begin_54 ⟨Nat.le_of_ble_eq_true rfl, Nat.le_of_ble_eq_true rfl⟩ (fun v9 H3 lH3 hp hz HS => ?_)
      obtain ⟨rfl, rfl⟩ := hp
      refine lv_iconst (v := (-1)) hx hb dX6_begin_57 (by decide) ?_
      refine lv_icmp_eq (tgt := 71) hx hb dX6_begin_58 (by decide) (fun c_58 => ?_) (fun c_58 => ?_)
      · have hbz : badN τ k = 0 := (fb_bad hb9 hbn hcl).mp c_58
        refine lv_aload_n hx hb dX6_begin_71 rfl (lv_at hl 0 rfl) ?_
        refine lv_iconst (v := 1) hx hb dX6_begin_72 (by decide) ?_
        refine ro_put MC HP HS (hRR.c (show k < nc by omega)) (h60 k (by omega)) (rfl : vwCl[0]? = some (RX0, TX0, 8)) inU0 tyX0_ok nmX0 6 (by decide) kw411 rfl rfl rfl rfl (Nat.le_of_ble_eq_true rfl) dX6_begin_73 (fun H4 lH4 HP HS => ?_)
        refine lv_aload_n hx hb dX6_begin_76 rfl (lv_at hl 0 rfl) ?_
        refine lv_aload_n hx hb dX6_begin_77 rfl (lv_at hl 1 rfl) ?_
        refine ro_get MC HP (hRR.l (by decide)) ((va_up_ne _ _ (by omega)).trans h0) (rfl : vwCl[5]? = some (RX6, TX6, 11)) inU6 5 (by decide) kw66 rfl rfl dX6_begin_78 ?_
        refine ro_put MC HP HS (hRR.c (show k < nc by omega)) (va_up_self ..) (rfl : vwCl[0]? = some (RX0, TX0, 8)) inU0 tyX0_ok nmX0 7 (by decide) kw413 rfl rfl rfl rfl (Nat.le_of_ble_eq_true rfl) dX6_begin_81 (fun H5 lH5 HP HS => ?_)
        refine lv_aload_n hx hb dX6_begin_84 rfl (lv_at hl 0 rfl) ?_
        have hX2 : xH D ids n0 RR ad _ (ti τ 17 k (τ 0 2)) ns nl nc _ := ⟨HP, hRR, _, _, _, _, _, _, isX.chg (k9 := k) ⟨h0, h1, h1b, h2, h2b, h7, h7b, h3, h3b, h40, h4, h4b, h60, h5, h6⟩ hI (fun r hr => ((va_up_ne _ _ (by omega)).trans (va_up_ne _ _ (by omega)))) (fun i hi => ti_low (by omega)) (((va_up_ne _ _ (by omega)).trans (va_up_ne _ _ (by omega))).trans h5) ((va_up_self ..).trans (chF_of rfl rfl rfl rfl rfl rfl (by rw [show (ti τ 17 k (τ 0 2)) 17 k = τ 0 2 from upd_at ..]; exact bI_t (by rw [hI.2.2.1.1]; exact nI_m1 (by omega))) (by unfold flb; rw [show (ti τ 17 k (τ 0 2)) 17 k = τ 0 2 from upd_at ..]; exact if_neg (by rw [hI.2.2.1.1]; exact nI_m1 (by omega))))) ti_row⟩
        refine ro_callV MC HS (rest := []) (As := []) (x_hourBehind hX2 hk) (lkX6_171) (kw476) (kw477) ⟨Nat.le_of_ble_eq_true rfl, Nat.le_of_ble_eq_true rfl⟩ (ro_recv MC HP (hRR.c (show k < nc by omega)) (va_up_self ..) (rfl : vwCl[0]? = some (RX0, TX0, 8))) hl.1 rfl (Nat.le_of_ble_eq_true rfl) dX6_begin_85 ⟨Nat.le_of_ble_eq_true rfl, Nat.le_of_ble_eq_true rfl⟩ (fun v9 H6 lH6 hp hz HS => ?_)
        obtain ⟨rfl, rfl⟩ := hp
        have e2 : nx_begin τ c9 = (ti τ 17 k (τ 0 2)) := by unfold nx_begin; rw [hkc]
        have hI2 : Iv (ti τ 17 k (τ 0 2)) nw ns nl nc := hI.chg hk (fun i hi => ti_low (by omega)) ti_row hI.2.2.2.2.2.2.2.2.2.2.2.2 ⟨⟨u, hu, hsu⟩, ⟨b9, n9, hb9, hn9, h1n, hn1, hbn⟩, a3, a4, Or.inr ⟨nl, Nat.le_refl _, (upd_at ..).trans hI.2.2.1.1⟩⟩
        exact ro_MT (ro_iretM MC HS hr (⟨aq_begin_2 hf_6 hkc hle15 hf_7 c_18 c_39 c_58 hbz, by rw [rt_begin, hkc]; rfl, by rw [e2]; exact ⟨RR, ad, _, nw, ns, nl, nc, hX2, hI2, fun _ _ => rfl, fun r hr1 hr2 => ((va_up_ne _ _ (by omega)).trans (va_up_ne _ _ (by omega)))⟩⟩) (Nat.le_of_ble_eq_true rfl) (Nat.le_of_ble_eq_true rfl) dX6_begin_88)
      · have hbz : ¬ badN τ k = 0 := fun h9 => c_58 ((fb_bad hb9 hbn hcl).mpr h9)
        exact ro_throw hl9 MC HS hno th_159 hl.1 dX6_begin_61 dX6_begin_64 dX6_begin_65 dX6_begin_67 dX6_begin_70 ⟨Nat.le_of_ble_eq_true rfl, Nat.le_of_ble_eq_true rfl, Nat.le_of_ble_eq_true rfl, Nat.le_of_ble_eq_true rfl⟩ (fun H9 hz9 hq9 => ⟨⟨hz9, hq9⟩, Or.inr (⟨aq_begin_3 hf_6 hkc hle15 hf_7 c_18 c_39 c_58 hbz, rfl⟩)⟩) (Nat.le_of_ble_eq_true rfl) (Nat.le_of_ble_eq_true rfl)
    · exact ro_throw hl9 MC HS hno th_154 hl.1 dX6_begin_42 dX6_begin_45 dX6_begin_46 dX6_begin_48 dX6_begin_51 ⟨Nat.le_of_ble_eq_true rfl, Nat.le_of_ble_eq_true rfl, Nat.le_of_ble_eq_true rfl, Nat.le_of_ble_eq_true rfl⟩ (fun H9 hz9 hq9 => ⟨⟨hz9, hq9⟩, Or.inr (⟨aq_begin_4 hf_6 hkc hle15 hf_7 c_18 c_39, rfl⟩)⟩) (Nat.le_of_ble_eq_true rfl) (Nat.le_of_ble_eq_true rfl)
  · exact ro_throw hl9 MC HS hno th_152 hl.1 dX6_begin_21 dX6_begin_24 dX6_begin_25 dX6_begin_27 dX6_begin_30 ⟨Nat.le_of_ble_eq_true rfl, Nat.le_of_ble_eq_true rfl, Nat.le_of_ble_eq_true rfl, Nat.le_of_ble_eq_true rfl⟩ (fun H9 hz9 hq9 => ⟨⟨hz9, hq9⟩, Or.inr (⟨aq_begin_5 hf_6 hkc hle15 hf_7 c_18, rfl⟩)⟩) (Nat.le_of_ble_eq_true rfl) (Nat.le_of_ble_eq_true rfl)
set_option maxHeartbeats 4000000 in
set_option maxRecDepth 100000 in
theorem q_move {l : Launch} (hl9 : l.stackTraces = false) {D : va_G} {ids : Nat → ClassId} {n0 : Nat} {RR : List Nat} {ad : Nat → Nat} {cn : Nat → va_E} {τ : Tau} {ns nl nc : Nat} {Hh : Heap} (hX : xH D ids n0 RR ad cn τ ns nl nc Hh) {nw : Nat} (hI : Iv τ nw ns nl nc) {c9 f9 : Int32} : ro_T l yX6_move cX6_move 4 (some FieldType.int) { frames := 8, cells := 8, slots := 48, locals := 240 } D ids n0 [.ref (ad 0), .int c9, .int f9] Hh (fun v H1 => th_move τ c9 f9 = 0 ∧ v = some (.int (rt_move τ c9 f9)) ∧ aft D ids n0 ad cn (nx_move τ c9 f9) H1) (fun E9 H1 => grow Hh H1 ∧ ((th_move τ c9 f9 = 1 ∧ E9 = "java/lang/IndexOutOfBoundsException") ∨ (th_move τ c9 f9 = 2 ∧ E9 = "java/lang/IllegalArgumentException") ∨ (th_move τ c9 f9 = 3 ∧ E9 = "java/lang/IllegalStateException"))) := by
  refine ro_ofT (by decide +kernel) (Nat.le_of_ble_eq_true rfl) ?_
  intro p e s m below meth c MC hhp hr hno HS ls hl
  have hx := MC.1.1
  have hb := MC.1.2.1
  have hl : lv_has ls 4 [(0, .ref (ad 0)), (1, .int c9), (2, .int f9)] := hl
  obtain ⟨HP, hRR, sa, bm, fm, lf, ff, cf, h0, h1, h1b, h2, h2b, h7, h7b, h3, h3b, h40, h4, h4b, h60, h5, h6⟩ := id hX
  have hwb := hI.wb
  have hsb := hI.sb
  have hlb := hI.lb
  have hcb := hI.cb
  have hnl := hI.2.2.1.2
  have hns := hI.2.1.2.2
  have hnc := hI.2.2.2.1.2
  have hcs : cx (τ 0 2) = nl := by rw [hI.2.2.1.1]; exact cx_nI (by omega)
  refine lv_aload_n hx hb dX6_move_0 rfl (lv_at hl 0 rfl) ?_
  refine lv_iload_n hx hb dX6_move_1 rfl (lv_at hl 1 rfl) ?_
  refine ro_callVT MC HS (rest := []) (As := [.int c9]) (x_needChange hl9 hX hI) (lkX6_123) (kw437) (kw9) ⟨Nat.le_of_ble_eq_true rfl, Nat.le_of_ble_eq_true rfl⟩ (ro_recv MC HP (hRR.l (by decide)) h0 (rfl : vwCl[5]? = some (RX6, TX6, 11))) hl.1 rfl (Nat.le_of_ble_eq_true rfl) dX6_move_2 ⟨Nat.le_of_ble_eq_true rfl, Nat.le_of_ble_eq_true rfl⟩ (ro_out MC hno (Nat.le_of_ble_eq_true rfl) (Nat.le_of_ble_eq_true rfl) (fun E9 H9 hp => by obtain ⟨hg9, rfl, hn9⟩ := hp; exact ⟨hg9, Or.inl (⟨aq_move_0 hn9, rfl⟩)⟩)) (fun v9 H1 lH1 hp hz HS => ?_)
  obtain ⟨k, hk, hka, hkc, hf_8, rfl, rfl⟩ := hp
  have hle15 := (hI.2.2.2.2.2.2.2.2.2.2.1 k hk).2.2.2.1.2
  have hln := ch_len hI hk
  refine lv_astore_n (lv' := [(3, .ref (ad (60 + k))), (0, .ref (ad 0)), (1, .int c9), (2, .int f9)]) hx hb dX6_move_5 rfl hl (by decide) rfl (fun ls hl => ?_)
  refine lv_iload_n hx hb dX6_move_6 rfl (lv_at hl 3 rfl) ?_
  refine lv_aload_n hx hb dX6_move_7 rfl (lv_at hl 1 rfl) ?_
  refine ro_get MC HP (hRR.l (by decide)) h0 (rfl : vwCl[5]? = some (RX6, TX6, 11)) inU6 3 (by decide) kw64 rfl rfl dX6_move_8 ?_
  refine lv_sipush (v := 672) hx hb dX6_move_11 (by decide) ?_
  refine lv_aload_n hx hb dX6_move_14 rfl (lv_at hl 0 rfl) ?_
  refine ro_get MC HP (hRR.c (show k < nc by omega)) (h60 k (by omega)) (rfl : vwCl[0]? = some (RX0, TX0, 8)) inU0 1 (by decide) kw404 rfl rfl dX6_move_15 ?_
  refine lv_isub hx hb dX6_move_18 ?_
  refine ro_callST MC HS (rest := []) (As := [.int f9, .int (τ 0 0), .int ((672 - τ 13 k))]) (x_needRange hl9) (lkX6_58) (kw198) ⟨Nat.le_of_ble_eq_true rfl, Nat.le_of_ble_eq_true rfl⟩ hl.1 rfl (Nat.le_of_ble_eq_true rfl) dX6_move_19 ⟨Nat.le_of_ble_eq_true rfl, Nat.le_of_ble_eq_true rfl⟩ (ro_out MC hno (Nat.le_of_ble_eq_true rfl) (Nat.le_of_ble_eq_true rfl) (fun E9 H9 hp => by obtain ⟨hg9, rfl, hn9⟩ := hp; have hn9 := fun h9 => hn9 ((okP_iff hwb hln).mpr h9); exact ⟨hg9, Or.inr (Or.inl (⟨aq_move_1 hf_8 hkc hle15 hn9, rfl⟩))⟩)) (fun v9 H2 lH2 hp hz HS => ?_)
  obtain ⟨rfl, hf_9, rfl⟩ := hp
  have hf_9 := (okP_iff hwb hln).mp hf_9
  refine lv_aload_n hx hb dX6_move_22 rfl (lv_at hl 0 rfl) ?_
  refine ro_callST MC HS (rest := []) (As := [.ref (ad (60 + k))]) (x_needPlanned hl9 hX hI hk) (lkX6_130) (kw441) ⟨Nat.le_of_ble_eq_true rfl, Nat.le_of_ble_eq_true rfl⟩ hl.1 rfl (Nat.le_of_ble_eq_true rfl) dX6_move_23 ⟨Nat.le_of_ble_eq_true rfl, Nat.le_of_ble_eq_true rfl⟩ (ro_out MC hno (Nat.le_of_ble_eq_true rfl) (Nat.le_of_ble_eq_true rfl) (fun E9 H9 hp => by obtain ⟨hg9, rfl, hn9⟩ := hp; exact ⟨hg9, Or.inr (Or.inr (⟨aq_move_2 hf_8 hkc hle15 hf_9 hn9, rfl⟩))⟩)) (fun v9 H3 lH3 hp hz HS => ?_)
  obtain ⟨rfl, hf_10, rfl⟩ := hp
  refine lv_aload_n hx hb dX6_move_26 rfl (lv_at hl 0 rfl) ?_
  refine lv_iload_n hx hb dX6_move_27 rfl (lv_at hl 3 rfl) ?_
  refine ro_put MC HP HS (hRR.c (show k < nc by omega)) (h60 k (by omega)) (rfl : vwCl[0]? = some (RX0, TX0, 8)) inU0 tyX0_ok nmX0 3 (by decide) kw408 rfl rfl rfl rfl (Nat.le_of_ble_eq_true rfl) dX6_move_28 (fun H4 lH4 HP HS => ?_)
  refine lv_aload_n hx hb dX6_move_31 rfl (lv_at hl 0 rfl) ?_
  refine lv_iconst (v := 0) hx hb dX6_move_32 (by decide) ?_
  refine ro_put MC HP HS (hRR.c (show k < nc by omega)) (va_up_self ..) (rfl : vwCl[0]? = some (RX0, TX0, 8)) inU0 tyX0_ok nmX0 4 (by decide) kw409 rfl rfl rfl rfl (Nat.le_of_ble_eq_true rfl) dX6_move_33 (fun H5 lH5 HP HS => ?_)
  refine lv_aload_n hx hb dX6_move_36 rfl (lv_at hl 0 rfl) ?_
  refine lv_iconst (v := 0) hx hb dX6_move_37 (by decide) ?_
  refine ro_put MC HP HS (hRR.c (show k < nc by omega)) (va_up_self ..) (rfl : vwCl[0]? = some (RX0, TX0, 8)) inU0 tyX0_ok nmX0 5 (by decide) kw410 rfl rfl rfl rfl (Nat.le_of_ble_eq_true rfl) dX6_move_38 (fun H6 lH6 HP HS => ?_)
  refine lv_aload_n hx hb dX6_move_41 rfl (lv_at hl 1 rfl) ?_
  refine lv_aload_n hx hb dX6_move_42 rfl (lv_at hl 0 rfl) ?_
  have e2 : nx_move τ c9 f9 = (ti (ti (ti τ 12 k f9) 15 k 0) 16 k 0) := by unfold nx_move; rw [hkc]
  have hrw : ∀ i, i < 18 → ∀ j, j ≠ k → (ti (ti (ti τ 12 k f9) 15 k 0) 16 k 0) i j = τ i j := fun i hi j hj => by rw [ti_row i hi j hj, ti_row i hi j hj, ti_row i hi j hj]
  have hX2 : xH D ids n0 RR ad _ (ti (ti (ti τ 12 k f9) 15 k 0) 16 k 0) ns nl nc _ := ⟨HP, hRR, _, _, _, _, _, _, isX.chg (k9 := k) ⟨h0, h1, h1b, h2, h2b, h7, h7b, h3, h3b, h40, h4, h4b, h60, h5, h6⟩ hI (fun r hr => ((va_up_ne _ _ (by omega)).trans ((va_up_ne _ _ (by omega)).trans (va_up_ne _ _ (by omega))))) (fun i hi => by rw [ti_low (by omega), ti_low (by omega), ti_low (by omega)]) (((va_up_ne _ _ (by omega)).trans ((va_up_ne _ _ (by omega)).trans (va_up_ne _ _ (by omega)))).trans h5) ((va_up_self ..).trans (chF_of rfl rfl rfl (upd_at ..) (upd_at ..) (upd_at ..) rfl rfl)) hrw⟩
  obtain ⟨⟨u, hu, hsu⟩, ⟨b9, n9, hb9, hn9, h1n, hn1, hbn⟩, a3, a4, hbg⟩ := hI.2.2.2.2.2.2.2.2.2.2.1 k hk
  obtain ⟨b2, hfb, hb2⟩ := aq_mvF_0 hI.1 hn9 h1n hn1 hf_9
  have hI2 : Iv (ti (ti (ti τ 12 k f9) 15 k 0) 16 k 0) nw ns nl nc := hI.chg hk (fun i hi => by rw [ti_low (by omega), ti_low (by omega), ti_low (by omega)]) hrw hI.2.2.2.2.2.2.2.2.2.2.2.2 ⟨⟨u, hu, hsu⟩, ⟨b2, n9, (upd_at ..).trans hfb, hn9, h1n, hn1, hb2⟩, a3, (show 0 ≤ upd (τ 15) k 0 k ∧ upd (τ 15) k 0 k ≤ τ 14 k by rw [upd_at]; exact ⟨by decide, by have h9 := a3.1; clear hX HP hX2; lia⟩), hbg⟩
  refine ro_callV MC HS (rest := []) (As := [.ref (ad (60 + k))]) (x_countBad hX2 hI2 hk) (lkX6_143) (kw446) (kw10) ⟨Nat.le_of_ble_eq_true rfl, Nat.le_of_ble_eq_true rfl⟩ (ro_recv MC HP (hRR.l (by decide)) ((va_up_ne _ _ (by omega)).trans ((va_up_ne _ _ (by omega)).trans ((va_up_ne _ _ (by omega)).trans h0))) (rfl : vwCl[5]? = some (RX6, TX6, 11))) hl.1 rfl (Nat.le_of_ble_eq_true rfl) dX6_move_43 ⟨Nat.le_of_ble_eq_true rfl, Nat.le_of_ble_eq_true rfl⟩ (fun v9 H7 lH7 hp hz HS => ?_)
  obtain ⟨cn3, hX3, h63, rfl⟩ := hp
  exact ro_MT (ro_iretM MC HS hr (⟨aq_move_3 hf_8 hkc hle15 hf_9 hf_10, by rw [rt_move, e2, hkc], by rw [e2]; exact ⟨RR, ad, cn3, nw, ns, nl, nc, hX3, hI2, fun _ _ => rfl, fun r hr1 hr2 => (h63 r (by omega)).trans ((va_up_ne _ _ (by omega)).trans ((va_up_ne _ _ (by omega)).trans (va_up_ne _ _ (by omega))))⟩⟩) (Nat.le_of_ble_eq_true rfl) (Nat.le_of_ble_eq_true rfl) dX6_move_46)
set_option maxHeartbeats 4000000 in
set_option maxRecDepth 100000 in
theorem q_offset {l : Launch} (hl9 : l.stackTraces = false) {D : va_G} {ids : Nat → ClassId} {n0 : Nat} {RR : List Nat} {ad : Nat → Nat} {cn : Nat → va_E} {τ : Tau} {ns nl nc : Nat} {Hh : Heap} (hX : xH D ids n0 RR ad cn τ ns nl nc Hh) {nw : Nat} (hI : Iv τ nw ns nl nc) {a9 b9 : Int32} : ro_T l yX6_offset cX6_offset 5 (some FieldType.int) { frames := 8, cells := 8, slots := 48, locals := 240 } D ids n0 [.ref (ad 0), .int a9, .int b9] Hh (fun v H1 => th_offset τ a9 b9 = 0 ∧ v = some (.int (rt_offset τ a9 b9)) ∧ aft D ids n0 ad cn (nx_offset τ a9 b9) H1) (fun E9 H1 => grow Hh H1 ∧ ((th_offset τ a9 b9 = 1 ∧ E9 = "java/lang/IndexOutOfBoundsException") ∨ (th_offset τ a9 b9 = 2 ∧ E9 = "java/lang/IllegalArgumentException"))) := by
  refine ro_ofT (by decide +kernel) (Nat.le_of_ble_eq_true rfl) ?_
  intro p e s m below meth c MC hhp hr hno HS ls hl
  have hx := MC.1.1
  have hb := MC.1.2.1
  have hl : lv_has ls 5 [(0, .ref (ad 0)), (1, .int a9), (2, .int b9)] := hl
  obtain ⟨HP, hRR, sa, bm, fm, lf, ff, cf, h0, h1, h1b, h2, h2b, h7, h7b, h3, h3b, h40, h4, h4b, h60, h5, h6⟩ := id hX
  have hwb := hI.wb
  have hsb := hI.sb
  have hlb := hI.lb
  have hcb := hI.cb
  have hnl := hI.2.2.1.2
  have hns := hI.2.1.2.2
  have hnc := hI.2.2.2.1.2
  have hcs : cx (τ 0 2) = nl := by rw [hI.2.2.1.1]; exact cx_nI (by omega)
  refine lv_aload_n hx hb dX6_offset_0 rfl (lv_at hl 0 rfl) ?_
  refine lv_iload_n hx hb dX6_offset_1 rfl (lv_at hl 1 rfl) ?_
  refine ro_callVT MC HS (rest := []) (As := [.int a9]) (x_needLand hl9 hX hI) (lkX6_54) (kw194) (kw2) ⟨Nat.le_of_ble_eq_true rfl, Nat.le_of_ble_eq_true rfl⟩ (ro_recv MC HP (hRR.l (by decide)) h0 (rfl : vwCl[5]? = some (RX6, TX6, 11))) hl.1 rfl (Nat.le_of_ble_eq_true rfl) dX6_offset_2 ⟨Nat.le_of_ble_eq_true rfl, Nat.le_of_ble_eq_true rfl⟩ (ro_out MC hno (Nat.le_of_ble_eq_true rfl) (Nat.le_of_ble_eq_true rfl) (fun E9 H9 hp => by obtain ⟨hg9, rfl, hn9⟩ := hp; exact ⟨hg9, Or.inl (⟨aq_offset_0 hn9, rfl⟩)⟩)) (fun v9 H1 lH1 hp hz HS => ?_)
  obtain ⟨d, hd, hda, hdc, hf_11, rfl, rfl⟩ := hp
  refine lv_astore_n (lv' := [(3, .ref (ad (7 + d))), (0, .ref (ad 0)), (1, .int a9), (2, .int b9)]) hx hb dX6_offset_5 rfl hl (by decide) rfl (fun ls hl => ?_)
  refine lv_iload_n hx hb dX6_offset_6 rfl (lv_at hl 3 rfl) ?_
  refine lv_bipush (v := (-11)) hx hb dX6_offset_7 (by decide) ?_
  refine lv_bipush (v := 12) hx hb dX6_offset_9 (by decide) ?_
  refine ro_callST MC HS (rest := []) (As := [.int b9, .int ((-11)), .int 12]) (x_needRange hl9) (lkX6_58) (kw198) ⟨Nat.le_of_ble_eq_true rfl, Nat.le_of_ble_eq_true rfl⟩ hl.1 rfl (Nat.le_of_ble_eq_true rfl) dX6_offset_11 ⟨Nat.le_of_ble_eq_true rfl, Nat.le_of_ble_eq_true rfl⟩ (ro_out MC hno (Nat.le_of_ble_eq_true rfl) (Nat.le_of_ble_eq_true rfl) (fun E9 H9 hp => by obtain ⟨hg9, rfl, hn9⟩ := hp; exact ⟨hg9, Or.inr (⟨aq_offset_1 hf_11 hn9, rfl⟩)⟩)) (fun v9 H2 lH2 hp hz HS => ?_)
  obtain ⟨rfl, hf_12, rfl⟩ := hp
  have hof := hf_12
  refine lv_aload_n hx hb dX6_offset_14 rfl (lv_at hl 0 rfl) ?_
  refine ro_get MC HP (hRR.l (show 7 + d < 18 by omega)) (h7 d (by omega)) (rfl : vwCl[4]? = some (RX5, TX5, 2)) inU5 0 (by decide) kw52 rfl rfl dX6_offset_15 ?_
  refine lv_istore (lv' := [(4, .int (τ 2 d)), (3, .ref (ad (7 + d))), (0, .ref (ad 0)), (1, .int a9), (2, .int b9)]) hx hb dX6_offset_18 hl (by decide) rfl (fun ls hl => ?_)
  refine lv_aload_n hx hb dX6_offset_20 rfl (lv_at hl 1 rfl) ?_
  refine lv_iload_n hx hb dX6_offset_21 rfl (lv_at hl 4 rfl) ?_
  refine ro_put MC HP HS (hRR.l (show 7 + d < 18 by omega)) (h7 d (by omega)) (rfl : vwCl[4]? = some (RX5, TX5, 2)) inU5 tyX5_ok nmX5 0 (by decide) kw52 rfl rfl rfl rfl (Nat.le_of_ble_eq_true rfl) dX6_offset_22 (fun H3 lH3 HP HS => ?_)
  refine lv_iload hx hb dX6_offset_25 (lv_at hl 0 rfl) ?_
  have e2 : nx_offset τ a9 b9 = ti τ 2 d b9 := by unfold nx_offset; rw [hdc]
  exact ro_MT (ro_iretM MC HS hr (⟨aq_offset_2 hf_11 hf_12, by rw [rt_offset, hdc], by rw [e2]; exact ⟨RR, ad, _, nw, ns, nl, nc, ⟨HP, hRR, _, _, _, _, _, _, isX.lnd (j9 := d) (f9 := fm d) ⟨h0, h1, h1b, h2, h2b, h7, h7b, h3, h3b, h40, h4, h4b, h60, h5, h6⟩ hI (fun r hr => (va_up_ne _ _ (by omega))) (fun i hi => ti_low (by omega)) (by omega) ((va_up_self ..).trans (by rw [show (ti τ 2 d b9) 2 d = b9 from upd_at ..]; rfl)) (fun j hj => upd_ne _ _ hj) (fun e he => h7b d (by omega) e he) (fun _ _ _ _ _ => rfl)⟩, hI.offset hof, fun _ _ => rfl, fun r hr1 hr2 => (va_up_ne _ _ (by omega))⟩⟩) (Nat.le_of_ble_eq_true rfl) (Nat.le_of_ble_eq_true rfl) dX6_offset_27)
set_option maxHeartbeats 4000000 in
set_option maxRecDepth 100000 in
theorem q_scope {l : Launch} (hl9 : l.stackTraces = false) {D : va_G} {ids : Nat → ClassId} {n0 : Nat} {RR : List Nat} {ad : Nat → Nat} {cn : Nat → va_E} {τ : Tau} {ns nl nc : Nat} {Hh : Heap} (hX : xH D ids n0 RR ad cn τ ns nl nc Hh) {nw : Nat} (hI : Iv τ nw ns nl nc) {a9 : Int32} : ro_T l yX6_scope cX6_scope 3 (some FieldType.int) { frames := 8, cells := 8, slots := 48, locals := 240 } D ids n0 [.ref (ad 0), .int a9] Hh (fun v H1 => th_scope τ a9 = 0 ∧ v = some (.int (rt_scope τ a9)) ∧ aft D ids n0 ad cn (nx_scope τ a9) H1) (fun E9 H1 => grow Hh H1 ∧ ((th_scope τ a9 = 1 ∧ E9 = "java/lang/IndexOutOfBoundsException") ∨ (th_scope τ a9 = 2 ∧ E9 = "java/lang/IllegalStateException"))) := by
  refine ro_ofT (by decide +kernel) (Nat.le_of_ble_eq_true rfl) ?_
  intro p e s m below meth c MC hhp hr hno HS ls hl
  have hx := MC.1.1
  have hb := MC.1.2.1
  have hl : lv_has ls 3 [(0, .ref (ad 0)), (1, .int a9)] := hl
  obtain ⟨HP, hRR, sa, bm, fm, lf, ff, cf, h0, h1, h1b, h2, h2b, h7, h7b, h3, h3b, h40, h4, h4b, h60, h5, h6⟩ := id hX
  have hwb := hI.wb
  have hsb := hI.sb
  have hlb := hI.lb
  have hcb := hI.cb
  have hnl := hI.2.2.1.2
  have hns := hI.2.1.2.2
  have hnc := hI.2.2.2.1.2
  have hcs : cx (τ 0 2) = nl := by rw [hI.2.2.1.1]; exact cx_nI (by omega)
  refine lv_aload_n hx hb dX6_scope_0 rfl (lv_at hl 0 rfl) ?_
  refine lv_iload_n hx hb dX6_scope_1 rfl (lv_at hl 1 rfl) ?_
  refine ro_callVT MC HS (rest := []) (As := [.int a9]) (x_needScope hl9 hX hI) (lkX6_43) (kw101) (kw0) ⟨Nat.le_of_ble_eq_true rfl, Nat.le_of_ble_eq_true rfl⟩ (ro_recv MC HP (hRR.l (by decide)) h0 (rfl : vwCl[5]? = some (RX6, TX6, 11))) hl.1 rfl (Nat.le_of_ble_eq_true rfl) dX6_scope_2 ⟨Nat.le_of_ble_eq_true rfl, Nat.le_of_ble_eq_true rfl⟩ (ro_out MC hno (Nat.le_of_ble_eq_true rfl) (Nat.le_of_ble_eq_true rfl) (fun E9 H9 hp => by obtain ⟨hg9, rfl, hn9⟩ := hp; exact ⟨hg9, Or.inl (⟨aq_scope_0 hsb hn9, rfl⟩)⟩)) (fun v9 H1 lH1 hp hz HS => ?_)
  obtain ⟨rfl, hf_13, rfl⟩ := hp
  obtain ⟨i, hi, hia, hic⟩ := hI.s hf_13
  refine lv_aload_n hx hb dX6_scope_5 rfl (lv_at hl 0 rfl) ?_
  refine ro_get MC HP (hRR.l (by decide)) h0 (rfl : vwCl[5]? = some (RX6, TX6, 11)) inU6 1 (by decide) kw62 rfl rfl dX6_scope_6 ?_
  refine lv_bipush (v := 16) hx hb dX6_scope_9 (by decide) ?_
  refine lv_icmp_lt (tgt := 24) hx hb dX6_scope_11 (by decide) (fun c_11 => ?_) (fun c_11 => ?_)
  · have hns16 : ns < 16 := lt_of hI.2.1.1 (by omega) (by omega) (by show ¬ 16 ≤ τ 0 1; clear hX HP; lia)
    refine lv_aload_n hx hb dX6_scope_24 rfl (lv_at hl 0 rfl) ?_
    refine ro_get MC HP (hRR.l (by decide)) h0 (rfl : vwCl[5]? = some (RX6, TX6, 11)) inU6 1 (by decide) kw62 rfl rfl dX6_scope_25 ?_
    refine lv_istore_n (lv' := [(2, .int (τ 0 1)), (0, .ref (ad 0)), (1, .int a9)]) hx hb dX6_scope_28 rfl hl (by decide) rfl (fun ls hl => ?_)
    refine lv_aload_n hx hb dX6_scope_29 rfl (lv_at hl 1 rfl) ?_
    refine ro_get MC HP (hRR.l (by decide)) h0 (rfl : vwCl[5]? = some (RX6, TX6, 11)) inU6 0 (by decide) kw61 rfl rfl dX6_scope_30 ?_
    refine lv_iload_n hx hb dX6_scope_33 rfl (lv_at hl 0 rfl) ?_
    refine lv_aload_n hx hb dX6_scope_34 rfl (lv_at hl 1 rfl) ?_
    refine ro_get MC HP (hRR.l (by decide)) h0 (rfl : vwCl[5]? = some (RX6, TX6, 11)) inU6 0 (by decide) kw61 rfl rfl dX6_scope_35 ?_
    refine lv_iload_n hx hb dX6_scope_38 rfl (lv_at hl 2 rfl) ?_
    refine xo_iald MC HP (hRR.l (show 1 < 18 by omega)) h1 i (show i < 16 by omega) (by omega) hia dX6_scope_39 ?_
    refine lv_iconst (v := 1) hx hb dX6_scope_40 (by decide) ?_
    refine lv_iload_n hx hb dX6_scope_41 rfl (lv_at hl 0 rfl) ?_
    refine lv_ishl hx hb dX6_scope_42 ?_
    refine lv_ior hx hb dX6_scope_43 ?_
    refine xo_iast MC HP HS (hRR.l (by decide)) h1 ns (show ns < 16 by omega) (by omega) hI.2.1.1 dX6_scope_44 (fun H2 lH2 HP HS => ?_)
    refine lv_aload_n hx hb dX6_scope_45 rfl (lv_at hl 1 rfl) ?_
    refine lv_iload_n hx hb dX6_scope_46 rfl (lv_at hl 0 rfl) ?_
    refine lv_iconst (v := 1) hx hb dX6_scope_47 (by decide) ?_
    refine lv_iadd hx hb dX6_scope_48 ?_
    refine ro_put MC HP HS (hRR.l (by decide)) ((va_up_ne _ _ (by omega)).trans h0) (rfl : vwCl[5]? = some (RX6, TX6, 11)) inU6 tyX6_ok nmX6 1 (by decide) kw62 rfl rfl rfl rfl (Nat.le_of_ble_eq_true rfl) dX6_scope_49 (fun H3 lH3 HP HS => ?_)
    refine lv_iload_n hx hb dX6_scope_52 rfl (lv_at hl 0 rfl) ?_
    have e2 : nx_scope τ a9 = t0 (ti τ 1 ns (nI i)) 1 (τ 0 1 + 1) := by unfold nx_scope; rw [hI.2.1.1, cx_nI (by omega), ← hia]
    have hnn : ¬ τ 0 1 = 16 := by intro h9; rw [hI.2.1.1] at h9; exact absurd ((nI_eq (by omega) (by omega) : nI ns = nI 16 ↔ _).mp h9) (by omega)
    have hI2 := hI.scope hi hnn
    rw [← hia] at hI2
    exact ro_MT (ro_iretM MC HS hr (⟨aq_scope_1 hsb hf_13 c_11, rfl, RR, ad, _, nw, (ns + 1), nl, nc, ⟨HP, hRR, _, _, _, _, _, _, isX.scp ⟨h0, h1, h1b, h2, h2b, h7, h7b, h3, h3b, h40, h4, h4b, h60, h5, h6⟩ hI (fun r hr => ((va_up_ne _ _ (by omega)).trans (va_up_ne _ _ (by omega)))) (fun i hi => by rw [e2]; show va_up _ 0 _ i = _; rw [va_up_ne _ _ (by omega), ti_low (by omega)]) ((va_up_self ..).trans (by rw [e2]; rfl)) ((va_up_ne _ _ (by omega)).trans (va_up_self ..)) (by rw [e2, hI.2.1.1]; exact sc_bit hI h1b hi hns16)⟩, hI2, fun _ _ => rfl, fun r hr1 hr2 => ((va_up_ne _ _ (by omega)).trans (va_up_ne _ _ (by omega)))⟩) (Nat.le_of_ble_eq_true rfl) (Nat.le_of_ble_eq_true rfl) dX6_scope_53)
  · exact ro_throw hl9 MC HS hno th_49 hl.1 dX6_scope_14 dX6_scope_17 dX6_scope_18 dX6_scope_20 dX6_scope_23 ⟨Nat.le_of_ble_eq_true rfl, Nat.le_of_ble_eq_true rfl, Nat.le_of_ble_eq_true rfl, Nat.le_of_ble_eq_true rfl⟩ (fun H9 hz9 hq9 => ⟨⟨hz9, hq9⟩, Or.inr (⟨aq_scope_2 hsb hf_13 c_11, rfl⟩)⟩) (Nat.le_of_ble_eq_true rfl) (Nat.le_of_ble_eq_true rfl)
end
section
theorem bit_n0 {x : Int32} {q : Nat} : bit x q = true ↔ ¬ (x >>> (nI q &&& 31)) &&& 1 = 0 := by
  unfold bit
  simp
theorem rkS_nz (ex : Nat → Int32) : ∀ n r, 4 ≤ r + n → rkS ex n r < 4 → ¬ ex (rkS ex n r) = 0 := by
  intro n
  induction n with
  | zero => intro r h1 h2; rw [rkS] at h2; omega
  | succ n ih =>
    intro r h1 h2
    rw [rkS] at h2 ⊢
    by_cases h : r < 4 ∧ ex r = 0
    · rw [if_pos h] at h2 ⊢
      exact ih (r + 1) (by omega) h2
    · rw [if_neg h] at h2 ⊢
      exact fun h9 => h ⟨h2, h9⟩
theorem lf_k3b {τ : Tau} {ad : Nat → Nat} {nl q : Nat} {ff : Nat → Option Nat} (h3b : ∀ k, k < 20 → ff k = if k < nl ∧ τ 4 k = 0 then some (ad (40 + k)) else none) (hq : q < nl) : ∀ k, k < 20 → va_up ff q none k = if k < nl ∧ (ti τ 4 q 1) 4 k = 0 then some (ad (40 + k)) else none := by
  intro k hk
  show _ = if k < nl ∧ upd (τ 4) q 1 k = 0 then some (ad (40 + k)) else none
  by_cases h : k = q
  · subst h
    rw [va_up_self, upd_at, if_neg (fun h => absurd h.2 (by decide))]
  · rw [va_up_ne _ _ h, upd_ne _ _ h]
    exact h3b k hk
theorem fe_bit {τ : Tau} {d e : Nat} {f9 x : Int32} (hd : d < 4) (he : e < 30) (hx : x = nI e) (h : ∀ g, g < 30 → bit f9 g = !(τ 3 (30 * d + g) == 0)) : ∀ g, g < 30 → bit (f9 ^^^ 1 <<< (x &&& 31)) g = !(upd (τ 3) (30 * d + e) (bI (τ 3 (30 * d + e) = 0)) (30 * d + g) == 0) := by
  intro g hg
  rw [hx, bit_xor _ _ (by omega), bit_one e (by omega) g (by omega), h g hg]
  by_cases hge : g = e
  · subst hge
    rw [upd_at]
    by_cases h0 : τ 3 (30 * d + g) = 0
    · rw [bI_t h0, h0]; simp
    · rw [bI_f h0, show (τ 3 (30 * d + g) == 0) = false from beq_eq_false_iff_ne.mpr h0]; simp
  · rw [upd_ne _ _ (by omega), show decide (g = e) = false from decide_eq_false hge]
    simp
theorem fe_val {τ : Tau} {k : Nat} : bI ((!((upd (τ 3) k (bI (τ 3 k = 0))) k == 0)) = true) = bI (τ 3 k = 0) := by
  rw [upd_at]
  by_cases h0 : τ 3 k = 0
  · rw [bI_t h0]; rfl
  · rw [bI_f h0]; rfl
end
section
theorem aq_excuse_0 {τ : Tau} {c9 k9 : Int32} (hn9 : ¬ (0 ≤ c9 ∧ c9 ≤ τ 0 3 - 1)) : th_excuse τ c9 k9 = 1 := by
  unfold th_excuse; grind
theorem aq_excuse_1 {τ : Tau} {c9 k9 : Int32} {k : Nat} (hf_1 : 0 ≤ c9 ∧ c9 ≤ τ 0 3 - 1) (hkc : cx c9 = k) (hle15 : τ 15 k ≤ τ 14 k) (hn9 : ¬ (okF τ k9)) : th_excuse τ c9 k9 = 2 := by
  unfold th_excuse; grind
theorem aq_excuse_2 {τ : Tau} {c9 k9 : Int32} {k : Nat} {q : Nat} (hf_1 : 0 ≤ c9 ∧ c9 ≤ τ 0 3 - 1) (hkc : cx c9 = k) (hle15 : τ 15 k ≤ τ 14 k) (hf_2 : okF τ k9) (hqc : cx k9 = q) (hT : tch τ q k = true) (hB : (τ 16 k >>> (k9 &&& 31)) &&& 1 = 0) (hR4 : rkx τ q < 4) : th_excuse τ c9 k9 = 0 := by
  unfold th_excuse; grind
theorem aq_excuse_3 {τ : Tau} {c9 k9 : Int32} {k : Nat} {q : Nat} (hf_1 : 0 ≤ c9 ∧ c9 ≤ τ 0 3 - 1) (hkc : cx c9 = k) (hle15 : τ 15 k ≤ τ 14 k) (hf_2 : okF τ k9) (hqc : cx k9 = q) (hT : tch τ q k = true) (hB : (τ 16 k >>> (k9 &&& 31)) &&& 1 = 0) (hR4 : ¬ (rkx τ q < 4)) : th_excuse τ c9 k9 = 3 := by
  unfold th_excuse; grind
theorem aq_excuse_4 {τ : Tau} {c9 k9 : Int32} {k : Nat} {q : Nat} (hf_1 : 0 ≤ c9 ∧ c9 ≤ τ 0 3 - 1) (hkc : cx c9 = k) (hle15 : τ 15 k ≤ τ 14 k) (hf_2 : okF τ k9) (hqc : cx k9 = q) (hT : tch τ q k = true) (hB : ¬ ((τ 16 k >>> (k9 &&& 31)) &&& 1 = 0)) : th_excuse τ c9 k9 = 3 := by
  unfold th_excuse; grind
theorem aq_excuse_5 {τ : Tau} {c9 k9 : Int32} {k : Nat} {q : Nat} (hf_1 : 0 ≤ c9 ∧ c9 ≤ τ 0 3 - 1) (hkc : cx c9 = k) (hle15 : τ 15 k ≤ τ 14 k) (hf_2 : okF τ k9) (hqc : cx k9 = q) (hT : ¬ (tch τ q k = true)) : th_excuse τ c9 k9 = 3 := by
  unfold th_excuse; grind
theorem aq_lift_0 {τ : Tau} {f9 : Int32} (hn9 : ¬ (okF τ f9)) : th_lift τ f9 = 1 := by
  unfold th_lift; grind
theorem aq_lift_1 {τ : Tau} {f9 : Int32} {q : Nat} (hf_3 : okF τ f9) (hqc : cx f9 = q) : th_lift τ f9 = 0 := by
  unfold th_lift; grind
theorem aq_feast_0 {τ : Tau} {a9 d9 : Int32} (hn9 : ¬ (0 ≤ a9 ∧ a9 ≤ 3)) : th_feast τ a9 d9 = 1 := by
  unfold th_feast; grind
theorem aq_feast_1 {τ : Tau} {a9 d9 : Int32} (hf_4 : 0 ≤ a9 ∧ a9 ≤ 3) (hn9 : ¬ ((-1) ≤ d9 ∧ d9 ≤ 28)) : th_feast τ a9 d9 = 2 := by
  unfold th_feast; grind
theorem aq_feast_2 {τ : Tau} {a9 d9 : Int32} (hf_4 : 0 ≤ a9 ∧ a9 ≤ 3) (hf_5 : (-1) ≤ d9 ∧ d9 ≤ 28) : th_feast τ a9 d9 = 0 := by
  unfold th_feast; grind
theorem aq_nextSpan_0 {τ : Tau} {s9 f9 n9 : Int32} (hn9 : ¬ (0 ≤ s9 ∧ s9 ≤ τ 0 1 - 1)) : th_nextSpan τ s9 f9 n9 = 1 := by
  unfold th_nextSpan; grind
theorem aq_nextSpan_1 {τ : Tau} {s9 f9 n9 : Int32} (hf_6 : 0 ≤ s9 ∧ s9 ≤ τ 0 1 - 1) (hn9 : ¬ (0 ≤ f9 ∧ f9 ≤ 671)) : th_nextSpan τ s9 f9 n9 = 2 := by
  unfold th_nextSpan; grind
theorem aq_nextSpan_2 {τ : Tau} {s9 f9 n9 : Int32} (hf_6 : 0 ≤ s9 ∧ s9 ≤ τ 0 1 - 1) (hf_7 : 0 ≤ f9 ∧ f9 ≤ 671) (hn9 : ¬ (1 ≤ n9 ∧ n9 ≤ 100)) : th_nextSpan τ s9 f9 n9 = 2 := by
  unfold th_nextSpan; grind
theorem aq_nextSpan_3 {τ : Tau} {s9 f9 n9 : Int32} (hf_6 : 0 ≤ s9 ∧ s9 ≤ τ 0 1 - 1) (hf_7 : 0 ≤ f9 ∧ f9 ≤ 671) (hf_8 : 1 ≤ n9 ∧ n9 ≤ 100) : th_nextSpan τ s9 f9 n9 = 0 := by
  unfold th_nextSpan; grind
theorem ex_dec {x : Int32} (h : ¬ x = 0) (hb : 0 ≤ x ∧ x ≤ 50) : 0 ≤ x - 1 ∧ x - 1 ≤ 50 := by
  obtain ⟨h1, h2⟩ := hb
  exact ⟨by lia, by lia⟩
set_option maxHeartbeats 4000000 in
set_option maxRecDepth 100000 in
theorem q_excuse {l : Launch} (hl9 : l.stackTraces = false) {D : va_G} {ids : Nat → ClassId} {n0 : Nat} {RR : List Nat} {ad : Nat → Nat} {cn : Nat → va_E} {τ : Tau} {ns nl nc : Nat} {Hh : Heap} (hX : xH D ids n0 RR ad cn τ ns nl nc Hh) {nw : Nat} (hI : Iv τ nw ns nl nc) {c9 k9 : Int32} : ro_T l yX6_excuse cX6_excuse 6 (some FieldType.int) { frames := 8, cells := 8, slots := 48, locals := 240 } D ids n0 [.ref (ad 0), .int c9, .int k9] Hh (fun v H1 => th_excuse τ c9 k9 = 0 ∧ v = some (.int (rt_excuse τ c9 k9)) ∧ aft D ids n0 ad cn (nx_excuse τ c9 k9) H1) (fun E9 H1 => grow Hh H1 ∧ ((th_excuse τ c9 k9 = 1 ∧ E9 = "java/lang/IndexOutOfBoundsException") ∨ (th_excuse τ c9 k9 = 2 ∧ E9 = "java/util/NoSuchElementException") ∨ (th_excuse τ c9 k9 = 3 ∧ E9 = "java/lang/IllegalStateException"))) := by
  refine ro_ofT (by decide +kernel) (Nat.le_of_ble_eq_true rfl) ?_
  intro p e s m below meth c MC hhp hr hno HS ls hl
  have hx := MC.1.1
  have hb := MC.1.2.1
  have hl : lv_has ls 6 [(0, .ref (ad 0)), (1, .int c9), (2, .int k9)] := hl
  obtain ⟨HP, hRR, sa, bm, fm, lf, ff, cf, h0, h1, h1b, h2, h2b, h7, h7b, h3, h3b, h40, h4, h4b, h60, h5, h6⟩ := id hX
  have hwb := hI.wb
  have hsb := hI.sb
  have hlb := hI.lb
  have hcb := hI.cb
  have hnl := hI.2.2.1.2
  have hns := hI.2.1.2.2
  have hnc := hI.2.2.2.1.2
  have hcs : cx (τ 0 2) = nl := by rw [hI.2.2.1.1]; exact cx_nI (by omega)
  refine lv_aload_n hx hb dX6_excuse_0 rfl (lv_at hl 0 rfl) ?_
  refine lv_iload_n hx hb dX6_excuse_1 rfl (lv_at hl 1 rfl) ?_
  refine ro_callVT MC HS (rest := []) (As := [.int c9]) (x_needChange hl9 hX hI) (lkX6_123) (kw437) (kw9) ⟨Nat.le_of_ble_eq_true rfl, Nat.le_of_ble_eq_true rfl⟩ (ro_recv MC HP (hRR.l (by decide)) h0 (rfl : vwCl[5]? = some (RX6, TX6, 11))) hl.1 rfl (Nat.le_of_ble_eq_true rfl) dX6_excuse_2 ⟨Nat.le_of_ble_eq_true rfl, Nat.le_of_ble_eq_true rfl⟩ (ro_out MC hno (Nat.le_of_ble_eq_true rfl) (Nat.le_of_ble_eq_true rfl) (fun E9 H9 hp => by obtain ⟨hg9, rfl, hn9⟩ := hp; exact ⟨hg9, Or.inl (⟨aq_excuse_0 hn9, rfl⟩)⟩)) (fun v9 H1 lH1 hp hz HS => ?_)
  obtain ⟨k, hk, hka, hkc, hf_1, rfl, rfl⟩ := hp
  have hle15 := (hI.2.2.2.2.2.2.2.2.2.2.1 k hk).2.2.2.1.2
  have hln := ch_len hI hk
  refine lv_astore_n (lv' := [(3, .ref (ad (60 + k))), (0, .ref (ad 0)), (1, .int c9), (2, .int k9)]) hx hb dX6_excuse_5 rfl hl (by decide) rfl (fun ls hl => ?_)
  refine lv_aload_n hx hb dX6_excuse_6 rfl (lv_at hl 1 rfl) ?_
  refine lv_iload_n hx hb dX6_excuse_7 rfl (lv_at hl 3 rfl) ?_
  refine ro_callVT MC HS (rest := []) (As := [.int k9]) (x_needFreeze hl9 hX hI) (lkX6_99) (kw321) (kw5) ⟨Nat.le_of_ble_eq_true rfl, Nat.le_of_ble_eq_true rfl⟩ (ro_recv MC HP (hRR.l (by decide)) h0 (rfl : vwCl[5]? = some (RX6, TX6, 11))) hl.1 rfl (Nat.le_of_ble_eq_true rfl) dX6_excuse_8 ⟨Nat.le_of_ble_eq_true rfl, Nat.le_of_ble_eq_true rfl⟩ (ro_out MC hno (Nat.le_of_ble_eq_true rfl) (Nat.le_of_ble_eq_true rfl) (fun E9 H9 hp => by obtain ⟨hg9, rfl, hn9⟩ := hp; exact ⟨hg9, Or.inr (Or.inl (⟨aq_excuse_1 hf_1 hkc hle15 hn9, rfl⟩))⟩)) (fun v9 H2 lH2 hp hz HS => ?_)
  obtain ⟨q, hq, hq4, hqa, hqc, hf_2, rfl, rfl⟩ := hp
  refine lv_astore (lv' := [(4, .ref (ad (40 + q))), (3, .ref (ad (60 + k))), (0, .ref (ad 0)), (1, .int c9), (2, .int k9)]) hx hb dX6_excuse_11 hl (by decide) rfl (fun ls hl => ?_)
  refine lv_aload_n hx hb dX6_excuse_13 rfl (lv_at hl 2 rfl) ?_
  refine lv_aload_n hx hb dX6_excuse_14 rfl (lv_at hl 1 rfl) ?_
  refine ro_callV MC HS (rest := []) (As := [.ref (ad (60 + k))]) (x_touchChange hX hI hk) (lkX6_175) (kw454) (kw12) ⟨Nat.le_of_ble_eq_true rfl, Nat.le_of_ble_eq_true rfl⟩ (ro_recv MC HP (hRR.l (by decide)) h0 (rfl : vwCl[5]? = some (RX6, TX6, 11))) hl.1 rfl (Nat.le_of_ble_eq_true rfl) dX6_excuse_15 ⟨Nat.le_of_ble_eq_true rfl, Nat.le_of_ble_eq_true rfl⟩ (fun v9 H3 lH3 hp hz HS => ?_)
  obtain ⟨x, rfl, hxb, rfl⟩ := hp
  refine lv_iload_n hx hb dX6_excuse_18 rfl (lv_at hl 4 rfl) ?_
  refine ro_callS MC HS (rest := []) (As := [.int x, .int k9]) (by rw [hqa]; exact x_isInSet D ids n0 (x) q) (lkX6_178) (kw229) ⟨Nat.le_of_ble_eq_true rfl, Nat.le_of_ble_eq_true rfl⟩ hl.1 rfl (Nat.le_of_ble_eq_true rfl) dX6_excuse_19 ⟨Nat.le_of_ble_eq_true rfl, Nat.le_of_ble_eq_true rfl⟩ (fun v9 H4 lH4 hp hz HS => ?_)
  obtain ⟨rfl, rfl⟩ := hp
  refine lv_if_ne (tgt := 35) hx hb dX6_excuse_22 (by decide) (fun c_22 => ?_) (fun c_22 => ?_)
  · have f_22 := bI_n0.mp c_22
    have hT : tch τ q k = true := by rw [← show bit x q = tch τ q k by rw [hxb q (by omega)]; simp [hq]]; exact f_22
    refine lv_aload_n hx hb dX6_excuse_35 rfl (lv_at hl 1 rfl) ?_
    refine ro_get MC HP (hRR.c (show k < nc by omega)) (h60 k (by omega)) (rfl : vwCl[0]? = some (RX0, TX0, 8)) inU0 5 (by decide) kw410 rfl rfl dX6_excuse_36 ?_
    refine lv_iload_n hx hb dX6_excuse_39 rfl (lv_at hl 4 rfl) ?_
    refine ro_callS MC HS (rest := []) (As := [.int (τ 16 k), .int k9]) (by rw [hqa]; exact x_isInSet D ids n0 (τ 16 k) q) (lkX6_178) (kw229) ⟨Nat.le_of_ble_eq_true rfl, Nat.le_of_ble_eq_true rfl⟩ hl.1 rfl (Nat.le_of_ble_eq_true rfl) dX6_excuse_40 ⟨Nat.le_of_ble_eq_true rfl, Nat.le_of_ble_eq_true rfl⟩ (fun v9 H5 lH5 hp hz HS => ?_)
    obtain ⟨rfl, rfl⟩ := hp
    refine lv_if_eq (tgt := 56) hx hb dX6_excuse_43 (by decide) (fun c_43 => ?_) (fun c_43 => ?_)
    · have f_43 := bI_0.mp c_43
      have hB : (τ 16 k >>> (k9 &&& 31)) &&& 1 = 0 := by rw [hqa]; exact Classical.not_not.mp (fun h9 => f_43 (bit_n0.mpr h9))
      refine lv_aload_n hx hb dX6_excuse_56 rfl (lv_at hl 2 rfl) ?_
      refine lv_aload hx hb dX6_excuse_57 (lv_at hl 0 rfl) ?_
      refine xo_frank MC HP (hRR.f (show q < nl by omega)) (h40 q (by omega)) dX6_excuse_59 ?_
      obtain ⟨-, -, -, ⟨r9, hr1, hr3, hra⟩⟩ := hI.2.2.2.2.2.2.2.2.2.1 q hq
      have hrk : rkx τ q = rkS (τ 18) 4 r9 := by rw [rkx, hra, cx_nI (by omega)]
      refine ro_callV MC HS (rest := []) (As := [.int (τ 10 q)]) (by rw [hra]; exact x_rankToSpend hX hI hr1 hr3) (lkX6_189) (kw496) (kw15) ⟨Nat.le_of_ble_eq_true rfl, Nat.le_of_ble_eq_true rfl⟩ (ro_recv MC HP (hRR.l (by decide)) h0 (rfl : vwCl[5]? = some (RX6, TX6, 11))) hl.1 rfl (Nat.le_of_ble_eq_true rfl) dX6_excuse_62 ⟨Nat.le_of_ble_eq_true rfl, Nat.le_of_ble_eq_true rfl⟩ (fun v9 H6 lH6 hp hz HS => ?_)
      rw [← hrk] at hp
      obtain ⟨sp, hsp⟩ : ∃ sp : Int32, sp = if rkx τ q < 4 then nI (rkx τ q) else -1 := ⟨_, rfl⟩
      rw [← hsp] at hp
      obtain ⟨rfl, rfl⟩ := hp
      refine lv_istore (lv' := [(5, .int sp), (4, .ref (ad (40 + q))), (3, .ref (ad (60 + k))), (0, .ref (ad 0)), (1, .int c9), (2, .int k9)]) hx hb dX6_excuse_65 hl (by decide) rfl (fun ls hl => ?_)
      refine lv_iload hx hb dX6_excuse_67 (lv_at hl 0 rfl) ?_
      refine lv_iconst (v := (-1)) hx hb dX6_excuse_69 (by decide) ?_
      refine lv_icmp_ne (tgt := 83) hx hb dX6_excuse_70 (by decide) (fun c_70 => ?_) (fun c_70 => ?_)
      · have hR4 : rkx τ q < 4 := Classical.byContradiction fun h9 => c_70 (by rw [hsp, if_neg h9])
        have hspe : sp = nI (rkx τ q) := by rw [hsp, if_pos hR4]
        refine lv_aload_n hx hb dX6_excuse_83 rfl (lv_at hl 3 rfl) ?_
        refine ro_get MC HP (hRR.l (by decide)) h0 (rfl : vwCl[5]? = some (RX6, TX6, 11)) inU6 9 (by decide) kw70 rfl rfl dX6_excuse_84 ?_
        refine lv_iload hx hb dX6_excuse_87 (lv_at hl 0 rfl) ?_
        refine lv_dup2_11 hx hb dX6_excuse_89 rfl rfl ?_
        refine xo_iald MC HP (hRR.l (show 5 < 18 by omega)) h5 (rkx τ q) (show rkx τ q < 4 by omega) (by omega) hspe dX6_excuse_90 ?_
        refine lv_iconst (v := 1) hx hb dX6_excuse_91 (by decide) ?_
        refine lv_isub hx hb dX6_excuse_92 ?_
        refine xo_iast MC HP HS (hRR.l (by decide)) h5 (rkx τ q) (show rkx τ q < 4 by omega) (by omega) hspe dX6_excuse_93 (fun H7 lH7 HP HS => ?_)
        refine lv_aload_n hx hb dX6_excuse_94 rfl (lv_at hl 2 rfl) ?_
        refine lv_dup hx hb dX6_excuse_95 rfl ?_
        refine ro_get MC HP (hRR.c (show k < nc by omega)) ((va_up_ne _ _ (by omega)).trans (h60 k (by omega))) (rfl : vwCl[0]? = some (RX0, TX0, 8)) inU0 5 (by decide) kw410 rfl rfl dX6_excuse_96 ?_
        refine lv_iconst (v := 1) hx hb dX6_excuse_99 (by decide) ?_
        refine lv_iload_n hx hb dX6_excuse_100 rfl (lv_at hl 5 rfl) ?_
        refine lv_ishl hx hb dX6_excuse_101 ?_
        refine lv_ior hx hb dX6_excuse_102 ?_
        refine ro_put MC HP HS (hRR.c (show k < nc by omega)) ((va_up_ne _ _ (by omega)).trans (h60 k (by omega))) (rfl : vwCl[0]? = some (RX0, TX0, 8)) inU0 tyX0_ok nmX0 5 (by decide) kw410 rfl rfl rfl rfl (Nat.le_of_ble_eq_true rfl) dX6_excuse_103 (fun H8 lH8 HP HS => ?_)
        refine lv_iload hx hb dX6_excuse_106 (lv_at hl 0 rfl) ?_
        have e2 : nx_excuse τ c9 k9 = (ti (ti τ 16 k (τ 16 k ||| 1 <<< (k9 &&& 31))) 18 (rkx τ q) (τ 18 (rkx τ q) - 1)) := by unfold nx_excuse; rw [hkc, hqc]
        have hrw : ∀ i, i < 18 → ∀ j, j ≠ k → (ti (ti τ 16 k (τ 16 k ||| 1 <<< (k9 &&& 31))) 18 (rkx τ q) (τ 18 (rkx τ q) - 1)) i j = τ i j := fun i hi j hj => by rw [ti_low (by omega)]; exact ti_row i hi j hj
        have hX2 : xH D ids n0 RR ad _ (ti (ti τ 16 k (τ 16 k ||| 1 <<< (k9 &&& 31))) 18 (rkx τ q) (τ 18 (rkx τ q) - 1)) ns nl nc _ := ⟨HP, hRR, _, _, _, _, _, _, isX.chg (k9 := k) ⟨h0, h1, h1b, h2, h2b, h7, h7b, h3, h3b, h40, h4, h4b, h60, h5, h6⟩ hI (fun r hr => ((va_up_ne _ _ (by omega)).trans (va_up_ne _ _ (by omega)))) (fun i hi => by rw [ti_low (by omega), ti_low (by omega)]) ((va_up_ne _ _ (by omega)).trans (va_up_self ..)) ((va_up_self ..).trans (chF_of rfl rfl rfl rfl rfl (upd_at ..) rfl rfl)) hrw⟩
        have hnz := rkS_nz (τ 18) 4 (cx (τ 10 q)) (by omega) hR4
        have hI2 : Iv (ti (ti τ 16 k (τ 16 k ||| 1 <<< (k9 &&& 31))) 18 (rkx τ q) (τ 18 (rkx τ q) - 1)) nw ns nl nc := hI.chg hk (fun i hi => by rw [ti_low (by omega), ti_low (by omega)]) hrw (by
          intro r hr9
          show 0 ≤ upd (τ 18) (rkx τ q) (τ 18 (rkx τ q) - 1) r ∧ upd (τ 18) (rkx τ q) (τ 18 (rkx τ q) - 1) r ≤ 50
          by_cases h9 : r = rkx τ q
          · rw [h9, upd_at]; exact ex_dec hnz (hI.2.2.2.2.2.2.2.2.2.2.2.2 _ hR4)
          · rw [upd_ne _ _ h9]; exact hI.2.2.2.2.2.2.2.2.2.2.2.2 r hr9) (by
          obtain ⟨a1, a2, a3, a4, a5⟩ := hI.2.2.2.2.2.2.2.2.2.2.1 k hk
          exact ⟨a1, a2, a3, a4, a5⟩)
        exact ro_MT (ro_iretM MC HS hr (⟨aq_excuse_2 hf_1 hkc hle15 hf_2 hqc hT hB hR4, by rw [rt_excuse, hqc, hspe], by rw [e2]; exact ⟨RR, ad, _, nw, ns, nl, nc, hX2, hI2, fun _ _ => rfl, fun r hr1 hr2 => ((va_up_ne _ _ (by omega)).trans (va_up_ne _ _ (by omega)))⟩⟩) (Nat.le_of_ble_eq_true rfl) (Nat.le_of_ble_eq_true rfl) dX6_excuse_108)
      · have hR4 : ¬ (rkx τ q < 4) := fun h9 => by rw [hsp, if_pos h9] at c_70; exact nI_m1 (by omega) c_70
        exact ro_throw hl9 MC HS hno th_192 hl.1 dX6_excuse_73 dX6_excuse_76 dX6_excuse_77 dX6_excuse_79 dX6_excuse_82 ⟨Nat.le_of_ble_eq_true rfl, Nat.le_of_ble_eq_true rfl, Nat.le_of_ble_eq_true rfl, Nat.le_of_ble_eq_true rfl⟩ (fun H9 hz9 hq9 => ⟨⟨hz9, hq9⟩, Or.inr (Or.inr (⟨aq_excuse_3 hf_1 hkc hle15 hf_2 hqc hT hB hR4, rfl⟩))⟩) (Nat.le_of_ble_eq_true rfl) (Nat.le_of_ble_eq_true rfl)
    · have f_43 := bI_n0.mp c_43
      have hB : ¬ ((τ 16 k >>> (k9 &&& 31)) &&& 1 = 0) := by rw [hqa]; exact bit_n0.mp f_43
      exact ro_throw hl9 MC HS hno th_184 hl.1 dX6_excuse_46 dX6_excuse_49 dX6_excuse_50 dX6_excuse_52 dX6_excuse_55 ⟨Nat.le_of_ble_eq_true rfl, Nat.le_of_ble_eq_true rfl, Nat.le_of_ble_eq_true rfl, Nat.le_of_ble_eq_true rfl⟩ (fun H9 hz9 hq9 => ⟨⟨hz9, hq9⟩, Or.inr (Or.inr (⟨aq_excuse_4 hf_1 hkc hle15 hf_2 hqc hT hB, rfl⟩))⟩) (Nat.le_of_ble_eq_true rfl) (Nat.le_of_ble_eq_true rfl)
  · have f_22 := bI_0.mp c_22
    have hT : ¬ (tch τ q k = true) := by rw [← show bit x q = tch τ q k by rw [hxb q (by omega)]; simp [hq]]; exact f_22
    exact ro_throw hl9 MC HS hno th_182 hl.1 dX6_excuse_25 dX6_excuse_28 dX6_excuse_29 dX6_excuse_31 dX6_excuse_34 ⟨Nat.le_of_ble_eq_true rfl, Nat.le_of_ble_eq_true rfl, Nat.le_of_ble_eq_true rfl, Nat.le_of_ble_eq_true rfl⟩ (fun H9 hz9 hq9 => ⟨⟨hz9, hq9⟩, Or.inr (Or.inr (⟨aq_excuse_5 hf_1 hkc hle15 hf_2 hqc hT, rfl⟩))⟩) (Nat.le_of_ble_eq_true rfl) (Nat.le_of_ble_eq_true rfl)
set_option maxHeartbeats 4000000 in
set_option maxRecDepth 100000 in
theorem q_lift {l : Launch} (hl9 : l.stackTraces = false) {D : va_G} {ids : Nat → ClassId} {n0 : Nat} {RR : List Nat} {ad : Nat → Nat} {cn : Nat → va_E} {τ : Tau} {ns nl nc : Nat} {Hh : Heap} (hX : xH D ids n0 RR ad cn τ ns nl nc Hh) {nw : Nat} (hI : Iv τ nw ns nl nc) {f9 : Int32} : ro_T l yX6_lift cX6_lift 2 (some FieldType.int) { frames := 8, cells := 8, slots := 48, locals := 240 } D ids n0 [.ref (ad 0), .int f9] Hh (fun v H1 => th_lift τ f9 = 0 ∧ v = some (.int (rt_lift τ f9)) ∧ aft D ids n0 ad cn (nx_lift τ f9) H1) (fun E9 H1 => grow Hh H1 ∧ ((th_lift τ f9 = 1 ∧ E9 = "java/util/NoSuchElementException"))) := by
  refine ro_ofT (by decide +kernel) (Nat.le_of_ble_eq_true rfl) ?_
  intro p e s m below meth c MC hhp hr hno HS ls hl
  have hx := MC.1.1
  have hb := MC.1.2.1
  have hl : lv_has ls 2 [(0, .ref (ad 0)), (1, .int f9)] := hl
  obtain ⟨HP, hRR, sa, bm, fm, lf, ff, cf, h0, h1, h1b, h2, h2b, h7, h7b, h3, h3b, h40, h4, h4b, h60, h5, h6⟩ := id hX
  have hwb := hI.wb
  have hsb := hI.sb
  have hlb := hI.lb
  have hcb := hI.cb
  have hnl := hI.2.2.1.2
  have hns := hI.2.1.2.2
  have hnc := hI.2.2.2.1.2
  have hcs : cx (τ 0 2) = nl := by rw [hI.2.2.1.1]; exact cx_nI (by omega)
  refine lv_aload_n hx hb dX6_lift_0 rfl (lv_at hl 0 rfl) ?_
  refine lv_iload_n hx hb dX6_lift_1 rfl (lv_at hl 1 rfl) ?_
  refine ro_callVT MC HS (rest := []) (As := [.int f9]) (x_needFreeze hl9 hX hI) (lkX6_99) (kw321) (kw5) ⟨Nat.le_of_ble_eq_true rfl, Nat.le_of_ble_eq_true rfl⟩ (ro_recv MC HP (hRR.l (by decide)) h0 (rfl : vwCl[5]? = some (RX6, TX6, 11))) hl.1 rfl (Nat.le_of_ble_eq_true rfl) dX6_lift_2 ⟨Nat.le_of_ble_eq_true rfl, Nat.le_of_ble_eq_true rfl⟩ (ro_out MC hno (Nat.le_of_ble_eq_true rfl) (Nat.le_of_ble_eq_true rfl) (fun E9 H9 hp => by obtain ⟨hg9, rfl, hn9⟩ := hp; exact ⟨hg9, ⟨aq_lift_0 hn9, rfl⟩⟩)) (fun v9 H1 lH1 hp hz HS => ?_)
  obtain ⟨q, hq, hq4, hqa, hqc, hf_3, rfl, rfl⟩ := hp
  refine lv_pop hx hb dX6_lift_5 rfl ?_
  refine lv_aload_n hx hb dX6_lift_6 rfl (lv_at hl 0 rfl) ?_
  refine ro_get MC HP (hRR.l (by decide)) h0 (rfl : vwCl[5]? = some (RX6, TX6, 11)) inU6 4 (by decide) kw65 rfl rfl dX6_lift_7 ?_
  refine lv_iload_n hx hb dX6_lift_10 rfl (lv_at hl 1 rfl) ?_
  refine lv_null hx hb dX6_lift_11 ?_
  refine xo_aastN MC HP HS 4 (hRR.l (by decide)) h3 rfl q (show q < 20 by omega) (by omega) hqa dX6_lift_12 (fun H2 lH2 HP HS => ?_)
  refine lv_aload_n hx hb dX6_lift_13 rfl (lv_at hl 0 rfl) ?_
  refine lv_dup hx hb dX6_lift_14 rfl ?_
  refine ro_get MC HP (hRR.l (by decide)) ((va_up_ne _ _ (by omega)).trans h0) (rfl : vwCl[5]? = some (RX6, TX6, 11)) inU6 6 (by decide) kw67 rfl rfl dX6_lift_15 ?_
  refine lv_iconst (v := 1) hx hb dX6_lift_18 (by decide) ?_
  refine lv_isub hx hb dX6_lift_19 ?_
  refine ro_put MC HP HS (hRR.l (by decide)) ((va_up_ne _ _ (by omega)).trans h0) (rfl : vwCl[5]? = some (RX6, TX6, 11)) inU6 tyX6_ok nmX6 6 (by decide) kw67 rfl rfl rfl rfl (Nat.le_of_ble_eq_true rfl) dX6_lift_20 (fun H3 lH3 HP HS => ?_)
  refine lv_aload_n hx hb dX6_lift_23 rfl (lv_at hl 0 rfl) ?_
  refine ro_get MC HP (hRR.l (by decide)) (va_up_self ..) (rfl : vwCl[5]? = some (RX6, TX6, 11)) inU6 6 (by decide) kw67 rfl rfl dX6_lift_24 ?_
  have e2 : nx_lift τ f9 = ti τ 4 q 1 := by unfold nx_lift; rw [hqc]
  have hst := st_lift hcs hnl hq hq4
  exact ro_MT (ro_iretM MC HS hr (⟨aq_lift_1 hf_3 hqc, by rw [rt_lift, e2, hst], by rw [e2]; exact ⟨RR, ad, _, nw, ns, nl, nc, ⟨HP, hRR, _, _, _, _, _, _, isX.lft ⟨h0, h1, h1b, h2, h2b, h7, h7b, h3, h3b, h40, h4, h4b, h60, h5, h6⟩ hI (fun r hr => ((va_up_ne _ _ (by omega)).trans (va_up_ne _ _ (by omega)))) (fun i hi => ti_low hi) ((va_up_self ..).trans (by rw [hst]; rfl)) ((va_up_ne _ _ (by omega)).trans (va_up_self ..)) (lf_k3b h3b hq)⟩, hI.lift hq, fun _ _ => rfl, fun r hr1 hr2 => ((va_up_ne _ _ (by omega)).trans (va_up_ne _ _ (by omega)))⟩⟩) (Nat.le_of_ble_eq_true rfl) (Nat.le_of_ble_eq_true rfl) dX6_lift_27)
set_option maxHeartbeats 4000000 in
set_option maxRecDepth 100000 in
theorem x_turn {l : Launch} {D : va_G} {ids : Nat → ClassId} {n0 : Nat} {RR : List Nat} {ad : Nat → Nat} {cn : Nat → va_E} {Hh : Heap} (HP : ro_P D n0 RR ad cn Hh) {r : Nat} (hr9 : r ∈ RR) {x9 f9 d9 : Int32} (hf : cn r = .inr (4, [.int x9, .int f9])) : ro_M l yX5_turnFeastDay cX5_turnFeastDay 2 none { frames := 0, cells := 0, slots := 0, locals := 0 } D ids n0 [.ref (ad r), .int d9] Hh (fun v H1 => v = none ∧ ro_P D n0 RR ad (va_up cn r (.inr (4, [.int x9, .int (f9 ^^^ 1 <<< ((d9 - (-1)) &&& 31))]))) H1) := by
  refine ro_ofM (by decide +kernel) (Nat.le_of_ble_eq_true rfl) ?_
  intro p e s m below meth c MC hhp hr hnm HS ls hl
  have hx := MC.1.1
  have hb := MC.1.2.1
  have hl : lv_has ls 2 [(0, .ref (ad r)), (1, .int d9)] := hl
  refine lv_aload_n hx hb dX5_turnFeastDay_0 rfl (lv_at hl 0 rfl) ?_
  refine lv_dup hx hb dX5_turnFeastDay_1 rfl ?_
  refine ro_get MC HP hr9 hf (rfl : vwCl[4]? = some (RX5, TX5, 2)) inU5 1 (by decide) kw53 rfl rfl dX5_turnFeastDay_2 ?_
  refine lv_iconst (v := 1) hx hb dX5_turnFeastDay_5 (by decide) ?_
  refine lv_iload_n hx hb dX5_turnFeastDay_6 rfl (lv_at hl 1 rfl) ?_
  refine lv_iconst (v := (-1)) hx hb dX5_turnFeastDay_7 (by decide) ?_
  refine lv_isub hx hb dX5_turnFeastDay_8 ?_
  refine lv_ishl hx hb dX5_turnFeastDay_9 ?_
  refine lv_ixor hx hb dX5_turnFeastDay_10 ?_
  refine ro_put MC HP HS hr9 hf (rfl : vwCl[4]? = some (RX5, TX5, 2)) inU5 tyX5_ok nmX5 1 (by decide) kw53 rfl rfl rfl rfl (Nat.le_of_ble_eq_true rfl) dX5_turnFeastDay_11 (fun H1 lH1 HP HS => ?_)
  exact ro_vretM MC HS hr (⟨rfl, HP⟩) (Nat.le_of_ble_eq_true rfl) (Nat.le_of_ble_eq_true rfl) dX5_turnFeastDay_14
set_option maxHeartbeats 4000000 in
set_option maxRecDepth 100000 in
theorem q_feast {l : Launch} (hl9 : l.stackTraces = false) {D : va_G} {ids : Nat → ClassId} {n0 : Nat} {RR : List Nat} {ad : Nat → Nat} {cn : Nat → va_E} {τ : Tau} {ns nl nc : Nat} {Hh : Heap} (hX : xH D ids n0 RR ad cn τ ns nl nc Hh) {nw : Nat} (hI : Iv τ nw ns nl nc) {a9 d9 : Int32} : ro_T l yX6_feast cX6_feast 4 (some FieldType.boolean) { frames := 8, cells := 8, slots := 48, locals := 240 } D ids n0 [.ref (ad 0), .int a9, .int d9] Hh (fun v H1 => th_feast τ a9 d9 = 0 ∧ v = some (.int (rt_feast τ a9 d9)) ∧ aft D ids n0 ad cn (nx_feast τ a9 d9) H1) (fun E9 H1 => grow Hh H1 ∧ ((th_feast τ a9 d9 = 1 ∧ E9 = "java/lang/IndexOutOfBoundsException") ∨ (th_feast τ a9 d9 = 2 ∧ E9 = "java/lang/IllegalArgumentException"))) := by
  refine ro_ofT (by decide +kernel) (Nat.le_of_ble_eq_true rfl) ?_
  intro p e s m below meth c MC hhp hr hno HS ls hl
  have hx := MC.1.1
  have hb := MC.1.2.1
  have hl : lv_has ls 4 [(0, .ref (ad 0)), (1, .int a9), (2, .int d9)] := hl
  obtain ⟨HP, hRR, sa, bm, fm, lf, ff, cf, h0, h1, h1b, h2, h2b, h7, h7b, h3, h3b, h40, h4, h4b, h60, h5, h6⟩ := id hX
  have hwb := hI.wb
  have hsb := hI.sb
  have hlb := hI.lb
  have hcb := hI.cb
  have hnl := hI.2.2.1.2
  have hns := hI.2.1.2.2
  have hnc := hI.2.2.2.1.2
  have hcs : cx (τ 0 2) = nl := by rw [hI.2.2.1.1]; exact cx_nI (by omega)
  refine lv_aload_n hx hb dX6_feast_0 rfl (lv_at hl 0 rfl) ?_
  refine lv_iload_n hx hb dX6_feast_1 rfl (lv_at hl 1 rfl) ?_
  refine ro_callVT MC HS (rest := []) (As := [.int a9]) (x_needLand hl9 hX hI) (lkX6_54) (kw194) (kw2) ⟨Nat.le_of_ble_eq_true rfl, Nat.le_of_ble_eq_true rfl⟩ (ro_recv MC HP (hRR.l (by decide)) h0 (rfl : vwCl[5]? = some (RX6, TX6, 11))) hl.1 rfl (Nat.le_of_ble_eq_true rfl) dX6_feast_2 ⟨Nat.le_of_ble_eq_true rfl, Nat.le_of_ble_eq_true rfl⟩ (ro_out MC hno (Nat.le_of_ble_eq_true rfl) (Nat.le_of_ble_eq_true rfl) (fun E9 H9 hp => by obtain ⟨hg9, rfl, hn9⟩ := hp; exact ⟨hg9, Or.inl (⟨aq_feast_0 hn9, rfl⟩)⟩)) (fun v9 H1 lH1 hp hz HS => ?_)
  obtain ⟨d, hd, hda, hdc, hf_4, rfl, rfl⟩ := hp
  refine lv_astore_n (lv' := [(3, .ref (ad (7 + d))), (0, .ref (ad 0)), (1, .int a9), (2, .int d9)]) hx hb dX6_feast_5 rfl hl (by decide) rfl (fun ls hl => ?_)
  refine lv_iload_n hx hb dX6_feast_6 rfl (lv_at hl 3 rfl) ?_
  refine lv_iconst (v := (-1)) hx hb dX6_feast_7 (by decide) ?_
  refine lv_bipush (v := 28) hx hb dX6_feast_8 (by decide) ?_
  refine ro_callST MC HS (rest := []) (As := [.int d9, .int ((-1)), .int 28]) (x_needRange hl9) (lkX6_58) (kw198) ⟨Nat.le_of_ble_eq_true rfl, Nat.le_of_ble_eq_true rfl⟩ hl.1 rfl (Nat.le_of_ble_eq_true rfl) dX6_feast_10 ⟨Nat.le_of_ble_eq_true rfl, Nat.le_of_ble_eq_true rfl⟩ (ro_out MC hno (Nat.le_of_ble_eq_true rfl) (Nat.le_of_ble_eq_true rfl) (fun E9 H9 hp => by obtain ⟨hg9, rfl, hn9⟩ := hp; exact ⟨hg9, Or.inr (⟨aq_feast_1 hf_4 hn9, rfl⟩)⟩)) (fun v9 H2 lH2 hp hz HS => ?_)
  obtain ⟨rfl, hf_5, rfl⟩ := hp
  obtain ⟨e, he9, hd1, -, hix⟩ := fd_ix hda hd hf_5
  have hde : d9 - (-1) = nI e := by rw [← hd1]; clear hX HP; lia
  refine lv_aload_n hx hb dX6_feast_13 rfl (lv_at hl 0 rfl) ?_
  refine lv_iload_n hx hb dX6_feast_14 rfl (lv_at hl 3 rfl) ?_
  refine ro_callV MC HS (rest := []) (As := [.int d9]) (x_turn HP (hRR.l (show 7 + d < 18 by omega)) (h7 d (by omega))) (lkX6_65) (kw221) (kw222) ⟨Nat.le_of_ble_eq_true rfl, Nat.le_of_ble_eq_true rfl⟩ (ro_recv MC HP (hRR.l (show 7 + d < 18 by omega)) (h7 d (by omega)) (rfl : vwCl[4]? = some (RX5, TX5, 2))) hl.1 rfl (Nat.le_of_ble_eq_true rfl) dX6_feast_15 ⟨Nat.le_of_ble_eq_true rfl, Nat.le_of_ble_eq_true rfl⟩ (fun v9 H3 lH3 hp hz HS => ?_)
  obtain ⟨rfl, HP⟩ := hp
  have hX2 : xH D ids n0 RR ad _ (ti τ 3 (30 * d + e) (bI (τ 3 (30 * d + e) = 0))) ns nl nc _ := ⟨HP, hRR, _, _, _, _, _, _, isX.lnd (j9 := d) ⟨h0, h1, h1b, h2, h2b, h7, h7b, h3, h3b, h40, h4, h4b, h60, h5, h6⟩ hI (fun r hr => (va_up_ne _ _ (by omega))) (fun i hi => ti_low (by omega)) (by omega) (va_up_self ..) (fun _ _ => rfl) (fe_bit (by omega) he9 hde (h7b d (by omega))) (fun j hj hjd g hg => upd_ne _ _ (by omega))⟩
  refine lv_aload_n hx hb dX6_feast_18 rfl (lv_at hl 0 rfl) ?_
  refine lv_iload_n hx hb dX6_feast_19 rfl (lv_at hl 3 rfl) ?_
  refine ro_callV MC HS (rest := []) (As := [.int d9]) (x_isFeastDay hX2 hd he9 hde) (lkX6_68) (kw225) (kw226) ⟨Nat.le_of_ble_eq_true rfl, Nat.le_of_ble_eq_true rfl⟩ (ro_recv MC HP (hRR.l (show 7 + d < 18 by omega)) (va_up_self ..) (rfl : vwCl[4]? = some (RX5, TX5, 2))) hl.1 rfl (Nat.le_of_ble_eq_true rfl) dX6_feast_20 ⟨Nat.le_of_ble_eq_true rfl, Nat.le_of_ble_eq_true rfl⟩ (fun v9 H4 lH4 hp hz HS => ?_)
  obtain ⟨rfl, rfl⟩ := hp
  have e2 : nx_feast τ a9 d9 = (ti τ 3 (30 * d + e) (bI (τ 3 (30 * d + e) = 0))) := by unfold nx_feast; rw [hix]
  exact ro_MT (ro_zretM MC HS hr (by first | rfl | exact bI_nar) (⟨aq_feast_2 hf_4 hf_5, by rw [rt_feast, hix]; exact congrArg (fun x => some (Value.int x)) fe_val, by rw [e2]; exact ⟨RR, ad, _, nw, ns, nl, nc, hX2, hI.feast, fun _ _ => rfl, fun r hr1 hr2 => (va_up_ne _ _ (by omega))⟩⟩) (Nat.le_of_ble_eq_true rfl) (Nat.le_of_ble_eq_true rfl) dX6_feast_23)
set_option maxHeartbeats 4000000 in
set_option maxRecDepth 100000 in
theorem q_nextSpan {l : Launch} (hl9 : l.stackTraces = false) {D : va_G} {ids : Nat → ClassId} {n0 : Nat} {RR : List Nat} {ad : Nat → Nat} {cn : Nat → va_E} {τ : Tau} {ns nl nc : Nat} {Hh : Heap} (hX : xH D ids n0 RR ad cn τ ns nl nc Hh) {nw : Nat} (hI : Iv τ nw ns nl nc) {s9 f9 n9 : Int32} : ro_T l yX6_nextSpan cX6_nextSpan 7 (some FieldType.int) { frames := 8, cells := 8, slots := 48, locals := 240 } D ids n0 [.ref (ad 0), .int s9, .int f9, .int n9] Hh (fun v H1 => th_nextSpan τ s9 f9 n9 = 0 ∧ v = some (.int (rt_nextSpan τ s9 f9 n9)) ∧ aft D ids n0 ad cn (τ) H1) (fun E9 H1 => grow Hh H1 ∧ ((th_nextSpan τ s9 f9 n9 = 1 ∧ E9 = "java/lang/IndexOutOfBoundsException") ∨ (th_nextSpan τ s9 f9 n9 = 2 ∧ E9 = "java/lang/IllegalArgumentException"))) := by
  refine ro_ofT (by decide +kernel) (Nat.le_of_ble_eq_true rfl) ?_
  intro p e s m below meth c MC hhp hr hno HS ls hl
  have hx := MC.1.1
  have hb := MC.1.2.1
  have hl : lv_has ls 7 [(0, .ref (ad 0)), (1, .int s9), (2, .int f9), (3, .int n9)] := hl
  obtain ⟨HP, hRR, sa, bm, fm, lf, ff, cf, h0, h1, h1b, h2, h2b, h7, h7b, h3, h3b, h40, h4, h4b, h60, h5, h6⟩ := id hX
  have hwb := hI.wb
  have hsb := hI.sb
  have hlb := hI.lb
  have hcb := hI.cb
  have hnl := hI.2.2.1.2
  have hns := hI.2.1.2.2
  have hnc := hI.2.2.2.1.2
  have hcs : cx (τ 0 2) = nl := by rw [hI.2.2.1.1]; exact cx_nI (by omega)
  refine lv_aload_n hx hb dX6_nextSpan_0 rfl (lv_at hl 0 rfl) ?_
  refine lv_iload_n hx hb dX6_nextSpan_1 rfl (lv_at hl 1 rfl) ?_
  refine ro_callVT MC HS (rest := []) (As := [.int s9]) (x_needScope hl9 hX hI) (lkX6_43) (kw101) (kw0) ⟨Nat.le_of_ble_eq_true rfl, Nat.le_of_ble_eq_true rfl⟩ (ro_recv MC HP (hRR.l (by decide)) h0 (rfl : vwCl[5]? = some (RX6, TX6, 11))) hl.1 rfl (Nat.le_of_ble_eq_true rfl) dX6_nextSpan_2 ⟨Nat.le_of_ble_eq_true rfl, Nat.le_of_ble_eq_true rfl⟩ (ro_out MC hno (Nat.le_of_ble_eq_true rfl) (Nat.le_of_ble_eq_true rfl) (fun E9 H9 hp => by obtain ⟨hg9, rfl, hn9⟩ := hp; exact ⟨hg9, Or.inl (⟨aq_nextSpan_0 hn9, rfl⟩)⟩)) (fun v9 H1 lH1 hp hz HS => ?_)
  obtain ⟨rfl, hf_6, rfl⟩ := hp
  obtain ⟨i, hi, hia, hic⟩ := hI.s hf_6
  refine lv_iload_n hx hb dX6_nextSpan_5 rfl (lv_at hl 2 rfl) ?_
  refine lv_iconst (v := 0) hx hb dX6_nextSpan_6 (by decide) ?_
  refine lv_sipush (v := 671) hx hb dX6_nextSpan_7 (by decide) ?_
  refine ro_callST MC HS (rest := []) (As := [.int f9, .int 0, .int 671]) (x_needRange hl9) (lkX6_58) (kw198) ⟨Nat.le_of_ble_eq_true rfl, Nat.le_of_ble_eq_true rfl⟩ hl.1 rfl (Nat.le_of_ble_eq_true rfl) dX6_nextSpan_10 ⟨Nat.le_of_ble_eq_true rfl, Nat.le_of_ble_eq_true rfl⟩ (ro_out MC hno (Nat.le_of_ble_eq_true rfl) (Nat.le_of_ble_eq_true rfl) (fun E9 H9 hp => by obtain ⟨hg9, rfl, hn9⟩ := hp; exact ⟨hg9, Or.inr (⟨aq_nextSpan_1 hf_6 hn9, rfl⟩)⟩)) (fun v9 H2 lH2 hp hz HS => ?_)
  obtain ⟨rfl, hf_7, rfl⟩ := hp
  obtain ⟨ff9, hff9, hfa⟩ := nI_ex (x := f9) (n := 672) hf_7.1 (by show f9 < 672; lia) (by omega)
  have hfc : cx f9 = ff9 := by rw [hfa]; exact cx_nI (by omega)
  refine lv_iload_n hx hb dX6_nextSpan_13 rfl (lv_at hl 3 rfl) ?_
  refine lv_iconst (v := 1) hx hb dX6_nextSpan_14 (by decide) ?_
  refine lv_bipush (v := 100) hx hb dX6_nextSpan_15 (by decide) ?_
  refine ro_callST MC HS (rest := []) (As := [.int n9, .int 1, .int 100]) (x_needRange hl9) (lkX6_58) (kw198) ⟨Nat.le_of_ble_eq_true rfl, Nat.le_of_ble_eq_true rfl⟩ hl.1 rfl (Nat.le_of_ble_eq_true rfl) dX6_nextSpan_17 ⟨Nat.le_of_ble_eq_true rfl, Nat.le_of_ble_eq_true rfl⟩ (ro_out MC hno (Nat.le_of_ble_eq_true rfl) (Nat.le_of_ble_eq_true rfl) (fun E9 H9 hp => by obtain ⟨hg9, rfl, hn9⟩ := hp; exact ⟨hg9, Or.inr (⟨aq_nextSpan_2 hf_6 hf_7 hn9, rfl⟩)⟩)) (fun v9 H3 lH3 hp hz HS => ?_)
  obtain ⟨rfl, hf_8, rfl⟩ := hp
  refine lv_aload_n hx hb dX6_nextSpan_20 rfl (lv_at hl 0 rfl) ?_
  refine lv_iload_n hx hb dX6_nextSpan_21 rfl (lv_at hl 1 rfl) ?_
  refine ro_callV MC HS (rest := []) (As := [.int s9]) (by rw [hia]; exact x_touchScope hX hI hi) (lkX6_106) (kw345) (kw6) ⟨Nat.le_of_ble_eq_true rfl, Nat.le_of_ble_eq_true rfl⟩ (ro_recv MC HP (hRR.l (by decide)) h0 (rfl : vwCl[5]? = some (RX6, TX6, 11))) hl.1 rfl (Nat.le_of_ble_eq_true rfl) dX6_nextSpan_22 ⟨Nat.le_of_ble_eq_true rfl, Nat.le_of_ble_eq_true rfl⟩ (fun v9 H4 lH4 hp hz HS => ?_)
  obtain ⟨rfl, rfl⟩ := hp
  refine lv_istore (lv' := [(4, .int (mk (tsB τ nl i) 20)), (0, .ref (ad 0)), (1, .int s9), (2, .int f9), (3, .int n9)]) hx hb dX6_nextSpan_25 hl (by decide) rfl (fun ls hl => ?_)
  refine lv_iconst (v := 0) hx hb dX6_nextSpan_27 (by decide) ?_
  refine lv_istore (lv' := [(5, .int 0), (4, .int (mk (tsB τ nl i) 20)), (0, .ref (ad 0)), (1, .int s9), (2, .int f9), (3, .int n9)]) hx hb dX6_nextSpan_28 hl (by decide) rfl (fun ls hl => ?_)
  refine lv_iload_n hx hb dX6_nextSpan_30 rfl (lv_at hl 4 rfl) ?_
  refine lv_istore (lv' := [(6, .int f9), (5, .int 0), (4, .int (mk (tsB τ nl i) 20)), (0, .ref (ad 0)), (1, .int s9), (2, .int f9), (3, .int n9)]) hx hb dX6_nextSpan_31 hl (by decide) rfl (fun ls hl => ?_)
  have loop : ∀ h : Nat, h ≤ 672 → ∀ (oo : Nat) (locs : List Loc) (ls : Array Slot), oo ≤ h → rt_nextSpan τ s9 f9 n9 = nsp (fun h => hoS τ s9 (nI h) == 0) n9 (672 - h) h (nI oo) → va_S (fun q => n0 ≤ q) s.heap Hh locs → lv_has ls 7 [(6, .int (nI h)), (5, .int (nI oo)), (4, .int (mk (tsB τ nl i) 20)), (0, .ref (ad 0)), (1, .int s9), (2, .int f9), (3, .int n9)] → W p l e { frames := 8, cells := 8, slots := 48, locals := 240 } s m ([.ref (ad 0), .int s9, .int f9, .int n9] : List Value).toArray below meth c Hh locs 3 18 (vx_MQ below (ro_Q n0 (fun v H1 => th_nextSpan τ s9 f9 n9 = 0 ∧ v = some (.int (rt_nextSpan τ s9 f9 n9)) ∧ aft D ids n0 ad cn (τ) H1)) (ro_X n0 (fun E9 H1 => grow Hh H1 ∧ ((th_nextSpan τ s9 f9 n9 = 1 ∧ E9 = "java/lang/IndexOutOfBoundsException") ∨ (th_nextSpan τ s9 f9 n9 = 2 ∧ E9 = "java/lang/IllegalArgumentException")))) ([.ref (ad 0), .int s9, .int f9, .int n9] : List Value).toArray s 8 48 (fun q => n0 ≤ q)) (F0 m 33 ls []) := by
    refine ro_loop 672 (fun h : Nat => ∀ (oo : Nat) (locs : List Loc) (ls : Array Slot), oo ≤ h → rt_nextSpan τ s9 f9 n9 = nsp (fun h => hoS τ s9 (nI h) == 0) n9 (672 - h) h (nI oo) → va_S (fun q => n0 ≤ q) s.heap Hh locs → lv_has ls 7 [(6, .int (nI h)), (5, .int (nI oo)), (4, .int (mk (tsB τ nl i) 20)), (0, .ref (ad 0)), (1, .int s9), (2, .int f9), (3, .int n9)] → W p l e { frames := 8, cells := 8, slots := 48, locals := 240 } s m ([.ref (ad 0), .int s9, .int f9, .int n9] : List Value).toArray below meth c Hh locs 3 18 (vx_MQ below (ro_Q n0 (fun v H1 => th_nextSpan τ s9 f9 n9 = 0 ∧ v = some (.int (rt_nextSpan τ s9 f9 n9)) ∧ aft D ids n0 ad cn (τ) H1)) (ro_X n0 (fun E9 H1 => grow Hh H1 ∧ ((th_nextSpan τ s9 f9 n9 = 1 ∧ E9 = "java/lang/IndexOutOfBoundsException") ∨ (th_nextSpan τ s9 f9 n9 = 2 ∧ E9 = "java/lang/IllegalArgumentException")))) ([.ref (ad 0), .int s9, .int f9, .int n9] : List Value).toArray s 8 48 (fun q => n0 ≤ q)) (F0 m 33 ls [])) ?_ ?_
    · intro oo locs ls hoo hR HS hl
      refine lv_iload hx hb dX6_nextSpan_33 (lv_at hl 0 rfl) ?_
      refine lv_sipush (v := 672) hx hb dX6_nextSpan_35 (by decide) ?_
      refine lv_icmp_ge (tgt := 81) hx hb dX6_nextSpan_38 (by decide) (fun c_38 => ?_) (fun c_38 => absurd (kn_le (n := 672) rfl (Nat.le_refl _) (by omega)) c_38)
      refine lv_iconst (v := (-1)) hx hb dX6_nextSpan_81 (by decide) ?_
      exact ro_MT (ro_iretM MC HS hr (⟨aq_nextSpan_3 hf_6 hf_7 hf_8, by rw [hR]; rfl, aft.rf hX hI⟩) (Nat.le_of_ble_eq_true rfl) (Nat.le_of_ble_eq_true rfl) dX6_nextSpan_82)
    · intro h hkh ih oo locs ls hoo hR HS hl
      rw [show 672 - h = (672 - (h + 1)) + 1 by omega] at hR
      refine lv_iload hx hb dX6_nextSpan_33 (lv_at hl 0 rfl) ?_
      refine lv_sipush (v := 672) hx hb dX6_nextSpan_35 (by decide) ?_
      refine lv_icmp_ge (tgt := 81) hx hb dX6_nextSpan_38 (by decide) (fun c_38 => absurd c_38 (kn_nle (n := 672) rfl hkh (by omega))) (fun c_38 => ?_)
      refine lv_aload_n hx hb dX6_nextSpan_41 rfl (lv_at hl 3 rfl) ?_
      refine lv_iload hx hb dX6_nextSpan_42 (lv_at hl 2 rfl) ?_
      refine lv_iload hx hb dX6_nextSpan_44 (lv_at hl 0 rfl) ?_
      refine ro_callV MC HS (rest := []) (As := [.int (mk (tsB τ nl i) 20), .int (nI h)]) (x_holdingAmong hX hI (hh := h) (by omega) _) (lkX6_110) (kw354) (kw8) ⟨Nat.le_of_ble_eq_true rfl, Nat.le_of_ble_eq_true rfl⟩ (ro_recv MC HP (hRR.l (by decide)) h0 (rfl : vwCl[5]? = some (RX6, TX6, 11))) hl.1 rfl (Nat.le_of_ble_eq_true rfl) dX6_nextSpan_46 ⟨Nat.le_of_ble_eq_true rfl, Nat.le_of_ble_eq_true rfl⟩ (fun v9 H5 lH5 hp hz HS => ?_)
      obtain ⟨rfl, rfl⟩ := hp
      refine lv_if_ne (tgt := 59) hx hb dX6_nextSpan_49 (by decide) (fun c_49 => ?_) (fun c_49 => ?_)
      · refine lv_iconst (v := 0) hx hb dX6_nextSpan_59 (by decide) ?_
        refine lv_istore (lv' := [(5, .int 0), (6, .int (nI h)), (4, .int (mk (tsB τ nl i) 20)), (0, .ref (ad 0)), (1, .int s9), (2, .int f9), (3, .int n9)]) hx hb dX6_nextSpan_60 hl (by decide) rfl (fun ls hl => ?_)
        refine lv_iload hx hb dX6_nextSpan_62 (lv_at hl 0 rfl) ?_
        refine lv_iload_n hx hb dX6_nextSpan_64 rfl (lv_at hl 6 rfl) ?_
        refine lv_icmp_ne (tgt := 75) hx hb dX6_nextSpan_65 (by decide) (fun c_65 => ?_) (fun c_65 => ?_)
        · refine lv_iinc (v := nI h + 1) (lv' := [(6, .int (nI h + 1)), (5, .int 0), (4, .int (mk (tsB τ nl i) 20)), (0, .ref (ad 0)), (1, .int s9), (2, .int f9), (3, .int n9)]) hx hb dX6_nextSpan_75 hl (k := 1) rfl rfl (by decide) rfl (fun ls hl => ?_)
          refine lv_goto (tgt := 33) hx hb dX6_nextSpan_78 (by decide) ?_
          have hfs : mk (haB τ nl (mk (tsB τ nl i) 20) h) 20 = hoS τ s9 (nI h) := by rw [hia, hoS_eq hnl hcs]
          have hfr : (fun h => hoS τ s9 (nI h) == 0) h = false := by show (hoS τ s9 (nI h) == 0) = _; rw [← hfs]; exact beq_eq_false_iff_ne.mpr c_49
          have hif : (if (fun h => hoS τ s9 (nI h) == 0) h = true then nI oo + 1 else 0) = 0 := by rw [hfr]; rfl
          rw [nsp_go (by rw [hif]; exact c_65), hif] at hR
          refine ih 0 _ ls (by omega) hR HS ?_
          have hl := lv_sub (l' := [(6, .int (nI h + 1)), (5, .int 0), (4, .int (mk (tsB τ nl i) 20)), (0, .ref (ad 0)), (1, .int s9), (2, .int f9), (3, .int n9)]) hl [0, 1, 2, 3, 4, 5, 6] rfl
          rw [nI_1 h] at hl
          exact hl
        · refine lv_iload hx hb dX6_nextSpan_68 (lv_at hl 1 rfl) ?_
          refine lv_iload_n hx hb dX6_nextSpan_70 rfl (lv_at hl 6 rfl) ?_
          refine lv_isub hx hb dX6_nextSpan_71 ?_
          refine lv_iconst (v := 1) hx hb dX6_nextSpan_72 (by decide) ?_
          refine lv_iadd hx hb dX6_nextSpan_73 ?_
          have hfs : mk (haB τ nl (mk (tsB τ nl i) 20) h) 20 = hoS τ s9 (nI h) := by rw [hia, hoS_eq hnl hcs]
          have hfr : (fun h => hoS τ s9 (nI h) == 0) h = false := by show (hoS τ s9 (nI h) == 0) = _; rw [← hfs]; exact beq_eq_false_iff_ne.mpr c_49
          have hif : (if (fun h => hoS τ s9 (nI h) == 0) h = true then nI oo + 1 else 0) = 0 := by rw [hfr]; rfl
          exact ro_MT (ro_iretM MC HS hr (⟨aq_nextSpan_3 hf_6 hf_7 hf_8, by rw [hR, nsp_stop (by rw [hif]; exact c_65)], aft.rf hX hI⟩) (Nat.le_of_ble_eq_true rfl) (Nat.le_of_ble_eq_true rfl) dX6_nextSpan_74)
      · refine lv_iload hx hb dX6_nextSpan_52 (lv_at hl 1 rfl) ?_
        refine lv_iconst (v := 1) hx hb dX6_nextSpan_54 (by decide) ?_
        refine lv_iadd hx hb dX6_nextSpan_55 ?_
        refine lv_goto (tgt := 60) hx hb dX6_nextSpan_56 (by decide) ?_
        refine lv_istore (lv' := [(5, .int ((nI oo + 1))), (6, .int (nI h)), (4, .int (mk (tsB τ nl i) 20)), (0, .ref (ad 0)), (1, .int s9), (2, .int f9), (3, .int n9)]) hx hb dX6_nextSpan_60 hl (by decide) rfl (fun ls hl => ?_)
        refine lv_iload hx hb dX6_nextSpan_62 (lv_at hl 0 rfl) ?_
        refine lv_iload_n hx hb dX6_nextSpan_64 rfl (lv_at hl 6 rfl) ?_
        refine lv_icmp_ne (tgt := 75) hx hb dX6_nextSpan_65 (by decide) (fun c_65 => ?_) (fun c_65 => ?_)
        · refine lv_iinc (v := nI h + 1) (lv' := [(6, .int (nI h + 1)), (5, .int ((nI oo + 1))), (4, .int (mk (tsB τ nl i) 20)), (0, .ref (ad 0)), (1, .int s9), (2, .int f9), (3, .int n9)]) hx hb dX6_nextSpan_75 hl (k := 1) rfl rfl (by decide) rfl (fun ls hl => ?_)
          refine lv_goto (tgt := 33) hx hb dX6_nextSpan_78 (by decide) ?_
          have hfs : mk (haB τ nl (mk (tsB τ nl i) 20) h) 20 = hoS τ s9 (nI h) := by rw [hia, hoS_eq hnl hcs]
          have hfr : (fun h => hoS τ s9 (nI h) == 0) h = true := by show (hoS τ s9 (nI h) == 0) = _; rw [← hfs]; exact beq_iff_eq.mpr c_49
          have hif : (if (fun h => hoS τ s9 (nI h) == 0) h = true then nI oo + 1 else 0) = nI oo + 1 := by rw [hfr]; rfl
          rw [nsp_go (by rw [hif]; exact c_65), hif, nI_1] at hR
          refine ih (oo + 1) _ ls (by omega) hR HS ?_
          have hl := lv_sub (l' := [(6, .int (nI h + 1)), (5, .int ((nI oo + 1))), (4, .int (mk (tsB τ nl i) 20)), (0, .ref (ad 0)), (1, .int s9), (2, .int f9), (3, .int n9)]) hl [0, 1, 2, 3, 4, 5, 6] rfl
          rw [nI_1 h, nI_1 oo] at hl
          exact hl
        · refine lv_iload hx hb dX6_nextSpan_68 (lv_at hl 1 rfl) ?_
          refine lv_iload_n hx hb dX6_nextSpan_70 rfl (lv_at hl 6 rfl) ?_
          refine lv_isub hx hb dX6_nextSpan_71 ?_
          refine lv_iconst (v := 1) hx hb dX6_nextSpan_72 (by decide) ?_
          refine lv_iadd hx hb dX6_nextSpan_73 ?_
          have hfs : mk (haB τ nl (mk (tsB τ nl i) 20) h) 20 = hoS τ s9 (nI h) := by rw [hia, hoS_eq hnl hcs]
          have hfr : (fun h => hoS τ s9 (nI h) == 0) h = true := by show (hoS τ s9 (nI h) == 0) = _; rw [← hfs]; exact beq_iff_eq.mpr c_49
          have hif : (if (fun h => hoS τ s9 (nI h) == 0) h = true then nI oo + 1 else 0) = nI oo + 1 := by rw [hfr]; rfl
          exact ro_MT (ro_iretM MC HS hr (⟨aq_nextSpan_3 hf_6 hf_7 hf_8, by rw [hR, nsp_stop (by rw [hif]; exact c_65)], aft.rf hX hI⟩) (Nat.le_of_ble_eq_true rfl) (Nat.le_of_ble_eq_true rfl) dX6_nextSpan_74)
  exact loop ff9 (by omega) 0 _ ls (by omega) (by rw [rt_nextSpan, hfc]; rfl) HS (lv_sub hl [0, 1, 2, 3, 4, 5, 6] (by rw [← hfa]; rfl))
end
section
section OB
variable {p : Program} {l : Launch} {e : Env} {R : Room} {s : State} {m : MethodId} {args : Array Value} {below : List Frame} {meth : Method} {c : Code} {H : Heap} {locs : List Loc} {cells slots : Nat} {Q : State → Prop}
variable {cc : ByteArray} {nL : Nat} {own : String} {D : va_G} {ids : Nat → ClassId} {n0 : Nat} {pc : Nat} {ls : Array Slot} {rest : List Value}
/-- over Object's constructor -/
theorem ro_obj (MC : ro_C p s m args meth c cc nL own D ids n0) {idx a : Nat} (hlink : Cond.methodLink own idx Lib.objectInit ∈ uU) (hinst : Cond.instanceMethod Lib.objectInit ∈ uU) (hcode : Cond.code Lib.objectInit ⟨#[0xb1]⟩ 1 none ∈ uU) (hsize : ls.size = nL) (hdg : decode cc pc = .ok (.invokespecial idx, 3)) (hR : 1 ≤ R.frames ∧ (rest.map fun v => v.category).sum + 12 ≤ R.locals)
    (kk : W p l e R s m args below meth c H locs cells slots Q (F0 m (pc + 3) ls rest)) : W p l e R s m args below meth c H locs cells slots Q (F0 m pc ls (.ref a :: rest)) := by
  obtain ⟨⟨hx, hb, hml, hown, hts⟩, hE, -⟩ := MC
  intro T hT X
  obtain ⟨vm', X', st⟩ := X.initObject hx hown (hts _ hlink) (hts _ hinst) (hts _ hcode) (g := F0 m pc ls (.ref a :: rest)) rfl (hsize.trans hml.symm) rfl (by rw [hb]; exact hdg) hR.1 (by rw [show (F0 m pc ls (.ref a :: rest)).monitorRoom = 0 from rfl]; have := hR.2; omega)
  obtain ⟨t2, a1, b1⟩ := kk (T.setVm vm') hT X'
  exact ⟨t2, st t2 a1, b1⟩
end OB
theorem xoF_ad {τ : Tau} {ad ad1 : Nat → Nat} (h : ∀ r, r < 18 → ad1 r = ad r) : xoF τ ad1 = xoF τ ad := by
  simp only [xoF, h 1 (by omega), h 2 (by omega), h 3 (by omega), h 4 (by omega), h 5 (by omega), h 6 (by omega)]
theorem isR.addF {RR : List Nat} {nl nc : Nat} (h : isR RR nl nc) (hnl : nl < 20) : isR (RR ++ [40 + nl]) (nl + 1) nc := by
  intro r
  rw [List.mem_append, h r, List.mem_singleton]
  omega
theorem isR.addC {RR : List Nat} {nl nc : Nat} (h : isR RR nl nc) : isR (RR ++ [60 + nc]) nl (nc + 1) := by
  intro r
  rw [List.mem_append, h r, List.mem_singleton]
  omega
theorem isR.nf {RR : List Nat} {nl nc : Nat} (h : isR RR nl nc) (hnl : nl < 20) : 40 + nl ∉ RR := fun h9 => by have := (h _).mp h9; omega
theorem isR.nc {RR : List Nat} {nl nc : Nat} (h : isR RR nl nc) (hnl : nl ≤ 20) : 60 + nc ∉ RR := fun h9 => by have := (h _).mp h9; omega
theorem lay_k3b {τ : Tau} {ad : Nat → Nat} {nl q : Nat} {ff : Nat → Option Nat} (h3b : ∀ k, k < 20 → ff k = if k < nl ∧ τ 4 k = 0 then some (ad (40 + k)) else none) (hz : τ 4 nl = 0) : ∀ k, k < 20 → va_up ff nl (some (va_up ad (40 + nl) q (40 + nl))) k = if k < nl + 1 ∧ τ 4 k = 0 then some (va_up ad (40 + nl) q (40 + k)) else none := by
  intro k hk
  by_cases h : k = nl
  · subst h
    rw [va_up_self, if_pos ⟨by omega, hz⟩]
  · rw [va_up_ne _ _ h, va_up_ne _ _ (by omega), h3b k hk]
    by_cases h9 : k < nl
    · simp [h9, show k < nl + 1 by omega]
    · simp [h9, show ¬ k < nl + 1 by omega]
theorem lay_old {τ : Tau} {nw ns nl nc : Nat} (hI : Iv τ nw ns nl nc) {ad : Nat → Nat} {q : Nat} {how s d a b r : Int32} {k : Nat} (hk : k < nl) : frE (nx_lays τ how s d a b r) (va_up ad (40 + nl) q) k = frE τ ad k := by
  have hnl := hI.2.2.1.2
  have hcn : cx (τ 0 2) = nl := by rw [hI.2.2.1.1]; exact cx_nI (by omega)
  obtain ⟨-, -, ⟨d9, hd, h9⟩, -⟩ := hI.2.2.2.2.2.2.2.2.2.1 k hk
  have h8 : cx (τ 7 k) = d9 := by rw [h9]; exact cx_nI (by omega)
  have e5 : nx_lays τ how s d a b r 5 k = τ 5 k := by show upd (τ 5) (cx (τ 0 2)) how k = _; rw [hcn]; exact upd_ne _ _ (by omega)
  have e6 : nx_lays τ how s d a b r 6 k = τ 6 k := by show upd (τ 6) (cx (τ 0 2)) s k = _; rw [hcn]; exact upd_ne _ _ (by omega)
  have e7 : nx_lays τ how s d a b r 7 k = τ 7 k := by show upd (τ 7) (cx (τ 0 2)) d k = _; rw [hcn]; exact upd_ne _ _ (by omega)
  have e8 : nx_lays τ how s d a b r 8 k = τ 8 k := by show upd (τ 8) (cx (τ 0 2)) a k = _; rw [hcn]; exact upd_ne _ _ (by omega)
  have e9 : nx_lays τ how s d a b r 9 k = τ 9 k := by show upd (τ 9) (cx (τ 0 2)) b k = _; rw [hcn]; exact upd_ne _ _ (by omega)
  have e10 : nx_lays τ how s d a b r 10 k = τ 10 k := by show upd (τ 10) (cx (τ 0 2)) r k = _; rw [hcn]; exact upd_ne _ _ (by omega)
  simp only [frE, e5, e6, e7, e8, e9, e10]
  rw [va_up_ne ad q (show 7 + cx (τ 7 k) ≠ 40 + nl by omega)]
theorem st_lay {τ : Tau} {nw ns nl nc : Nat} (hI : Iv τ nw ns nl nc) (hlt : nl < 20) {how s d a b r : Int32} : nI (cntS τ) + 1 = nI (cntS (nx_lays τ how s d a b r)) := by
  have hcn : cx (τ 0 2) = nl := by rw [hI.2.2.1.1]; exact cx_nI (by omega)
  have h1 : cx (τ 0 2 + 1) = nl + 1 := by rw [hI.2.2.1.1, nI_1]; exact cx_nI (by omega)
  have hz : τ 4 nl = 0 := hI.2.2.2.2.2.2.2.2.1 nl (Nat.le_refl _) hlt
  have e : cntS (nx_lays τ how s d a b r) = cntS τ + 1 := by
    show ct (fun k => τ 4 k == 0) (cx (τ 0 2 + 1)) = ct (fun k => τ 4 k == 0) (cx (τ 0 2)) + 1
    rw [h1, hcn, ct, hz]; rfl
  rw [e, nI_1]
theorem pln_k4b {ad : Nat → Nat} {nc q : Nat} {cf : Nat → Option Nat} (h4b : ∀ k, k < 30 → cf k = if k < nc then some (ad (60 + k)) else none) : ∀ k, k < 30 → va_up cf nc (some (va_up ad (60 + nc) q (60 + nc))) k = if k < nc + 1 then some (va_up ad (60 + nc) q (60 + k)) else none := by
  intro k hk
  by_cases h : k = nc
  · subst h
    rw [va_up_self, if_pos (by omega)]
  · rw [va_up_ne _ _ h, va_up_ne _ _ (by omega), h4b k hk]
    by_cases h9 : k < nc
    · simp [h9, show k < nc + 1 by omega]
    · simp [h9, show ¬ k < nc + 1 by omega]
theorem pln_old {τ : Tau} {nw ns nl nc : Nat} (hI : Iv τ nw ns nl nc) {s f n r : Int32} {k : Nat} (hk : k < nc) : chF (nx_plan τ s f n r) k = chF τ k := by
  have hnc := hI.2.2.2.1.2
  have hcn : cx (τ 0 3) = nc := by rw [hI.2.2.2.1.1]; exact cx_nI (by omega)
  have e5 : ∀ i x, upd (τ i) nc x k = τ i k := fun i x => upd_ne _ _ (by omega)
  unfold nx_plan
  rw [hcn]
  show ([.int (upd (τ 11) nc s k), .int (upd (τ 13) nc n k), .int (upd (τ 14) nc r k), .int (upd (τ 12) nc f k), .int (τ 15 k), .int (τ 16 k), .int (bI (¬ upd (τ 17) nc (-1) k = -1)), .int (if upd (τ 17) nc (-1) k = -1 then 20 else upd (τ 17) nc (-1) k)] : List Value) = _
  rw [e5 11, e5 12, e5 13, e5 14, e5 17]
end
section
set_option maxHeartbeats 4000000 in
set_option maxRecDepth 100000 in
theorem x_iChange {l : Launch} {D : va_G} {ids : Nat → ClassId} {n0 : Nat} {RR : List Nat} {ad : Nat → Nat} {cn : Nat → va_E} {Hh : Heap} (HP : ro_P D n0 RR ad cn Hh) {r : Nat} (hr9 : r ∈ RR) {s1 : Int32} {b1 : Int32} {n1 : Int32} {r1 : Int32} (hf : cn r = .inr (0, [.int 0, .int 0, .int 0, .int 0, .int 0, .int 0, .int 0, .int 0])) : ro_M l yX0_init cX0_init 5 none { frames := 1, cells := 0, slots := 0, locals := 30 } D ids n0 [.ref (ad r), .int s1, .int b1, .int n1, .int r1] Hh (fun v H1 => v = none ∧ ∃ cn1, ro_P D n0 RR ad cn1 H1 ∧ cn1 r = .inr (0, [.int s1, .int n1, .int r1, .int b1, .int 0, .int 0, .int 0, .int 20]) ∧ ∀ j, j ≠ r → cn1 j = cn j) := by
  refine ro_ofM (by decide +kernel) (Nat.le_of_ble_eq_true rfl) ?_
  intro p e s m below meth c MC hhp hr hnm HS ls hl
  have hx := MC.1.1
  have hb := MC.1.2.1
  have hl : lv_has ls 5 [(0, .ref (ad r)), (1, .int s1), (2, .int b1), (3, .int n1), (4, .int r1)] := hl
  refine lv_aload_n hx hb dX0_init_0 rfl (lv_at hl 0 rfl) ?_
  refine ro_obj MC kw400 kw38 kw39 hl.1 dX0_init_1 ⟨Nat.le_of_ble_eq_true rfl, Nat.le_of_ble_eq_true rfl⟩ ?_
  refine lv_aload_n hx hb dX0_init_4 rfl (lv_at hl 0 rfl) ?_
  refine lv_bipush (v := 20) hx hb dX0_init_5 (by decide) ?_
  refine ro_put MC HP HS hr9 hf (rfl : vwCl[0]? = some (RX0, TX0, 8)) inU0 tyX0_ok nmX0 7 (by decide) kw412 rfl rfl rfl rfl (Nat.le_of_ble_eq_true rfl) dX0_init_7 (fun H1 lH1 HP HS => ?_)
  refine lv_aload_n hx hb dX0_init_10 rfl (lv_at hl 0 rfl) ?_
  refine lv_iload_n hx hb dX0_init_11 rfl (lv_at hl 1 rfl) ?_
  refine ro_putF MC (hnm.trans rfl) HP HS hr9 (va_up_self ..) (rfl : vwCl[0]? = some (RX0, TX0, 8)) inU0 tyX0_ok nmX0 0 (by decide) kw401 rfl rfl rfl rfl (Nat.le_of_ble_eq_true rfl) dX0_init_12 (fun H2 lH2 HP HS => ?_)
  refine lv_aload_n hx hb dX0_init_15 rfl (lv_at hl 0 rfl) ?_
  refine lv_iload_n hx hb dX0_init_16 rfl (lv_at hl 2 rfl) ?_
  refine ro_put MC HP HS hr9 (va_up_self ..) (rfl : vwCl[0]? = some (RX0, TX0, 8)) inU0 tyX0_ok nmX0 3 (by decide) kw407 rfl rfl rfl rfl (Nat.le_of_ble_eq_true rfl) dX0_init_17 (fun H3 lH3 HP HS => ?_)
  refine lv_aload_n hx hb dX0_init_20 rfl (lv_at hl 0 rfl) ?_
  refine lv_iload_n hx hb dX0_init_21 rfl (lv_at hl 3 rfl) ?_
  refine ro_putF MC (hnm.trans rfl) HP HS hr9 (va_up_self ..) (rfl : vwCl[0]? = some (RX0, TX0, 8)) inU0 tyX0_ok nmX0 1 (by decide) kw403 rfl rfl rfl rfl (Nat.le_of_ble_eq_true rfl) dX0_init_22 (fun H4 lH4 HP HS => ?_)
  refine lv_aload_n hx hb dX0_init_25 rfl (lv_at hl 0 rfl) ?_
  refine lv_iload hx hb dX0_init_26 (lv_at hl 4 rfl) ?_
  refine ro_putF MC (hnm.trans rfl) HP HS hr9 (va_up_self ..) (rfl : vwCl[0]? = some (RX0, TX0, 8)) inU0 tyX0_ok nmX0 2 (by decide) kw405 rfl rfl rfl rfl (Nat.le_of_ble_eq_true rfl) dX0_init_28 (fun H5 lH5 HP HS => ?_)
  exact ro_vretM MC HS hr (⟨rfl, _, HP, va_up_self .., fun j hj => ((va_up_ne _ _ hj).trans ((va_up_ne _ _ hj).trans ((va_up_ne _ _ hj).trans ((va_up_ne _ _ hj).trans (va_up_ne _ _ hj)))))⟩) (Nat.le_of_ble_eq_true rfl) (Nat.le_of_ble_eq_true rfl) dX0_init_31
set_option maxHeartbeats 4000000 in
set_option maxRecDepth 100000 in
theorem x_iLand {l : Launch} {D : va_G} {ids : Nat → ClassId} {n0 : Nat} {RR : List Nat} {ad : Nat → Nat} {cn : Nat → va_E} {Hh : Heap} (HP : ro_P D n0 RR ad cn Hh) {r : Nat} (hr9 : r ∈ RR)  (hf : cn r = .inr (4, [.int 0, .int 0])) : ro_M l yX5_init cX5_init 1 none { frames := 1, cells := 0, slots := 0, locals := 30 } D ids n0 [.ref (ad r)] Hh (fun v H1 => v = none ∧ ∃ cn1, ro_P D n0 RR ad cn1 H1 ∧ cn1 r = .inr (4, [.int 0, .int 0]) ∧ ∀ j, j ≠ r → cn1 j = cn j) := by
  refine ro_ofM (by decide +kernel) (Nat.le_of_ble_eq_true rfl) ?_
  intro p e s m below meth c MC hhp hr hnm HS ls hl
  have hx := MC.1.1
  have hb := MC.1.2.1
  have hl : lv_has ls 1 [(0, .ref (ad r))] := hl
  refine lv_aload_n hx hb dX5_init_0 rfl (lv_at hl 0 rfl) ?_
  refine ro_obj MC kw50 kw38 kw39 hl.1 dX5_init_1 ⟨Nat.le_of_ble_eq_true rfl, Nat.le_of_ble_eq_true rfl⟩ ?_
  exact ro_vretM MC HS hr (⟨rfl, _, HP, hf, fun j hj => rfl⟩) (Nat.le_of_ble_eq_true rfl) (Nat.le_of_ble_eq_true rfl) dX5_init_4
set_option maxHeartbeats 4000000 in
set_option maxRecDepth 100000 in
theorem x_iF1 {l : Launch} {D : va_G} {ids : Nat → ClassId} {n0 : Nat} {RR : List Nat} {ad : Nat → Nat} {cn : Nat → va_E} {Hh : Heap} (HP : ro_P D n0 RR ad cn Hh) {r : Nat} (hr9 : r ∈ RR) {s1 : Int32} {r1 : Int32} (hf : cn r = .inr (1, [.int 0, .int 0, .null, .int 0, .int 0])) : ro_M l yX1_init cX1_init 3 none { frames := 1, cells := 0, slots := 0, locals := 30 } D ids n0 [.ref (ad r), .int s1, .int r1] Hh (fun v H1 => v = none ∧ ∃ cn1, ro_P D n0 RR ad cn1 H1 ∧ cn1 r = .inr (1, [.int s1, .int r1, .null, .int 0, .int 0]) ∧ ∀ j, j ≠ r → cn1 j = cn j) := by
  refine ro_ofM (by decide +kernel) (Nat.le_of_ble_eq_true rfl) ?_
  intro p e s m below meth c MC hhp hr hnm HS ls hl
  have hx := MC.1.1
  have hb := MC.1.2.1
  have hl : lv_has ls 3 [(0, .ref (ad r)), (1, .int s1), (2, .int r1)] := hl
  refine lv_aload_n hx hb dX1_init_0 rfl (lv_at hl 0 rfl) ?_
  refine ro_obj MC kw257 kw38 kw39 hl.1 dX1_init_1 ⟨Nat.le_of_ble_eq_true rfl, Nat.le_of_ble_eq_true rfl⟩ ?_
  refine lv_aload_n hx hb dX1_init_4 rfl (lv_at hl 0 rfl) ?_
  refine lv_iload_n hx hb dX1_init_5 rfl (lv_at hl 1 rfl) ?_
  refine ro_putF MC (hnm.trans rfl) HP HS hr9 hf (rfl : vwCl[1]? = some (RX2, TX2, 5)) inU2 tyX2_ok nmX2 0 (by decide) kw260 rfl rfl rfl rfl (Nat.le_of_ble_eq_true rfl) dX1_init_6 (fun H1 lH1 HP HS => ?_)
  refine lv_aload_n hx hb dX1_init_9 rfl (lv_at hl 0 rfl) ?_
  refine lv_iload_n hx hb dX1_init_10 rfl (lv_at hl 2 rfl) ?_
  refine ro_putF MC (hnm.trans rfl) HP HS hr9 (va_up_self ..) (rfl : vwCl[1]? = some (RX2, TX2, 5)) inU2 tyX2_ok nmX2 1 (by decide) kw262 rfl rfl rfl rfl (Nat.le_of_ble_eq_true rfl) dX1_init_11 (fun H2 lH2 HP HS => ?_)
  exact ro_vretM MC HS hr (⟨rfl, _, HP, va_up_self .., fun j hj => ((va_up_ne _ _ hj).trans (va_up_ne _ _ hj))⟩) (Nat.le_of_ble_eq_true rfl) (Nat.le_of_ble_eq_true rfl) dX1_init_14
set_option maxHeartbeats 4000000 in
set_option maxRecDepth 100000 in
theorem x_iF2 {l : Launch} {D : va_G} {ids : Nat → ClassId} {n0 : Nat} {RR : List Nat} {ad : Nat → Nat} {cn : Nat → va_E} {Hh : Heap} (HP : ro_P D n0 RR ad cn Hh) {r : Nat} (hr9 : r ∈ RR) {s1 : Int32} {r1 : Int32} (hf : cn r = .inr (2, [.int 0, .int 0, .null])) : ro_M l yX1_init cX1_init 3 none { frames := 1, cells := 0, slots := 0, locals := 30 } D ids n0 [.ref (ad r), .int s1, .int r1] Hh (fun v H1 => v = none ∧ ∃ cn1, ro_P D n0 RR ad cn1 H1 ∧ cn1 r = .inr (2, [.int s1, .int r1, .null]) ∧ ∀ j, j ≠ r → cn1 j = cn j) := by
  refine ro_ofM (by decide +kernel) (Nat.le_of_ble_eq_true rfl) ?_
  intro p e s m below meth c MC hhp hr hnm HS ls hl
  have hx := MC.1.1
  have hb := MC.1.2.1
  have hl : lv_has ls 3 [(0, .ref (ad r)), (1, .int s1), (2, .int r1)] := hl
  refine lv_aload_n hx hb dX1_init_0 rfl (lv_at hl 0 rfl) ?_
  refine ro_obj MC kw257 kw38 kw39 hl.1 dX1_init_1 ⟨Nat.le_of_ble_eq_true rfl, Nat.le_of_ble_eq_true rfl⟩ ?_
  refine lv_aload_n hx hb dX1_init_4 rfl (lv_at hl 0 rfl) ?_
  refine lv_iload_n hx hb dX1_init_5 rfl (lv_at hl 1 rfl) ?_
  refine ro_putF MC (hnm.trans rfl) HP HS hr9 hf (rfl : vwCl[2]? = some (RX3, TX3, 3)) inU3 tyX3_ok nmX3 0 (by decide) kw260 rfl rfl rfl rfl (Nat.le_of_ble_eq_true rfl) dX1_init_6 (fun H1 lH1 HP HS => ?_)
  refine lv_aload_n hx hb dX1_init_9 rfl (lv_at hl 0 rfl) ?_
  refine lv_iload_n hx hb dX1_init_10 rfl (lv_at hl 2 rfl) ?_
  refine ro_putF MC (hnm.trans rfl) HP HS hr9 (va_up_self ..) (rfl : vwCl[2]? = some (RX3, TX3, 3)) inU3 tyX3_ok nmX3 1 (by decide) kw262 rfl rfl rfl rfl (Nat.le_of_ble_eq_true rfl) dX1_init_11 (fun H2 lH2 HP HS => ?_)
  exact ro_vretM MC HS hr (⟨rfl, _, HP, va_up_self .., fun j hj => ((va_up_ne _ _ hj).trans (va_up_ne _ _ hj))⟩) (Nat.le_of_ble_eq_true rfl) (Nat.le_of_ble_eq_true rfl) dX1_init_14
set_option maxHeartbeats 4000000 in
set_option maxRecDepth 100000 in
theorem x_iF3 {l : Launch} {D : va_G} {ids : Nat → ClassId} {n0 : Nat} {RR : List Nat} {ad : Nat → Nat} {cn : Nat → va_E} {Hh : Heap} (HP : ro_P D n0 RR ad cn Hh) {r : Nat} (hr9 : r ∈ RR) {s1 : Int32} {r1 : Int32} (hf : cn r = .inr (3, [.int 0, .int 0, .int 0, .int 0])) : ro_M l yX1_init cX1_init 3 none { frames := 1, cells := 0, slots := 0, locals := 30 } D ids n0 [.ref (ad r), .int s1, .int r1] Hh (fun v H1 => v = none ∧ ∃ cn1, ro_P D n0 RR ad cn1 H1 ∧ cn1 r = .inr (3, [.int s1, .int r1, .int 0, .int 0]) ∧ ∀ j, j ≠ r → cn1 j = cn j) := by
  refine ro_ofM (by decide +kernel) (Nat.le_of_ble_eq_true rfl) ?_
  intro p e s m below meth c MC hhp hr hnm HS ls hl
  have hx := MC.1.1
  have hb := MC.1.2.1
  have hl : lv_has ls 3 [(0, .ref (ad r)), (1, .int s1), (2, .int r1)] := hl
  refine lv_aload_n hx hb dX1_init_0 rfl (lv_at hl 0 rfl) ?_
  refine ro_obj MC kw257 kw38 kw39 hl.1 dX1_init_1 ⟨Nat.le_of_ble_eq_true rfl, Nat.le_of_ble_eq_true rfl⟩ ?_
  refine lv_aload_n hx hb dX1_init_4 rfl (lv_at hl 0 rfl) ?_
  refine lv_iload_n hx hb dX1_init_5 rfl (lv_at hl 1 rfl) ?_
  refine ro_putF MC (hnm.trans rfl) HP HS hr9 hf (rfl : vwCl[3]? = some (RX4, TX4, 4)) inU4 tyX4_ok nmX4 0 (by decide) kw260 rfl rfl rfl rfl (Nat.le_of_ble_eq_true rfl) dX1_init_6 (fun H1 lH1 HP HS => ?_)
  refine lv_aload_n hx hb dX1_init_9 rfl (lv_at hl 0 rfl) ?_
  refine lv_iload_n hx hb dX1_init_10 rfl (lv_at hl 2 rfl) ?_
  refine ro_putF MC (hnm.trans rfl) HP HS hr9 (va_up_self ..) (rfl : vwCl[3]? = some (RX4, TX4, 4)) inU4 tyX4_ok nmX4 1 (by decide) kw262 rfl rfl rfl rfl (Nat.le_of_ble_eq_true rfl) dX1_init_11 (fun H2 lH2 HP HS => ?_)
  exact ro_vretM MC HS hr (⟨rfl, _, HP, va_up_self .., fun j hj => ((va_up_ne _ _ hj).trans (va_up_ne _ _ hj))⟩) (Nat.le_of_ble_eq_true rfl) (Nat.le_of_ble_eq_true rfl) dX1_init_14
set_option maxHeartbeats 4000000 in
set_option maxRecDepth 100000 in
theorem x_iOnce {l : Launch} {D : va_G} {ids : Nat → ClassId} {n0 : Nat} {RR : List Nat} {ad : Nat → Nat} {cn : Nat → va_E} {Hh : Heap} (HP : ro_P D n0 RR ad cn Hh) {r : Nat} (hr9 : r ∈ RR) {s1 : Int32} {r1 : Int32} {f1 : Int32} {t1 : Int32} (hf : cn r = .inr (3, [.int 0, .int 0, .int 0, .int 0])) : ro_M l yX4_init cX4_init 5 none { frames := 2, cells := 0, slots := 0, locals := 60 } D ids n0 [.ref (ad r), .int s1, .int r1, .int f1, .int t1] Hh (fun v H1 => v = none ∧ ∃ cn1, ro_P D n0 RR ad cn1 H1 ∧ cn1 r = .inr (3, [.int s1, .int r1, .int f1, .int t1]) ∧ ∀ j, j ≠ r → cn1 j = cn j) := by
  refine ro_ofM (by decide +kernel) (Nat.le_of_ble_eq_true rfl) ?_
  intro p e s m below meth c MC hhp hr hnm HS ls hl
  have hx := MC.1.1
  have hb := MC.1.2.1
  have hl : lv_has ls 5 [(0, .ref (ad r)), (1, .int s1), (2, .int r1), (3, .int f1), (4, .int t1)] := hl
  refine lv_aload_n hx hb dX4_init_0 rfl (lv_at hl 0 rfl) ?_
  refine lv_iload_n hx hb dX4_init_1 rfl (lv_at hl 1 rfl) ?_
  refine lv_iload_n hx hb dX4_init_2 rfl (lv_at hl 2 rfl) ?_
  refine ro_callI MC HS (rest := []) (As := [.int s1, .int r1]) (x_iF3 HP hr9 hf) (lkX4_1) (kw255) (rfl) ⟨Nat.le_of_ble_eq_true rfl, Nat.le_of_ble_eq_true rfl⟩ hl.1 rfl (Nat.le_of_ble_eq_true rfl) dX4_init_3 ⟨Nat.le_of_ble_eq_true rfl, Nat.le_of_ble_eq_true rfl⟩ (fun v9 H1 lH1 hp hz HS => ?_)
  obtain ⟨rfl, cn1, HP, hf1, hn1⟩ := hp
  refine lv_aload_n hx hb dX4_init_6 rfl (lv_at hl 0 rfl) ?_
  refine lv_iload_n hx hb dX4_init_7 rfl (lv_at hl 3 rfl) ?_
  refine ro_putF MC (hnm.trans rfl) HP HS hr9 hf1 (rfl : vwCl[3]? = some (RX4, TX4, 4)) inU4 tyX4_ok nmX4 2 (by decide) kw258 rfl rfl rfl rfl (Nat.le_of_ble_eq_true rfl) dX4_init_8 (fun H2 lH2 HP HS => ?_)
  refine lv_aload_n hx hb dX4_init_11 rfl (lv_at hl 0 rfl) ?_
  refine lv_iload hx hb dX4_init_12 (lv_at hl 4 rfl) ?_
  refine ro_putF MC (hnm.trans rfl) HP HS hr9 (va_up_self ..) (rfl : vwCl[3]? = some (RX4, TX4, 4)) inU4 tyX4_ok nmX4 3 (by decide) kw259 rfl rfl rfl rfl (Nat.le_of_ble_eq_true rfl) dX4_init_14 (fun H3 lH3 HP HS => ?_)
  exact ro_vretM MC HS hr (⟨rfl, _, HP, va_up_self .., fun j hj => ((va_up_ne _ _ hj).trans ((va_up_ne _ _ hj).trans (hn1 j hj)))⟩) (Nat.le_of_ble_eq_true rfl) (Nat.le_of_ble_eq_true rfl) dX4_init_17
set_option maxHeartbeats 4000000 in
set_option maxRecDepth 100000 in
theorem x_iDaily {l : Launch} {D : va_G} {ids : Nat → ClassId} {n0 : Nat} {RR : List Nat} {ad : Nat → Nat} {cn : Nat → va_E} {Hh : Heap} (HP : ro_P D n0 RR ad cn Hh) {r : Nat} (hr9 : r ∈ RR) {s1 : Int32} {r1 : Int32} {b1 : Nat} {f1 : Int32} {t1 : Int32} (hf : cn r = .inr (1, [.int 0, .int 0, .null, .int 0, .int 0])) : ro_M l yX2_init cX2_init 6 none { frames := 2, cells := 0, slots := 0, locals := 60 } D ids n0 [.ref (ad r), .int s1, .int r1, .ref b1, .int f1, .int t1] Hh (fun v H1 => v = none ∧ ∃ cn1, ro_P D n0 RR ad cn1 H1 ∧ cn1 r = .inr (1, [.int s1, .int r1, .ref b1, .int f1, .int t1]) ∧ ∀ j, j ≠ r → cn1 j = cn j) := by
  refine ro_ofM (by decide +kernel) (Nat.le_of_ble_eq_true rfl) ?_
  intro p e s m below meth c MC hhp hr hnm HS ls hl
  have hx := MC.1.1
  have hb := MC.1.2.1
  have hl : lv_has ls 6 [(0, .ref (ad r)), (1, .int s1), (2, .int r1), (3, .ref b1), (4, .int f1), (5, .int t1)] := hl
  refine lv_aload_n hx hb dX2_init_0 rfl (lv_at hl 0 rfl) ?_
  refine lv_iload_n hx hb dX2_init_1 rfl (lv_at hl 1 rfl) ?_
  refine lv_iload_n hx hb dX2_init_2 rfl (lv_at hl 2 rfl) ?_
  refine ro_callI MC HS (rest := []) (As := [.int s1, .int r1]) (x_iF1 HP hr9 hf) (lkX2_1) (kw255) (rfl) ⟨Nat.le_of_ble_eq_true rfl, Nat.le_of_ble_eq_true rfl⟩ hl.1 rfl (Nat.le_of_ble_eq_true rfl) dX2_init_3 ⟨Nat.le_of_ble_eq_true rfl, Nat.le_of_ble_eq_true rfl⟩ (fun v9 H1 lH1 hp hz HS => ?_)
  obtain ⟨rfl, cn1, HP, hf1, hn1⟩ := hp
  refine lv_aload_n hx hb dX2_init_6 rfl (lv_at hl 0 rfl) ?_
  refine lv_aload_n hx hb dX2_init_7 rfl (lv_at hl 3 rfl) ?_
  refine ro_putF MC (hnm.trans rfl) HP HS hr9 hf1 (rfl : vwCl[1]? = some (RX2, TX2, 5)) inU2 tyX2_ok nmX2 2 (by decide) kw287 rfl rfl rfl rfl (Nat.le_of_ble_eq_true rfl) dX2_init_8 (fun H2 lH2 HP HS => ?_)
  refine lv_aload_n hx hb dX2_init_11 rfl (lv_at hl 0 rfl) ?_
  refine lv_iload hx hb dX2_init_12 (lv_at hl 4 rfl) ?_
  refine ro_putF MC (hnm.trans rfl) HP HS hr9 (va_up_self ..) (rfl : vwCl[1]? = some (RX2, TX2, 5)) inU2 tyX2_ok nmX2 3 (by decide) kw288 rfl rfl rfl rfl (Nat.le_of_ble_eq_true rfl) dX2_init_14 (fun H3 lH3 HP HS => ?_)
  refine lv_aload_n hx hb dX2_init_17 rfl (lv_at hl 0 rfl) ?_
  refine lv_iload hx hb dX2_init_18 (lv_at hl 5 rfl) ?_
  refine ro_putF MC (hnm.trans rfl) HP HS hr9 (va_up_self ..) (rfl : vwCl[1]? = some (RX2, TX2, 5)) inU2 tyX2_ok nmX2 4 (by decide) kw289 rfl rfl rfl rfl (Nat.le_of_ble_eq_true rfl) dX2_init_20 (fun H4 lH4 HP HS => ?_)
  exact ro_vretM MC HS hr (⟨rfl, _, HP, va_up_self .., fun j hj => ((va_up_ne _ _ hj).trans ((va_up_ne _ _ hj).trans ((va_up_ne _ _ hj).trans (hn1 j hj))))⟩) (Nat.le_of_ble_eq_true rfl) (Nat.le_of_ble_eq_true rfl) dX2_init_23
set_option maxHeartbeats 4000000 in
set_option maxRecDepth 100000 in
theorem x_iFeasts {l : Launch} {D : va_G} {ids : Nat → ClassId} {n0 : Nat} {RR : List Nat} {ad : Nat → Nat} {cn : Nat → va_E} {Hh : Heap} (HP : ro_P D n0 RR ad cn Hh) {r : Nat} (hr9 : r ∈ RR) {s1 : Int32} {r1 : Int32} {b1 : Nat} (hf : cn r = .inr (2, [.int 0, .int 0, .null])) : ro_M l yX3_init cX3_init 4 none { frames := 2, cells := 0, slots := 0, locals := 60 } D ids n0 [.ref (ad r), .int s1, .int r1, .ref b1] Hh (fun v H1 => v = none ∧ ∃ cn1, ro_P D n0 RR ad cn1 H1 ∧ cn1 r = .inr (2, [.int s1, .int r1, .ref b1]) ∧ ∀ j, j ≠ r → cn1 j = cn j) := by
  refine ro_ofM (by decide +kernel) (Nat.le_of_ble_eq_true rfl) ?_
  intro p e s m below meth c MC hhp hr hnm HS ls hl
  have hx := MC.1.1
  have hb := MC.1.2.1
  have hl : lv_has ls 4 [(0, .ref (ad r)), (1, .int s1), (2, .int r1), (3, .ref b1)] := hl
  refine lv_aload_n hx hb dX3_init_0 rfl (lv_at hl 0 rfl) ?_
  refine lv_iload_n hx hb dX3_init_1 rfl (lv_at hl 1 rfl) ?_
  refine lv_iload_n hx hb dX3_init_2 rfl (lv_at hl 2 rfl) ?_
  refine ro_callI MC HS (rest := []) (As := [.int s1, .int r1]) (x_iF2 HP hr9 hf) (lkX3_1) (kw255) (rfl) ⟨Nat.le_of_ble_eq_true rfl, Nat.le_of_ble_eq_true rfl⟩ hl.1 rfl (Nat.le_of_ble_eq_true rfl) dX3_init_3 ⟨Nat.le_of_ble_eq_true rfl, Nat.le_of_ble_eq_true rfl⟩ (fun v9 H1 lH1 hp hz HS => ?_)
  obtain ⟨rfl, cn1, HP, hf1, hn1⟩ := hp
  refine lv_aload_n hx hb dX3_init_6 rfl (lv_at hl 0 rfl) ?_
  refine lv_aload_n hx hb dX3_init_7 rfl (lv_at hl 3 rfl) ?_
  refine ro_putF MC (hnm.trans rfl) HP HS hr9 hf1 (rfl : vwCl[2]? = some (RX3, TX3, 3)) inU3 tyX3_ok nmX3 2 (by decide) kw309 rfl rfl rfl rfl (Nat.le_of_ble_eq_true rfl) dX3_init_8 (fun H2 lH2 HP HS => ?_)
  exact ro_vretM MC HS hr (⟨rfl, _, HP, va_up_self .., fun j hj => ((va_up_ne _ _ hj).trans (hn1 j hj))⟩) (Nat.le_of_ble_eq_true rfl) (Nat.le_of_ble_eq_true rfl) dX3_init_11
set_option maxHeartbeats 4000000 in
set_option maxRecDepth 100000 in
theorem x_lay {l : Launch} {D : va_G} {ids : Nat → ClassId} {n0 : Nat} {RR : List Nat} {ad : Nat → Nat} {cn : Nat → va_E} {Hh : Heap} (HP : ro_P D n0 RR ad cn Hh) {τ : Tau} {nw ns nl nc : Nat} (hI : Iv τ nw ns nl nc) (hlt : nl < 20) {ff : Nat → Option Nat} (h0R : 0 ∈ RR) (h3R : 3 ∈ RR) (hFR : 40 + nl ∈ RR) (h0 : cn 0 = .inr (5, xoF τ ad)) (h3 : cn 3 = .inl (ids 4, 20, .inr (.inr (.inr (.inr ff))))) {ci : Nat} {vs : List Value} {q9 : vw_C} (hF : cn (40 + nl) = .inr (ci, vs)) (hvc : vwCl[ci]? = some q9) (hcast : (q9.1, "FrostCalendar$Freeze") ∈ uNc) : ro_M l yX6_lay cX6_lay 3 (some FieldType.int) { frames := 0, cells := 0, slots := 0, locals := 0 } D ids n0 [.ref (ad 0), .ref (ad (40 + nl))] Hh (fun v H1 => v = some (.int (τ 0 2)) ∧ ∃ cn1, ro_P D n0 RR ad cn1 H1 ∧ cn1 0 = .inr (5, ((xoF τ ad).set 5 (.int (τ 0 2 + 1))).set 6 (.int (nI (cntS τ) + 1))) ∧ cn1 3 = .inl (ids 4, 20, .inr (.inr (.inr (.inr (va_up ff nl (some (ad (40 + nl)))))))) ∧ ∀ j, j ≠ 0 → j ≠ 3 → cn1 j = cn j) := by
  refine ro_ofM (by decide +kernel) (Nat.le_of_ble_eq_true rfl) ?_
  intro p e s m below meth c MC hhp hr hnm HS ls hl
  have hx := MC.1.1
  have hb := MC.1.2.1
  have hl : lv_has ls 3 [(0, .ref (ad 0)), (1, .ref (ad (40 + nl)))] := hl
  refine lv_aload_n hx hb dX6_lay_0 rfl (lv_at hl 0 rfl) ?_
  refine ro_get MC HP h0R h0 (rfl : vwCl[5]? = some (RX6, TX6, 11)) inU6 5 (by decide) kw66 rfl rfl dX6_lay_1 ?_
  refine lv_istore_n (lv' := [(2, .int (τ 0 2)), (0, .ref (ad 0)), (1, .ref (ad (40 + nl)))]) hx hb dX6_lay_4 rfl hl (by decide) rfl (fun ls hl => ?_)
  refine lv_aload_n hx hb dX6_lay_5 rfl (lv_at hl 1 rfl) ?_
  refine ro_get MC HP h0R h0 (rfl : vwCl[5]? = some (RX6, TX6, 11)) inU6 4 (by decide) kw65 rfl rfl dX6_lay_6 ?_
  refine lv_iload_n hx hb dX6_lay_9 rfl (lv_at hl 0 rfl) ?_
  refine lv_aload_n hx hb dX6_lay_10 rfl (lv_at hl 2 rfl) ?_
  refine xo_aastM MC HP HS 4 h3R h3 rfl (ro_any MC.2.1 HP hFR hF hvc hcast) nl (show nl < 20 by omega) (by omega) hI.2.2.1.1 dX6_lay_11 (fun H1 lH1 HP HS => ?_)
  refine lv_aload_n hx hb dX6_lay_12 rfl (lv_at hl 1 rfl) ?_
  refine lv_iload_n hx hb dX6_lay_13 rfl (lv_at hl 0 rfl) ?_
  refine lv_iconst (v := 1) hx hb dX6_lay_14 (by decide) ?_
  refine lv_iadd hx hb dX6_lay_15 ?_
  refine ro_put MC HP HS h0R ((va_up_ne _ _ (by omega)).trans h0) (rfl : vwCl[5]? = some (RX6, TX6, 11)) inU6 tyX6_ok nmX6 5 (by decide) kw66 rfl rfl rfl rfl (Nat.le_of_ble_eq_true rfl) dX6_lay_16 (fun H2 lH2 HP HS => ?_)
  refine lv_aload_n hx hb dX6_lay_19 rfl (lv_at hl 1 rfl) ?_
  refine lv_dup hx hb dX6_lay_20 rfl ?_
  refine ro_get MC HP h0R (va_up_self ..) (rfl : vwCl[5]? = some (RX6, TX6, 11)) inU6 6 (by decide) kw67 rfl rfl dX6_lay_21 ?_
  refine lv_iconst (v := 1) hx hb dX6_lay_24 (by decide) ?_
  refine lv_iadd hx hb dX6_lay_25 ?_
  refine ro_put MC HP HS h0R (va_up_self ..) (rfl : vwCl[5]? = some (RX6, TX6, 11)) inU6 tyX6_ok nmX6 6 (by decide) kw67 rfl rfl rfl rfl (Nat.le_of_ble_eq_true rfl) dX6_lay_26 (fun H3 lH3 HP HS => ?_)
  refine lv_iload_n hx hb dX6_lay_29 rfl (lv_at hl 0 rfl) ?_
  exact ro_iretM MC HS hr (⟨rfl, _, HP, va_up_self .., ((va_up_ne _ _ (by omega)).trans ((va_up_ne _ _ (by omega)).trans (va_up_self ..))), fun j hj0 hj3 => ((va_up_ne _ _ hj0).trans ((va_up_ne _ _ hj0).trans (va_up_ne _ _ hj3)))⟩) (Nat.le_of_ble_eq_true rfl) (Nat.le_of_ble_eq_true rfl) dX6_lay_30
end
section
section EE
variable {p : Program} {l : Launch} {e : Env} {R : Room} {s : State} {m : MethodId} {args : Array Value} {below : List Frame} {meth : Method} {c : Code} {H : Heap} {locs : List Loc} {cells slots : Nat} {Q : State → Prop}
variable {cc : ByteArray} {nL : Nat} {own : String} {D : va_G} {ids : Nat → ClassId} {n0 : Nat} {RR : List Nat} {ad : Nat → Nat} {cn : Nat → va_E} {pc : Nat} {ls : Array Slot} {rest : List Value}
theorem ro_putE {a9 : Nat} (MC : ro_C p s m args meth c cc nL own D ids n0) (HP : ro_P D n0 RR ad cn H) (HS : va_S (fun q => n0 ≤ q) s.heap H locs) {r : Nat} (ha9 : ad r = a9) (hr : r ∈ RR) {ci N : Nat} {C ref : String} {T : u_T} {fs : List Value} (hf : cn r = .inr (ci, fs)) (hc : vwCl[ci]? = some (C, T, N)) (hin : ∀ w ∈ u_ws C T N, w ∈ uU) {ty0 : Nat → FieldType} (hty : ∀ k, k < N → parseFieldDescriptor (T k).2.2.1 = some (ty0 k)) (hnm : ∀ a, a < N → ∀ b, b < N → a ≠ b → (T a).2.1 ≠ (T b).2.1) (k : Nat) (hk : k < N) {index : Nat} (hlink : Cond.fieldLink own index ref (T k).2.1 (T k).2.2.1 ∈ uU) (hsame : (T k).1 = ref) (hfin : (T k).2.2.2 = false) {v : Value} (hn : narrow (ty0 k) v = v) (hfit : fits (ty0 k) v = true) (hl : k < fs.length) (hdg : decode cc pc = .ok (.putfield index, 3))
    (kk : ∀ (H1 : Heap) (locs1 : List Loc), ro_P D n0 RR ad (va_up cn r (.inr (ci, fs.set k v))) H1 → va_S (fun q => n0 ≤ q) s.heap H1 locs1 → W p l e R s m args below meth c H1 locs1 cells slots Q (F0 m (pc + 3) ls rest)) : W p l e R s m args below meth c H locs cells slots Q (F0 m pc ls (v :: .ref a9 :: rest)) := by
  subst ha9
  exact ro_put MC HP HS hr hf hc hin hty hnm k hk hlink hsame hfin hn hfit hl hdg kk
theorem xo_aastE {a9 b9 : Nat} (MC : ro_C p s m args meth c cc nL "FrostCalendar" D ids n0) (HP : ro_P D n0 RR ad cn H) (HS : va_S (fun q => n0 ≤ q) s.heap H locs) (t0 : Nat) {q : vw_C} {r rv ci : Nat} {vs : List Value} (ha9 : ad r = a9) (hr : r ∈ RR) {n : Nat} {f : Nat → Option Nat} (hf : cn r = .inl (ids t0, n, .inr (.inr (.inr (.inr f))))) (ht : (uTy ids)[t0]? = some (ids t0, .object q.1)) (hb9 : ad rv = b9) (hrv : rv ∈ RR) (hfv : cn rv = .inr (ci, vs)) (hc : vwCl[ci]? = some q) (k : Nat) (hk : k < n) (hn : n ≤ 100) {i : Int32} (hi : i = nI k) (hdg : decode cc pc = .ok (.aastore, 1))
    (kk : ∀ (H1 : Heap) (locs1 : List Loc), ro_P D n0 RR ad (va_up cn r (.inl (ids t0, n, .inr (.inr (.inr (.inr (va_up f k (some b9)))))))) H1 → va_S (fun q => n0 ≤ q) s.heap H1 locs1 → W p l e R s m args below meth c H1 locs1 cells slots Q (F0 m (pc + 1) ls rest)) : W p l e R s m args below meth c H locs cells slots Q (F0 m pc ls (.ref b9 :: .int i :: .ref a9 :: rest)) := by
  subst ha9 hb9
  exact xo_aast MC HP HS t0 hr hf ht hrv hfv hc k hk hn hi hdg kk
end EE
theorem lays_row {τ : Tau} {how s d a b r : Int32} {i : Nat} (h : 1 ≤ i ∧ (i < 5 ∨ 10 < i)) : nx_lays τ how s d a b r i = τ i := by
  unfold nx_lays
  rw [t0, va_up_ne _ _ (by omega), ti_low (by omega), ti_low (by omega), ti_low (by omega), ti_low (by omega), ti_low (by omega), ti_low (by omega)]
theorem lay_at {τ : Tau} {nl : Nat} (hcn : cx (τ 0 2) = nl) {how s d a b r : Int32} : nx_lays τ how s d a b r 5 nl = how ∧ nx_lays τ how s d a b r 6 nl = s ∧ nx_lays τ how s d a b r 7 nl = d ∧ nx_lays τ how s d a b r 8 nl = a ∧ nx_lays τ how s d a b r 9 nl = b ∧ nx_lays τ how s d a b r 10 nl = r := by
  unfold nx_lays
  rw [hcn]
  exact ⟨upd_at .., upd_at .., upd_at .., upd_at .., upd_at .., upd_at ..⟩
theorem lay_new0 {τ : Tau} {nl : Nat} (hcn : cx (τ 0 2) = nl) {ad1 : Nat → Nat} {s d a b r : Int32} : (Sum.inr (3, [.int s, .int r, .int a, .int b]) : va_E) = frE (nx_lays τ 0 s d a b r) ad1 nl := by
  obtain ⟨e5, e6, e7, e8, e9, e10⟩ := lay_at hcn (how := 0) (s := s) (d := d) (a := a) (b := b) (r := r)
  simp only [frE, e5, e6, e7, e8, e9, e10, if_true]
theorem lay_new1 {τ : Tau} {nl : Nat} (hcn : cx (τ 0 2) = nl) {ad1 : Nat → Nat} {s d a b r : Int32} {k : Nat} (hd : cx d = k) : (Sum.inr (1, [.int s, .int r, .ref (ad1 (7 + k)), .int a, .int b]) : va_E) = frE (nx_lays τ 1 s d a b r) ad1 nl := by
  obtain ⟨e5, e6, e7, e8, e9, e10⟩ := lay_at hcn (how := 1) (s := s) (d := d) (a := a) (b := b) (r := r)
  simp only [frE, e5, e6, e7, e8, e9, e10, hd]
  rfl
theorem lay_new2 {τ : Tau} {nl : Nat} (hcn : cx (τ 0 2) = nl) {ad1 : Nat → Nat} {s d a b r : Int32} {k : Nat} (hd : cx d = k) : (Sum.inr (2, [.int s, .int r, .ref (ad1 (7 + k))]) : va_E) = frE (nx_lays τ 2 s d a b r) ad1 nl := by
  obtain ⟨e5, e6, e7, e8, e9, e10⟩ := lay_at hcn (how := 2) (s := s) (d := d) (a := a) (b := b) (r := r)
  simp only [frE, e5, e6, e7, e8, e9, e10, hd]
  rfl
theorem plan_row {τ : Tau} {s f n r : Int32} {i : Nat} (h : 1 ≤ i ∧ (i < 11 ∨ i = 18)) : nx_plan τ s f n r i = τ i := by
  unfold nx_plan
  rw [t0, va_up_ne _ _ (by omega), ti_low (by omega), ti_low (by omega), ti_low (by omega), ti_low (by omega), ti_low (by omega)]
theorem pln_new {τ : Tau} {nw ns nl nc : Nat} (hI : Iv τ nw ns nl nc) (hlt : nc < 30) {s f n r : Int32} : (Sum.inr (0, [.int s, .int n, .int r, .int f, .int 0, .int 0, .int 0, .int 20]) : va_E) = .inr (0, chF (nx_plan τ s f n r) nc) := by
  have hcn : cx (τ 0 3) = nc := by rw [hI.2.2.2.1.1]; exact cx_nI (by omega)
  obtain ⟨z1, z2⟩ := hI.2.2.2.2.2.2.2.2.2.2.2.1 nc (Nat.le_refl _) hlt
  have e17 : nx_plan τ s f n r 17 nc = -1 := by unfold nx_plan; rw [hcn]; exact upd_at ..
  refine chF_of ?_ ?_ ?_ ?_ z1 z2 (bI_f (fun h => h e17)) (if_pos e17)
  · unfold nx_plan; rw [hcn]; exact upd_at ..
  · unfold nx_plan; rw [hcn]; exact upd_at ..
  · unfold nx_plan; rw [hcn]; exact upd_at ..
  · unfold nx_plan; rw [hcn]; exact upd_at ..
theorem pl_ix {w f n : Int32} (hw : 0 ≤ w ∧ w ≤ 671) (hn : 1 ≤ n ∧ n ≤ 100) (h : w ≤ f ∧ f < 672 ∧ f + n ≤ 672) : ∃ b m, f = nI b ∧ n = nI m ∧ 1 ≤ m ∧ m ≤ 100 ∧ b + m ≤ 672 := by
  obtain ⟨h1, h2, h3⟩ := h
  obtain ⟨b, hb, hba⟩ := nI_ex (x := f) (n := 672) (by lia) (by show f < 672; exact h2) (by omega)
  obtain ⟨m, hm, hma⟩ := nI_ex (x := n) (n := 101) (by lia) (by show n < 101; lia) (by omega)
  refine ⟨b, m, hba, hma, ?_, by omega, ?_⟩
  · rcases Nat.eq_zero_or_pos m with h0 | h0
    · subst h0; rw [hma] at hn; exact absurd hn.1 (by decide)
    · exact h0
  · rcases Nat.lt_or_ge 672 (b + m) with h7 | h7
    · exfalso
      have h6 : f + n = nI (b + m) := by rw [hba, hma, nI_add]
      have h5 : nI 673 ≤ nI (b + m) := nI_le h7 (by omega)
      rw [← h6] at h5
      have h4 : nI 673 = 673 := rfl
      rw [h4] at h5
      lia
    · exact h7
end
section
theorem aq_once_0 {τ : Tau} {s9 f9 t9 r9 : Int32} (hn9 : ¬ (0 ≤ s9 ∧ s9 ≤ τ 0 1 - 1)) : th_once τ s9 f9 t9 r9 = 1 := by
  unfold th_once; grind
theorem aq_once_1 {τ : Tau} {s9 f9 t9 r9 : Int32} (hf_1 : 0 ≤ s9 ∧ s9 ≤ τ 0 1 - 1) (hn9 : ¬ (0 ≤ f9 ∧ f9 ≤ 671)) : th_once τ s9 f9 t9 r9 = 2 := by
  unfold th_once; grind
theorem aq_once_2 {τ : Tau} {s9 f9 t9 r9 : Int32} (hf_1 : 0 ≤ s9 ∧ s9 ≤ τ 0 1 - 1) (hf_2 : 0 ≤ f9 ∧ f9 ≤ 671) (hn9 : ¬ ((f9 + 1) ≤ t9 ∧ t9 ≤ 672)) : th_once τ s9 f9 t9 r9 = 2 := by
  unfold th_once; grind
theorem aq_once_3 {τ : Tau} {s9 f9 t9 r9 : Int32} (hf_1 : 0 ≤ s9 ∧ s9 ≤ τ 0 1 - 1) (hf_2 : 0 ≤ f9 ∧ f9 ≤ 671) (hf_3 : (f9 + 1) ≤ t9 ∧ t9 ≤ 672) (hn9 : ¬ (1 ≤ r9 ∧ r9 ≤ 3)) : th_once τ s9 f9 t9 r9 = 2 := by
  unfold th_once; grind
theorem aq_once_4 {τ : Tau} {s9 f9 t9 r9 : Int32} (hf_1 : 0 ≤ s9 ∧ s9 ≤ τ 0 1 - 1) (hf_2 : 0 ≤ f9 ∧ f9 ≤ 671) (hf_3 : (f9 + 1) ≤ t9 ∧ t9 ≤ 672) (hf_4 : 1 ≤ r9 ∧ r9 ≤ 3) (hn9 : τ 0 2 = 20) : th_once τ s9 f9 t9 r9 = 3 := by
  unfold th_once; grind
theorem aq_once_5 {τ : Tau} {s9 f9 t9 r9 : Int32} (hf_1 : 0 ≤ s9 ∧ s9 ≤ τ 0 1 - 1) (hf_2 : 0 ≤ f9 ∧ f9 ≤ 671) (hf_3 : (f9 + 1) ≤ t9 ∧ t9 ≤ 672) (hf_4 : 1 ≤ r9 ∧ r9 ≤ 3) (hf_5 : ¬ (20 ≤ τ 0 2)) : th_once τ s9 f9 t9 r9 = 0 := by
  unfold th_once; grind
theorem aq_daily_0 {τ : Tau} {s9 a9 f9 t9 r9 : Int32} (hn9 : ¬ (0 ≤ s9 ∧ s9 ≤ τ 0 1 - 1)) : th_daily τ s9 a9 f9 t9 r9 = 1 := by
  unfold th_daily; grind
theorem aq_daily_1 {τ : Tau} {s9 a9 f9 t9 r9 : Int32} (hf_6 : 0 ≤ s9 ∧ s9 ≤ τ 0 1 - 1) (hn9 : ¬ (0 ≤ a9 ∧ a9 ≤ 3)) : th_daily τ s9 a9 f9 t9 r9 = 1 := by
  unfold th_daily; grind
theorem aq_daily_2 {τ : Tau} {s9 a9 f9 t9 r9 : Int32} (hf_6 : 0 ≤ s9 ∧ s9 ≤ τ 0 1 - 1) (hf_7 : 0 ≤ a9 ∧ a9 ≤ 3) (hn9 : ¬ (0 ≤ f9 ∧ f9 ≤ 23)) : th_daily τ s9 a9 f9 t9 r9 = 2 := by
  unfold th_daily; grind
theorem aq_daily_3 {τ : Tau} {s9 a9 f9 t9 r9 : Int32} (hf_6 : 0 ≤ s9 ∧ s9 ≤ τ 0 1 - 1) (hf_7 : 0 ≤ a9 ∧ a9 ≤ 3) (hf_8 : 0 ≤ f9 ∧ f9 ≤ 23) (hn9 : ¬ (0 ≤ t9 ∧ t9 ≤ 23)) : th_daily τ s9 a9 f9 t9 r9 = 2 := by
  unfold th_daily; grind
theorem aq_daily_4 {τ : Tau} {s9 a9 f9 t9 r9 : Int32} (hf_6 : 0 ≤ s9 ∧ s9 ≤ τ 0 1 - 1) (hf_7 : 0 ≤ a9 ∧ a9 ≤ 3) (hf_8 : 0 ≤ f9 ∧ f9 ≤ 23) (hf_9 : 0 ≤ t9 ∧ t9 ≤ 23) (hn9 : ¬ (1 ≤ r9 ∧ r9 ≤ 3)) : th_daily τ s9 a9 f9 t9 r9 = 2 := by
  unfold th_daily; grind
theorem aq_daily_5 {τ : Tau} {s9 a9 f9 t9 r9 : Int32} (hf_6 : 0 ≤ s9 ∧ s9 ≤ τ 0 1 - 1) (hf_7 : 0 ≤ a9 ∧ a9 ≤ 3) (hf_8 : 0 ≤ f9 ∧ f9 ≤ 23) (hf_9 : 0 ≤ t9 ∧ t9 ≤ 23) (hf_10 : 1 ≤ r9 ∧ r9 ≤ 3) (hn9 : τ 0 2 = 20) : th_daily τ s9 a9 f9 t9 r9 = 3 := by
  unfold th_daily; grind
theorem aq_daily_6 {τ : Tau} {s9 a9 f9 t9 r9 : Int32} (hf_6 : 0 ≤ s9 ∧ s9 ≤ τ 0 1 - 1) (hf_7 : 0 ≤ a9 ∧ a9 ≤ 3) (hf_8 : 0 ≤ f9 ∧ f9 ≤ 23) (hf_9 : 0 ≤ t9 ∧ t9 ≤ 23) (hf_10 : 1 ≤ r9 ∧ r9 ≤ 3) (hf_11 : ¬ (20 ≤ τ 0 2)) : th_daily τ s9 a9 f9 t9 r9 = 0 := by
  unfold th_daily; grind
theorem aq_feasts_0 {τ : Tau} {s9 a9 r9 : Int32} (hn9 : ¬ (0 ≤ s9 ∧ s9 ≤ τ 0 1 - 1)) : th_feasts τ s9 a9 r9 = 1 := by
  unfold th_feasts; grind
theorem aq_feasts_1 {τ : Tau} {s9 a9 r9 : Int32} (hf_12 : 0 ≤ s9 ∧ s9 ≤ τ 0 1 - 1) (hn9 : ¬ (0 ≤ a9 ∧ a9 ≤ 3)) : th_feasts τ s9 a9 r9 = 1 := by
  unfold th_feasts; grind
theorem aq_feasts_2 {τ : Tau} {s9 a9 r9 : Int32} (hf_12 : 0 ≤ s9 ∧ s9 ≤ τ 0 1 - 1) (hf_13 : 0 ≤ a9 ∧ a9 ≤ 3) (hn9 : ¬ (1 ≤ r9 ∧ r9 ≤ 3)) : th_feasts τ s9 a9 r9 = 2 := by
  unfold th_feasts; grind
theorem aq_feasts_3 {τ : Tau} {s9 a9 r9 : Int32} (hf_12 : 0 ≤ s9 ∧ s9 ≤ τ 0 1 - 1) (hf_13 : 0 ≤ a9 ∧ a9 ≤ 3) (hf_14 : 1 ≤ r9 ∧ r9 ≤ 3) (hn9 : τ 0 2 = 20) : th_feasts τ s9 a9 r9 = 3 := by
  unfold th_feasts; grind
theorem aq_feasts_4 {τ : Tau} {s9 a9 r9 : Int32} (hf_12 : 0 ≤ s9 ∧ s9 ≤ τ 0 1 - 1) (hf_13 : 0 ≤ a9 ∧ a9 ≤ 3) (hf_14 : 1 ≤ r9 ∧ r9 ≤ 3) (hf_15 : ¬ (20 ≤ τ 0 2)) : th_feasts τ s9 a9 r9 = 0 := by
  unfold th_feasts; grind
theorem aq_plan_0 {τ : Tau} {s9 f9 n9 r9 : Int32} (hcb : 0 ≤ τ 0 3 ∧ τ 0 3 ≤ 30) (hn9 : ¬ (0 ≤ s9 ∧ s9 ≤ τ 0 1 - 1)) : th_plan τ s9 f9 n9 r9 = 1 := by
  unfold th_plan; grind
theorem aq_plan_1 {τ : Tau} {s9 f9 n9 r9 : Int32} (hcb : 0 ≤ τ 0 3 ∧ τ 0 3 ≤ 30) (hf_16 : 0 ≤ s9 ∧ s9 ≤ τ 0 1 - 1) (hn9 : ¬ (1 ≤ n9 ∧ n9 ≤ 100)) : th_plan τ s9 f9 n9 r9 = 2 := by
  unfold th_plan; grind
theorem aq_plan_2 {τ : Tau} {s9 f9 n9 r9 : Int32} (hcb : 0 ≤ τ 0 3 ∧ τ 0 3 ≤ 30) (hf_16 : 0 ≤ s9 ∧ s9 ≤ τ 0 1 - 1) (hf_17 : 1 ≤ n9 ∧ n9 ≤ 100) (hn9 : ¬ (τ 0 0 ≤ f9 ∧ f9 < 672 ∧ f9 + n9 ≤ 672)) : th_plan τ s9 f9 n9 r9 = 2 := by
  unfold th_plan; grind
theorem aq_plan_3 {τ : Tau} {s9 f9 n9 r9 : Int32} (hcb : 0 ≤ τ 0 3 ∧ τ 0 3 ≤ 30) (hf_16 : 0 ≤ s9 ∧ s9 ≤ τ 0 1 - 1) (hf_17 : 1 ≤ n9 ∧ n9 ≤ 100) (hf_18 : τ 0 0 ≤ f9 ∧ f9 < 672 ∧ f9 + n9 ≤ 672) (hn9 : ¬ (1 ≤ r9 ∧ r9 ≤ 3)) : th_plan τ s9 f9 n9 r9 = 2 := by
  unfold th_plan; grind
theorem aq_plan_4 {τ : Tau} {s9 f9 n9 r9 : Int32} (hcb : 0 ≤ τ 0 3 ∧ τ 0 3 ≤ 30) (hf_16 : 0 ≤ s9 ∧ s9 ≤ τ 0 1 - 1) (hf_17 : 1 ≤ n9 ∧ n9 ≤ 100) (hf_18 : τ 0 0 ≤ f9 ∧ f9 < 672 ∧ f9 + n9 ≤ 672) (hf_19 : 1 ≤ r9 ∧ r9 ≤ 3) (c_38 : τ 0 3 < 30) : th_plan τ s9 f9 n9 r9 = 0 := by
  unfold th_plan; grind
theorem aq_plan_5 {τ : Tau} {s9 f9 n9 r9 : Int32} (hcb : 0 ≤ τ 0 3 ∧ τ 0 3 ≤ 30) (hf_16 : 0 ≤ s9 ∧ s9 ≤ τ 0 1 - 1) (hf_17 : 1 ≤ n9 ∧ n9 ≤ 100) (hf_18 : τ 0 0 ≤ f9 ∧ f9 < 672 ∧ f9 + n9 ≤ 672) (hf_19 : 1 ≤ r9 ∧ r9 ≤ 3) (c_38 : ¬ (τ 0 3 < 30)) : th_plan τ s9 f9 n9 r9 = 3 := by
  unfold th_plan; grind
set_option maxHeartbeats 4000000 in
set_option maxRecDepth 100000 in
theorem q_once {l : Launch} (hl9 : l.stackTraces = false) {D : va_G} {ids : Nat → ClassId} {n0 : Nat} {RR : List Nat} {ad : Nat → Nat} {cn : Nat → va_E} {τ : Tau} {ns nl nc : Nat} {Hh : Heap} (hX : xH D ids n0 RR ad cn τ ns nl nc Hh) {nw : Nat} (hI : Iv τ nw ns nl nc) {s9 f9 t9 r9 : Int32} : ro_T l yX6_once cX6_once 5 (some FieldType.int) { frames := 8, cells := 8, slots := 48, locals := 240 } D ids n0 [.ref (ad 0), .int s9, .int f9, .int t9, .int r9] Hh (fun v H1 => th_once τ s9 f9 t9 r9 = 0 ∧ v = some (.int (rt_once τ s9 f9 t9 r9)) ∧ aft D ids n0 ad cn (nx_once τ s9 f9 t9 r9) H1) (fun E9 H1 => grow Hh H1 ∧ ((th_once τ s9 f9 t9 r9 = 1 ∧ E9 = "java/lang/IndexOutOfBoundsException") ∨ (th_once τ s9 f9 t9 r9 = 2 ∧ E9 = "java/lang/IllegalArgumentException") ∨ (th_once τ s9 f9 t9 r9 = 3 ∧ E9 = "java/lang/IllegalStateException"))) := by
  refine ro_ofT (by decide +kernel) (Nat.le_of_ble_eq_true rfl) ?_
  intro p e s m below meth c MC hhp hr hno HS ls hl
  have hx := MC.1.1
  have hb := MC.1.2.1
  have hl : lv_has ls 5 [(0, .ref (ad 0)), (1, .int s9), (2, .int f9), (3, .int t9), (4, .int r9)] := hl
  obtain ⟨HP, hRR, sa, bm, fm, lf, ff, cf, h0, h1, h1b, h2, h2b, h7, h7b, h3, h3b, h40, h4, h4b, h60, h5, h6⟩ := id hX
  have hwb := hI.wb
  have hsb := hI.sb
  have hlb := hI.lb
  have hcb := hI.cb
  have hnl := hI.2.2.1.2
  have hns := hI.2.1.2.2
  have hnc := hI.2.2.2.1.2
  have hcs : cx (τ 0 2) = nl := by rw [hI.2.2.1.1]; exact cx_nI (by omega)
  refine lv_aload_n hx hb dX6_once_0 rfl (lv_at hl 0 rfl) ?_
  refine lv_iload_n hx hb dX6_once_1 rfl (lv_at hl 1 rfl) ?_
  refine ro_callVT MC HS (rest := []) (As := [.int s9]) (x_needScope hl9 hX hI) (lkX6_43) (kw101) (kw0) ⟨Nat.le_of_ble_eq_true rfl, Nat.le_of_ble_eq_true rfl⟩ (ro_recv MC HP (hRR.l (by decide)) h0 (rfl : vwCl[5]? = some (RX6, TX6, 11))) hl.1 rfl (Nat.le_of_ble_eq_true rfl) dX6_once_2 ⟨Nat.le_of_ble_eq_true rfl, Nat.le_of_ble_eq_true rfl⟩ (ro_out MC hno (Nat.le_of_ble_eq_true rfl) (Nat.le_of_ble_eq_true rfl) (fun E9 H9 hp => by obtain ⟨hg9, rfl, hn9⟩ := hp; exact ⟨hg9, Or.inl (⟨aq_once_0 hn9, rfl⟩)⟩)) (fun v9 H1 lH1 hp hz HS => ?_)
  obtain ⟨rfl, hf_1, rfl⟩ := hp
  obtain ⟨i, hi, hia, hic⟩ := hI.s hf_1
  refine lv_iload_n hx hb dX6_once_5 rfl (lv_at hl 2 rfl) ?_
  refine lv_iconst (v := 0) hx hb dX6_once_6 (by decide) ?_
  refine lv_sipush (v := 671) hx hb dX6_once_7 (by decide) ?_
  refine ro_callST MC HS (rest := []) (As := [.int f9, .int 0, .int 671]) (x_needRange hl9) (lkX6_58) (kw198) ⟨Nat.le_of_ble_eq_true rfl, Nat.le_of_ble_eq_true rfl⟩ hl.1 rfl (Nat.le_of_ble_eq_true rfl) dX6_once_10 ⟨Nat.le_of_ble_eq_true rfl, Nat.le_of_ble_eq_true rfl⟩ (ro_out MC hno (Nat.le_of_ble_eq_true rfl) (Nat.le_of_ble_eq_true rfl) (fun E9 H9 hp => by obtain ⟨hg9, rfl, hn9⟩ := hp; exact ⟨hg9, Or.inr (Or.inl (⟨aq_once_1 hf_1 hn9, rfl⟩))⟩)) (fun v9 H2 lH2 hp hz HS => ?_)
  obtain ⟨rfl, hf_2, rfl⟩ := hp
  refine lv_iload_n hx hb dX6_once_13 rfl (lv_at hl 3 rfl) ?_
  refine lv_iload_n hx hb dX6_once_14 rfl (lv_at hl 2 rfl) ?_
  refine lv_iconst (v := 1) hx hb dX6_once_15 (by decide) ?_
  refine lv_iadd hx hb dX6_once_16 ?_
  refine lv_sipush (v := 672) hx hb dX6_once_17 (by decide) ?_
  refine ro_callST MC HS (rest := []) (As := [.int t9, .int ((f9 + 1)), .int 672]) (x_needRange hl9) (lkX6_58) (kw198) ⟨Nat.le_of_ble_eq_true rfl, Nat.le_of_ble_eq_true rfl⟩ hl.1 rfl (Nat.le_of_ble_eq_true rfl) dX6_once_20 ⟨Nat.le_of_ble_eq_true rfl, Nat.le_of_ble_eq_true rfl⟩ (ro_out MC hno (Nat.le_of_ble_eq_true rfl) (Nat.le_of_ble_eq_true rfl) (fun E9 H9 hp => by obtain ⟨hg9, rfl, hn9⟩ := hp; exact ⟨hg9, Or.inr (Or.inl (⟨aq_once_2 hf_1 hf_2 hn9, rfl⟩))⟩)) (fun v9 H3 lH3 hp hz HS => ?_)
  obtain ⟨rfl, hf_3, rfl⟩ := hp
  refine lv_iload hx hb dX6_once_23 (lv_at hl 4 rfl) ?_
  refine lv_iconst (v := 1) hx hb dX6_once_25 (by decide) ?_
  refine lv_iconst (v := 3) hx hb dX6_once_26 (by decide) ?_
  refine ro_callST MC HS (rest := []) (As := [.int r9, .int 1, .int 3]) (x_needRange hl9) (lkX6_58) (kw198) ⟨Nat.le_of_ble_eq_true rfl, Nat.le_of_ble_eq_true rfl⟩ hl.1 rfl (Nat.le_of_ble_eq_true rfl) dX6_once_27 ⟨Nat.le_of_ble_eq_true rfl, Nat.le_of_ble_eq_true rfl⟩ (ro_out MC hno (Nat.le_of_ble_eq_true rfl) (Nat.le_of_ble_eq_true rfl) (fun E9 H9 hp => by obtain ⟨hg9, rfl, hn9⟩ := hp; exact ⟨hg9, Or.inr (Or.inl (⟨aq_once_3 hf_1 hf_2 hf_3 hn9, rfl⟩))⟩)) (fun v9 H4 lH4 hp hz HS => ?_)
  obtain ⟨rfl, hf_4, rfl⟩ := hp
  obtain ⟨r8, hr1, hr4, hra, hrc⟩ := okR.ix hf_4
  refine lv_aload_n hx hb dX6_once_30 rfl (lv_at hl 0 rfl) ?_
  refine ro_callVT MC HS (rest := []) (As := []) (x_needRoom hl9 hX hI) (lkX6_77) (kw246) (kw3) ⟨Nat.le_of_ble_eq_true rfl, Nat.le_of_ble_eq_true rfl⟩ (ro_recv MC HP (hRR.l (by decide)) h0 (rfl : vwCl[5]? = some (RX6, TX6, 11))) hl.1 rfl (Nat.le_of_ble_eq_true rfl) dX6_once_31 ⟨Nat.le_of_ble_eq_true rfl, Nat.le_of_ble_eq_true rfl⟩ (ro_out MC hno (Nat.le_of_ble_eq_true rfl) (Nat.le_of_ble_eq_true rfl) (fun E9 H9 hp => by obtain ⟨hg9, rfl, hn9⟩ := hp; exact ⟨hg9, Or.inr (Or.inr (⟨aq_once_4 hf_1 hf_2 hf_3 hf_4 hn9, rfl⟩))⟩)) (fun v9 H5 lH5 hp hz HS => ?_)
  obtain ⟨rfl, hf_5, rfl⟩ := hp
  refine lv_aload_n hx hb dX6_once_34 rfl (lv_at hl 0 rfl) ?_
  have hlt : nl < 20 := lt_of hI.2.2.1.1 (by omega) (by omega) hf_5
  refine ro_new MC HP HS (40 + nl) (hRR.nf hlt) [.int 0, .int 0, .int 0, .int 0] (rfl : vwCl[3]? = some (RX4, TX4, 4)) inU4 tyX4_ok kw249 kw250 kw26 (fun j hj => by rcases j with _ | _ | _ | _ | _ | _ | _ | _ | j <;> first | rfl | omega) (Nat.le_of_ble_eq_true rfl) (Nat.le_of_ble_eq_true rfl) dX6_once_35 (fun q9 H2 hq9 HP HS => ?_)
  have hFR : 40 + nl ∈ RR ++ [40 + nl] := List.mem_append_right _ (List.mem_singleton.mpr rfl)
  have had : ∀ r, r < 18 → va_up ad (40 + nl) q9 r = ad r := fun r hr => va_up_ne _ _ (by omega)
  refine lv_dup hx hb dX6_once_38 rfl ?_
  refine lv_iload_n hx hb dX6_once_39 rfl (lv_at hl 1 rfl) ?_
  refine lv_iload hx hb dX6_once_40 (lv_at hl 4 rfl) ?_
  refine lv_iload_n hx hb dX6_once_42 rfl (lv_at hl 2 rfl) ?_
  refine lv_iload_n hx hb dX6_once_43 rfl (lv_at hl 3 rfl) ?_
  have hini := x_iOnce (l := l) (ids := ids) HP (r := 40 + nl) hFR (s1 := s9) (r1 := r9) (f1 := f9) (t1 := t9) (va_up_self ..)
  rw [va_up_self] at hini
  refine ro_callI MC HS (rest := [.ref q9, .ref (ad 0)]) (As := [.int s9, .int r9, .int f9, .int t9]) (hini) (lkX6_82) (kw252) (rfl) ⟨Nat.le_of_ble_eq_true rfl, Nat.le_of_ble_eq_true rfl⟩ hl.1 rfl (Nat.le_of_ble_eq_true rfl) dX6_once_44 ⟨Nat.le_of_ble_eq_true rfl, Nat.le_of_ble_eq_true rfl⟩ (fun v9 H6 lH6 hp hz HS => ?_)
  obtain ⟨rfl, cn3, HP, hf3, hn3⟩ := hp
  have h0R : 0 ∈ RR ++ [40 + nl] := List.mem_append_left _ (hRR.l (by omega))
  have h3R : 3 ∈ RR ++ [40 + nl] := List.mem_append_left _ (hRR.l (by omega))
  have j0 : cn3 0 = .inr (5, xoF τ (va_up ad (40 + nl) q9)) := by rw [hn3 0 (by omega), va_up_ne _ _ (by omega), xoF_ad had]; exact h0
  have j3 : cn3 3 = .inl (ids 4, 20, .inr (.inr (.inr (.inr ff)))) := (hn3 3 (by omega)).trans ((va_up_ne _ _ (by omega)).trans h3)
  have had0 := had 0 (by omega)
  have hlay := x_lay (l := l) HP hI hlt h0R h3R hFR j0 j3 hf3 (rfl : vwCl[3]? = some (RX4, TX4, 4)) (by decide +kernel)
  rw [va_up_self, had0] at hlay
  refine ro_callV MC HS (rest := []) (As := [.ref q9]) (hlay) (lkX6_85) (kw275) (kw4) ⟨Nat.le_of_ble_eq_true rfl, Nat.le_of_ble_eq_true rfl⟩ (by have h9 := ro_recv MC HP h0R j0 (rfl : vwCl[5]? = some (RX6, TX6, 11)); rw [had0] at h9; exact h9) hl.1 rfl (Nat.le_of_ble_eq_true rfl) dX6_once_47 ⟨Nat.le_of_ble_eq_true rfl, Nat.le_of_ble_eq_true rfl⟩ (fun v9 H7 lH7 hp hz HS => ?_)
  obtain ⟨rfl, cn4, HP, k0, k3, hn4⟩ := hp
  have hn20 : ¬ τ 0 2 = 20 := by intro h9; rw [hI.2.2.1.1] at h9; exact absurd ((nI_eq (by omega) (by omega) : nI nl = nI 20 ↔ _).mp h9) (by omega)
  have hz4 : τ 4 nl = 0 := hI.2.2.2.2.2.2.2.2.1 nl (Nat.le_refl _) hlt
  have hI2 := hI.lays (how := 0) (a := f9) (b := t9) (i := i) (d := 0) (r := r8) (by first | exact Or.inl rfl | exact Or.inr (Or.inl rfl) | exact Or.inr (Or.inr rfl)) hi (by omega) hr1 (by omega) hn20
  rw [← hia, ← hra, nI_0] at hI2
  have k3b := lay_k3b (q := q9) h3b hz4
  rw [va_up_self] at k3b
  have k40 : ∀ k, k < nl + 1 → cn4 (40 + k) = frE (nx_lays τ 0 s9 0 f9 t9 r9) (va_up ad (40 + nl) q9) k := by
    intro k hk
    rw [hn4 _ (by omega) (by omega)]
    by_cases h9 : k = nl
    · rw [h9, hf3]; exact lay_new0 hcs
    · rw [hn3 _ (by omega), va_up_ne _ _ (by omega), lay_old hI (by omega)]; exact h40 k (by omega)
  exact ro_MT (ro_iretM MC HS hr (⟨aq_once_5 hf_1 hf_2 hf_3 hf_4 hf_5, rfl, ⟨RR ++ [40 + nl], (va_up ad (40 + nl) q9), cn4, nw, ns, nl + 1, nc, ⟨HP, hRR.addF hlt, _, _, _, _, _, _, isX.lay ⟨h0, h1, h1b, h2, h2b, h7, h7b, h3, h3b, h40, h4, h4b, h60, h5, h6⟩ hI (fun r hr => (hn4 r (by omega) (by omega)).trans ((hn3 r (by omega)).trans (va_up_ne _ _ (by omega)))) (fun i hi => lays_row hi) (fun r hr => va_up_ne _ _ hr) hlt (k0.trans (by rw [st_lay hI hlt (how := 0) (s := s9) (d := 0) (a := f9) (b := t9) (r := r9)]; rfl)) k3 (fun k hk => by rw [lays_row (by omega)]; exact k3b k hk) k40⟩, hI2, fun r hr => had r hr, fun r hr1 hr2 => (hn4 r (by omega) (by omega)).trans ((hn3 r (by omega)).trans (va_up_ne _ _ (by omega)))⟩⟩) (Nat.le_of_ble_eq_true rfl) (Nat.le_of_ble_eq_true rfl) dX6_once_50)
set_option maxHeartbeats 4000000 in
set_option maxRecDepth 100000 in
theorem q_daily {l : Launch} (hl9 : l.stackTraces = false) {D : va_G} {ids : Nat → ClassId} {n0 : Nat} {RR : List Nat} {ad : Nat → Nat} {cn : Nat → va_E} {τ : Tau} {ns nl nc : Nat} {Hh : Heap} (hX : xH D ids n0 RR ad cn τ ns nl nc Hh) {nw : Nat} (hI : Iv τ nw ns nl nc) {s9 a9 f9 t9 r9 : Int32} : ro_T l yX6_daily cX6_daily 7 (some FieldType.int) { frames := 8, cells := 8, slots := 48, locals := 240 } D ids n0 [.ref (ad 0), .int s9, .int a9, .int f9, .int t9, .int r9] Hh (fun v H1 => th_daily τ s9 a9 f9 t9 r9 = 0 ∧ v = some (.int (rt_daily τ s9 a9 f9 t9 r9)) ∧ aft D ids n0 ad cn (nx_daily τ s9 a9 f9 t9 r9) H1) (fun E9 H1 => grow Hh H1 ∧ ((th_daily τ s9 a9 f9 t9 r9 = 1 ∧ E9 = "java/lang/IndexOutOfBoundsException") ∨ (th_daily τ s9 a9 f9 t9 r9 = 2 ∧ E9 = "java/lang/IllegalArgumentException") ∨ (th_daily τ s9 a9 f9 t9 r9 = 3 ∧ E9 = "java/lang/IllegalStateException"))) := by
  refine ro_ofT (by decide +kernel) (Nat.le_of_ble_eq_true rfl) ?_
  intro p e s m below meth c MC hhp hr hno HS ls hl
  have hx := MC.1.1
  have hb := MC.1.2.1
  have hl : lv_has ls 7 [(0, .ref (ad 0)), (1, .int s9), (2, .int a9), (3, .int f9), (4, .int t9), (5, .int r9)] := hl
  obtain ⟨HP, hRR, sa, bm, fm, lf, ff, cf, h0, h1, h1b, h2, h2b, h7, h7b, h3, h3b, h40, h4, h4b, h60, h5, h6⟩ := id hX
  have hwb := hI.wb
  have hsb := hI.sb
  have hlb := hI.lb
  have hcb := hI.cb
  have hnl := hI.2.2.1.2
  have hns := hI.2.1.2.2
  have hnc := hI.2.2.2.1.2
  have hcs : cx (τ 0 2) = nl := by rw [hI.2.2.1.1]; exact cx_nI (by omega)
  refine lv_aload_n hx hb dX6_daily_0 rfl (lv_at hl 0 rfl) ?_
  refine lv_iload_n hx hb dX6_daily_1 rfl (lv_at hl 1 rfl) ?_
  refine ro_callVT MC HS (rest := []) (As := [.int s9]) (x_needScope hl9 hX hI) (lkX6_43) (kw101) (kw0) ⟨Nat.le_of_ble_eq_true rfl, Nat.le_of_ble_eq_true rfl⟩ (ro_recv MC HP (hRR.l (by decide)) h0 (rfl : vwCl[5]? = some (RX6, TX6, 11))) hl.1 rfl (Nat.le_of_ble_eq_true rfl) dX6_daily_2 ⟨Nat.le_of_ble_eq_true rfl, Nat.le_of_ble_eq_true rfl⟩ (ro_out MC hno (Nat.le_of_ble_eq_true rfl) (Nat.le_of_ble_eq_true rfl) (fun E9 H9 hp => by obtain ⟨hg9, rfl, hn9⟩ := hp; exact ⟨hg9, Or.inl (⟨aq_daily_0 hn9, rfl⟩)⟩)) (fun v9 H1 lH1 hp hz HS => ?_)
  obtain ⟨rfl, hf_6, rfl⟩ := hp
  obtain ⟨i, hi, hia, hic⟩ := hI.s hf_6
  refine lv_aload_n hx hb dX6_daily_5 rfl (lv_at hl 0 rfl) ?_
  refine lv_iload_n hx hb dX6_daily_6 rfl (lv_at hl 2 rfl) ?_
  refine ro_callVT MC HS (rest := []) (As := [.int a9]) (x_needLand hl9 hX hI) (lkX6_54) (kw194) (kw2) ⟨Nat.le_of_ble_eq_true rfl, Nat.le_of_ble_eq_true rfl⟩ (ro_recv MC HP (hRR.l (by decide)) h0 (rfl : vwCl[5]? = some (RX6, TX6, 11))) hl.1 rfl (Nat.le_of_ble_eq_true rfl) dX6_daily_7 ⟨Nat.le_of_ble_eq_true rfl, Nat.le_of_ble_eq_true rfl⟩ (ro_out MC hno (Nat.le_of_ble_eq_true rfl) (Nat.le_of_ble_eq_true rfl) (fun E9 H9 hp => by obtain ⟨hg9, rfl, hn9⟩ := hp; exact ⟨hg9, Or.inl (⟨aq_daily_1 hf_6 hn9, rfl⟩)⟩)) (fun v9 H2 lH2 hp hz HS => ?_)
  obtain ⟨d, hd, hda, hdc, hf_7, rfl, rfl⟩ := hp
  refine lv_astore (lv' := [(6, .ref (ad (7 + d))), (0, .ref (ad 0)), (1, .int s9), (2, .int a9), (3, .int f9), (4, .int t9), (5, .int r9)]) hx hb dX6_daily_10 hl (by decide) rfl (fun ls hl => ?_)
  refine lv_iload_n hx hb dX6_daily_12 rfl (lv_at hl 4 rfl) ?_
  refine lv_iconst (v := 0) hx hb dX6_daily_13 (by decide) ?_
  refine lv_bipush (v := 23) hx hb dX6_daily_14 (by decide) ?_
  refine ro_callST MC HS (rest := []) (As := [.int f9, .int 0, .int 23]) (x_needRange hl9) (lkX6_58) (kw198) ⟨Nat.le_of_ble_eq_true rfl, Nat.le_of_ble_eq_true rfl⟩ hl.1 rfl (Nat.le_of_ble_eq_true rfl) dX6_daily_16 ⟨Nat.le_of_ble_eq_true rfl, Nat.le_of_ble_eq_true rfl⟩ (ro_out MC hno (Nat.le_of_ble_eq_true rfl) (Nat.le_of_ble_eq_true rfl) (fun E9 H9 hp => by obtain ⟨hg9, rfl, hn9⟩ := hp; exact ⟨hg9, Or.inr (Or.inl (⟨aq_daily_2 hf_6 hf_7 hn9, rfl⟩))⟩)) (fun v9 H3 lH3 hp hz HS => ?_)
  obtain ⟨rfl, hf_8, rfl⟩ := hp
  refine lv_iload hx hb dX6_daily_19 (lv_at hl 5 rfl) ?_
  refine lv_iconst (v := 0) hx hb dX6_daily_21 (by decide) ?_
  refine lv_bipush (v := 23) hx hb dX6_daily_22 (by decide) ?_
  refine ro_callST MC HS (rest := []) (As := [.int t9, .int 0, .int 23]) (x_needRange hl9) (lkX6_58) (kw198) ⟨Nat.le_of_ble_eq_true rfl, Nat.le_of_ble_eq_true rfl⟩ hl.1 rfl (Nat.le_of_ble_eq_true rfl) dX6_daily_24 ⟨Nat.le_of_ble_eq_true rfl, Nat.le_of_ble_eq_true rfl⟩ (ro_out MC hno (Nat.le_of_ble_eq_true rfl) (Nat.le_of_ble_eq_true rfl) (fun E9 H9 hp => by obtain ⟨hg9, rfl, hn9⟩ := hp; exact ⟨hg9, Or.inr (Or.inl (⟨aq_daily_3 hf_6 hf_7 hf_8 hn9, rfl⟩))⟩)) (fun v9 H4 lH4 hp hz HS => ?_)
  obtain ⟨rfl, hf_9, rfl⟩ := hp
  refine lv_iload hx hb dX6_daily_27 (lv_at hl 6 rfl) ?_
  refine lv_iconst (v := 1) hx hb dX6_daily_29 (by decide) ?_
  refine lv_iconst (v := 3) hx hb dX6_daily_30 (by decide) ?_
  refine ro_callST MC HS (rest := []) (As := [.int r9, .int 1, .int 3]) (x_needRange hl9) (lkX6_58) (kw198) ⟨Nat.le_of_ble_eq_true rfl, Nat.le_of_ble_eq_true rfl⟩ hl.1 rfl (Nat.le_of_ble_eq_true rfl) dX6_daily_31 ⟨Nat.le_of_ble_eq_true rfl, Nat.le_of_ble_eq_true rfl⟩ (ro_out MC hno (Nat.le_of_ble_eq_true rfl) (Nat.le_of_ble_eq_true rfl) (fun E9 H9 hp => by obtain ⟨hg9, rfl, hn9⟩ := hp; exact ⟨hg9, Or.inr (Or.inl (⟨aq_daily_4 hf_6 hf_7 hf_8 hf_9 hn9, rfl⟩))⟩)) (fun v9 H5 lH5 hp hz HS => ?_)
  obtain ⟨rfl, hf_10, rfl⟩ := hp
  obtain ⟨r8, hr1, hr4, hra, hrc⟩ := okR.ix hf_10
  refine lv_aload_n hx hb dX6_daily_34 rfl (lv_at hl 1 rfl) ?_
  refine ro_callVT MC HS (rest := []) (As := []) (x_needRoom hl9 hX hI) (lkX6_77) (kw246) (kw3) ⟨Nat.le_of_ble_eq_true rfl, Nat.le_of_ble_eq_true rfl⟩ (ro_recv MC HP (hRR.l (by decide)) h0 (rfl : vwCl[5]? = some (RX6, TX6, 11))) hl.1 rfl (Nat.le_of_ble_eq_true rfl) dX6_daily_35 ⟨Nat.le_of_ble_eq_true rfl, Nat.le_of_ble_eq_true rfl⟩ (ro_out MC hno (Nat.le_of_ble_eq_true rfl) (Nat.le_of_ble_eq_true rfl) (fun E9 H9 hp => by obtain ⟨hg9, rfl, hn9⟩ := hp; exact ⟨hg9, Or.inr (Or.inr (⟨aq_daily_5 hf_6 hf_7 hf_8 hf_9 hf_10 hn9, rfl⟩))⟩)) (fun v9 H6 lH6 hp hz HS => ?_)
  obtain ⟨rfl, hf_11, rfl⟩ := hp
  refine lv_aload_n hx hb dX6_daily_38 rfl (lv_at hl 1 rfl) ?_
  have hlt : nl < 20 := lt_of hI.2.2.1.1 (by omega) (by omega) hf_11
  refine ro_new MC HP HS (40 + nl) (hRR.nf hlt) [.int 0, .int 0, .null, .int 0, .int 0] (rfl : vwCl[1]? = some (RX2, TX2, 5)) inU2 tyX2_ok kw281 kw282 kw27 (fun j hj => by rcases j with _ | _ | _ | _ | _ | _ | _ | _ | j <;> first | rfl | omega) (Nat.le_of_ble_eq_true rfl) (Nat.le_of_ble_eq_true rfl) dX6_daily_39 (fun q9 H2 hq9 HP HS => ?_)
  have hFR : 40 + nl ∈ RR ++ [40 + nl] := List.mem_append_right _ (List.mem_singleton.mpr rfl)
  have had : ∀ r, r < 18 → va_up ad (40 + nl) q9 r = ad r := fun r hr => va_up_ne _ _ (by omega)
  refine lv_dup hx hb dX6_daily_42 rfl ?_
  refine lv_iload_n hx hb dX6_daily_43 rfl (lv_at hl 2 rfl) ?_
  refine lv_iload hx hb dX6_daily_44 (lv_at hl 6 rfl) ?_
  refine lv_aload hx hb dX6_daily_46 (lv_at hl 0 rfl) ?_
  refine lv_iload_n hx hb dX6_daily_48 rfl (lv_at hl 4 rfl) ?_
  refine lv_iload hx hb dX6_daily_49 (lv_at hl 5 rfl) ?_
  have hini := x_iDaily (l := l) (ids := ids) HP (r := 40 + nl) hFR (s1 := s9) (r1 := r9) (b1 := ad (7 + d)) (f1 := f9) (t1 := t9) (va_up_self ..)
  rw [va_up_self] at hini
  refine ro_callI MC HS (rest := [.ref q9, .ref (ad 0)]) (As := [.int s9, .int r9, .ref (ad (7 + d)), .int f9, .int t9]) (hini) (lkX6_91) (kw284) (rfl) ⟨Nat.le_of_ble_eq_true rfl, Nat.le_of_ble_eq_true rfl⟩ hl.1 rfl (Nat.le_of_ble_eq_true rfl) dX6_daily_51 ⟨Nat.le_of_ble_eq_true rfl, Nat.le_of_ble_eq_true rfl⟩ (fun v9 H7 lH7 hp hz HS => ?_)
  obtain ⟨rfl, cn3, HP, hf3, hn3⟩ := hp
  have h0R : 0 ∈ RR ++ [40 + nl] := List.mem_append_left _ (hRR.l (by omega))
  have h3R : 3 ∈ RR ++ [40 + nl] := List.mem_append_left _ (hRR.l (by omega))
  have j0 : cn3 0 = .inr (5, xoF τ (va_up ad (40 + nl) q9)) := by rw [hn3 0 (by omega), va_up_ne _ _ (by omega), xoF_ad had]; exact h0
  have j3 : cn3 3 = .inl (ids 4, 20, .inr (.inr (.inr (.inr ff)))) := (hn3 3 (by omega)).trans ((va_up_ne _ _ (by omega)).trans h3)
  have had0 := had 0 (by omega)
  have hlay := x_lay (l := l) HP hI hlt h0R h3R hFR j0 j3 hf3 (rfl : vwCl[1]? = some (RX2, TX2, 5)) (by decide +kernel)
  rw [va_up_self, had0] at hlay
  refine ro_callV MC HS (rest := []) (As := [.ref q9]) (hlay) (lkX6_85) (kw275) (kw4) ⟨Nat.le_of_ble_eq_true rfl, Nat.le_of_ble_eq_true rfl⟩ (by have h9 := ro_recv MC HP h0R j0 (rfl : vwCl[5]? = some (RX6, TX6, 11)); rw [had0] at h9; exact h9) hl.1 rfl (Nat.le_of_ble_eq_true rfl) dX6_daily_54 ⟨Nat.le_of_ble_eq_true rfl, Nat.le_of_ble_eq_true rfl⟩ (fun v9 H8 lH8 hp hz HS => ?_)
  obtain ⟨rfl, cn4, HP, k0, k3, hn4⟩ := hp
  have hn20 : ¬ τ 0 2 = 20 := by intro h9; rw [hI.2.2.1.1] at h9; exact absurd ((nI_eq (by omega) (by omega) : nI nl = nI 20 ↔ _).mp h9) (by omega)
  have hz4 : τ 4 nl = 0 := hI.2.2.2.2.2.2.2.2.1 nl (Nat.le_refl _) hlt
  have hI2 := hI.lays (how := 1) (a := f9) (b := t9) (i := i) (d := d) (r := r8) (by first | exact Or.inl rfl | exact Or.inr (Or.inl rfl) | exact Or.inr (Or.inr rfl)) hi (by omega) hr1 (by omega) hn20
  rw [← hia, ← hra, ← hda] at hI2
  have k3b := lay_k3b (q := q9) h3b hz4
  rw [va_up_self] at k3b
  have k40 : ∀ k, k < nl + 1 → cn4 (40 + k) = frE (nx_lays τ 1 s9 a9 f9 t9 r9) (va_up ad (40 + nl) q9) k := by
    intro k hk
    rw [hn4 _ (by omega) (by omega)]
    by_cases h9 : k = nl
    · rw [h9, hf3, ← had (7 + d) (by omega)]; exact lay_new1 hcs hdc
    · rw [hn3 _ (by omega), va_up_ne _ _ (by omega), lay_old hI (by omega)]; exact h40 k (by omega)
  exact ro_MT (ro_iretM MC HS hr (⟨aq_daily_6 hf_6 hf_7 hf_8 hf_9 hf_10 hf_11, rfl, ⟨RR ++ [40 + nl], (va_up ad (40 + nl) q9), cn4, nw, ns, nl + 1, nc, ⟨HP, hRR.addF hlt, _, _, _, _, _, _, isX.lay ⟨h0, h1, h1b, h2, h2b, h7, h7b, h3, h3b, h40, h4, h4b, h60, h5, h6⟩ hI (fun r hr => (hn4 r (by omega) (by omega)).trans ((hn3 r (by omega)).trans (va_up_ne _ _ (by omega)))) (fun i hi => lays_row hi) (fun r hr => va_up_ne _ _ hr) hlt (k0.trans (by rw [st_lay hI hlt (how := 1) (s := s9) (d := a9) (a := f9) (b := t9) (r := r9)]; rfl)) k3 (fun k hk => by rw [lays_row (by omega)]; exact k3b k hk) k40⟩, hI2, fun r hr => had r hr, fun r hr1 hr2 => (hn4 r (by omega) (by omega)).trans ((hn3 r (by omega)).trans (va_up_ne _ _ (by omega)))⟩⟩) (Nat.le_of_ble_eq_true rfl) (Nat.le_of_ble_eq_true rfl) dX6_daily_57)
set_option maxHeartbeats 4000000 in
set_option maxRecDepth 100000 in
theorem q_feasts {l : Launch} (hl9 : l.stackTraces = false) {D : va_G} {ids : Nat → ClassId} {n0 : Nat} {RR : List Nat} {ad : Nat → Nat} {cn : Nat → va_E} {τ : Tau} {ns nl nc : Nat} {Hh : Heap} (hX : xH D ids n0 RR ad cn τ ns nl nc Hh) {nw : Nat} (hI : Iv τ nw ns nl nc) {s9 a9 r9 : Int32} : ro_T l yX6_feasts cX6_feasts 5 (some FieldType.int) { frames := 8, cells := 8, slots := 48, locals := 240 } D ids n0 [.ref (ad 0), .int s9, .int a9, .int r9] Hh (fun v H1 => th_feasts τ s9 a9 r9 = 0 ∧ v = some (.int (rt_feasts τ s9 a9 r9)) ∧ aft D ids n0 ad cn (nx_feasts τ s9 a9 r9) H1) (fun E9 H1 => grow Hh H1 ∧ ((th_feasts τ s9 a9 r9 = 1 ∧ E9 = "java/lang/IndexOutOfBoundsException") ∨ (th_feasts τ s9 a9 r9 = 2 ∧ E9 = "java/lang/IllegalArgumentException") ∨ (th_feasts τ s9 a9 r9 = 3 ∧ E9 = "java/lang/IllegalStateException"))) := by
  refine ro_ofT (by decide +kernel) (Nat.le_of_ble_eq_true rfl) ?_
  intro p e s m below meth c MC hhp hr hno HS ls hl
  have hx := MC.1.1
  have hb := MC.1.2.1
  have hl : lv_has ls 5 [(0, .ref (ad 0)), (1, .int s9), (2, .int a9), (3, .int r9)] := hl
  obtain ⟨HP, hRR, sa, bm, fm, lf, ff, cf, h0, h1, h1b, h2, h2b, h7, h7b, h3, h3b, h40, h4, h4b, h60, h5, h6⟩ := id hX
  have hwb := hI.wb
  have hsb := hI.sb
  have hlb := hI.lb
  have hcb := hI.cb
  have hnl := hI.2.2.1.2
  have hns := hI.2.1.2.2
  have hnc := hI.2.2.2.1.2
  have hcs : cx (τ 0 2) = nl := by rw [hI.2.2.1.1]; exact cx_nI (by omega)
  refine lv_aload_n hx hb dX6_feasts_0 rfl (lv_at hl 0 rfl) ?_
  refine lv_iload_n hx hb dX6_feasts_1 rfl (lv_at hl 1 rfl) ?_
  refine ro_callVT MC HS (rest := []) (As := [.int s9]) (x_needScope hl9 hX hI) (lkX6_43) (kw101) (kw0) ⟨Nat.le_of_ble_eq_true rfl, Nat.le_of_ble_eq_true rfl⟩ (ro_recv MC HP (hRR.l (by decide)) h0 (rfl : vwCl[5]? = some (RX6, TX6, 11))) hl.1 rfl (Nat.le_of_ble_eq_true rfl) dX6_feasts_2 ⟨Nat.le_of_ble_eq_true rfl, Nat.le_of_ble_eq_true rfl⟩ (ro_out MC hno (Nat.le_of_ble_eq_true rfl) (Nat.le_of_ble_eq_true rfl) (fun E9 H9 hp => by obtain ⟨hg9, rfl, hn9⟩ := hp; exact ⟨hg9, Or.inl (⟨aq_feasts_0 hn9, rfl⟩)⟩)) (fun v9 H1 lH1 hp hz HS => ?_)
  obtain ⟨rfl, hf_12, rfl⟩ := hp
  obtain ⟨i, hi, hia, hic⟩ := hI.s hf_12
  refine lv_aload_n hx hb dX6_feasts_5 rfl (lv_at hl 0 rfl) ?_
  refine lv_iload_n hx hb dX6_feasts_6 rfl (lv_at hl 2 rfl) ?_
  refine ro_callVT MC HS (rest := []) (As := [.int a9]) (x_needLand hl9 hX hI) (lkX6_54) (kw194) (kw2) ⟨Nat.le_of_ble_eq_true rfl, Nat.le_of_ble_eq_true rfl⟩ (ro_recv MC HP (hRR.l (by decide)) h0 (rfl : vwCl[5]? = some (RX6, TX6, 11))) hl.1 rfl (Nat.le_of_ble_eq_true rfl) dX6_feasts_7 ⟨Nat.le_of_ble_eq_true rfl, Nat.le_of_ble_eq_true rfl⟩ (ro_out MC hno (Nat.le_of_ble_eq_true rfl) (Nat.le_of_ble_eq_true rfl) (fun E9 H9 hp => by obtain ⟨hg9, rfl, hn9⟩ := hp; exact ⟨hg9, Or.inl (⟨aq_feasts_1 hf_12 hn9, rfl⟩)⟩)) (fun v9 H2 lH2 hp hz HS => ?_)
  obtain ⟨d, hd, hda, hdc, hf_13, rfl, rfl⟩ := hp
  refine lv_astore (lv' := [(4, .ref (ad (7 + d))), (0, .ref (ad 0)), (1, .int s9), (2, .int a9), (3, .int r9)]) hx hb dX6_feasts_10 hl (by decide) rfl (fun ls hl => ?_)
  refine lv_iload_n hx hb dX6_feasts_12 rfl (lv_at hl 4 rfl) ?_
  refine lv_iconst (v := 1) hx hb dX6_feasts_13 (by decide) ?_
  refine lv_iconst (v := 3) hx hb dX6_feasts_14 (by decide) ?_
  refine ro_callST MC HS (rest := []) (As := [.int r9, .int 1, .int 3]) (x_needRange hl9) (lkX6_58) (kw198) ⟨Nat.le_of_ble_eq_true rfl, Nat.le_of_ble_eq_true rfl⟩ hl.1 rfl (Nat.le_of_ble_eq_true rfl) dX6_feasts_15 ⟨Nat.le_of_ble_eq_true rfl, Nat.le_of_ble_eq_true rfl⟩ (ro_out MC hno (Nat.le_of_ble_eq_true rfl) (Nat.le_of_ble_eq_true rfl) (fun E9 H9 hp => by obtain ⟨hg9, rfl, hn9⟩ := hp; exact ⟨hg9, Or.inr (Or.inl (⟨aq_feasts_2 hf_12 hf_13 hn9, rfl⟩))⟩)) (fun v9 H3 lH3 hp hz HS => ?_)
  obtain ⟨rfl, hf_14, rfl⟩ := hp
  obtain ⟨r8, hr1, hr4, hra, hrc⟩ := okR.ix hf_14
  refine lv_aload_n hx hb dX6_feasts_18 rfl (lv_at hl 1 rfl) ?_
  refine ro_callVT MC HS (rest := []) (As := []) (x_needRoom hl9 hX hI) (lkX6_77) (kw246) (kw3) ⟨Nat.le_of_ble_eq_true rfl, Nat.le_of_ble_eq_true rfl⟩ (ro_recv MC HP (hRR.l (by decide)) h0 (rfl : vwCl[5]? = some (RX6, TX6, 11))) hl.1 rfl (Nat.le_of_ble_eq_true rfl) dX6_feasts_19 ⟨Nat.le_of_ble_eq_true rfl, Nat.le_of_ble_eq_true rfl⟩ (ro_out MC hno (Nat.le_of_ble_eq_true rfl) (Nat.le_of_ble_eq_true rfl) (fun E9 H9 hp => by obtain ⟨hg9, rfl, hn9⟩ := hp; exact ⟨hg9, Or.inr (Or.inr (⟨aq_feasts_3 hf_12 hf_13 hf_14 hn9, rfl⟩))⟩)) (fun v9 H4 lH4 hp hz HS => ?_)
  obtain ⟨rfl, hf_15, rfl⟩ := hp
  refine lv_aload_n hx hb dX6_feasts_22 rfl (lv_at hl 1 rfl) ?_
  have hlt : nl < 20 := lt_of hI.2.2.1.1 (by omega) (by omega) hf_15
  refine ro_new MC HP HS (40 + nl) (hRR.nf hlt) [.int 0, .int 0, .null] (rfl : vwCl[2]? = some (RX3, TX3, 3)) inU3 tyX3_ok kw303 kw304 kw28 (fun j hj => by rcases j with _ | _ | _ | _ | _ | _ | _ | _ | j <;> first | rfl | omega) (Nat.le_of_ble_eq_true rfl) (Nat.le_of_ble_eq_true rfl) dX6_feasts_23 (fun q9 H2 hq9 HP HS => ?_)
  have hFR : 40 + nl ∈ RR ++ [40 + nl] := List.mem_append_right _ (List.mem_singleton.mpr rfl)
  have had : ∀ r, r < 18 → va_up ad (40 + nl) q9 r = ad r := fun r hr => va_up_ne _ _ (by omega)
  refine lv_dup hx hb dX6_feasts_26 rfl ?_
  refine lv_iload_n hx hb dX6_feasts_27 rfl (lv_at hl 2 rfl) ?_
  refine lv_iload_n hx hb dX6_feasts_28 rfl (lv_at hl 4 rfl) ?_
  refine lv_aload hx hb dX6_feasts_29 (lv_at hl 0 rfl) ?_
  have hini := x_iFeasts (l := l) (ids := ids) HP (r := 40 + nl) hFR (s1 := s9) (r1 := r9) (b1 := ad (7 + d)) (va_up_self ..)
  rw [va_up_self] at hini
  refine ro_callI MC HS (rest := [.ref q9, .ref (ad 0)]) (As := [.int s9, .int r9, .ref (ad (7 + d))]) (hini) (lkX6_96) (kw306) (rfl) ⟨Nat.le_of_ble_eq_true rfl, Nat.le_of_ble_eq_true rfl⟩ hl.1 rfl (Nat.le_of_ble_eq_true rfl) dX6_feasts_31 ⟨Nat.le_of_ble_eq_true rfl, Nat.le_of_ble_eq_true rfl⟩ (fun v9 H5 lH5 hp hz HS => ?_)
  obtain ⟨rfl, cn3, HP, hf3, hn3⟩ := hp
  have h0R : 0 ∈ RR ++ [40 + nl] := List.mem_append_left _ (hRR.l (by omega))
  have h3R : 3 ∈ RR ++ [40 + nl] := List.mem_append_left _ (hRR.l (by omega))
  have j0 : cn3 0 = .inr (5, xoF τ (va_up ad (40 + nl) q9)) := by rw [hn3 0 (by omega), va_up_ne _ _ (by omega), xoF_ad had]; exact h0
  have j3 : cn3 3 = .inl (ids 4, 20, .inr (.inr (.inr (.inr ff)))) := (hn3 3 (by omega)).trans ((va_up_ne _ _ (by omega)).trans h3)
  have had0 := had 0 (by omega)
  have hlay := x_lay (l := l) HP hI hlt h0R h3R hFR j0 j3 hf3 (rfl : vwCl[2]? = some (RX3, TX3, 3)) (by decide +kernel)
  rw [va_up_self, had0] at hlay
  refine ro_callV MC HS (rest := []) (As := [.ref q9]) (hlay) (lkX6_85) (kw275) (kw4) ⟨Nat.le_of_ble_eq_true rfl, Nat.le_of_ble_eq_true rfl⟩ (by have h9 := ro_recv MC HP h0R j0 (rfl : vwCl[5]? = some (RX6, TX6, 11)); rw [had0] at h9; exact h9) hl.1 rfl (Nat.le_of_ble_eq_true rfl) dX6_feasts_34 ⟨Nat.le_of_ble_eq_true rfl, Nat.le_of_ble_eq_true rfl⟩ (fun v9 H6 lH6 hp hz HS => ?_)
  obtain ⟨rfl, cn4, HP, k0, k3, hn4⟩ := hp
  have hn20 : ¬ τ 0 2 = 20 := by intro h9; rw [hI.2.2.1.1] at h9; exact absurd ((nI_eq (by omega) (by omega) : nI nl = nI 20 ↔ _).mp h9) (by omega)
  have hz4 : τ 4 nl = 0 := hI.2.2.2.2.2.2.2.2.1 nl (Nat.le_refl _) hlt
  have hI2 := hI.lays (how := 2) (a := 0) (b := 0) (i := i) (d := d) (r := r8) (by first | exact Or.inl rfl | exact Or.inr (Or.inl rfl) | exact Or.inr (Or.inr rfl)) hi (by omega) hr1 (by omega) hn20
  rw [← hia, ← hra, ← hda] at hI2
  have k3b := lay_k3b (q := q9) h3b hz4
  rw [va_up_self] at k3b
  have k40 : ∀ k, k < nl + 1 → cn4 (40 + k) = frE (nx_lays τ 2 s9 a9 0 0 r9) (va_up ad (40 + nl) q9) k := by
    intro k hk
    rw [hn4 _ (by omega) (by omega)]
    by_cases h9 : k = nl
    · rw [h9, hf3, ← had (7 + d) (by omega)]; exact lay_new2 hcs hdc
    · rw [hn3 _ (by omega), va_up_ne _ _ (by omega), lay_old hI (by omega)]; exact h40 k (by omega)
  exact ro_MT (ro_iretM MC HS hr (⟨aq_feasts_4 hf_12 hf_13 hf_14 hf_15, rfl, ⟨RR ++ [40 + nl], (va_up ad (40 + nl) q9), cn4, nw, ns, nl + 1, nc, ⟨HP, hRR.addF hlt, _, _, _, _, _, _, isX.lay ⟨h0, h1, h1b, h2, h2b, h7, h7b, h3, h3b, h40, h4, h4b, h60, h5, h6⟩ hI (fun r hr => (hn4 r (by omega) (by omega)).trans ((hn3 r (by omega)).trans (va_up_ne _ _ (by omega)))) (fun i hi => lays_row hi) (fun r hr => va_up_ne _ _ hr) hlt (k0.trans (by rw [st_lay hI hlt (how := 2) (s := s9) (d := a9) (a := 0) (b := 0) (r := r9)]; rfl)) k3 (fun k hk => by rw [lays_row (by omega)]; exact k3b k hk) k40⟩, hI2, fun r hr => had r hr, fun r hr1 hr2 => (hn4 r (by omega) (by omega)).trans ((hn3 r (by omega)).trans (va_up_ne _ _ (by omega)))⟩⟩) (Nat.le_of_ble_eq_true rfl) (Nat.le_of_ble_eq_true rfl) dX6_feasts_37)
set_option maxHeartbeats 4000000 in
set_option maxRecDepth 100000 in
theorem q_plan {l : Launch} (hl9 : l.stackTraces = false) {D : va_G} {ids : Nat → ClassId} {n0 : Nat} {RR : List Nat} {ad : Nat → Nat} {cn : Nat → va_E} {τ : Tau} {ns nl nc : Nat} {Hh : Heap} (hX : xH D ids n0 RR ad cn τ ns nl nc Hh) {nw : Nat} (hI : Iv τ nw ns nl nc) {s9 f9 n9 r9 : Int32} : ro_T l yX6_plan cX6_plan 6 (some FieldType.int) { frames := 8, cells := 8, slots := 48, locals := 240 } D ids n0 [.ref (ad 0), .int s9, .int f9, .int n9, .int r9] Hh (fun v H1 => th_plan τ s9 f9 n9 r9 = 0 ∧ v = some (.int (rt_plan τ s9 f9 n9 r9)) ∧ aft D ids n0 ad cn (nx_plan τ s9 f9 n9 r9) H1) (fun E9 H1 => grow Hh H1 ∧ ((th_plan τ s9 f9 n9 r9 = 1 ∧ E9 = "java/lang/IndexOutOfBoundsException") ∨ (th_plan τ s9 f9 n9 r9 = 2 ∧ E9 = "java/lang/IllegalArgumentException") ∨ (th_plan τ s9 f9 n9 r9 = 3 ∧ E9 = "java/lang/IllegalStateException"))) := by
  refine ro_ofT (by decide +kernel) (Nat.le_of_ble_eq_true rfl) ?_
  intro p e s m below meth c MC hhp hr hno HS ls hl
  have hx := MC.1.1
  have hb := MC.1.2.1
  have hl : lv_has ls 6 [(0, .ref (ad 0)), (1, .int s9), (2, .int f9), (3, .int n9), (4, .int r9)] := hl
  obtain ⟨HP, hRR, sa, bm, fm, lf, ff, cf, h0, h1, h1b, h2, h2b, h7, h7b, h3, h3b, h40, h4, h4b, h60, h5, h6⟩ := id hX
  have hwb := hI.wb
  have hsb := hI.sb
  have hlb := hI.lb
  have hcb := hI.cb
  have hnl := hI.2.2.1.2
  have hns := hI.2.1.2.2
  have hnc := hI.2.2.2.1.2
  have hcs : cx (τ 0 2) = nl := by rw [hI.2.2.1.1]; exact cx_nI (by omega)
  refine lv_aload_n hx hb dX6_plan_0 rfl (lv_at hl 0 rfl) ?_
  refine lv_iload_n hx hb dX6_plan_1 rfl (lv_at hl 1 rfl) ?_
  refine ro_callVT MC HS (rest := []) (As := [.int s9]) (x_needScope hl9 hX hI) (lkX6_43) (kw101) (kw0) ⟨Nat.le_of_ble_eq_true rfl, Nat.le_of_ble_eq_true rfl⟩ (ro_recv MC HP (hRR.l (by decide)) h0 (rfl : vwCl[5]? = some (RX6, TX6, 11))) hl.1 rfl (Nat.le_of_ble_eq_true rfl) dX6_plan_2 ⟨Nat.le_of_ble_eq_true rfl, Nat.le_of_ble_eq_true rfl⟩ (ro_out MC hno (Nat.le_of_ble_eq_true rfl) (Nat.le_of_ble_eq_true rfl) (fun E9 H9 hp => by obtain ⟨hg9, rfl, hn9⟩ := hp; exact ⟨hg9, Or.inl (⟨aq_plan_0 hcb hn9, rfl⟩)⟩)) (fun v9 H1 lH1 hp hz HS => ?_)
  obtain ⟨rfl, hf_16, rfl⟩ := hp
  obtain ⟨i, hi, hia, hic⟩ := hI.s hf_16
  refine lv_iload_n hx hb dX6_plan_5 rfl (lv_at hl 3 rfl) ?_
  refine lv_iconst (v := 1) hx hb dX6_plan_6 (by decide) ?_
  refine lv_bipush (v := 100) hx hb dX6_plan_7 (by decide) ?_
  refine ro_callST MC HS (rest := []) (As := [.int n9, .int 1, .int 100]) (x_needRange hl9) (lkX6_58) (kw198) ⟨Nat.le_of_ble_eq_true rfl, Nat.le_of_ble_eq_true rfl⟩ hl.1 rfl (Nat.le_of_ble_eq_true rfl) dX6_plan_9 ⟨Nat.le_of_ble_eq_true rfl, Nat.le_of_ble_eq_true rfl⟩ (ro_out MC hno (Nat.le_of_ble_eq_true rfl) (Nat.le_of_ble_eq_true rfl) (fun E9 H9 hp => by obtain ⟨hg9, rfl, hn9⟩ := hp; exact ⟨hg9, Or.inr (Or.inl (⟨aq_plan_1 hcb hf_16 hn9, rfl⟩))⟩)) (fun v9 H2 lH2 hp hz HS => ?_)
  obtain ⟨rfl, hf_17, rfl⟩ := hp
  refine lv_iload_n hx hb dX6_plan_12 rfl (lv_at hl 2 rfl) ?_
  refine lv_aload_n hx hb dX6_plan_13 rfl (lv_at hl 0 rfl) ?_
  refine ro_get MC HP (hRR.l (by decide)) h0 (rfl : vwCl[5]? = some (RX6, TX6, 11)) inU6 3 (by decide) kw64 rfl rfl dX6_plan_14 ?_
  refine lv_sipush (v := 672) hx hb dX6_plan_17 (by decide) ?_
  refine lv_iload_n hx hb dX6_plan_20 rfl (lv_at hl 3 rfl) ?_
  refine lv_isub hx hb dX6_plan_21 ?_
  refine ro_callST MC HS (rest := []) (As := [.int f9, .int (τ 0 0), .int ((672 - n9))]) (x_needRange hl9) (lkX6_58) (kw198) ⟨Nat.le_of_ble_eq_true rfl, Nat.le_of_ble_eq_true rfl⟩ hl.1 rfl (Nat.le_of_ble_eq_true rfl) dX6_plan_22 ⟨Nat.le_of_ble_eq_true rfl, Nat.le_of_ble_eq_true rfl⟩ (ro_out MC hno (Nat.le_of_ble_eq_true rfl) (Nat.le_of_ble_eq_true rfl) (fun E9 H9 hp => by obtain ⟨hg9, rfl, hn9⟩ := hp; have hn9 := fun h9 => hn9 ((okP_iff hwb hf_17).mpr h9); exact ⟨hg9, Or.inr (Or.inl (⟨aq_plan_2 hcb hf_16 hf_17 hn9, rfl⟩))⟩)) (fun v9 H3 lH3 hp hz HS => ?_)
  obtain ⟨rfl, hf_18, rfl⟩ := hp
  have hf_18 := (okP_iff hwb hf_17).mp hf_18
  refine lv_iload hx hb dX6_plan_25 (lv_at hl 4 rfl) ?_
  refine lv_iconst (v := 1) hx hb dX6_plan_27 (by decide) ?_
  refine lv_iconst (v := 3) hx hb dX6_plan_28 (by decide) ?_
  refine ro_callST MC HS (rest := []) (As := [.int r9, .int 1, .int 3]) (x_needRange hl9) (lkX6_58) (kw198) ⟨Nat.le_of_ble_eq_true rfl, Nat.le_of_ble_eq_true rfl⟩ hl.1 rfl (Nat.le_of_ble_eq_true rfl) dX6_plan_29 ⟨Nat.le_of_ble_eq_true rfl, Nat.le_of_ble_eq_true rfl⟩ (ro_out MC hno (Nat.le_of_ble_eq_true rfl) (Nat.le_of_ble_eq_true rfl) (fun E9 H9 hp => by obtain ⟨hg9, rfl, hn9⟩ := hp; exact ⟨hg9, Or.inr (Or.inl (⟨aq_plan_3 hcb hf_16 hf_17 hf_18 hn9, rfl⟩))⟩)) (fun v9 H4 lH4 hp hz HS => ?_)
  obtain ⟨rfl, hf_19, rfl⟩ := hp
  refine lv_aload_n hx hb dX6_plan_32 rfl (lv_at hl 0 rfl) ?_
  refine ro_get MC HP (hRR.l (by decide)) h0 (rfl : vwCl[5]? = some (RX6, TX6, 11)) inU6 8 (by decide) kw69 rfl rfl dX6_plan_33 ?_
  refine lv_bipush (v := 30) hx hb dX6_plan_36 (by decide) ?_
  refine lv_icmp_lt (tgt := 51) hx hb dX6_plan_38 (by decide) (fun c_38 => ?_) (fun c_38 => ?_)
  · have hc30 : ¬ nI 30 ≤ τ 0 3 := by show ¬ 30 ≤ τ 0 3; clear hX HP; lia
    refine lv_aload_n hx hb dX6_plan_51 rfl (lv_at hl 0 rfl) ?_
    refine ro_get MC HP (hRR.l (by decide)) h0 (rfl : vwCl[5]? = some (RX6, TX6, 11)) inU6 8 (by decide) kw69 rfl rfl dX6_plan_52 ?_
    refine lv_istore (lv' := [(5, .int (τ 0 3)), (0, .ref (ad 0)), (1, .int s9), (2, .int f9), (3, .int n9), (4, .int r9)]) hx hb dX6_plan_55 hl (by decide) rfl (fun ls hl => ?_)
    refine lv_aload_n hx hb dX6_plan_57 rfl (lv_at hl 1 rfl) ?_
    refine ro_get MC HP (hRR.l (by decide)) h0 (rfl : vwCl[5]? = some (RX6, TX6, 11)) inU6 7 (by decide) kw68 rfl rfl dX6_plan_58 ?_
    refine lv_iload hx hb dX6_plan_61 (lv_at hl 0 rfl) ?_
    have hlt : nc < 30 := lt_of hI.2.2.2.1.1 (by omega) (by omega) hc30
    refine ro_new MC HP HS (60 + nc) (hRR.nc hnl) [.int 0, .int 0, .int 0, .int 0, .int 0, .int 0, .int 0, .int 0] (rfl : vwCl[0]? = some (RX0, TX0, 8)) inU0 tyX0_ok kw44 kw396 kw31 (fun j hj => by rcases j with _ | _ | _ | _ | _ | _ | _ | _ | j <;> first | rfl | omega) (Nat.le_of_ble_eq_true rfl) (Nat.le_of_ble_eq_true rfl) dX6_plan_63 (fun q9 H2 hq9 HP HS => ?_)
    have hFR : 60 + nc ∈ RR ++ [60 + nc] := List.mem_append_right _ (List.mem_singleton.mpr rfl)
    have had : ∀ r, r < 18 → va_up ad (60 + nc) q9 r = ad r := fun r hr => va_up_ne _ _ (by omega)
    refine lv_dup hx hb dX6_plan_66 rfl ?_
    refine lv_iload_n hx hb dX6_plan_67 rfl (lv_at hl 2 rfl) ?_
    refine lv_iload_n hx hb dX6_plan_68 rfl (lv_at hl 3 rfl) ?_
    refine lv_iload_n hx hb dX6_plan_69 rfl (lv_at hl 4 rfl) ?_
    refine lv_iload hx hb dX6_plan_70 (lv_at hl 5 rfl) ?_
    have hini := x_iChange (l := l) (ids := ids) HP (r := 60 + nc) hFR (s1 := s9) (b1 := f9) (n1 := n9) (r1 := r9) (va_up_self ..)
    rw [va_up_self] at hini
    refine ro_callI MC HS (rest := [.ref q9, .int (τ 0 3), .ref (ad 4)]) (As := [.int s9, .int f9, .int n9, .int r9]) (hini) (lkX6_122) (kw398) (rfl) ⟨Nat.le_of_ble_eq_true rfl, Nat.le_of_ble_eq_true rfl⟩ hl.1 rfl (Nat.le_of_ble_eq_true rfl) dX6_plan_72 ⟨Nat.le_of_ble_eq_true rfl, Nat.le_of_ble_eq_true rfl⟩ (fun v9 H5 lH5 hp hz HS => ?_)
    obtain ⟨rfl, cn3, HP, hf3, hn3⟩ := hp
    have h0R : 0 ∈ RR ++ [60 + nc] := List.mem_append_left _ (hRR.l (by omega))
    have h4R : 4 ∈ RR ++ [60 + nc] := List.mem_append_left _ (hRR.l (by omega))
    have j0 : cn3 0 = .inr (5, xoF τ (va_up ad (60 + nc) q9)) := by rw [hn3 0 (by omega), va_up_ne _ _ (by omega), xoF_ad had]; exact h0
    have j4 : cn3 4 = .inl (ids 5, 30, .inr (.inr (.inr (.inr cf)))) := (hn3 4 (by omega)).trans ((va_up_ne _ _ (by omega)).trans h4)
    refine xo_aastE MC HP HS 5 (had 4 (by omega)) h4R j4 rfl (va_up_self ..) hFR hf3 (rfl : vwCl[0]? = some (RX0, TX0, 8)) nc (show nc < 30 by omega) (by omega) hI.2.2.2.1.1 dX6_plan_75 (fun H6 lH6 HP HS => ?_)
    refine lv_aload_n hx hb dX6_plan_76 rfl (lv_at hl 1 rfl) ?_
    refine lv_iload hx hb dX6_plan_77 (lv_at hl 0 rfl) ?_
    refine lv_iconst (v := 1) hx hb dX6_plan_79 (by decide) ?_
    refine lv_iadd hx hb dX6_plan_80 ?_
    refine ro_putE MC HP HS (had 0 (by omega)) h0R ((va_up_ne _ _ (by omega)).trans j0) (rfl : vwCl[5]? = some (RX6, TX6, 11)) inU6 tyX6_ok nmX6 8 (by decide) kw69 rfl rfl rfl rfl (Nat.le_of_ble_eq_true rfl) dX6_plan_81 (fun H7 lH7 HP HS => ?_)
    refine lv_iload hx hb dX6_plan_84 (lv_at hl 0 rfl) ?_
    have hn30 : ¬ τ 0 3 = 30 := by intro h9; rw [hI.2.2.2.1.1] at h9; exact absurd ((nI_eq (by omega) (by omega) : nI nc = nI 30 ↔ _).mp h9) (by omega)
    obtain ⟨b8, n8, hfa, hna, hn81, hn82, hbn8⟩ := pl_ix hwb hf_17 hf_18
    have hI2 := hI.plan (i := i) (b := b8) (n := n8) (r := r9) hi hn81 hn82 hbn8 hf_19 hn30
    rw [← hia, ← hfa, ← hna] at hI2
    have k4b := pln_k4b (q := q9) h4b
    rw [va_up_self] at k4b
    have k60 : ∀ k, k < nc + 1 → va_up (va_up cn3 4 (.inl (ids 5, 30, .inr (.inr (.inr (.inr (va_up cf nc (some q9)))))))) 0 (.inr (5, (xoF τ (va_up ad (60 + nc) q9)).set 8 (.int (τ 0 3 + 1)))) (60 + k) = .inr (0, chF (nx_plan τ s9 f9 n9 r9) k) := by
      intro k hk
      rw [va_up_ne _ _ (by omega), va_up_ne _ _ (by omega)]
      by_cases h9 : k = nc
      · rw [h9, hf3]; exact pln_new hI hlt
      · rw [hn3 _ (by omega), va_up_ne _ _ (by omega), pln_old hI (by omega)]; exact h60 k (by omega)
    exact ro_MT (ro_iretM MC HS hr (⟨aq_plan_4 hcb hf_16 hf_17 hf_18 hf_19 c_38, rfl, ⟨RR ++ [60 + nc], (va_up ad (60 + nc) q9), _, nw, ns, nl, nc + 1, ⟨HP, hRR.addC, _, _, _, _, _, _, isX.pln ⟨h0, h1, h1b, h2, h2b, h7, h7b, h3, h3b, h40, h4, h4b, h60, h5, h6⟩ hI (fun r hr => (va_up_ne _ _ (by omega)).trans ((va_up_ne _ _ (by omega)).trans ((hn3 r (by omega)).trans (va_up_ne _ _ (by omega))))) (fun i hi => plan_row hi) (fun r hr => va_up_ne _ _ hr) ((va_up_self ..).trans rfl) ((va_up_ne _ _ (by omega)).trans (va_up_self ..)) k4b k60⟩, hI2, fun r hr => had r hr, fun r hr1 hr2 => (va_up_ne _ _ (by omega)).trans ((va_up_ne _ _ (by omega)).trans ((hn3 r (by omega)).trans (va_up_ne _ _ (by omega))))⟩⟩) (Nat.le_of_ble_eq_true rfl) (Nat.le_of_ble_eq_true rfl) dX6_plan_86)
  · exact ro_throw hl9 MC HS hno th_120 hl.1 dX6_plan_41 dX6_plan_44 dX6_plan_45 dX6_plan_47 dX6_plan_50 ⟨Nat.le_of_ble_eq_true rfl, Nat.le_of_ble_eq_true rfl, Nat.le_of_ble_eq_true rfl, Nat.le_of_ble_eq_true rfl⟩ (fun H9 hz9 hq9 => ⟨⟨hz9, hq9⟩, Or.inr (Or.inr (⟨aq_plan_5 hcb hf_16 hf_17 hf_18 hf_19 c_38, rfl⟩))⟩) (Nat.le_of_ble_eq_true rfl) (Nat.le_of_ble_eq_true rfl)
end
section
section GG
variable {p : Program} {l : Launch} {e : Env} {R : Room} {s : State} {m : MethodId} {args : Array Value} {below : List Frame} {meth : Method} {c : Code} {H : Heap} {locs : List Loc} {cells slots : Nat} {Q : State → Prop}
variable {cc : ByteArray} {nL : Nat} {own : String} {D : va_G} {ids : Nat → ClassId} {n0 : Nat} {RR : List Nat} {ad : Nat → Nat} {cn : Nat → va_E} {pc : Nat} {ls : Array Slot} {rest : List Value}
theorem ro_newaG (MC : ro_C p s m args meth c cc nL own D ids n0) (HP : ro_P D n0 RR ad cn H) (HS : va_S (fun q => n0 ≤ q) s.heap H locs) (r : Nat) (hr : r ∉ RR) {atype : ArrayType} (t0 : Nat) {ty : FieldType} (hty : newarray.typeOf atype = ty) (harr : Cond.arrayClass ty ∈ uU) (ht : (uTy ids)[t0]? = some (ids t0, ty)) {x : vp_A} (hobj : ∀ C, ty ≠ .object C) (hx9 : vp_cell (ids t0) x = arrV (ids t0) x.1 (fun _ => defaultValue ty))
    {n : Int32} (hn : ¬ n < 0) (hN : n.toNatClampNeg = x.1) (hbytes : x.1 * componentBytes ty ≤ 536870912) (hcells : cells + 1 ≤ R.cells) (hslots : slots + x.1 ≤ R.slots) (hdg : decode cc pc = .ok (.newarray atype, 2))
    (kk : ∀ (ad1 : Nat → Nat) (cn1 : Nat → va_E) (H1 : Heap), ro_P D n0 (RR ++ [r]) ad1 cn1 H1 → (∀ j, j ≠ r → ad1 j = ad j) → (∀ j, j ≠ r → cn1 j = cn j) → cn1 r = (.inl (ids t0, x)) → va_S (fun q => n0 ≤ q) s.heap H1 locs → W p l e R s m args below meth c H1 locs (cells + 1) (slots + x.1) Q (F0 m (pc + 2) ls (.ref (ad1 r) :: rest))) : W p l e R s m args below meth c H locs cells slots Q (F0 m pc ls (.int n :: rest)) := by
  refine ro_newa MC HP HS r hr t0 hty harr ht hobj hx9 hn hN hbytes hcells hslots hdg fun q H1 _ h1 h2 => ?_
  have h9 := kk (va_up ad r q) (va_up cn r (.inl (ids t0, x))) H1 h1 (fun j hj => va_up_ne _ _ hj) (fun j hj => va_up_ne _ _ hj) (va_up_self ..) h2
  rw [va_up_self] at h9
  exact h9
theorem ro_newqG (MC : ro_C p s m args meth c cc nL own D ids n0) (HP : ro_P D n0 RR ad cn H) (HS : va_S (fun q => n0 ≤ q) s.heap H locs) (r : Nat) (hr : r ∉ RR) {C : String} {index : Nat} (hcl : Cond.classLink own index C ∈ uU) (hao : C ∈ uAO) (t0 : Nat) (ht : (uTy ids)[t0]? = some (ids t0, .object C))
    {n : Int32} (N : Nat) (hn : ¬ n < 0) (hN : n.toNatClampNeg = N) (hbytes : N * 4 ≤ 536870912) (hcells : cells + 1 ≤ R.cells) (hslots : slots + N ≤ R.slots) (hdg : decode cc pc = .ok (.anewarray index, 3))
    (kk : ∀ (ad1 : Nat → Nat) (cn1 : Nat → va_E) (H1 : Heap), ro_P D n0 (RR ++ [r]) ad1 cn1 H1 → (∀ j, j ≠ r → ad1 j = ad j) → (∀ j, j ≠ r → cn1 j = cn j) → cn1 r = (.inl (ids t0, N, .inr (.inr (.inr (.inr (fun _ => none)))))) → va_S (fun q => n0 ≤ q) s.heap H1 locs → W p l e R s m args below meth c H1 locs (cells + 1) (slots + N) Q (F0 m (pc + 3) ls (.ref (ad1 r) :: rest))) : W p l e R s m args below meth c H locs cells slots Q (F0 m pc ls (.int n :: rest)) := by
  refine ro_newq MC HP HS r hr hcl hao t0 ht N hn hN hbytes hcells hslots hdg fun q H1 _ h1 h2 => ?_
  have h9 := kk (va_up ad r q) (va_up cn r (.inl (ids t0, N, .inr (.inr (.inr (.inr (fun _ => none))))))) H1 h1 (fun j hj => va_up_ne _ _ hj) (fun j hj => va_up_ne _ _ hj) (va_up_self ..) h2
  rw [va_up_self] at h9
  exact h9
theorem ro_newG (MC : ro_C p s m args meth c cc nL own D ids n0) (HP : ro_P D n0 RR ad cn H) (HS : va_S (fun q => n0 ≤ q) s.heap H locs) (r : Nat) (hr : r ∉ RR) {ci N : Nat} {C : String} {T : u_T} (fs : List Value) (hc : vwCl[ci]? = some (C, T, N)) (hin : ∀ w ∈ u_ws C T N, w ∈ uU) {ty0 : Nat → FieldType} (hty : ∀ k, k < N → parseFieldDescriptor (T k).2.2.1 = some (ty0 k)) {index : Nat} (hcl : Cond.classLink own index C ∈ uU) (hinst : Cond.instantiable C N ∈ uU) (hini : Cond.initialized C ∈ uU) (hfs : ∀ j, j < N → defaultValue (ty0 j) = vp_V fs j) (hcells : cells + 1 ≤ R.cells) (hslots : slots + N ≤ R.slots) (hdg : decode cc pc = .ok (.new index, 3))
    (kk : ∀ (ad1 : Nat → Nat) (cn1 : Nat → va_E) (H1 : Heap), ro_P D n0 (RR ++ [r]) ad1 cn1 H1 → (∀ j, j ≠ r → ad1 j = ad j) → (∀ j, j ≠ r → cn1 j = cn j) → cn1 r = (.inr (ci, fs)) → va_S (fun q => n0 ≤ q) s.heap H1 locs → W p l e R s m args below meth c H1 locs (cells + 1) (slots + N) Q (F0 m (pc + 3) ls (.ref (ad1 r) :: rest))) : W p l e R s m args below meth c H locs cells slots Q (F0 m pc ls rest) := by
  refine ro_new MC HP HS r hr fs hc hin hty hcl hinst hini hfs hcells hslots hdg fun q H1 _ h1 h2 => ?_
  have h9 := kk (va_up ad r q) (va_up cn r (.inr (ci, fs))) H1 h1 (fun j hj => va_up_ne _ _ hj) (fun j hj => va_up_ne _ _ hj) (va_up_self ..) h2
  rw [va_up_self] at h9
  exact h9
theorem ro_putG {a9 : Nat} (MC : ro_C p s m args meth c cc nL own D ids n0) (HP : ro_P D n0 RR ad cn H) (HS : va_S (fun q => n0 ≤ q) s.heap H locs) {r : Nat} (ha9 : ad r = a9) (hr : r ∈ RR) {ci N : Nat} {C ref : String} {T : u_T} {fs : List Value} (hf : cn r = .inr (ci, fs)) (hc : vwCl[ci]? = some (C, T, N)) (hin : ∀ w ∈ u_ws C T N, w ∈ uU) {ty0 : Nat → FieldType} (hty : ∀ k, k < N → parseFieldDescriptor (T k).2.2.1 = some (ty0 k)) (hnm : ∀ a, a < N → ∀ b, b < N → a ≠ b → (T a).2.1 ≠ (T b).2.1) (k : Nat) (hk : k < N) {index : Nat} (hlink : Cond.fieldLink own index ref (T k).2.1 (T k).2.2.1 ∈ uU) (hsame : (T k).1 = ref) (hfin : (T k).2.2.2 = false) {v : Value} (hn : narrow (ty0 k) v = v) (hfit : fits (ty0 k) v = true) (hl : k < fs.length) (hdg : decode cc pc = .ok (.putfield index, 3))
    (kk : ∀ (cn1 : Nat → va_E) (H1 : Heap) (locs1 : List Loc), ro_P D n0 RR ad cn1 H1 → (∀ j, j ≠ r → cn1 j = cn j) → cn1 r = .inr (ci, fs.set k v) → va_S (fun q => n0 ≤ q) s.heap H1 locs1 → W p l e R s m args below meth c H1 locs1 cells slots Q (F0 m (pc + 3) ls rest)) : W p l e R s m args below meth c H locs cells slots Q (F0 m pc ls (v :: .ref a9 :: rest)) := by
  subst ha9
  exact ro_put MC HP HS hr hf hc hin hty hnm k hk hlink hsame hfin hn hfit hl hdg fun H1 locs1 h1 h2 => kk _ H1 locs1 h1 (fun j hj => va_up_ne _ _ hj) (va_up_self ..) h2
theorem ro_putFG {a9 : Nat} (MC : ro_C p s m args meth c cc nL own D ids n0) (hinit : meth.name = "<init>") (HP : ro_P D n0 RR ad cn H) (HS : va_S (fun q => n0 ≤ q) s.heap H locs) {r : Nat} (ha9 : ad r = a9) (hr : r ∈ RR) {ci N : Nat} {C : String} {T : u_T} {fs : List Value} (hf : cn r = .inr (ci, fs)) (hc : vwCl[ci]? = some (C, T, N)) (hin : ∀ w ∈ u_ws C T N, w ∈ uU) {ty0 : Nat → FieldType} (hty : ∀ k, k < N → parseFieldDescriptor (T k).2.2.1 = some (ty0 k)) (hnm : ∀ a, a < N → ∀ b, b < N → a ≠ b → (T a).2.1 ≠ (T b).2.1) (k : Nat) (hk : k < N) {index : Nat} (hlink : Cond.fieldLink own index own (T k).2.1 (T k).2.2.1 ∈ uU) (hsame : (T k).1 = own) (hfin : (T k).2.2.2 = true) {v : Value} (hn : narrow (ty0 k) v = v) (hfit : fits (ty0 k) v = true) (hl : k < fs.length) (hdg : decode cc pc = .ok (.putfield index, 3))
    (kk : ∀ (cn1 : Nat → va_E) (H1 : Heap) (locs1 : List Loc), ro_P D n0 RR ad cn1 H1 → (∀ j, j ≠ r → cn1 j = cn j) → cn1 r = .inr (ci, fs.set k v) → va_S (fun q => n0 ≤ q) s.heap H1 locs1 → W p l e R s m args below meth c H1 locs1 cells slots Q (F0 m (pc + 3) ls rest)) : W p l e R s m args below meth c H locs cells slots Q (F0 m pc ls (v :: .ref a9 :: rest)) := by
  subst ha9
  exact ro_putF MC hinit HP HS hr hf hc hin hty hnm k hk hlink hsame hfin hn hfit hl hdg fun H1 locs1 h1 h2 => kk _ H1 locs1 h1 (fun j hj => va_up_ne _ _ hj) (va_up_self ..) h2
theorem ro_getE {a9 : Nat} (MC : ro_C p s m args meth c cc nL own D ids n0) (HP : ro_P D n0 RR ad cn H) {r : Nat} (ha9 : ad r = a9) (hr : r ∈ RR) {ci N : Nat} {C ref : String} {T : u_T} {fs : List Value} (hf : cn r = .inr (ci, fs)) (hc : vwCl[ci]? = some (C, T, N)) (hin : ∀ w ∈ u_ws C T N, w ∈ uU) (k : Nat) (hk : k < N) {index : Nat} (hlink : Cond.fieldLink own index ref (T k).2.1 (T k).2.2.1 ∈ uU) (hsame : (T k).1 = ref) {v : Value} (hv : fs[k]? = some v) (hdg : decode cc pc = .ok (.getfield index, 3))
    (kk : W p l e R s m args below meth c H locs cells slots Q (F0 m (pc + 3) ls (v :: rest))) : W p l e R s m args below meth c H locs cells slots Q (F0 m pc ls (.ref a9 :: rest)) := by
  subst ha9
  exact ro_get MC HP hr hf hc hin k hk hlink hsame hv hdg kk
end GG
def taI : Tau := va_up (va_up (fun _ _ => 0) 1 (upd (fun _ => 0) 0 (-1))) 0 (upd (fun _ => 0) 1 1)
theorem taI_row {i : Nat} (h : 2 ≤ i) : taI i = fun _ => 0 := by
  unfold taI
  rw [va_up_ne _ _ (by omega), va_up_ne _ _ (by omega)]
theorem taI_0 (j : Nat) (h : j ≠ 1) : taI 0 j = 0 := by
  show upd (fun _ => 0) 1 1 j = 0
  rw [upd_ne _ _ h]
theorem Iv.init : Iv taI 0 1 0 0 := by
  refine ⟨⟨rfl, by omega⟩, ⟨rfl, by omega, by omega⟩, ⟨rfl, by omega⟩, ⟨rfl, by omega⟩, ⟨rfl, fun k h1 h2 => by omega⟩, ?_, ?_, ?_, ?_, fun k hk => by omega, fun k hk => by omega, ?_, ?_⟩
  · intro j _; rw [taI_row (by omega)]; show (-11 : Int32) ≤ 0 ∧ (0 : Int32) ≤ 12; decide
  · intro j _; rw [taI_row (by omega)]; exact Or.inl rfl
  · intro j _; rw [taI_row (by omega)]; exact Or.inl rfl
  · intro j _ _; rw [taI_row (by omega)]
  · intro j _ _; rw [taI_row (by omega), taI_row (by omega)]; exact ⟨rfl, rfl⟩
  · intro j _; rw [taI_row (by omega)]; show (0 : Int32) ≤ 0 ∧ (0 : Int32) ≤ 50; decide
end
section
set_option maxHeartbeats 4000000 in
set_option maxRecDepth 100000 in
theorem x_init {l : Launch} {D : va_G} {ids : Nat → ClassId} {n0 : Nat} {ad : Nat → Nat} {cn : Nat → va_E} {Hh : Heap} (HP : ro_P D n0 [0] ad cn Hh) (f0 : cn 0 = .inr (5, [.null, .int 0, .null, .int 0, .null, .int 0, .int 0, .null, .int 0, .null, .null])) : ro_M l yX6_init cX6_init 2 none { frames := 3, cells := 10, slots := 182, locals := 90 } D ids n0 [.ref (ad 0)] Hh (fun v H1 => v = none ∧ ∃ (ad1 : Nat → Nat) (cn1 : Nat → va_E) (sa bm fm : Nat → Int32) (lf ff cf : Nat → Option Nat), ro_P D n0 ([0] ++ [1] ++ [2] ++ [3] ++ [4] ++ [5] ++ [6] ++ [7] ++ [8] ++ [9] ++ [10]) ad1 cn1 H1 ∧ ad1 0 = ad 0 ∧ isX ids ad1 cn1 taI 1 0 0 sa bm fm lf ff cf) := by
  refine ro_ofM (by decide +kernel) (Nat.le_of_ble_eq_true rfl) ?_
  intro p e s m below meth c MC hhp hr hnm HS ls hl
  have hx := MC.1.1
  have hb := MC.1.2.1
  have hl : lv_has ls 2 [(0, .ref (ad 0))] := hl
  have ha0 : ad 0 = ad 0 := rfl
  refine lv_aload_n hx hb dX6_init_0 rfl (lv_at hl 0 rfl) ?_
  refine ro_obj MC kw37 kw38 kw39 hl.1 dX6_init_1 ⟨Nat.le_of_ble_eq_true rfl, Nat.le_of_ble_eq_true rfl⟩ ?_
  refine lv_aload_n hx hb dX6_init_4 rfl (lv_at hl 0 rfl) ?_
  refine lv_bipush (v := 16) hx hb dX6_init_5 (by decide) ?_
  refine ro_newaG (atype := .int) (ty := .int) MC HP HS 1 (by decide) 0 rfl kw59 rfl (x := (16, .inl (fun _ => 0))) (fun C h => by cases h) rfl (by decide) rfl (by decide) (Nat.le_of_ble_eq_true rfl) (Nat.le_of_ble_eq_true rfl) dX6_init_7 (fun ad1 cn1 H1 HP had hcn hself HS => ?_)
  have f0 : cn1 0 = .inr (5, [.null, .int 0, .null, .int 0, .null, .int 0, .int 0, .null, .int 0, .null, .null]) := by rw [hcn 0 (by omega), f0]
  have ha0 : ad1 0 = ad 0 := (had 0 (by omega)).trans ha0
  have e1 := hself
  refine ro_putFG MC (hnm.trans rfl) HP HS ha0 (by decide) f0 (rfl : vwCl[5]? = some (RX6, TX6, 11)) inU6 tyX6_ok nmX6 0 (by decide) kw61 rfl rfl rfl rfl (Nat.le_of_ble_eq_true rfl) dX6_init_9 (fun cn2 H2 lH2 HP hcn f0 HS => ?_)
  have f0 : cn2 0 = .inr (5, [.ref (ad1 1), .int 0, .null, .int 0, .null, .int 0, .int 0, .null, .int 0, .null, .null]) := f0
  have e1 := (hcn 1 (by omega)).trans e1
  refine lv_aload_n hx hb dX6_init_12 rfl (lv_at hl 0 rfl) ?_
  refine lv_iconst (v := 4) hx hb dX6_init_13 (by decide) ?_
  refine ro_newqG MC HP HS 2 (by decide) kw40 (by decide +kernel) 3 rfl 4 (by decide) rfl (by decide) (Nat.le_of_ble_eq_true rfl) (Nat.le_of_ble_eq_true rfl) dX6_init_14 (fun ad3 cn3 H3 HP had hcn hself HS => ?_)
  have f0 : cn3 0 = .inr (5, [.ref (ad3 1), .int 0, .null, .int 0, .null, .int 0, .int 0, .null, .int 0, .null, .null]) := by rw [hcn 0 (by omega), f0, had 1 (by omega)]
  have e1 := (hcn 1 (by omega)).trans e1
  have ha0 : ad3 0 = ad 0 := (had 0 (by omega)).trans ha0
  have e2 := hself
  have h2b : ∀ j, j < 0 → (fun _ => none : Nat → Option Nat) j = some (ad3 (7 + j)) := fun j hj => absurd hj (by omega)
  refine ro_putFG MC (hnm.trans rfl) HP HS ha0 (by decide) f0 (rfl : vwCl[5]? = some (RX6, TX6, 11)) inU6 tyX6_ok nmX6 2 (by decide) kw63 rfl rfl rfl rfl (Nat.le_of_ble_eq_true rfl) dX6_init_17 (fun cn4 H4 lH4 HP hcn f0 HS => ?_)
  have f0 : cn4 0 = .inr (5, [.ref (ad3 1), .int 0, .ref (ad3 2), .int 0, .null, .int 0, .int 0, .null, .int 0, .null, .null]) := f0
  have e1 := (hcn 1 (by omega)).trans e1
  have e2 := (hcn 2 (by omega)).trans e2
  refine lv_aload_n hx hb dX6_init_20 rfl (lv_at hl 0 rfl) ?_
  refine lv_bipush (v := 20) hx hb dX6_init_21 (by decide) ?_
  refine ro_newqG MC HP HS 3 (by decide) kw42 (by decide +kernel) 4 rfl 20 (by decide) rfl (by decide) (Nat.le_of_ble_eq_true rfl) (Nat.le_of_ble_eq_true rfl) dX6_init_23 (fun ad5 cn5 H5 HP had hcn hself HS => ?_)
  have f0 : cn5 0 = .inr (5, [.ref (ad5 1), .int 0, .ref (ad5 2), .int 0, .null, .int 0, .int 0, .null, .int 0, .null, .null]) := by rw [hcn 0 (by omega), f0, had 1 (by omega), had 2 (by omega)]
  have e1 := (hcn 1 (by omega)).trans e1
  have e2 := (hcn 2 (by omega)).trans e2
  have ha0 : ad5 0 = ad 0 := (had 0 (by omega)).trans ha0
  have h2b : ∀ j, j < 0 → (fun _ => none : Nat → Option Nat) j = some (ad5 (7 + j)) := fun j hj => by rw [h2b j hj, had (7 + j) (by omega)]
  have e3 := hself
  refine ro_putFG MC (hnm.trans rfl) HP HS ha0 (by decide) f0 (rfl : vwCl[5]? = some (RX6, TX6, 11)) inU6 tyX6_ok nmX6 4 (by decide) kw65 rfl rfl rfl rfl (Nat.le_of_ble_eq_true rfl) dX6_init_26 (fun cn6 H6 lH6 HP hcn f0 HS => ?_)
  have f0 : cn6 0 = .inr (5, [.ref (ad5 1), .int 0, .ref (ad5 2), .int 0, .ref (ad5 3), .int 0, .int 0, .null, .int 0, .null, .null]) := f0
  have e1 := (hcn 1 (by omega)).trans e1
  have e2 := (hcn 2 (by omega)).trans e2
  have e3 := (hcn 3 (by omega)).trans e3
  refine lv_aload_n hx hb dX6_init_29 rfl (lv_at hl 0 rfl) ?_
  refine lv_bipush (v := 30) hx hb dX6_init_30 (by decide) ?_
  refine ro_newqG MC HP HS 4 (by decide) kw44 (by decide +kernel) 5 rfl 30 (by decide) rfl (by decide) (Nat.le_of_ble_eq_true rfl) (Nat.le_of_ble_eq_true rfl) dX6_init_32 (fun ad7 cn7 H7 HP had hcn hself HS => ?_)
  have f0 : cn7 0 = .inr (5, [.ref (ad7 1), .int 0, .ref (ad7 2), .int 0, .ref (ad7 3), .int 0, .int 0, .null, .int 0, .null, .null]) := by rw [hcn 0 (by omega), f0, had 1 (by omega), had 2 (by omega), had 3 (by omega)]
  have e1 := (hcn 1 (by omega)).trans e1
  have e2 := (hcn 2 (by omega)).trans e2
  have e3 := (hcn 3 (by omega)).trans e3
  have ha0 : ad7 0 = ad 0 := (had 0 (by omega)).trans ha0
  have h2b : ∀ j, j < 0 → (fun _ => none : Nat → Option Nat) j = some (ad7 (7 + j)) := fun j hj => by rw [h2b j hj, had (7 + j) (by omega)]
  have e4 := hself
  refine ro_putFG MC (hnm.trans rfl) HP HS ha0 (by decide) f0 (rfl : vwCl[5]? = some (RX6, TX6, 11)) inU6 tyX6_ok nmX6 7 (by decide) kw68 rfl rfl rfl rfl (Nat.le_of_ble_eq_true rfl) dX6_init_35 (fun cn8 H8 lH8 HP hcn f0 HS => ?_)
  have f0 : cn8 0 = .inr (5, [.ref (ad7 1), .int 0, .ref (ad7 2), .int 0, .ref (ad7 3), .int 0, .int 0, .ref (ad7 4), .int 0, .null, .null]) := f0
  have e1 := (hcn 1 (by omega)).trans e1
  have e2 := (hcn 2 (by omega)).trans e2
  have e3 := (hcn 3 (by omega)).trans e3
  have e4 := (hcn 4 (by omega)).trans e4
  refine lv_aload_n hx hb dX6_init_38 rfl (lv_at hl 0 rfl) ?_
  refine lv_iconst (v := 4) hx hb dX6_init_39 (by decide) ?_
  refine ro_newaG (atype := .int) (ty := .int) MC HP HS 5 (by decide) 0 rfl kw59 rfl (x := (4, .inl (fun _ => 0))) (fun C h => by cases h) rfl (by decide) rfl (by decide) (Nat.le_of_ble_eq_true rfl) (Nat.le_of_ble_eq_true rfl) dX6_init_40 (fun ad9 cn9 H9 HP had hcn hself HS => ?_)
  have f0 : cn9 0 = .inr (5, [.ref (ad9 1), .int 0, .ref (ad9 2), .int 0, .ref (ad9 3), .int 0, .int 0, .ref (ad9 4), .int 0, .null, .null]) := by rw [hcn 0 (by omega), f0, had 1 (by omega), had 2 (by omega), had 3 (by omega), had 4 (by omega)]
  have e1 := (hcn 1 (by omega)).trans e1
  have e2 := (hcn 2 (by omega)).trans e2
  have e3 := (hcn 3 (by omega)).trans e3
  have e4 := (hcn 4 (by omega)).trans e4
  have ha0 : ad9 0 = ad 0 := (had 0 (by omega)).trans ha0
  have h2b : ∀ j, j < 0 → (fun _ => none : Nat → Option Nat) j = some (ad9 (7 + j)) := fun j hj => by rw [h2b j hj, had (7 + j) (by omega)]
  have e5 := hself
  refine ro_putFG MC (hnm.trans rfl) HP HS ha0 (by decide) f0 (rfl : vwCl[5]? = some (RX6, TX6, 11)) inU6 tyX6_ok nmX6 9 (by decide) kw70 rfl rfl rfl rfl (Nat.le_of_ble_eq_true rfl) dX6_init_42 (fun cn10 H10 lH10 HP hcn f0 HS => ?_)
  have f0 : cn10 0 = .inr (5, [.ref (ad9 1), .int 0, .ref (ad9 2), .int 0, .ref (ad9 3), .int 0, .int 0, .ref (ad9 4), .int 0, .ref (ad9 5), .null]) := f0
  have e1 := (hcn 1 (by omega)).trans e1
  have e2 := (hcn 2 (by omega)).trans e2
  have e3 := (hcn 3 (by omega)).trans e3
  have e4 := (hcn 4 (by omega)).trans e4
  have e5 := (hcn 5 (by omega)).trans e5
  refine lv_aload_n hx hb dX6_init_45 rfl (lv_at hl 0 rfl) ?_
  refine lv_bipush (v := 100) hx hb dX6_init_46 (by decide) ?_
  refine ro_newaG (atype := .boolean) (ty := .boolean) MC HP HS 6 (by decide) 1 rfl kw60 rfl (x := (100, .inl (fun _ => 0))) (fun C h => by cases h) rfl (by decide) rfl (by decide) (Nat.le_of_ble_eq_true rfl) (Nat.le_of_ble_eq_true rfl) dX6_init_48 (fun ad11 cn11 H11 HP had hcn hself HS => ?_)
  have f0 : cn11 0 = .inr (5, [.ref (ad11 1), .int 0, .ref (ad11 2), .int 0, .ref (ad11 3), .int 0, .int 0, .ref (ad11 4), .int 0, .ref (ad11 5), .null]) := by rw [hcn 0 (by omega), f0, had 1 (by omega), had 2 (by omega), had 3 (by omega), had 4 (by omega), had 5 (by omega)]
  have e1 := (hcn 1 (by omega)).trans e1
  have e2 := (hcn 2 (by omega)).trans e2
  have e3 := (hcn 3 (by omega)).trans e3
  have e4 := (hcn 4 (by omega)).trans e4
  have e5 := (hcn 5 (by omega)).trans e5
  have ha0 : ad11 0 = ad 0 := (had 0 (by omega)).trans ha0
  have h2b : ∀ j, j < 0 → (fun _ => none : Nat → Option Nat) j = some (ad11 (7 + j)) := fun j hj => by rw [h2b j hj, had (7 + j) (by omega)]
  have e6 := hself
  refine ro_putFG MC (hnm.trans rfl) HP HS ha0 (by decide) f0 (rfl : vwCl[5]? = some (RX6, TX6, 11)) inU6 tyX6_ok nmX6 10 (by decide) kw71 rfl rfl rfl rfl (Nat.le_of_ble_eq_true rfl) dX6_init_50 (fun cn12 H12 lH12 HP hcn f0 HS => ?_)
  have f0 : cn12 0 = .inr (5, [.ref (ad11 1), .int 0, .ref (ad11 2), .int 0, .ref (ad11 3), .int 0, .int 0, .ref (ad11 4), .int 0, .ref (ad11 5), .ref (ad11 6)]) := f0
  have e1 := (hcn 1 (by omega)).trans e1
  have e2 := (hcn 2 (by omega)).trans e2
  have e3 := (hcn 3 (by omega)).trans e3
  have e4 := (hcn 4 (by omega)).trans e4
  have e5 := (hcn 5 (by omega)).trans e5
  have e6 := (hcn 6 (by omega)).trans e6
  refine lv_aload_n hx hb dX6_init_53 rfl (lv_at hl 0 rfl) ?_
  refine ro_getE MC HP ha0 (by decide) f0 (rfl : vwCl[5]? = some (RX6, TX6, 11)) inU6 0 (by decide) kw61 rfl rfl dX6_init_54 ?_
  refine lv_iconst (v := 0) hx hb dX6_init_57 (by decide) ?_
  refine lv_iconst (v := 1) hx hb dX6_init_58 (by decide) ?_
  refine xo_iast MC HP HS (r := 1) (by decide) e1 0 (by omega) (by omega) rfl dX6_init_59 (fun H13 lH13 HP HS => ?_)
  obtain ⟨cn13, hc9⟩ : ∃ c9, c9 = va_up cn12 1 (.inl (ids 0, 16, .inl (upd (fun _ => 0) 0 1))) := ⟨_, rfl⟩
  rw [← hc9] at HP
  have hcn : ∀ j, j ≠ 1 → cn13 j = cn12 j := fun j hj => by rw [hc9]; exact va_up_ne _ _ hj
  have hself : cn13 1 = (.inl (ids 0, 16, .inl (upd (fun _ => 0) 0 1))) := by rw [hc9]; exact va_up_self ..
  have f0 : cn13 0 = .inr (5, [.ref (ad11 1), .int 0, .ref (ad11 2), .int 0, .ref (ad11 3), .int 0, .int 0, .ref (ad11 4), .int 0, .ref (ad11 5), .ref (ad11 6)]) := (hcn 0 (by omega)).trans f0
  have e2 := (hcn 2 (by omega)).trans e2
  have e3 := (hcn 3 (by omega)).trans e3
  have e4 := (hcn 4 (by omega)).trans e4
  have e5 := (hcn 5 (by omega)).trans e5
  have e6 := (hcn 6 (by omega)).trans e6
  have e1 := hself
  refine lv_aload_n hx hb dX6_init_60 rfl (lv_at hl 0 rfl) ?_
  refine lv_iconst (v := 1) hx hb dX6_init_61 (by decide) ?_
  refine ro_putG MC HP HS ha0 (by decide) f0 (rfl : vwCl[5]? = some (RX6, TX6, 11)) inU6 tyX6_ok nmX6 1 (by decide) kw62 rfl rfl rfl rfl (Nat.le_of_ble_eq_true rfl) dX6_init_62 (fun cn14 H14 lH14 HP hcn f0 HS => ?_)
  have f0 : cn14 0 = .inr (5, [.ref (ad11 1), .int 1, .ref (ad11 2), .int 0, .ref (ad11 3), .int 0, .int 0, .ref (ad11 4), .int 0, .ref (ad11 5), .ref (ad11 6)]) := f0
  have e1 := (hcn 1 (by omega)).trans e1
  have e2 := (hcn 2 (by omega)).trans e2
  have e3 := (hcn 3 (by omega)).trans e3
  have e4 := (hcn 4 (by omega)).trans e4
  have e5 := (hcn 5 (by omega)).trans e5
  have e6 := (hcn 6 (by omega)).trans e6
  refine lv_iconst (v := 0) hx hb dX6_init_65 (by decide) ?_
  refine lv_istore_n (lv' := [(1, .int 0), (0, .ref (ad 0))]) hx hb dX6_init_66 rfl hl (by decide) rfl (fun ls hl => ?_)
  refine lv_iload_n hx hb dX6_init_67 rfl (lv_at hl 0 rfl) ?_
  refine lv_iconst (v := 4) hx hb dX6_init_68 (by decide) ?_
  refine lv_icmp_ge (tgt := 91) hx hb dX6_init_69 (by decide) (fun c_69 => absurd c_69 (by decide)) (fun c_69 => ?_)
  refine lv_aload_n hx hb dX6_init_72 rfl (lv_at hl 1 rfl) ?_
  refine ro_getE MC HP ha0 (by decide) f0 (rfl : vwCl[5]? = some (RX6, TX6, 11)) inU6 2 (by decide) kw63 rfl rfl dX6_init_73 ?_
  refine lv_iload_n hx hb dX6_init_76 rfl (lv_at hl 0 rfl) ?_
  refine ro_newG MC HP HS 7 (by decide) [.int 0, .int 0] (rfl : vwCl[4]? = some (RX5, TX5, 2)) inU5 tyX5_ok kw40 kw46 kw18 (fun j hj => by rcases j with _ | _ | j <;> first | rfl | omega) (Nat.le_of_ble_eq_true rfl) (Nat.le_of_ble_eq_true rfl) dX6_init_77 (fun ad15 cn15 H15 HP had hcn hself HS => ?_)
  have f0 : cn15 0 = .inr (5, [.ref (ad15 1), .int 1, .ref (ad15 2), .int 0, .ref (ad15 3), .int 0, .int 0, .ref (ad15 4), .int 0, .ref (ad15 5), .ref (ad15 6)]) := by rw [hcn 0 (by omega), f0, had 1 (by omega), had 2 (by omega), had 3 (by omega), had 4 (by omega), had 5 (by omega), had 6 (by omega)]
  have e1 := (hcn 1 (by omega)).trans e1
  have e2 := (hcn 2 (by omega)).trans e2
  have e3 := (hcn 3 (by omega)).trans e3
  have e4 := (hcn 4 (by omega)).trans e4
  have e5 := (hcn 5 (by omega)).trans e5
  have e6 := (hcn 6 (by omega)).trans e6
  have ha0 : ad15 0 = ad 0 := (had 0 (by omega)).trans ha0
  have h2b : ∀ j, j < 0 → (fun _ => none : Nat → Option Nat) j = some (ad15 (7 + j)) := fun j hj => by rw [h2b j hj, had (7 + j) (by omega)]
  have e7 := hself
  have ha2 := had 2 (by omega)
  refine lv_dup hx hb dX6_init_80 rfl ?_
  refine ro_callIN MC HS (rest := [.ref (ad15 7), .int 0, .ref (ad11 2)]) (As := []) (x_iLand HP (r := 7) (by decide) e7) (lnX6_42) (kw48) (rfl) ⟨Nat.le_of_ble_eq_true rfl, Nat.le_of_ble_eq_true rfl⟩ hl.1 rfl (Nat.le_of_ble_eq_true rfl) dX6_init_81 ⟨Nat.le_of_ble_eq_true rfl, Nat.le_of_ble_eq_true rfl⟩ (fun v9 H1 lH1 hp hz HS => ?_)
  obtain ⟨rfl, cn16, HP, hself, hcn⟩ := hp
  have f0 : cn16 0 = .inr (5, [.ref (ad15 1), .int 1, .ref (ad15 2), .int 0, .ref (ad15 3), .int 0, .int 0, .ref (ad15 4), .int 0, .ref (ad15 5), .ref (ad15 6)]) := (hcn 0 (by omega)).trans f0
  have e1 := (hcn 1 (by omega)).trans e1
  have e2 := (hcn 2 (by omega)).trans e2
  have e3 := (hcn 3 (by omega)).trans e3
  have e4 := (hcn 4 (by omega)).trans e4
  have e5 := (hcn 5 (by omega)).trans e5
  have e6 := (hcn 6 (by omega)).trans e6
  have e7 := hself
  refine xo_aastE MC HP HS 3 ha2 (r := 2) (by decide) e2 rfl (rv := 7) rfl (by decide) e7 (rfl : vwCl[4]? = some (RX5, TX5, 2)) 0 (by omega) (by omega) rfl dX6_init_84 (fun H17 lH17 HP HS => ?_)
  obtain ⟨cn17, hc9⟩ : ∃ c9, c9 = va_up cn16 2 (.inl (ids 3, 4, .inr (.inr (.inr (.inr (va_up (fun _ => none : Nat → Option Nat) 0 (some (ad15 7)))))))) := ⟨_, rfl⟩
  rw [← hc9] at HP
  have hcn : ∀ j, j ≠ 2 → cn17 j = cn16 j := fun j hj => by rw [hc9]; exact va_up_ne _ _ hj
  have hself : cn17 2 = (.inl (ids 3, 4, .inr (.inr (.inr (.inr (va_up (fun _ => none : Nat → Option Nat) 0 (some (ad15 7)))))))) := by rw [hc9]; exact va_up_self ..
  have f0 : cn17 0 = .inr (5, [.ref (ad15 1), .int 1, .ref (ad15 2), .int 0, .ref (ad15 3), .int 0, .int 0, .ref (ad15 4), .int 0, .ref (ad15 5), .ref (ad15 6)]) := (hcn 0 (by omega)).trans f0
  have e1 := (hcn 1 (by omega)).trans e1
  have e3 := (hcn 3 (by omega)).trans e3
  have e4 := (hcn 4 (by omega)).trans e4
  have e5 := (hcn 5 (by omega)).trans e5
  have e6 := (hcn 6 (by omega)).trans e6
  have e7 := (hcn 7 (by omega)).trans e7
  have e2 := hself
  obtain ⟨lf0, hlf⟩ : ∃ f, f = (va_up (fun _ => none : Nat → Option Nat) 0 (some (ad15 7))) := ⟨_, rfl⟩
  rw [← hlf] at e2
  have h2b : ∀ j, j < 1 → lf0 j = some (ad15 (7 + j)) := fun j hj => by
    rw [hlf]
    by_cases h9 : j = 0
    · rw [h9, va_up_self]
    · rw [va_up_ne _ _ h9]; exact h2b j (by omega)
  refine lv_iinc (v := 1) (lv' := [(1, .int 1), (0, .ref (ad 0))]) hx hb dX6_init_85 hl (k := 0) rfl rfl (by decide) rfl (fun ls hl => ?_)
  refine lv_goto (tgt := 67) hx hb dX6_init_88 (by decide) ?_
  refine lv_iload_n hx hb dX6_init_67 rfl (lv_at hl 0 rfl) ?_
  refine lv_iconst (v := 4) hx hb dX6_init_68 (by decide) ?_
  refine lv_icmp_ge (tgt := 91) hx hb dX6_init_69 (by decide) (fun c_69 => absurd c_69 (by decide)) (fun c_69 => ?_)
  refine lv_aload_n hx hb dX6_init_72 rfl (lv_at hl 1 rfl) ?_
  refine ro_getE MC HP ha0 (by decide) f0 (rfl : vwCl[5]? = some (RX6, TX6, 11)) inU6 2 (by decide) kw63 rfl rfl dX6_init_73 ?_
  refine lv_iload_n hx hb dX6_init_76 rfl (lv_at hl 0 rfl) ?_
  refine ro_newG MC HP HS 8 (by decide) [.int 0, .int 0] (rfl : vwCl[4]? = some (RX5, TX5, 2)) inU5 tyX5_ok kw40 kw46 kw18 (fun j hj => by rcases j with _ | _ | j <;> first | rfl | omega) (Nat.le_of_ble_eq_true rfl) (Nat.le_of_ble_eq_true rfl) dX6_init_77 (fun ad18 cn18 H18 HP had hcn hself HS => ?_)
  have f0 : cn18 0 = .inr (5, [.ref (ad18 1), .int 1, .ref (ad18 2), .int 0, .ref (ad18 3), .int 0, .int 0, .ref (ad18 4), .int 0, .ref (ad18 5), .ref (ad18 6)]) := by rw [hcn 0 (by omega), f0, had 1 (by omega), had 2 (by omega), had 3 (by omega), had 4 (by omega), had 5 (by omega), had 6 (by omega)]
  have e1 := (hcn 1 (by omega)).trans e1
  have e2 := (hcn 2 (by omega)).trans e2
  have e3 := (hcn 3 (by omega)).trans e3
  have e4 := (hcn 4 (by omega)).trans e4
  have e5 := (hcn 5 (by omega)).trans e5
  have e6 := (hcn 6 (by omega)).trans e6
  have e7 := (hcn 7 (by omega)).trans e7
  have ha0 : ad18 0 = ad 0 := (had 0 (by omega)).trans ha0
  have h2b : ∀ j, j < 1 → lf0 j = some (ad18 (7 + j)) := fun j hj => by rw [h2b j hj, had (7 + j) (by omega)]
  have e8 := hself
  have ha2 := had 2 (by omega)
  refine lv_dup hx hb dX6_init_80 rfl ?_
  refine ro_callIN MC HS (rest := [.ref (ad18 8), .int 1, .ref (ad15 2)]) (As := []) (x_iLand HP (r := 8) (by decide) e8) (lnX6_42) (kw48) (rfl) ⟨Nat.le_of_ble_eq_true rfl, Nat.le_of_ble_eq_true rfl⟩ hl.1 rfl (Nat.le_of_ble_eq_true rfl) dX6_init_81 ⟨Nat.le_of_ble_eq_true rfl, Nat.le_of_ble_eq_true rfl⟩ (fun v9 H2 lH2 hp hz HS => ?_)
  obtain ⟨rfl, cn19, HP, hself, hcn⟩ := hp
  have f0 : cn19 0 = .inr (5, [.ref (ad18 1), .int 1, .ref (ad18 2), .int 0, .ref (ad18 3), .int 0, .int 0, .ref (ad18 4), .int 0, .ref (ad18 5), .ref (ad18 6)]) := (hcn 0 (by omega)).trans f0
  have e1 := (hcn 1 (by omega)).trans e1
  have e2 := (hcn 2 (by omega)).trans e2
  have e3 := (hcn 3 (by omega)).trans e3
  have e4 := (hcn 4 (by omega)).trans e4
  have e5 := (hcn 5 (by omega)).trans e5
  have e6 := (hcn 6 (by omega)).trans e6
  have e7 := (hcn 7 (by omega)).trans e7
  have e8 := hself
  refine xo_aastE MC HP HS 3 ha2 (r := 2) (by decide) e2 rfl (rv := 8) rfl (by decide) e8 (rfl : vwCl[4]? = some (RX5, TX5, 2)) 1 (by omega) (by omega) rfl dX6_init_84 (fun H20 lH20 HP HS => ?_)
  obtain ⟨cn20, hc9⟩ : ∃ c9, c9 = va_up cn19 2 (.inl (ids 3, 4, .inr (.inr (.inr (.inr (va_up lf0 1 (some (ad18 8)))))))) := ⟨_, rfl⟩
  rw [← hc9] at HP
  have hcn : ∀ j, j ≠ 2 → cn20 j = cn19 j := fun j hj => by rw [hc9]; exact va_up_ne _ _ hj
  have hself : cn20 2 = (.inl (ids 3, 4, .inr (.inr (.inr (.inr (va_up lf0 1 (some (ad18 8)))))))) := by rw [hc9]; exact va_up_self ..
  have f0 : cn20 0 = .inr (5, [.ref (ad18 1), .int 1, .ref (ad18 2), .int 0, .ref (ad18 3), .int 0, .int 0, .ref (ad18 4), .int 0, .ref (ad18 5), .ref (ad18 6)]) := (hcn 0 (by omega)).trans f0
  have e1 := (hcn 1 (by omega)).trans e1
  have e3 := (hcn 3 (by omega)).trans e3
  have e4 := (hcn 4 (by omega)).trans e4
  have e5 := (hcn 5 (by omega)).trans e5
  have e6 := (hcn 6 (by omega)).trans e6
  have e7 := (hcn 7 (by omega)).trans e7
  have e8 := (hcn 8 (by omega)).trans e8
  have e2 := hself
  obtain ⟨lf1, hlf⟩ : ∃ f, f = (va_up lf0 1 (some (ad18 8))) := ⟨_, rfl⟩
  rw [← hlf] at e2
  have h2b : ∀ j, j < 2 → lf1 j = some (ad18 (7 + j)) := fun j hj => by
    rw [hlf]
    by_cases h9 : j = 1
    · rw [h9, va_up_self]
    · rw [va_up_ne _ _ h9]; exact h2b j (by omega)
  refine lv_iinc (v := 2) (lv' := [(1, .int 2), (0, .ref (ad 0))]) hx hb dX6_init_85 hl (k := 0) rfl rfl (by decide) rfl (fun ls hl => ?_)
  refine lv_goto (tgt := 67) hx hb dX6_init_88 (by decide) ?_
  refine lv_iload_n hx hb dX6_init_67 rfl (lv_at hl 0 rfl) ?_
  refine lv_iconst (v := 4) hx hb dX6_init_68 (by decide) ?_
  refine lv_icmp_ge (tgt := 91) hx hb dX6_init_69 (by decide) (fun c_69 => absurd c_69 (by decide)) (fun c_69 => ?_)
  refine lv_aload_n hx hb dX6_init_72 rfl (lv_at hl 1 rfl) ?_
  refine ro_getE MC HP ha0 (by decide) f0 (rfl : vwCl[5]? = some (RX6, TX6, 11)) inU6 2 (by decide) kw63 rfl rfl dX6_init_73 ?_
  refine lv_iload_n hx hb dX6_init_76 rfl (lv_at hl 0 rfl) ?_
  refine ro_newG MC HP HS 9 (by decide) [.int 0, .int 0] (rfl : vwCl[4]? = some (RX5, TX5, 2)) inU5 tyX5_ok kw40 kw46 kw18 (fun j hj => by rcases j with _ | _ | j <;> first | rfl | omega) (Nat.le_of_ble_eq_true rfl) (Nat.le_of_ble_eq_true rfl) dX6_init_77 (fun ad21 cn21 H21 HP had hcn hself HS => ?_)
  have f0 : cn21 0 = .inr (5, [.ref (ad21 1), .int 1, .ref (ad21 2), .int 0, .ref (ad21 3), .int 0, .int 0, .ref (ad21 4), .int 0, .ref (ad21 5), .ref (ad21 6)]) := by rw [hcn 0 (by omega), f0, had 1 (by omega), had 2 (by omega), had 3 (by omega), had 4 (by omega), had 5 (by omega), had 6 (by omega)]
  have e1 := (hcn 1 (by omega)).trans e1
  have e2 := (hcn 2 (by omega)).trans e2
  have e3 := (hcn 3 (by omega)).trans e3
  have e4 := (hcn 4 (by omega)).trans e4
  have e5 := (hcn 5 (by omega)).trans e5
  have e6 := (hcn 6 (by omega)).trans e6
  have e7 := (hcn 7 (by omega)).trans e7
  have e8 := (hcn 8 (by omega)).trans e8
  have ha0 : ad21 0 = ad 0 := (had 0 (by omega)).trans ha0
  have h2b : ∀ j, j < 2 → lf1 j = some (ad21 (7 + j)) := fun j hj => by rw [h2b j hj, had (7 + j) (by omega)]
  have e9 := hself
  have ha2 := had 2 (by omega)
  refine lv_dup hx hb dX6_init_80 rfl ?_
  refine ro_callIN MC HS (rest := [.ref (ad21 9), .int 2, .ref (ad18 2)]) (As := []) (x_iLand HP (r := 9) (by decide) e9) (lnX6_42) (kw48) (rfl) ⟨Nat.le_of_ble_eq_true rfl, Nat.le_of_ble_eq_true rfl⟩ hl.1 rfl (Nat.le_of_ble_eq_true rfl) dX6_init_81 ⟨Nat.le_of_ble_eq_true rfl, Nat.le_of_ble_eq_true rfl⟩ (fun v9 H3 lH3 hp hz HS => ?_)
  obtain ⟨rfl, cn22, HP, hself, hcn⟩ := hp
  have f0 : cn22 0 = .inr (5, [.ref (ad21 1), .int 1, .ref (ad21 2), .int 0, .ref (ad21 3), .int 0, .int 0, .ref (ad21 4), .int 0, .ref (ad21 5), .ref (ad21 6)]) := (hcn 0 (by omega)).trans f0
  have e1 := (hcn 1 (by omega)).trans e1
  have e2 := (hcn 2 (by omega)).trans e2
  have e3 := (hcn 3 (by omega)).trans e3
  have e4 := (hcn 4 (by omega)).trans e4
  have e5 := (hcn 5 (by omega)).trans e5
  have e6 := (hcn 6 (by omega)).trans e6
  have e7 := (hcn 7 (by omega)).trans e7
  have e8 := (hcn 8 (by omega)).trans e8
  have e9 := hself
  refine xo_aastE MC HP HS 3 ha2 (r := 2) (by decide) e2 rfl (rv := 9) rfl (by decide) e9 (rfl : vwCl[4]? = some (RX5, TX5, 2)) 2 (by omega) (by omega) rfl dX6_init_84 (fun H23 lH23 HP HS => ?_)
  obtain ⟨cn23, hc9⟩ : ∃ c9, c9 = va_up cn22 2 (.inl (ids 3, 4, .inr (.inr (.inr (.inr (va_up lf1 2 (some (ad21 9)))))))) := ⟨_, rfl⟩
  rw [← hc9] at HP
  have hcn : ∀ j, j ≠ 2 → cn23 j = cn22 j := fun j hj => by rw [hc9]; exact va_up_ne _ _ hj
  have hself : cn23 2 = (.inl (ids 3, 4, .inr (.inr (.inr (.inr (va_up lf1 2 (some (ad21 9)))))))) := by rw [hc9]; exact va_up_self ..
  have f0 : cn23 0 = .inr (5, [.ref (ad21 1), .int 1, .ref (ad21 2), .int 0, .ref (ad21 3), .int 0, .int 0, .ref (ad21 4), .int 0, .ref (ad21 5), .ref (ad21 6)]) := (hcn 0 (by omega)).trans f0
  have e1 := (hcn 1 (by omega)).trans e1
  have e3 := (hcn 3 (by omega)).trans e3
  have e4 := (hcn 4 (by omega)).trans e4
  have e5 := (hcn 5 (by omega)).trans e5
  have e6 := (hcn 6 (by omega)).trans e6
  have e7 := (hcn 7 (by omega)).trans e7
  have e8 := (hcn 8 (by omega)).trans e8
  have e9 := (hcn 9 (by omega)).trans e9
  have e2 := hself
  obtain ⟨lf2, hlf⟩ : ∃ f, f = (va_up lf1 2 (some (ad21 9))) := ⟨_, rfl⟩
  rw [← hlf] at e2
  have h2b : ∀ j, j < 3 → lf2 j = some (ad21 (7 + j)) := fun j hj => by
    rw [hlf]
    by_cases h9 : j = 2
    · rw [h9, va_up_self]
    · rw [va_up_ne _ _ h9]; exact h2b j (by omega)
  refine lv_iinc (v := 3) (lv' := [(1, .int 3), (0, .ref (ad 0))]) hx hb dX6_init_85 hl (k := 0) rfl rfl (by decide) rfl (fun ls hl => ?_)
  refine lv_goto (tgt := 67) hx hb dX6_init_88 (by decide) ?_
  refine lv_iload_n hx hb dX6_init_67 rfl (lv_at hl 0 rfl) ?_
  refine lv_iconst (v := 4) hx hb dX6_init_68 (by decide) ?_
  refine lv_icmp_ge (tgt := 91) hx hb dX6_init_69 (by decide) (fun c_69 => absurd c_69 (by decide)) (fun c_69 => ?_)
  refine lv_aload_n hx hb dX6_init_72 rfl (lv_at hl 1 rfl) ?_
  refine ro_getE MC HP ha0 (by decide) f0 (rfl : vwCl[5]? = some (RX6, TX6, 11)) inU6 2 (by decide) kw63 rfl rfl dX6_init_73 ?_
  refine lv_iload_n hx hb dX6_init_76 rfl (lv_at hl 0 rfl) ?_
  refine ro_newG MC HP HS 10 (by decide) [.int 0, .int 0] (rfl : vwCl[4]? = some (RX5, TX5, 2)) inU5 tyX5_ok kw40 kw46 kw18 (fun j hj => by rcases j with _ | _ | j <;> first | rfl | omega) (Nat.le_of_ble_eq_true rfl) (Nat.le_of_ble_eq_true rfl) dX6_init_77 (fun ad24 cn24 H24 HP had hcn hself HS => ?_)
  have f0 : cn24 0 = .inr (5, [.ref (ad24 1), .int 1, .ref (ad24 2), .int 0, .ref (ad24 3), .int 0, .int 0, .ref (ad24 4), .int 0, .ref (ad24 5), .ref (ad24 6)]) := by rw [hcn 0 (by omega), f0, had 1 (by omega), had 2 (by omega), had 3 (by omega), had 4 (by omega), had 5 (by omega), had 6 (by omega)]
  have e1 := (hcn 1 (by omega)).trans e1
  have e2 := (hcn 2 (by omega)).trans e2
  have e3 := (hcn 3 (by omega)).trans e3
  have e4 := (hcn 4 (by omega)).trans e4
  have e5 := (hcn 5 (by omega)).trans e5
  have e6 := (hcn 6 (by omega)).trans e6
  have e7 := (hcn 7 (by omega)).trans e7
  have e8 := (hcn 8 (by omega)).trans e8
  have e9 := (hcn 9 (by omega)).trans e9
  have ha0 : ad24 0 = ad 0 := (had 0 (by omega)).trans ha0
  have h2b : ∀ j, j < 3 → lf2 j = some (ad24 (7 + j)) := fun j hj => by rw [h2b j hj, had (7 + j) (by omega)]
  have e10 := hself
  have ha2 := had 2 (by omega)
  refine lv_dup hx hb dX6_init_80 rfl ?_
  refine ro_callIN MC HS (rest := [.ref (ad24 10), .int 3, .ref (ad21 2)]) (As := []) (x_iLand HP (r := 10) (by decide) e10) (lnX6_42) (kw48) (rfl) ⟨Nat.le_of_ble_eq_true rfl, Nat.le_of_ble_eq_true rfl⟩ hl.1 rfl (Nat.le_of_ble_eq_true rfl) dX6_init_81 ⟨Nat.le_of_ble_eq_true rfl, Nat.le_of_ble_eq_true rfl⟩ (fun v9 H4 lH4 hp hz HS => ?_)
  obtain ⟨rfl, cn25, HP, hself, hcn⟩ := hp
  have f0 : cn25 0 = .inr (5, [.ref (ad24 1), .int 1, .ref (ad24 2), .int 0, .ref (ad24 3), .int 0, .int 0, .ref (ad24 4), .int 0, .ref (ad24 5), .ref (ad24 6)]) := (hcn 0 (by omega)).trans f0
  have e1 := (hcn 1 (by omega)).trans e1
  have e2 := (hcn 2 (by omega)).trans e2
  have e3 := (hcn 3 (by omega)).trans e3
  have e4 := (hcn 4 (by omega)).trans e4
  have e5 := (hcn 5 (by omega)).trans e5
  have e6 := (hcn 6 (by omega)).trans e6
  have e7 := (hcn 7 (by omega)).trans e7
  have e8 := (hcn 8 (by omega)).trans e8
  have e9 := (hcn 9 (by omega)).trans e9
  have e10 := hself
  refine xo_aastE MC HP HS 3 ha2 (r := 2) (by decide) e2 rfl (rv := 10) rfl (by decide) e10 (rfl : vwCl[4]? = some (RX5, TX5, 2)) 3 (by omega) (by omega) rfl dX6_init_84 (fun H26 lH26 HP HS => ?_)
  obtain ⟨cn26, hc9⟩ : ∃ c9, c9 = va_up cn25 2 (.inl (ids 3, 4, .inr (.inr (.inr (.inr (va_up lf2 3 (some (ad24 10)))))))) := ⟨_, rfl⟩
  rw [← hc9] at HP
  have hcn : ∀ j, j ≠ 2 → cn26 j = cn25 j := fun j hj => by rw [hc9]; exact va_up_ne _ _ hj
  have hself : cn26 2 = (.inl (ids 3, 4, .inr (.inr (.inr (.inr (va_up lf2 3 (some (ad24 10)))))))) := by rw [hc9]; exact va_up_self ..
  have f0 : cn26 0 = .inr (5, [.ref (ad24 1), .int 1, .ref (ad24 2), .int 0, .ref (ad24 3), .int 0, .int 0, .ref (ad24 4), .int 0, .ref (ad24 5), .ref (ad24 6)]) := (hcn 0 (by omega)).trans f0
  have e1 := (hcn 1 (by omega)).trans e1
  have e3 := (hcn 3 (by omega)).trans e3
  have e4 := (hcn 4 (by omega)).trans e4
  have e5 := (hcn 5 (by omega)).trans e5
  have e6 := (hcn 6 (by omega)).trans e6
  have e7 := (hcn 7 (by omega)).trans e7
  have e8 := (hcn 8 (by omega)).trans e8
  have e9 := (hcn 9 (by omega)).trans e9
  have e10 := (hcn 10 (by omega)).trans e10
  have e2 := hself
  obtain ⟨lf3, hlf⟩ : ∃ f, f = (va_up lf2 3 (some (ad24 10))) := ⟨_, rfl⟩
  rw [← hlf] at e2
  have h2b : ∀ j, j < 4 → lf3 j = some (ad24 (7 + j)) := fun j hj => by
    rw [hlf]
    by_cases h9 : j = 3
    · rw [h9, va_up_self]
    · rw [va_up_ne _ _ h9]; exact h2b j (by omega)
  refine lv_iinc (v := 4) (lv' := [(1, .int 4), (0, .ref (ad 0))]) hx hb dX6_init_85 hl (k := 0) rfl rfl (by decide) rfl (fun ls hl => ?_)
  refine lv_goto (tgt := 67) hx hb dX6_init_88 (by decide) ?_
  refine lv_iload_n hx hb dX6_init_67 rfl (lv_at hl 0 rfl) ?_
  refine lv_iconst (v := 4) hx hb dX6_init_68 (by decide) ?_
  refine lv_icmp_ge (tgt := 91) hx hb dX6_init_69 (by decide) (fun c_69 => ?_) (fun c_69 => absurd c_69 (by decide))
  have hb1 : ∀ b, b < 16 → bit 1 b = (0 == b) := by decide +kernel
  have h1b : ∀ k, k < 1 → ∀ b, b < 16 → bit (upd (fun _ => 0) 0 1 k) b = bel (taI 1) 16 k b := fun k hk b hb => by
    have hk0 : k = 0 := by omega
    subst hk0
    rw [upd_at, hb1 b hb, bel, show (taI 1 0 == -1) = true from rfl]
    simp
  have h7 : ∀ j, j < 4 → cn26 (7 + j) = .inr (4, [.int (taI 2 j), .int ((fun _ => 0 : Nat → Int32) j)]) := fun j hj => by
    rcases j with _ | _ | _ | _ | j
    · exact e7
    · exact e8
    · exact e9
    · exact e10
    · omega
  have h7b : ∀ j, j < 4 → ∀ d, d < 30 → bit ((fun _ => 0 : Nat → Int32) j) d = !(taI 3 (30 * j + d) == 0) := fun j hj d hd => by rw [taI_row (by omega)]; exact bit_0 d (by omega)
  exact ro_vretM MC HS hr (⟨rfl, ad24, cn26, _, _, _, _, _, _, HP, ha0, ⟨f0, e1, h1b, e2, h2b, h7, h7b, e3, fun k hk => (if_neg (fun h9 => absurd h9.1 (by omega))).symm, fun k hk => absurd hk (by omega), e4, fun k hk => (if_neg (by omega)).symm, fun k hk => absurd hk (by omega), by rw [taI_row (by omega)]; exact e5, e6⟩⟩) (Nat.le_of_ble_eq_true rfl) (Nat.le_of_ble_eq_true rfl) dX6_init_91
set_option maxHeartbeats 4000000 in
set_option maxRecDepth 100000 in
theorem q_now {l : Launch} {D : va_G} {ids : Nat → ClassId} {n0 : Nat} {RR : List Nat} {ad : Nat → Nat} {cn : Nat → va_E} {τ : Tau} {ns nl nc : Nat} {Hh : Heap} (hX : xH D ids n0 RR ad cn τ ns nl nc Hh) : ro_M l yX6_now cX6_now 1 (some FieldType.int) { frames := 0, cells := 0, slots := 0, locals := 0 } D ids n0 [.ref (ad 0)] Hh (fun v H1 => v = some (.int (τ 0 0)) ∧ Hh = H1) := by
  refine ro_ofM (by decide +kernel) (Nat.le_of_ble_eq_true rfl) ?_
  intro p e s m below meth c MC hhp hr hnm HS ls hl
  have hx := MC.1.1
  have hb := MC.1.2.1
  have hl : lv_has ls 1 [(0, .ref (ad 0))] := hl
  obtain ⟨HP, hRR, sa, bm, fm, lf, ff, cf, h0, h1, h1b, h2, h2b, h7, h7b, h3, h3b, h40, h4, h4b, h60, h5, h6⟩ := id hX
  refine lv_aload_n hx hb dX6_now_0 rfl (lv_at hl 0 rfl) ?_
  refine ro_get MC HP (hRR.l (by decide)) h0 (rfl : vwCl[5]? = some (RX6, TX6, 11)) inU6 3 (by decide) kw64 rfl rfl dX6_now_1 ?_
  exact ro_iretM MC HS hr (⟨rfl, rfl⟩) (Nat.le_of_ble_eq_true rfl) (Nat.le_of_ble_eq_true rfl) dX6_now_4
end
section
section HW
variable {p : Program} {l : Launch} {e : Env} {R : Room} {s : State} {m : MethodId} {args : Array Value} {below : List Frame} {meth : Method} {c : Code} {H : Heap} {locs : List Loc} {cells slots : Nat} {Q : State → Prop}
variable {cc : ByteArray} {nL : Nat} {own : String} {D : va_G} {ids : Nat → ClassId} {n0 : Nat} {RR : List Nat} {ad : Nat → Nat} {cn : Nat → va_E} {pc : Nat} {ls : Array Slot} {rest : List Value}
abbrev hT4 (c : Code) : List (Nat × Nat × Nat × Nat) := c.exceptionTable.toList.map (fun h => (h.startPc, h.endPc, h.handlerPc, h.catchType))
/-- caught by the i-th row of the method's table -/
theorem ro_catch (MC : ro_C p s m args meth c cc nL own D ids n0) {hh : List (Nat × Nat × Nat × Nat)} (hT : hT4 c = hh) (i : Nat) {sp ep hp ct : Nat} (hi : hh[i]? = some (sp, ep, hp, ct)) (hcov : sp ≤ pc ∧ pc < ep) (hct : ct ≠ 0) {E name : String} (hlink : Cond.classLink own ct name ∈ uU) (hcast : (E, name) ∈ uNc)
    (hpass : ∀ j, j < i → ∀ q, hh[j]? = some q → q.2.2.2 ≠ 0 ∧ ∃ nm, Cond.classLink own q.2.2.2 nm ∈ uU ∧ (E, nm) ∈ uNx) {ce : Cell} {q9 : Addr} (hcell : H[q9]? = some ce) (hv : ce.vm = .none) (hcl : s.vm.findClass E = some ce.cls)
    (kk : W p l e R s m args below meth c H locs cells slots Q (F0 m hp ls [.ref q9])) : vx_W p l e R s m args below meth c H locs cells slots Q (F0 m pc ls rest) q9 := by
  obtain ⟨⟨hx, hb, hml, hown, hts⟩, hE, hlk⟩ := MC
  subst hT
  rw [List.getElem?_map] at hi
  cases hx9 : c.exceptionTable.toList[i]? with
  | none => rw [hx9] at hi; cases hi
  | some x =>
    rw [hx9] at hi
    simp only [Option.map_some, Option.some.injEq, Prod.mk.injEq] at hi
    obtain ⟨h1, h2, h3, h4⟩ := hi
    obtain ⟨hlt, hgx⟩ := List.getElem?_eq_some_iff.mp hx9
    have hsplit : c.exceptionTable.toList = c.exceptionTable.toList.take i ++ x :: c.exceptionTable.toList.drop (i + 1) := by
      rw [← hgx, ← List.drop_eq_getElem_cons hlt, List.take_append_drop]
    refine vx_catch hown _ x _ hsplit ?_ ?_ (by rw [h4]; exact hct) (by rw [h4]; exact hts _ hlink) (va_Nw.use rfl (hE.2.2.2.2.2.2.1 _ hcast)) hcell hv hcl (by rw [h3]; exact kk)
    · intro z hz
      obtain ⟨j, hj⟩ := List.getElem?_of_mem hz
      rw [List.getElem?_take] at hj
      by_cases hji : j < i
      · rw [if_pos hji] at hj
        obtain ⟨g1, nm, g2, g3⟩ := hpass j hji (z.startPc, z.endPc, z.handlerPc, z.catchType) (by rw [List.getElem?_map, hj]; rfl)
        exact Or.inr ⟨g1, nm, hts _ g2, hE.2.2.2.2.2.2.2.2.1 _ g3⟩
      · rw [if_neg hji] at hj; cases hj
    · simp only [covers, h1, h2]
      simp [hcov.1, hcov.2]
end HW
theorem ro_ofW {l : Launch} {D : va_G} {ids : Nat → ClassId} {n0 : Nat} {y : MethodName} {cy : ByteArray} {maxL : Nat} {ret : Option FieldType} {hh : List (Nat × Nat × Nat × Nat)} {rm : Room} {as : List Value} {Hh : Heap} {post : Option Value → Heap → Prop} (hy : plainName y.cls = true) (hlen : (lg_sl as).length ≤ maxL)
    (body : ∀ (p : Program) (e : Env) (s : State) (m : MethodId) (below : List Frame) (meth : Method) (c : Code), ro_C p s m as.toArray meth c cy maxL y.cls D ids n0 → s.heap = Hh → meth.sig.returnType = ret → hT4 c = hh → va_S (fun q => n0 ≤ q) s.heap Hh [] → ∀ ls, lv_has ls maxL (lv_args 0 as) → W p l e rm s m as.toArray below meth c Hh [] 0 0 (MQ below (ro_Q n0 post) as.toArray s rm.cells rm.slots (fun q => n0 ≤ q)) (F0 m 0 ls [])) : ro_MW l y cy maxL ret hh rm D ids n0 as Hh post := by
  unfold ro_MW Met
  refine MetFree.of_bodyS (code := cy) (maxLocals := maxL) (ret := ret) hy ?_ ?_
  · intro args s m h hn
    obtain ⟨m9, meth, c, hn9, h1, h2, h3, h4, -, h5, h6, -⟩ := Cond.codeWith_spec (atoms_spec (ws := .codeWith y cy maxL ret hh :: uU) h _ List.mem_cons_self)
    cases hn.symm.trans hn9
    exact ⟨meth, c, h1, h2, h3, h4, h5, h6⟩
  · intro p e s m args below meth c s₁ B hml hv _
    have hh0 : s₁.heap = s.heap := by rw [B.state]; rfl
    obtain ⟨rfl, hE, rfl⟩ := hv
    have hts := atoms_spec (ws := .codeWith y cy maxL ret hh :: uU) B.pre
    have hown := findClass_of_methodNamed B.named
    obtain ⟨m9, meth9, c9, hn9, h1, h2, h3, h4, h7, h5, h6, -⟩ := Cond.codeWith_spec (hts _ List.mem_cons_self)
    cases B.named.symm.trans hn9
    have X := Stand.of_body B
    cases B.method.symm.trans h1
    have hc9 : meth.code = some c := X.code
    cases hc9.symm.trans h2
    have K := body p e s m below meth c ⟨⟨B.exec, B.bytes, hml, hown, fun w h => hts w (List.mem_cons_of_mem _ h)⟩, hE, B.notSynchronized⟩ rfl B.returns h7 va_S.rf _ (lv_entry as hlen)
    rw [← lg_entry_eq] at K
    obtain ⟨t, a1, o, b1, b2, b3⟩ := K s₁ hh0 X
    exact ⟨t, o, a1, b1, b2, ⟨b3.1, b3.2⟩⟩
theorem isX.cg {ids : Nat → ClassId} {ad : Nat → Nat} {cn cn2 : Nat → va_E} {τ : Tau} {ns nl nc : Nat} {sa bm fm : Nat → Int32} {lf ff cf : Nat → Option Nat} (h : isX ids ad cn τ ns nl nc sa bm fm lf ff cf) (hc : ∀ r, r ≤ 10 ∨ 40 ≤ r → cn2 r = cn r) : isX ids ad cn2 τ ns nl nc sa bm fm lf ff cf := by
  obtain ⟨h0, h1, h1b, h2, h2b, h7, h7b, h3, h3b, h40, h4, h4b, h60, h5, h6⟩ := h
  exact ⟨(hc 0 (by omega)).trans h0, (hc 1 (by omega)).trans h1, h1b, (hc 2 (by omega)).trans h2, h2b, fun j hj => (hc (7 + j) (by omega)).trans (h7 j hj), h7b, (hc 3 (by omega)).trans h3, h3b, fun k hk => (hc (40 + k) (by omega)).trans (h40 k hk), (hc 4 (by omega)).trans h4, h4b, fun k hk => (hc (60 + k) (by omega)).trans (h60 k hk), (hc 5 (by omega)).trans h5, (hc 6 (by omega)).trans h6⟩
end
