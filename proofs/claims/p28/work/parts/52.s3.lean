/-- to the claim's own numbers: what was written lies in what is new -/
theorem ro_fin {p : Program} {l : Launch} {e : Env} {R : Room} {s : State} {m : MethodId} {args : Array Value} {below : List Frame} {meth : Method} {c : Code} {H : Heap} {locs : List Loc} {cells slots c9 s9 : Nat} {Q : State → Prop} {g : JFrame} (hn : ∀ z ∈ locs, s.heap.size ≤ z.base) (hc : cells ≤ c9) (hs : slots ≤ s9) (k : W p l e R s m args below meth c H [] c9 s9 Q g) : W p l e R s m args below meth c H locs cells slots Q g := fun T hT X =>
  k T hT ⟨X.admits, X.cas, X.clock, X.frames, X.room, X.hears, X.method, X.code, X.here, X.tail, X.warmed, X.limits, X.bytes, X.same.weaken (fun x hx hlt => absurd hlt (Nat.not_lt.mpr (hn x hx))) hc hs⟩
theorem l_ns {l : Launch} (hflags : l.flags = flags0) : l.stackTraces = false := by
  first | (simp [Launch.stackTraces, hflags]; decide +kernel) | (unfold Launch.stackTraces; rw [hflags]; decide +kernel) | (simp [Launch.stackTraces, hflags, flags0]; done)
theorem whole_start {p : Program} {e : Env} {s : State} {m : MethodId} {below : List Frame} {meth : Method} {c : Code} (l : Launch) (hflags : l.flags = flags0) {b L : Nat} {xs : Nat → Int32} (hL : L ≤ 260) (C0 : lw_At p s m meth c b L xs) : W p l e room_1 s m #[Value.ref b] below meth c s.heap [] 0 0 (lw_Z below #[Value.ref b] s) (entryFrame m ([Value.ref b] : List Value).toArray 28) := by
  obtain ⟨hx, hb, hr, hml, hown, hts, hX, hbl, hlocks, hgv⟩ := id C0
  obtain ⟨D, ids, hE⟩ := en_start hts hgv
  have MC : ro_C p s m #[Value.ref b] meth c cL_law 28 "FrostCalendarLaw" D ids s.heap.size := ⟨⟨hx, hb, hml, hown, fun w hw => hts w (uU_tb hw)⟩, hE, hlocks⟩
  have hl := lv_entry ([.ref b]) (n := 28) (Nat.le_of_ble_eq_true rfl)
  rw [lg_entry_eq]
  generalize (lg_sl ([.ref b]) ++ List.replicate (28 - (lg_sl ([.ref b])).length) Slot.unset).toArray = ls at hl ⊢
  have hl : lv_has ls 28 [(0, .ref b)] := hl
  refine l_start9 MC va_S.rf ⟨Nat.le_of_ble_eq_true rfl, Nat.le_of_ble_eq_true rfl⟩ (Nat.le_of_ble_eq_true rfl) (Nat.le_of_ble_eq_true rfl) hl (fun aa H1 locs1 ls1 HS hw hl1 => ?_)
  refine l_loop9 (l_ns hflags) (cells := 18) (slots := 301) MC ⟨Nat.le_of_ble_eq_true rfl, Nat.le_of_ble_eq_true rfl⟩ hX hbl hL (Nat.le_of_ble_eq_true rfl) (Nat.le_of_ble_eq_true rfl) (fun c9 s9 H2 locs2 ls2 hc hs HS2 => ?_) 0 (by omega) _ _ _ _ ls1 (by omega) (by omega) hw HS hl1
  refine ro_fin (c9 := 605004) (s9 := 7286685) HS2.2.2 hc hs ?_
  refine lv_iconst (v := 1) hx hb dL_law_2098 (by decide) ?_
  exact lw_ret hx hb hr hlocks dL_law_2099
