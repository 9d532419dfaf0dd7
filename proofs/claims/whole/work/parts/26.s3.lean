/-- the law's end -/
theorem l_end {p : Program} {l : Launch} (hl9 : l.stackTraces = false) {e : Env} {s : State} {m : MethodId} {below : List Frame} {meth : Method} {c : Code} {D : va_G} {ids : Nat → ClassId} {b L a0 a11 a30 : Nat} {xs : Nat → Int32} (MC : ro_C p s m #[Value.ref b] meth c cL_law 7 "FrostCalendarLaw" D ids s.heap.size) (hr : meth.sig.returnType = ret) (hscr : va_X b L xs s s.heap) (hb0 : b < s.heap.size) (hL : L ≤ 3072) {cells slots : Nat} {H : Heap} {locs : List Loc} {ls : Array Slot} (hcl : cells ≤ 1000) (hsl : slots ≤ 5000) (HS : va_S (fun q => s.heap.size ≤ q) s.heap H locs) (hw : bw D ids s.heap.size a0 a11 a30 H) (hl : lv_has ls 7 [(0, .ref b), (1, .ref a0), (2, .ref a11), (3, .ref a30), (4, .int (nI 0))]) : W p l e room_1 s m #[Value.ref b] below meth c H locs cells slots (lw_Z below #[Value.ref b] s) (F0 m 23 ls []) := by
  refine l_loop hl9 MC hscr hb0 hL ⟨by decide +kernel, by decide +kernel⟩ (fun c9 s9 H1 locs1 ls1 hc hs HS1 => ?_) 520 0 cells slots H locs ls (by omega) (by omega) (by show cells + 8 * 520 ≤ 601024; omega) (by show slots + 48 * 520 ≤ 7293033; omega) HS hw hl
  refine ro_fin (c9 := 601024) (s9 := 7293033) HS1.2.2 hc hs ?_
  refine lv_iconst (v := 1) MC.1.1 MC.1.2.1 dL_law_1766 (by decide) ?_
  exact lw_ret MC.1.1 MC.1.2.1 hr MC.2.2 dL_law_1767
theorem l_ns {l : Launch} (hflags : l.flags = flags0) : l.stackTraces = false := by
  first | (simp [Launch.stackTraces, hflags]; decide +kernel) | (unfold Launch.stackTraces; rw [hflags]; decide +kernel) | (simp [Launch.stackTraces, hflags, flags0]; done)
/-- YOUR PART: from the entry, for every script of at most 3072 ints, the law comes to its end with true -/
theorem whole_start {p : Program} {e : Env} {s : State} {m : MethodId} {below : List Frame} {meth : Method} {c : Code} (l : Launch) (hflags : l.flags = flags0) {b L : Nat} {xs : Nat → Int32} (hL : L ≤ 3072) (C0 : lw_At p s m meth c b L xs) : W p l e room_1 s m #[Value.ref b] below meth c s.heap [] 0 0 (lw_Z below #[Value.ref b] s) (entryFrame m ([Value.ref b] : List Value).toArray 7) := by
  obtain ⟨hx, hb, hr, hml, hown, hts, hX, hbl, hlocks, hgv⟩ := id C0
  obtain ⟨D, ids, hE⟩ := en_start hts hgv
  have MC : ro_C p s m #[Value.ref b] meth c cL_law 7 "FrostCalendarLaw" D ids s.heap.size := ⟨⟨hx, hb, hml, hown, fun w hw => hts w (uU_tb hw)⟩, hE, hlocks⟩
  have hl := lv_entry ([.ref b]) (n := 7) (Nat.le_of_ble_eq_true rfl)
  rw [lg_entry_eq]
  generalize (lg_sl ([.ref b]) ++ List.replicate (7 - (lg_sl ([.ref b])).length) Slot.unset).toArray = ls at hl ⊢
  have hl : lv_has ls 7 [(0, .ref b)] := hl
  refine l_start MC va_S.rf ⟨Nat.le_of_ble_eq_true rfl, Nat.le_of_ble_eq_true rfl⟩ (Nat.le_of_ble_eq_true rfl) (Nat.le_of_ble_eq_true rfl) hl (fun a0 a11 a30 H1 locs1 ls1 HS hw hl1 => ?_)
  exact l_end (l_ns hflags) MC hr hX hbl hL (by omega) (by omega) HS hw hl1
