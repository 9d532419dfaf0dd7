set_option maxHeartbeats 4000000 in
set_option maxRecDepth 100000 in
theorem l_now {p : Program} {l : Launch} {e : Env} {R : Room} {s : State} {m : MethodId} {args : Array Value} {below : List Frame} {meth : Method} {c : Code} {H : Heap} {locs : List Loc} {cells slots : Nat} {Q : State → Prop} {D : va_G} {ids : Nat → ClassId} {n0 b a0 a11 a30 i9 : Nat} (MC : ro_C p s m args meth c cL_law 7 "FrostCalendarLaw" D ids n0) (HS : va_S (fun q => n0 ≤ q) s.heap H locs) (hw : bw D ids n0 a0 a11 a30 H) (hR : 10 ≤ R.frames ∧ 310 ≤ R.locals) (hcl : cells ≤ R.cells) (hsl : slots ≤ R.slots) {ls : Array Slot} (hl : lv_has ls 7 [(0, .ref b), (1, .ref a0), (2, .ref a11), (3, .ref a30), (4, .int (nI i9))])
    (kk : ∀ (H1 : Heap) (locs1 : List Loc) (ls1 : Array Slot), bw D ids n0 a0 a11 a30 H1 → va_S (fun q => n0 ≤ q) s.heap H1 locs1 → lv_has ls1 7 [(0, .ref b), (1, .ref a0), (2, .ref a11), (3, .ref a30), (4, .int (nI i9))] → W p l e R s m args below meth c H1 locs1 cells slots Q (F0 m 1760 ls1 [])) : W p l e R s m args below meth c H locs cells slots Q (F0 m 411 ls []) := by
  have hx := MC.1.1
  have hb := MC.1.2.1
  obtain ⟨RR, ad, cn, τ, th0, nw, ns, nl, nc, out, hX, hI, hM, h30, rfl, rfl, rfl⟩ := hw
  obtain ⟨sa, bm, fm, lf, ff, cf, h0, -⟩ := hX.2.2
  refine lv_aload_n hx hb dL_law_411 rfl (lv_at hl 1 rfl) ?_
  refine ro_callV MC HS (rest := []) (As := []) (q_now hX) lkL_119 kw109 kw110 ⟨by show 0 + 1 ≤ R.frames; omega, by show 8 + (1 + 11) + 0 ≤ R.locals; omega⟩ (ro_recv MC hX.1 (hX.2.1.l (by decide)) h0 (rfl : vwCl[5]? = some (RX6, TX6, 11))) hl.1 rfl (Nat.le_of_ble_eq_true rfl) dL_law_412 ⟨by show cells + 0 ≤ R.cells; omega, by show slots + 0 ≤ R.slots; omega⟩ (fun v9 H1 locs1 hp hz1 HS => ?_)
  obtain ⟨rfl, rfl⟩ := hp
  refine lv_aload_n hx hb dL_law_415 rfl (lv_at hl 2 rfl) ?_
  refine ro_callV MC HS (rest := [.int (τ 0 0)]) (As := []) (m_now (hX.sM hM)) lkL_122 kw719 kw720 ⟨by show 0 + 1 ≤ R.frames; omega, by show 8 + (1 + 11) + 0 ≤ R.locals; omega⟩ (mo_recv MC (hX.sM hM)) hl.1 rfl (Nat.le_of_ble_eq_true rfl) dL_law_416 ⟨by show cells + 0 + 0 ≤ R.cells; omega, by show slots + 0 + 0 ≤ R.slots; omega⟩ (fun v9 H2 locs2 hp hz2 HS => ?_)
  obtain ⟨rfl, hM2⟩ := hp
  refine lv_icmp_eq (tgt := 1760) hx hb dL_law_419 (by decide) (fun c_419 => ?_) (fun c_419 => absurd (rfl) c_419)
  exact kk _ _ ls (bw.of hX hI h30 hM2 rfl rfl rfl) HS (lv_sub hl [0, 1, 2, 3, 4] rfl)
