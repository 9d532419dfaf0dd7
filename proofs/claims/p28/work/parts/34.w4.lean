/-- what holds between two turns -/
def wI (D : va_G) (ids : Nat → ClassId) (n0 : Nat) (aa : Nat → Nat) (H : Heap) : Prop := ∃ (τ : Tau) (nw ns nl nc : Nat) (A : Tau), wB D ids n0 aa τ nw ns nl nc A H ∧ wOk τ ns nl nc A
abbrev lL (b : Nat) (aa : Nat → Nat) (t9 : Nat) : List (Nat × Value) := [(0, .ref b), (1, .ref (aa 0)), (2, .ref (aa 11)), (3, .ref (aa 12)), (4, .ref (aa 13)), (5, .ref (aa 14)), (6, .ref (aa 15)), (7, .ref (aa 16)), (8, .ref (aa 17)), (9, .int (nI t9))]
section WQ
variable {p : Program} {l : Launch} {e : Env} {R : Room} {s : State} {m : MethodId} {args : Array Value} {below : List Frame} {meth : Method} {c : Code} {H : Heap} {locs : List Loc} {cells slots : Nat} {Q : State → Prop}
variable {cc : ByteArray} {nL : Nat} {own : String} {D : va_G} {ids : Nat → ClassId} {n0 : Nat} {aa : Nat → Nat} {pc : Nat} {ls : Array Slot} {rest st0 : List Value} {τ : Tau} {nw ns nl nc : Nat} {A : Tau}
theorem wb_q (MC : ro_C p s m args meth c cc nL own D ids n0) (HS : va_S (fun q => n0 ≤ q) s.heap H locs) (hB : wB D ids n0 aa τ nw ns nl nc A H) {y : MethodName} {cy : ByteArray} {maxL index : Nat} {ret : Option FieldType} {rm : Room} {As : List Value} {th rt : Int32} {τ2 : Tau} {px : String → Heap → Prop}
    (hM : ∀ (RR : List Nat) (ad : Nat → Nat) (cn : Nat → va_E), xH D ids n0 RR ad cn τ ns nl nc H → ro_T l y cy maxL ret rm D ids n0 (.ref (ad 0) :: As) H (fun v H1 => th = 0 ∧ v = some (.int rt) ∧ aft D ids n0 ad cn τ2 H1) px) (hpx : ∀ E9 H1, px E9 H1 → False) (hyc : y.cls = "FrostCalendar")
    (hL : ro_L own index y cy maxL ret As.length) (hin : Cond.instanceMethod y ∈ uU) (hse : Cond.selects y.cls y y ∈ uU) (hrm : rm.cells = 8 ∧ rm.slots = 48 ∧ rm.frames ≤ 8 ∧ rm.locals ≤ 240 ∧ maxL ≤ 20) (hR : 11 ≤ R.frames ∧ 400 ≤ R.locals)
    (hsize : ls.size = nL) (hst : st0 = As.reverse ++ .ref (aa 0) :: rest) (hcat : (rest.map fun v => v.category).sum ≤ 8) (hdg : decode cc pc = .ok (.invokevirtual index, 3)) (hc : cells + 8 ≤ R.cells) (hs : slots + 48 ≤ R.slots)
    (kk : ∀ (nw1 ns1 nl1 nc1 : Nat) (H1 : Heap) (locs1 : List Loc), wB D ids n0 aa τ2 nw1 ns1 nl1 nc1 A H1 → va_S (fun q => n0 ≤ q) s.heap H1 locs1 → W p l e R s m args below meth c H1 locs1 (cells + 8) (slots + 48) Q (F0 m (pc + 3) ls (.int rt :: rest))) : W p l e R s m args below meth c H locs cells slots Q (F0 m pc ls st0) := by
  obtain ⟨h1, h2, h3, h4, h5⟩ := hrm
  refine wb_call MC HS hB hM hpx hyc hL hin hse ⟨by omega, by omega⟩ hsize hst hcat hdg ⟨by omega, by omega⟩ (fun nw1 ns1 nl1 nc1 H1 l1 k1 k2 => ?_)
  rw [h1, h2]
  exact kk nw1 ns1 nl1 nc1 H1 l1 k1 k2
theorem wb_now (MC : ro_C p s m args meth c cc nL own D ids n0) (HS : va_S (fun q => n0 ≤ q) s.heap H locs) (hB : wB D ids n0 aa τ nw ns nl nc A H) {index : Nat} (hL : ro_L own index yX6_now cX6_now 1 (some FieldType.int) 0) (hin : Cond.instanceMethod yX6_now ∈ uU) (hse : Cond.selects yX6_now.cls yX6_now yX6_now ∈ uU) (hR : 11 ≤ R.frames ∧ 400 ≤ R.locals)
    (hsize : ls.size = nL) (hcat : (rest.map fun v => v.category).sum ≤ 8) (hdg : decode cc pc = .ok (.invokevirtual index, 3)) (hc : cells ≤ R.cells) (hs : slots ≤ R.slots)
    (kk : ∀ (H1 : Heap) (locs1 : List Loc), wB D ids n0 aa τ nw ns nl nc A H1 → va_S (fun q => n0 ≤ q) s.heap H1 locs1 → W p l e R s m args below meth c H1 locs1 cells slots Q (F0 m (pc + 3) ls (.int (τ 0 0) :: rest))) : W p l e R s m args below meth c H locs cells slots Q (F0 m pc ls (.ref (aa 0) :: rest)) := by
  obtain ⟨hI, RR, ad, cn, hX, hW, had⟩ := id hB
  obtain ⟨sa, bm, fm, lf, ff, cf, hx0, -⟩ := hX.2.2
  rw [← had 0 (by omega)]
  refine ro_callV MC HS (rest := rest) (As := []) (q_now hX) hL hin hse ⟨by show 0 + 1 ≤ R.frames; omega, by show 8 + (1 + 11) + 0 ≤ R.locals; omega⟩ (ro_recv MC hX.1 (hX.2.1.l (by decide)) hx0 (rfl : vwCl[5]? = some (RX6, TX6, 11))) hsize rfl hcat hdg ⟨by show cells + 0 ≤ R.cells; omega, by show slots + 0 ≤ R.slots; omega⟩ (fun v9 H1 l1 hp hz HS1 => ?_)
  obtain ⟨rfl, rfl⟩ := hp
  exact kk _ l1 hB HS1
/-- a call of one of the law's own methods that makes nothing -/
theorem wb_s (MC : ro_C p s m args meth c cc nL own D ids n0) (HS : va_S (fun q => n0 ≤ q) s.heap H locs) {y : MethodName} {cy : ByteArray} {maxL index : Nat} {ret : Option FieldType} {rm : Room} {As : List Value} {post : Option Value → Heap → Prop} (hM : ro_M l y cy maxL ret rm D ids n0 As H post) (hL : ro_L own index y cy maxL ret As.length) (hin : Cond.static y ∈ uU) (hrm : rm.cells = 0 ∧ rm.slots = 0 ∧ rm.frames ≤ 8 ∧ rm.locals ≤ 240 ∧ maxL ≤ 20) (hR : 11 ≤ R.frames ∧ 400 ≤ R.locals)
    (hsize : ls.size = nL) (hst : st0 = As.reverse ++ rest) (hcat : (rest.map fun v => v.category).sum ≤ 8) (hdg : decode cc pc = .ok (.invokestatic index, 3)) (hc : cells ≤ R.cells) (hs : slots ≤ R.slots)
    (kk : ∀ (v : Option Value) (H1 : Heap) (locs1 : List Loc), post v H1 → va_S (fun q => n0 ≤ q) s.heap H1 locs1 → W p l e R s m args below meth c H1 locs1 cells slots Q (F0 m (pc + 3) ls (v.toList ++ rest))) : W p l e R s m args below meth c H locs cells slots Q (F0 m pc ls st0) := by
  obtain ⟨h1, h2, h3, h4, h5⟩ := hrm
  refine ro_callS MC HS hM hL hin ⟨by omega, by omega⟩ hsize hst hcat hdg ⟨by omega, by omega⟩ (fun v H1 l1 k1 _ k2 => ?_)
  rw [h1, h2]
  exact kk v H1 l1 k1 k2
theorem wb_sx (MC : ro_C p s m args meth c cc nL own D ids n0) (HS : va_S (fun q => n0 ≤ q) s.heap H locs) {b L : Nat} {xs : Nat → Int32} (hscr : va_X b L xs s s.heap) (hb0 : b < n0) {y : MethodName} {cy : ByteArray} {maxL index : Nat} {ret : Option FieldType} {rm : Room} {As : List Value} {post : Option Value → Heap → Prop} (hM : ro_MX l y cy maxL ret rm D ids n0 b L xs As H post) (hL : ro_L own index y cy maxL ret As.length) (hin : Cond.static y ∈ uU) (hrm : rm.cells = 0 ∧ rm.slots = 0 ∧ rm.frames ≤ 8 ∧ rm.locals ≤ 240 ∧ maxL ≤ 20) (hR : 11 ≤ R.frames ∧ 400 ≤ R.locals)
    (hsize : ls.size = nL) (hst : st0 = As.reverse ++ rest) (hcat : (rest.map fun v => v.category).sum ≤ 8) (hdg : decode cc pc = .ok (.invokestatic index, 3)) (hc : cells ≤ R.cells) (hs : slots ≤ R.slots)
    (kk : ∀ (v : Option Value) (H1 : Heap) (locs1 : List Loc), post v H1 → va_S (fun q => n0 ≤ q) s.heap H1 locs1 → W p l e R s m args below meth c H1 locs1 cells slots Q (F0 m (pc + 3) ls (v.toList ++ rest))) : W p l e R s m args below meth c H locs cells slots Q (F0 m pc ls st0) := by
  obtain ⟨h1, h2, h3, h4, h5⟩ := hrm
  refine ro_callSX MC HS hscr hb0 hM hL hin ⟨by omega, by omega⟩ hsize hst hcat hdg ⟨by omega, by omega⟩ (fun v H1 l1 k1 _ k2 => ?_)
  rw [h1, h2]
  exact kk v H1 l1 k1 k2
theorem wb_change (MC : ro_C p s m args meth c cc nL own D ids n0) (HS : va_S (fun q => n0 ≤ q) s.heap H locs) (hl9 : l.stackTraces = false) (hB : wB D ids n0 aa τ nw ns nl nc A H) (hO : wOk τ ns nl nc A) {n index : Nat} (hn : n < nc) (hL : ro_L own index yL_change cL_change 13 (some FieldType.boolean) 8) (hin : Cond.static yL_change ∈ uU) (hR : 11 ≤ R.frames ∧ 400 ≤ R.locals)
    (hsize : ls.size = nL) (hcat : (rest.map fun v => v.category).sum ≤ 8) (hdg : decode cc pc = .ok (.invokestatic index, 3)) (hc : cells + 48 ≤ R.cells) (hs : slots + 288 ≤ R.slots)
    (kk : ∀ (H1 : Heap) (locs1 : List Loc), wB D ids n0 aa τ nw ns nl nc A H1 → va_S (fun q => n0 ≤ q) s.heap H1 locs1 → W p l e R s m args below meth c H1 locs1 (cells + 48) (slots + 288) Q (F0 m (pc + 3) ls (.int 1 :: rest))) : W p l e R s m args below meth c H locs cells slots Q (F0 m pc ls (.ref (aa 17) :: .ref (aa 15) :: .ref (aa 14) :: .ref (aa 13) :: .ref (aa 12) :: .ref (aa 11) :: .int (nI n) :: .ref (aa 0) :: rest)) := by
  refine ro_callS MC HS (rest := rest) (As := [.ref (aa 0), .int (nI n), .ref (aa 11), .ref (aa 12), .ref (aa 13), .ref (aa 14), .ref (aa 15), .ref (aa 17)]) (y_change hl9 hB hO hn) hL hin ⟨by show 9 + 1 ≤ R.frames; omega, by show 8 + (13 + 11) + 270 ≤ R.locals; omega⟩ hsize rfl hcat hdg ⟨by show cells + 48 ≤ R.cells; omega, by show slots + 288 ≤ R.slots; omega⟩ (fun v9 H1 l1 hp hz HS1 => ?_)
  obtain ⟨rfl, hB1⟩ := hp
  exact kk H1 l1 hB1 HS1
/-- a call of refused -/
theorem wb_r (MC : ro_C p s m args meth c cc nL own D ids n0) (HS : va_S (fun q => n0 ≤ q) s.heap H locs) {index : Nat} {hh : List (Nat × Nat × Nat × Nat)} {k9 a9 b9 r9 : Int32} (hM : ro_MW l yL_refused cL_refused 5 (some FieldType.int) hh { frames := 9, cells := 8, slots := 48, locals := 280 } D ids n0 [.ref (aa 0), .int k9, .int a9, .int b9] H (fun v H1 => v = some (.int r9) ∧ wB D ids n0 aa τ nw ns nl nc A H1)) (hL : ro_LW own index yL_refused cL_refused 5 (some FieldType.int) hh 4) (hR : 11 ≤ R.frames ∧ 400 ≤ R.locals)
    (hsize : ls.size = nL) (hcat : (rest.map fun v => v.category).sum ≤ 8) (hdg : decode cc pc = .ok (.invokestatic index, 3)) (hc : cells + 8 ≤ R.cells) (hs : slots + 48 ≤ R.slots)
    (kk : ∀ (H1 : Heap) (locs1 : List Loc), wB D ids n0 aa τ nw ns nl nc A H1 → va_S (fun q => n0 ≤ q) s.heap H1 locs1 → W p l e R s m args below meth c H1 locs1 (cells + 8) (slots + 48) Q (F0 m (pc + 3) ls (.int r9 :: rest))) : W p l e R s m args below meth c H locs cells slots Q (F0 m pc ls (.int b9 :: .int a9 :: .int k9 :: .ref (aa 0) :: rest)) := by
  refine ro_callW MC HS (rest := rest) (As := [.ref (aa 0), .int k9, .int a9, .int b9]) hM hL ⟨by show 9 + 1 ≤ R.frames; omega, by show 8 + (5 + 11) + 280 ≤ R.locals; omega⟩ hsize rfl hcat hdg ⟨by show cells + 8 ≤ R.cells; omega, by show slots + 48 ≤ R.slots; omega⟩ (fun v9 H1 l1 hp hz HS1 => ?_)
  obtain ⟨rfl, hB1⟩ := hp
  exact kk H1 l1 hB1 HS1
end WQ
theorem lwr : ro_LW "FrostCalendarLaw" 109 yL_refused cL_refused 5 (some FieldType.int) [(0, 86, 87, 49), (0, 86, 91, 51), (0, 86, 95, 53), (0, 86, 99, 55)] 4 := ⟨kw522, kw520, kw16, kw521, by decide +kernel, by decide +kernel, by decide +kernel⟩
set_option maxHeartbeats 4000000 in
set_option maxRecDepth 100000 in
theorem l_chk {p : Program} {l : Launch} (hl9 : l.stackTraces = false) {e : Env} {R : Room} {s : State} {m : MethodId} {args : Array Value} {below : List Frame} {meth : Method} {c : Code} {H : Heap} {locs : List Loc} {cells slots : Nat} {Q : State → Prop} {D : va_G} {ids : Nat → ClassId} {n0 b t9 : Nat} {aa : Nat → Nat} {τ : Tau} {nw ns nl nc : Nat} {A : Tau} (MC : ro_C p s m args meth c cL_law 28 "FrostCalendarLaw" D ids n0) (HS : va_S (fun q => n0 ≤ q) s.heap H locs) (hB : wB D ids n0 aa τ nw ns nl nc A H) (hO : wOk τ ns nl nc A) (hR : 11 ≤ R.frames ∧ 400 ≤ R.locals)  (hcl : cells + 288 ≤ R.cells) (hsl : slots + 1728 ≤ R.slots) {ls : Array Slot} (hl : lv_has ls 28 [(0, .ref b), (1, .ref (aa 0)), (2, .ref (aa 11)), (3, .ref (aa 12)), (4, .ref (aa 13)), (5, .ref (aa 14)), (6, .ref (aa 15)), (7, .ref (aa 16)), (8, .ref (aa 17)), (9, .int (nI t9))])
    (kk : ∀ (c9 s9 : Nat) (H1 : Heap) (locs1 : List Loc) (ls1 : Array Slot), c9 ≤ cells + 288 → s9 ≤ slots + 1728 → wI D ids n0 aa H1 → va_S (fun q => n0 ≤ q) s.heap H1 locs1 → lv_has ls1 28 (lL b aa t9) → W p l e R s m args below meth c H1 locs1 c9 s9 Q (F0 m 2092 ls1 [])) : W p l e R s m args below meth c H locs cells slots Q (F0 m 2040 ls []) := by
  have hx := MC.1.1
  have hb := MC.1.2.1
  have hI := hB.1
  obtain ⟨⟨hns, hnl, hnc⟩, ⟨hg0, hg1, hg2, hg3⟩, hF, hC, hin, hof, hfe, hle⟩ := id hO
  refine lv_iconst (v := 0) hx hb dL_law_2040 (by decide) ?_
  refine lv_istore (lv' := [(19, .int 0), (0, .ref b), (1, .ref (aa 0)), (2, .ref (aa 11)), (3, .ref (aa 12)), (4, .ref (aa 13)), (5, .ref (aa 14)), (6, .ref (aa 15)), (7, .ref (aa 16)), (8, .ref (aa 17)), (9, .int (nI t9))]) hx hb dL_law_2041 hl (by decide) rfl (fun ls hl => ?_)
  have loop : ∀ i : Nat, i ≤ nc → ∀ (c9 s9 : Nat) (H : Heap) (locs : List Loc) (ls : Array Slot), c9 ≤ cells + 48 * i → s9 ≤ slots + 288 * i → wB D ids n0 aa τ nw ns nl nc A H → va_S (fun q => n0 ≤ q) s.heap H locs → lv_has ls 28 [(19, .int (nI i)), (0, .ref b), (1, .ref (aa 0)), (2, .ref (aa 11)), (3, .ref (aa 12)), (4, .ref (aa 13)), (5, .ref (aa 14)), (6, .ref (aa 15)), (7, .ref (aa 16)), (8, .ref (aa 17)), (9, .int (nI t9))] → W p l e R s m args below meth c H locs c9 s9 Q (F0 m 2043 ls []) := by
    refine ro_loop nc (fun i : Nat => ∀ (c9 s9 : Nat) (H : Heap) (locs : List Loc) (ls : Array Slot), c9 ≤ cells + 48 * i → s9 ≤ slots + 288 * i → wB D ids n0 aa τ nw ns nl nc A H → va_S (fun q => n0 ≤ q) s.heap H locs → lv_has ls 28 [(19, .int (nI i)), (0, .ref b), (1, .ref (aa 0)), (2, .ref (aa 11)), (3, .ref (aa 12)), (4, .ref (aa 13)), (5, .ref (aa 14)), (6, .ref (aa 15)), (7, .ref (aa 16)), (8, .ref (aa 17)), (9, .int (nI t9))] → W p l e R s m args below meth c H locs c9 s9 Q (F0 m 2043 ls [])) ?_ ?_
    · intro c9 s9 H locs ls hc9 hs9 hB HS hl
      refine lv_iload hx hb dL_law_2043 (lv_at hl 0 rfl) ?_
      refine lv_aload hx hb dL_law_2045 (lv_at hl 9 rfl) ?_
      refine lv_iconst (v := 3) hx hb dL_law_2047 (by decide) ?_
      refine wb_iald MC hB 6 (by decide) 3 (show 3 < 4 by omega) rfl (hg3.trans hI.2.2.2.1.1) dL_law_2048 ?_
      refine lv_icmp_ge (tgt := 2079) hx hb dL_law_2049 (by decide) (fun c_2049 => ?_) (fun c_2049 => absurd (nI_le (Nat.le_refl nc) (by omega)) c_2049)
      refine lv_aload_n hx hb dL_law_2079 rfl (lv_at hl 2 rfl) ?_
      refine wb_now MC HS hB (rest := []) lkL_132 kw237 kw238 hR hl.1 (Nat.le_of_ble_eq_true rfl) dL_law_2080 (by omega) (by omega) (fun H1 lH1 hB HS => ?_)
      refine lv_aload hx hb dL_law_2083 (lv_at hl 9 rfl) ?_
      refine lv_iconst (v := 0) hx hb dL_law_2085 (by decide) ?_
      refine wb_iald MC hB 6 (by decide) 0 (show 0 < 4 by omega) rfl hg0 dL_law_2086 ?_
      refine lv_icmp_eq (tgt := 2092) hx hb dL_law_2087 (by decide) (fun c_2087 => ?_) (fun c_2087 => absurd (rfl) c_2087)
      exact kk _ _ _ _ ls (by omega) (by omega) ⟨_, _, _, _, _, _, hB, hO⟩ HS (lv_sub hl [1, 2, 3, 4, 5, 6, 7, 8, 9, 10] rfl)
    · intro i hi ih c9 s9 H locs ls hc9 hs9 hB HS hl
      refine lv_iload hx hb dL_law_2043 (lv_at hl 0 rfl) ?_
      refine lv_aload hx hb dL_law_2045 (lv_at hl 9 rfl) ?_
      refine lv_iconst (v := 3) hx hb dL_law_2047 (by decide) ?_
      refine wb_iald MC hB 6 (by decide) 3 (show 3 < 4 by omega) rfl (hg3.trans hI.2.2.2.1.1) dL_law_2048 ?_
      refine lv_icmp_ge (tgt := 2079) hx hb dL_law_2049 (by decide) (fun c_2049 => absurd c_2049 (nI_ge hi (by omega))) (fun c_2049 => ?_)
      refine lv_aload_n hx hb dL_law_2052 rfl (lv_at hl 2 rfl) ?_
      refine lv_iload hx hb dL_law_2053 (lv_at hl 0 rfl) ?_
      refine lv_aload_n hx hb dL_law_2055 rfl (lv_at hl 3 rfl) ?_
      refine lv_aload_n hx hb dL_law_2056 rfl (lv_at hl 4 rfl) ?_
      refine lv_aload hx hb dL_law_2057 (lv_at hl 5 rfl) ?_
      refine lv_aload hx hb dL_law_2059 (lv_at hl 6 rfl) ?_
      refine lv_aload hx hb dL_law_2061 (lv_at hl 7 rfl) ?_
      refine lv_aload hx hb dL_law_2063 (lv_at hl 9 rfl) ?_
      refine wb_change MC HS hl9 hB hO hi (rest := []) lkL_128 kw528 hR hl.1 (Nat.le_of_ble_eq_true rfl) dL_law_2065 (by omega) (by omega) (fun H2 lH2 hB HS => ?_)
      refine lv_if_ne (tgt := 2073) hx hb dL_law_2068 (by decide) (fun c_2068 => ?_) (fun c_2068 => absurd c_2068 (by decide))
      refine lv_iinc (v := nI i + 1) (lv' := [(19, .int (nI i + 1)), (0, .ref b), (1, .ref (aa 0)), (2, .ref (aa 11)), (3, .ref (aa 12)), (4, .ref (aa 13)), (5, .ref (aa 14)), (6, .ref (aa 15)), (7, .ref (aa 16)), (8, .ref (aa 17)), (9, .int (nI t9))]) hx hb dL_law_2073 hl (k := 0) rfl rfl (by decide) rfl (fun ls hl => ?_)
      refine lv_goto (tgt := 2043) hx hb dL_law_2076 (by decide) ?_
      rw [nI_1] at hl
      exact ih _ _ _ _ ls (by omega) (by omega) hB HS (lv_sub hl [0, 1, 2, 3, 4, 5, 6, 7, 8, 9, 10] rfl)
  exact loop 0 (Nat.zero_le _) _ _ _ _ ls (by omega) (by omega) hB HS (lv_sub hl [0, 1, 2, 3, 4, 5, 6, 7, 8, 9, 10] (by rfl))
