theorem l_sw {p : Program} {l : Launch} (hl9 : l.stackTraces = false) {e : Env} {R : Room} {s : State} {m : MethodId} {args : Array Value} {below : List Frame} {meth : Method} {c : Code} {H : Heap} {locs : List Loc} {cells slots : Nat} {Q : State → Prop} {D : va_G} {ids : Nat → ClassId} {n0 b L a0 a11 a30 i9 : Nat} {xs : Nat → Int32} (MC : ro_C p s m args meth c cL_law 7 "FrostCalendarLaw" D ids n0) (HS : va_S (fun q => n0 ≤ q) s.heap H locs) (hw : bw D ids n0 a0 a11 a30 H) (hscr : va_X b L xs s s.heap) (hb0 : b < n0) (hL : L ≤ 3072) (hi : i9 + 6 ≤ L) (hR : 10 ≤ R.frames ∧ 310 ≤ R.locals) (hcl : cells + 8 ≤ R.cells) (hsl : slots + 48 ≤ R.slots) {ls : Array Slot} (hl : lv_has ls 7 [(0, .ref b), (1, .ref a0), (2, .ref a11), (3, .ref a30), (4, .int (nI i9))]) {x : Int32}
    (kk : ∀ (c9 s9 : Nat) (H1 : Heap) (locs1 : List Loc) (ls1 : Array Slot), c9 ≤ cells + 8 → s9 ≤ slots + 48 → bw D ids n0 a0 a11 a30 H1 → va_S (fun q => n0 ≤ q) s.heap H1 locs1 → lv_has ls1 7 [(0, .ref b), (1, .ref a0), (2, .ref a11), (3, .ref a30), (4, .int (nI i9))] → W p l e R s m args below meth c H1 locs1 c9 s9 Q (F0 m 1760 ls1 [])) : W p l e R s m args below meth c H locs cells slots Q (F0 m 40 ls [.int (x &&& 31)]) := by
  have hx := MC.1.1
  have hb := MC.1.2.1
  obtain ⟨k, hk, hxk⟩ : ∃ k, k < 32 ∧ x &&& 31 = nI k := ⟨x.toBitVec.toNat % 2 ^ 5, Nat.mod_lt _ (by decide), pk_and x 5 rfl⟩
  rw [hxk]
  have k8 := fun H1 locs1 ls1 => kk (cells + 8) (slots + 48) H1 locs1 ls1 (Nat.le_refl _) (Nat.le_refl _)
  rcases (by omega : k = 0 ∨ k = 1 ∨ k = 2 ∨ k = 3 ∨ k = 4 ∨ k = 5 ∨ k = 6 ∨ k = 7 ∨ k = 8 ∨ k = 9 ∨ k = 10 ∨ k = 11 ∨ k = 12 ∨ k = 13 ∨ k = 14 ∨ k = 15 ∨ k = 16 ∨ k = 17 ∨ k = 18 ∨ k = 19 ∨ k = 20 ∨ k = 21 ∨ k = 22 ∨ k = 23 ∨ k = 24 ∨ k = 25 ∨ k = 26 ∨ k = 27 ∨ k = 28 ∨ k = 29 ∨ k = 30 ∨ k = 31) with rfl | rfl | rfl | rfl | rfl | rfl | rfl | rfl | rfl | rfl | rfl | rfl | rfl | rfl | rfl | rfl | rfl | rfl | rfl | rfl | rfl | rfl | rfl | rfl | rfl | rfl | rfl | rfl | rfl | rfl | rfl | rfl
  · refine lv_tableIn (off := 116) (tgt := 156) hx hb dL_law_40 (by decide) (by decide) rfl (by decide) ?_
    exact l_scope hl9 MC HS hw hscr hb0 hL hi hR hcl hsl hl k8
  · refine lv_tableIn (off := 172) (tgt := 212) hx hb dL_law_40 (by decide) (by decide) rfl (by decide) ?_
    exact l_offset hl9 MC HS hw hscr hb0 hL hi hR hcl hsl hl k8
  · refine lv_tableIn (off := 240) (tgt := 280) hx hb dL_law_40 (by decide) (by decide) rfl (by decide) ?_
    exact l_feast hl9 MC HS hw hscr hb0 hL hi hR hcl hsl hl k8
  · refine lv_tableIn (off := 315) (tgt := 355) hx hb dL_law_40 (by decide) (by decide) rfl (by decide) ?_
    exact l_pass hl9 MC HS hw hscr hb0 hL hi hR hcl hsl hl k8
  · refine lv_tableIn (off := 371) (tgt := 411) hx hb dL_law_40 (by decide) (by decide) rfl (by decide) ?_
    exact l_now MC HS hw hR (by omega) (by omega) hl (fun H1 locs1 ls1 => kk cells slots H1 locs1 ls1 (by omega) (by omega))
  · refine lv_tableIn (off := 384) (tgt := 424) hx hb dL_law_40 (by decide) (by decide) rfl (by decide) ?_
    exact l_once hl9 MC HS hw hscr hb0 hL hi hR hcl hsl hl k8
  · refine lv_tableIn (off := 476) (tgt := 516) hx hb dL_law_40 (by decide) (by decide) rfl (by decide) ?_
    exact l_daily hl9 MC HS hw hscr hb0 hL hi hR hcl hsl hl k8
  · refine lv_tableIn (off := 580) (tgt := 620) hx hb dL_law_40 (by decide) (by decide) rfl (by decide) ?_
    exact l_feasts hl9 MC HS hw hscr hb0 hL hi hR hcl hsl hl k8
  · refine lv_tableIn (off := 660) (tgt := 700) hx hb dL_law_40 (by decide) (by decide) rfl (by decide) ?_
    exact l_lift hl9 MC HS hw hscr hb0 hL hi hR hcl hsl hl k8
  · refine lv_tableIn (off := 716) (tgt := 756) hx hb dL_law_40 (by decide) (by decide) rfl (by decide) ?_
    exact l_holding hl9 MC HS hw hscr hb0 hL hi hR hcl hsl hl k8
  · refine lv_tableIn (off := 784) (tgt := 824) hx hb dL_law_40 (by decide) (by decide) rfl (by decide) ?_
    exact l_hours hl9 MC HS hw hscr hb0 hL hi hR hcl hsl hl k8
  · refine lv_tableIn (off := 840) (tgt := 880) hx hb dL_law_40 (by decide) (by decide) rfl (by decide) ?_
    exact l_nextSpan hl9 MC HS hw hscr hb0 hL hi hR hcl hsl hl k8
  · refine lv_tableIn (off := 920) (tgt := 960) hx hb dL_law_40 (by decide) (by decide) rfl (by decide) ?_
    exact l_plan hl9 MC HS hw hscr hb0 hL hi hR hcl hsl hl k8
  · refine lv_tableIn (off := 1012) (tgt := 1052) hx hb dL_law_40 (by decide) (by decide) rfl (by decide) ?_
    exact l_move hl9 MC HS hw hscr hb0 hL hi hR hcl hsl hl k8
  · refine lv_tableIn (off := 1080) (tgt := 1120) hx hb dL_law_40 (by decide) (by decide) rfl (by decide) ?_
    exact l_approve hl9 MC HS hw hscr hb0 hL hi hR hcl hsl hl k8
  · refine lv_tableIn (off := 1136) (tgt := 1176) hx hb dL_law_40 (by decide) (by decide) rfl (by decide) ?_
    exact l_begin hl9 MC HS hw hscr hb0 hL hi hR hcl hsl hl k8
  · refine lv_tableIn (off := 1192) (tgt := 1232) hx hb dL_law_40 (by decide) (by decide) rfl (by decide) ?_
    exact l_state hl9 MC HS hw hscr hb0 hL hi hR hcl hsl hl k8
  · refine lv_tableIn (off := 1248) (tgt := 1288) hx hb dL_law_40 (by decide) (by decide) rfl (by decide) ?_
    exact l_approved hl9 MC HS hw hscr hb0 hL hi hR hcl hsl hl k8
  · refine lv_tableIn (off := 1304) (tgt := 1344) hx hb dL_law_40 (by decide) (by decide) rfl (by decide) ?_
    exact l_exceptions hl9 MC HS hw hscr hb0 hL hi hR hcl hsl hl k8
  · refine lv_tableIn (off := 1372) (tgt := 1412) hx hb dL_law_40 (by decide) (by decide) rfl (by decide) ?_
    exact l_left hl9 MC HS hw hscr hb0 hL hi hR hcl hsl hl k8
  · refine lv_tableIn (off := 1428) (tgt := 1468) hx hb dL_law_40 (by decide) (by decide) rfl (by decide) ?_
    exact l_excuse hl9 MC HS hw hscr hb0 hL hi hR hcl hsl hl k8
  · refine lv_tableIn (off := 1496) (tgt := 1536) hx hb dL_law_40 (by decide) (by decide) rfl (by decide) ?_
    exact l_badHours hl9 MC HS hw hscr hb0 hL hi hR hcl hsl hl k8
  · refine lv_tableIn (off := 1552) (tgt := 1592) hx hb dL_law_40 (by decide) (by decide) rfl (by decide) ?_
    exact l_badHoursOneByOne hl9 MC HS hw hscr hb0 hL hi hR hcl hsl hl k8
  · refine lv_tableIn (off := 1608) (tgt := 1648) hx hb dL_law_40 (by decide) (by decide) rfl (by decide) ?_
    exact l_firstBad hl9 MC HS hw hscr hb0 hL hi hR hcl hsl hl k8
  · refine lv_tableIn (off := 1664) (tgt := 1704) hx hb dL_law_40 (by decide) (by decide) rfl (by decide) ?_
    exact l_reasons hl9 MC HS hw hscr hb0 hL hi hR hcl hsl hl k8
  · refine lv_tableOut (tgt := 1760) hx hb dL_law_40 (Or.inr (by decide)) (by decide) ?_
    exact kk cells slots _ _ ls (by omega) (by omega) hw HS hl
  · refine lv_tableOut (tgt := 1760) hx hb dL_law_40 (Or.inr (by decide)) (by decide) ?_
    exact kk cells slots _ _ ls (by omega) (by omega) hw HS hl
  · refine lv_tableOut (tgt := 1760) hx hb dL_law_40 (Or.inr (by decide)) (by decide) ?_
    exact kk cells slots _ _ ls (by omega) (by omega) hw HS hl
  · refine lv_tableOut (tgt := 1760) hx hb dL_law_40 (Or.inr (by decide)) (by decide) ?_
    exact kk cells slots _ _ ls (by omega) (by omega) hw HS hl
  · refine lv_tableOut (tgt := 1760) hx hb dL_law_40 (Or.inr (by decide)) (by decide) ?_
    exact kk cells slots _ _ ls (by omega) (by omega) hw HS hl
  · refine lv_tableOut (tgt := 1760) hx hb dL_law_40 (Or.inr (by decide)) (by decide) ?_
    exact kk cells slots _ _ ls (by omega) (by omega) hw HS hl
  · refine lv_tableOut (tgt := 1760) hx hb dL_law_40 (Or.inr (by decide)) (by decide) ?_
    exact kk cells slots _ _ ls (by omega) (by omega) hw HS hl
