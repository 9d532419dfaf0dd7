theorem lg_self (x : Int64) : lg_cmp x x = 0 := by
  unfold lg_cmp
  simp
theorem Iv.mv {τ : Tau} {nw ns nl nc nw1 ns1 nl1 nc1 : Nat} {c f : Int32} (hI : Iv τ nw ns nl nc) (h1 : Iv (if th_move τ c f = 0 then nx_move τ c f else τ) nw1 ns1 nl1 nc1) : th_move τ c f = 0 → Iv (nx_move τ c f) nw ns nl nc := by
  intro h
  rw [if_pos h] at h1
  have e1 : nw1 = nw := (nI_eq (by have := h1.1.2; omega) (by have := hI.1.2; omega)).mp (h1.1.1.symm.trans hI.1.1)
  have e2 : ns1 = ns := (nI_eq (by have := h1.2.1.2.2; omega) (by have := hI.2.1.2.2; omega)).mp (h1.2.1.1.symm.trans hI.2.1.1)
  have e3 : nl1 = nl := (nI_eq (by have := h1.2.2.1.2; omega) (by have := hI.2.2.1.2; omega)).mp (h1.2.2.1.1.symm.trans hI.2.2.1.1)
  have e4 : nc1 = nc := (nI_eq (by have := h1.2.2.2.1.2; omega) (by have := hI.2.2.2.1.2; omega)).mp (h1.2.2.2.1.1.symm.trans hI.2.2.2.1.1)
  subst e1 e2 e3 e4
  exact h1
theorem lw_99 : ro_LW "FrostCalendarLaw" 99 yL_scope cL_scope 4 (some FieldType.int) [(0, 9, 12, 13), (0, 9, 15, 15)] 3 := ⟨kw114, kw112, kw28, kw113, by decide +kernel, by decide +kernel, by decide +kernel⟩
theorem lw_109 : ro_LW "FrostCalendarLaw" 109 yL_offset cL_offset 5 (some FieldType.int) [(0, 10, 13, 13), (0, 10, 17, 21)] 4 := ⟨kw212, kw210, kw28, kw211, by decide +kernel, by decide +kernel, by decide +kernel⟩
theorem lw_113 : ro_LW "FrostCalendarLaw" 113 yL_feast cL_feast 5 (some FieldType.int) [(0, 17, 20, 13), (0, 17, 24, 21)] 4 := ⟨kw244, kw242, kw28, kw243, by decide +kernel, by decide +kernel, by decide +kernel⟩
theorem lw_116 : ro_LW "FrostCalendarLaw" 116 yL_pass cL_pass 4 (some FieldType.int) [(0, 9, 12, 21), (0, 9, 15, 15)] 3 := ⟨kw262, kw260, kw28, kw261, by decide +kernel, by decide +kernel, by decide +kernel⟩
theorem lw_123 : ro_LW "FrostCalendarLaw" 123 yL_once cL_once 7 (some FieldType.int) [(0, 14, 17, 13), (0, 14, 21, 21), (0, 14, 25, 15)] 6 := ⟨kw270, kw268, kw28, kw269, by decide +kernel, by decide +kernel, by decide +kernel⟩
theorem lw_127 : ro_LW "FrostCalendarLaw" 127 yL_daily cL_daily 8 (some FieldType.int) [(0, 16, 19, 13), (0, 16, 23, 21), (0, 16, 27, 15)] 7 := ⟨kw310, kw308, kw28, kw309, by decide +kernel, by decide +kernel, by decide +kernel⟩
theorem lw_131 : ro_LW "FrostCalendarLaw" 131 yL_feasts cL_feasts 6 (some FieldType.int) [(0, 12, 15, 13), (0, 12, 19, 21), (0, 12, 23, 15)] 5 := ⟨kw335, kw333, kw28, kw334, by decide +kernel, by decide +kernel, by decide +kernel⟩
theorem lw_135 : ro_LW "FrostCalendarLaw" 135 yL_lift cL_lift 4 (some FieldType.int) [(0, 9, 12, 45)] 3 := ⟨kw354, kw352, kw28, kw353, by decide +kernel, by decide +kernel, by decide +kernel⟩
theorem lw_138 : ro_LW "FrostCalendarLaw" 138 yL_holding cL_holding 5 (some FieldType.int) [(0, 10, 13, 13), (0, 10, 17, 21)] 4 := ⟨kw382, kw380, kw28, kw381, by decide +kernel, by decide +kernel, by decide +kernel⟩
theorem lw_141 : ro_LW "FrostCalendarLaw" 141 yL_hours cL_hours 4 (some FieldType.int) [(0, 9, 12, 45)] 3 := ⟨kw429, kw427, kw28, kw428, by decide +kernel, by decide +kernel, by decide +kernel⟩
theorem lw_144 : ro_LW "FrostCalendarLaw" 144 yL_nextSpan cL_nextSpan 6 (some FieldType.int) [(0, 12, 15, 13), (0, 12, 19, 21)] 5 := ⟨kw436, kw434, kw28, kw435, by decide +kernel, by decide +kernel, by decide +kernel⟩
theorem lw_147 : ro_LW "FrostCalendarLaw" 147 yL_plan cL_plan 7 (some FieldType.int) [(0, 14, 17, 13), (0, 14, 21, 21), (0, 14, 25, 15)] 6 := ⟨kw443, kw441, kw28, kw442, by decide +kernel, by decide +kernel, by decide +kernel⟩
theorem lw_150 : ro_LW "FrostCalendarLaw" 150 yL_move cL_move 5 (some FieldType.int) [(0, 10, 13, 13), (0, 10, 17, 21), (0, 10, 21, 15)] 4 := ⟨kw486, kw484, kw28, kw485, by decide +kernel, by decide +kernel, by decide +kernel⟩
theorem lw_153 : ro_LW "FrostCalendarLaw" 153 yL_approve cL_approve 4 (some FieldType.int) [(0, 9, 12, 13), (0, 9, 15, 15)] 3 := ⟨kw518, kw516, kw28, kw517, by decide +kernel, by decide +kernel, by decide +kernel⟩
theorem lw_156 : ro_LW "FrostCalendarLaw" 156 yL_begin cL_begin 4 (some FieldType.int) [(0, 9, 12, 13), (0, 9, 15, 15)] 3 := ⟨kw526, kw524, kw28, kw525, by decide +kernel, by decide +kernel, by decide +kernel⟩
theorem lw_159 : ro_LW "FrostCalendarLaw" 159 yL_state cL_state 4 (some FieldType.int) [(0, 9, 12, 13)] 3 := ⟨kw544, kw542, kw28, kw543, by decide +kernel, by decide +kernel, by decide +kernel⟩
theorem lw_162 : ro_LW "FrostCalendarLaw" 162 yL_approved cL_approved 4 (some FieldType.int) [(0, 9, 12, 13)] 3 := ⟨kw551, kw549, kw28, kw550, by decide +kernel, by decide +kernel, by decide +kernel⟩
theorem lw_165 : ro_LW "FrostCalendarLaw" 165 yL_exceptions cL_exceptions 5 (some FieldType.int) [(0, 10, 13, 21)] 4 := ⟨kw558, kw556, kw28, kw557, by decide +kernel, by decide +kernel, by decide +kernel⟩
theorem lw_168 : ro_LW "FrostCalendarLaw" 168 yL_left cL_left 4 (some FieldType.int) [(0, 9, 12, 21)] 3 := ⟨kw565, kw563, kw28, kw564, by decide +kernel, by decide +kernel, by decide +kernel⟩
theorem lw_171 : ro_LW "FrostCalendarLaw" 171 yL_excuse cL_excuse 5 (some FieldType.int) [(0, 10, 13, 13), (0, 10, 17, 45), (0, 10, 21, 15)] 4 := ⟨kw572, kw570, kw28, kw571, by decide +kernel, by decide +kernel, by decide +kernel⟩
theorem lw_174 : ro_LW "FrostCalendarLaw" 174 yL_badHours cL_badHours 4 (some FieldType.int) [(0, 9, 12, 13)] 3 := ⟨kw586, kw584, kw28, kw585, by decide +kernel, by decide +kernel, by decide +kernel⟩
theorem lw_177 : ro_LW "FrostCalendarLaw" 177 yL_badHoursOneByOne cL_badHoursOneByOne 4 (some FieldType.int) [(0, 9, 12, 13)] 3 := ⟨kw593, kw591, kw28, kw592, by decide +kernel, by decide +kernel, by decide +kernel⟩
theorem lw_180 : ro_LW "FrostCalendarLaw" 180 yL_firstBad cL_firstBad 4 (some FieldType.int) [(0, 9, 12, 13)] 3 := ⟨kw600, kw598, kw28, kw599, by decide +kernel, by decide +kernel, by decide +kernel⟩
theorem lw_183 : ro_LW "FrostCalendarLaw" 183 yL_reasons cL_reasons 4 (some FieldType.int) [(0, 9, 12, 13)] 3 := ⟨kw607, kw605, kw28, kw606, by decide +kernel, by decide +kernel, by decide +kernel⟩
set_option maxHeartbeats 4000000 in
set_option maxRecDepth 100000 in
theorem l_scope {p : Program} {l : Launch} (hl9 : l.stackTraces = false) {e : Env} {R : Room} {s : State} {m : MethodId} {args : Array Value} {below : List Frame} {meth : Method} {c : Code} {H : Heap} {locs : List Loc} {cells slots : Nat} {Q : State → Prop} {D : va_G} {ids : Nat → ClassId} {n0 b L a0 a11 a30 i9 : Nat} {xs : Nat → Int32} (MC : ro_C p s m args meth c cL_law 7 "FrostCalendarLaw" D ids n0) (HS : va_S (fun q => n0 ≤ q) s.heap H locs) (hw : bw D ids n0 a0 a11 a30 H) (hscr : va_X b L xs s s.heap) (hb0 : b < n0) (hL : L ≤ 3072) (hi : i9 + 6 ≤ L) (hR : 10 ≤ R.frames ∧ 310 ≤ R.locals) (hcl : cells + 8 ≤ R.cells) (hsl : slots + 48 ≤ R.slots) {ls : Array Slot} (hl : lv_has ls 7 [(0, .ref b), (1, .ref a0), (2, .ref a11), (3, .ref a30), (4, .int (nI i9))])
    (kk : ∀ (H1 : Heap) (locs1 : List Loc) (ls1 : Array Slot), bw D ids n0 a0 a11 a30 H1 → va_S (fun q => n0 ≤ q) s.heap H1 locs1 → lv_has ls1 7 [(0, .ref b), (1, .ref a0), (2, .ref a11), (3, .ref a30), (4, .int (nI i9))] → W p l e R s m args below meth c H1 locs1 (cells + 8) (slots + 48) Q (F0 m 1760 ls1 [])) : W p l e R s m args below meth c H locs cells slots Q (F0 m 156 ls []) := by
  have hx := MC.1.1
  have hb := MC.1.2.1
  obtain ⟨RR, ad, cn, τ, th0, nw, ns, nl, nc, out, hX, hI, hM, h30, rfl, rfl, rfl⟩ := hw
  refine lv_aload_n hx hb dL_law_156 rfl (lv_at hl 1 rfl) ?_
  refine lv_aload_n hx hb dL_law_157 rfl (lv_at hl 0 rfl) ?_
  refine lv_iload hx hb dL_law_158 (lv_at hl 4 rfl) ?_
  refine lv_iconst (v := 1) hx hb dL_law_160 (by decide) ?_
  refine lv_iadd hx hb dL_law_161 ?_
  refine ro_sld MC HS hscr hb0 (i9 + 1) (nI_add i9 1) (by omega) hL dL_law_162 ?_
  refine lv_aload_n hx hb dL_law_163 rfl (lv_at hl 3 rfl) ?_
  refine ro_callW MC HS (rest := []) (As := [.ref (ad 0), .int (xs (i9 + 1)), .ref (ad 30)]) (w_scope hl9 hX hI h30) lw_99 ⟨by show 9 + 1 ≤ R.frames; omega, by show 8 + (4 + 11) + 280 ≤ R.locals; omega⟩ hl.1 rfl (Nat.le_of_ble_eq_true rfl) dL_law_164 ⟨hcl, hsl⟩ (fun v9 H1 locs1 hp hz1 HS => ?_)
  obtain ⟨rfl, hp0, hp1⟩ := hp
  refine lv_istore (lv' := [(5, .int ((th_scope τ (xs (i9 + 1))))), (0, .ref b), (1, .ref (ad 0)), (2, .ref (ad 11)), (3, .ref (ad 30)), (4, .int (nI i9))]) hx hb dL_law_167 hl (by decide) rfl (fun ls hl => ?_)
  refine lv_aload_n hx hb dL_law_169 rfl (lv_at hl 3 rfl) ?_
  refine lv_aload_n hx hb dL_law_170 rfl (lv_at hl 1 rfl) ?_
  refine lv_iload hx hb dL_law_171 (lv_at hl 5 rfl) ?_
  refine lv_iconst (v := 1) hx hb dL_law_173 (by decide) ?_
  refine lv_iadd hx hb dL_law_174 ?_
  refine ro_sld MC HS hscr hb0 (i9 + 1) (nI_add i9 1) (by omega) hL dL_law_175 ?_
  obtain ⟨RR1, ad1, cn1, nw1, ns1, nl1, nc1, out1, hX1, hI1, had, hM1, h31, hout⟩ := wf_un hX hI hM h30 hp0 hp1
  have hm := m_scope (l := l) hM1 hI (xs (i9 + 1))
  rw [had 11 (by omega)] at hm
  have hrec1 := mo_recv MC hM1
  rw [had 11 (by omega)] at hrec1
  refine ro_callV MC HS (rest := []) (As := [.int (xs (i9 + 1))]) hm lkL_104 kw693 kw694 ⟨by show (_ : Nat) ≤ R.frames; exact Nat.le_trans (Nat.le_of_ble_eq_true rfl : _ ≤ 10) hR.1, by show (_ : Nat) ≤ R.locals; exact Nat.le_trans (Nat.le_of_ble_eq_true rfl : _ ≤ 310) hR.2⟩ hrec1 hl.1 rfl (Nat.le_of_ble_eq_true rfl) dL_law_176 ⟨by show cells + 8 + 0 ≤ R.cells; omega, by show slots + 48 + 0 ≤ R.slots; omega⟩ (fun v9 H2 locs2 hp hz2 HS => ?_)
  obtain ⟨rz, rfl, hM2, hrz⟩ := hp
  refine lv_istore (lv' := [(6, .int rz), (5, .int ((th_scope τ (xs (i9 + 1))))), (0, .ref b), (1, .ref (ad 0)), (2, .ref (ad 11)), (3, .ref (ad 30)), (4, .int (nI i9))]) hx hb dL_law_179 hl (by decide) rfl (fun ls hl => ?_)
  refine lv_aload_n hx hb dL_law_181 rfl (lv_at hl 4 rfl) ?_
  have ht := m_thrown (l := l) hM2
  rw [had 11 (by omega)] at ht
  have hrec2 := mo_recv MC hM2
  rw [had 11 (by omega)] at hrec2
  refine ro_callV MC HS (rest := []) (As := []) ht lkL_105 kw689 kw690 ⟨by show 0 + 1 ≤ R.frames; omega, by show 8 + (1 + 11) + 0 ≤ R.locals; omega⟩ hrec2 hl.1 rfl (Nat.le_of_ble_eq_true rfl) dL_law_182 ⟨by show cells + 8 + 0 + 0 ≤ R.cells; omega, by show slots + 48 + 0 + 0 ≤ R.slots; omega⟩ (fun v9 H3 locs3 hp hz3 HS => ?_)
  obtain ⟨rfl, rfl⟩ := hp
  refine lv_iload hx hb dL_law_185 (lv_at hl 1 rfl) ?_
  refine lv_icmp_eq (tgt := 192) hx hb dL_law_187 (by decide) (fun c_187 => ?_) (fun c_187 => absurd (rfl) c_187)
  refine lv_iload hx hb dL_law_192 (lv_at hl 1 rfl) ?_
  refine lv_if_ne (tgt := 209) hx hb dL_law_194 (by decide) (fun c_194 => ?_) (fun c_194 => ?_)
  · refine lv_goto (tgt := 1760) hx hb dL_law_209 (by decide) ?_
    exact kk _ _ ls (bw.of hX1 hI1 h31 hM2 (had 0 (by omega)) (had 11 (by omega)) (had 30 (by omega))) HS (lv_sub hl [2, 3, 4, 5, 6] rfl)
  · refine lv_aload_n hx hb dL_law_197 rfl (lv_at hl 5 rfl) ?_
    refine lv_iconst (v := 0) hx hb dL_law_198 (by decide) ?_
    obtain ⟨cn2, HP2, -, hfr2, hRR2⟩ := id hM2
    refine ro_laldE MC HP2 (had 30 (by omega)) (hRR2 30 (by omega)) ((hfr2 30 (by omega)).trans h31) (vp_in_nI (n := 0) (N := 1) (by omega) (by omega)) dL_law_199 ?_
    refine lv_iload hx hb dL_law_200 (lv_at hl 0 rfl) ?_
    refine lv_i2l hx hb dL_law_202 rfl ?_
    refine W.lcmp hx hb dL_law_203 ?_
    rw [show lg_cmp (out1 (Int32.toNatClampNeg 0)) ((rz).toInt64) = 0 by show lg_cmp (out1 0) _ = 0; rw [hout c_194, hrz c_194]; exact lg_self _]
    refine lv_if_eq (tgt := 209) hx hb dL_law_204 (by decide) (fun c_204 => ?_) (fun c_204 => absurd c_204 (by decide))
    refine lv_goto (tgt := 1760) hx hb dL_law_209 (by decide) ?_
    exact kk _ _ ls (bw.of hX1 hI1 h31 hM2 (had 0 (by omega)) (had 11 (by omega)) (had 30 (by omega))) HS (lv_sub hl [2, 3, 4, 5, 6] rfl)
set_option maxHeartbeats 4000000 in
set_option maxRecDepth 100000 in
theorem l_move {p : Program} {l : Launch} (hl9 : l.stackTraces = false) {e : Env} {R : Room} {s : State} {m : MethodId} {args : Array Value} {below : List Frame} {meth : Method} {c : Code} {H : Heap} {locs : List Loc} {cells slots : Nat} {Q : State → Prop} {D : va_G} {ids : Nat → ClassId} {n0 b L a0 a11 a30 i9 : Nat} {xs : Nat → Int32} (MC : ro_C p s m args meth c cL_law 7 "FrostCalendarLaw" D ids n0) (HS : va_S (fun q => n0 ≤ q) s.heap H locs) (hw : bw D ids n0 a0 a11 a30 H) (hscr : va_X b L xs s s.heap) (hb0 : b < n0) (hL : L ≤ 3072) (hi : i9 + 6 ≤ L) (hR : 10 ≤ R.frames ∧ 310 ≤ R.locals) (hcl : cells + 8 ≤ R.cells) (hsl : slots + 48 ≤ R.slots) {ls : Array Slot} (hl : lv_has ls 7 [(0, .ref b), (1, .ref a0), (2, .ref a11), (3, .ref a30), (4, .int (nI i9))])
    (kk : ∀ (H1 : Heap) (locs1 : List Loc) (ls1 : Array Slot), bw D ids n0 a0 a11 a30 H1 → va_S (fun q => n0 ≤ q) s.heap H1 locs1 → lv_has ls1 7 [(0, .ref b), (1, .ref a0), (2, .ref a11), (3, .ref a30), (4, .int (nI i9))] → W p l e R s m args below meth c H1 locs1 (cells + 8) (slots + 48) Q (F0 m 1760 ls1 [])) : W p l e R s m args below meth c H locs cells slots Q (F0 m 1052 ls []) := by
  have hx := MC.1.1
  have hb := MC.1.2.1
  obtain ⟨RR, ad, cn, τ, th0, nw, ns, nl, nc, out, hX, hI, hM, h30, rfl, rfl, rfl⟩ := hw
  refine lv_aload_n hx hb dL_law_1052 rfl (lv_at hl 1 rfl) ?_
  refine lv_aload_n hx hb dL_law_1053 rfl (lv_at hl 0 rfl) ?_
  refine lv_iload hx hb dL_law_1054 (lv_at hl 4 rfl) ?_
  refine lv_iconst (v := 1) hx hb dL_law_1056 (by decide) ?_
  refine lv_iadd hx hb dL_law_1057 ?_
  refine ro_sld MC HS hscr hb0 (i9 + 1) (nI_add i9 1) (by omega) hL dL_law_1058 ?_
  refine lv_aload_n hx hb dL_law_1059 rfl (lv_at hl 0 rfl) ?_
  refine lv_iload hx hb dL_law_1060 (lv_at hl 4 rfl) ?_
  refine lv_iconst (v := 2) hx hb dL_law_1062 (by decide) ?_
  refine lv_iadd hx hb dL_law_1063 ?_
  refine ro_sld MC HS hscr hb0 (i9 + 2) (nI_add i9 2) (by omega) hL dL_law_1064 ?_
  refine lv_aload_n hx hb dL_law_1065 rfl (lv_at hl 3 rfl) ?_
  refine ro_callW MC HS (rest := []) (As := [.ref (ad 0), .int (xs (i9 + 1)), .int (xs (i9 + 2)), .ref (ad 30)]) (w_move hl9 hX hI h30) lw_150 ⟨by show 9 + 1 ≤ R.frames; omega, by show 8 + (5 + 11) + 280 ≤ R.locals; omega⟩ hl.1 rfl (Nat.le_of_ble_eq_true rfl) dL_law_1066 ⟨hcl, hsl⟩ (fun v9 H1 locs1 hp hz1 HS => ?_)
  obtain ⟨rfl, hp0, hp1⟩ := hp
  refine lv_istore (lv' := [(5, .int ((th_move τ (xs (i9 + 1)) (xs (i9 + 2))))), (0, .ref b), (1, .ref (ad 0)), (2, .ref (ad 11)), (3, .ref (ad 30)), (4, .int (nI i9))]) hx hb dL_law_1069 hl (by decide) rfl (fun ls hl => ?_)
  refine lv_aload_n hx hb dL_law_1071 rfl (lv_at hl 3 rfl) ?_
  refine lv_aload_n hx hb dL_law_1072 rfl (lv_at hl 1 rfl) ?_
  refine lv_iload hx hb dL_law_1073 (lv_at hl 5 rfl) ?_
  refine lv_iconst (v := 1) hx hb dL_law_1075 (by decide) ?_
  refine lv_iadd hx hb dL_law_1076 ?_
  refine ro_sld MC HS hscr hb0 (i9 + 1) (nI_add i9 1) (by omega) hL dL_law_1077 ?_
  refine lv_aload_n hx hb dL_law_1078 rfl (lv_at hl 1 rfl) ?_
  refine lv_iload hx hb dL_law_1079 (lv_at hl 5 rfl) ?_
  refine lv_iconst (v := 2) hx hb dL_law_1081 (by decide) ?_
  refine lv_iadd hx hb dL_law_1082 ?_
  refine ro_sld MC HS hscr hb0 (i9 + 2) (nI_add i9 2) (by omega) hL dL_law_1083 ?_
  obtain ⟨RR1, ad1, cn1, nw1, ns1, nl1, nc1, out1, hX1, hI1, had, hM1, h31, hout⟩ := wf_un hX hI hM h30 hp0 hp1
  have hI2 := Iv.mv hI hI1
  have hm := m_move (l := l) hM1 hI (xs (i9 + 1)) (xs (i9 + 2)) hI2
  rw [had 11 (by omega)] at hm
  have hrec1 := mo_recv MC hM1
  rw [had 11 (by omega)] at hrec1
  refine ro_callV MC HS (rest := []) (As := [.int (xs (i9 + 1)), .int (xs (i9 + 2))]) hm lkL_152 kw783 kw784 ⟨by show (_ : Nat) ≤ R.frames; exact Nat.le_trans (Nat.le_of_ble_eq_true rfl : _ ≤ 10) hR.1, by show (_ : Nat) ≤ R.locals; exact Nat.le_trans (Nat.le_of_ble_eq_true rfl : _ ≤ 310) hR.2⟩ hrec1 hl.1 rfl (Nat.le_of_ble_eq_true rfl) dL_law_1084 ⟨by show cells + 8 + 0 ≤ R.cells; omega, by show slots + 48 + 0 ≤ R.slots; omega⟩ (fun v9 H2 locs2 hp hz2 HS => ?_)
  obtain ⟨rz, rfl, hM2, hrz⟩ := hp
  refine lv_istore (lv' := [(6, .int rz), (5, .int ((th_move τ (xs (i9 + 1)) (xs (i9 + 2))))), (0, .ref b), (1, .ref (ad 0)), (2, .ref (ad 11)), (3, .ref (ad 30)), (4, .int (nI i9))]) hx hb dL_law_1087 hl (by decide) rfl (fun ls hl => ?_)
  refine lv_aload_n hx hb dL_law_1089 rfl (lv_at hl 4 rfl) ?_
  have ht := m_thrown (l := l) hM2
  rw [had 11 (by omega)] at ht
  have hrec2 := mo_recv MC hM2
  rw [had 11 (by omega)] at hrec2
  refine ro_callV MC HS (rest := []) (As := []) ht lkL_105 kw689 kw690 ⟨by show 0 + 1 ≤ R.frames; omega, by show 8 + (1 + 11) + 0 ≤ R.locals; omega⟩ hrec2 hl.1 rfl (Nat.le_of_ble_eq_true rfl) dL_law_1090 ⟨by show cells + 8 + 0 + 0 ≤ R.cells; omega, by show slots + 48 + 0 + 0 ≤ R.slots; omega⟩ (fun v9 H3 locs3 hp hz3 HS => ?_)
  obtain ⟨rfl, rfl⟩ := hp
  refine lv_iload hx hb dL_law_1093 (lv_at hl 1 rfl) ?_
  refine lv_icmp_eq (tgt := 1100) hx hb dL_law_1095 (by decide) (fun c_1095 => ?_) (fun c_1095 => absurd (rfl) c_1095)
  refine lv_iload hx hb dL_law_1100 (lv_at hl 1 rfl) ?_
  refine lv_if_ne (tgt := 1117) hx hb dL_law_1102 (by decide) (fun c_1102 => ?_) (fun c_1102 => ?_)
  · refine lv_goto (tgt := 1760) hx hb dL_law_1117 (by decide) ?_
    exact kk _ _ ls (bw.of hX1 hI1 h31 hM2 (had 0 (by omega)) (had 11 (by omega)) (had 30 (by omega))) HS (lv_sub hl [2, 3, 4, 5, 6] rfl)
  · refine lv_aload_n hx hb dL_law_1105 rfl (lv_at hl 5 rfl) ?_
    refine lv_iconst (v := 0) hx hb dL_law_1106 (by decide) ?_
    obtain ⟨cn2, HP2, -, hfr2, hRR2⟩ := id hM2
    refine ro_laldE MC HP2 (had 30 (by omega)) (hRR2 30 (by omega)) ((hfr2 30 (by omega)).trans h31) (vp_in_nI (n := 0) (N := 1) (by omega) (by omega)) dL_law_1107 ?_
    refine lv_iload hx hb dL_law_1108 (lv_at hl 0 rfl) ?_
    refine lv_i2l hx hb dL_law_1110 rfl ?_
    refine W.lcmp hx hb dL_law_1111 ?_
    rw [show lg_cmp (out1 (Int32.toNatClampNeg 0)) ((rz).toInt64) = 0 by show lg_cmp (out1 0) _ = 0; rw [hout c_1102, hrz c_1102]; exact lg_self _]
    refine lv_if_eq (tgt := 1117) hx hb dL_law_1112 (by decide) (fun c_1112 => ?_) (fun c_1112 => absurd c_1112 (by decide))
    refine lv_goto (tgt := 1760) hx hb dL_law_1117 (by decide) ?_
    exact kk _ _ ls (bw.of hX1 hI1 h31 hM2 (had 0 (by omega)) (had 11 (by omega)) (had 30 (by omega))) HS (lv_sub hl [2, 3, 4, 5, 6] rfl)
set_option maxHeartbeats 4000000 in
set_option maxRecDepth 100000 in
theorem l_feast {p : Program} {l : Launch} (hl9 : l.stackTraces = false) {e : Env} {R : Room} {s : State} {m : MethodId} {args : Array Value} {below : List Frame} {meth : Method} {c : Code} {H : Heap} {locs : List Loc} {cells slots : Nat} {Q : State → Prop} {D : va_G} {ids : Nat → ClassId} {n0 b L a0 a11 a30 i9 : Nat} {xs : Nat → Int32} (MC : ro_C p s m args meth c cL_law 7 "FrostCalendarLaw" D ids n0) (HS : va_S (fun q => n0 ≤ q) s.heap H locs) (hw : bw D ids n0 a0 a11 a30 H) (hscr : va_X b L xs s s.heap) (hb0 : b < n0) (hL : L ≤ 3072) (hi : i9 + 6 ≤ L) (hR : 10 ≤ R.frames ∧ 310 ≤ R.locals) (hcl : cells + 8 ≤ R.cells) (hsl : slots + 48 ≤ R.slots) {ls : Array Slot} (hl : lv_has ls 7 [(0, .ref b), (1, .ref a0), (2, .ref a11), (3, .ref a30), (4, .int (nI i9))])
    (kk : ∀ (H1 : Heap) (locs1 : List Loc) (ls1 : Array Slot), bw D ids n0 a0 a11 a30 H1 → va_S (fun q => n0 ≤ q) s.heap H1 locs1 → lv_has ls1 7 [(0, .ref b), (1, .ref a0), (2, .ref a11), (3, .ref a30), (4, .int (nI i9))] → W p l e R s m args below meth c H1 locs1 (cells + 8) (slots + 48) Q (F0 m 1760 ls1 [])) : W p l e R s m args below meth c H locs cells slots Q (F0 m 280 ls []) := by
  have hx := MC.1.1
  have hb := MC.1.2.1
  obtain ⟨RR, ad, cn, τ, th0, nw, ns, nl, nc, out, hX, hI, hM, h30, rfl, rfl, rfl⟩ := hw
  refine lv_aload_n hx hb dL_law_280 rfl (lv_at hl 1 rfl) ?_
  refine lv_aload_n hx hb dL_law_281 rfl (lv_at hl 0 rfl) ?_
  refine lv_iload hx hb dL_law_282 (lv_at hl 4 rfl) ?_
  refine lv_iconst (v := 1) hx hb dL_law_284 (by decide) ?_
  refine lv_iadd hx hb dL_law_285 ?_
  refine ro_sld MC HS hscr hb0 (i9 + 1) (nI_add i9 1) (by omega) hL dL_law_286 ?_
  refine lv_aload_n hx hb dL_law_287 rfl (lv_at hl 0 rfl) ?_
  refine lv_iload hx hb dL_law_288 (lv_at hl 4 rfl) ?_
  refine lv_iconst (v := 2) hx hb dL_law_290 (by decide) ?_
  refine lv_iadd hx hb dL_law_291 ?_
  refine ro_sld MC HS hscr hb0 (i9 + 2) (nI_add i9 2) (by omega) hL dL_law_292 ?_
  refine lv_aload_n hx hb dL_law_293 rfl (lv_at hl 3 rfl) ?_
  refine ro_callW MC HS (rest := []) (As := [.ref (ad 0), .int (xs (i9 + 1)), .int (xs (i9 + 2)), .ref (ad 30)]) (w_feast hl9 hX hI h30) lw_113 ⟨by show 9 + 1 ≤ R.frames; omega, by show 8 + (5 + 11) + 280 ≤ R.locals; omega⟩ hl.1 rfl (Nat.le_of_ble_eq_true rfl) dL_law_294 ⟨hcl, hsl⟩ (fun v9 H1 locs1 hp hz1 HS => ?_)
  obtain ⟨rfl, hp0, hp1⟩ := hp
  refine lv_istore (lv' := [(5, .int ((th_feast τ (xs (i9 + 1)) (xs (i9 + 2))))), (0, .ref b), (1, .ref (ad 0)), (2, .ref (ad 11)), (3, .ref (ad 30)), (4, .int (nI i9))]) hx hb dL_law_297 hl (by decide) rfl (fun ls hl => ?_)
  refine lv_aload_n hx hb dL_law_299 rfl (lv_at hl 3 rfl) ?_
  refine lv_aload_n hx hb dL_law_300 rfl (lv_at hl 1 rfl) ?_
  refine lv_iload hx hb dL_law_301 (lv_at hl 5 rfl) ?_
  refine lv_iconst (v := 1) hx hb dL_law_303 (by decide) ?_
  refine lv_iadd hx hb dL_law_304 ?_
  refine ro_sld MC HS hscr hb0 (i9 + 1) (nI_add i9 1) (by omega) hL dL_law_305 ?_
  refine lv_aload_n hx hb dL_law_306 rfl (lv_at hl 1 rfl) ?_
  refine lv_iload hx hb dL_law_307 (lv_at hl 5 rfl) ?_
  refine lv_iconst (v := 2) hx hb dL_law_309 (by decide) ?_
  refine lv_iadd hx hb dL_law_310 ?_
  refine ro_sld MC HS hscr hb0 (i9 + 2) (nI_add i9 2) (by omega) hL dL_law_311 ?_
  obtain ⟨RR1, ad1, cn1, nw1, ns1, nl1, nc1, out1, hX1, hI1, had, hM1, h31, hout⟩ := wf_un hX hI hM h30 hp0 hp1
  have hm := m_feast (l := l) hM1 hI (xs (i9 + 1)) (xs (i9 + 2))
  rw [had 11 (by omega)] at hm
  have hrec1 := mo_recv MC hM1
  rw [had 11 (by omega)] at hrec1
  refine ro_callV MC HS (rest := []) (As := [.int (xs (i9 + 1)), .int (xs (i9 + 2))]) hm lkL_115 kw711 kw712 ⟨by show (_ : Nat) ≤ R.frames; exact Nat.le_trans (Nat.le_of_ble_eq_true rfl : _ ≤ 10) hR.1, by show (_ : Nat) ≤ R.locals; exact Nat.le_trans (Nat.le_of_ble_eq_true rfl : _ ≤ 310) hR.2⟩ hrec1 hl.1 rfl (Nat.le_of_ble_eq_true rfl) dL_law_312 ⟨by show cells + 8 + 0 ≤ R.cells; omega, by show slots + 48 + 0 ≤ R.slots; omega⟩ (fun v9 H2 locs2 hp hz2 HS => ?_)
  obtain ⟨rz, rfl, hM2, hrz⟩ := hp
  refine lv_istore (lv' := [(6, .int rz), (5, .int ((th_feast τ (xs (i9 + 1)) (xs (i9 + 2))))), (0, .ref b), (1, .ref (ad 0)), (2, .ref (ad 11)), (3, .ref (ad 30)), (4, .int (nI i9))]) hx hb dL_law_315 hl (by decide) rfl (fun ls hl => ?_)
  refine lv_aload_n hx hb dL_law_317 rfl (lv_at hl 4 rfl) ?_
  have ht := m_thrown (l := l) hM2
  rw [had 11 (by omega)] at ht
  have hrec2 := mo_recv MC hM2
  rw [had 11 (by omega)] at hrec2
  refine ro_callV MC HS (rest := []) (As := []) ht lkL_105 kw689 kw690 ⟨by show 0 + 1 ≤ R.frames; omega, by show 8 + (1 + 11) + 0 ≤ R.locals; omega⟩ hrec2 hl.1 rfl (Nat.le_of_ble_eq_true rfl) dL_law_318 ⟨by show cells + 8 + 0 + 0 ≤ R.cells; omega, by show slots + 48 + 0 + 0 ≤ R.slots; omega⟩ (fun v9 H3 locs3 hp hz3 HS => ?_)
  obtain ⟨rfl, rfl⟩ := hp
  refine lv_iload hx hb dL_law_321 (lv_at hl 1 rfl) ?_
  refine lv_icmp_eq (tgt := 328) hx hb dL_law_323 (by decide) (fun c_323 => ?_) (fun c_323 => absurd (rfl) c_323)
  refine lv_iload hx hb dL_law_328 (lv_at hl 1 rfl) ?_
  refine lv_if_ne (tgt := 352) hx hb dL_law_330 (by decide) (fun c_330 => ?_) (fun c_330 => ?_)
  · refine lv_goto (tgt := 1760) hx hb dL_law_352 (by decide) ?_
    exact kk _ _ ls (bw.of hX1 hI1 h31 hM2 (had 0 (by omega)) (had 11 (by omega)) (had 30 (by omega))) HS (lv_sub hl [2, 3, 4, 5, 6] rfl)
  · refine lv_aload_n hx hb dL_law_333 rfl (lv_at hl 5 rfl) ?_
    refine lv_iconst (v := 0) hx hb dL_law_334 (by decide) ?_
    obtain ⟨cn2, HP2, -, hfr2, hRR2⟩ := id hM2
    refine ro_laldE MC HP2 (had 30 (by omega)) (hRR2 30 (by omega)) ((hfr2 30 (by omega)).trans h31) (vp_in_nI (n := 0) (N := 1) (by omega) (by omega)) dL_law_335 ?_
    refine lv_iload hx hb dL_law_336 (lv_at hl 0 rfl) ?_
    refine lv_if_eq (tgt := 345) hx hb dL_law_338 (by decide) (fun c_338 => ?_) (fun c_338 => ?_)
    · refine lv_lconst (v := 0) hx hb dL_law_345 (by decide) ?_
      refine W.lcmp hx hb dL_law_346 ?_
      rw [show lg_cmp (out1 (Int32.toNatClampNeg 0)) ((0 : Int64)) = 0 by show lg_cmp (out1 0) _ = 0; rw [hout c_330, ← hrz c_330, c_338]; exact lg_self _]
      refine lv_if_eq (tgt := 352) hx hb dL_law_347 (by decide) (fun c_347 => ?_) (fun c_347 => absurd c_347 (by decide))
      refine lv_goto (tgt := 1760) hx hb dL_law_352 (by decide) ?_
      exact kk _ _ ls (bw.of hX1 hI1 h31 hM2 (had 0 (by omega)) (had 11 (by omega)) (had 30 (by omega))) HS (lv_sub hl [2, 3, 4, 5, 6] rfl)
    · refine lv_lconst (v := 1) hx hb dL_law_341 (by decide) ?_
      refine lv_goto (tgt := 346) hx hb dL_law_342 (by decide) ?_
      refine W.lcmp hx hb dL_law_346 ?_
      rw [show lg_cmp (out1 (Int32.toNatClampNeg 0)) ((1 : Int64)) = 0 by show lg_cmp (out1 0) _ = 0; rw [hout c_330, ← hrz c_330, show rz = 1 by rw [hrz c_330]; exact fe_one (by rw [← hrz c_330]; exact c_338)]; exact lg_self _]
      refine lv_if_eq (tgt := 352) hx hb dL_law_347 (by decide) (fun c_347 => ?_) (fun c_347 => absurd c_347 (by decide))
      refine lv_goto (tgt := 1760) hx hb dL_law_352 (by decide) ?_
      exact kk _ _ ls (bw.of hX1 hI1 h31 hM2 (had 0 (by omega)) (had 11 (by omega)) (had 30 (by omega))) HS (lv_sub hl [2, 3, 4, 5, 6] rfl)
set_option maxHeartbeats 4000000 in
set_option maxRecDepth 100000 in
theorem l_reasons {p : Program} {l : Launch} (hl9 : l.stackTraces = false) {e : Env} {R : Room} {s : State} {m : MethodId} {args : Array Value} {below : List Frame} {meth : Method} {c : Code} {H : Heap} {locs : List Loc} {cells slots : Nat} {Q : State → Prop} {D : va_G} {ids : Nat → ClassId} {n0 b L a0 a11 a30 i9 : Nat} {xs : Nat → Int32} (MC : ro_C p s m args meth c cL_law 7 "FrostCalendarLaw" D ids n0) (HS : va_S (fun q => n0 ≤ q) s.heap H locs) (hw : bw D ids n0 a0 a11 a30 H) (hscr : va_X b L xs s s.heap) (hb0 : b < n0) (hL : L ≤ 3072) (hi : i9 + 6 ≤ L) (hR : 10 ≤ R.frames ∧ 310 ≤ R.locals) (hcl : cells + 8 ≤ R.cells) (hsl : slots + 48 ≤ R.slots) {ls : Array Slot} (hl : lv_has ls 7 [(0, .ref b), (1, .ref a0), (2, .ref a11), (3, .ref a30), (4, .int (nI i9))])
    (kk : ∀ (H1 : Heap) (locs1 : List Loc) (ls1 : Array Slot), bw D ids n0 a0 a11 a30 H1 → va_S (fun q => n0 ≤ q) s.heap H1 locs1 → lv_has ls1 7 [(0, .ref b), (1, .ref a0), (2, .ref a11), (3, .ref a30), (4, .int (nI i9))] → W p l e R s m args below meth c H1 locs1 (cells + 8) (slots + 48) Q (F0 m 1760 ls1 [])) : W p l e R s m args below meth c H locs cells slots Q (F0 m 1704 ls []) := by
  have hx := MC.1.1
  have hb := MC.1.2.1
  obtain ⟨RR, ad, cn, τ, th0, nw, ns, nl, nc, out, hX, hI, hM, h30, rfl, rfl, rfl⟩ := hw
  refine lv_aload_n hx hb dL_law_1704 rfl (lv_at hl 1 rfl) ?_
  refine lv_aload_n hx hb dL_law_1705 rfl (lv_at hl 0 rfl) ?_
  refine lv_iload hx hb dL_law_1706 (lv_at hl 4 rfl) ?_
  refine lv_iconst (v := 1) hx hb dL_law_1708 (by decide) ?_
  refine lv_iadd hx hb dL_law_1709 ?_
  refine ro_sld MC HS hscr hb0 (i9 + 1) (nI_add i9 1) (by omega) hL dL_law_1710 ?_
  refine lv_aload_n hx hb dL_law_1711 rfl (lv_at hl 3 rfl) ?_
  refine ro_callW MC HS (rest := []) (As := [.ref (ad 0), .int (xs (i9 + 1)), .ref (ad 30)]) (w_reasons hl9 hX hI h30) lw_183 ⟨by show 9 + 1 ≤ R.frames; omega, by show 8 + (4 + 11) + 280 ≤ R.locals; omega⟩ hl.1 rfl (Nat.le_of_ble_eq_true rfl) dL_law_1712 ⟨hcl, hsl⟩ (fun v9 H1 locs1 hp hz1 HS => ?_)
  obtain ⟨rfl, hp0, hp1⟩ := hp
  refine lv_istore (lv' := [(5, .int ((th_badHours τ (xs (i9 + 1))))), (0, .ref b), (1, .ref (ad 0)), (2, .ref (ad 11)), (3, .ref (ad 30)), (4, .int (nI i9))]) hx hb dL_law_1715 hl (by decide) rfl (fun ls hl => ?_)
  refine lv_aload_n hx hb dL_law_1717 rfl (lv_at hl 3 rfl) ?_
  refine lv_aload_n hx hb dL_law_1718 rfl (lv_at hl 1 rfl) ?_
  refine lv_iload hx hb dL_law_1719 (lv_at hl 5 rfl) ?_
  refine lv_iconst (v := 1) hx hb dL_law_1721 (by decide) ?_
  refine lv_iadd hx hb dL_law_1722 ?_
  refine ro_sld MC HS hscr hb0 (i9 + 1) (nI_add i9 1) (by omega) hL dL_law_1723 ?_
  obtain ⟨RR1, ad1, cn1, nw1, ns1, nl1, nc1, out1, hX1, hI1, had, hM1, h31, hout⟩ := wf_un hX hI hM h30 hp0 hp1
  simp only [ite_self] at hX1 hI1
  have hm := m_reasons (l := l) hM1 hI (xs (i9 + 1))
  rw [had 11 (by omega)] at hm
  have hrec1 := mo_recv MC hM1
  rw [had 11 (by omega)] at hrec1
  refine ro_callV MC HS (rest := []) (As := [.int (xs (i9 + 1))]) hm lkL_185 kw844 kw845 ⟨by show (_ : Nat) ≤ R.frames; exact Nat.le_trans (Nat.le_of_ble_eq_true rfl : _ ≤ 10) hR.1, by show (_ : Nat) ≤ R.locals; exact Nat.le_trans (Nat.le_of_ble_eq_true rfl : _ ≤ 310) hR.2⟩ hrec1 hl.1 rfl (Nat.le_of_ble_eq_true rfl) dL_law_1724 ⟨by show cells + 8 + 0 ≤ R.cells; omega, by show slots + 48 + 0 ≤ R.slots; omega⟩ (fun v9 H2 locs2 hp hz2 HS => ?_)
  obtain ⟨rz, rfl, hM2, hrz⟩ := hp
  refine lv_istore (lv' := [(6, .int rz), (5, .int ((th_badHours τ (xs (i9 + 1))))), (0, .ref b), (1, .ref (ad 0)), (2, .ref (ad 11)), (3, .ref (ad 30)), (4, .int (nI i9))]) hx hb dL_law_1727 hl (by decide) rfl (fun ls hl => ?_)
  refine lv_aload_n hx hb dL_law_1729 rfl (lv_at hl 4 rfl) ?_
  have ht := m_thrown (l := l) hM2
  rw [had 11 (by omega)] at ht
  have hrec2 := mo_recv MC hM2
  rw [had 11 (by omega)] at hrec2
  refine ro_callV MC HS (rest := []) (As := []) ht lkL_105 kw689 kw690 ⟨by show 0 + 1 ≤ R.frames; omega, by show 8 + (1 + 11) + 0 ≤ R.locals; omega⟩ hrec2 hl.1 rfl (Nat.le_of_ble_eq_true rfl) dL_law_1730 ⟨by show cells + 8 + 0 + 0 ≤ R.cells; omega, by show slots + 48 + 0 + 0 ≤ R.slots; omega⟩ (fun v9 H3 locs3 hp hz3 HS => ?_)
  obtain ⟨rfl, rfl⟩ := hp
  refine lv_iload hx hb dL_law_1733 (lv_at hl 1 rfl) ?_
  refine lv_icmp_eq (tgt := 1740) hx hb dL_law_1735 (by decide) (fun c_1735 => ?_) (fun c_1735 => absurd (rfl) c_1735)
  refine lv_iload hx hb dL_law_1740 (lv_at hl 1 rfl) ?_
  refine lv_if_ne (tgt := 1757) hx hb dL_law_1742 (by decide) (fun c_1742 => ?_) (fun c_1742 => ?_)
  · refine lv_goto (tgt := 1760) hx hb dL_law_1757 (by decide) ?_
    exact kk _ _ ls (bw.of hX1 hI1 h31 hM2 (had 0 (by omega)) (had 11 (by omega)) (had 30 (by omega))) HS (lv_sub hl [2, 3, 4, 5, 6] rfl)
  · refine lv_aload_n hx hb dL_law_1745 rfl (lv_at hl 5 rfl) ?_
    refine lv_iconst (v := 0) hx hb dL_law_1746 (by decide) ?_
    obtain ⟨cn2, HP2, -, hfr2, hRR2⟩ := id hM2
    refine ro_laldE MC HP2 (had 30 (by omega)) (hRR2 30 (by omega)) ((hfr2 30 (by omega)).trans h31) (vp_in_nI (n := 0) (N := 1) (by omega) (by omega)) dL_law_1747 ?_
    refine lv_iload hx hb dL_law_1748 (lv_at hl 0 rfl) ?_
    refine lv_i2l hx hb dL_law_1750 rfl ?_
    refine W.lcmp hx hb dL_law_1751 ?_
    rw [show lg_cmp (out1 (Int32.toNatClampNeg 0)) ((rz).toInt64) = 0 by show lg_cmp (out1 0) _ = 0; rw [hout c_1742, hrz c_1742]; exact lg_self _]
    refine lv_if_eq (tgt := 1757) hx hb dL_law_1752 (by decide) (fun c_1752 => ?_) (fun c_1752 => absurd c_1752 (by decide))
    refine lv_goto (tgt := 1760) hx hb dL_law_1757 (by decide) ?_
    exact kk _ _ ls (bw.of hX1 hI1 h31 hM2 (had 0 (by omega)) (had 11 (by omega)) (had 30 (by omega))) HS (lv_sub hl [2, 3, 4, 5, 6] rfl)
