theorem lg_self (x : Int64) : lg_cmp x x = 0 := by
  unfold lg_cmp
  simp
theorem Iv.mv {τ : Tau} {nw ns nl nc nw1 ns1 nl1 nc1 : Nat} {c f : Int32} (hI : Iv τ nw ns nl nc) (h1 : Iv (if th_move τ c f = 0 then nx_move τ c f else τ) nw1 ns1 nl1 nc1) : th_move τ c f = 0 → Iv (nx_move τ c f) nw ns nl nc := by
  intro h
  rw [if_pos h] at h1
  have e1 : nw1 = nw := (nI_eq (by have := h1.1.2; omega) (by have := hI.1.2; omega)).mp (h1.1.1.symm.trans hI.1.1)
  have e2 : ns1 = ns := (nI_eq (by have := h1.2.1.2.2; omega) (by have := hI.2.1.2.2; omega)).mp (h1.2.1.1.symm.trans hI.2.1.1)
  have e3 : nl1 = nl := (nI_eq (by have := h1.2.2.1.2; omega) (by have := hI.2.2.1.2; omega)).mp (h1.2.2.1.1.symm.trans hI.2.2.1.1)
  have e4 : nc1 = nc := (nI_eq (by have := h1.2.2.2.1.2; omega) (by have := hI.2.2.2.1.2; omega)).mp (h1.2.2.2.1.1.symm.trans hI.2.2.2.1.1)
  subst e1 e2 e3 e4
  exact h1
theorem lw_99 : ro_LW "FrostCalendarLaw" 99 yL_scope cL_scope 4 (some FieldType.int) [(0, 9, 12, 13), (0, 9, 15, 15)] 3 := ⟨kw114, kw112, kw28, kw113, by decide +kernel, by decide +kernel, by decide +kernel⟩
theorem lw_109 : ro_LW "FrostCalendarLaw" 109 yL_offset cL_offset 5 (some FieldType.int) [(0, 10, 13, 13), (0, 10, 17, 21)] 4 := ⟨kw212, kw210, kw28, kw211, by decide +kernel, by decide +kernel, by decide +kernel⟩
theorem lw_113 : ro_LW "FrostCalendarLaw" 113 yL_feast cL_feast 5 (some FieldType.int) [(0, 17, 20, 13), (0, 17, 24, 21)] 4 := ⟨kw244, kw242, kw28, kw243, by decide +kernel, by decide +kernel, by decide +kernel⟩
theorem lw_116 : ro_LW "FrostCalendarLaw" 116 yL_pass cL_pass 4 (some FieldType.int) [(0, 9, 12, 21), (0, 9, 15, 15)] 3 := ⟨kw262, kw260, kw28, kw261, by decide +kernel, by decide +kernel, by decide +kernel⟩
theorem lw_123 : ro_LW "FrostCalendarLaw" 123 yL_once cL_once 7 (some FieldType.int) [(0, 14, 17, 13), (0, 14, 21, 21), (0, 14, 25, 15)] 6 := ⟨kw270, kw268, kw28, kw269, by decide +kernel, by decide +kernel, by decide +kernel⟩
theorem lw_127 : ro_LW "FrostCalendarLaw" 127 yL_daily cL_daily 8 (some FieldType.int) [(0, 16, 19, 13), (0, 16, 23, 21), (0, 16, 27, 15)] 7 := ⟨kw310, kw308, kw28, kw309, by decide +kernel, by decide +kernel, by decide +kernel⟩
theorem lw_131 : ro_LW "FrostCalendarLaw" 131 yL_feasts cL_feasts 6 (some FieldType.int) [(0, 12, 15, 13), (0, 12, 19, 21), (0, 12, 23, 15)] 5 := ⟨kw335, kw333, kw28, kw334, by decide +kernel, by decide +kernel, by decide +kernel⟩
theorem lw_135 : ro_LW "FrostCalendarLaw" 135 yL_lift cL_lift 4 (some FieldType.int) [(0, 9, 12, 45)] 3 := ⟨kw354, kw352, kw28, kw353, by decide +kernel, by decide +kernel, by decide +kernel⟩
theorem lw_138 : ro_LW "FrostCalendarLaw" 138 yL_holding cL_holding 5 (some FieldType.int) [(0, 10, 13, 13), (0, 10, 17, 21)] 4 := ⟨kw382, kw380, kw28, kw381, by decide +kernel, by decide +kernel, by decide +kernel⟩
theorem lw_141 : ro_LW "FrostCalendarLaw" 141 yL_hours cL_hours 4 (some FieldType.int) [(0, 9, 12, 45)] 3 := ⟨kw429, kw427, kw28, kw428, by decide +kernel, by decide +kernel, by decide +kernel⟩
theorem lw_144 : ro_LW "FrostCalendarLaw" 144 yL_nextSpan cL_nextSpan 6 (some FieldType.int) [(0, 12, 15, 13), (0, 12, 19, 21)] 5 := ⟨kw436, kw434, kw28, kw435, by decide +kernel, by decide +kernel, by decide +kernel⟩
theorem lw_147 : ro_LW "FrostCalendarLaw" 147 yL_plan cL_plan 7 (some FieldType.int) [(0, 14, 17, 13), (0, 14, 21, 21), (0, 14, 25, 15)] 6 := ⟨kw443, kw441, kw28, kw442, by decide +kernel, by decide +kernel, by decide +kernel⟩
theorem lw_150 : ro_LW "FrostCalendarLaw" 150 yL_move cL_move 5 (some FieldType.int) [(0, 10, 13, 13), (0, 10, 17, 21), (0, 10, 21, 15)] 4 := ⟨kw486, kw484, kw28, kw485, by decide +kernel, by decide +kernel, by decide +kernel⟩
theorem lw_153 : ro_LW "FrostCalendarLaw" 153 yL_approve cL_approve 4 (some FieldType.int) [(0, 9, 12, 13), (0, 9, 15, 15)] 3 := ⟨kw518, kw516, kw28, kw517, by decide +kernel, by decide +kernel, by decide +kernel⟩
theorem lw_156 : ro_LW "FrostCalendarLaw" 156 yL_begin cL_begin 4 (some FieldType.int) [(0, 9, 12, 13), (0, 9, 15, 15)] 3 := ⟨kw526, kw524, kw28, kw525, by decide +kernel, by decide +kernel, by decide +kernel⟩
theorem lw_159 : ro_LW "FrostCalendarLaw" 159 yL_state cL_state 4 (some FieldType.int) [(0, 9, 12, 13)] 3 := ⟨kw544, kw542, kw28, kw543, by decide +kernel, by decide +kernel, by decide +kernel⟩
theorem lw_162 : ro_LW "FrostCalendarLaw" 162 yL_approved cL_approved 4 (some FieldType.int) [(0, 9, 12, 13)] 3 := ⟨kw551, kw549, kw28, kw550, by decide +kernel, by decide +kernel, by decide +kernel⟩
theorem lw_165 : ro_LW "FrostCalendarLaw" 165 yL_exceptions cL_exceptions 5 (some FieldType.int) [(0, 10, 13, 21)] 4 := ⟨kw558, kw556, kw28, kw557, by decide +kernel, by decide +kernel, by decide +kernel⟩
theorem lw_168 : ro_LW "FrostCalendarLaw" 168 yL_left cL_left 4 (some FieldType.int) [(0, 9, 12, 21)] 3 := ⟨kw565, kw563, kw28, kw564, by decide +kernel, by decide +kernel, by decide +kernel⟩
theorem lw_171 : ro_LW "FrostCalendarLaw" 171 yL_excuse cL_excuse 5 (some FieldType.int) [(0, 10, 13, 13), (0, 10, 17, 45), (0, 10, 21, 15)] 4 := ⟨kw572, kw570, kw28, kw571, by decide +kernel, by decide +kernel, by decide +kernel⟩
theorem lw_174 : ro_LW "FrostCalendarLaw" 174 yL_badHours cL_badHours 4 (some FieldType.int) [(0, 9, 12, 13)] 3 := ⟨kw586, kw584, kw28, kw585, by decide +kernel, by decide +kernel, by decide +kernel⟩
theorem lw_177 : ro_LW "FrostCalendarLaw" 177 yL_badHoursOneByOne cL_badHoursOneByOne 4 (some FieldType.int) [(0, 9, 12, 13)] 3 := ⟨kw593, kw591, kw28, kw592, by decide +kernel, by decide +kernel, by decide +kernel⟩
theorem lw_180 : ro_LW "FrostCalendarLaw" 180 yL_firstBad cL_firstBad 4 (some FieldType.int) [(0, 9, 12, 13)] 3 := ⟨kw600, kw598, kw28, kw599, by decide +kernel, by decide +kernel, by decide +kernel⟩
theorem lw_183 : ro_LW "FrostCalendarLaw" 183 yL_reasons cL_reasons 4 (some FieldType.int) [(0, 9, 12, 13)] 3 := ⟨kw607, kw605, kw28, kw606, by decide +kernel, by decide +kernel, by decide +kernel⟩
set_option maxHeartbeats 4000000 in
set_option maxRecDepth 100000 in
theorem l_scope {p : Program} {l : Launch} (hl9 : l.stackTraces = false) {e : Env} {R : Room} {s : State} {m : MethodId} {args : Array Value} {below : List Frame} {meth : Method} {c : Code} {H : Heap} {locs : List Loc} {cells slots : Nat} {Q : State → Prop} {D : va_G} {ids : Nat → ClassId} {n0 b L a0 a11 a30 i9 : Nat} {xs : Nat → Int32} (MC : ro_C p s m args meth c cL_law 7 "FrostCalendarLaw" D ids n0) (HS : va_S (fun q => n0 ≤ q) s.heap H locs) (hw : bw D ids n0 a0 a11 a30 H) (hscr : va_X b L xs s s.heap) (hb0 : b < n0) (hL : L ≤ 3072) (hi : i9 + 6 ≤ L) (hR : 10 ≤ R.frames ∧ 310 ≤ R.locals) (hcl : cells + 8 ≤ R.cells) (hsl : slots + 48 ≤ R.slots) {ls : Array Slot} (hl : lv_has ls 7 [(0, .ref b), (1, .ref a0), (2, .ref a11), (3, .ref a30), (4, .int (nI i9))])
    (kk : ∀ (H1 : Heap) (locs1 : List Loc) (ls1 : Array Slot), bw D ids n0 a0 a11 a30 H1 → va_S (fun q => n0 ≤ q) s.heap H1 locs1 → lv_has ls1 7 [(0, .ref b), (1, .ref a0), (2, .ref a11), (3, .ref a30), (4, .int (nI i9))] → W p l e R s m args below meth c H1 locs1 (cells + 8) (slots + 48) Q (F0 m 1760 ls1 [])) : W p l e R s m args below meth c H locs cells slots Q (F0 m 156 ls []) := by
  have hx := MC.1.1
  have hb := MC.1.2.1
  obtain ⟨RR, ad, cn, τ, th0, nw, ns, nl, nc, out, hX, hI, hM, h30, rfl, rfl, rfl⟩ := hw
  refine lv_aload_n hx hb dL_law_156 rfl (lv_at hl 1 rfl) ?_
  refine lv_aload_n hx hb dL_law_157 rfl (lv_at hl 0 rfl) ?_
  refine lv_iload hx hb dL_law_158 (lv_at hl 4 rfl) ?_
  refine lv_iconst (v := 1) hx hb dL_law_160 (by decide) ?_
  refine lv_iadd hx hb dL_law_161 ?_
  refine ro_sld MC HS hscr hb0 (i9 + 1) (nI_add i9 1) (by omega) hL dL_law_162 ?_
  refine lv_aload_n hx hb dL_law_163 rfl (lv_at hl 3 rfl) ?_
  refine ro_callW MC HS (rest := []) (As := [.ref (ad 0), .int (xs (i9 + 1)), .ref (ad 30)]) (w_scope hl9 hX hI h30) lw_99 ⟨by show 9 + 1 ≤ R.frames; omega, by show 8 + (4 + 11) + 280 ≤ R.locals; omega⟩ hl.1 rfl (Nat.le_of_ble_eq_true rfl) dL_law_164 ⟨hcl, hsl⟩ (fun v9 H1 locs1 hp hz1 HS => ?_)
  obtain ⟨rfl, hp0, hp1⟩ := hp
  refine lv_istore (lv' := [(5, .int ((th_scope τ (xs (i9 + 1))))), (0, .ref b), (1, .ref (ad 0)), (2, .ref (ad 11)), (3, .ref (ad 30)), (4, .int (nI i9))]) hx hb dL_law_167 hl (by decide) rfl (fun ls hl => ?_)
  refine lv_aload_n hx hb dL_law_169 rfl (lv_at hl 3 rfl) ?_
  refine lv_aload_n hx hb dL_law_170 rfl (lv_at hl 1 rfl) ?_
  refine lv_iload hx hb dL_law_171 (lv_at hl 5 rfl) ?_
  refine lv_iconst (v := 1) hx hb dL_law_173 (by decide) ?_
  refine lv_iadd hx hb dL_law_174 ?_
  refine ro_sld MC HS hscr hb0 (i9 + 1) (nI_add i9 1) (by omega) hL dL_law_175 ?_
  obtain ⟨RR1, ad1, cn1, nw1, ns1, nl1, nc1, out1, hX1, hI1, had, hM1, h31, hout⟩ := wf_un hX hI hM h30 hp0 hp1
  have hm := m_scope (l := l) hM1 hI (xs (i9 + 1))
  rw [had 11 (by omega)] at hm
  have hrec1 := mo_recv MC hM1
  rw [had 11 (by omega)] at hrec1
  refine ro_callV MC HS (rest := []) (As := [.int (xs (i9 + 1))]) hm lkL_104 kw693 kw694 ⟨by show (_ : Nat) ≤ R.frames; exact Nat.le_trans (Nat.le_of_ble_eq_true rfl : _ ≤ 10) hR.1, by show (_ : Nat) ≤ R.locals; exact Nat.le_trans (Nat.le_of_ble_eq_true rfl : _ ≤ 310) hR.2⟩ hrec1 hl.1 rfl (Nat.le_of_ble_eq_true rfl) dL_law_176 ⟨by show cells + 8 + 0 ≤ R.cells; omega, by show slots + 48 + 0 ≤ R.slots; omega⟩ (fun v9 H2 locs2 hp hz2 HS => ?_)
  obtain ⟨rz, rfl, hM2, hrz⟩ := hp
  refine lv_istore (lv' := [(6, .int rz), (5, .int ((th_scope τ (xs (i9 + 1))))), (0, .ref b), (1, .ref (ad 0)), (2, .ref (ad 11)), (3, .ref (ad 30)), (4, .int (nI i9))]) hx hb dL_law_179 hl (by decide) rfl (fun ls hl => ?_)
  refine lv_aload_n hx hb dL_law_181 rfl (lv_at hl 4 rfl) ?_
  have ht := m_thrown (l := l) hM2
  rw [had 11 (by omega)] at ht
  have hrec2 := mo_recv MC hM2
  rw [had 11 (by omega)] at hrec2
  refine ro_callV MC HS (rest := []) (As := []) ht lkL_105 kw689 kw690 ⟨by show 0 + 1 ≤ R.frames; omega, by show 8 + (1 + 11) + 0 ≤ R.locals; omega⟩ hrec2 hl.1 rfl (Nat.le_of_ble_eq_true rfl) dL_law_182 ⟨by show cells + 8 + 0 + 0 ≤ R.cells; omega, by show slots + 48 + 0 + 0 ≤ R.slots; omega⟩ (fun v9 H3 locs3 hp hz3 HS => ?_)
  obtain ⟨rfl, rfl⟩ := hp
  refine lv_iload hx hb dL_law_185 (lv_at hl 1 rfl) ?_
  refine lv_icmp_eq (tgt := 192) hx hb dL_law_187 (by decide) (fun c_187 => ?_) (fun c_187 => absurd (rfl) c_187)
  refine lv_iload hx hb dL_law_192 (lv_at hl 1 rfl) ?_
  refine lv_if_ne (tgt := 209) hx hb dL_law_194 (by decide) (fun c_194 => ?_) (fun c_194 => ?_)
  · refine lv_goto (tgt := 1760) hx hb dL_law_209 (by decide) ?_
    exact kk _ _ ls (bw.of hX1 hI1 h31 hM2 (had 0 (by omega)) (had 11 (by omega)) (had 30 (by omega))) HS (lv_sub hl [2, 3, 4, 5, 6] rfl)
  · refine lv_aload_n hx hb dL_law_197 rfl (lv_at hl 5 rfl) ?_
    refine lv_iconst (v := 0) hx hb dL_law_198 (by decide) ?_
    obtain ⟨cn2, HP2, -, hfr2, hRR2⟩ := id hM2
    refine ro_laldE MC HP2 (had 30 (by omega)) (hRR2 30 (by omega)) ((hfr2 30 (by omega)).trans h31) (vp_in_nI (n := 0) (N := 1) (by omega) (by omega)) dL_law_199 ?_
    refine lv_iload hx hb dL_law_200 (lv_at hl 0 rfl) ?_
    refine lv_i2l hx hb dL_law_202 rfl ?_
    refine W.lcmp hx hb dL_law_203 ?_
    rw [show lg_cmp (out1 (Int32.toNatClampNeg 0)) ((rz).toInt64) = 0 by show lg_cmp (out1 0) _ = 0; rw [hout c_194, hrz c_194]; exact lg_self _]
    refine lv_if_eq (tgt := 209) hx hb dL_law_204 (by decide) (fun c_204 => ?_) (fun c_204 => absurd c_204 (by decide))
    refine lv_goto (tgt := 1760) hx hb dL_law_209 (by decide) ?_
    exact kk _ _ ls (bw.of hX1 hI1 h31 hM2 (had 0 (by omega)) (had 11 (by omega)) (had 30 (by omega))) HS (lv_sub hl [2, 3, 4, 5, 6] rfl)
set_option maxHeartbeats 4000000 in
set_option maxRecDepth 100000 in
theorem l_offset {p : Program} {l : Launch} (hl9 : l.stackTraces = false) {e : Env} {R : Room} {s : State} {m : MethodId} {args : Array Value} {below : List Frame} {meth : Method} {c : Code} {H : Heap} {locs : List Loc} {cells slots : Nat} {Q : State → Prop} {D : va_G} {ids : Nat → ClassId} {n0 b L a0 a11 a30 i9 : Nat} {xs : Nat → Int32} (MC : ro_C p s m args meth c cL_law 7 "FrostCalendarLaw" D ids n0) (HS : va_S (fun q => n0 ≤ q) s.heap H locs) (hw : bw D ids n0 a0 a11 a30 H) (hscr : va_X b L xs s s.heap) (hb0 : b < n0) (hL : L ≤ 3072) (hi : i9 + 6 ≤ L) (hR : 10 ≤ R.frames ∧ 310 ≤ R.locals) (hcl : cells + 8 ≤ R.cells) (hsl : slots + 48 ≤ R.slots) {ls : Array Slot} (hl : lv_has ls 7 [(0, .ref b), (1, .ref a0), (2, .ref a11), (3, .ref a30), (4, .int (nI i9))])
    (kk : ∀ (H1 : Heap) (locs1 : List Loc) (ls1 : Array Slot), bw D ids n0 a0 a11 a30 H1 → va_S (fun q => n0 ≤ q) s.heap H1 locs1 → lv_has ls1 7 [(0, .ref b), (1, .ref a0), (2, .ref a11), (3, .ref a30), (4, .int (nI i9))] → W p l e R s m args below meth c H1 locs1 (cells + 8) (slots + 48) Q (F0 m 1760 ls1 [])) : W p l e R s m args below meth c H locs cells slots Q (F0 m 212 ls []) := by
  have hx := MC.1.1
  have hb := MC.1.2.1
  obtain ⟨RR, ad, cn, τ, th0, nw, ns, nl, nc, out, hX, hI, hM, h30, rfl, rfl, rfl⟩ := hw
  refine lv_aload_n hx hb dL_law_212 rfl (lv_at hl 1 rfl) ?_
  refine lv_aload_n hx hb dL_law_213 rfl (lv_at hl 0 rfl) ?_
  refine lv_iload hx hb dL_law_214 (lv_at hl 4 rfl) ?_
  refine lv_iconst (v := 1) hx hb dL_law_216 (by decide) ?_
  refine lv_iadd hx hb dL_law_217 ?_
  refine ro_sld MC HS hscr hb0 (i9 + 1) (nI_add i9 1) (by omega) hL dL_law_218 ?_
  refine lv_aload_n hx hb dL_law_219 rfl (lv_at hl 0 rfl) ?_
  refine lv_iload hx hb dL_law_220 (lv_at hl 4 rfl) ?_
  refine lv_iconst (v := 2) hx hb dL_law_222 (by decide) ?_
  refine lv_iadd hx hb dL_law_223 ?_
  refine ro_sld MC HS hscr hb0 (i9 + 2) (nI_add i9 2) (by omega) hL dL_law_224 ?_
  refine lv_aload_n hx hb dL_law_225 rfl (lv_at hl 3 rfl) ?_
  refine ro_callW MC HS (rest := []) (As := [.ref (ad 0), .int (xs (i9 + 1)), .int (xs (i9 + 2)), .ref (ad 30)]) (w_offset hl9 hX hI h30) lw_109 ⟨by show 9 + 1 ≤ R.frames; omega, by show 8 + (5 + 11) + 280 ≤ R.locals; omega⟩ hl.1 rfl (Nat.le_of_ble_eq_true rfl) dL_law_226 ⟨hcl, hsl⟩ (fun v9 H1 locs1 hp hz1 HS => ?_)
  obtain ⟨rfl, hp0, hp1⟩ := hp
  refine lv_istore (lv' := [(5, .int ((th_offset τ (xs (i9 + 1)) (xs (i9 + 2))))), (0, .ref b), (1, .ref (ad 0)), (2, .ref (ad 11)), (3, .ref (ad 30)), (4, .int (nI i9))]) hx hb dL_law_229 hl (by decide) rfl (fun ls hl => ?_)
  refine lv_aload_n hx hb dL_law_231 rfl (lv_at hl 3 rfl) ?_
  refine lv_aload_n hx hb dL_law_232 rfl (lv_at hl 1 rfl) ?_
  refine lv_iload hx hb dL_law_233 (lv_at hl 5 rfl) ?_
  refine lv_iconst (v := 1) hx hb dL_law_235 (by decide) ?_
  refine lv_iadd hx hb dL_law_236 ?_
  refine ro_sld MC HS hscr hb0 (i9 + 1) (nI_add i9 1) (by omega) hL dL_law_237 ?_
  refine lv_aload_n hx hb dL_law_238 rfl (lv_at hl 1 rfl) ?_
  refine lv_iload hx hb dL_law_239 (lv_at hl 5 rfl) ?_
  refine lv_iconst (v := 2) hx hb dL_law_241 (by decide) ?_
  refine lv_iadd hx hb dL_law_242 ?_
  refine ro_sld MC HS hscr hb0 (i9 + 2) (nI_add i9 2) (by omega) hL dL_law_243 ?_
  obtain ⟨RR1, ad1, cn1, nw1, ns1, nl1, nc1, out1, hX1, hI1, had, hM1, h31, hout⟩ := wf_un hX hI hM h30 hp0 hp1
  have hm := m_offset (l := l) hM1 hI (xs (i9 + 1)) (xs (i9 + 2))
  rw [had 11 (by omega)] at hm
  have hrec1 := mo_recv MC hM1
  rw [had 11 (by omega)] at hrec1
  refine ro_callV MC HS (rest := []) (As := [.int (xs (i9 + 1)), .int (xs (i9 + 2))]) hm lkL_112 kw704 kw705 ⟨by show (_ : Nat) ≤ R.frames; exact Nat.le_trans (Nat.le_of_ble_eq_true rfl : _ ≤ 10) hR.1, by show (_ : Nat) ≤ R.locals; exact Nat.le_trans (Nat.le_of_ble_eq_true rfl : _ ≤ 310) hR.2⟩ hrec1 hl.1 rfl (Nat.le_of_ble_eq_true rfl) dL_law_244 ⟨by show cells + 8 + 0 ≤ R.cells; omega, by show slots + 48 + 0 ≤ R.slots; omega⟩ (fun v9 H2 locs2 hp hz2 HS => ?_)
  obtain ⟨rz, rfl, hM2, hrz⟩ := hp
  refine lv_istore (lv' := [(6, .int rz), (5, .int ((th_offset τ (xs (i9 + 1)) (xs (i9 + 2))))), (0, .ref b), (1, .ref (ad 0)), (2, .ref (ad 11)), (3, .ref (ad 30)), (4, .int (nI i9))]) hx hb dL_law_247 hl (by decide) rfl (fun ls hl => ?_)
  refine lv_aload_n hx hb dL_law_249 rfl (lv_at hl 4 rfl) ?_
  have ht := m_thrown (l := l) hM2
  rw [had 11 (by omega)] at ht
  have hrec2 := mo_recv MC hM2
  rw [had 11 (by omega)] at hrec2
  refine ro_callV MC HS (rest := []) (As := []) ht lkL_105 kw689 kw690 ⟨by show 0 + 1 ≤ R.frames; omega, by show 8 + (1 + 11) + 0 ≤ R.locals; omega⟩ hrec2 hl.1 rfl (Nat.le_of_ble_eq_true rfl) dL_law_250 ⟨by show cells + 8 + 0 + 0 ≤ R.cells; omega, by show slots + 48 + 0 + 0 ≤ R.slots; omega⟩ (fun v9 H3 locs3 hp hz3 HS => ?_)
  obtain ⟨rfl, rfl⟩ := hp
  refine lv_iload hx hb dL_law_253 (lv_at hl 1 rfl) ?_
  refine lv_icmp_eq (tgt := 260) hx hb dL_law_255 (by decide) (fun c_255 => ?_) (fun c_255 => absurd (rfl) c_255)
  refine lv_iload hx hb dL_law_260 (lv_at hl 1 rfl) ?_
  refine lv_if_ne (tgt := 277) hx hb dL_law_262 (by decide) (fun c_262 => ?_) (fun c_262 => ?_)
  · refine lv_goto (tgt := 1760) hx hb dL_law_277 (by decide) ?_
    exact kk _ _ ls (bw.of hX1 hI1 h31 hM2 (had 0 (by omega)) (had 11 (by omega)) (had 30 (by omega))) HS (lv_sub hl [2, 3, 4, 5, 6] rfl)
  · refine lv_aload_n hx hb dL_law_265 rfl (lv_at hl 5 rfl) ?_
    refine lv_iconst (v := 0) hx hb dL_law_266 (by decide) ?_
    obtain ⟨cn2, HP2, -, hfr2, hRR2⟩ := id hM2
    refine ro_laldE MC HP2 (had 30 (by omega)) (hRR2 30 (by omega)) ((hfr2 30 (by omega)).trans h31) (vp_in_nI (n := 0) (N := 1) (by omega) (by omega)) dL_law_267 ?_
    refine lv_iload hx hb dL_law_268 (lv_at hl 0 rfl) ?_
    refine lv_i2l hx hb dL_law_270 rfl ?_
    refine W.lcmp hx hb dL_law_271 ?_
    rw [show lg_cmp (out1 (Int32.toNatClampNeg 0)) ((rz).toInt64) = 0 by show lg_cmp (out1 0) _ = 0; rw [hout c_262, hrz c_262]; exact lg_self _]
    refine lv_if_eq (tgt := 277) hx hb dL_law_272 (by decide) (fun c_272 => ?_) (fun c_272 => absurd c_272 (by decide))
    refine lv_goto (tgt := 1760) hx hb dL_law_277 (by decide) ?_
    exact kk _ _ ls (bw.of hX1 hI1 h31 hM2 (had 0 (by omega)) (had 11 (by omega)) (had 30 (by omega))) HS (lv_sub hl [2, 3, 4, 5, 6] rfl)
set_option maxHeartbeats 4000000 in
set_option maxRecDepth 100000 in
theorem l_feast {p : Program} {l : Launch} (hl9 : l.stackTraces = false) {e : Env} {R : Room} {s : State} {m : MethodId} {args : Array Value} {below : List Frame} {meth : Method} {c : Code} {H : Heap} {locs : List Loc} {cells slots : Nat} {Q : State → Prop} {D : va_G} {ids : Nat → ClassId} {n0 b L a0 a11 a30 i9 : Nat} {xs : Nat → Int32} (MC : ro_C p s m args meth c cL_law 7 "FrostCalendarLaw" D ids n0) (HS : va_S (fun q => n0 ≤ q) s.heap H locs) (hw : bw D ids n0 a0 a11 a30 H) (hscr : va_X b L xs s s.heap) (hb0 : b < n0) (hL : L ≤ 3072) (hi : i9 + 6 ≤ L) (hR : 10 ≤ R.frames ∧ 310 ≤ R.locals) (hcl : cells + 8 ≤ R.cells) (hsl : slots + 48 ≤ R.slots) {ls : Array Slot} (hl : lv_has ls 7 [(0, .ref b), (1, .ref a0), (2, .ref a11), (3, .ref a30), (4, .int (nI i9))])
    (kk : ∀ (H1 : Heap) (locs1 : List Loc) (ls1 : Array Slot), bw D ids n0 a0 a11 a30 H1 → va_S (fun q => n0 ≤ q) s.heap H1 locs1 → lv_has ls1 7 [(0, .ref b), (1, .ref a0), (2, .ref a11), (3, .ref a30), (4, .int (nI i9))] → W p l e R s m args below meth c H1 locs1 (cells + 8) (slots + 48) Q (F0 m 1760 ls1 [])) : W p l e R s m args below meth c H locs cells slots Q (F0 m 280 ls []) := by
  have hx := MC.1.1
  have hb := MC.1.2.1
  obtain ⟨RR, ad, cn, τ, th0, nw, ns, nl, nc, out, hX, hI, hM, h30, rfl, rfl, rfl⟩ := hw
  refine lv_aload_n hx hb dL_law_280 rfl (lv_at hl 1 rfl) ?_
  refine lv_aload_n hx hb dL_law_281 rfl (lv_at hl 0 rfl) ?_
  refine lv_iload hx hb dL_law_282 (lv_at hl 4 rfl) ?_
  refine lv_iconst (v := 1) hx hb dL_law_284 (by decide) ?_
  refine lv_iadd hx hb dL_law_285 ?_
  refine ro_sld MC HS hscr hb0 (i9 + 1) (nI_add i9 1) (by omega) hL dL_law_286 ?_
  refine lv_aload_n hx hb dL_law_287 rfl (lv_at hl 0 rfl) ?_
  refine lv_iload hx hb dL_law_288 (lv_at hl 4 rfl) ?_
  refine lv_iconst (v := 2) hx hb dL_law_290 (by decide) ?_
  refine lv_iadd hx hb dL_law_291 ?_
  refine ro_sld MC HS hscr hb0 (i9 + 2) (nI_add i9 2) (by omega) hL dL_law_292 ?_
  refine lv_aload_n hx hb dL_law_293 rfl (lv_at hl 3 rfl) ?_
  refine ro_callW MC HS (rest := []) (As := [.ref (ad 0), .int (xs (i9 + 1)), .int (xs (i9 + 2)), .ref (ad 30)]) (w_feast hl9 hX hI h30) lw_113 ⟨by show 9 + 1 ≤ R.frames; omega, by show 8 + (5 + 11) + 280 ≤ R.locals; omega⟩ hl.1 rfl (Nat.le_of_ble_eq_true rfl) dL_law_294 ⟨hcl, hsl⟩ (fun v9 H1 locs1 hp hz1 HS => ?_)
  obtain ⟨rfl, hp0, hp1⟩ := hp
  refine lv_istore (lv' := [(5, .int ((th_feast τ (xs (i9 + 1)) (xs (i9 + 2))))), (0, .ref b), (1, .ref (ad 0)), (2, .ref (ad 11)), (3, .ref (ad 30)), (4, .int (nI i9))]) hx hb dL_law_297 hl (by decide) rfl (fun ls hl => ?_)
  refine lv_aload_n hx hb dL_law_299 rfl (lv_at hl 3 rfl) ?_
  refine lv_aload_n hx hb dL_law_300 rfl (lv_at hl 1 rfl) ?_
  refine lv_iload hx hb dL_law_301 (lv_at hl 5 rfl) ?_
  refine lv_iconst (v := 1) hx hb dL_law_303 (by decide) ?_
  refine lv_iadd hx hb dL_law_304 ?_
  refine ro_sld MC HS hscr hb0 (i9 + 1) (nI_add i9 1) (by omega) hL dL_law_305 ?_
  refine lv_aload_n hx hb dL_law_306 rfl (lv_at hl 1 rfl) ?_
  refine lv_iload hx hb dL_law_307 (lv_at hl 5 rfl) ?_
  refine lv_iconst (v := 2) hx hb dL_law_309 (by decide) ?_
  refine lv_iadd hx hb dL_law_310 ?_
  refine ro_sld MC HS hscr hb0 (i9 + 2) (nI_add i9 2) (by omega) hL dL_law_311 ?_
  obtain ⟨RR1, ad1, cn1, nw1, ns1, nl1, nc1, out1, hX1, hI1, had, hM1, h31, hout⟩ := wf_un hX hI hM h30 hp0 hp1
  have hm := m_feast (l := l) hM1 hI (xs (i9 + 1)) (xs (i9 + 2))
  rw [had 11 (by omega)] at hm
  have hrec1 := mo_recv MC hM1
  rw [had 11 (by omega)] at hrec1
  refine ro_callV MC HS (rest := []) (As := [.int (xs (i9 + 1)), .int (xs (i9 + 2))]) hm lkL_115 kw711 kw712 ⟨by show (_ : Nat) ≤ R.frames; exact Nat.le_trans (Nat.le_of_ble_eq_true rfl : _ ≤ 10) hR.1, by show (_ : Nat) ≤ R.locals; exact Nat.le_trans (Nat.le_of_ble_eq_true rfl : _ ≤ 310) hR.2⟩ hrec1 hl.1 rfl (Nat.le_of_ble_eq_true rfl) dL_law_312 ⟨by show cells + 8 + 0 ≤ R.cells; omega, by show slots + 48 + 0 ≤ R.slots; omega⟩ (fun v9 H2 locs2 hp hz2 HS => ?_)
  obtain ⟨rz, rfl, hM2, hrz⟩ := hp
  refine lv_istore (lv' := [(6, .int rz), (5, .int ((th_feast τ (xs (i9 + 1)) (xs (i9 + 2))))), (0, .ref b), (1, .ref (ad 0)), (2, .ref (ad 11)), (3, .ref (ad 30)), (4, .int (nI i9))]) hx hb dL_law_315 hl (by decide) rfl (fun ls hl => ?_)
  refine lv_aload_n hx hb dL_law_317 rfl (lv_at hl 4 rfl) ?_
  have ht := m_thrown (l := l) hM2
  rw [had 11 (by omega)] at ht
  have hrec2 := mo_recv MC hM2
  rw [had 11 (by omega)] at hrec2
  refine ro_callV MC HS (rest := []) (As := []) ht lkL_105 kw689 kw690 ⟨by show 0 + 1 ≤ R.frames; omega, by show 8 + (1 + 11) + 0 ≤ R.locals; omega⟩ hrec2 hl.1 rfl (Nat.le_of_ble_eq_true rfl) dL_law_318 ⟨by show cells + 8 + 0 + 0 ≤ R.cells; omega, by show slots + 48 + 0 + 0 ≤ R.slots; omega⟩ (fun v9 H3 locs3 hp hz3 HS => ?_)
  obtain ⟨rfl, rfl⟩ := hp
  refine lv_iload hx hb dL_law_321 (lv_at hl 1 rfl) ?_
  refine lv_icmp_eq (tgt := 328) hx hb dL_law_323 (by decide) (fun c_323 => ?_) (fun c_323 => absurd (rfl) c_323)
  refine lv_iload hx hb dL_law_328 (lv_at hl 1 rfl) ?_
  refine lv_if_ne (tgt := 352) hx hb dL_law_330 (by decide) (fun c_330 => ?_) (fun c_330 => ?_)
  · refine lv_goto (tgt := 1760) hx hb dL_law_352 (by decide) ?_
    exact kk _ _ ls (bw.of hX1 hI1 h31 hM2 (had 0 (by omega)) (had 11 (by omega)) (had 30 (by omega))) HS (lv_sub hl [2, 3, 4, 5, 6] rfl)
  · refine lv_aload_n hx hb dL_law_333 rfl (lv_at hl 5 rfl) ?_
    refine lv_iconst (v := 0) hx hb dL_law_334 (by decide) ?_
    obtain ⟨cn2, HP2, -, hfr2, hRR2⟩ := id hM2
    refine ro_laldE MC HP2 (had 30 (by omega)) (hRR2 30 (by omega)) ((hfr2 30 (by omega)).trans h31) (vp_in_nI (n := 0) (N := 1) (by omega) (by omega)) dL_law_335 ?_
    refine lv_iload hx hb dL_law_336 (lv_at hl 0 rfl) ?_
    refine lv_if_eq (tgt := 345) hx hb dL_law_338 (by decide) (fun c_338 => ?_) (fun c_338 => ?_)
    · refine lv_lconst (v := 0) hx hb dL_law_345 (by decide) ?_
      refine W.lcmp hx hb dL_law_346 ?_
      rw [show lg_cmp (out1 (Int32.toNatClampNeg 0)) ((0 : Int64)) = 0 by show lg_cmp (out1 0) _ = 0; rw [hout c_330, ← hrz c_330, c_338]; exact lg_self _]
      refine lv_if_eq (tgt := 352) hx hb dL_law_347 (by decide) (fun c_347 => ?_) (fun c_347 => absurd c_347 (by decide))
      refine lv_goto (tgt := 1760) hx hb dL_law_352 (by decide) ?_
      exact kk _ _ ls (bw.of hX1 hI1 h31 hM2 (had 0 (by omega)) (had 11 (by omega)) (had 30 (by omega))) HS (lv_sub hl [2, 3, 4, 5, 6] rfl)
    · refine lv_lconst (v := 1) hx hb dL_law_341 (by decide) ?_
      refine lv_goto (tgt := 346) hx hb dL_law_342 (by decide) ?_
      refine W.lcmp hx hb dL_law_346 ?_
      rw [show lg_cmp (out1 (Int32.toNatClampNeg 0)) ((1 : Int64)) = 0 by show lg_cmp (out1 0) _ = 0; rw [hout c_330, ← hrz c_330, show rz = 1 by rw [hrz c_330]; exact fe_one (by rw [← hrz c_330]; exact c_338)]; exact lg_self _]
      refine lv_if_eq (tgt := 352) hx hb dL_law_347 (by decide) (fun c_347 => ?_) (fun c_347 => absurd c_347 (by decide))
      refine lv_goto (tgt := 1760) hx hb dL_law_352 (by decide) ?_
      exact kk _ _ ls (bw.of hX1 hI1 h31 hM2 (had 0 (by omega)) (had 11 (by omega)) (had 30 (by omega))) HS (lv_sub hl [2, 3, 4, 5, 6] rfl)
set_option maxHeartbeats 4000000 in
set_option maxRecDepth 100000 in
theorem l_pass {p : Program} {l : Launch} (hl9 : l.stackTraces = false) {e : Env} {R : Room} {s : State} {m : MethodId} {args : Array Value} {below : List Frame} {meth : Method} {c : Code} {H : Heap} {locs : List Loc} {cells slots : Nat} {Q : State → Prop} {D : va_G} {ids : Nat → ClassId} {n0 b L a0 a11 a30 i9 : Nat} {xs : Nat → Int32} (MC : ro_C p s m args meth c cL_law 7 "FrostCalendarLaw" D ids n0) (HS : va_S (fun q => n0 ≤ q) s.heap H locs) (hw : bw D ids n0 a0 a11 a30 H) (hscr : va_X b L xs s s.heap) (hb0 : b < n0) (hL : L ≤ 3072) (hi : i9 + 6 ≤ L) (hR : 10 ≤ R.frames ∧ 310 ≤ R.locals) (hcl : cells + 8 ≤ R.cells) (hsl : slots + 48 ≤ R.slots) {ls : Array Slot} (hl : lv_has ls 7 [(0, .ref b), (1, .ref a0), (2, .ref a11), (3, .ref a30), (4, .int (nI i9))])
    (kk : ∀ (H1 : Heap) (locs1 : List Loc) (ls1 : Array Slot), bw D ids n0 a0 a11 a30 H1 → va_S (fun q => n0 ≤ q) s.heap H1 locs1 → lv_has ls1 7 [(0, .ref b), (1, .ref a0), (2, .ref a11), (3, .ref a30), (4, .int (nI i9))] → W p l e R s m args below meth c H1 locs1 (cells + 8) (slots + 48) Q (F0 m 1760 ls1 [])) : W p l e R s m args below meth c H locs cells slots Q (F0 m 355 ls []) := by
  have hx := MC.1.1
  have hb := MC.1.2.1
  obtain ⟨RR, ad, cn, τ, th0, nw, ns, nl, nc, out, hX, hI, hM, h30, rfl, rfl, rfl⟩ := hw
  refine lv_aload_n hx hb dL_law_355 rfl (lv_at hl 1 rfl) ?_
  refine lv_aload_n hx hb dL_law_356 rfl (lv_at hl 0 rfl) ?_
  refine lv_iload hx hb dL_law_357 (lv_at hl 4 rfl) ?_
  refine lv_iconst (v := 1) hx hb dL_law_359 (by decide) ?_
  refine lv_iadd hx hb dL_law_360 ?_
  refine ro_sld MC HS hscr hb0 (i9 + 1) (nI_add i9 1) (by omega) hL dL_law_361 ?_
  refine lv_aload_n hx hb dL_law_362 rfl (lv_at hl 3 rfl) ?_
  refine ro_callW MC HS (rest := []) (As := [.ref (ad 0), .int (xs (i9 + 1)), .ref (ad 30)]) (w_pass hl9 hX hI h30) lw_116 ⟨by show 9 + 1 ≤ R.frames; omega, by show 8 + (4 + 11) + 280 ≤ R.locals; omega⟩ hl.1 rfl (Nat.le_of_ble_eq_true rfl) dL_law_363 ⟨hcl, hsl⟩ (fun v9 H1 locs1 hp hz1 HS => ?_)
  obtain ⟨rfl, hp0, hp1⟩ := hp
  refine lv_istore (lv' := [(5, .int ((th_pass τ (xs (i9 + 1))))), (0, .ref b), (1, .ref (ad 0)), (2, .ref (ad 11)), (3, .ref (ad 30)), (4, .int (nI i9))]) hx hb dL_law_366 hl (by decide) rfl (fun ls hl => ?_)
  refine lv_aload_n hx hb dL_law_368 rfl (lv_at hl 3 rfl) ?_
  refine lv_aload_n hx hb dL_law_369 rfl (lv_at hl 1 rfl) ?_
  refine lv_iload hx hb dL_law_370 (lv_at hl 5 rfl) ?_
  refine lv_iconst (v := 1) hx hb dL_law_372 (by decide) ?_
  refine lv_iadd hx hb dL_law_373 ?_
  refine ro_sld MC HS hscr hb0 (i9 + 1) (nI_add i9 1) (by omega) hL dL_law_374 ?_
  obtain ⟨RR1, ad1, cn1, nw1, ns1, nl1, nc1, out1, hX1, hI1, had, hM1, h31, hout⟩ := wf_un hX hI hM h30 hp0 hp1
  have hm := m_pass (l := l) hM1 hI (xs (i9 + 1))
  rw [had 11 (by omega)] at hm
  have hrec1 := mo_recv MC hM1
  rw [had 11 (by omega)] at hrec1
  refine ro_callV MC HS (rest := []) (As := [.int (xs (i9 + 1))]) hm lkL_118 kw715 kw716 ⟨by show (_ : Nat) ≤ R.frames; exact Nat.le_trans (Nat.le_of_ble_eq_true rfl : _ ≤ 10) hR.1, by show (_ : Nat) ≤ R.locals; exact Nat.le_trans (Nat.le_of_ble_eq_true rfl : _ ≤ 310) hR.2⟩ hrec1 hl.1 rfl (Nat.le_of_ble_eq_true rfl) dL_law_375 ⟨by show cells + 8 + 0 ≤ R.cells; omega, by show slots + 48 + 0 ≤ R.slots; omega⟩ (fun v9 H2 locs2 hp hz2 HS => ?_)
  obtain ⟨rz, rfl, hM2, hrz⟩ := hp
  refine lv_istore (lv' := [(6, .int rz), (5, .int ((th_pass τ (xs (i9 + 1))))), (0, .ref b), (1, .ref (ad 0)), (2, .ref (ad 11)), (3, .ref (ad 30)), (4, .int (nI i9))]) hx hb dL_law_378 hl (by decide) rfl (fun ls hl => ?_)
  refine lv_aload_n hx hb dL_law_380 rfl (lv_at hl 4 rfl) ?_
  have ht := m_thrown (l := l) hM2
  rw [had 11 (by omega)] at ht
  have hrec2 := mo_recv MC hM2
  rw [had 11 (by omega)] at hrec2
  refine ro_callV MC HS (rest := []) (As := []) ht lkL_105 kw689 kw690 ⟨by show 0 + 1 ≤ R.frames; omega, by show 8 + (1 + 11) + 0 ≤ R.locals; omega⟩ hrec2 hl.1 rfl (Nat.le_of_ble_eq_true rfl) dL_law_381 ⟨by show cells + 8 + 0 + 0 ≤ R.cells; omega, by show slots + 48 + 0 + 0 ≤ R.slots; omega⟩ (fun v9 H3 locs3 hp hz3 HS => ?_)
  obtain ⟨rfl, rfl⟩ := hp
  refine lv_iload hx hb dL_law_384 (lv_at hl 1 rfl) ?_
  refine lv_icmp_eq (tgt := 391) hx hb dL_law_386 (by decide) (fun c_386 => ?_) (fun c_386 => absurd (rfl) c_386)
  refine lv_iload hx hb dL_law_391 (lv_at hl 1 rfl) ?_
  refine lv_if_ne (tgt := 408) hx hb dL_law_393 (by decide) (fun c_393 => ?_) (fun c_393 => ?_)
  · refine lv_goto (tgt := 1760) hx hb dL_law_408 (by decide) ?_
    exact kk _ _ ls (bw.of hX1 hI1 h31 hM2 (had 0 (by omega)) (had 11 (by omega)) (had 30 (by omega))) HS (lv_sub hl [2, 3, 4, 5, 6] rfl)
  · refine lv_aload_n hx hb dL_law_396 rfl (lv_at hl 5 rfl) ?_
    refine lv_iconst (v := 0) hx hb dL_law_397 (by decide) ?_
    obtain ⟨cn2, HP2, -, hfr2, hRR2⟩ := id hM2
    refine ro_laldE MC HP2 (had 30 (by omega)) (hRR2 30 (by omega)) ((hfr2 30 (by omega)).trans h31) (vp_in_nI (n := 0) (N := 1) (by omega) (by omega)) dL_law_398 ?_
    refine lv_iload hx hb dL_law_399 (lv_at hl 0 rfl) ?_
    refine lv_i2l hx hb dL_law_401 rfl ?_
    refine W.lcmp hx hb dL_law_402 ?_
    rw [show lg_cmp (out1 (Int32.toNatClampNeg 0)) ((rz).toInt64) = 0 by show lg_cmp (out1 0) _ = 0; rw [hout c_393, hrz c_393]; exact lg_self _]
    refine lv_if_eq (tgt := 408) hx hb dL_law_403 (by decide) (fun c_403 => ?_) (fun c_403 => absurd c_403 (by decide))
    refine lv_goto (tgt := 1760) hx hb dL_law_408 (by decide) ?_
    exact kk _ _ ls (bw.of hX1 hI1 h31 hM2 (had 0 (by omega)) (had 11 (by omega)) (had 30 (by omega))) HS (lv_sub hl [2, 3, 4, 5, 6] rfl)
set_option maxHeartbeats 4000000 in
set_option maxRecDepth 100000 in
theorem l_once {p : Program} {l : Launch} (hl9 : l.stackTraces = false) {e : Env} {R : Room} {s : State} {m : MethodId} {args : Array Value} {below : List Frame} {meth : Method} {c : Code} {H : Heap} {locs : List Loc} {cells slots : Nat} {Q : State → Prop} {D : va_G} {ids : Nat → ClassId} {n0 b L a0 a11 a30 i9 : Nat} {xs : Nat → Int32} (MC : ro_C p s m args meth c cL_law 7 "FrostCalendarLaw" D ids n0) (HS : va_S (fun q => n0 ≤ q) s.heap H locs) (hw : bw D ids n0 a0 a11 a30 H) (hscr : va_X b L xs s s.heap) (hb0 : b < n0) (hL : L ≤ 3072) (hi : i9 + 6 ≤ L) (hR : 10 ≤ R.frames ∧ 310 ≤ R.locals) (hcl : cells + 8 ≤ R.cells) (hsl : slots + 48 ≤ R.slots) {ls : Array Slot} (hl : lv_has ls 7 [(0, .ref b), (1, .ref a0), (2, .ref a11), (3, .ref a30), (4, .int (nI i9))])
    (kk : ∀ (H1 : Heap) (locs1 : List Loc) (ls1 : Array Slot), bw D ids n0 a0 a11 a30 H1 → va_S (fun q => n0 ≤ q) s.heap H1 locs1 → lv_has ls1 7 [(0, .ref b), (1, .ref a0), (2, .ref a11), (3, .ref a30), (4, .int (nI i9))] → W p l e R s m args below meth c H1 locs1 (cells + 8) (slots + 48) Q (F0 m 1760 ls1 [])) : W p l e R s m args below meth c H locs cells slots Q (F0 m 424 ls []) := by
  have hx := MC.1.1
  have hb := MC.1.2.1
  obtain ⟨RR, ad, cn, τ, th0, nw, ns, nl, nc, out, hX, hI, hM, h30, rfl, rfl, rfl⟩ := hw
  refine lv_aload_n hx hb dL_law_424 rfl (lv_at hl 1 rfl) ?_
  refine lv_aload_n hx hb dL_law_425 rfl (lv_at hl 0 rfl) ?_
  refine lv_iload hx hb dL_law_426 (lv_at hl 4 rfl) ?_
  refine lv_iconst (v := 1) hx hb dL_law_428 (by decide) ?_
  refine lv_iadd hx hb dL_law_429 ?_
  refine ro_sld MC HS hscr hb0 (i9 + 1) (nI_add i9 1) (by omega) hL dL_law_430 ?_
  refine lv_aload_n hx hb dL_law_431 rfl (lv_at hl 0 rfl) ?_
  refine lv_iload hx hb dL_law_432 (lv_at hl 4 rfl) ?_
  refine lv_iconst (v := 2) hx hb dL_law_434 (by decide) ?_
  refine lv_iadd hx hb dL_law_435 ?_
  refine ro_sld MC HS hscr hb0 (i9 + 2) (nI_add i9 2) (by omega) hL dL_law_436 ?_
  refine lv_aload_n hx hb dL_law_437 rfl (lv_at hl 0 rfl) ?_
  refine lv_iload hx hb dL_law_438 (lv_at hl 4 rfl) ?_
  refine lv_iconst (v := 3) hx hb dL_law_440 (by decide) ?_
  refine lv_iadd hx hb dL_law_441 ?_
  refine ro_sld MC HS hscr hb0 (i9 + 3) (nI_add i9 3) (by omega) hL dL_law_442 ?_
  refine lv_aload_n hx hb dL_law_443 rfl (lv_at hl 0 rfl) ?_
  refine lv_iload hx hb dL_law_444 (lv_at hl 4 rfl) ?_
  refine lv_iconst (v := 4) hx hb dL_law_446 (by decide) ?_
  refine lv_iadd hx hb dL_law_447 ?_
  refine ro_sld MC HS hscr hb0 (i9 + 4) (nI_add i9 4) (by omega) hL dL_law_448 ?_
  refine lv_aload_n hx hb dL_law_449 rfl (lv_at hl 3 rfl) ?_
  refine ro_callW MC HS (rest := []) (As := [.ref (ad 0), .int (xs (i9 + 1)), .int (xs (i9 + 2)), .int (xs (i9 + 3)), .int (xs (i9 + 4)), .ref (ad 30)]) (w_once hl9 hX hI h30) lw_123 ⟨by show 9 + 1 ≤ R.frames; omega, by show 8 + (7 + 11) + 280 ≤ R.locals; omega⟩ hl.1 rfl (Nat.le_of_ble_eq_true rfl) dL_law_450 ⟨hcl, hsl⟩ (fun v9 H1 locs1 hp hz1 HS => ?_)
  obtain ⟨rfl, hp0, hp1⟩ := hp
  refine lv_istore (lv' := [(5, .int ((th_once τ (xs (i9 + 1)) (xs (i9 + 2)) (xs (i9 + 3)) (xs (i9 + 4))))), (0, .ref b), (1, .ref (ad 0)), (2, .ref (ad 11)), (3, .ref (ad 30)), (4, .int (nI i9))]) hx hb dL_law_453 hl (by decide) rfl (fun ls hl => ?_)
  refine lv_aload_n hx hb dL_law_455 rfl (lv_at hl 3 rfl) ?_
  refine lv_aload_n hx hb dL_law_456 rfl (lv_at hl 1 rfl) ?_
  refine lv_iload hx hb dL_law_457 (lv_at hl 5 rfl) ?_
  refine lv_iconst (v := 1) hx hb dL_law_459 (by decide) ?_
  refine lv_iadd hx hb dL_law_460 ?_
  refine ro_sld MC HS hscr hb0 (i9 + 1) (nI_add i9 1) (by omega) hL dL_law_461 ?_
  refine lv_aload_n hx hb dL_law_462 rfl (lv_at hl 1 rfl) ?_
  refine lv_iload hx hb dL_law_463 (lv_at hl 5 rfl) ?_
  refine lv_iconst (v := 2) hx hb dL_law_465 (by decide) ?_
  refine lv_iadd hx hb dL_law_466 ?_
  refine ro_sld MC HS hscr hb0 (i9 + 2) (nI_add i9 2) (by omega) hL dL_law_467 ?_
  refine lv_aload_n hx hb dL_law_468 rfl (lv_at hl 1 rfl) ?_
  refine lv_iload hx hb dL_law_469 (lv_at hl 5 rfl) ?_
  refine lv_iconst (v := 3) hx hb dL_law_471 (by decide) ?_
  refine lv_iadd hx hb dL_law_472 ?_
  refine ro_sld MC HS hscr hb0 (i9 + 3) (nI_add i9 3) (by omega) hL dL_law_473 ?_
  refine lv_aload_n hx hb dL_law_474 rfl (lv_at hl 1 rfl) ?_
  refine lv_iload hx hb dL_law_475 (lv_at hl 5 rfl) ?_
  refine lv_iconst (v := 4) hx hb dL_law_477 (by decide) ?_
  refine lv_iadd hx hb dL_law_478 ?_
  refine ro_sld MC HS hscr hb0 (i9 + 4) (nI_add i9 4) (by omega) hL dL_law_479 ?_
  obtain ⟨RR1, ad1, cn1, nw1, ns1, nl1, nc1, out1, hX1, hI1, had, hM1, h31, hout⟩ := wf_un hX hI hM h30 hp0 hp1
  have hm := m_once (l := l) hM1 hI (xs (i9 + 1)) (xs (i9 + 2)) (xs (i9 + 3)) (xs (i9 + 4))
  rw [had 11 (by omega)] at hm
  have hrec1 := mo_recv MC hM1
  rw [had 11 (by omega)] at hrec1
  refine ro_callV MC HS (rest := []) (As := [.int (xs (i9 + 1)), .int (xs (i9 + 2)), .int (xs (i9 + 3)), .int (xs (i9 + 4))]) hm lkL_126 kw723 kw724 ⟨by show (_ : Nat) ≤ R.frames; exact Nat.le_trans (Nat.le_of_ble_eq_true rfl : _ ≤ 10) hR.1, by show (_ : Nat) ≤ R.locals; exact Nat.le_trans (Nat.le_of_ble_eq_true rfl : _ ≤ 310) hR.2⟩ hrec1 hl.1 rfl (Nat.le_of_ble_eq_true rfl) dL_law_480 ⟨by show cells + 8 + 0 ≤ R.cells; omega, by show slots + 48 + 0 ≤ R.slots; omega⟩ (fun v9 H2 locs2 hp hz2 HS => ?_)
  obtain ⟨rz, rfl, hM2, hrz⟩ := hp
  refine lv_istore (lv' := [(6, .int rz), (5, .int ((th_once τ (xs (i9 + 1)) (xs (i9 + 2)) (xs (i9 + 3)) (xs (i9 + 4))))), (0, .ref b), (1, .ref (ad 0)), (2, .ref (ad 11)), (3, .ref (ad 30)), (4, .int (nI i9))]) hx hb dL_law_483 hl (by decide) rfl (fun ls hl => ?_)
  refine lv_aload_n hx hb dL_law_485 rfl (lv_at hl 4 rfl) ?_
  have ht := m_thrown (l := l) hM2
  rw [had 11 (by omega)] at ht
  have hrec2 := mo_recv MC hM2
  rw [had 11 (by omega)] at hrec2
  refine ro_callV MC HS (rest := []) (As := []) ht lkL_105 kw689 kw690 ⟨by show 0 + 1 ≤ R.frames; omega, by show 8 + (1 + 11) + 0 ≤ R.locals; omega⟩ hrec2 hl.1 rfl (Nat.le_of_ble_eq_true rfl) dL_law_486 ⟨by show cells + 8 + 0 + 0 ≤ R.cells; omega, by show slots + 48 + 0 + 0 ≤ R.slots; omega⟩ (fun v9 H3 locs3 hp hz3 HS => ?_)
  obtain ⟨rfl, rfl⟩ := hp
  refine lv_iload hx hb dL_law_489 (lv_at hl 1 rfl) ?_
  refine lv_icmp_eq (tgt := 496) hx hb dL_law_491 (by decide) (fun c_491 => ?_) (fun c_491 => absurd (rfl) c_491)
  refine lv_iload hx hb dL_law_496 (lv_at hl 1 rfl) ?_
  refine lv_if_ne (tgt := 513) hx hb dL_law_498 (by decide) (fun c_498 => ?_) (fun c_498 => ?_)
  · refine lv_goto (tgt := 1760) hx hb dL_law_513 (by decide) ?_
    exact kk _ _ ls (bw.of hX1 hI1 h31 hM2 (had 0 (by omega)) (had 11 (by omega)) (had 30 (by omega))) HS (lv_sub hl [2, 3, 4, 5, 6] rfl)
  · refine lv_aload_n hx hb dL_law_501 rfl (lv_at hl 5 rfl) ?_
    refine lv_iconst (v := 0) hx hb dL_law_502 (by decide) ?_
    obtain ⟨cn2, HP2, -, hfr2, hRR2⟩ := id hM2
    refine ro_laldE MC HP2 (had 30 (by omega)) (hRR2 30 (by omega)) ((hfr2 30 (by omega)).trans h31) (vp_in_nI (n := 0) (N := 1) (by omega) (by omega)) dL_law_503 ?_
    refine lv_iload hx hb dL_law_504 (lv_at hl 0 rfl) ?_
    refine lv_i2l hx hb dL_law_506 rfl ?_
    refine W.lcmp hx hb dL_law_507 ?_
    rw [show lg_cmp (out1 (Int32.toNatClampNeg 0)) ((rz).toInt64) = 0 by show lg_cmp (out1 0) _ = 0; rw [hout c_498, hrz c_498]; exact lg_self _]
    refine lv_if_eq (tgt := 513) hx hb dL_law_508 (by decide) (fun c_508 => ?_) (fun c_508 => absurd c_508 (by decide))
    refine lv_goto (tgt := 1760) hx hb dL_law_513 (by decide) ?_
    exact kk _ _ ls (bw.of hX1 hI1 h31 hM2 (had 0 (by omega)) (had 11 (by omega)) (had 30 (by omega))) HS (lv_sub hl [2, 3, 4, 5, 6] rfl)
set_option maxHeartbeats 4000000 in
set_option maxRecDepth 100000 in
theorem l_daily {p : Program} {l : Launch} (hl9 : l.stackTraces = false) {e : Env} {R : Room} {s : State} {m : MethodId} {args : Array Value} {below : List Frame} {meth : Method} {c : Code} {H : Heap} {locs : List Loc} {cells slots : Nat} {Q : State → Prop} {D : va_G} {ids : Nat → ClassId} {n0 b L a0 a11 a30 i9 : Nat} {xs : Nat → Int32} (MC : ro_C p s m args meth c cL_law 7 "FrostCalendarLaw" D ids n0) (HS : va_S (fun q => n0 ≤ q) s.heap H locs) (hw : bw D ids n0 a0 a11 a30 H) (hscr : va_X b L xs s s.heap) (hb0 : b < n0) (hL : L ≤ 3072) (hi : i9 + 6 ≤ L) (hR : 10 ≤ R.frames ∧ 310 ≤ R.locals) (hcl : cells + 8 ≤ R.cells) (hsl : slots + 48 ≤ R.slots) {ls : Array Slot} (hl : lv_has ls 7 [(0, .ref b), (1, .ref a0), (2, .ref a11), (3, .ref a30), (4, .int (nI i9))])
    (kk : ∀ (H1 : Heap) (locs1 : List Loc) (ls1 : Array Slot), bw D ids n0 a0 a11 a30 H1 → va_S (fun q => n0 ≤ q) s.heap H1 locs1 → lv_has ls1 7 [(0, .ref b), (1, .ref a0), (2, .ref a11), (3, .ref a30), (4, .int (nI i9))] → W p l e R s m args below meth c H1 locs1 (cells + 8) (slots + 48) Q (F0 m 1760 ls1 [])) : W p l e R s m args below meth c H locs cells slots Q (F0 m 516 ls []) := by
  have hx := MC.1.1
  have hb := MC.1.2.1
  obtain ⟨RR, ad, cn, τ, th0, nw, ns, nl, nc, out, hX, hI, hM, h30, rfl, rfl, rfl⟩ := hw
  refine lv_aload_n hx hb dL_law_516 rfl (lv_at hl 1 rfl) ?_
  refine lv_aload_n hx hb dL_law_517 rfl (lv_at hl 0 rfl) ?_
  refine lv_iload hx hb dL_law_518 (lv_at hl 4 rfl) ?_
  refine lv_iconst (v := 1) hx hb dL_law_520 (by decide) ?_
  refine lv_iadd hx hb dL_law_521 ?_
  refine ro_sld MC HS hscr hb0 (i9 + 1) (nI_add i9 1) (by omega) hL dL_law_522 ?_
  refine lv_aload_n hx hb dL_law_523 rfl (lv_at hl 0 rfl) ?_
  refine lv_iload hx hb dL_law_524 (lv_at hl 4 rfl) ?_
  refine lv_iconst (v := 2) hx hb dL_law_526 (by decide) ?_
  refine lv_iadd hx hb dL_law_527 ?_
  refine ro_sld MC HS hscr hb0 (i9 + 2) (nI_add i9 2) (by omega) hL dL_law_528 ?_
  refine lv_aload_n hx hb dL_law_529 rfl (lv_at hl 0 rfl) ?_
  refine lv_iload hx hb dL_law_530 (lv_at hl 4 rfl) ?_
  refine lv_iconst (v := 3) hx hb dL_law_532 (by decide) ?_
  refine lv_iadd hx hb dL_law_533 ?_
  refine ro_sld MC HS hscr hb0 (i9 + 3) (nI_add i9 3) (by omega) hL dL_law_534 ?_
  refine lv_aload_n hx hb dL_law_535 rfl (lv_at hl 0 rfl) ?_
  refine lv_iload hx hb dL_law_536 (lv_at hl 4 rfl) ?_
  refine lv_iconst (v := 4) hx hb dL_law_538 (by decide) ?_
  refine lv_iadd hx hb dL_law_539 ?_
  refine ro_sld MC HS hscr hb0 (i9 + 4) (nI_add i9 4) (by omega) hL dL_law_540 ?_
  refine lv_aload_n hx hb dL_law_541 rfl (lv_at hl 0 rfl) ?_
  refine lv_iload hx hb dL_law_542 (lv_at hl 4 rfl) ?_
  refine lv_iconst (v := 5) hx hb dL_law_544 (by decide) ?_
  refine lv_iadd hx hb dL_law_545 ?_
  refine ro_sld MC HS hscr hb0 (i9 + 5) (nI_add i9 5) (by omega) hL dL_law_546 ?_
  refine lv_aload_n hx hb dL_law_547 rfl (lv_at hl 3 rfl) ?_
  refine ro_callW MC HS (rest := []) (As := [.ref (ad 0), .int (xs (i9 + 1)), .int (xs (i9 + 2)), .int (xs (i9 + 3)), .int (xs (i9 + 4)), .int (xs (i9 + 5)), .ref (ad 30)]) (w_daily hl9 hX hI h30) lw_127 ⟨by show 9 + 1 ≤ R.frames; omega, by show 8 + (8 + 11) + 280 ≤ R.locals; omega⟩ hl.1 rfl (Nat.le_of_ble_eq_true rfl) dL_law_548 ⟨hcl, hsl⟩ (fun v9 H1 locs1 hp hz1 HS => ?_)
  obtain ⟨rfl, hp0, hp1⟩ := hp
  refine lv_istore (lv' := [(5, .int ((th_daily τ (xs (i9 + 1)) (xs (i9 + 2)) (xs (i9 + 3)) (xs (i9 + 4)) (xs (i9 + 5))))), (0, .ref b), (1, .ref (ad 0)), (2, .ref (ad 11)), (3, .ref (ad 30)), (4, .int (nI i9))]) hx hb dL_law_551 hl (by decide) rfl (fun ls hl => ?_)
  refine lv_aload_n hx hb dL_law_553 rfl (lv_at hl 3 rfl) ?_
  refine lv_aload_n hx hb dL_law_554 rfl (lv_at hl 1 rfl) ?_
  refine lv_iload hx hb dL_law_555 (lv_at hl 5 rfl) ?_
  refine lv_iconst (v := 1) hx hb dL_law_557 (by decide) ?_
  refine lv_iadd hx hb dL_law_558 ?_
  refine ro_sld MC HS hscr hb0 (i9 + 1) (nI_add i9 1) (by omega) hL dL_law_559 ?_
  refine lv_aload_n hx hb dL_law_560 rfl (lv_at hl 1 rfl) ?_
  refine lv_iload hx hb dL_law_561 (lv_at hl 5 rfl) ?_
  refine lv_iconst (v := 2) hx hb dL_law_563 (by decide) ?_
  refine lv_iadd hx hb dL_law_564 ?_
  refine ro_sld MC HS hscr hb0 (i9 + 2) (nI_add i9 2) (by omega) hL dL_law_565 ?_
  refine lv_aload_n hx hb dL_law_566 rfl (lv_at hl 1 rfl) ?_
  refine lv_iload hx hb dL_law_567 (lv_at hl 5 rfl) ?_
  refine lv_iconst (v := 3) hx hb dL_law_569 (by decide) ?_
  refine lv_iadd hx hb dL_law_570 ?_
  refine ro_sld MC HS hscr hb0 (i9 + 3) (nI_add i9 3) (by omega) hL dL_law_571 ?_
  refine lv_aload_n hx hb dL_law_572 rfl (lv_at hl 1 rfl) ?_
  refine lv_iload hx hb dL_law_573 (lv_at hl 5 rfl) ?_
  refine lv_iconst (v := 4) hx hb dL_law_575 (by decide) ?_
  refine lv_iadd hx hb dL_law_576 ?_
  refine ro_sld MC HS hscr hb0 (i9 + 4) (nI_add i9 4) (by omega) hL dL_law_577 ?_
  refine lv_aload_n hx hb dL_law_578 rfl (lv_at hl 1 rfl) ?_
  refine lv_iload hx hb dL_law_579 (lv_at hl 5 rfl) ?_
  refine lv_iconst (v := 5) hx hb dL_law_581 (by decide) ?_
  refine lv_iadd hx hb dL_law_582 ?_
  refine ro_sld MC HS hscr hb0 (i9 + 5) (nI_add i9 5) (by omega) hL dL_law_583 ?_
  obtain ⟨RR1, ad1, cn1, nw1, ns1, nl1, nc1, out1, hX1, hI1, had, hM1, h31, hout⟩ := wf_un hX hI hM h30 hp0 hp1
  have hm := m_daily (l := l) hM1 hI (xs (i9 + 1)) (xs (i9 + 2)) (xs (i9 + 3)) (xs (i9 + 4)) (xs (i9 + 5))
  rw [had 11 (by omega)] at hm
  have hrec1 := mo_recv MC hM1
  rw [had 11 (by omega)] at hrec1
  refine ro_callV MC HS (rest := []) (As := [.int (xs (i9 + 1)), .int (xs (i9 + 2)), .int (xs (i9 + 3)), .int (xs (i9 + 4)), .int (xs (i9 + 5))]) hm lkL_130 kw731 kw732 ⟨by show (_ : Nat) ≤ R.frames; exact Nat.le_trans (Nat.le_of_ble_eq_true rfl : _ ≤ 10) hR.1, by show (_ : Nat) ≤ R.locals; exact Nat.le_trans (Nat.le_of_ble_eq_true rfl : _ ≤ 310) hR.2⟩ hrec1 hl.1 rfl (Nat.le_of_ble_eq_true rfl) dL_law_584 ⟨by show cells + 8 + 0 ≤ R.cells; omega, by show slots + 48 + 0 ≤ R.slots; omega⟩ (fun v9 H2 locs2 hp hz2 HS => ?_)
  obtain ⟨rz, rfl, hM2, hrz⟩ := hp
  refine lv_istore (lv' := [(6, .int rz), (5, .int ((th_daily τ (xs (i9 + 1)) (xs (i9 + 2)) (xs (i9 + 3)) (xs (i9 + 4)) (xs (i9 + 5))))), (0, .ref b), (1, .ref (ad 0)), (2, .ref (ad 11)), (3, .ref (ad 30)), (4, .int (nI i9))]) hx hb dL_law_587 hl (by decide) rfl (fun ls hl => ?_)
  refine lv_aload_n hx hb dL_law_589 rfl (lv_at hl 4 rfl) ?_
  have ht := m_thrown (l := l) hM2
  rw [had 11 (by omega)] at ht
  have hrec2 := mo_recv MC hM2
  rw [had 11 (by omega)] at hrec2
  refine ro_callV MC HS (rest := []) (As := []) ht lkL_105 kw689 kw690 ⟨by show 0 + 1 ≤ R.frames; omega, by show 8 + (1 + 11) + 0 ≤ R.locals; omega⟩ hrec2 hl.1 rfl (Nat.le_of_ble_eq_true rfl) dL_law_590 ⟨by show cells + 8 + 0 + 0 ≤ R.cells; omega, by show slots + 48 + 0 + 0 ≤ R.slots; omega⟩ (fun v9 H3 locs3 hp hz3 HS => ?_)
  obtain ⟨rfl, rfl⟩ := hp
  refine lv_iload hx hb dL_law_593 (lv_at hl 1 rfl) ?_
  refine lv_icmp_eq (tgt := 600) hx hb dL_law_595 (by decide) (fun c_595 => ?_) (fun c_595 => absurd (rfl) c_595)
  refine lv_iload hx hb dL_law_600 (lv_at hl 1 rfl) ?_
  refine lv_if_ne (tgt := 617) hx hb dL_law_602 (by decide) (fun c_602 => ?_) (fun c_602 => ?_)
  · refine lv_goto (tgt := 1760) hx hb dL_law_617 (by decide) ?_
    exact kk _ _ ls (bw.of hX1 hI1 h31 hM2 (had 0 (by omega)) (had 11 (by omega)) (had 30 (by omega))) HS (lv_sub hl [2, 3, 4, 5, 6] rfl)
  · refine lv_aload_n hx hb dL_law_605 rfl (lv_at hl 5 rfl) ?_
    refine lv_iconst (v := 0) hx hb dL_law_606 (by decide) ?_
    obtain ⟨cn2, HP2, -, hfr2, hRR2⟩ := id hM2
    refine ro_laldE MC HP2 (had 30 (by omega)) (hRR2 30 (by omega)) ((hfr2 30 (by omega)).trans h31) (vp_in_nI (n := 0) (N := 1) (by omega) (by omega)) dL_law_607 ?_
    refine lv_iload hx hb dL_law_608 (lv_at hl 0 rfl) ?_
    refine lv_i2l hx hb dL_law_610 rfl ?_
    refine W.lcmp hx hb dL_law_611 ?_
    rw [show lg_cmp (out1 (Int32.toNatClampNeg 0)) ((rz).toInt64) = 0 by show lg_cmp (out1 0) _ = 0; rw [hout c_602, hrz c_602]; exact lg_self _]
    refine lv_if_eq (tgt := 617) hx hb dL_law_612 (by decide) (fun c_612 => ?_) (fun c_612 => absurd c_612 (by decide))
    refine lv_goto (tgt := 1760) hx hb dL_law_617 (by decide) ?_
    exact kk _ _ ls (bw.of hX1 hI1 h31 hM2 (had 0 (by omega)) (had 11 (by omega)) (had 30 (by omega))) HS (lv_sub hl [2, 3, 4, 5, 6] rfl)
set_option maxHeartbeats 4000000 in
set_option maxRecDepth 100000 in
theorem l_feasts {p : Program} {l : Launch} (hl9 : l.stackTraces = false) {e : Env} {R : Room} {s : State} {m : MethodId} {args : Array Value} {below : List Frame} {meth : Method} {c : Code} {H : Heap} {locs : List Loc} {cells slots : Nat} {Q : State → Prop} {D : va_G} {ids : Nat → ClassId} {n0 b L a0 a11 a30 i9 : Nat} {xs : Nat → Int32} (MC : ro_C p s m args meth c cL_law 7 "FrostCalendarLaw" D ids n0) (HS : va_S (fun q => n0 ≤ q) s.heap H locs) (hw : bw D ids n0 a0 a11 a30 H) (hscr : va_X b L xs s s.heap) (hb0 : b < n0) (hL : L ≤ 3072) (hi : i9 + 6 ≤ L) (hR : 10 ≤ R.frames ∧ 310 ≤ R.locals) (hcl : cells + 8 ≤ R.cells) (hsl : slots + 48 ≤ R.slots) {ls : Array Slot} (hl : lv_has ls 7 [(0, .ref b), (1, .ref a0), (2, .ref a11), (3, .ref a30), (4, .int (nI i9))])
    (kk : ∀ (H1 : Heap) (locs1 : List Loc) (ls1 : Array Slot), bw D ids n0 a0 a11 a30 H1 → va_S (fun q => n0 ≤ q) s.heap H1 locs1 → lv_has ls1 7 [(0, .ref b), (1, .ref a0), (2, .ref a11), (3, .ref a30), (4, .int (nI i9))] → W p l e R s m args below meth c H1 locs1 (cells + 8) (slots + 48) Q (F0 m 1760 ls1 [])) : W p l e R s m args below meth c H locs cells slots Q (F0 m 620 ls []) := by
  have hx := MC.1.1
  have hb := MC.1.2.1
  obtain ⟨RR, ad, cn, τ, th0, nw, ns, nl, nc, out, hX, hI, hM, h30, rfl, rfl, rfl⟩ := hw
  refine lv_aload_n hx hb dL_law_620 rfl (lv_at hl 1 rfl) ?_
  refine lv_aload_n hx hb dL_law_621 rfl (lv_at hl 0 rfl) ?_
  refine lv_iload hx hb dL_law_622 (lv_at hl 4 rfl) ?_
  refine lv_iconst (v := 1) hx hb dL_law_624 (by decide) ?_
  refine lv_iadd hx hb dL_law_625 ?_
  refine ro_sld MC HS hscr hb0 (i9 + 1) (nI_add i9 1) (by omega) hL dL_law_626 ?_
  refine lv_aload_n hx hb dL_law_627 rfl (lv_at hl 0 rfl) ?_
  refine lv_iload hx hb dL_law_628 (lv_at hl 4 rfl) ?_
  refine lv_iconst (v := 2) hx hb dL_law_630 (by decide) ?_
  refine lv_iadd hx hb dL_law_631 ?_
  refine ro_sld MC HS hscr hb0 (i9 + 2) (nI_add i9 2) (by omega) hL dL_law_632 ?_
  refine lv_aload_n hx hb dL_law_633 rfl (lv_at hl 0 rfl) ?_
  refine lv_iload hx hb dL_law_634 (lv_at hl 4 rfl) ?_
  refine lv_iconst (v := 3) hx hb dL_law_636 (by decide) ?_
  refine lv_iadd hx hb dL_law_637 ?_
  refine ro_sld MC HS hscr hb0 (i9 + 3) (nI_add i9 3) (by omega) hL dL_law_638 ?_
  refine lv_aload_n hx hb dL_law_639 rfl (lv_at hl 3 rfl) ?_
  refine ro_callW MC HS (rest := []) (As := [.ref (ad 0), .int (xs (i9 + 1)), .int (xs (i9 + 2)), .int (xs (i9 + 3)), .ref (ad 30)]) (w_feasts hl9 hX hI h30) lw_131 ⟨by show 9 + 1 ≤ R.frames; omega, by show 8 + (6 + 11) + 280 ≤ R.locals; omega⟩ hl.1 rfl (Nat.le_of_ble_eq_true rfl) dL_law_640 ⟨hcl, hsl⟩ (fun v9 H1 locs1 hp hz1 HS => ?_)
  obtain ⟨rfl, hp0, hp1⟩ := hp
  refine lv_istore (lv' := [(5, .int ((th_feasts τ (xs (i9 + 1)) (xs (i9 + 2)) (xs (i9 + 3))))), (0, .ref b), (1, .ref (ad 0)), (2, .ref (ad 11)), (3, .ref (ad 30)), (4, .int (nI i9))]) hx hb dL_law_643 hl (by decide) rfl (fun ls hl => ?_)
  refine lv_aload_n hx hb dL_law_645 rfl (lv_at hl 3 rfl) ?_
  refine lv_aload_n hx hb dL_law_646 rfl (lv_at hl 1 rfl) ?_
  refine lv_iload hx hb dL_law_647 (lv_at hl 5 rfl) ?_
  refine lv_iconst (v := 1) hx hb dL_law_649 (by decide) ?_
  refine lv_iadd hx hb dL_law_650 ?_
  refine ro_sld MC HS hscr hb0 (i9 + 1) (nI_add i9 1) (by omega) hL dL_law_651 ?_
  refine lv_aload_n hx hb dL_law_652 rfl (lv_at hl 1 rfl) ?_
  refine lv_iload hx hb dL_law_653 (lv_at hl 5 rfl) ?_
  refine lv_iconst (v := 2) hx hb dL_law_655 (by decide) ?_
  refine lv_iadd hx hb dL_law_656 ?_
  refine ro_sld MC HS hscr hb0 (i9 + 2) (nI_add i9 2) (by omega) hL dL_law_657 ?_
  refine lv_aload_n hx hb dL_law_658 rfl (lv_at hl 1 rfl) ?_
  refine lv_iload hx hb dL_law_659 (lv_at hl 5 rfl) ?_
  refine lv_iconst (v := 3) hx hb dL_law_661 (by decide) ?_
  refine lv_iadd hx hb dL_law_662 ?_
  refine ro_sld MC HS hscr hb0 (i9 + 3) (nI_add i9 3) (by omega) hL dL_law_663 ?_
  obtain ⟨RR1, ad1, cn1, nw1, ns1, nl1, nc1, out1, hX1, hI1, had, hM1, h31, hout⟩ := wf_un hX hI hM h30 hp0 hp1
  have hm := m_feasts (l := l) hM1 hI (xs (i9 + 1)) (xs (i9 + 2)) (xs (i9 + 3))
  rw [had 11 (by omega)] at hm
  have hrec1 := mo_recv MC hM1
  rw [had 11 (by omega)] at hrec1
  refine ro_callV MC HS (rest := []) (As := [.int (xs (i9 + 1)), .int (xs (i9 + 2)), .int (xs (i9 + 3))]) hm lkL_134 kw735 kw736 ⟨by show (_ : Nat) ≤ R.frames; exact Nat.le_trans (Nat.le_of_ble_eq_true rfl : _ ≤ 10) hR.1, by show (_ : Nat) ≤ R.locals; exact Nat.le_trans (Nat.le_of_ble_eq_true rfl : _ ≤ 310) hR.2⟩ hrec1 hl.1 rfl (Nat.le_of_ble_eq_true rfl) dL_law_664 ⟨by show cells + 8 + 0 ≤ R.cells; omega, by show slots + 48 + 0 ≤ R.slots; omega⟩ (fun v9 H2 locs2 hp hz2 HS => ?_)
  obtain ⟨rz, rfl, hM2, hrz⟩ := hp
  refine lv_istore (lv' := [(6, .int rz), (5, .int ((th_feasts τ (xs (i9 + 1)) (xs (i9 + 2)) (xs (i9 + 3))))), (0, .ref b), (1, .ref (ad 0)), (2, .ref (ad 11)), (3, .ref (ad 30)), (4, .int (nI i9))]) hx hb dL_law_667 hl (by decide) rfl (fun ls hl => ?_)
  refine lv_aload_n hx hb dL_law_669 rfl (lv_at hl 4 rfl) ?_
  have ht := m_thrown (l := l) hM2
  rw [had 11 (by omega)] at ht
  have hrec2 := mo_recv MC hM2
  rw [had 11 (by omega)] at hrec2
  refine ro_callV MC HS (rest := []) (As := []) ht lkL_105 kw689 kw690 ⟨by show 0 + 1 ≤ R.frames; omega, by show 8 + (1 + 11) + 0 ≤ R.locals; omega⟩ hrec2 hl.1 rfl (Nat.le_of_ble_eq_true rfl) dL_law_670 ⟨by show cells + 8 + 0 + 0 ≤ R.cells; omega, by show slots + 48 + 0 + 0 ≤ R.slots; omega⟩ (fun v9 H3 locs3 hp hz3 HS => ?_)
  obtain ⟨rfl, rfl⟩ := hp
  refine lv_iload hx hb dL_law_673 (lv_at hl 1 rfl) ?_
  refine lv_icmp_eq (tgt := 680) hx hb dL_law_675 (by decide) (fun c_675 => ?_) (fun c_675 => absurd (rfl) c_675)
  refine lv_iload hx hb dL_law_680 (lv_at hl 1 rfl) ?_
  refine lv_if_ne (tgt := 697) hx hb dL_law_682 (by decide) (fun c_682 => ?_) (fun c_682 => ?_)
  · refine lv_goto (tgt := 1760) hx hb dL_law_697 (by decide) ?_
    exact kk _ _ ls (bw.of hX1 hI1 h31 hM2 (had 0 (by omega)) (had 11 (by omega)) (had 30 (by omega))) HS (lv_sub hl [2, 3, 4, 5, 6] rfl)
  · refine lv_aload_n hx hb dL_law_685 rfl (lv_at hl 5 rfl) ?_
    refine lv_iconst (v := 0) hx hb dL_law_686 (by decide) ?_
    obtain ⟨cn2, HP2, -, hfr2, hRR2⟩ := id hM2
    refine ro_laldE MC HP2 (had 30 (by omega)) (hRR2 30 (by omega)) ((hfr2 30 (by omega)).trans h31) (vp_in_nI (n := 0) (N := 1) (by omega) (by omega)) dL_law_687 ?_
    refine lv_iload hx hb dL_law_688 (lv_at hl 0 rfl) ?_
    refine lv_i2l hx hb dL_law_690 rfl ?_
    refine W.lcmp hx hb dL_law_691 ?_
    rw [show lg_cmp (out1 (Int32.toNatClampNeg 0)) ((rz).toInt64) = 0 by show lg_cmp (out1 0) _ = 0; rw [hout c_682, hrz c_682]; exact lg_self _]
    refine lv_if_eq (tgt := 697) hx hb dL_law_692 (by decide) (fun c_692 => ?_) (fun c_692 => absurd c_692 (by decide))
    refine lv_goto (tgt := 1760) hx hb dL_law_697 (by decide) ?_
    exact kk _ _ ls (bw.of hX1 hI1 h31 hM2 (had 0 (by omega)) (had 11 (by omega)) (had 30 (by omega))) HS (lv_sub hl [2, 3, 4, 5, 6] rfl)
set_option maxHeartbeats 4000000 in
set_option maxRecDepth 100000 in
theorem l_lift {p : Program} {l : Launch} (hl9 : l.stackTraces = false) {e : Env} {R : Room} {s : State} {m : MethodId} {args : Array Value} {below : List Frame} {meth : Method} {c : Code} {H : Heap} {locs : List Loc} {cells slots : Nat} {Q : State → Prop} {D : va_G} {ids : Nat → ClassId} {n0 b L a0 a11 a30 i9 : Nat} {xs : Nat → Int32} (MC : ro_C p s m args meth c cL_law 7 "FrostCalendarLaw" D ids n0) (HS : va_S (fun q => n0 ≤ q) s.heap H locs) (hw : bw D ids n0 a0 a11 a30 H) (hscr : va_X b L xs s s.heap) (hb0 : b < n0) (hL : L ≤ 3072) (hi : i9 + 6 ≤ L) (hR : 10 ≤ R.frames ∧ 310 ≤ R.locals) (hcl : cells + 8 ≤ R.cells) (hsl : slots + 48 ≤ R.slots) {ls : Array Slot} (hl : lv_has ls 7 [(0, .ref b), (1, .ref a0), (2, .ref a11), (3, .ref a30), (4, .int (nI i9))])
    (kk : ∀ (H1 : Heap) (locs1 : List Loc) (ls1 : Array Slot), bw D ids n0 a0 a11 a30 H1 → va_S (fun q => n0 ≤ q) s.heap H1 locs1 → lv_has ls1 7 [(0, .ref b), (1, .ref a0), (2, .ref a11), (3, .ref a30), (4, .int (nI i9))] → W p l e R s m args below meth c H1 locs1 (cells + 8) (slots + 48) Q (F0 m 1760 ls1 [])) : W p l e R s m args below meth c H locs cells slots Q (F0 m 700 ls []) := by
  have hx := MC.1.1
  have hb := MC.1.2.1
  obtain ⟨RR, ad, cn, τ, th0, nw, ns, nl, nc, out, hX, hI, hM, h30, rfl, rfl, rfl⟩ := hw
  refine lv_aload_n hx hb dL_law_700 rfl (lv_at hl 1 rfl) ?_
  refine lv_aload_n hx hb dL_law_701 rfl (lv_at hl 0 rfl) ?_
  refine lv_iload hx hb dL_law_702 (lv_at hl 4 rfl) ?_
  refine lv_iconst (v := 1) hx hb dL_law_704 (by decide) ?_
  refine lv_iadd hx hb dL_law_705 ?_
  refine ro_sld MC HS hscr hb0 (i9 + 1) (nI_add i9 1) (by omega) hL dL_law_706 ?_
  refine lv_aload_n hx hb dL_law_707 rfl (lv_at hl 3 rfl) ?_
  refine ro_callW MC HS (rest := []) (As := [.ref (ad 0), .int (xs (i9 + 1)), .ref (ad 30)]) (w_lift hl9 hX hI h30) lw_135 ⟨by show 9 + 1 ≤ R.frames; omega, by show 8 + (4 + 11) + 280 ≤ R.locals; omega⟩ hl.1 rfl (Nat.le_of_ble_eq_true rfl) dL_law_708 ⟨hcl, hsl⟩ (fun v9 H1 locs1 hp hz1 HS => ?_)
  obtain ⟨rfl, hp0, hp1⟩ := hp
  refine lv_istore (lv' := [(5, .int ((th_lift τ (xs (i9 + 1))))), (0, .ref b), (1, .ref (ad 0)), (2, .ref (ad 11)), (3, .ref (ad 30)), (4, .int (nI i9))]) hx hb dL_law_711 hl (by decide) rfl (fun ls hl => ?_)
  refine lv_aload_n hx hb dL_law_713 rfl (lv_at hl 3 rfl) ?_
  refine lv_aload_n hx hb dL_law_714 rfl (lv_at hl 1 rfl) ?_
  refine lv_iload hx hb dL_law_715 (lv_at hl 5 rfl) ?_
  refine lv_iconst (v := 1) hx hb dL_law_717 (by decide) ?_
  refine lv_iadd hx hb dL_law_718 ?_
  refine ro_sld MC HS hscr hb0 (i9 + 1) (nI_add i9 1) (by omega) hL dL_law_719 ?_
  obtain ⟨RR1, ad1, cn1, nw1, ns1, nl1, nc1, out1, hX1, hI1, had, hM1, h31, hout⟩ := wf_un hX hI hM h30 hp0 hp1
  have hm := m_lift (l := l) hM1 hI (xs (i9 + 1))
  rw [had 11 (by omega)] at hm
  have hrec1 := mo_recv MC hM1
  rw [had 11 (by omega)] at hrec1
  refine ro_callV MC HS (rest := []) (As := [.int (xs (i9 + 1))]) hm lkL_137 kw739 kw740 ⟨by show (_ : Nat) ≤ R.frames; exact Nat.le_trans (Nat.le_of_ble_eq_true rfl : _ ≤ 10) hR.1, by show (_ : Nat) ≤ R.locals; exact Nat.le_trans (Nat.le_of_ble_eq_true rfl : _ ≤ 310) hR.2⟩ hrec1 hl.1 rfl (Nat.le_of_ble_eq_true rfl) dL_law_720 ⟨by show cells + 8 + 0 ≤ R.cells; omega, by show slots + 48 + 0 ≤ R.slots; omega⟩ (fun v9 H2 locs2 hp hz2 HS => ?_)
  obtain ⟨rz, rfl, hM2, hrz⟩ := hp
  refine lv_istore (lv' := [(6, .int rz), (5, .int ((th_lift τ (xs (i9 + 1))))), (0, .ref b), (1, .ref (ad 0)), (2, .ref (ad 11)), (3, .ref (ad 30)), (4, .int (nI i9))]) hx hb dL_law_723 hl (by decide) rfl (fun ls hl => ?_)
  refine lv_aload_n hx hb dL_law_725 rfl (lv_at hl 4 rfl) ?_
  have ht := m_thrown (l := l) hM2
  rw [had 11 (by omega)] at ht
  have hrec2 := mo_recv MC hM2
  rw [had 11 (by omega)] at hrec2
  refine ro_callV MC HS (rest := []) (As := []) ht lkL_105 kw689 kw690 ⟨by show 0 + 1 ≤ R.frames; omega, by show 8 + (1 + 11) + 0 ≤ R.locals; omega⟩ hrec2 hl.1 rfl (Nat.le_of_ble_eq_true rfl) dL_law_726 ⟨by show cells + 8 + 0 + 0 ≤ R.cells; omega, by show slots + 48 + 0 + 0 ≤ R.slots; omega⟩ (fun v9 H3 locs3 hp hz3 HS => ?_)
  obtain ⟨rfl, rfl⟩ := hp
  refine lv_iload hx hb dL_law_729 (lv_at hl 1 rfl) ?_
  refine lv_icmp_eq (tgt := 736) hx hb dL_law_731 (by decide) (fun c_731 => ?_) (fun c_731 => absurd (rfl) c_731)
  refine lv_iload hx hb dL_law_736 (lv_at hl 1 rfl) ?_
  refine lv_if_ne (tgt := 753) hx hb dL_law_738 (by decide) (fun c_738 => ?_) (fun c_738 => ?_)
  · refine lv_goto (tgt := 1760) hx hb dL_law_753 (by decide) ?_
    exact kk _ _ ls (bw.of hX1 hI1 h31 hM2 (had 0 (by omega)) (had 11 (by omega)) (had 30 (by omega))) HS (lv_sub hl [2, 3, 4, 5, 6] rfl)
  · refine lv_aload_n hx hb dL_law_741 rfl (lv_at hl 5 rfl) ?_
    refine lv_iconst (v := 0) hx hb dL_law_742 (by decide) ?_
    obtain ⟨cn2, HP2, -, hfr2, hRR2⟩ := id hM2
    refine ro_laldE MC HP2 (had 30 (by omega)) (hRR2 30 (by omega)) ((hfr2 30 (by omega)).trans h31) (vp_in_nI (n := 0) (N := 1) (by omega) (by omega)) dL_law_743 ?_
    refine lv_iload hx hb dL_law_744 (lv_at hl 0 rfl) ?_
    refine lv_i2l hx hb dL_law_746 rfl ?_
    refine W.lcmp hx hb dL_law_747 ?_
    rw [show lg_cmp (out1 (Int32.toNatClampNeg 0)) ((rz).toInt64) = 0 by show lg_cmp (out1 0) _ = 0; rw [hout c_738, hrz c_738]; exact lg_self _]
    refine lv_if_eq (tgt := 753) hx hb dL_law_748 (by decide) (fun c_748 => ?_) (fun c_748 => absurd c_748 (by decide))
    refine lv_goto (tgt := 1760) hx hb dL_law_753 (by decide) ?_
    exact kk _ _ ls (bw.of hX1 hI1 h31 hM2 (had 0 (by omega)) (had 11 (by omega)) (had 30 (by omega))) HS (lv_sub hl [2, 3, 4, 5, 6] rfl)
set_option maxHeartbeats 4000000 in
set_option maxRecDepth 100000 in
theorem l_holding {p : Program} {l : Launch} (hl9 : l.stackTraces = false) {e : Env} {R : Room} {s : State} {m : MethodId} {args : Array Value} {below : List Frame} {meth : Method} {c : Code} {H : Heap} {locs : List Loc} {cells slots : Nat} {Q : State → Prop} {D : va_G} {ids : Nat → ClassId} {n0 b L a0 a11 a30 i9 : Nat} {xs : Nat → Int32} (MC : ro_C p s m args meth c cL_law 7 "FrostCalendarLaw" D ids n0) (HS : va_S (fun q => n0 ≤ q) s.heap H locs) (hw : bw D ids n0 a0 a11 a30 H) (hscr : va_X b L xs s s.heap) (hb0 : b < n0) (hL : L ≤ 3072) (hi : i9 + 6 ≤ L) (hR : 10 ≤ R.frames ∧ 310 ≤ R.locals) (hcl : cells + 8 ≤ R.cells) (hsl : slots + 48 ≤ R.slots) {ls : Array Slot} (hl : lv_has ls 7 [(0, .ref b), (1, .ref a0), (2, .ref a11), (3, .ref a30), (4, .int (nI i9))])
    (kk : ∀ (H1 : Heap) (locs1 : List Loc) (ls1 : Array Slot), bw D ids n0 a0 a11 a30 H1 → va_S (fun q => n0 ≤ q) s.heap H1 locs1 → lv_has ls1 7 [(0, .ref b), (1, .ref a0), (2, .ref a11), (3, .ref a30), (4, .int (nI i9))] → W p l e R s m args below meth c H1 locs1 (cells + 8) (slots + 48) Q (F0 m 1760 ls1 [])) : W p l e R s m args below meth c H locs cells slots Q (F0 m 756 ls []) := by
  have hx := MC.1.1
  have hb := MC.1.2.1
  obtain ⟨RR, ad, cn, τ, th0, nw, ns, nl, nc, out, hX, hI, hM, h30, rfl, rfl, rfl⟩ := hw
  refine lv_aload_n hx hb dL_law_756 rfl (lv_at hl 1 rfl) ?_
  refine lv_aload_n hx hb dL_law_757 rfl (lv_at hl 0 rfl) ?_
  refine lv_iload hx hb dL_law_758 (lv_at hl 4 rfl) ?_
  refine lv_iconst (v := 1) hx hb dL_law_760 (by decide) ?_
  refine lv_iadd hx hb dL_law_761 ?_
  refine ro_sld MC HS hscr hb0 (i9 + 1) (nI_add i9 1) (by omega) hL dL_law_762 ?_
  refine lv_aload_n hx hb dL_law_763 rfl (lv_at hl 0 rfl) ?_
  refine lv_iload hx hb dL_law_764 (lv_at hl 4 rfl) ?_
  refine lv_iconst (v := 2) hx hb dL_law_766 (by decide) ?_
  refine lv_iadd hx hb dL_law_767 ?_
  refine ro_sld MC HS hscr hb0 (i9 + 2) (nI_add i9 2) (by omega) hL dL_law_768 ?_
  refine lv_aload_n hx hb dL_law_769 rfl (lv_at hl 3 rfl) ?_
  refine ro_callW MC HS (rest := []) (As := [.ref (ad 0), .int (xs (i9 + 1)), .int (xs (i9 + 2)), .ref (ad 30)]) (w_holding hl9 hX hI h30) lw_138 ⟨by show 9 + 1 ≤ R.frames; omega, by show 8 + (5 + 11) + 280 ≤ R.locals; omega⟩ hl.1 rfl (Nat.le_of_ble_eq_true rfl) dL_law_770 ⟨hcl, hsl⟩ (fun v9 H1 locs1 hp hz1 HS => ?_)
  obtain ⟨rfl, hp0, hp1⟩ := hp
  refine lv_istore (lv' := [(5, .int ((th_holding τ (xs (i9 + 1)) (xs (i9 + 2))))), (0, .ref b), (1, .ref (ad 0)), (2, .ref (ad 11)), (3, .ref (ad 30)), (4, .int (nI i9))]) hx hb dL_law_773 hl (by decide) rfl (fun ls hl => ?_)
  refine lv_aload_n hx hb dL_law_775 rfl (lv_at hl 3 rfl) ?_
  refine lv_aload_n hx hb dL_law_776 rfl (lv_at hl 1 rfl) ?_
  refine lv_iload hx hb dL_law_777 (lv_at hl 5 rfl) ?_
  refine lv_iconst (v := 1) hx hb dL_law_779 (by decide) ?_
  refine lv_iadd hx hb dL_law_780 ?_
  refine ro_sld MC HS hscr hb0 (i9 + 1) (nI_add i9 1) (by omega) hL dL_law_781 ?_
  refine lv_aload_n hx hb dL_law_782 rfl (lv_at hl 1 rfl) ?_
  refine lv_iload hx hb dL_law_783 (lv_at hl 5 rfl) ?_
  refine lv_iconst (v := 2) hx hb dL_law_785 (by decide) ?_
  refine lv_iadd hx hb dL_law_786 ?_
  refine ro_sld MC HS hscr hb0 (i9 + 2) (nI_add i9 2) (by omega) hL dL_law_787 ?_
  obtain ⟨RR1, ad1, cn1, nw1, ns1, nl1, nc1, out1, hX1, hI1, had, hM1, h31, hout⟩ := wf_un hX hI hM h30 hp0 hp1
  simp only [ite_self] at hX1 hI1
  have hm := m_holding (l := l) hM1 hI (xs (i9 + 1)) (xs (i9 + 2))
  rw [had 11 (by omega)] at hm
  have hrec1 := mo_recv MC hM1
  rw [had 11 (by omega)] at hrec1
  refine ro_callV MC HS (rest := []) (As := [.int (xs (i9 + 1)), .int (xs (i9 + 2))]) hm lkL_140 kw747 kw748 ⟨by show (_ : Nat) ≤ R.frames; exact Nat.le_trans (Nat.le_of_ble_eq_true rfl : _ ≤ 10) hR.1, by show (_ : Nat) ≤ R.locals; exact Nat.le_trans (Nat.le_of_ble_eq_true rfl : _ ≤ 310) hR.2⟩ hrec1 hl.1 rfl (Nat.le_of_ble_eq_true rfl) dL_law_788 ⟨by show cells + 8 + 0 ≤ R.cells; omega, by show slots + 48 + 0 ≤ R.slots; omega⟩ (fun v9 H2 locs2 hp hz2 HS => ?_)
  obtain ⟨rz, rfl, hM2, hrz⟩ := hp
  refine lv_istore (lv' := [(6, .int rz), (5, .int ((th_holding τ (xs (i9 + 1)) (xs (i9 + 2))))), (0, .ref b), (1, .ref (ad 0)), (2, .ref (ad 11)), (3, .ref (ad 30)), (4, .int (nI i9))]) hx hb dL_law_791 hl (by decide) rfl (fun ls hl => ?_)
  refine lv_aload_n hx hb dL_law_793 rfl (lv_at hl 4 rfl) ?_
  have ht := m_thrown (l := l) hM2
  rw [had 11 (by omega)] at ht
  have hrec2 := mo_recv MC hM2
  rw [had 11 (by omega)] at hrec2
  refine ro_callV MC HS (rest := []) (As := []) ht lkL_105 kw689 kw690 ⟨by show 0 + 1 ≤ R.frames; omega, by show 8 + (1 + 11) + 0 ≤ R.locals; omega⟩ hrec2 hl.1 rfl (Nat.le_of_ble_eq_true rfl) dL_law_794 ⟨by show cells + 8 + 0 + 0 ≤ R.cells; omega, by show slots + 48 + 0 + 0 ≤ R.slots; omega⟩ (fun v9 H3 locs3 hp hz3 HS => ?_)
  obtain ⟨rfl, rfl⟩ := hp
  refine lv_iload hx hb dL_law_797 (lv_at hl 1 rfl) ?_
  refine lv_icmp_eq (tgt := 804) hx hb dL_law_799 (by decide) (fun c_799 => ?_) (fun c_799 => absurd (rfl) c_799)
  refine lv_iload hx hb dL_law_804 (lv_at hl 1 rfl) ?_
  refine lv_if_ne (tgt := 821) hx hb dL_law_806 (by decide) (fun c_806 => ?_) (fun c_806 => ?_)
  · refine lv_goto (tgt := 1760) hx hb dL_law_821 (by decide) ?_
    exact kk _ _ ls (bw.of hX1 hI1 h31 hM2 (had 0 (by omega)) (had 11 (by omega)) (had 30 (by omega))) HS (lv_sub hl [2, 3, 4, 5, 6] rfl)
  · refine lv_aload_n hx hb dL_law_809 rfl (lv_at hl 5 rfl) ?_
    refine lv_iconst (v := 0) hx hb dL_law_810 (by decide) ?_
    obtain ⟨cn2, HP2, -, hfr2, hRR2⟩ := id hM2
    refine ro_laldE MC HP2 (had 30 (by omega)) (hRR2 30 (by omega)) ((hfr2 30 (by omega)).trans h31) (vp_in_nI (n := 0) (N := 1) (by omega) (by omega)) dL_law_811 ?_
    refine lv_iload hx hb dL_law_812 (lv_at hl 0 rfl) ?_
    refine lv_i2l hx hb dL_law_814 rfl ?_
    refine W.lcmp hx hb dL_law_815 ?_
    rw [show lg_cmp (out1 (Int32.toNatClampNeg 0)) ((rz).toInt64) = 0 by show lg_cmp (out1 0) _ = 0; rw [hout c_806, hrz c_806]; exact lg_self _]
    refine lv_if_eq (tgt := 821) hx hb dL_law_816 (by decide) (fun c_816 => ?_) (fun c_816 => absurd c_816 (by decide))
    refine lv_goto (tgt := 1760) hx hb dL_law_821 (by decide) ?_
    exact kk _ _ ls (bw.of hX1 hI1 h31 hM2 (had 0 (by omega)) (had 11 (by omega)) (had 30 (by omega))) HS (lv_sub hl [2, 3, 4, 5, 6] rfl)
set_option maxHeartbeats 4000000 in
set_option maxRecDepth 100000 in
theorem l_hours {p : Program} {l : Launch} (hl9 : l.stackTraces = false) {e : Env} {R : Room} {s : State} {m : MethodId} {args : Array Value} {below : List Frame} {meth : Method} {c : Code} {H : Heap} {locs : List Loc} {cells slots : Nat} {Q : State → Prop} {D : va_G} {ids : Nat → ClassId} {n0 b L a0 a11 a30 i9 : Nat} {xs : Nat → Int32} (MC : ro_C p s m args meth c cL_law 7 "FrostCalendarLaw" D ids n0) (HS : va_S (fun q => n0 ≤ q) s.heap H locs) (hw : bw D ids n0 a0 a11 a30 H) (hscr : va_X b L xs s s.heap) (hb0 : b < n0) (hL : L ≤ 3072) (hi : i9 + 6 ≤ L) (hR : 10 ≤ R.frames ∧ 310 ≤ R.locals) (hcl : cells + 8 ≤ R.cells) (hsl : slots + 48 ≤ R.slots) {ls : Array Slot} (hl : lv_has ls 7 [(0, .ref b), (1, .ref a0), (2, .ref a11), (3, .ref a30), (4, .int (nI i9))])
    (kk : ∀ (H1 : Heap) (locs1 : List Loc) (ls1 : Array Slot), bw D ids n0 a0 a11 a30 H1 → va_S (fun q => n0 ≤ q) s.heap H1 locs1 → lv_has ls1 7 [(0, .ref b), (1, .ref a0), (2, .ref a11), (3, .ref a30), (4, .int (nI i9))] → W p l e R s m args below meth c H1 locs1 (cells + 8) (slots + 48) Q (F0 m 1760 ls1 [])) : W p l e R s m args below meth c H locs cells slots Q (F0 m 824 ls []) := by
  have hx := MC.1.1
  have hb := MC.1.2.1
  obtain ⟨RR, ad, cn, τ, th0, nw, ns, nl, nc, out, hX, hI, hM, h30, rfl, rfl, rfl⟩ := hw
  refine lv_aload_n hx hb dL_law_824 rfl (lv_at hl 1 rfl) ?_
  refine lv_aload_n hx hb dL_law_825 rfl (lv_at hl 0 rfl) ?_
  refine lv_iload hx hb dL_law_826 (lv_at hl 4 rfl) ?_
  refine lv_iconst (v := 1) hx hb dL_law_828 (by decide) ?_
  refine lv_iadd hx hb dL_law_829 ?_
  refine ro_sld MC HS hscr hb0 (i9 + 1) (nI_add i9 1) (by omega) hL dL_law_830 ?_
  refine lv_aload_n hx hb dL_law_831 rfl (lv_at hl 3 rfl) ?_
  refine ro_callW MC HS (rest := []) (As := [.ref (ad 0), .int (xs (i9 + 1)), .ref (ad 30)]) (w_hours hl9 hX hI h30) lw_141 ⟨by show 9 + 1 ≤ R.frames; omega, by show 8 + (4 + 11) + 280 ≤ R.locals; omega⟩ hl.1 rfl (Nat.le_of_ble_eq_true rfl) dL_law_832 ⟨hcl, hsl⟩ (fun v9 H1 locs1 hp hz1 HS => ?_)
  obtain ⟨rfl, hp0, hp1⟩ := hp
  refine lv_istore (lv' := [(5, .int ((th_hours τ (xs (i9 + 1))))), (0, .ref b), (1, .ref (ad 0)), (2, .ref (ad 11)), (3, .ref (ad 30)), (4, .int (nI i9))]) hx hb dL_law_835 hl (by decide) rfl (fun ls hl => ?_)
  refine lv_aload_n hx hb dL_law_837 rfl (lv_at hl 3 rfl) ?_
  refine lv_aload_n hx hb dL_law_838 rfl (lv_at hl 1 rfl) ?_
  refine lv_iload hx hb dL_law_839 (lv_at hl 5 rfl) ?_
  refine lv_iconst (v := 1) hx hb dL_law_841 (by decide) ?_
  refine lv_iadd hx hb dL_law_842 ?_
  refine ro_sld MC HS hscr hb0 (i9 + 1) (nI_add i9 1) (by omega) hL dL_law_843 ?_
  obtain ⟨RR1, ad1, cn1, nw1, ns1, nl1, nc1, out1, hX1, hI1, had, hM1, h31, hout⟩ := wf_un hX hI hM h30 hp0 hp1
  simp only [ite_self] at hX1 hI1
  have hm := m_hours (l := l) hM1 hI (xs (i9 + 1))
  rw [had 11 (by omega)] at hm
  have hrec1 := mo_recv MC hM1
  rw [had 11 (by omega)] at hrec1
  refine ro_callV MC HS (rest := []) (As := [.int (xs (i9 + 1))]) hm lkL_143 kw767 kw768 ⟨by show (_ : Nat) ≤ R.frames; exact Nat.le_trans (Nat.le_of_ble_eq_true rfl : _ ≤ 10) hR.1, by show (_ : Nat) ≤ R.locals; exact Nat.le_trans (Nat.le_of_ble_eq_true rfl : _ ≤ 310) hR.2⟩ hrec1 hl.1 rfl (Nat.le_of_ble_eq_true rfl) dL_law_844 ⟨by show cells + 8 + 0 ≤ R.cells; omega, by show slots + 48 + 0 ≤ R.slots; omega⟩ (fun v9 H2 locs2 hp hz2 HS => ?_)
  obtain ⟨rz, rfl, hM2, hrz⟩ := hp
  refine lv_istore (lv' := [(6, .int rz), (5, .int ((th_hours τ (xs (i9 + 1))))), (0, .ref b), (1, .ref (ad 0)), (2, .ref (ad 11)), (3, .ref (ad 30)), (4, .int (nI i9))]) hx hb dL_law_847 hl (by decide) rfl (fun ls hl => ?_)
  refine lv_aload_n hx hb dL_law_849 rfl (lv_at hl 4 rfl) ?_
  have ht := m_thrown (l := l) hM2
  rw [had 11 (by omega)] at ht
  have hrec2 := mo_recv MC hM2
  rw [had 11 (by omega)] at hrec2
  refine ro_callV MC HS (rest := []) (As := []) ht lkL_105 kw689 kw690 ⟨by show 0 + 1 ≤ R.frames; omega, by show 8 + (1 + 11) + 0 ≤ R.locals; omega⟩ hrec2 hl.1 rfl (Nat.le_of_ble_eq_true rfl) dL_law_850 ⟨by show cells + 8 + 0 + 0 ≤ R.cells; omega, by show slots + 48 + 0 + 0 ≤ R.slots; omega⟩ (fun v9 H3 locs3 hp hz3 HS => ?_)
  obtain ⟨rfl, rfl⟩ := hp
  refine lv_iload hx hb dL_law_853 (lv_at hl 1 rfl) ?_
  refine lv_icmp_eq (tgt := 860) hx hb dL_law_855 (by decide) (fun c_855 => ?_) (fun c_855 => absurd (rfl) c_855)
  refine lv_iload hx hb dL_law_860 (lv_at hl 1 rfl) ?_
  refine lv_if_ne (tgt := 877) hx hb dL_law_862 (by decide) (fun c_862 => ?_) (fun c_862 => ?_)
  · refine lv_goto (tgt := 1760) hx hb dL_law_877 (by decide) ?_
    exact kk _ _ ls (bw.of hX1 hI1 h31 hM2 (had 0 (by omega)) (had 11 (by omega)) (had 30 (by omega))) HS (lv_sub hl [2, 3, 4, 5, 6] rfl)
  · refine lv_aload_n hx hb dL_law_865 rfl (lv_at hl 5 rfl) ?_
    refine lv_iconst (v := 0) hx hb dL_law_866 (by decide) ?_
    obtain ⟨cn2, HP2, -, hfr2, hRR2⟩ := id hM2
    refine ro_laldE MC HP2 (had 30 (by omega)) (hRR2 30 (by omega)) ((hfr2 30 (by omega)).trans h31) (vp_in_nI (n := 0) (N := 1) (by omega) (by omega)) dL_law_867 ?_
    refine lv_iload hx hb dL_law_868 (lv_at hl 0 rfl) ?_
    refine lv_i2l hx hb dL_law_870 rfl ?_
    refine W.lcmp hx hb dL_law_871 ?_
    rw [show lg_cmp (out1 (Int32.toNatClampNeg 0)) ((rz).toInt64) = 0 by show lg_cmp (out1 0) _ = 0; rw [hout c_862, hrz c_862]; exact lg_self _]
    refine lv_if_eq (tgt := 877) hx hb dL_law_872 (by decide) (fun c_872 => ?_) (fun c_872 => absurd c_872 (by decide))
    refine lv_goto (tgt := 1760) hx hb dL_law_877 (by decide) ?_
    exact kk _ _ ls (bw.of hX1 hI1 h31 hM2 (had 0 (by omega)) (had 11 (by omega)) (had 30 (by omega))) HS (lv_sub hl [2, 3, 4, 5, 6] rfl)
set_option maxHeartbeats 4000000 in
set_option maxRecDepth 100000 in
theorem l_nextSpan {p : Program} {l : Launch} (hl9 : l.stackTraces = false) {e : Env} {R : Room} {s : State} {m : MethodId} {args : Array Value} {below : List Frame} {meth : Method} {c : Code} {H : Heap} {locs : List Loc} {cells slots : Nat} {Q : State → Prop} {D : va_G} {ids : Nat → ClassId} {n0 b L a0 a11 a30 i9 : Nat} {xs : Nat → Int32} (MC : ro_C p s m args meth c cL_law 7 "FrostCalendarLaw" D ids n0) (HS : va_S (fun q => n0 ≤ q) s.heap H locs) (hw : bw D ids n0 a0 a11 a30 H) (hscr : va_X b L xs s s.heap) (hb0 : b < n0) (hL : L ≤ 3072) (hi : i9 + 6 ≤ L) (hR : 10 ≤ R.frames ∧ 310 ≤ R.locals) (hcl : cells + 8 ≤ R.cells) (hsl : slots + 48 ≤ R.slots) {ls : Array Slot} (hl : lv_has ls 7 [(0, .ref b), (1, .ref a0), (2, .ref a11), (3, .ref a30), (4, .int (nI i9))])
    (kk : ∀ (H1 : Heap) (locs1 : List Loc) (ls1 : Array Slot), bw D ids n0 a0 a11 a30 H1 → va_S (fun q => n0 ≤ q) s.heap H1 locs1 → lv_has ls1 7 [(0, .ref b), (1, .ref a0), (2, .ref a11), (3, .ref a30), (4, .int (nI i9))] → W p l e R s m args below meth c H1 locs1 (cells + 8) (slots + 48) Q (F0 m 1760 ls1 [])) : W p l e R s m args below meth c H locs cells slots Q (F0 m 880 ls []) := by
  have hx := MC.1.1
  have hb := MC.1.2.1
  obtain ⟨RR, ad, cn, τ, th0, nw, ns, nl, nc, out, hX, hI, hM, h30, rfl, rfl, rfl⟩ := hw
  refine lv_aload_n hx hb dL_law_880 rfl (lv_at hl 1 rfl) ?_
  refine lv_aload_n hx hb dL_law_881 rfl (lv_at hl 0 rfl) ?_
  refine lv_iload hx hb dL_law_882 (lv_at hl 4 rfl) ?_
  refine lv_iconst (v := 1) hx hb dL_law_884 (by decide) ?_
  refine lv_iadd hx hb dL_law_885 ?_
  refine ro_sld MC HS hscr hb0 (i9 + 1) (nI_add i9 1) (by omega) hL dL_law_886 ?_
  refine lv_aload_n hx hb dL_law_887 rfl (lv_at hl 0 rfl) ?_
  refine lv_iload hx hb dL_law_888 (lv_at hl 4 rfl) ?_
  refine lv_iconst (v := 2) hx hb dL_law_890 (by decide) ?_
  refine lv_iadd hx hb dL_law_891 ?_
  refine ro_sld MC HS hscr hb0 (i9 + 2) (nI_add i9 2) (by omega) hL dL_law_892 ?_
  refine lv_aload_n hx hb dL_law_893 rfl (lv_at hl 0 rfl) ?_
  refine lv_iload hx hb dL_law_894 (lv_at hl 4 rfl) ?_
  refine lv_iconst (v := 3) hx hb dL_law_896 (by decide) ?_
  refine lv_iadd hx hb dL_law_897 ?_
  refine ro_sld MC HS hscr hb0 (i9 + 3) (nI_add i9 3) (by omega) hL dL_law_898 ?_
  refine lv_aload_n hx hb dL_law_899 rfl (lv_at hl 3 rfl) ?_
  refine ro_callW MC HS (rest := []) (As := [.ref (ad 0), .int (xs (i9 + 1)), .int (xs (i9 + 2)), .int (xs (i9 + 3)), .ref (ad 30)]) (w_nextSpan hl9 hX hI h30) lw_144 ⟨by show 9 + 1 ≤ R.frames; omega, by show 8 + (6 + 11) + 280 ≤ R.locals; omega⟩ hl.1 rfl (Nat.le_of_ble_eq_true rfl) dL_law_900 ⟨hcl, hsl⟩ (fun v9 H1 locs1 hp hz1 HS => ?_)
  obtain ⟨rfl, hp0, hp1⟩ := hp
  refine lv_istore (lv' := [(5, .int ((th_nextSpan τ (xs (i9 + 1)) (xs (i9 + 2)) (xs (i9 + 3))))), (0, .ref b), (1, .ref (ad 0)), (2, .ref (ad 11)), (3, .ref (ad 30)), (4, .int (nI i9))]) hx hb dL_law_903 hl (by decide) rfl (fun ls hl => ?_)
  refine lv_aload_n hx hb dL_law_905 rfl (lv_at hl 3 rfl) ?_
  refine lv_aload_n hx hb dL_law_906 rfl (lv_at hl 1 rfl) ?_
  refine lv_iload hx hb dL_law_907 (lv_at hl 5 rfl) ?_
  refine lv_iconst (v := 1) hx hb dL_law_909 (by decide) ?_
  refine lv_iadd hx hb dL_law_910 ?_
  refine ro_sld MC HS hscr hb0 (i9 + 1) (nI_add i9 1) (by omega) hL dL_law_911 ?_
  refine lv_aload_n hx hb dL_law_912 rfl (lv_at hl 1 rfl) ?_
  refine lv_iload hx hb dL_law_913 (lv_at hl 5 rfl) ?_
  refine lv_iconst (v := 2) hx hb dL_law_915 (by decide) ?_
  refine lv_iadd hx hb dL_law_916 ?_
  refine ro_sld MC HS hscr hb0 (i9 + 2) (nI_add i9 2) (by omega) hL dL_law_917 ?_
  refine lv_aload_n hx hb dL_law_918 rfl (lv_at hl 1 rfl) ?_
  refine lv_iload hx hb dL_law_919 (lv_at hl 5 rfl) ?_
  refine lv_iconst (v := 3) hx hb dL_law_921 (by decide) ?_
  refine lv_iadd hx hb dL_law_922 ?_
  refine ro_sld MC HS hscr hb0 (i9 + 3) (nI_add i9 3) (by omega) hL dL_law_923 ?_
  obtain ⟨RR1, ad1, cn1, nw1, ns1, nl1, nc1, out1, hX1, hI1, had, hM1, h31, hout⟩ := wf_un hX hI hM h30 hp0 hp1
  simp only [ite_self] at hX1 hI1
  have hm := m_nextSpan (l := l) hM1 hI (xs (i9 + 1)) (xs (i9 + 2)) (xs (i9 + 3))
  rw [had 11 (by omega)] at hm
  have hrec1 := mo_recv MC hM1
  rw [had 11 (by omega)] at hrec1
  refine ro_callV MC HS (rest := []) (As := [.int (xs (i9 + 1)), .int (xs (i9 + 2)), .int (xs (i9 + 3))]) hm lkL_146 kw771 kw772 ⟨by show (_ : Nat) ≤ R.frames; exact Nat.le_trans (Nat.le_of_ble_eq_true rfl : _ ≤ 10) hR.1, by show (_ : Nat) ≤ R.locals; exact Nat.le_trans (Nat.le_of_ble_eq_true rfl : _ ≤ 310) hR.2⟩ hrec1 hl.1 rfl (Nat.le_of_ble_eq_true rfl) dL_law_924 ⟨by show cells + 8 + 0 ≤ R.cells; omega, by show slots + 48 + 0 ≤ R.slots; omega⟩ (fun v9 H2 locs2 hp hz2 HS => ?_)
  obtain ⟨rz, rfl, hM2, hrz⟩ := hp
  refine lv_istore (lv' := [(6, .int rz), (5, .int ((th_nextSpan τ (xs (i9 + 1)) (xs (i9 + 2)) (xs (i9 + 3))))), (0, .ref b), (1, .ref (ad 0)), (2, .ref (ad 11)), (3, .ref (ad 30)), (4, .int (nI i9))]) hx hb dL_law_927 hl (by decide) rfl (fun ls hl => ?_)
  refine lv_aload_n hx hb dL_law_929 rfl (lv_at hl 4 rfl) ?_
  have ht := m_thrown (l := l) hM2
  rw [had 11 (by omega)] at ht
  have hrec2 := mo_recv MC hM2
  rw [had 11 (by omega)] at hrec2
  refine ro_callV MC HS (rest := []) (As := []) ht lkL_105 kw689 kw690 ⟨by show 0 + 1 ≤ R.frames; omega, by show 8 + (1 + 11) + 0 ≤ R.locals; omega⟩ hrec2 hl.1 rfl (Nat.le_of_ble_eq_true rfl) dL_law_930 ⟨by show cells + 8 + 0 + 0 ≤ R.cells; omega, by show slots + 48 + 0 + 0 ≤ R.slots; omega⟩ (fun v9 H3 locs3 hp hz3 HS => ?_)
  obtain ⟨rfl, rfl⟩ := hp
  refine lv_iload hx hb dL_law_933 (lv_at hl 1 rfl) ?_
  refine lv_icmp_eq (tgt := 940) hx hb dL_law_935 (by decide) (fun c_935 => ?_) (fun c_935 => absurd (rfl) c_935)
  refine lv_iload hx hb dL_law_940 (lv_at hl 1 rfl) ?_
  refine lv_if_ne (tgt := 957) hx hb dL_law_942 (by decide) (fun c_942 => ?_) (fun c_942 => ?_)
  · refine lv_goto (tgt := 1760) hx hb dL_law_957 (by decide) ?_
    exact kk _ _ ls (bw.of hX1 hI1 h31 hM2 (had 0 (by omega)) (had 11 (by omega)) (had 30 (by omega))) HS (lv_sub hl [2, 3, 4, 5, 6] rfl)
  · refine lv_aload_n hx hb dL_law_945 rfl (lv_at hl 5 rfl) ?_
    refine lv_iconst (v := 0) hx hb dL_law_946 (by decide) ?_
    obtain ⟨cn2, HP2, -, hfr2, hRR2⟩ := id hM2
    refine ro_laldE MC HP2 (had 30 (by omega)) (hRR2 30 (by omega)) ((hfr2 30 (by omega)).trans h31) (vp_in_nI (n := 0) (N := 1) (by omega) (by omega)) dL_law_947 ?_
    refine lv_iload hx hb dL_law_948 (lv_at hl 0 rfl) ?_
    refine lv_i2l hx hb dL_law_950 rfl ?_
    refine W.lcmp hx hb dL_law_951 ?_
    rw [show lg_cmp (out1 (Int32.toNatClampNeg 0)) ((rz).toInt64) = 0 by show lg_cmp (out1 0) _ = 0; rw [hout c_942, hrz c_942]; exact lg_self _]
    refine lv_if_eq (tgt := 957) hx hb dL_law_952 (by decide) (fun c_952 => ?_) (fun c_952 => absurd c_952 (by decide))
    refine lv_goto (tgt := 1760) hx hb dL_law_957 (by decide) ?_
    exact kk _ _ ls (bw.of hX1 hI1 h31 hM2 (had 0 (by omega)) (had 11 (by omega)) (had 30 (by omega))) HS (lv_sub hl [2, 3, 4, 5, 6] rfl)
set_option maxHeartbeats 4000000 in
set_option maxRecDepth 100000 in
theorem l_plan {p : Program} {l : Launch} (hl9 : l.stackTraces = false) {e : Env} {R : Room} {s : State} {m : MethodId} {args : Array Value} {below : List Frame} {meth : Method} {c : Code} {H : Heap} {locs : List Loc} {cells slots : Nat} {Q : State → Prop} {D : va_G} {ids : Nat → ClassId} {n0 b L a0 a11 a30 i9 : Nat} {xs : Nat → Int32} (MC : ro_C p s m args meth c cL_law 7 "FrostCalendarLaw" D ids n0) (HS : va_S (fun q => n0 ≤ q) s.heap H locs) (hw : bw D ids n0 a0 a11 a30 H) (hscr : va_X b L xs s s.heap) (hb0 : b < n0) (hL : L ≤ 3072) (hi : i9 + 6 ≤ L) (hR : 10 ≤ R.frames ∧ 310 ≤ R.locals) (hcl : cells + 8 ≤ R.cells) (hsl : slots + 48 ≤ R.slots) {ls : Array Slot} (hl : lv_has ls 7 [(0, .ref b), (1, .ref a0), (2, .ref a11), (3, .ref a30), (4, .int (nI i9))])
    (kk : ∀ (H1 : Heap) (locs1 : List Loc) (ls1 : Array Slot), bw D ids n0 a0 a11 a30 H1 → va_S (fun q => n0 ≤ q) s.heap H1 locs1 → lv_has ls1 7 [(0, .ref b), (1, .ref a0), (2, .ref a11), (3, .ref a30), (4, .int (nI i9))] → W p l e R s m args below meth c H1 locs1 (cells + 8) (slots + 48) Q (F0 m 1760 ls1 [])) : W p l e R s m args below meth c H locs cells slots Q (F0 m 960 ls []) := by
  have hx := MC.1.1
  have hb := MC.1.2.1
  obtain ⟨RR, ad, cn, τ, th0, nw, ns, nl, nc, out, hX, hI, hM, h30, rfl, rfl, rfl⟩ := hw
  refine lv_aload_n hx hb dL_law_960 rfl (lv_at hl 1 rfl) ?_
  refine lv_aload_n hx hb dL_law_961 rfl (lv_at hl 0 rfl) ?_
  refine lv_iload hx hb dL_law_962 (lv_at hl 4 rfl) ?_
  refine lv_iconst (v := 1) hx hb dL_law_964 (by decide) ?_
  refine lv_iadd hx hb dL_law_965 ?_
  refine ro_sld MC HS hscr hb0 (i9 + 1) (nI_add i9 1) (by omega) hL dL_law_966 ?_
  refine lv_aload_n hx hb dL_law_967 rfl (lv_at hl 0 rfl) ?_
  refine lv_iload hx hb dL_law_968 (lv_at hl 4 rfl) ?_
  refine lv_iconst (v := 2) hx hb dL_law_970 (by decide) ?_
  refine lv_iadd hx hb dL_law_971 ?_
  refine ro_sld MC HS hscr hb0 (i9 + 2) (nI_add i9 2) (by omega) hL dL_law_972 ?_
  refine lv_aload_n hx hb dL_law_973 rfl (lv_at hl 0 rfl) ?_
  refine lv_iload hx hb dL_law_974 (lv_at hl 4 rfl) ?_
  refine lv_iconst (v := 3) hx hb dL_law_976 (by decide) ?_
  refine lv_iadd hx hb dL_law_977 ?_
  refine ro_sld MC HS hscr hb0 (i9 + 3) (nI_add i9 3) (by omega) hL dL_law_978 ?_
  refine lv_aload_n hx hb dL_law_979 rfl (lv_at hl 0 rfl) ?_
  refine lv_iload hx hb dL_law_980 (lv_at hl 4 rfl) ?_
  refine lv_iconst (v := 4) hx hb dL_law_982 (by decide) ?_
  refine lv_iadd hx hb dL_law_983 ?_
  refine ro_sld MC HS hscr hb0 (i9 + 4) (nI_add i9 4) (by omega) hL dL_law_984 ?_
  refine lv_aload_n hx hb dL_law_985 rfl (lv_at hl 3 rfl) ?_
  refine ro_callW MC HS (rest := []) (As := [.ref (ad 0), .int (xs (i9 + 1)), .int (xs (i9 + 2)), .int (xs (i9 + 3)), .int (xs (i9 + 4)), .ref (ad 30)]) (w_plan hl9 hX hI h30) lw_147 ⟨by show 9 + 1 ≤ R.frames; omega, by show 8 + (7 + 11) + 280 ≤ R.locals; omega⟩ hl.1 rfl (Nat.le_of_ble_eq_true rfl) dL_law_986 ⟨hcl, hsl⟩ (fun v9 H1 locs1 hp hz1 HS => ?_)
  obtain ⟨rfl, hp0, hp1⟩ := hp
  refine lv_istore (lv' := [(5, .int ((th_plan τ (xs (i9 + 1)) (xs (i9 + 2)) (xs (i9 + 3)) (xs (i9 + 4))))), (0, .ref b), (1, .ref (ad 0)), (2, .ref (ad 11)), (3, .ref (ad 30)), (4, .int (nI i9))]) hx hb dL_law_989 hl (by decide) rfl (fun ls hl => ?_)
  refine lv_aload_n hx hb dL_law_991 rfl (lv_at hl 3 rfl) ?_
  refine lv_aload_n hx hb dL_law_992 rfl (lv_at hl 1 rfl) ?_
  refine lv_iload hx hb dL_law_993 (lv_at hl 5 rfl) ?_
  refine lv_iconst (v := 1) hx hb dL_law_995 (by decide) ?_
  refine lv_iadd hx hb dL_law_996 ?_
  refine ro_sld MC HS hscr hb0 (i9 + 1) (nI_add i9 1) (by omega) hL dL_law_997 ?_
  refine lv_aload_n hx hb dL_law_998 rfl (lv_at hl 1 rfl) ?_
  refine lv_iload hx hb dL_law_999 (lv_at hl 5 rfl) ?_
  refine lv_iconst (v := 2) hx hb dL_law_1001 (by decide) ?_
  refine lv_iadd hx hb dL_law_1002 ?_
  refine ro_sld MC HS hscr hb0 (i9 + 2) (nI_add i9 2) (by omega) hL dL_law_1003 ?_
  refine lv_aload_n hx hb dL_law_1004 rfl (lv_at hl 1 rfl) ?_
  refine lv_iload hx hb dL_law_1005 (lv_at hl 5 rfl) ?_
  refine lv_iconst (v := 3) hx hb dL_law_1007 (by decide) ?_
  refine lv_iadd hx hb dL_law_1008 ?_
  refine ro_sld MC HS hscr hb0 (i9 + 3) (nI_add i9 3) (by omega) hL dL_law_1009 ?_
  refine lv_aload_n hx hb dL_law_1010 rfl (lv_at hl 1 rfl) ?_
  refine lv_iload hx hb dL_law_1011 (lv_at hl 5 rfl) ?_
  refine lv_iconst (v := 4) hx hb dL_law_1013 (by decide) ?_
  refine lv_iadd hx hb dL_law_1014 ?_
  refine ro_sld MC HS hscr hb0 (i9 + 4) (nI_add i9 4) (by omega) hL dL_law_1015 ?_
  obtain ⟨RR1, ad1, cn1, nw1, ns1, nl1, nc1, out1, hX1, hI1, had, hM1, h31, hout⟩ := wf_un hX hI hM h30 hp0 hp1
  have hm := m_plan (l := l) hM1 hI (xs (i9 + 1)) (xs (i9 + 2)) (xs (i9 + 3)) (xs (i9 + 4))
  rw [had 11 (by omega)] at hm
  have hrec1 := mo_recv MC hM1
  rw [had 11 (by omega)] at hrec1
  refine ro_callV MC HS (rest := []) (As := [.int (xs (i9 + 1)), .int (xs (i9 + 2)), .int (xs (i9 + 3)), .int (xs (i9 + 4))]) hm lkL_149 kw775 kw776 ⟨by show (_ : Nat) ≤ R.frames; exact Nat.le_trans (Nat.le_of_ble_eq_true rfl : _ ≤ 10) hR.1, by show (_ : Nat) ≤ R.locals; exact Nat.le_trans (Nat.le_of_ble_eq_true rfl : _ ≤ 310) hR.2⟩ hrec1 hl.1 rfl (Nat.le_of_ble_eq_true rfl) dL_law_1016 ⟨by show cells + 8 + 0 ≤ R.cells; omega, by show slots + 48 + 0 ≤ R.slots; omega⟩ (fun v9 H2 locs2 hp hz2 HS => ?_)
  obtain ⟨rz, rfl, hM2, hrz⟩ := hp
  refine lv_istore (lv' := [(6, .int rz), (5, .int ((th_plan τ (xs (i9 + 1)) (xs (i9 + 2)) (xs (i9 + 3)) (xs (i9 + 4))))), (0, .ref b), (1, .ref (ad 0)), (2, .ref (ad 11)), (3, .ref (ad 30)), (4, .int (nI i9))]) hx hb dL_law_1019 hl (by decide) rfl (fun ls hl => ?_)
  refine lv_aload_n hx hb dL_law_1021 rfl (lv_at hl 4 rfl) ?_
  have ht := m_thrown (l := l) hM2
  rw [had 11 (by omega)] at ht
  have hrec2 := mo_recv MC hM2
  rw [had 11 (by omega)] at hrec2
  refine ro_callV MC HS (rest := []) (As := []) ht lkL_105 kw689 kw690 ⟨by show 0 + 1 ≤ R.frames; omega, by show 8 + (1 + 11) + 0 ≤ R.locals; omega⟩ hrec2 hl.1 rfl (Nat.le_of_ble_eq_true rfl) dL_law_1022 ⟨by show cells + 8 + 0 + 0 ≤ R.cells; omega, by show slots + 48 + 0 + 0 ≤ R.slots; omega⟩ (fun v9 H3 locs3 hp hz3 HS => ?_)
  obtain ⟨rfl, rfl⟩ := hp
  refine lv_iload hx hb dL_law_1025 (lv_at hl 1 rfl) ?_
  refine lv_icmp_eq (tgt := 1032) hx hb dL_law_1027 (by decide) (fun c_1027 => ?_) (fun c_1027 => absurd (rfl) c_1027)
  refine lv_iload hx hb dL_law_1032 (lv_at hl 1 rfl) ?_
  refine lv_if_ne (tgt := 1049) hx hb dL_law_1034 (by decide) (fun c_1034 => ?_) (fun c_1034 => ?_)
  · refine lv_goto (tgt := 1760) hx hb dL_law_1049 (by decide) ?_
    exact kk _ _ ls (bw.of hX1 hI1 h31 hM2 (had 0 (by omega)) (had 11 (by omega)) (had 30 (by omega))) HS (lv_sub hl [2, 3, 4, 5, 6] rfl)
  · refine lv_aload_n hx hb dL_law_1037 rfl (lv_at hl 5 rfl) ?_
    refine lv_iconst (v := 0) hx hb dL_law_1038 (by decide) ?_
    obtain ⟨cn2, HP2, -, hfr2, hRR2⟩ := id hM2
    refine ro_laldE MC HP2 (had 30 (by omega)) (hRR2 30 (by omega)) ((hfr2 30 (by omega)).trans h31) (vp_in_nI (n := 0) (N := 1) (by omega) (by omega)) dL_law_1039 ?_
    refine lv_iload hx hb dL_law_1040 (lv_at hl 0 rfl) ?_
    refine lv_i2l hx hb dL_law_1042 rfl ?_
    refine W.lcmp hx hb dL_law_1043 ?_
    rw [show lg_cmp (out1 (Int32.toNatClampNeg 0)) ((rz).toInt64) = 0 by show lg_cmp (out1 0) _ = 0; rw [hout c_1034, hrz c_1034]; exact lg_self _]
    refine lv_if_eq (tgt := 1049) hx hb dL_law_1044 (by decide) (fun c_1044 => ?_) (fun c_1044 => absurd c_1044 (by decide))
    refine lv_goto (tgt := 1760) hx hb dL_law_1049 (by decide) ?_
    exact kk _ _ ls (bw.of hX1 hI1 h31 hM2 (had 0 (by omega)) (had 11 (by omega)) (had 30 (by omega))) HS (lv_sub hl [2, 3, 4, 5, 6] rfl)
set_option maxHeartbeats 4000000 in
set_option maxRecDepth 100000 in
theorem l_move {p : Program} {l : Launch} (hl9 : l.stackTraces = false) {e : Env} {R : Room} {s : State} {m : MethodId} {args : Array Value} {below : List Frame} {meth : Method} {c : Code} {H : Heap} {locs : List Loc} {cells slots : Nat} {Q : State → Prop} {D : va_G} {ids : Nat → ClassId} {n0 b L a0 a11 a30 i9 : Nat} {xs : Nat → Int32} (MC : ro_C p s m args meth c cL_law 7 "FrostCalendarLaw" D ids n0) (HS : va_S (fun q => n0 ≤ q) s.heap H locs) (hw : bw D ids n0 a0 a11 a30 H) (hscr : va_X b L xs s s.heap) (hb0 : b < n0) (hL : L ≤ 3072) (hi : i9 + 6 ≤ L) (hR : 10 ≤ R.frames ∧ 310 ≤ R.locals) (hcl : cells + 8 ≤ R.cells) (hsl : slots + 48 ≤ R.slots) {ls : Array Slot} (hl : lv_has ls 7 [(0, .ref b), (1, .ref a0), (2, .ref a11), (3, .ref a30), (4, .int (nI i9))])
    (kk : ∀ (H1 : Heap) (locs1 : List Loc) (ls1 : Array Slot), bw D ids n0 a0 a11 a30 H1 → va_S (fun q => n0 ≤ q) s.heap H1 locs1 → lv_has ls1 7 [(0, .ref b), (1, .ref a0), (2, .ref a11), (3, .ref a30), (4, .int (nI i9))] → W p l e R s m args below meth c H1 locs1 (cells + 8) (slots + 48) Q (F0 m 1760 ls1 [])) : W p l e R s m args below meth c H locs cells slots Q (F0 m 1052 ls []) := by
  have hx := MC.1.1
  have hb := MC.1.2.1
  obtain ⟨RR, ad, cn, τ, th0, nw, ns, nl, nc, out, hX, hI, hM, h30, rfl, rfl, rfl⟩ := hw
  refine lv_aload_n hx hb dL_law_1052 rfl (lv_at hl 1 rfl) ?_
  refine lv_aload_n hx hb dL_law_1053 rfl (lv_at hl 0 rfl) ?_
  refine lv_iload hx hb dL_law_1054 (lv_at hl 4 rfl) ?_
  refine lv_iconst (v := 1) hx hb dL_law_1056 (by decide) ?_
  refine lv_iadd hx hb dL_law_1057 ?_
  refine ro_sld MC HS hscr hb0 (i9 + 1) (nI_add i9 1) (by omega) hL dL_law_1058 ?_
  refine lv_aload_n hx hb dL_law_1059 rfl (lv_at hl 0 rfl) ?_
  refine lv_iload hx hb dL_law_1060 (lv_at hl 4 rfl) ?_
  refine lv_iconst (v := 2) hx hb dL_law_1062 (by decide) ?_
  refine lv_iadd hx hb dL_law_1063 ?_
  refine ro_sld MC HS hscr hb0 (i9 + 2) (nI_add i9 2) (by omega) hL dL_law_1064 ?_
  refine lv_aload_n hx hb dL_law_1065 rfl (lv_at hl 3 rfl) ?_
  refine ro_callW MC HS (rest := []) (As := [.ref (ad 0), .int (xs (i9 + 1)), .int (xs (i9 + 2)), .ref (ad 30)]) (w_move hl9 hX hI h30) lw_150 ⟨by show 9 + 1 ≤ R.frames; omega, by show 8 + (5 + 11) + 280 ≤ R.locals; omega⟩ hl.1 rfl (Nat.le_of_ble_eq_true rfl) dL_law_1066 ⟨hcl, hsl⟩ (fun v9 H1 locs1 hp hz1 HS => ?_)
  obtain ⟨rfl, hp0, hp1⟩ := hp
  refine lv_istore (lv' := [(5, .int ((th_move τ (xs (i9 + 1)) (xs (i9 + 2))))), (0, .ref b), (1, .ref (ad 0)), (2, .ref (ad 11)), (3, .ref (ad 30)), (4, .int (nI i9))]) hx hb dL_law_1069 hl (by decide) rfl (fun ls hl => ?_)
  refine lv_aload_n hx hb dL_law_1071 rfl (lv_at hl 3 rfl) ?_
  refine lv_aload_n hx hb dL_law_1072 rfl (lv_at hl 1 rfl) ?_
  refine lv_iload hx hb dL_law_1073 (lv_at hl 5 rfl) ?_
  refine lv_iconst (v := 1) hx hb dL_law_1075 (by decide) ?_
  refine lv_iadd hx hb dL_law_1076 ?_
  refine ro_sld MC HS hscr hb0 (i9 + 1) (nI_add i9 1) (by omega) hL dL_law_1077 ?_
  refine lv_aload_n hx hb dL_law_1078 rfl (lv_at hl 1 rfl) ?_
  refine lv_iload hx hb dL_law_1079 (lv_at hl 5 rfl) ?_
  refine lv_iconst (v := 2) hx hb dL_law_1081 (by decide) ?_
  refine lv_iadd hx hb dL_law_1082 ?_
  refine ro_sld MC HS hscr hb0 (i9 + 2) (nI_add i9 2) (by omega) hL dL_law_1083 ?_
  obtain ⟨RR1, ad1, cn1, nw1, ns1, nl1, nc1, out1, hX1, hI1, had, hM1, h31, hout⟩ := wf_un hX hI hM h30 hp0 hp1
  have hI2 := Iv.mv hI hI1
  have hm := m_move (l := l) hM1 hI (xs (i9 + 1)) (xs (i9 + 2)) hI2
  rw [had 11 (by omega)] at hm
  have hrec1 := mo_recv MC hM1
  rw [had 11 (by omega)] at hrec1
  refine ro_callV MC HS (rest := []) (As := [.int (xs (i9 + 1)), .int (xs (i9 + 2))]) hm lkL_152 kw783 kw784 ⟨by show (_ : Nat) ≤ R.frames; exact Nat.le_trans (Nat.le_of_ble_eq_true rfl : _ ≤ 10) hR.1, by show (_ : Nat) ≤ R.locals; exact Nat.le_trans (Nat.le_of_ble_eq_true rfl : _ ≤ 310) hR.2⟩ hrec1 hl.1 rfl (Nat.le_of_ble_eq_true rfl) dL_law_1084 ⟨by show cells + 8 + 0 ≤ R.cells; omega, by show slots + 48 + 0 ≤ R.slots; omega⟩ (fun v9 H2 locs2 hp hz2 HS => ?_)
  obtain ⟨rz, rfl, hM2, hrz⟩ := hp
  refine lv_istore (lv' := [(6, .int rz), (5, .int ((th_move τ (xs (i9 + 1)) (xs (i9 + 2))))), (0, .ref b), (1, .ref (ad 0)), (2, .ref (ad 11)), (3, .ref (ad 30)), (4, .int (nI i9))]) hx hb dL_law_1087 hl (by decide) rfl (fun ls hl => ?_)
  refine lv_aload_n hx hb dL_law_1089 rfl (lv_at hl 4 rfl) ?_
  have ht := m_thrown (l := l) hM2
  rw [had 11 (by omega)] at ht
  have hrec2 := mo_recv MC hM2
  rw [had 11 (by omega)] at hrec2
  refine ro_callV MC HS (rest := []) (As := []) ht lkL_105 kw689 kw690 ⟨by show 0 + 1 ≤ R.frames; omega, by show 8 + (1 + 11) + 0 ≤ R.locals; omega⟩ hrec2 hl.1 rfl (Nat.le_of_ble_eq_true rfl) dL_law_1090 ⟨by show cells + 8 + 0 + 0 ≤ R.cells; omega, by show slots + 48 + 0 + 0 ≤ R.slots; omega⟩ (fun v9 H3 locs3 hp hz3 HS => ?_)
  obtain ⟨rfl, rfl⟩ := hp
  refine lv_iload hx hb dL_law_1093 (lv_at hl 1 rfl) ?_
  refine lv_icmp_eq (tgt := 1100) hx hb dL_law_1095 (by decide) (fun c_1095 => ?_) (fun c_1095 => absurd (rfl) c_1095)
  refine lv_iload hx hb dL_law_1100 (lv_at hl 1 rfl) ?_
  refine lv_if_ne (tgt := 1117) hx hb dL_law_1102 (by decide) (fun c_1102 => ?_) (fun c_1102 => ?_)
  · refine lv_goto (tgt := 1760) hx hb dL_law_1117 (by decide) ?_
    exact kk _ _ ls (bw.of hX1 hI1 h31 hM2 (had 0 (by omega)) (had 11 (by omega)) (had 30 (by omega))) HS (lv_sub hl [2, 3, 4, 5, 6] rfl)
  · refine lv_aload_n hx hb dL_law_1105 rfl (lv_at hl 5 rfl) ?_
    refine lv_iconst (v := 0) hx hb dL_law_1106 (by decide) ?_
    obtain ⟨cn2, HP2, -, hfr2, hRR2⟩ := id hM2
    refine ro_laldE MC HP2 (had 30 (by omega)) (hRR2 30 (by omega)) ((hfr2 30 (by omega)).trans h31) (vp_in_nI (n := 0) (N := 1) (by omega) (by omega)) dL_law_1107 ?_
    refine lv_iload hx hb dL_law_1108 (lv_at hl 0 rfl) ?_
    refine lv_i2l hx hb dL_law_1110 rfl ?_
    refine W.lcmp hx hb dL_law_1111 ?_
    rw [show lg_cmp (out1 (Int32.toNatClampNeg 0)) ((rz).toInt64) = 0 by show lg_cmp (out1 0) _ = 0; rw [hout c_1102, hrz c_1102]; exact lg_self _]
    refine lv_if_eq (tgt := 1117) hx hb dL_law_1112 (by decide) (fun c_1112 => ?_) (fun c_1112 => absurd c_1112 (by decide))
    refine lv_goto (tgt := 1760) hx hb dL_law_1117 (by decide) ?_
    exact kk _ _ ls (bw.of hX1 hI1 h31 hM2 (had 0 (by omega)) (had 11 (by omega)) (had 30 (by omega))) HS (lv_sub hl [2, 3, 4, 5, 6] rfl)
set_option maxHeartbeats 4000000 in
set_option maxRecDepth 100000 in
theorem l_approve {p : Program} {l : Launch} (hl9 : l.stackTraces = false) {e : Env} {R : Room} {s : State} {m : MethodId} {args : Array Value} {below : List Frame} {meth : Method} {c : Code} {H : Heap} {locs : List Loc} {cells slots : Nat} {Q : State → Prop} {D : va_G} {ids : Nat → ClassId} {n0 b L a0 a11 a30 i9 : Nat} {xs : Nat → Int32} (MC : ro_C p s m args meth c cL_law 7 "FrostCalendarLaw" D ids n0) (HS : va_S (fun q => n0 ≤ q) s.heap H locs) (hw : bw D ids n0 a0 a11 a30 H) (hscr : va_X b L xs s s.heap) (hb0 : b < n0) (hL : L ≤ 3072) (hi : i9 + 6 ≤ L) (hR : 10 ≤ R.frames ∧ 310 ≤ R.locals) (hcl : cells + 8 ≤ R.cells) (hsl : slots + 48 ≤ R.slots) {ls : Array Slot} (hl : lv_has ls 7 [(0, .ref b), (1, .ref a0), (2, .ref a11), (3, .ref a30), (4, .int (nI i9))])
    (kk : ∀ (H1 : Heap) (locs1 : List Loc) (ls1 : Array Slot), bw D ids n0 a0 a11 a30 H1 → va_S (fun q => n0 ≤ q) s.heap H1 locs1 → lv_has ls1 7 [(0, .ref b), (1, .ref a0), (2, .ref a11), (3, .ref a30), (4, .int (nI i9))] → W p l e R s m args below meth c H1 locs1 (cells + 8) (slots + 48) Q (F0 m 1760 ls1 [])) : W p l e R s m args below meth c H locs cells slots Q (F0 m 1120 ls []) := by
  have hx := MC.1.1
  have hb := MC.1.2.1
  obtain ⟨RR, ad, cn, τ, th0, nw, ns, nl, nc, out, hX, hI, hM, h30, rfl, rfl, rfl⟩ := hw
  refine lv_aload_n hx hb dL_law_1120 rfl (lv_at hl 1 rfl) ?_
  refine lv_aload_n hx hb dL_law_1121 rfl (lv_at hl 0 rfl) ?_
  refine lv_iload hx hb dL_law_1122 (lv_at hl 4 rfl) ?_
  refine lv_iconst (v := 1) hx hb dL_law_1124 (by decide) ?_
  refine lv_iadd hx hb dL_law_1125 ?_
  refine ro_sld MC HS hscr hb0 (i9 + 1) (nI_add i9 1) (by omega) hL dL_law_1126 ?_
  refine lv_aload_n hx hb dL_law_1127 rfl (lv_at hl 3 rfl) ?_
  refine ro_callW MC HS (rest := []) (As := [.ref (ad 0), .int (xs (i9 + 1)), .ref (ad 30)]) (w_approve hl9 hX hI h30) lw_153 ⟨by show 9 + 1 ≤ R.frames; omega, by show 8 + (4 + 11) + 280 ≤ R.locals; omega⟩ hl.1 rfl (Nat.le_of_ble_eq_true rfl) dL_law_1128 ⟨hcl, hsl⟩ (fun v9 H1 locs1 hp hz1 HS => ?_)
  obtain ⟨rfl, hp0, hp1⟩ := hp
  refine lv_istore (lv' := [(5, .int ((th_approve τ (xs (i9 + 1))))), (0, .ref b), (1, .ref (ad 0)), (2, .ref (ad 11)), (3, .ref (ad 30)), (4, .int (nI i9))]) hx hb dL_law_1131 hl (by decide) rfl (fun ls hl => ?_)
  refine lv_aload_n hx hb dL_law_1133 rfl (lv_at hl 3 rfl) ?_
  refine lv_aload_n hx hb dL_law_1134 rfl (lv_at hl 1 rfl) ?_
  refine lv_iload hx hb dL_law_1135 (lv_at hl 5 rfl) ?_
  refine lv_iconst (v := 1) hx hb dL_law_1137 (by decide) ?_
  refine lv_iadd hx hb dL_law_1138 ?_
  refine ro_sld MC HS hscr hb0 (i9 + 1) (nI_add i9 1) (by omega) hL dL_law_1139 ?_
  obtain ⟨RR1, ad1, cn1, nw1, ns1, nl1, nc1, out1, hX1, hI1, had, hM1, h31, hout⟩ := wf_un hX hI hM h30 hp0 hp1
  have hm := m_approve (l := l) hM1 hI (xs (i9 + 1))
  rw [had 11 (by omega)] at hm
  have hrec1 := mo_recv MC hM1
  rw [had 11 (by omega)] at hrec1
  refine ro_callV MC HS (rest := []) (As := [.int (xs (i9 + 1))]) hm lkL_155 kw803 kw804 ⟨by show (_ : Nat) ≤ R.frames; exact Nat.le_trans (Nat.le_of_ble_eq_true rfl : _ ≤ 10) hR.1, by show (_ : Nat) ≤ R.locals; exact Nat.le_trans (Nat.le_of_ble_eq_true rfl : _ ≤ 310) hR.2⟩ hrec1 hl.1 rfl (Nat.le_of_ble_eq_true rfl) dL_law_1140 ⟨by show cells + 8 + 0 ≤ R.cells; omega, by show slots + 48 + 0 ≤ R.slots; omega⟩ (fun v9 H2 locs2 hp hz2 HS => ?_)
  obtain ⟨rz, rfl, hM2, hrz⟩ := hp
  refine lv_istore (lv' := [(6, .int rz), (5, .int ((th_approve τ (xs (i9 + 1))))), (0, .ref b), (1, .ref (ad 0)), (2, .ref (ad 11)), (3, .ref (ad 30)), (4, .int (nI i9))]) hx hb dL_law_1143 hl (by decide) rfl (fun ls hl => ?_)
  refine lv_aload_n hx hb dL_law_1145 rfl (lv_at hl 4 rfl) ?_
  have ht := m_thrown (l := l) hM2
  rw [had 11 (by omega)] at ht
  have hrec2 := mo_recv MC hM2
  rw [had 11 (by omega)] at hrec2
  refine ro_callV MC HS (rest := []) (As := []) ht lkL_105 kw689 kw690 ⟨by show 0 + 1 ≤ R.frames; omega, by show 8 + (1 + 11) + 0 ≤ R.locals; omega⟩ hrec2 hl.1 rfl (Nat.le_of_ble_eq_true rfl) dL_law_1146 ⟨by show cells + 8 + 0 + 0 ≤ R.cells; omega, by show slots + 48 + 0 + 0 ≤ R.slots; omega⟩ (fun v9 H3 locs3 hp hz3 HS => ?_)
  obtain ⟨rfl, rfl⟩ := hp
  refine lv_iload hx hb dL_law_1149 (lv_at hl 1 rfl) ?_
  refine lv_icmp_eq (tgt := 1156) hx hb dL_law_1151 (by decide) (fun c_1151 => ?_) (fun c_1151 => absurd (rfl) c_1151)
  refine lv_iload hx hb dL_law_1156 (lv_at hl 1 rfl) ?_
  refine lv_if_ne (tgt := 1173) hx hb dL_law_1158 (by decide) (fun c_1158 => ?_) (fun c_1158 => ?_)
  · refine lv_goto (tgt := 1760) hx hb dL_law_1173 (by decide) ?_
    exact kk _ _ ls (bw.of hX1 hI1 h31 hM2 (had 0 (by omega)) (had 11 (by omega)) (had 30 (by omega))) HS (lv_sub hl [2, 3, 4, 5, 6] rfl)
  · refine lv_aload_n hx hb dL_law_1161 rfl (lv_at hl 5 rfl) ?_
    refine lv_iconst (v := 0) hx hb dL_law_1162 (by decide) ?_
    obtain ⟨cn2, HP2, -, hfr2, hRR2⟩ := id hM2
    refine ro_laldE MC HP2 (had 30 (by omega)) (hRR2 30 (by omega)) ((hfr2 30 (by omega)).trans h31) (vp_in_nI (n := 0) (N := 1) (by omega) (by omega)) dL_law_1163 ?_
    refine lv_iload hx hb dL_law_1164 (lv_at hl 0 rfl) ?_
    refine lv_i2l hx hb dL_law_1166 rfl ?_
    refine W.lcmp hx hb dL_law_1167 ?_
    rw [show lg_cmp (out1 (Int32.toNatClampNeg 0)) ((rz).toInt64) = 0 by show lg_cmp (out1 0) _ = 0; rw [hout c_1158, hrz c_1158]; exact lg_self _]
    refine lv_if_eq (tgt := 1173) hx hb dL_law_1168 (by decide) (fun c_1168 => ?_) (fun c_1168 => absurd c_1168 (by decide))
    refine lv_goto (tgt := 1760) hx hb dL_law_1173 (by decide) ?_
    exact kk _ _ ls (bw.of hX1 hI1 h31 hM2 (had 0 (by omega)) (had 11 (by omega)) (had 30 (by omega))) HS (lv_sub hl [2, 3, 4, 5, 6] rfl)
set_option maxHeartbeats 4000000 in
set_option maxRecDepth 100000 in
theorem l_begin {p : Program} {l : Launch} (hl9 : l.stackTraces = false) {e : Env} {R : Room} {s : State} {m : MethodId} {args : Array Value} {below : List Frame} {meth : Method} {c : Code} {H : Heap} {locs : List Loc} {cells slots : Nat} {Q : State → Prop} {D : va_G} {ids : Nat → ClassId} {n0 b L a0 a11 a30 i9 : Nat} {xs : Nat → Int32} (MC : ro_C p s m args meth c cL_law 7 "FrostCalendarLaw" D ids n0) (HS : va_S (fun q => n0 ≤ q) s.heap H locs) (hw : bw D ids n0 a0 a11 a30 H) (hscr : va_X b L xs s s.heap) (hb0 : b < n0) (hL : L ≤ 3072) (hi : i9 + 6 ≤ L) (hR : 10 ≤ R.frames ∧ 310 ≤ R.locals) (hcl : cells + 8 ≤ R.cells) (hsl : slots + 48 ≤ R.slots) {ls : Array Slot} (hl : lv_has ls 7 [(0, .ref b), (1, .ref a0), (2, .ref a11), (3, .ref a30), (4, .int (nI i9))])
    (kk : ∀ (H1 : Heap) (locs1 : List Loc) (ls1 : Array Slot), bw D ids n0 a0 a11 a30 H1 → va_S (fun q => n0 ≤ q) s.heap H1 locs1 → lv_has ls1 7 [(0, .ref b), (1, .ref a0), (2, .ref a11), (3, .ref a30), (4, .int (nI i9))] → W p l e R s m args below meth c H1 locs1 (cells + 8) (slots + 48) Q (F0 m 1760 ls1 [])) : W p l e R s m args below meth c H locs cells slots Q (F0 m 1176 ls []) := by
  have hx := MC.1.1
  have hb := MC.1.2.1
  obtain ⟨RR, ad, cn, τ, th0, nw, ns, nl, nc, out, hX, hI, hM, h30, rfl, rfl, rfl⟩ := hw
  refine lv_aload_n hx hb dL_law_1176 rfl (lv_at hl 1 rfl) ?_
  refine lv_aload_n hx hb dL_law_1177 rfl (lv_at hl 0 rfl) ?_
  refine lv_iload hx hb dL_law_1178 (lv_at hl 4 rfl) ?_
  refine lv_iconst (v := 1) hx hb dL_law_1180 (by decide) ?_
  refine lv_iadd hx hb dL_law_1181 ?_
  refine ro_sld MC HS hscr hb0 (i9 + 1) (nI_add i9 1) (by omega) hL dL_law_1182 ?_
  refine lv_aload_n hx hb dL_law_1183 rfl (lv_at hl 3 rfl) ?_
  refine ro_callW MC HS (rest := []) (As := [.ref (ad 0), .int (xs (i9 + 1)), .ref (ad 30)]) (w_begin hl9 hX hI h30) lw_156 ⟨by show 9 + 1 ≤ R.frames; omega, by show 8 + (4 + 11) + 280 ≤ R.locals; omega⟩ hl.1 rfl (Nat.le_of_ble_eq_true rfl) dL_law_1184 ⟨hcl, hsl⟩ (fun v9 H1 locs1 hp hz1 HS => ?_)
  obtain ⟨rfl, hp0, hp1⟩ := hp
  refine lv_istore (lv' := [(5, .int ((th_begin τ (xs (i9 + 1))))), (0, .ref b), (1, .ref (ad 0)), (2, .ref (ad 11)), (3, .ref (ad 30)), (4, .int (nI i9))]) hx hb dL_law_1187 hl (by decide) rfl (fun ls hl => ?_)
  refine lv_aload_n hx hb dL_law_1189 rfl (lv_at hl 3 rfl) ?_
  refine lv_aload_n hx hb dL_law_1190 rfl (lv_at hl 1 rfl) ?_
  refine lv_iload hx hb dL_law_1191 (lv_at hl 5 rfl) ?_
  refine lv_iconst (v := 1) hx hb dL_law_1193 (by decide) ?_
  refine lv_iadd hx hb dL_law_1194 ?_
  refine ro_sld MC HS hscr hb0 (i9 + 1) (nI_add i9 1) (by omega) hL dL_law_1195 ?_
  obtain ⟨RR1, ad1, cn1, nw1, ns1, nl1, nc1, out1, hX1, hI1, had, hM1, h31, hout⟩ := wf_un hX hI hM h30 hp0 hp1
  have hm := m_begin (l := l) hM1 hI (xs (i9 + 1))
  rw [had 11 (by omega)] at hm
  have hrec1 := mo_recv MC hM1
  rw [had 11 (by omega)] at hrec1
  refine ro_callV MC HS (rest := []) (As := [.int (xs (i9 + 1))]) hm lkL_158 kw807 kw808 ⟨by show (_ : Nat) ≤ R.frames; exact Nat.le_trans (Nat.le_of_ble_eq_true rfl : _ ≤ 10) hR.1, by show (_ : Nat) ≤ R.locals; exact Nat.le_trans (Nat.le_of_ble_eq_true rfl : _ ≤ 310) hR.2⟩ hrec1 hl.1 rfl (Nat.le_of_ble_eq_true rfl) dL_law_1196 ⟨by show cells + 8 + 0 ≤ R.cells; omega, by show slots + 48 + 0 ≤ R.slots; omega⟩ (fun v9 H2 locs2 hp hz2 HS => ?_)
  obtain ⟨rz, rfl, hM2, hrz⟩ := hp
  refine lv_istore (lv' := [(6, .int rz), (5, .int ((th_begin τ (xs (i9 + 1))))), (0, .ref b), (1, .ref (ad 0)), (2, .ref (ad 11)), (3, .ref (ad 30)), (4, .int (nI i9))]) hx hb dL_law_1199 hl (by decide) rfl (fun ls hl => ?_)
  refine lv_aload_n hx hb dL_law_1201 rfl (lv_at hl 4 rfl) ?_
  have ht := m_thrown (l := l) hM2
  rw [had 11 (by omega)] at ht
  have hrec2 := mo_recv MC hM2
  rw [had 11 (by omega)] at hrec2
  refine ro_callV MC HS (rest := []) (As := []) ht lkL_105 kw689 kw690 ⟨by show 0 + 1 ≤ R.frames; omega, by show 8 + (1 + 11) + 0 ≤ R.locals; omega⟩ hrec2 hl.1 rfl (Nat.le_of_ble_eq_true rfl) dL_law_1202 ⟨by show cells + 8 + 0 + 0 ≤ R.cells; omega, by show slots + 48 + 0 + 0 ≤ R.slots; omega⟩ (fun v9 H3 locs3 hp hz3 HS => ?_)
  obtain ⟨rfl, rfl⟩ := hp
  refine lv_iload hx hb dL_law_1205 (lv_at hl 1 rfl) ?_
  refine lv_icmp_eq (tgt := 1212) hx hb dL_law_1207 (by decide) (fun c_1207 => ?_) (fun c_1207 => absurd (rfl) c_1207)
  refine lv_iload hx hb dL_law_1212 (lv_at hl 1 rfl) ?_
  refine lv_if_ne (tgt := 1229) hx hb dL_law_1214 (by decide) (fun c_1214 => ?_) (fun c_1214 => ?_)
  · refine lv_goto (tgt := 1760) hx hb dL_law_1229 (by decide) ?_
    exact kk _ _ ls (bw.of hX1 hI1 h31 hM2 (had 0 (by omega)) (had 11 (by omega)) (had 30 (by omega))) HS (lv_sub hl [2, 3, 4, 5, 6] rfl)
  · refine lv_aload_n hx hb dL_law_1217 rfl (lv_at hl 5 rfl) ?_
    refine lv_iconst (v := 0) hx hb dL_law_1218 (by decide) ?_
    obtain ⟨cn2, HP2, -, hfr2, hRR2⟩ := id hM2
    refine ro_laldE MC HP2 (had 30 (by omega)) (hRR2 30 (by omega)) ((hfr2 30 (by omega)).trans h31) (vp_in_nI (n := 0) (N := 1) (by omega) (by omega)) dL_law_1219 ?_
    refine lv_iload hx hb dL_law_1220 (lv_at hl 0 rfl) ?_
    refine lv_i2l hx hb dL_law_1222 rfl ?_
    refine W.lcmp hx hb dL_law_1223 ?_
    rw [show lg_cmp (out1 (Int32.toNatClampNeg 0)) ((rz).toInt64) = 0 by show lg_cmp (out1 0) _ = 0; rw [hout c_1214, hrz c_1214]; exact lg_self _]
    refine lv_if_eq (tgt := 1229) hx hb dL_law_1224 (by decide) (fun c_1224 => ?_) (fun c_1224 => absurd c_1224 (by decide))
    refine lv_goto (tgt := 1760) hx hb dL_law_1229 (by decide) ?_
    exact kk _ _ ls (bw.of hX1 hI1 h31 hM2 (had 0 (by omega)) (had 11 (by omega)) (had 30 (by omega))) HS (lv_sub hl [2, 3, 4, 5, 6] rfl)
set_option maxHeartbeats 4000000 in
set_option maxRecDepth 100000 in
theorem l_state {p : Program} {l : Launch} (hl9 : l.stackTraces = false) {e : Env} {R : Room} {s : State} {m : MethodId} {args : Array Value} {below : List Frame} {meth : Method} {c : Code} {H : Heap} {locs : List Loc} {cells slots : Nat} {Q : State → Prop} {D : va_G} {ids : Nat → ClassId} {n0 b L a0 a11 a30 i9 : Nat} {xs : Nat → Int32} (MC : ro_C p s m args meth c cL_law 7 "FrostCalendarLaw" D ids n0) (HS : va_S (fun q => n0 ≤ q) s.heap H locs) (hw : bw D ids n0 a0 a11 a30 H) (hscr : va_X b L xs s s.heap) (hb0 : b < n0) (hL : L ≤ 3072) (hi : i9 + 6 ≤ L) (hR : 10 ≤ R.frames ∧ 310 ≤ R.locals) (hcl : cells + 8 ≤ R.cells) (hsl : slots + 48 ≤ R.slots) {ls : Array Slot} (hl : lv_has ls 7 [(0, .ref b), (1, .ref a0), (2, .ref a11), (3, .ref a30), (4, .int (nI i9))])
    (kk : ∀ (H1 : Heap) (locs1 : List Loc) (ls1 : Array Slot), bw D ids n0 a0 a11 a30 H1 → va_S (fun q => n0 ≤ q) s.heap H1 locs1 → lv_has ls1 7 [(0, .ref b), (1, .ref a0), (2, .ref a11), (3, .ref a30), (4, .int (nI i9))] → W p l e R s m args below meth c H1 locs1 (cells + 8) (slots + 48) Q (F0 m 1760 ls1 [])) : W p l e R s m args below meth c H locs cells slots Q (F0 m 1232 ls []) := by
  have hx := MC.1.1
  have hb := MC.1.2.1
  obtain ⟨RR, ad, cn, τ, th0, nw, ns, nl, nc, out, hX, hI, hM, h30, rfl, rfl, rfl⟩ := hw
  refine lv_aload_n hx hb dL_law_1232 rfl (lv_at hl 1 rfl) ?_
  refine lv_aload_n hx hb dL_law_1233 rfl (lv_at hl 0 rfl) ?_
  refine lv_iload hx hb dL_law_1234 (lv_at hl 4 rfl) ?_
  refine lv_iconst (v := 1) hx hb dL_law_1236 (by decide) ?_
  refine lv_iadd hx hb dL_law_1237 ?_
  refine ro_sld MC HS hscr hb0 (i9 + 1) (nI_add i9 1) (by omega) hL dL_law_1238 ?_
  refine lv_aload_n hx hb dL_law_1239 rfl (lv_at hl 3 rfl) ?_
  refine ro_callW MC HS (rest := []) (As := [.ref (ad 0), .int (xs (i9 + 1)), .ref (ad 30)]) (w_state hl9 hX hI h30) lw_159 ⟨by show 9 + 1 ≤ R.frames; omega, by show 8 + (4 + 11) + 280 ≤ R.locals; omega⟩ hl.1 rfl (Nat.le_of_ble_eq_true rfl) dL_law_1240 ⟨hcl, hsl⟩ (fun v9 H1 locs1 hp hz1 HS => ?_)
  obtain ⟨rfl, hp0, hp1⟩ := hp
  refine lv_istore (lv' := [(5, .int ((th_state τ (xs (i9 + 1))))), (0, .ref b), (1, .ref (ad 0)), (2, .ref (ad 11)), (3, .ref (ad 30)), (4, .int (nI i9))]) hx hb dL_law_1243 hl (by decide) rfl (fun ls hl => ?_)
  refine lv_aload_n hx hb dL_law_1245 rfl (lv_at hl 3 rfl) ?_
  refine lv_aload_n hx hb dL_law_1246 rfl (lv_at hl 1 rfl) ?_
  refine lv_iload hx hb dL_law_1247 (lv_at hl 5 rfl) ?_
  refine lv_iconst (v := 1) hx hb dL_law_1249 (by decide) ?_
  refine lv_iadd hx hb dL_law_1250 ?_
  refine ro_sld MC HS hscr hb0 (i9 + 1) (nI_add i9 1) (by omega) hL dL_law_1251 ?_
  obtain ⟨RR1, ad1, cn1, nw1, ns1, nl1, nc1, out1, hX1, hI1, had, hM1, h31, hout⟩ := wf_un hX hI hM h30 hp0 hp1
  simp only [ite_self] at hX1 hI1
  have hm := m_state (l := l) hM1 hI (xs (i9 + 1))
  rw [had 11 (by omega)] at hm
  have hrec1 := mo_recv MC hM1
  rw [had 11 (by omega)] at hrec1
  refine ro_callV MC HS (rest := []) (As := [.int (xs (i9 + 1))]) hm lkL_161 kw811 kw812 ⟨by show (_ : Nat) ≤ R.frames; exact Nat.le_trans (Nat.le_of_ble_eq_true rfl : _ ≤ 10) hR.1, by show (_ : Nat) ≤ R.locals; exact Nat.le_trans (Nat.le_of_ble_eq_true rfl : _ ≤ 310) hR.2⟩ hrec1 hl.1 rfl (Nat.le_of_ble_eq_true rfl) dL_law_1252 ⟨by show cells + 8 + 0 ≤ R.cells; omega, by show slots + 48 + 0 ≤ R.slots; omega⟩ (fun v9 H2 locs2 hp hz2 HS => ?_)
  obtain ⟨rz, rfl, hM2, hrz⟩ := hp
  refine lv_istore (lv' := [(6, .int rz), (5, .int ((th_state τ (xs (i9 + 1))))), (0, .ref b), (1, .ref (ad 0)), (2, .ref (ad 11)), (3, .ref (ad 30)), (4, .int (nI i9))]) hx hb dL_law_1255 hl (by decide) rfl (fun ls hl => ?_)
  refine lv_aload_n hx hb dL_law_1257 rfl (lv_at hl 4 rfl) ?_
  have ht := m_thrown (l := l) hM2
  rw [had 11 (by omega)] at ht
  have hrec2 := mo_recv MC hM2
  rw [had 11 (by omega)] at hrec2
  refine ro_callV MC HS (rest := []) (As := []) ht lkL_105 kw689 kw690 ⟨by show 0 + 1 ≤ R.frames; omega, by show 8 + (1 + 11) + 0 ≤ R.locals; omega⟩ hrec2 hl.1 rfl (Nat.le_of_ble_eq_true rfl) dL_law_1258 ⟨by show cells + 8 + 0 + 0 ≤ R.cells; omega, by show slots + 48 + 0 + 0 ≤ R.slots; omega⟩ (fun v9 H3 locs3 hp hz3 HS => ?_)
  obtain ⟨rfl, rfl⟩ := hp
  refine lv_iload hx hb dL_law_1261 (lv_at hl 1 rfl) ?_
  refine lv_icmp_eq (tgt := 1268) hx hb dL_law_1263 (by decide) (fun c_1263 => ?_) (fun c_1263 => absurd (rfl) c_1263)
  refine lv_iload hx hb dL_law_1268 (lv_at hl 1 rfl) ?_
  refine lv_if_ne (tgt := 1285) hx hb dL_law_1270 (by decide) (fun c_1270 => ?_) (fun c_1270 => ?_)
  · refine lv_goto (tgt := 1760) hx hb dL_law_1285 (by decide) ?_
    exact kk _ _ ls (bw.of hX1 hI1 h31 hM2 (had 0 (by omega)) (had 11 (by omega)) (had 30 (by omega))) HS (lv_sub hl [2, 3, 4, 5, 6] rfl)
  · refine lv_aload_n hx hb dL_law_1273 rfl (lv_at hl 5 rfl) ?_
    refine lv_iconst (v := 0) hx hb dL_law_1274 (by decide) ?_
    obtain ⟨cn2, HP2, -, hfr2, hRR2⟩ := id hM2
    refine ro_laldE MC HP2 (had 30 (by omega)) (hRR2 30 (by omega)) ((hfr2 30 (by omega)).trans h31) (vp_in_nI (n := 0) (N := 1) (by omega) (by omega)) dL_law_1275 ?_
    refine lv_iload hx hb dL_law_1276 (lv_at hl 0 rfl) ?_
    refine lv_i2l hx hb dL_law_1278 rfl ?_
    refine W.lcmp hx hb dL_law_1279 ?_
    rw [show lg_cmp (out1 (Int32.toNatClampNeg 0)) ((rz).toInt64) = 0 by show lg_cmp (out1 0) _ = 0; rw [hout c_1270, hrz c_1270]; exact lg_self _]
    refine lv_if_eq (tgt := 1285) hx hb dL_law_1280 (by decide) (fun c_1280 => ?_) (fun c_1280 => absurd c_1280 (by decide))
    refine lv_goto (tgt := 1760) hx hb dL_law_1285 (by decide) ?_
    exact kk _ _ ls (bw.of hX1 hI1 h31 hM2 (had 0 (by omega)) (had 11 (by omega)) (had 30 (by omega))) HS (lv_sub hl [2, 3, 4, 5, 6] rfl)
set_option maxHeartbeats 4000000 in
set_option maxRecDepth 100000 in
theorem l_approved {p : Program} {l : Launch} (hl9 : l.stackTraces = false) {e : Env} {R : Room} {s : State} {m : MethodId} {args : Array Value} {below : List Frame} {meth : Method} {c : Code} {H : Heap} {locs : List Loc} {cells slots : Nat} {Q : State → Prop} {D : va_G} {ids : Nat → ClassId} {n0 b L a0 a11 a30 i9 : Nat} {xs : Nat → Int32} (MC : ro_C p s m args meth c cL_law 7 "FrostCalendarLaw" D ids n0) (HS : va_S (fun q => n0 ≤ q) s.heap H locs) (hw : bw D ids n0 a0 a11 a30 H) (hscr : va_X b L xs s s.heap) (hb0 : b < n0) (hL : L ≤ 3072) (hi : i9 + 6 ≤ L) (hR : 10 ≤ R.frames ∧ 310 ≤ R.locals) (hcl : cells + 8 ≤ R.cells) (hsl : slots + 48 ≤ R.slots) {ls : Array Slot} (hl : lv_has ls 7 [(0, .ref b), (1, .ref a0), (2, .ref a11), (3, .ref a30), (4, .int (nI i9))])
    (kk : ∀ (H1 : Heap) (locs1 : List Loc) (ls1 : Array Slot), bw D ids n0 a0 a11 a30 H1 → va_S (fun q => n0 ≤ q) s.heap H1 locs1 → lv_has ls1 7 [(0, .ref b), (1, .ref a0), (2, .ref a11), (3, .ref a30), (4, .int (nI i9))] → W p l e R s m args below meth c H1 locs1 (cells + 8) (slots + 48) Q (F0 m 1760 ls1 [])) : W p l e R s m args below meth c H locs cells slots Q (F0 m 1288 ls []) := by
  have hx := MC.1.1
  have hb := MC.1.2.1
  obtain ⟨RR, ad, cn, τ, th0, nw, ns, nl, nc, out, hX, hI, hM, h30, rfl, rfl, rfl⟩ := hw
  refine lv_aload_n hx hb dL_law_1288 rfl (lv_at hl 1 rfl) ?_
  refine lv_aload_n hx hb dL_law_1289 rfl (lv_at hl 0 rfl) ?_
  refine lv_iload hx hb dL_law_1290 (lv_at hl 4 rfl) ?_
  refine lv_iconst (v := 1) hx hb dL_law_1292 (by decide) ?_
  refine lv_iadd hx hb dL_law_1293 ?_
  refine ro_sld MC HS hscr hb0 (i9 + 1) (nI_add i9 1) (by omega) hL dL_law_1294 ?_
  refine lv_aload_n hx hb dL_law_1295 rfl (lv_at hl 3 rfl) ?_
  refine ro_callW MC HS (rest := []) (As := [.ref (ad 0), .int (xs (i9 + 1)), .ref (ad 30)]) (w_approved hl9 hX hI h30) lw_162 ⟨by show 9 + 1 ≤ R.frames; omega, by show 8 + (4 + 11) + 280 ≤ R.locals; omega⟩ hl.1 rfl (Nat.le_of_ble_eq_true rfl) dL_law_1296 ⟨hcl, hsl⟩ (fun v9 H1 locs1 hp hz1 HS => ?_)
  obtain ⟨rfl, hp0, hp1⟩ := hp
  refine lv_istore (lv' := [(5, .int ((th_approved τ (xs (i9 + 1))))), (0, .ref b), (1, .ref (ad 0)), (2, .ref (ad 11)), (3, .ref (ad 30)), (4, .int (nI i9))]) hx hb dL_law_1299 hl (by decide) rfl (fun ls hl => ?_)
  refine lv_aload_n hx hb dL_law_1301 rfl (lv_at hl 3 rfl) ?_
  refine lv_aload_n hx hb dL_law_1302 rfl (lv_at hl 1 rfl) ?_
  refine lv_iload hx hb dL_law_1303 (lv_at hl 5 rfl) ?_
  refine lv_iconst (v := 1) hx hb dL_law_1305 (by decide) ?_
  refine lv_iadd hx hb dL_law_1306 ?_
  refine ro_sld MC HS hscr hb0 (i9 + 1) (nI_add i9 1) (by omega) hL dL_law_1307 ?_
  obtain ⟨RR1, ad1, cn1, nw1, ns1, nl1, nc1, out1, hX1, hI1, had, hM1, h31, hout⟩ := wf_un hX hI hM h30 hp0 hp1
  simp only [ite_self] at hX1 hI1
  have hm := m_approved (l := l) hM1 hI (xs (i9 + 1))
  rw [had 11 (by omega)] at hm
  have hrec1 := mo_recv MC hM1
  rw [had 11 (by omega)] at hrec1
  refine ro_callV MC HS (rest := []) (As := [.int (xs (i9 + 1))]) hm lkL_164 kw815 kw816 ⟨by show (_ : Nat) ≤ R.frames; exact Nat.le_trans (Nat.le_of_ble_eq_true rfl : _ ≤ 10) hR.1, by show (_ : Nat) ≤ R.locals; exact Nat.le_trans (Nat.le_of_ble_eq_true rfl : _ ≤ 310) hR.2⟩ hrec1 hl.1 rfl (Nat.le_of_ble_eq_true rfl) dL_law_1308 ⟨by show cells + 8 + 0 ≤ R.cells; omega, by show slots + 48 + 0 ≤ R.slots; omega⟩ (fun v9 H2 locs2 hp hz2 HS => ?_)
  obtain ⟨rz, rfl, hM2, hrz⟩ := hp
  refine lv_istore (lv' := [(6, .int rz), (5, .int ((th_approved τ (xs (i9 + 1))))), (0, .ref b), (1, .ref (ad 0)), (2, .ref (ad 11)), (3, .ref (ad 30)), (4, .int (nI i9))]) hx hb dL_law_1311 hl (by decide) rfl (fun ls hl => ?_)
  refine lv_aload_n hx hb dL_law_1313 rfl (lv_at hl 4 rfl) ?_
  have ht := m_thrown (l := l) hM2
  rw [had 11 (by omega)] at ht
  have hrec2 := mo_recv MC hM2
  rw [had 11 (by omega)] at hrec2
  refine ro_callV MC HS (rest := []) (As := []) ht lkL_105 kw689 kw690 ⟨by show 0 + 1 ≤ R.frames; omega, by show 8 + (1 + 11) + 0 ≤ R.locals; omega⟩ hrec2 hl.1 rfl (Nat.le_of_ble_eq_true rfl) dL_law_1314 ⟨by show cells + 8 + 0 + 0 ≤ R.cells; omega, by show slots + 48 + 0 + 0 ≤ R.slots; omega⟩ (fun v9 H3 locs3 hp hz3 HS => ?_)
  obtain ⟨rfl, rfl⟩ := hp
  refine lv_iload hx hb dL_law_1317 (lv_at hl 1 rfl) ?_
  refine lv_icmp_eq (tgt := 1324) hx hb dL_law_1319 (by decide) (fun c_1319 => ?_) (fun c_1319 => absurd (rfl) c_1319)
  refine lv_iload hx hb dL_law_1324 (lv_at hl 1 rfl) ?_
  refine lv_if_ne (tgt := 1341) hx hb dL_law_1326 (by decide) (fun c_1326 => ?_) (fun c_1326 => ?_)
  · refine lv_goto (tgt := 1760) hx hb dL_law_1341 (by decide) ?_
    exact kk _ _ ls (bw.of hX1 hI1 h31 hM2 (had 0 (by omega)) (had 11 (by omega)) (had 30 (by omega))) HS (lv_sub hl [2, 3, 4, 5, 6] rfl)
  · refine lv_aload_n hx hb dL_law_1329 rfl (lv_at hl 5 rfl) ?_
    refine lv_iconst (v := 0) hx hb dL_law_1330 (by decide) ?_
    obtain ⟨cn2, HP2, -, hfr2, hRR2⟩ := id hM2
    refine ro_laldE MC HP2 (had 30 (by omega)) (hRR2 30 (by omega)) ((hfr2 30 (by omega)).trans h31) (vp_in_nI (n := 0) (N := 1) (by omega) (by omega)) dL_law_1331 ?_
    refine lv_iload hx hb dL_law_1332 (lv_at hl 0 rfl) ?_
    refine lv_i2l hx hb dL_law_1334 rfl ?_
    refine W.lcmp hx hb dL_law_1335 ?_
    rw [show lg_cmp (out1 (Int32.toNatClampNeg 0)) ((rz).toInt64) = 0 by show lg_cmp (out1 0) _ = 0; rw [hout c_1326, hrz c_1326]; exact lg_self _]
    refine lv_if_eq (tgt := 1341) hx hb dL_law_1336 (by decide) (fun c_1336 => ?_) (fun c_1336 => absurd c_1336 (by decide))
    refine lv_goto (tgt := 1760) hx hb dL_law_1341 (by decide) ?_
    exact kk _ _ ls (bw.of hX1 hI1 h31 hM2 (had 0 (by omega)) (had 11 (by omega)) (had 30 (by omega))) HS (lv_sub hl [2, 3, 4, 5, 6] rfl)
set_option maxHeartbeats 4000000 in
set_option maxRecDepth 100000 in
theorem l_exceptions {p : Program} {l : Launch} (hl9 : l.stackTraces = false) {e : Env} {R : Room} {s : State} {m : MethodId} {args : Array Value} {below : List Frame} {meth : Method} {c : Code} {H : Heap} {locs : List Loc} {cells slots : Nat} {Q : State → Prop} {D : va_G} {ids : Nat → ClassId} {n0 b L a0 a11 a30 i9 : Nat} {xs : Nat → Int32} (MC : ro_C p s m args meth c cL_law 7 "FrostCalendarLaw" D ids n0) (HS : va_S (fun q => n0 ≤ q) s.heap H locs) (hw : bw D ids n0 a0 a11 a30 H) (hscr : va_X b L xs s s.heap) (hb0 : b < n0) (hL : L ≤ 3072) (hi : i9 + 6 ≤ L) (hR : 10 ≤ R.frames ∧ 310 ≤ R.locals) (hcl : cells + 8 ≤ R.cells) (hsl : slots + 48 ≤ R.slots) {ls : Array Slot} (hl : lv_has ls 7 [(0, .ref b), (1, .ref a0), (2, .ref a11), (3, .ref a30), (4, .int (nI i9))])
    (kk : ∀ (H1 : Heap) (locs1 : List Loc) (ls1 : Array Slot), bw D ids n0 a0 a11 a30 H1 → va_S (fun q => n0 ≤ q) s.heap H1 locs1 → lv_has ls1 7 [(0, .ref b), (1, .ref a0), (2, .ref a11), (3, .ref a30), (4, .int (nI i9))] → W p l e R s m args below meth c H1 locs1 (cells + 8) (slots + 48) Q (F0 m 1760 ls1 [])) : W p l e R s m args below meth c H locs cells slots Q (F0 m 1344 ls []) := by
  have hx := MC.1.1
  have hb := MC.1.2.1
  obtain ⟨RR, ad, cn, τ, th0, nw, ns, nl, nc, out, hX, hI, hM, h30, rfl, rfl, rfl⟩ := hw
  refine lv_aload_n hx hb dL_law_1344 rfl (lv_at hl 1 rfl) ?_
  refine lv_aload_n hx hb dL_law_1345 rfl (lv_at hl 0 rfl) ?_
  refine lv_iload hx hb dL_law_1346 (lv_at hl 4 rfl) ?_
  refine lv_iconst (v := 1) hx hb dL_law_1348 (by decide) ?_
  refine lv_iadd hx hb dL_law_1349 ?_
  refine ro_sld MC HS hscr hb0 (i9 + 1) (nI_add i9 1) (by omega) hL dL_law_1350 ?_
  refine lv_aload_n hx hb dL_law_1351 rfl (lv_at hl 0 rfl) ?_
  refine lv_iload hx hb dL_law_1352 (lv_at hl 4 rfl) ?_
  refine lv_iconst (v := 2) hx hb dL_law_1354 (by decide) ?_
  refine lv_iadd hx hb dL_law_1355 ?_
  refine ro_sld MC HS hscr hb0 (i9 + 2) (nI_add i9 2) (by omega) hL dL_law_1356 ?_
  refine lv_aload_n hx hb dL_law_1357 rfl (lv_at hl 3 rfl) ?_
  refine ro_callW MC HS (rest := []) (As := [.ref (ad 0), .int (xs (i9 + 1)), .int (xs (i9 + 2)), .ref (ad 30)]) (w_exceptions hl9 hX hI h30) lw_165 ⟨by show 9 + 1 ≤ R.frames; omega, by show 8 + (5 + 11) + 280 ≤ R.locals; omega⟩ hl.1 rfl (Nat.le_of_ble_eq_true rfl) dL_law_1358 ⟨hcl, hsl⟩ (fun v9 H1 locs1 hp hz1 HS => ?_)
  obtain ⟨rfl, hp0, hp1⟩ := hp
  refine lv_istore (lv' := [(5, .int ((th_exceptions τ (xs (i9 + 1)) (xs (i9 + 2))))), (0, .ref b), (1, .ref (ad 0)), (2, .ref (ad 11)), (3, .ref (ad 30)), (4, .int (nI i9))]) hx hb dL_law_1361 hl (by decide) rfl (fun ls hl => ?_)
  refine lv_aload_n hx hb dL_law_1363 rfl (lv_at hl 3 rfl) ?_
  refine lv_aload_n hx hb dL_law_1364 rfl (lv_at hl 1 rfl) ?_
  refine lv_iload hx hb dL_law_1365 (lv_at hl 5 rfl) ?_
  refine lv_iconst (v := 1) hx hb dL_law_1367 (by decide) ?_
  refine lv_iadd hx hb dL_law_1368 ?_
  refine ro_sld MC HS hscr hb0 (i9 + 1) (nI_add i9 1) (by omega) hL dL_law_1369 ?_
  refine lv_aload_n hx hb dL_law_1370 rfl (lv_at hl 1 rfl) ?_
  refine lv_iload hx hb dL_law_1371 (lv_at hl 5 rfl) ?_
  refine lv_iconst (v := 2) hx hb dL_law_1373 (by decide) ?_
  refine lv_iadd hx hb dL_law_1374 ?_
  refine ro_sld MC HS hscr hb0 (i9 + 2) (nI_add i9 2) (by omega) hL dL_law_1375 ?_
  obtain ⟨RR1, ad1, cn1, nw1, ns1, nl1, nc1, out1, hX1, hI1, had, hM1, h31, hout⟩ := wf_un hX hI hM h30 hp0 hp1
  have hm := m_exceptions (l := l) hM1 hI (xs (i9 + 1)) (xs (i9 + 2))
  rw [had 11 (by omega)] at hm
  have hrec1 := mo_recv MC hM1
  rw [had 11 (by omega)] at hrec1
  refine ro_callV MC HS (rest := []) (As := [.int (xs (i9 + 1)), .int (xs (i9 + 2))]) hm lkL_167 kw819 kw820 ⟨by show (_ : Nat) ≤ R.frames; exact Nat.le_trans (Nat.le_of_ble_eq_true rfl : _ ≤ 10) hR.1, by show (_ : Nat) ≤ R.locals; exact Nat.le_trans (Nat.le_of_ble_eq_true rfl : _ ≤ 310) hR.2⟩ hrec1 hl.1 rfl (Nat.le_of_ble_eq_true rfl) dL_law_1376 ⟨by show cells + 8 + 0 ≤ R.cells; omega, by show slots + 48 + 0 ≤ R.slots; omega⟩ (fun v9 H2 locs2 hp hz2 HS => ?_)
  obtain ⟨rz, rfl, hM2, hrz⟩ := hp
  refine lv_istore (lv' := [(6, .int rz), (5, .int ((th_exceptions τ (xs (i9 + 1)) (xs (i9 + 2))))), (0, .ref b), (1, .ref (ad 0)), (2, .ref (ad 11)), (3, .ref (ad 30)), (4, .int (nI i9))]) hx hb dL_law_1379 hl (by decide) rfl (fun ls hl => ?_)
  refine lv_aload_n hx hb dL_law_1381 rfl (lv_at hl 4 rfl) ?_
  have ht := m_thrown (l := l) hM2
  rw [had 11 (by omega)] at ht
  have hrec2 := mo_recv MC hM2
  rw [had 11 (by omega)] at hrec2
  refine ro_callV MC HS (rest := []) (As := []) ht lkL_105 kw689 kw690 ⟨by show 0 + 1 ≤ R.frames; omega, by show 8 + (1 + 11) + 0 ≤ R.locals; omega⟩ hrec2 hl.1 rfl (Nat.le_of_ble_eq_true rfl) dL_law_1382 ⟨by show cells + 8 + 0 + 0 ≤ R.cells; omega, by show slots + 48 + 0 + 0 ≤ R.slots; omega⟩ (fun v9 H3 locs3 hp hz3 HS => ?_)
  obtain ⟨rfl, rfl⟩ := hp
  refine lv_iload hx hb dL_law_1385 (lv_at hl 1 rfl) ?_
  refine lv_icmp_eq (tgt := 1392) hx hb dL_law_1387 (by decide) (fun c_1387 => ?_) (fun c_1387 => absurd (rfl) c_1387)
  refine lv_iload hx hb dL_law_1392 (lv_at hl 1 rfl) ?_
  refine lv_if_ne (tgt := 1409) hx hb dL_law_1394 (by decide) (fun c_1394 => ?_) (fun c_1394 => ?_)
  · refine lv_goto (tgt := 1760) hx hb dL_law_1409 (by decide) ?_
    exact kk _ _ ls (bw.of hX1 hI1 h31 hM2 (had 0 (by omega)) (had 11 (by omega)) (had 30 (by omega))) HS (lv_sub hl [2, 3, 4, 5, 6] rfl)
  · refine lv_aload_n hx hb dL_law_1397 rfl (lv_at hl 5 rfl) ?_
    refine lv_iconst (v := 0) hx hb dL_law_1398 (by decide) ?_
    obtain ⟨cn2, HP2, -, hfr2, hRR2⟩ := id hM2
    refine ro_laldE MC HP2 (had 30 (by omega)) (hRR2 30 (by omega)) ((hfr2 30 (by omega)).trans h31) (vp_in_nI (n := 0) (N := 1) (by omega) (by omega)) dL_law_1399 ?_
    refine lv_iload hx hb dL_law_1400 (lv_at hl 0 rfl) ?_
    refine lv_i2l hx hb dL_law_1402 rfl ?_
    refine W.lcmp hx hb dL_law_1403 ?_
    rw [show lg_cmp (out1 (Int32.toNatClampNeg 0)) ((rz).toInt64) = 0 by show lg_cmp (out1 0) _ = 0; rw [hout c_1394, hrz c_1394]; exact lg_self _]
    refine lv_if_eq (tgt := 1409) hx hb dL_law_1404 (by decide) (fun c_1404 => ?_) (fun c_1404 => absurd c_1404 (by decide))
    refine lv_goto (tgt := 1760) hx hb dL_law_1409 (by decide) ?_
    exact kk _ _ ls (bw.of hX1 hI1 h31 hM2 (had 0 (by omega)) (had 11 (by omega)) (had 30 (by omega))) HS (lv_sub hl [2, 3, 4, 5, 6] rfl)
set_option maxHeartbeats 4000000 in
set_option maxRecDepth 100000 in
theorem l_left {p : Program} {l : Launch} (hl9 : l.stackTraces = false) {e : Env} {R : Room} {s : State} {m : MethodId} {args : Array Value} {below : List Frame} {meth : Method} {c : Code} {H : Heap} {locs : List Loc} {cells slots : Nat} {Q : State → Prop} {D : va_G} {ids : Nat → ClassId} {n0 b L a0 a11 a30 i9 : Nat} {xs : Nat → Int32} (MC : ro_C p s m args meth c cL_law 7 "FrostCalendarLaw" D ids n0) (HS : va_S (fun q => n0 ≤ q) s.heap H locs) (hw : bw D ids n0 a0 a11 a30 H) (hscr : va_X b L xs s s.heap) (hb0 : b < n0) (hL : L ≤ 3072) (hi : i9 + 6 ≤ L) (hR : 10 ≤ R.frames ∧ 310 ≤ R.locals) (hcl : cells + 8 ≤ R.cells) (hsl : slots + 48 ≤ R.slots) {ls : Array Slot} (hl : lv_has ls 7 [(0, .ref b), (1, .ref a0), (2, .ref a11), (3, .ref a30), (4, .int (nI i9))])
    (kk : ∀ (H1 : Heap) (locs1 : List Loc) (ls1 : Array Slot), bw D ids n0 a0 a11 a30 H1 → va_S (fun q => n0 ≤ q) s.heap H1 locs1 → lv_has ls1 7 [(0, .ref b), (1, .ref a0), (2, .ref a11), (3, .ref a30), (4, .int (nI i9))] → W p l e R s m args below meth c H1 locs1 (cells + 8) (slots + 48) Q (F0 m 1760 ls1 [])) : W p l e R s m args below meth c H locs cells slots Q (F0 m 1412 ls []) := by
  have hx := MC.1.1
  have hb := MC.1.2.1
  obtain ⟨RR, ad, cn, τ, th0, nw, ns, nl, nc, out, hX, hI, hM, h30, rfl, rfl, rfl⟩ := hw
  refine lv_aload_n hx hb dL_law_1412 rfl (lv_at hl 1 rfl) ?_
  refine lv_aload_n hx hb dL_law_1413 rfl (lv_at hl 0 rfl) ?_
  refine lv_iload hx hb dL_law_1414 (lv_at hl 4 rfl) ?_
  refine lv_iconst (v := 1) hx hb dL_law_1416 (by decide) ?_
  refine lv_iadd hx hb dL_law_1417 ?_
  refine ro_sld MC HS hscr hb0 (i9 + 1) (nI_add i9 1) (by omega) hL dL_law_1418 ?_
  refine lv_aload_n hx hb dL_law_1419 rfl (lv_at hl 3 rfl) ?_
  refine ro_callW MC HS (rest := []) (As := [.ref (ad 0), .int (xs (i9 + 1)), .ref (ad 30)]) (w_left hl9 hX hI h30) lw_168 ⟨by show 9 + 1 ≤ R.frames; omega, by show 8 + (4 + 11) + 280 ≤ R.locals; omega⟩ hl.1 rfl (Nat.le_of_ble_eq_true rfl) dL_law_1420 ⟨hcl, hsl⟩ (fun v9 H1 locs1 hp hz1 HS => ?_)
  obtain ⟨rfl, hp0, hp1⟩ := hp
  refine lv_istore (lv' := [(5, .int ((th_left τ (xs (i9 + 1))))), (0, .ref b), (1, .ref (ad 0)), (2, .ref (ad 11)), (3, .ref (ad 30)), (4, .int (nI i9))]) hx hb dL_law_1423 hl (by decide) rfl (fun ls hl => ?_)
  refine lv_aload_n hx hb dL_law_1425 rfl (lv_at hl 3 rfl) ?_
  refine lv_aload_n hx hb dL_law_1426 rfl (lv_at hl 1 rfl) ?_
  refine lv_iload hx hb dL_law_1427 (lv_at hl 5 rfl) ?_
  refine lv_iconst (v := 1) hx hb dL_law_1429 (by decide) ?_
  refine lv_iadd hx hb dL_law_1430 ?_
  refine ro_sld MC HS hscr hb0 (i9 + 1) (nI_add i9 1) (by omega) hL dL_law_1431 ?_
  obtain ⟨RR1, ad1, cn1, nw1, ns1, nl1, nc1, out1, hX1, hI1, had, hM1, h31, hout⟩ := wf_un hX hI hM h30 hp0 hp1
  simp only [ite_self] at hX1 hI1
  have hm := m_left (l := l) hM1 hI (xs (i9 + 1))
  rw [had 11 (by omega)] at hm
  have hrec1 := mo_recv MC hM1
  rw [had 11 (by omega)] at hrec1
  refine ro_callV MC HS (rest := []) (As := [.int (xs (i9 + 1))]) hm lkL_170 kw823 kw824 ⟨by show (_ : Nat) ≤ R.frames; exact Nat.le_trans (Nat.le_of_ble_eq_true rfl : _ ≤ 10) hR.1, by show (_ : Nat) ≤ R.locals; exact Nat.le_trans (Nat.le_of_ble_eq_true rfl : _ ≤ 310) hR.2⟩ hrec1 hl.1 rfl (Nat.le_of_ble_eq_true rfl) dL_law_1432 ⟨by show cells + 8 + 0 ≤ R.cells; omega, by show slots + 48 + 0 ≤ R.slots; omega⟩ (fun v9 H2 locs2 hp hz2 HS => ?_)
  obtain ⟨rz, rfl, hM2, hrz⟩ := hp
  refine lv_istore (lv' := [(6, .int rz), (5, .int ((th_left τ (xs (i9 + 1))))), (0, .ref b), (1, .ref (ad 0)), (2, .ref (ad 11)), (3, .ref (ad 30)), (4, .int (nI i9))]) hx hb dL_law_1435 hl (by decide) rfl (fun ls hl => ?_)
  refine lv_aload_n hx hb dL_law_1437 rfl (lv_at hl 4 rfl) ?_
  have ht := m_thrown (l := l) hM2
  rw [had 11 (by omega)] at ht
  have hrec2 := mo_recv MC hM2
  rw [had 11 (by omega)] at hrec2
  refine ro_callV MC HS (rest := []) (As := []) ht lkL_105 kw689 kw690 ⟨by show 0 + 1 ≤ R.frames; omega, by show 8 + (1 + 11) + 0 ≤ R.locals; omega⟩ hrec2 hl.1 rfl (Nat.le_of_ble_eq_true rfl) dL_law_1438 ⟨by show cells + 8 + 0 + 0 ≤ R.cells; omega, by show slots + 48 + 0 + 0 ≤ R.slots; omega⟩ (fun v9 H3 locs3 hp hz3 HS => ?_)
  obtain ⟨rfl, rfl⟩ := hp
  refine lv_iload hx hb dL_law_1441 (lv_at hl 1 rfl) ?_
  refine lv_icmp_eq (tgt := 1448) hx hb dL_law_1443 (by decide) (fun c_1443 => ?_) (fun c_1443 => absurd (rfl) c_1443)
  refine lv_iload hx hb dL_law_1448 (lv_at hl 1 rfl) ?_
  refine lv_if_ne (tgt := 1465) hx hb dL_law_1450 (by decide) (fun c_1450 => ?_) (fun c_1450 => ?_)
  · refine lv_goto (tgt := 1760) hx hb dL_law_1465 (by decide) ?_
    exact kk _ _ ls (bw.of hX1 hI1 h31 hM2 (had 0 (by omega)) (had 11 (by omega)) (had 30 (by omega))) HS (lv_sub hl [2, 3, 4, 5, 6] rfl)
  · refine lv_aload_n hx hb dL_law_1453 rfl (lv_at hl 5 rfl) ?_
    refine lv_iconst (v := 0) hx hb dL_law_1454 (by decide) ?_
    obtain ⟨cn2, HP2, -, hfr2, hRR2⟩ := id hM2
    refine ro_laldE MC HP2 (had 30 (by omega)) (hRR2 30 (by omega)) ((hfr2 30 (by omega)).trans h31) (vp_in_nI (n := 0) (N := 1) (by omega) (by omega)) dL_law_1455 ?_
    refine lv_iload hx hb dL_law_1456 (lv_at hl 0 rfl) ?_
    refine lv_i2l hx hb dL_law_1458 rfl ?_
    refine W.lcmp hx hb dL_law_1459 ?_
    rw [show lg_cmp (out1 (Int32.toNatClampNeg 0)) ((rz).toInt64) = 0 by show lg_cmp (out1 0) _ = 0; rw [hout c_1450, hrz c_1450]; exact lg_self _]
    refine lv_if_eq (tgt := 1465) hx hb dL_law_1460 (by decide) (fun c_1460 => ?_) (fun c_1460 => absurd c_1460 (by decide))
    refine lv_goto (tgt := 1760) hx hb dL_law_1465 (by decide) ?_
    exact kk _ _ ls (bw.of hX1 hI1 h31 hM2 (had 0 (by omega)) (had 11 (by omega)) (had 30 (by omega))) HS (lv_sub hl [2, 3, 4, 5, 6] rfl)
set_option maxHeartbeats 4000000 in
set_option maxRecDepth 100000 in
theorem l_excuse {p : Program} {l : Launch} (hl9 : l.stackTraces = false) {e : Env} {R : Room} {s : State} {m : MethodId} {args : Array Value} {below : List Frame} {meth : Method} {c : Code} {H : Heap} {locs : List Loc} {cells slots : Nat} {Q : State → Prop} {D : va_G} {ids : Nat → ClassId} {n0 b L a0 a11 a30 i9 : Nat} {xs : Nat → Int32} (MC : ro_C p s m args meth c cL_law 7 "FrostCalendarLaw" D ids n0) (HS : va_S (fun q => n0 ≤ q) s.heap H locs) (hw : bw D ids n0 a0 a11 a30 H) (hscr : va_X b L xs s s.heap) (hb0 : b < n0) (hL : L ≤ 3072) (hi : i9 + 6 ≤ L) (hR : 10 ≤ R.frames ∧ 310 ≤ R.locals) (hcl : cells + 8 ≤ R.cells) (hsl : slots + 48 ≤ R.slots) {ls : Array Slot} (hl : lv_has ls 7 [(0, .ref b), (1, .ref a0), (2, .ref a11), (3, .ref a30), (4, .int (nI i9))])
    (kk : ∀ (H1 : Heap) (locs1 : List Loc) (ls1 : Array Slot), bw D ids n0 a0 a11 a30 H1 → va_S (fun q => n0 ≤ q) s.heap H1 locs1 → lv_has ls1 7 [(0, .ref b), (1, .ref a0), (2, .ref a11), (3, .ref a30), (4, .int (nI i9))] → W p l e R s m args below meth c H1 locs1 (cells + 8) (slots + 48) Q (F0 m 1760 ls1 [])) : W p l e R s m args below meth c H locs cells slots Q (F0 m 1468 ls []) := by
  have hx := MC.1.1
  have hb := MC.1.2.1
  obtain ⟨RR, ad, cn, τ, th0, nw, ns, nl, nc, out, hX, hI, hM, h30, rfl, rfl, rfl⟩ := hw
  refine lv_aload_n hx hb dL_law_1468 rfl (lv_at hl 1 rfl) ?_
  refine lv_aload_n hx hb dL_law_1469 rfl (lv_at hl 0 rfl) ?_
  refine lv_iload hx hb dL_law_1470 (lv_at hl 4 rfl) ?_
  refine lv_iconst (v := 1) hx hb dL_law_1472 (by decide) ?_
  refine lv_iadd hx hb dL_law_1473 ?_
  refine ro_sld MC HS hscr hb0 (i9 + 1) (nI_add i9 1) (by omega) hL dL_law_1474 ?_
  refine lv_aload_n hx hb dL_law_1475 rfl (lv_at hl 0 rfl) ?_
  refine lv_iload hx hb dL_law_1476 (lv_at hl 4 rfl) ?_
  refine lv_iconst (v := 2) hx hb dL_law_1478 (by decide) ?_
  refine lv_iadd hx hb dL_law_1479 ?_
  refine ro_sld MC HS hscr hb0 (i9 + 2) (nI_add i9 2) (by omega) hL dL_law_1480 ?_
  refine lv_aload_n hx hb dL_law_1481 rfl (lv_at hl 3 rfl) ?_
  refine ro_callW MC HS (rest := []) (As := [.ref (ad 0), .int (xs (i9 + 1)), .int (xs (i9 + 2)), .ref (ad 30)]) (w_excuse hl9 hX hI h30) lw_171 ⟨by show 9 + 1 ≤ R.frames; omega, by show 8 + (5 + 11) + 280 ≤ R.locals; omega⟩ hl.1 rfl (Nat.le_of_ble_eq_true rfl) dL_law_1482 ⟨hcl, hsl⟩ (fun v9 H1 locs1 hp hz1 HS => ?_)
  obtain ⟨rfl, hp0, hp1⟩ := hp
  refine lv_istore (lv' := [(5, .int ((th_excuse τ (xs (i9 + 1)) (xs (i9 + 2))))), (0, .ref b), (1, .ref (ad 0)), (2, .ref (ad 11)), (3, .ref (ad 30)), (4, .int (nI i9))]) hx hb dL_law_1485 hl (by decide) rfl (fun ls hl => ?_)
  refine lv_aload_n hx hb dL_law_1487 rfl (lv_at hl 3 rfl) ?_
  refine lv_aload_n hx hb dL_law_1488 rfl (lv_at hl 1 rfl) ?_
  refine lv_iload hx hb dL_law_1489 (lv_at hl 5 rfl) ?_
  refine lv_iconst (v := 1) hx hb dL_law_1491 (by decide) ?_
  refine lv_iadd hx hb dL_law_1492 ?_
  refine ro_sld MC HS hscr hb0 (i9 + 1) (nI_add i9 1) (by omega) hL dL_law_1493 ?_
  refine lv_aload_n hx hb dL_law_1494 rfl (lv_at hl 1 rfl) ?_
  refine lv_iload hx hb dL_law_1495 (lv_at hl 5 rfl) ?_
  refine lv_iconst (v := 2) hx hb dL_law_1497 (by decide) ?_
  refine lv_iadd hx hb dL_law_1498 ?_
  refine ro_sld MC HS hscr hb0 (i9 + 2) (nI_add i9 2) (by omega) hL dL_law_1499 ?_
  obtain ⟨RR1, ad1, cn1, nw1, ns1, nl1, nc1, out1, hX1, hI1, had, hM1, h31, hout⟩ := wf_un hX hI hM h30 hp0 hp1
  have hm := m_excuse (l := l) hM1 hI (xs (i9 + 1)) (xs (i9 + 2))
  rw [had 11 (by omega)] at hm
  have hrec1 := mo_recv MC hM1
  rw [had 11 (by omega)] at hrec1
  refine ro_callV MC HS (rest := []) (As := [.int (xs (i9 + 1)), .int (xs (i9 + 2))]) hm lkL_173 kw827 kw828 ⟨by show (_ : Nat) ≤ R.frames; exact Nat.le_trans (Nat.le_of_ble_eq_true rfl : _ ≤ 10) hR.1, by show (_ : Nat) ≤ R.locals; exact Nat.le_trans (Nat.le_of_ble_eq_true rfl : _ ≤ 310) hR.2⟩ hrec1 hl.1 rfl (Nat.le_of_ble_eq_true rfl) dL_law_1500 ⟨by show cells + 8 + 0 ≤ R.cells; omega, by show slots + 48 + 0 ≤ R.slots; omega⟩ (fun v9 H2 locs2 hp hz2 HS => ?_)
  obtain ⟨rz, rfl, hM2, hrz⟩ := hp
  refine lv_istore (lv' := [(6, .int rz), (5, .int ((th_excuse τ (xs (i9 + 1)) (xs (i9 + 2))))), (0, .ref b), (1, .ref (ad 0)), (2, .ref (ad 11)), (3, .ref (ad 30)), (4, .int (nI i9))]) hx hb dL_law_1503 hl (by decide) rfl (fun ls hl => ?_)
  refine lv_aload_n hx hb dL_law_1505 rfl (lv_at hl 4 rfl) ?_
  have ht := m_thrown (l := l) hM2
  rw [had 11 (by omega)] at ht
  have hrec2 := mo_recv MC hM2
  rw [had 11 (by omega)] at hrec2
  refine ro_callV MC HS (rest := []) (As := []) ht lkL_105 kw689 kw690 ⟨by show 0 + 1 ≤ R.frames; omega, by show 8 + (1 + 11) + 0 ≤ R.locals; omega⟩ hrec2 hl.1 rfl (Nat.le_of_ble_eq_true rfl) dL_law_1506 ⟨by show cells + 8 + 0 + 0 ≤ R.cells; omega, by show slots + 48 + 0 + 0 ≤ R.slots; omega⟩ (fun v9 H3 locs3 hp hz3 HS => ?_)
  obtain ⟨rfl, rfl⟩ := hp
  refine lv_iload hx hb dL_law_1509 (lv_at hl 1 rfl) ?_
  refine lv_icmp_eq (tgt := 1516) hx hb dL_law_1511 (by decide) (fun c_1511 => ?_) (fun c_1511 => absurd (rfl) c_1511)
  refine lv_iload hx hb dL_law_1516 (lv_at hl 1 rfl) ?_
  refine lv_if_ne (tgt := 1533) hx hb dL_law_1518 (by decide) (fun c_1518 => ?_) (fun c_1518 => ?_)
  · refine lv_goto (tgt := 1760) hx hb dL_law_1533 (by decide) ?_
    exact kk _ _ ls (bw.of hX1 hI1 h31 hM2 (had 0 (by omega)) (had 11 (by omega)) (had 30 (by omega))) HS (lv_sub hl [2, 3, 4, 5, 6] rfl)
  · refine lv_aload_n hx hb dL_law_1521 rfl (lv_at hl 5 rfl) ?_
    refine lv_iconst (v := 0) hx hb dL_law_1522 (by decide) ?_
    obtain ⟨cn2, HP2, -, hfr2, hRR2⟩ := id hM2
    refine ro_laldE MC HP2 (had 30 (by omega)) (hRR2 30 (by omega)) ((hfr2 30 (by omega)).trans h31) (vp_in_nI (n := 0) (N := 1) (by omega) (by omega)) dL_law_1523 ?_
    refine lv_iload hx hb dL_law_1524 (lv_at hl 0 rfl) ?_
    refine lv_i2l hx hb dL_law_1526 rfl ?_
    refine W.lcmp hx hb dL_law_1527 ?_
    rw [show lg_cmp (out1 (Int32.toNatClampNeg 0)) ((rz).toInt64) = 0 by show lg_cmp (out1 0) _ = 0; rw [hout c_1518, hrz c_1518]; exact lg_self _]
    refine lv_if_eq (tgt := 1533) hx hb dL_law_1528 (by decide) (fun c_1528 => ?_) (fun c_1528 => absurd c_1528 (by decide))
    refine lv_goto (tgt := 1760) hx hb dL_law_1533 (by decide) ?_
    exact kk _ _ ls (bw.of hX1 hI1 h31 hM2 (had 0 (by omega)) (had 11 (by omega)) (had 30 (by omega))) HS (lv_sub hl [2, 3, 4, 5, 6] rfl)
set_option maxHeartbeats 4000000 in
set_option maxRecDepth 100000 in
theorem l_badHours {p : Program} {l : Launch} (hl9 : l.stackTraces = false) {e : Env} {R : Room} {s : State} {m : MethodId} {args : Array Value} {below : List Frame} {meth : Method} {c : Code} {H : Heap} {locs : List Loc} {cells slots : Nat} {Q : State → Prop} {D : va_G} {ids : Nat → ClassId} {n0 b L a0 a11 a30 i9 : Nat} {xs : Nat → Int32} (MC : ro_C p s m args meth c cL_law 7 "FrostCalendarLaw" D ids n0) (HS : va_S (fun q => n0 ≤ q) s.heap H locs) (hw : bw D ids n0 a0 a11 a30 H) (hscr : va_X b L xs s s.heap) (hb0 : b < n0) (hL : L ≤ 3072) (hi : i9 + 6 ≤ L) (hR : 10 ≤ R.frames ∧ 310 ≤ R.locals) (hcl : cells + 8 ≤ R.cells) (hsl : slots + 48 ≤ R.slots) {ls : Array Slot} (hl : lv_has ls 7 [(0, .ref b), (1, .ref a0), (2, .ref a11), (3, .ref a30), (4, .int (nI i9))])
    (kk : ∀ (H1 : Heap) (locs1 : List Loc) (ls1 : Array Slot), bw D ids n0 a0 a11 a30 H1 → va_S (fun q => n0 ≤ q) s.heap H1 locs1 → lv_has ls1 7 [(0, .ref b), (1, .ref a0), (2, .ref a11), (3, .ref a30), (4, .int (nI i9))] → W p l e R s m args below meth c H1 locs1 (cells + 8) (slots + 48) Q (F0 m 1760 ls1 [])) : W p l e R s m args below meth c H locs cells slots Q (F0 m 1536 ls []) := by
  have hx := MC.1.1
  have hb := MC.1.2.1
  obtain ⟨RR, ad, cn, τ, th0, nw, ns, nl, nc, out, hX, hI, hM, h30, rfl, rfl, rfl⟩ := hw
  refine lv_aload_n hx hb dL_law_1536 rfl (lv_at hl 1 rfl) ?_
  refine lv_aload_n hx hb dL_law_1537 rfl (lv_at hl 0 rfl) ?_
  refine lv_iload hx hb dL_law_1538 (lv_at hl 4 rfl) ?_
  refine lv_iconst (v := 1) hx hb dL_law_1540 (by decide) ?_
  refine lv_iadd hx hb dL_law_1541 ?_
  refine ro_sld MC HS hscr hb0 (i9 + 1) (nI_add i9 1) (by omega) hL dL_law_1542 ?_
  refine lv_aload_n hx hb dL_law_1543 rfl (lv_at hl 3 rfl) ?_
  refine ro_callW MC HS (rest := []) (As := [.ref (ad 0), .int (xs (i9 + 1)), .ref (ad 30)]) (w_badHours hl9 hX hI h30) lw_174 ⟨by show 9 + 1 ≤ R.frames; omega, by show 8 + (4 + 11) + 280 ≤ R.locals; omega⟩ hl.1 rfl (Nat.le_of_ble_eq_true rfl) dL_law_1544 ⟨hcl, hsl⟩ (fun v9 H1 locs1 hp hz1 HS => ?_)
  obtain ⟨rfl, hp0, hp1⟩ := hp
  refine lv_istore (lv' := [(5, .int ((th_badHours τ (xs (i9 + 1))))), (0, .ref b), (1, .ref (ad 0)), (2, .ref (ad 11)), (3, .ref (ad 30)), (4, .int (nI i9))]) hx hb dL_law_1547 hl (by decide) rfl (fun ls hl => ?_)
  refine lv_aload_n hx hb dL_law_1549 rfl (lv_at hl 3 rfl) ?_
  refine lv_aload_n hx hb dL_law_1550 rfl (lv_at hl 1 rfl) ?_
  refine lv_iload hx hb dL_law_1551 (lv_at hl 5 rfl) ?_
  refine lv_iconst (v := 1) hx hb dL_law_1553 (by decide) ?_
  refine lv_iadd hx hb dL_law_1554 ?_
  refine ro_sld MC HS hscr hb0 (i9 + 1) (nI_add i9 1) (by omega) hL dL_law_1555 ?_
  obtain ⟨RR1, ad1, cn1, nw1, ns1, nl1, nc1, out1, hX1, hI1, had, hM1, h31, hout⟩ := wf_un hX hI hM h30 hp0 hp1
  simp only [ite_self] at hX1 hI1
  have hm := m_badHours (l := l) hM1 hI (xs (i9 + 1))
  rw [had 11 (by omega)] at hm
  have hrec1 := mo_recv MC hM1
  rw [had 11 (by omega)] at hrec1
  refine ro_callV MC HS (rest := []) (As := [.int (xs (i9 + 1))]) hm lkL_176 kw831 kw832 ⟨by show (_ : Nat) ≤ R.frames; exact Nat.le_trans (Nat.le_of_ble_eq_true rfl : _ ≤ 10) hR.1, by show (_ : Nat) ≤ R.locals; exact Nat.le_trans (Nat.le_of_ble_eq_true rfl : _ ≤ 310) hR.2⟩ hrec1 hl.1 rfl (Nat.le_of_ble_eq_true rfl) dL_law_1556 ⟨by show cells + 8 + 0 ≤ R.cells; omega, by show slots + 48 + 0 ≤ R.slots; omega⟩ (fun v9 H2 locs2 hp hz2 HS => ?_)
  obtain ⟨rz, rfl, hM2, hrz⟩ := hp
  refine lv_istore (lv' := [(6, .int rz), (5, .int ((th_badHours τ (xs (i9 + 1))))), (0, .ref b), (1, .ref (ad 0)), (2, .ref (ad 11)), (3, .ref (ad 30)), (4, .int (nI i9))]) hx hb dL_law_1559 hl (by decide) rfl (fun ls hl => ?_)
  refine lv_aload_n hx hb dL_law_1561 rfl (lv_at hl 4 rfl) ?_
  have ht := m_thrown (l := l) hM2
  rw [had 11 (by omega)] at ht
  have hrec2 := mo_recv MC hM2
  rw [had 11 (by omega)] at hrec2
  refine ro_callV MC HS (rest := []) (As := []) ht lkL_105 kw689 kw690 ⟨by show 0 + 1 ≤ R.frames; omega, by show 8 + (1 + 11) + 0 ≤ R.locals; omega⟩ hrec2 hl.1 rfl (Nat.le_of_ble_eq_true rfl) dL_law_1562 ⟨by show cells + 8 + 0 + 0 ≤ R.cells; omega, by show slots + 48 + 0 + 0 ≤ R.slots; omega⟩ (fun v9 H3 locs3 hp hz3 HS => ?_)
  obtain ⟨rfl, rfl⟩ := hp
  refine lv_iload hx hb dL_law_1565 (lv_at hl 1 rfl) ?_
  refine lv_icmp_eq (tgt := 1572) hx hb dL_law_1567 (by decide) (fun c_1567 => ?_) (fun c_1567 => absurd (rfl) c_1567)
  refine lv_iload hx hb dL_law_1572 (lv_at hl 1 rfl) ?_
  refine lv_if_ne (tgt := 1589) hx hb dL_law_1574 (by decide) (fun c_1574 => ?_) (fun c_1574 => ?_)
  · refine lv_goto (tgt := 1760) hx hb dL_law_1589 (by decide) ?_
    exact kk _ _ ls (bw.of hX1 hI1 h31 hM2 (had 0 (by omega)) (had 11 (by omega)) (had 30 (by omega))) HS (lv_sub hl [2, 3, 4, 5, 6] rfl)
  · refine lv_aload_n hx hb dL_law_1577 rfl (lv_at hl 5 rfl) ?_
    refine lv_iconst (v := 0) hx hb dL_law_1578 (by decide) ?_
    obtain ⟨cn2, HP2, -, hfr2, hRR2⟩ := id hM2
    refine ro_laldE MC HP2 (had 30 (by omega)) (hRR2 30 (by omega)) ((hfr2 30 (by omega)).trans h31) (vp_in_nI (n := 0) (N := 1) (by omega) (by omega)) dL_law_1579 ?_
    refine lv_iload hx hb dL_law_1580 (lv_at hl 0 rfl) ?_
    refine lv_i2l hx hb dL_law_1582 rfl ?_
    refine W.lcmp hx hb dL_law_1583 ?_
    rw [show lg_cmp (out1 (Int32.toNatClampNeg 0)) ((rz).toInt64) = 0 by show lg_cmp (out1 0) _ = 0; rw [hout c_1574, hrz c_1574]; exact lg_self _]
    refine lv_if_eq (tgt := 1589) hx hb dL_law_1584 (by decide) (fun c_1584 => ?_) (fun c_1584 => absurd c_1584 (by decide))
    refine lv_goto (tgt := 1760) hx hb dL_law_1589 (by decide) ?_
    exact kk _ _ ls (bw.of hX1 hI1 h31 hM2 (had 0 (by omega)) (had 11 (by omega)) (had 30 (by omega))) HS (lv_sub hl [2, 3, 4, 5, 6] rfl)
set_option maxHeartbeats 4000000 in
set_option maxRecDepth 100000 in
theorem l_badHoursOneByOne {p : Program} {l : Launch} (hl9 : l.stackTraces = false) {e : Env} {R : Room} {s : State} {m : MethodId} {args : Array Value} {below : List Frame} {meth : Method} {c : Code} {H : Heap} {locs : List Loc} {cells slots : Nat} {Q : State → Prop} {D : va_G} {ids : Nat → ClassId} {n0 b L a0 a11 a30 i9 : Nat} {xs : Nat → Int32} (MC : ro_C p s m args meth c cL_law 7 "FrostCalendarLaw" D ids n0) (HS : va_S (fun q => n0 ≤ q) s.heap H locs) (hw : bw D ids n0 a0 a11 a30 H) (hscr : va_X b L xs s s.heap) (hb0 : b < n0) (hL : L ≤ 3072) (hi : i9 + 6 ≤ L) (hR : 10 ≤ R.frames ∧ 310 ≤ R.locals) (hcl : cells + 8 ≤ R.cells) (hsl : slots + 48 ≤ R.slots) {ls : Array Slot} (hl : lv_has ls 7 [(0, .ref b), (1, .ref a0), (2, .ref a11), (3, .ref a30), (4, .int (nI i9))])
    (kk : ∀ (H1 : Heap) (locs1 : List Loc) (ls1 : Array Slot), bw D ids n0 a0 a11 a30 H1 → va_S (fun q => n0 ≤ q) s.heap H1 locs1 → lv_has ls1 7 [(0, .ref b), (1, .ref a0), (2, .ref a11), (3, .ref a30), (4, .int (nI i9))] → W p l e R s m args below meth c H1 locs1 (cells + 8) (slots + 48) Q (F0 m 1760 ls1 [])) : W p l e R s m args below meth c H locs cells slots Q (F0 m 1592 ls []) := by
  have hx := MC.1.1
  have hb := MC.1.2.1
  obtain ⟨RR, ad, cn, τ, th0, nw, ns, nl, nc, out, hX, hI, hM, h30, rfl, rfl, rfl⟩ := hw
  refine lv_aload_n hx hb dL_law_1592 rfl (lv_at hl 1 rfl) ?_
  refine lv_aload_n hx hb dL_law_1593 rfl (lv_at hl 0 rfl) ?_
  refine lv_iload hx hb dL_law_1594 (lv_at hl 4 rfl) ?_
  refine lv_iconst (v := 1) hx hb dL_law_1596 (by decide) ?_
  refine lv_iadd hx hb dL_law_1597 ?_
  refine ro_sld MC HS hscr hb0 (i9 + 1) (nI_add i9 1) (by omega) hL dL_law_1598 ?_
  refine lv_aload_n hx hb dL_law_1599 rfl (lv_at hl 3 rfl) ?_
  refine ro_callW MC HS (rest := []) (As := [.ref (ad 0), .int (xs (i9 + 1)), .ref (ad 30)]) (w_badHoursOneByOne hl9 hX hI h30) lw_177 ⟨by show 9 + 1 ≤ R.frames; omega, by show 8 + (4 + 11) + 280 ≤ R.locals; omega⟩ hl.1 rfl (Nat.le_of_ble_eq_true rfl) dL_law_1600 ⟨hcl, hsl⟩ (fun v9 H1 locs1 hp hz1 HS => ?_)
  obtain ⟨rfl, hp0, hp1⟩ := hp
  refine lv_istore (lv' := [(5, .int ((th_badHours τ (xs (i9 + 1))))), (0, .ref b), (1, .ref (ad 0)), (2, .ref (ad 11)), (3, .ref (ad 30)), (4, .int (nI i9))]) hx hb dL_law_1603 hl (by decide) rfl (fun ls hl => ?_)
  refine lv_aload_n hx hb dL_law_1605 rfl (lv_at hl 3 rfl) ?_
  refine lv_aload_n hx hb dL_law_1606 rfl (lv_at hl 1 rfl) ?_
  refine lv_iload hx hb dL_law_1607 (lv_at hl 5 rfl) ?_
  refine lv_iconst (v := 1) hx hb dL_law_1609 (by decide) ?_
  refine lv_iadd hx hb dL_law_1610 ?_
  refine ro_sld MC HS hscr hb0 (i9 + 1) (nI_add i9 1) (by omega) hL dL_law_1611 ?_
  obtain ⟨RR1, ad1, cn1, nw1, ns1, nl1, nc1, out1, hX1, hI1, had, hM1, h31, hout⟩ := wf_un hX hI hM h30 hp0 hp1
  simp only [ite_self] at hX1 hI1
  have hm := m_badHoursOneByOne (l := l) hM1 hI (xs (i9 + 1))
  rw [had 11 (by omega)] at hm
  have hrec1 := mo_recv MC hM1
  rw [had 11 (by omega)] at hrec1
  refine ro_callV MC HS (rest := []) (As := [.int (xs (i9 + 1))]) hm lkL_179 kw835 kw836 ⟨by show (_ : Nat) ≤ R.frames; exact Nat.le_trans (Nat.le_of_ble_eq_true rfl : _ ≤ 10) hR.1, by show (_ : Nat) ≤ R.locals; exact Nat.le_trans (Nat.le_of_ble_eq_true rfl : _ ≤ 310) hR.2⟩ hrec1 hl.1 rfl (Nat.le_of_ble_eq_true rfl) dL_law_1612 ⟨by show cells + 8 + 0 ≤ R.cells; omega, by show slots + 48 + 0 ≤ R.slots; omega⟩ (fun v9 H2 locs2 hp hz2 HS => ?_)
  obtain ⟨rz, rfl, hM2, hrz⟩ := hp
  refine lv_istore (lv' := [(6, .int rz), (5, .int ((th_badHours τ (xs (i9 + 1))))), (0, .ref b), (1, .ref (ad 0)), (2, .ref (ad 11)), (3, .ref (ad 30)), (4, .int (nI i9))]) hx hb dL_law_1615 hl (by decide) rfl (fun ls hl => ?_)
  refine lv_aload_n hx hb dL_law_1617 rfl (lv_at hl 4 rfl) ?_
  have ht := m_thrown (l := l) hM2
  rw [had 11 (by omega)] at ht
  have hrec2 := mo_recv MC hM2
  rw [had 11 (by omega)] at hrec2
  refine ro_callV MC HS (rest := []) (As := []) ht lkL_105 kw689 kw690 ⟨by show 0 + 1 ≤ R.frames; omega, by show 8 + (1 + 11) + 0 ≤ R.locals; omega⟩ hrec2 hl.1 rfl (Nat.le_of_ble_eq_true rfl) dL_law_1618 ⟨by show cells + 8 + 0 + 0 ≤ R.cells; omega, by show slots + 48 + 0 + 0 ≤ R.slots; omega⟩ (fun v9 H3 locs3 hp hz3 HS => ?_)
  obtain ⟨rfl, rfl⟩ := hp
  refine lv_iload hx hb dL_law_1621 (lv_at hl 1 rfl) ?_
  refine lv_icmp_eq (tgt := 1628) hx hb dL_law_1623 (by decide) (fun c_1623 => ?_) (fun c_1623 => absurd (rfl) c_1623)
  refine lv_iload hx hb dL_law_1628 (lv_at hl 1 rfl) ?_
  refine lv_if_ne (tgt := 1645) hx hb dL_law_1630 (by decide) (fun c_1630 => ?_) (fun c_1630 => ?_)
  · refine lv_goto (tgt := 1760) hx hb dL_law_1645 (by decide) ?_
    exact kk _ _ ls (bw.of hX1 hI1 h31 hM2 (had 0 (by omega)) (had 11 (by omega)) (had 30 (by omega))) HS (lv_sub hl [2, 3, 4, 5, 6] rfl)
  · refine lv_aload_n hx hb dL_law_1633 rfl (lv_at hl 5 rfl) ?_
    refine lv_iconst (v := 0) hx hb dL_law_1634 (by decide) ?_
    obtain ⟨cn2, HP2, -, hfr2, hRR2⟩ := id hM2
    refine ro_laldE MC HP2 (had 30 (by omega)) (hRR2 30 (by omega)) ((hfr2 30 (by omega)).trans h31) (vp_in_nI (n := 0) (N := 1) (by omega) (by omega)) dL_law_1635 ?_
    refine lv_iload hx hb dL_law_1636 (lv_at hl 0 rfl) ?_
    refine lv_i2l hx hb dL_law_1638 rfl ?_
    refine W.lcmp hx hb dL_law_1639 ?_
    rw [show lg_cmp (out1 (Int32.toNatClampNeg 0)) ((rz).toInt64) = 0 by show lg_cmp (out1 0) _ = 0; rw [hout c_1630, hrz c_1630]; exact lg_self _]
    refine lv_if_eq (tgt := 1645) hx hb dL_law_1640 (by decide) (fun c_1640 => ?_) (fun c_1640 => absurd c_1640 (by decide))
    refine lv_goto (tgt := 1760) hx hb dL_law_1645 (by decide) ?_
    exact kk _ _ ls (bw.of hX1 hI1 h31 hM2 (had 0 (by omega)) (had 11 (by omega)) (had 30 (by omega))) HS (lv_sub hl [2, 3, 4, 5, 6] rfl)
set_option maxHeartbeats 4000000 in
set_option maxRecDepth 100000 in
theorem l_firstBad {p : Program} {l : Launch} (hl9 : l.stackTraces = false) {e : Env} {R : Room} {s : State} {m : MethodId} {args : Array Value} {below : List Frame} {meth : Method} {c : Code} {H : Heap} {locs : List Loc} {cells slots : Nat} {Q : State → Prop} {D : va_G} {ids : Nat → ClassId} {n0 b L a0 a11 a30 i9 : Nat} {xs : Nat → Int32} (MC : ro_C p s m args meth c cL_law 7 "FrostCalendarLaw" D ids n0) (HS : va_S (fun q => n0 ≤ q) s.heap H locs) (hw : bw D ids n0 a0 a11 a30 H) (hscr : va_X b L xs s s.heap) (hb0 : b < n0) (hL : L ≤ 3072) (hi : i9 + 6 ≤ L) (hR : 10 ≤ R.frames ∧ 310 ≤ R.locals) (hcl : cells + 8 ≤ R.cells) (hsl : slots + 48 ≤ R.slots) {ls : Array Slot} (hl : lv_has ls 7 [(0, .ref b), (1, .ref a0), (2, .ref a11), (3, .ref a30), (4, .int (nI i9))])
    (kk : ∀ (H1 : Heap) (locs1 : List Loc) (ls1 : Array Slot), bw D ids n0 a0 a11 a30 H1 → va_S (fun q => n0 ≤ q) s.heap H1 locs1 → lv_has ls1 7 [(0, .ref b), (1, .ref a0), (2, .ref a11), (3, .ref a30), (4, .int (nI i9))] → W p l e R s m args below meth c H1 locs1 (cells + 8) (slots + 48) Q (F0 m 1760 ls1 [])) : W p l e R s m args below meth c H locs cells slots Q (F0 m 1648 ls []) := by
  have hx := MC.1.1
  have hb := MC.1.2.1
  obtain ⟨RR, ad, cn, τ, th0, nw, ns, nl, nc, out, hX, hI, hM, h30, rfl, rfl, rfl⟩ := hw
  refine lv_aload_n hx hb dL_law_1648 rfl (lv_at hl 1 rfl) ?_
  refine lv_aload_n hx hb dL_law_1649 rfl (lv_at hl 0 rfl) ?_
  refine lv_iload hx hb dL_law_1650 (lv_at hl 4 rfl) ?_
  refine lv_iconst (v := 1) hx hb dL_law_1652 (by decide) ?_
  refine lv_iadd hx hb dL_law_1653 ?_
  refine ro_sld MC HS hscr hb0 (i9 + 1) (nI_add i9 1) (by omega) hL dL_law_1654 ?_
  refine lv_aload_n hx hb dL_law_1655 rfl (lv_at hl 3 rfl) ?_
  refine ro_callW MC HS (rest := []) (As := [.ref (ad 0), .int (xs (i9 + 1)), .ref (ad 30)]) (w_firstBad hl9 hX hI h30) lw_180 ⟨by show 9 + 1 ≤ R.frames; omega, by show 8 + (4 + 11) + 280 ≤ R.locals; omega⟩ hl.1 rfl (Nat.le_of_ble_eq_true rfl) dL_law_1656 ⟨hcl, hsl⟩ (fun v9 H1 locs1 hp hz1 HS => ?_)
  obtain ⟨rfl, hp0, hp1⟩ := hp
  refine lv_istore (lv' := [(5, .int ((th_badHours τ (xs (i9 + 1))))), (0, .ref b), (1, .ref (ad 0)), (2, .ref (ad 11)), (3, .ref (ad 30)), (4, .int (nI i9))]) hx hb dL_law_1659 hl (by decide) rfl (fun ls hl => ?_)
  refine lv_aload_n hx hb dL_law_1661 rfl (lv_at hl 3 rfl) ?_
  refine lv_aload_n hx hb dL_law_1662 rfl (lv_at hl 1 rfl) ?_
  refine lv_iload hx hb dL_law_1663 (lv_at hl 5 rfl) ?_
  refine lv_iconst (v := 1) hx hb dL_law_1665 (by decide) ?_
  refine lv_iadd hx hb dL_law_1666 ?_
  refine ro_sld MC HS hscr hb0 (i9 + 1) (nI_add i9 1) (by omega) hL dL_law_1667 ?_
  obtain ⟨RR1, ad1, cn1, nw1, ns1, nl1, nc1, out1, hX1, hI1, had, hM1, h31, hout⟩ := wf_un hX hI hM h30 hp0 hp1
  simp only [ite_self] at hX1 hI1
  have hm := m_firstBad (l := l) hM1 hI (xs (i9 + 1))
  rw [had 11 (by omega)] at hm
  have hrec1 := mo_recv MC hM1
  rw [had 11 (by omega)] at hrec1
  refine ro_callV MC HS (rest := []) (As := [.int (xs (i9 + 1))]) hm lkL_182 kw840 kw841 ⟨by show (_ : Nat) ≤ R.frames; exact Nat.le_trans (Nat.le_of_ble_eq_true rfl : _ ≤ 10) hR.1, by show (_ : Nat) ≤ R.locals; exact Nat.le_trans (Nat.le_of_ble_eq_true rfl : _ ≤ 310) hR.2⟩ hrec1 hl.1 rfl (Nat.le_of_ble_eq_true rfl) dL_law_1668 ⟨by show cells + 8 + 0 ≤ R.cells; omega, by show slots + 48 + 0 ≤ R.slots; omega⟩ (fun v9 H2 locs2 hp hz2 HS => ?_)
  obtain ⟨rz, rfl, hM2, hrz⟩ := hp
  refine lv_istore (lv' := [(6, .int rz), (5, .int ((th_badHours τ (xs (i9 + 1))))), (0, .ref b), (1, .ref (ad 0)), (2, .ref (ad 11)), (3, .ref (ad 30)), (4, .int (nI i9))]) hx hb dL_law_1671 hl (by decide) rfl (fun ls hl => ?_)
  refine lv_aload_n hx hb dL_law_1673 rfl (lv_at hl 4 rfl) ?_
  have ht := m_thrown (l := l) hM2
  rw [had 11 (by omega)] at ht
  have hrec2 := mo_recv MC hM2
  rw [had 11 (by omega)] at hrec2
  refine ro_callV MC HS (rest := []) (As := []) ht lkL_105 kw689 kw690 ⟨by show 0 + 1 ≤ R.frames; omega, by show 8 + (1 + 11) + 0 ≤ R.locals; omega⟩ hrec2 hl.1 rfl (Nat.le_of_ble_eq_true rfl) dL_law_1674 ⟨by show cells + 8 + 0 + 0 ≤ R.cells; omega, by show slots + 48 + 0 + 0 ≤ R.slots; omega⟩ (fun v9 H3 locs3 hp hz3 HS => ?_)
  obtain ⟨rfl, rfl⟩ := hp
  refine lv_iload hx hb dL_law_1677 (lv_at hl 1 rfl) ?_
  refine lv_icmp_eq (tgt := 1684) hx hb dL_law_1679 (by decide) (fun c_1679 => ?_) (fun c_1679 => absurd (rfl) c_1679)
  refine lv_iload hx hb dL_law_1684 (lv_at hl 1 rfl) ?_
  refine lv_if_ne (tgt := 1701) hx hb dL_law_1686 (by decide) (fun c_1686 => ?_) (fun c_1686 => ?_)
  · refine lv_goto (tgt := 1760) hx hb dL_law_1701 (by decide) ?_
    exact kk _ _ ls (bw.of hX1 hI1 h31 hM2 (had 0 (by omega)) (had 11 (by omega)) (had 30 (by omega))) HS (lv_sub hl [2, 3, 4, 5, 6] rfl)
  · refine lv_aload_n hx hb dL_law_1689 rfl (lv_at hl 5 rfl) ?_
    refine lv_iconst (v := 0) hx hb dL_law_1690 (by decide) ?_
    obtain ⟨cn2, HP2, -, hfr2, hRR2⟩ := id hM2
    refine ro_laldE MC HP2 (had 30 (by omega)) (hRR2 30 (by omega)) ((hfr2 30 (by omega)).trans h31) (vp_in_nI (n := 0) (N := 1) (by omega) (by omega)) dL_law_1691 ?_
    refine lv_iload hx hb dL_law_1692 (lv_at hl 0 rfl) ?_
    refine lv_i2l hx hb dL_law_1694 rfl ?_
    refine W.lcmp hx hb dL_law_1695 ?_
    rw [show lg_cmp (out1 (Int32.toNatClampNeg 0)) ((rz).toInt64) = 0 by show lg_cmp (out1 0) _ = 0; rw [hout c_1686, hrz c_1686]; exact lg_self _]
    refine lv_if_eq (tgt := 1701) hx hb dL_law_1696 (by decide) (fun c_1696 => ?_) (fun c_1696 => absurd c_1696 (by decide))
    refine lv_goto (tgt := 1760) hx hb dL_law_1701 (by decide) ?_
    exact kk _ _ ls (bw.of hX1 hI1 h31 hM2 (had 0 (by omega)) (had 11 (by omega)) (had 30 (by omega))) HS (lv_sub hl [2, 3, 4, 5, 6] rfl)
set_option maxHeartbeats 4000000 in
set_option maxRecDepth 100000 in
theorem l_reasons {p : Program} {l : Launch} (hl9 : l.stackTraces = false) {e : Env} {R : Room} {s : State} {m : MethodId} {args : Array Value} {below : List Frame} {meth : Method} {c : Code} {H : Heap} {locs : List Loc} {cells slots : Nat} {Q : State → Prop} {D : va_G} {ids : Nat → ClassId} {n0 b L a0 a11 a30 i9 : Nat} {xs : Nat → Int32} (MC : ro_C p s m args meth c cL_law 7 "FrostCalendarLaw" D ids n0) (HS : va_S (fun q => n0 ≤ q) s.heap H locs) (hw : bw D ids n0 a0 a11 a30 H) (hscr : va_X b L xs s s.heap) (hb0 : b < n0) (hL : L ≤ 3072) (hi : i9 + 6 ≤ L) (hR : 10 ≤ R.frames ∧ 310 ≤ R.locals) (hcl : cells + 8 ≤ R.cells) (hsl : slots + 48 ≤ R.slots) {ls : Array Slot} (hl : lv_has ls 7 [(0, .ref b), (1, .ref a0), (2, .ref a11), (3, .ref a30), (4, .int (nI i9))])
    (kk : ∀ (H1 : Heap) (locs1 : List Loc) (ls1 : Array Slot), bw D ids n0 a0 a11 a30 H1 → va_S (fun q => n0 ≤ q) s.heap H1 locs1 → lv_has ls1 7 [(0, .ref b), (1, .ref a0), (2, .ref a11), (3, .ref a30), (4, .int (nI i9))] → W p l e R s m args below meth c H1 locs1 (cells + 8) (slots + 48) Q (F0 m 1760 ls1 [])) : W p l e R s m args below meth c H locs cells slots Q (F0 m 1704 ls []) := by
  have hx := MC.1.1
  have hb := MC.1.2.1
  obtain ⟨RR, ad, cn, τ, th0, nw, ns, nl, nc, out, hX, hI, hM, h30, rfl, rfl, rfl⟩ := hw
  refine lv_aload_n hx hb dL_law_1704 rfl (lv_at hl 1 rfl) ?_
  refine lv_aload_n hx hb dL_law_1705 rfl (lv_at hl 0 rfl) ?_
  refine lv_iload hx hb dL_law_1706 (lv_at hl 4 rfl) ?_
  refine lv_iconst (v := 1) hx hb dL_law_1708 (by decide) ?_
  refine lv_iadd hx hb dL_law_1709 ?_
  refine ro_sld MC HS hscr hb0 (i9 + 1) (nI_add i9 1) (by omega) hL dL_law_1710 ?_
  refine lv_aload_n hx hb dL_law_1711 rfl (lv_at hl 3 rfl) ?_
  refine ro_callW MC HS (rest := []) (As := [.ref (ad 0), .int (xs (i9 + 1)), .ref (ad 30)]) (w_reasons hl9 hX hI h30) lw_183 ⟨by show 9 + 1 ≤ R.frames; omega, by show 8 + (4 + 11) + 280 ≤ R.locals; omega⟩ hl.1 rfl (Nat.le_of_ble_eq_true rfl) dL_law_1712 ⟨hcl, hsl⟩ (fun v9 H1 locs1 hp hz1 HS => ?_)
  obtain ⟨rfl, hp0, hp1⟩ := hp
  refine lv_istore (lv' := [(5, .int ((th_badHours τ (xs (i9 + 1))))), (0, .ref b), (1, .ref (ad 0)), (2, .ref (ad 11)), (3, .ref (ad 30)), (4, .int (nI i9))]) hx hb dL_law_1715 hl (by decide) rfl (fun ls hl => ?_)
  refine lv_aload_n hx hb dL_law_1717 rfl (lv_at hl 3 rfl) ?_
  refine lv_aload_n hx hb dL_law_1718 rfl (lv_at hl 1 rfl) ?_
  refine lv_iload hx hb dL_law_1719 (lv_at hl 5 rfl) ?_
  refine lv_iconst (v := 1) hx hb dL_law_1721 (by decide) ?_
  refine lv_iadd hx hb dL_law_1722 ?_
  refine ro_sld MC HS hscr hb0 (i9 + 1) (nI_add i9 1) (by omega) hL dL_law_1723 ?_
  obtain ⟨RR1, ad1, cn1, nw1, ns1, nl1, nc1, out1, hX1, hI1, had, hM1, h31, hout⟩ := wf_un hX hI hM h30 hp0 hp1
  simp only [ite_self] at hX1 hI1
  have hm := m_reasons (l := l) hM1 hI (xs (i9 + 1))
  rw [had 11 (by omega)] at hm
  have hrec1 := mo_recv MC hM1
  rw [had 11 (by omega)] at hrec1
  refine ro_callV MC HS (rest := []) (As := [.int (xs (i9 + 1))]) hm lkL_185 kw844 kw845 ⟨by show (_ : Nat) ≤ R.frames; exact Nat.le_trans (Nat.le_of_ble_eq_true rfl : _ ≤ 10) hR.1, by show (_ : Nat) ≤ R.locals; exact Nat.le_trans (Nat.le_of_ble_eq_true rfl : _ ≤ 310) hR.2⟩ hrec1 hl.1 rfl (Nat.le_of_ble_eq_true rfl) dL_law_1724 ⟨by show cells + 8 + 0 ≤ R.cells; omega, by show slots + 48 + 0 ≤ R.slots; omega⟩ (fun v9 H2 locs2 hp hz2 HS => ?_)
  obtain ⟨rz, rfl, hM2, hrz⟩ := hp
  refine lv_istore (lv' := [(6, .int rz), (5, .int ((th_badHours τ (xs (i9 + 1))))), (0, .ref b), (1, .ref (ad 0)), (2, .ref (ad 11)), (3, .ref (ad 30)), (4, .int (nI i9))]) hx hb dL_law_1727 hl (by decide) rfl (fun ls hl => ?_)
  refine lv_aload_n hx hb dL_law_1729 rfl (lv_at hl 4 rfl) ?_
  have ht := m_thrown (l := l) hM2
  rw [had 11 (by omega)] at ht
  have hrec2 := mo_recv MC hM2
  rw [had 11 (by omega)] at hrec2
  refine ro_callV MC HS (rest := []) (As := []) ht lkL_105 kw689 kw690 ⟨by show 0 + 1 ≤ R.frames; omega, by show 8 + (1 + 11) + 0 ≤ R.locals; omega⟩ hrec2 hl.1 rfl (Nat.le_of_ble_eq_true rfl) dL_law_1730 ⟨by show cells + 8 + 0 + 0 ≤ R.cells; omega, by show slots + 48 + 0 + 0 ≤ R.slots; omega⟩ (fun v9 H3 locs3 hp hz3 HS => ?_)
  obtain ⟨rfl, rfl⟩ := hp
  refine lv_iload hx hb dL_law_1733 (lv_at hl 1 rfl) ?_
  refine lv_icmp_eq (tgt := 1740) hx hb dL_law_1735 (by decide) (fun c_1735 => ?_) (fun c_1735 => absurd (rfl) c_1735)
  refine lv_iload hx hb dL_law_1740 (lv_at hl 1 rfl) ?_
  refine lv_if_ne (tgt := 1757) hx hb dL_law_1742 (by decide) (fun c_1742 => ?_) (fun c_1742 => ?_)
  · refine lv_goto (tgt := 1760) hx hb dL_law_1757 (by decide) ?_
    exact kk _ _ ls (bw.of hX1 hI1 h31 hM2 (had 0 (by omega)) (had 11 (by omega)) (had 30 (by omega))) HS (lv_sub hl [2, 3, 4, 5, 6] rfl)
  · refine lv_aload_n hx hb dL_law_1745 rfl (lv_at hl 5 rfl) ?_
    refine lv_iconst (v := 0) hx hb dL_law_1746 (by decide) ?_
    obtain ⟨cn2, HP2, -, hfr2, hRR2⟩ := id hM2
    refine ro_laldE MC HP2 (had 30 (by omega)) (hRR2 30 (by omega)) ((hfr2 30 (by omega)).trans h31) (vp_in_nI (n := 0) (N := 1) (by omega) (by omega)) dL_law_1747 ?_
    refine lv_iload hx hb dL_law_1748 (lv_at hl 0 rfl) ?_
    refine lv_i2l hx hb dL_law_1750 rfl ?_
    refine W.lcmp hx hb dL_law_1751 ?_
    rw [show lg_cmp (out1 (Int32.toNatClampNeg 0)) ((rz).toInt64) = 0 by show lg_cmp (out1 0) _ = 0; rw [hout c_1742, hrz c_1742]; exact lg_self _]
    refine lv_if_eq (tgt := 1757) hx hb dL_law_1752 (by decide) (fun c_1752 => ?_) (fun c_1752 => absurd c_1752 (by decide))
    refine lv_goto (tgt := 1760) hx hb dL_law_1757 (by decide) ?_
    exact kk _ _ ls (bw.of hX1 hI1 h31 hM2 (had 0 (by omega)) (had 11 (by omega)) (had 30 (by omega))) HS (lv_sub hl [2, 3, 4, 5, 6] rfl)
