theorem lp_out {L i : Nat} (hL : L ≤ 3072) (hi : i ≤ 4000) (h : L < i + 6) : nI L - 6 < nI i := by
  have h1 : nI L < nI (i + 6) := nI_lt h (by omega)
  rw [← nI_add] at h1
  have h2 := nI_b (n := L) (N := 3072) hL (by omega)
  have h3 := nI_b (n := i) (N := 4000) hi (by omega)
  have e1 : nI 6 = 6 := rfl
  have e2 : nI 3072 = 3072 := rfl
  have e3 : nI 4000 = 4000 := rfl
  rw [e1] at h1; rw [e2] at h2; rw [e3] at h3
  obtain ⟨h4, h5⟩ := h2
  obtain ⟨h6, h7⟩ := h3
  lia
theorem lp_in {L i : Nat} (hL : L ≤ 3072) (h : i + 6 ≤ L) : ¬ nI L - 6 < nI i := by
  have h1 : nI (i + 6) ≤ nI L := nI_le h (by omega)
  rw [← nI_add] at h1
  have h2 := nI_b (n := L) (N := 3072) hL (by omega)
  have h3 := nI_b (n := i) (N := 3072) (by omega) (by omega)
  have e1 : nI 6 = 6 := rfl
  have e2 : nI 3072 = 3072 := rfl
  rw [e1] at h1; rw [e2] at h2 h3
  obtain ⟨h4, h5⟩ := h2
  obtain ⟨h6, h7⟩ := h3
  lia
theorem l_loop {p : Program} {l : Launch} (hl9 : l.stackTraces = false) {e : Env} {R : Room} {s : State} {m : MethodId} {args : Array Value} {below : List Frame} {meth : Method} {c : Code} {Q : State → Prop} {D : va_G} {ids : Nat → ClassId} {n0 b L a0 a11 a30 : Nat} {xs : Nat → Int32} (MC : ro_C p s m args meth c cL_law 7 "FrostCalendarLaw" D ids n0) (hscr : va_X b L xs s s.heap) (hb0 : b < n0) (hL : L ≤ 3072) (hR : 10 ≤ R.frames ∧ 310 ≤ R.locals)
    (kk : ∀ (c9 s9 : Nat) (H1 : Heap) (locs1 : List Loc) (ls1 : Array Slot), c9 ≤ R.cells → s9 ≤ R.slots → va_S (fun q => n0 ≤ q) s.heap H1 locs1 → W p l e R s m args below meth c H1 locs1 c9 s9 Q (F0 m 1766 ls1 [])) : ∀ (t i9 cells slots : Nat) (H : Heap) (locs : List Loc) (ls : Array Slot), L < i9 + 6 * (t + 1) → i9 ≤ L + 6 → cells + 8 * t ≤ R.cells → slots + 48 * t ≤ R.slots → va_S (fun q => n0 ≤ q) s.heap H locs → bw D ids n0 a0 a11 a30 H → lv_has ls 7 [(0, .ref b), (1, .ref a0), (2, .ref a11), (3, .ref a30), (4, .int (nI i9))] → W p l e R s m args below meth c H locs cells slots Q (F0 m 23 ls []) := by
  intro t
  have hx := MC.1.1
  have hb := MC.1.2.1
  have hbl := Nat.lt_of_lt_of_le hb0 MC.2.1.2.2.2.1
  induction t with
  | zero =>
    intro i9 cells slots H locs ls h1 h2 h3 h4 HS hw hl
    refine lv_iload hx hb dL_law_23 (lv_at hl 4 rfl) ?_
    refine lv_aload_n hx hb dL_law_25 rfl (lv_at hl 0 rfl) ?_
    refine va_slen hx hb hscr hbl (Nat.not_le.mpr hb0) HS dL_law_26 ?_
    refine lv_bipush (v := 6) hx hb dL_law_27 (by decide) ?_
    refine lv_isub hx hb dL_law_29 ?_
    refine lv_icmp_gt (tgt := 1766) hx hb dL_law_30 (by decide) (fun c9 => ?_) (fun c9 => absurd (lp_out (L := L) (i := i9) hL (by omega) (by omega)) c9)
    exact kk cells slots H locs ls (by omega) (by omega) HS
  | succ t ih =>
    intro i9 cells slots H locs ls h1 h2 h3 h4 HS hw hl
    refine lv_iload hx hb dL_law_23 (lv_at hl 4 rfl) ?_
    refine lv_aload_n hx hb dL_law_25 rfl (lv_at hl 0 rfl) ?_
    refine va_slen hx hb hscr hbl (Nat.not_le.mpr hb0) HS dL_law_26 ?_
    refine lv_bipush (v := 6) hx hb dL_law_27 (by decide) ?_
    refine lv_isub hx hb dL_law_29 ?_
    rcases Nat.lt_or_ge L (i9 + 6) with hlt | hge
    · refine lv_icmp_gt (tgt := 1766) hx hb dL_law_30 (by decide) (fun c9 => ?_) (fun c9 => absurd (lp_out (L := L) (i := i9) hL (by omega) (by omega)) c9)
      exact kk cells slots H locs ls (by omega) (by omega) HS
    · refine lv_icmp_gt (tgt := 1766) hx hb dL_law_30 (by decide) (fun c9 => absurd c9 (lp_in (L := L) (i := i9) hL hge)) (fun c9 => ?_)
      refine lv_aload_n hx hb dL_law_33 rfl (lv_at hl 0 rfl) ?_
      refine lv_iload hx hb dL_law_34 (lv_at hl 4 rfl) ?_
      refine ro_sld MC HS hscr hb0 i9 rfl (by omega) hL dL_law_36 ?_
      refine lv_bipush (v := 31) hx hb dL_law_37 (by decide) ?_
      refine lv_iand hx hb dL_law_39 ?_
      refine l_sw hl9 MC HS hw hscr hb0 hL hge hR (by omega) (by omega) hl (fun c8 s8 H1 locs1 ls1 hc8 hs8 hw1 HS1 hl1 => ?_)
      refine lv_iinc (v := nI i9 + 6) (lv' := [(4, .int (nI i9 + 6)), (0, .ref b), (1, .ref a0), (2, .ref a11), (3, .ref a30)]) hx hb dL_law_1760 hl1 (k := 4) rfl rfl (by decide) rfl (fun ls hl => ?_)
      refine lv_goto (tgt := 23) hx hb dL_law_1763 (by decide) ?_
      have hl := lv_sub hl [1, 2, 3, 4, 0] rfl
      exact ih (i9 + 6) c8 s8 H1 locs1 ls (by omega) (by omega) (by omega) (by omega) HS1 hw1 (by rw [← nI_add]; exact hl)
