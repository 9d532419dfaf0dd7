theorem isX.fr {ids : Nat → ClassId} {ad ad2 : Nat → Nat} {cn cn2 : Nat → va_E} {τ : Tau} {ns : Nat} {sa bm fm : Nat → Int32} {lf ff cf : Nat → Option Nat} (h : isX ids ad cn τ ns 0 0 sa bm fm lf ff cf) (ha : ∀ r, r ≤ 10 → ad2 r = ad r) (hc : ∀ r, r ≤ 10 → cn2 r = cn r) : isX ids ad2 cn2 τ ns 0 0 sa bm fm lf ff cf := by
  obtain ⟨h0, h1, h1b, h2, h2b, h7, h7b, h3, h3b, h40, h4, h4b, h60, h5, h6⟩ := h
  refine ⟨?_, (hc 1 (by omega)).trans h1, h1b, (hc 2 (by omega)).trans h2, fun j hj => ?_, fun j hj => (hc (7 + j) (by omega)).trans (h7 j hj), h7b, (hc 3 (by omega)).trans h3, fun k hk => ?_, fun k hk => absurd hk (Nat.not_lt_zero k), (hc 4 (by omega)).trans h4, fun k hk => ?_, fun k hk => absurd hk (Nat.not_lt_zero k), (hc 5 (by omega)).trans h5, (hc 6 (by omega)).trans h6⟩
  · rw [hc 0 (by omega), h0]
    simp only [xoF, ha 1 (by omega), ha 2 (by omega), ha 3 (by omega), ha 4 (by omega), ha 5 (by omega), ha 6 (by omega)]
  · rw [h2b j hj, ha (7 + j) (by omega)]
  · rw [h3b k hk, if_neg (fun z => absurd z.1 (Nat.not_lt_zero k)), if_neg (fun z => absurd z.1 (Nat.not_lt_zero k))]
  · rw [h4b k hk, if_neg (Nat.not_lt_zero k), if_neg (Nat.not_lt_zero k)]
theorem isM.fr {ids : Nat → ClassId} {ad ad2 : Nat → Nat} {cn cn2 : Nat → va_E} {τ : Tau} {th : Int32} (h : isM ids ad cn τ th) (ha : ∀ r, r ≠ 30 → ad2 r = ad r) (hc : ∀ r, r ≠ 30 → cn2 r = cn r) : isM ids ad2 cn2 τ th := by
  refine ⟨?_, fun i h1 h2 => (hc (11 + i) (by omega)).trans (h.2 i h1 h2)⟩
  rw [hc 11 (by omega), h.1]
  simp only [moF, ha 12 (by omega), ha 13 (by omega), ha 14 (by omega), ha 15 (by omega), ha 16 (by omega), ha 17 (by omega), ha 18 (by omega), ha 19 (by omega), ha 20 (by omega), ha 21 (by omega), ha 22 (by omega), ha 23 (by omega), ha 24 (by omega), ha 25 (by omega), ha 26 (by omega), ha 27 (by omega), ha 28 (by omega), ha 29 (by omega)]
theorem isR.init : isR ([0, 1, 2, 3, 4, 5, 6, 7, 8, 9, 10, 11] ++ [12] ++ [13] ++ [14] ++ [15] ++ [16] ++ [17] ++ [18] ++ [19] ++ [20] ++ [21] ++ [22] ++ [23] ++ [24] ++ [25] ++ [26] ++ [27] ++ [28] ++ [29] ++ [30]) 0 0 := by
  intro r
  simp only [List.cons_append, List.nil_append, List.mem_cons, List.not_mem_nil, or_false]
  omega
theorem l_start {p : Program} {l : Launch} {e : Env} {R : Room} {s : State} {m : MethodId} {args : Array Value} {below : List Frame} {meth : Method} {c : Code} {H : Heap} {Q : State → Prop} {D : va_G} {ids : Nat → ClassId} {n0 b : Nat} (MC : ro_C p s m args meth c cL_law 7 "FrostCalendarLaw" D ids n0) (HS : va_S (fun q => n0 ≤ q) s.heap H []) (hR : 10 ≤ R.frames ∧ 310 ≤ R.locals) (hcl : 40 ≤ R.cells) (hsl : 900 ≤ R.slots) {ls : Array Slot} (hl : lv_has ls 7 [(0, .ref b)])
    (kk : ∀ (a0 a11 a30 : Nat) (H1 : Heap) (locs1 : List Loc) (ls1 : Array Slot), va_S (fun q => n0 ≤ q) s.heap H1 locs1 → bw D ids n0 a0 a11 a30 H1 → lv_has ls1 7 [(0, .ref b), (1, .ref a0), (2, .ref a11), (3, .ref a30), (4, .int (nI 0))] → W p l e R s m args below meth c H1 locs1 31 817 Q (F0 m 23 ls1 [])) : W p l e R s m args below meth c H [] 0 0 Q (F0 m 0 ls []) := by
  have hx := MC.1.1
  have hb := MC.1.2.1
  have HP : ro_P D n0 [] (fun _ => 0) (fun _ => .inl (ids 0, 0, .inl (fun _ => 0))) H := ⟨fun k q h => by simp [ro_ws] at h, ⟨fun j k a b h => by simp [ro_ws] at h, fun k q h => by simp [ro_ws] at h⟩⟩
  refine ro_newG MC HP HS 0 (by decide) [.null, .int 0, .null, .int 0, .null, .int 0, .int 0, .null, .int 0, .null, .null] (rfl : vwCl[5]? = some (RX6, TX6, 11)) inU6 tyX6_ok kw45 kw46 kw29 (fun j hj => by rcases j with _ | _ | _ | _ | _ | _ | _ | _ | _ | _ | _ | j <;> first | rfl | omega) (by omega) (by omega) dL_law_0 (fun ad1 cn1 H1 HP had hcn hself HS => ?_)
  refine lv_dup hx hb dL_law_3 rfl ?_
  refine ro_callI MC HS (rest := [.ref (ad1 0)]) (As := []) (x_init HP hself) lkL_95 kw48 rfl ⟨by show 3 + 1 ≤ R.frames; omega, by show 8 + (2 + 11) + 90 ≤ R.locals; omega⟩ hl.1 rfl (Nat.le_of_ble_eq_true rfl) dL_law_4 ⟨by show 1 + 10 ≤ R.cells; omega, by show 11 + 182 ≤ R.slots; omega⟩ (fun v9 H2 l2 hp hz HS => ?_)
  obtain ⟨rfl, ad2, cn2, sa, bm, fm, lf, ff, cf, HP2, ha0, hx2⟩ := hp
  refine lv_astore_n (lv' := [(1, .ref (ad1 0)), (0, .ref b)]) hx hb dL_law_7 rfl hl (by decide) rfl (fun ls hl => ?_)
  refine ro_newG MC HP2 HS 11 (by decide) [.int 0, .int 0, .int 0, .null, .null, .null, .int 0, .null, .null, .null, .null, .null, .null, .null, .int 0, .null, .null, .null, .null, .null, .null, .null, .null] (rfl : vwCl[6]? = some (RX7, TX7, 23)) inU7 tyX7_ok kw612 kw613 kw31 (fun j hj => by rcases j with _ | _ | _ | _ | _ | _ | _ | _ | _ | _ | _ | _ | _ | _ | _ | _ | _ | _ | _ | _ | _ | _ | _ | j <;> first | rfl | omega) (by show 1 + 10 + 1 ≤ R.cells; omega) (by show 11 + 182 + 23 ≤ R.slots; omega) dL_law_8 (fun ad3 cn3 H3 HP3 had3 hcn3 hself3 HS => ?_)
  refine lv_dup hx hb dL_law_11 rfl ?_
  refine ro_callI MC HS (rest := [.ref (ad3 11)]) (As := []) (m_init HP3 hself3) lkL_98 kw615 rfl ⟨by show 1 + 1 ≤ R.frames; omega, by show 8 + (1 + 11) + 30 ≤ R.locals; omega⟩ hl.1 rfl (Nat.le_of_ble_eq_true rfl) dL_law_12 ⟨by show 1 + 10 + 1 + 18 ≤ R.cells; omega, by show 11 + 182 + 23 + 600 ≤ R.slots; omega⟩ (fun v9 H4 l4 hp hz HS => ?_)
  obtain ⟨rfl, ad4, cn4, HP4, hal, hlow, hM⟩ := hp
  refine lv_astore_n (lv' := [(2, .ref (ad3 11)), (1, .ref (ad1 0)), (0, .ref b)]) hx hb dL_law_15 rfl hl (by decide) rfl (fun ls hl => ?_)
  refine lv_iconst (v := 1) hx hb dL_law_16 (by decide) ?_
  refine ro_newaG (atype := .long) (ty := .long) MC HP4 HS 30 (by decide) 2 rfl kw847 rfl (x := (1, .inr (.inl (fun _ => 0)))) (fun C h => by cases h) rfl (by decide) rfl (by decide) (by show 1 + 10 + 1 + 18 + 1 ≤ R.cells; omega) (by show 11 + 182 + 23 + 600 + 1 ≤ R.slots; omega) dL_law_17 (fun ad5 cn5 H5 HP5 had5 hcn5 hself5 HS => ?_)
  refine lv_astore_n (lv' := [(3, .ref (ad5 30)), (2, .ref (ad3 11)), (1, .ref (ad1 0)), (0, .ref b)]) hx hb dL_law_19 rfl hl (by decide) rfl (fun ls hl => ?_)
  refine lv_iconst (v := 0) hx hb dL_law_20 (by decide) ?_
  refine lv_istore (lv' := [(4, .int 0), (3, .ref (ad5 30)), (2, .ref (ad3 11)), (1, .ref (ad1 0)), (0, .ref b)]) hx hb dL_law_21 hl (by decide) rfl (fun ls hl => ?_)
  have hA : ∀ r, r ≤ 10 → ad5 r = ad2 r := fun r hr => (had5 r (by omega)).trans ((hal r (by omega)).trans (had3 r (by omega)))
  have hC : ∀ r, r ≤ 10 → cn5 r = cn2 r := fun r hr => (hcn5 r (by omega)).trans ((hlow r (by omega)).trans (hcn3 r (by omega)))
  exact kk (ad1 0) (ad3 11) (ad5 30) H5 l4 ls HS ⟨_, ad5, cn5, taI, 0, 0, 1, 0, 0, _, ⟨HP5, isR.init, sa, bm, fm, lf, ff, cf, hx2.fr hA hC⟩, Iv.init, hM.fr had5 hcn5, hself5, (hA 0 (by omega)).trans ha0, (had5 11 (by omega)).trans (hal 11 (by omega)), rfl⟩ (lv_sub hl [4, 3, 2, 1, 0] (by rw [nI_0]; rfl))
