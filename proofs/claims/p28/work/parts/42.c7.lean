theorem isX.fr {ids : Nat → ClassId} {ad ad2 : Nat → Nat} {cn cn2 : Nat → va_E} {τ : Tau} {ns : Nat} {sa bm fm : Nat → Int32} {lf ff cf : Nat → Option Nat} (h : isX ids ad cn τ ns 0 0 sa bm fm lf ff cf) (ha : ∀ r, r ≤ 10 → ad2 r = ad r) (hc : ∀ r, r ≤ 10 → cn2 r = cn r) : isX ids ad2 cn2 τ ns 0 0 sa bm fm lf ff cf := by
  obtain ⟨h0, h1, h1b, h2, h2b, h7, h7b, h3, h3b, h40, h4, h4b, h60, h5, h6⟩ := h
  refine ⟨?_, (hc 1 (by omega)).trans h1, h1b, (hc 2 (by omega)).trans h2, fun j hj => ?_, fun j hj => (hc (7 + j) (by omega)).trans (h7 j hj), h7b, (hc 3 (by omega)).trans h3, fun k hk => ?_, fun k hk => absurd hk (Nat.not_lt_zero k), (hc 4 (by omega)).trans h4, fun k hk => ?_, fun k hk => absurd hk (Nat.not_lt_zero k), (hc 5 (by omega)).trans h5, (hc 6 (by omega)).trans h6⟩
  · rw [hc 0 (by omega), h0]
    simp only [xoF, ha 1 (by omega), ha 2 (by omega), ha 3 (by omega), ha 4 (by omega), ha 5 (by omega), ha 6 (by omega)]
  · rw [h2b j hj, ha (7 + j) (by omega)]
  · rw [h3b k hk, if_neg (fun z => absurd z.1 (Nat.not_lt_zero k)), if_neg (fun z => absurd z.1 (Nat.not_lt_zero k))]
  · rw [h4b k hk, if_neg (Nat.not_lt_zero k), if_neg (Nat.not_lt_zero k)]
theorem isR.init : isR (([0] ++ [1] ++ [2] ++ [3] ++ [4] ++ [5] ++ [6] ++ [7] ++ [8] ++ [9] ++ [10]) ++ [11] ++ [12] ++ [13] ++ [14] ++ [15] ++ [16] ++ [17]) 0 0 := by
  intro r
  simp only [List.cons_append, List.nil_append, List.mem_cons, List.not_mem_nil, or_false]
  omega
theorem bit_i1 : ∀ b : Nat, b < 16 → bit 1 b = (0 == b) := by decide +kernel
theorem bel_i {b : Nat} : bel (taI 1) 16 0 b = (0 == b) := by
  have h : taI 1 0 = -1 := rfl
  rw [bel, h]
  simp
theorem wOk.init : wOk taI 1 0 0 (ti (ti (fun _ _ => 0) 2 0 1) 6 1 1) := by
  refine ⟨⟨by omega, by omega, by omega⟩, ⟨rfl, rfl, rfl, rfl⟩, fun k hk => absurd hk (Nat.not_lt_zero k), fun k hk => absurd hk (Nat.not_lt_zero k), fun k hk b hb => ?_, fun j hj => ?_, fun j hj d hd => ?_, fun r h1 h2 => ?_⟩
  · have hk0 : k = 0 := by omega
    subst hk0
    rw [bel_i]
    exact bit_i1 b hb
  · rw [taI_row (by omega)]; rfl
  · rw [taI_row (by omega)]; exact bit_0 d (by omega)
  · rw [taI_row (by omega)]; rfl
set_option maxHeartbeats 4000000 in
set_option maxRecDepth 100000 in
theorem l_start9 {p : Program} {l : Launch} {e : Env} {R : Room} {s : State} {m : MethodId} {args : Array Value} {below : List Frame} {meth : Method} {c : Code} {H : Heap} {Q : State → Prop} {D : va_G} {ids : Nat → ClassId} {n0 b : Nat} (MC : ro_C p s m args meth c cL_law 28 "FrostCalendarLaw" D ids n0) (HS : va_S (fun q => n0 ≤ q) s.heap H []) (hR : 11 ≤ R.frames ∧ 400 ≤ R.locals) (hcl : 40 ≤ R.cells) (hsl : 900 ≤ R.slots) {ls : Array Slot} (hl : lv_has ls 28 [(0, .ref b)])
    (kk : ∀ (aa : Nat → Nat) (H1 : Heap) (locs1 : List Loc) (ls1 : Array Slot), va_S (fun q => n0 ≤ q) s.heap H1 locs1 → wI D ids n0 aa H1 → lv_has ls1 28 (lL b aa 0) → W p l e R s m args below meth c H1 locs1 18 301 Q (F0 m 57 ls1 [])) : W p l e R s m args below meth c H [] 0 0 Q (F0 m 0 ls []) := by
  have hx := MC.1.1
  have hb := MC.1.2.1
  have HP : ro_P D n0 [] (fun _ => 0) (fun _ => .inl (ids 0, 0, .inl (fun _ => 0))) H := ⟨fun k q h => by simp [ro_ws] at h, ⟨fun j k a b h => by simp [ro_ws] at h, fun k q h => by simp [ro_ws] at h⟩⟩
  refine ro_newG MC HP HS 0 (by decide) [.null, .int 0, .null, .int 0, .null, .int 0, .int 0, .null, .int 0, .null, .null] (rfl : vwCl[5]? = some (RX6, TX6, 11)) inU6 tyX6_ok kw32 kw33 kw17 (fun j hj => by rcases j with _ | _ | _ | _ | _ | _ | _ | _ | _ | _ | _ | j <;> first | rfl | omega) (by omega) (by omega) dL_law_0 (fun ad1 cn1 H1 HP had hcn hself HS => ?_)
  refine lv_dup hx hb dL_law_3 rfl ?_
  refine ro_callI MC HS (rest := [.ref (ad1 0)]) (As := []) (x_init HP hself) lkL_79 kw35 rfl ⟨by show 3 + 1 ≤ R.frames; omega, by show 8 + (2 + 11) + 90 ≤ R.locals; omega⟩ hl.1 rfl (Nat.le_of_ble_eq_true rfl) dL_law_4 ⟨by show 1 + 10 ≤ R.cells; omega, by show 11 + 182 ≤ R.slots; omega⟩ (fun v9 H2 l2 hp hz HS => ?_)
  obtain ⟨rfl, ad10, cn10, sa, bm, fm, lf, ff, cf, HP10, ha0, hx2⟩ := hp
  refine lv_astore_n (lv' := [(1, .ref (ad1 0)), (0, .ref b)]) hx hb dL_law_7 rfl hl (by decide) rfl (fun ls hl => ?_)
  refine lv_bipush (v := 42) hx hb dL_law_8 (by decide) ?_
  refine ro_newaG (atype := .int) (ty := .int) MC HP10 HS 11 (by decide) 0 rfl kw59 rfl (x := (42, .inl (fun _ => 0))) (fun C h => by cases h) rfl (by decide) rfl (by decide) (by show 11 + 1 ≤ R.cells; omega) (by show 193 + 42 ≤ R.slots; omega) dL_law_10 (fun ad11 cn11 H11 HP11 had11 hcn11 hself11 HS => ?_)
  refine lv_astore_n (lv' := [(2, .ref (ad11 11)), (1, .ref (ad1 0)), (0, .ref b)]) hx hb dL_law_12 rfl hl (by decide) rfl (fun ls hl => ?_)
  refine lv_bipush (v := 42) hx hb dL_law_13 (by decide) ?_
  refine ro_newaG (atype := .int) (ty := .int) MC HP11 HS 12 (by decide) 0 rfl kw59 rfl (x := (42, .inl (fun _ => 0))) (fun C h => by cases h) rfl (by decide) rfl (by decide) (by show 12 + 1 ≤ R.cells; omega) (by show 235 + 42 ≤ R.slots; omega) dL_law_15 (fun ad12 cn12 H12 HP12 had12 hcn12 hself12 HS => ?_)
  refine lv_astore_n (lv' := [(3, .ref (ad12 12)), (2, .ref (ad11 11)), (1, .ref (ad1 0)), (0, .ref b)]) hx hb dL_law_17 rfl hl (by decide) rfl (fun ls hl => ?_)
  refine lv_bipush (v := 8) hx hb dL_law_18 (by decide) ?_
  refine ro_newaG (atype := .int) (ty := .int) MC HP12 HS 13 (by decide) 0 rfl kw59 rfl (x := (8, .inl (fun _ => 0))) (fun C h => by cases h) rfl (by decide) rfl (by decide) (by show 13 + 1 ≤ R.cells; omega) (by show 277 + 8 ≤ R.slots; omega) dL_law_20 (fun ad13 cn13 H13 HP13 had13 hcn13 hself13 HS => ?_)
  refine lv_astore (lv' := [(4, .ref (ad13 13)), (3, .ref (ad12 12)), (2, .ref (ad11 11)), (1, .ref (ad1 0)), (0, .ref b)]) hx hb dL_law_22 hl (by decide) rfl (fun ls hl => ?_)
  refine lv_iconst (v := 4) hx hb dL_law_24 (by decide) ?_
  refine ro_newaG (atype := .int) (ty := .int) MC HP13 HS 14 (by decide) 0 rfl kw59 rfl (x := (4, .inl (fun _ => 0))) (fun C h => by cases h) rfl (by decide) rfl (by decide) (by show 14 + 1 ≤ R.cells; omega) (by show 285 + 4 ≤ R.slots; omega) dL_law_25 (fun ad14 cn14 H14 HP14 had14 hcn14 hself14 HS => ?_)
  refine lv_astore (lv' := [(5, .ref (ad14 14)), (4, .ref (ad13 13)), (3, .ref (ad12 12)), (2, .ref (ad11 11)), (1, .ref (ad1 0)), (0, .ref b)]) hx hb dL_law_27 hl (by decide) rfl (fun ls hl => ?_)
  refine lv_iconst (v := 4) hx hb dL_law_29 (by decide) ?_
  refine ro_newaG (atype := .int) (ty := .int) MC HP14 HS 15 (by decide) 0 rfl kw59 rfl (x := (4, .inl (fun _ => 0))) (fun C h => by cases h) rfl (by decide) rfl (by decide) (by show 15 + 1 ≤ R.cells; omega) (by show 289 + 4 ≤ R.slots; omega) dL_law_30 (fun ad15 cn15 H15 HP15 had15 hcn15 hself15 HS => ?_)
  refine lv_astore (lv' := [(6, .ref (ad15 15)), (5, .ref (ad14 14)), (4, .ref (ad13 13)), (3, .ref (ad12 12)), (2, .ref (ad11 11)), (1, .ref (ad1 0)), (0, .ref b)]) hx hb dL_law_32 hl (by decide) rfl (fun ls hl => ?_)
  refine lv_iconst (v := 4) hx hb dL_law_34 (by decide) ?_
  refine ro_newaG (atype := .int) (ty := .int) MC HP15 HS 16 (by decide) 0 rfl kw59 rfl (x := (4, .inl (fun _ => 0))) (fun C h => by cases h) rfl (by decide) rfl (by decide) (by show 16 + 1 ≤ R.cells; omega) (by show 293 + 4 ≤ R.slots; omega) dL_law_35 (fun ad16 cn16 H16 HP16 had16 hcn16 hself16 HS => ?_)
  refine lv_astore (lv' := [(7, .ref (ad16 16)), (6, .ref (ad15 15)), (5, .ref (ad14 14)), (4, .ref (ad13 13)), (3, .ref (ad12 12)), (2, .ref (ad11 11)), (1, .ref (ad1 0)), (0, .ref b)]) hx hb dL_law_37 hl (by decide) rfl (fun ls hl => ?_)
  refine lv_iconst (v := 4) hx hb dL_law_39 (by decide) ?_
  refine ro_newaG (atype := .int) (ty := .int) MC HP16 HS 17 (by decide) 0 rfl kw59 rfl (x := (4, .inl (fun _ => 0))) (fun C h => by cases h) rfl (by decide) rfl (by decide) (by show 17 + 1 ≤ R.cells; omega) (by show 297 + 4 ≤ R.slots; omega) dL_law_40 (fun ad17 cn17 H17 HP17 had17 hcn17 hself17 HS => ?_)
  refine lv_astore (lv' := [(8, .ref (ad17 17)), (7, .ref (ad16 16)), (6, .ref (ad15 15)), (5, .ref (ad14 14)), (4, .ref (ad13 13)), (3, .ref (ad12 12)), (2, .ref (ad11 11)), (1, .ref (ad1 0)), (0, .ref b)]) hx hb dL_law_42 hl (by decide) rfl (fun ls hl => ?_)
  have hA : ∀ r, r ≤ 10 → ad17 r = ad10 r := fun r hr => (had17 r (by omega)).trans ((had16 r (by omega)).trans ((had15 r (by omega)).trans ((had14 r (by omega)).trans ((had13 r (by omega)).trans ((had12 r (by omega)).trans ((had11 r (by omega))))))))
  have hC : ∀ r, r ≤ 10 → cn17 r = cn10 r := fun r hr => (hcn17 r (by omega)).trans ((hcn16 r (by omega)).trans ((hcn15 r (by omega)).trans ((hcn14 r (by omega)).trans ((hcn13 r (by omega)).trans ((hcn12 r (by omega)).trans ((hcn11 r (by omega))))))))
  have e11 : cn17 11 = .inl (ids 0, 42, .inl (fun _ => 0)) := ((hcn17 11 (by omega)).trans ((hcn16 11 (by omega)).trans ((hcn15 11 (by omega)).trans ((hcn14 11 (by omega)).trans ((hcn13 11 (by omega)).trans ((hcn12 11 (by omega)))))))).trans hself11
  have a11 : ad17 11 = ad11 11 := (had17 11 (by omega)).trans ((had16 11 (by omega)).trans ((had15 11 (by omega)).trans ((had14 11 (by omega)).trans ((had13 11 (by omega)).trans ((had12 11 (by omega)))))))
  have e12 : cn17 12 = .inl (ids 0, 42, .inl (fun _ => 0)) := ((hcn17 12 (by omega)).trans ((hcn16 12 (by omega)).trans ((hcn15 12 (by omega)).trans ((hcn14 12 (by omega)).trans ((hcn13 12 (by omega))))))).trans hself12
  have a12 : ad17 12 = ad12 12 := (had17 12 (by omega)).trans ((had16 12 (by omega)).trans ((had15 12 (by omega)).trans ((had14 12 (by omega)).trans ((had13 12 (by omega))))))
  have e13 : cn17 13 = .inl (ids 0, 8, .inl (fun _ => 0)) := ((hcn17 13 (by omega)).trans ((hcn16 13 (by omega)).trans ((hcn15 13 (by omega)).trans ((hcn14 13 (by omega)))))).trans hself13
  have a13 : ad17 13 = ad13 13 := (had17 13 (by omega)).trans ((had16 13 (by omega)).trans ((had15 13 (by omega)).trans ((had14 13 (by omega)))))
  have e14 : cn17 14 = .inl (ids 0, 4, .inl (fun _ => 0)) := ((hcn17 14 (by omega)).trans ((hcn16 14 (by omega)).trans ((hcn15 14 (by omega))))).trans hself14
  have a14 : ad17 14 = ad14 14 := (had17 14 (by omega)).trans ((had16 14 (by omega)).trans ((had15 14 (by omega))))
  have e15 : cn17 15 = .inl (ids 0, 4, .inl (fun _ => 0)) := ((hcn17 15 (by omega)).trans ((hcn16 15 (by omega)))).trans hself15
  have a15 : ad17 15 = ad15 15 := (had17 15 (by omega)).trans ((had16 15 (by omega)))
  have e16 : cn17 16 = .inl (ids 0, 4, .inl (fun _ => 0)) := ((hcn17 16 (by omega))).trans hself16
  have a16 : ad17 16 = ad16 16 := (had17 16 (by omega))
  have e17 : cn17 17 = .inl (ids 0, 4, .inl (fun _ => 0)) := hself17
  have a0 : ad17 0 = ad1 0 := (hA 0 (by omega)).trans ha0
  rw [← a0, ← a11, ← a12, ← a13, ← a14, ← a15, ← a16] at hl
  have hB : wB D ids n0 ad17 taI 0 1 0 0 (fun _ _ => 0) H17 := ⟨Iv.init, _, ad17, cn17, ⟨HP17, isR.init, sa, bm, fm, lf, ff, cf, hx2.fr hA hC⟩, fun i hi => by rcases (by omega : i = 0 ∨ i = 1 ∨ i = 2 ∨ i = 3 ∨ i = 4 ∨ i = 5 ∨ i = 6) with rfl | rfl | rfl | rfl | rfl | rfl | rfl <;> assumption, fun _ _ => rfl⟩
  refine lv_aload hx hb dL_law_44 (lv_at hl 4 rfl) ?_
  refine lv_iconst (v := 0) hx hb dL_law_46 (by decide) ?_
  refine lv_iconst (v := 1) hx hb dL_law_47 (by decide) ?_
  refine wb_iast MC hB HS 2 (by decide) 0 (show 0 < 8 by omega) rfl dL_law_48 (fun H18 l18 hB HS => ?_)
  refine lv_aload hx hb dL_law_49 (lv_at hl 0 rfl) ?_
  refine lv_iconst (v := 1) hx hb dL_law_51 (by decide) ?_
  refine lv_iconst (v := 1) hx hb dL_law_52 (by decide) ?_
  refine wb_iast MC hB HS 6 (by decide) 1 (show 1 < 4 by omega) rfl dL_law_53 (fun H19 l19 hB HS => ?_)
  refine lv_iconst (v := 0) hx hb dL_law_54 (by decide) ?_
  refine lv_istore (lv' := [(9, .int 0), (8, .ref (ad17 17)), (7, .ref (ad17 16)), (6, .ref (ad17 15)), (5, .ref (ad17 14)), (4, .ref (ad17 13)), (3, .ref (ad17 12)), (2, .ref (ad17 11)), (1, .ref (ad17 0)), (0, .ref b)]) hx hb dL_law_55 hl (by decide) rfl (fun ls hl => ?_)
  exact kk ad17 _ _ ls HS ⟨_, _, _, _, _, _, hB, wOk.init⟩ (lv_sub hl [9, 8, 7, 6, 5, 4, 3, 2, 1, 0] (by rfl))
