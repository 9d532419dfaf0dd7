set_option maxHeartbeats 4000000 in
set_option maxRecDepth 100000 in
theorem l_disp {p : Program} {l : Launch} (hl9 : l.stackTraces = false) {e : Env} {R : Room} {s : State} {m : MethodId} {args : Array Value} {below : List Frame} {meth : Method} {c : Code} {H : Heap} {locs : List Loc} {cells slots : Nat} {Q : State → Prop} {D : va_G} {ids : Nat → ClassId} {n0 b t9 : Nat} {aa : Nat → Nat} {τ : Tau} {nw ns nl nc : Nat} {A : Tau} (MC : ro_C p s m args meth c cL_law 28 "FrostCalendarLaw" D ids n0) (HS : va_S (fun q => n0 ≤ q) s.heap H locs) (hB : wB D ids n0 aa τ nw ns nl nc A H) (hO : wOk τ ns nl nc A) (hR : 11 ≤ R.frames ∧ 400 ≤ R.locals) {sc la rk n9 k9 : Nat} {x9 y9 : Int32} {kq : Nat} (hkq : kq < 18) (hsc : sc < ns) (hla : la < 4) (hrk1 : 1 ≤ rk) (hrk : rk < 4) (hn9 : (nc = 0 ∧ n9 = 0) ∨ n9 < nc) (hk9 : (nl = 0 ∧ k9 = 0) ∨ k9 < nl) (hcl : cells + 400 ≤ R.cells) (hsl : slots + 2400 ≤ R.slots) {ls : Array Slot} (hl : lv_has ls 28 [(0, .ref b), (1, .ref (aa 0)), (2, .ref (aa 11)), (3, .ref (aa 12)), (4, .ref (aa 13)), (5, .ref (aa 14)), (6, .ref (aa 15)), (7, .ref (aa 16)), (8, .ref (aa 17)), (9, .int (nI t9)), (10, .int x9), (11, .int y9), (12, .int (nI kq)), (13, .int (nI sc)), (14, .int (nI la)), (15, .int (nI rk)), (16, .int (nI n9)), (17, .int (nI k9)), (18, .int (nI (7 * nl)))])
    (kk : ∀ (c9 s9 : Nat) (H1 : Heap) (locs1 : List Loc) (ls1 : Array Slot), c9 ≤ cells + 400 → s9 ≤ slots + 2400 → wI D ids n0 aa H1 → va_S (fun q => n0 ≤ q) s.heap H1 locs1 → lv_has ls1 28 (lL b aa t9) → W p l e R s m args below meth c H1 locs1 c9 s9 Q (F0 m 2092 ls1 [])) : W p l e R s m args below meth c H locs cells slots Q (F0 m 190 ls []) := by
  have hx := MC.1.1
  have hb := MC.1.2.1
  rcases (by omega : kq = 0 ∨ kq = 1 ∨ kq = 2 ∨ kq = 3 ∨ kq = 4 ∨ kq = 5 ∨ kq = 6 ∨ kq = 7 ∨ kq = 8 ∨ kq = 9 ∨ kq = 10 ∨ kq = 11 ∨ kq = 12 ∨ kq = 13 ∨ kq = 14 ∨ kq = 15 ∨ kq = 16 ∨ kq = 17) with rfl | rfl | rfl | rfl | rfl | rfl | rfl | rfl | rfl | rfl | rfl | rfl | rfl | rfl | rfl | rfl | rfl | rfl
  · have hl : lv_has ls 28 [(0, .ref b), (1, .ref (aa 0)), (2, .ref (aa 11)), (3, .ref (aa 12)), (4, .ref (aa 13)), (5, .ref (aa 14)), (6, .ref (aa 15)), (7, .ref (aa 16)), (8, .ref (aa 17)), (9, .int (nI t9)), (10, .int x9), (11, .int y9), (12, .int 0), (13, .int (nI sc)), (14, .int (nI la)), (15, .int (nI rk)), (16, .int (nI n9)), (17, .int (nI k9)), (18, .int (nI (7 * nl)))] := hl
    refine lv_iload hx hb dL_law_190 (lv_at hl 12 rfl) ?_
    refine lv_iconst (v := 2) hx hb dL_law_192 (by decide) ?_
    refine lv_icmp_ge (tgt := 252) hx hb dL_law_193 (by decide) (fun c_193 => absurd c_193 (by decide)) (fun c_193 => ?_)
    exact l_scope hl9 MC HS hB hO hR hsc hla hrk1 hrk hn9 hk9 hcl hsl (lv_sub hl [0, 1, 2, 3, 4, 5, 6, 7, 8, 9, 10, 11, 12, 13, 14, 15, 16, 17, 18] rfl) kk
  · have hl : lv_has ls 28 [(0, .ref b), (1, .ref (aa 0)), (2, .ref (aa 11)), (3, .ref (aa 12)), (4, .ref (aa 13)), (5, .ref (aa 14)), (6, .ref (aa 15)), (7, .ref (aa 16)), (8, .ref (aa 17)), (9, .int (nI t9)), (10, .int x9), (11, .int y9), (12, .int 1), (13, .int (nI sc)), (14, .int (nI la)), (15, .int (nI rk)), (16, .int (nI n9)), (17, .int (nI k9)), (18, .int (nI (7 * nl)))] := hl
    refine lv_iload hx hb dL_law_190 (lv_at hl 12 rfl) ?_
    refine lv_iconst (v := 2) hx hb dL_law_192 (by decide) ?_
    refine lv_icmp_ge (tgt := 252) hx hb dL_law_193 (by decide) (fun c_193 => absurd c_193 (by decide)) (fun c_193 => ?_)
    exact l_scope hl9 MC HS hB hO hR hsc hla hrk1 hrk hn9 hk9 hcl hsl (lv_sub hl [0, 1, 2, 3, 4, 5, 6, 7, 8, 9, 10, 11, 12, 13, 14, 15, 16, 17, 18] rfl) kk
  · have hl : lv_has ls 28 [(0, .ref b), (1, .ref (aa 0)), (2, .ref (aa 11)), (3, .ref (aa 12)), (4, .ref (aa 13)), (5, .ref (aa 14)), (6, .ref (aa 15)), (7, .ref (aa 16)), (8, .ref (aa 17)), (9, .int (nI t9)), (10, .int x9), (11, .int y9), (12, .int 2), (13, .int (nI sc)), (14, .int (nI la)), (15, .int (nI rk)), (16, .int (nI n9)), (17, .int (nI k9)), (18, .int (nI (7 * nl)))] := hl
    refine lv_iload hx hb dL_law_190 (lv_at hl 12 rfl) ?_
    refine lv_iconst (v := 2) hx hb dL_law_192 (by decide) ?_
    refine lv_icmp_ge (tgt := 252) hx hb dL_law_193 (by decide) (fun c_193 => ?_) (fun c_193 => absurd c_193 (by decide))
    refine lv_iload hx hb dL_law_252 (lv_at hl 12 rfl) ?_
    refine lv_iconst (v := 2) hx hb dL_law_254 (by decide) ?_
    refine lv_icmp_ne (tgt := 301) hx hb dL_law_255 (by decide) (fun c_255 => absurd c_255 (by decide)) (fun c_255 => ?_)
    exact l_offset hl9 MC HS hB hO hR hsc hla hrk1 hrk hn9 hk9 hcl hsl (lv_sub hl [0, 1, 2, 3, 4, 5, 6, 7, 8, 9, 10, 11, 12, 13, 14, 15, 16, 17, 18] rfl) kk
  · have hl : lv_has ls 28 [(0, .ref b), (1, .ref (aa 0)), (2, .ref (aa 11)), (3, .ref (aa 12)), (4, .ref (aa 13)), (5, .ref (aa 14)), (6, .ref (aa 15)), (7, .ref (aa 16)), (8, .ref (aa 17)), (9, .int (nI t9)), (10, .int x9), (11, .int y9), (12, .int 3), (13, .int (nI sc)), (14, .int (nI la)), (15, .int (nI rk)), (16, .int (nI n9)), (17, .int (nI k9)), (18, .int (nI (7 * nl)))] := hl
    refine lv_iload hx hb dL_law_190 (lv_at hl 12 rfl) ?_
    refine lv_iconst (v := 2) hx hb dL_law_192 (by decide) ?_
    refine lv_icmp_ge (tgt := 252) hx hb dL_law_193 (by decide) (fun c_193 => ?_) (fun c_193 => absurd c_193 (by decide))
    refine lv_iload hx hb dL_law_252 (lv_at hl 12 rfl) ?_
    refine lv_iconst (v := 2) hx hb dL_law_254 (by decide) ?_
    refine lv_icmp_ne (tgt := 301) hx hb dL_law_255 (by decide) (fun c_255 => ?_) (fun c_255 => absurd c_255 (by decide))
    refine lv_iload hx hb dL_law_301 (lv_at hl 12 rfl) ?_
    refine lv_iconst (v := 3) hx hb dL_law_303 (by decide) ?_
    refine lv_icmp_ne (tgt := 365) hx hb dL_law_304 (by decide) (fun c_304 => absurd c_304 (by decide)) (fun c_304 => ?_)
    exact l_feast hl9 MC HS hB hO hR hsc hla hrk1 hrk hn9 hk9 hcl hsl (lv_sub hl [0, 1, 2, 3, 4, 5, 6, 7, 8, 9, 10, 11, 12, 13, 14, 15, 16, 17, 18] rfl) kk
  · have hl : lv_has ls 28 [(0, .ref b), (1, .ref (aa 0)), (2, .ref (aa 11)), (3, .ref (aa 12)), (4, .ref (aa 13)), (5, .ref (aa 14)), (6, .ref (aa 15)), (7, .ref (aa 16)), (8, .ref (aa 17)), (9, .int (nI t9)), (10, .int x9), (11, .int y9), (12, .int 4), (13, .int (nI sc)), (14, .int (nI la)), (15, .int (nI rk)), (16, .int (nI n9)), (17, .int (nI k9)), (18, .int (nI (7 * nl)))] := hl
    refine lv_iload hx hb dL_law_190 (lv_at hl 12 rfl) ?_
    refine lv_iconst (v := 2) hx hb dL_law_192 (by decide) ?_
    refine lv_icmp_ge (tgt := 252) hx hb dL_law_193 (by decide) (fun c_193 => ?_) (fun c_193 => absurd c_193 (by decide))
    refine lv_iload hx hb dL_law_252 (lv_at hl 12 rfl) ?_
    refine lv_iconst (v := 2) hx hb dL_law_254 (by decide) ?_
    refine lv_icmp_ne (tgt := 301) hx hb dL_law_255 (by decide) (fun c_255 => ?_) (fun c_255 => absurd c_255 (by decide))
    refine lv_iload hx hb dL_law_301 (lv_at hl 12 rfl) ?_
    refine lv_iconst (v := 3) hx hb dL_law_303 (by decide) ?_
    refine lv_icmp_ne (tgt := 365) hx hb dL_law_304 (by decide) (fun c_304 => ?_) (fun c_304 => absurd c_304 (by decide))
    refine lv_iload hx hb dL_law_365 (lv_at hl 12 rfl) ?_
    refine lv_bipush (v := 7) hx hb dL_law_367 (by decide) ?_
    refine lv_icmp_ge (tgt := 674) hx hb dL_law_369 (by decide) (fun c_369 => absurd c_369 (by decide)) (fun c_369 => ?_)
    exact l_once hl9 MC HS hB hO hR hsc hla hrk1 hrk hn9 hk9 hcl hsl (lv_sub hl [0, 1, 2, 3, 4, 5, 6, 7, 8, 9, 10, 11, 12, 13, 14, 15, 16, 17, 18] rfl) kk
  · have hl : lv_has ls 28 [(0, .ref b), (1, .ref (aa 0)), (2, .ref (aa 11)), (3, .ref (aa 12)), (4, .ref (aa 13)), (5, .ref (aa 14)), (6, .ref (aa 15)), (7, .ref (aa 16)), (8, .ref (aa 17)), (9, .int (nI t9)), (10, .int x9), (11, .int y9), (12, .int 5), (13, .int (nI sc)), (14, .int (nI la)), (15, .int (nI rk)), (16, .int (nI n9)), (17, .int (nI k9)), (18, .int (nI (7 * nl)))] := hl
    refine lv_iload hx hb dL_law_190 (lv_at hl 12 rfl) ?_
    refine lv_iconst (v := 2) hx hb dL_law_192 (by decide) ?_
    refine lv_icmp_ge (tgt := 252) hx hb dL_law_193 (by decide) (fun c_193 => ?_) (fun c_193 => absurd c_193 (by decide))
    refine lv_iload hx hb dL_law_252 (lv_at hl 12 rfl) ?_
    refine lv_iconst (v := 2) hx hb dL_law_254 (by decide) ?_
    refine lv_icmp_ne (tgt := 301) hx hb dL_law_255 (by decide) (fun c_255 => ?_) (fun c_255 => absurd c_255 (by decide))
    refine lv_iload hx hb dL_law_301 (lv_at hl 12 rfl) ?_
    refine lv_iconst (v := 3) hx hb dL_law_303 (by decide) ?_
    refine lv_icmp_ne (tgt := 365) hx hb dL_law_304 (by decide) (fun c_304 => ?_) (fun c_304 => absurd c_304 (by decide))
    refine lv_iload hx hb dL_law_365 (lv_at hl 12 rfl) ?_
    refine lv_bipush (v := 7) hx hb dL_law_367 (by decide) ?_
    refine lv_icmp_ge (tgt := 674) hx hb dL_law_369 (by decide) (fun c_369 => absurd c_369 (by decide)) (fun c_369 => ?_)
    exact l_daily hl9 MC HS hB hO hR hsc hla hrk1 hrk hn9 hk9 hcl hsl (lv_sub hl [0, 1, 2, 3, 4, 5, 6, 7, 8, 9, 10, 11, 12, 13, 14, 15, 16, 17, 18] rfl) kk
  · have hl : lv_has ls 28 [(0, .ref b), (1, .ref (aa 0)), (2, .ref (aa 11)), (3, .ref (aa 12)), (4, .ref (aa 13)), (5, .ref (aa 14)), (6, .ref (aa 15)), (7, .ref (aa 16)), (8, .ref (aa 17)), (9, .int (nI t9)), (10, .int x9), (11, .int y9), (12, .int 6), (13, .int (nI sc)), (14, .int (nI la)), (15, .int (nI rk)), (16, .int (nI n9)), (17, .int (nI k9)), (18, .int (nI (7 * nl)))] := hl
    refine lv_iload hx hb dL_law_190 (lv_at hl 12 rfl) ?_
    refine lv_iconst (v := 2) hx hb dL_law_192 (by decide) ?_
    refine lv_icmp_ge (tgt := 252) hx hb dL_law_193 (by decide) (fun c_193 => ?_) (fun c_193 => absurd c_193 (by decide))
    refine lv_iload hx hb dL_law_252 (lv_at hl 12 rfl) ?_
    refine lv_iconst (v := 2) hx hb dL_law_254 (by decide) ?_
    refine lv_icmp_ne (tgt := 301) hx hb dL_law_255 (by decide) (fun c_255 => ?_) (fun c_255 => absurd c_255 (by decide))
    refine lv_iload hx hb dL_law_301 (lv_at hl 12 rfl) ?_
    refine lv_iconst (v := 3) hx hb dL_law_303 (by decide) ?_
    refine lv_icmp_ne (tgt := 365) hx hb dL_law_304 (by decide) (fun c_304 => ?_) (fun c_304 => absurd c_304 (by decide))
    refine lv_iload hx hb dL_law_365 (lv_at hl 12 rfl) ?_
    refine lv_bipush (v := 7) hx hb dL_law_367 (by decide) ?_
    refine lv_icmp_ge (tgt := 674) hx hb dL_law_369 (by decide) (fun c_369 => absurd c_369 (by decide)) (fun c_369 => ?_)
    exact l_feasts hl9 MC HS hB hO hR hsc hla hrk1 hrk hn9 hk9 hcl hsl (lv_sub hl [0, 1, 2, 3, 4, 5, 6, 7, 8, 9, 10, 11, 12, 13, 14, 15, 16, 17, 18] rfl) kk
  · have hl : lv_has ls 28 [(0, .ref b), (1, .ref (aa 0)), (2, .ref (aa 11)), (3, .ref (aa 12)), (4, .ref (aa 13)), (5, .ref (aa 14)), (6, .ref (aa 15)), (7, .ref (aa 16)), (8, .ref (aa 17)), (9, .int (nI t9)), (10, .int x9), (11, .int y9), (12, .int 7), (13, .int (nI sc)), (14, .int (nI la)), (15, .int (nI rk)), (16, .int (nI n9)), (17, .int (nI k9)), (18, .int (nI (7 * nl)))] := hl
    refine lv_iload hx hb dL_law_190 (lv_at hl 12 rfl) ?_
    refine lv_iconst (v := 2) hx hb dL_law_192 (by decide) ?_
    refine lv_icmp_ge (tgt := 252) hx hb dL_law_193 (by decide) (fun c_193 => ?_) (fun c_193 => absurd c_193 (by decide))
    refine lv_iload hx hb dL_law_252 (lv_at hl 12 rfl) ?_
    refine lv_iconst (v := 2) hx hb dL_law_254 (by decide) ?_
    refine lv_icmp_ne (tgt := 301) hx hb dL_law_255 (by decide) (fun c_255 => ?_) (fun c_255 => absurd c_255 (by decide))
    refine lv_iload hx hb dL_law_301 (lv_at hl 12 rfl) ?_
    refine lv_iconst (v := 3) hx hb dL_law_303 (by decide) ?_
    refine lv_icmp_ne (tgt := 365) hx hb dL_law_304 (by decide) (fun c_304 => ?_) (fun c_304 => absurd c_304 (by decide))
    refine lv_iload hx hb dL_law_365 (lv_at hl 12 rfl) ?_
    refine lv_bipush (v := 7) hx hb dL_law_367 (by decide) ?_
    refine lv_icmp_ge (tgt := 674) hx hb dL_law_369 (by decide) (fun c_369 => ?_) (fun c_369 => absurd c_369 (by decide))
    refine lv_iload hx hb dL_law_674 (lv_at hl 12 rfl) ?_
    refine lv_bipush (v := 7) hx hb dL_law_676 (by decide) ?_
    refine lv_icmp_ne (tgt := 794) hx hb dL_law_678 (by decide) (fun c_678 => absurd c_678 (by decide)) (fun c_678 => ?_)
    exact l_lift hl9 MC HS hB hO hR hsc hla hrk1 hrk hn9 hk9 hcl hsl (lv_sub hl [0, 1, 2, 3, 4, 5, 6, 7, 8, 9, 10, 11, 12, 13, 14, 15, 16, 17, 18] rfl) kk
  · have hl : lv_has ls 28 [(0, .ref b), (1, .ref (aa 0)), (2, .ref (aa 11)), (3, .ref (aa 12)), (4, .ref (aa 13)), (5, .ref (aa 14)), (6, .ref (aa 15)), (7, .ref (aa 16)), (8, .ref (aa 17)), (9, .int (nI t9)), (10, .int x9), (11, .int y9), (12, .int 8), (13, .int (nI sc)), (14, .int (nI la)), (15, .int (nI rk)), (16, .int (nI n9)), (17, .int (nI k9)), (18, .int (nI (7 * nl)))] := hl
    refine lv_iload hx hb dL_law_190 (lv_at hl 12 rfl) ?_
    refine lv_iconst (v := 2) hx hb dL_law_192 (by decide) ?_
    refine lv_icmp_ge (tgt := 252) hx hb dL_law_193 (by decide) (fun c_193 => ?_) (fun c_193 => absurd c_193 (by decide))
    refine lv_iload hx hb dL_law_252 (lv_at hl 12 rfl) ?_
    refine lv_iconst (v := 2) hx hb dL_law_254 (by decide) ?_
    refine lv_icmp_ne (tgt := 301) hx hb dL_law_255 (by decide) (fun c_255 => ?_) (fun c_255 => absurd c_255 (by decide))
    refine lv_iload hx hb dL_law_301 (lv_at hl 12 rfl) ?_
    refine lv_iconst (v := 3) hx hb dL_law_303 (by decide) ?_
    refine lv_icmp_ne (tgt := 365) hx hb dL_law_304 (by decide) (fun c_304 => ?_) (fun c_304 => absurd c_304 (by decide))
    refine lv_iload hx hb dL_law_365 (lv_at hl 12 rfl) ?_
    refine lv_bipush (v := 7) hx hb dL_law_367 (by decide) ?_
    refine lv_icmp_ge (tgt := 674) hx hb dL_law_369 (by decide) (fun c_369 => ?_) (fun c_369 => absurd c_369 (by decide))
    refine lv_iload hx hb dL_law_674 (lv_at hl 12 rfl) ?_
    refine lv_bipush (v := 7) hx hb dL_law_676 (by decide) ?_
    refine lv_icmp_ne (tgt := 794) hx hb dL_law_678 (by decide) (fun c_678 => ?_) (fun c_678 => absurd c_678 (by decide))
    refine lv_iload hx hb dL_law_794 (lv_at hl 12 rfl) ?_
    refine lv_bipush (v := 10) hx hb dL_law_796 (by decide) ?_
    refine lv_icmp_ge (tgt := 979) hx hb dL_law_798 (by decide) (fun c_798 => absurd c_798 (by decide)) (fun c_798 => ?_)
    exact l_plan hl9 MC HS hB hO hR hsc hla hrk1 hrk hn9 hk9 hcl hsl (lv_sub hl [0, 1, 2, 3, 4, 5, 6, 7, 8, 9, 10, 11, 12, 13, 14, 15, 16, 17, 18] rfl) kk
  · have hl : lv_has ls 28 [(0, .ref b), (1, .ref (aa 0)), (2, .ref (aa 11)), (3, .ref (aa 12)), (4, .ref (aa 13)), (5, .ref (aa 14)), (6, .ref (aa 15)), (7, .ref (aa 16)), (8, .ref (aa 17)), (9, .int (nI t9)), (10, .int x9), (11, .int y9), (12, .int 9), (13, .int (nI sc)), (14, .int (nI la)), (15, .int (nI rk)), (16, .int (nI n9)), (17, .int (nI k9)), (18, .int (nI (7 * nl)))] := hl
    refine lv_iload hx hb dL_law_190 (lv_at hl 12 rfl) ?_
    refine lv_iconst (v := 2) hx hb dL_law_192 (by decide) ?_
    refine lv_icmp_ge (tgt := 252) hx hb dL_law_193 (by decide) (fun c_193 => ?_) (fun c_193 => absurd c_193 (by decide))
    refine lv_iload hx hb dL_law_252 (lv_at hl 12 rfl) ?_
    refine lv_iconst (v := 2) hx hb dL_law_254 (by decide) ?_
    refine lv_icmp_ne (tgt := 301) hx hb dL_law_255 (by decide) (fun c_255 => ?_) (fun c_255 => absurd c_255 (by decide))
    refine lv_iload hx hb dL_law_301 (lv_at hl 12 rfl) ?_
    refine lv_iconst (v := 3) hx hb dL_law_303 (by decide) ?_
    refine lv_icmp_ne (tgt := 365) hx hb dL_law_304 (by decide) (fun c_304 => ?_) (fun c_304 => absurd c_304 (by decide))
    refine lv_iload hx hb dL_law_365 (lv_at hl 12 rfl) ?_
    refine lv_bipush (v := 7) hx hb dL_law_367 (by decide) ?_
    refine lv_icmp_ge (tgt := 674) hx hb dL_law_369 (by decide) (fun c_369 => ?_) (fun c_369 => absurd c_369 (by decide))
    refine lv_iload hx hb dL_law_674 (lv_at hl 12 rfl) ?_
    refine lv_bipush (v := 7) hx hb dL_law_676 (by decide) ?_
    refine lv_icmp_ne (tgt := 794) hx hb dL_law_678 (by decide) (fun c_678 => ?_) (fun c_678 => absurd c_678 (by decide))
    refine lv_iload hx hb dL_law_794 (lv_at hl 12 rfl) ?_
    refine lv_bipush (v := 10) hx hb dL_law_796 (by decide) ?_
    refine lv_icmp_ge (tgt := 979) hx hb dL_law_798 (by decide) (fun c_798 => absurd c_798 (by decide)) (fun c_798 => ?_)
    exact l_plan hl9 MC HS hB hO hR hsc hla hrk1 hrk hn9 hk9 hcl hsl (lv_sub hl [0, 1, 2, 3, 4, 5, 6, 7, 8, 9, 10, 11, 12, 13, 14, 15, 16, 17, 18] rfl) kk
  · have hl : lv_has ls 28 [(0, .ref b), (1, .ref (aa 0)), (2, .ref (aa 11)), (3, .ref (aa 12)), (4, .ref (aa 13)), (5, .ref (aa 14)), (6, .ref (aa 15)), (7, .ref (aa 16)), (8, .ref (aa 17)), (9, .int (nI t9)), (10, .int x9), (11, .int y9), (12, .int 10), (13, .int (nI sc)), (14, .int (nI la)), (15, .int (nI rk)), (16, .int (nI n9)), (17, .int (nI k9)), (18, .int (nI (7 * nl)))] := hl
    refine lv_iload hx hb dL_law_190 (lv_at hl 12 rfl) ?_
    refine lv_iconst (v := 2) hx hb dL_law_192 (by decide) ?_
    refine lv_icmp_ge (tgt := 252) hx hb dL_law_193 (by decide) (fun c_193 => ?_) (fun c_193 => absurd c_193 (by decide))
    refine lv_iload hx hb dL_law_252 (lv_at hl 12 rfl) ?_
    refine lv_iconst (v := 2) hx hb dL_law_254 (by decide) ?_
    refine lv_icmp_ne (tgt := 301) hx hb dL_law_255 (by decide) (fun c_255 => ?_) (fun c_255 => absurd c_255 (by decide))
    refine lv_iload hx hb dL_law_301 (lv_at hl 12 rfl) ?_
    refine lv_iconst (v := 3) hx hb dL_law_303 (by decide) ?_
    refine lv_icmp_ne (tgt := 365) hx hb dL_law_304 (by decide) (fun c_304 => ?_) (fun c_304 => absurd c_304 (by decide))
    refine lv_iload hx hb dL_law_365 (lv_at hl 12 rfl) ?_
    refine lv_bipush (v := 7) hx hb dL_law_367 (by decide) ?_
    refine lv_icmp_ge (tgt := 674) hx hb dL_law_369 (by decide) (fun c_369 => ?_) (fun c_369 => absurd c_369 (by decide))
    refine lv_iload hx hb dL_law_674 (lv_at hl 12 rfl) ?_
    refine lv_bipush (v := 7) hx hb dL_law_676 (by decide) ?_
    refine lv_icmp_ne (tgt := 794) hx hb dL_law_678 (by decide) (fun c_678 => ?_) (fun c_678 => absurd c_678 (by decide))
    refine lv_iload hx hb dL_law_794 (lv_at hl 12 rfl) ?_
    refine lv_bipush (v := 10) hx hb dL_law_796 (by decide) ?_
    refine lv_icmp_ge (tgt := 979) hx hb dL_law_798 (by decide) (fun c_798 => ?_) (fun c_798 => absurd c_798 (by decide))
    refine lv_iload hx hb dL_law_979 (lv_at hl 12 rfl) ?_
    refine lv_bipush (v := 10) hx hb dL_law_981 (by decide) ?_
    refine lv_icmp_ne (tgt := 1138) hx hb dL_law_983 (by decide) (fun c_983 => absurd c_983 (by decide)) (fun c_983 => ?_)
    exact l_move hl9 MC HS hB hO hR hsc hla hrk1 hrk hn9 hk9 hcl hsl (lv_sub hl [0, 1, 2, 3, 4, 5, 6, 7, 8, 9, 10, 11, 12, 13, 14, 15, 16, 17, 18] rfl) kk
  · have hl : lv_has ls 28 [(0, .ref b), (1, .ref (aa 0)), (2, .ref (aa 11)), (3, .ref (aa 12)), (4, .ref (aa 13)), (5, .ref (aa 14)), (6, .ref (aa 15)), (7, .ref (aa 16)), (8, .ref (aa 17)), (9, .int (nI t9)), (10, .int x9), (11, .int y9), (12, .int 11), (13, .int (nI sc)), (14, .int (nI la)), (15, .int (nI rk)), (16, .int (nI n9)), (17, .int (nI k9)), (18, .int (nI (7 * nl)))] := hl
    refine lv_iload hx hb dL_law_190 (lv_at hl 12 rfl) ?_
    refine lv_iconst (v := 2) hx hb dL_law_192 (by decide) ?_
    refine lv_icmp_ge (tgt := 252) hx hb dL_law_193 (by decide) (fun c_193 => ?_) (fun c_193 => absurd c_193 (by decide))
    refine lv_iload hx hb dL_law_252 (lv_at hl 12 rfl) ?_
    refine lv_iconst (v := 2) hx hb dL_law_254 (by decide) ?_
    refine lv_icmp_ne (tgt := 301) hx hb dL_law_255 (by decide) (fun c_255 => ?_) (fun c_255 => absurd c_255 (by decide))
    refine lv_iload hx hb dL_law_301 (lv_at hl 12 rfl) ?_
    refine lv_iconst (v := 3) hx hb dL_law_303 (by decide) ?_
    refine lv_icmp_ne (tgt := 365) hx hb dL_law_304 (by decide) (fun c_304 => ?_) (fun c_304 => absurd c_304 (by decide))
    refine lv_iload hx hb dL_law_365 (lv_at hl 12 rfl) ?_
    refine lv_bipush (v := 7) hx hb dL_law_367 (by decide) ?_
    refine lv_icmp_ge (tgt := 674) hx hb dL_law_369 (by decide) (fun c_369 => ?_) (fun c_369 => absurd c_369 (by decide))
    refine lv_iload hx hb dL_law_674 (lv_at hl 12 rfl) ?_
    refine lv_bipush (v := 7) hx hb dL_law_676 (by decide) ?_
    refine lv_icmp_ne (tgt := 794) hx hb dL_law_678 (by decide) (fun c_678 => ?_) (fun c_678 => absurd c_678 (by decide))
    refine lv_iload hx hb dL_law_794 (lv_at hl 12 rfl) ?_
    refine lv_bipush (v := 10) hx hb dL_law_796 (by decide) ?_
    refine lv_icmp_ge (tgt := 979) hx hb dL_law_798 (by decide) (fun c_798 => ?_) (fun c_798 => absurd c_798 (by decide))
    refine lv_iload hx hb dL_law_979 (lv_at hl 12 rfl) ?_
    refine lv_bipush (v := 10) hx hb dL_law_981 (by decide) ?_
    refine lv_icmp_ne (tgt := 1138) hx hb dL_law_983 (by decide) (fun c_983 => ?_) (fun c_983 => absurd c_983 (by decide))
    refine lv_iload hx hb dL_law_1138 (lv_at hl 12 rfl) ?_
    refine lv_bipush (v := 11) hx hb dL_law_1140 (by decide) ?_
    refine lv_icmp_ne (tgt := 1244) hx hb dL_law_1142 (by decide) (fun c_1142 => absurd c_1142 (by decide)) (fun c_1142 => ?_)
    exact l_approve hl9 MC HS hB hO hR hsc hla hrk1 hrk hn9 hk9 hcl hsl (lv_sub hl [0, 1, 2, 3, 4, 5, 6, 7, 8, 9, 10, 11, 12, 13, 14, 15, 16, 17, 18] rfl) kk
  · have hl : lv_has ls 28 [(0, .ref b), (1, .ref (aa 0)), (2, .ref (aa 11)), (3, .ref (aa 12)), (4, .ref (aa 13)), (5, .ref (aa 14)), (6, .ref (aa 15)), (7, .ref (aa 16)), (8, .ref (aa 17)), (9, .int (nI t9)), (10, .int x9), (11, .int y9), (12, .int 12), (13, .int (nI sc)), (14, .int (nI la)), (15, .int (nI rk)), (16, .int (nI n9)), (17, .int (nI k9)), (18, .int (nI (7 * nl)))] := hl
    refine lv_iload hx hb dL_law_190 (lv_at hl 12 rfl) ?_
    refine lv_iconst (v := 2) hx hb dL_law_192 (by decide) ?_
    refine lv_icmp_ge (tgt := 252) hx hb dL_law_193 (by decide) (fun c_193 => ?_) (fun c_193 => absurd c_193 (by decide))
    refine lv_iload hx hb dL_law_252 (lv_at hl 12 rfl) ?_
    refine lv_iconst (v := 2) hx hb dL_law_254 (by decide) ?_
    refine lv_icmp_ne (tgt := 301) hx hb dL_law_255 (by decide) (fun c_255 => ?_) (fun c_255 => absurd c_255 (by decide))
    refine lv_iload hx hb dL_law_301 (lv_at hl 12 rfl) ?_
    refine lv_iconst (v := 3) hx hb dL_law_303 (by decide) ?_
    refine lv_icmp_ne (tgt := 365) hx hb dL_law_304 (by decide) (fun c_304 => ?_) (fun c_304 => absurd c_304 (by decide))
    refine lv_iload hx hb dL_law_365 (lv_at hl 12 rfl) ?_
    refine lv_bipush (v := 7) hx hb dL_law_367 (by decide) ?_
    refine lv_icmp_ge (tgt := 674) hx hb dL_law_369 (by decide) (fun c_369 => ?_) (fun c_369 => absurd c_369 (by decide))
    refine lv_iload hx hb dL_law_674 (lv_at hl 12 rfl) ?_
    refine lv_bipush (v := 7) hx hb dL_law_676 (by decide) ?_
    refine lv_icmp_ne (tgt := 794) hx hb dL_law_678 (by decide) (fun c_678 => ?_) (fun c_678 => absurd c_678 (by decide))
    refine lv_iload hx hb dL_law_794 (lv_at hl 12 rfl) ?_
    refine lv_bipush (v := 10) hx hb dL_law_796 (by decide) ?_
    refine lv_icmp_ge (tgt := 979) hx hb dL_law_798 (by decide) (fun c_798 => ?_) (fun c_798 => absurd c_798 (by decide))
    refine lv_iload hx hb dL_law_979 (lv_at hl 12 rfl) ?_
    refine lv_bipush (v := 10) hx hb dL_law_981 (by decide) ?_
    refine lv_icmp_ne (tgt := 1138) hx hb dL_law_983 (by decide) (fun c_983 => ?_) (fun c_983 => absurd c_983 (by decide))
    refine lv_iload hx hb dL_law_1138 (lv_at hl 12 rfl) ?_
    refine lv_bipush (v := 11) hx hb dL_law_1140 (by decide) ?_
    refine lv_icmp_ne (tgt := 1244) hx hb dL_law_1142 (by decide) (fun c_1142 => ?_) (fun c_1142 => absurd c_1142 (by decide))
    refine lv_iload hx hb dL_law_1244 (lv_at hl 12 rfl) ?_
    refine lv_bipush (v := 12) hx hb dL_law_1246 (by decide) ?_
    refine lv_icmp_ne (tgt := 1302) hx hb dL_law_1248 (by decide) (fun c_1248 => absurd c_1248 (by decide)) (fun c_1248 => ?_)
    exact l_exceptions hl9 MC HS hB hO hR hsc hla hrk1 hrk hn9 hk9 hcl hsl (lv_sub hl [0, 1, 2, 3, 4, 5, 6, 7, 8, 9, 10, 11, 12, 13, 14, 15, 16, 17, 18] rfl) kk
  · have hl : lv_has ls 28 [(0, .ref b), (1, .ref (aa 0)), (2, .ref (aa 11)), (3, .ref (aa 12)), (4, .ref (aa 13)), (5, .ref (aa 14)), (6, .ref (aa 15)), (7, .ref (aa 16)), (8, .ref (aa 17)), (9, .int (nI t9)), (10, .int x9), (11, .int y9), (12, .int 13), (13, .int (nI sc)), (14, .int (nI la)), (15, .int (nI rk)), (16, .int (nI n9)), (17, .int (nI k9)), (18, .int (nI (7 * nl)))] := hl
    refine lv_iload hx hb dL_law_190 (lv_at hl 12 rfl) ?_
    refine lv_iconst (v := 2) hx hb dL_law_192 (by decide) ?_
    refine lv_icmp_ge (tgt := 252) hx hb dL_law_193 (by decide) (fun c_193 => ?_) (fun c_193 => absurd c_193 (by decide))
    refine lv_iload hx hb dL_law_252 (lv_at hl 12 rfl) ?_
    refine lv_iconst (v := 2) hx hb dL_law_254 (by decide) ?_
    refine lv_icmp_ne (tgt := 301) hx hb dL_law_255 (by decide) (fun c_255 => ?_) (fun c_255 => absurd c_255 (by decide))
    refine lv_iload hx hb dL_law_301 (lv_at hl 12 rfl) ?_
    refine lv_iconst (v := 3) hx hb dL_law_303 (by decide) ?_
    refine lv_icmp_ne (tgt := 365) hx hb dL_law_304 (by decide) (fun c_304 => ?_) (fun c_304 => absurd c_304 (by decide))
    refine lv_iload hx hb dL_law_365 (lv_at hl 12 rfl) ?_
    refine lv_bipush (v := 7) hx hb dL_law_367 (by decide) ?_
    refine lv_icmp_ge (tgt := 674) hx hb dL_law_369 (by decide) (fun c_369 => ?_) (fun c_369 => absurd c_369 (by decide))
    refine lv_iload hx hb dL_law_674 (lv_at hl 12 rfl) ?_
    refine lv_bipush (v := 7) hx hb dL_law_676 (by decide) ?_
    refine lv_icmp_ne (tgt := 794) hx hb dL_law_678 (by decide) (fun c_678 => ?_) (fun c_678 => absurd c_678 (by decide))
    refine lv_iload hx hb dL_law_794 (lv_at hl 12 rfl) ?_
    refine lv_bipush (v := 10) hx hb dL_law_796 (by decide) ?_
    refine lv_icmp_ge (tgt := 979) hx hb dL_law_798 (by decide) (fun c_798 => ?_) (fun c_798 => absurd c_798 (by decide))
    refine lv_iload hx hb dL_law_979 (lv_at hl 12 rfl) ?_
    refine lv_bipush (v := 10) hx hb dL_law_981 (by decide) ?_
    refine lv_icmp_ne (tgt := 1138) hx hb dL_law_983 (by decide) (fun c_983 => ?_) (fun c_983 => absurd c_983 (by decide))
    refine lv_iload hx hb dL_law_1138 (lv_at hl 12 rfl) ?_
    refine lv_bipush (v := 11) hx hb dL_law_1140 (by decide) ?_
    refine lv_icmp_ne (tgt := 1244) hx hb dL_law_1142 (by decide) (fun c_1142 => ?_) (fun c_1142 => absurd c_1142 (by decide))
    refine lv_iload hx hb dL_law_1244 (lv_at hl 12 rfl) ?_
    refine lv_bipush (v := 12) hx hb dL_law_1246 (by decide) ?_
    refine lv_icmp_ne (tgt := 1302) hx hb dL_law_1248 (by decide) (fun c_1248 => ?_) (fun c_1248 => absurd c_1248 (by decide))
    refine lv_iload hx hb dL_law_1302 (lv_at hl 12 rfl) ?_
    refine lv_bipush (v := 13) hx hb dL_law_1304 (by decide) ?_
    refine lv_icmp_ne (tgt := 1463) hx hb dL_law_1306 (by decide) (fun c_1306 => absurd c_1306 (by decide)) (fun c_1306 => ?_)
    exact l_excuse hl9 MC HS hB hO hR hsc hla hrk1 hrk hn9 hk9 hcl hsl (lv_sub hl [0, 1, 2, 3, 4, 5, 6, 7, 8, 9, 10, 11, 12, 13, 14, 15, 16, 17, 18] rfl) kk
  · have hl : lv_has ls 28 [(0, .ref b), (1, .ref (aa 0)), (2, .ref (aa 11)), (3, .ref (aa 12)), (4, .ref (aa 13)), (5, .ref (aa 14)), (6, .ref (aa 15)), (7, .ref (aa 16)), (8, .ref (aa 17)), (9, .int (nI t9)), (10, .int x9), (11, .int y9), (12, .int 14), (13, .int (nI sc)), (14, .int (nI la)), (15, .int (nI rk)), (16, .int (nI n9)), (17, .int (nI k9)), (18, .int (nI (7 * nl)))] := hl
    refine lv_iload hx hb dL_law_190 (lv_at hl 12 rfl) ?_
    refine lv_iconst (v := 2) hx hb dL_law_192 (by decide) ?_
    refine lv_icmp_ge (tgt := 252) hx hb dL_law_193 (by decide) (fun c_193 => ?_) (fun c_193 => absurd c_193 (by decide))
    refine lv_iload hx hb dL_law_252 (lv_at hl 12 rfl) ?_
    refine lv_iconst (v := 2) hx hb dL_law_254 (by decide) ?_
    refine lv_icmp_ne (tgt := 301) hx hb dL_law_255 (by decide) (fun c_255 => ?_) (fun c_255 => absurd c_255 (by decide))
    refine lv_iload hx hb dL_law_301 (lv_at hl 12 rfl) ?_
    refine lv_iconst (v := 3) hx hb dL_law_303 (by decide) ?_
    refine lv_icmp_ne (tgt := 365) hx hb dL_law_304 (by decide) (fun c_304 => ?_) (fun c_304 => absurd c_304 (by decide))
    refine lv_iload hx hb dL_law_365 (lv_at hl 12 rfl) ?_
    refine lv_bipush (v := 7) hx hb dL_law_367 (by decide) ?_
    refine lv_icmp_ge (tgt := 674) hx hb dL_law_369 (by decide) (fun c_369 => ?_) (fun c_369 => absurd c_369 (by decide))
    refine lv_iload hx hb dL_law_674 (lv_at hl 12 rfl) ?_
    refine lv_bipush (v := 7) hx hb dL_law_676 (by decide) ?_
    refine lv_icmp_ne (tgt := 794) hx hb dL_law_678 (by decide) (fun c_678 => ?_) (fun c_678 => absurd c_678 (by decide))
    refine lv_iload hx hb dL_law_794 (lv_at hl 12 rfl) ?_
    refine lv_bipush (v := 10) hx hb dL_law_796 (by decide) ?_
    refine lv_icmp_ge (tgt := 979) hx hb dL_law_798 (by decide) (fun c_798 => ?_) (fun c_798 => absurd c_798 (by decide))
    refine lv_iload hx hb dL_law_979 (lv_at hl 12 rfl) ?_
    refine lv_bipush (v := 10) hx hb dL_law_981 (by decide) ?_
    refine lv_icmp_ne (tgt := 1138) hx hb dL_law_983 (by decide) (fun c_983 => ?_) (fun c_983 => absurd c_983 (by decide))
    refine lv_iload hx hb dL_law_1138 (lv_at hl 12 rfl) ?_
    refine lv_bipush (v := 11) hx hb dL_law_1140 (by decide) ?_
    refine lv_icmp_ne (tgt := 1244) hx hb dL_law_1142 (by decide) (fun c_1142 => ?_) (fun c_1142 => absurd c_1142 (by decide))
    refine lv_iload hx hb dL_law_1244 (lv_at hl 12 rfl) ?_
    refine lv_bipush (v := 12) hx hb dL_law_1246 (by decide) ?_
    refine lv_icmp_ne (tgt := 1302) hx hb dL_law_1248 (by decide) (fun c_1248 => ?_) (fun c_1248 => absurd c_1248 (by decide))
    refine lv_iload hx hb dL_law_1302 (lv_at hl 12 rfl) ?_
    refine lv_bipush (v := 13) hx hb dL_law_1304 (by decide) ?_
    refine lv_icmp_ne (tgt := 1463) hx hb dL_law_1306 (by decide) (fun c_1306 => ?_) (fun c_1306 => absurd c_1306 (by decide))
    refine lv_iload hx hb dL_law_1463 (lv_at hl 12 rfl) ?_
    refine lv_bipush (v := 16) hx hb dL_law_1465 (by decide) ?_
    refine lv_icmp_ge (tgt := 1734) hx hb dL_law_1467 (by decide) (fun c_1467 => absurd c_1467 (by decide)) (fun c_1467 => ?_)
    exact l_begin hl9 MC HS hB hO hR hsc hla hrk1 hrk hn9 hk9 hcl hsl (lv_sub hl [0, 1, 2, 3, 4, 5, 6, 7, 8, 9, 10, 11, 12, 13, 14, 15, 16, 17, 18] rfl) kk
  · have hl : lv_has ls 28 [(0, .ref b), (1, .ref (aa 0)), (2, .ref (aa 11)), (3, .ref (aa 12)), (4, .ref (aa 13)), (5, .ref (aa 14)), (6, .ref (aa 15)), (7, .ref (aa 16)), (8, .ref (aa 17)), (9, .int (nI t9)), (10, .int x9), (11, .int y9), (12, .int 15), (13, .int (nI sc)), (14, .int (nI la)), (15, .int (nI rk)), (16, .int (nI n9)), (17, .int (nI k9)), (18, .int (nI (7 * nl)))] := hl
    refine lv_iload hx hb dL_law_190 (lv_at hl 12 rfl) ?_
    refine lv_iconst (v := 2) hx hb dL_law_192 (by decide) ?_
    refine lv_icmp_ge (tgt := 252) hx hb dL_law_193 (by decide) (fun c_193 => ?_) (fun c_193 => absurd c_193 (by decide))
    refine lv_iload hx hb dL_law_252 (lv_at hl 12 rfl) ?_
    refine lv_iconst (v := 2) hx hb dL_law_254 (by decide) ?_
    refine lv_icmp_ne (tgt := 301) hx hb dL_law_255 (by decide) (fun c_255 => ?_) (fun c_255 => absurd c_255 (by decide))
    refine lv_iload hx hb dL_law_301 (lv_at hl 12 rfl) ?_
    refine lv_iconst (v := 3) hx hb dL_law_303 (by decide) ?_
    refine lv_icmp_ne (tgt := 365) hx hb dL_law_304 (by decide) (fun c_304 => ?_) (fun c_304 => absurd c_304 (by decide))
    refine lv_iload hx hb dL_law_365 (lv_at hl 12 rfl) ?_
    refine lv_bipush (v := 7) hx hb dL_law_367 (by decide) ?_
    refine lv_icmp_ge (tgt := 674) hx hb dL_law_369 (by decide) (fun c_369 => ?_) (fun c_369 => absurd c_369 (by decide))
    refine lv_iload hx hb dL_law_674 (lv_at hl 12 rfl) ?_
    refine lv_bipush (v := 7) hx hb dL_law_676 (by decide) ?_
    refine lv_icmp_ne (tgt := 794) hx hb dL_law_678 (by decide) (fun c_678 => ?_) (fun c_678 => absurd c_678 (by decide))
    refine lv_iload hx hb dL_law_794 (lv_at hl 12 rfl) ?_
    refine lv_bipush (v := 10) hx hb dL_law_796 (by decide) ?_
    refine lv_icmp_ge (tgt := 979) hx hb dL_law_798 (by decide) (fun c_798 => ?_) (fun c_798 => absurd c_798 (by decide))
    refine lv_iload hx hb dL_law_979 (lv_at hl 12 rfl) ?_
    refine lv_bipush (v := 10) hx hb dL_law_981 (by decide) ?_
    refine lv_icmp_ne (tgt := 1138) hx hb dL_law_983 (by decide) (fun c_983 => ?_) (fun c_983 => absurd c_983 (by decide))
    refine lv_iload hx hb dL_law_1138 (lv_at hl 12 rfl) ?_
    refine lv_bipush (v := 11) hx hb dL_law_1140 (by decide) ?_
    refine lv_icmp_ne (tgt := 1244) hx hb dL_law_1142 (by decide) (fun c_1142 => ?_) (fun c_1142 => absurd c_1142 (by decide))
    refine lv_iload hx hb dL_law_1244 (lv_at hl 12 rfl) ?_
    refine lv_bipush (v := 12) hx hb dL_law_1246 (by decide) ?_
    refine lv_icmp_ne (tgt := 1302) hx hb dL_law_1248 (by decide) (fun c_1248 => ?_) (fun c_1248 => absurd c_1248 (by decide))
    refine lv_iload hx hb dL_law_1302 (lv_at hl 12 rfl) ?_
    refine lv_bipush (v := 13) hx hb dL_law_1304 (by decide) ?_
    refine lv_icmp_ne (tgt := 1463) hx hb dL_law_1306 (by decide) (fun c_1306 => ?_) (fun c_1306 => absurd c_1306 (by decide))
    refine lv_iload hx hb dL_law_1463 (lv_at hl 12 rfl) ?_
    refine lv_bipush (v := 16) hx hb dL_law_1465 (by decide) ?_
    refine lv_icmp_ge (tgt := 1734) hx hb dL_law_1467 (by decide) (fun c_1467 => absurd c_1467 (by decide)) (fun c_1467 => ?_)
    exact l_begin hl9 MC HS hB hO hR hsc hla hrk1 hrk hn9 hk9 hcl hsl (lv_sub hl [0, 1, 2, 3, 4, 5, 6, 7, 8, 9, 10, 11, 12, 13, 14, 15, 16, 17, 18] rfl) kk
  · have hl : lv_has ls 28 [(0, .ref b), (1, .ref (aa 0)), (2, .ref (aa 11)), (3, .ref (aa 12)), (4, .ref (aa 13)), (5, .ref (aa 14)), (6, .ref (aa 15)), (7, .ref (aa 16)), (8, .ref (aa 17)), (9, .int (nI t9)), (10, .int x9), (11, .int y9), (12, .int 16), (13, .int (nI sc)), (14, .int (nI la)), (15, .int (nI rk)), (16, .int (nI n9)), (17, .int (nI k9)), (18, .int (nI (7 * nl)))] := hl
    refine lv_iload hx hb dL_law_190 (lv_at hl 12 rfl) ?_
    refine lv_iconst (v := 2) hx hb dL_law_192 (by decide) ?_
    refine lv_icmp_ge (tgt := 252) hx hb dL_law_193 (by decide) (fun c_193 => ?_) (fun c_193 => absurd c_193 (by decide))
    refine lv_iload hx hb dL_law_252 (lv_at hl 12 rfl) ?_
    refine lv_iconst (v := 2) hx hb dL_law_254 (by decide) ?_
    refine lv_icmp_ne (tgt := 301) hx hb dL_law_255 (by decide) (fun c_255 => ?_) (fun c_255 => absurd c_255 (by decide))
    refine lv_iload hx hb dL_law_301 (lv_at hl 12 rfl) ?_
    refine lv_iconst (v := 3) hx hb dL_law_303 (by decide) ?_
    refine lv_icmp_ne (tgt := 365) hx hb dL_law_304 (by decide) (fun c_304 => ?_) (fun c_304 => absurd c_304 (by decide))
    refine lv_iload hx hb dL_law_365 (lv_at hl 12 rfl) ?_
    refine lv_bipush (v := 7) hx hb dL_law_367 (by decide) ?_
    refine lv_icmp_ge (tgt := 674) hx hb dL_law_369 (by decide) (fun c_369 => ?_) (fun c_369 => absurd c_369 (by decide))
    refine lv_iload hx hb dL_law_674 (lv_at hl 12 rfl) ?_
    refine lv_bipush (v := 7) hx hb dL_law_676 (by decide) ?_
    refine lv_icmp_ne (tgt := 794) hx hb dL_law_678 (by decide) (fun c_678 => ?_) (fun c_678 => absurd c_678 (by decide))
    refine lv_iload hx hb dL_law_794 (lv_at hl 12 rfl) ?_
    refine lv_bipush (v := 10) hx hb dL_law_796 (by decide) ?_
    refine lv_icmp_ge (tgt := 979) hx hb dL_law_798 (by decide) (fun c_798 => ?_) (fun c_798 => absurd c_798 (by decide))
    refine lv_iload hx hb dL_law_979 (lv_at hl 12 rfl) ?_
    refine lv_bipush (v := 10) hx hb dL_law_981 (by decide) ?_
    refine lv_icmp_ne (tgt := 1138) hx hb dL_law_983 (by decide) (fun c_983 => ?_) (fun c_983 => absurd c_983 (by decide))
    refine lv_iload hx hb dL_law_1138 (lv_at hl 12 rfl) ?_
    refine lv_bipush (v := 11) hx hb dL_law_1140 (by decide) ?_
    refine lv_icmp_ne (tgt := 1244) hx hb dL_law_1142 (by decide) (fun c_1142 => ?_) (fun c_1142 => absurd c_1142 (by decide))
    refine lv_iload hx hb dL_law_1244 (lv_at hl 12 rfl) ?_
    refine lv_bipush (v := 12) hx hb dL_law_1246 (by decide) ?_
    refine lv_icmp_ne (tgt := 1302) hx hb dL_law_1248 (by decide) (fun c_1248 => ?_) (fun c_1248 => absurd c_1248 (by decide))
    refine lv_iload hx hb dL_law_1302 (lv_at hl 12 rfl) ?_
    refine lv_bipush (v := 13) hx hb dL_law_1304 (by decide) ?_
    refine lv_icmp_ne (tgt := 1463) hx hb dL_law_1306 (by decide) (fun c_1306 => ?_) (fun c_1306 => absurd c_1306 (by decide))
    refine lv_iload hx hb dL_law_1463 (lv_at hl 12 rfl) ?_
    refine lv_bipush (v := 16) hx hb dL_law_1465 (by decide) ?_
    refine lv_icmp_ge (tgt := 1734) hx hb dL_law_1467 (by decide) (fun c_1467 => ?_) (fun c_1467 => absurd c_1467 (by decide))
    refine lv_iload hx hb dL_law_1734 (lv_at hl 12 rfl) ?_
    refine lv_bipush (v := 16) hx hb dL_law_1736 (by decide) ?_
    refine lv_icmp_ne (tgt := 1806) hx hb dL_law_1738 (by decide) (fun c_1738 => absurd c_1738 (by decide)) (fun c_1738 => ?_)
    exact l_pass hl9 MC HS hB hO hR hsc hla hrk1 hrk hn9 hk9 hcl hsl (lv_sub hl [0, 1, 2, 3, 4, 5, 6, 7, 8, 9, 10, 11, 12, 13, 14, 15, 16, 17, 18] rfl) kk
  · have hl : lv_has ls 28 [(0, .ref b), (1, .ref (aa 0)), (2, .ref (aa 11)), (3, .ref (aa 12)), (4, .ref (aa 13)), (5, .ref (aa 14)), (6, .ref (aa 15)), (7, .ref (aa 16)), (8, .ref (aa 17)), (9, .int (nI t9)), (10, .int x9), (11, .int y9), (12, .int 17), (13, .int (nI sc)), (14, .int (nI la)), (15, .int (nI rk)), (16, .int (nI n9)), (17, .int (nI k9)), (18, .int (nI (7 * nl)))] := hl
    refine lv_iload hx hb dL_law_190 (lv_at hl 12 rfl) ?_
    refine lv_iconst (v := 2) hx hb dL_law_192 (by decide) ?_
    refine lv_icmp_ge (tgt := 252) hx hb dL_law_193 (by decide) (fun c_193 => ?_) (fun c_193 => absurd c_193 (by decide))
    refine lv_iload hx hb dL_law_252 (lv_at hl 12 rfl) ?_
    refine lv_iconst (v := 2) hx hb dL_law_254 (by decide) ?_
    refine lv_icmp_ne (tgt := 301) hx hb dL_law_255 (by decide) (fun c_255 => ?_) (fun c_255 => absurd c_255 (by decide))
    refine lv_iload hx hb dL_law_301 (lv_at hl 12 rfl) ?_
    refine lv_iconst (v := 3) hx hb dL_law_303 (by decide) ?_
    refine lv_icmp_ne (tgt := 365) hx hb dL_law_304 (by decide) (fun c_304 => ?_) (fun c_304 => absurd c_304 (by decide))
    refine lv_iload hx hb dL_law_365 (lv_at hl 12 rfl) ?_
    refine lv_bipush (v := 7) hx hb dL_law_367 (by decide) ?_
    refine lv_icmp_ge (tgt := 674) hx hb dL_law_369 (by decide) (fun c_369 => ?_) (fun c_369 => absurd c_369 (by decide))
    refine lv_iload hx hb dL_law_674 (lv_at hl 12 rfl) ?_
    refine lv_bipush (v := 7) hx hb dL_law_676 (by decide) ?_
    refine lv_icmp_ne (tgt := 794) hx hb dL_law_678 (by decide) (fun c_678 => ?_) (fun c_678 => absurd c_678 (by decide))
    refine lv_iload hx hb dL_law_794 (lv_at hl 12 rfl) ?_
    refine lv_bipush (v := 10) hx hb dL_law_796 (by decide) ?_
    refine lv_icmp_ge (tgt := 979) hx hb dL_law_798 (by decide) (fun c_798 => ?_) (fun c_798 => absurd c_798 (by decide))
    refine lv_iload hx hb dL_law_979 (lv_at hl 12 rfl) ?_
    refine lv_bipush (v := 10) hx hb dL_law_981 (by decide) ?_
    refine lv_icmp_ne (tgt := 1138) hx hb dL_law_983 (by decide) (fun c_983 => ?_) (fun c_983 => absurd c_983 (by decide))
    refine lv_iload hx hb dL_law_1138 (lv_at hl 12 rfl) ?_
    refine lv_bipush (v := 11) hx hb dL_law_1140 (by decide) ?_
    refine lv_icmp_ne (tgt := 1244) hx hb dL_law_1142 (by decide) (fun c_1142 => ?_) (fun c_1142 => absurd c_1142 (by decide))
    refine lv_iload hx hb dL_law_1244 (lv_at hl 12 rfl) ?_
    refine lv_bipush (v := 12) hx hb dL_law_1246 (by decide) ?_
    refine lv_icmp_ne (tgt := 1302) hx hb dL_law_1248 (by decide) (fun c_1248 => ?_) (fun c_1248 => absurd c_1248 (by decide))
    refine lv_iload hx hb dL_law_1302 (lv_at hl 12 rfl) ?_
    refine lv_bipush (v := 13) hx hb dL_law_1304 (by decide) ?_
    refine lv_icmp_ne (tgt := 1463) hx hb dL_law_1306 (by decide) (fun c_1306 => ?_) (fun c_1306 => absurd c_1306 (by decide))
    refine lv_iload hx hb dL_law_1463 (lv_at hl 12 rfl) ?_
    refine lv_bipush (v := 16) hx hb dL_law_1465 (by decide) ?_
    refine lv_icmp_ge (tgt := 1734) hx hb dL_law_1467 (by decide) (fun c_1467 => ?_) (fun c_1467 => absurd c_1467 (by decide))
    refine lv_iload hx hb dL_law_1734 (lv_at hl 12 rfl) ?_
    refine lv_bipush (v := 16) hx hb dL_law_1736 (by decide) ?_
    refine lv_icmp_ne (tgt := 1806) hx hb dL_law_1738 (by decide) (fun c_1738 => ?_) (fun c_1738 => absurd c_1738 (by decide))
    exact l_next hl9 MC HS hB hO hR hsc hla hrk1 hrk hn9 hk9 hcl hsl (lv_sub hl [0, 1, 2, 3, 4, 5, 6, 7, 8, 9, 10, 11, 12, 13, 14, 15, 16, 17, 18] rfl) kk
set_option maxHeartbeats 4000000 in
set_option maxRecDepth 100000 in
theorem l_turn {p : Program} {l : Launch} (hl9 : l.stackTraces = false) {e : Env} {R : Room} {s : State} {m : MethodId} {args : Array Value} {below : List Frame} {meth : Method} {c : Code} {H : Heap} {locs : List Loc} {cells slots : Nat} {Q : State → Prop} {D : va_G} {ids : Nat → ClassId} {n0 b t9 : Nat} {aa : Nat → Nat} {τ : Tau} {nw ns nl nc : Nat} {A : Tau} (MC : ro_C p s m args meth c cL_law 28 "FrostCalendarLaw" D ids n0) (HS : va_S (fun q => n0 ≤ q) s.heap H locs) (hB : wB D ids n0 aa τ nw ns nl nc A H) (hO : wOk τ ns nl nc A) (hR : 11 ≤ R.frames ∧ 400 ≤ R.locals) {L : Nat} {xs : Nat → Int32} (hscr : va_X b L xs s s.heap) (hb0 : b < n0) (hL : L ≤ 260) (ht9 : t9 < 60) (hcl : cells + 400 ≤ R.cells) (hsl : slots + 2400 ≤ R.slots) {ls : Array Slot} (hl : lv_has ls 28 [(0, .ref b), (1, .ref (aa 0)), (2, .ref (aa 11)), (3, .ref (aa 12)), (4, .ref (aa 13)), (5, .ref (aa 14)), (6, .ref (aa 15)), (7, .ref (aa 16)), (8, .ref (aa 17)), (9, .int (nI t9))])
    (kk : ∀ (c9 s9 : Nat) (H1 : Heap) (locs1 : List Loc) (ls1 : Array Slot), c9 ≤ cells + 400 → s9 ≤ slots + 2400 → wI D ids n0 aa H1 → va_S (fun q => n0 ≤ q) s.heap H1 locs1 → lv_has ls1 28 (lL b aa t9) → W p l e R s m args below meth c H1 locs1 c9 s9 Q (F0 m 2092 ls1 [])) : W p l e R s m args below meth c H locs cells slots Q (F0 m 64 ls []) := by
  have hx := MC.1.1
  have hb := MC.1.2.1
  have hI := hB.1
  obtain ⟨⟨hns, hnl, hnc⟩, ⟨hg0, hg1, hg2, hg3⟩, hF, hC, hin, hof, hfe, hle⟩ := id hO
  have hns1 := hI.2.1.2.1
  refine lv_aload_n hx hb dL_law_64 rfl (lv_at hl 0 rfl) ?_
  refine lv_iconst (v := 2) hx hb dL_law_65 (by decide) ?_
  refine lv_iload hx hb dL_law_66 (lv_at hl 9 rfl) ?_
  refine lv_imul hx hb dL_law_68 ?_
  refine wb_sx MC HS hscr hb0 (rest := []) (As := [.ref b, .int (2 * nI t9)]) (by rw [show (2 * nI t9) = nI (2 * t9) from (ix_mul rfl rfl)]; exact y_cell D ids n0 hb0 hL (by omega)) lkL_80 kw500 ⟨rfl, rfl, Nat.le_of_ble_eq_true rfl, Nat.le_of_ble_eq_true rfl, Nat.le_of_ble_eq_true rfl⟩ hR hl.1 rfl (Nat.le_of_ble_eq_true rfl) dL_law_69 (by omega) (by omega) (fun v9 H1 lH1 hp HS => ?_)
  obtain ⟨z2, rfl, rfl⟩ := hp
  refine lv_istore (lv' := [(10, .int z2), (0, .ref b), (1, .ref (aa 0)), (2, .ref (aa 11)), (3, .ref (aa 12)), (4, .ref (aa 13)), (5, .ref (aa 14)), (6, .ref (aa 15)), (7, .ref (aa 16)), (8, .ref (aa 17)), (9, .int (nI t9))]) hx hb dL_law_72 hl (by decide) rfl (fun ls hl => ?_)
  refine lv_aload_n hx hb dL_law_74 rfl (lv_at hl 1 rfl) ?_
  refine lv_iconst (v := 2) hx hb dL_law_75 (by decide) ?_
  refine lv_iload hx hb dL_law_76 (lv_at hl 10 rfl) ?_
  refine lv_imul hx hb dL_law_78 ?_
  refine lv_iconst (v := 1) hx hb dL_law_79 (by decide) ?_
  refine lv_iadd hx hb dL_law_80 ?_
  refine wb_sx MC HS hscr hb0 (rest := []) (As := [.ref b, .int ((2 * nI t9) + 1)]) (by rw [show ((2 * nI t9) + 1) = nI (2 * t9 + 1) from (ix_add (ix_mul rfl rfl) rfl)]; exact y_cell D ids n0 hb0 hL (by omega)) lkL_80 kw500 ⟨rfl, rfl, Nat.le_of_ble_eq_true rfl, Nat.le_of_ble_eq_true rfl, Nat.le_of_ble_eq_true rfl⟩ hR hl.1 rfl (Nat.le_of_ble_eq_true rfl) dL_law_81 (by omega) (by omega) (fun v9 H3 lH3 hp HS => ?_)
  obtain ⟨z4, rfl, rfl⟩ := hp
  refine lv_istore (lv' := [(11, .int z4), (10, .int z2), (0, .ref b), (1, .ref (aa 0)), (2, .ref (aa 11)), (3, .ref (aa 12)), (4, .ref (aa 13)), (5, .ref (aa 14)), (6, .ref (aa 15)), (7, .ref (aa 16)), (8, .ref (aa 17)), (9, .int (nI t9))]) hx hb dL_law_84 hl (by decide) rfl (fun ls hl => ?_)
  refine lv_iload hx hb dL_law_86 (lv_at hl 1 rfl) ?_
  refine lv_bipush (v := 18) hx hb dL_law_88 (by decide) ?_
  refine wb_s MC HS (rest := []) (As := [.int z2, .int 18]) (by rw [show 18 = nI (18) from rfl]; exact y_low D ids n0 z2 (by omega) (by omega)) lkL_84 kw505 ⟨rfl, rfl, Nat.le_of_ble_eq_true rfl, Nat.le_of_ble_eq_true rfl, Nat.le_of_ble_eq_true rfl⟩ hR hl.1 rfl (Nat.le_of_ble_eq_true rfl) dL_law_90 (by omega) (by omega) (fun v9 H6 lH6 hp HS => ?_)
  obtain ⟨q5, hq5, rfl, rfl⟩ := hp
  refine lv_istore (lv' := [(12, .int (nI q5)), (11, .int z4), (10, .int z2), (0, .ref b), (1, .ref (aa 0)), (2, .ref (aa 11)), (3, .ref (aa 12)), (4, .ref (aa 13)), (5, .ref (aa 14)), (6, .ref (aa 15)), (7, .ref (aa 16)), (8, .ref (aa 17)), (9, .int (nI t9))]) hx hb dL_law_93 hl (by decide) rfl (fun ls hl => ?_)
  refine lv_iload hx hb dL_law_95 (lv_at hl 2 rfl) ?_
  refine lv_iconst (v := 5) hx hb dL_law_97 (by decide) ?_
  refine lv_ishr hx hb dL_law_98 ?_
  refine lv_aload hx hb dL_law_99 (lv_at hl 11 rfl) ?_
  refine lv_iconst (v := 1) hx hb dL_law_101 (by decide) ?_
  refine wb_iald MC hB 6 (by decide) 1 (show 1 < 4 by omega) rfl (hg1.trans hI.2.1.1) dL_law_102 ?_
  refine wb_s MC HS (rest := []) (As := [.int (z2 >>> (5 &&& 31)), .int (nI ns)]) (by rw [show (nI ns) = nI (ns) from rfl]; exact y_low D ids n0 (z2 >>> (5 &&& 31)) (by omega) (by omega)) lkL_84 kw505 ⟨rfl, rfl, Nat.le_of_ble_eq_true rfl, Nat.le_of_ble_eq_true rfl, Nat.le_of_ble_eq_true rfl⟩ hR hl.1 rfl (Nat.le_of_ble_eq_true rfl) dL_law_103 (by omega) (by omega) (fun v9 H8 lH8 hp HS => ?_)
  obtain ⟨q7, hq7, rfl, rfl⟩ := hp
  refine lv_istore (lv' := [(13, .int (nI q7)), (12, .int (nI q5)), (11, .int z4), (10, .int z2), (0, .ref b), (1, .ref (aa 0)), (2, .ref (aa 11)), (3, .ref (aa 12)), (4, .ref (aa 13)), (5, .ref (aa 14)), (6, .ref (aa 15)), (7, .ref (aa 16)), (8, .ref (aa 17)), (9, .int (nI t9))]) hx hb dL_law_106 hl (by decide) rfl (fun ls hl => ?_)
  refine lv_iload hx hb dL_law_108 (lv_at hl 3 rfl) ?_
  refine lv_bipush (v := 9) hx hb dL_law_110 (by decide) ?_
  refine lv_ishr hx hb dL_law_112 ?_
  refine lv_iconst (v := 4) hx hb dL_law_113 (by decide) ?_
  refine wb_s MC HS (rest := []) (As := [.int (z2 >>> (9 &&& 31)), .int 4]) (by rw [show 4 = nI (4) from rfl]; exact y_low D ids n0 (z2 >>> (9 &&& 31)) (by omega) (by omega)) lkL_84 kw505 ⟨rfl, rfl, Nat.le_of_ble_eq_true rfl, Nat.le_of_ble_eq_true rfl, Nat.le_of_ble_eq_true rfl⟩ hR hl.1 rfl (Nat.le_of_ble_eq_true rfl) dL_law_114 (by omega) (by omega) (fun v9 H10 lH10 hp HS => ?_)
  obtain ⟨q9, hq9, rfl, rfl⟩ := hp
  refine lv_istore (lv' := [(14, .int (nI q9)), (13, .int (nI q7)), (12, .int (nI q5)), (11, .int z4), (10, .int z2), (0, .ref b), (1, .ref (aa 0)), (2, .ref (aa 11)), (3, .ref (aa 12)), (4, .ref (aa 13)), (5, .ref (aa 14)), (6, .ref (aa 15)), (7, .ref (aa 16)), (8, .ref (aa 17)), (9, .int (nI t9))]) hx hb dL_law_117 hl (by decide) rfl (fun ls hl => ?_)
  refine lv_iconst (v := 1) hx hb dL_law_119 (by decide) ?_
  refine lv_iload hx hb dL_law_120 (lv_at hl 4 rfl) ?_
  refine lv_bipush (v := 11) hx hb dL_law_122 (by decide) ?_
  refine lv_ishr hx hb dL_law_124 ?_
  refine lv_iconst (v := 3) hx hb dL_law_125 (by decide) ?_
  refine wb_s MC HS (rest := [.int 1]) (As := [.int (z2 >>> (11 &&& 31)), .int 3]) (by rw [show 3 = nI (3) from rfl]; exact y_low D ids n0 (z2 >>> (11 &&& 31)) (by omega) (by omega)) lkL_84 kw505 ⟨rfl, rfl, Nat.le_of_ble_eq_true rfl, Nat.le_of_ble_eq_true rfl, Nat.le_of_ble_eq_true rfl⟩ hR hl.1 rfl (Nat.le_of_ble_eq_true rfl) dL_law_126 (by omega) (by omega) (fun v9 H12 lH12 hp HS => ?_)
  obtain ⟨q11, hq11, rfl, rfl⟩ := hp
  refine lv_iadd hx hb dL_law_129 ?_
  rw [show (1 + nI q11) = nI (1 + q11) from (ix_add rfl rfl)]
  refine lv_istore (lv' := [(15, .int (nI (1 + q11))), (14, .int (nI q9)), (13, .int (nI q7)), (12, .int (nI q5)), (11, .int z4), (10, .int z2), (0, .ref b), (1, .ref (aa 0)), (2, .ref (aa 11)), (3, .ref (aa 12)), (4, .ref (aa 13)), (5, .ref (aa 14)), (6, .ref (aa 15)), (7, .ref (aa 16)), (8, .ref (aa 17)), (9, .int (nI t9))]) hx hb dL_law_130 hl (by decide) rfl (fun ls hl => ?_)
  refine lv_aload hx hb dL_law_132 (lv_at hl 14 rfl) ?_
  refine lv_iconst (v := 3) hx hb dL_law_134 (by decide) ?_
  refine wb_iald MC hB 6 (by decide) 3 (show 3 < 4 by omega) rfl (hg3.trans hI.2.2.2.1.1) dL_law_135 ?_
  refine lv_if_ne (tgt := 143) hx hb dL_law_136 (by decide) (fun c_136 => ?_) (fun c_136 => ?_)
  · have hz3 : ¬ nc = 0 := nneq_of (n := 0) rfl c_136
    refine lv_iload hx hb dL_law_143 (lv_at hl 4 rfl) ?_
    refine lv_iconst (v := 3) hx hb dL_law_145 (by decide) ?_
    refine lv_ishr hx hb dL_law_146 ?_
    refine lv_aload hx hb dL_law_147 (lv_at hl 14 rfl) ?_
    refine lv_iconst (v := 3) hx hb dL_law_149 (by decide) ?_
    refine wb_iald MC hB 6 (by decide) 3 (show 3 < 4 by omega) rfl (hg3.trans hI.2.2.2.1.1) dL_law_150 ?_
    refine wb_s MC HS (rest := []) (As := [.int (z4 >>> (3 &&& 31)), .int (nI nc)]) (by rw [show (nI nc) = nI (nc) from rfl]; exact y_low D ids n0 (z4 >>> (3 &&& 31)) (by omega) (by omega)) lkL_84 kw505 ⟨rfl, rfl, Nat.le_of_ble_eq_true rfl, Nat.le_of_ble_eq_true rfl, Nat.le_of_ble_eq_true rfl⟩ hR hl.1 rfl (Nat.le_of_ble_eq_true rfl) dL_law_151 (by omega) (by omega) (fun v9 H14 lH14 hp HS => ?_)
    obtain ⟨q13, hq13, rfl, rfl⟩ := hp
    refine lv_istore (lv' := [(16, .int (nI q13)), (15, .int (nI (1 + q11))), (14, .int (nI q9)), (13, .int (nI q7)), (12, .int (nI q5)), (11, .int z4), (10, .int z2), (0, .ref b), (1, .ref (aa 0)), (2, .ref (aa 11)), (3, .ref (aa 12)), (4, .ref (aa 13)), (5, .ref (aa 14)), (6, .ref (aa 15)), (7, .ref (aa 16)), (8, .ref (aa 17)), (9, .int (nI t9))]) hx hb dL_law_154 hl (by decide) rfl (fun ls hl => ?_)
    refine lv_aload hx hb dL_law_156 (lv_at hl 15 rfl) ?_
    refine lv_iconst (v := 2) hx hb dL_law_158 (by decide) ?_
    refine wb_iald MC hB 6 (by decide) 2 (show 2 < 4 by omega) rfl (hg2.trans hI.2.2.1.1) dL_law_159 ?_
    refine lv_if_ne (tgt := 167) hx hb dL_law_160 (by decide) (fun c_160 => ?_) (fun c_160 => ?_)
    · have hz2 : ¬ nl = 0 := nneq_of (n := 0) rfl c_160
      refine lv_iload hx hb dL_law_167 (lv_at hl 5 rfl) ?_
      refine lv_bipush (v := 6) hx hb dL_law_169 (by decide) ?_
      refine lv_ishr hx hb dL_law_171 ?_
      refine lv_aload hx hb dL_law_172 (lv_at hl 15 rfl) ?_
      refine lv_iconst (v := 2) hx hb dL_law_174 (by decide) ?_
      refine wb_iald MC hB 6 (by decide) 2 (show 2 < 4 by omega) rfl (hg2.trans hI.2.2.1.1) dL_law_175 ?_
      refine wb_s MC HS (rest := []) (As := [.int (z4 >>> (6 &&& 31)), .int (nI nl)]) (by rw [show (nI nl) = nI (nl) from rfl]; exact y_low D ids n0 (z4 >>> (6 &&& 31)) (by omega) (by omega)) lkL_84 kw505 ⟨rfl, rfl, Nat.le_of_ble_eq_true rfl, Nat.le_of_ble_eq_true rfl, Nat.le_of_ble_eq_true rfl⟩ hR hl.1 rfl (Nat.le_of_ble_eq_true rfl) dL_law_176 (by omega) (by omega) (fun v9 H16 lH16 hp HS => ?_)
      obtain ⟨q15, hq15, rfl, rfl⟩ := hp
      refine lv_istore (lv' := [(17, .int (nI q15)), (16, .int (nI q13)), (15, .int (nI (1 + q11))), (14, .int (nI q9)), (13, .int (nI q7)), (12, .int (nI q5)), (11, .int z4), (10, .int z2), (0, .ref b), (1, .ref (aa 0)), (2, .ref (aa 11)), (3, .ref (aa 12)), (4, .ref (aa 13)), (5, .ref (aa 14)), (6, .ref (aa 15)), (7, .ref (aa 16)), (8, .ref (aa 17)), (9, .int (nI t9))]) hx hb dL_law_179 hl (by decide) rfl (fun ls hl => ?_)
      refine lv_bipush (v := 7) hx hb dL_law_181 (by decide) ?_
      refine lv_aload hx hb dL_law_183 (lv_at hl 16 rfl) ?_
      refine lv_iconst (v := 2) hx hb dL_law_185 (by decide) ?_
      refine wb_iald MC hB 6 (by decide) 2 (show 2 < 4 by omega) rfl (hg2.trans hI.2.2.1.1) dL_law_186 ?_
      refine lv_imul hx hb dL_law_187 ?_
      rw [show (7 * nI nl) = nI (7 * nl) from (ix_mul rfl rfl)]
      refine lv_istore (lv' := [(18, .int (nI (7 * nl))), (17, .int (nI q15)), (16, .int (nI q13)), (15, .int (nI (1 + q11))), (14, .int (nI q9)), (13, .int (nI q7)), (12, .int (nI q5)), (11, .int z4), (10, .int z2), (0, .ref b), (1, .ref (aa 0)), (2, .ref (aa 11)), (3, .ref (aa 12)), (4, .ref (aa 13)), (5, .ref (aa 14)), (6, .ref (aa 15)), (7, .ref (aa 16)), (8, .ref (aa 17)), (9, .int (nI t9))]) hx hb dL_law_188 hl (by decide) rfl (fun ls hl => ?_)
      exact l_disp hl9 MC HS hB hO hR (n9 := q13) (k9 := q15) hq5 hq7 hq9 (by omega) (by omega) (Or.inr hq13) (Or.inr hq15) hcl hsl (lv_sub hl [9, 10, 11, 12, 13, 14, 15, 16, 17, 18, 8, 7, 6, 5, 4, 3, 2, 1, 0] rfl) kk
    · have hz2 : nl = 0 := neq_of (n := 0) rfl (by omega) (by omega) c_160
      refine lv_iconst (v := 0) hx hb dL_law_163 (by decide) ?_
      refine lv_goto (tgt := 179) hx hb dL_law_164 (by decide) ?_
      refine lv_istore (lv' := [(17, .int 0), (16, .int (nI q13)), (15, .int (nI (1 + q11))), (14, .int (nI q9)), (13, .int (nI q7)), (12, .int (nI q5)), (11, .int z4), (10, .int z2), (0, .ref b), (1, .ref (aa 0)), (2, .ref (aa 11)), (3, .ref (aa 12)), (4, .ref (aa 13)), (5, .ref (aa 14)), (6, .ref (aa 15)), (7, .ref (aa 16)), (8, .ref (aa 17)), (9, .int (nI t9))]) hx hb dL_law_179 hl (by decide) rfl (fun ls hl => ?_)
      refine lv_bipush (v := 7) hx hb dL_law_181 (by decide) ?_
      refine lv_aload hx hb dL_law_183 (lv_at hl 16 rfl) ?_
      refine lv_iconst (v := 2) hx hb dL_law_185 (by decide) ?_
      refine wb_iald MC hB 6 (by decide) 2 (show 2 < 4 by omega) rfl (hg2.trans hI.2.2.1.1) dL_law_186 ?_
      refine lv_imul hx hb dL_law_187 ?_
      rw [show (7 * nI nl) = nI (7 * nl) from (ix_mul rfl rfl)]
      refine lv_istore (lv' := [(18, .int (nI (7 * nl))), (17, .int 0), (16, .int (nI q13)), (15, .int (nI (1 + q11))), (14, .int (nI q9)), (13, .int (nI q7)), (12, .int (nI q5)), (11, .int z4), (10, .int z2), (0, .ref b), (1, .ref (aa 0)), (2, .ref (aa 11)), (3, .ref (aa 12)), (4, .ref (aa 13)), (5, .ref (aa 14)), (6, .ref (aa 15)), (7, .ref (aa 16)), (8, .ref (aa 17)), (9, .int (nI t9))]) hx hb dL_law_188 hl (by decide) rfl (fun ls hl => ?_)
      exact l_disp hl9 MC HS hB hO hR (n9 := q13) (k9 := 0) hq5 hq7 hq9 (by omega) (by omega) (Or.inr hq13) (Or.inl ⟨hz2, rfl⟩) hcl hsl (lv_sub hl [9, 10, 11, 12, 13, 14, 15, 16, 17, 18, 8, 7, 6, 5, 4, 3, 2, 1, 0] rfl) kk
  · have hz3 : nc = 0 := neq_of (n := 0) rfl (by omega) (by omega) c_136
    refine lv_iconst (v := 0) hx hb dL_law_139 (by decide) ?_
    refine lv_goto (tgt := 154) hx hb dL_law_140 (by decide) ?_
    refine lv_istore (lv' := [(16, .int 0), (15, .int (nI (1 + q11))), (14, .int (nI q9)), (13, .int (nI q7)), (12, .int (nI q5)), (11, .int z4), (10, .int z2), (0, .ref b), (1, .ref (aa 0)), (2, .ref (aa 11)), (3, .ref (aa 12)), (4, .ref (aa 13)), (5, .ref (aa 14)), (6, .ref (aa 15)), (7, .ref (aa 16)), (8, .ref (aa 17)), (9, .int (nI t9))]) hx hb dL_law_154 hl (by decide) rfl (fun ls hl => ?_)
    refine lv_aload hx hb dL_law_156 (lv_at hl 15 rfl) ?_
    refine lv_iconst (v := 2) hx hb dL_law_158 (by decide) ?_
    refine wb_iald MC hB 6 (by decide) 2 (show 2 < 4 by omega) rfl (hg2.trans hI.2.2.1.1) dL_law_159 ?_
    refine lv_if_ne (tgt := 167) hx hb dL_law_160 (by decide) (fun c_160 => ?_) (fun c_160 => ?_)
    · have hz2 : ¬ nl = 0 := nneq_of (n := 0) rfl c_160
      refine lv_iload hx hb dL_law_167 (lv_at hl 5 rfl) ?_
      refine lv_bipush (v := 6) hx hb dL_law_169 (by decide) ?_
      refine lv_ishr hx hb dL_law_171 ?_
      refine lv_aload hx hb dL_law_172 (lv_at hl 15 rfl) ?_
      refine lv_iconst (v := 2) hx hb dL_law_174 (by decide) ?_
      refine wb_iald MC hB 6 (by decide) 2 (show 2 < 4 by omega) rfl (hg2.trans hI.2.2.1.1) dL_law_175 ?_
      refine wb_s MC HS (rest := []) (As := [.int (z4 >>> (6 &&& 31)), .int (nI nl)]) (by rw [show (nI nl) = nI (nl) from rfl]; exact y_low D ids n0 (z4 >>> (6 &&& 31)) (by omega) (by omega)) lkL_84 kw505 ⟨rfl, rfl, Nat.le_of_ble_eq_true rfl, Nat.le_of_ble_eq_true rfl, Nat.le_of_ble_eq_true rfl⟩ hR hl.1 rfl (Nat.le_of_ble_eq_true rfl) dL_law_176 (by omega) (by omega) (fun v9 H18 lH18 hp HS => ?_)
      obtain ⟨q17, hq17, rfl, rfl⟩ := hp
      refine lv_istore (lv' := [(17, .int (nI q17)), (16, .int 0), (15, .int (nI (1 + q11))), (14, .int (nI q9)), (13, .int (nI q7)), (12, .int (nI q5)), (11, .int z4), (10, .int z2), (0, .ref b), (1, .ref (aa 0)), (2, .ref (aa 11)), (3, .ref (aa 12)), (4, .ref (aa 13)), (5, .ref (aa 14)), (6, .ref (aa 15)), (7, .ref (aa 16)), (8, .ref (aa 17)), (9, .int (nI t9))]) hx hb dL_law_179 hl (by decide) rfl (fun ls hl => ?_)
      refine lv_bipush (v := 7) hx hb dL_law_181 (by decide) ?_
      refine lv_aload hx hb dL_law_183 (lv_at hl 16 rfl) ?_
      refine lv_iconst (v := 2) hx hb dL_law_185 (by decide) ?_
      refine wb_iald MC hB 6 (by decide) 2 (show 2 < 4 by omega) rfl (hg2.trans hI.2.2.1.1) dL_law_186 ?_
      refine lv_imul hx hb dL_law_187 ?_
      rw [show (7 * nI nl) = nI (7 * nl) from (ix_mul rfl rfl)]
      refine lv_istore (lv' := [(18, .int (nI (7 * nl))), (17, .int (nI q17)), (16, .int 0), (15, .int (nI (1 + q11))), (14, .int (nI q9)), (13, .int (nI q7)), (12, .int (nI q5)), (11, .int z4), (10, .int z2), (0, .ref b), (1, .ref (aa 0)), (2, .ref (aa 11)), (3, .ref (aa 12)), (4, .ref (aa 13)), (5, .ref (aa 14)), (6, .ref (aa 15)), (7, .ref (aa 16)), (8, .ref (aa 17)), (9, .int (nI t9))]) hx hb dL_law_188 hl (by decide) rfl (fun ls hl => ?_)
      exact l_disp hl9 MC HS hB hO hR (n9 := 0) (k9 := q17) hq5 hq7 hq9 (by omega) (by omega) (Or.inl ⟨hz3, rfl⟩) (Or.inr hq17) hcl hsl (lv_sub hl [9, 10, 11, 12, 13, 14, 15, 16, 17, 18, 8, 7, 6, 5, 4, 3, 2, 1, 0] rfl) kk
    · have hz2 : nl = 0 := neq_of (n := 0) rfl (by omega) (by omega) c_160
      refine lv_iconst (v := 0) hx hb dL_law_163 (by decide) ?_
      refine lv_goto (tgt := 179) hx hb dL_law_164 (by decide) ?_
      refine lv_istore (lv' := [(17, .int 0), (16, .int 0), (15, .int (nI (1 + q11))), (14, .int (nI q9)), (13, .int (nI q7)), (12, .int (nI q5)), (11, .int z4), (10, .int z2), (0, .ref b), (1, .ref (aa 0)), (2, .ref (aa 11)), (3, .ref (aa 12)), (4, .ref (aa 13)), (5, .ref (aa 14)), (6, .ref (aa 15)), (7, .ref (aa 16)), (8, .ref (aa 17)), (9, .int (nI t9))]) hx hb dL_law_179 hl (by decide) rfl (fun ls hl => ?_)
      refine lv_bipush (v := 7) hx hb dL_law_181 (by decide) ?_
      refine lv_aload hx hb dL_law_183 (lv_at hl 16 rfl) ?_
      refine lv_iconst (v := 2) hx hb dL_law_185 (by decide) ?_
      refine wb_iald MC hB 6 (by decide) 2 (show 2 < 4 by omega) rfl (hg2.trans hI.2.2.1.1) dL_law_186 ?_
      refine lv_imul hx hb dL_law_187 ?_
      rw [show (7 * nI nl) = nI (7 * nl) from (ix_mul rfl rfl)]
      refine lv_istore (lv' := [(18, .int (nI (7 * nl))), (17, .int 0), (16, .int 0), (15, .int (nI (1 + q11))), (14, .int (nI q9)), (13, .int (nI q7)), (12, .int (nI q5)), (11, .int z4), (10, .int z2), (0, .ref b), (1, .ref (aa 0)), (2, .ref (aa 11)), (3, .ref (aa 12)), (4, .ref (aa 13)), (5, .ref (aa 14)), (6, .ref (aa 15)), (7, .ref (aa 16)), (8, .ref (aa 17)), (9, .int (nI t9))]) hx hb dL_law_188 hl (by decide) rfl (fun ls hl => ?_)
      exact l_disp hl9 MC HS hB hO hR (n9 := 0) (k9 := 0) hq5 hq7 hq9 (by omega) (by omega) (Or.inl ⟨hz3, rfl⟩) (Or.inl ⟨hz2, rfl⟩) hcl hsl (lv_sub hl [9, 10, 11, 12, 13, 14, 15, 16, 17, 18, 8, 7, 6, 5, 4, 3, 2, 1, 0] rfl) kk
set_option maxHeartbeats 4000000 in
set_option maxRecDepth 100000 in
theorem l_loop9 {p : Program} {l : Launch} (hl9 : l.stackTraces = false) {e : Env} {R : Room} {s : State} {m : MethodId} {args : Array Value} {below : List Frame} {meth : Method} {c : Code} {cells slots : Nat} {Q : State → Prop} {D : va_G} {ids : Nat → ClassId} {n0 b : Nat} {aa : Nat → Nat} (MC : ro_C p s m args meth c cL_law 28 "FrostCalendarLaw" D ids n0) (hR : 11 ≤ R.frames ∧ 400 ≤ R.locals) {L : Nat} {xs : Nat → Int32} (hscr : va_X b L xs s s.heap) (hb0 : b < n0) (hL : L ≤ 260) (hcl : cells + 24000 ≤ R.cells) (hsl : slots + 144000 ≤ R.slots)
    (kk : ∀ (c9 s9 : Nat) (H1 : Heap) (locs1 : List Loc) (ls1 : Array Slot), c9 ≤ R.cells → s9 ≤ R.slots → va_S (fun q => n0 ≤ q) s.heap H1 locs1 → W p l e R s m args below meth c H1 locs1 c9 s9 Q (F0 m 2098 ls1 [])) : ∀ i : Nat, i ≤ 60 → ∀ (c9 s9 : Nat) (H : Heap) (locs : List Loc) (ls : Array Slot), c9 ≤ cells + 400 * i → s9 ≤ slots + 2400 * i → wI D ids n0 aa H → va_S (fun q => n0 ≤ q) s.heap H locs → lv_has ls 28 (lL b aa i) → W p l e R s m args below meth c H locs c9 s9 Q (F0 m 57 ls []) := by
  have hx := MC.1.1
  have hb := MC.1.2.1
  refine ro_loop 60 (fun i : Nat => ∀ (c9 s9 : Nat) (H : Heap) (locs : List Loc) (ls : Array Slot), c9 ≤ cells + 400 * i → s9 ≤ slots + 2400 * i → wI D ids n0 aa H → va_S (fun q => n0 ≤ q) s.heap H locs → lv_has ls 28 (lL b aa i) → W p l e R s m args below meth c H locs c9 s9 Q (F0 m 57 ls [])) ?_ ?_
  · intro c9 s9 H locs ls h1 h2 hw HS hl
    refine lv_iload hx hb dL_law_57 (lv_at hl 9 rfl) ?_
    refine lv_bipush (v := 60) hx hb dL_law_59 (by decide) ?_
    refine lv_icmp_ge (tgt := 2098) hx hb dL_law_61 (by decide) (fun c_61 => ?_) (fun c_61 => absurd (nI_le (Nat.le_refl 60) (by omega)) c_61)
    exact kk c9 s9 H locs ls (by omega) (by omega) HS
  · intro i hi ih c9 s9 H locs ls h1 h2 hw HS hl
    obtain ⟨τ, nw, ns, nl, nc, A, hB, hO⟩ := hw
    refine lv_iload hx hb dL_law_57 (lv_at hl 9 rfl) ?_
    refine lv_bipush (v := 60) hx hb dL_law_59 (by decide) ?_
    refine lv_icmp_ge (tgt := 2098) hx hb dL_law_61 (by decide) (fun c_61 => absurd c_61 (nI_ge (b := 60) hi (by omega))) (fun c_61 => ?_)
    refine l_turn hl9 MC HS hB hO hR hscr hb0 hL hi (by omega) (by omega) hl (fun c8 s8 H1 locs1 ls1 k1 k2 hw1 HS1 hl1 => ?_)
    refine lv_iinc (v := nI i + 1) (lv' := [(9, .int (nI i + 1)), (0, .ref b), (1, .ref (aa 0)), (2, .ref (aa 11)), (3, .ref (aa 12)), (4, .ref (aa 13)), (5, .ref (aa 14)), (6, .ref (aa 15)), (7, .ref (aa 16)), (8, .ref (aa 17))]) hx hb dL_law_2092 hl1 (k := 9) rfl rfl (by decide) rfl (fun ls hl => ?_)
    refine lv_goto (tgt := 57) hx hb dL_law_2095 (by decide) ?_
    rw [nI_1] at hl
    exact ih _ _ _ _ ls (by omega) (by omega) hw1 HS1 (lv_sub hl [1, 2, 3, 4, 5, 6, 7, 8, 9, 0] rfl)
