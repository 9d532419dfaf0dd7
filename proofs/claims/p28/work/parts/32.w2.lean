def any1 (p : Nat → Bool) : Nat → Bool
  | 0 => false
  | n + 1 => any1 p n || p n
theorem any1_f {p : Nat → Bool} : ∀ {n : Nat}, any1 p n = false ↔ ∀ k, k < n → p k = false
  | 0 => ⟨fun _ k h => absurd h (Nat.not_lt_zero k), fun _ => rfl⟩
  | n + 1 => by
    rw [any1, Bool.or_eq_false_iff, any1_f (n := n)]
    constructor
    · rintro ⟨h1, h2⟩ k hk
      rcases (by omega : k < n ∨ k = n) with h | h
      · exact h1 k h
      · rw [h]; exact h2
    · intro h
      exact ⟨fun k hk => h k (by omega), h n (by omega)⟩
theorem any1_mk {p : Nat → Bool} {n : Nat} (hn : n ≤ 31) : (!(mk p n == 0)) = any1 p n := by
  cases h : any1 p n with
  | false => rw [(mk_z hn).mpr (any1_f.mp h)]; rfl
  | true =>
    have h2 : ¬ mk p n = 0 := fun h9 => by
      have := any1_f.mpr ((mk_z hn).mp h9)
      rw [h] at this; cases this
    simp [h2]
theorem or1_t {p : Nat → Bool} {k : Nat} (h : p k = true) : bI (any1 p k = true) ||| 1 = bI (any1 p (k + 1) = true) := by
  have e : any1 p (k + 1) = true := by simp [any1, h]
  rw [bI_t e]
  cases h2 : any1 p k
  · rw [bI_f (by decide)]; rfl
  · rw [bI_t rfl]; rfl
theorem or1_f {p : Nat → Bool} {k : Nat} (h : p k = false) : bI (any1 p k = true) ||| 0 = bI (any1 p (k + 1) = true) := by
  have e : any1 p (k + 1) = any1 p k := by simp [any1, h]
  rw [e]
  cases h2 : any1 p k
  · rw [bI_f (by decide)]; rfl
  · rw [bI_t rfl]; rfl
/-- what holds against a change in an hour, freeze by freeze -/
abbrev hbB (τ : Tau) (n h : Nat) : Nat → Bool := fun k => agB τ n k && hoB τ k (nI h)
theorem bad_any {τ : Tau} {n b j nl : Nat} (hnl : nl ≤ 6) (hcs : cx (τ 0 2) = nl) (hb : τ 12 n = nI b) : badB τ n j = any1 (hbB τ n (b + j)) nl := by
  unfold badB agn
  rw [hcs, hr_add hb]
  exact any1_mk (by omega)
theorem bad_t {τ : Tau} {n b j nl : Nat} (hnl : nl ≤ 6) (hcs : cx (τ 0 2) = nl) (hb : τ 12 n = nI b) (h : any1 (hbB τ n (b + j)) nl = true) : nI (ct (badB τ n) j) + 1 = nI (ct (badB τ n) (j + 1)) := ct_t (by rw [bad_any hnl hcs hb]; exact h)
theorem bad_f {τ : Tau} {n b j nl : Nat} (hnl : nl ≤ 6) (hcs : cx (τ 0 2) = nl) (hb : τ 12 n = nI b) (h : ¬ any1 (hbB τ n (b + j)) nl = true) : nI (ct (badB τ n) j) + 0 = nI (ct (badB τ n) (j + 1)) := ct_f (by rw [bad_any hnl hcs hb]; simpa using h)
def orS (f : Nat → Int32) : Nat → Nat → Int32
  | 0, _ => 0
  | c + 1, i => orS f c (i + 1) ||| f i
theorem orS_orr (f : Nat → Int32) : ∀ c i, orS f c i ||| orr f i = orr f (i + c)
  | 0, i => by show (0 : Int32) ||| orr f i = orr f i; exact Int32.zero_or
  | c + 1, i => by
    rw [orS, Int32.or_assoc, Int32.or_comm (f i)]
    show orS f c (i + 1) ||| orr f (i + 1) = _
    rw [orS_orr f c (i + 1)]
    congr 1; omega
theorem orS_end (f : Nat → Int32) (n : Nat) : orS f n 0 = orr f n := by
  have h := orS_orr f n 0
  rw [show orr f 0 = 0 from rfl, Int32.or_zero] at h
  rw [h]; congr 1; omega
theorem re_step {f : Nat → Int32} {p : Nat → Bool} {n d nl : Nat} (hd : d < n) (hf : f (n - (d + 1)) = mk p nl) : orS f d (n - d) ||| mk p nl = orS f (d + 1) (n - (d + 1)) := by
  rw [orS, hf, show n - (d + 1) + 1 = n - d by omega]
theorem fi_step {p : Nat → Bool} {b n d : Nat} {q : Bool} (hd : d < n) (hq : p (n - (d + 1)) = q) : (if q = true then nI (b + (n - (d + 1))) else fbv (nI b) (fst1 p d (n - d))) = fbv (nI b) (fst1 p (d + 1) (n - (d + 1))) := by
  rw [fst1, hq, show n - (d + 1) + 1 = n - d by omega]
  cases q
  · rfl
  · show nI _ = nI b + nI _
    rw [nI_add]
theorem re_t {p : Nat → Bool} {k : Nat} {x : Int32} (h : p k = true) : (x ||| mk p k) ||| (1 <<< (nI k &&& 31)) = x ||| mk p (k + 1) := by rw [Int32.or_assoc, mk_t h]
theorem re_f {p : Nat → Bool} {k : Nat} {x : Int32} (h : p k = false) : x ||| mk p k = x ||| mk p (k + 1) := by rw [mk_same h]
theorem fi_t {p : Nat → Bool} {k : Nat} {x y : Int32} (h : p k = true) : x = if any1 p (k + 1) = true then x else y := by
  rw [if_pos (by simp [any1, h])]
theorem fi_f {p : Nat → Bool} {k : Nat} {x y : Int32} (h : p k = false) : (if any1 p k = true then x else y) = if any1 p (k + 1) = true then x else y := by simp [any1, h]
theorem dn_eq {b n d : Nat} (h : d < n) : nI (b + (n - d)) - 1 = nI (b + (n - (d + 1))) := by
  rw [show b + (n - d) = b + (n - (d + 1)) + 1 by omega]; exact nI_pred _
theorem dn_end {b n : Nat} (hb : b + n ≤ 1000) : nI (b + (n - n)) - 1 < nI b := by
  rw [Nat.sub_self]
  have h := nI_b (n := b) (N := 1000) (by omega) (by omega)
  have e : nI 1000 = 1000 := rfl
  rw [e] at h
  show nI b - 1 < nI b
  lia
theorem dn_ne {b n d : Nat} (h : d < n) (hb : b + n ≤ 1000) : ¬ nI (b + (n - (d + 1))) < nI b := nI_nlt (by omega) (by omega)
theorem Iv.uq {τ : Tau} {a b c d a2 b2 c2 d2 : Nat} (hI : Iv τ a b c d) (h1 : Iv τ a2 b2 c2 d2) : a2 = a ∧ b2 = b ∧ c2 = c ∧ d2 = d := by
  refine ⟨?_, ?_, ?_, ?_⟩
  · exact (nI_eq (by have := h1.1.2; omega) (by have := hI.1.2; omega)).mp (h1.1.1.symm.trans hI.1.1)
  · exact (nI_eq (by have := h1.2.1.2.2; omega) (by have := hI.2.1.2.2; omega)).mp (h1.2.1.1.symm.trans hI.2.1.1)
  · exact (nI_eq (by have := h1.2.2.1.2; omega) (by have := hI.2.2.1.2; omega)).mp (h1.2.2.1.1.symm.trans hI.2.2.1.1)
  · exact (nI_eq (by have := h1.2.2.2.1.2; omega) (by have := hI.2.2.2.1.2; omega)).mp (h1.2.2.2.1.1.symm.trans hI.2.2.2.1.1)
def iN (τ : Tau) (a b c d : Nat) : Prop := (τ 0 0 = nI a ∧ τ 0 1 = nI b ∧ τ 0 2 = nI c ∧ τ 0 3 = nI d) ∧ a ≤ 1000 ∧ b ≤ 1000 ∧ c ≤ 1000 ∧ d ≤ 1000
theorem Iv.iN {τ : Tau} {a b c d : Nat} (hI : Iv τ a b c d) : iN τ a b c d := ⟨⟨hI.1.1, hI.2.1.1, hI.2.2.1.1, hI.2.2.2.1.1⟩, by have := hI.1.2; omega, by have := hI.2.1.2.2; omega, by have := hI.2.2.1.2; omega, by have := hI.2.2.2.1.2; omega⟩
theorem iN.eq {τ : Tau} {a b c d a2 b2 c2 d2 : Nat} (h : iN τ a b c d) (h1 : Iv τ a2 b2 c2 d2) : a2 = a ∧ b2 = b ∧ c2 = c ∧ d2 = d := by
  obtain ⟨⟨e1, e2, e3, e4⟩, b1, b2, b3, b4⟩ := h
  refine ⟨?_, ?_, ?_, ?_⟩
  · exact (nI_eq (by have := h1.1.2; omega) (by omega)).mp (h1.1.1.symm.trans e1)
  · exact (nI_eq (by have := h1.2.1.2.2; omega) (by omega)).mp (h1.2.1.1.symm.trans e2)
  · exact (nI_eq (by have := h1.2.2.1.2; omega) (by omega)).mp (h1.2.2.1.1.symm.trans e3)
  · exact (nI_eq (by have := h1.2.2.2.1.2; omega) (by omega)).mp (h1.2.2.2.1.1.symm.trans e4)
theorem wB.at {D : va_G} {ids : Nat → ClassId} {n0 : Nat} {aa : Nat → Nat} {τ : Tau} {a b c d a2 b2 c2 d2 : Nat} {A : Tau} {H : Heap} (h : wB D ids n0 aa τ a2 b2 c2 d2 A H) (hn : iN τ a b c d) : wB D ids n0 aa τ a b c d A H := by
  obtain ⟨rfl, rfl, rfl, rfl⟩ := hn.eq h.1
  exact h
theorem m1_sub (x : Int32) : x + (-1) = x - 1 := (Int32.sub_eq_add_neg x 1).symm
set_option maxHeartbeats 4000000 in
set_option maxRecDepth 100000 in
theorem y_bad {l : Launch} {D : va_G} {ids : Nat → ClassId} {n0 : Nat} {aa : Nat → Nat} {τ : Tau} {nw ns nl nc : Nat} {A : Tau} {Hh : Heap} (hB : wB D ids n0 aa τ nw ns nl nc A Hh) (hO : wOk τ ns nl nc A) {n : Nat} (hn : n < nc) : ro_M l yL_bad cL_bad 11 (some FieldType.int) { frames := 2, cells := 0, slots := 0, locals := 60 } D ids n0 [.ref (aa 11), .ref (aa 12), .int (nI n), .ref (aa 13), .ref (aa 14), .ref (aa 15), .ref (aa 17)] Hh (fun v H1 => v = some (.int (nI (badN τ n))) ∧ Hh = H1) := by
  refine ro_ofM (by decide +kernel) (Nat.le_of_ble_eq_true rfl) ?_
  intro p e s m below meth c MC hhp hr hnm HS ls hl
  have hx := MC.1.1
  have hb := MC.1.2.1
  have hl : lv_has ls 11 [(0, .ref (aa 11)), (1, .ref (aa 12)), (2, .int (nI n)), (3, .ref (aa 13)), (4, .ref (aa 14)), (5, .ref (aa 15)), (6, .ref (aa 17))] := hl
  have hI := hB.1
  obtain ⟨⟨hns, hnl, hnc⟩, ⟨hg0, hg1, hg2, hg3⟩, hF, hC, hin, hof, hfe, hle⟩ := id hO
  have hC := hC n hn
  obtain ⟨-, ⟨b9, n9, hb9, hn9, h1n, hn1, hbn⟩, -, -, h17⟩ := hI.2.2.2.2.2.2.2.2.2.2.1 n hn
  have hcl : cx (τ 13 n) = n9 := by rw [hn9]; exact cx_nI (by omega)
  have hcs : cx (τ 0 2) = nl := by rw [hI.2.2.1.1]; exact cx_nI (by omega)
  refine lv_iconst (v := 0) hx hb dL_bad_0 (by decide) ?_
  refine lv_istore (lv' := [(7, .int 0), (0, .ref (aa 11)), (1, .ref (aa 12)), (2, .int (nI n)), (3, .ref (aa 13)), (4, .ref (aa 14)), (5, .ref (aa 15)), (6, .ref (aa 17))]) hx hb dL_bad_1 hl (by decide) rfl (fun ls hl => ?_)
  refine lv_aload_n hx hb dL_bad_3 rfl (lv_at hl 2 rfl) ?_
  refine lv_bipush (v := 7) hx hb dL_bad_4 (by decide) ?_
  refine lv_iload_n hx hb dL_bad_6 rfl (lv_at hl 3 rfl) ?_
  refine lv_imul hx hb dL_bad_7 ?_
  refine lv_iconst (v := 1) hx hb dL_bad_8 (by decide) ?_
  refine lv_iadd hx hb dL_bad_9 ?_
  refine wb_iald MC hB 1 (by decide) (7 * n + 1) (show 7 * n + 1 < 42 by omega) (ix_add (ix_mul rfl rfl) rfl) (hC.2.1.trans hb9) dL_bad_10 ?_
  refine lv_istore (lv' := [(8, .int (nI b9)), (7, .int 0), (0, .ref (aa 11)), (1, .ref (aa 12)), (2, .int (nI n)), (3, .ref (aa 13)), (4, .ref (aa 14)), (5, .ref (aa 15)), (6, .ref (aa 17))]) hx hb dL_bad_11 hl (by decide) rfl (fun ls hl => ?_)
  have loop : ∀ j : Nat, j ≤ n9 → ∀ (locs : List Loc) (ls : Array Slot), va_S (fun q => n0 ≤ q) s.heap Hh locs → lv_has ls 11 [(8, .int (nI (b9 + j))), (7, .int (nI (ct (badB τ n) j))), (0, .ref (aa 11)), (1, .ref (aa 12)), (2, .int (nI n)), (3, .ref (aa 13)), (4, .ref (aa 14)), (5, .ref (aa 15)), (6, .ref (aa 17))] → W p l e { frames := 2, cells := 0, slots := 0, locals := 60 } s m ([.ref (aa 11), .ref (aa 12), .int (nI n), .ref (aa 13), .ref (aa 14), .ref (aa 15), .ref (aa 17)] : List Value).toArray below meth c Hh locs 0 0 (MQ below (ro_Q n0 (fun v H1 => v = some (.int (nI (badN τ n))) ∧ Hh = H1)) ([.ref (aa 11), .ref (aa 12), .int (nI n), .ref (aa 13), .ref (aa 14), .ref (aa 15), .ref (aa 17)] : List Value).toArray s 0 0 (fun q => n0 ≤ q)) (F0 m 13 ls []) := by
    refine ro_loop (n9) (fun j : Nat => ∀ (locs : List Loc) (ls : Array Slot), va_S (fun q => n0 ≤ q) s.heap Hh locs → lv_has ls 11 [(8, .int (nI (b9 + j))), (7, .int (nI (ct (badB τ n) j))), (0, .ref (aa 11)), (1, .ref (aa 12)), (2, .int (nI n)), (3, .ref (aa 13)), (4, .ref (aa 14)), (5, .ref (aa 15)), (6, .ref (aa 17))] → W p l e { frames := 2, cells := 0, slots := 0, locals := 60 } s m ([.ref (aa 11), .ref (aa 12), .int (nI n), .ref (aa 13), .ref (aa 14), .ref (aa 15), .ref (aa 17)] : List Value).toArray below meth c Hh locs 0 0 (MQ below (ro_Q n0 (fun v H1 => v = some (.int (nI (badN τ n))) ∧ Hh = H1)) ([.ref (aa 11), .ref (aa 12), .int (nI n), .ref (aa 13), .ref (aa 14), .ref (aa 15), .ref (aa 17)] : List Value).toArray s 0 0 (fun q => n0 ≤ q)) (F0 m 13 ls [])) ?_ ?_
    · intro locs ls HS hl
      refine lv_iload hx hb dL_bad_13 (lv_at hl 0 rfl) ?_
      refine lv_aload_n hx hb dL_bad_15 rfl (lv_at hl 3 rfl) ?_
      refine lv_bipush (v := 7) hx hb dL_bad_16 (by decide) ?_
      refine lv_iload_n hx hb dL_bad_18 rfl (lv_at hl 4 rfl) ?_
      refine lv_imul hx hb dL_bad_19 ?_
      refine lv_iconst (v := 1) hx hb dL_bad_20 (by decide) ?_
      refine lv_iadd hx hb dL_bad_21 ?_
      refine wb_iald MC hB 1 (by decide) (7 * n + 1) (show 7 * n + 1 < 42 by omega) (ix_add (ix_mul rfl rfl) rfl) (hC.2.1.trans hb9) dL_bad_22 ?_
      refine lv_aload_n hx hb dL_bad_23 rfl (lv_at hl 3 rfl) ?_
      refine lv_bipush (v := 7) hx hb dL_bad_24 (by decide) ?_
      refine lv_iload_n hx hb dL_bad_26 rfl (lv_at hl 4 rfl) ?_
      refine lv_imul hx hb dL_bad_27 ?_
      refine lv_iconst (v := 2) hx hb dL_bad_28 (by decide) ?_
      refine lv_iadd hx hb dL_bad_29 ?_
      refine wb_iald MC hB 1 (by decide) (7 * n + 2) (show 7 * n + 2 < 42 by omega) (ix_add (ix_mul rfl rfl) rfl) (hC.2.2.1.trans hn9) dL_bad_30 ?_
      refine lv_iadd hx hb dL_bad_31 ?_
      rw [nI_add b9 n9]
      refine lv_icmp_ge (tgt := 114) hx hb dL_bad_32 (by decide) (fun c_32 => ?_) (fun c_32 => absurd (nI_le (Nat.le_refl (b9 + n9)) (by omega)) c_32)
      refine lv_iload hx hb dL_bad_114 (lv_at hl 1 rfl) ?_
      exact ro_iretM MC HS hr (⟨by rw [badN, hcl], rfl⟩) (Nat.le_of_ble_eq_true rfl) (Nat.le_of_ble_eq_true rfl) dL_bad_116
    · intro j hkj ih locs ls HS hl
      refine lv_iload hx hb dL_bad_13 (lv_at hl 0 rfl) ?_
      refine lv_aload_n hx hb dL_bad_15 rfl (lv_at hl 3 rfl) ?_
      refine lv_bipush (v := 7) hx hb dL_bad_16 (by decide) ?_
      refine lv_iload_n hx hb dL_bad_18 rfl (lv_at hl 4 rfl) ?_
      refine lv_imul hx hb dL_bad_19 ?_
      refine lv_iconst (v := 1) hx hb dL_bad_20 (by decide) ?_
      refine lv_iadd hx hb dL_bad_21 ?_
      refine wb_iald MC hB 1 (by decide) (7 * n + 1) (show 7 * n + 1 < 42 by omega) (ix_add (ix_mul rfl rfl) rfl) (hC.2.1.trans hb9) dL_bad_22 ?_
      refine lv_aload_n hx hb dL_bad_23 rfl (lv_at hl 3 rfl) ?_
      refine lv_bipush (v := 7) hx hb dL_bad_24 (by decide) ?_
      refine lv_iload_n hx hb dL_bad_26 rfl (lv_at hl 4 rfl) ?_
      refine lv_imul hx hb dL_bad_27 ?_
      refine lv_iconst (v := 2) hx hb dL_bad_28 (by decide) ?_
      refine lv_iadd hx hb dL_bad_29 ?_
      refine wb_iald MC hB 1 (by decide) (7 * n + 2) (show 7 * n + 2 < 42 by omega) (ix_add (ix_mul rfl rfl) rfl) (hC.2.2.1.trans hn9) dL_bad_30 ?_
      refine lv_iadd hx hb dL_bad_31 ?_
      rw [nI_add b9 n9]
      refine lv_icmp_ge (tgt := 114) hx hb dL_bad_32 (by decide) (fun c_32 => absurd c_32 (nI_ge (show b9 + j < b9 + n9 by omega) (by omega))) (fun c_32 => ?_)
      refine lv_iconst (v := 0) hx hb dL_bad_35 (by decide) ?_
      refine lv_istore (lv' := [(9, .int 0), (8, .int (nI (b9 + j))), (7, .int (nI (ct (badB τ n) j))), (0, .ref (aa 11)), (1, .ref (aa 12)), (2, .int (nI n)), (3, .ref (aa 13)), (4, .ref (aa 14)), (5, .ref (aa 15)), (6, .ref (aa 17))]) hx hb dL_bad_36 hl (by decide) rfl (fun ls hl => ?_)
      refine lv_iconst (v := 0) hx hb dL_bad_38 (by decide) ?_
      refine lv_istore (lv' := [(10, .int 0), (9, .int 0), (8, .int (nI (b9 + j))), (7, .int (nI (ct (badB τ n) j))), (0, .ref (aa 11)), (1, .ref (aa 12)), (2, .int (nI n)), (3, .ref (aa 13)), (4, .ref (aa 14)), (5, .ref (aa 15)), (6, .ref (aa 17))]) hx hb dL_bad_39 hl (by decide) rfl (fun ls hl => ?_)
      have lop2 : ∀ k : Nat, k ≤ nl → ∀ (locs : List Loc) (ls : Array Slot), va_S (fun q => n0 ≤ q) s.heap Hh locs → lv_has ls 11 [(10, .int (nI k)), (9, .int (bI (any1 (hbB τ n (b9 + j)) k = true))), (8, .int (nI (b9 + j))), (7, .int (nI (ct (badB τ n) j))), (0, .ref (aa 11)), (1, .ref (aa 12)), (2, .int (nI n)), (3, .ref (aa 13)), (4, .ref (aa 14)), (5, .ref (aa 15)), (6, .ref (aa 17))] → W p l e { frames := 2, cells := 0, slots := 0, locals := 60 } s m ([.ref (aa 11), .ref (aa 12), .int (nI n), .ref (aa 13), .ref (aa 14), .ref (aa 15), .ref (aa 17)] : List Value).toArray below meth c Hh locs 0 0 (MQ below (ro_Q n0 (fun v H1 => v = some (.int (nI (badN τ n))) ∧ Hh = H1)) ([.ref (aa 11), .ref (aa 12), .int (nI n), .ref (aa 13), .ref (aa 14), .ref (aa 15), .ref (aa 17)] : List Value).toArray s 0 0 (fun q => n0 ≤ q)) (F0 m 41 ls []) := by
        refine ro_loop (nl) (fun k : Nat => ∀ (locs : List Loc) (ls : Array Slot), va_S (fun q => n0 ≤ q) s.heap Hh locs → lv_has ls 11 [(10, .int (nI k)), (9, .int (bI (any1 (hbB τ n (b9 + j)) k = true))), (8, .int (nI (b9 + j))), (7, .int (nI (ct (badB τ n) j))), (0, .ref (aa 11)), (1, .ref (aa 12)), (2, .int (nI n)), (3, .ref (aa 13)), (4, .ref (aa 14)), (5, .ref (aa 15)), (6, .ref (aa 17))] → W p l e { frames := 2, cells := 0, slots := 0, locals := 60 } s m ([.ref (aa 11), .ref (aa 12), .int (nI n), .ref (aa 13), .ref (aa 14), .ref (aa 15), .ref (aa 17)] : List Value).toArray below meth c Hh locs 0 0 (MQ below (ro_Q n0 (fun v H1 => v = some (.int (nI (badN τ n))) ∧ Hh = H1)) ([.ref (aa 11), .ref (aa 12), .int (nI n), .ref (aa 13), .ref (aa 14), .ref (aa 15), .ref (aa 17)] : List Value).toArray s 0 0 (fun q => n0 ≤ q)) (F0 m 41 ls [])) ?_ ?_
        · intro locs ls HS hl
          refine lv_iload hx hb dL_bad_41 (lv_at hl 0 rfl) ?_
          refine lv_aload hx hb dL_bad_43 (lv_at hl 10 rfl) ?_
          refine lv_iconst (v := 2) hx hb dL_bad_45 (by decide) ?_
          refine wb_iald MC hB 6 (by decide) 2 (show 2 < 4 by omega) rfl (hg2.trans hI.2.2.1.1) dL_bad_46 ?_
          refine lv_icmp_ge (tgt := 93) hx hb dL_bad_47 (by decide) (fun c_47 => ?_) (fun c_47 => absurd (nI_le (Nat.le_refl nl) (by omega)) c_47)
          refine lv_iload hx hb dL_bad_93 (lv_at hl 3 rfl) ?_
          refine lv_iload hx hb dL_bad_95 (lv_at hl 1 rfl) ?_
          refine lv_if_eq (tgt := 104) hx hb dL_bad_97 (by decide) (fun c_97 => ?_) (fun c_97 => ?_)
          · have f_97 := bI_0.mp c_97
            refine lv_iconst (v := 0) hx hb dL_bad_104 (by decide) ?_
            refine lv_iadd hx hb dL_bad_105 ?_
            refine lv_istore (lv' := [(7, .int ((nI (ct (badB τ n) j) + 0))), (10, .int (nI nl)), (9, .int (bI (any1 (hbB τ n (b9 + j)) nl = true))), (8, .int (nI (b9 + j))), (0, .ref (aa 11)), (1, .ref (aa 12)), (2, .int (nI n)), (3, .ref (aa 13)), (4, .ref (aa 14)), (5, .ref (aa 15)), (6, .ref (aa 17))]) hx hb dL_bad_106 hl (by decide) rfl (fun ls hl => ?_)
            refine lv_iinc (v := nI (b9 + j) + 1) (lv' := [(8, .int (nI (b9 + j) + 1)), (7, .int ((nI (ct (badB τ n) j) + 0))), (10, .int (nI nl)), (9, .int (bI (any1 (hbB τ n (b9 + j)) nl = true))), (0, .ref (aa 11)), (1, .ref (aa 12)), (2, .int (nI n)), (3, .ref (aa 13)), (4, .ref (aa 14)), (5, .ref (aa 15)), (6, .ref (aa 17))]) hx hb dL_bad_108 hl (k := 3) rfl rfl (by decide) rfl (fun ls hl => ?_)
            refine lv_goto (tgt := 13) hx hb dL_bad_111 (by decide) ?_
            rw [bad_f hnl hcs hb9 f_97, nI_1, show b9 + j + 1 = b9 + (j + 1) from rfl] at hl
            exact ih _ ls HS (lv_sub hl [0, 1, 4, 5, 6, 7, 8, 9, 10] rfl)
          · have f_97 := bI_n0.mp c_97
            refine lv_iconst (v := 1) hx hb dL_bad_100 (by decide) ?_
            refine lv_goto (tgt := 105) hx hb dL_bad_101 (by decide) ?_
            refine lv_iadd hx hb dL_bad_105 ?_
            refine lv_istore (lv' := [(7, .int ((nI (ct (badB τ n) j) + 1))), (10, .int (nI nl)), (9, .int (bI (any1 (hbB τ n (b9 + j)) nl = true))), (8, .int (nI (b9 + j))), (0, .ref (aa 11)), (1, .ref (aa 12)), (2, .int (nI n)), (3, .ref (aa 13)), (4, .ref (aa 14)), (5, .ref (aa 15)), (6, .ref (aa 17))]) hx hb dL_bad_106 hl (by decide) rfl (fun ls hl => ?_)
            refine lv_iinc (v := nI (b9 + j) + 1) (lv' := [(8, .int (nI (b9 + j) + 1)), (7, .int ((nI (ct (badB τ n) j) + 1))), (10, .int (nI nl)), (9, .int (bI (any1 (hbB τ n (b9 + j)) nl = true))), (0, .ref (aa 11)), (1, .ref (aa 12)), (2, .int (nI n)), (3, .ref (aa 13)), (4, .ref (aa 14)), (5, .ref (aa 15)), (6, .ref (aa 17))]) hx hb dL_bad_108 hl (k := 3) rfl rfl (by decide) rfl (fun ls hl => ?_)
            refine lv_goto (tgt := 13) hx hb dL_bad_111 (by decide) ?_
            rw [bad_t hnl hcs hb9 f_97, nI_1, show b9 + j + 1 = b9 + (j + 1) from rfl] at hl
            exact ih _ ls HS (lv_sub hl [0, 1, 4, 5, 6, 7, 8, 9, 10] rfl)
        · intro k hkk ih locs ls HS hl
          refine lv_iload hx hb dL_bad_41 (lv_at hl 0 rfl) ?_
          refine lv_aload hx hb dL_bad_43 (lv_at hl 10 rfl) ?_
          refine lv_iconst (v := 2) hx hb dL_bad_45 (by decide) ?_
          refine wb_iald MC hB 6 (by decide) 2 (show 2 < 4 by omega) rfl (hg2.trans hI.2.2.1.1) dL_bad_46 ?_
          refine lv_icmp_ge (tgt := 93) hx hb dL_bad_47 (by decide) (fun c_47 => absurd c_47 (nI_ge hkk (by omega))) (fun c_47 => ?_)
          refine lv_iload hx hb dL_bad_50 (lv_at hl 1 rfl) ?_
          refine lv_aload_n hx hb dL_bad_52 rfl (lv_at hl 4 rfl) ?_
          refine lv_iload hx hb dL_bad_53 (lv_at hl 0 rfl) ?_
          refine lv_aload_n hx hb dL_bad_55 rfl (lv_at hl 5 rfl) ?_
          refine lv_iload_n hx hb dL_bad_56 rfl (lv_at hl 6 rfl) ?_
          refine lv_aload_n hx hb dL_bad_57 rfl (lv_at hl 7 rfl) ?_
          refine ro_callS MC HS (rest := [.int (bI (any1 (hbB τ n (b9 + j)) k = true))]) (As := [.ref (aa 11), .int (nI k), .ref (aa 12), .int (nI n), .ref (aa 13)]) (y_against hB hO hkk hn) (lkL_16) (kw515) ⟨Nat.le_of_ble_eq_true rfl, Nat.le_of_ble_eq_true rfl⟩ hl.1 rfl (Nat.le_of_ble_eq_true rfl) dL_bad_58 ⟨Nat.le_of_ble_eq_true rfl, Nat.le_of_ble_eq_true rfl⟩ (fun v9 H1 lH1 hp hz HS => ?_)
          obtain ⟨rfl, rfl⟩ := hp
          refine lv_if_eq (tgt := 83) hx hb dL_bad_61 (by decide) (fun c_61 => ?_) (fun c_61 => ?_)
          · have f_61 := bI_0.mp c_61
            refine lv_iconst (v := 0) hx hb dL_bad_83 (by decide) ?_
            refine lv_ior hx hb dL_bad_84 ?_
            refine lv_istore (lv' := [(9, .int ((bI (any1 (hbB τ n (b9 + j)) k = true) ||| 0))), (10, .int (nI k)), (8, .int (nI (b9 + j))), (7, .int (nI (ct (badB τ n) j))), (0, .ref (aa 11)), (1, .ref (aa 12)), (2, .int (nI n)), (3, .ref (aa 13)), (4, .ref (aa 14)), (5, .ref (aa 15)), (6, .ref (aa 17))]) hx hb dL_bad_85 hl (by decide) rfl (fun ls hl => ?_)
            refine lv_iinc (v := nI k + 1) (lv' := [(10, .int (nI k + 1)), (9, .int ((bI (any1 (hbB τ n (b9 + j)) k = true) ||| 0))), (8, .int (nI (b9 + j))), (7, .int (nI (ct (badB τ n) j))), (0, .ref (aa 11)), (1, .ref (aa 12)), (2, .int (nI n)), (3, .ref (aa 13)), (4, .ref (aa 14)), (5, .ref (aa 15)), (6, .ref (aa 17))]) hx hb dL_bad_87 hl (k := 1) rfl rfl (by decide) rfl (fun ls hl => ?_)
            refine lv_goto (tgt := 41) hx hb dL_bad_90 (by decide) ?_
            have hfk : hbB τ n (b9 + j) k = false := by simp [hbB, f_61]
            rw [or1_f hfk, nI_1] at hl
            exact ih _ ls HS (lv_sub hl [0, 1, 2, 3, 4, 5, 6, 7, 8, 9, 10] rfl)
          · have f_61 := bI_n0.mp c_61
            refine lv_aload_n hx hb dL_bad_64 rfl (lv_at hl 4 rfl) ?_
            refine lv_iload hx hb dL_bad_65 (lv_at hl 0 rfl) ?_
            refine lv_iload hx hb dL_bad_67 (lv_at hl 2 rfl) ?_
            refine lv_aload hx hb dL_bad_69 (lv_at hl 8 rfl) ?_
            refine lv_aload hx hb dL_bad_71 (lv_at hl 9 rfl) ?_
            refine ro_callS MC HS (rest := [.int (bI (any1 (hbB τ n (b9 + j)) k = true))]) (As := [.ref (aa 11), .int (nI k), .int (nI (b9 + j)), .ref (aa 14), .ref (aa 15)]) (y_holds hB hO hkk (h := b9 + j) (by omega)) (lkL_20) (kw509) ⟨Nat.le_of_ble_eq_true rfl, Nat.le_of_ble_eq_true rfl⟩ hl.1 rfl (Nat.le_of_ble_eq_true rfl) dL_bad_73 ⟨Nat.le_of_ble_eq_true rfl, Nat.le_of_ble_eq_true rfl⟩ (fun v9 H2 lH2 hp hz HS => ?_)
            obtain ⟨rfl, rfl⟩ := hp
            refine lv_if_eq (tgt := 83) hx hb dL_bad_76 (by decide) (fun c_76 => ?_) (fun c_76 => ?_)
            · have f_76 := bI_0.mp c_76
              refine lv_iconst (v := 0) hx hb dL_bad_83 (by decide) ?_
              refine lv_ior hx hb dL_bad_84 ?_
              refine lv_istore (lv' := [(9, .int ((bI (any1 (hbB τ n (b9 + j)) k = true) ||| 0))), (10, .int (nI k)), (8, .int (nI (b9 + j))), (7, .int (nI (ct (badB τ n) j))), (0, .ref (aa 11)), (1, .ref (aa 12)), (2, .int (nI n)), (3, .ref (aa 13)), (4, .ref (aa 14)), (5, .ref (aa 15)), (6, .ref (aa 17))]) hx hb dL_bad_85 hl (by decide) rfl (fun ls hl => ?_)
              refine lv_iinc (v := nI k + 1) (lv' := [(10, .int (nI k + 1)), (9, .int ((bI (any1 (hbB τ n (b9 + j)) k = true) ||| 0))), (8, .int (nI (b9 + j))), (7, .int (nI (ct (badB τ n) j))), (0, .ref (aa 11)), (1, .ref (aa 12)), (2, .int (nI n)), (3, .ref (aa 13)), (4, .ref (aa 14)), (5, .ref (aa 15)), (6, .ref (aa 17))]) hx hb dL_bad_87 hl (k := 1) rfl rfl (by decide) rfl (fun ls hl => ?_)
              refine lv_goto (tgt := 41) hx hb dL_bad_90 (by decide) ?_
              have hfk : hbB τ n (b9 + j) k = false := by simp [hbB, f_61, f_76]
              rw [or1_f hfk, nI_1] at hl
              exact ih _ ls HS (lv_sub hl [0, 1, 2, 3, 4, 5, 6, 7, 8, 9, 10] rfl)
            · have f_76 := bI_n0.mp c_76
              refine lv_iconst (v := 1) hx hb dL_bad_79 (by decide) ?_
              refine lv_goto (tgt := 84) hx hb dL_bad_80 (by decide) ?_
              refine lv_ior hx hb dL_bad_84 ?_
              refine lv_istore (lv' := [(9, .int ((bI (any1 (hbB τ n (b9 + j)) k = true) ||| 1))), (10, .int (nI k)), (8, .int (nI (b9 + j))), (7, .int (nI (ct (badB τ n) j))), (0, .ref (aa 11)), (1, .ref (aa 12)), (2, .int (nI n)), (3, .ref (aa 13)), (4, .ref (aa 14)), (5, .ref (aa 15)), (6, .ref (aa 17))]) hx hb dL_bad_85 hl (by decide) rfl (fun ls hl => ?_)
              refine lv_iinc (v := nI k + 1) (lv' := [(10, .int (nI k + 1)), (9, .int ((bI (any1 (hbB τ n (b9 + j)) k = true) ||| 1))), (8, .int (nI (b9 + j))), (7, .int (nI (ct (badB τ n) j))), (0, .ref (aa 11)), (1, .ref (aa 12)), (2, .int (nI n)), (3, .ref (aa 13)), (4, .ref (aa 14)), (5, .ref (aa 15)), (6, .ref (aa 17))]) hx hb dL_bad_87 hl (k := 1) rfl rfl (by decide) rfl (fun ls hl => ?_)
              refine lv_goto (tgt := 41) hx hb dL_bad_90 (by decide) ?_
              have hfk : hbB τ n (b9 + j) k = true := by simp [hbB, f_61, f_76]
              rw [or1_t hfk, nI_1] at hl
              exact ih _ ls HS (lv_sub hl [0, 1, 2, 3, 4, 5, 6, 7, 8, 9, 10] rfl)
      exact lop2 0 (Nat.zero_le _) _ ls HS (lv_sub hl [0, 1, 2, 3, 4, 5, 6, 7, 8, 9, 10] (by rfl))
  exact loop 0 (Nat.zero_le _) _ ls HS (lv_sub hl [0, 1, 2, 3, 4, 5, 6, 7, 8] (by rfl))
theorem rt_st_0 {τ : Tau} {nw ns nl nc n b9 n9 : Nat} (hI : Iv τ nw ns nl nc) (hn : n < nc) {ca : Nat → Int32} (_ : wC τ ca n) (hb9 : τ 12 n = nI b9) (hn9 : τ 13 n = nI n9) (c_131 : ¬ 0 ≤ τ 17 n) : rt_state τ (nI n) = 0 := by
  have h9 := hI.2.2.2.1.2
  obtain ⟨-, -, -, -, h17⟩ := hI.2.2.2.2.2.2.2.2.2.2.1 n hn
  unfold rt_state
  rw [cx_nI (by omega)]
  rcases h17 with h | ⟨q, hq, h⟩
  · rw [if_pos h]
  · have := hI.2.2.1.2
    exact absurd (by rw [h]; exact nI_pos' (by omega)) c_131
theorem rt_st_1 {τ : Tau} {nw ns nl nc n b9 n9 : Nat} (hI : Iv τ nw ns nl nc) (hn : n < nc) {ca : Nat → Int32} (_ : wC τ ca n) (hb9 : τ 12 n = nI b9) (hn9 : τ 13 n = nI n9) (c_131 : 0 ≤ τ 17 n) (c_155 : ¬ nI (b9 + n9) ≤ τ 0 0) : rt_state τ (nI n) = 1 := by
  have h9 := hI.2.2.2.1.2
  unfold rt_state
  rw [cx_nI (by omega), if_neg (fun h => absurd c_131 (by rw [h]; decide)), hb9, hn9, nI_add, if_neg c_155]
theorem rt_st_2 {τ : Tau} {nw ns nl nc n b9 n9 : Nat} (hI : Iv τ nw ns nl nc) (hn : n < nc) {ca : Nat → Int32} (_ : wC τ ca n) (hb9 : τ 12 n = nI b9) (hn9 : τ 13 n = nI n9) (c_131 : 0 ≤ τ 17 n) (c_155 : nI (b9 + n9) ≤ τ 0 0) : rt_state τ (nI n) = 2 := by
  have h9 := hI.2.2.2.1.2
  unfold rt_state
  rw [cx_nI (by omega), if_neg (fun h => absurd c_131 (by rw [h]; decide)), hb9, hn9, nI_add, if_pos c_155]
set_option maxHeartbeats 4000000 in
set_option maxRecDepth 100000 in
theorem y_change {l : Launch} (hl9 : l.stackTraces = false) {D : va_G} {ids : Nat → ClassId} {n0 : Nat} {aa : Nat → Nat} {τ : Tau} {nw ns nl nc : Nat} {A : Tau} {Hh : Heap} (hB : wB D ids n0 aa τ nw ns nl nc A Hh) (hO : wOk τ ns nl nc A) {n : Nat} (hn : n < nc) : ro_M l yL_change cL_change 13 (some FieldType.boolean) { frames := 9, cells := 48, slots := 288, locals := 270 } D ids n0 [.ref (aa 0), .int (nI n), .ref (aa 11), .ref (aa 12), .ref (aa 13), .ref (aa 14), .ref (aa 15), .ref (aa 17)] Hh (fun v H1 => v = some (.int 1) ∧ wB D ids n0 aa τ nw ns nl nc A H1) := by
  refine ro_ofM (by decide +kernel) (Nat.le_of_ble_eq_true rfl) ?_
  intro p e s m below meth c MC hhp hr hnm HS ls hl
  have hx := MC.1.1
  have hb := MC.1.2.1
  have hl : lv_has ls 13 [(0, .ref (aa 0)), (1, .int (nI n)), (2, .ref (aa 11)), (3, .ref (aa 12)), (4, .ref (aa 13)), (5, .ref (aa 14)), (6, .ref (aa 15)), (7, .ref (aa 17))] := hl
  have hI := hB.1
  obtain ⟨⟨hns, hnl, hnc⟩, ⟨hg0, hg1, hg2, hg3⟩, hF, hC, hin, hof, hfe, hle⟩ := id hO
  have hC := hC n hn
  obtain ⟨-, ⟨b9, n9, hb9, hn9, h1n, hn1, hbn⟩, -, -, h17⟩ := hI.2.2.2.2.2.2.2.2.2.2.1 n hn
  have hcl : cx (τ 13 n) = n9 := by rw [hn9]; exact cx_nI (by omega)
  have hcs : cx (τ 0 2) = nl := by rw [hI.2.2.1.1]; exact cx_nI (by omega)
  have hcn : cx (nI n) = n := cx_nI (by omega)
  have hokC : okC τ (nI n) := ix_ok hI.2.2.2.1.1 (by omega) hn
  have hthB : th_badHours τ (nI n) = 0 := if_pos hokC
  have hthS : th_state τ (nI n) = 0 := if_pos hokC
  have hthA : th_approved τ (nI n) = 0 := if_pos hokC
  refine lv_bipush (v := 7) hx hb dL_change_0 (by decide) ?_
  refine lv_iload_n hx hb dL_change_2 rfl (lv_at hl 1 rfl) ?_
  refine lv_imul hx hb dL_change_3 ?_
  refine lv_istore (lv' := [(8, .int ((7 * nI n))), (0, .ref (aa 0)), (1, .int (nI n)), (2, .ref (aa 11)), (3, .ref (aa 12)), (4, .ref (aa 13)), (5, .ref (aa 14)), (6, .ref (aa 15)), (7, .ref (aa 17))]) hx hb dL_change_4 hl (by decide) rfl (fun ls hl => ?_)
  refine lv_iconst (v := 0) hx hb dL_change_6 (by decide) ?_
  refine lv_istore (lv' := [(9, .int 0), (8, .int ((7 * nI n))), (0, .ref (aa 0)), (1, .int (nI n)), (2, .ref (aa 11)), (3, .ref (aa 12)), (4, .ref (aa 13)), (5, .ref (aa 14)), (6, .ref (aa 15)), (7, .ref (aa 17))]) hx hb dL_change_7 hl (by decide) rfl (fun ls hl => ?_)
  refine lv_iconst (v := (-1)) hx hb dL_change_9 (by decide) ?_
  refine lv_istore (lv' := [(10, .int ((-1))), (9, .int 0), (8, .int ((7 * nI n))), (0, .ref (aa 0)), (1, .int (nI n)), (2, .ref (aa 11)), (3, .ref (aa 12)), (4, .ref (aa 13)), (5, .ref (aa 14)), (6, .ref (aa 15)), (7, .ref (aa 17))]) hx hb dL_change_10 hl (by decide) rfl (fun ls hl => ?_)
  refine lv_aload_n hx hb dL_change_12 rfl (lv_at hl 6 rfl) ?_
  refine lv_iload hx hb dL_change_13 (lv_at hl 2 rfl) ?_
  refine lv_iconst (v := 1) hx hb dL_change_15 (by decide) ?_
  refine lv_iadd hx hb dL_change_16 ?_
  refine wb_iald MC hB 1 (by decide) (7 * n + 1) (show 7 * n + 1 < 42 by omega) (ix_add (ix_mul rfl rfl) rfl) (hC.2.1.trans hb9) dL_change_17 ?_
  refine lv_aload_n hx hb dL_change_18 rfl (lv_at hl 6 rfl) ?_
  refine lv_iload hx hb dL_change_19 (lv_at hl 2 rfl) ?_
  refine lv_iconst (v := 2) hx hb dL_change_21 (by decide) ?_
  refine lv_iadd hx hb dL_change_22 ?_
  refine wb_iald MC hB 1 (by decide) (7 * n + 2) (show 7 * n + 2 < 42 by omega) (ix_add (ix_mul rfl rfl) rfl) (hC.2.2.1.trans hn9) dL_change_23 ?_
  refine lv_iadd hx hb dL_change_24 ?_
  rw [nI_add b9 n9]
  refine lv_iconst (v := 1) hx hb dL_change_25 (by decide) ?_
  refine lv_isub hx hb dL_change_26 ?_
  refine lv_istore (lv' := [(11, .int ((nI (b9 + n9) - 1))), (10, .int ((-1))), (9, .int 0), (8, .int ((7 * nI n))), (0, .ref (aa 0)), (1, .int (nI n)), (2, .ref (aa 11)), (3, .ref (aa 12)), (4, .ref (aa 13)), (5, .ref (aa 14)), (6, .ref (aa 15)), (7, .ref (aa 17))]) hx hb dL_change_27 hl (by decide) rfl (fun ls hl => ?_)
  have loop : ∀ d : Nat, d ≤ n9 → ∀ (locs : List Loc) (ls : Array Slot), va_S (fun q => n0 ≤ q) s.heap Hh locs → lv_has ls 13 [(11, .int (nI (b9 + (n9 - d)) - 1)), (10, .int (fbv (nI b9) (fst1 (badB τ n) d (n9 - d)))), (9, .int (orS (fun j => agn τ n (nI (b9 + j))) d (n9 - d))), (8, .int ((7 * nI n))), (0, .ref (aa 0)), (1, .int (nI n)), (2, .ref (aa 11)), (3, .ref (aa 12)), (4, .ref (aa 13)), (5, .ref (aa 14)), (6, .ref (aa 15)), (7, .ref (aa 17))] → W p l e { frames := 9, cells := 48, slots := 288, locals := 270 } s m ([.ref (aa 0), .int (nI n), .ref (aa 11), .ref (aa 12), .ref (aa 13), .ref (aa 14), .ref (aa 15), .ref (aa 17)] : List Value).toArray below meth c Hh locs 0 0 (MQ below (ro_Q n0 (fun v H1 => v = some (.int 1) ∧ wB D ids n0 aa τ nw ns nl nc A H1)) ([.ref (aa 0), .int (nI n), .ref (aa 11), .ref (aa 12), .ref (aa 13), .ref (aa 14), .ref (aa 15), .ref (aa 17)] : List Value).toArray s 48 288 (fun q => n0 ≤ q)) (F0 m 29 ls []) := by
    refine ro_loop (n9) (fun d : Nat => ∀ (locs : List Loc) (ls : Array Slot), va_S (fun q => n0 ≤ q) s.heap Hh locs → lv_has ls 13 [(11, .int (nI (b9 + (n9 - d)) - 1)), (10, .int (fbv (nI b9) (fst1 (badB τ n) d (n9 - d)))), (9, .int (orS (fun j => agn τ n (nI (b9 + j))) d (n9 - d))), (8, .int ((7 * nI n))), (0, .ref (aa 0)), (1, .int (nI n)), (2, .ref (aa 11)), (3, .ref (aa 12)), (4, .ref (aa 13)), (5, .ref (aa 14)), (6, .ref (aa 15)), (7, .ref (aa 17))] → W p l e { frames := 9, cells := 48, slots := 288, locals := 270 } s m ([.ref (aa 0), .int (nI n), .ref (aa 11), .ref (aa 12), .ref (aa 13), .ref (aa 14), .ref (aa 15), .ref (aa 17)] : List Value).toArray below meth c Hh locs 0 0 (MQ below (ro_Q n0 (fun v H1 => v = some (.int 1) ∧ wB D ids n0 aa τ nw ns nl nc A H1)) ([.ref (aa 0), .int (nI n), .ref (aa 11), .ref (aa 12), .ref (aa 13), .ref (aa 14), .ref (aa 15), .ref (aa 17)] : List Value).toArray s 48 288 (fun q => n0 ≤ q)) (F0 m 29 ls [])) ?_ ?_
    · intro locs ls HS hl
      refine lv_iload hx hb dL_change_29 (lv_at hl 0 rfl) ?_
      refine lv_aload_n hx hb dL_change_31 rfl (lv_at hl 7 rfl) ?_
      refine lv_iload hx hb dL_change_32 (lv_at hl 3 rfl) ?_
      refine lv_iconst (v := 1) hx hb dL_change_34 (by decide) ?_
      refine lv_iadd hx hb dL_change_35 ?_
      refine wb_iald MC hB 1 (by decide) (7 * n + 1) (show 7 * n + 1 < 42 by omega) (ix_add (ix_mul rfl rfl) rfl) (hC.2.1.trans hb9) dL_change_36 ?_
      refine lv_icmp_lt (tgt := 108) hx hb dL_change_37 (by decide) (fun c_37 => ?_) (fun c_37 => absurd (dn_end (by omega)) c_37)
      refine lv_aload_n hx hb dL_change_108 rfl (lv_at hl 6 rfl) ?_
      refine lv_aload_n hx hb dL_change_109 rfl (lv_at hl 7 rfl) ?_
      refine lv_iload_n hx hb dL_change_110 rfl (lv_at hl 5 rfl) ?_
      refine lv_aload hx hb dL_change_111 (lv_at hl 8 rfl) ?_
      refine lv_aload hx hb dL_change_113 (lv_at hl 9 rfl) ?_
      refine lv_aload hx hb dL_change_115 (lv_at hl 10 rfl) ?_
      refine lv_aload hx hb dL_change_117 (lv_at hl 11 rfl) ?_
      refine ro_callS MC HS (rest := []) (As := [.ref (aa 11), .ref (aa 12), .int (nI n), .ref (aa 13), .ref (aa 14), .ref (aa 15), .ref (aa 17)]) (y_bad hB hO hn) (lkL_57) (kw518) ⟨Nat.le_of_ble_eq_true rfl, Nat.le_of_ble_eq_true rfl⟩ hl.1 rfl (Nat.le_of_ble_eq_true rfl) dL_change_119 ⟨Nat.le_of_ble_eq_true rfl, Nat.le_of_ble_eq_true rfl⟩ (fun v9 H1 lH1 hp hz HS => ?_)
      obtain ⟨rfl, rfl⟩ := hp
      refine lv_istore (lv' := [(11, .int (nI (badN τ n))), (10, .int (fbv (nI b9) (fst1 (badB τ n) n9 (n9 - n9)))), (9, .int (orS (fun j => agn τ n (nI (b9 + j))) n9 (n9 - n9))), (8, .int ((7 * nI n))), (0, .ref (aa 0)), (1, .int (nI n)), (2, .ref (aa 11)), (3, .ref (aa 12)), (4, .ref (aa 13)), (5, .ref (aa 14)), (6, .ref (aa 15)), (7, .ref (aa 17))]) hx hb dL_change_122 hl (by decide) rfl (fun ls hl => ?_)
      refine lv_aload_n hx hb dL_change_124 rfl (lv_at hl 7 rfl) ?_
      refine lv_iload hx hb dL_change_125 (lv_at hl 3 rfl) ?_
      refine lv_bipush (v := 6) hx hb dL_change_127 (by decide) ?_
      refine lv_iadd hx hb dL_change_129 ?_
      refine wb_iald MC hB 1 (by decide) (7 * n + 6) (show 7 * n + 6 < 42 by omega) (ix_add (ix_mul rfl rfl) rfl) hC.2.2.2.2.2.2 dL_change_130 ?_
      refine lv_if_ge (tgt := 138) hx hb dL_change_131 (by decide) (fun c_131 => ?_) (fun c_131 => ?_)
      · refine lv_aload hx hb dL_change_138 (lv_at hl 11 rfl) ?_
        refine lv_iconst (v := 0) hx hb dL_change_140 (by decide) ?_
        refine wb_iald MC hB 6 (by decide) 0 (show 0 < 4 by omega) rfl hg0 dL_change_141 ?_
        refine lv_aload_n hx hb dL_change_142 rfl (lv_at hl 7 rfl) ?_
        refine lv_iload hx hb dL_change_143 (lv_at hl 3 rfl) ?_
        refine lv_iconst (v := 1) hx hb dL_change_145 (by decide) ?_
        refine lv_iadd hx hb dL_change_146 ?_
        refine wb_iald MC hB 1 (by decide) (7 * n + 1) (show 7 * n + 1 < 42 by omega) (ix_add (ix_mul rfl rfl) rfl) (hC.2.1.trans hb9) dL_change_147 ?_
        refine lv_aload_n hx hb dL_change_148 rfl (lv_at hl 7 rfl) ?_
        refine lv_iload hx hb dL_change_149 (lv_at hl 3 rfl) ?_
        refine lv_iconst (v := 2) hx hb dL_change_151 (by decide) ?_
        refine lv_iadd hx hb dL_change_152 ?_
        refine wb_iald MC hB 1 (by decide) (7 * n + 2) (show 7 * n + 2 < 42 by omega) (ix_add (ix_mul rfl rfl) rfl) (hC.2.2.1.trans hn9) dL_change_153 ?_
        refine lv_iadd hx hb dL_change_154 ?_
        rw [nI_add b9 n9]
        refine lv_icmp_ge (tgt := 162) hx hb dL_change_155 (by decide) (fun c_155 => ?_) (fun c_155 => ?_)
        · refine lv_iconst (v := 2) hx hb dL_change_162 (by decide) ?_
          refine lv_istore (lv' := [(12, .int 2), (11, .int (nI (badN τ n))), (10, .int (fbv (nI b9) (fst1 (badB τ n) n9 (n9 - n9)))), (9, .int (orS (fun j => agn τ n (nI (b9 + j))) n9 (n9 - n9))), (8, .int ((7 * nI n))), (0, .ref (aa 0)), (1, .int (nI n)), (2, .ref (aa 11)), (3, .ref (aa 12)), (4, .ref (aa 13)), (5, .ref (aa 14)), (6, .ref (aa 15)), (7, .ref (aa 17))]) hx hb dL_change_163 hl (by decide) rfl (fun ls hl => ?_)
          refine lv_aload_n hx hb dL_change_165 rfl (lv_at hl 5 rfl) ?_
          refine lv_iload_n hx hb dL_change_166 rfl (lv_at hl 6 rfl) ?_
          refine wb_call MC HS hB (rest := []) (As := [.int (nI n)]) (th := th_badHours τ (nI n)) (rt := rt_badHours τ (nI n)) (τ2 := τ) (fun RR ad cn hX => q_badHours hl9 hX hB.1) (fun E9 H9 hp => by obtain ⟨-, hp⟩ := hp; exact absurd (hthB.symm.trans hp.1) (by decide)) rfl lkL_61 kw531 kw532 ⟨(Nat.le_of_ble_eq_true rfl), (Nat.le_of_ble_eq_true rfl)⟩ hl.1 rfl (Nat.le_of_ble_eq_true rfl) dL_change_167 ⟨(Nat.le_of_ble_eq_true rfl), (Nat.le_of_ble_eq_true rfl)⟩ (fun nw9 ns9 nl9 nc9 H2 lH2 hB9 HS => ?_)
          have hB := hB9.at (hB.1.iN)
          clear hB9
          refine lv_iload hx hb dL_change_170 (lv_at hl 1 rfl) ?_
          refine lv_icmp_ne (tgt := 233) hx hb dL_change_172 (by decide) (fun c_172 => absurd (by rw [rt_badHours, hcn]) c_172) (fun c_172 => ?_)
          refine lv_aload_n hx hb dL_change_175 rfl (lv_at hl 5 rfl) ?_
          refine lv_iload_n hx hb dL_change_176 rfl (lv_at hl 6 rfl) ?_
          refine wb_call MC HS hB (rest := []) (As := [.int (nI n)]) (th := th_badHours τ (nI n)) (rt := rt_badHours τ (nI n)) (τ2 := τ) (fun RR ad cn hX => q_badHoursOneByOne hl9 hX hB.1) (fun E9 H9 hp => by obtain ⟨-, hp⟩ := hp; exact absurd (hthB.symm.trans hp.1) (by decide)) rfl lkL_64 kw535 kw536 ⟨(Nat.le_of_ble_eq_true rfl), (Nat.le_of_ble_eq_true rfl)⟩ hl.1 rfl (Nat.le_of_ble_eq_true rfl) dL_change_177 ⟨(Nat.le_of_ble_eq_true rfl), (Nat.le_of_ble_eq_true rfl)⟩ (fun nw9 ns9 nl9 nc9 H3 lH3 hB9 HS => ?_)
          have hB := hB9.at (hB.1.iN)
          clear hB9
          refine lv_iload hx hb dL_change_180 (lv_at hl 1 rfl) ?_
          refine lv_icmp_ne (tgt := 233) hx hb dL_change_182 (by decide) (fun c_182 => absurd (by rw [rt_badHours, hcn]) c_182) (fun c_182 => ?_)
          refine lv_aload_n hx hb dL_change_185 rfl (lv_at hl 5 rfl) ?_
          refine lv_iload_n hx hb dL_change_186 rfl (lv_at hl 6 rfl) ?_
          refine wb_call MC HS hB (rest := []) (As := [.int (nI n)]) (th := th_badHours τ (nI n)) (rt := rt_reasons τ (nI n)) (τ2 := τ) (fun RR ad cn hX => q_reasons hl9 hX hB.1) (fun E9 H9 hp => by obtain ⟨-, hp⟩ := hp; exact absurd (hthB.symm.trans hp.1) (by decide)) rfl lkL_67 kw539 kw540 ⟨(Nat.le_of_ble_eq_true rfl), (Nat.le_of_ble_eq_true rfl)⟩ hl.1 rfl (Nat.le_of_ble_eq_true rfl) dL_change_187 ⟨(Nat.le_of_ble_eq_true rfl), (Nat.le_of_ble_eq_true rfl)⟩ (fun nw9 ns9 nl9 nc9 H4 lH4 hB9 HS => ?_)
          have hB := hB9.at (hB.1.iN)
          clear hB9
          refine lv_iload hx hb dL_change_190 (lv_at hl 3 rfl) ?_
          refine lv_icmp_ne (tgt := 233) hx hb dL_change_192 (by decide) (fun c_192 => absurd (by rw [rt_reasons, hcn, hcl, Nat.sub_self, orS_end, hb9]; simp only [nI_add]) c_192) (fun c_192 => ?_)
          refine lv_aload_n hx hb dL_change_195 rfl (lv_at hl 5 rfl) ?_
          refine lv_iload_n hx hb dL_change_196 rfl (lv_at hl 6 rfl) ?_
          refine wb_call MC HS hB (rest := []) (As := [.int (nI n)]) (th := th_badHours τ (nI n)) (rt := rt_firstBad τ (nI n)) (τ2 := τ) (fun RR ad cn hX => q_firstBad hl9 hX hB.1) (fun E9 H9 hp => by obtain ⟨-, hp⟩ := hp; exact absurd (hthB.symm.trans hp.1) (by decide)) rfl lkL_70 kw543 kw544 ⟨(Nat.le_of_ble_eq_true rfl), (Nat.le_of_ble_eq_true rfl)⟩ hl.1 rfl (Nat.le_of_ble_eq_true rfl) dL_change_197 ⟨(Nat.le_of_ble_eq_true rfl), (Nat.le_of_ble_eq_true rfl)⟩ (fun nw9 ns9 nl9 nc9 H5 lH5 hB9 HS => ?_)
          have hB := hB9.at (hB.1.iN)
          clear hB9
          refine lv_iload hx hb dL_change_200 (lv_at hl 2 rfl) ?_
          refine lv_icmp_ne (tgt := 233) hx hb dL_change_202 (by decide) (fun c_202 => absurd (by rw [rt_firstBad_eq, hcn, hcl, hb9, Nat.sub_self]) c_202) (fun c_202 => ?_)
          refine lv_aload_n hx hb dL_change_205 rfl (lv_at hl 5 rfl) ?_
          refine lv_iload_n hx hb dL_change_206 rfl (lv_at hl 6 rfl) ?_
          refine wb_call MC HS hB (rest := []) (As := [.int (nI n)]) (th := th_state τ (nI n)) (rt := rt_state τ (nI n)) (τ2 := τ) (fun RR ad cn hX => q_state hl9 hX hB.1) (fun E9 H9 hp => by obtain ⟨-, hp⟩ := hp; exact absurd (hthS.symm.trans hp.1) (by decide)) rfl lkL_73 kw547 kw548 ⟨(Nat.le_of_ble_eq_true rfl), (Nat.le_of_ble_eq_true rfl)⟩ hl.1 rfl (Nat.le_of_ble_eq_true rfl) dL_change_207 ⟨(Nat.le_of_ble_eq_true rfl), (Nat.le_of_ble_eq_true rfl)⟩ (fun nw9 ns9 nl9 nc9 H6 lH6 hB9 HS => ?_)
          have hB := hB9.at (hB.1.iN)
          clear hB9
          refine lv_iload hx hb dL_change_210 (lv_at hl 0 rfl) ?_
          refine lv_icmp_ne (tgt := 233) hx hb dL_change_212 (by decide) (fun c_212 => absurd (rt_st_2 hI hn hC hb9 hn9 c_131 c_155) c_212) (fun c_212 => ?_)
          refine lv_aload_n hx hb dL_change_215 rfl (lv_at hl 5 rfl) ?_
          refine lv_iload_n hx hb dL_change_216 rfl (lv_at hl 6 rfl) ?_
          refine wb_call MC HS hB (rest := []) (As := [.int (nI n)]) (th := th_approved τ (nI n)) (rt := rt_approved τ (nI n)) (τ2 := τ) (fun RR ad cn hX => q_approved hl9 hX hB.1) (fun E9 H9 hp => by obtain ⟨-, hp⟩ := hp; exact absurd (hthA.symm.trans hp.1) (by decide)) rfl lkL_76 kw551 kw552 ⟨(Nat.le_of_ble_eq_true rfl), (Nat.le_of_ble_eq_true rfl)⟩ hl.1 rfl (Nat.le_of_ble_eq_true rfl) dL_change_217 ⟨(Nat.le_of_ble_eq_true rfl), (Nat.le_of_ble_eq_true rfl)⟩ (fun nw9 ns9 nl9 nc9 H7 lH7 hB9 HS => ?_)
          have hB := hB9.at (hB.1.iN)
          clear hB9
          refine lv_aload_n hx hb dL_change_220 rfl (lv_at hl 8 rfl) ?_
          refine lv_iload hx hb dL_change_221 (lv_at hl 4 rfl) ?_
          refine lv_iconst (v := 4) hx hb dL_change_223 (by decide) ?_
          refine lv_iadd hx hb dL_change_224 ?_
          refine wb_iald MC hB 1 (by decide) (7 * n + 4) (show 7 * n + 4 < 42 by omega) (ix_add (ix_mul rfl rfl) rfl) hC.2.2.2.2.1 dL_change_225 ?_
          refine lv_icmp_ne (tgt := 233) hx hb dL_change_226 (by decide) (fun c_226 => absurd (by rw [rt_approved, hcn]) c_226) (fun c_226 => ?_)
          refine lv_iconst (v := 1) hx hb dL_change_229 (by decide) ?_
          refine lv_goto (tgt := 234) hx hb dL_change_230 (by decide) ?_
          exact ro_zretM MC HS hr (by first | rfl | exact bI_nar) (⟨rfl, hB⟩) (Nat.le_of_ble_eq_true rfl) (Nat.le_of_ble_eq_true rfl) dL_change_234
        · refine lv_iconst (v := 1) hx hb dL_change_158 (by decide) ?_
          refine lv_goto (tgt := 163) hx hb dL_change_159 (by decide) ?_
          refine lv_istore (lv' := [(12, .int 1), (11, .int (nI (badN τ n))), (10, .int (fbv (nI b9) (fst1 (badB τ n) n9 (n9 - n9)))), (9, .int (orS (fun j => agn τ n (nI (b9 + j))) n9 (n9 - n9))), (8, .int ((7 * nI n))), (0, .ref (aa 0)), (1, .int (nI n)), (2, .ref (aa 11)), (3, .ref (aa 12)), (4, .ref (aa 13)), (5, .ref (aa 14)), (6, .ref (aa 15)), (7, .ref (aa 17))]) hx hb dL_change_163 hl (by decide) rfl (fun ls hl => ?_)
          refine lv_aload_n hx hb dL_change_165 rfl (lv_at hl 5 rfl) ?_
          refine lv_iload_n hx hb dL_change_166 rfl (lv_at hl 6 rfl) ?_
          refine wb_call MC HS hB (rest := []) (As := [.int (nI n)]) (th := th_badHours τ (nI n)) (rt := rt_badHours τ (nI n)) (τ2 := τ) (fun RR ad cn hX => q_badHours hl9 hX hB.1) (fun E9 H9 hp => by obtain ⟨-, hp⟩ := hp; exact absurd (hthB.symm.trans hp.1) (by decide)) rfl lkL_61 kw531 kw532 ⟨(Nat.le_of_ble_eq_true rfl), (Nat.le_of_ble_eq_true rfl)⟩ hl.1 rfl (Nat.le_of_ble_eq_true rfl) dL_change_167 ⟨(Nat.le_of_ble_eq_true rfl), (Nat.le_of_ble_eq_true rfl)⟩ (fun nw9 ns9 nl9 nc9 H8 lH8 hB9 HS => ?_)
          have hB := hB9.at (hB.1.iN)
          clear hB9
          refine lv_iload hx hb dL_change_170 (lv_at hl 1 rfl) ?_
          refine lv_icmp_ne (tgt := 233) hx hb dL_change_172 (by decide) (fun c_172 => absurd (by rw [rt_badHours, hcn]) c_172) (fun c_172 => ?_)
          refine lv_aload_n hx hb dL_change_175 rfl (lv_at hl 5 rfl) ?_
          refine lv_iload_n hx hb dL_change_176 rfl (lv_at hl 6 rfl) ?_
          refine wb_call MC HS hB (rest := []) (As := [.int (nI n)]) (th := th_badHours τ (nI n)) (rt := rt_badHours τ (nI n)) (τ2 := τ) (fun RR ad cn hX => q_badHoursOneByOne hl9 hX hB.1) (fun E9 H9 hp => by obtain ⟨-, hp⟩ := hp; exact absurd (hthB.symm.trans hp.1) (by decide)) rfl lkL_64 kw535 kw536 ⟨(Nat.le_of_ble_eq_true rfl), (Nat.le_of_ble_eq_true rfl)⟩ hl.1 rfl (Nat.le_of_ble_eq_true rfl) dL_change_177 ⟨(Nat.le_of_ble_eq_true rfl), (Nat.le_of_ble_eq_true rfl)⟩ (fun nw9 ns9 nl9 nc9 H9 lH9 hB9 HS => ?_)
          have hB := hB9.at (hB.1.iN)
          clear hB9
          refine lv_iload hx hb dL_change_180 (lv_at hl 1 rfl) ?_
          refine lv_icmp_ne (tgt := 233) hx hb dL_change_182 (by decide) (fun c_182 => absurd (by rw [rt_badHours, hcn]) c_182) (fun c_182 => ?_)
          refine lv_aload_n hx hb dL_change_185 rfl (lv_at hl 5 rfl) ?_
          refine lv_iload_n hx hb dL_change_186 rfl (lv_at hl 6 rfl) ?_
          refine wb_call MC HS hB (rest := []) (As := [.int (nI n)]) (th := th_badHours τ (nI n)) (rt := rt_reasons τ (nI n)) (τ2 := τ) (fun RR ad cn hX => q_reasons hl9 hX hB.1) (fun E9 H9 hp => by obtain ⟨-, hp⟩ := hp; exact absurd (hthB.symm.trans hp.1) (by decide)) rfl lkL_67 kw539 kw540 ⟨(Nat.le_of_ble_eq_true rfl), (Nat.le_of_ble_eq_true rfl)⟩ hl.1 rfl (Nat.le_of_ble_eq_true rfl) dL_change_187 ⟨(Nat.le_of_ble_eq_true rfl), (Nat.le_of_ble_eq_true rfl)⟩ (fun nw9 ns9 nl9 nc9 H10 lH10 hB9 HS => ?_)
          have hB := hB9.at (hB.1.iN)
          clear hB9
          refine lv_iload hx hb dL_change_190 (lv_at hl 3 rfl) ?_
          refine lv_icmp_ne (tgt := 233) hx hb dL_change_192 (by decide) (fun c_192 => absurd (by rw [rt_reasons, hcn, hcl, Nat.sub_self, orS_end, hb9]; simp only [nI_add]) c_192) (fun c_192 => ?_)
          refine lv_aload_n hx hb dL_change_195 rfl (lv_at hl 5 rfl) ?_
          refine lv_iload_n hx hb dL_change_196 rfl (lv_at hl 6 rfl) ?_
          refine wb_call MC HS hB (rest := []) (As := [.int (nI n)]) (th := th_badHours τ (nI n)) (rt := rt_firstBad τ (nI n)) (τ2 := τ) (fun RR ad cn hX => q_firstBad hl9 hX hB.1) (fun E9 H9 hp => by obtain ⟨-, hp⟩ := hp; exact absurd (hthB.symm.trans hp.1) (by decide)) rfl lkL_70 kw543 kw544 ⟨(Nat.le_of_ble_eq_true rfl), (Nat.le_of_ble_eq_true rfl)⟩ hl.1 rfl (Nat.le_of_ble_eq_true rfl) dL_change_197 ⟨(Nat.le_of_ble_eq_true rfl), (Nat.le_of_ble_eq_true rfl)⟩ (fun nw9 ns9 nl9 nc9 H11 lH11 hB9 HS => ?_)
          have hB := hB9.at (hB.1.iN)
          clear hB9
          refine lv_iload hx hb dL_change_200 (lv_at hl 2 rfl) ?_
          refine lv_icmp_ne (tgt := 233) hx hb dL_change_202 (by decide) (fun c_202 => absurd (by rw [rt_firstBad_eq, hcn, hcl, hb9, Nat.sub_self]) c_202) (fun c_202 => ?_)
          refine lv_aload_n hx hb dL_change_205 rfl (lv_at hl 5 rfl) ?_
          refine lv_iload_n hx hb dL_change_206 rfl (lv_at hl 6 rfl) ?_
          refine wb_call MC HS hB (rest := []) (As := [.int (nI n)]) (th := th_state τ (nI n)) (rt := rt_state τ (nI n)) (τ2 := τ) (fun RR ad cn hX => q_state hl9 hX hB.1) (fun E9 H9 hp => by obtain ⟨-, hp⟩ := hp; exact absurd (hthS.symm.trans hp.1) (by decide)) rfl lkL_73 kw547 kw548 ⟨(Nat.le_of_ble_eq_true rfl), (Nat.le_of_ble_eq_true rfl)⟩ hl.1 rfl (Nat.le_of_ble_eq_true rfl) dL_change_207 ⟨(Nat.le_of_ble_eq_true rfl), (Nat.le_of_ble_eq_true rfl)⟩ (fun nw9 ns9 nl9 nc9 H12 lH12 hB9 HS => ?_)
          have hB := hB9.at (hB.1.iN)
          clear hB9
          refine lv_iload hx hb dL_change_210 (lv_at hl 0 rfl) ?_
          refine lv_icmp_ne (tgt := 233) hx hb dL_change_212 (by decide) (fun c_212 => absurd (rt_st_1 hI hn hC hb9 hn9 c_131 c_155) c_212) (fun c_212 => ?_)
          refine lv_aload_n hx hb dL_change_215 rfl (lv_at hl 5 rfl) ?_
          refine lv_iload_n hx hb dL_change_216 rfl (lv_at hl 6 rfl) ?_
          refine wb_call MC HS hB (rest := []) (As := [.int (nI n)]) (th := th_approved τ (nI n)) (rt := rt_approved τ (nI n)) (τ2 := τ) (fun RR ad cn hX => q_approved hl9 hX hB.1) (fun E9 H9 hp => by obtain ⟨-, hp⟩ := hp; exact absurd (hthA.symm.trans hp.1) (by decide)) rfl lkL_76 kw551 kw552 ⟨(Nat.le_of_ble_eq_true rfl), (Nat.le_of_ble_eq_true rfl)⟩ hl.1 rfl (Nat.le_of_ble_eq_true rfl) dL_change_217 ⟨(Nat.le_of_ble_eq_true rfl), (Nat.le_of_ble_eq_true rfl)⟩ (fun nw9 ns9 nl9 nc9 H13 lH13 hB9 HS => ?_)
          have hB := hB9.at (hB.1.iN)
          clear hB9
          refine lv_aload_n hx hb dL_change_220 rfl (lv_at hl 8 rfl) ?_
          refine lv_iload hx hb dL_change_221 (lv_at hl 4 rfl) ?_
          refine lv_iconst (v := 4) hx hb dL_change_223 (by decide) ?_
          refine lv_iadd hx hb dL_change_224 ?_
          refine wb_iald MC hB 1 (by decide) (7 * n + 4) (show 7 * n + 4 < 42 by omega) (ix_add (ix_mul rfl rfl) rfl) hC.2.2.2.2.1 dL_change_225 ?_
          refine lv_icmp_ne (tgt := 233) hx hb dL_change_226 (by decide) (fun c_226 => absurd (by rw [rt_approved, hcn]) c_226) (fun c_226 => ?_)
          refine lv_iconst (v := 1) hx hb dL_change_229 (by decide) ?_
          refine lv_goto (tgt := 234) hx hb dL_change_230 (by decide) ?_
          exact ro_zretM MC HS hr (by first | rfl | exact bI_nar) (⟨rfl, hB⟩) (Nat.le_of_ble_eq_true rfl) (Nat.le_of_ble_eq_true rfl) dL_change_234
      · refine lv_iconst (v := 0) hx hb dL_change_134 (by decide) ?_
        refine lv_goto (tgt := 163) hx hb dL_change_135 (by decide) ?_
        refine lv_istore (lv' := [(12, .int 0), (11, .int (nI (badN τ n))), (10, .int (fbv (nI b9) (fst1 (badB τ n) n9 (n9 - n9)))), (9, .int (orS (fun j => agn τ n (nI (b9 + j))) n9 (n9 - n9))), (8, .int ((7 * nI n))), (0, .ref (aa 0)), (1, .int (nI n)), (2, .ref (aa 11)), (3, .ref (aa 12)), (4, .ref (aa 13)), (5, .ref (aa 14)), (6, .ref (aa 15)), (7, .ref (aa 17))]) hx hb dL_change_163 hl (by decide) rfl (fun ls hl => ?_)
        refine lv_aload_n hx hb dL_change_165 rfl (lv_at hl 5 rfl) ?_
        refine lv_iload_n hx hb dL_change_166 rfl (lv_at hl 6 rfl) ?_
        refine wb_call MC HS hB (rest := []) (As := [.int (nI n)]) (th := th_badHours τ (nI n)) (rt := rt_badHours τ (nI n)) (τ2 := τ) (fun RR ad cn hX => q_badHours hl9 hX hB.1) (fun E9 H9 hp => by obtain ⟨-, hp⟩ := hp; exact absurd (hthB.symm.trans hp.1) (by decide)) rfl lkL_61 kw531 kw532 ⟨(Nat.le_of_ble_eq_true rfl), (Nat.le_of_ble_eq_true rfl)⟩ hl.1 rfl (Nat.le_of_ble_eq_true rfl) dL_change_167 ⟨(Nat.le_of_ble_eq_true rfl), (Nat.le_of_ble_eq_true rfl)⟩ (fun nw9 ns9 nl9 nc9 H14 lH14 hB9 HS => ?_)
        have hB := hB9.at (hB.1.iN)
        clear hB9
        refine lv_iload hx hb dL_change_170 (lv_at hl 1 rfl) ?_
        refine lv_icmp_ne (tgt := 233) hx hb dL_change_172 (by decide) (fun c_172 => absurd (by rw [rt_badHours, hcn]) c_172) (fun c_172 => ?_)
        refine lv_aload_n hx hb dL_change_175 rfl (lv_at hl 5 rfl) ?_
        refine lv_iload_n hx hb dL_change_176 rfl (lv_at hl 6 rfl) ?_
        refine wb_call MC HS hB (rest := []) (As := [.int (nI n)]) (th := th_badHours τ (nI n)) (rt := rt_badHours τ (nI n)) (τ2 := τ) (fun RR ad cn hX => q_badHoursOneByOne hl9 hX hB.1) (fun E9 H9 hp => by obtain ⟨-, hp⟩ := hp; exact absurd (hthB.symm.trans hp.1) (by decide)) rfl lkL_64 kw535 kw536 ⟨(Nat.le_of_ble_eq_true rfl), (Nat.le_of_ble_eq_true rfl)⟩ hl.1 rfl (Nat.le_of_ble_eq_true rfl) dL_change_177 ⟨(Nat.le_of_ble_eq_true rfl), (Nat.le_of_ble_eq_true rfl)⟩ (fun nw9 ns9 nl9 nc9 H15 lH15 hB9 HS => ?_)
        have hB := hB9.at (hB.1.iN)
        clear hB9
        refine lv_iload hx hb dL_change_180 (lv_at hl 1 rfl) ?_
        refine lv_icmp_ne (tgt := 233) hx hb dL_change_182 (by decide) (fun c_182 => absurd (by rw [rt_badHours, hcn]) c_182) (fun c_182 => ?_)
        refine lv_aload_n hx hb dL_change_185 rfl (lv_at hl 5 rfl) ?_
        refine lv_iload_n hx hb dL_change_186 rfl (lv_at hl 6 rfl) ?_
        refine wb_call MC HS hB (rest := []) (As := [.int (nI n)]) (th := th_badHours τ (nI n)) (rt := rt_reasons τ (nI n)) (τ2 := τ) (fun RR ad cn hX => q_reasons hl9 hX hB.1) (fun E9 H9 hp => by obtain ⟨-, hp⟩ := hp; exact absurd (hthB.symm.trans hp.1) (by decide)) rfl lkL_67 kw539 kw540 ⟨(Nat.le_of_ble_eq_true rfl), (Nat.le_of_ble_eq_true rfl)⟩ hl.1 rfl (Nat.le_of_ble_eq_true rfl) dL_change_187 ⟨(Nat.le_of_ble_eq_true rfl), (Nat.le_of_ble_eq_true rfl)⟩ (fun nw9 ns9 nl9 nc9 H16 lH16 hB9 HS => ?_)
        have hB := hB9.at (hB.1.iN)
        clear hB9
        refine lv_iload hx hb dL_change_190 (lv_at hl 3 rfl) ?_
        refine lv_icmp_ne (tgt := 233) hx hb dL_change_192 (by decide) (fun c_192 => absurd (by rw [rt_reasons, hcn, hcl, Nat.sub_self, orS_end, hb9]; simp only [nI_add]) c_192) (fun c_192 => ?_)
        refine lv_aload_n hx hb dL_change_195 rfl (lv_at hl 5 rfl) ?_
        refine lv_iload_n hx hb dL_change_196 rfl (lv_at hl 6 rfl) ?_
        refine wb_call MC HS hB (rest := []) (As := [.int (nI n)]) (th := th_badHours τ (nI n)) (rt := rt_firstBad τ (nI n)) (τ2 := τ) (fun RR ad cn hX => q_firstBad hl9 hX hB.1) (fun E9 H9 hp => by obtain ⟨-, hp⟩ := hp; exact absurd (hthB.symm.trans hp.1) (by decide)) rfl lkL_70 kw543 kw544 ⟨(Nat.le_of_ble_eq_true rfl), (Nat.le_of_ble_eq_true rfl)⟩ hl.1 rfl (Nat.le_of_ble_eq_true rfl) dL_change_197 ⟨(Nat.le_of_ble_eq_true rfl), (Nat.le_of_ble_eq_true rfl)⟩ (fun nw9 ns9 nl9 nc9 H17 lH17 hB9 HS => ?_)
        have hB := hB9.at (hB.1.iN)
        clear hB9
        refine lv_iload hx hb dL_change_200 (lv_at hl 2 rfl) ?_
        refine lv_icmp_ne (tgt := 233) hx hb dL_change_202 (by decide) (fun c_202 => absurd (by rw [rt_firstBad_eq, hcn, hcl, hb9, Nat.sub_self]) c_202) (fun c_202 => ?_)
        refine lv_aload_n hx hb dL_change_205 rfl (lv_at hl 5 rfl) ?_
        refine lv_iload_n hx hb dL_change_206 rfl (lv_at hl 6 rfl) ?_
        refine wb_call MC HS hB (rest := []) (As := [.int (nI n)]) (th := th_state τ (nI n)) (rt := rt_state τ (nI n)) (τ2 := τ) (fun RR ad cn hX => q_state hl9 hX hB.1) (fun E9 H9 hp => by obtain ⟨-, hp⟩ := hp; exact absurd (hthS.symm.trans hp.1) (by decide)) rfl lkL_73 kw547 kw548 ⟨(Nat.le_of_ble_eq_true rfl), (Nat.le_of_ble_eq_true rfl)⟩ hl.1 rfl (Nat.le_of_ble_eq_true rfl) dL_change_207 ⟨(Nat.le_of_ble_eq_true rfl), (Nat.le_of_ble_eq_true rfl)⟩ (fun nw9 ns9 nl9 nc9 H18 lH18 hB9 HS => ?_)
        have hB := hB9.at (hB.1.iN)
        clear hB9
        refine lv_iload hx hb dL_change_210 (lv_at hl 0 rfl) ?_
        refine lv_icmp_ne (tgt := 233) hx hb dL_change_212 (by decide) (fun c_212 => absurd (rt_st_0 hI hn hC hb9 hn9 c_131) c_212) (fun c_212 => ?_)
        refine lv_aload_n hx hb dL_change_215 rfl (lv_at hl 5 rfl) ?_
        refine lv_iload_n hx hb dL_change_216 rfl (lv_at hl 6 rfl) ?_
        refine wb_call MC HS hB (rest := []) (As := [.int (nI n)]) (th := th_approved τ (nI n)) (rt := rt_approved τ (nI n)) (τ2 := τ) (fun RR ad cn hX => q_approved hl9 hX hB.1) (fun E9 H9 hp => by obtain ⟨-, hp⟩ := hp; exact absurd (hthA.symm.trans hp.1) (by decide)) rfl lkL_76 kw551 kw552 ⟨(Nat.le_of_ble_eq_true rfl), (Nat.le_of_ble_eq_true rfl)⟩ hl.1 rfl (Nat.le_of_ble_eq_true rfl) dL_change_217 ⟨(Nat.le_of_ble_eq_true rfl), (Nat.le_of_ble_eq_true rfl)⟩ (fun nw9 ns9 nl9 nc9 H19 lH19 hB9 HS => ?_)
        have hB := hB9.at (hB.1.iN)
        clear hB9
        refine lv_aload_n hx hb dL_change_220 rfl (lv_at hl 8 rfl) ?_
        refine lv_iload hx hb dL_change_221 (lv_at hl 4 rfl) ?_
        refine lv_iconst (v := 4) hx hb dL_change_223 (by decide) ?_
        refine lv_iadd hx hb dL_change_224 ?_
        refine wb_iald MC hB 1 (by decide) (7 * n + 4) (show 7 * n + 4 < 42 by omega) (ix_add (ix_mul rfl rfl) rfl) hC.2.2.2.2.1 dL_change_225 ?_
        refine lv_icmp_ne (tgt := 233) hx hb dL_change_226 (by decide) (fun c_226 => absurd (by rw [rt_approved, hcn]) c_226) (fun c_226 => ?_)
        refine lv_iconst (v := 1) hx hb dL_change_229 (by decide) ?_
        refine lv_goto (tgt := 234) hx hb dL_change_230 (by decide) ?_
        exact ro_zretM MC HS hr (by first | rfl | exact bI_nar) (⟨rfl, hB⟩) (Nat.le_of_ble_eq_true rfl) (Nat.le_of_ble_eq_true rfl) dL_change_234
    · intro d hkd ih locs ls HS hl
      rw [dn_eq hkd] at hl
      refine lv_iload hx hb dL_change_29 (lv_at hl 0 rfl) ?_
      refine lv_aload_n hx hb dL_change_31 rfl (lv_at hl 7 rfl) ?_
      refine lv_iload hx hb dL_change_32 (lv_at hl 3 rfl) ?_
      refine lv_iconst (v := 1) hx hb dL_change_34 (by decide) ?_
      refine lv_iadd hx hb dL_change_35 ?_
      refine wb_iald MC hB 1 (by decide) (7 * n + 1) (show 7 * n + 1 < 42 by omega) (ix_add (ix_mul rfl rfl) rfl) (hC.2.1.trans hb9) dL_change_36 ?_
      refine lv_icmp_lt (tgt := 108) hx hb dL_change_37 (by decide) (fun c_37 => absurd c_37 (dn_ne hkd (by omega))) (fun c_37 => ?_)
      refine lv_iconst (v := 0) hx hb dL_change_40 (by decide) ?_
      refine lv_istore (lv' := [(12, .int 0), (11, .int (nI (b9 + (n9 - (d + 1))))), (10, .int (fbv (nI b9) (fst1 (badB τ n) d (n9 - d)))), (9, .int (orS (fun j => agn τ n (nI (b9 + j))) d (n9 - d))), (8, .int ((7 * nI n))), (0, .ref (aa 0)), (1, .int (nI n)), (2, .ref (aa 11)), (3, .ref (aa 12)), (4, .ref (aa 13)), (5, .ref (aa 14)), (6, .ref (aa 15)), (7, .ref (aa 17))]) hx hb dL_change_41 hl (by decide) rfl (fun ls hl => ?_)
      have lop2 : ∀ k : Nat, k ≤ nl → ∀ (locs : List Loc) (ls : Array Slot), va_S (fun q => n0 ≤ q) s.heap Hh locs → lv_has ls 13 [(12, .int (nI k)), (11, .int (nI (b9 + (n9 - (d + 1))))), (10, .int (if any1 (hbB τ n (b9 + (n9 - (d + 1)))) k = true then nI (b9 + (n9 - (d + 1))) else fbv (nI b9) (fst1 (badB τ n) d (n9 - d)))), (9, .int (orS (fun j => agn τ n (nI (b9 + j))) d (n9 - d) ||| mk (hbB τ n (b9 + (n9 - (d + 1)))) k)), (8, .int ((7 * nI n))), (0, .ref (aa 0)), (1, .int (nI n)), (2, .ref (aa 11)), (3, .ref (aa 12)), (4, .ref (aa 13)), (5, .ref (aa 14)), (6, .ref (aa 15)), (7, .ref (aa 17))] → W p l e { frames := 9, cells := 48, slots := 288, locals := 270 } s m ([.ref (aa 0), .int (nI n), .ref (aa 11), .ref (aa 12), .ref (aa 13), .ref (aa 14), .ref (aa 15), .ref (aa 17)] : List Value).toArray below meth c Hh locs 0 0 (MQ below (ro_Q n0 (fun v H1 => v = some (.int 1) ∧ wB D ids n0 aa τ nw ns nl nc A H1)) ([.ref (aa 0), .int (nI n), .ref (aa 11), .ref (aa 12), .ref (aa 13), .ref (aa 14), .ref (aa 15), .ref (aa 17)] : List Value).toArray s 48 288 (fun q => n0 ≤ q)) (F0 m 43 ls []) := by
        refine ro_loop (nl) (fun k : Nat => ∀ (locs : List Loc) (ls : Array Slot), va_S (fun q => n0 ≤ q) s.heap Hh locs → lv_has ls 13 [(12, .int (nI k)), (11, .int (nI (b9 + (n9 - (d + 1))))), (10, .int (if any1 (hbB τ n (b9 + (n9 - (d + 1)))) k = true then nI (b9 + (n9 - (d + 1))) else fbv (nI b9) (fst1 (badB τ n) d (n9 - d)))), (9, .int (orS (fun j => agn τ n (nI (b9 + j))) d (n9 - d) ||| mk (hbB τ n (b9 + (n9 - (d + 1)))) k)), (8, .int ((7 * nI n))), (0, .ref (aa 0)), (1, .int (nI n)), (2, .ref (aa 11)), (3, .ref (aa 12)), (4, .ref (aa 13)), (5, .ref (aa 14)), (6, .ref (aa 15)), (7, .ref (aa 17))] → W p l e { frames := 9, cells := 48, slots := 288, locals := 270 } s m ([.ref (aa 0), .int (nI n), .ref (aa 11), .ref (aa 12), .ref (aa 13), .ref (aa 14), .ref (aa 15), .ref (aa 17)] : List Value).toArray below meth c Hh locs 0 0 (MQ below (ro_Q n0 (fun v H1 => v = some (.int 1) ∧ wB D ids n0 aa τ nw ns nl nc A H1)) ([.ref (aa 0), .int (nI n), .ref (aa 11), .ref (aa 12), .ref (aa 13), .ref (aa 14), .ref (aa 15), .ref (aa 17)] : List Value).toArray s 48 288 (fun q => n0 ≤ q)) (F0 m 43 ls [])) ?_ ?_
        · intro locs ls HS hl
          refine lv_iload hx hb dL_change_43 (lv_at hl 0 rfl) ?_
          refine lv_aload hx hb dL_change_45 (lv_at hl 12 rfl) ?_
          refine lv_iconst (v := 2) hx hb dL_change_47 (by decide) ?_
          refine wb_iald MC hB 6 (by decide) 2 (show 2 < 4 by omega) rfl (hg2.trans hI.2.2.1.1) dL_change_48 ?_
          refine lv_icmp_ge (tgt := 102) hx hb dL_change_49 (by decide) (fun c_49 => ?_) (fun c_49 => absurd (nI_le (Nat.le_refl nl) (by omega)) c_49)
          refine lv_iinc (v := nI (b9 + (n9 - (d + 1))) + (-1)) (lv' := [(11, .int (nI (b9 + (n9 - (d + 1))) + (-1))), (12, .int (nI nl)), (10, .int (if any1 (hbB τ n (b9 + (n9 - (d + 1)))) nl = true then nI (b9 + (n9 - (d + 1))) else fbv (nI b9) (fst1 (badB τ n) d (n9 - d)))), (9, .int (orS (fun j => agn τ n (nI (b9 + j))) d (n9 - d) ||| mk (hbB τ n (b9 + (n9 - (d + 1)))) nl)), (8, .int ((7 * nI n))), (0, .ref (aa 0)), (1, .int (nI n)), (2, .ref (aa 11)), (3, .ref (aa 12)), (4, .ref (aa 13)), (5, .ref (aa 14)), (6, .ref (aa 15)), (7, .ref (aa 17))]) hx hb dL_change_102 hl (k := 1) rfl rfl (by decide) rfl (fun ls hl => ?_)
          refine lv_goto (tgt := 29) hx hb dL_change_105 (by decide) ?_
          rw [re_step (f := fun j => agn τ n (nI (b9 + j))) hkd (by show agn τ n (nI (b9 + (n9 - (d + 1)))) = _; unfold agn; rw [hcs]; rfl), fi_step (p := badB τ n) hkd (bad_any hnl hcs hb9), m1_sub] at hl
          exact ih _ ls HS (lv_sub hl [0, 2, 3, 4, 5, 6, 7, 8, 9, 10, 11, 12] (by rfl))
        · intro k hkk ih locs ls HS hl
          refine lv_iload hx hb dL_change_43 (lv_at hl 0 rfl) ?_
          refine lv_aload hx hb dL_change_45 (lv_at hl 12 rfl) ?_
          refine lv_iconst (v := 2) hx hb dL_change_47 (by decide) ?_
          refine wb_iald MC hB 6 (by decide) 2 (show 2 < 4 by omega) rfl (hg2.trans hI.2.2.1.1) dL_change_48 ?_
          refine lv_icmp_ge (tgt := 102) hx hb dL_change_49 (by decide) (fun c_49 => absurd c_49 (nI_ge hkk (by omega))) (fun c_49 => ?_)
          refine lv_aload_n hx hb dL_change_52 rfl (lv_at hl 7 rfl) ?_
          refine lv_iload hx hb dL_change_53 (lv_at hl 0 rfl) ?_
          refine lv_aload_n hx hb dL_change_55 rfl (lv_at hl 8 rfl) ?_
          refine lv_iload_n hx hb dL_change_56 rfl (lv_at hl 6 rfl) ?_
          refine lv_aload hx hb dL_change_57 (lv_at hl 9 rfl) ?_
          refine ro_callS MC HS (rest := []) (As := [.ref (aa 11), .int (nI k), .ref (aa 12), .int (nI n), .ref (aa 13)]) (y_against hB hO hkk hn) (lkL_16) (kw515) ⟨Nat.le_of_ble_eq_true rfl, Nat.le_of_ble_eq_true rfl⟩ hl.1 rfl (Nat.le_of_ble_eq_true rfl) dL_change_59 ⟨Nat.le_of_ble_eq_true rfl, Nat.le_of_ble_eq_true rfl⟩ (fun v9 H20 lH20 hp hz HS => ?_)
          obtain ⟨rfl, rfl⟩ := hp
          refine lv_if_eq (tgt := 96) hx hb dL_change_62 (by decide) (fun c_62 => ?_) (fun c_62 => ?_)
          · have f_62 := bI_0.mp c_62
            refine lv_iinc (v := nI k + 1) (lv' := [(12, .int (nI k + 1)), (11, .int (nI (b9 + (n9 - (d + 1))))), (10, .int (if any1 (hbB τ n (b9 + (n9 - (d + 1)))) k = true then nI (b9 + (n9 - (d + 1))) else fbv (nI b9) (fst1 (badB τ n) d (n9 - d)))), (9, .int (orS (fun j => agn τ n (nI (b9 + j))) d (n9 - d) ||| mk (hbB τ n (b9 + (n9 - (d + 1)))) k)), (8, .int ((7 * nI n))), (0, .ref (aa 0)), (1, .int (nI n)), (2, .ref (aa 11)), (3, .ref (aa 12)), (4, .ref (aa 13)), (5, .ref (aa 14)), (6, .ref (aa 15)), (7, .ref (aa 17))]) hx hb dL_change_96 hl (k := 0) rfl rfl (by decide) rfl (fun ls hl => ?_)
            refine lv_goto (tgt := 43) hx hb dL_change_99 (by decide) ?_
            have hfk : hbB τ n (b9 + (n9 - (d + 1))) k = false := by simp [hbB, f_62]
            rw [re_f hfk, fi_f hfk, nI_1] at hl
            exact ih _ ls HS (lv_sub hl [0, 1, 2, 3, 4, 5, 6, 7, 8, 9, 10, 11, 12] rfl)
          · have f_62 := bI_n0.mp c_62
            refine lv_aload_n hx hb dL_change_65 rfl (lv_at hl 7 rfl) ?_
            refine lv_iload hx hb dL_change_66 (lv_at hl 0 rfl) ?_
            refine lv_iload hx hb dL_change_68 (lv_at hl 1 rfl) ?_
            refine lv_aload hx hb dL_change_70 (lv_at hl 10 rfl) ?_
            refine lv_aload hx hb dL_change_72 (lv_at hl 11 rfl) ?_
            refine ro_callS MC HS (rest := []) (As := [.ref (aa 11), .int (nI k), .int (nI (b9 + (n9 - (d + 1)))), .ref (aa 14), .ref (aa 15)]) (y_holds hB hO hkk (h := b9 + (n9 - (d + 1))) (by omega)) (lkL_20) (kw509) ⟨Nat.le_of_ble_eq_true rfl, Nat.le_of_ble_eq_true rfl⟩ hl.1 rfl (Nat.le_of_ble_eq_true rfl) dL_change_74 ⟨Nat.le_of_ble_eq_true rfl, Nat.le_of_ble_eq_true rfl⟩ (fun v9 H21 lH21 hp hz HS => ?_)
            obtain ⟨rfl, rfl⟩ := hp
            refine lv_if_ne (tgt := 83) hx hb dL_change_77 (by decide) (fun c_77 => ?_) (fun c_77 => ?_)
            · have f_77 := bI_n0.mp c_77
              refine lv_iload hx hb dL_change_83 (lv_at hl 3 rfl) ?_
              refine lv_iconst (v := 1) hx hb dL_change_85 (by decide) ?_
              refine lv_iload hx hb dL_change_86 (lv_at hl 0 rfl) ?_
              refine lv_ishl hx hb dL_change_88 ?_
              refine lv_ior hx hb dL_change_89 ?_
              refine lv_istore (lv' := [(9, .int ((orS (fun j => agn τ n (nI (b9 + j))) d (n9 - d) ||| mk (hbB τ n (b9 + (n9 - (d + 1)))) k ||| (1 <<< (nI k &&& 31))))), (12, .int (nI k)), (11, .int (nI (b9 + (n9 - (d + 1))))), (10, .int (if any1 (hbB τ n (b9 + (n9 - (d + 1)))) k = true then nI (b9 + (n9 - (d + 1))) else fbv (nI b9) (fst1 (badB τ n) d (n9 - d)))), (8, .int ((7 * nI n))), (0, .ref (aa 0)), (1, .int (nI n)), (2, .ref (aa 11)), (3, .ref (aa 12)), (4, .ref (aa 13)), (5, .ref (aa 14)), (6, .ref (aa 15)), (7, .ref (aa 17))]) hx hb dL_change_90 hl (by decide) rfl (fun ls hl => ?_)
              refine lv_iload hx hb dL_change_92 (lv_at hl 2 rfl) ?_
              refine lv_istore (lv' := [(10, .int (nI (b9 + (n9 - (d + 1))))), (9, .int ((orS (fun j => agn τ n (nI (b9 + j))) d (n9 - d) ||| mk (hbB τ n (b9 + (n9 - (d + 1)))) k ||| (1 <<< (nI k &&& 31))))), (12, .int (nI k)), (11, .int (nI (b9 + (n9 - (d + 1))))), (8, .int ((7 * nI n))), (0, .ref (aa 0)), (1, .int (nI n)), (2, .ref (aa 11)), (3, .ref (aa 12)), (4, .ref (aa 13)), (5, .ref (aa 14)), (6, .ref (aa 15)), (7, .ref (aa 17))]) hx hb dL_change_94 hl (by decide) rfl (fun ls hl => ?_)
              refine lv_iinc (v := nI k + 1) (lv' := [(12, .int (nI k + 1)), (10, .int (nI (b9 + (n9 - (d + 1))))), (9, .int ((orS (fun j => agn τ n (nI (b9 + j))) d (n9 - d) ||| mk (hbB τ n (b9 + (n9 - (d + 1)))) k ||| (1 <<< (nI k &&& 31))))), (11, .int (nI (b9 + (n9 - (d + 1))))), (8, .int ((7 * nI n))), (0, .ref (aa 0)), (1, .int (nI n)), (2, .ref (aa 11)), (3, .ref (aa 12)), (4, .ref (aa 13)), (5, .ref (aa 14)), (6, .ref (aa 15)), (7, .ref (aa 17))]) hx hb dL_change_96 hl (k := 2) rfl rfl (by decide) rfl (fun ls hl => ?_)
              refine lv_goto (tgt := 43) hx hb dL_change_99 (by decide) ?_
              have hfk : hbB τ n (b9 + (n9 - (d + 1))) k = true := by simp [hbB, f_62, f_77]
              rw [re_t hfk, nI_1] at hl
              exact ih _ ls HS (lv_sub hl [0, 3, 1, 2, 4, 5, 6, 7, 8, 9, 10, 11, 12] (by rw [if_pos (show any1 (hbB τ n (b9 + (n9 - (d + 1)))) (k + 1) = true by simp [any1, hfk])]; rfl))
            · have f_77 := bI_0.mp c_77
              refine lv_goto (tgt := 96) hx hb dL_change_80 (by decide) ?_
              refine lv_iinc (v := nI k + 1) (lv' := [(12, .int (nI k + 1)), (11, .int (nI (b9 + (n9 - (d + 1))))), (10, .int (if any1 (hbB τ n (b9 + (n9 - (d + 1)))) k = true then nI (b9 + (n9 - (d + 1))) else fbv (nI b9) (fst1 (badB τ n) d (n9 - d)))), (9, .int (orS (fun j => agn τ n (nI (b9 + j))) d (n9 - d) ||| mk (hbB τ n (b9 + (n9 - (d + 1)))) k)), (8, .int ((7 * nI n))), (0, .ref (aa 0)), (1, .int (nI n)), (2, .ref (aa 11)), (3, .ref (aa 12)), (4, .ref (aa 13)), (5, .ref (aa 14)), (6, .ref (aa 15)), (7, .ref (aa 17))]) hx hb dL_change_96 hl (k := 0) rfl rfl (by decide) rfl (fun ls hl => ?_)
              refine lv_goto (tgt := 43) hx hb dL_change_99 (by decide) ?_
              have hfk : hbB τ n (b9 + (n9 - (d + 1))) k = false := by simp [hbB, f_62, f_77]
              rw [re_f hfk, fi_f hfk, nI_1] at hl
              exact ih _ ls HS (lv_sub hl [0, 1, 2, 3, 4, 5, 6, 7, 8, 9, 10, 11, 12] rfl)
      rw [← Int32.or_zero (a := orS (fun j => agn τ n (nI (b9 + j))) d (n9 - d))] at hl
      exact lop2 0 (Nat.zero_le _) _ ls HS (lv_sub hl [0, 1, 2, 3, 4, 5, 6, 7, 8, 9, 10, 11, 12] (by rfl))
  exact loop 0 (Nat.zero_le _) _ ls HS (lv_sub hl [0, 1, 2, 3, 4, 5, 6, 7, 8, 9, 10, 11] (by rfl))
