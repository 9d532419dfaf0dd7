/-! bits of sets -/
def bit (x : Int32) (b : Nat) : Bool := !((x >>> (nI b &&& 31)) &&& 1 == 0)
theorem and31 : ∀ b : Nat, b < 31 → nI b &&& 31 = nI b := by decide +kernel
theorem smod32 : ∀ b : Nat, b < 31 → ((nI b).toBitVec.smod 32).toNat = b := by decide +kernel
theorem bit_lsb (x : Int32) {b : Nat} (hb : b < 31) : bit x b = x.toBitVec.getLsbD b := by
  unfold bit
  rw [and31 b hb]
  have h1 : (x >>> nI b).toBitVec = x.toBitVec.sshiftRight b := by
    rw [Int32.toBitVec_shiftRight, BitVec.sshiftRight', smod32 b hb]
  have h2 : (x >>> nI b) &&& 1 = nI ((x >>> nI b).toBitVec.toNat % 2 ^ 1) := pk_and _ 1 rfl
  have h3 : (x >>> nI b).toBitVec.getLsbD 0 = x.toBitVec.getLsbD b := by
    rw [h1, BitVec.getLsbD_sshiftRight]
    simp
    intro h; omega
  rw [h2, ← h3]
  have h4 : (x >>> nI b).toBitVec.getLsbD 0 = decide ((x >>> nI b).toBitVec.toNat % 2 = 1) := by
    rw [BitVec.getLsbD, Nat.testBit_zero]
  rw [h4]
  rcases Nat.mod_two_eq_zero_or_one (x >>> nI b).toBitVec.toNat with h | h
  · rw [show (2 : Nat) ^ 1 = 2 from rfl, h]; rfl
  · rw [show (2 : Nat) ^ 1 = 2 from rfl, h]; rfl
theorem bit_or (x y : Int32) {b : Nat} (hb : b < 31) : bit (x ||| y) b = (bit x b || bit y b) := by
  rw [bit_lsb _ hb, bit_lsb _ hb, bit_lsb _ hb, Int32.toBitVec_or, BitVec.getLsbD_or]
theorem bit_and (x y : Int32) {b : Nat} (hb : b < 31) : bit (x &&& y) b = (bit x b && bit y b) := by
  rw [bit_lsb _ hb, bit_lsb _ hb, bit_lsb _ hb, Int32.toBitVec_and, BitVec.getLsbD_and]
theorem bit_xor (x y : Int32) {b : Nat} (hb : b < 31) : bit (x ^^^ y) b = (bit x b ^^ bit y b) := by
  rw [bit_lsb _ hb, bit_lsb _ hb, bit_lsb _ hb, Int32.toBitVec_xor, BitVec.getLsbD_xor]
theorem bit_m1 : ∀ b : Nat, b < 31 → bit (-1) b = true := by decide +kernel
theorem bit_not (x : Int32) {b : Nat} (hb : b < 31) : bit (x ^^^ (-1)) b = !bit x b := by
  rw [bit_xor _ _ hb, bit_m1 b hb]; simp
theorem bit_one : ∀ k : Nat, k < 31 → ∀ b : Nat, b < 31 → bit (1 <<< (nI k &&& 31)) b = decide (b = k) := by decide +kernel
theorem bit_0 : ∀ b : Nat, b < 31 → bit 0 b = false := by decide +kernel
theorem bit_low : ∀ n : Nat, n < 21 → ∀ b : Nat, b < 20 → bit (1 <<< (nI n &&& 31) - 1) b = decide (b < n) := by decide +kernel
theorem bit_mk (p : Nat → Bool) : ∀ n : Nat, n ≤ 31 → ∀ b : Nat, b < 31 → bit (mk p n) b = (decide (b < n) && p b) := by
  intro n
  induction n with
  | zero => intro _ b hb; rw [mk, bit_0 b hb]; simp
  | succ n ih =>
    intro hn b hb
    rw [mk, bit_or _ _ hb, ih (by omega) b hb]
    by_cases hp : p n = true
    · rw [if_pos hp, bit_one n (by omega) b hb]
      by_cases h : b = n
      · subst h; simp [hp]
      · have e : decide (b < n + 1) = decide (b < n) := by
          by_cases h2 : b < n
          · simp [h2]; omega
          · simp [h2]; omega
        rw [e]; simp [h]
    · rw [if_neg hp, bit_0 b hb]
      by_cases h : b = n
      · subst h; simp [hp]
      · have e : decide (b < n + 1) = decide (b < n) := by
          by_cases h2 : b < n
          · simp [h2]; omega
          · simp [h2]; omega
        rw [e]; simp
theorem mk_ext {p q : Nat → Bool} : ∀ {n : Nat}, (∀ k, k < n → p k = q k) → mk p n = mk q n
  | 0, _ => rfl
  | n + 1, h => by rw [mk, mk, mk_ext (fun k hk => h k (by omega)), h n (by omega)]
theorem mk_tail {p : Nat → Bool} {m : Nat} : ∀ {n : Nat}, m ≤ n → (∀ k, m ≤ k → k < n → p k = false) → mk p n = mk p m := by
  intro n
  induction n with
  | zero => intro h _; rw [Nat.le_zero.mp h]
  | succ n ih =>
    intro h hp
    rcases Nat.lt_or_ge n m with h1 | h1
    · rw [show m = n + 1 by omega]
    · rw [mk, ih h1 (fun k h2 h3 => hp k h2 (by omega)), hp n h1 (by omega)]; simp
theorem mk_z {p : Nat → Bool} {n : Nat} (hn : n ≤ 31) : mk p n = 0 ↔ ∀ k, k < n → p k = false := by
  constructor
  · intro h k hk
    have h1 := bit_mk p n hn k (by omega)
    rw [h, bit_0 k (by omega)] at h1
    simpa [hk] using h1.symm
  · intro h
    rw [mk_tail (m := 0) (Nat.zero_le _) (fun k _ hk => h k hk)]; rfl
theorem exB_bit (τ : Tau) (c : Nat) {k : Nat} (hk : k < 31) : exB τ c k = bit (τ 16 c) k := by
  unfold exB bit
  rw [and31 k hk]
  have h2 : (τ 16 c >>> nI k) &&& 1 = nI ((τ 16 c >>> nI k).toBitVec.toNat % 2 ^ 1) := pk_and _ 1 rfl
  rw [h2]
  rcases Nat.mod_two_eq_zero_or_one (τ 16 c >>> nI k).toBitVec.toNat with h | h
  · rw [show (2 : Nat) ^ 1 = 2 from rfl, h]; rfl
  · rw [show (2 : Nat) ^ 1 = 2 from rfl, h]; rfl
