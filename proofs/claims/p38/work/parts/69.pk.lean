/-! boxes as rows of digits of four bits -/
theorem k_shl : ∀ k, k < 16 → ∀ b, b < 10 → (nI k).toInt64 <<< ((4 * nI b).toInt64 &&& 63) = Int64.ofNat (k * 16 ^ b) := by decide +kernel
theorem k_sh : ∀ b, b < 10 → (((4 * nI b).toInt64 &&& 63).toBitVec.smod 64).toNat = 4 * b := by decide +kernel
theorem k_sh1 : ((((4 : Int32)).toInt64 &&& 63).toBitVec.smod 64).toNat = 4 := by decide +kernel
theorem k_or (X Y : Nat) : Int64.ofNat X ||| Int64.ofNat Y = Int64.ofNat (X ||| Y) := by
  refine Int64.toBitVec_inj.mp ?_
  rw [Int64.toBitVec_or, Int64.toBitVec_ofNat', Int64.toBitVec_ofNat', Int64.toBitVec_ofNat']
  refine BitVec.eq_of_getLsbD_eq (fun i hi => ?_)
  rw [BitVec.getLsbD_or, BitVec.getLsbD_ofNat, BitVec.getLsbD_ofNat, BitVec.getLsbD_ofNat, Nat.testBit_or]
  simp [hi]
theorem k_16 (b : Nat) : 16 ^ b = 2 ^ (4 * b) := by rw [show (16 : Nat) = 2 ^ 4 by decide, ← Nat.pow_mul]
theorem k_push {X k b : Nat} (hX : X < 16 ^ b) : X ||| k * 16 ^ b = X + k * 16 ^ b := by
  rw [k_16] at *
  rw [Nat.or_comm, Nat.mul_comm, ← Nat.two_pow_add_eq_or_of_lt hX, Nat.add_comm]
theorem k_nonneg {X s : Nat} (hX : X < 2 ^ 40) : (Int64.ofNat X).toBitVec.sshiftRight s = BitVec.ofNat 64 (X / 2 ^ s) := by
  rw [Int64.toBitVec_ofNat']
  have h1 : (BitVec.ofNat 64 X).msb = false := by
    rw [BitVec.msb_eq_decide, decide_eq_false]
    rw [BitVec.toNat_ofNat, Nat.mod_eq_of_lt (Nat.lt_trans hX (by decide))]
    exact Nat.not_le.mpr (Nat.lt_trans hX (by decide))
  rw [BitVec.sshiftRight_eq_of_msb_false h1]
  refine BitVec.eq_of_toNat_eq ?_
  rw [BitVec.toNat_ushiftRight, BitVec.toNat_ofNat, BitVec.toNat_ofNat, Nat.mod_eq_of_lt (Nat.lt_trans hX (by decide)), Nat.shiftRight_eq_div_pow, Nat.mod_eq_of_lt]
  exact Nat.lt_of_le_of_lt (Nat.div_le_self _ _) (Nat.lt_trans hX (by decide))
theorem k_shr {X b : Nat} (hX : X < 2 ^ 40) (hb : b < 10) : Int64.ofNat X >>> ((4 * nI b).toInt64 &&& 63) = Int64.ofNat (X / 16 ^ b) := by
  refine Int64.toBitVec_inj.mp ?_
  show (Int64.ofNat X).toBitVec.sshiftRight (((4 * nI b).toInt64 &&& 63).toBitVec.smod 64).toNat = _
  rw [k_sh b hb, k_nonneg hX, k_16, Int64.toBitVec_ofNat']
theorem k_shr1 {X : Nat} (hX : X < 2 ^ 40) : Int64.ofNat X >>> ((4 : Int32).toInt64 &&& 63) = Int64.ofNat (X / 16) := by
  refine Int64.toBitVec_inj.mp ?_
  show (Int64.ofNat X).toBitVec.sshiftRight (((4 : Int32).toInt64 &&& 63).toBitVec.smod 64).toNat = _
  rw [k_sh1, k_nonneg hX, Int64.toBitVec_ofNat']
theorem k_low {X : Nat} : (Int64.ofNat X &&& 15).toInt32 = nI (X % 16) := by
  have e : Int64.ofNat X &&& 15 = Int64.ofNat (X % 16) := by
    refine Int64.toBitVec_inj.mp ?_
    rw [Int64.toBitVec_and, Int64.toBitVec_ofNat', Int64.toBitVec_ofNat', show (15 : Int64).toBitVec = BitVec.ofNat 64 15 from rfl]
    refine BitVec.eq_of_toNat_eq ?_
    rw [BitVec.toNat_and, BitVec.toNat_ofNat, BitVec.toNat_ofNat, BitVec.toNat_ofNat, Nat.mod_eq_of_lt (show 15 < 2 ^ 64 by decide), show (15 : Nat) = 2 ^ 4 - 1 by decide, Nat.and_two_pow_sub_one_eq_mod, Nat.mod_eq_of_lt (show X % 16 < 2 ^ 64 by omega)]
    omega
  rw [e]
  have : ∀ q, q < 16 → (Int64.ofNat q).toInt32 = nI q := by decide +kernel
  exact this _ (by omega)
theorem k_dig {X k b j : Nat} (hX : X < 16 ^ b) (hk : k < 16) : (X + k * 16 ^ b) / 16 ^ j % 16 = if j < b then X / 16 ^ j % 16 else if j = b then k else 0 := by
  by_cases h1 : j < b
  · rw [if_pos h1]
    obtain ⟨d, rfl⟩ : ∃ d, b = j + 1 + d := ⟨b - j - 1, by omega⟩
    rw [show k * 16 ^ (j + 1 + d) = 16 ^ j * (16 * (k * 16 ^ d)) by rw [Nat.pow_add, Nat.pow_succ]; ac_rfl, Nat.add_mul_div_left _ _ (Nat.pow_pos (by decide))]
    omega
  · rw [if_neg h1]
    by_cases h2 : j = b
    · subst h2
      rw [if_pos rfl, Nat.add_mul_div_right _ _ (Nat.pow_pos (by decide)), Nat.div_eq_of_lt hX]
      omega
    · rw [if_neg h2]
      have h3 : X + k * 16 ^ b < 16 ^ j := by
        have h4 : 16 ^ (b + 1) ≤ 16 ^ j := Nat.pow_le_pow_right (by decide) (by omega)
        have h5 : 16 ^ (b + 1) = 16 * 16 ^ b := by rw [Nat.pow_succ, Nat.mul_comm]
        have h6 : k * 16 ^ b ≤ 15 * 16 ^ b := Nat.mul_le_mul_right _ (by omega)
        omega
      rw [Nat.div_eq_of_lt h3]
theorem k_lt40 {X b : Nat} (hX : X < 16 ^ b) (hb : b ≤ 10) : X < 2 ^ 40 := by
  have : (16 : Nat) ^ b ≤ 16 ^ 10 := Nat.pow_le_pow_right (by decide) hb
  have e : (16 : Nat) ^ 10 = 2 ^ 40 := by decide
  omega
theorem k_add_lt {X k b : Nat} (hX : X < 16 ^ b) (hk : k < 16) : X + k * 16 ^ b < 16 ^ (b + 1) := by
  have h5 : 16 ^ (b + 1) = 16 * 16 ^ b := by rw [Nat.pow_succ, Nat.mul_comm]
  have h6 : k * 16 ^ b ≤ 15 * 16 ^ b := Nat.mul_le_mul_right _ (by omega)
  omega
theorem k_next {X b j : Nat} : X / 16 / 16 ^ j % 16 = X / 16 ^ (j + 1) % 16 := by
  rw [Nat.div_div_eq_div_mul, Nat.pow_succ, Nat.mul_comm]
/-- an edition's row: the lowest bit says whether there is one -/
theorem k_or1 {a h : Nat} (hh : h ≤ 1) (ha : a < 2 ^ 20) : nI (2 * a + h) ||| 1 = nI (2 * a + 1) := by
  have e : ∀ x y : Nat, nI x ||| nI y = nI (x ||| y) := by
    intro x y
    refine Int32.toBitVec_inj.mp ?_
    show (Int32.ofNat x ||| Int32.ofNat y).toBitVec = (Int32.ofNat (x ||| y)).toBitVec
    rw [Int32.toBitVec_or, Int32.toBitVec_ofNat', Int32.toBitVec_ofNat', Int32.toBitVec_ofNat']
    refine BitVec.eq_of_getLsbD_eq (fun i hi => ?_)
    rw [BitVec.getLsbD_or, BitVec.getLsbD_ofNat, BitVec.getLsbD_ofNat, BitVec.getLsbD_ofNat, Nat.testBit_or]
    simp [hi]
  have e1 : nI (2 * a + h) ||| 1 = nI ((2 * a + h) ||| 1) := e _ 1
  rw [e1]
  congr 1
  have : h = 0 ∨ h = 1 := by omega
  rcases this with rfl | rfl
  · rw [Nat.add_zero]
    have := Nat.two_pow_add_eq_or_of_lt (i := 1) (b := 1) (by decide) a
    rw [Nat.pow_one] at this
    exact this.symm
  · have h9 := Nat.two_pow_add_eq_or_of_lt (i := 1) (b := 1) (by decide) a
    rw [Nat.pow_one] at h9
    rw [h9, Nat.or_assoc, Nat.or_self]
theorem k_and1 {a h : Nat} (hh : h ≤ 1) (ha : a < 2 ^ 20) : nI (2 * a + h) &&& 1 = nI h := by
  have e : ∀ x, nI x &&& nI 1 = nI (x &&& 1) := by
    intro x
    refine Int32.toBitVec_inj.mp ?_
    show (Int32.ofNat x &&& Int32.ofNat 1).toBitVec = (Int32.ofNat (x &&& 1)).toBitVec
    rw [Int32.toBitVec_and, Int32.toBitVec_ofNat', Int32.toBitVec_ofNat', Int32.toBitVec_ofNat']
    refine BitVec.eq_of_getLsbD_eq (fun i hi => ?_)
    rw [BitVec.getLsbD_and, BitVec.getLsbD_ofNat, BitVec.getLsbD_ofNat, BitVec.getLsbD_ofNat, Nat.testBit_and]
    simp [hi]
  have e1 : nI (2 * a + h) &&& 1 = nI ((2 * a + h) &&& 1) := e _
  rw [e1]
  congr 1
  rw [Nat.and_one_is_mod]
  omega
theorem k_shr2 {a h : Nat} (hh : h ≤ 1) (ha : a < 2 ^ 20) : nI (2 * a + h) >>> ((1 : Int32) &&& 31) = nI a := by
  refine Int32.toBitVec_inj.mp ?_
  show (Int32.ofNat (2 * a + h)).toBitVec.sshiftRight (((1 : Int32) &&& 31).toBitVec.smod 32).toNat = (Int32.ofNat a).toBitVec
  rw [show (((1 : Int32) &&& 31).toBitVec.smod 32).toNat = 1 by decide +kernel, Int32.toBitVec_ofNat', Int32.toBitVec_ofNat']
  have hl : 2 * a + h < 2 ^ 31 := by omega
  have h1 : (BitVec.ofNat 32 (2 * a + h)).msb = false := by
    rw [BitVec.msb_eq_decide, decide_eq_false]
    rw [BitVec.toNat_ofNat, Nat.mod_eq_of_lt (by omega)]
    omega
  rw [BitVec.sshiftRight_eq_of_msb_false h1]
  refine BitVec.eq_of_toNat_eq ?_
  rw [BitVec.toNat_ushiftRight, BitVec.toNat_ofNat, BitVec.toNat_ofNat, Nat.mod_eq_of_lt (by omega), Nat.shiftRight_eq_div_pow, Nat.mod_eq_of_lt (by omega)]
  omega
