/-! comparisons of small numbers; bits -/
theorem nc_lt {x y : Int32} {a b : Nat} (h : a < b) (ha : a < 2 ^ 31) (hb : b < 2 ^ 31) (hx : x = nI a) (hy : y = nI b) : x < y := by rw [hx, hy]; exact nI_lt h hb
theorem nc_ge {x y : Int32} {a b : Nat} (h : b ≤ a) (ha : a < 2 ^ 31) (hb : b < 2 ^ 31) (hx : x = nI a) (hy : y = nI b) : y ≤ x := by rw [hx, hy]; exact nI_le h ha
theorem nc_gt {x y : Int32} {a b : Nat} (h : b < a) (ha : a < 2 ^ 31) (hb : b < 2 ^ 31) (hx : x = nI a) (hy : y = nI b) : y < x := by rw [hx, hy]; exact nI_lt h ha
theorem nc_le {x y : Int32} {a b : Nat} (h : a ≤ b) (ha : a < 2 ^ 31) (hb : b < 2 ^ 31) (hx : x = nI a) (hy : y = nI b) : x ≤ y := by rw [hx, hy]; exact nI_le h hb
theorem nc_eq {x y : Int32} {a b : Nat} (h : a = b) (ha : a < 2 ^ 31) (hb : b < 2 ^ 31) (hx : x = nI a) (hy : y = nI b) : x = y := by rw [hx, hy, h]
theorem nc_ne {x y : Int32} {a b : Nat} (h : a ≠ b) (ha : a < 2 ^ 31) (hb : b < 2 ^ 31) (hx : x = nI a) (hy : y = nI b) : ¬ x = y := by rw [hx, hy]; exact fun e => h ((nI_eq ha hb).mp e)
theorem nc_lt_f {x y : Int32} {a b : Nat} (h : a < b) (ha : a < 2 ^ 31) (hb : b < 2 ^ 31) (hx : x = nI a) (hy : y = nI b) (h9 : y ≤ x) : False := by rw [hx, hy] at h9; exact nI_ge h hb h9
theorem nc_ge_f {x y : Int32} {a b : Nat} (h : b ≤ a) (ha : a < 2 ^ 31) (hb : b < 2 ^ 31) (hx : x = nI a) (hy : y = nI b) (h9 : x < y) : False := by rw [hx, hy] at h9; exact nI_nlt h ha h9
theorem nc_gt_f {x y : Int32} {a b : Nat} (h : b < a) (ha : a < 2 ^ 31) (hb : b < 2 ^ 31) (hx : x = nI a) (hy : y = nI b) (h9 : x ≤ y) : False := by rw [hx, hy] at h9; exact nI_ge h ha h9
theorem nc_le_f {x y : Int32} {a b : Nat} (h : a ≤ b) (ha : a < 2 ^ 31) (hb : b < 2 ^ 31) (hx : x = nI a) (hy : y = nI b) (h9 : y < x) : False := by rw [hx, hy] at h9; exact nI_nlt h hb h9
theorem nc_eq_f {x y : Int32} {a b : Nat} (h : a = b) (ha : a < 2 ^ 31) (hb : b < 2 ^ 31) (hx : x = nI a) (hy : y = nI b) (h9 : ¬ x = y) : False := by rw [hx, hy, h] at h9; exact h9 rfl
theorem nc_ne_f {x y : Int32} {a b : Nat} (h : a ≠ b) (ha : a < 2 ^ 31) (hb : b < 2 ^ 31) (hx : x = nI a) (hy : y = nI b) (h9 : x = y) : False := by rw [hx, hy] at h9; exact h ((nI_eq ha hb).mp h9)
/-- the same from above -/
def itD {α : Type} (f : Nat → α → α) (a : α) : Nat → α
  | 0 => a
  | n + 1 => itD f (f n a) n
theorem itN_f {F : Nat → am_T → am_T} (g : Nat) (hF : ∀ k S, F k S g = S g) (S : am_T) : ∀ j, itN F S j g = S g
  | 0 => rfl
  | j + 1 => (hF j _).trans (itN_f g hF S j)
def bt (x : Int32) (i : Nat) : Bool := x.toBitVec.getLsbD i
theorem b_ext {x y : Int32} (h : ∀ i, i < 32 → bt x i = bt y i) : x = y := Int32.toBitVec_inj.mp (BitVec.eq_of_getLsbD_eq (fun i hi => h i hi))
theorem b_or (x y : Int32) (i : Nat) : bt (x ||| y) i = (bt x i || bt y i) := by unfold bt; rw [Int32.toBitVec_or, BitVec.getLsbD_or]
theorem b_and (x y : Int32) (i : Nat) : bt (x &&& y) i = (bt x i && bt y i) := by unfold bt; rw [Int32.toBitVec_and, BitVec.getLsbD_and]
theorem b_xor (x y : Int32) (i : Nat) : bt (x ^^^ y) i = (bt x i ^^ bt y i) := by unfold bt; rw [Int32.toBitVec_xor, BitVec.getLsbD_xor]
theorem b_big {x : Int32} {i : Nat} (h : 32 ≤ i) : bt x i = false := BitVec.getLsbD_of_ge _ _ h
theorem b_255 (i : Nat) : bt 255 i = decide (i < 8) := by
  rcases Nat.lt_or_ge i 32 with h | h
  · exact (by decide +kernel : ∀ i, i < 32 → bt 255 i = decide (i < 8)) i h
  · rw [b_big h, decide_eq_false (by omega)]
theorem b_65535 (i : Nat) : bt 65535 i = decide (i < 16) := by
  rcases Nat.lt_or_ge i 32 with h | h
  · exact (by decide +kernel : ∀ i, i < 32 → bt 65535 i = decide (i < 16)) i h
  · rw [b_big h, decide_eq_false (by omega)]
theorem b_m1 : ∀ i, i < 32 → bt (-1) i = true := by decide +kernel
theorem b_0 (i : Nat) : bt 0 i = false := BitVec.getLsbD_zero
theorem s_l : ∀ n, n < 32 → ((nI n &&& 31).toBitVec.smod 32).toNat = n := by decide +kernel
theorem s_u : ∀ n, n < 32 → (((nI n).toUInt32 &&& Int32.toUInt32 31).toBitVec % 32).toNat = n := by decide +kernel
theorem b_shl (n : Nat) (hn : n < 32) (x : Int32) {i : Nat} (hi : i < 32) : bt (x <<< (nI n &&& 31)) i = (decide (n ≤ i) && bt x (i - n)) := by
  unfold bt
  rw [Int32.toBitVec_shiftLeft]
  show (x.toBitVec <<< ((nI n &&& 31).toBitVec.smod 32).toNat).getLsbD i = _
  rw [s_l n hn, BitVec.getLsbD_shiftLeft]
  rcases Nat.lt_or_ge i n with h | h
  · simp [h, Nat.not_le.mpr h]
  · simp [hi, h, Nat.not_lt.mpr h]
theorem b_ushr (n : Nat) (hn : n < 32) (x : Int32) (i : Nat) : bt ((x.toUInt32 >>> ((nI n).toUInt32 &&& Int32.toUInt32 31)).toInt32) i = bt x (n + i) := by
  show (x.toUInt32 >>> ((nI n).toUInt32 &&& Int32.toUInt32 31)).toBitVec.getLsbD i = x.toUInt32.toBitVec.getLsbD (n + i)
  rw [UInt32.toBitVec_shiftRight]
  show (x.toUInt32.toBitVec >>> (((nI n).toUInt32 &&& Int32.toUInt32 31).toBitVec % 32).toNat).getLsbD i = _
  rw [s_u n hn, BitVec.getLsbD_ushiftRight]
theorem b_sshr (n : Nat) (hn : n < 32) (x : Int32) {i : Nat} (hi : i < 32) : bt (x >>> (nI n &&& 31)) i = if n + i < 32 then bt x (n + i) else bt x 31 := by
  unfold bt
  rw [Int32.toBitVec_shiftRight]
  show (x.toBitVec.sshiftRight ((nI n &&& 31).toBitVec.smod 32).toNat).getLsbD i = _
  rw [s_l n hn, BitVec.getLsbD_sshiftRight, BitVec.msb_eq_getLsbD_last]
  simp [hi]
theorem b_1 (i : Nat) : bt 1 i = decide (i = 0) := by
  rcases Nat.lt_or_ge i 32 with h | h
  · exact (by decide +kernel : ∀ i, i < 32 → bt 1 i = decide (i = 0)) i h
  · rw [b_big h, decide_eq_false (by omega)]
theorem b_bit {j : Nat} (hj : j < 32) {i : Nat} (hi : i < 32) : bt ((1 : Int32) <<< (nI j &&& 31)) i = decide (i = j) := by
  rw [b_shl j hj 1 hi, b_1]
  by_cases h : i = j
  · subst h; simp
  · rw [decide_eq_false h]
    by_cases h2 : j ≤ i
    · rw [decide_eq_true h2, decide_eq_false (by omega)]; rfl
    · rw [decide_eq_false h2]; rfl
theorem bt_iff {x : Int32} {k : Nat} (hk : k < 32) : (x >>> (nI k &&& 31)) &&& 1 = 1 ↔ bt x k = true := by
  have key : ∀ i, i < 32 → bt ((x >>> (nI k &&& 31)) &&& 1) i = (bt x k && decide (i = 0)) := by
    intro i hi
    rw [b_and, b_1, b_sshr k hk x hi]
    by_cases h : i = 0
    · subst h; simp [hk]
    · simp [h]
  constructor
  · intro h
    have := key 0 (by decide)
    rw [h, b_1] at this
    simpa using this.symm
  · intro h
    refine b_ext (fun i hi => ?_)
    rw [key i hi, h, b_1]
    rfl
theorem bt_iff0 {x : Int32} {k : Nat} (hk : k < 32) : (x >>> (nI k &&& 31)) &&& 1 = 0 ↔ bt x k = false := by
  have key : ∀ i, i < 32 → bt ((x >>> (nI k &&& 31)) &&& 1) i = (bt x k && decide (i = 0)) := by
    intro i hi
    rw [b_and, b_1, b_sshr k hk x hi]
    by_cases h : i = 0
    · subst h; simp [hk]
    · simp [h]
  constructor
  · intro h
    have := key 0 (by decide)
    rw [h, b_0] at this
    simpa using this.symm
  · intro h
    refine b_ext (fun i hi => ?_)
    rw [key i hi, h, b_0]
    rfl
-- what a mail's passing leaves as it was, in the reference
theorem am_s1 {x : Int32} {a : Nat} (h : x = nI (a + 1)) : x - 1 = nI a := by rw [h, nI_pred]
