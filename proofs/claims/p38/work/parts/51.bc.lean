/-! pure: the count of bits of a set of sixteen -/
theorem nI_bt (a : Nat) {i : Nat} (hi : i < 32) : bt (nI a) i = a.testBit i := by
  unfold bt nI
  show (BitVec.ofNat 32 a).getLsbD i = _
  rw [BitVec.getLsbD_ofNat, decide_eq_true hi, Bool.true_and]
theorem nI_shr {a k : Nat} (ha : a < 2 ^ 32) (hk : k < 32) : (((nI a).toUInt32 >>> ((nI k).toUInt32 &&& Int32.toUInt32 31)).toInt32) = nI (a >>> k) := by
  refine b_ext (fun i hi => ?_)
  rw [b_ushr k hk, nI_bt _ hi, Nat.testBit_shiftRight]
  rcases Nat.lt_or_ge (k + i) 32 with h | h
  · exact nI_bt a h
  · rw [b_big h]
    exact (Nat.testBit_lt_two_pow (Nat.lt_of_lt_of_le ha (Nat.pow_le_pow_right (by decide) h))).symm
theorem nI_and (a b : Nat) : nI a &&& nI b = nI (a &&& b) := b_ext (fun i hi => by rw [b_and, nI_bt _ hi, nI_bt _ hi, nI_bt _ hi, Nat.testBit_and])
def bcA (x : Nat) : Nat := x - ((x >>> 1) &&& 1431655765)
def bcB (y : Nat) : Nat := (y &&& 858993459) + ((y >>> 2) &&& 858993459)
def bcC (y : Nat) : Nat := (y + (y >>> 4)) &&& 252645135
def bcD (y : Nat) : Nat := y + (y >>> 8)
def bcE (y : Nat) : Nat := (y + (y >>> 16)) &&& 63
def cbN (x : Nat) : Nat → Nat
  | 0 => 0
  | i + 1 => cbN x i + (if x.testBit i = true then 1 else 0)
theorem shr_le (a k : Nat) : a >>> k ≤ a := by rw [Nat.shiftRight_eq_div_pow]; exact Nat.div_le_self _ _
theorem bc_nat {x : Nat} (hx : x < 65536) : bc (nI x) = nI (bcE (bcD (bcC (bcB (bcA x))))) := by
  have e1 : (1431655765 : Int32) = nI 1431655765 := rfl
  have e2 : (858993459 : Int32) = nI 858993459 := rfl
  have e3 : (252645135 : Int32) = nI 252645135 := rfl
  have e4 : (63 : Int32) = nI 63 := rfl
  have k1 : (1 : Int32) = nI 1 := rfl
  have k2 : (2 : Int32) = nI 2 := rfl
  have k4 : (4 : Int32) = nI 4 := rfl
  have k8 : (8 : Int32) = nI 8 := rfl
  have k16 : (16 : Int32) = nI 16 := rfl
  have hA : nI x - ((((nI x).toUInt32 >>> ((1 : Int32).toUInt32 &&& Int32.toUInt32 31)).toInt32) &&& 1431655765) = nI (bcA x) := by
    rw [e1, k1, nI_shr (by omega) (by decide), nI_and, pk_sub (Nat.le_trans Nat.and_le_left (shr_le _ _))]
    rfl
  have lA : bcA x < 65536 := Nat.lt_of_le_of_lt (Nat.sub_le _ _) hx
  have hB : ∀ y, y < 65536 → (nI y &&& 858993459) + ((((nI y).toUInt32 >>> ((2 : Int32).toUInt32 &&& Int32.toUInt32 31)).toInt32) &&& 858993459) = nI (bcB y) := by
    intro y hy
    rw [e2, k2, nI_shr (by omega) (by decide), nI_and, nI_and, nI_add]
    rfl
  have lB : ∀ y, y < 65536 → bcB y < 131072 := by
    intro y hy
    have h1 : y &&& 858993459 ≤ y := Nat.and_le_left
    have h2 : (y >>> 2) &&& 858993459 ≤ y >>> 2 := Nat.and_le_left
    have h3 := shr_le y 2
    unfold bcB
    omega
  have hC : ∀ y, y < 131072 → (nI y + (((nI y).toUInt32 >>> ((4 : Int32).toUInt32 &&& Int32.toUInt32 31)).toInt32)) &&& 252645135 = nI (bcC y) := by
    intro y hy
    rw [e3, k4, nI_shr (by omega) (by decide), nI_add, nI_and]
    rfl
  have lC : ∀ y, y < 131072 → bcC y < 262144 := by
    intro y hy
    have h1 : (y + (y >>> 4)) &&& 252645135 ≤ y + (y >>> 4) := Nat.and_le_left
    have h3 := shr_le y 4
    unfold bcC
    omega
  have hD : ∀ y, y < 262144 → nI y + (((nI y).toUInt32 >>> ((8 : Int32).toUInt32 &&& Int32.toUInt32 31)).toInt32) = nI (bcD y) := by
    intro y hy
    rw [k8, nI_shr (by omega) (by decide), nI_add]
    rfl
  have lD : ∀ y, y < 262144 → bcD y < 524288 := by
    intro y hy
    have h3 := shr_le y 8
    unfold bcD
    omega
  have hE : ∀ y, y < 524288 → (nI y + (((nI y).toUInt32 >>> ((16 : Int32).toUInt32 &&& Int32.toUInt32 31)).toInt32)) &&& 63 = nI (bcE y) := by
    intro y hy
    rw [e4, k16, nI_shr (by omega) (by decide), nI_add, nI_and]
    rfl
  unfold bc
  rw [hA, hB _ lA, hC _ (lB _ lA), hD _ (lC _ (lB _ lA)), hE _ (lD _ (lC _ (lB _ lA)))]
theorem bcN_0 : ∀ a, a < 8 → ∀ b, b < 256 → bcE (bcD (bcC (bcB (bcA (256 * (0 + a) + b))))) = cbN (256 * (0 + a) + b) 16 := by decide +kernel
theorem bcN_1 : ∀ a, a < 8 → ∀ b, b < 256 → bcE (bcD (bcC (bcB (bcA (256 * (8 + a) + b))))) = cbN (256 * (8 + a) + b) 16 := by decide +kernel
theorem bcN_2 : ∀ a, a < 8 → ∀ b, b < 256 → bcE (bcD (bcC (bcB (bcA (256 * (16 + a) + b))))) = cbN (256 * (16 + a) + b) 16 := by decide +kernel
theorem bcN_3 : ∀ a, a < 8 → ∀ b, b < 256 → bcE (bcD (bcC (bcB (bcA (256 * (24 + a) + b))))) = cbN (256 * (24 + a) + b) 16 := by decide +kernel
theorem bcN_4 : ∀ a, a < 8 → ∀ b, b < 256 → bcE (bcD (bcC (bcB (bcA (256 * (32 + a) + b))))) = cbN (256 * (32 + a) + b) 16 := by decide +kernel
theorem bcN_5 : ∀ a, a < 8 → ∀ b, b < 256 → bcE (bcD (bcC (bcB (bcA (256 * (40 + a) + b))))) = cbN (256 * (40 + a) + b) 16 := by decide +kernel
theorem bcN_6 : ∀ a, a < 8 → ∀ b, b < 256 → bcE (bcD (bcC (bcB (bcA (256 * (48 + a) + b))))) = cbN (256 * (48 + a) + b) 16 := by decide +kernel
theorem bcN_7 : ∀ a, a < 8 → ∀ b, b < 256 → bcE (bcD (bcC (bcB (bcA (256 * (56 + a) + b))))) = cbN (256 * (56 + a) + b) 16 := by decide +kernel
theorem bcN_8 : ∀ a, a < 8 → ∀ b, b < 256 → bcE (bcD (bcC (bcB (bcA (256 * (64 + a) + b))))) = cbN (256 * (64 + a) + b) 16 := by decide +kernel
theorem bcN_9 : ∀ a, a < 8 → ∀ b, b < 256 → bcE (bcD (bcC (bcB (bcA (256 * (72 + a) + b))))) = cbN (256 * (72 + a) + b) 16 := by decide +kernel
theorem bcN_10 : ∀ a, a < 8 → ∀ b, b < 256 → bcE (bcD (bcC (bcB (bcA (256 * (80 + a) + b))))) = cbN (256 * (80 + a) + b) 16 := by decide +kernel
theorem bcN_11 : ∀ a, a < 8 → ∀ b, b < 256 → bcE (bcD (bcC (bcB (bcA (256 * (88 + a) + b))))) = cbN (256 * (88 + a) + b) 16 := by decide +kernel
theorem bcN_12 : ∀ a, a < 8 → ∀ b, b < 256 → bcE (bcD (bcC (bcB (bcA (256 * (96 + a) + b))))) = cbN (256 * (96 + a) + b) 16 := by decide +kernel
theorem bcN_13 : ∀ a, a < 8 → ∀ b, b < 256 → bcE (bcD (bcC (bcB (bcA (256 * (104 + a) + b))))) = cbN (256 * (104 + a) + b) 16 := by decide +kernel
theorem bcN_14 : ∀ a, a < 8 → ∀ b, b < 256 → bcE (bcD (bcC (bcB (bcA (256 * (112 + a) + b))))) = cbN (256 * (112 + a) + b) 16 := by decide +kernel
theorem bcN_15 : ∀ a, a < 8 → ∀ b, b < 256 → bcE (bcD (bcC (bcB (bcA (256 * (120 + a) + b))))) = cbN (256 * (120 + a) + b) 16 := by decide +kernel
theorem bcN_16 : ∀ a, a < 8 → ∀ b, b < 256 → bcE (bcD (bcC (bcB (bcA (256 * (128 + a) + b))))) = cbN (256 * (128 + a) + b) 16 := by decide +kernel
theorem bcN_17 : ∀ a, a < 8 → ∀ b, b < 256 → bcE (bcD (bcC (bcB (bcA (256 * (136 + a) + b))))) = cbN (256 * (136 + a) + b) 16 := by decide +kernel
theorem bcN_18 : ∀ a, a < 8 → ∀ b, b < 256 → bcE (bcD (bcC (bcB (bcA (256 * (144 + a) + b))))) = cbN (256 * (144 + a) + b) 16 := by decide +kernel
theorem bcN_19 : ∀ a, a < 8 → ∀ b, b < 256 → bcE (bcD (bcC (bcB (bcA (256 * (152 + a) + b))))) = cbN (256 * (152 + a) + b) 16 := by decide +kernel
theorem bcN_20 : ∀ a, a < 8 → ∀ b, b < 256 → bcE (bcD (bcC (bcB (bcA (256 * (160 + a) + b))))) = cbN (256 * (160 + a) + b) 16 := by decide +kernel
theorem bcN_21 : ∀ a, a < 8 → ∀ b, b < 256 → bcE (bcD (bcC (bcB (bcA (256 * (168 + a) + b))))) = cbN (256 * (168 + a) + b) 16 := by decide +kernel
theorem bcN_22 : ∀ a, a < 8 → ∀ b, b < 256 → bcE (bcD (bcC (bcB (bcA (256 * (176 + a) + b))))) = cbN (256 * (176 + a) + b) 16 := by decide +kernel
theorem bcN_23 : ∀ a, a < 8 → ∀ b, b < 256 → bcE (bcD (bcC (bcB (bcA (256 * (184 + a) + b))))) = cbN (256 * (184 + a) + b) 16 := by decide +kernel
theorem bcN_24 : ∀ a, a < 8 → ∀ b, b < 256 → bcE (bcD (bcC (bcB (bcA (256 * (192 + a) + b))))) = cbN (256 * (192 + a) + b) 16 := by decide +kernel
theorem bcN_25 : ∀ a, a < 8 → ∀ b, b < 256 → bcE (bcD (bcC (bcB (bcA (256 * (200 + a) + b))))) = cbN (256 * (200 + a) + b) 16 := by decide +kernel
theorem bcN_26 : ∀ a, a < 8 → ∀ b, b < 256 → bcE (bcD (bcC (bcB (bcA (256 * (208 + a) + b))))) = cbN (256 * (208 + a) + b) 16 := by decide +kernel
theorem bcN_27 : ∀ a, a < 8 → ∀ b, b < 256 → bcE (bcD (bcC (bcB (bcA (256 * (216 + a) + b))))) = cbN (256 * (216 + a) + b) 16 := by decide +kernel
theorem bcN_28 : ∀ a, a < 8 → ∀ b, b < 256 → bcE (bcD (bcC (bcB (bcA (256 * (224 + a) + b))))) = cbN (256 * (224 + a) + b) 16 := by decide +kernel
theorem bcN_29 : ∀ a, a < 8 → ∀ b, b < 256 → bcE (bcD (bcC (bcB (bcA (256 * (232 + a) + b))))) = cbN (256 * (232 + a) + b) 16 := by decide +kernel
theorem bcN_30 : ∀ a, a < 8 → ∀ b, b < 256 → bcE (bcD (bcC (bcB (bcA (256 * (240 + a) + b))))) = cbN (256 * (240 + a) + b) 16 := by decide +kernel
theorem bcN_31 : ∀ a, a < 8 → ∀ b, b < 256 → bcE (bcD (bcC (bcB (bcA (256 * (248 + a) + b))))) = cbN (256 * (248 + a) + b) 16 := by decide +kernel
theorem bcN_ok : ∀ a, a < 256 → ∀ b, b < 256 → bcE (bcD (bcC (bcB (bcA (256 * a + b))))) = cbN (256 * a + b) 16 := by
  intro a ha b hb
  by_cases h0 : a < 8
  · have := bcN_0 (a - 0) (by omega) b hb
    rw [show 0 + (a - 0) = a by omega] at this
    exact this
  by_cases h1 : a < 16
  · have := bcN_1 (a - 8) (by omega) b hb
    rw [show 8 + (a - 8) = a by omega] at this
    exact this
  by_cases h2 : a < 24
  · have := bcN_2 (a - 16) (by omega) b hb
    rw [show 16 + (a - 16) = a by omega] at this
    exact this
  by_cases h3 : a < 32
  · have := bcN_3 (a - 24) (by omega) b hb
    rw [show 24 + (a - 24) = a by omega] at this
    exact this
  by_cases h4 : a < 40
  · have := bcN_4 (a - 32) (by omega) b hb
    rw [show 32 + (a - 32) = a by omega] at this
    exact this
  by_cases h5 : a < 48
  · have := bcN_5 (a - 40) (by omega) b hb
    rw [show 40 + (a - 40) = a by omega] at this
    exact this
  by_cases h6 : a < 56
  · have := bcN_6 (a - 48) (by omega) b hb
    rw [show 48 + (a - 48) = a by omega] at this
    exact this
  by_cases h7 : a < 64
  · have := bcN_7 (a - 56) (by omega) b hb
    rw [show 56 + (a - 56) = a by omega] at this
    exact this
  by_cases h8 : a < 72
  · have := bcN_8 (a - 64) (by omega) b hb
    rw [show 64 + (a - 64) = a by omega] at this
    exact this
  by_cases h9 : a < 80
  · have := bcN_9 (a - 72) (by omega) b hb
    rw [show 72 + (a - 72) = a by omega] at this
    exact this
  by_cases h10 : a < 88
  · have := bcN_10 (a - 80) (by omega) b hb
    rw [show 80 + (a - 80) = a by omega] at this
    exact this
  by_cases h11 : a < 96
  · have := bcN_11 (a - 88) (by omega) b hb
    rw [show 88 + (a - 88) = a by omega] at this
    exact this
  by_cases h12 : a < 104
  · have := bcN_12 (a - 96) (by omega) b hb
    rw [show 96 + (a - 96) = a by omega] at this
    exact this
  by_cases h13 : a < 112
  · have := bcN_13 (a - 104) (by omega) b hb
    rw [show 104 + (a - 104) = a by omega] at this
    exact this
  by_cases h14 : a < 120
  · have := bcN_14 (a - 112) (by omega) b hb
    rw [show 112 + (a - 112) = a by omega] at this
    exact this
  by_cases h15 : a < 128
  · have := bcN_15 (a - 120) (by omega) b hb
    rw [show 120 + (a - 120) = a by omega] at this
    exact this
  by_cases h16 : a < 136
  · have := bcN_16 (a - 128) (by omega) b hb
    rw [show 128 + (a - 128) = a by omega] at this
    exact this
  by_cases h17 : a < 144
  · have := bcN_17 (a - 136) (by omega) b hb
    rw [show 136 + (a - 136) = a by omega] at this
    exact this
  by_cases h18 : a < 152
  · have := bcN_18 (a - 144) (by omega) b hb
    rw [show 144 + (a - 144) = a by omega] at this
    exact this
  by_cases h19 : a < 160
  · have := bcN_19 (a - 152) (by omega) b hb
    rw [show 152 + (a - 152) = a by omega] at this
    exact this
  by_cases h20 : a < 168
  · have := bcN_20 (a - 160) (by omega) b hb
    rw [show 160 + (a - 160) = a by omega] at this
    exact this
  by_cases h21 : a < 176
  · have := bcN_21 (a - 168) (by omega) b hb
    rw [show 168 + (a - 168) = a by omega] at this
    exact this
  by_cases h22 : a < 184
  · have := bcN_22 (a - 176) (by omega) b hb
    rw [show 176 + (a - 176) = a by omega] at this
    exact this
  by_cases h23 : a < 192
  · have := bcN_23 (a - 184) (by omega) b hb
    rw [show 184 + (a - 184) = a by omega] at this
    exact this
  by_cases h24 : a < 200
  · have := bcN_24 (a - 192) (by omega) b hb
    rw [show 192 + (a - 192) = a by omega] at this
    exact this
  by_cases h25 : a < 208
  · have := bcN_25 (a - 200) (by omega) b hb
    rw [show 200 + (a - 200) = a by omega] at this
    exact this
  by_cases h26 : a < 216
  · have := bcN_26 (a - 208) (by omega) b hb
    rw [show 208 + (a - 208) = a by omega] at this
    exact this
  by_cases h27 : a < 224
  · have := bcN_27 (a - 216) (by omega) b hb
    rw [show 216 + (a - 216) = a by omega] at this
    exact this
  by_cases h28 : a < 232
  · have := bcN_28 (a - 224) (by omega) b hb
    rw [show 224 + (a - 224) = a by omega] at this
    exact this
  by_cases h29 : a < 240
  · have := bcN_29 (a - 232) (by omega) b hb
    rw [show 232 + (a - 232) = a by omega] at this
    exact this
  by_cases h30 : a < 248
  · have := bcN_30 (a - 240) (by omega) b hb
    rw [show 240 + (a - 240) = a by omega] at this
    exact this
  by_cases h31 : a < 256
  · have := bcN_31 (a - 248) (by omega) b hb
    rw [show 248 + (a - 248) = a by omega] at this
    exact this
  omega
theorem cb_nI (x : Nat) : ∀ i, i ≤ 32 → cb (nI x) i = cbN x i
  | 0, _ => rfl
  | i + 1, h => by
    show cb (nI x) i + (if bt (nI x) i = true then 1 else 0) = _
    rw [cb_nI x i (by omega), nI_bt x (by omega)]
    rfl
theorem bd_nI {s : Int32} (h : bd 16 s) : ∃ x, x < 65536 ∧ s = nI x := by
  refine ⟨s.toBitVec.toNat, ?_, ?_⟩
  · refine Nat.lt_pow_two_of_testBit (n := 16) _ (fun i hi => ?_)
    by_cases h9 : s.toBitVec.toNat.testBit i = true
    · have : bt s i = true := h9
      have := h i this
      omega
    · exact Bool.eq_false_iff.mpr h9
  · refine b_ext (fun i hi => ?_)
    rw [nI_bt _ hi]
    rfl
theorem bc_eq {s : Int32} (h : bd 16 s) : bc s = nI (cb s 16) := by
  obtain ⟨x, hx, rfl⟩ := bd_nI h
  rw [bc_nat hx, cb_nI x 16 (by omega)]
  have := bcN_ok (x / 256) (by omega) (x % 256) (by omega)
  rw [show 256 * (x / 256) + x % 256 = x by omega] at this
  rw [this]
theorem cb16 (s : Int32) : cb s 16 ≤ 16 := cb_le s 16
/-- one more -/
theorem cb_ins {s : Int32} {p : Nat} (hp : p < 32) (h : bt s p = false) : ∀ n, n ≤ 32 → cb (s ||| (1 : Int32) <<< (nI p &&& 31)) n = cb s n + (if p < n then 1 else 0)
  | 0, _ => by rw [if_neg (by omega)]; rfl
  | n + 1, hn => by
    show cb (s ||| (1 : Int32) <<< (nI p &&& 31)) n + (if bt (s ||| (1 : Int32) <<< (nI p &&& 31)) n = true then 1 else 0) = cb s n + (if bt s n = true then 1 else 0) + _
    rw [cb_ins hp h n (by omega), b_or, b_bit hp (by omega)]
    by_cases e : n = p
    · subst e
      have a1 : ¬ n < n := by omega
      have a2 : n < n + 1 := by omega
      simp only [h, a1, a2, decide_true, Bool.or_true, if_true, if_false, Bool.false_eq_true, Nat.add_zero]
    · by_cases h2 : p < n
      · have a2 : p < n + 1 := by omega
        simp only [e, h2, a2, decide_false, Bool.or_false, if_true]
        omega
      · have a2 : ¬ p < n + 1 := by omega
        simp only [e, h2, a2, decide_false, Bool.or_false, if_false, Nat.add_zero]
theorem cb_zero (n : Nat) : cb 0 n = 0 := by
  induction n with
  | zero => rfl
  | succ n ih => show cb 0 n + (if bt 0 n = true then 1 else 0) = 0; rw [ih, b_0]; rfl
