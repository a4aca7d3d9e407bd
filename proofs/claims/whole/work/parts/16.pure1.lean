/-! ===== Int32 by its bits: bt x i ===== -/
def bt (x : Int32) (i : Nat) : Bool := x.toBitVec.getLsbD i
theorem b_ext {x y : Int32} (h : ∀ i, i < 32 → bt x i = bt y i) : x = y := Int32.toBitVec_inj.mp (BitVec.eq_of_getLsbD_eq (fun i hi => h i hi))
theorem b_or (x y : Int32) (i : Nat) : bt (x ||| y) i = (bt x i || bt y i) := by unfold bt; rw [Int32.toBitVec_or, BitVec.getLsbD_or]
theorem b_and (x y : Int32) (i : Nat) : bt (x &&& y) i = (bt x i && bt y i) := by unfold bt; rw [Int32.toBitVec_and, BitVec.getLsbD_and]
theorem b_xor (x y : Int32) (i : Nat) : bt (x ^^^ y) i = (bt x i ^^ bt y i) := by unfold bt; rw [Int32.toBitVec_xor, BitVec.getLsbD_xor]
theorem b_big {x : Int32} {i : Nat} (h : 32 ≤ i) : bt x i = false := BitVec.getLsbD_of_ge _ _ h
theorem b_255 (i : Nat) : bt 255 i = decide (i < 8) := by
  rcases Nat.lt_or_ge i 32 with h | h
  · exact (by decide +kernel : ∀ i, i < 32 → bt 255 i = decide (i < 8)) i h
  · rw [b_big h, decide_eq_false (by omega)]
theorem b_65535 (i : Nat) : bt 65535 i = decide (i < 16) := by
  rcases Nat.lt_or_ge i 32 with h | h
  · exact (by decide +kernel : ∀ i, i < 32 → bt 65535 i = decide (i < 16)) i h
  · rw [b_big h, decide_eq_false (by omega)]
theorem b_m1 : ∀ i, i < 32 → bt (-1) i = true := by decide +kernel
theorem b_0 (i : Nat) : bt 0 i = false := BitVec.getLsbD_zero
theorem s_l : ∀ n, n < 32 → ((nI n &&& 31).toBitVec.smod 32).toNat = n := by decide +kernel
theorem s_u : ∀ n, n < 32 → (((nI n).toUInt32 &&& Int32.toUInt32 31).toBitVec % 32).toNat = n := by decide +kernel
theorem b_shl (n : Nat) (hn : n < 32) (x : Int32) {i : Nat} (hi : i < 32) : bt (x <<< (nI n &&& 31)) i = (decide (n ≤ i) && bt x (i - n)) := by
  unfold bt
  rw [Int32.toBitVec_shiftLeft]
  show (x.toBitVec <<< ((nI n &&& 31).toBitVec.smod 32).toNat).getLsbD i = _
  rw [s_l n hn, BitVec.getLsbD_shiftLeft]
  rcases Nat.lt_or_ge i n with h | h
  · simp [h, Nat.not_le.mpr h]
  · simp [hi, h, Nat.not_lt.mpr h]
theorem b_ushr (n : Nat) (hn : n < 32) (x : Int32) (i : Nat) : bt ((x.toUInt32 >>> ((nI n).toUInt32 &&& Int32.toUInt32 31)).toInt32) i = bt x (n + i) := by
  show (x.toUInt32 >>> ((nI n).toUInt32 &&& Int32.toUInt32 31)).toBitVec.getLsbD i = x.toUInt32.toBitVec.getLsbD (n + i)
  rw [UInt32.toBitVec_shiftRight]
  show (x.toUInt32.toBitVec >>> (((nI n).toUInt32 &&& Int32.toUInt32 31).toBitVec % 32).toNat).getLsbD i = _
  rw [s_u n hn, BitVec.getLsbD_ushiftRight]
theorem b_sshr (n : Nat) (hn : n < 32) (x : Int32) {i : Nat} (hi : i < 32) : bt (x >>> (nI n &&& 31)) i = if n + i < 32 then bt x (n + i) else bt x 31 := by
  unfold bt
  rw [Int32.toBitVec_shiftRight]
  show (x.toBitVec.sshiftRight ((nI n &&& 31).toBitVec.smod 32).toNat).getLsbD i = _
  rw [s_l n hn, BitVec.getLsbD_sshiftRight, BitVec.msb_eq_getLsbD_last]
  simp [hi]
theorem b_shl8 (x : Int32) {i : Nat} (hi : i < 32) : bt (x <<< ((8 : Int32) &&& 31)) i = (decide (8 ≤ i) && bt x (i - 8)) := b_shl 8 (by omega) x hi
theorem b_shl16 (x : Int32) {i : Nat} (hi : i < 32) : bt (x <<< ((16 : Int32) &&& 31)) i = (decide (16 ≤ i) && bt x (i - 16)) := b_shl 16 (by omega) x hi
theorem b_shl24 (x : Int32) {i : Nat} (hi : i < 32) : bt (x <<< ((24 : Int32) &&& 31)) i = (decide (24 ≤ i) && bt x (i - 24)) := b_shl 24 (by omega) x hi
theorem b_sshr8 (x : Int32) {i : Nat} (hi : i < 32) : bt (x >>> ((8 : Int32) &&& 31)) i = if 8 + i < 32 then bt x (8 + i) else bt x 31 := b_sshr 8 (by omega) x hi
theorem b_1 (i : Nat) : bt 1 i = decide (i = 0) := by
  rcases Nat.lt_or_ge i 32 with h | h
  · exact (by decide +kernel : ∀ i, i < 32 → bt 1 i = decide (i = 0)) i h
  · rw [b_big h, decide_eq_false (by omega)]
theorem b_bit {j : Nat} (hj : j < 32) {i : Nat} (hi : i < 32) : bt ((1 : Int32) <<< (nI j &&& 31)) i = decide (i = j) := by
  rw [b_shl j hj 1 hi, b_1]
  by_cases h : i = j
  · subst h; simp
  · rw [decide_eq_false h]
    by_cases h2 : j ≤ i
    · rw [decide_eq_true h2, decide_eq_false (by omega)]; rfl
    · rw [decide_eq_false h2]; rfl
theorem bt_iff {x : Int32} {k : Nat} (hk : k < 32) : (x >>> (nI k &&& 31)) &&& 1 = 1 ↔ bt x k = true := by
  have key : ∀ i, i < 32 → bt ((x >>> (nI k &&& 31)) &&& 1) i = (bt x k && decide (i = 0)) := by
    intro i hi
    rw [b_and, b_1, b_sshr k hk x hi]
    by_cases h : i = 0
    · subst h; simp [hk]
    · simp [h]
  constructor
  · intro h
    have := key 0 (by decide)
    rw [h, b_1] at this
    simpa using this.symm
  · intro h
    refine b_ext (fun i hi => ?_)
    rw [key i hi, h, b_1]
    rfl
theorem bt_iff0 {x : Int32} {k : Nat} (hk : k < 32) : (x >>> (nI k &&& 31)) &&& 1 = 0 ↔ bt x k = false := by
  have key : ∀ i, i < 32 → bt ((x >>> (nI k &&& 31)) &&& 1) i = (bt x k && decide (i = 0)) := by
    intro i hi
    rw [b_and, b_1, b_sshr k hk x hi]
    by_cases h : i = 0
    · subst h; simp [hk]
    · simp [h]
  constructor
  · intro h
    have := key 0 (by decide)
    rw [h, b_0] at this
    simpa using this.symm
  · intro h
    refine b_ext (fun i hi => ?_)
    rw [key i hi, h, b_0]
    rfl
-- what a mail's passing leaves as it was, in the reference
theorem rOne_f {S : am_T} {n p g : Nat} (h6 : g ≠ 6) (h16 : g ≠ 16) : rOne S n p g = S g := by
  unfold rOne
  split
  · rw [itN_f (F := rone p) g (fun k S => st1_f h16), st1_f h6, st1_f h6]
  · rw [st1_f h6]
theorem rone_m (p : Nat) (k : Nat) (S : am_T) (j : Nat) : rone p k S 16 j = -1 ↔ S 16 j = -1 := by
  unfold rone
  rw [st1_at]
  by_cases h : j = 16 * k + p
  · subst h
    rw [if_pos ⟨rfl, rfl⟩]
    by_cases h2 : S 16 (16 * k + p) = -1
    · rw [if_pos h2]; exact ⟨fun _ => h2, fun _ => rfl⟩
    · rw [if_neg h2]; exact ⟨fun e => absurd e (by decide), fun e => absurd e h2⟩
  · rw [if_neg (fun e => h e.2)]
theorem rOne_m (S : am_T) (n p j : Nat) : rOne S n p 16 j = -1 ↔ S 16 j = -1 := by
  unfold rOne
  split
  · have : ∀ i (S0 : am_T), itN (rone p) S0 i 16 j = -1 ↔ S0 16 j = -1 := by
      intro i S0
      induction i with
      | zero => exact Iff.rfl
      | succ i ih => exact (rone_m p i _ j).trans ih
    rw [this, st1_f (by decide), st1_f (by decide)]
  · rw [st1_f (by decide)]
theorem rBox_f {S : am_T} {n k p b g : Nat} (h6 : g ≠ 6) (h16 : g ≠ 16) (h7 : g ≠ 7) (h8 : g ≠ 8) (h25 : g ≠ 25) : rBox S n k p b g = S g := by
  unfold rBox
  split
  · exact rOne_f h6 h16
  · rw [st1_f h25, st1_f h7, st1_f h8]
theorem rBox_m (S : am_T) (n k p b j : Nat) : rBox S n k p b 16 j = -1 ↔ S 16 j = -1 := by
  unfold rBox
  split
  · exact rOne_m S n p j
  · rw [st1_f (by decide), st1_f (by decide), st1_f (by decide)]
theorem rDi3_f {S : am_T} {k l p d g : Nat} (h32 : g ≠ 32) (h34 : g ≠ 34) (h25 : g ≠ 25) : rDi3 S k l p d g = S g := by
  unfold rDi3
  rw [st1_f h25, st1_f h34, st1_f h32]
theorem rDig_f {S : am_T} {k l p d g : Nat} (h31 : g ≠ 31) (h32 : g ≠ 32) (h33 : g ≠ 33) (h34 : g ≠ 34) (h35 : g ≠ 35) (h25 : g ≠ 25) : rDig S k l p d g = S g := by
  unfold rDig
  rw [st1_f h31]
  split
  · rw [st1_f h35, st1_f h33, rDi3_f h32 h34 h25]
  · exact rDi3_f h32 h34 h25
def rMm (S1 S0 : am_T) : Prop := S1 15 = S0 15 ∧ ∀ j, S1 16 j = -1 ↔ S0 16 j = -1
theorem rWin_c {S1 S0 : am_T} (h : S1 15 = S0 15) (n l : Nat) : rWin S1 n l = rWin S0 n l := by
  have : rw1 S1 = rw1 S0 := by funext k s; unfold rw1; rw [h]
  unfold rWin
  rw [this]
theorem rMB_c {S1 S0 : am_T} (h : rMm S1 S0) (n l p : Nat) : rMB S1 n l p (-1) = rMB S0 n l p (-1) := by
  unfold rMB
  rw [rWin_c h.1]
  congr 1
  funext k f
  unfold rmb
  simp only [h.2, true_or, and_true]
theorem rMB_in (S : am_T) (n l p : Nat) (how : Int32) : rMB S n l p how = -1 ∨ ∃ q, q < n ∧ rMB S n l p how = nI q := by
  have : ∀ (i : Nat) (f : Int32), i ≤ n → (f = -1 ∨ ∃ q, q < n ∧ f = nI q) → (itD (rmb S (rWin S n l) p how) f i = -1 ∨ ∃ q, q < n ∧ itD (rmb S (rWin S n l) p how) f i = nI q) := by
    intro i
    induction i with
    | zero => intro f _ h; exact h
    | succ i ih =>
      intro f hi h
      refine ih _ (by omega) ?_
      unfold rmb
      split
      · exact Or.inr ⟨i, by omega, rfl⟩
      · exact h
  exact this n (-1) (Nat.le_refl _) (Or.inl rfl)
theorem rRe_bit (S : am_T) (n l : Nat) {q : Nat} (hq : q < 16) : bt (rRe S n l) q = decide (rMB S n l q (-1) ≠ -1) := by
  have : ∀ i, i ≤ 16 → bt (itN (rre S n l) 0 i) q = decide (q < i ∧ rMB S n l q (-1) ≠ -1) := by
    intro i
    induction i with
    | zero => intro _; exact (b_0 q).trans (by simp)
    | succ i ih =>
      intro hi
      show bt (itN (rre S n l) 0 i ||| (if rMB S n l i (-1) = -1 then 0 else (1 : Int32) <<< (nI i &&& 31))) q = _
      rw [b_or, ih (by omega)]
      by_cases h : rMB S n l i (-1) = -1
      · rw [if_pos h, b_0, Bool.or_false]
        by_cases e : q = i
        · subst e; simp [h]
        · have : (q < i + 1) ↔ q < i := by omega
          simp [this]
      · rw [if_neg h, b_bit (by omega) (by omega)]
        by_cases e : q = i
        · subst e; simp [h]
        · have : (q < i + 1) ↔ q < i := by omega
          simp [this, e]
  have h := this 16 (Nat.le_refl _)
  simp only [hq, true_and] at h
  exact h
/-- one person's turn when the mail k passes -/
def rps (n l k : Nat) (set : Int32) (q : Nat) (S : am_T) : am_T := if nI q = S 18 k then S else if set >>> (nI q &&& 31) &&& 1 = 1 then (if rMode S n l q = 0 then rBox S n k q (S 7 q).toNatClampNeg else rDig S k (rMB S n l q (-1)).toNatClampNeg q (S 20 k).toNatClampNeg) else S
def rPass (S : am_T) (n k l : Nat) : am_T := itN (rps n l k (rRe (st1 S 24 k 0) n l)) (st1 S 24 k 0) 16
def rSafe (S : am_T) (n k l d : Nat) : Prop := S 9 0 = nI n ∧ n ≤ 10 ∧ l < n ∧ k < 80 ∧ S 19 k = nI l ∧ S 20 k = nI d ∧ d ≤ 400 ∧ ∀ q, q < 16 → ∃ b, b ≤ 10 ∧ S 7 q = nI b
theorem rps_f {n l k q : Nat} {set : Int32} {S : am_T} {g : Nat} (h : g ≠ 6 ∧ g ≠ 16 ∧ g ≠ 7 ∧ g ≠ 8 ∧ g ≠ 25 ∧ g ≠ 31 ∧ g ≠ 32 ∧ g ≠ 33 ∧ g ≠ 34 ∧ g ≠ 35) : rps n l k set q S g = S g := by
  obtain ⟨h6, h16, h7, h8, h25, h31, h32, h33, h34, h35⟩ := h
  unfold rps
  split
  · rfl
  · split
    · split
      · exact rBox_f h6 h16 h7 h8 h25
      · exact rDig_f h31 h32 h33 h34 h35 h25
    · rfl
theorem rps_m (n l k q : Nat) (set : Int32) (S : am_T) (j : Nat) : rps n l k set q S 16 j = -1 ↔ S 16 j = -1 := by
  unfold rps
  split
  · exact Iff.rfl
  · split
    · split
      · exact rBox_m _ _ _ _ _ _
      · rw [rDig_f (by decide) (by decide) (by decide) (by decide) (by decide) (by decide)]
    · exact Iff.rfl
theorem rps_7 {n l k q : Nat} {set : Int32} {S : am_T} (hS : ∀ q, q < 16 → ∃ b, b ≤ 10 ∧ S 7 q = nI b) (hq : q < 16) : ∀ i, i < 16 → ∃ b, b ≤ 10 ∧ rps n l k set q S 7 i = nI b := by
  intro i hi
  unfold rps
  split
  · exact hS i hi
  · split
    · split
      · unfold rBox
        split
        · rw [rOne_f (by decide) (by decide)]; exact hS i hi
        · rename_i h10
          rw [st1_f (by decide), st1_at]
          by_cases e : i = q
          · subst e
            rw [if_pos ⟨rfl, rfl⟩]
            obtain ⟨b, hb, e⟩ := hS i hi
            rw [e, nI_clamp (by omega)] at h10 ⊢
            have : b ≠ 10 := fun e => h10 (by rw [e]; rfl)
            exact ⟨b + 1, by omega, nI_1 b⟩
          · rw [if_neg (fun h => e h.2), st1_f (by decide)]
            exact hS i hi
      · rw [rDig_f (by decide) (by decide) (by decide) (by decide) (by decide) (by decide)]
        exact hS i hi
    · exact hS i hi
theorem rps_safe {n l k d q : Nat} {set : Int32} {S : am_T} (h : rSafe S n k l d) (hq : q < 16) : rSafe (rps n l k set q S) n k l d := by
  obtain ⟨h1, h2, h3, h4, h5, h6, h7, h8⟩ := h
  refine ⟨?_, h2, h3, h4, ?_, ?_, h7, rps_7 h8 hq⟩
  · rw [rps_f (by decide)]; exact h1
  · rw [rps_f (by decide)]; exact h5
  · rw [rps_f (by decide)]; exact h6
theorem rps_it {n l k d : Nat} {set : Int32} {S : am_T} (h : rSafe S n k l d) : ∀ j, j ≤ 16 → rSafe (itN (rps n l k set) S j) n k l d ∧ rMm (itN (rps n l k set) S j) S := by
  intro j
  induction j with
  | zero => intro _; exact ⟨h, rfl, fun _ => Iff.rfl⟩
  | succ j ih =>
    intro hj
    obtain ⟨a, b⟩ := ih (by omega)
    refine ⟨rps_safe a (by omega), ?_, fun i => (rps_m _ _ _ _ _ _ i).trans (b.2 i)⟩
    show rps n l k set j _ 15 = _
    rw [rps_f (by decide)]
    exact b.1
/-- a person of the set is a member by one of the lists, whatever came to pass since -/
theorem rps_low {S1 S0 : am_T} {n l q : Nat} (hq : q < 16) (hm : rMm S1 S0) (hb : rRe S0 n l >>> (nI q &&& 31) &&& 1 = 1) : ∃ i, i < n ∧ rMB S1 n l q (-1) = nI i := by
  have h1 := (bt_iff (by omega)).mp hb
  rw [rRe_bit S0 n l hq, decide_eq_true_eq, ← rMB_c hm n l q] at h1
  rcases rMB_in S1 n l q (-1) with h | h
  · exact absurd h h1
  · exact h
