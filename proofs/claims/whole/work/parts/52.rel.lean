/-! the relation between the class's state and the reference's -/
def jA (T S : am_T) (n m v t c : Nat) : Prop := T 0 0 = nI n ∧ S 9 0 = nI n ∧ n ≤ 10 ∧ T 1 0 = nI m ∧ S 17 0 = nI m ∧ m ≤ 80 ∧ T 2 0 = nI v ∧ v ≤ m ∧ T 3 0 = nI t ∧ S 1 0 = nI t ∧ t ≤ 400 ∧ S 2 0 = nI c ∧ ∀ j, j < 20 → T 4 j = S 3 j
def jW (T S : am_T) : Prop := (∀ p, p < 16 → T 5 p = S 4 p ∧ T 6 p = S 5 p ∧ T 7 p = S 6 p ∧ (S 6 p = 0 ∨ S 6 p = 1 ∨ S 6 p = 2) ∧ T 8 p = S 7 p ∧ ∃ b, b ≤ 10 ∧ S 7 p = nI b) ∧ ∀ i, i < 160 → T 9 i = S 8 i
def jL (T S : am_T) (n : Nat) : Prop := ∀ l, l < n → (∃ p, p < 16 ∧ S 10 l = nI p) ∧ T 10 l = S 10 l ∧ T 14 l = S 14 l ∧ T 15 l = S 11 l ∧ T 16 l = S 12 l ∧ (∃ d, 1 ≤ d ∧ d ≤ 30 ∧ S 12 l = nI d) ∧ T 17 l = S 13 l
def jF (S : am_T) (n : Nat) : Prop := ∀ l, n ≤ l → l < 10 → S 13 l = 0 ∧ S 14 l = 0 ∧ S 15 l = 0
def jK (T S : am_T) (n m v t : Nat) : Prop := ∀ k, k < m → T 18 k = nI k ∧ T 19 k = S 18 k ∧ (∃ p, p < 16 ∧ S 18 k = nI p) ∧ T 20 k = S 19 k ∧ (∃ l, l < n ∧ S 19 k = nI l) ∧ (∃ j, j < v ∧ T 21 k = nI j ∧ T 33 j = S 20 k) ∧ (∃ d, d ≤ t ∧ S 20 k = nI d) ∧ T 22 k = S 22 k ∧ T 23 k = S 23 k ∧ T 24 k = S 21 k ∧ (∃ e, e ≤ 430 ∧ S 21 k = nI e ∧ (S 24 k = 1 → S 26 k = 0 → t < e)) ∧ T 25 k = S 24 k ∧ T 26 k = S 25 k ∧ (∀ l, l < 10 → (bt (T 27 k) l = true ↔ ¬ S 31 (10 * k + l) = 0)) ∧ (S 24 k = 1 → ∀ l, l < 10 → S 31 (10 * k + l) = 0)
def jQ (T S : am_T) (m : Nat) : Prop := ∀ k, k < m → (T 28 k = 1 ↔ ¬ S 26 k = 0) ∧ (¬ S 27 k = 0 → S 24 k = 1 ∧ ¬ S 26 k = 0) ∧ (S 24 k = 1 → ¬ S 26 k = 0 → ¬ S 27 k = 0) ∧ (S 26 k = 0 → S 29 k = 0 ∧ S 30 k = 0) ∧ (T 28 k = 1 → (T 32 k = 0 ↔ S 27 k = 0) ∧ S 28 k = T 29 k &&& (T 30 k ^^^ (-1)) &&& (T 31 k ^^^ (-1)) ∧ bd 16 (T 29 k) ∧ bd 16 (T 30 k) ∧ bd 16 (T 31 k) ∧ S 29 k = nI (cb (T 30 k) 16) ∧ S 30 k = nI (cb (T 31 k) 16))
/-- an open appeal isn't decided -/
def jV (T S : am_T) (m : Nat) : Prop := ∀ k, k < m → T 28 k = 1 → ¬ S 27 k = 0 → cb (T 30 k) 16 < 2 ∧ cb (T 31 k) 16 < 2
def jN (T S : am_T) (m : Nat) : Prop := ∀ k, m ≤ k → k < 80 → ¬ T 28 k = 1 ∧ S 25 k = 0 ∧ S 26 k = 0 ∧ S 27 k = 0 ∧ S 29 k = 0 ∧ S 30 k = 0 ∧ ∀ l, l < 10 → S 31 (10 * k + l) = 0
def jD (T S : am_T) (n v t c : Nat) (lt : Nat → Nat → Prop) : Prop :=
  (∀ j, j < v → ∃ d, d ≤ t ∧ T 33 j = nI d ∧ (T 37 j = 0 ↔ d = t) ∧ ∀ l, l < 10 → T 34 (10 * j + l) = S 34 (401 * l + d) ∧ S 33 (401 * l + d) = T 35 (10 * j + l) + (if bt (T 36 j) l = true then 1 else 0) ∧ (bt (T 36 j) l = true ↔ lt l d)) ∧
  (∀ i j, i < v → j < v → T 33 i = T 33 j → i = j) ∧
  ∀ l d, l < 10 → d ≤ 400 → (S 32 (401 * l + d) = 0 ↔ S 34 (401 * l + d) = 0) ∧ (n ≤ l → S 34 (401 * l + d) = 0) ∧ ((∀ j, j < v → ¬ T 33 j = nI d) → S 34 (401 * l + d) = 0 ∧ S 33 (401 * l + d) = 0) ∧ (d = t → S 33 (401 * l + d) = 0) ∧ ∃ c', c' ≤ c ∧ S 35 (401 * l + d) = nI c'
/-- what stands still while mails pass -/
def jB (T S : am_T) (n m v t c : Nat) : Prop := jA T S n m v t c ∧ jW T S ∧ jL T S n ∧ jP T S n ∧ jM T S n ∧ jF S n ∧ jK T S n m v t ∧ jQ T S m ∧ jN T S m
def j0 : Nat → Nat → Prop := fun _ _ => False
def jR (T S : am_T) (n m v t c : Nat) : Prop := jB T S n m v t c ∧ jD T S n v t c j0 ∧ jV T S m
def Rel (c : Nat) (T S : am_T) : Prop := ∃ n m v t c' : Nat, c' ≤ c ∧ jR T S n m v t c'
section
variable {T S T' S' : am_T} {n m v t c : Nat}
theorem jA_c (h : jA T S n m v t c) (t0 : T' 0 = T 0) (t1 : T' 1 = T 1) (t2 : T' 2 = T 2) (t3 : T' 3 = T 3) (t4 : T' 4 = T 4) (s9 : S' 9 = S 9) (s17 : S' 17 = S 17) (s1 : S' 1 = S 1) (s2 : S' 2 = S 2) (s3 : S' 3 = S 3) : jA T' S' n m v t c := by
  unfold jA at *; rw [t0, t1, t2, t3, t4, s9, s17, s1, s2, s3]; exact h
theorem jW_c (h : jW T S) (t5 : T' 5 = T 5) (t6 : T' 6 = T 6) (t7 : T' 7 = T 7) (t8 : T' 8 = T 8) (t9 : T' 9 = T 9) (s4 : S' 4 = S 4) (s5 : S' 5 = S 5) (s6 : S' 6 = S 6) (s7 : S' 7 = S 7) (s8 : S' 8 = S 8) : jW T' S' := by
  unfold jW at *; rw [t5, t6, t7, t8, t9, s4, s5, s6, s7, s8]; exact h
theorem jL_c (h : jL T S n) (t10 : T' 10 = T 10) (t14 : T' 14 = T 14) (t15 : T' 15 = T 15) (t16 : T' 16 = T 16) (t17 : T' 17 = T 17) (s10 : S' 10 = S 10) (s11 : S' 11 = S 11) (s12 : S' 12 = S 12) (s13 : S' 13 = S 13) (s14 : S' 14 = S 14) : jL T' S' n := by
  unfold jL at *; rw [t10, t14, t15, t16, t17, s10, s11, s12, s13, s14]; exact h
theorem jP_c (h : jP T S n) (t13 : T' 13 = T 13) (s15 : S' 15 = S 15) : jP T' S' n := by
  unfold jP at *; rw [t13, s15]; exact h
theorem jM_c (h : jM T S n) (t11 : T' 11 = T 11) (t12 : T' 12 = T 12) (s16 : S' 16 = S 16) : jM T' S' n := by
  unfold jM at *; rw [t11, t12, s16]; exact h
theorem jF_c (h : jF S n) (s13 : S' 13 = S 13) (s14 : S' 14 = S 14) (s15 : S' 15 = S 15) : jF S' n := by
  unfold jF at *; rw [s13, s14, s15]; exact h
theorem jK_c (h : jK T S n m v t) (t18 : T' 18 = T 18) (t19 : T' 19 = T 19) (t20 : T' 20 = T 20) (t21 : T' 21 = T 21) (t22 : T' 22 = T 22) (t23 : T' 23 = T 23) (t24 : T' 24 = T 24) (t25 : T' 25 = T 25) (t26 : T' 26 = T 26) (t27 : T' 27 = T 27) (t33 : T' 33 = T 33) (s18 : S' 18 = S 18) (s19 : S' 19 = S 19) (s20 : S' 20 = S 20) (s21 : S' 21 = S 21) (s22 : S' 22 = S 22) (s23 : S' 23 = S 23) (s24 : S' 24 = S 24) (s25 : S' 25 = S 25) (s26 : S' 26 = S 26) (s31 : S' 31 = S 31) : jK T' S' n m v t := by
  unfold jK at *; rw [t18, t19, t20, t21, t22, t23, t24, t25, t26, t27, t33, s18, s19, s20, s21, s22, s23, s24, s25, s26, s31]; exact h
theorem jQ_c (h : jQ T S m) (t28 : T' 28 = T 28) (t29 : T' 29 = T 29) (t30 : T' 30 = T 30) (t31 : T' 31 = T 31) (t32 : T' 32 = T 32) (s24 : S' 24 = S 24) (s26 : S' 26 = S 26) (s27 : S' 27 = S 27) (s28 : S' 28 = S 28) (s29 : S' 29 = S 29) (s30 : S' 30 = S 30) : jQ T' S' m := by
  unfold jQ at *; rw [t28, t29, t30, t31, t32, s24, s26, s27, s28, s29, s30]; exact h
theorem jV_c (h : jV T S m) (t28 : T' 28 = T 28) (t30 : T' 30 = T 30) (t31 : T' 31 = T 31) (s27 : S' 27 = S 27) : jV T' S' m := by
  unfold jV at *; rw [t28, t30, t31, s27]; exact h
theorem jN_c (h : jN T S m) (t28 : T' 28 = T 28) (s25 : S' 25 = S 25) (s26 : S' 26 = S 26) (s27 : S' 27 = S 27) (s29 : S' 29 = S 29) (s30 : S' 30 = S 30) (s31 : S' 31 = S 31) : jN T' S' m := by
  unfold jN at *; rw [t28, s25, s26, s27, s29, s30, s31]; exact h
theorem jD_c {lt : Nat → Nat → Prop} (h : jD T S n v t c lt) (t33 : T' 33 = T 33) (t34 : T' 34 = T 34) (t35 : T' 35 = T 35) (t36 : T' 36 = T 36) (t37 : T' 37 = T 37) (s32 : S' 32 = S 32) (s33 : S' 33 = S 33) (s34 : S' 34 = S 34) (s35 : S' 35 = S 35) : jD T' S' n v t c lt := by
  unfold jD at *; rw [t33, t34, t35, t36, t37, s32, s33, s34, s35]; exact h
theorem jR_0 (h : jR T S n m v t c) (x : Int32) : jR T (st1 S 0 0 x) n m v t c := by
  obtain ⟨⟨h1, h2, h3, h4, h5, h6, h7, h8, h9⟩, h10⟩ := h
  exact ⟨⟨jA_c h1 rfl rfl rfl rfl rfl rfl rfl rfl rfl rfl, jW_c h2 rfl rfl rfl rfl rfl rfl rfl rfl rfl rfl, jL_c h3 rfl rfl rfl rfl rfl rfl rfl rfl rfl rfl, jP_c h4 rfl rfl, jM_c h5 rfl rfl rfl, jF_c h6 rfl rfl rfl, jK_c h7 rfl rfl rfl rfl rfl rfl rfl rfl rfl rfl rfl rfl rfl rfl rfl rfl rfl rfl rfl rfl rfl, jQ_c h8 rfl rfl rfl rfl rfl rfl rfl rfl rfl rfl rfl, jN_c h9 rfl rfl rfl rfl rfl rfl rfl⟩, jD_c h10.1 rfl rfl rfl rfl rfl rfl rfl rfl rfl, jV_c h10.2 rfl rfl rfl rfl⟩
theorem Rel_r {c0 : Nat} (hc : c ≤ c0) (h : jR T S n m v t c) : Rel c0 T S := ⟨n, m, v, t, c, hc, h⟩
theorem Rel_0 {c0 : Nat} (hc : c ≤ c0) (h : jR T S n m v t c) (x : Int32) : Rel (c0 + 1) T (st1 S 0 0 x) := ⟨n, m, v, t, c, by omega, jR_0 h x⟩
theorem Rel_00 {c0 : Nat} (hc : c ≤ c0) (h : jR T S n m v t c) (x y : Int32) : Rel (c0 + 1) T (st1 (st1 S 0 0 x) 0 0 y) := ⟨n, m, v, t, c, by omega, jR_0 (jR_0 h x) y⟩
theorem jR_safe (h : jR T S n m v t c) : tSafe T n m v := by
  obtain ⟨⟨h1, h2, h3, h4, h5, h6, h7, h8, h9⟩, h10⟩ := h
  obtain ⟨a1, a2, a3, a4, a5, a6, a7, a8, a9, -⟩ := h1
  refine ⟨a1, a3, a4, a6, a7, by omega, fun p hp => ?_, fun k hk => ?_⟩
  · obtain ⟨-, -, -, -, e, b, hb, e2⟩ := h2.1 p hp
    exact ⟨b, hb, e.trans e2⟩
  · obtain ⟨-, b1, ⟨p, hp, b2⟩, b3, ⟨l, hl, b4⟩, ⟨j, hj, b5, -⟩, -⟩ := h7 k hk
    refine ⟨?_, ⟨p, hp, b1.trans b2⟩, l, hl, b3.trans b4⟩
    rw [b5, nI_clamp (by omega)]
    exact hj
theorem jR_all (h : jR T S n m v t c) : rAll S n m := by
  obtain ⟨⟨h1, h2, h3, h4, h5, h6, h7, h8, h9⟩, h10⟩ := h
  obtain ⟨a1, a2, a3, a4, a5, a6, a7, a8, a9, a10, a11, -⟩ := h1
  refine ⟨a2, a3, a5, a6, fun p hp => ?_, fun k hk => ?_⟩
  · obtain ⟨-, -, -, -, e, b, hb, e2⟩ := h2.1 p hp
    exact ⟨b, hb, e2⟩
  · obtain ⟨-, b1, b2, b3, b4, -, ⟨d, hd, b6⟩, -⟩ := h7 k hk
    exact ⟨b2, b4, d, by omega, b6⟩
end
/-- an index, in or out -/
theorem ixs (x : Int32) (n : Nat) (hn : n < 2 ^ 31) : (x < 0 ∨ nI n ≤ x) ∨ ∃ j, j < n ∧ x = nI j := by
  by_cases h1 : x < 0
  · exact Or.inl (Or.inl h1)
  by_cases h2 : nI n ≤ x
  · exact Or.inl (Or.inr h2)
  refine Or.inr ⟨x.toNatClampNeg, ?_, ?_⟩
  · have h3 : 0 ≤ x := Int32.not_lt.mp h1
    have h4 : x < nI n := Int32.not_le.mp h2
    have e : x = nI x.toNatClampNeg := by
      refine Int32.toInt_inj.mp ?_
      have h5 : (0 : Int) ≤ x.toInt := by have := Int32.le_iff_toInt_le.mp h3; simpa using this
      show x.toInt = (Int32.ofNat x.toInt.toNat).toInt
      rw [Int32.toInt_ofNat_of_lt (by have := Int32.toInt_lt x; omega)]
      omega
    have h6 : x.toNatClampNeg < 2 ^ 31 := by
      show x.toInt.toNat < 2 ^ 31
      have := Int32.toInt_lt x
      omega
    rw [e] at h4
    exact (nI_ltI h6 hn).mp h4
  · have h3 : 0 ≤ x := Int32.not_lt.mp h1
    refine Int32.toInt_inj.mp ?_
    have h5 : (0 : Int) ≤ x.toInt := by have := Int32.le_iff_toInt_le.mp h3; simpa using this
    show x.toInt = (Int32.ofNat x.toInt.toNat).toInt
    rw [Int32.toInt_ofNat_of_lt (by have := Int32.toInt_lt x; omega)]
    omega
theorem up0 (o : Nat → Int64) (v : Int64) : am_updL o 0 v 0 = v := rfl
