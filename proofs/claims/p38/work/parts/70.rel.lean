/-! the relation between the class's state and the law's arrays -/
def qA (T S : am_T) (n m v t : Nat) : Prop := T 0 0 = nI n ∧ S 71 0 = nI n ∧ n ≤ 4 ∧ T 1 0 = nI m ∧ S 72 0 = nI m ∧ m ≤ 10 ∧ T 2 0 = nI v ∧ v ≤ m ∧ T 3 0 = nI t ∧ S 70 0 = nI t ∧ t ≤ 14 ∧ ∀ j, j < 4 → T 4 j = S 80 j
/-- a box as a row of digits -/
def pkd (f : Nat → Int32) (p b m : Nat) (x : Int64) : Prop := ∃ X : Nat, X < 16 ^ b ∧ x = Int64.ofNat X ∧ ∀ j, j < b → X / 16 ^ j % 16 < m ∧ f (10 * p + j) = nI (X / 16 ^ j % 16)
def qP (T S : am_T) (o : Nat → Int64) (m c : Nat) : Prop := (∀ p, p < 8 → T 5 p = S 30 p ∧ (∃ w, w ≤ 110 ∧ S 30 p = nI w - 10) ∧ T 6 p = S 31 p ∧ (∃ q, q ≤ c ∧ S 31 p = nI q) ∧ T 7 p = S 32 p ∧ (S 32 p = 0 ∨ S 32 p = 1 ∨ S 32 p = 2) ∧ T 8 p = S 33 p ∧ ∃ b, b ≤ 10 ∧ S 33 p = nI b ∧ pkd (T 9) p b m (o p)) ∧ ∀ p, p < 16 → ∃ b, b ≤ 10 ∧ T 8 p = nI b
def qL (T S : am_T) (n : Nat) : Prop := ∀ l, l < n → (∃ p, p < 8 ∧ S 0 l = nI p) ∧ T 10 l = S 0 l ∧ T 15 l = S 1 l ∧ T 16 l = S 2 l ∧ (∃ d, 1 ≤ d ∧ d ≤ 7 ∧ S 2 l = nI d) ∧ T 17 l = S 3 l ∧ (S 3 l = 0 ∨ S 3 l = 1) ∧ T 14 l = S 4 l
def qF (S : am_T) (n : Nat) : Prop := ∀ l, n ≤ l → l < 4 → S 3 l = 0 ∧ S 4 l = 0 ∧ S 5 l = 0 ∧ S 6 l = 0 ∧ S 7 l = 0
def qK (T S : am_T) (n m v t : Nat) : Prop := ∀ k, k < m → T 18 k = nI k ∧ T 19 k = S 10 k ∧ (∃ p, p < 8 ∧ S 10 k = nI p) ∧ T 20 k = S 11 k ∧ (∃ l, l < n ∧ S 11 k = nI l) ∧ (∃ j, j < v ∧ T 21 k = nI j ∧ T 33 j = S 12 k) ∧ (∃ d, d ≤ t ∧ S 12 k = nI d) ∧ T 22 k = S 20 k ∧ T 23 k = S 14 k ∧ T 24 k = S 21 k ∧ (∃ e, e ≤ 21 ∧ S 21 k = nI e ∧ (S 13 k = 1 → S 22 k = 0 → t < e)) ∧ T 25 k = S 13 k ∧ T 26 k = S 15 k
def qQ (T S : am_T) (m : Nat) : Prop := ∀ k, k < m → (T 28 k = 1 ↔ ¬ S 22 k = 0) ∧ (S 22 k = 0 ∨ S 22 k = 1 ∨ S 22 k = 3) ∧ (S 22 k = 3 → S 13 k = 1) ∧ (S 13 k = 1 → ¬ S 22 k = 0 → S 22 k = 3) ∧ (S 22 k = 0 → S 24 k = 0 ∧ S 25 k = 0) ∧ (T 28 k = 1 → (T 32 k = 0 ↔ S 22 k = 1) ∧ S 23 k = T 29 k &&& (T 30 k ^^^ (-1)) &&& (T 31 k ^^^ (-1)) ∧ bd 16 (T 29 k) ∧ bd 16 (T 30 k) ∧ bd 16 (T 31 k) ∧ S 24 k = nI (cb (T 30 k) 16) ∧ S 25 k = nI (cb (T 31 k) 16))
/-- an open appeal isn't decided -/
def qV (T S : am_T) (m : Nat) : Prop := ∀ k, k < m → S 22 k = 3 → cb (T 30 k) 16 < 2 ∧ cb (T 31 k) 16 < 2
def qN (T S : am_T) (m : Nat) : Prop := (∀ k, m ≤ k → k < 10 → S 15 k = 0 ∧ S 22 k = 0 ∧ S 24 k = 0 ∧ S 25 k = 0) ∧ ∀ k, m ≤ k → k < 80 → ¬ T 28 k = 1
def qD (T S : am_T) (m v t c : Nat) (lt : Nat → Nat → Prop) : Prop :=
  (∀ j, j < v → ∃ d, d ≤ t ∧ T 33 j = nI d ∧ (T 37 j = 0 ↔ d = t) ∧ ∀ l, l < 4 → T 34 (10 * j + l) = S 50 (15 * l + d) ∧ (∃ e, e ≤ c ∧ T 35 (10 * j + l) = nI e ∧ S 40 (15 * l + d) = nI (2 * (e + (if bt (T 36 j) l = true then 1 else 0)) + (if S 50 (15 * l + d) = 0 then 0 else 1)) ∧ (S 50 (15 * l + d) = 0 → e = 0) ∧ (d = t → e = 0)) ∧ (bt (T 36 j) l = true ↔ lt l d) ∧ (bt (T 36 j) l = true → ¬ S 50 (15 * l + d) = 0 ∧ ¬ d = t)) ∧
  (∀ i j, i < v → j < v → T 33 i = T 33 j → i = j) ∧
  (∀ l d, l < 4 → d < 15 → (∀ j, j < v → ¬ T 33 j = nI d) → S 50 (15 * l + d) = 0 ∧ S 40 (15 * l + d) = 0) ∧
  ∀ l d, l < 4 → d < 15 → bd 10 (S 60 (15 * l + d)) ∧ ∀ k, k < 10 → (bt (S 60 (15 * l + d)) k = true ↔ k < m ∧ S 12 k = nI d ∧ bt (T 27 k) l = true)
/-- what stands still while mails pass -/
def qB (T S : am_T) (o : Nat → Int64) (n m v t c : Nat) : Prop := qA T S n m v t ∧ qP T S o m c ∧ qL T S n ∧ jP T S n ∧ qM T S n ∧ qF S n ∧ qK T S n m v t ∧ qQ T S m ∧ qN T S m
def j0 : Nat → Nat → Prop := fun _ _ => False
def qR (T S : am_T) (o : Nat → Int64) (n m v t c : Nat) : Prop := qB T S o n m v t c ∧ qD T S m v t c j0 ∧ qV T S m
def Rel (c : Nat) (T S : am_T) (o : Nat → Int64) : Prop := ∃ n m v t : Nat, qR T S o n m v t c
section
variable {T S T' S' : am_T} {o o' : Nat → Int64} {n m v t c : Nat}
theorem qA_c (h : qA T S n m v t) (t0 : T' 0 = T 0) (t1 : T' 1 = T 1) (t2 : T' 2 = T 2) (t3 : T' 3 = T 3) (t4 : T' 4 = T 4) (s70 : S' 70 = S 70) (s71 : S' 71 = S 71) (s72 : S' 72 = S 72) (s80 : S' 80 = S 80) : qA T' S' n m v t := by
  unfold qA at *; rw [t0, t1, t2, t3, t4, s70, s71, s72, s80]; exact h
theorem qP_c (h : qP T S o m c) (t5 : T' 5 = T 5) (t6 : T' 6 = T 6) (t7 : T' 7 = T 7) (t8 : T' 8 = T 8) (t9 : T' 9 = T 9) (s30 : S' 30 = S 30) (s31 : S' 31 = S 31) (s32 : S' 32 = S 32) (s33 : S' 33 = S 33) (ho : o' = o) : qP T' S' o' m c := by
  unfold qP at *; rw [t5, t6, t7, t8, t9, s30, s31, s32, s33, ho]; exact h
theorem qL_c (h : qL T S n) (t10 : T' 10 = T 10) (t14 : T' 14 = T 14) (t15 : T' 15 = T 15) (t16 : T' 16 = T 16) (t17 : T' 17 = T 17) (s0 : S' 0 = S 0) (s1 : S' 1 = S 1) (s2 : S' 2 = S 2) (s3 : S' 3 = S 3) (s4 : S' 4 = S 4) : qL T' S' n := by
  unfold qL at *; rw [t10, t14, t15, t16, t17, s0, s1, s2, s3, s4]; exact h
theorem jP_c (h : jP T S n) (t13 : T' 13 = T 13) (s5 : S' 5 = S 5) : jP T' S' n := by
  unfold jP at *; rw [t13, s5]; exact h
theorem qM_c (h : qM T S n) (t11 : T' 11 = T 11) (t12 : T' 12 = T 12) (s6 : S' 6 = S 6) (s7 : S' 7 = S 7) : qM T' S' n := by
  unfold qM at *; rw [t11, t12, s6, s7]; exact h
theorem qF_c (h : qF S n) (s3 : S' 3 = S 3) (s4 : S' 4 = S 4) (s5 : S' 5 = S 5) (s6 : S' 6 = S 6) (s7 : S' 7 = S 7) : qF S' n := by
  unfold qF at *; rw [s3, s4, s5, s6, s7]; exact h
theorem qK_c (h : qK T S n m v t) (t18 : T' 18 = T 18) (t19 : T' 19 = T 19) (t20 : T' 20 = T 20) (t21 : T' 21 = T 21) (t22 : T' 22 = T 22) (t23 : T' 23 = T 23) (t24 : T' 24 = T 24) (t25 : T' 25 = T 25) (t26 : T' 26 = T 26) (t33 : T' 33 = T 33) (s10 : S' 10 = S 10) (s11 : S' 11 = S 11) (s12 : S' 12 = S 12) (s13 : S' 13 = S 13) (s14 : S' 14 = S 14) (s15 : S' 15 = S 15) (s20 : S' 20 = S 20) (s21 : S' 21 = S 21) (s22 : S' 22 = S 22) : qK T' S' n m v t := by
  unfold qK at *; rw [t18, t19, t20, t21, t22, t23, t24, t25, t26, t33, s10, s11, s12, s13, s14, s15, s20, s21, s22]; exact h
theorem qQ_c (h : qQ T S m) (t28 : T' 28 = T 28) (t29 : T' 29 = T 29) (t30 : T' 30 = T 30) (t31 : T' 31 = T 31) (t32 : T' 32 = T 32) (s13 : S' 13 = S 13) (s22 : S' 22 = S 22) (s23 : S' 23 = S 23) (s24 : S' 24 = S 24) (s25 : S' 25 = S 25) : qQ T' S' m := by
  unfold qQ at *; rw [t28, t29, t30, t31, t32, s13, s22, s23, s24, s25]; exact h
theorem qV_c (h : qV T S m) (t30 : T' 30 = T 30) (t31 : T' 31 = T 31) (s22 : S' 22 = S 22) : qV T' S' m := by
  unfold qV at *; rw [t30, t31, s22]; exact h
theorem qN_c (h : qN T S m) (t28 : T' 28 = T 28) (s15 : S' 15 = S 15) (s22 : S' 22 = S 22) (s24 : S' 24 = S 24) (s25 : S' 25 = S 25) : qN T' S' m := by
  unfold qN at *; rw [t28, s15, s22, s24, s25]; exact h
theorem qD_c {lt : Nat → Nat → Prop} (h : qD T S m v t c lt) (t27 : T' 27 = T 27) (t33 : T' 33 = T 33) (t34 : T' 34 = T 34) (t35 : T' 35 = T 35) (t36 : T' 36 = T 36) (t37 : T' 37 = T 37) (s12 : S' 12 = S 12) (s40 : S' 40 = S 40) (s50 : S' 50 = S 50) (s60 : S' 60 = S 60) : qD T' S' m v t c lt := by
  unfold qD at *; rw [t27, t33, t34, t35, t36, t37, s12, s40, s50, s60]; exact h
theorem qP_m (h : qP T S o m c) {m' c' : Nat} (hm : m ≤ m') (hc : c ≤ c') : qP T S o m' c' := by
  refine ⟨fun p hp => ?_, h.2⟩
  obtain ⟨a1, a2, a3, ⟨q, hq, a4⟩, a5, a6, a7, b, hb, a8, X, x1, x2, x3⟩ := h.1 p hp
  exact ⟨a1, a2, a3, ⟨q, by omega, a4⟩, a5, a6, a7, b, hb, a8, X, x1, x2, fun j hj => ⟨Nat.lt_of_lt_of_le (x3 j hj).1 hm, (x3 j hj).2⟩⟩
theorem qD_m {lt : Nat → Nat → Prop} (h : qD T S m v t c lt) {c' : Nat} (hc : c ≤ c') : qD T S m v t c' lt := by
  refine ⟨fun j hj => ?_, h.2⟩
  obtain ⟨d, a1, a2, a3, a4⟩ := h.1 j hj
  refine ⟨d, a1, a2, a3, fun l hl => ?_⟩
  obtain ⟨b1, ⟨e, he, b2⟩, b3⟩ := a4 l hl
  exact ⟨b1, ⟨e, by omega, b2⟩, b3⟩
theorem qR_m (h : qR T S o n m v t c) {c' : Nat} (hc : c ≤ c') : qR T S o n m v t c' := by
  obtain ⟨⟨h1, h2, h3⟩, h4, h5⟩ := h
  exact ⟨⟨h1, qP_m h2 (Nat.le_refl m) hc, h3⟩, qD_m h4 hc, h5⟩
theorem qB_safe (h : qB T S o n m v t c) : tSafe T n m v := by
  obtain ⟨h1, h2, h3, h4, h5, h6, h7, h8, h9⟩ := h
  obtain ⟨a1, a2, a3, a4, a5, a6, a7, a8, a9, -⟩ := h1
  refine ⟨a1, by omega, a4, by omega, a7, by omega, h2.2, fun k hk => ?_⟩
  obtain ⟨-, b1, ⟨p, hp, b2⟩, b3, ⟨l, hl, b4⟩, ⟨j, hj, b5, -⟩, -⟩ := h7 k hk
  refine ⟨?_, ⟨p, by omega, b1.trans b2⟩, l, hl, b3.trans b4⟩
  rw [b5, nI_clamp (by omega)]
  exact hj
theorem qB_5 (h : qB T S o n m v t c) : ∀ l, n ≤ l → l < 4 → S 5 l = 0 := fun l h1 h2 => (h.2.2.2.2.2.1 l h1 h2).2.2.1
theorem qB_way (h : qB T S o n m v t c) {l p : Nat} (hl : l < n) (hp : p < 8) : (lWay S l p = -1 ∧ tLow T n (tDown T n l) p = -1) ∨ (lWay S l p = 0 ∧ ¬ tLow T n (tDown T n l) p = -1 ∧ tMode T n (tDown T n l) p = 0) ∨ ∃ i, i < n ∧ lWay S l p = nI (i + 1) ∧ tLow T n (tDown T n l) p = nI i ∧ tMode T n (tDown T n l) p = 1 := way_cases h.2.2.2.1 h.1.2.2.1 (qB_5 h) h.2.2.2.2.1 hl hp
theorem qB_re (h : qB T S o n m v t c) {l : Nat} (hl : l < n) : lRe S l = tMem T n (tDown T n l) := lRe_eq h.2.2.2.1 h.1.2.2.1 (qB_5 h) h.2.2.2.2.1 hl
theorem qB_win (h : qB T S o n m v t c) {l : Nat} (hl : l < n) : lWin S l = tDown T n l := lWin_eq h.2.2.2.1 h.1.2.2.1 (qB_5 h) hl
end
/-- an index, in or out -/
theorem st1_if (S : am_T) (f j : Nat) (v : Int32) (i : Nat) : st1 S f j v f i = if i = j then v else S f i := by
  by_cases e : i = j
  · subst e; rw [st1_same, if_pos rfl]
  · rw [st1_j e, if_neg e]
