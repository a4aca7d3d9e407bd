/-! pure: what each call does to both, 2: read; days go by -/
/-- how many -/
def cn (P : Nat → Bool) : Nat → Nat
  | 0 => 0
  | m + 1 => cn P m + (if P m = true then 1 else 0)
theorem cn_le (P : Nat → Bool) : ∀ m, cn P m ≤ m
  | 0 => Nat.le_refl 0
  | m + 1 => by
    have := cn_le P m
    show cn P m + _ ≤ _
    by_cases h : P m = true
    · rw [if_pos h]; omega
    · rw [if_neg h]; omega
theorem cn_c {P Q : Nat → Bool} : ∀ m, (∀ k, k < m → P k = Q k) → cn P m = cn Q m
  | 0, _ => rfl
  | m + 1, h => by
    show cn P m + _ = cn Q m + _
    rw [cn_c m (fun k hk => h k (by omega)), h m (by omega)]
theorem cn_add {P Q R : Nat → Bool} : ∀ m, (∀ k, k < m → (R k = true ↔ P k = true ∨ Q k = true) ∧ ¬ (P k = true ∧ Q k = true)) → cn R m = cn P m + cn Q m
  | 0, _ => rfl
  | m + 1, h => by
    have h1 := h m (by omega)
    have ih := cn_add (P := P) (Q := Q) (R := R) m (fun k hk => h k (by omega))
    show cn R m + _ = cn P m + _ + (cn Q m + _)
    by_cases hP : P m = true
    · have hQ : ¬ Q m = true := fun e => h1.2 ⟨hP, e⟩
      rw [if_pos hP, if_neg hQ, if_pos (h1.1.mpr (Or.inl hP))]; omega
    · by_cases hQ : Q m = true
      · rw [if_neg hP, if_pos hQ, if_pos (h1.1.mpr (Or.inr hQ))]; omega
      · rw [if_neg hP, if_neg hQ, if_neg (fun e => (h1.1.mp e).elim hP hQ)]; omega
/-- mails that meet C go to state 2, and are counted -/
theorem lap_at (g : Nat) (C : am_T → Nat → Prop) [∀ X k, Decidable (C X k)] (F : Nat → am_T × Int32 → am_T × Int32) (hF : ∀ k x, F k x = if C x.1 k then (st1 x.1 g k 2, x.2 + 1) else x) (hC : ∀ X Y k, (∀ a, ¬ a = g → Y a = X a) → Y g k = X g k → (C Y k ↔ C X k)) (X : am_T) : ∀ j, (itN F (X, 0) j).1 = (fun a i => if a = g ∧ i < j ∧ C X i then 2 else X a i) ∧ (itN F (X, 0) j).2 = nI (cn (fun k => decide (C X k)) j) := by
  intro j
  induction j with
  | zero =>
    refine ⟨?_, rfl⟩
    funext a i
    rw [if_neg (fun h => absurd h.2.1 (by omega))]
    rfl
  | succ j ih =>
    obtain ⟨i1, i2⟩ := ih
    show (F j (itN F (X, 0) j)).1 = _ ∧ (F j (itN F (X, 0) j)).2 = nI (cn _ j + (if decide (C X j) = true then 1 else 0))
    have hc : C (itN F (X, 0) j).1 j ↔ C X j := hC _ _ _ (fun a ha => by rw [i1]; funext i; exact if_neg (fun h => ha h.1)) (by rw [i1]; exact if_neg (fun h => absurd h.2.1 (by omega)))
    rw [hF]
    by_cases h : C X j
    · rw [if_pos (hc.mpr h), if_pos (decide_eq_true h)]
      refine ⟨?_, ?_⟩
      · funext a i
        show st1 (itN F (X, 0) j).1 g j 2 a i = _
        rw [st1_at, i1]
        show (if a = g ∧ i = j then 2 else if a = g ∧ i < j ∧ C X i then 2 else X a i) = _
        by_cases e : a = g ∧ i = j
        · obtain ⟨e1, e2⟩ := e
          subst e1; subst e2
          rw [if_pos ⟨rfl, rfl⟩, if_pos ⟨rfl, by omega, h⟩]
        · rw [if_neg e]
          by_cases e3 : a = g ∧ i < j ∧ C X i
          · rw [if_pos e3, if_pos ⟨e3.1, by omega, e3.2.2⟩]
          · rw [if_neg e3, if_neg (fun h9 => e3 ⟨h9.1, by
              by_cases e4 : i = j
              · exact absurd ⟨h9.1, e4⟩ e
              · omega, h9.2.2⟩)]
      · show (itN F (X, 0) j).2 + 1 = _
        rw [i2, nI_1]
    · rw [if_neg (fun e => h (hc.mp e)), if_neg (fun e => h (of_decide_eq_true e))]
      refine ⟨?_, i2⟩
      rw [i1]
      funext a i
      by_cases e3 : a = g ∧ i < j ∧ C X i
      · rw [if_pos e3, if_pos ⟨e3.1, by omega, e3.2.2⟩]
      · rw [if_neg e3, if_neg (fun h9 => e3 ⟨h9.1, by
          by_cases e4 : i = j
          · subst e4; exact absurd h9.2.2 h
          · omega, h9.2.2⟩)]
theorem tLapse_at (T : am_T) (m : Nat) : (tLapse T m).1 = (fun a i => if a = 25 ∧ i < m ∧ ((T 25 i = 1 ∧ ¬ T 28 i = 1) ∧ T 24 i ≤ T 3 0) then 2 else T a i) ∧ (tLapse T m).2 = nI (cn (fun k => decide ((T 25 k = 1 ∧ ¬ T 28 k = 1) ∧ T 24 k ≤ T 3 0)) m) :=
  lap_at 25 (fun X k => (X 25 k = 1 ∧ ¬ X 28 k = 1) ∧ X 24 k ≤ X 3 0) tlh (fun _ _ => rfl) (fun X Y k h1 h2 => by
    show ((Y 25 k = 1 ∧ ¬ Y 28 k = 1) ∧ Y 24 k ≤ Y 3 0) ↔ _
    rw [h2, h1 28 (by decide), h1 24 (by decide), h1 3 (by decide)]) T m
theorem ted_at (j : Nat) (T : am_T) (i : Nat) : ∀ L, itN (ted j) T L 35 i = if 10 * j ≤ i ∧ i < 10 * j + L ∧ ¬ T 34 i = 0 then 1 else T 35 i := by
  intro L
  induction L with
  | zero => rw [if_neg (by omega)]; rfl
  | succ L ih =>
    have e34 : itN (ted j) T L 34 = T 34 := itN_f (F := ted j) 34 (fun k S => ted_f (by decide)) T L
    show ted j L (itN (ted j) T L) 35 i = _
    generalize itN (ted j) T L = G at e34 ih ⊢
    unfold ted
    rw [e34]
    by_cases h : T 34 (10 * j + L) = 0
    · rw [if_pos h, ih]
      by_cases e : 10 * j ≤ i ∧ i < 10 * j + L ∧ ¬ T 34 i = 0
      · rw [if_pos e, if_pos ⟨e.1, by omega, e.2.2⟩]
      · rw [if_neg e, if_neg (fun h9 => e ⟨h9.1, by
          by_cases e2 : i = 10 * j + L
          · subst e2; exact absurd h h9.2.2
          · omega, h9.2.2⟩)]
    · rw [if_neg h, st1_if]
      by_cases e2 : i = 10 * j + L
      · rw [if_pos e2, if_pos ⟨by omega, by omega, by rw [e2]; exact h⟩]
      · rw [if_neg e2, ih]
        by_cases e : 10 * j ≤ i ∧ i < 10 * j + L ∧ ¬ T 34 i = 0
        · rw [if_pos e, if_pos ⟨e.1, by omega, e.2.2⟩]
        · rw [if_neg e, if_neg (fun h9 => e ⟨h9.1, by omega, h9.2.2⟩)]
theorem day_ex (T : am_T) (x : Int32) : ∀ v, (∃ j, j < v ∧ T 33 j = x ∧ ∀ i, i < j → ¬ T 33 i = x) ∨ ∀ i, i < v → ¬ T 33 i = x := by
  intro v
  induction v with
  | zero => exact Or.inr (fun i h => absurd h (by omega))
  | succ v ih =>
    rcases ih with ⟨j, hj, e, h0⟩ | h0
    · exact Or.inl ⟨j, by omega, e, h0⟩
    · by_cases e : T 33 v = x
      · exact Or.inl ⟨v, by omega, e, h0⟩
      · refine Or.inr (fun i hi => ?_)
        by_cases e2 : i = v
        · subst e2; exact e
        · exact h0 i (by omega)
/-- mails that meet C go to state 2, and are counted -/
theorem lap_an (g : Nat) (C : am_T → Nat → Prop) [∀ X k, Decidable (C X k)] (F : Nat → am_T × Int32 → am_T × Int32) (hF : ∀ k x, F k x = if C x.1 k then (st1 x.1 g k 2, x.2 + 1) else x) (hC : ∀ X Y k, (∀ a, ¬ a = g → Y a = X a) → Y g k = X g k → (C Y k ↔ C X k)) (X : am_T) (a0 : Nat) : ∀ j, (itN F (X, nI a0) j).1 = (fun a i => if a = g ∧ i < j ∧ C X i then 2 else X a i) ∧ (itN F (X, nI a0) j).2 = nI (a0 + cn (fun k => decide (C X k)) j) := by
  intro j
  induction j with
  | zero =>
    refine ⟨?_, rfl⟩
    funext a i
    rw [if_neg (fun h => absurd h.2.1 (by omega))]
    rfl
  | succ j ih =>
    obtain ⟨i1, i2⟩ := ih
    show (F j (itN F (X, nI a0) j)).1 = _ ∧ (F j (itN F (X, nI a0) j)).2 = nI (a0 + (cn _ j + (if decide (C X j) = true then 1 else 0)))
    have hc : C (itN F (X, nI a0) j).1 j ↔ C X j := hC _ _ _ (fun a ha => by rw [i1]; funext i; exact if_neg (fun h => ha h.1)) (by rw [i1]; exact if_neg (fun h => absurd h.2.1 (by omega)))
    rw [hF]
    by_cases h : C X j
    · rw [if_pos (hc.mpr h), if_pos (decide_eq_true h)]
      refine ⟨?_, ?_⟩
      · funext a i
        show st1 (itN F (X, nI a0) j).1 g j 2 a i = _
        rw [st1_at, i1]
        show (if a = g ∧ i = j then 2 else if a = g ∧ i < j ∧ C X i then 2 else X a i) = _
        by_cases e : a = g ∧ i = j
        · obtain ⟨e1, e2⟩ := e
          subst e1; subst e2
          rw [if_pos ⟨rfl, rfl⟩, if_pos ⟨rfl, by omega, h⟩]
        · rw [if_neg e]
          by_cases e3 : a = g ∧ i < j ∧ C X i
          · rw [if_pos e3, if_pos ⟨e3.1, by omega, e3.2.2⟩]
          · rw [if_neg e3, if_neg (fun h9 => e3 ⟨h9.1, by
              by_cases e4 : i = j
              · exact absurd ⟨h9.1, e4⟩ e
              · omega, h9.2.2⟩)]
      · show (itN F (X, nI a0) j).2 + 1 = _
        rw [i2, nI_1, Nat.add_assoc]
    · rw [if_neg (fun e => h (hc.mp e)), if_neg (fun e => h (of_decide_eq_true e))]
      refine ⟨?_, i2⟩
      rw [i1]
      funext a i
      by_cases e3 : a = g ∧ i < j ∧ C X i
      · rw [if_pos e3, if_pos ⟨e3.1, by omega, e3.2.2⟩]
      · rw [if_neg e3, if_neg (fun h9 => e3 ⟨h9.1, by
          by_cases e4 : i = j
          · subst e4; exact absurd h9.2.2 h
          · omega, h9.2.2⟩)]
section
variable {T S : am_T} {o : Nat → Int64} {n m v t c : Nat}
theorem q_read (h : qR T S o n m v t c) {p b : Nat} (hp : p < 8) (hb : S 33 p = nI (b + 1)) (hb10 : b < 10) : qR (tSh (st1 T 8 p (nI (b + 1) - 1)) p b) (st1 S 33 p (nI (b + 1) - 1)) (am_updL o p (o p >>> ((4 : Int32).toInt64 &&& 63))) n m v t c := by
  obtain ⟨⟨hA, hP, hL, hJ, hM, hF, hK, hQ, hN⟩, hD, hV⟩ := h
  have e9 : nI (b + 1) - 1 = nI b := am_s1 rfl
  rw [e9]
  refine ⟨⟨qA_c hA rfl rfl rfl rfl rfl rfl rfl rfl rfl, ⟨fun q hq => ?_, fun q hq => ?_⟩, qL_c hL rfl rfl rfl rfl rfl rfl rfl rfl rfl rfl, jP_c hJ rfl rfl, qM_c hM rfl rfl rfl rfl, qF_c hF rfl rfl rfl rfl rfl, qK_c hK rfl rfl rfl rfl rfl rfl rfl rfl rfl rfl rfl rfl rfl rfl rfl rfl rfl rfl rfl, qQ_c hQ rfl rfl rfl rfl rfl rfl rfl rfl rfl rfl, qN_c hN rfl rfl rfl rfl rfl⟩, qD_c hD rfl rfl rfl rfl rfl rfl rfl rfl rfl rfl, qV_c hV rfl rfl rfl⟩
  · obtain ⟨c1, c2, c3, c4, c5, c6, c8, b2, hb2, c33, Y, y1, y2, y3⟩ := hP.1 q hq
    by_cases e : q = p
    · subst e
      have eb : b2 = b + 1 := (nI_eq (by omega) (by omega)).mp (c33.symm.trans hb)
      subst eb
      refine ⟨c1, c2, c3, c4, c5, c6, ?_, b, by omega, ?_, Y / 16, ?_, ?_, fun j hj => ?_⟩
      · show st1 T 8 q (nI b) 8 q = st1 S 33 q (nI b) 33 q
        rw [st1_same, st1_same]
      · show st1 S 33 q (nI b) 33 q = _
        rw [st1_same]
      · rw [Nat.pow_succ] at y1
        omega
      · show (if q = q then _ else _) = _
        rw [if_pos rfl, y2, k_shr1 (k_lt40 y1 (by omega))]
      · rw [k_next (b := 0)]
        have h9 := y3 (j + 1) (by omega)
        refine ⟨h9.1, ?_⟩
        show (if 10 * q ≤ 10 * q + j ∧ 10 * q + j < 10 * q + b then T 9 (10 * q + j + 1) else T 9 (10 * q + j)) = _
        rw [if_pos (by omega)]
        exact h9.2
    · refine ⟨c1, c2, c3, c4, c5, c6, ?_, b2, hb2, ?_, Y, y1, ?_, fun j hj => ⟨(y3 j hj).1, ?_⟩⟩
      · show st1 T 8 p (nI b) 8 q = st1 S 33 p (nI b) 33 q
        rw [st1_j e, st1_j e]
        exact c8
      · show st1 S 33 p (nI b) 33 q = _
        rw [st1_j e]
        exact c33
      · show (if q = p then _ else o q) = _
        rw [if_neg e]
        exact y2
      · show (if 10 * p ≤ 10 * q + j ∧ 10 * q + j < 10 * p + b then T 9 (10 * q + j + 1) else T 9 (10 * q + j)) = _
        rw [if_neg (by omega)]
        exact (y3 j hj).2
  · show ∃ b9, b9 ≤ 10 ∧ st1 T 8 p (nI b) 8 q = nI b9
    by_cases e : q = p
    · subst e
      exact ⟨b, by omega, by rw [st1_same]⟩
    · rw [st1_j e]
      exact hP.2 q hq
theorem read_eq (h : qR T S o n m v t c) {p b : Nat} (hp : p < 8) (hb : S 33 p = nI (b + 1)) (hb10 : b < 10) : ∃ g, g < 16 ∧ (o p &&& 15).toInt32 = nI g ∧ T 9 (10 * p + 0) = nI g := by
  obtain ⟨c1, c2, c3, c4, c5, c6, c8, b2, hb2, c33, Y, y1, y2, y3⟩ := h.1.2.1.1 p hp
  have eb : b2 = b + 1 := (nI_eq (by omega) (by omega)).mp (c33.symm.trans hb)
  subst eb
  refine ⟨Y % 16, by omega, by rw [y2, k_low], ?_⟩
  have h9 := (y3 0 (by omega)).2
  rw [Nat.pow_zero, Nat.div_one] at h9
  exact h9
end
/-- a day of the law's -/
def led (t k : Nat) (S : am_T) : am_T := if S 40 (15 * k + t) &&& 1 = 1 then st1 S 40 (15 * k + t) 3 else S
def llp (k : Nat) (x : am_T × Int32) : am_T × Int32 := if (x.1 13 k = 1 ∧ x.1 21 k = x.1 70 0) ∧ ¬ x.1 22 k = 3 then (st1 x.1 13 k 2, x.2 + 1) else x
def lDay0 (t : Nat) (S : am_T) : am_T := st1 (itN (led t) S 4) 70 0 (nI t + 1)
def lDay (m t : Nat) (x : am_T × Int32) : am_T × Int32 := itN llp (lDay0 t x.1, x.2) m
def lDays (m t : Nat) (S : am_T) (e : Nat) : am_T × Int32 := itN (fun i x => lDay m (t + i) x) (S, 0) e
theorem led_f {t k g : Nat} {S : am_T} (h : g ≠ 40) : led t k S g = S g := by
  unfold led
  split
  · exact st1_f h
  · rfl
theorem ledN_f {t g : Nat} {S : am_T} (h : g ≠ 40) : ∀ i, itN (led t) S i g = S g
  | 0 => rfl
  | i + 1 => (led_f h).trans (ledN_f h i)
theorem lDay0_f {t g : Nat} {S : am_T} (h : g ≠ 40 ∧ g ≠ 70) : lDay0 t S g = S g := (st1_f h.2).trans (ledN_f h.1 4)
theorem lDay0_70 (t : Nat) (S : am_T) : lDay0 t S 70 0 = nI (t + 1) := by
  unfold lDay0
  rw [st1_same, nI_1]
theorem led_at (t : Nat) (ht : t < 15) (S : am_T) {l d : Nat} (hd : d < 15) : ∀ i, itN (led t) S i 40 (15 * l + d) = if l < i ∧ d = t ∧ S 40 (15 * l + d) &&& 1 = 1 then 3 else S 40 (15 * l + d) := by
  intro i
  induction i with
  | zero => rw [if_neg (fun h => absurd h.1 (by omega))]; rfl
  | succ i ih =>
    show led t i (itN (led t) S i) 40 (15 * l + d) = _
    have keep : ∀ k, itN (led t) S i 40 (15 * i + t) = S 40 (15 * i + t) → (if itN (led t) S i 40 (15 * i + t) &&& 1 = 1 then st1 (itN (led t) S i) 40 (15 * i + t) 3 else itN (led t) S i) 40 k = if k = 15 * i + t ∧ S 40 (15 * i + t) &&& 1 = 1 then 3 else itN (led t) S i 40 k := by
      intro k hk
      rw [hk]
      by_cases h9 : S 40 (15 * i + t) &&& 1 = 1
      · rw [if_pos h9, st1_if]
        by_cases h8 : k = 15 * i + t
        · rw [if_pos h8, if_pos ⟨h8, h9⟩]
        · rw [if_neg h8, if_neg (fun e => h8 e.1)]
      · rw [if_neg h9, if_neg (fun e => h9 e.2)]
    have self : ∀ i, ∀ q, i ≤ q → itN (led t) S i 40 (15 * q + t) = S 40 (15 * q + t) := by
      intro i
      induction i with
      | zero => intro q _; rfl
      | succ i ih2 =>
        intro q hq
        show led t i (itN (led t) S i) 40 (15 * q + t) = _
        unfold led
        split
        · rw [st1_j (by omega)]; exact ih2 q (by omega)
        · exact ih2 q (by omega)
    have e1 : led t i (itN (led t) S i) 40 (15 * l + d) = if 15 * l + d = 15 * i + t ∧ S 40 (15 * i + t) &&& 1 = 1 then 3 else itN (led t) S i 40 (15 * l + d) := keep _ (self i i (Nat.le_refl i))
    rw [e1, ih]
    by_cases h9 : 15 * l + d = 15 * i + t
    · have el : l = i := by omega
      have ed : d = t := by omega
      subst el; subst ed
      by_cases h8 : S 40 (15 * l + d) &&& 1 = 1
      · rw [if_pos ⟨rfl, h8⟩, if_pos ⟨by omega, rfl, h8⟩]
      · rw [if_neg (fun e => h8 e.2), if_neg (fun e => h8 e.2.2), if_neg (fun e => h8 e.2.2)]
    · rw [if_neg (fun e => h9 e.1)]
      by_cases h8 : l < i ∧ d = t ∧ S 40 (15 * l + d) &&& 1 = 1
      · rw [if_pos h8, if_pos ⟨by omega, h8.2⟩]
      · rw [if_neg h8, if_neg (fun e => h8 ⟨by
          have : l ≠ i := fun e2 => h9 (by rw [e2, e.2.1])
          omega, e.2⟩)]
theorem llp_at (X : am_T) (a0 j : Nat) : (itN llp (X, nI a0) j).1 = (fun g i => if g = 13 ∧ i < j ∧ ((X 13 i = 1 ∧ X 21 i = X 70 0) ∧ ¬ X 22 i = 3) then 2 else X g i) ∧ (itN llp (X, nI a0) j).2 = nI (a0 + cn (fun k => decide ((X 13 k = 1 ∧ X 21 k = X 70 0) ∧ ¬ X 22 k = 3)) j) :=
  lap_an 13 (fun X k => (X 13 k = 1 ∧ X 21 k = X 70 0) ∧ ¬ X 22 k = 3) llp (fun _ _ => rfl) (fun X Y k h1 h2 => by
    show ((Y 13 k = 1 ∧ Y 21 k = Y 70 0) ∧ ¬ Y 22 k = 3) ↔ _
    rw [h2, h1 21 (by decide), h1 70 (by decide), h1 22 (by decide)]) X a0 j
/-- lapses within i days -/
def lpd (S : am_T) (t i k : Nat) : Bool := decide (S 13 k = 1 ∧ S 22 k = 0 ∧ (S 21 k).toNatClampNeg ≤ t + i)
theorem lpd_iff {S : am_T} {t i k e : Nat} (h : S 21 k = nI e) (he : e ≤ 21) : lpd S t i k = true ↔ (S 13 k = 1 ∧ S 22 k = 0 ∧ e ≤ t + i) := by
  unfold lpd
  rw [decide_eq_true_eq, h, nI_clamp (by omega)]
theorem days_at {T S : am_T} {o : Nat → Int64} {n m v t c d : Nat} (hR : qR T S o n m v t c) (hd : t + d ≤ 14) : ∀ i, i ≤ d → (∀ k, k < m → (lDays m t S i).1 13 k = if lpd S t i k = true then 2 else S 13 k) ∧ (lDays m t S i).2 = nI (cn (lpd S t i) m) ∧ (∀ l e, l < 4 → e < 15 → (lDays m t S i).1 40 (15 * l + e) = if 1 ≤ i ∧ e = t ∧ S 40 (15 * l + e) &&& 1 = 1 then 3 else S 40 (15 * l + e)) ∧ (lDays m t S i).1 70 0 = nI (t + i) ∧ ∀ {g}, g ≠ 13 ∧ g ≠ 40 ∧ g ≠ 70 → (lDays m t S i).1 g = S g := by
  obtain ⟨⟨hA, hP, hL, hJ, hM, hF, hK, hQ, hN⟩, hD, hV⟩ := hR
  obtain ⟨a1, a2, a3, a4, a5, a6, a7, a8, a9, a10, a11, a12⟩ := hA
  have hle : ∀ k, k < m → ∃ e, e ≤ 21 ∧ S 21 k = nI e ∧ (S 13 k = 1 → S 22 k = 0 → t < e) := fun k hk => (hK k hk).2.2.2.2.2.2.2.2.2.2.1
  intro i
  induction i with
  | zero =>
    intro _
    have h0 : ∀ k, k < m → lpd S t 0 k = false := fun k hk => by
      obtain ⟨e, he, e1, e2⟩ := hle k hk
      unfold lpd
      refine decide_eq_false (fun h => ?_)
      have h9 := e2 h.1 h.2.1
      have h8 := h.2.2
      rw [e1, nI_clamp (by omega)] at h8
      omega
    refine ⟨fun k hk => ?_, ?_, fun l e hl he => ?_, a10, fun _ => rfl⟩
    · rw [h0 k hk]; rfl
    · have : cn (lpd S t 0) m = cn (fun _ => false) m := cn_c m h0
      rw [this]
      have z : ∀ m, cn (fun _ => false) m = 0 := by
        intro m
        induction m with
        | zero => rfl
        | succ m ih => show cn (fun _ => false) m + _ = 0; rw [ih]; rfl
      rw [z]
      rfl
    · rw [if_neg (fun h => absurd h.1 (by omega))]; rfl
  | succ i ih =>
    intro hi
    obtain ⟨i1, i2, i3, i4, i5⟩ := ih (by omega)
    have e0 : lDays m t S (i + 1) = lDay m (t + i) (lDays m t S i) := rfl
    generalize lDays m t S i = x at i1 i2 i3 i4 i5 e0
    rw [e0]
    obtain ⟨Y, a⟩ := x
    dsimp only at i1 i2 i3 i4 i5
    have e1 : lDay m (t + i) (Y, a) = itN llp (lDay0 (t + i) Y, a) m := rfl
    rw [e1, i2]
    obtain ⟨l1, l2⟩ := llp_at (lDay0 (t + i) Y) (cn (lpd S t i) m) m
    have f : ∀ {g}, g ≠ 13 ∧ g ≠ 40 ∧ g ≠ 70 → lDay0 (t + i) Y g = S g := fun h => (lDay0_f h.2).trans (i5 h)
    have hc : ∀ k, k < m → (((lDay0 (t + i) Y 13 k = 1 ∧ lDay0 (t + i) Y 21 k = lDay0 (t + i) Y 70 0) ∧ ¬ lDay0 (t + i) Y 22 k = 3) ↔ (lpd S t (i + 1) k = true ∧ ¬ lpd S t i k = true)) := fun k hk => by
      obtain ⟨e, he, e1, e2⟩ := hle k hk
      obtain ⟨b1, b2, b3, b4, b5, b6⟩ := hQ k hk
      rw [lDay0_f (show 13 ≠ 40 ∧ 13 ≠ 70 by decide), i1 k hk, f (show 21 ≠ 13 ∧ 21 ≠ 40 ∧ 21 ≠ 70 by decide), f (show 22 ≠ 13 ∧ 22 ≠ 40 ∧ 22 ≠ 70 by decide), lDay0_70, e1]
      have u0 := lpd_iff (t := t) (i := i) e1 he
      have u1 := lpd_iff (t := t) (i := i + 1) e1 he
      constructor
      · rintro ⟨⟨h1, h2⟩, h3⟩
        have h4 : e = t + i + 1 := (nI_eq (by omega) (by omega)).mp h2
        by_cases h5 : lpd S t i k = true
        · rw [if_pos h5] at h1; exact absurd h1 (by decide)
        · rw [if_neg h5] at h1
          have h6 : S 22 k = 0 := Decidable.not_not.mp (fun h7 => h3 (b4 h1 h7))
          exact ⟨u1.mpr ⟨h1, h6, by omega⟩, h5⟩
      · rintro ⟨h1, h4⟩
        obtain ⟨h1, h2, h3⟩ := u1.mp h1
        rw [if_neg h4]
        refine ⟨⟨h1, ?_⟩, by rw [h2]; decide⟩
        have : e = t + i + 1 := by
          by_cases h5 : e ≤ t + i
          · exact absurd (u0.mpr ⟨h1, h2, h5⟩) h4
          · omega
        rw [this]
    have hmono : ∀ k, k < m → lpd S t i k = true → lpd S t (i + 1) k = true := fun k hk => by
      unfold lpd
      rw [decide_eq_true_eq, decide_eq_true_eq]
      exact fun h => ⟨h.1, h.2.1, by omega⟩
    refine ⟨fun k hk => ?_, ?_, fun l e hl he => ?_, ?_, fun {g} h => ?_⟩
    · rw [l1]
      show (if 13 = 13 ∧ k < m ∧ _ then 2 else lDay0 (t + i) Y 13 k) = _
      have h13 : lDay0 (t + i) Y 13 k = if lpd S t i k = true then 2 else S 13 k := by rw [lDay0_f (show 13 ≠ 40 ∧ 13 ≠ 70 by decide), i1 k hk]
      by_cases h9 : lpd S t (i + 1) k = true ∧ ¬ lpd S t i k = true
      · rw [if_pos ⟨rfl, hk, (hc k hk).mpr h9⟩, if_pos h9.1]
      · rw [if_neg (fun h => h9 ((hc k hk).mp h.2.2)), h13]
        by_cases h8 : lpd S t i k = true
        · rw [if_pos h8, if_pos (hmono k hk h8)]
        · rw [if_neg h8, if_neg (fun h => h9 ⟨h, h8⟩)]
    · rw [l2]
      congr 1
      refine (cn_add m (fun k hk => ?_)).symm
      refine ⟨⟨fun h => ?_, fun h => ?_⟩, fun h => ?_⟩
      · by_cases h8 : lpd S t i k = true
        · exact Or.inl h8
        · exact Or.inr (decide_eq_true ((hc k hk).mpr ⟨h, h8⟩))
      · rcases h with h | h
        · exact hmono k hk h
        · exact ((hc k hk).mp (of_decide_eq_true h)).1
      · exact ((hc k hk).mp (of_decide_eq_true h.2)).2 h.1
    · rw [l1]
      show (if 40 = 13 ∧ _ then 2 else lDay0 (t + i) Y 40 (15 * l + e)) = _
      rw [if_neg (fun h => absurd h.1 (by decide))]
      have h40 : lDay0 (t + i) Y 40 (15 * l + e) = itN (led (t + i)) Y 4 40 (15 * l + e) := by
        unfold lDay0
        rw [st1_f (by decide)]
      rw [h40, led_at (t + i) (by omega) Y he 4, i3 l e hl he]
      by_cases h0 : i = 0
      · subst h0
        rw [if_neg (show ¬ (1 ≤ 0 ∧ _) from fun h => absurd h.1 (by omega))]
        by_cases h9 : e = t ∧ S 40 (15 * l + e) &&& 1 = 1
        · rw [if_pos ⟨hl, h9⟩, if_pos ⟨by omega, h9⟩]
        · rw [if_neg (fun h => h9 h.2), if_neg (fun h => h9 h.2)]
      · by_cases h9 : e = t + i
        · have hz : S 40 (15 * l + e) = 0 := (hD.2.2.1 l e hl he (fun j hj e3 => by
            obtain ⟨d2, hd2, g33, -⟩ := hD.1 j hj
            have := (nI_eq (by omega) (by omega)).mp (g33.symm.trans e3)
            omega)).2
          have hd0 : ¬ ((0 : Int32) &&& 1 = 1) := by decide
          rw [hz]
          simp only [hd0, and_false, ↓reduceIte]
        · rw [if_neg (fun h => h9 h.2.1)]
          by_cases h8 : e = t ∧ S 40 (15 * l + e) &&& 1 = 1
          · rw [if_pos ⟨by omega, h8⟩, if_pos ⟨by omega, h8⟩]
          · rw [if_neg (fun h => h8 h.2), if_neg (fun h => h8 h.2)]
    · rw [l1]
      show (if 70 = 13 ∧ _ then 2 else lDay0 (t + i) Y 70 0) = _
      rw [if_neg (fun h => absurd h.1 (by decide)), lDay0_70]
      rfl
    · rw [l1]
      funext k
      exact (if_neg (fun h9 => h.1 h9.1)).trans (congrFun (f h) k)
