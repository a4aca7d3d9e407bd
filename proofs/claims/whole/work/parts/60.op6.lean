/-! each call: pass -/
/-- how many -/
def cn (P : Nat → Bool) : Nat → Nat
  | 0 => 0
  | m + 1 => cn P m + (if P m = true then 1 else 0)
theorem cn_le (P : Nat → Bool) : ∀ m, cn P m ≤ m
  | 0 => Nat.le_refl 0
  | m + 1 => by
    have := cn_le P m
    show cn P m + _ ≤ _
    by_cases h : P m = true
    · rw [if_pos h]; omega
    · rw [if_neg h]; omega
theorem cn_c {P Q : Nat → Bool} : ∀ m, (∀ k, k < m → P k = Q k) → cn P m = cn Q m
  | 0, _ => rfl
  | m + 1, h => by
    show cn P m + _ = cn Q m + _
    rw [cn_c m (fun k hk => h k (by omega)), h m (by omega)]
theorem cn_add {P Q R : Nat → Bool} : ∀ m, (∀ k, k < m → (R k = true ↔ P k = true ∨ Q k = true) ∧ ¬ (P k = true ∧ Q k = true)) → cn R m = cn P m + cn Q m
  | 0, _ => rfl
  | m + 1, h => by
    have h1 := h m (by omega)
    have ih := cn_add (P := P) (Q := Q) (R := R) m (fun k hk => h k (by omega))
    show cn R m + _ = cn P m + _ + (cn Q m + _)
    by_cases hP : P m = true
    · have hQ : ¬ Q m = true := fun e => h1.2 ⟨hP, e⟩
      rw [if_pos hP, if_neg hQ, if_pos (h1.1.mpr (Or.inl hP))]; omega
    · by_cases hQ : Q m = true
      · rw [if_neg hP, if_pos hQ, if_pos (h1.1.mpr (Or.inr hQ))]; omega
      · rw [if_neg hP, if_neg hQ, if_neg (fun e => (h1.1.mp e).elim hP hQ)]; omega
/-- mails that meet C go to state 2, and are counted -/
theorem lap_at (g : Nat) (C : am_T → Nat → Prop) [∀ X k, Decidable (C X k)] (F : Nat → am_T × Int32 → am_T × Int32) (hF : ∀ k x, F k x = if C x.1 k then (st1 x.1 g k 2, x.2 + 1) else x) (hC : ∀ X Y k, (∀ a, ¬ a = g → Y a = X a) → Y g k = X g k → (C Y k ↔ C X k)) (X : am_T) : ∀ j, (itN F (X, 0) j).1 = (fun a i => if a = g ∧ i < j ∧ C X i then 2 else X a i) ∧ (itN F (X, 0) j).2 = nI (cn (fun k => decide (C X k)) j) := by
  intro j
  induction j with
  | zero =>
    refine ⟨?_, rfl⟩
    funext a i
    rw [if_neg (fun h => absurd h.2.1 (by omega))]
    rfl
  | succ j ih =>
    obtain ⟨i1, i2⟩ := ih
    show (F j (itN F (X, 0) j)).1 = _ ∧ (F j (itN F (X, 0) j)).2 = nI (cn _ j + (if decide (C X j) = true then 1 else 0))
    have hc : C (itN F (X, 0) j).1 j ↔ C X j := hC _ _ _ (fun a ha => by rw [i1]; funext i; exact if_neg (fun h => ha h.1)) (by rw [i1]; exact if_neg (fun h => absurd h.2.1 (by omega)))
    rw [hF]
    by_cases h : C X j
    · rw [if_pos (hc.mpr h), if_pos (decide_eq_true h)]
      refine ⟨?_, ?_⟩
      · funext a i
        show st1 (itN F (X, 0) j).1 g j 2 a i = _
        rw [st1_at, i1]
        show (if a = g ∧ i = j then 2 else if a = g ∧ i < j ∧ C X i then 2 else X a i) = _
        by_cases e : a = g ∧ i = j
        · obtain ⟨e1, e2⟩ := e
          subst e1; subst e2
          rw [if_pos ⟨rfl, rfl⟩, if_pos ⟨rfl, by omega, h⟩]
        · rw [if_neg e]
          by_cases e3 : a = g ∧ i < j ∧ C X i
          · rw [if_pos e3, if_pos ⟨e3.1, by omega, e3.2.2⟩]
          · rw [if_neg e3, if_neg (fun h9 => e3 ⟨h9.1, by
              by_cases e4 : i = j
              · exact absurd ⟨h9.1, e4⟩ e
              · omega, h9.2.2⟩)]
      · show (itN F (X, 0) j).2 + 1 = _
        rw [i2, nI_1]
    · rw [if_neg (fun e => h (hc.mp e)), if_neg (fun e => h (of_decide_eq_true e))]
      refine ⟨?_, i2⟩
      rw [i1]
      funext a i
      by_cases e3 : a = g ∧ i < j ∧ C X i
      · rw [if_pos e3, if_pos ⟨e3.1, by omega, e3.2.2⟩]
      · rw [if_neg e3, if_neg (fun h9 => e3 ⟨h9.1, by
          by_cases e4 : i = j
          · subst e4; exact absurd h9.2.2 h
          · omega, h9.2.2⟩)]
theorem tLapse_at (T : am_T) (m : Nat) : (tLapse T m).1 = (fun a i => if a = 25 ∧ i < m ∧ ((T 25 i = 1 ∧ ¬ T 28 i = 1) ∧ T 24 i ≤ T 3 0) then 2 else T a i) ∧ (tLapse T m).2 = nI (cn (fun k => decide ((T 25 k = 1 ∧ ¬ T 28 k = 1) ∧ T 24 k ≤ T 3 0)) m) :=
  lap_at 25 (fun X k => (X 25 k = 1 ∧ ¬ X 28 k = 1) ∧ X 24 k ≤ X 3 0) tlh (fun _ _ => rfl) (fun X Y k h1 h2 => by
    show ((Y 25 k = 1 ∧ ¬ Y 28 k = 1) ∧ Y 24 k ≤ Y 3 0) ↔ _
    rw [h2, h1 28 (by decide), h1 24 (by decide), h1 3 (by decide)]) T m
theorem rNext_at (S : am_T) (n m t : Nat) : (rNext S n m t).1 = (fun a i => if a = 24 ∧ i < m ∧ (rNext0 S n t 24 i = 1 ∧ rNext0 S n t 21 i = rNext0 S n t 1 0 ∧ rNext0 S n t 27 i = 0) then 2 else rNext0 S n t a i) ∧ (rNext S n m t).2 = nI (cn (fun k => decide (rNext0 S n t 24 k = 1 ∧ rNext0 S n t 21 k = rNext0 S n t 1 0 ∧ rNext0 S n t 27 k = 0)) m) :=
  lap_at 24 (fun X k => X 24 k = 1 ∧ X 21 k = X 1 0 ∧ X 27 k = 0) rn2 (fun _ _ => rfl) (fun X Y k h1 h2 => by
    show (Y 24 k = 1 ∧ Y 21 k = Y 1 0 ∧ Y 27 k = 0) ↔ _
    rw [h2, h1 21 (by decide), h1 1 (by decide), h1 27 (by decide)]) (rNext0 S n t) m
def edv (x : Int32) : Int32 := if x = 0 then 0 else 1
theorem edv_0 {x : Int32} (h : x = 0) : edv x = 0 := if_pos h
theorem edv_1 {x : Int32} (h : ¬ x = 0) : edv x = 1 := if_neg h
theorem rn1_at (t : Nat) (ht : t ≤ 400) (S : am_T) (l d : Nat) (hd : d ≤ 400) : ∀ i, itN (rn1 t) S i 33 (401 * l + d) = if d = t ∧ l < i then edv (S 32 (401 * l + t)) else S 33 (401 * l + d) := by
  intro i
  induction i with
  | zero => rw [if_neg (fun h => absurd h.2 (by omega))]; rfl
  | succ i ih =>
    have e32 : itN (rn1 t) S i 32 = S 32 := itN_f (F := rn1 t) 32 (fun k S => st1_f (by decide)) S i
    show st1 (itN (rn1 t) S i) 33 (401 * i + t) (edv (itN (rn1 t) S i 32 (401 * i + t))) 33 (401 * l + d) = _
    rw [st1_if, ih, e32]
    by_cases e : d = t ∧ l = i
    · obtain ⟨e1, e2⟩ := e
      subst e1; subst e2
      rw [if_pos rfl, if_pos ⟨rfl, by omega⟩]
    · rw [if_neg (fun h => e (by omega))]
      by_cases e2 : d = t ∧ l < i
      · rw [if_pos e2, if_pos ⟨e2.1, by omega⟩]
      · rw [if_neg e2, if_neg (fun h => e2 (by omega))]
theorem rNext0_33 (S : am_T) (n t : Nat) (ht : t ≤ 400) (l d : Nat) (hd : d ≤ 400) : rNext0 S n t 33 (401 * l + d) = if d = t ∧ l < n then edv (S 32 (401 * l + t)) else S 33 (401 * l + d) := by
  unfold rNext0
  rw [st1_f (by decide)]
  exact rn1_at t ht S l d hd n
theorem rNext0_1 (S : am_T) (n t : Nat) : rNext0 S n t 1 0 = nI (t + 1) := by
  unfold rNext0
  rw [st1_same, nI_1]
theorem rNext0_f {S : am_T} {n t g : Nat} (h33 : g ≠ 33) (h1 : g ≠ 1) : rNext0 S n t g = S g := by
  unfold rNext0
  rw [st1_f h1]
  exact itN_f (F := rn1 t) g (fun k S => st1_f h33) S n
/-- who has lapsed after i days -/
def lpd (S : am_T) (t i k : Nat) : Bool := decide (S 24 k = 1 ∧ S 26 k = 0 ∧ (S 21 k).toNatClampNeg ≤ t + i)
theorem lpd_iff {S : am_T} {t i k e : Nat} (h : S 21 k = nI e) (he : e ≤ 430) : lpd S t i k = true ↔ (S 24 k = 1 ∧ S 26 k = 0 ∧ e ≤ t + i) := by
  unfold lpd
  rw [decide_eq_true_eq, h, nI_clamp (by omega)]
theorem days_at {T S : am_T} {n m v t c d : Nat} (hR : jR T S n m v t c) (hd : t + d ≤ 400) : ∀ i, i ≤ d → (∀ k, k < m → (rDays (st1 S 0 0 0) n m t i).1 24 k = if lpd S t i k = true then 2 else S 24 k) ∧ (rDays (st1 S 0 0 0) n m t i).2 = nI (cn (lpd S t i) m) ∧ ∀ l e, l < 10 → e ≤ 400 → (rDays (st1 S 0 0 0) n m t i).1 33 (401 * l + e) = if e = t ∧ 1 ≤ i ∧ l < n then edv (S 32 (401 * l + t)) else S 33 (401 * l + e) := by
  obtain ⟨⟨hA, hW, hL, hP, hM, hF, hK, hQ, hN⟩, hD, hV⟩ := hR
  obtain ⟨a1, a2, a3, a4, a5, a6, a7, a8, a9, a10, a11, a12, a13⟩ := hA
  intro i
  induction i with
  | zero =>
    intro _
    have h0 : ∀ k, k < m → lpd S t 0 k = false := fun k hk => by
      obtain ⟨e, he, e1, e2⟩ := (hK k hk).2.2.2.2.2.2.2.2.2.2.1
      unfold lpd
      refine decide_eq_false (fun h => ?_)
      have h9 := e2 h.1 h.2.1
      have h8 := h.2.2
      rw [e1, nI_clamp (by omega)] at h8
      omega
    refine ⟨fun k hk => ?_, ?_, fun l e hl he => ?_⟩
    · rw [h0 k hk]; rfl
    · have : cn (lpd S t 0) m = cn (fun _ => false) m := cn_c m h0
      rw [this]
      have h9 : ∀ m, cn (fun _ => false) m = 0 := fun m => by
        induction m with
        | zero => rfl
        | succ m ih => exact ih
      rw [h9]; rfl
    · rw [if_neg (fun h => absurd h.2.1 (by omega))]; rfl
  | succ i ih =>
    intro hi
    obtain ⟨i1, i2, i3⟩ := ih (by omega)
    obtain ⟨s1, s2⟩ := rpp_s (S := st1 S 0 0 0) (n := n) (m := m) (t := t) (j := i) rfl rfl
    rw [← s1, ← s2]
    have f : ∀ {g}, g ≠ 33 ∧ g ≠ 1 ∧ g ≠ 24 ∧ g ≠ 0 → (rDays (st1 S 0 0 0) n m t i).1 g = S g := fun h => (rDays_f h.1 h.2.1 h.2.2.1 i).trans (st1_f h.2.2.2)
    generalize (rDays (st1 S 0 0 0) n m t i).1 = X at i1 i3 f ⊢
    generalize (rDays (st1 S 0 0 0) n m t i).2 = a at i2 ⊢
    obtain ⟨x1, x2⟩ := rNext_at X n m (t + i)
    have hC : ∀ k, k < m → ((rNext0 X n (t + i) 24 k = 1 ∧ rNext0 X n (t + i) 21 k = rNext0 X n (t + i) 1 0 ∧ rNext0 X n (t + i) 27 k = 0) ↔ (lpd S t (i + 1) k = true ∧ ¬ lpd S t i k = true)) := fun k hk => by
      obtain ⟨e, he, e1, e2⟩ := (hK k hk).2.2.2.2.2.2.2.2.2.2.1
      obtain ⟨q1, q2, q3, q4, q5⟩ := hQ k hk
      rw [rNext0_f (show 24 ≠ 33 by decide) (by decide), rNext0_f (show 21 ≠ 33 by decide) (by decide), rNext0_f (show 27 ≠ 33 by decide) (by decide), rNext0_1, i1 k hk, f (show 21 ≠ 33 ∧ _ by decide), f (show 27 ≠ 33 ∧ _ by decide)]
      have L1 := lpd_iff (t := t) (i := i + 1) e1 he
      have L0 := lpd_iff (t := t) (i := i) e1 he
      rw [e1, nI_eq (by omega) (by omega)]
      constructor
      · rintro ⟨h1, h2, h3⟩
        by_cases h9 : lpd S t i k = true
        · rw [if_pos h9] at h1; exact absurd h1 (by decide)
        · rw [if_neg h9] at h1
          exact ⟨L1.mpr ⟨h1, Decidable.byContradiction (fun h => q3 h1 h h3), by omega⟩, h9⟩
      · rintro ⟨h5, h4⟩
        obtain ⟨h1, h2, h3⟩ := L1.mp h5
        rw [if_neg h4]
        refine ⟨h1, ?_, Decidable.byContradiction (fun h => (q2 h).2 h2)⟩
        have : ¬ e ≤ t + i := fun h => h4 (L0.mpr ⟨h1, h2, h⟩)
        omega
    have hmono : ∀ k, lpd S t i k = true → lpd S t (i + 1) k = true := fun k h => by
      unfold lpd at *
      rw [decide_eq_true_eq] at *
      exact ⟨h.1, h.2.1, by omega⟩
    refine ⟨fun k hk => ?_, ?_, fun l e hl he => ?_⟩
    · rw [x1]
      show (if 24 = 24 ∧ k < m ∧ _ then 2 else rNext0 X n (t + i) 24 k) = _
      have hc := hC k hk
      by_cases h9 : (rNext0 X n (t + i) 24 k = 1 ∧ rNext0 X n (t + i) 21 k = rNext0 X n (t + i) 1 0 ∧ rNext0 X n (t + i) 27 k = 0)
      · rw [if_pos ⟨rfl, hk, h9⟩, if_pos (hc.mp h9).1]
      · rw [if_neg (fun h => h9 h.2.2), rNext0_f (by decide) (by decide), i1 k hk]
        by_cases h8 : lpd S t i k = true
        · rw [if_pos h8, if_pos (hmono k h8)]
        · rw [if_neg h8, if_neg (fun h7 => h9 (hc.mpr ⟨h7, h8⟩))]
    · rw [x2, i2, nI_add]
      congr 1
      refine (cn_add m (fun k hk => ?_)).symm
      have hc := hC k hk
      rw [decide_eq_true_eq, hc]
      refine ⟨⟨fun h => ?_, fun h => ?_⟩, fun h => h.2.2 h.1⟩
      · by_cases h8 : lpd S t i k = true
        · exact Or.inl h8
        · exact Or.inr ⟨h, h8⟩
      · exact h.elim (hmono k) (fun h => h.1)
    · rw [x1]
      show (if 33 = 24 ∧ _ then 2 else rNext0 X n (t + i) 33 (401 * l + e)) = _
      rw [if_neg (fun h => absurd h.1 (by decide)), rNext0_33 X n (t + i) (by omega) l e he, f (show 32 ≠ 33 ∧ _ by decide), i3 l e hl he]
      by_cases h1 : e = t + i ∧ l < n
      · rw [if_pos h1]
        obtain ⟨h1, h2⟩ := h1
        by_cases h3 : i = 0
        · subst h3
          rw [if_pos ⟨h1, by omega, h2⟩]
          rfl
        · rw [if_neg (fun h => absurd h.1 (by omega))]
          obtain ⟨g1, g2, g3, g4⟩ := hD.2.2 l e hl he
          have g3 := g3 (fun j hj hx => by
            obtain ⟨d', hd', e1, -⟩ := hD.1 j hj
            have := (nI_eq (by omega) (by omega)).mp (e1.symm.trans hx)
            omega)
          rw [g3.2, ← h1, edv_0 (g1.mpr g3.1)]
      · rw [if_neg h1]
        by_cases h4 : e = t ∧ 1 ≤ i ∧ l < n
        · rw [if_pos h4, if_pos ⟨h4.1, by omega, h4.2.2⟩]
        · rw [if_neg h4]
          rw [if_neg (fun h => h4 ⟨h.1, by
            by_cases h3 : i = 0
            · subst h3; exact absurd ⟨h.1, h.2.2⟩ h1
            · omega, h.2.2⟩)]
/-- the days pass -/
theorem jR_pass {T S T' : am_T} {n m v t c d : Nat} (hR : jR T S n m v t c) (hd1 : 1 ≤ d) (hd : t + d ≤ 400) (fT : ∀ g, g ≠ 3 → g ≠ 35 → g ≠ 37 → T' g = T g) (h3 : T' 3 0 = nI (t + d)) (h37 : ∀ j, j < v → ¬ T' 37 j = 0) (h35 : ∀ j, j < v → ∀ l, l < 10 → T' 35 (10 * j + l) = if T 33 j = nI t ∧ ¬ T 34 (10 * j + l) = 0 then 1 else T 35 (10 * j + l)) : jR (tLapse T' m).1 (rDays (st1 S 0 0 0) n m t d).1 n m v (t + d) c ∧ (tLapse T' m).2 = (rDays (st1 S 0 0 0) n m t d).2 := by
  obtain ⟨i1, i2, i3⟩ := days_at hR hd d (Nat.le_refl d)
  have s1 : (rDays (st1 S 0 0 0) n m t d).1 1 0 = nI (t + d) := rDays_1 (by exact hR.1.1.2.2.2.2.2.2.2.2.2.1) d
  have s : ∀ {g}, g ≠ 33 ∧ g ≠ 1 ∧ g ≠ 24 ∧ g ≠ 0 → (rDays (st1 S 0 0 0) n m t d).1 g = S g := fun h => (rDays_f h.1 h.2.1 h.2.2.1 d).trans (st1_f h.2.2.2)
  generalize (rDays (st1 S 0 0 0) n m t d).1 = X at i1 i3 s s1 ⊢
  generalize (rDays (st1 S 0 0 0) n m t d).2 = a at i2 ⊢
  obtain ⟨l1, l2⟩ := tLapse_at T' m
  obtain ⟨⟨hA, hW, hL, hP, hM, hF, hK, hQ, hN⟩, hD, hV⟩ := hR
  obtain ⟨a1, a2, a3, a4, a5, a6, a7, a8, a9, a10, a11, a12, a13⟩ := hA
  have hC : ∀ k, k < m → (((T' 25 k = 1 ∧ ¬ T' 28 k = 1) ∧ T' 24 k ≤ T' 3 0) ↔ lpd S t d k = true) := fun k hk => by
    obtain ⟨e, he, e1, e2⟩ := (hK k hk).2.2.2.2.2.2.2.2.2.2.1
    have hk1 := hK k hk
    rw [fT 25 (by decide) (by decide) (by decide), fT 28 (by decide) (by decide) (by decide), fT 24 (by decide) (by decide) (by decide), h3, hk1.2.2.2.2.2.2.2.2.2.2.2.1, hk1.2.2.2.2.2.2.2.2.2.1, e1, (hQ k hk).1, Decidable.not_not, nI_leI (by omega) (by omega)]
    unfold lpd
    rw [decide_eq_true_eq, e1, nI_clamp (by omega), and_assoc]
  refine ⟨?_, ?_⟩
  · have t9 : ∀ {g}, g ≠ 25 ∧ g ≠ 3 ∧ g ≠ 35 ∧ g ≠ 37 → (tLapse T' m).1 g = T g := fun {g} h => by
      rw [l1]
      funext i
      exact (if_neg (fun h9 => h.1 h9.1)).trans (congrFun (fT g h.2.1 h.2.2.1 h.2.2.2) i)
    have t9' : ∀ {g}, g ≠ 25 → (tLapse T' m).1 g = T' g := fun {g} h => by
      rw [l1]
      funext i
      exact if_neg (fun h9 => h h9.1)
    have e25 : ∀ k, k < m → (tLapse T' m).1 25 k = if lpd S t d k = true then 2 else T 25 k := fun k hk => by
      rw [l1]
      show (if 25 = 25 ∧ _ then 2 else T' 25 k) = _
      by_cases h : lpd S t d k = true
      · rw [if_pos h, if_pos ⟨rfl, hk, (hC k hk).mpr h⟩]
      · rw [if_neg h, if_neg (fun h9 => h ((hC k hk).mp h9.2.2)), fT 25 (by decide) (by decide) (by decide)]
    generalize (tLapse T' m).1 = Y at t9 t9' e25 ⊢
    refine ⟨⟨⟨by rw [t9 (by decide)]; exact a1, by rw [s (by decide)]; exact a2, a3, by rw [t9 (by decide)]; exact a4, by rw [s (by decide)]; exact a5, a6, by rw [t9 (by decide)]; exact a7, a8, by rw [t9' (by decide)]; exact h3, s1, hd, by rw [s (by decide)]; exact a12, by rw [t9 (by decide), s (by decide)]; exact a13⟩, jW_c hW (t9 (by decide)) (t9 (by decide)) (t9 (by decide)) (t9 (by decide)) (t9 (by decide)) (s (by decide)) (s (by decide)) (s (by decide)) (s (by decide)) (s (by decide)), jL_c hL (t9 (by decide)) (t9 (by decide)) (t9 (by decide)) (t9 (by decide)) (t9 (by decide)) (s (by decide)) (s (by decide)) (s (by decide)) (s (by decide)) (s (by decide)), jP_c hP (t9 (by decide)) (s (by decide)), jM_c hM (t9 (by decide)) (t9 (by decide)) (s (by decide)), jF_c hF (s (by decide)) (s (by decide)) (s (by decide)), ?_, ?_, jN_c hN (t9 (by decide)) (s (by decide)) (s (by decide)) (s (by decide)) (s (by decide)) (s (by decide)) (s (by decide))⟩, ?_, jV_c hV (t9 (by decide)) (t9 (by decide)) (t9 (by decide)) (s (by decide))⟩
    · intro k hk
      obtain ⟨b1, b2, b3, b4, b5, b6, ⟨e, he, b7⟩, b8, b9, b10, ⟨e5, he5, b11, b12⟩, b13, b14, b15, b16⟩ := hK k hk
      rw [t9 (show 18 ≠ 25 ∧ _ by decide), t9 (show 19 ≠ 25 ∧ _ by decide), t9 (show 20 ≠ 25 ∧ _ by decide), t9 (show 21 ≠ 25 ∧ _ by decide), t9 (show 22 ≠ 25 ∧ _ by decide), t9 (show 23 ≠ 25 ∧ _ by decide), t9 (show 24 ≠ 25 ∧ _ by decide), t9 (show 26 ≠ 25 ∧ _ by decide), t9 (show 27 ≠ 25 ∧ _ by decide), t9 (show 33 ≠ 25 ∧ _ by decide), s (show 18 ≠ 33 ∧ _ by decide), s (show 19 ≠ 33 ∧ _ by decide), s (show 20 ≠ 33 ∧ _ by decide), s (show 21 ≠ 33 ∧ _ by decide), s (show 22 ≠ 33 ∧ _ by decide), s (show 23 ≠ 33 ∧ _ by decide), s (show 25 ≠ 33 ∧ _ by decide), s (show 26 ≠ 33 ∧ _ by decide), s (show 31 ≠ 33 ∧ _ by decide), i1 k hk, e25 k hk]
      refine ⟨b1, b2, b3, b4, b5, b6, ⟨e, by omega, b7⟩, b8, b9, b10, ⟨e5, he5, b11, fun h1 h2 => ?_⟩, by rw [b13], b14, b15, fun h1 => ?_⟩
      · by_cases h9 : lpd S t d k = true
        · rw [if_pos h9] at h1; exact absurd h1 (by decide)
        · rw [if_neg h9] at h1
          unfold lpd at h9
          rw [decide_eq_true_eq, b11, nI_clamp (by omega)] at h9
          exact Nat.lt_of_not_le (fun h => h9 ⟨h1, h2, h⟩)
      · by_cases h9 : lpd S t d k = true
        · rw [if_pos h9] at h1; exact absurd h1 (by decide)
        · rw [if_neg h9] at h1
          exact b16 h1
    · intro k hk
      obtain ⟨q1, q2, q3, q5, q4⟩ := hQ k hk
      rw [t9 (show 28 ≠ 25 ∧ _ by decide), t9 (show 29 ≠ 25 ∧ _ by decide), t9 (show 30 ≠ 25 ∧ _ by decide), t9 (show 31 ≠ 25 ∧ _ by decide), t9 (show 32 ≠ 25 ∧ _ by decide), s (show 26 ≠ 33 ∧ _ by decide), s (show 27 ≠ 33 ∧ _ by decide), s (show 28 ≠ 33 ∧ _ by decide), s (show 29 ≠ 33 ∧ _ by decide), s (show 30 ≠ 33 ∧ _ by decide), i1 k hk]
      refine ⟨q1, fun h => ?_, fun h1 h2 => ?_, q5, q4⟩
      · refine ⟨?_, (q2 h).2⟩
        rw [if_neg (fun h9 => ?_)]
        · exact (q2 h).1
        · unfold lpd at h9
          rw [decide_eq_true_eq] at h9
          exact (q2 h).2 h9.2.1
      · by_cases h9 : lpd S t d k = true
        · rw [if_pos h9] at h1; exact absurd h1 (by decide)
        · rw [if_neg h9] at h1
          exact q3 h1 h2
    · obtain ⟨d1, d2, d3⟩ := hD
      refine ⟨fun j hj => ?_, ?_, fun l e hl he => ?_⟩
      · obtain ⟨e, he, e1, e2, e3⟩ := d1 j hj
        rw [t9 (show 33 ≠ 25 ∧ _ by decide), t9' (show 37 ≠ 25 by decide), t9 (show 34 ≠ 25 ∧ _ by decide), t9' (show 35 ≠ 25 by decide), t9 (show 36 ≠ 25 ∧ _ by decide), s (show 34 ≠ 33 ∧ _ by decide)]
        refine ⟨e, by omega, e1, ⟨fun h => absurd h (h37 j hj), fun h => absurd h (by omega)⟩, fun l hl => ?_⟩
        obtain ⟨f1, f2, f3⟩ := e3 l hl
        obtain ⟨g1, g2, g3, g4, g5⟩ := d3 l e hl (by omega)
        refine ⟨f1, ?_, f3⟩
        have f4 : ¬ bt (T 36 j) l = true := fun h => f3.mp h
        rw [if_neg f4, Int32.add_zero] at f2 ⊢
        rw [i3 l e hl (by omega), h35 j hj l hl, e1, f1]
        by_cases h1 : e = t
        · subst h1
          have g4 := g4 rfl
          by_cases h2 : S 34 (401 * l + e) = 0
          · rw [if_neg (show ¬ (nI e = nI e ∧ ¬ S 34 (401 * l + e) = 0) from fun h => h.2 h2), ← f2, g4]
            by_cases h4 : l < n
            · rw [if_pos (show e = e ∧ 1 ≤ d ∧ l < n from ⟨rfl, hd1, h4⟩), edv_0 (g1.mpr h2)]
            · rw [if_neg (fun h => h4 h.2.2)]
          · rw [if_pos (show nI e = nI e ∧ ¬ S 34 (401 * l + e) = 0 from ⟨rfl, h2⟩), if_pos (show e = e ∧ 1 ≤ d ∧ l < n from ⟨rfl, hd1, Nat.lt_of_not_le (fun h => h2 (g2 h))⟩), edv_1 (fun h => h2 (g1.mp h))]
        · rw [if_neg (show ¬ (e = t ∧ 1 ≤ d ∧ l < n) from fun h => h1 h.1), if_neg (show ¬ (nI e = nI t ∧ ¬ S 34 (401 * l + e) = 0) from fun h => h1 ((nI_eq (by omega) (by omega)).mp h.1)), f2]
      · rw [t9 (show 33 ≠ 25 ∧ _ by decide)]; exact d2
      · obtain ⟨g1, g2, g3, g4, g5⟩ := d3 l e hl he
        rw [s (show 32 ≠ 33 ∧ _ by decide), s (show 34 ≠ 33 ∧ _ by decide), s (show 35 ≠ 33 ∧ _ by decide), t9 (show 33 ≠ 25 ∧ _ by decide), i3 l e hl he]
        refine ⟨g1, g2, fun h => ⟨(g3 h).1, ?_⟩, fun h => ?_, g5⟩
        · by_cases h1 : e = t ∧ 1 ≤ d ∧ l < n
          · rw [if_pos h1, ← h1.1, edv_0 (g1.mpr (g3 h).1)]
          · rw [if_neg h1]; exact (g3 h).2
        · rw [if_neg (fun h9 => absurd h9.1 (by omega))]
          refine (g3 (fun j hj hx => ?_)).2
          obtain ⟨e', he', e1, -⟩ := d1 j hj
          have := (nI_eq (by omega) (by omega)).mp (e1.symm.trans hx)
          omega
  · rw [l2, i2]
    congr 1
    refine cn_c m (fun k hk => ?_)
    have h := hC k hk
    cases hb : lpd S t d k with
    | true => exact decide_eq_true (h.mpr hb)
    | false => exact decide_eq_false (fun h9 => by rw [h.mp h9] at hb; cases hb)
theorem ted_at (j : Nat) (T : am_T) (i : Nat) : ∀ L, itN (ted j) T L 35 i = if 10 * j ≤ i ∧ i < 10 * j + L ∧ ¬ T 34 i = 0 then 1 else T 35 i := by
  intro L
  induction L with
  | zero => rw [if_neg (by omega)]; rfl
  | succ L ih =>
    have e34 : itN (ted j) T L 34 = T 34 := itN_f (F := ted j) 34 (fun k S => ted_f (by decide)) T L
    show ted j L (itN (ted j) T L) 35 i = _
    generalize itN (ted j) T L = G at e34 ih ⊢
    unfold ted
    rw [e34]
    by_cases h : T 34 (10 * j + L) = 0
    · rw [if_pos h, ih]
      by_cases e : 10 * j ≤ i ∧ i < 10 * j + L ∧ ¬ T 34 i = 0
      · rw [if_pos e, if_pos ⟨e.1, by omega, e.2.2⟩]
      · rw [if_neg e, if_neg (fun h9 => e ⟨h9.1, by
          by_cases e2 : i = 10 * j + L
          · subst e2; exact absurd h h9.2.2
          · omega, h9.2.2⟩)]
    · rw [if_neg h, st1_if]
      by_cases e2 : i = 10 * j + L
      · rw [if_pos e2, if_pos ⟨by omega, by omega, by rw [e2]; exact h⟩]
      · rw [if_neg e2, ih]
        by_cases e : 10 * j ≤ i ∧ i < 10 * j + L ∧ ¬ T 34 i = 0
        · rw [if_pos e, if_pos ⟨e.1, by omega, e.2.2⟩]
        · rw [if_neg e, if_neg (fun h9 => e ⟨h9.1, by omega, h9.2.2⟩)]
set_option maxRecDepth 20000 in
set_option maxHeartbeats 1000000 in
theorem op_pass {G : am_S} (hG : G.1.stackTraces = false) {c0 : Nat} (hc0 : c0 < 1024) {T S : am_T} {o : Nat → Int64} (h : Rel c0 T S) : ∀ x1 : Int32, ∃ (kk bb : Int32) (T' S' : am_T) (o' : Nat → Int64), am_D G yL_pass (.codeWith yL_pass cL_pass 4 (some .int) [(0, 9, 12, 21), (0, 9, 15, 15)] :: am_G) am_WR (hp T S o) [.ref 0, .int x1, .ref 464] (hp T' S o') (some (.int kk)) ∧ am_D G yX6_pass (.code yX6_pass cX6_pass 4 (some .int) :: am_G) { frames := 1, cells := 0, slots := 0, locals := 22 } (hp T' S o') [.ref 465, .int x1] (hp T' S' o') (some (.int bb)) ∧ S' 0 0 = kk ∧ (kk = 0 → o' 0 = bb.toInt64) ∧ Rel (c0 + 1) T' S' := by
  obtain ⟨n, m, v, t, c, hc, hR⟩ := h
  have hs := jR_safe hR
  have ha := jR_all hR
  obtain ⟨⟨hA, hW, hL, hP, hM, hF, hK, hQ, hN⟩, hD⟩ := id hR
  obtain ⟨hn, hn2, hn10, hm, hm2, hm80, hv, hvm, ht, ht2, ht4, hcc, hwd⟩ := id hA
  have hv80 : v ≤ 80 := by omega
  intro x1
  by_cases hx : x1 < 1 ∨ 50 < x1
  · exact ⟨1, 0, T, (st1 S 0 0 1), o, w_pass_3 ⟨by decide, by decide, by decide, by decide⟩ (c_p_pass_1 hG hx), c_r_pass_1 hx, rfl, fun h0 => absurd h0 (by decide), Rel_0 hc hR _⟩
  obtain ⟨d, hd1, hd50, rfl⟩ : ∃ d, 1 ≤ d ∧ d ≤ 50 ∧ x1 = nI d := by
    rcases ixs x1 51 (by decide) with (h | h) | ⟨d, hd, e⟩
    · exact absurd (Or.inl (Int32.lt_of_lt_of_le h (by decide))) hx
    · exact absurd (Or.inr (Int32.lt_of_lt_of_le (by decide) h)) hx
    · refine ⟨d, ?_, by omega, e⟩
      by_cases h0 : d = 0
      · subst h0
        subst e
        exact absurd (Or.inl (by decide)) hx
      · omega
  by_cases h4 : 400 < t + d
  · exact ⟨2, 0, T, (st1 S 0 0 2), o, w_pass_2 ⟨by decide, by decide, by decide, by decide⟩ (c_p_pass_2 hG ht ht4 hd1 hd50 h4), c_r_pass_2 ht2 ht4 hd1 hd50 h4, rfl, fun h0 => absurd h0 (by decide), Rel_0 hc hR _⟩
  have h4 : t + d ≤ 400 := by omega
  rcases day_of T (nI t) v with ⟨j, hj, hx9, h0⟩ | h0
  · have h := jR_pass (T' := (st1 (tEnd T j) 3 0 (nI t + nI d))) hR hd1 h4 (fun g g3 g35 g37 => by rw [st1_f g3]; exact tEnd_f ⟨g35, g37⟩) (by rw [st1_same, nI_add])
      (fun i hi => by
        obtain ⟨e, he, e1, e2, e3⟩ := hD.1.1 i hi
        rw [st1_f (show 37 ≠ 3 by decide)]
        have e4 : tEnd T j 37 = st1 T 37 j 1 37 := itN_f (F := ted j) 37 (fun k S => ted_f (by decide)) (st1 T 37 j 1) 10
        rw [e4, st1_if]
        by_cases e5 : i = j
        · rw [if_pos e5]; decide
        · rw [if_neg e5]
          intro h9
          have h8 := e2.mp h9
          subst h8
          exact e5 (hD.1.2.1 i j hi hj (e1.trans hx9.symm)))
      (fun i hi l hl => by
        rw [st1_f (show 35 ≠ 3 by decide)]
        unfold tEnd
        rw [ted_at]
        show (if 10 * j ≤ 10 * i + l ∧ 10 * i + l < 10 * j + 10 ∧ ¬ T 34 (10 * i + l) = 0 then 1 else T 35 (10 * i + l)) = _
        by_cases e5 : i = j
        · subst e5
          by_cases e6 : T 34 (10 * i + l) = 0
          · rw [if_neg (fun h => h.2.2 e6), if_neg (fun h => h.2 e6)]
          · rw [if_pos ⟨by omega, by omega, e6⟩, if_pos ⟨hx9, e6⟩]
        · rw [if_neg (by omega), if_neg (fun h => e5 (hD.1.2.1 i j hi hj (h.1.trans hx9.symm)))])
    have e9 := h.2
    exact ⟨0, (rDays (st1 S 0 0 0) n m t d).2, (tLapse (st1 (tEnd T j) 3 0 (nI t + nI d)) m).1, (rDays (st1 S 0 0 0) n m t d).1, am_updL o 0 ((tLapse (st1 (tEnd T j) 3 0 (nI t + nI d)) m).2).toInt64, w_pass_n ⟨by decide, by decide, by decide, by decide⟩ (c_p_pass_y hm hm80 hv hv80 ht ht4 hd1 hd50 h4 hj hx9 h0), c_r_pass_3 hn2 hn10 hm2 hm80 ht2 ht4 hd1 hd50 h4, ((congrFun (rDays_f (by decide) (by decide) (by decide) d) 0).trans rfl), fun _ => (up0 o _).trans (congrArg Int32.toInt64 e9), ⟨n, m, v, t + d, c, by omega, h.1⟩⟩
  · have h := jR_pass (T' := (st1 T 3 0 (nI t + nI d))) hR hd1 h4 (fun g g3 g35 g37 => st1_f g3) (by rw [st1_same, nI_add])
      (fun i hi h9 => by
        obtain ⟨e, he, e1, e2, e3⟩ := hD.1.1 i hi
        have h8 := e2.mp h9
        subst h8
        exact h0 i hi e1)
      (fun i hi l hl => by rw [if_neg (fun h => h0 i hi h.1)]; rfl)
    have e9 := h.2
    exact ⟨0, (rDays (st1 S 0 0 0) n m t d).2, (tLapse (st1 T 3 0 (nI t + nI d)) m).1, (rDays (st1 S 0 0 0) n m t d).1, am_updL o 0 ((tLapse (st1 T 3 0 (nI t + nI d)) m).2).toInt64, w_pass_n ⟨by decide, by decide, by decide, by decide⟩ (c_p_pass_n hm hm80 hv hv80 ht ht4 hd1 hd50 h4 h0), c_r_pass_3 hn2 hn10 hm2 hm80 ht2 ht4 hd1 hd50 h4, ((congrFun (rDays_f (by decide) (by decide) (by decide) d) 0).trans rfl), fun _ => (up0 o _).trans (congrArg Int32.toInt64 e9), ⟨n, m, v, t + d, c, by omega, h.1⟩⟩
