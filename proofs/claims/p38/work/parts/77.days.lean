/-! pure: days go by, in both -/
theorem q_days {T S T' : am_T} {o : Nat → Int64} {n m v t c d : Nat} (hR : qR T S o n m v t c) (hc : c ≤ 100) (hd1 : 1 ≤ d) (hd : t + d ≤ 14) (fT : ∀ g, g ≠ 3 → g ≠ 35 → g ≠ 37 → T' g = T g) (h3 : T' 3 0 = nI (t + d)) (h37 : ∀ j, j < v → ¬ T' 37 j = 0) (h35 : ∀ j, j < v → ∀ l, l < 4 → T' 35 (10 * j + l) = if T 33 j = nI t ∧ ¬ T 34 (10 * j + l) = 0 then 1 else T 35 (10 * j + l)) : qR (tLapse T' m).1 (lDays m t S d).1 o n m v (t + d) (c + 1) ∧ (tLapse T' m).2 = (lDays m t S d).2 := by
  obtain ⟨i1, i2, i3, i4, s9⟩ := days_at hR hd d (Nat.le_refl d)
  generalize (lDays m t S d).1 = X at i1 i3 i4 s9 ⊢
  generalize (lDays m t S d).2 = a at i2 ⊢
  obtain ⟨l1, l2⟩ := tLapse_at T' m
  obtain ⟨⟨hA, hP, hL, hJ, hM, hF, hK, hQ, hN⟩, hD, hV⟩ := hR
  obtain ⟨a1, a2, a3, a4, a5, a6, a7, a8, a9, a10, a11, a12⟩ := id hA
  have hle : ∀ k, k < m → ∃ e, e ≤ 21 ∧ S 21 k = nI e ∧ (S 13 k = 1 → S 22 k = 0 → t < e) := fun k hk => (hK k hk).2.2.2.2.2.2.2.2.2.2.1
  have hC : ∀ k, k < m → (((T' 25 k = 1 ∧ ¬ T' 28 k = 1) ∧ T' 24 k ≤ T' 3 0) ↔ lpd S t d k = true) := fun k hk => by
    obtain ⟨e, he, e1, e2⟩ := hle k hk
    obtain ⟨b1, b2, b3, b4, b5, b6, b7, b8, b9, b10, b11, b12, b13⟩ := hK k hk
    rw [fT 25 (by decide) (by decide) (by decide), fT 28 (by decide) (by decide) (by decide), fT 24 (by decide) (by decide) (by decide), h3, b12, b10, e1, (hQ k hk).1, Decidable.not_not, nI_leI (by omega) (by omega), lpd_iff e1 he, and_assoc]
  refine ⟨?_, ?_⟩
  · have t9 : ∀ {g}, g ≠ 25 ∧ g ≠ 3 ∧ g ≠ 35 ∧ g ≠ 37 → (tLapse T' m).1 g = T g := fun {g} h => by
      rw [l1]
      funext i
      exact (if_neg (fun h9 => h.1 h9.1)).trans (congrFun (fT g h.2.1 h.2.2.1 h.2.2.2) i)
    have t9' : ∀ {g}, g ≠ 25 → (tLapse T' m).1 g = T' g := fun {g} h => by
      rw [l1]
      funext i
      exact if_neg (fun h9 => h h9.1)
    have e25 : ∀ k, k < m → (tLapse T' m).1 25 k = if lpd S t d k = true then 2 else T 25 k := fun k hk => by
      rw [l1]
      show (if 25 = 25 ∧ _ then 2 else T' 25 k) = _
      by_cases h : lpd S t d k = true
      · rw [if_pos h, if_pos ⟨rfl, hk, (hC k hk).mpr h⟩]
      · rw [if_neg h, if_neg (fun h9 => h ((hC k hk).mp h9.2.2)), fT 25 (by decide) (by decide) (by decide)]
    generalize (tLapse T' m).1 = Y at t9 t9' e25 ⊢
    refine ⟨⟨⟨by rw [t9 (show 0 ≠ 25 ∧ 0 ≠ 3 ∧ 0 ≠ 35 ∧ 0 ≠ 37 by decide)]; exact a1, by rw [s9 (show 71 ≠ 13 ∧ 71 ≠ 40 ∧ 71 ≠ 70 by decide)]; exact a2, a3, by rw [t9 (show 1 ≠ 25 ∧ 1 ≠ 3 ∧ 1 ≠ 35 ∧ 1 ≠ 37 by decide)]; exact a4, by rw [s9 (show 72 ≠ 13 ∧ 72 ≠ 40 ∧ 72 ≠ 70 by decide)]; exact a5, a6, by rw [t9 (show 2 ≠ 25 ∧ 2 ≠ 3 ∧ 2 ≠ 35 ∧ 2 ≠ 37 by decide)]; exact a7, a8, by rw [t9' (by decide)]; exact h3, i4, hd, by rw [t9 (show 4 ≠ 25 ∧ 4 ≠ 3 ∧ 4 ≠ 35 ∧ 4 ≠ 37 by decide), s9 (show 80 ≠ 13 ∧ 80 ≠ 40 ∧ 80 ≠ 70 by decide)]; exact a12⟩, qP_m (qP_c hP (t9 (show 5 ≠ 25 ∧ 5 ≠ 3 ∧ 5 ≠ 35 ∧ 5 ≠ 37 by decide)) (t9 (show 6 ≠ 25 ∧ 6 ≠ 3 ∧ 6 ≠ 35 ∧ 6 ≠ 37 by decide)) (t9 (show 7 ≠ 25 ∧ 7 ≠ 3 ∧ 7 ≠ 35 ∧ 7 ≠ 37 by decide)) (t9 (show 8 ≠ 25 ∧ 8 ≠ 3 ∧ 8 ≠ 35 ∧ 8 ≠ 37 by decide)) (t9 (show 9 ≠ 25 ∧ 9 ≠ 3 ∧ 9 ≠ 35 ∧ 9 ≠ 37 by decide)) (s9 (show 30 ≠ 13 ∧ 30 ≠ 40 ∧ 30 ≠ 70 by decide)) (s9 (show 31 ≠ 13 ∧ 31 ≠ 40 ∧ 31 ≠ 70 by decide)) (s9 (show 32 ≠ 13 ∧ 32 ≠ 40 ∧ 32 ≠ 70 by decide)) (s9 (show 33 ≠ 13 ∧ 33 ≠ 40 ∧ 33 ≠ 70 by decide)) rfl) (Nat.le_refl m) (Nat.le_succ c), qL_c hL (t9 (show 10 ≠ 25 ∧ 10 ≠ 3 ∧ 10 ≠ 35 ∧ 10 ≠ 37 by decide)) (t9 (show 14 ≠ 25 ∧ 14 ≠ 3 ∧ 14 ≠ 35 ∧ 14 ≠ 37 by decide)) (t9 (show 15 ≠ 25 ∧ 15 ≠ 3 ∧ 15 ≠ 35 ∧ 15 ≠ 37 by decide)) (t9 (show 16 ≠ 25 ∧ 16 ≠ 3 ∧ 16 ≠ 35 ∧ 16 ≠ 37 by decide)) (t9 (show 17 ≠ 25 ∧ 17 ≠ 3 ∧ 17 ≠ 35 ∧ 17 ≠ 37 by decide)) (s9 (show 0 ≠ 13 ∧ 0 ≠ 40 ∧ 0 ≠ 70 by decide)) (s9 (show 1 ≠ 13 ∧ 1 ≠ 40 ∧ 1 ≠ 70 by decide)) (s9 (show 2 ≠ 13 ∧ 2 ≠ 40 ∧ 2 ≠ 70 by decide)) (s9 (show 3 ≠ 13 ∧ 3 ≠ 40 ∧ 3 ≠ 70 by decide)) (s9 (show 4 ≠ 13 ∧ 4 ≠ 40 ∧ 4 ≠ 70 by decide)), jP_c hJ (t9 (show 13 ≠ 25 ∧ 13 ≠ 3 ∧ 13 ≠ 35 ∧ 13 ≠ 37 by decide)) (s9 (show 5 ≠ 13 ∧ 5 ≠ 40 ∧ 5 ≠ 70 by decide)), qM_c hM (t9 (show 11 ≠ 25 ∧ 11 ≠ 3 ∧ 11 ≠ 35 ∧ 11 ≠ 37 by decide)) (t9 (show 12 ≠ 25 ∧ 12 ≠ 3 ∧ 12 ≠ 35 ∧ 12 ≠ 37 by decide)) (s9 (show 6 ≠ 13 ∧ 6 ≠ 40 ∧ 6 ≠ 70 by decide)) (s9 (show 7 ≠ 13 ∧ 7 ≠ 40 ∧ 7 ≠ 70 by decide)), qF_c hF (s9 (show 3 ≠ 13 ∧ 3 ≠ 40 ∧ 3 ≠ 70 by decide)) (s9 (show 4 ≠ 13 ∧ 4 ≠ 40 ∧ 4 ≠ 70 by decide)) (s9 (show 5 ≠ 13 ∧ 5 ≠ 40 ∧ 5 ≠ 70 by decide)) (s9 (show 6 ≠ 13 ∧ 6 ≠ 40 ∧ 6 ≠ 70 by decide)) (s9 (show 7 ≠ 13 ∧ 7 ≠ 40 ∧ 7 ≠ 70 by decide)), ?_, ?_, qN_c hN (t9 (show 28 ≠ 25 ∧ 28 ≠ 3 ∧ 28 ≠ 35 ∧ 28 ≠ 37 by decide)) (s9 (show 15 ≠ 13 ∧ 15 ≠ 40 ∧ 15 ≠ 70 by decide)) (s9 (show 22 ≠ 13 ∧ 22 ≠ 40 ∧ 22 ≠ 70 by decide)) (s9 (show 24 ≠ 13 ∧ 24 ≠ 40 ∧ 24 ≠ 70 by decide)) (s9 (show 25 ≠ 13 ∧ 25 ≠ 40 ∧ 25 ≠ 70 by decide))⟩, ⟨?_, ?_, ?_, ?_⟩, qV_c hV (t9 (show 30 ≠ 25 ∧ 30 ≠ 3 ∧ 30 ≠ 35 ∧ 30 ≠ 37 by decide)) (t9 (show 31 ≠ 25 ∧ 31 ≠ 3 ∧ 31 ≠ 35 ∧ 31 ≠ 37 by decide)) (s9 (show 22 ≠ 13 ∧ 22 ≠ 40 ∧ 22 ≠ 70 by decide))⟩
    · intro k hk
      obtain ⟨b1, b2, b3, b4, b5, b6, ⟨e, he, b7⟩, b8, b9, b10, ⟨e5, he5, b11, b12⟩, b13, b14⟩ := hK k hk
      rw [t9 (show 18 ≠ 25 ∧ 18 ≠ 3 ∧ 18 ≠ 35 ∧ 18 ≠ 37 by decide), t9 (show 19 ≠ 25 ∧ 19 ≠ 3 ∧ 19 ≠ 35 ∧ 19 ≠ 37 by decide), t9 (show 20 ≠ 25 ∧ 20 ≠ 3 ∧ 20 ≠ 35 ∧ 20 ≠ 37 by decide), t9 (show 21 ≠ 25 ∧ 21 ≠ 3 ∧ 21 ≠ 35 ∧ 21 ≠ 37 by decide), t9 (show 22 ≠ 25 ∧ 22 ≠ 3 ∧ 22 ≠ 35 ∧ 22 ≠ 37 by decide), t9 (show 23 ≠ 25 ∧ 23 ≠ 3 ∧ 23 ≠ 35 ∧ 23 ≠ 37 by decide), t9 (show 24 ≠ 25 ∧ 24 ≠ 3 ∧ 24 ≠ 35 ∧ 24 ≠ 37 by decide), t9 (show 26 ≠ 25 ∧ 26 ≠ 3 ∧ 26 ≠ 35 ∧ 26 ≠ 37 by decide), t9 (show 33 ≠ 25 ∧ 33 ≠ 3 ∧ 33 ≠ 35 ∧ 33 ≠ 37 by decide), s9 (show 10 ≠ 13 ∧ 10 ≠ 40 ∧ 10 ≠ 70 by decide), s9 (show 11 ≠ 13 ∧ 11 ≠ 40 ∧ 11 ≠ 70 by decide), s9 (show 12 ≠ 13 ∧ 12 ≠ 40 ∧ 12 ≠ 70 by decide), s9 (show 14 ≠ 13 ∧ 14 ≠ 40 ∧ 14 ≠ 70 by decide), s9 (show 15 ≠ 13 ∧ 15 ≠ 40 ∧ 15 ≠ 70 by decide), s9 (show 20 ≠ 13 ∧ 20 ≠ 40 ∧ 20 ≠ 70 by decide), s9 (show 21 ≠ 13 ∧ 21 ≠ 40 ∧ 21 ≠ 70 by decide), s9 (show 22 ≠ 13 ∧ 22 ≠ 40 ∧ 22 ≠ 70 by decide), e25 k hk, i1 k hk]
      refine ⟨b1, b2, b3, b4, b5, b6, ⟨e, by omega, b7⟩, b8, b9, b10, ⟨e5, he5, b11, fun h1 h2 => ?_⟩, by rw [b13], b14⟩
      by_cases h9 : lpd S t d k = true
      · rw [if_pos h9] at h1; exact absurd h1 (by decide)
      · rw [if_neg h9] at h1
        by_cases h8 : e5 ≤ t + d
        · exact absurd ((lpd_iff b11 he5).mpr ⟨h1, h2, h8⟩) h9
        · omega
    · intro k hk
      obtain ⟨e5, he5, b11, b12⟩ := hle k hk
      obtain ⟨b1, b2, b3, b4, b5, b6⟩ := hQ k hk
      rw [t9 (show 28 ≠ 25 ∧ 28 ≠ 3 ∧ 28 ≠ 35 ∧ 28 ≠ 37 by decide), t9 (show 29 ≠ 25 ∧ 29 ≠ 3 ∧ 29 ≠ 35 ∧ 29 ≠ 37 by decide), t9 (show 30 ≠ 25 ∧ 30 ≠ 3 ∧ 30 ≠ 35 ∧ 30 ≠ 37 by decide), t9 (show 31 ≠ 25 ∧ 31 ≠ 3 ∧ 31 ≠ 35 ∧ 31 ≠ 37 by decide), t9 (show 32 ≠ 25 ∧ 32 ≠ 3 ∧ 32 ≠ 35 ∧ 32 ≠ 37 by decide), s9 (show 22 ≠ 13 ∧ 22 ≠ 40 ∧ 22 ≠ 70 by decide), s9 (show 23 ≠ 13 ∧ 23 ≠ 40 ∧ 23 ≠ 70 by decide), s9 (show 24 ≠ 13 ∧ 24 ≠ 40 ∧ 24 ≠ 70 by decide), s9 (show 25 ≠ 13 ∧ 25 ≠ 40 ∧ 25 ≠ 70 by decide), i1 k hk]
      refine ⟨b1, b2, fun h1 => ?_, fun h1 h2 => ?_, b5, b6⟩
      · rw [if_neg (fun h9 => by
          have := ((lpd_iff b11 he5).mp h9).2.1
          rw [h1] at this
          exact absurd this (by decide))]
        exact b3 h1
      · by_cases h9 : lpd S t d k = true
        · rw [if_pos h9] at h1; exact absurd h1 (by decide)
        · rw [if_neg h9] at h1
          exact b4 h1 h2
    · intro j hj
      obtain ⟨d2, hd2, g33, g37, g⟩ := hD.1 j hj
      refine ⟨d2, by omega, by rw [t9 (show 33 ≠ 25 ∧ 33 ≠ 3 ∧ 33 ≠ 35 ∧ 33 ≠ 37 by decide)]; exact g33, ⟨fun h9 => absurd (by rw [t9' (by decide)] at h9; exact h9) (h37 j hj), fun h9 => by omega⟩, fun l hl => ?_⟩
      obtain ⟨r34, ⟨e, he, r35, r40, re0, ret⟩, r36, r36b⟩ := g l hl
      have hlate : ¬ bt (T 36 j) l = true := fun e9 => r36.mp e9
      rw [t9 (show 34 ≠ 25 ∧ 34 ≠ 3 ∧ 34 ≠ 35 ∧ 34 ≠ 37 by decide), t9 (show 36 ≠ 25 ∧ 36 ≠ 3 ∧ 36 ≠ 35 ∧ 36 ≠ 37 by decide), s9 (show 50 ≠ 13 ∧ 50 ≠ 40 ∧ 50 ≠ 70 by decide), t9' (show 35 ≠ 25 by decide), h35 j hj l hl, i3 l d2 hl (by omega)]
      refine ⟨r34, ?_, r36, fun h9 => absurd h9 hlate⟩
      rw [if_neg hlate] at r40 ⊢
      have hh : (if S 50 (15 * l + d2) = 0 then 0 else 1) ≤ 1 := by split <;> omega
      have hb : S 40 (15 * l + d2) &&& 1 = 1 ↔ ¬ S 50 (15 * l + d2) = 0 := by
        rw [r40, k_and1 hh (by omega)]
        by_cases h8 : S 50 (15 * l + d2) = 0
        · rw [if_pos h8]
          exact ⟨fun h => absurd h (by decide), fun h => absurd h8 h⟩
        · rw [if_neg h8]
          exact ⟨fun _ => h8, fun _ => rfl⟩
      by_cases h7 : d2 = t ∧ ¬ S 50 (15 * l + d2) = 0
      · obtain ⟨h6, h5⟩ := h7
        rw [if_pos ⟨by rw [g33, h6], by rw [r34]; exact h5⟩, if_pos ⟨hd1, h6, hb.mpr h5⟩, if_neg h5]
        exact ⟨1, by omega, rfl, rfl, fun h => absurd h h5, fun h => by omega⟩
      · rw [if_neg (fun h => h7 ⟨(nI_eq (by omega) (by omega)).mp (g33.symm.trans h.1), by rw [← r34]; exact h.2⟩), if_neg (fun h => h7 ⟨h.2.1, hb.mp h.2.2⟩)]
        exact ⟨e, by omega, r35, r40, re0, fun h => by omega⟩
    · rw [t9 (show 33 ≠ 25 ∧ 33 ≠ 3 ∧ 33 ≠ 35 ∧ 33 ≠ 37 by decide)]; exact hD.2.1
    · intro l e hl he h0
      obtain ⟨z1, z2⟩ := hD.2.2.1 l e hl he (fun j hj => by have := h0 j hj; rw [t9 (show 33 ≠ 25 ∧ 33 ≠ 3 ∧ 33 ≠ 35 ∧ 33 ≠ 37 by decide)] at this; exact this)
      rw [s9 (show 50 ≠ 13 ∧ 50 ≠ 40 ∧ 50 ≠ 70 by decide), i3 l e hl he, z2]
      refine ⟨z1, if_neg (fun h => absurd h.2.2 (by decide))⟩
    · rw [s9 (show 60 ≠ 13 ∧ 60 ≠ 40 ∧ 60 ≠ 70 by decide), s9 (show 12 ≠ 13 ∧ 12 ≠ 40 ∧ 12 ≠ 70 by decide), t9 (show 27 ≠ 25 ∧ 27 ≠ 3 ∧ 27 ≠ 35 ∧ 27 ≠ 37 by decide)]
      exact hD.2.2.2
  · rw [l2, i2]
    congr 1
    refine cn_c m (fun k hk => ?_)
    rw [Bool.eq_iff_iff, decide_eq_true_eq]
    exact hC k hk
