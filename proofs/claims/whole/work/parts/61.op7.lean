/-! each call: send -/
theorem st1_o {S : am_T} {f j g i : Nat} {v : Int32} (h : i ≠ j) : st1 S f j v g i = S g i := by
  rw [st1_at, if_neg (fun e => h e.2)]
theorem jD_mid {T S : am_T} {n v t c : Nat} (hD : jD T S n v t c j0) (hc : c < 2 ^ 20) (ht : t ≤ 400) : jD T S n v t (c + 1) (fun l d => ¬ d = t ∧ S 35 (401 * l + d) = nI (c + 1)) := by
  obtain ⟨d1, d2, d3⟩ := hD
  refine ⟨fun j hj => ?_, d2, fun l d hl hd => ?_⟩
  · obtain ⟨d, hd, e1, e2, e3⟩ := d1 j hj
    refine ⟨d, hd, e1, e2, fun l hl => ?_⟩
    obtain ⟨f1, f2, f3⟩ := e3 l hl
    refine ⟨f1, f2, fun h => absurd (f3.mp h) id, fun h => ?_⟩
    obtain ⟨-, -, -, -, c', hc', g⟩ := d3 l d hl (by omega)
    have h : ¬ d = t ∧ S 35 (401 * l + d) = nI (c + 1) := h
    rw [g] at h
    have := (nI_eq (by omega) (by omega)).mp h.2
    omega
  · obtain ⟨g1, g2, g3, g4, c', hc', g5⟩ := d3 l d hl hd
    exact ⟨g1, g2, g3, g4, c', by omega, g5⟩
theorem tND_33 (T : am_T) (v i : Nat) : tNewD T v 33 i = if i = v then T 3 0 else T 33 i := by
  show st1 (st1 (st1 (st1 T 33 v (T 3 0)) 36 v 0) 37 v 0) 2 0 (nI v + 1) 33 i = _
  rw [st1_f (by decide), st1_f (by decide), st1_f (by decide), st1_if]
theorem tND_36 (T : am_T) (v i : Nat) : tNewD T v 36 i = if i = v then 0 else T 36 i := by
  show st1 (st1 (st1 (st1 T 33 v (T 3 0)) 36 v 0) 37 v 0) 2 0 (nI v + 1) 36 i = _
  rw [st1_f (by decide), st1_f (by decide), st1_if, st1_f (by decide)]
theorem tND_37 (T : am_T) (v i : Nat) : tNewD T v 37 i = if i = v then 0 else T 37 i := by
  show st1 (st1 (st1 (st1 T 33 v (T 3 0)) 36 v 0) 37 v 0) 2 0 (nI v + 1) 37 i = _
  rw [st1_f (by decide), st1_if, st1_f (by decide), st1_f (by decide)]
theorem tND_34 (T : am_T) (v i : Nat) : tNewD T v 34 i = (if 10 * v ≤ i ∧ i < 10 * v + 10 then 0 else T 34 i) ∧ tNewD T v 35 i = (if 10 * v ≤ i ∧ i < 10 * v + 10 then 0 else T 35 i) := ⟨rfl, rfl⟩
theorem tND_f {T : am_T} {v g : Nat} (h : g ≠ 2 ∧ g ≠ 33 ∧ g ≠ 34 ∧ g ≠ 35 ∧ g ≠ 36 ∧ g ≠ 37) : tNewD T v g = T g := by
  unfold tNewD
  rw [if_neg (show ¬ (g = 34 ∨ g = 35) by omega)]
  funext i
  rw [st1_f h.1, st1_f h.2.2.2.2.2, st1_f h.2.2.2.2.1, st1_f h.2.1]
theorem day_new {T S : am_T} {n v t c : Nat} (hD : jD T S n v t c j0) (ht : T 3 0 = nI t) (ht4 : t ≤ 400) (h0 : ∀ i, i < v → ¬ T 33 i = nI t) : jD (tNewD T v) S n (v + 1) t c j0 := by
  obtain ⟨d1, d2, d3⟩ := hD
  refine ⟨fun j hj => ?_, fun i j hi hj h => ?_, fun l d hl hd => ?_⟩
  · rw [tND_33, tND_36, tND_37]
    by_cases e : j = v
    · subst e
      rw [if_pos rfl, if_pos rfl, if_pos rfl]
      refine ⟨t, Nat.le_refl t, ht, ⟨fun _ => rfl, fun _ => rfl⟩, fun l hl => ?_⟩
      obtain ⟨g1, g2, g3, g4, g5⟩ := d3 l t hl ht4
      rw [(tND_34 T j _).1, (tND_34 T j _).2, if_pos (by omega), if_pos (by omega), b_0]
      refine ⟨(g3 h0).1.symm, ?_, ⟨fun h => (by cases h), fun h => absurd h id⟩⟩
      rw [(g3 h0).2]; rfl
    · rw [if_neg e, if_neg e, if_neg e]
      obtain ⟨d, hd, e1, e2, e3⟩ := d1 j (by omega)
      refine ⟨d, hd, e1, e2, fun l hl => ?_⟩
      rw [(tND_34 T v _).1, (tND_34 T v _).2, if_neg (by omega), if_neg (by omega)]
      exact e3 l hl
  · rw [tND_33, tND_33] at h
    by_cases e1 : i = v
    · by_cases e2 : j = v
      · omega
      · rw [if_pos e1, if_neg e2, ht] at h
        exact absurd h.symm (h0 j (by omega))
    · by_cases e2 : j = v
      · rw [if_neg e1, if_pos e2, ht] at h
        exact absurd h (h0 i (by omega))
      · rw [if_neg e1, if_neg e2] at h
        exact d2 i j (by omega) (by omega) h
  · obtain ⟨g1, g2, g3, g4, g5⟩ := d3 l d hl hd
    refine ⟨g1, g2, fun h => g3 (fun j hj => ?_), g4, g5⟩
    have := h j (by omega)
    rw [tND_33, if_neg (by omega)] at this
    exact this
theorem tNM_o {T : am_T} {m j k g : Nat} {x2 x3 x5 x6 x7 : Int32} (h1 : g ≠ 1) (hk : k ≠ m) : tNewM T m j x2 x3 x5 x6 x7 g k = T g k := by
  unfold tNewM
  rw [st1_f h1, st1_o hk, st1_o hk, st1_o hk, st1_o hk, st1_o hk, st1_o hk, st1_o hk, st1_o hk, st1_o hk, st1_o hk, st1_o hk]
theorem tNM_m (T : am_T) (m j : Nat) (x2 x3 x5 x6 x7 : Int32) : tNewM T m j x2 x3 x5 x6 x7 18 m = nI m ∧ tNewM T m j x2 x3 x5 x6 x7 19 m = x2 ∧ tNewM T m j x2 x3 x5 x6 x7 20 m = x3 ∧ tNewM T m j x2 x3 x5 x6 x7 21 m = nI j ∧ tNewM T m j x2 x3 x5 x6 x7 22 m = x5 ∧ tNewM T m j x2 x3 x5 x6 x7 23 m = x6 ∧ tNewM T m j x2 x3 x5 x6 x7 24 m = T 33 j + x7 ∧ tNewM T m j x2 x3 x5 x6 x7 25 m = 1 ∧ tNewM T m j x2 x3 x5 x6 x7 26 m = 0 ∧ tNewM T m j x2 x3 x5 x6 x7 27 m = 0 ∧ tNewM T m j x2 x3 x5 x6 x7 28 m = 0 ∧ tNewM T m j x2 x3 x5 x6 x7 1 0 = nI m + 1 := by
  unfold tNewM
  refine ⟨?_, ?_, ?_, ?_, ?_, ?_, ?_, ?_, ?_, ?_, ?_, st1_same _ _ _ _⟩ <;> simp [st1_at]
theorem rSB_o {S : am_T} {m p l t k g : Nat} {sc cs : Int32} (h : g ≠ 0 ∧ g ≠ 2 ∧ g ≠ 17) (hk : k ≠ m) : rSdB S m p l t sc cs g k = S g k := by
  unfold rSdB rSdA
  rw [st1_f h.2.2, st1_o hk, st1_o hk, st1_o hk, st1_o hk, st1_o hk, st1_o hk, st1_o hk, st1_f h.2.1, st1_f h.1, st1_f h.1]
theorem rSB_f {S : am_T} {m p l t g : Nat} {sc cs : Int32} (h : g ≠ 0 ∧ g ≠ 2 ∧ g ≠ 17) (h2 : g ≠ 18 ∧ g ≠ 19 ∧ g ≠ 20 ∧ g ≠ 21 ∧ g ≠ 22 ∧ g ≠ 23 ∧ g ≠ 24) : rSdB S m p l t sc cs g = S g := by
  obtain ⟨h18, h19, h20, h21, h22, h23, h24⟩ := h2
  unfold rSdB rSdA
  rw [st1_f h.2.2, st1_f h24, st1_f h23, st1_f h22, st1_f h21, st1_f h20, st1_f h19, st1_f h18, st1_f h.2.1, st1_f h.1, st1_f h.1]
theorem rSB_m (S : am_T) (m p l t : Nat) (sc cs : Int32) : rSdB S m p l t sc cs 18 m = nI p ∧ rSdB S m p l t sc cs 19 m = nI l ∧ rSdB S m p l t sc cs 20 m = nI t ∧ rSdB S m p l t sc cs 21 m = nI t + S 12 l ∧ rSdB S m p l t sc cs 22 m = sc ∧ rSdB S m p l t sc cs 23 m = cs ∧ rSdB S m p l t sc cs 24 m = 1 := by
  unfold rSdB rSdA
  refine ⟨?_, ?_, ?_, ?_, ?_, ?_, ?_⟩ <;> simp [st1_at]
theorem tNM_f {T : am_T} {m j g : Nat} {x2 x3 x5 x6 x7 : Int32} (h : g ≠ 1 ∧ g ≠ 18 ∧ g ≠ 19 ∧ g ≠ 20 ∧ g ≠ 21 ∧ g ≠ 22 ∧ g ≠ 23 ∧ g ≠ 24 ∧ g ≠ 25 ∧ g ≠ 26 ∧ g ≠ 27 ∧ g ≠ 28) : tNewM T m j x2 x3 x5 x6 x7 g = T g := by
  obtain ⟨h1, h18, h19, h20, h21, h22, h23, h24, h25, h26, h27, h28⟩ := h
  unfold tNewM
  rw [st1_f h1, st1_f h28, st1_f h27, st1_f h26, st1_f h25, st1_f h24, st1_f h23, st1_f h22, st1_f h21, st1_f h20, st1_f h19, st1_f h18]
/-- a mail is sent -/
theorem mid_new {T S T0 : am_T} {n m v v' j t c p l : Nat} {sc cs : Int32} (hR : jR T S n m v t c) (hm9 : m < 80) (hc : c < 2 ^ 20) (hp : p < 16) (hl : l < n) (fT : ∀ {g}, (g ≠ 2 ∧ g ≠ 33 ∧ g ≠ 34 ∧ g ≠ 35 ∧ g ≠ 36 ∧ g ≠ 37) → T0 g = T g) (h2 : T0 2 0 = nI v') (hv1 : v' ≤ m + 1) (hv2 : v ≤ v') (hj : j < v') (h3j : T0 33 j = nI t) (h33 : ∀ i, i < v → T0 33 i = T 33 i) (hD0 : jD T0 S n v' t c j0) : jMid (tNewM T0 m j (nI p) (nI l) sc cs (T0 16 l)) (rSdB S m p l t sc cs) n (m + 1) v' t (c + 1) ∧ jV (tNewM T0 m j (nI p) (nI l) sc cs (T0 16 l)) (rSdB S m p l t sc cs) (m + 1) := by
  obtain ⟨⟨hA, hW, hL, hP, hM, hF, hK, hQ, hN⟩, hD, hV⟩ := hR
  obtain ⟨a1, a2, a3, a4, a5, a6, a7, a8, a9, a10, a11, a12, a13⟩ := hA
  obtain ⟨z1, z2, z3, z4, z5, z6, z7⟩ := hN m (Nat.le_refl m) hm9
  have tm := tNM_m T0 m j (nI p) (nI l) sc cs (T0 16 l)
  have sm := rSB_m S m p l t sc cs
  have to : ∀ {g k : Nat}, g ≠ 1 → k ≠ m → tNewM T0 m j (nI p) (nI l) sc cs (T0 16 l) g k = T0 g k := fun h1 hk => tNM_o h1 hk
  have tf : ∀ {g : Nat}, (g ≠ 1 ∧ g ≠ 18 ∧ g ≠ 19 ∧ g ≠ 20 ∧ g ≠ 21 ∧ g ≠ 22 ∧ g ≠ 23 ∧ g ≠ 24 ∧ g ≠ 25 ∧ g ≠ 26 ∧ g ≠ 27 ∧ g ≠ 28) → tNewM T0 m j (nI p) (nI l) sc cs (T0 16 l) g = T0 g := fun h => tNM_f h
  have so : ∀ {g k : Nat}, (g ≠ 0 ∧ g ≠ 2 ∧ g ≠ 17) → k ≠ m → rSdB S m p l t sc cs g k = S g k := fun h hk => rSB_o h hk
  have sf : ∀ {g : Nat}, (g ≠ 0 ∧ g ≠ 2 ∧ g ≠ 17) → (g ≠ 18 ∧ g ≠ 19 ∧ g ≠ 20 ∧ g ≠ 21 ∧ g ≠ 22 ∧ g ≠ 23 ∧ g ≠ 24) → rSdB S m p l t sc cs g = S g := fun h h2 => rSB_f h h2
  have s17 : rSdB S m p l t sc cs 17 0 = nI (m + 1) := by unfold rSdB; rw [st1_same, nI_1]
  have s2 : rSdB S m p l t sc cs 2 0 = nI (c + 1) := by
    have e : rSdB S m p l t sc cs 2 = st1 (st1 (st1 S 0 0 0) 0 0 0) 2 0 (S 2 0 + 1) 2 := by
      unfold rSdB rSdA
      rw [st1_f (by decide), st1_f (by decide), st1_f (by decide), st1_f (by decide), st1_f (by decide), st1_f (by decide), st1_f (by decide), st1_f (by decide)]
    rw [e, st1_same, a12, nI_1]
  have e16 : T0 16 l = S 12 l := by rw [fT (by decide)]; exact (hL l hl).2.2.2.2.1
  obtain ⟨dd, hdd1, hdd2, edd⟩ := (hL l hl).2.2.2.2.2.1
  generalize hTT : tNewM T0 m j (nI p) (nI l) sc cs (T0 16 l) = T' at tm to tf ⊢
  generalize hSS : rSdB S m p l t sc cs = S' at sm so sf s17 s2 ⊢
  obtain ⟨t18, t19, t20, t21, t22, t23, t24, t25, t26, t27, t28, t1⟩ := tm
  obtain ⟨s18, s19, s20, s21, s22, s23, s24⟩ := sm
  have tt : ∀ {g}, (g ≠ 1 ∧ g ≠ 18 ∧ g ≠ 19 ∧ g ≠ 20 ∧ g ≠ 21 ∧ g ≠ 22 ∧ g ≠ 23 ∧ g ≠ 24 ∧ g ≠ 25 ∧ g ≠ 26 ∧ g ≠ 27 ∧ g ≠ 28) ∧ (g ≠ 2 ∧ g ≠ 33 ∧ g ≠ 34 ∧ g ≠ 35 ∧ g ≠ 36 ∧ g ≠ 37) → T' g = T g := fun h => (tf h.1).trans (fT h.2)
  have too : ∀ {g k : Nat}, g ≠ 1 ∧ (g ≠ 2 ∧ g ≠ 33 ∧ g ≠ 34 ∧ g ≠ 35 ∧ g ≠ 36 ∧ g ≠ 37) → k ≠ m → T' g k = T g k := fun h hk => (to h.1 hk).trans (congrFun (fT h.2) _)
  have ss : ∀ {g}, (g ≠ 0 ∧ g ≠ 2 ∧ g ≠ 17) ∧ (g ≠ 18 ∧ g ≠ 19 ∧ g ≠ 20 ∧ g ≠ 21 ∧ g ≠ 22 ∧ g ≠ 23 ∧ g ≠ 24) → S' g = S g := fun h => sf h.1 h.2
  refine ⟨⟨⟨⟨by rw [tt (by decide)]; exact a1, by rw [ss (by decide)]; exact a2, a3, by rw [t1, nI_1], s17, by omega, by rw [tf (by decide)]; exact h2, hv1, by rw [tt (by decide)]; exact a9, by rw [ss (by decide)]; exact a10, a11, s2, by rw [tt (by decide), ss (by decide)]; exact a13⟩, jW_c hW (tt (by decide)) (tt (by decide)) (tt (by decide)) (tt (by decide)) (tt (by decide)) (ss (by decide)) (ss (by decide)) (ss (by decide)) (ss (by decide)) (ss (by decide)), jL_c hL (tt (by decide)) (tt (by decide)) (tt (by decide)) (tt (by decide)) (tt (by decide)) (ss (by decide)) (ss (by decide)) (ss (by decide)) (ss (by decide)) (ss (by decide)), jP_c hP (tt (by decide)) (ss (by decide)), jM_c hM (tt (by decide)) (tt (by decide)) (ss (by decide)), jF_c hF (ss (by decide)) (ss (by decide)) (ss (by decide)), ?_, ?_, ?_⟩, ?_⟩, ?_⟩
  · intro k hk
    by_cases e : k = m
    · subst e
      rw [t18, t19, t20, t21, t22, t23, t24, t25, t26, t27, s18, s19, s20, s21, s22, s23, s24, sf (show 25 ≠ 0 ∧ _ by decide) (by decide), tf (show 33 ≠ 1 ∧ _ by decide), sf (show 31 ≠ 0 ∧ _ by decide) (by decide), sf (show 26 ≠ 0 ∧ _ by decide) (by decide), h3j, e16, edd, nI_add]
      refine ⟨rfl, rfl, ⟨p, hp, rfl⟩, rfl, ⟨l, hl, rfl⟩, ⟨j, hj, rfl, h3j⟩, ⟨t, Nat.le_refl t, rfl⟩, rfl, rfl, rfl, ⟨t + dd, by omega, rfl, fun _ _ => by omega⟩, rfl, z2.symm, fun i hi => ?_, fun _ i hi => z7 i hi⟩
      rw [b_0]
      exact ⟨fun h => (by cases h), fun h => absurd (z7 i hi) h⟩
    · obtain ⟨b1, b2, b3, b4, b5, ⟨j', hj', b6, b7⟩, b8⟩ := hK k (by omega)
      rw [too (by decide) e, too (by decide) e, too (by decide) e, too (by decide) e, too (by decide) e, too (by decide) e, too (by decide) e, too (by decide) e, too (by decide) e, too (by decide) e, so (show 18 ≠ 0 ∧ _ by decide) e, so (show 19 ≠ 0 ∧ _ by decide) e, so (show 20 ≠ 0 ∧ _ by decide) e, so (show 21 ≠ 0 ∧ _ by decide) e, so (show 22 ≠ 0 ∧ _ by decide) e, so (show 23 ≠ 0 ∧ _ by decide) e, so (show 24 ≠ 0 ∧ _ by decide) e, so (show 25 ≠ 0 ∧ _ by decide) e, so (show 26 ≠ 0 ∧ _ by decide) e, ss (show (31 ≠ 0 ∧ _) ∧ _ by decide), tf (show 33 ≠ 1 ∧ _ by decide)]
      exact ⟨b1, b2, b3, b4, b5, ⟨j', by omega, b6, (h33 j' hj').trans b7⟩, b8⟩
  · intro k hk
    by_cases e : k = m
    · subst e
      rw [t28, s24, ss (show (26 ≠ 0 ∧ _) ∧ _ by decide), ss (show (27 ≠ 0 ∧ _) ∧ _ by decide), ss (show (29 ≠ 0 ∧ _) ∧ _ by decide), ss (show (30 ≠ 0 ∧ _) ∧ _ by decide)]
      refine ⟨⟨fun h => absurd h (by decide), fun h => absurd z3 h⟩, fun h => absurd z4 h, fun _ h => absurd z3 h, fun _ => ⟨z5, z6⟩, fun h => absurd h (by decide)⟩
    · have q := hQ k (by omega)
      rw [too (show 28 ≠ 1 ∧ _ by decide) e, too (show 29 ≠ 1 ∧ _ by decide) e, too (show 30 ≠ 1 ∧ _ by decide) e, too (show 31 ≠ 1 ∧ _ by decide) e, too (show 32 ≠ 1 ∧ _ by decide) e, so (show 24 ≠ 0 ∧ _ by decide) e, so (show 26 ≠ 0 ∧ _ by decide) e, so (show 27 ≠ 0 ∧ _ by decide) e, so (show 28 ≠ 0 ∧ _ by decide) e, so (show 29 ≠ 0 ∧ _ by decide) e, so (show 30 ≠ 0 ∧ _ by decide) e]
      exact q
  · intro k hk hk9
    have e : k ≠ m := by omega
    have q := hN k (by omega) hk9
    rw [too (show 28 ≠ 1 ∧ _ by decide) e, ss (show (25 ≠ 0 ∧ _) ∧ _ by decide), ss (show (26 ≠ 0 ∧ _) ∧ _ by decide), ss (show (27 ≠ 0 ∧ _) ∧ _ by decide), ss (show (29 ≠ 0 ∧ _) ∧ _ by decide), ss (show (30 ≠ 0 ∧ _) ∧ _ by decide), ss (show (31 ≠ 0 ∧ _) ∧ _ by decide)]
    exact q
  · exact jD_mid (jD_c hD0 (tf (by decide)) (tf (by decide)) (tf (by decide)) (tf (by decide)) (tf (by decide)) (ss (by decide)) (ss (by decide)) (ss (by decide)) (ss (by decide))) hc a11
  · intro k hk
    by_cases e : k = m
    · subst e
      rw [t28]
      exact fun h => absurd h (by decide)
    · have q := hV k (by omega)
      rw [too (show 28 ≠ 1 ∧ _ by decide) e, too (show 30 ≠ 1 ∧ _ by decide) e, too (show 31 ≠ 1 ∧ _ by decide) e, ss (show (27 ≠ 0 ∧ _) ∧ _ by decide)]
      exact q
/-- today's day has no late reader -/
theorem tdl_36 {n k p : Nat} {set : Int32} {T : am_T} (h : T 37 (T 21 k).toNatClampNeg = 0) : tdl n k set p T 36 = T 36 := by
  unfold tdl
  by_cases h1 : nI p = T 19 k
  · rw [if_pos h1]
  rw [if_neg h1]
  unfold tTo
  by_cases h2 : tLow T n set p = -1
  · rw [if_pos h2]
  rw [if_neg h2]
  by_cases h3 : tMode T n set p = 1
  · rw [if_pos h3]
    unfold tDig tAdd
    rw [st1_f (show 36 ≠ 26 by decide)]
    show st1 _ 36 (T 21 k).toNatClampNeg (if T 37 (T 21 k).toNatClampNeg = 0 then T 36 (T 21 k).toNatClampNeg else _) 36 = _
    rw [if_pos h]
    funext i
    rw [st1_if]
    by_cases e : i = (T 21 k).toNatClampNeg
    · rw [if_pos e, e]
    · rw [if_neg e]; rfl
  rw [if_neg h3]
  by_cases h4 : T 8 p < 10
  · rw [if_pos h4]; rfl
  rw [if_neg h4]
  unfold tBnc
  by_cases h5 : T 7 p + 1 < 3
  · rw [if_pos h5]; rfl
  · rw [if_neg h5, itN_f (F := tb1 p) 36 (fun k S => tb1_f (by decide) (by decide))]; rfl
theorem tDel_36 {T : am_T} {n k : Nat} (h : T 37 (T 21 k).toNatClampNeg = 0) : tDel T n k 36 = T 36 := by
  unfold tDel
  have h9 : ∀ i, itN (tdl n k (tDown (st1 T 25 k 0) n (T 20 k).toNatClampNeg)) (st1 T 25 k 0) i 36 = T 36 := by
    intro i
    induction i with
    | zero => exact st1_f (by decide)
    | succ i ih =>
      refine Eq.trans (tdl_36 ?_) ih
      rw [itN_f (F := tdl n k _) 37 (fun k S => tdl_f (by decide)), itN_f (F := tdl n k _) 21 (fun k S => tdl_f (by decide))]
      exact h
  exact h9 16
theorem tsw_add (T : am_T) (z a b : Int32) : ∀ i, itN (tsw T z) (a + b) i = itN (tsw T z) a i + b
  | 0 => rfl
  | i + 1 => by
    show tsw T z i (itN (tsw T z) (a + b) i) = tsw T z i (itN (tsw T z) a i) + b
    rw [tsw_add T z a b i]
    unfold tsw
    by_cases h : bt z i = true
    · rw [if_pos h, if_pos h, Int32.add_assoc, Int32.add_comm b, Int32.add_assoc]
    · rw [if_neg h, if_neg h]
theorem sum_eq {T S : am_T} {n m v t c p l : Nat} {z : Int32} (hR : jR T S n m v t c) (hp : p < 16) : itN (tsw T z) (T 5 p + tSent T m p) 20 = rSum (rSdA S m p l t) m p z := by
  obtain ⟨⟨hA, hW, hL, hP, hM, hF, hK, hQ, hN⟩, hD, hV⟩ := hR
  obtain ⟨a1, a2, a3, a4, a5, a6, a7, a8, a9, a10, a11, a12, a13⟩ := hA
  rw [tsw_add]
  unfold rSum
  have e1 : itN (rsw (rSdA S m p l t) z) (rSdA S m p l t 4 p) 20 = itN (tsw T z) (T 5 p) 20 := by
    rw [show rSdA S m p l t 4 p = T 5 p from (hW.1 p hp).1.symm]
    refine itN_congr (fun k hk s => ?_)
    unfold rsw tsw
    rw [show rSdA S m p l t 3 k = T 4 k from (a13 k hk).symm]
    by_cases h : bt z k = true
    · rw [if_pos ((bt_iff (by omega)).mpr h), if_pos h]
    · rw [if_neg (fun e => h ((bt_iff (by omega)).mp e)), if_neg h, Int32.add_zero]
  rw [e1]
  generalize itN (tsw T z) (T 5 p) 20 = X
  have h9 : ∀ i, i ≤ m → X + itN (tst T p) 0 i = itN (rsm (rSdA S m p l t) p) X i := by
    intro i
    induction i with
    | zero => exact fun _ => Int32.add_zero X
    | succ i ih =>
      intro hi
      show X + tst T p i (itN (tst T p) 0 i) = rsm (rSdA S m p l t) p i (itN (rsm (rSdA S m p l t) p) X i)
      rw [← ih (by omega)]
      unfold tst rsm
      have hk := hK i (by omega)
      obtain ⟨j, hj, b6, b7⟩ := hk.2.2.2.2.2.1
      have f18 : rSdA S m p l t 18 i = S 18 i := by
        unfold rSdA
        rw [st1_o (by omega), st1_o (by omega), st1_o (by omega), st1_o (by omega)]; rfl
      have f20 : rSdA S m p l t 20 i = S 20 i := by
        unfold rSdA
        rw [st1_o (by omega), st1_o (by omega), st1_o (by omega), st1_o (by omega)]; rfl
      have f1 : rSdA S m p l t 1 0 = S 1 0 := rfl
      rw [f18, f20, f1, hk.2.1, b6, nI_clamp (by omega), b7, a9, a10]
      by_cases h : S 18 i = nI p ∧ S 20 i = nI t
      · rw [if_pos h, if_pos h, Int32.add_assoc]
      · rw [if_neg h, if_neg h, Int32.add_zero]
  exact h9 m (Nat.le_refl m)
theorem score_n {T S : am_T} {n m v t c p l : Nat} {z : Int32} (hR : jR T S n m v t c) (hp : p < 16) : tScore T m p z (-1) = rSum (rSdA S m p l t) m p z := by
  unfold tScore tAns
  rw [if_pos (show (-1 : Int32) < 0 ∨ nI m ≤ -1 from Or.inl (by decide)), if_neg (by decide)]
  exact sum_eq hR hp
theorem score_a {T S : am_T} {n m v t c p l a : Nat} {z : Int32} (hR : jR T S n m v t c) (hp : p < 16) (ha : a < m) : tScore T m p z (nI a) = if (rSdA S m p l t) 18 a = nI p ∨ (rSdA S m p l t) 25 a >>> (nI p &&& 31) &&& 1 = 1 then rSum (rSdA S m p l t) m p z - 3 else rSum (rSdA S m p l t) m p z := by
  unfold tScore
  rw [sum_eq (l := l) hR hp]
  have hm80 : m ≤ 80 := hR.1.1.2.2.2.2.2.1
  have hk := hR.1.2.2.2.2.2.2.1 a ha
  have f18 : rSdA S m p l t 18 a = T 19 a := by
    unfold rSdA
    rw [st1_o (by omega), st1_o (by omega), st1_o (by omega), st1_o (by omega)]
    exact hk.2.1.symm
  have f25 : rSdA S m p l t 25 a = T 26 a := hk.2.2.2.2.2.2.2.2.2.2.2.2.1.symm
  rw [f18, f25]
  have h1 : tAns T m p (nI a) = true ↔ (T 19 a = nI p ∨ T 26 a >>> (nI p &&& 31) &&& 1 = 1) := by
    unfold tAns
    rw [if_neg (show ¬ (nI a < 0 ∨ nI m ≤ nI a) from fun h => h.elim (fun h => nI_pos (by omega) h) (fun h => by have := (nI_leI (by omega) (by omega)).mp h; omega)), decide_eq_true_eq, nI_clamp (by omega), bt_iff (by omega)]
  by_cases h : T 19 a = nI p ∨ T 26 a >>> (nI p &&& 31) &&& 1 = 1
  · rw [if_pos h, if_pos (h1.mpr h)]
  · rw [if_neg h, if_neg (fun e => h (h1.mp e))]
theorem cause_eq {T S S' : am_T} {n m v t c p l : Nat} (hR : jR T S n m v t c) (hp : p < 16) (hl : l < n) (x : Int32) (s11 : S' 11 = S 11) (s13 : S' 13 = S 13) (s14 : S' 14 = S 14) (s15 : S' 15 = S 15) (s16 : S' 16 = S 16) : rCause S' n p l x = tCause T n p l x := by
  obtain ⟨⟨hA, hW, hL, hP, hM, hF, hK, hQ, hN⟩, hD, hV⟩ := hR
  obtain ⟨b1, b2, b3, b4, b5, b6, b7⟩ := hL l hl
  unfold rCause tCause
  rw [re_eq (jP_c (T' := T) (S' := S') hP rfl s15) (jM_c (T' := T) (S' := S') hM rfl rfl s16) hl, s11, s13, s14, b3, b4, b7]
  by_cases h1 : bt (S 14 l) p = true
  · rw [if_pos h1, if_pos ((bt_iff (by omega)).mpr h1)]
  rw [if_neg h1, if_neg (fun e => h1 ((bt_iff (by omega)).mp e))]
  by_cases h2 : ¬ S 13 l = 0 ∧ bt (tMem T n (tDown T n l)) p = false
  · rw [if_pos h2, if_pos ⟨h2.1, (bt_iff0 (by omega)).mpr h2.2⟩]
  · rw [if_neg h2, if_neg (fun e => h2 ⟨e.1, (bt_iff0 (by omega)).mp e.2⟩)]
set_option maxRecDepth 20000 in
set_option maxHeartbeats 1000000 in
theorem op_send {G : am_S} (hG : G.1.stackTraces = false) {c0 : Nat} (hc0 : c0 < 1024) {T S : am_T} {o : Nat → Int64} (h : Rel c0 T S) : ∀ x1 x2 x3 x4 : Int32, ∃ (kk bb : Int32) (T' S' : am_T) (o' : Nat → Int64), am_D G yL_send (.codeWith yL_send cL_send 7 (some .int) [(0, 14, 17, 13), (0, 14, 21, 21), (0, 14, 25, 15)] :: am_G) am_WR (hp T S o) [.ref 0, .int x1, .int x2, .int x3, .int x4, .ref 464] (hp T' S o') (some (.int kk)) ∧ am_D G yX6_send (.code yX6_send cX6_send 5 (some .int) :: am_G) { frames := 4, cells := 0, slots := 0, locals := 98 } (hp T' S o') [.ref 465, .int x1, .int x2, .int x3, .int x4] (hp T' S' o') (some (.int bb)) ∧ S' 0 0 = kk ∧ (kk = 0 → o' 0 = bb.toInt64) ∧ Rel (c0 + 1) T' S' := by
  obtain ⟨n, m, v, t, c, hc, hR⟩ := h
  have hs := jR_safe hR
  have ha := jR_all hR
  obtain ⟨⟨hA, hW, hL, hP, hM, hF, hK, hQ, hN⟩, hD⟩ := id hR
  obtain ⟨hn, hn2, hn10, hm, hm2, hm80, hv, hvm, ht, ht2, ht4, hcc, hwd⟩ := id hA
  have hv80 : v ≤ 80 := by omega
  intro x1 x2 x3 x4
  rcases ixs x1 16 (by omega) with hx | ⟨p, hp, rfl⟩
  · exact ⟨1, 0, T, (st1 S 0 0 1), o, w_send_1 ⟨by decide, by decide, by decide, by decide⟩ (c_p_send_1a hG hx), c_r_send_1 hx, rfl, fun h0 => absurd h0 (by decide), Rel_0 hc hR _⟩
  rcases ixs x2 n (by omega) with hy | ⟨l, hl, rfl⟩
  · exact ⟨1, 0, T, (st1 S 0 0 1), o, w_send_1 ⟨by decide, by decide, by decide, by decide⟩ (c_p_send_1b hG hn hn10 hp hy), c_r_send_2 hn2 hn10 hp hy, rfl, fun h0 => absurd h0 (by decide), Rel_0 hc hR _⟩
  have hNM : ∀ {T0 : am_T} {v' j : Nat} {sc cs : Int32}, m < 80 → (∀ {g}, (g ≠ 2 ∧ g ≠ 33 ∧ g ≠ 34 ∧ g ≠ 35 ∧ g ≠ 36 ∧ g ≠ 37) → T0 g = T g) → T0 2 0 = nI v' → v' ≤ m + 1 → v ≤ v' → j < v' → T0 33 j = nI t → T0 37 j = 0 → (∀ i, i < v → T0 33 i = T 33 i) → jD T0 S n v' t c j0 →
      jR (tNewM T0 m j (nI p) (nI l) sc cs (T0 16 l)) (rSdB S m p l t sc cs) n (m + 1) v' t (c + 1) ∧ jR (tDel (tNewM T0 m j (nI p) (nI l) sc cs (T0 16 l)) n m) (rPass (rSdB S m p l t sc cs) n m l) n (m + 1) v' t (c + 1) := by
    intro T0 v' j sc cs hm9 fT h2 hv1 hv2 hj h3j h7j h33 hD0
    obtain ⟨h1, hV1⟩ := mid_new (sc := sc) (cs := cs) hR hm9 (by omega) hp hl fT h2 hv1 hv2 hj h3j h33 hD0
    have tf : ∀ {g : Nat}, (g ≠ 1 ∧ g ≠ 18 ∧ g ≠ 19 ∧ g ≠ 20 ∧ g ≠ 21 ∧ g ≠ 22 ∧ g ≠ 23 ∧ g ≠ 24 ∧ g ≠ 25 ∧ g ≠ 26 ∧ g ≠ 27 ∧ g ≠ 28) → tNewM T0 m j (nI p) (nI l) sc cs (T0 16 l) g = T0 g := fun h => tNM_f h
    have h36 : ∀ i, i < v' → ∀ q, q < 10 → bt (T0 36 i) q = false := fun i hi q hq => by
      obtain ⟨d, hd, e1, e2, e3⟩ := hD0.1 i hi
      exact bt_false.mp (fun h => (e3 q hq).2.2.mp h)
    have sm := rSB_m S m p l t sc cs
    have tm := tNM_m T0 m j (nI p) (nI l) sc cs (T0 16 l)
    have s27 : rSdB S m p l t sc cs 27 m = 0 := (congrFun (rSB_f (by decide) (by decide)) m).trans (hN m (Nat.le_refl m) hm9).2.2.2.1
    refine ⟨mid_rest h1 hV1 (by rw [tf (by decide)]; exact h36), ?_⟩
    have h2 := mid_pass h1 (show m < m + 1 by omega) sm.2.2.2.2.2.2
    have e27 : st1 (rSdB S m p l t sc cs) 27 m 0 = rSdB S m p l t sc cs := by
      have h := st1_id (rSdB S m p l t sc cs) 27 m
      rw [s27] at h
      exact h
    rw [tClose_id h1.1.2.2.2.2.2.2.2.1 (show m < m + 1 by omega) s27, e27, sm.2.1, nI_clamp (by omega)] at h2
    refine mid_rest h2 (jV_c hV1 (tDel_f (by decide) (by decide)) (tDel_f (by decide) (by decide)) (tDel_f (by decide) (by decide)) (rPass_f (by decide) (by decide))) ?_
    rw [tDel_36 (by rw [tm.2.2.2.1, nI_clamp (by omega), tf (by decide)]; exact h7j), tf (by decide)]
    exact h36
  have hDY : ∀ {j : Nat} {sc cs : Int32}, m < 80 → j < v → T 33 j = nI t → jR (tNewM T m j (nI p) (nI l) sc cs (T 16 l)) (rSdB S m p l t sc cs) n (m + 1) v t (c + 1) ∧ jR (tDel (tNewM T m j (nI p) (nI l) sc cs (T 16 l)) n m) (rPass (rSdB S m p l t sc cs) n m l) n (m + 1) v t (c + 1) := by
    intro j sc cs hm9 hj hx
    obtain ⟨d, hd, e1, e2, -⟩ := hD.1.1 j hj
    exact hNM hm9 (fun _ => rfl) hv (by omega) (Nat.le_refl v) hj hx (e2.mpr ((nI_eq (by omega) (by omega)).mp (e1.symm.trans hx))) (fun _ _ => rfl) hD.1
  have hDN : ∀ {sc cs : Int32}, m < 80 → (∀ i, i < v → ¬ T 33 i = nI t) → jR (tNewM (tNewD T v) m v (nI p) (nI l) sc cs (tNewD T v 16 l)) (rSdB S m p l t sc cs) n (m + 1) (v + 1) t (c + 1) ∧ jR (tDel (tNewM (tNewD T v) m v (nI p) (nI l) sc cs (tNewD T v 16 l)) n m) (rPass (rSdB S m p l t sc cs) n m l) n (m + 1) (v + 1) t (c + 1) := by
    intro sc cs hm9 h0
    refine hNM hm9 (fun h => tND_f h) (nI_1 v) (by omega) (by omega) (by omega) ?_ ?_ (fun i hi => ?_) (day_new hD.1 ht ht4 h0)
    · rw [tND_33, if_pos rfl]; exact ht
    · rw [tND_37, if_pos rfl]
    · rw [tND_33, if_neg (by omega)]
  by_cases hu : x4 = -1
  · subst hu
    by_cases hz : x3 < 0 ∨ 1048575 < x3
    · exact ⟨2, 0, T, (st1 S 0 0 2), o, w_send_3 ⟨by decide, by decide, by decide, by decide⟩ (c_p_send_2n hG hn hn10 hm hm80 hp hl hz), c_r_send_4n hn2 hn10 hm2 hm80 hp hl hz, rfl, fun h0 => absurd h0 (by decide), Rel_0 hc hR _⟩
    have hz1 : ¬ x3 < 0 := fun h => hz (Or.inl h)
    have hz2 : ¬ 1048575 < x3 := fun h => hz (Or.inr h)
    have hz9 : 0 ≤ x3 ∧ x3 ≤ 1048575 := ⟨Int32.not_lt.mp hz1, Int32.not_lt.mp hz2⟩
    by_cases h80 : m = 80
    · exact ⟨3, 0, T, (st1 (st1 S 0 0 0) 0 0 3), o, w_send_2 ⟨by decide, by decide, by decide, by decide⟩ (c_p_send_3n hG hn hn10 hm hm80 (by rw [hm, h80]) hp hl hz9), c_r_send_5n hn2 hn10 hm2 hm80 hp hl hz1 hz2 h80, rfl, fun h0 => absurd h0 (by decide), Rel_00 hc hR _ _⟩
    have h80 : m < 80 := by omega
    have h28 := (hN m (Nat.le_refl m) h80).1
    have hsc := score_n (l := l) (z := x3) hR hp
    have hq := cause_eq (S' := st1 (rSdA S m p l t) 22 m (rSum (rSdA S m p l t) m p x3)) hR hp hl (rSum (rSdA S m p l t) m p x3) rfl rfl rfl rfl rfl
    have hr6 := fun (o : Nat → Int64) (T9 : am_T) (cs : Int32) (hcs : _) (hcn : _) => c_r_send_6n (G := G) (T := T9) (o := o) (cs := cs) hn2 hn10 hm2 hm80 hp hl hz1 hz2 h80 ht2 ht4 ha.2.2.2.2.1 hcs hcn
    have hr7 := fun (o : Nat → Int64) (T9 : am_T) (cs : Int32) (hcs : _) (hcn : _) => c_r_send_7n (G := G) (T := T9) (o := o) (cs := cs) hn2 hn10 hm2 hm80 hp hl hz1 hz2 h80 ht2 ht4 ha.2.2.2.2.1 hcs hcn
    have hcs9 : tCause T n p l (tScore T m p x3 (-1)) = tCause T n p l (rSum (rSdA S m p l t) m p x3) := by rw [hsc]
    generalize (rSum (rSdA S m p l t) m p x3) = sc at hsc hq hr6 hr7 hcs9
    rcases day_of T (T 3 0) v with ⟨j, hj, hx9, h0⟩ | h0
    · generalize hcc9 : tCause T n p l sc = cs at hq hcs9
      by_cases hc1 : cs = -1
      · have hp9 := c_p_send_nnyp (G := G) (S := S) (o := o) (cs := cs) hs h80 h28 hp hl hz9 hj hx9 h0 hcs9 hc1
        rw [hsc] at hp9
        exact ⟨0, nI m, (tDel (tNewM T m j (nI p) (nI l) sc cs (T 16 l)) n m), (rPass (rSdB S m p l t sc cs) n m l), am_updL o 0 (nI m).toInt64, w_send_n ⟨by decide, by decide, by decide, by decide⟩ (hp9), hr7 _ _ cs hq hc1, ((congrFun (rPass_f (by decide) (by decide)) 0).trans rfl), fun _ => up0 o _, ⟨n, m + 1, v, t, c + 1, by omega, (hDY h80 hj (hx9.trans ht)).2⟩⟩
      · have hp9 := c_p_send_nnyh (G := G) (S := S) (o := o) (cs := cs) hs h80 h28 hp hl hz9 hj hx9 h0 hcs9 hc1
        rw [hsc] at hp9
        exact ⟨0, nI m, (tNewM T m j (nI p) (nI l) sc cs (T 16 l)), (rSdB S m p l t sc cs), am_updL o 0 (nI m).toInt64, w_send_n ⟨by decide, by decide, by decide, by decide⟩ (hp9), hr6 _ _ cs hq hc1, rfl, fun _ => up0 o _, ⟨n, m + 1, v, t, c + 1, by omega, (hDY h80 hj (hx9.trans ht)).1⟩⟩
    · generalize hcc9 : tCause T n p l sc = cs at hq hcs9
      by_cases hc1 : cs = -1
      · have hp9 := c_p_send_nnnp (G := G) (S := S) (o := o) (cs := cs) hs h80 h28 hp hl hz9 (by omega) h0 hcs9 hc1
        rw [hsc] at hp9
        exact ⟨0, nI m, (tDel (tNewM (tNewD T v) m v (nI p) (nI l) sc cs ((tNewD T v) 16 l)) n m), (rPass (rSdB S m p l t sc cs) n m l), am_updL o 0 (nI m).toInt64, w_send_n ⟨by decide, by decide, by decide, by decide⟩ (hp9), hr7 _ _ cs hq hc1, ((congrFun (rPass_f (by decide) (by decide)) 0).trans rfl), fun _ => up0 o _, ⟨n, m + 1, v + 1, t, c + 1, by omega, (hDN h80 (fun i hi h => h0 i hi (h.trans ht.symm))).2⟩⟩
      · have hp9 := c_p_send_nnnh (G := G) (S := S) (o := o) (cs := cs) hs h80 h28 hp hl hz9 (by omega) h0 hcs9 hc1
        rw [hsc] at hp9
        exact ⟨0, nI m, (tNewM (tNewD T v) m v (nI p) (nI l) sc cs ((tNewD T v) 16 l)), (rSdB S m p l t sc cs), am_updL o 0 (nI m).toInt64, w_send_n ⟨by decide, by decide, by decide, by decide⟩ (hp9), hr6 _ _ cs hq hc1, rfl, fun _ => up0 o _, ⟨n, m + 1, v + 1, t, c + 1, by omega, (hDN h80 (fun i hi h => h0 i hi (h.trans ht.symm))).1⟩⟩
  · rcases ixs x4 m (by omega) with hu9 | ⟨a, ha9, rfl⟩
    · exact ⟨1, 0, T, (st1 S 0 0 1), o, w_send_1 ⟨by decide, by decide, by decide, by decide⟩ (c_p_send_1c hG hn hn10 hm hm80 hp hl hu hu9), c_r_send_3 hn2 hn10 hm2 hm80 hp hl hu9 hu, rfl, fun h0 => absurd h0 (by decide), Rel_0 hc hR _⟩
    by_cases hz : x3 < 0 ∨ 1048575 < x3
    · exact ⟨2, 0, T, (st1 S 0 0 2), o, w_send_3 ⟨by decide, by decide, by decide, by decide⟩ (c_p_send_2a hG hn hn10 hm hm80 hp hl ha9 hz), c_r_send_4a hn2 hn10 hm2 hm80 hp hl ha9 hz, rfl, fun h0 => absurd h0 (by decide), Rel_0 hc hR _⟩
    have hz1 : ¬ x3 < 0 := fun h => hz (Or.inl h)
    have hz2 : ¬ 1048575 < x3 := fun h => hz (Or.inr h)
    have hz9 : 0 ≤ x3 ∧ x3 ≤ 1048575 := ⟨Int32.not_lt.mp hz1, Int32.not_lt.mp hz2⟩
    by_cases h80 : m = 80
    · exact ⟨3, 0, T, (st1 (st1 S 0 0 0) 0 0 3), o, w_send_2 ⟨by decide, by decide, by decide, by decide⟩ (c_p_send_3a hG hn hn10 hm hm80 (by rw [hm, h80]) hp hl ha9 hz9), c_r_send_5a hn2 hn10 hm2 hm80 hp hl ha9 hz1 hz2 h80, rfl, fun h0 => absurd h0 (by decide), Rel_00 hc hR _ _⟩
    have h80 : m < 80 := by omega
    have h28 := (hN m (Nat.le_refl m) h80).1
    have hsc := score_a (l := l) (z := x3) hR hp ha9
    have hq := cause_eq (S' := st1 (rSdA S m p l t) 22 m (if (rSdA S m p l t) 18 a = nI p ∨ (rSdA S m p l t) 25 a >>> (nI p &&& 31) &&& 1 = 1 then rSum (rSdA S m p l t) m p x3 - 3 else rSum (rSdA S m p l t) m p x3)) hR hp hl (if (rSdA S m p l t) 18 a = nI p ∨ (rSdA S m p l t) 25 a >>> (nI p &&& 31) &&& 1 = 1 then rSum (rSdA S m p l t) m p x3 - 3 else rSum (rSdA S m p l t) m p x3) rfl rfl rfl rfl rfl
    have hr6 := fun (o : Nat → Int64) (T9 : am_T) (cs : Int32) (hcs : _) (hcn : _) => c_r_send_6a (G := G) (T := T9) (o := o) (cs := cs) hn2 hn10 hm2 hm80 hp hl ha9 hz1 hz2 h80 ht2 ht4 ha.2.2.2.2.1 hcs hcn
    have hr7 := fun (o : Nat → Int64) (T9 : am_T) (cs : Int32) (hcs : _) (hcn : _) => c_r_send_7a (G := G) (T := T9) (o := o) (cs := cs) hn2 hn10 hm2 hm80 hp hl ha9 hz1 hz2 h80 ht2 ht4 ha.2.2.2.2.1 hcs hcn
    have hcs9 : tCause T n p l (tScore T m p x3 (nI a)) = tCause T n p l (if (rSdA S m p l t) 18 a = nI p ∨ (rSdA S m p l t) 25 a >>> (nI p &&& 31) &&& 1 = 1 then rSum (rSdA S m p l t) m p x3 - 3 else rSum (rSdA S m p l t) m p x3) := by rw [hsc]
    generalize (if (rSdA S m p l t) 18 a = nI p ∨ (rSdA S m p l t) 25 a >>> (nI p &&& 31) &&& 1 = 1 then rSum (rSdA S m p l t) m p x3 - 3 else rSum (rSdA S m p l t) m p x3) = sc at hsc hq hr6 hr7 hcs9
    rcases day_of T (T 3 0) v with ⟨j, hj, hx9, h0⟩ | h0
    · generalize hcc9 : tCause T n p l sc = cs at hq hcs9
      by_cases hc1 : cs = -1
      · have hp9 := c_p_send_nayp (G := G) (S := S) (o := o) (cs := cs) hs h80 h28 hp hl ha9 hz9 hj hx9 h0 hcs9 hc1
        rw [hsc] at hp9
        exact ⟨0, nI m, (tDel (tNewM T m j (nI p) (nI l) sc cs (T 16 l)) n m), (rPass (rSdB S m p l t sc cs) n m l), am_updL o 0 (nI m).toInt64, w_send_n ⟨by decide, by decide, by decide, by decide⟩ (hp9), hr7 _ _ cs hq hc1, ((congrFun (rPass_f (by decide) (by decide)) 0).trans rfl), fun _ => up0 o _, ⟨n, m + 1, v, t, c + 1, by omega, (hDY h80 hj (hx9.trans ht)).2⟩⟩
      · have hp9 := c_p_send_nayh (G := G) (S := S) (o := o) (cs := cs) hs h80 h28 hp hl ha9 hz9 hj hx9 h0 hcs9 hc1
        rw [hsc] at hp9
        exact ⟨0, nI m, (tNewM T m j (nI p) (nI l) sc cs (T 16 l)), (rSdB S m p l t sc cs), am_updL o 0 (nI m).toInt64, w_send_n ⟨by decide, by decide, by decide, by decide⟩ (hp9), hr6 _ _ cs hq hc1, rfl, fun _ => up0 o _, ⟨n, m + 1, v, t, c + 1, by omega, (hDY h80 hj (hx9.trans ht)).1⟩⟩
    · generalize hcc9 : tCause T n p l sc = cs at hq hcs9
      by_cases hc1 : cs = -1
      · have hp9 := c_p_send_nanp (G := G) (S := S) (o := o) (cs := cs) hs h80 h28 hp hl ha9 hz9 (by omega) h0 hcs9 hc1
        rw [hsc] at hp9
        exact ⟨0, nI m, (tDel (tNewM (tNewD T v) m v (nI p) (nI l) sc cs ((tNewD T v) 16 l)) n m), (rPass (rSdB S m p l t sc cs) n m l), am_updL o 0 (nI m).toInt64, w_send_n ⟨by decide, by decide, by decide, by decide⟩ (hp9), hr7 _ _ cs hq hc1, ((congrFun (rPass_f (by decide) (by decide)) 0).trans rfl), fun _ => up0 o _, ⟨n, m + 1, v + 1, t, c + 1, by omega, (hDN h80 (fun i hi h => h0 i hi (h.trans ht.symm))).2⟩⟩
      · have hp9 := c_p_send_nanh (G := G) (S := S) (o := o) (cs := cs) hs h80 h28 hp hl ha9 hz9 (by omega) h0 hcs9 hc1
        rw [hsc] at hp9
        exact ⟨0, nI m, (tNewM (tNewD T v) m v (nI p) (nI l) sc cs ((tNewD T v) 16 l)), (rSdB S m p l t sc cs), am_updL o 0 (nI m).toInt64, w_send_n ⟨by decide, by decide, by decide, by decide⟩ (hp9), hr6 _ _ cs hq hc1, rfl, fun _ => up0 o _, ⟨n, m + 1, v + 1, t, c + 1, by omega, (hDN h80 (fun i hi h => h0 i hi (h.trans ht.symm))).1⟩⟩
