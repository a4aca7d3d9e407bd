/-! each call: appeal -/
/-- the lowest of the least in a..b-1 -/
def lst (P : Nat → Prop) (w : Nat → Int32) (a b : Nat) (r : Int32) : Prop := (r = -1 ∧ ∀ i, a ≤ i → i < b → ¬ P i) ∨ ∃ q, a ≤ q ∧ q < b ∧ r = nI q ∧ P q ∧ (∀ i, a ≤ i → i < b → P i → (w q).toInt ≤ (w i).toInt) ∧ ∀ i, a ≤ i → i < q → P i → (w q).toInt < (w i).toInt
theorem lst_up {P : Nat → Prop} [DecidablePred P] {w : Nat → Int32} {i : Nat} {r : Int32} (hi : i < 16) (h : lst P w 0 i r) : lst P w 0 (i + 1) (if P i ∧ (r = -1 ∨ w i < w r.toNatClampNeg) then nI i else r) := by
  rcases h with ⟨e, f⟩ | ⟨q, -, a2, a3, a4, a5, a6⟩
  · by_cases hP : P i
    · rw [if_pos ⟨hP, Or.inl e⟩]
      refine Or.inr ⟨i, by omega, by omega, rfl, hP, fun j _ hj hq => ?_, fun j _ hj hq => absurd hq (f j (by omega) hj)⟩
      by_cases e9 : j = i
      · rw [e9]; exact Int.le_refl _
      · exact absurd hq (f j (by omega) (by omega))
    · rw [if_neg (fun h => hP h.1)]
      refine Or.inl ⟨e, fun j _ hj => ?_⟩
      by_cases e9 : j = i
      · rw [e9]; exact hP
      · exact f j (by omega) (by omega)
  · subst a3
    rw [nI_clamp (by omega)]
    by_cases hP : P i ∧ (nI q = -1 ∨ w i < w q)
    · rw [if_pos hP]
      have hlt : (w i).toInt < (w q).toInt := by
        rcases hP.2 with h | h
        · exact absurd h (nI_ne_m1 (by omega))
        · exact Int32.lt_iff_toInt_lt.mp h
      refine Or.inr ⟨i, by omega, by omega, rfl, hP.1, fun j _ hj hq => ?_, fun j _ hj hq => ?_⟩
      · by_cases e9 : j = i
        · rw [e9]; exact Int.le_refl _
        · have := a5 j (by omega) (by omega) hq
          omega
      · have := a5 j (by omega) (by omega) hq
        omega
    · rw [if_neg hP]
      refine Or.inr ⟨q, by omega, by omega, rfl, a4, fun j _ hj hq => ?_, a6⟩
      by_cases e9 : j = i
      · subst e9
        have : ¬ w j < w q := fun h => hP ⟨hq, Or.inr h⟩
        rw [Int32.lt_iff_toInt_lt] at this
        omega
      · exact a5 j (by omega) (by omega) hq
theorem lst_dn {P : Nat → Prop} [DecidablePred P] {w : Nat → Int32} {i : Nat} {r : Int32} (hi : i < 16) (h : lst P w (i + 1) 16 r) : lst P w i 16 (if P i ∧ (r = -1 ∨ ¬ w r.toNatClampNeg < w i) then nI i else r) := by
  rcases h with ⟨e, f⟩ | ⟨q, a1, a2, a3, a4, a5, a6⟩
  · by_cases hP : P i
    · rw [if_pos ⟨hP, Or.inl e⟩]
      refine Or.inr ⟨i, by omega, by omega, rfl, hP, fun j h1 hj hq => ?_, fun j h1 hj hq => absurd hj (by omega)⟩
      by_cases e9 : j = i
      · rw [e9]; exact Int.le_refl _
      · exact absurd hq (f j (by omega) (by omega))
    · rw [if_neg (fun h => hP h.1)]
      refine Or.inl ⟨e, fun j h1 hj => ?_⟩
      by_cases e9 : j = i
      · rw [e9]; exact hP
      · exact f j (by omega) (by omega)
  · subst a3
    rw [nI_clamp (by omega)]
    by_cases hP : P i ∧ (nI q = -1 ∨ ¬ w q < w i)
    · rw [if_pos hP]
      have hlt : (w i).toInt ≤ (w q).toInt := by
        rcases hP.2 with h | h
        · exact absurd h (nI_ne_m1 (by omega))
        · rw [Int32.lt_iff_toInt_lt] at h
          omega
      refine Or.inr ⟨i, by omega, by omega, rfl, hP.1, fun j h1 hj hq => ?_, fun j h1 hj hq => absurd hj (by omega)⟩
      by_cases e9 : j = i
      · rw [e9]; exact Int.le_refl _
      · have := a5 j (by omega) (by omega) hq
        omega
    · rw [if_neg hP]
      have hlt : P i → (w q).toInt < (w i).toInt := fun h => by
        have : ¬ ¬ w q < w i := fun h9 => hP ⟨h, Or.inr h9⟩
        exact Int32.lt_iff_toInt_lt.mp (Decidable.not_not.mp this)
      refine Or.inr ⟨q, by omega, by omega, rfl, a4, fun j h1 hj hq => ?_, fun j h1 hj hq => ?_⟩
      · by_cases e9 : j = i
        · subst e9
          have := hlt hq
          omega
        · exact a5 j (by omega) (by omega) hq
      · by_cases e9 : j = i
        · subst e9
          exact hlt hq
        · exact a6 j (by omega) (by omega) hq
theorem lst_eq {P : Nat → Prop} {w : Nat → Int32} {a b : Nat} {r s : Int32} (h1 : lst P w a b r) (h2 : lst P w a b s) : r = s := by
  rcases h1 with ⟨e1, f1⟩ | ⟨q, a1, a2, a3, a4, a5, a6⟩
  · rcases h2 with ⟨e2, f2⟩ | ⟨q', b1, b2, b3, b4, b5, b6⟩
    · rw [e1, e2]
    · exact absurd b4 (f1 q' b1 b2)
  · rcases h2 with ⟨e2, f2⟩ | ⟨q', b1, b2, b3, b4, b5, b6⟩
    · exact absurd a4 (f2 q a1 a2)
    · have : q = q' := by
        rcases Nat.lt_trichotomy q q' with h | h | h
        · have g1 := b6 q a1 h a4
          have g2 := a5 q' b1 b2 b4
          omega
        · exact h
        · have g1 := a6 q' b1 h b4
          have g2 := b5 q a1 a2 a4
          omega
      rw [a3, b3, this]
theorem tLeast_lst (T : am_T) (set : Int32) : lst (fun i => bt set i = true) (T 6) 0 16 (tLeast T set) := by
  classical
  have h : ∀ i, i ≤ 16 → lst (fun i => bt set i = true) (T 6) 0 i (itN (tlj T set) (-1) i) := by
    intro i
    induction i with
    | zero => exact fun _ => Or.inl ⟨rfl, fun j _ h => absurd h (by omega)⟩
    | succ i ih =>
      intro hi
      have h9 := lst_up (by omega) (ih (by omega))
      have e : itN (tlj T set) (-1) (i + 1) = if bt set i = true ∧ (itN (tlj T set) (-1) i = -1 ∨ T 6 i < T 6 (itN (tlj T set) (-1) i).toNatClampNeg) then nI i else itN (tlj T set) (-1) i := rfl
      rw [e]
      by_cases hc : bt set i = true ∧ (itN (tlj T set) (-1) i = -1 ∨ T 6 i < T 6 (itN (tlj T set) (-1) i).toNatClampNeg)
      · rw [if_pos hc] at h9 ⊢; exact h9
      · rw [if_neg hc] at h9 ⊢; exact h9
  exact h 16 (Nat.le_refl 16)
theorem rBest_lst {S : am_T} {n k l : Nat} {set : Int32} {P : Nat → Prop} (hP : ∀ q, q < 16 → (P q ↔ (¬ rCan S n k q l = 0 ∧ set >>> (nI q &&& 31) &&& 1 = 0))) : lst P (S 5) 0 16 (rBest S n k l set) := by
  classical
  have h : ∀ i, i ≤ 16 → ∀ r, lst P (S 5) i 16 r → lst P (S 5) 0 16 (itD (rab S n k l set) r i) := by
    intro i
    induction i with
    | zero => exact fun _ r h => h
    | succ i ih =>
      intro hi r hr
      show lst P (S 5) 0 16 (itD (rab S n k l set) (rab S n k l set i r) i)
      refine ih (by omega) _ ?_
      have h9 := lst_dn (by omega) hr
      have hq := hP i (by omega)
      unfold rab
      by_cases hc : ¬ rCan S n k i l = 0 ∧ set >>> (nI i &&& 31) &&& 1 = 0 ∧ (r = -1 ∨ ¬ S 5 r.toNatClampNeg < S 5 i)
      · rw [if_pos hc]
        rw [if_pos ⟨hq.mpr ⟨hc.1, hc.2.1⟩, hc.2.2⟩] at h9
        exact h9
      · rw [if_neg hc]
        rw [if_neg (fun e => hc ⟨(hq.mp e.1).1, (hq.mp e.1).2, e.2⟩)] at h9
        exact h9
  exact h 16 (Nat.le_refl 16) (-1) (Or.inl ⟨rfl, fun j h1 h2 => absurd h1 (by omega)⟩)
theorem jc_bt {T S : am_T} {n : Nat} (hL : jL T S n) : ∀ i, i ≤ n → bd 16 (itN (tjc T) 0 i) ∧ ∀ q, q < 16 → (bt (itN (tjc T) 0 i) q = true ↔ ¬ itN (rcj S q) 0 i = 0)
  | 0, _ => ⟨bd_0 16, fun q _ => by
    show (bt 0 q = true ↔ ¬ (0 : Int32) = 0)
    rw [b_0]
    exact ⟨fun h => (by cases h), fun h => absurd rfl h⟩⟩
  | i + 1, hi => by
    obtain ⟨h1, h2⟩ := jc_bt hL i (by omega)
    obtain ⟨⟨p, hp, e1⟩, e2, -⟩ := hL i (by omega)
    have e : itN (tjc T) 0 (i + 1) = itN (tjc T) 0 i ||| (1 : Int32) <<< (nI p &&& 31) := by
      show itN (tjc T) 0 i ||| (1 : Int32) <<< (T 10 i &&& 31) = _
      rw [e2, e1]
    rw [e]
    refine ⟨bd_or h1 (bd_bit hp (by omega)), fun q hq => ?_⟩
    show _ ↔ ¬ rcj S q i (itN (rcj S q) 0 i) = 0
    have h3 := h2 q hq
    have hpq : nI p = nI q ↔ p = q := nI_eq (by omega) (by omega)
    generalize itN (rcj S q) 0 i = A at h3 ⊢
    unfold rcj
    rw [b_or, b_bit (by omega) (by omega), e1, Bool.or_eq_true, decide_eq_true_eq, h3]
    by_cases h4 : A = 0 ∧ ¬ nI p = nI q
    · rw [if_pos h4]
      exact ⟨fun h => absurd h (fun h => h.elim (fun h => h h4.1) (fun h => h4.2 (hpq.mpr h.symm))), fun h => absurd rfl h⟩
    · rw [if_neg h4]
      refine ⟨fun _ => by decide, fun _ => ?_⟩
      by_cases h5 : A = 0
      · by_cases h6 : p = q
        · exact Or.inr h6.symm
        · exact absurd ⟨h5, fun h => h6 (hpq.mp h)⟩ h4
      · exact Or.inl h5
theorem cand_bt {T S : am_T} {n m v t c k l : Nat} (hR : jR T S n m v t c) (hk : k < m) (hl : l < n) : bd 16 (tCand T n k l) ∧ ∀ q, q < 16 → (bt (tCand T n k l) q = true ↔ ¬ rCan S n k q l = 0) := by
  have hL := hR.1.2.2.1
  obtain ⟨h1, h2⟩ := jc_bt hL n (Nat.le_refl n)
  obtain ⟨-, c19, ⟨sp, hsp, c18⟩, -⟩ := hR.1.2.2.2.2.2.2.1 k hk
  obtain ⟨⟨op, hop, d10⟩, dt, -⟩ := hL l hl
  unfold tCand
  refine ⟨bd_andn _ (bd_andn _ h1), fun q hq => ?_⟩
  have q1 : nI q = nI sp ↔ q = sp := nI_eq (by omega) (by omega)
  have q2 : nI q = nI op ↔ q = op := nI_eq (by omega) (by omega)
  unfold rCan
  rw [b_andn _ _ (by omega), b_andn _ _ (by omega), c19, dt, c18, d10, b_bit (by omega) (by omega), b_bit (by omega) (by omega), Bool.and_eq_true, Bool.and_eq_true, h2 q hq, Bool.not_eq_true', Bool.not_eq_true', decide_eq_false_iff_not, decide_eq_false_iff_not]
  by_cases h3 : ¬ itN (rcj S q) 0 n = 0 ∧ ¬ nI q = nI sp ∧ ¬ nI q = nI op
  · rw [if_pos h3]
    exact ⟨fun _ => by decide, fun _ => ⟨⟨h3.1, fun h => h3.2.1 (q1.mpr h)⟩, fun h => h3.2.2 (q2.mpr h)⟩⟩
  · rw [if_neg h3]
    exact ⟨fun h => absurd ⟨h.1.1, fun h9 => h.1.2 (q1.mp h9), fun h9 => h.2 (q2.mp h9)⟩ h3, fun h => absurd rfl h⟩
theorem jur_it {T S : am_T} {n m v t c k l : Nat} (hR : jR T S n m v t c) (hk : k < m) (hl : l < n) : ∀ i, i ≤ 3 → (itN (fun _ x => rar S n k l x) (0, 0) i).1 = itN (fun _ c => tcj T (tCand T n k l) c) 0 i ∧ sb (itN (fun _ c => tcj T (tCand T n k l) c) 0 i) (tCand T n k l) ∧ (itN (fun _ x => rar S n k l x) (0, 0) i).2 = nI (cb (itN (fun _ c => tcj T (tCand T n k l) c) 0 i) 16) ∧ cb (itN (fun _ c => tcj T (tCand T n k l) c) 0 i) 16 = min i (cb (tCand T n k l) 16) := by
  obtain ⟨hb, hc⟩ := cand_bt hR hk hl
  have hW := hR.1.2.1
  generalize tCand T n k l = cand at hb hc ⊢
  intro i
  induction i with
  | zero =>
    refine fun _ => ⟨rfl, fun i h => (by
      have h : bt 0 i = true := h
      rw [b_0] at h
      cases h), ?_, ?_⟩
    · show (0 : Int32) = nI (cb 0 16)
      rw [cb_zero]; rfl
    · show cb 0 16 = _
      rw [cb_zero]; omega
  | succ i ih =>
    intro hi
    obtain ⟨i1, i2, i3, i4⟩ := ih (by omega)
    show (rar S n k l (itN (fun _ x => rar S n k l x) (0, 0) i)).1 = tcj T cand (itN (fun _ c => tcj T cand c) 0 i) ∧ sb (tcj T cand (itN (fun _ c => tcj T cand c) 0 i)) cand ∧ (rar S n k l (itN (fun _ x => rar S n k l x) (0, 0) i)).2 = nI (cb (tcj T cand (itN (fun _ c => tcj T cand c) 0 i)) 16) ∧ cb (tcj T cand (itN (fun _ c => tcj T cand c) 0 i)) 16 = _
    generalize itN (fun _ c => tcj T cand c) 0 i = x at i1 i2 i3 i4 ⊢
    generalize itN (fun _ x => rar S n k l x) (0, 0) i = y at i1 i3 ⊢
    obtain ⟨y1, y2⟩ := y
    have i1 : y1 = x := i1
    have i3 : y2 = nI (cb x 16) := i3
    subst i1
    have L2 := tLeast_lst T (cand &&& (y1 ^^^ (-1)))
    have L1 : lst (fun i => bt (cand &&& (y1 ^^^ (-1))) i = true) (S 5) 0 16 (rBest S n k l y1) := rBest_lst (fun q hq => by
      rw [b_andn _ _ (by omega), Bool.and_eq_true, Bool.not_eq_true', hc q hq, bt_iff0 (by omega)])
    have L3 : lst (fun i => bt (cand &&& (y1 ^^^ (-1))) i = true) (T 6) 0 16 (rBest S n k l y1) := by
      rcases L1 with h | ⟨q, a1, a2, a3, a4, a5, a6⟩
      · exact Or.inl h
      · refine Or.inr ⟨q, a1, a2, a3, a4, fun i h1 h2 h3 => ?_, fun i h1 h2 h3 => ?_⟩
        · rw [(hW.1 q a2).2.1, (hW.1 i h2).2.1]; exact a5 i h1 h2 h3
        · rw [(hW.1 q a2).2.1, (hW.1 i (by omega)).2.1]; exact a6 i h1 h2 h3
    have e := lst_eq L2 L3
    unfold rar tcj
    show (y1 ||| _ = _) ∧ _ ∧ (y2 + _ = _) ∧ _
    rw [← e, i3]
    rcases L2 with ⟨e1, f1⟩ | ⟨q, a1, a2, a3, a4, -, -⟩
    · rw [if_pos e1, if_pos e1, if_pos e1]
      refine ⟨Int32.or_zero, i2, by rw [Int32.add_zero], ?_⟩
      have h9 : cb cand 16 ≤ cb y1 16 := cb_mono (fun i h => by
        have hi9 := hb i h
        have this : ¬ bt (cand &&& (y1 ^^^ (-1))) i = true := f1 i (by omega) hi9
        rw [b_andn _ _ (by omega), h] at this
        cases hy : bt y1 i with
        | true => rfl
        | false => rw [hy] at this; exact absurd rfl this) 16
      omega
    · have hne : ¬ tLeast T (cand &&& (y1 ^^^ (-1))) = -1 := by rw [a3]; exact nI_ne_m1 (by omega)
      rw [if_neg hne, if_neg hne, if_neg hne, a3]
      have a4 : bt (cand &&& (y1 ^^^ (-1))) q = true := a4
      rw [b_andn _ _ (by omega), Bool.and_eq_true, Bool.not_eq_true'] at a4
      have hs : sb (y1 ||| (1 : Int32) <<< (nI q &&& 31)) cand := fun i h => by
        have h32 := b_lt h
        rw [b_or, Bool.or_eq_true, b_bit (by omega) h32, decide_eq_true_eq] at h
        rcases h with h | h
        · exact i2 i h
        · rw [h]; exact a4.1
      have hcb := cb_ins (s := y1) (p := q) (by omega) a4.2 16 (by omega)
      rw [if_pos a2] at hcb
      have hm9 := cb_mono hs 16
      refine ⟨rfl, hs, by rw [hcb, nI_1], ?_⟩
      omega
theorem jR_app {T S : am_T} {n m v t c k : Nat} {x : Int32} (hR : jR T S n m v t c) (hk : k < m) (hx : bd 16 x) (h24 : S 24 k = 1) (h26 : S 26 k = 0) : jR (tApp T k x) (st1 (st1 (st1 (st1 (st1 S 0 0 0) 0 0 0) 26 k 1) 27 k 1) 28 k x) n m v t c := by
  obtain ⟨⟨hA, hW, hL, hP, hM, hF, hK, hQ, hN⟩, hD, hV⟩ := hR
  have s26 : ∀ i, st1 (st1 (st1 (st1 (st1 S 0 0 0) 0 0 0) 26 k 1) 27 k 1) 28 k x 26 i = if i = k then 1 else S 26 i := fun i => by
    rw [st1_f (by decide), st1_f (by decide), st1_if]; rfl
  have s27 : ∀ i, st1 (st1 (st1 (st1 (st1 S 0 0 0) 0 0 0) 26 k 1) 27 k 1) 28 k x 27 i = if i = k then 1 else S 27 i := fun i => by
    rw [st1_f (by decide), st1_if]; rfl
  have s28 : ∀ i, st1 (st1 (st1 (st1 (st1 S 0 0 0) 0 0 0) 26 k 1) 27 k 1) 28 k x 28 i = if i = k then x else S 28 i := fun i => by
    rw [st1_if]; rfl
  have t28 : ∀ i, tApp T k x 28 i = if i = k then 1 else T 28 i := fun i => by
    unfold tApp
    rw [st1_f (by decide), st1_f (by decide), st1_f (by decide), st1_f (by decide), st1_if]
  have t29 : ∀ i, tApp T k x 29 i = if i = k then x else T 29 i := fun i => by
    unfold tApp
    rw [st1_f (by decide), st1_f (by decide), st1_f (by decide), st1_if]; rfl
  have t30 : ∀ i, tApp T k x 30 i = if i = k then 0 else T 30 i := fun i => by
    unfold tApp
    rw [st1_f (by decide), st1_f (by decide), st1_if]; rfl
  have t31 : ∀ i, tApp T k x 31 i = if i = k then 0 else T 31 i := fun i => by
    unfold tApp
    rw [st1_f (by decide), st1_if]; rfl
  have t32 : ∀ i, tApp T k x 32 i = if i = k then 1 else T 32 i := fun i => by
    unfold tApp
    rw [st1_if]; rfl
  refine ⟨⟨jA_c hA rfl rfl rfl rfl rfl rfl rfl rfl rfl rfl, jW_c hW rfl rfl rfl rfl rfl rfl rfl rfl rfl rfl, jL_c hL rfl rfl rfl rfl rfl rfl rfl rfl rfl rfl, jP_c hP rfl rfl, jM_c hM rfl rfl rfl, jF_c hF rfl rfl rfl, ?_, ?_, ?_⟩, jD_c hD rfl rfl rfl rfl rfl rfl rfl rfl rfl, ?_⟩
  · intro i hi
    obtain ⟨b1, b2, b3, b4, b5, b6, b7, b8, b9, b10, ⟨e, he, b11, b12⟩, b13⟩ := hK i hi
    refine ⟨b1, b2, b3, b4, b5, b6, b7, b8, b9, b10, ⟨e, he, b11, fun h1 h2 => b12 h1 ?_⟩, b13⟩
    rw [s26] at h2
    by_cases e9 : i = k
    · rw [if_pos e9] at h2; exact absurd h2 (by decide)
    · rw [if_neg e9] at h2; exact h2
  · intro i hi
    obtain ⟨q1, q2, q3, q5, q4⟩ := hQ i hi
    rw [s26, s27, s28, t28, t29, t30, t31, t32]
    by_cases e9 : i = k
    · subst e9
      rw [if_pos rfl, if_pos rfl, if_pos rfl, if_pos rfl, if_pos rfl, if_pos rfl, if_pos rfl, if_pos rfl]
      refine ⟨⟨fun _ => by decide, fun _ => rfl⟩, fun _ => ⟨h24, by decide⟩, fun _ _ => by decide, fun h => absurd h (by decide), fun _ => ⟨⟨fun h => absurd h (by decide), fun h => absurd h (by decide)⟩, ?_, hx, bd_0 16, bd_0 16, ?_, ?_⟩⟩
      · refine b_ext (fun j hj => ?_)
        rw [b_andn _ _ hj, b_andn _ _ hj, b_0]
        cases bt x j <;> rfl
      · rw [cb_zero]; exact (q5 h26).1
      · rw [cb_zero]; exact (q5 h26).2
    · rw [if_neg e9, if_neg e9, if_neg e9, if_neg e9, if_neg e9, if_neg e9, if_neg e9, if_neg e9]
      exact ⟨q1, q2, q3, q5, q4⟩
  · intro i hi hi9
    have q := hN i hi hi9
    rw [s26, s27, t28, if_neg (by omega), if_neg (by omega), if_neg (by omega)]
    exact q
  · intro i hi
    rw [s27, t28, t30, t31]
    by_cases e9 : i = k
    · rw [if_pos e9, if_pos e9, if_pos e9, if_pos e9, cb_zero]
      exact fun _ _ => ⟨by decide, by decide⟩
    · rw [if_neg e9, if_neg e9, if_neg e9, if_neg e9]
      exact hV i hi
set_option maxRecDepth 20000 in
set_option maxHeartbeats 1000000 in
theorem op_appeal {G : am_S} (hG : G.1.stackTraces = false) {c0 : Nat} (hc0 : c0 < 1024) {T S : am_T} {o : Nat → Int64} (h : Rel c0 T S) : ∀ x1 : Int32, ∃ (kk bb : Int32) (T' S' : am_T) (o' : Nat → Int64), am_D G yL_appeal (.codeWith yL_appeal cL_appeal 4 (some .int) [(0, 9, 12, 13), (0, 9, 15, 15)] :: am_G) am_WR (hp T S o) [.ref 0, .int x1, .ref 464] (hp T' S o') (some (.int kk)) ∧ am_D G yX6_appeal (.code yX6_appeal cX6_appeal 8 (some .int) :: am_G) { frames := 2, cells := 0, slots := 0, locals := 43 } (hp T' S o') [.ref 465, .int x1] (hp T' S' o') (some (.int bb)) ∧ S' 0 0 = kk ∧ (kk = 0 → o' 0 = bb.toInt64) ∧ Rel (c0 + 1) T' S' := by
  obtain ⟨n, m, v, t, c, hc, hR⟩ := h
  have hs := jR_safe hR
  have ha := jR_all hR
  obtain ⟨⟨hA, hW, hL, hP, hM, hF, hK, hQ, hN⟩, hD⟩ := id hR
  obtain ⟨hn, hn2, hn10, hm, hm2, hm80, hv, hvm, ht, ht2, ht4, hcc, hwd⟩ := id hA
  have hv80 : v ≤ 80 := by omega
  intro x1
  rcases ixs x1 m (by omega) with hx | ⟨k, hk, rfl⟩
  · exact ⟨1, 0, T, (st1 S 0 0 1), o, w_appeal_1 ⟨by decide, by decide, by decide, by decide⟩ (c_p_appeal_1 hG hm hm80 hx), c_r_appeal_1 hm2 hm80 hx, rfl, fun h0 => absurd h0 (by decide), Rel_0 hc hR _⟩
  obtain ⟨l, hl, e19⟩ := (hK k hk).2.2.2.2.1
  have e20 : T 20 k = nI l := (hK k hk).2.2.2.1.trans e19
  have e25 := (hK k hk).2.2.2.2.2.2.2.2.2.2.2.1
  have h9 := fun (o : Nat → Int64) (T9 : am_T) => c_r_appeal_2 (G := G) (T := T9) (o := o) hn2 hn10 hm2 hm80 hk e19 hl
  have hj := jur_it (jR_0 hR 0) hk hl 3 (Nat.le_refl 3)
  obtain ⟨hb, -⟩ := cand_bt hR hk hl
  have hbc := bc_eq hb
  have hj1 : (rJur (st1 S 0 0 0) n k l).1 = tChoose T (tCand T n k l) := hj.1
  have hj2 : (rJur (st1 S 0 0 0) n k l).2 = nI (min 3 (cb (tCand T n k l) 16)) := by
    have := hj.2.2.1
    rw [hj.2.2.2] at this
    exact this
  have hcb := cb_le (tCand T n k l) 16
  have h3 : (3 : Int32) ≤ (rJur (st1 S 0 0 0) n k l).2 ↔ 3 ≤ cb (tCand T n k l) 16 := by
    rw [hj2]
    show nI 3 ≤ nI _ ↔ _
    rw [nI_leI (by decide) (by omega)]
    omega
  have h4 : (3 : Int32) ≤ bc (tCand T n k l) ↔ 3 ≤ cb (tCand T n k l) 16 := by
    rw [hbc]
    show nI 3 ≤ nI _ ↔ _
    rw [nI_leI (by decide) (by omega)]
  by_cases hC : S 24 k = 1 ∧ S 26 k = 0 ∧ 3 ≤ (rJur (st1 S 0 0 0) n k l).2
  · have h28 : ¬ T 28 k = 1 := fun h => (hQ k hk).1.mp h hC.2.1
    have h5 := h4.mpr (h3.mp hC.2.2)
    have h9 := h9 (am_updL o 0 (tChoose T (tCand T n k l)).toInt64) (tApp T k (tChoose T (tCand T n k l)))
    rw [if_pos hC, if_pos hC, hj1] at h9
    have hR2 := jR_app (x := tChoose T (tCand T n k l)) hR hk (fun i h => hb i (hj.2.1 i h)) hC.1 hC.2.1
    exact ⟨0, tChoose T (tCand T n k l), (tApp T k (tChoose T (tCand T n k l))), (st1 (st1 (st1 (st1 (st1 S 0 0 0) 0 0 0) 26 k 1) 27 k 1) 28 k (tChoose T (tCand T n k l))), am_updL o 0 ((tChoose T (tCand T n k l))).toInt64, w_appeal_n ⟨by decide, by decide, by decide, by decide⟩ (c_p_appeal_n hs hk hl e20 (e25.trans hC.1) h28 h5), h9, rfl, fun _ => up0 o _, ⟨n, m, v, t, c, by omega, hR2⟩⟩
  · have h9 := h9 o T
    rw [if_neg hC, if_neg hC] at h9
    by_cases h25 : T 25 k = 1
    · by_cases h28 : T 28 k = 1
      · exact ⟨2, 0, T, (st1 (st1 S 0 0 0) 0 0 2), o, w_appeal_2 ⟨by decide, by decide, by decide, by decide⟩ (c_p_appeal_2b hG hm hm80 hk h25 h28), h9, rfl, fun h0 => absurd h0 (by decide), Rel_00 hc hR _ _⟩
      · have h26 : S 26 k = 0 := Decidable.byContradiction (fun h => h28 ((hQ k hk).1.mpr h))
        have h5 : ¬ (3 : Int32) ≤ bc (tCand T n k l) := fun h => hC ⟨e25.symm.trans h25, h26, h3.mpr (h4.mp h)⟩
        exact ⟨2, 0, T, (st1 (st1 S 0 0 0) 0 0 2), o, w_appeal_2 ⟨by decide, by decide, by decide, by decide⟩ (c_p_appeal_2c hG hn hn10 hm hm80 hk hl e20 h25 h28 h5), h9, rfl, fun h0 => absurd h0 (by decide), Rel_00 hc hR _ _⟩
    · exact ⟨2, 0, T, (st1 (st1 S 0 0 0) 0 0 2), o, w_appeal_2 ⟨by decide, by decide, by decide, by decide⟩ (c_p_appeal_2a hG hm hm80 hk h25), h9, rfl, fun h0 => absurd h0 (by decide), Rel_00 hc hR _ _⟩
