/-! pure: a vote -/
theorem aw_eq {T S : am_T} {o : Nat → Int64} {n m v t c : Nat} (h : qB T S o n m v t c) {k : Nat} (hk : k < m) (h22 : S 22 k = 3) : tAw T k = S 23 k := by
  have := jur_y h hk h22
  rw [if_pos ((open_iff h hk).mpr h22).1] at this
  exact this
section
variable {T S : am_T} {o : Nat → Int64} {n m v t c : Nat}

theorem q_v0 (hB : qB T S o n m v t c) {c2 : Nat} {lt : Nat → Nat → Prop} (hD : qD T S m v t c2 lt) {k p : Nat} (hk : k < m) (hp : p < 8) (h22 : S 22 k = 3) (hw : bt (S 23 k) p = true) : (qB (st1 (st1 T 30 k (T 30 k ||| (1 : Int32) <<< (nI p &&& 31))) 6 p (T 6 p + 1)) (st1 (st1 (st1 S 23 k (S 23 k &&& ((1 : Int32) <<< (nI p &&& 31) ^^^ (-1)))) 24 k (S 24 k + 1)) 31 p (S 31 p + 1)) o n m v t (c + 1) ∧ qD (st1 (st1 T 30 k (T 30 k ||| (1 : Int32) <<< (nI p &&& 31))) 6 p (T 6 p + 1)) (st1 (st1 (st1 S 23 k (S 23 k &&& ((1 : Int32) <<< (nI p &&& 31) ^^^ (-1)))) 24 k (S 24 k + 1)) 31 p (S 31 p + 1)) m v t c2 lt) ∧ cb (T 30 k ||| (1 : Int32) <<< (nI p &&& 31)) 16 = cb (T 30 k) 16 + 1 := by
  have h28 := ((open_iff hB hk).mpr h22).1
  obtain ⟨hA, hP, hL, hJ, hM, hF, hK, hQ, hN⟩ := hB
  obtain ⟨b1, b2, b3, b4, b5, b6⟩ := hQ k hk
  obtain ⟨c1, c2, c3, c4, c5, c6, c7⟩ := b6 h28
  have hw0 : bt (T 30 k) p = false := by
    rw [c2, b_and, b_and, b_xor, b_xor, b_m1 p (by omega), Bool.and_eq_true, Bool.and_eq_true] at hw
    obtain ⟨⟨-, w1⟩, w2⟩ := hw
    cases hb : bt (T 30 k) p with
    | false => rfl
    | true => rw [hb] at w1; exact absurd w1 (by decide)
  have hcb : cb (T 30 k ||| (1 : Int32) <<< (nI p &&& 31)) 16 = cb (T 30 k) 16 + 1 := by rw [cb_ins (by omega) hw0 16 (by omega), if_pos (by omega)]
  refine ⟨?_, hcb⟩
  obtain ⟨T9, hT9⟩ : ∃ T9 : am_T, T9 = (st1 (st1 T 30 k (T 30 k ||| (1 : Int32) <<< (nI p &&& 31))) 6 p (T 6 p + 1)) := ⟨_, rfl⟩
  have t30 : T9 30 = st1 T 30 k (T 30 k ||| (1 : Int32) <<< (nI p &&& 31)) 30 := (congrFun hT9 30).trans rfl
  have t6 : T9 6 = st1 T 6 p (T 6 p + 1) 6 := (congrFun hT9 6).trans rfl
  have tf : ∀ {g}, g ≠ 30 ∧ g ≠ 6 → T9 g = T g := fun h => by rw [hT9, st1_f h.2, st1_f h.1]
  rw [← hT9]
  obtain ⟨S9, hS9⟩ : ∃ S9 : am_T, S9 = (st1 (st1 (st1 S 23 k (S 23 k &&& ((1 : Int32) <<< (nI p &&& 31) ^^^ (-1)))) 24 k (S 24 k + 1)) 31 p (S 31 p + 1)) := ⟨_, rfl⟩
  have s23 : S9 23 = st1 S 23 k (S 23 k &&& ((1 : Int32) <<< (nI p &&& 31) ^^^ (-1))) 23 := (congrFun hS9 23).trans rfl
  have s24 : S9 24 = st1 S 24 k (S 24 k + 1) 24 := (congrFun hS9 24).trans rfl
  have s31 : S9 31 = st1 S 31 p (S 31 p + 1) 31 := (congrFun hS9 31).trans rfl
  have sf : ∀ {g}, g ≠ 23 ∧ g ≠ 24 ∧ g ≠ 31 → S9 g = S g := fun h => by rw [hS9, st1_f h.2.2, st1_f h.2.1, st1_f h.1]
  rw [← hS9]
  refine ⟨⟨qA_c hA (tf (by decide)) (tf (by decide)) (tf (by decide)) (tf (by decide)) (tf (by decide)) (sf (by decide)) (sf (by decide)) (sf (by decide)) (sf (by decide)), ?_, qL_c hL (tf (by decide)) (tf (by decide)) (tf (by decide)) (tf (by decide)) (tf (by decide)) (sf (by decide)) (sf (by decide)) (sf (by decide)) (sf (by decide)) (sf (by decide)), jP_c hJ (tf (by decide)) (sf (by decide)), qM_c hM (tf (by decide)) (tf (by decide)) (sf (by decide)) (sf (by decide)), qF_c hF (sf (by decide)) (sf (by decide)) (sf (by decide)) (sf (by decide)) (sf (by decide)), qK_c hK (tf (by decide)) (tf (by decide)) (tf (by decide)) (tf (by decide)) (tf (by decide)) (tf (by decide)) (tf (by decide)) (tf (by decide)) (tf (by decide)) (tf (by decide)) (sf (by decide)) (sf (by decide)) (sf (by decide)) (sf (by decide)) (sf (by decide)) (sf (by decide)) (sf (by decide)) (sf (by decide)) (sf (by decide)), ?_, ?_⟩, qD_c hD (tf (by decide)) (tf (by decide)) (tf (by decide)) (tf (by decide)) (tf (by decide)) (tf (by decide)) (sf (by decide)) (sf (by decide)) (sf (by decide)) (sf (by decide))⟩
  · refine ⟨fun q hq => ?_, fun q hq => ?_⟩
    · obtain ⟨d1, d2, d3, ⟨q9, hq9, d4⟩, d5⟩ := hP.1 q hq
      rw [t6, s31, tf (show 5 ≠ 30 ∧ 5 ≠ 6 by decide), tf (show 7 ≠ 30 ∧ 7 ≠ 6 by decide), tf (show 8 ≠ 30 ∧ 8 ≠ 6 by decide), tf (show 9 ≠ 30 ∧ 9 ≠ 6 by decide), sf (show 30 ≠ 23 ∧ 30 ≠ 24 ∧ 30 ≠ 31 by decide), sf (show 32 ≠ 23 ∧ 32 ≠ 24 ∧ 32 ≠ 31 by decide), sf (show 33 ≠ 23 ∧ 33 ≠ 24 ∧ 33 ≠ 31 by decide), st1_if, st1_if]
      by_cases e : q = p
      · subst e
        rw [if_pos rfl, if_pos rfl]
        exact ⟨d1, d2, by rw [d3], ⟨q9 + 1, by omega, by rw [d4, nI_1]⟩, d5⟩
      · rw [if_neg e, if_neg e]
        exact ⟨d1, d2, d3, ⟨q9, by omega, d4⟩, d5⟩
    · rw [tf (show 8 ≠ 30 ∧ 8 ≠ 6 by decide)]
      exact hP.2 q hq
  · intro i hi
    obtain ⟨d1, d2, d3, d4, d5, d6⟩ := hQ i hi
    rw [t30, s23, s24, tf (show 28 ≠ 30 ∧ 28 ≠ 6 by decide), tf (show 29 ≠ 30 ∧ 29 ≠ 6 by decide), tf (show 31 ≠ 30 ∧ 31 ≠ 6 by decide), tf (show 32 ≠ 30 ∧ 32 ≠ 6 by decide), sf (show 13 ≠ 23 ∧ 13 ≠ 24 ∧ 13 ≠ 31 by decide), sf (show 22 ≠ 23 ∧ 22 ≠ 24 ∧ 22 ≠ 31 by decide), sf (show 25 ≠ 23 ∧ 25 ≠ 24 ∧ 25 ≠ 31 by decide)]
    by_cases e : i = k
    · subst e
      rw [st1_same, st1_same, st1_same]
      refine ⟨d1, d2, d3, d4, fun h9 => ?_, fun _ => ?_⟩
      · rw [h22] at h9; exact absurd h9 (by decide)
      · refine ⟨c1, ?_, c3, bd_or c4 (bd_bit (by omega) (by omega)), c5, by rw [hcb, c6, nI_1], c7⟩
        refine b_ext (fun q hq => ?_)
        rw [c2]
        simp only [b_and, b_xor, b_or, b_m1 q hq, b_bit (show p < 32 by omega) hq]
        cases bt (T 29 i) q <;> cases bt (T 30 i) q <;> cases bt (T 31 i) q <;> cases decide (q = p) <;> rfl
    · rw [st1_j e, st1_j e, st1_j e]
      exact ⟨d1, d2, d3, d4, d5, d6⟩
  · refine ⟨fun i h1 h2 => ?_, fun i h1 h2 => ?_⟩
    · rw [s24, sf (show 15 ≠ 23 ∧ 15 ≠ 24 ∧ 15 ≠ 31 by decide), sf (show 22 ≠ 23 ∧ 22 ≠ 24 ∧ 22 ≠ 31 by decide), sf (show 25 ≠ 23 ∧ 25 ≠ 24 ∧ 25 ≠ 31 by decide), st1_j (show i ≠ k by omega)]
      exact hN.1 i h1 h2
    · rw [tf (show 28 ≠ 30 ∧ 28 ≠ 6 by decide)]
      exact hN.2 i h1 h2

theorem q_v1 (hB : qB T S o n m v t c) {c2 : Nat} {lt : Nat → Nat → Prop} (hD : qD T S m v t c2 lt) {k p : Nat} (hk : k < m) (hp : p < 8) (h22 : S 22 k = 3) (hw : bt (S 23 k) p = true) : (qB (st1 (st1 T 31 k (T 31 k ||| (1 : Int32) <<< (nI p &&& 31))) 6 p (T 6 p + 1)) (st1 (st1 (st1 S 23 k (S 23 k &&& ((1 : Int32) <<< (nI p &&& 31) ^^^ (-1)))) 25 k (S 25 k + 1)) 31 p (S 31 p + 1)) o n m v t (c + 1) ∧ qD (st1 (st1 T 31 k (T 31 k ||| (1 : Int32) <<< (nI p &&& 31))) 6 p (T 6 p + 1)) (st1 (st1 (st1 S 23 k (S 23 k &&& ((1 : Int32) <<< (nI p &&& 31) ^^^ (-1)))) 25 k (S 25 k + 1)) 31 p (S 31 p + 1)) m v t c2 lt) ∧ cb (T 31 k ||| (1 : Int32) <<< (nI p &&& 31)) 16 = cb (T 31 k) 16 + 1 := by
  have h28 := ((open_iff hB hk).mpr h22).1
  obtain ⟨hA, hP, hL, hJ, hM, hF, hK, hQ, hN⟩ := hB
  obtain ⟨b1, b2, b3, b4, b5, b6⟩ := hQ k hk
  obtain ⟨c1, c2, c3, c4, c5, c6, c7⟩ := b6 h28
  have hw0 : bt (T 31 k) p = false := by
    rw [c2, b_and, b_and, b_xor, b_xor, b_m1 p (by omega), Bool.and_eq_true, Bool.and_eq_true] at hw
    obtain ⟨⟨-, w1⟩, w2⟩ := hw
    cases hb : bt (T 31 k) p with
    | false => rfl
    | true => rw [hb] at w2; exact absurd w2 (by decide)
  have hcb : cb (T 31 k ||| (1 : Int32) <<< (nI p &&& 31)) 16 = cb (T 31 k) 16 + 1 := by rw [cb_ins (by omega) hw0 16 (by omega), if_pos (by omega)]
  refine ⟨?_, hcb⟩
  obtain ⟨T9, hT9⟩ : ∃ T9 : am_T, T9 = (st1 (st1 T 31 k (T 31 k ||| (1 : Int32) <<< (nI p &&& 31))) 6 p (T 6 p + 1)) := ⟨_, rfl⟩
  have t31 : T9 31 = st1 T 31 k (T 31 k ||| (1 : Int32) <<< (nI p &&& 31)) 31 := (congrFun hT9 31).trans rfl
  have t6 : T9 6 = st1 T 6 p (T 6 p + 1) 6 := (congrFun hT9 6).trans rfl
  have tf : ∀ {g}, g ≠ 31 ∧ g ≠ 6 → T9 g = T g := fun h => by rw [hT9, st1_f h.2, st1_f h.1]
  rw [← hT9]
  obtain ⟨S9, hS9⟩ : ∃ S9 : am_T, S9 = (st1 (st1 (st1 S 23 k (S 23 k &&& ((1 : Int32) <<< (nI p &&& 31) ^^^ (-1)))) 25 k (S 25 k + 1)) 31 p (S 31 p + 1)) := ⟨_, rfl⟩
  have s23 : S9 23 = st1 S 23 k (S 23 k &&& ((1 : Int32) <<< (nI p &&& 31) ^^^ (-1))) 23 := (congrFun hS9 23).trans rfl
  have s25 : S9 25 = st1 S 25 k (S 25 k + 1) 25 := (congrFun hS9 25).trans rfl
  have s31 : S9 31 = st1 S 31 p (S 31 p + 1) 31 := (congrFun hS9 31).trans rfl
  have sf : ∀ {g}, g ≠ 23 ∧ g ≠ 25 ∧ g ≠ 31 → S9 g = S g := fun h => by rw [hS9, st1_f h.2.2, st1_f h.2.1, st1_f h.1]
  rw [← hS9]
  refine ⟨⟨qA_c hA (tf (by decide)) (tf (by decide)) (tf (by decide)) (tf (by decide)) (tf (by decide)) (sf (by decide)) (sf (by decide)) (sf (by decide)) (sf (by decide)), ?_, qL_c hL (tf (by decide)) (tf (by decide)) (tf (by decide)) (tf (by decide)) (tf (by decide)) (sf (by decide)) (sf (by decide)) (sf (by decide)) (sf (by decide)) (sf (by decide)), jP_c hJ (tf (by decide)) (sf (by decide)), qM_c hM (tf (by decide)) (tf (by decide)) (sf (by decide)) (sf (by decide)), qF_c hF (sf (by decide)) (sf (by decide)) (sf (by decide)) (sf (by decide)) (sf (by decide)), qK_c hK (tf (by decide)) (tf (by decide)) (tf (by decide)) (tf (by decide)) (tf (by decide)) (tf (by decide)) (tf (by decide)) (tf (by decide)) (tf (by decide)) (tf (by decide)) (sf (by decide)) (sf (by decide)) (sf (by decide)) (sf (by decide)) (sf (by decide)) (sf (by decide)) (sf (by decide)) (sf (by decide)) (sf (by decide)), ?_, ?_⟩, qD_c hD (tf (by decide)) (tf (by decide)) (tf (by decide)) (tf (by decide)) (tf (by decide)) (tf (by decide)) (sf (by decide)) (sf (by decide)) (sf (by decide)) (sf (by decide))⟩
  · refine ⟨fun q hq => ?_, fun q hq => ?_⟩
    · obtain ⟨d1, d2, d3, ⟨q9, hq9, d4⟩, d5⟩ := hP.1 q hq
      rw [t6, s31, tf (show 5 ≠ 31 ∧ 5 ≠ 6 by decide), tf (show 7 ≠ 31 ∧ 7 ≠ 6 by decide), tf (show 8 ≠ 31 ∧ 8 ≠ 6 by decide), tf (show 9 ≠ 31 ∧ 9 ≠ 6 by decide), sf (show 30 ≠ 23 ∧ 30 ≠ 25 ∧ 30 ≠ 31 by decide), sf (show 32 ≠ 23 ∧ 32 ≠ 25 ∧ 32 ≠ 31 by decide), sf (show 33 ≠ 23 ∧ 33 ≠ 25 ∧ 33 ≠ 31 by decide), st1_if, st1_if]
      by_cases e : q = p
      · subst e
        rw [if_pos rfl, if_pos rfl]
        exact ⟨d1, d2, by rw [d3], ⟨q9 + 1, by omega, by rw [d4, nI_1]⟩, d5⟩
      · rw [if_neg e, if_neg e]
        exact ⟨d1, d2, d3, ⟨q9, by omega, d4⟩, d5⟩
    · rw [tf (show 8 ≠ 31 ∧ 8 ≠ 6 by decide)]
      exact hP.2 q hq
  · intro i hi
    obtain ⟨d1, d2, d3, d4, d5, d6⟩ := hQ i hi
    rw [t31, s23, s25, tf (show 28 ≠ 31 ∧ 28 ≠ 6 by decide), tf (show 29 ≠ 31 ∧ 29 ≠ 6 by decide), tf (show 30 ≠ 31 ∧ 30 ≠ 6 by decide), tf (show 32 ≠ 31 ∧ 32 ≠ 6 by decide), sf (show 13 ≠ 23 ∧ 13 ≠ 25 ∧ 13 ≠ 31 by decide), sf (show 22 ≠ 23 ∧ 22 ≠ 25 ∧ 22 ≠ 31 by decide), sf (show 24 ≠ 23 ∧ 24 ≠ 25 ∧ 24 ≠ 31 by decide)]
    by_cases e : i = k
    · subst e
      rw [st1_same, st1_same, st1_same]
      refine ⟨d1, d2, d3, d4, fun h9 => ?_, fun _ => ?_⟩
      · rw [h22] at h9; exact absurd h9 (by decide)
      · refine ⟨c1, ?_, c3, c4, bd_or c5 (bd_bit (by omega) (by omega)), c6, by rw [hcb, c7, nI_1]⟩
        refine b_ext (fun q hq => ?_)
        rw [c2]
        simp only [b_and, b_xor, b_or, b_m1 q hq, b_bit (show p < 32 by omega) hq]
        cases bt (T 29 i) q <;> cases bt (T 30 i) q <;> cases bt (T 31 i) q <;> cases decide (q = p) <;> rfl
    · rw [st1_j e, st1_j e, st1_j e]
      exact ⟨d1, d2, d3, d4, d5, d6⟩
  · refine ⟨fun i h1 h2 => ?_, fun i h1 h2 => ?_⟩
    · rw [s25, sf (show 15 ≠ 23 ∧ 15 ≠ 25 ∧ 15 ≠ 31 by decide), sf (show 22 ≠ 23 ∧ 22 ≠ 25 ∧ 22 ≠ 31 by decide), sf (show 24 ≠ 23 ∧ 24 ≠ 25 ∧ 24 ≠ 31 by decide), st1_j (show i ≠ k by omega)]
      exact hN.1 i h1 h2
    · rw [tf (show 28 ≠ 31 ∧ 28 ≠ 6 by decide)]
      exact hN.2 i h1 h2

/-- what nobody decides yet -/
theorem q_v0_rest (h : qR T S o n m v t c) (hc : c ≤ 100) {k p : Nat} (hk : k < m) (hp : p < 8) (h22 : S 22 k = 3) (hw : bt (S 23 k) p = true) (h2 : ¬ S 24 k + 1 = 2) : qR (st1 (st1 T 30 k (T 30 k ||| (1 : Int32) <<< (nI p &&& 31))) 6 p (T 6 p + 1)) (st1 (st1 (st1 S 23 k (S 23 k &&& ((1 : Int32) <<< (nI p &&& 31) ^^^ (-1)))) 24 k (S 24 k + 1)) 31 p (S 31 p + 1)) o n m v t (c + 1) := by
  obtain ⟨q1, q2⟩ := q_v0 h.1 h.2.1 hk hp h22 hw
  refine ⟨q1.1, qD_m q1.2 (Nat.le_succ c), fun i hi h9 => ?_⟩
  have hv := h.2.2 i hi h9
  show cb (st1 T 30 k (T 30 k ||| (1 : Int32) <<< (nI p &&& 31)) 30 i) 16 < 2 ∧ cb (T 31 i) 16 < 2
  rw [st1_if]
  by_cases e : i = k
  · subst e
    rw [if_pos rfl, q2]
    have h28 := ((open_iff h.1 hk).mpr h22).1
    have e24 := ((h.1.2.2.2.2.2.2.2.1 i hk).2.2.2.2.2 h28).2.2.2.2.2.1
    rw [e24, nI_1] at h2
    have h3 : ¬ cb (T 30 i) 16 + 1 = 2 := fun e => h2 (by rw [e]; rfl)
    exact ⟨by omega, hv.2⟩
  · rw [if_neg e]
    exact hv
theorem q_v1_rest (h : qR T S o n m v t c) (hc : c ≤ 100) {k p : Nat} (hk : k < m) (hp : p < 8) (h22 : S 22 k = 3) (hw : bt (S 23 k) p = true) (h2 : ¬ S 25 k + 1 = 2) : qR (st1 (st1 T 31 k (T 31 k ||| (1 : Int32) <<< (nI p &&& 31))) 6 p (T 6 p + 1)) (st1 (st1 (st1 S 23 k (S 23 k &&& ((1 : Int32) <<< (nI p &&& 31) ^^^ (-1)))) 25 k (S 25 k + 1)) 31 p (S 31 p + 1)) o n m v t (c + 1) := by
  obtain ⟨q1, q2⟩ := q_v1 h.1 h.2.1 hk hp h22 hw
  refine ⟨q1.1, qD_m q1.2 (Nat.le_succ c), fun i hi h9 => ?_⟩
  have hv := h.2.2 i hi h9
  show cb (T 30 i) 16 < 2 ∧ cb (st1 T 31 k (T 31 k ||| (1 : Int32) <<< (nI p &&& 31)) 31 i) 16 < 2
  rw [st1_if]
  by_cases e : i = k
  · subst e
    rw [if_pos rfl, q2]
    have h28 := ((open_iff h.1 hk).mpr h22).1
    have e24 := ((h.1.2.2.2.2.2.2.2.1 i hk).2.2.2.2.2 h28).2.2.2.2.2.2
    rw [e24, nI_1] at h2
    have h3 : ¬ cb (T 31 i) 16 + 1 = 2 := fun e => h2 (by rw [e]; rfl)
    exact ⟨hv.1, by omega⟩
  · rw [if_neg e]
    exact hv
/-- numbers of votes, as the law and as the class see them -/
theorem v_num (h : qR T S o n m v t c) {k : Nat} (hk : k < m) (h22 : S 22 k = 3) : ∃ f g, f < 2 ∧ g < 2 ∧ S 24 k = nI f ∧ S 25 k = nI g ∧ cb (T 30 k) 16 = f ∧ cb (T 31 k) 16 = g ∧ bd 16 (T 30 k) ∧ bd 16 (T 31 k) := by
  have h28 := ((open_iff h.1 hk).mpr h22).1
  obtain ⟨c1, c2, c3, c4, c5, c6, c7⟩ := (h.1.2.2.2.2.2.2.2.1 k hk).2.2.2.2.2 h28
  exact ⟨_, _, (h.2.2 k hk h22).1, (h.2.2 k hk h22).2, c6, c7, rfl, rfl, c4, c5⟩
/-- a weight set -/
theorem q_5 {T1 S1 : am_T} (hB : qB T1 S1 o n m v t c) {c2 : Nat} {lt : Nat → Nat → Prop} (hD : qD T1 S1 m v t c2 lt) {s w : Nat} (hw : w ≤ 110) : qB (st1 T1 5 s (nI w - 10)) (st1 S1 30 s (nI w - 10)) o n m v t c ∧ qD (st1 T1 5 s (nI w - 10)) (st1 S1 30 s (nI w - 10)) m v t c2 lt := by
  obtain ⟨hA, hP, hL, hJ, hM, hF, hK, hQ, hN⟩ := hB
  refine ⟨⟨qA_c hA rfl rfl rfl rfl rfl rfl rfl rfl rfl, ⟨fun q hq => ?_, hP.2⟩, qL_c hL rfl rfl rfl rfl rfl rfl rfl rfl rfl rfl, jP_c hJ rfl rfl, qM_c hM rfl rfl rfl rfl, qF_c hF rfl rfl rfl rfl rfl, qK_c hK rfl rfl rfl rfl rfl rfl rfl rfl rfl rfl rfl rfl rfl rfl rfl rfl rfl rfl rfl, qQ_c hQ rfl rfl rfl rfl rfl rfl rfl rfl rfl rfl, qN_c hN rfl rfl rfl rfl rfl⟩, qD_c hD rfl rfl rfl rfl rfl rfl rfl rfl rfl rfl⟩
  obtain ⟨d1, d2, d3⟩ := hP.1 q hq
  refine ⟨?_, ?_, d3⟩
  · show st1 T1 5 s _ 5 q = st1 S1 30 s _ 30 q
    rw [st1_if, st1_if]
    split
    · rfl
    · exact d1
  · show ∃ w, w ≤ 110 ∧ st1 S1 30 s _ 30 q = nI w - 10
    rw [st1_if]
    split
    · exact ⟨w, hw, rfl⟩
    · exact d2
/-- the court condemns -/
theorem q_cond {T1 S1 : am_T} {k : Nat} (hB : qB T1 S1 o n m v t c) {c2 : Nat} {lt : Nat → Nat → Prop} (hD : qD T1 S1 m v t c2 lt) (hV : ∀ i, i < m → ¬ i = k → S1 22 i = 3 → cb (T1 30 i) 16 < 2 ∧ cb (T1 31 i) 16 < 2) (hk : k < m) (h22 : S1 22 k = 3) : (qB (st1 (tClose (st1 T1 25 k 3) k) 5 0 (T1 5 0)) (st1 (st1 S1 22 k 1) 13 k 3) o n m v t c ∧ qD (st1 (tClose (st1 T1 25 k 3) k) 5 0 (T1 5 0)) (st1 (st1 S1 22 k 1) 13 k 3) m v t c2 lt) ∧ qV (st1 (tClose (st1 T1 25 k 3) k) 5 0 (T1 5 0)) (st1 (st1 S1 22 k 1) 13 k 3) m := by
  have h28 := ((open_iff hB hk).mpr h22).1
  obtain ⟨hA, hP, hL, hJ, hM, hF, hK, hQ, hN⟩ := hB
  have e5 : st1 (tClose (st1 T1 25 k 3) k) 5 0 (T1 5 0) = st1 (st1 T1 25 k 3) 32 k 0 := by
    unfold tClose
    rw [show st1 T1 25 k 3 28 k = T1 28 k from rfl, if_pos h28]
    funext g i
    rw [st1_at]
    split
    · rename_i e
      rw [e.1, e.2]
      rfl
    · rfl
  rw [e5]
  refine ⟨⟨⟨qA_c hA rfl rfl rfl rfl rfl rfl rfl rfl rfl, qP_c hP rfl rfl rfl rfl rfl rfl rfl rfl rfl rfl, qL_c hL rfl rfl rfl rfl rfl rfl rfl rfl rfl rfl, jP_c hJ rfl rfl, qM_c hM rfl rfl rfl rfl, qF_c hF rfl rfl rfl rfl rfl, fun i hi => ?_, fun i hi => ?_, ⟨fun i h1 h2 => ?_, hN.2⟩⟩, qD_c hD rfl rfl rfl rfl rfl rfl rfl rfl rfl rfl⟩, fun i hi h9 => ?_⟩
  · obtain ⟨b1, b2, b3, b4, b5, b6, b7, b8, b9, b10, ⟨e, he, b11, b11'⟩, b12, b13⟩ := hK i hi
    refine ⟨b1, b2, b3, b4, b5, b6, b7, b8, b9, b10, ⟨e, he, b11, ?_⟩, ?_, b13⟩
    · show st1 (st1 S1 22 k 1) 13 k 3 13 i = 1 → st1 S1 22 k 1 22 i = 0 → _
      rw [st1_if, st1_if]
      by_cases e : i = k
      · rw [if_pos e]
        intro h9; exact absurd h9 (by decide)
      · rw [if_neg e, if_neg e]
        exact b11'
    · show st1 T1 25 k 3 25 i = st1 (st1 S1 22 k 1) 13 k 3 13 i
      rw [st1_if, st1_if]
      split
      · rfl
      · exact b12
  · obtain ⟨b1, b2, b3, b4, b5, b6⟩ := hQ i hi
    show (T1 28 i = 1 ↔ ¬ st1 S1 22 k 1 22 i = 0) ∧ (st1 S1 22 k 1 22 i = 0 ∨ st1 S1 22 k 1 22 i = 1 ∨ st1 S1 22 k 1 22 i = 3) ∧ (st1 S1 22 k 1 22 i = 3 → st1 (st1 S1 22 k 1) 13 k 3 13 i = 1) ∧ (st1 (st1 S1 22 k 1) 13 k 3 13 i = 1 → ¬ st1 S1 22 k 1 22 i = 0 → st1 S1 22 k 1 22 i = 3) ∧ (st1 S1 22 k 1 22 i = 0 → S1 24 i = 0 ∧ S1 25 i = 0) ∧ (T1 28 i = 1 → (st1 (st1 T1 25 k 3) 32 k 0 32 i = 0 ↔ st1 S1 22 k 1 22 i = 1) ∧ _)
    rw [st1_if, st1_if, st1_if]
    by_cases e : i = k
    · subst e
      rw [if_pos rfl, if_pos rfl, if_pos rfl]
      exact ⟨⟨fun _ => by decide, fun _ => h28⟩, Or.inr (Or.inl rfl), fun h9 => absurd h9 (by decide), fun h9 => absurd h9 (by decide), fun h9 => absurd h9 (by decide), fun h9 => ⟨⟨fun _ => rfl, fun _ => rfl⟩, (b6 h9).2⟩⟩
    · rw [if_neg e, if_neg e, if_neg e]
      exact ⟨b1, b2, b3, b4, b5, b6⟩
  · obtain ⟨b1, b2, b3⟩ := hN.1 i h1 h2
    refine ⟨b1, ?_, b3⟩
    show st1 S1 22 k 1 22 i = 0
    rw [st1_if, if_neg (by omega)]
    exact b2
  · have h9 : st1 S1 22 k 1 22 i = 3 := h9
    rw [st1_if] at h9
    by_cases e : i = k
    · rw [if_pos e] at h9; exact absurd h9 (by decide)
    · rw [if_neg e] at h9
      exact hV i hi e h9
/-- the law's turn of a mail as the court clears -/
def lcl (k s i : Nat) (q : am_T × (Nat → Int64)) : am_T × (Nat → Int64) := if ¬ q.1 10 i = nI s then q else if ¬ q.1 13 i = 1 then q else if ¬ i = k ∧ ¬ q.1 14 i = 2 then q else lPass (st1 q.1 22 i (q.1 22 i &&& 1)) q.2 i (q.1 11 i).toNatClampNeg (q.1 12 i).toNatClampNeg
theorem lcl_f {k s i g : Nat} {q : am_T × (Nat → Int64)} (h : g ≠ 33 ∧ g ≠ 15 ∧ g ≠ 32 ∧ g ≠ 7 ∧ g ≠ 40 ∧ g ≠ 90 ∧ g ≠ 50 ∧ g ≠ 60) (h13 : g ≠ 13) (h22 : g ≠ 22) : (lcl k s i q).1 g = q.1 g := by
  unfold lcl
  split
  · rfl
  · split
    · rfl
    · split
      · rfl
      · rw [lPass_f h h13]
        exact st1_f h22
theorem lclN_f {k s g : Nat} {q : am_T × (Nat → Int64)} (h : g ≠ 33 ∧ g ≠ 15 ∧ g ≠ 32 ∧ g ≠ 7 ∧ g ≠ 40 ∧ g ≠ 90 ∧ g ≠ 50 ∧ g ≠ 60) (h13 : g ≠ 13) (h22 : g ≠ 22) : ∀ i, (itN (lcl k s) q i).1 g = q.1 g
  | 0 => rfl
  | i + 1 => (lcl_f h h13 h22).trans (lclN_f h h13 h22 i)
theorem lPass_13 {S : am_T} {o : Nat → Int64} {k l d : Nat} : (lPass S o k l d).1 13 = st1 S 13 k 0 13 := by
  unfold lPass
  exact lpsN_f (by decide) 8
theorem clr_it {T2 S2 : am_T} (h : qJ T2 S2 o n m v t c) (hc : c ≤ 100) {k s : Nat} (hk : k < m) (hs : S2 10 k = nI s) (h13 : S2 13 k = 1) : ∀ i, i ≤ m → qJ (itN (tClr n k) T2 i) (itN (lcl k s) (S2, o) i).1 (itN (lcl k s) (S2, o) i).2 n m v t c ∧ (∀ q, i ≤ q → (itN (lcl k s) (S2, o) i).1 13 q = S2 13 q) ∧ (∀ q, (itN (lcl k s) (S2, o) i).1 22 q = 3 → S2 22 q = 3) ∧ (k < i → ¬ (itN (lcl k s) (S2, o) i).1 22 k = 3) ∧ ∀ {g}, g = 30 ∨ g = 31 → itN (tClr n k) T2 i g = T2 g := by
  intro i
  induction i with
  | zero => exact fun _ => ⟨h, fun _ _ => rfl, fun _ h => h, fun h => absurd h (by omega), fun _ => rfl⟩
  | succ i ih =>
    intro hi
    obtain ⟨i1, i2, i3, i4, i5⟩ := ih (by omega)
    have f10 : (itN (lcl k s) (S2, o) i).1 10 = S2 10 := lclN_f (by decide) (by decide) (by decide) i
    have eT : itN (tClr n k) T2 (i + 1) = tClr n k i (itN (tClr n k) T2 i) := rfl
    have eS : itN (lcl k s) (S2, o) (i + 1) = lcl k s i (itN (lcl k s) (S2, o) i) := rfl
    rw [eT, eS]
    generalize itN (tClr n k) T2 i = Y at i1 i5 ⊢
    generalize itN (lcl k s) (S2, o) i = x at i1 i2 i3 i4 f10 ⊢
    obtain ⟨X, ox⟩ := x
    dsimp only at i1 i2 i3 i4 f10
    obtain ⟨-, b19, -, -, -, -, -, -, b23, -, -, b25, -⟩ := i1.1.2.2.2.2.2.2.1 i (by omega)
    obtain ⟨-, k19, -⟩ := i1.1.2.2.2.2.2.2.1 k hk
    have x13 : X 13 i = S2 13 i := i2 i (Nat.le_refl i)
    have xk : X 10 k = nI s := by rw [f10]; exact hs
    have hcnd : (i = k ∨ (Y 19 i = Y 19 k ∧ Y 25 i = 1 ∧ Y 23 i = 2)) ↔ (X 10 i = nI s ∧ X 13 i = 1 ∧ (i = k ∨ X 14 i = 2)) := by
      rw [b19, k19, b25, b23, xk]
      constructor
      · rintro (e | ⟨h1, h2, h3⟩)
        · subst e
          exact ⟨xk, by rw [x13]; exact h13, Or.inl rfl⟩
        · exact ⟨h1, h2, Or.inr h3⟩
      · rintro ⟨h1, h2, h3 | h3⟩
        · exact Or.inl h3
        · exact Or.inr ⟨h1, h2, h3⟩
    have same : ¬ (i = k ∨ (Y 19 i = Y 19 k ∧ Y 25 i = 1 ∧ Y 23 i = 2)) → qJ (tClr n k i Y) X ox n m v t c ∧ (∀ q, i + 1 ≤ q → X 13 q = S2 13 q) ∧ (∀ q, X 22 q = 3 → S2 22 q = 3) ∧ (k < i + 1 → ¬ X 22 k = 3) ∧ ∀ {g}, g = 30 ∨ g = 31 → tClr n k i Y g = T2 g := by
      intro hno
      unfold tClr
      rw [if_neg hno]
      refine ⟨i1, fun q hq => i2 q (by omega), i3, fun h9 => ?_, i5⟩
      by_cases e : i = k
      · exact absurd (Or.inl e) hno
      · exact i4 (by omega)
    unfold lcl
    dsimp only
    by_cases d1 : X 10 i = nI s
    · rw [if_neg (fun h9 => h9 d1)]
      by_cases d2 : X 13 i = 1
      · rw [if_neg (fun h9 => h9 d2)]
        by_cases d3 : ¬ i = k ∧ ¬ X 14 i = 2
        · rw [if_pos d3]
          exact same (fun h9 => (hcnd.mp h9).2.2.elim d3.1 d3.2)
        · rw [if_neg d3]
          have hy : i = k ∨ (Y 19 i = Y 19 k ∧ Y 25 i = 1 ∧ Y 23 i = 2) := hcnd.mpr ⟨d1, d2, by
            by_cases e : i = k
            · exact Or.inl e
            · exact Or.inr (Decidable.not_not.mp (fun h9 => d3 ⟨e, h9⟩))⟩
          unfold tClr
          rw [if_pos hy]
          obtain ⟨-, -, -, b20, ⟨l, hl, b11⟩, -, ⟨d, hd, b12⟩, -⟩ := i1.1.2.2.2.2.2.2.1 i (by omega)
          have ht := i1.1.1.2.2.2.2.2.2.2.2.2.2.1
          have hn4 := i1.1.1.2.2.1
          rw [b11, b12, nI_clamp (by omega), nI_clamp (by omega)]
          have h0 := qB_p1 i1.1 (show i < m by omega)
          have hJ : qJ (st1 (tClose Y i) 25 i 0) (st1 (st1 X 22 i (X 22 i &&& 1)) 13 i 0) ox n m v t c := ⟨h0, qD_c i1.2 rfl rfl rfl rfl rfl rfl rfl rfl rfl rfl⟩
          have h9 := qJ_pass hJ hc (show i < m by omega) hl (show tClose Y i 20 i = nI l from b20.trans b11) (show X 12 i = nI d from b12) (by omega)
          refine ⟨h9, fun q hq => ?_, fun q hq => ?_, fun hki => ?_, fun {g} hg => ?_⟩
          · rw [lPass_13]
            show st1 _ 13 i 0 13 q = _
            rw [st1_j (by omega)]
            exact i2 q (by omega)
          · rw [lPass_f (by decide) (by decide), st1_if] at hq
            split at hq
            · rcases i1.1.2.2.2.2.2.2.2.1 i (by omega) with ⟨-, z, -⟩
              rcases (and1_013 z).2 with e | e
              · rw [e] at hq; exact absurd hq (by decide)
              · rw [e] at hq; exact absurd hq (by decide)
            · exact i3 q hq
          · rw [lPass_f (by decide) (by decide), st1_if]
            split
            · rcases i1.1.2.2.2.2.2.2.2.1 i (by omega) with ⟨-, z, -⟩
              rcases (and1_013 z).2 with e | e
              · rw [e]; decide
              · rw [e]; decide
            · rename_i e
              exact i4 (by omega)
          · rcases hg with rfl | rfl
            · exact (tDel_f (by decide) (by decide)).trans (i5 (Or.inl rfl))
            · exact (tDel_f (by decide) (by decide)).trans (i5 (Or.inr rfl))
      · rw [if_pos d2]
        exact same (fun h9 => d2 (hcnd.mp h9).2.1)
    · rw [if_pos d1]
      exact same (fun h9 => d1 (hcnd.mp h9).1)
end
