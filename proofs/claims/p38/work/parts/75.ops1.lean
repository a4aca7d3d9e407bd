/-! pure: what each call does to both, 1 -/
theorem q_z90 {T S : am_T} {o : Nat → Int64} {n m v t c : Nat} (h : qR T S o n m v t c) : qR T (z90 S) o n m v t c := by
  obtain ⟨⟨hA, hP, hL, hJ, hM, hF, hK, hQ, hN⟩, hD, hV⟩ := h
  exact ⟨⟨qA_c hA rfl rfl rfl rfl rfl rfl rfl rfl rfl, qP_c hP rfl rfl rfl rfl rfl rfl rfl rfl rfl rfl, qL_c hL rfl rfl rfl rfl rfl rfl rfl rfl rfl rfl, jP_c hJ rfl rfl, qM_c hM rfl rfl rfl rfl, qF_c hF rfl rfl rfl rfl rfl, qK_c hK rfl rfl rfl rfl rfl rfl rfl rfl rfl rfl rfl rfl rfl rfl rfl rfl rfl rfl rfl, qQ_c hQ rfl rfl rfl rfl rfl rfl rfl rfl rfl rfl, qN_c hN rfl rfl rfl rfl rfl⟩, qD_c hD rfl rfl rfl rfl rfl rfl rfl rfl rfl rfl, qV_c hV rfl rfl rfl⟩
theorem q_91 {T S : am_T} {o : Nat → Int64} {n m v t c : Nat} (h : qR T S o n m v t c) (x : Int32) : qR T (st1 S 91 0 x) o n m v t c := by
  obtain ⟨⟨hA, hP, hL, hJ, hM, hF, hK, hQ, hN⟩, hD, hV⟩ := h
  exact ⟨⟨qA_c hA rfl rfl rfl rfl rfl rfl rfl rfl rfl, qP_c hP rfl rfl rfl rfl rfl rfl rfl rfl rfl rfl, qL_c hL rfl rfl rfl rfl rfl rfl rfl rfl rfl rfl, jP_c hJ rfl rfl, qM_c hM rfl rfl rfl rfl, qF_c hF rfl rfl rfl rfl rfl, qK_c hK rfl rfl rfl rfl rfl rfl rfl rfl rfl rfl rfl rfl rfl rfl rfl rfl rfl rfl rfl, qQ_c hQ rfl rfl rfl rfl rfl rfl rfl rfl rfl rfl, qN_c hN rfl rfl rfl rfl rfl⟩, qD_c hD rfl rfl rfl rfl rfl rfl rfl rfl rfl rfl, qV_c hV rfl rfl rfl⟩
theorem bd_or {n : Nat} {x y : Int32} (h1 : bd n x) (h2 : bd n y) : bd n (x ||| y) := fun i h => by
  rw [b_or, Bool.or_eq_true] at h
  exact h.elim (h1 i) (h2 i)
theorem bd_0 (n : Nat) : bd n 0 := fun i hi => by
  rw [b_0] at hi
  cases hi
theorem bd_le {n m : Nat} {x : Int32} (h : bd n x) (hm : n ≤ m) : bd m x := fun i hi => Nat.lt_of_lt_of_le (h i hi) hm
theorem bd_and {n : Nat} {x y : Int32} (h : bd n x) : bd n (x &&& y) := fun i hi => by
  rw [b_and, Bool.and_eq_true] at hi
  exact h i hi.1
theorem bd_xor {n : Nat} {x y : Int32} (h1 : bd n x) (h2 : bd n y) : bd n (x ^^^ y) := fun i h => by
  rw [b_xor] at h
  by_cases h9 : bt x i = true
  · exact h1 i h9
  · rw [Bool.eq_false_iff.mpr h9, Bool.false_xor] at h
    exact h2 i h
/-- a mode set at a place -/
def bmo (z : Nat) (p : Nat) : Int32 := nI z <<< (nI p &&& 31)
theorem bmo_bit {z p i : Nat} (hz : z < 2) (hp : p < 32) (hi : i < 32) : bt (bmo z p) i = (decide (z = 1) && decide (i = p)) := by
  unfold bmo
  have : z = 0 ∨ z = 1 := by omega
  rcases this with rfl | rfl
  · rw [b_shl p hp _ hi, show nI 0 = 0 from rfl, b_0, Bool.and_false]
    rfl
  · rw [show nI 1 = 1 from rfl, b_bit hp hi]
    rfl
section
variable {T S : am_T} {o : Nat → Int64} {n m v t c : Nat}

theorem q_list (h : qR T S o n m v t c) (h4 : n < 4) {p : Nat} (hp : p < 8) : qR (tNewL T n (nI p)) (st1 (st1 (st1 (st1 S 0 n (nI p)) 1 n 10) 2 n 7) 71 0 (nI n + 1)) o (n + 1) m v t c := by
  obtain ⟨⟨hA, hP, hL, hJ, hM, hF, hK, hQ, hN⟩, hD, hV⟩ := h
  obtain ⟨z3, z4, z5, z6, z7⟩ := hF n (Nat.le_refl n) h4
  have e0 : tNewL T n (nI p) 0 0 = nI n + 1 := tNewL_0
  have e10 : tNewL T n (nI p) 10 n = nI p := tNewL_10
  have e11 : tNewL T n (nI p) 11 n = 0 := tNewL_11
  have e12 : tNewL T n (nI p) 12 n = 0 := tNewL_12
  have e13 : tNewL T n (nI p) 13 n = 0 := tNewL_13
  have e14 : tNewL T n (nI p) 14 n = 0 := tNewL_14
  have e15 : tNewL T n (nI p) 15 n = 10 := tNewL_15
  have e16 : tNewL T n (nI p) 16 n = 7 := tNewL_16
  have e17 : tNewL T n (nI p) 17 n = 0 := tNewL_17
  have en : ∀ {g q : Nat}, g ≠ 0 → q ≠ n → tNewL T n (nI p) g q = T g q := fun h1 h2 => tNewL_ne h1 h2
  obtain ⟨T9, hT9⟩ : ∃ T9 : am_T, T9 = (tNewL T n (nI p)) := ⟨_, rfl⟩
  have tf : ∀ {g}, g ≠ 0 ∧ g ≠ 10 ∧ g ≠ 11 ∧ g ≠ 12 ∧ g ≠ 13 ∧ g ≠ 14 ∧ g ≠ 15 ∧ g ≠ 16 ∧ g ≠ 17 → T9 g = T g := fun h => by rw [hT9]; exact tNewL_f h
  rw [← hT9] at e0 e10 e11 e12 e13 e14 e15 e16 e17 en ⊢
  obtain ⟨S9, hS9⟩ : ∃ S9 : am_T, S9 = (st1 (st1 (st1 (st1 S 0 n (nI p)) 1 n 10) 2 n 7) 71 0 (nI n + 1)) := ⟨_, rfl⟩
  have s0 : S9 0 = st1 S 0 n (nI p) 0 := (congrFun hS9 0).trans rfl
  have s1 : S9 1 = st1 S 1 n 10 1 := (congrFun hS9 1).trans rfl
  have s2 : S9 2 = st1 S 2 n 7 2 := (congrFun hS9 2).trans rfl
  have s71 : S9 71 = st1 S 71 0 (nI n + 1) 71 := (congrFun hS9 71).trans rfl
  have sf : ∀ {g}, g ≠ 0 ∧ g ≠ 1 ∧ g ≠ 2 ∧ g ≠ 71 → S9 g = S g := fun h => by rw [hS9, st1_f h.2.2.2, st1_f h.2.2.1, st1_f h.2.1, st1_f h.1]
  rw [← hS9]
  refine ⟨⟨?_, qP_c hP (tf (by decide)) (tf (by decide)) (tf (by decide)) (tf (by decide)) (tf (by decide)) (sf (by decide)) (sf (by decide)) (sf (by decide)) (sf (by decide)) rfl, ?_, ?_, ?_, fun l h1 h2 => ?_, fun k hk => ?_, qQ_c hQ (tf (by decide)) (tf (by decide)) (tf (by decide)) (tf (by decide)) (tf (by decide)) (sf (by decide)) (sf (by decide)) (sf (by decide)) (sf (by decide)) (sf (by decide)), qN_c hN (tf (by decide)) (sf (by decide)) (sf (by decide)) (sf (by decide)) (sf (by decide))⟩, qD_c hD (tf (by decide)) (tf (by decide)) (tf (by decide)) (tf (by decide)) (tf (by decide)) (tf (by decide)) (sf (by decide)) (sf (by decide)) (sf (by decide)) (sf (by decide)), qV_c hV (tf (by decide)) (tf (by decide)) (sf (by decide))⟩
  · obtain ⟨a1, a2, a3, a4, a5, a6, a7, a8, a9, a10, a11, a12⟩ := hA
    refine ⟨by rw [e0, nI_1], by rw [s71, st1_same, nI_1], by omega, by rw [tf (by decide)]; exact a4, by rw [sf (by decide)]; exact a5, a6, by rw [tf (by decide)]; exact a7, a8, by rw [tf (by decide)]; exact a9, by rw [sf (by decide)]; exact a10, a11, fun j hj => by rw [tf (by decide), sf (by decide)]; exact a12 j hj⟩
  · intro l hl
    rw [s0, s1, s2, sf (show 3 ≠ 0 ∧ 3 ≠ 1 ∧ 3 ≠ 2 ∧ 3 ≠ 71 by decide), sf (show 4 ≠ 0 ∧ 4 ≠ 1 ∧ 4 ≠ 2 ∧ 4 ≠ 71 by decide)]
    by_cases e : l = n
    · subst e
      rw [st1_same, st1_same, st1_same, e10, e14, e15, e16, e17, z3, z4]
      exact ⟨⟨p, hp, rfl⟩, rfl, rfl, rfl, ⟨7, by omega, by omega, rfl⟩, rfl, Or.inl rfl, rfl⟩
    · rw [st1_j e, st1_j e, st1_j e, en (by decide) e, en (by decide) e, en (by decide) e, en (by decide) e, en (by decide) e]
      exact hL l (by omega)
  · refine ⟨by omega, fun l hl => ?_⟩
    rw [sf (by decide)]
    by_cases e : l = n
    · subst e
      rw [e13, z5]
      exact ⟨rfl, bd_0 _⟩
    · rw [en (by decide) e]
      obtain ⟨b1, b2⟩ := hJ.2 l (by omega)
      exact ⟨b1, bd_le b2 (by omega)⟩
  · intro l hl
    rw [sf (show 6 ≠ 0 ∧ 6 ≠ 1 ∧ 6 ≠ 2 ∧ 6 ≠ 71 by decide), sf (show 7 ≠ 0 ∧ 7 ≠ 1 ∧ 7 ≠ 2 ∧ 7 ≠ 71 by decide)]
    by_cases e : l = n
    · subst e
      rw [e11, e12, z6, z7]
      refine ⟨rfl, bd_0 8, bd_0 8, fun q hq => ?_⟩
      rw [b_0]
      simp
    · rw [en (by decide) e, en (by decide) e]
      exact hM l (by omega)
  · have := hF l (by omega) h2
    rw [sf (by decide), sf (by decide), sf (by decide), sf (by decide), sf (by decide)]
    exact this
  · obtain ⟨b1, b2, b3, b4, ⟨l, hl, b5⟩, b6⟩ := (qK_c hK (tf (by decide)) (tf (by decide)) (tf (by decide)) (tf (by decide)) (tf (by decide)) (tf (by decide)) (tf (by decide)) (tf (by decide)) (tf (by decide)) (tf (by decide)) (sf (by decide)) (sf (by decide)) (sf (by decide)) (sf (by decide)) (sf (by decide)) (sf (by decide)) (sf (by decide)) (sf (by decide)) (sf (by decide))) k hk
    exact ⟨b1, b2, b3, b4, ⟨l, by omega, b5⟩, b6⟩

theorem q_join (h : qR T S o n m v t c) {l p z : Nat} (hl : l < n) (hp : p < 8) (hz : z < 2) (hb : bt (T 11 l) p = false) : qR (tPut T l p (nI z)) (st1 (st1 S 6 l (S 6 l ||| (1 : Int32) <<< (nI p &&& 31))) 7 l (S 7 l ||| bmo z p)) o n m v t c := by
  obtain ⟨⟨hA, hP, hL, hJ, hM, hF, hK, hQ, hN⟩, hD, hV⟩ := h
  have hn4 := hA.2.2.1
  obtain ⟨T9, hT9⟩ : ∃ T9 : am_T, T9 = (tPut T l p (nI z)) := ⟨_, rfl⟩
  have t11 : T9 11 = st1 T 11 l (T 11 l ||| (1 : Int32) <<< (nI p &&& 31)) 11 := (congrFun hT9 11).trans rfl
  have t12 : T9 12 = st1 T 12 l (if nI z = 0 then T 12 l ||| (1 : Int32) <<< (nI p &&& 31) else T 12 l &&& ((1 : Int32) <<< (nI p &&& 31) ^^^ (-1))) 12 := (congrFun hT9 12).trans rfl
  have tf : ∀ {g}, g ≠ 11 ∧ g ≠ 12 → T9 g = T g := fun h => by rw [hT9]; unfold tPut; rw [st1_f h.2, st1_f h.1]
  rw [← hT9]
  obtain ⟨S9, hS9⟩ : ∃ S9 : am_T, S9 = (st1 (st1 S 6 l (S 6 l ||| (1 : Int32) <<< (nI p &&& 31))) 7 l (S 7 l ||| bmo z p)) := ⟨_, rfl⟩
  have s6 : S9 6 = st1 S 6 l (S 6 l ||| (1 : Int32) <<< (nI p &&& 31)) 6 := (congrFun hS9 6).trans rfl
  have s7 : S9 7 = st1 S 7 l (S 7 l ||| bmo z p) 7 := (congrFun hS9 7).trans rfl
  have sf : ∀ {g}, g ≠ 6 ∧ g ≠ 7 → S9 g = S g := fun h => by rw [hS9, st1_f h.2, st1_f h.1]
  rw [← hS9]
  refine ⟨⟨qA_c hA (tf (by decide)) (tf (by decide)) (tf (by decide)) (tf (by decide)) (tf (by decide)) (sf (by decide)) (sf (by decide)) (sf (by decide)) (sf (by decide)), qP_c hP (tf (by decide)) (tf (by decide)) (tf (by decide)) (tf (by decide)) (tf (by decide)) (sf (by decide)) (sf (by decide)) (sf (by decide)) (sf (by decide)) rfl, qL_c hL (tf (by decide)) (tf (by decide)) (tf (by decide)) (tf (by decide)) (tf (by decide)) (sf (by decide)) (sf (by decide)) (sf (by decide)) (sf (by decide)) (sf (by decide)), jP_c hJ (tf (by decide)) (sf (by decide)), ?_, fun l2 h1 h2 => ?_, qK_c hK (tf (by decide)) (tf (by decide)) (tf (by decide)) (tf (by decide)) (tf (by decide)) (tf (by decide)) (tf (by decide)) (tf (by decide)) (tf (by decide)) (tf (by decide)) (sf (by decide)) (sf (by decide)) (sf (by decide)) (sf (by decide)) (sf (by decide)) (sf (by decide)) (sf (by decide)) (sf (by decide)) (sf (by decide)), qQ_c hQ (tf (by decide)) (tf (by decide)) (tf (by decide)) (tf (by decide)) (tf (by decide)) (sf (by decide)) (sf (by decide)) (sf (by decide)) (sf (by decide)) (sf (by decide)), qN_c hN (tf (by decide)) (sf (by decide)) (sf (by decide)) (sf (by decide)) (sf (by decide))⟩, qD_c hD (tf (by decide)) (tf (by decide)) (tf (by decide)) (tf (by decide)) (tf (by decide)) (tf (by decide)) (sf (by decide)) (sf (by decide)) (sf (by decide)) (sf (by decide)), qV_c hV (tf (by decide)) (tf (by decide)) (sf (by decide))⟩
  · intro l2 hl2
    obtain ⟨m1, m2, m3, m4⟩ := hM l2 hl2
    rw [t11, t12, s6, s7]
    by_cases e : l2 = l
    · subst e
      rw [st1_same, st1_same, st1_same, st1_same, m1]
      refine ⟨rfl, bd_or m2 (bd_bit hp (by omega)), bd_or m3 (fun i hi => ?_), fun q hq => ?_⟩
      · rw [bmo_bit hz (by omega) (b_lt hi), Bool.and_eq_true, decide_eq_true_eq, decide_eq_true_eq] at hi
        omega
      · rw [b_or, b_or, bmo_bit hz (by omega) (by omega), b_bit (by omega) (by omega)]
        have hq9 := m4 q hq
        rw [m1] at hb
        by_cases e : q = p
        · subst e
          have h7 : bt (S 7 l2) q = false := bt_false.mp (fun h9 => by have := (hq9.mp h9).1; rw [hb] at this; cases this)
          rw [h7, hb]
          have : z = 0 ∨ z = 1 := by omega
          rcases this with rfl | rfl
          · rw [if_pos (show nI 0 = 0 from rfl), b_or, bt_bit (by omega)]
            simp
          · rw [if_neg (show ¬ nI 1 = 0 by decide), b_clr (by omega) (by omega)]
            simp
        · rw [decide_eq_false e, Bool.and_false, Bool.or_false, Bool.or_false]
          rw [hq9]
          have h12 : bt (if nI z = 0 then T 12 l2 ||| (1 : Int32) <<< (nI p &&& 31) else T 12 l2 &&& ((1 : Int32) <<< (nI p &&& 31) ^^^ (-1))) q = bt (T 12 l2) q := by
            split
            · rw [b_or, b_bit (by omega) (by omega), decide_eq_false e, Bool.or_false]
            · rw [b_clr (by omega) (by omega), decide_eq_false e, Bool.not_false, Bool.and_true]
          rw [h12]
    · rw [st1_j e, st1_j e, st1_j e, st1_j e]
      exact ⟨m1, m2, m3, m4⟩
  · obtain ⟨f3, f4, f5, f6, f7⟩ := hF l2 h1 h2
    rw [sf (show 3 ≠ 6 ∧ 3 ≠ 7 by decide), sf (show 4 ≠ 6 ∧ 4 ≠ 7 by decide), sf (show 5 ≠ 6 ∧ 5 ≠ 7 by decide), s6, s7, st1_j (show l2 ≠ l by omega), st1_j (show l2 ≠ l by omega)]
    exact ⟨f3, f4, f5, f6, f7⟩

theorem q_leave (h : qR T S o n m v t c) {l p : Nat} (hl : l < n) (hp : p < 8) : qR (tDrop T l p) (st1 (st1 S 7 l (S 7 l &&& ((1 : Int32) <<< (nI p &&& 31) ^^^ (-1)))) 6 l (S 6 l &&& ((1 : Int32) <<< (nI p &&& 31) ^^^ (-1)))) o n m v t c := by
  obtain ⟨⟨hA, hP, hL, hJ, hM, hF, hK, hQ, hN⟩, hD, hV⟩ := h
  have hn4 := hA.2.2.1
  obtain ⟨T9, hT9⟩ : ∃ T9 : am_T, T9 = (tDrop T l p) := ⟨_, rfl⟩
  have t11 : T9 11 = st1 T 11 l (T 11 l &&& ((1 : Int32) <<< (nI p &&& 31) ^^^ (-1))) 11 := (congrFun hT9 11).trans rfl
  have t12 : T9 12 = st1 T 12 l (T 12 l &&& ((1 : Int32) <<< (nI p &&& 31) ^^^ (-1))) 12 := (congrFun hT9 12).trans rfl
  have tf : ∀ {g}, g ≠ 11 ∧ g ≠ 12 → T9 g = T g := fun h => by rw [hT9]; unfold tDrop; rw [st1_f h.2, st1_f h.1]
  rw [← hT9]
  obtain ⟨S9, hS9⟩ : ∃ S9 : am_T, S9 = (st1 (st1 S 7 l (S 7 l &&& ((1 : Int32) <<< (nI p &&& 31) ^^^ (-1)))) 6 l (S 6 l &&& ((1 : Int32) <<< (nI p &&& 31) ^^^ (-1)))) := ⟨_, rfl⟩
  have s6 : S9 6 = st1 S 6 l (S 6 l &&& ((1 : Int32) <<< (nI p &&& 31) ^^^ (-1))) 6 := (congrFun hS9 6).trans rfl
  have s7 : S9 7 = st1 S 7 l (S 7 l &&& ((1 : Int32) <<< (nI p &&& 31) ^^^ (-1))) 7 := (congrFun hS9 7).trans rfl
  have sf : ∀ {g}, g ≠ 6 ∧ g ≠ 7 → S9 g = S g := fun h => by rw [hS9, st1_f h.1, st1_f h.2]
  rw [← hS9]
  refine ⟨⟨qA_c hA (tf (by decide)) (tf (by decide)) (tf (by decide)) (tf (by decide)) (tf (by decide)) (sf (by decide)) (sf (by decide)) (sf (by decide)) (sf (by decide)), qP_c hP (tf (by decide)) (tf (by decide)) (tf (by decide)) (tf (by decide)) (tf (by decide)) (sf (by decide)) (sf (by decide)) (sf (by decide)) (sf (by decide)) rfl, qL_c hL (tf (by decide)) (tf (by decide)) (tf (by decide)) (tf (by decide)) (tf (by decide)) (sf (by decide)) (sf (by decide)) (sf (by decide)) (sf (by decide)) (sf (by decide)), jP_c hJ (tf (by decide)) (sf (by decide)), ?_, fun l2 h1 h2 => ?_, qK_c hK (tf (by decide)) (tf (by decide)) (tf (by decide)) (tf (by decide)) (tf (by decide)) (tf (by decide)) (tf (by decide)) (tf (by decide)) (tf (by decide)) (tf (by decide)) (sf (by decide)) (sf (by decide)) (sf (by decide)) (sf (by decide)) (sf (by decide)) (sf (by decide)) (sf (by decide)) (sf (by decide)) (sf (by decide)), qQ_c hQ (tf (by decide)) (tf (by decide)) (tf (by decide)) (tf (by decide)) (tf (by decide)) (sf (by decide)) (sf (by decide)) (sf (by decide)) (sf (by decide)) (sf (by decide)), qN_c hN (tf (by decide)) (sf (by decide)) (sf (by decide)) (sf (by decide)) (sf (by decide))⟩, qD_c hD (tf (by decide)) (tf (by decide)) (tf (by decide)) (tf (by decide)) (tf (by decide)) (tf (by decide)) (sf (by decide)) (sf (by decide)) (sf (by decide)) (sf (by decide)), qV_c hV (tf (by decide)) (tf (by decide)) (sf (by decide))⟩
  · intro l2 hl2
    obtain ⟨m1, m2, m3, m4⟩ := hM l2 hl2
    rw [t11, t12, s6, s7]
    by_cases e : l2 = l
    · subst e
      rw [st1_same, st1_same, st1_same, st1_same, m1]
      refine ⟨rfl, bd_and m2, bd_and m3, fun q hq => ?_⟩
      rw [b_clr (by omega) (by omega), b_clr (by omega) (by omega), b_clr (by omega) (by omega)]
      by_cases e : q = p
      · rw [decide_eq_true e]; simp
      · rw [decide_eq_false e, Bool.not_false, Bool.and_true, Bool.and_true, Bool.and_true]
        exact m4 q hq
    · rw [st1_j e, st1_j e, st1_j e, st1_j e]
      exact ⟨m1, m2, m3, m4⟩
  · obtain ⟨f3, f4, f5, f6, f7⟩ := hF l2 h1 h2
    rw [sf (show 3 ≠ 6 ∧ 3 ≠ 7 by decide), sf (show 4 ≠ 6 ∧ 4 ≠ 7 by decide), sf (show 5 ≠ 6 ∧ 5 ≠ 7 by decide), s6, s7, st1_j (show l2 ≠ l by omega), st1_j (show l2 ≠ l by omega)]
    exact ⟨f3, f4, f5, f6, f7⟩

theorem q_mode (h : qR T S o n m v t c) {l p z : Nat} (hl : l < n) (hp : p < 8) (hz : z < 2) (hb : bt (T 11 l) p = true) : qR (tPut T l p (nI z)) (st1 (st1 S 7 l (S 7 l &&& ((1 : Int32) <<< (nI p &&& 31) ^^^ (-1)))) 7 l (S 7 l &&& ((1 : Int32) <<< (nI p &&& 31) ^^^ (-1)) ||| bmo z p)) o n m v t c := by
  obtain ⟨⟨hA, hP, hL, hJ, hM, hF, hK, hQ, hN⟩, hD, hV⟩ := h
  have hn4 := hA.2.2.1
  obtain ⟨T9, hT9⟩ : ∃ T9 : am_T, T9 = (tPut T l p (nI z)) := ⟨_, rfl⟩
  have t11 : T9 11 = st1 T 11 l (T 11 l ||| (1 : Int32) <<< (nI p &&& 31)) 11 := (congrFun hT9 11).trans rfl
  have t12 : T9 12 = st1 T 12 l (if nI z = 0 then T 12 l ||| (1 : Int32) <<< (nI p &&& 31) else T 12 l &&& ((1 : Int32) <<< (nI p &&& 31) ^^^ (-1))) 12 := (congrFun hT9 12).trans rfl
  have tf : ∀ {g}, g ≠ 11 ∧ g ≠ 12 → T9 g = T g := fun h => by rw [hT9]; unfold tPut; rw [st1_f h.2, st1_f h.1]
  rw [← hT9]
  obtain ⟨S9, hS9⟩ : ∃ S9 : am_T, S9 = (st1 (st1 S 7 l (S 7 l &&& ((1 : Int32) <<< (nI p &&& 31) ^^^ (-1)))) 7 l (S 7 l &&& ((1 : Int32) <<< (nI p &&& 31) ^^^ (-1)) ||| bmo z p)) := ⟨_, rfl⟩
  have s7 : S9 7 = st1 S 7 l (S 7 l &&& ((1 : Int32) <<< (nI p &&& 31) ^^^ (-1)) ||| bmo z p) 7 := (congrFun hS9 7).trans (by (funext i; rw [st1_if, st1_if, st1_if]; split <;> rfl))
  have sf : ∀ {g}, g ≠ 7 → S9 g = S g := fun h => by rw [hS9, st1_f h, st1_f h]
  rw [← hS9]
  refine ⟨⟨qA_c hA (tf (by decide)) (tf (by decide)) (tf (by decide)) (tf (by decide)) (tf (by decide)) (sf (by decide)) (sf (by decide)) (sf (by decide)) (sf (by decide)), qP_c hP (tf (by decide)) (tf (by decide)) (tf (by decide)) (tf (by decide)) (tf (by decide)) (sf (by decide)) (sf (by decide)) (sf (by decide)) (sf (by decide)) rfl, qL_c hL (tf (by decide)) (tf (by decide)) (tf (by decide)) (tf (by decide)) (tf (by decide)) (sf (by decide)) (sf (by decide)) (sf (by decide)) (sf (by decide)) (sf (by decide)), jP_c hJ (tf (by decide)) (sf (by decide)), ?_, fun l2 h1 h2 => ?_, qK_c hK (tf (by decide)) (tf (by decide)) (tf (by decide)) (tf (by decide)) (tf (by decide)) (tf (by decide)) (tf (by decide)) (tf (by decide)) (tf (by decide)) (tf (by decide)) (sf (by decide)) (sf (by decide)) (sf (by decide)) (sf (by decide)) (sf (by decide)) (sf (by decide)) (sf (by decide)) (sf (by decide)) (sf (by decide)), qQ_c hQ (tf (by decide)) (tf (by decide)) (tf (by decide)) (tf (by decide)) (tf (by decide)) (sf (by decide)) (sf (by decide)) (sf (by decide)) (sf (by decide)) (sf (by decide)), qN_c hN (tf (by decide)) (sf (by decide)) (sf (by decide)) (sf (by decide)) (sf (by decide))⟩, qD_c hD (tf (by decide)) (tf (by decide)) (tf (by decide)) (tf (by decide)) (tf (by decide)) (tf (by decide)) (sf (by decide)) (sf (by decide)) (sf (by decide)) (sf (by decide)), qV_c hV (tf (by decide)) (tf (by decide)) (sf (by decide))⟩
  · intro l2 hl2
    obtain ⟨m1, m2, m3, m4⟩ := hM l2 hl2
    rw [t11, t12, sf (show 6 ≠ 7 by decide), s7]
    by_cases e : l2 = l
    · subst e
      rw [st1_same, st1_same, st1_same, b_orb (by omega) hb]
      refine ⟨m1, m2, bd_or (bd_and m3) (fun i hi => ?_), fun q hq => ?_⟩
      · rw [bmo_bit hz (by omega) (b_lt hi), Bool.and_eq_true, decide_eq_true_eq, decide_eq_true_eq] at hi
        omega
      · rw [b_or, b_clr (by omega) (by omega), bmo_bit hz (by omega) (by omega)]
        have hq9 := m4 q hq
        by_cases e : q = p
        · subst e
          rw [← m1, hb]
          have : z = 0 ∨ z = 1 := by omega
          rcases this with rfl | rfl
          · rw [if_pos (show nI 0 = 0 from rfl), b_or, bt_bit (by omega)]
            simp
          · rw [if_neg (show ¬ nI 1 = 0 by decide), b_clr (by omega) (by omega)]
            simp
        · rw [decide_eq_false e, Bool.and_false, Bool.or_false, Bool.not_false, Bool.and_true, hq9]
          have h12 : bt (if nI z = 0 then T 12 l2 ||| (1 : Int32) <<< (nI p &&& 31) else T 12 l2 &&& ((1 : Int32) <<< (nI p &&& 31) ^^^ (-1))) q = bt (T 12 l2) q := by
            split
            · rw [b_or, b_bit (by omega) (by omega), decide_eq_false e, Bool.or_false]
            · rw [b_clr (by omega) (by omega), decide_eq_false e, Bool.not_false, Bool.and_true]
          rw [h12]
    · rw [st1_j e, st1_j e, st1_j e]
      exact ⟨m1, m2, m3, m4⟩
  · obtain ⟨f3, f4, f5, f6, f7⟩ := hF l2 h1 h2
    rw [sf (show 3 ≠ 7 by decide), sf (show 4 ≠ 7 by decide), sf (show 5 ≠ 7 by decide), sf (show 6 ≠ 7 by decide), s7, st1_j (show l2 ≠ l by omega)]
    exact ⟨f3, f4, f5, f6, f7⟩

theorem q_nest (h : qR T S o n m v t c) {l q : Nat} (hl : l < n) (hq : q < n) : qR (st1 T 13 l (T 13 l ^^^ ((1 : Int32) <<< (nI q &&& 31)))) (st1 S 5 l (S 5 l ^^^ ((1 : Int32) <<< (nI q &&& 31)))) o n m v t c := by
  obtain ⟨⟨hA, hP, hL, hJ, hM, hF, hK, hQ, hN⟩, hD, hV⟩ := h
  have hn4 := hA.2.2.1
  obtain ⟨T9, hT9⟩ : ∃ T9 : am_T, T9 = (st1 T 13 l (T 13 l ^^^ ((1 : Int32) <<< (nI q &&& 31)))) := ⟨_, rfl⟩
  have t13 : T9 13 = st1 T 13 l (T 13 l ^^^ ((1 : Int32) <<< (nI q &&& 31))) 13 := (congrFun hT9 13).trans rfl
  have tf : ∀ {g}, g ≠ 13 → T9 g = T g := fun h => by rw [hT9, st1_f h]
  rw [← hT9]
  obtain ⟨S9, hS9⟩ : ∃ S9 : am_T, S9 = (st1 S 5 l (S 5 l ^^^ ((1 : Int32) <<< (nI q &&& 31)))) := ⟨_, rfl⟩
  have s5 : S9 5 = st1 S 5 l (S 5 l ^^^ ((1 : Int32) <<< (nI q &&& 31))) 5 := (congrFun hS9 5).trans rfl
  have sf : ∀ {g}, g ≠ 5 → S9 g = S g := fun h => by rw [hS9, st1_f h]
  rw [← hS9]
  refine ⟨⟨qA_c hA (tf (by decide)) (tf (by decide)) (tf (by decide)) (tf (by decide)) (tf (by decide)) (sf (by decide)) (sf (by decide)) (sf (by decide)) (sf (by decide)), qP_c hP (tf (by decide)) (tf (by decide)) (tf (by decide)) (tf (by decide)) (tf (by decide)) (sf (by decide)) (sf (by decide)) (sf (by decide)) (sf (by decide)) rfl, qL_c hL (tf (by decide)) (tf (by decide)) (tf (by decide)) (tf (by decide)) (tf (by decide)) (sf (by decide)) (sf (by decide)) (sf (by decide)) (sf (by decide)) (sf (by decide)), ?_, qM_c hM (tf (by decide)) (tf (by decide)) (sf (by decide)) (sf (by decide)), fun l2 h1 h2 => ?_, qK_c hK (tf (by decide)) (tf (by decide)) (tf (by decide)) (tf (by decide)) (tf (by decide)) (tf (by decide)) (tf (by decide)) (tf (by decide)) (tf (by decide)) (tf (by decide)) (sf (by decide)) (sf (by decide)) (sf (by decide)) (sf (by decide)) (sf (by decide)) (sf (by decide)) (sf (by decide)) (sf (by decide)) (sf (by decide)), qQ_c hQ (tf (by decide)) (tf (by decide)) (tf (by decide)) (tf (by decide)) (tf (by decide)) (sf (by decide)) (sf (by decide)) (sf (by decide)) (sf (by decide)) (sf (by decide)), qN_c hN (tf (by decide)) (sf (by decide)) (sf (by decide)) (sf (by decide)) (sf (by decide))⟩, qD_c hD (tf (by decide)) (tf (by decide)) (tf (by decide)) (tf (by decide)) (tf (by decide)) (tf (by decide)) (sf (by decide)) (sf (by decide)) (sf (by decide)) (sf (by decide)), qV_c hV (tf (by decide)) (tf (by decide)) (sf (by decide))⟩
  · refine ⟨hJ.1, fun l2 hl2 => ?_⟩
    obtain ⟨b1, b2⟩ := hJ.2 l2 hl2
    rw [t13, s5, st1_if, st1_if]
    by_cases e : l2 = l
    · subst e
      rw [if_pos rfl, if_pos rfl, b1]
      exact ⟨rfl, bd_xor b2 (bd_bit hq (by omega))⟩
    · rw [if_neg e, if_neg e]
      exact ⟨b1, b2⟩
  · obtain ⟨f3, f4, f5, f6, f7⟩ := hF l2 h1 h2
    rw [sf (show 3 ≠ 5 by decide), sf (show 4 ≠ 5 by decide), sf (show 6 ≠ 5 by decide), sf (show 7 ≠ 5 by decide), s5, st1_j (show l2 ≠ l by omega)]
    exact ⟨f3, f4, f5, f6, f7⟩

theorem q_rules (h : qR T S o n m v t c) {l z b : Nat} {y : Int32} (hl : l < n) (hz : 1 ≤ z ∧ z ≤ 7) (hb : b < 2) : qR (st1 (st1 (st1 T 15 l y) 16 l (nI z)) 17 l (nI b)) (st1 (st1 (st1 S 1 l y) 2 l (nI z)) 3 l (nI b)) o n m v t c := by
  obtain ⟨⟨hA, hP, hL, hJ, hM, hF, hK, hQ, hN⟩, hD, hV⟩ := h
  obtain ⟨T9, hT9⟩ : ∃ T9 : am_T, T9 = (st1 (st1 (st1 T 15 l y) 16 l (nI z)) 17 l (nI b)) := ⟨_, rfl⟩
  have t15 : T9 15 = st1 T 15 l y 15 := (congrFun hT9 15).trans rfl
  have t16 : T9 16 = st1 T 16 l (nI z) 16 := (congrFun hT9 16).trans rfl
  have t17 : T9 17 = st1 T 17 l (nI b) 17 := (congrFun hT9 17).trans rfl
  have tf : ∀ {g}, g ≠ 15 ∧ g ≠ 16 ∧ g ≠ 17 → T9 g = T g := fun h => by rw [hT9, st1_f h.2.2, st1_f h.2.1, st1_f h.1]
  rw [← hT9]
  obtain ⟨S9, hS9⟩ : ∃ S9 : am_T, S9 = (st1 (st1 (st1 S 1 l y) 2 l (nI z)) 3 l (nI b)) := ⟨_, rfl⟩
  have s1 : S9 1 = st1 S 1 l y 1 := (congrFun hS9 1).trans rfl
  have s2 : S9 2 = st1 S 2 l (nI z) 2 := (congrFun hS9 2).trans rfl
  have s3 : S9 3 = st1 S 3 l (nI b) 3 := (congrFun hS9 3).trans rfl
  have sf : ∀ {g}, g ≠ 1 ∧ g ≠ 2 ∧ g ≠ 3 → S9 g = S g := fun h => by rw [hS9, st1_f h.2.2, st1_f h.2.1, st1_f h.1]
  rw [← hS9]
  refine ⟨⟨qA_c hA (tf (by decide)) (tf (by decide)) (tf (by decide)) (tf (by decide)) (tf (by decide)) (sf (by decide)) (sf (by decide)) (sf (by decide)) (sf (by decide)), qP_c hP (tf (by decide)) (tf (by decide)) (tf (by decide)) (tf (by decide)) (tf (by decide)) (sf (by decide)) (sf (by decide)) (sf (by decide)) (sf (by decide)) rfl, ?_, jP_c hJ (tf (by decide)) (sf (by decide)), qM_c hM (tf (by decide)) (tf (by decide)) (sf (by decide)) (sf (by decide)), fun l2 h1 h2 => ?_, qK_c hK (tf (by decide)) (tf (by decide)) (tf (by decide)) (tf (by decide)) (tf (by decide)) (tf (by decide)) (tf (by decide)) (tf (by decide)) (tf (by decide)) (tf (by decide)) (sf (by decide)) (sf (by decide)) (sf (by decide)) (sf (by decide)) (sf (by decide)) (sf (by decide)) (sf (by decide)) (sf (by decide)) (sf (by decide)), qQ_c hQ (tf (by decide)) (tf (by decide)) (tf (by decide)) (tf (by decide)) (tf (by decide)) (sf (by decide)) (sf (by decide)) (sf (by decide)) (sf (by decide)) (sf (by decide)), qN_c hN (tf (by decide)) (sf (by decide)) (sf (by decide)) (sf (by decide)) (sf (by decide))⟩, qD_c hD (tf (by decide)) (tf (by decide)) (tf (by decide)) (tf (by decide)) (tf (by decide)) (tf (by decide)) (sf (by decide)) (sf (by decide)) (sf (by decide)) (sf (by decide)), qV_c hV (tf (by decide)) (tf (by decide)) (sf (by decide))⟩
  · intro l2 hl2
    obtain ⟨b1, b2, b3, b4, b5, b6, b7, b8⟩ := hL l2 hl2
    rw [t15, t16, t17, s1, s2, s3, tf (show 10 ≠ 15 ∧ 10 ≠ 16 ∧ 10 ≠ 17 by decide), tf (show 14 ≠ 15 ∧ 14 ≠ 16 ∧ 14 ≠ 17 by decide), sf (show 0 ≠ 1 ∧ 0 ≠ 2 ∧ 0 ≠ 3 by decide), sf (show 4 ≠ 1 ∧ 4 ≠ 2 ∧ 4 ≠ 3 by decide)]
    by_cases e : l2 = l
    · subst e
      rw [st1_same, st1_same, st1_same, st1_same, st1_same, st1_same]
      refine ⟨b1, b2, rfl, rfl, ⟨z, hz.1, hz.2, rfl⟩, rfl, ?_, b8⟩
      have : b = 0 ∨ b = 1 := by omega
      rcases this with rfl | rfl
      · exact Or.inl rfl
      · exact Or.inr rfl
    · rw [st1_j e, st1_j e, st1_j e, st1_j e, st1_j e, st1_j e]
      exact ⟨b1, b2, b3, b4, b5, b6, b7, b8⟩
  · obtain ⟨f3, f4, f5, f6, f7⟩ := hF l2 h1 h2
    rw [sf (show 4 ≠ 1 ∧ 4 ≠ 2 ∧ 4 ≠ 3 by decide), sf (show 5 ≠ 1 ∧ 5 ≠ 2 ∧ 5 ≠ 3 by decide), sf (show 6 ≠ 1 ∧ 6 ≠ 2 ∧ 6 ≠ 3 by decide), sf (show 7 ≠ 1 ∧ 7 ≠ 2 ∧ 7 ≠ 3 by decide), s3, st1_j (show l2 ≠ l by omega)]
    exact ⟨f3, f4, f5, f6, f7⟩

theorem q_bar (h : qR T S o n m v t c) {l p : Nat} (hl : l < n) : qR (st1 T 14 l (T 14 l ^^^ ((1 : Int32) <<< (nI p &&& 31)))) (st1 S 4 l (S 4 l ^^^ ((1 : Int32) <<< (nI p &&& 31)))) o n m v t c := by
  obtain ⟨⟨hA, hP, hL, hJ, hM, hF, hK, hQ, hN⟩, hD, hV⟩ := h
  obtain ⟨T9, hT9⟩ : ∃ T9 : am_T, T9 = (st1 T 14 l (T 14 l ^^^ ((1 : Int32) <<< (nI p &&& 31)))) := ⟨_, rfl⟩
  have t14 : T9 14 = st1 T 14 l (T 14 l ^^^ ((1 : Int32) <<< (nI p &&& 31))) 14 := (congrFun hT9 14).trans rfl
  have tf : ∀ {g}, g ≠ 14 → T9 g = T g := fun h => by rw [hT9, st1_f h]
  rw [← hT9]
  obtain ⟨S9, hS9⟩ : ∃ S9 : am_T, S9 = (st1 S 4 l (S 4 l ^^^ ((1 : Int32) <<< (nI p &&& 31)))) := ⟨_, rfl⟩
  have s4 : S9 4 = st1 S 4 l (S 4 l ^^^ ((1 : Int32) <<< (nI p &&& 31))) 4 := (congrFun hS9 4).trans rfl
  have sf : ∀ {g}, g ≠ 4 → S9 g = S g := fun h => by rw [hS9, st1_f h]
  rw [← hS9]
  refine ⟨⟨qA_c hA (tf (by decide)) (tf (by decide)) (tf (by decide)) (tf (by decide)) (tf (by decide)) (sf (by decide)) (sf (by decide)) (sf (by decide)) (sf (by decide)), qP_c hP (tf (by decide)) (tf (by decide)) (tf (by decide)) (tf (by decide)) (tf (by decide)) (sf (by decide)) (sf (by decide)) (sf (by decide)) (sf (by decide)) rfl, ?_, jP_c hJ (tf (by decide)) (sf (by decide)), qM_c hM (tf (by decide)) (tf (by decide)) (sf (by decide)) (sf (by decide)), fun l2 h1 h2 => ?_, qK_c hK (tf (by decide)) (tf (by decide)) (tf (by decide)) (tf (by decide)) (tf (by decide)) (tf (by decide)) (tf (by decide)) (tf (by decide)) (tf (by decide)) (tf (by decide)) (sf (by decide)) (sf (by decide)) (sf (by decide)) (sf (by decide)) (sf (by decide)) (sf (by decide)) (sf (by decide)) (sf (by decide)) (sf (by decide)), qQ_c hQ (tf (by decide)) (tf (by decide)) (tf (by decide)) (tf (by decide)) (tf (by decide)) (sf (by decide)) (sf (by decide)) (sf (by decide)) (sf (by decide)) (sf (by decide)), qN_c hN (tf (by decide)) (sf (by decide)) (sf (by decide)) (sf (by decide)) (sf (by decide))⟩, qD_c hD (tf (by decide)) (tf (by decide)) (tf (by decide)) (tf (by decide)) (tf (by decide)) (tf (by decide)) (sf (by decide)) (sf (by decide)) (sf (by decide)) (sf (by decide)), qV_c hV (tf (by decide)) (tf (by decide)) (sf (by decide))⟩
  · intro l2 hl2
    obtain ⟨b1, b2, b3, b4, b5, b6, b7, b8⟩ := hL l2 hl2
    rw [t14, s4, tf (show 10 ≠ 14 by decide), tf (show 15 ≠ 14 by decide), tf (show 16 ≠ 14 by decide), tf (show 17 ≠ 14 by decide), sf (show 0 ≠ 4 by decide), sf (show 1 ≠ 4 by decide), sf (show 2 ≠ 4 by decide), sf (show 3 ≠ 4 by decide)]
    refine ⟨b1, b2, b3, b4, b5, b6, b7, ?_⟩
    rw [st1_if, st1_if]
    by_cases e : l2 = l
    · subst e
      rw [if_pos rfl, if_pos rfl, b8]
    · rw [if_neg e, if_neg e]
      exact b8
  · obtain ⟨f3, f4, f5, f6, f7⟩ := hF l2 h1 h2
    rw [sf (show 3 ≠ 4 by decide), sf (show 5 ≠ 4 by decide), sf (show 6 ≠ 4 by decide), sf (show 7 ≠ 4 by decide), s4, st1_j (show l2 ≠ l by omega)]
    exact ⟨f3, f4, f5, f6, f7⟩

theorem q_word (h : qR T S o n m v t c) {j : Nat} {y : Int32} (hj : j < 4) : qR (st1 T 4 j y) (st1 S 80 j y) o n m v t c := by
  obtain ⟨⟨hA, hP, hL, hJ, hM, hF, hK, hQ, hN⟩, hD, hV⟩ := h
  obtain ⟨T9, hT9⟩ : ∃ T9 : am_T, T9 = (st1 T 4 j y) := ⟨_, rfl⟩
  have t4 : T9 4 = st1 T 4 j y 4 := (congrFun hT9 4).trans rfl
  have tf : ∀ {g}, g ≠ 4 → T9 g = T g := fun h => by rw [hT9, st1_f h]
  rw [← hT9]
  obtain ⟨S9, hS9⟩ : ∃ S9 : am_T, S9 = (st1 S 80 j y) := ⟨_, rfl⟩
  have s80 : S9 80 = st1 S 80 j y 80 := (congrFun hS9 80).trans rfl
  have sf : ∀ {g}, g ≠ 80 → S9 g = S g := fun h => by rw [hS9, st1_f h]
  rw [← hS9]
  refine ⟨⟨?_, qP_c hP (tf (by decide)) (tf (by decide)) (tf (by decide)) (tf (by decide)) (tf (by decide)) (sf (by decide)) (sf (by decide)) (sf (by decide)) (sf (by decide)) rfl, qL_c hL (tf (by decide)) (tf (by decide)) (tf (by decide)) (tf (by decide)) (tf (by decide)) (sf (by decide)) (sf (by decide)) (sf (by decide)) (sf (by decide)) (sf (by decide)), jP_c hJ (tf (by decide)) (sf (by decide)), qM_c hM (tf (by decide)) (tf (by decide)) (sf (by decide)) (sf (by decide)), qF_c hF (sf (by decide)) (sf (by decide)) (sf (by decide)) (sf (by decide)) (sf (by decide)), qK_c hK (tf (by decide)) (tf (by decide)) (tf (by decide)) (tf (by decide)) (tf (by decide)) (tf (by decide)) (tf (by decide)) (tf (by decide)) (tf (by decide)) (tf (by decide)) (sf (by decide)) (sf (by decide)) (sf (by decide)) (sf (by decide)) (sf (by decide)) (sf (by decide)) (sf (by decide)) (sf (by decide)) (sf (by decide)), qQ_c hQ (tf (by decide)) (tf (by decide)) (tf (by decide)) (tf (by decide)) (tf (by decide)) (sf (by decide)) (sf (by decide)) (sf (by decide)) (sf (by decide)) (sf (by decide)), qN_c hN (tf (by decide)) (sf (by decide)) (sf (by decide)) (sf (by decide)) (sf (by decide))⟩, qD_c hD (tf (by decide)) (tf (by decide)) (tf (by decide)) (tf (by decide)) (tf (by decide)) (tf (by decide)) (sf (by decide)) (sf (by decide)) (sf (by decide)) (sf (by decide)), qV_c hV (tf (by decide)) (tf (by decide)) (sf (by decide))⟩
  · obtain ⟨a1, a2, a3, a4, a5, a6, a7, a8, a9, a10, a11, a12⟩ := hA
    refine ⟨by rw [tf (by decide)]; exact a1, by rw [sf (by decide)]; exact a2, a3, by rw [tf (by decide)]; exact a4, by rw [sf (by decide)]; exact a5, a6, by rw [tf (by decide)]; exact a7, a8, by rw [tf (by decide)]; exact a9, by rw [sf (by decide)]; exact a10, a11, fun i hi => ?_⟩
    rw [t4, s80, st1_if, st1_if]
    split
    · rfl
    · exact a12 i hi

theorem q_refuse (h : qR T S o n m v t c) {k : Nat} (hk : k < m) (h22 : ¬ S 22 k = 3) : qR (st1 T 25 k 3) (st1 S 13 k 3) o n m v t c := by
  obtain ⟨⟨hA, hP, hL, hJ, hM, hF, hK, hQ, hN⟩, hD, hV⟩ := h
  obtain ⟨T9, hT9⟩ : ∃ T9 : am_T, T9 = (st1 T 25 k 3) := ⟨_, rfl⟩
  have t25 : T9 25 = st1 T 25 k 3 25 := (congrFun hT9 25).trans rfl
  have tf : ∀ {g}, g ≠ 25 → T9 g = T g := fun h => by rw [hT9, st1_f h]
  rw [← hT9]
  obtain ⟨S9, hS9⟩ : ∃ S9 : am_T, S9 = (st1 S 13 k 3) := ⟨_, rfl⟩
  have s13 : S9 13 = st1 S 13 k 3 13 := (congrFun hS9 13).trans rfl
  have sf : ∀ {g}, g ≠ 13 → S9 g = S g := fun h => by rw [hS9, st1_f h]
  rw [← hS9]
  refine ⟨⟨qA_c hA (tf (by decide)) (tf (by decide)) (tf (by decide)) (tf (by decide)) (tf (by decide)) (sf (by decide)) (sf (by decide)) (sf (by decide)) (sf (by decide)), qP_c hP (tf (by decide)) (tf (by decide)) (tf (by decide)) (tf (by decide)) (tf (by decide)) (sf (by decide)) (sf (by decide)) (sf (by decide)) (sf (by decide)) rfl, qL_c hL (tf (by decide)) (tf (by decide)) (tf (by decide)) (tf (by decide)) (tf (by decide)) (sf (by decide)) (sf (by decide)) (sf (by decide)) (sf (by decide)) (sf (by decide)), jP_c hJ (tf (by decide)) (sf (by decide)), qM_c hM (tf (by decide)) (tf (by decide)) (sf (by decide)) (sf (by decide)), qF_c hF (sf (by decide)) (sf (by decide)) (sf (by decide)) (sf (by decide)) (sf (by decide)), ?_, ?_, qN_c hN (tf (by decide)) (sf (by decide)) (sf (by decide)) (sf (by decide)) (sf (by decide))⟩, qD_c hD (tf (by decide)) (tf (by decide)) (tf (by decide)) (tf (by decide)) (tf (by decide)) (tf (by decide)) (sf (by decide)) (sf (by decide)) (sf (by decide)) (sf (by decide)), qV_c hV (tf (by decide)) (tf (by decide)) (sf (by decide))⟩
  · intro i hi
    obtain ⟨b1, b2, b3, b4, b5, b6, b7, b8, b9, b10, ⟨e, he, b11, b11'⟩, b12, b13⟩ := hK i hi
    rw [t25, s13, tf (show 18 ≠ 25 by decide), tf (show 19 ≠ 25 by decide), tf (show 20 ≠ 25 by decide), tf (show 21 ≠ 25 by decide), tf (show 22 ≠ 25 by decide), tf (show 23 ≠ 25 by decide), tf (show 24 ≠ 25 by decide), tf (show 26 ≠ 25 by decide), tf (show 33 ≠ 25 by decide), sf (show 10 ≠ 13 by decide), sf (show 11 ≠ 13 by decide), sf (show 12 ≠ 13 by decide), sf (show 14 ≠ 13 by decide), sf (show 15 ≠ 13 by decide), sf (show 20 ≠ 13 by decide), sf (show 21 ≠ 13 by decide), sf (show 22 ≠ 13 by decide), st1_if, st1_if]
    by_cases e9 : i = k
    · rw [if_pos e9, if_pos e9]
      exact ⟨b1, b2, b3, b4, b5, b6, b7, b8, b9, b10, ⟨e, he, b11, fun h9 => absurd h9 (by decide)⟩, rfl, b13⟩
    · rw [if_neg e9, if_neg e9]
      exact ⟨b1, b2, b3, b4, b5, b6, b7, b8, b9, b10, ⟨e, he, b11, b11'⟩, b12, b13⟩
  · intro i hi
    obtain ⟨b1, b2, b3, b4, b5, b6⟩ := hQ i hi
    rw [s13, tf (show 28 ≠ 25 by decide), tf (show 29 ≠ 25 by decide), tf (show 30 ≠ 25 by decide), tf (show 31 ≠ 25 by decide), tf (show 32 ≠ 25 by decide), sf (show 22 ≠ 13 by decide), sf (show 23 ≠ 13 by decide), sf (show 24 ≠ 13 by decide), sf (show 25 ≠ 13 by decide), st1_if]
    by_cases e9 : i = k
    · subst e9
      rw [if_pos rfl]
      exact ⟨b1, b2, fun h9 => absurd h9 h22, fun h9 => absurd h9 (by decide), b5, b6⟩
    · rw [if_neg e9]
      exact ⟨b1, b2, b3, b4, b5, b6⟩

end
