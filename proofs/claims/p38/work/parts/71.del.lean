/-! pure: a mail passes, in both -/
def lat (S : am_T) : Nat → Nat → Prop := fun l d => bt (S 90 l) d = true
def qJ (T S : am_T) (o : Nat → Int64) (n m v t c : Nat) : Prop := qB T S o n m v t (c + 1) ∧ qD T S m v t c (lat S)
theorem b_orb {x : Int32} {p : Nat} (hp : p < 32) (h : bt x p = true) : x ||| (1 : Int32) <<< (nI p &&& 31) = x := by
  refine b_ext (fun i hi => ?_)
  rw [b_or, b_bit hp hi]
  by_cases e : i = p
  · subst e; rw [h]; rfl
  · rw [decide_eq_false e, Bool.or_false]
theorem b_clr {x : Int32} {p i : Nat} (hp : p < 32) (hi : i < 32) : bt (x &&& ((1 : Int32) <<< (nI p &&& 31) ^^^ (-1))) i = (bt x i && !decide (i = p)) := by
  rw [b_and, b_xor, b_bit hp hi, b_m1 i hi, Bool.xor_true]
section
variable {T S T' S' : am_T} {o : Nat → Int64} {n m v t c k p : Nat}
theorem qK_26 (hK : qK T S n m v t) (x : Int32) (t26 : T' 26 = st1 T 26 k (T 26 k ||| x) 26) (s15 : S' 15 = st1 S 15 k (S 15 k ||| x) 15) (t18 : T' 18 = T 18) (t19 : T' 19 = T 19) (t20 : T' 20 = T 20) (t21 : T' 21 = T 21) (t22 : T' 22 = T 22) (t23 : T' 23 = T 23) (t24 : T' 24 = T 24) (t25 : T' 25 = T 25) (t33 : T' 33 = T 33) (s10 : S' 10 = S 10) (s11 : S' 11 = S 11) (s12 : S' 12 = S 12) (s13 : S' 13 = S 13) (s14 : S' 14 = S 14) (s20 : S' 20 = S 20) (s21 : S' 21 = S 21) (s22 : S' 22 = S 22) : qK T' S' n m v t := by
  intro i hi
  obtain ⟨b1, b2, b3, b4, b5, b6, b7, b8, b9, b10, b11, b12, b13⟩ := hK i hi
  rw [t26, s15, t18, t19, t20, t21, t22, t23, t24, t25, t33, s10, s11, s12, s13, s14, s20, s21, s22]
  refine ⟨b1, b2, b3, b4, b5, b6, b7, b8, b9, b10, b11, b12, ?_⟩
  rw [st1_if, st1_if]
  by_cases e : i = k
  · subst e; rw [if_pos rfl, if_pos rfl, b13]
  · rw [if_neg e, if_neg e]; exact b13
theorem qN_15 (hN : qN T S m) (hk : k < m) {x : Int32} (s15 : S' 15 = st1 S 15 k x 15) (s22 : S' 22 = S 22) (s24 : S' 24 = S 24) (s25 : S' 25 = S 25) (t28 : T' 28 = T 28) : qN T' S' m := by
  refine ⟨fun i h1 h2 => ?_, fun i h1 h2 => by rw [t28]; exact hN.2 i h1 h2⟩
  obtain ⟨b1, b2⟩ := hN.1 i h1 h2
  rw [s15, s22, s24, s25, st1_if, if_neg (show ¬ i = k by omega)]
  exact ⟨b1, b2⟩
/-- into the box -/
theorem qJ_box (h : qJ T S o n m v t c) (hk : k < m) (hp : p < 8) {b : Nat} (hb : S 33 p = nI b) (hb10 : b < 10) : qJ (tBox T k p) (lBx S k p) (lBo S o k p) n m v t c := by
  obtain ⟨⟨hA, hP, hL, hJ, hM, hF, hK, hQ, hN⟩, hD⟩ := h
  have hkk := hK k hk
  have hm10 := hA.2.2.2.2.2.1
  obtain ⟨a1, a2, a3, a4, a5, a6, w8, b9, hb9, w33, X, x1, x2, x3⟩ := hP.1 p hp
  have eb : b9 = b := (nI_eq (by omega) (by omega)).mp (w33.symm.trans hb)
  subst eb
  have e2 : tBox T k p = st1 (st1 (st1 T 9 (10 * p + b9) (nI k)) 8 p (nI b9 + 1)) 26 k (T 26 k ||| (1 : Int32) <<< (nI p &&& 31)) := by
    unfold tBox
    rw [w8, hb, nI_clamp (by omega), hkk.1]
  have e1 : lBx S k p = st1 (st1 S 33 p (nI b9 + 1)) 15 k (S 15 k ||| (1 : Int32) <<< (nI p &&& 31)) := by
    unfold lBx
    rw [hb]
  have e3 : lBo S o k p = am_updL o p (Int64.ofNat (X + k * 16 ^ b9)) := by
    unfold lBo
    rw [hb, x2, k_shl k (by omega) b9 hb10, k_or, k_push x1]
  rw [e1, e2, e3]
  refine ⟨⟨qA_c hA rfl rfl rfl rfl rfl rfl rfl rfl rfl, ⟨fun q hq => ?_, fun q hq => ?_⟩, qL_c hL rfl rfl rfl rfl rfl rfl rfl rfl rfl rfl, jP_c hJ rfl rfl, qM_c hM rfl rfl rfl rfl, qF_c hF rfl rfl rfl rfl rfl, qK_26 hK ((1 : Int32) <<< (nI p &&& 31)) rfl rfl rfl rfl rfl rfl rfl rfl rfl rfl rfl rfl rfl rfl rfl rfl rfl rfl rfl, qQ_c hQ rfl rfl rfl rfl rfl rfl rfl rfl rfl rfl, qN_15 hN hk rfl rfl rfl rfl rfl⟩, qD_c hD rfl rfl rfl rfl rfl rfl rfl rfl rfl rfl⟩
  · by_cases e : q = p
    · subst e
      refine ⟨a1, a2, a3, a4, a5, a6, ?_, b9 + 1, by omega, ?_, X + k * 16 ^ b9, k_add_lt x1 (by omega), ?_, fun j hj => ?_⟩
      · show st1 (st1 T 9 _ _) 8 q (nI b9 + 1) 8 q = st1 S 33 q (nI b9 + 1) 33 q
        rw [st1_same, st1_same]
      · show st1 S 33 q (nI b9 + 1) 33 q = _
        rw [st1_same, nI_1]
      · show (if q = q then _ else _) = _
        rw [if_pos rfl]
      · rw [k_dig x1 (by omega)]
        show _ ∧ st1 T 9 (10 * q + b9) (nI k) 9 (10 * q + j) = _
        by_cases h9 : j < b9
        · rw [if_pos h9, st1_j (by omega)]
          exact x3 j h9
        · rw [if_neg h9, if_pos (by omega), show j = b9 by omega, st1_same]
          exact ⟨hk, rfl⟩
    · obtain ⟨c1, c2, c3, c4, c5, c6, c8, b2, hb2, c33, Y, y1, y2, y3⟩ := hP.1 q hq
      refine ⟨c1, c2, c3, c4, c5, c6, ?_, b2, hb2, ?_, Y, y1, ?_, fun j hj => ⟨(y3 j hj).1, ?_⟩⟩
      · show st1 (st1 T 9 _ _) 8 p (nI b9 + 1) 8 q = st1 S 33 p (nI b9 + 1) 33 q
        rw [st1_j e, st1_j e]
        exact c8
      · show st1 S 33 p (nI b9 + 1) 33 q = _
        rw [st1_j e]
        exact c33
      · show (if q = p then _ else o q) = _
        rw [if_neg e]
        exact y2
      · show st1 T 9 (10 * p + b9) (nI k) 9 (10 * q + j) = _
        rw [st1_j (by omega)]
        exact (y3 j hj).2
  · show ∃ b, b ≤ 10 ∧ st1 (st1 T 9 _ _) 8 p (nI b9 + 1) 8 q = nI b
    by_cases e : q = p
    · subst e
      exact ⟨b9 + 1, by omega, by rw [st1_same, nI_1]⟩
    · rw [st1_j e]
      exact hP.2 q hq
/-- it bounces -/
theorem tb1N_f {g : Nat} (h : g ≠ 11 ∧ g ≠ 12) : ∀ i, itN (tb1 p) T i g = T g
  | 0 => rfl
  | i + 1 => (tb1_f h.1 h.2).trans (tb1N_f h i)
theorem qM_b1 {l : Nat} (hM : qM T S n) (hn : n ≤ 4) (hl : l < n) (hp : p < 8) : qM (tb1 p l T) (lbo p l S) n := by
  intro i hi
  obtain ⟨m1, m2, m3, m4⟩ := hM i hi
  by_cases e : i = l
  · subst e
    unfold tb1 lbo
    rw [show st1 S 7 i (S 7 i ||| S 6 i &&& (1 : Int32) <<< (nI p &&& 31)) 6 = S 6 from rfl, st1_same]
    by_cases hb : bt (T 11 i) p = true
    · rw [if_pos hb]
      unfold tPut
      rw [st1_f (show 11 ≠ 12 by decide), st1_same, st1_same, b_orb (by omega) hb, if_neg (show ¬ (1 : Int32) = 0 by decide)]
      refine ⟨m1, m2, fun j hj => ?_, fun q hq => ?_⟩
      · rw [b_or, Bool.or_eq_true, b_and, Bool.and_eq_true] at hj
        rcases hj with hj | hj
        · exact m3 j hj
        · exact m2 j hj.1
      · rw [b_clr (by omega) (by omega), b_or, b_and, b_bit (by omega) (by omega)]
        by_cases eq : q = p
        · subst eq
          rw [← m1, hb, decide_eq_true rfl]
          simp
        · rw [decide_eq_false eq]
          have := m4 q hq
          simp only [Bool.and_false, Bool.or_false, Bool.not_false, Bool.and_true]
          exact this
    · rw [if_neg hb]
      have e0 : S 6 i &&& (1 : Int32) <<< (nI p &&& 31) = 0 := by
        refine b_ext (fun j hj => ?_)
        rw [b_and, b_bit (by omega) hj, b_0]
        by_cases ej : j = p
        · subst ej; rw [← m1, Bool.eq_false_iff.mpr hb]; rfl
        · rw [decide_eq_false ej, Bool.and_false]
      have e1 : S 7 i ||| 0 = S 7 i := b_ext (fun j _ => by rw [b_or, b_0, Bool.or_false])
      rw [e0, e1]
      exact ⟨m1, m2, m3, m4⟩
  · have h11 : tb1 p l T 11 i = T 11 i := by
      unfold tb1
      split
      · unfold tPut
        rw [st1_f (show 11 ≠ 12 by decide), st1_j e]
      · rfl
    have h12 : tb1 p l T 12 i = T 12 i := by
      unfold tb1
      split
      · unfold tPut
        rw [st1_j e]
        rfl
      · rfl
    have h7 : lbo p l S 7 i = S 7 i := st1_j e
    rw [h11, h12, h7, show lbo p l S 6 = S 6 from rfl]
    exact ⟨m1, m2, m3, m4⟩
theorem qM_b2 {l : Nat} (hM : qM T S n) (hl : n ≤ l) : qM T (lbo p l S) n := by
  intro i hi
  have h7 : lbo p l S 7 i = S 7 i := st1_j (show i ≠ l by omega)
  rw [h7, show lbo p l S 6 = S 6 from rfl]
  exact hM i hi
theorem qM_bN (hM : qM T S n) (hn : n ≤ 4) (hp : p < 8) : ∀ i, i ≤ n → qM (itN (tb1 p) T i) (itN (lbo p) S i) n
  | 0, _ => hM
  | i + 1, hi => qM_b1 (qM_bN hM hn hp i (by omega)) hn (by omega) hp
theorem qM_bM (hM : qM T S n) (hn : n ≤ 4) (hp : p < 8) : ∀ d, qM (itN (tb1 p) T n) (itN (lbo p) S (n + d)) n
  | 0 => qM_bN hM hn hp n (Nat.le_refl n)
  | d + 1 => qM_b2 (qM_bM hM hn hp d) (Nat.le_add_right n d)
theorem lbo_7 {l : Nat} (h6 : S 6 l = 0) (h7 : S 7 l = 0) : ∀ i, itN (lbo p) S i 7 l = 0
  | 0 => h7
  | i + 1 => by
    have ih := lbo_7 h6 h7 i
    show st1 (itN (lbo p) S i) 7 i (itN (lbo p) S i 7 i ||| itN (lbo p) S i 6 i &&& (1 : Int32) <<< (nI p &&& 31)) 7 l = 0
    rw [st1_if]
    split
    · rename_i e
      subst e
      rw [ih, lboN_f (show 6 ≠ 7 by decide), h6]
      refine b_ext (fun j _ => ?_)
      rw [b_or, b_and, b_0, Bool.false_and, Bool.or_false]
    · exact ih
theorem qF_bN (hF : qF S n) (i : Nat) : qF (itN (lbo p) S i) n := by
  intro l h1 h2
  obtain ⟨a3, a4, a5, a6, a7⟩ := hF l h1 h2
  rw [lboN_f (show 3 ≠ 7 by decide), lboN_f (show 4 ≠ 7 by decide), lboN_f (show 5 ≠ 7 by decide), lboN_f (show 6 ≠ 7 by decide)]
  exact ⟨a3, a4, a5, a6, lbo_7 a6 a7 i⟩
theorem qJ_bnc (h : qJ T S o n m v t c) (hp : p < 8) : qJ (tBnc T n p) (lBn S p) o n m v t c := by
  obtain ⟨⟨hA, hP, hL, hJ, hM, hF, hK, hQ, hN⟩, hD⟩ := h
  obtain ⟨-, -, -, -, w7, w6, -⟩ := hP.1 p hp
  have hP2 : ∀ x : Int32, (x = 0 ∨ x = 1 ∨ x = 2) → ∀ T' S' : am_T, T' 5 = T 5 → T' 6 = T 6 → T' 7 = st1 T 7 p x 7 → T' 8 = T 8 → T' 9 = T 9 → S' 30 = S 30 → S' 31 = S 31 → S' 32 = st1 S 32 p x 32 → S' 33 = S 33 → qP T' S' o m (c + 1) := by
    intro x hx T' S' t5 t6 t7 t8 t9 s30 s31 s32 s33
    unfold qP
    rw [t5, t6, t7, t8, t9, s30, s31, s32, s33]
    refine ⟨fun q hq => ?_, hP.2⟩
    obtain ⟨c1, c2, c3, c4, c5, c6, c7⟩ := hP.1 q hq
    refine ⟨c1, c2, c3, c4, ?_, ?_, c7⟩
    · rw [st1_if, st1_if]
      by_cases e : q = p
      · rw [if_pos e, if_pos e]
      · rw [if_neg e, if_neg e]; exact c5
    · rw [st1_if]
      by_cases e : q = p
      · rw [if_pos e]; exact hx
      · rw [if_neg e]; exact c6
  by_cases h3 : S 32 p = 2
  · have h4 : ¬ T 7 p + 1 < 3 := by rw [w7, h3]; decide
    have h5 : ¬ S 32 p + 1 < 3 := by rw [h3]; decide
    unfold tBnc lBn
    rw [if_neg h4, if_neg h5]
    have u : ∀ {g}, g ≠ 11 ∧ g ≠ 12 → itN (tb1 p) (st1 (st1 T 7 p (T 7 p + 1)) 7 p 0) n g = st1 (st1 T 7 p (T 7 p + 1)) 7 p 0 g := fun h => tb1N_f h n
    have w : ∀ {g}, g ≠ 7 → itN (lbo p) (st1 (st1 S 32 p (S 32 p + 1)) 32 p 0) 4 g = st1 (st1 S 32 p (S 32 p + 1)) 32 p 0 g := fun h => lboN_f h 4
    have ut : ∀ {g}, g ≠ 11 ∧ g ≠ 12 ∧ g ≠ 7 → itN (tb1 p) (st1 (st1 T 7 p (T 7 p + 1)) 7 p 0) n g = T g := fun h => (u ⟨h.1, h.2.1⟩).trans ((st1_f h.2.2).trans (st1_f h.2.2))
    have wt : ∀ {g}, g ≠ 7 ∧ g ≠ 32 → itN (lbo p) (st1 (st1 S 32 p (S 32 p + 1)) 32 p 0) 4 g = S g := fun h => (w h.1).trans ((st1_f h.2).trans (st1_f h.2))
    have hn4 := hA.2.2.1
    have hM2 := qM_bM (T := st1 (st1 T 7 p (T 7 p + 1)) 7 p 0) (S := st1 (st1 S 32 p (S 32 p + 1)) 32 p 0) (n := n) (p := p) (qM_c hM rfl rfl rfl rfl) hn4 hp (4 - n)
    rw [show n + (4 - n) = 4 by omega] at hM2
    have hF2 := qF_bN (p := p) (S := st1 (st1 S 32 p (S 32 p + 1)) 32 p 0) (qF_c hF rfl rfl rfl rfl rfl) 4
    have e7 : st1 (st1 T 7 p (T 7 p + 1)) 7 p 0 7 = st1 T 7 p 0 7 := by
      funext j
      rw [st1_if, st1_if, st1_if]
      split <;> rfl
    have e32 : st1 (st1 S 32 p (S 32 p + 1)) 32 p 0 32 = st1 S 32 p 0 32 := by
      funext j
      rw [st1_if, st1_if, st1_if]
      split <;> rfl
    generalize itN (tb1 p) (st1 (st1 T 7 p (T 7 p + 1)) 7 p 0) n = T9 at u ut hM2 ⊢
    generalize itN (lbo p) (st1 (st1 S 32 p (S 32 p + 1)) 32 p 0) 4 = S9 at w wt hM2 hF2 ⊢
    have hl : lat S9 = lat S := by unfold lat; rw [wt (by decide)]
    refine ⟨⟨qA_c hA (ut (by decide)) (ut (by decide)) (ut (by decide)) (ut (by decide)) (ut (by decide)) (wt (by decide)) (wt (by decide)) (wt (by decide)) (wt (by decide)), hP2 0 (Or.inl rfl) _ _ (ut (by decide)) (ut (by decide)) ((u (by decide)).trans e7) (ut (by decide)) (ut (by decide)) (wt (by decide)) (wt (by decide)) ((w (by decide)).trans e32) (wt (by decide)), qL_c hL (ut (by decide)) (ut (by decide)) (ut (by decide)) (ut (by decide)) (ut (by decide)) (wt (by decide)) (wt (by decide)) (wt (by decide)) (wt (by decide)) (wt (by decide)), jP_c hJ (ut (by decide)) (wt (by decide)), hM2, hF2, qK_c hK (ut (by decide)) (ut (by decide)) (ut (by decide)) (ut (by decide)) (ut (by decide)) (ut (by decide)) (ut (by decide)) (ut (by decide)) (ut (by decide)) (ut (by decide)) (wt (by decide)) (wt (by decide)) (wt (by decide)) (wt (by decide)) (wt (by decide)) (wt (by decide)) (wt (by decide)) (wt (by decide)) (wt (by decide)), qQ_c hQ (ut (by decide)) (ut (by decide)) (ut (by decide)) (ut (by decide)) (ut (by decide)) (wt (by decide)) (wt (by decide)) (wt (by decide)) (wt (by decide)) (wt (by decide)), qN_c hN (ut (by decide)) (wt (by decide)) (wt (by decide)) (wt (by decide)) (wt (by decide))⟩, ?_⟩
    rw [hl]
    exact qD_c hD (ut (by decide)) (ut (by decide)) (ut (by decide)) (ut (by decide)) (ut (by decide)) (ut (by decide)) (wt (by decide)) (wt (by decide)) (wt (by decide)) (wt (by decide))
  · have h5 : S 32 p + 1 < 3 := by
      rcases w6 with e | e | e
      · rw [e]; decide
      · rw [e]; decide
      · exact absurd e h3
    have h4 : T 7 p + 1 < 3 := by rw [w7]; exact h5
    unfold tBnc lBn
    rw [if_pos h4, if_pos h5, w7]
    refine ⟨⟨qA_c hA rfl rfl rfl rfl rfl rfl rfl rfl rfl, hP2 (S 32 p + 1) ?_ _ _ rfl rfl rfl rfl rfl rfl rfl rfl rfl, qL_c hL rfl rfl rfl rfl rfl rfl rfl rfl rfl rfl, jP_c hJ rfl rfl, qM_c hM rfl rfl rfl rfl, qF_c hF rfl rfl rfl rfl rfl, qK_c hK rfl rfl rfl rfl rfl rfl rfl rfl rfl rfl rfl rfl rfl rfl rfl rfl rfl rfl rfl, qQ_c hQ rfl rfl rfl rfl rfl rfl rfl rfl rfl rfl, qN_c hN rfl rfl rfl rfl rfl⟩, qD_c hD rfl rfl rfl rfl rfl rfl rfl rfl rfl rfl⟩
    rcases w6 with e | e | e
    · rw [e]; exact Or.inr (Or.inl rfl)
    · rw [e]; exact Or.inr (Or.inr rfl)
    · exact absurd e h3
end
