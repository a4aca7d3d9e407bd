/-! pure: a whole mail's passing; editions settled -/
section
variable {T S : am_T} {o : Nat → Int64} {n m v t c k p : Nat}
theorem qJ_step (h : qJ T S o n m v t c) (hc : c ≤ 100) (hk : k < m) (hp : p < 8) {l d : Nat} (hl : l < n) (h12 : S 12 k = nI d) (hd : d < 15) {set re : Int32} (hset : set = tDown T n l) (hre : re = lRe S l) : qJ (tdl n k set p T) (lps k l d re p (S, o)).1 (lps k l d re p (S, o)).2 n m v t c := by
  have h19 := (h.1.2.2.2.2.2.2.1 k hk).2.1
  have hn4 := h.1.1.2.2.1
  unfold tdl lps
  dsimp only
  by_cases e1 : nI p = S 10 k
  · rw [if_pos (by rw [h19]; exact e1), if_pos e1]
    exact h
  rw [if_neg (by rw [h19]; exact e1), if_neg e1]
  subst hset
  subst hre
  have hr := re_way h.1.2.2.2.1 hn4 (qB_5 h.1) h.1.2.2.2.2.1 hl hp
  have in0 : ¬ tLow T n (tDown T n l) p = -1 → ¬ (lRe S l >>> (nI p &&& 31)) &&& 1 = 0 := fun h9 e => by
    rw [bt_iff0 (by omega)] at e
    rw [hr.mpr h9] at e
    cases e
  rcases qB_way h.1 hl hp with ⟨w1, w2⟩ | ⟨w1, w2, w3⟩ | ⟨i, hi, w1, w2, w3⟩
  · rw [if_pos ((bt_iff0 (by omega)).mpr (bt_false.mp (fun e => hr.mp e w2)))]
    unfold tTo
    rw [if_pos w2]
    exact h
  · rw [if_neg (in0 w2), if_pos w1]
    unfold tTo
    rw [if_neg w2, if_neg (show ¬ tMode T n (tDown T n l) p = 1 by rw [w3]; decide)]
    obtain ⟨-, -, -, -, -, -, e8, b, hb, e33, -⟩ := h.1.2.1.1 p hp
    by_cases hb9 : b < 10
    · have h9 : S 33 p < 10 := by rw [e33]; exact nI_lt (b := 10) hb9 (by decide)
      rw [if_pos (show T 8 p < 10 by rw [e8]; exact h9), if_pos h9]
      exact qJ_box h hk hp e33 hb9
    · have h9 : ¬ S 33 p < 10 := by rw [e33]; exact fun h8 => hb9 ((nI_ltI (b := 10) (by omega) (by decide)).mp h8)
      rw [if_neg (show ¬ T 8 p < 10 by rw [e8]; exact h9), if_neg h9]
      exact qJ_bnc h hp
  · have w4 : ¬ tLow T n (tDown T n l) p = -1 := by rw [w2]; exact nI_ne_m1 (by omega)
    have w5 : ¬ lWay S l p = 0 := by
      rw [w1]
      intro e
      have := (nI_eq (a := i + 1) (b := 0) (by omega) (by decide)).mp e
      omega
    rw [if_neg (in0 w4), if_neg w5]
    unfold tTo
    rw [if_neg w4, if_pos w3, w2, w1, nI_clamp (show i + 1 < 2 ^ 31 by omega), nI_clamp (show i < 2 ^ 31 by omega), Nat.add_sub_cancel]
    exact qJ_dig h hc hk hp hi h12 hd
theorem qJ_hi (h : qJ T S o n m v t c) (hp : 8 ≤ p) (set : Int32) : tdl n k set p T = T := by
  unfold tdl
  split
  · rfl
  · unfold tTo
    rw [if_pos (show tLow T n set p = -1 from tlo_none (fun i hi => Bool.eq_false_iff.mpr (fun h9 => by
      unfold tHas at h9
      rw [Bool.and_eq_true] at h9
      obtain ⟨m1, m2, -⟩ := h.1.2.2.2.2.1 i hi
      have h8 := h9.2
      rw [m1] at h8
      have := m2 p h8
      omega)))]
theorem qJ_it (h : qJ T S o n m v t c) (hc : c ≤ 100) (hk : k < m) {l d : Nat} (hl : l < n) (h12 : S 12 k = nI d) (hd : d < 15) : ∀ i, i ≤ 8 → qJ (itN (tdl n k (tDown T n l)) T i) (itN (lps k l d (lRe S l)) (S, o) i).1 (itN (lps k l d (lRe S l)) (S, o) i).2 n m v t c
  | 0, _ => h
  | i + 1, hi => by
    have ih := qJ_it h hc hk hl h12 hd i (by omega)
    have e5 : (itN (lps k l d (lRe S l)) (S, o) i).1 5 = S 5 := lpsN_f (by decide) i
    have e6 : (itN (lps k l d (lRe S l)) (S, o) i).1 6 = S 6 := lpsN_f (by decide) i
    have e12 : (itN (lps k l d (lRe S l)) (S, o) i).1 12 k = nI d := by rw [lpsN_f (by decide) i]; exact h12
    have hs : tDown T n l = tDown (itN (tdl n k (tDown T n l)) T i) n l := (qB_win h.1 hl).symm.trans ((lWin_c e5 l).symm.trans (qB_win ih.1 hl))
    exact qJ_step ih hc hk (by omega) hl e12 hd hs (lRe_c e5 e6 l).symm
theorem qJ_hN (h : qJ T S o n m v t c) (set : Int32) {T0 : am_T} (e : itN (tdl n k set) T0 8 = T) : ∀ d, itN (tdl n k set) T0 (8 + d) = T
  | 0 => e
  | d + 1 => by
    have ih := qJ_hN h set e d
    show tdl n k set (8 + d) (itN (tdl n k set) T0 (8 + d)) = T
    rw [ih]
    exact qJ_hi h (by omega) set
theorem qJ_pass (h : qJ (st1 T 25 k 0) (st1 S 13 k 0) o n m v t c) (hc : c ≤ 100) (hk : k < m) {l d : Nat} (hl : l < n) (h20 : T 20 k = nI l) (h12 : S 12 k = nI d) (hd : d < 15) : qJ (tDel T n k) (lPass S o k l d).1 (lPass S o k l d).2 n m v t c := by
  have h9 := qJ_it h hc hk hl (d := d) h12 hd 8 (Nat.le_refl 8)
  unfold tDel lPass
  rw [h20, nI_clamp (by have := h.1.1.2.2.1; omega), qJ_hN (T := itN (tdl n k (tDown (st1 T 25 k 0) n l)) (st1 T 25 k 0) 8) h9 _ rfl 8]
  rw [lRe_c (S := S) (S' := st1 S 13 k 0) rfl rfl] at h9
  exact h9
/-- a mail that isn't appealed for, or not any more, is set to pass -/
theorem qB_p0 (h : qB T S o n m v t c) (hk : k < m) (h22 : ¬ S 22 k = 3) : qB (st1 T 25 k 0) (st1 S 13 k 0) o n m v t c := by
  obtain ⟨hA, hP, hL, hJ, hM, hF, hK, hQ, hN⟩ := h
  refine ⟨qA_c hA rfl rfl rfl rfl rfl rfl rfl rfl rfl, qP_c hP rfl rfl rfl rfl rfl rfl rfl rfl rfl rfl, qL_c hL rfl rfl rfl rfl rfl rfl rfl rfl rfl rfl, jP_c hJ rfl rfl, qM_c hM rfl rfl rfl rfl, qF_c hF rfl rfl rfl rfl rfl, fun i hi => ?_, fun i hi => ?_, qN_c hN rfl rfl rfl rfl rfl⟩
  · obtain ⟨b1, b2, b3, b4, b5, b6, b7, b8, b9, b10, ⟨e, he, b11, b11'⟩, b12, b13⟩ := hK i hi
    refine ⟨b1, b2, b3, b4, b5, b6, b7, b8, b9, b10, ⟨e, he, b11, ?_⟩, ?_, b13⟩
    · show st1 S 13 k 0 13 i = 1 → _
      rw [st1_if]
      split
      · intro h9; exact absurd h9 (by decide)
      · exact b11'
    · show st1 T 25 k 0 25 i = st1 S 13 k 0 13 i
      rw [st1_if, st1_if]
      split
      · rfl
      · exact b12
  · obtain ⟨b1, b2, b3, b4, b5, b6⟩ := hQ i hi
    refine ⟨b1, b2, ?_, ?_, b5, b6⟩
    · show S 22 i = 3 → st1 S 13 k 0 13 i = 1
      rw [st1_if]
      split
      · rename_i e; subst e; exact fun h9 => absurd h9 h22
      · exact b3
    · show st1 S 13 k 0 13 i = 1 → _
      rw [st1_if]
      split
      · intro h9; exact absurd h9 (by decide)
      · exact b4
theorem and1_013 {x : Int32} (h : x = 0 ∨ x = 1 ∨ x = 3) : (x &&& 1 = 0 ↔ x = 0) ∧ (x &&& 1 = 0 ∨ x &&& 1 = 1) := by
  rcases h with rfl | rfl | rfl <;> decide
/-- its appeal ends -/
theorem qB_p1 (h : qB T S o n m v t c) (hk : k < m) : qB (st1 (tClose T k) 25 k 0) (st1 (st1 S 22 k (S 22 k &&& 1)) 13 k 0) o n m v t c := by
  obtain ⟨hA, hP, hL, hJ, hM, hF, hK, hQ, hN⟩ := h
  unfold tClose
  refine ⟨qA_c hA rfl rfl rfl rfl rfl rfl rfl rfl rfl, qP_c hP rfl rfl rfl rfl rfl rfl rfl rfl rfl rfl, qL_c hL rfl rfl rfl rfl rfl rfl rfl rfl rfl rfl, jP_c hJ rfl rfl, qM_c hM rfl rfl rfl rfl, qF_c hF rfl rfl rfl rfl rfl, fun i hi => ?_, fun i hi => ?_, ⟨fun i h1 h2 => ?_, hN.2⟩⟩
  · obtain ⟨b1, b2, b3, b4, b5, b6, b7, b8, b9, b10, ⟨e, he, b11, b11'⟩, b12, b13⟩ := hK i hi
    refine ⟨b1, b2, b3, b4, b5, b6, b7, b8, b9, b10, ⟨e, he, b11, ?_⟩, ?_, b13⟩
    · show st1 (st1 S 22 k _) 13 k 0 13 i = 1 → st1 S 22 k (S 22 k &&& 1) 22 i = 0 → _
      rw [st1_if, st1_if]
      by_cases e : i = k
      · rw [if_pos e]
        intro h9; exact absurd h9 (by decide)
      · rw [if_neg e, if_neg e]
        exact b11'
    · show st1 _ 25 k 0 25 i = st1 _ 13 k 0 13 i
      rw [st1_if, st1_if]
      split
      · rfl
      · exact b12
  · obtain ⟨b1, b2, b3, b4, b5, b6⟩ := hQ i hi
    show (T 28 i = 1 ↔ ¬ st1 S 22 k (S 22 k &&& 1) 22 i = 0) ∧ (st1 S 22 k (S 22 k &&& 1) 22 i = 0 ∨ st1 S 22 k (S 22 k &&& 1) 22 i = 1 ∨ st1 S 22 k (S 22 k &&& 1) 22 i = 3) ∧ (st1 S 22 k (S 22 k &&& 1) 22 i = 3 → st1 (st1 S 22 k (S 22 k &&& 1)) 13 k 0 13 i = 1) ∧ (st1 (st1 S 22 k (S 22 k &&& 1)) 13 k 0 13 i = 1 → ¬ st1 S 22 k (S 22 k &&& 1) 22 i = 0 → st1 S 22 k (S 22 k &&& 1) 22 i = 3) ∧ (st1 S 22 k (S 22 k &&& 1) 22 i = 0 → S 24 i = 0 ∧ S 25 i = 0) ∧ (T 28 i = 1 → (st1 T 32 k (if T 28 k = 1 then 0 else T 32 k) 32 i = 0 ↔ st1 S 22 k (S 22 k &&& 1) 22 i = 1) ∧ _)
    rw [st1_if, st1_if, st1_if]
    by_cases e : i = k
    · subst e
      rw [if_pos rfl, if_pos rfl, if_pos rfl]
      obtain ⟨z1, z2⟩ := and1_013 b2
      refine ⟨by rw [z1]; exact b1, z2.elim Or.inl (fun h => Or.inr (Or.inl h)), fun h9 => ?_, fun h9 => absurd h9 (by decide), fun h9 => b5 (z1.mp h9), fun h9 => ⟨?_, (b6 h9).2⟩⟩
      · rcases z2 with z | z
        · rw [z] at h9; exact absurd h9 (by decide)
        · rw [z] at h9; exact absurd h9 (by decide)
      · rw [if_pos h9]
        exact ⟨fun _ => z2.resolve_left (fun h8 => b1.mp h9 (z1.mp h8)), fun _ => rfl⟩
    · rw [if_neg e, if_neg e, if_neg e]
      exact ⟨b1, b2, b3, b4, b5, b6⟩
  · obtain ⟨b1, b2, b3⟩ := hN.1 i h1 h2
    refine ⟨b1, ?_, b3⟩
    show st1 S 22 k _ 22 i = 0
    rw [st1_if, if_neg (by omega)]
    exact b2
end
theorem tse_at (j : Nat) (T : am_T) (i : Nat) : ∀ L, L ≤ 10 → itN (tse j) T L 35 i = if 10 * j ≤ i ∧ i < 10 * j + L ∧ bt (T 36 j) (i - 10 * j) = true then T 35 i + 1 else T 35 i := by
  intro L
  induction L with
  | zero => intro _; rw [if_neg (by omega)]; rfl
  | succ L ih =>
    intro hL
    have h36 : itN (tse j) T L 36 = T 36 := itN_f (F := tse j) 36 (fun k S => tse_f (by decide)) T L
    show tse j L (itN (tse j) T L) 35 i = _
    have ih := ih (by omega)
    generalize hG : itN (tse j) T L = G at h36 ih ⊢
    unfold tse
    rw [h36]
    by_cases hb : bt (T 36 j) L = true
    · rw [if_pos hb, st1_if]
      by_cases e : i = 10 * j + L
      · have e5 : G 35 i = T 35 i := by rw [ih, if_neg (by omega)]
        rw [if_pos e, ← e, e5, if_pos ⟨by omega, by omega, by rw [show i - 10 * j = L by omega]; exact hb⟩]
      · rw [if_neg e, ih]
        by_cases e2 : 10 * j ≤ i ∧ i < 10 * j + L ∧ bt (T 36 j) (i - 10 * j) = true
        · rw [if_pos e2, if_pos ⟨e2.1, by omega, e2.2.2⟩]
        · rw [if_neg e2, if_neg (fun h => e2 ⟨h.1, by omega, h.2.2⟩)]
    · rw [if_neg hb, ih]
      by_cases e2 : 10 * j ≤ i ∧ i < 10 * j + L ∧ bt (T 36 j) (i - 10 * j) = true
      · rw [if_pos e2, if_pos ⟨e2.1, by omega, e2.2.2⟩]
      · rw [if_neg e2, if_neg (fun h => e2 ⟨h.1, (by
          by_cases e : i = 10 * j + L
          · rw [show i - 10 * j = L by omega] at h
            exact absurd h.2.2 hb
          · omega), h.2.2⟩)]
theorem settle_f {g : Nat} (h35 : g ≠ 35) (h36 : g ≠ 36) (T : am_T) (v : Nat) : tSettle T v g = T g := itN_f (F := tss) g (fun k S => tSet_f h35 h36) T v
theorem settle_at (T : am_T) : ∀ (v i : Nat), (tSettle T v 36 i = if i < v then 0 else T 36 i) ∧ ∀ l, l < 10 → tSettle T v 35 (10 * i + l) = if i < v ∧ bt (T 36 i) l = true then T 35 (10 * i + l) + 1 else T 35 (10 * i + l) := by
  intro v
  induction v with
  | zero =>
    intro i
    refine ⟨?_, fun l hl => ?_⟩
    · rw [if_neg (by omega)]; rfl
    · rw [if_neg (fun h => absurd h.1 (by omega))]; rfl
  | succ v ih =>
    intro i
    have e36 : ∀ j, itN (tse v) (tSettle T v) 10 36 j = tSettle T v 36 j := fun j => congrFun (itN_f (F := tse v) 36 (fun k S => tse_f (by decide)) (tSettle T v) 10) j
    refine ⟨?_, fun l hl => ?_⟩
    · show st1 (itN (tse v) (tSettle T v) 10) 36 v 0 36 i = _
      rw [st1_if]
      by_cases e : i = v
      · rw [if_pos e, if_pos (by omega)]
      · rw [if_neg e, e36, (ih i).1]
        by_cases e2 : i < v
        · rw [if_pos e2, if_pos (by omega)]
        · rw [if_neg e2, if_neg (by omega)]
    · show st1 (itN (tse v) (tSettle T v) 10) 36 v 0 35 (10 * i + l) = _
      rw [st1_f (show 35 ≠ 36 by decide), tse_at v _ _ 10 (Nat.le_refl 10), (ih v).1, if_neg (show ¬ v < v by omega), (ih i).2 l hl]
      by_cases e : i = v
      · subst e
        rw [if_neg (show ¬ (i < i ∧ bt (T 36 i) l = true) from fun h => absurd h.1 (by omega)), show 10 * i + l - 10 * i = l by omega]
        by_cases hb : bt (T 36 i) l = true
        · rw [if_pos ⟨by omega, by omega, hb⟩, if_pos ⟨by omega, hb⟩]
        · rw [if_neg (fun h => hb h.2.2), if_neg (fun h => hb h.2)]
      · rw [if_neg (fun h => e (by omega))]
        by_cases hb : i < v ∧ bt (T 36 i) l = true
        · rw [if_pos hb, if_pos ⟨by omega, hb.2⟩]
        · rw [if_neg hb, if_neg (fun h => hb ⟨by omega, h.2⟩)]

section
variable {T S : am_T} {o : Nat → Int64} {n m v t c k p : Nat}
/-- what comes late is settled; the call is over -/
theorem q_settle (h : qJ T S o n m v t c) (hc : c ≤ 100) (hV : qV T S m) : qR (tSettle T v) S o n m v t (c + 1) := by
  obtain ⟨⟨hA, hP, hL, hJ, hM, hF, hK, hQ, hN⟩, hD⟩ := h
  have f : ∀ {g}, g ≠ 35 ∧ g ≠ 36 → tSettle T v g = T g := fun h => settle_f h.1 h.2 T v
  refine ⟨⟨qA_c hA (f (by decide)) (f (by decide)) (f (by decide)) (f (by decide)) (f (by decide)) rfl rfl rfl rfl, qP_c hP (f (by decide)) (f (by decide)) (f (by decide)) (f (by decide)) (f (by decide)) rfl rfl rfl rfl rfl, qL_c hL (f (by decide)) (f (by decide)) (f (by decide)) (f (by decide)) (f (by decide)) rfl rfl rfl rfl rfl, jP_c hJ (f (by decide)) rfl, qM_c hM (f (by decide)) (f (by decide)) rfl rfl, hF, qK_c hK (f (by decide)) (f (by decide)) (f (by decide)) (f (by decide)) (f (by decide)) (f (by decide)) (f (by decide)) (f (by decide)) (f (by decide)) (f (by decide)) rfl rfl rfl rfl rfl rfl rfl rfl rfl, qQ_c hQ (f (by decide)) (f (by decide)) (f (by decide)) (f (by decide)) (f (by decide)) rfl rfl rfl rfl rfl, qN_c hN (f (by decide)) rfl rfl rfl rfl⟩, ⟨fun j hj => ?_, ?_, ?_, ?_⟩, qV_c hV (f (by decide)) (f (by decide)) rfl⟩
  · obtain ⟨d, hd, g33, g37, g⟩ := hD.1 j hj
    refine ⟨d, hd, by rw [f (by decide)]; exact g33, by rw [f (by decide)]; exact g37, fun l hl => ?_⟩
    obtain ⟨r34, ⟨e, he, r35, r40, re0, ret⟩, r36, r36b⟩ := g l hl
    obtain ⟨s36, s35⟩ := settle_at T v j
    have s35 := s35 l (by omega)
    rw [f (show 34 ≠ 35 ∧ 34 ≠ 36 by decide), s35, s36, if_pos hj, b_0]
    refine ⟨r34, ?_, ⟨fun h9 => (by cases h9), fun h9 => h9.elim⟩, fun h9 => (by cases h9)⟩
    by_cases h9 : bt (T 36 j) l = true
    · rw [if_pos ⟨hj, h9⟩, r35]
      obtain ⟨u1, u2⟩ := r36b h9
      refine ⟨e + 1, by omega, by rw [nI_1], ?_, fun h8 => absurd h8 u1, fun h8 => absurd h8 u2⟩
      rw [r40, if_pos h9]
      rfl
    · rw [if_neg (fun h8 => h9 h8.2), r35]
      refine ⟨e, by omega, rfl, ?_, re0, ret⟩
      rw [r40, if_neg h9]
      rfl
  · rw [f (by decide)]; exact hD.2.1
  · rw [f (by decide)]; exact hD.2.2.1
  · rw [f (by decide)]; exact hD.2.2.2
/-- nothing came late: the call is over -/
theorem q_rest (h : qJ T S o n m v t c) (hV : qV T S m) (h36 : ∀ j, j < v → ∀ l, l < 4 → ¬ bt (T 36 j) l = true) : qR T S o n m v t (c + 1) := by
  obtain ⟨⟨hA, hP, hL, hJ, hM, hF, hK, hQ, hN⟩, hD⟩ := h
  refine ⟨⟨hA, hP, hL, hJ, hM, hF, hK, hQ, hN⟩, ⟨fun j hj => ?_, hD.2⟩, hV⟩
  obtain ⟨d, hd, g33, g37, g⟩ := hD.1 j hj
  refine ⟨d, hd, g33, g37, fun l hl => ?_⟩
  obtain ⟨r34, ⟨e, he, r35, r40, re0, ret⟩, r36, r36b⟩ := g l hl
  exact ⟨r34, ⟨e, by omega, r35, r40, re0, ret⟩, ⟨fun h9 => absurd h9 (h36 j hj l hl), fun h9 => h9.elim⟩, r36b⟩
/-- a call begins: the last row is new -/
theorem q_begin (h : qR T S o n m v t c) : qJ T (z90 S) o n m v t c ∧ qV T (z90 S) m := by
  obtain ⟨⟨hA, hP, hL, hJ, hM, hF, hK, hQ, hN⟩, hD, hV⟩ := h
  refine ⟨⟨⟨qA_c hA rfl rfl rfl rfl rfl rfl rfl rfl rfl, qP_m (qP_c hP rfl rfl rfl rfl rfl rfl rfl rfl rfl rfl) (Nat.le_refl m) (Nat.le_succ c), qL_c hL rfl rfl rfl rfl rfl rfl rfl rfl rfl rfl, jP_c hJ rfl rfl, qM_c hM rfl rfl rfl rfl, qF_c hF rfl rfl rfl rfl rfl, qK_c hK rfl rfl rfl rfl rfl rfl rfl rfl rfl rfl rfl rfl rfl rfl rfl rfl rfl rfl rfl, qQ_c hQ rfl rfl rfl rfl rfl rfl rfl rfl rfl rfl, qN_c hN rfl rfl rfl rfl rfl⟩, ⟨fun j hj => ?_, hD.2⟩⟩, qV_c hV rfl rfl rfl⟩
  obtain ⟨d, hd, g33, g37, g⟩ := hD.1 j hj
  refine ⟨d, hd, g33, g37, fun l hl => ?_⟩
  obtain ⟨r34, r35, r36, r36b⟩ := g l hl
  refine ⟨r34, r35, ?_, r36b⟩
  rw [r36]
  show False ↔ bt 0 d = true
  rw [b_0]
  exact ⟨False.elim, fun h9 => by cases h9⟩
end
