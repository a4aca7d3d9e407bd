/-! pure: a mail's passing whole; the court's clearing; the editions settled -/
def jMid (T S : am_T) (n m v t c : Nat) : Prop := jB T S n m v t c ∧ jD T S n v t c (fun l d => ¬ d = t ∧ S 35 (401 * l + d) = nI c)
section
variable {T S : am_T} {n m v t c k p : Nat}
/-- the step of one person -/
theorem jJ_step (h : jJ T S n m v t c k) (hk : k < m) (hp : p < 16) {l : Nat} (hl : l < n) (h19 : S 19 k = nI l) {set setR : Int32} (e1 : set = tDown T n l) (e2 : setR >>> (nI p &&& 31) &&& 1 = 1 ↔ ¬ rMB S n l p (-1) = -1) : jJ (tdl n k set p T) (rps n l k setR p S) n m v t c k := by
  have hJ := h
  obtain ⟨⟨hA, hW, hL, hP, hM, hF, hK, hQ, hN⟩, hD, h24, hI⟩ := h
  have hn10 := hA.2.2.1
  have hkk := hK k hk
  obtain ⟨d, hd, e20⟩ := hkk.2.2.2.2.2.2.1
  obtain ⟨-, -, -, -, w8, b, hb10, hb⟩ := hW.1 p hp
  unfold tdl rps
  rw [hkk.2.1]
  by_cases hs : nI p = S 18 k
  · rw [if_pos hs, if_pos hs]; exact hJ
  rw [if_neg hs, if_neg hs]
  have hlow := low_eq hP hM hl hp
  have hmode := mode_eq hP hM hl hp
  rw [← e1] at hlow hmode
  by_cases h1 : tLow T n set p = -1
  · rw [tTo_none h1, if_neg (fun e => (e2.mp e) (hlow.trans h1))]
    exact hJ
  rw [if_pos (e2.mpr (fun e => h1 (hlow.symm.trans e)))]
  by_cases h2 : tMode T n set p = 1
  · obtain ⟨q, hq, eq⟩ := tLow_in h1
    rw [tTo_dig eq (by omega) h2, if_neg (by rw [hmode, h2]; decide), hlow, eq, nI_clamp (by omega), e20, nI_clamp (by have := hA.2.2.2.2.2.2.2.2.2.2.1; omega)]
    exact jJ_dig hJ hk hp hq e20 hd
  · have h0 : tMode T n set p = 0 := by
      unfold tMode at h2 ⊢
      rw [if_neg h1] at h2 ⊢
      by_cases h9 : tlo (tDir T set p) n = -1
      · rw [if_pos h9] at h2; exact absurd rfl h2
      · rw [if_neg h9]
    rw [if_pos (hmode.trans h0), hb, nI_clamp (by omega)]
    by_cases h10 : b < 10
    · rw [tTo_box h1 h2 (by rw [w8, hb]; exact nI_lt (b := 10) h10 (by decide))]
      exact jJ_box hJ hk hp hb h10
    · have e10 : b = 10 := by omega
      subst e10
      rw [tTo_bnc h1 h2 (by rw [w8, hb]; decide)]
      have e : rBox S n k p 10 = rOne S n p := by
        unfold rBox
        rw [if_pos (show nI 10 = 10 from rfl)]
      rw [e]
      exact jJ_bnc hJ hp
theorem rPass_f2 {l g : Nat} (h : g ≠ 6 ∧ g ≠ 16 ∧ g ≠ 7 ∧ g ≠ 8 ∧ g ≠ 25 ∧ g ≠ 31 ∧ g ≠ 32 ∧ g ≠ 33 ∧ g ≠ 34 ∧ g ≠ 35) (h24 : g ≠ 24) : rPass S n k l g = S g := by
  unfold rPass
  rw [itN_f (F := rps n l k _) g (fun i S => rps_f h), st1_f h24]
theorem jJ_it (h : jJ T S n m v t c k) (hk : k < m) {l : Nat} (hl : l < n) (h19 : S 19 k = nI l) : ∀ i, i ≤ 16 → jJ (itN (tdl n k (tDown T n l)) T i) (itN (rps n l k (rRe S n l)) S i) n m v t c k ∧ itN (tdl n k (tDown T n l)) T i 13 = T 13 ∧ rMm (itN (rps n l k (rRe S n l)) S i) S ∧ itN (rps n l k (rRe S n l)) S i 19 = S 19
  | 0, _ => ⟨h, rfl, ⟨rfl, fun _ => Iff.rfl⟩, rfl⟩
  | i + 1, hi => by
    obtain ⟨h1, h2, h3, h4⟩ := jJ_it h hk hl h19 i (by omega)
    have hi16 : i < 16 := by omega
    have e1 : tDown T n l = tDown (itN (tdl n k (tDown T n l)) T i) n l := by
      have : td1 (itN (tdl n k (tDown T n l)) T i) = td1 T := by
        funext a s
        unfold td1
        rw [h2]
      show _ = itN (fun _ s => itN (td1 (itN (tdl n k (tDown T n l)) T i)) s n) _ n
      rw [this]
      rfl
    refine ⟨jJ_step h1 hk hi16 hl (by rw [h4]; exact h19) e1 ?_, ?_, ⟨?_, fun j => ?_⟩, ?_⟩
    · rw [bt_iff (by omega), rRe_bit S n l hi16, decide_eq_true_eq, rMB_c h3]
    · show tdl n k _ i _ 13 = _
      rw [tdl_f (by decide)]; exact h2
    · show rps n l k _ i _ 15 = _
      rw [rps_f (by decide)]; exact h3.1
    · exact (rps_m _ _ _ _ _ _ j).trans (h3.2 j)
    · show rps n l k _ i _ 19 = _
      rw [rps_f (by decide)]; exact h4
/-- a held mail's appeal is closed, the mail is 'passed' -/
theorem jJ_start (h : jMid T S n m v t c) (hk : k < m) (h24 : S 24 k = 1) : jJ (st1 (tClose T k) 25 k 0) (st1 (st1 S 27 k 0) 24 k 0) n m v t c k := by
  obtain ⟨⟨hA, hW, hL, hP, hM, hF, hK, hQ, hN⟩, hD⟩ := h
  refine ⟨⟨jA_c hA rfl rfl rfl rfl rfl rfl rfl rfl rfl rfl, jW_c hW rfl rfl rfl rfl rfl rfl rfl rfl rfl rfl, jL_c hL rfl rfl rfl rfl rfl rfl rfl rfl rfl rfl, jP_c hP rfl rfl, jM_c hM rfl rfl rfl, jF_c hF rfl rfl rfl, ?_, ?_, ?_⟩, jD_c hD rfl rfl rfl rfl rfl rfl rfl rfl rfl, st1_same _ _ _ _, ?_⟩
  · intro i hi
    obtain ⟨b1, b2, b3, b4, b5, b6, b7, b8, b9, b10, ⟨e, he, b11, b12⟩, b13, b14, b15, b16⟩ := hK i hi
    have e24 : st1 (st1 S 27 k 0) 24 k 0 24 i = if i = k then 0 else S 24 i := st1_if _ _ _ _ _
    have e25 : st1 (tClose T k) 25 k 0 25 i = if i = k then 0 else T 25 i := st1_if _ _ _ _ _
    refine ⟨b1, b2, b3, b4, b5, b6, b7, b8, b9, b10, ⟨e, he, b11, fun h1 => ?_⟩, ?_, b14, b15, fun h1 => ?_⟩
    · rw [e24] at h1
      by_cases e9 : i = k
      · rw [if_pos e9] at h1; exact absurd h1 (by decide)
      · rw [if_neg e9] at h1; exact b12 h1
    · rw [e24, e25, b13]
    · rw [e24] at h1
      by_cases e9 : i = k
      · rw [if_pos e9] at h1; exact absurd h1 (by decide)
      · rw [if_neg e9] at h1; exact b16 h1
  · intro i hi
    obtain ⟨q1, q2, q3, q5, q4⟩ := hQ i hi
    have e24 : st1 (st1 S 27 k 0) 24 k 0 24 i = if i = k then 0 else S 24 i := st1_if _ _ _ _ _
    have e27 : st1 (st1 S 27 k 0) 24 k 0 27 i = if i = k then 0 else S 27 i := (congrFun (st1_f (show 27 ≠ 24 by decide)) i).trans (st1_if S 27 k 0 i)
    have e32 : st1 (tClose T k) 25 k 0 32 i = if i = k then (if T 28 k = 1 then 0 else T 32 k) else T 32 i := (congrFun (st1_f (show 32 ≠ 25 by decide)) i).trans (st1_if T 32 k _ i)
    show (T 28 i = 1 ↔ ¬ S 26 i = 0) ∧ (¬ _ = 0 → _ = 1 ∧ ¬ S 26 i = 0) ∧ (_ = 1 → ¬ S 26 i = 0 → ¬ _ = 0) ∧ (S 26 i = 0 → S 29 i = 0 ∧ S 30 i = 0) ∧ (T 28 i = 1 → (_ = 0 ↔ _ = 0) ∧ S 28 i = T 29 i &&& (T 30 i ^^^ (-1)) &&& (T 31 i ^^^ (-1)) ∧ bd 16 (T 29 i) ∧ bd 16 (T 30 i) ∧ bd 16 (T 31 i) ∧ S 29 i = nI (cb (T 30 i) 16) ∧ S 30 i = nI (cb (T 31 i) 16))
    rw [e24, e27, e32]
    by_cases e9 : i = k
    · subst e9
      rw [if_pos rfl, if_pos rfl, if_pos rfl]
      refine ⟨q1, fun h => absurd rfl h, fun h => absurd h (by decide), q5, fun h => ⟨?_, (q4 h).2⟩⟩
      rw [if_pos h]
    · rw [if_neg e9, if_neg e9, if_neg e9]
      exact ⟨q1, q2, q3, q5, q4⟩
  · intro i hi hi9
    obtain ⟨b1, b2, b3, b4, b5, b6, b7⟩ := hN i hi hi9
    refine ⟨b1, b2, b3, ?_, b5, b6, b7⟩
    show st1 S 27 k 0 27 i = 0
    rw [st1_if, if_neg (by omega)]; exact b4
  · intro l d hl _ _ h31
    exact absurd ((hK k hk).2.2.2.2.2.2.2.2.2.2.2.2.2.2 h24 l hl) h31
theorem mid_pass (h : jMid T S n m v t c) (hk : k < m) (h24 : S 24 k = 1) : jMid (tDel (tClose T k) n k) (rPass (st1 S 27 k 0) n k (S 19 k).toNatClampNeg) n m v t c := by
  have hs := jJ_start h hk h24
  obtain ⟨⟨hA, hW, hL, hP, hM, hF, hK, hQ, hN⟩, hD⟩ := h
  obtain ⟨l, hl, e19⟩ := (hK k hk).2.2.2.2.1
  have e20 : tClose T k 20 k = nI l := by
    show T 20 k = _
    rw [(hK k hk).2.2.2.1]; exact e19
  have hn10 := hA.2.2.1
  obtain ⟨h1, -⟩ := jJ_it hs hk hl e19 16 (Nat.le_refl 16)
  unfold tDel rPass
  rw [e20, e19, nI_clamp (by omega)]
  exact ⟨h1.1, h1.2.1⟩
theorem tClose_id (hQ : jQ T S m) (hk : k < m) (ho : S 27 k = 0) : tClose T k = T := by
  unfold tClose
  by_cases h : T 28 k = 1
  · have h1 := ((hQ k hk).2.2.2.2 h).1.mpr ho
    rw [if_pos h, ← h1]
    exact st1_id _ _ _
  · rw [if_neg h]
    exact st1_id _ _ _
/-- a call begins that may pass mails -/
theorem mid_of {T' S' : am_T} (h : jR T S n m v t c) (hc : c < 2 ^ 20) (hT : ∀ g, T' g = T g) (hS : ∀ g, g ≠ 0 → g ≠ 2 → S' g = S g) (h2 : S' 2 0 = nI (c + 1)) : jMid T' S' n m v t (c + 1) := by
  have eT : T' = T := funext hT
  subst eT
  have s : ∀ {g}, g ≠ 0 ∧ g ≠ 2 → S' g = S g := fun h => hS _ h.1 h.2
  obtain ⟨⟨hA, hW, hL, hP, hM, hF, hK, hQ, hN⟩, hD, hV⟩ := h
  obtain ⟨a1, a2, a3, a4, a5, a6, a7, a8, a9, a10, a11, a12, a13⟩ := hA
  refine ⟨⟨⟨a1, by rw [s (by decide)]; exact a2, a3, a4, by rw [s (by decide)]; exact a5, a6, a7, a8, a9, by rw [s (by decide)]; exact a10, a11, h2, by rw [s (show 3 ≠ 0 ∧ 3 ≠ 2 by decide)]; exact a13⟩, jW_c hW rfl rfl rfl rfl rfl (s (by decide)) (s (by decide)) (s (by decide)) (s (by decide)) (s (by decide)), jL_c hL rfl rfl rfl rfl rfl (s (by decide)) (s (by decide)) (s (by decide)) (s (by decide)) (s (by decide)), jP_c hP rfl (s (by decide)), jM_c hM rfl rfl (s (by decide)), jF_c hF (s (by decide)) (s (by decide)) (s (by decide)), jK_c hK rfl rfl rfl rfl rfl rfl rfl rfl rfl rfl rfl (s (by decide)) (s (by decide)) (s (by decide)) (s (by decide)) (s (by decide)) (s (by decide)) (s (by decide)) (s (by decide)) (s (by decide)) (s (by decide)), jQ_c hQ rfl rfl rfl rfl rfl (s (by decide)) (s (by decide)) (s (by decide)) (s (by decide)) (s (by decide)) (s (by decide)), jN_c hN rfl (s (by decide)) (s (by decide)) (s (by decide)) (s (by decide)) (s (by decide)) (s (by decide))⟩, ?_⟩
  obtain ⟨d1, d2, d3⟩ := jD_c (T' := T') (S' := S') hD rfl rfl rfl rfl rfl (s (by decide)) (s (by decide)) (s (by decide)) (s (by decide))
  refine ⟨fun j hj => ?_, d2, fun l d hl hd => ?_⟩
  · obtain ⟨d, hd, e1, e2, e3⟩ := d1 j hj
    refine ⟨d, hd, e1, e2, fun l hl => ?_⟩
    obtain ⟨f1, f2, f3⟩ := e3 l hl
    refine ⟨f1, f2, fun h => absurd (f3.mp h) id, fun h => ?_⟩
    obtain ⟨-, -, -, -, c', hc', g⟩ := d3 l d hl (by omega)
    have h : ¬ d = t ∧ S' 35 (401 * l + d) = nI (c + 1) := h
    rw [g] at h
    have := (nI_eq (by omega) (by omega)).mp h.2
    omega
  · obtain ⟨g1, g2, g3, g4, c', hc', g5⟩ := d3 l d hl hd
    exact ⟨g1, g2, g3, g4, c', by omega, g5⟩
-- the editions settled
theorem tse_at (j : Nat) (T : am_T) (i : Nat) : ∀ L, L ≤ 10 → itN (tse j) T L 35 i = if 10 * j ≤ i ∧ i < 10 * j + L ∧ bt (T 36 j) (i - 10 * j) = true then T 35 i + 1 else T 35 i := by
  intro L
  induction L with
  | zero => intro _; rw [if_neg (by omega)]; rfl
  | succ L ih =>
    intro hL
    have h36 : itN (tse j) T L 36 = T 36 := itN_f (F := tse j) 36 (fun k S => tse_f (by decide)) T L
    show tse j L (itN (tse j) T L) 35 i = _
    have ih := ih (by omega)
    generalize hG : itN (tse j) T L = G at h36 ih ⊢
    unfold tse
    rw [h36]
    by_cases hb : bt (T 36 j) L = true
    · rw [if_pos hb, st1_if]
      by_cases e : i = 10 * j + L
      · have e5 : G 35 i = T 35 i := by rw [ih, if_neg (by omega)]
        rw [if_pos e, ← e, e5, if_pos ⟨by omega, by omega, by rw [show i - 10 * j = L by omega]; exact hb⟩]
      · rw [if_neg e, ih]
        by_cases e2 : 10 * j ≤ i ∧ i < 10 * j + L ∧ bt (T 36 j) (i - 10 * j) = true
        · rw [if_pos e2, if_pos ⟨e2.1, by omega, e2.2.2⟩]
        · rw [if_neg e2, if_neg (fun h => e2 ⟨h.1, by omega, h.2.2⟩)]
    · rw [if_neg hb, ih]
      by_cases e2 : 10 * j ≤ i ∧ i < 10 * j + L ∧ bt (T 36 j) (i - 10 * j) = true
      · rw [if_pos e2, if_pos ⟨e2.1, by omega, e2.2.2⟩]
      · rw [if_neg e2, if_neg (fun h => e2 ⟨h.1, (by
          by_cases e : i = 10 * j + L
          · rw [show i - 10 * j = L by omega] at h
            exact absurd h.2.2 hb
          · omega), h.2.2⟩)]
theorem settle_f {g : Nat} (h35 : g ≠ 35) (h36 : g ≠ 36) (T : am_T) (v : Nat) : tSettle T v g = T g := itN_f (F := tss) g (fun k S => tSet_f h35 h36) T v
theorem settle_at (T : am_T) : ∀ (v i : Nat), (tSettle T v 36 i = if i < v then 0 else T 36 i) ∧ ∀ l, l < 10 → tSettle T v 35 (10 * i + l) = if i < v ∧ bt (T 36 i) l = true then T 35 (10 * i + l) + 1 else T 35 (10 * i + l) := by
  intro v
  induction v with
  | zero =>
    intro i
    refine ⟨?_, fun l hl => ?_⟩
    · rw [if_neg (by omega)]; rfl
    · rw [if_neg (fun h => absurd h.1 (by omega))]; rfl
  | succ v ih =>
    intro i
    have e36 : ∀ j, itN (tse v) (tSettle T v) 10 36 j = tSettle T v 36 j := fun j => congrFun (itN_f (F := tse v) 36 (fun k S => tse_f (by decide)) (tSettle T v) 10) j
    refine ⟨?_, fun l hl => ?_⟩
    · show st1 (itN (tse v) (tSettle T v) 10) 36 v 0 36 i = _
      rw [st1_if]
      by_cases e : i = v
      · rw [if_pos e, if_pos (by omega)]
      · rw [if_neg e, e36, (ih i).1]
        by_cases e2 : i < v
        · rw [if_pos e2, if_pos (by omega)]
        · rw [if_neg e2, if_neg (by omega)]
    · show st1 (itN (tse v) (tSettle T v) 10) 36 v 0 35 (10 * i + l) = _
      rw [st1_f (show 35 ≠ 36 by decide), tse_at v _ _ 10 (Nat.le_refl 10), (ih v).1, if_neg (show ¬ v < v by omega), (ih i).2 l hl]
      by_cases e : i = v
      · subst e
        rw [if_neg (show ¬ (i < i ∧ bt (T 36 i) l = true) from fun h => absurd h.1 (by omega)), show 10 * i + l - 10 * i = l by omega]
        by_cases hb : bt (T 36 i) l = true
        · rw [if_pos ⟨by omega, by omega, hb⟩, if_pos ⟨by omega, hb⟩]
        · rw [if_neg (fun h => hb h.2.2), if_neg (fun h => hb h.2)]
      · rw [if_neg (fun h => e (by omega))]
        by_cases hb : i < v ∧ bt (T 36 i) l = true
        · rw [if_pos hb, if_pos ⟨by omega, hb.2⟩]
        · rw [if_neg hb, if_neg (fun h => hb ⟨by omega, h.2⟩)]
theorem mid_settle (h : jMid T S n m v t c) (hV : jV T S m) : jR (tSettle T v) S n m v t c := by
  obtain ⟨⟨hA, hW, hL, hP, hM, hF, hK, hQ, hN⟩, hD⟩ := h
  have f : ∀ {g}, g ≠ 35 ∧ g ≠ 36 → tSettle T v g = T g := fun h => settle_f h.1 h.2 T v
  refine ⟨⟨jA_c hA (f (by decide)) (f (by decide)) (f (by decide)) (f (by decide)) (f (by decide)) rfl rfl rfl rfl rfl, jW_c hW (f (by decide)) (f (by decide)) (f (by decide)) (f (by decide)) (f (by decide)) rfl rfl rfl rfl rfl, jL_c hL (f (by decide)) (f (by decide)) (f (by decide)) (f (by decide)) (f (by decide)) rfl rfl rfl rfl rfl, jP_c hP (f (by decide)) rfl, jM_c hM (f (by decide)) (f (by decide)) rfl, hF, jK_c hK (f (by decide)) (f (by decide)) (f (by decide)) (f (by decide)) (f (by decide)) (f (by decide)) (f (by decide)) (f (by decide)) (f (by decide)) (f (by decide)) (f (by decide)) rfl rfl rfl rfl rfl rfl rfl rfl rfl rfl, jQ_c hQ (f (by decide)) (f (by decide)) (f (by decide)) (f (by decide)) (f (by decide)) rfl rfl rfl rfl rfl rfl, jN_c hN (f (by decide)) rfl rfl rfl rfl rfl rfl⟩, ⟨fun j hj => ?_, ?_, ?_⟩, jV_c hV (f (by decide)) (f (by decide)) (f (by decide)) rfl⟩
  · obtain ⟨d, hd, e1, e2, e3⟩ := hD.1 j hj
    rw [show tSettle T v 33 = T 33 from f (by decide), show tSettle T v 37 = T 37 from f (by decide), show tSettle T v 34 = T 34 from f (by decide), (settle_at T v j).1, if_pos hj]
    refine ⟨d, hd, e1, e2, fun l hl => ?_⟩
    obtain ⟨f1, f2, f3⟩ := e3 l hl
    rw [(settle_at T v j).2 l hl, b_0]
    refine ⟨f1, ?_, ⟨fun h => (by cases h), fun h => absurd h id⟩⟩
    rw [f2]
    by_cases hb : bt (T 36 j) l = true
    · rw [if_pos hb, if_pos ⟨hj, hb⟩]; exact (Int32.add_zero _).symm
    · rw [if_neg hb, if_neg (fun h => hb h.2)]; rfl
  · rw [show tSettle T v 33 = T 33 from f (by decide)]; exact hD.2.1
  · rw [show tSettle T v 33 = T 33 from f (by decide)]; exact hD.2.2
/-- nothing late: nothing to settle -/
theorem mid_rest (h : jMid T S n m v t c) (hV : jV T S m) (h36 : ∀ j, j < v → ∀ l, l < 10 → bt (T 36 j) l = false) : jR T S n m v t c := by
  obtain ⟨hB, hD⟩ := h
  refine ⟨hB, ⟨fun j hj => ?_, hD.2⟩, hV⟩
  obtain ⟨d, hd, e1, e2, e3⟩ := hD.1 j hj
  refine ⟨d, hd, e1, e2, fun l hl => ?_⟩
  obtain ⟨f1, f2, f3⟩ := e3 l hl
  refine ⟨f1, f2, ⟨fun h => ?_, fun h => absurd h id⟩⟩
  rw [h36 j hj l hl] at h
  cases h
-- the court clears
theorem jB_5 (h : jMid T S n m v t c) (hp : p < 16) (x : Int32) : jMid (st1 T 5 p x) (st1 S 4 p x) n m v t c := by
  obtain ⟨⟨hA, hW, hL, hP, hM, hF, hK, hQ, hN⟩, hD⟩ := h
  refine ⟨⟨jA_c hA rfl rfl rfl rfl rfl rfl rfl rfl rfl rfl, ⟨fun q hq => ?_, hW.2⟩, jL_c hL rfl rfl rfl rfl rfl rfl rfl rfl rfl rfl, jP_c hP rfl rfl, jM_c hM rfl rfl rfl, jF_c hF rfl rfl rfl, jK_c hK rfl rfl rfl rfl rfl rfl rfl rfl rfl rfl rfl rfl rfl rfl rfl rfl rfl rfl rfl rfl rfl, jQ_c hQ rfl rfl rfl rfl rfl rfl rfl rfl rfl rfl rfl, jN_c hN rfl rfl rfl rfl rfl rfl rfl⟩, jD_c hD rfl rfl rfl rfl rfl rfl rfl rfl rfl⟩
  obtain ⟨a1, a2⟩ := hW.1 q hq
  refine ⟨?_, a2⟩
  rw [st1_if, st1_if, a1]
theorem clr_it {c0 : Nat} (h : jMid T S n m v t c) (hc0 : c0 < m) (h24 : S 24 c0 = 1) : ∀ i, i ≤ m → jMid (itN (tClr n c0) T i) (itN (rcl n c0) S i) n m v t c ∧ (∀ k, i ≤ k → itN (rcl n c0) S i 24 k = S 24 k) ∧ (∀ k, itN (rcl n c0) S i 27 k = S 27 k ∨ itN (rcl n c0) S i 27 k = 0) ∧ (c0 < i → itN (rcl n c0) S i 27 c0 = 0) ∧ itN (rcl n c0) S i 18 = S 18 ∧ itN (rcl n c0) S i 23 = S 23
  | 0, _ => ⟨h, fun _ _ => rfl, fun _ => Or.inl rfl, fun h => absurd h (by omega), rfl, rfl⟩
  | i + 1, hi => by
    obtain ⟨h1, h2, h3, h4, h5, h6⟩ := clr_it h hc0 h24 i (by omega)
    show jMid (tClr n c0 i (itN (tClr n c0) T i)) (rcl n c0 i (itN (rcl n c0) S i)) n m v t c ∧ (∀ k, _ → rcl n c0 i (itN (rcl n c0) S i) 24 k = _) ∧ (∀ k, rcl n c0 i (itN (rcl n c0) S i) 27 k = _ ∨ rcl n c0 i (itN (rcl n c0) S i) 27 k = 0) ∧ (_ → rcl n c0 i (itN (rcl n c0) S i) 27 c0 = 0) ∧ rcl n c0 i (itN (rcl n c0) S i) 18 = _ ∧ rcl n c0 i (itN (rcl n c0) S i) 23 = _
    have e24 := h2 i (Nat.le_refl i)
    have e24c : i ≤ c0 → itN (rcl n c0) S i 24 c0 = S 24 c0 := h2 c0
    generalize itN (tClr n c0) T i = T1 at h1 ⊢
    generalize itN (rcl n c0) S i = S1 at h1 h2 h3 h4 h5 h6 e24 e24c ⊢
    have hm80 : m ≤ 80 := h1.1.1.2.2.2.2.2.1
    have hKi := h1.1.2.2.2.2.2.2.1 i (by omega)
    have hKc := h1.1.2.2.2.2.2.2.1 c0 hc0
    have hcond : (i = c0 ∨ (T1 19 i = T1 19 c0 ∧ T1 25 i = 1 ∧ T1 23 i = 2)) ↔ (nI i = nI c0 ∨ (S1 18 i = S1 18 c0 ∧ S1 24 i = 1 ∧ S1 23 i = 2)) := by
      rw [nI_eq (by omega) (by omega), hKi.2.1, hKc.2.1, hKi.2.2.2.2.2.2.2.2.2.2.2.1, hKi.2.2.2.2.2.2.2.2.1]
    unfold tClr rcl
    by_cases hg : i = c0 ∨ (T1 19 i = T1 19 c0 ∧ T1 25 i = 1 ∧ T1 23 i = 2)
    · rw [if_pos hg, if_pos (hcond.mp hg)]
      have hst : S1 24 i = 1 := by
        rcases hg with e | e
        · subst e; rw [e24]; exact h24
        · rw [← hKi.2.2.2.2.2.2.2.2.2.2.2.1]; exact e.2.1
      have f : ∀ {g}, (g ≠ 6 ∧ g ≠ 16 ∧ g ≠ 7 ∧ g ≠ 8 ∧ g ≠ 25 ∧ g ≠ 31 ∧ g ≠ 32 ∧ g ≠ 33 ∧ g ≠ 34 ∧ g ≠ 35) ∧ g ≠ 24 → rPass (st1 S1 27 i 0) n i (S1 19 i).toNatClampNeg g = st1 S1 27 i 0 g := fun h => rPass_f2 h.1 h.2
      have f24 : ∀ k, k ≠ i → rPass (st1 S1 27 i 0) n i (S1 19 i).toNatClampNeg 24 k = S1 24 k := fun k hk => by
        unfold rPass
        rw [itN_f (F := rps n _ i _) 24 (fun i S => rps_f (by decide)), st1_j hk]
        rfl
      refine ⟨mid_pass h1 (by omega) hst, fun k hk => ?_, fun k => ?_, fun hk => ?_, ?_, ?_⟩
      · rw [f24 k (by omega)]; exact h2 k (by omega)
      · rw [f (by decide), st1_if]
        by_cases e : k = i
        · rw [if_pos e]; exact Or.inr rfl
        · rw [if_neg e]; exact h3 k
      · rw [f (by decide), st1_if]
        by_cases e : c0 = i
        · rw [if_pos e]
        · rw [if_neg e]; exact h4 (by omega)
      · rw [f (by decide)]; exact h5
      · rw [f (by decide)]; exact h6
    · rw [if_neg hg, if_neg (fun h => hg (hcond.mpr h))]
      refine ⟨h1, fun k hk => h2 k (by omega), h3, fun hk => ?_, h5, h6⟩
      exact h4 (by
        have : ¬ i = c0 := fun e => hg (Or.inl e)
        omega)
end
