/-! pure: a mail passes, in both -/
theorem st1_if (S : am_T) (f j : Nat) (v : Int32) (i : Nat) : st1 S f j v f i = if i = j then v else S f i := by
  by_cases e : i = j
  · subst e; rw [st1_same, if_pos rfl]
  · rw [st1_j e, if_neg e]
def jJ (T S : am_T) (n m v t c k : Nat) : Prop := jB T S n m v t c ∧ jD T S n v t c (fun l d => ¬ d = t ∧ S 35 (401 * l + d) = nI c) ∧ S 24 k = 0 ∧ ∀ l d, l < 10 → S 20 k = nI d → d ≤ t → ¬ S 31 (10 * k + l) = 0 → d = t ∨ S 35 (401 * l + d) = nI c
section
variable {T S : am_T} {n m v t c k p : Nat}
/-- a place of T and S changed alike -/
theorem jK_26 (hK : jK T S n m v t) (x : Int32) (hx : T 26 k ||| x = S 25 k ||| x) {T' S' : am_T} (t26 : T' 26 = st1 T 26 k (T 26 k ||| x) 26) (s25 : S' 25 = st1 S 25 k (S 25 k ||| x) 25) (t18 : T' 18 = T 18) (t19 : T' 19 = T 19) (t20 : T' 20 = T 20) (t21 : T' 21 = T 21) (t22 : T' 22 = T 22) (t23 : T' 23 = T 23) (t24 : T' 24 = T 24) (t25 : T' 25 = T 25) (t27 : T' 27 = T 27) (t33 : T' 33 = T 33) (s18 : S' 18 = S 18) (s19 : S' 19 = S 19) (s20 : S' 20 = S 20) (s21 : S' 21 = S 21) (s22 : S' 22 = S 22) (s23 : S' 23 = S 23) (s24 : S' 24 = S 24) (s26 : S' 26 = S 26) (s31 : S' 31 = S 31) : jK T' S' n m v t := by
  intro i hi
  obtain ⟨b1, b2, b3, b4, b5, b6, b7, b8, b9, b10, b11, b12, b13, b14, b15⟩ := hK i hi
  rw [t26, s25, t18, t19, t20, t21, t22, t23, t24, t25, t27, t33, s18, s19, s20, s21, s22, s23, s24, s26, s31]
  refine ⟨b1, b2, b3, b4, b5, b6, b7, b8, b9, b10, b11, b12, ?_, b14, b15⟩
  rw [st1_at, st1_at]
  by_cases e : i = k
  · rw [if_pos ⟨rfl, e⟩, if_pos ⟨rfl, e⟩]; exact hx
  · rw [if_neg (fun e9 => e e9.2), if_neg (fun e9 => e e9.2)]; exact b13
theorem jN_25 (hN : jN T S m) (hk : k < m) {S' : am_T} {x : Int32} (s25 : S' 25 = st1 S 25 k x 25) (s26 : S' 26 = S 26) (s27 : S' 27 = S 27) (s29 : S' 29 = S 29) (s30 : S' 30 = S 30) (s31 : ∀ i l, m ≤ i → l < 10 → S' 31 (10 * i + l) = S 31 (10 * i + l)) {T' : am_T} (t28 : T' 28 = T 28) : jN T' S' m := by
  intro i hi hi9
  obtain ⟨b1, b2, b3, b4, b5, b6, b7⟩ := hN i hi hi9
  rw [s25, s26, s27, s29, s30, t28, st1_at, if_neg (show ¬ (25 = 25 ∧ i = k) by omega)]
  exact ⟨b1, b2, b3, b4, b5, b6, fun l hl => by rw [s31 i l hi hl]; exact b7 l hl⟩
/-- into the box -/
theorem jJ_box (h : jJ T S n m v t c k) (hk : k < m) (hp : p < 16) {b : Nat} (hb : S 7 p = nI b) (hb10 : b < 10) : jJ (tBox T k p) (rBox S n k p b) n m v t c k := by
  obtain ⟨⟨hA, hW, hL, hP, hM, hF, hK, hQ, hN⟩, hD, h24, hI⟩ := h
  have hne : ¬ nI b = 10 := fun e => by
    have : b = 10 := (nI_eq (a := b) (b := 10) (by omega) (by decide)).mp e
    omega
  have e1 : rBox S n k p b = st1 (st1 (st1 S 8 (10 * p + b) (nI k)) 7 p (nI b + 1)) 25 k (S 25 k ||| (1 : Int32) <<< (nI p &&& 31)) := by
    unfold rBox
    rw [if_neg hne]
  obtain ⟨-, -, -, -, w8, -⟩ := hW.1 p hp
  have e2 : tBox T k p = st1 (st1 (st1 T 9 (10 * p + b) (T 18 k)) 8 p (nI b + 1)) 26 k (T 26 k ||| (1 : Int32) <<< (nI p &&& 31)) := by
    unfold tBox
    rw [w8, hb, nI_clamp (by omega)]
  rw [e1, e2]
  have hkk := hK k hk
  refine ⟨⟨jA_c hA rfl rfl rfl rfl rfl rfl rfl rfl rfl rfl, ?_, jL_c hL rfl rfl rfl rfl rfl rfl rfl rfl rfl rfl, jP_c hP rfl rfl, jM_c hM rfl rfl rfl, jF_c hF rfl rfl rfl, ?_, jQ_c hQ rfl rfl rfl rfl rfl rfl rfl rfl rfl rfl rfl, jN_25 hN hk rfl rfl rfl rfl rfl (fun _ _ _ _ => rfl) rfl⟩, jD_c hD rfl rfl rfl rfl rfl rfl rfl rfl rfl, h24, hI⟩
  · refine ⟨fun q hq => ?_, fun i hi => ?_⟩
    · obtain ⟨a1, a2, a3, a4, a5, a6⟩ := hW.1 q hq
      refine ⟨a1, a2, a3, a4, ?_⟩
      rw [st1_f (show 8 ≠ 26 by decide), st1_f (show 7 ≠ 25 by decide)]
      by_cases e : q = p
      · subst e
        rw [st1_same, st1_same]
        exact ⟨rfl, b + 1, by omega, nI_1 b⟩
      · rw [st1_j e, st1_j e, st1_f (show 8 ≠ 9 by decide), st1_f (show 7 ≠ 8 by decide)]
        exact ⟨a5, a6⟩
    · rw [st1_f (show 9 ≠ 26 by decide), st1_f (show 9 ≠ 8 by decide), st1_f (show 8 ≠ 25 by decide), st1_f (show 8 ≠ 7 by decide), st1_at, st1_at]
      by_cases e : i = 10 * p + b
      · rw [if_pos ⟨rfl, e⟩, if_pos ⟨rfl, e⟩]; exact hkk.1
      · rw [if_neg (fun e9 => e e9.2), if_neg (fun e9 => e e9.2)]; exact hW.2 i hi
  · exact jK_26 hK _ (by rw [hkk.2.2.2.2.2.2.2.2.2.2.2.2.1]) rfl rfl rfl rfl rfl rfl rfl rfl rfl rfl rfl rfl rfl rfl rfl rfl rfl rfl rfl rfl rfl
/-- it bounces -/
theorem jM_b1 {l : Nat} (hM : jM T S n) (hl : l < n) (hp : p < 16) : jM (tb1 p l T) (rone p l S) n := by
  have h1 := ((hM l hl).1 p hp).1
  unfold tb1 rone
  by_cases hb : bt (T 11 l) p = true
  · rw [if_pos hb, if_neg (h1.mp hb)]
    exact jM_put (q := 1) hM hl hp (by decide) (fun j => by
      rw [st1_at]
      by_cases e : j = 16 * l + p
      · rw [if_pos ⟨rfl, e⟩, if_pos e]; rfl
      · rw [if_neg (fun e9 => e e9.2), if_neg e])
  · have h2 : S 16 (16 * l + p) = -1 := Decidable.not_not.mp (fun e => hb (h1.mpr e))
    rw [if_neg hb, if_pos h2]
    have e : st1 S 16 (16 * l + p) (-1) = S := by
      have := st1_id S 16 (16 * l + p)
      rw [h2] at this
      exact this
    rw [e]
    exact hM
theorem jM_bN (hM : jM T S n) (hp : p < 16) : ∀ i, i ≤ n → jM (itN (tb1 p) T i) (itN (rone p) S i) n
  | 0, _ => hM
  | i + 1, hi => jM_b1 (jM_bN hM hp i (by omega)) (by omega) hp
theorem jJ_bnc (h : jJ T S n m v t c k) (hp : p < 16) : jJ (tBnc T n p) (rOne S n p) n m v t c k := by
  obtain ⟨⟨hA, hW, hL, hP, hM, hF, hK, hQ, hN⟩, hD, h24, hI⟩ := h
  obtain ⟨-, -, w7, w6, -⟩ := hW.1 p hp
  have hW2 : ∀ x : Int32, (x = 0 ∨ x = 1 ∨ x = 2) → ∀ T' S' : am_T, (∀ g, g = 5 ∨ g = 6 ∨ g = 7 ∨ g = 8 ∨ g = 9 → T' g = st1 T 7 p x g) → (∀ g, g = 4 ∨ g = 5 ∨ g = 6 ∨ g = 7 ∨ g = 8 → S' g = st1 S 6 p x g) → jW T' S' := by
    intro x hx T' S' hT hS
    refine ⟨fun q hq => ?_, fun i hi => ?_⟩
    · obtain ⟨a1, a2, a3, a4, a5⟩ := hW.1 q hq
      rw [hT 5 (by omega), hT 6 (by omega), hT 7 (by omega), hT 8 (by omega), hS 4 (by omega), hS 5 (by omega), hS 6 (by omega), hS 7 (by omega)]
      refine ⟨a1, a2, ?_, ?_, a5⟩
      · rw [st1_at, st1_at]
        by_cases e : q = p
        · rw [if_pos ⟨rfl, e⟩, if_pos ⟨rfl, e⟩]
        · rw [if_neg (fun e9 => e e9.2), if_neg (fun e9 => e e9.2)]; exact a3
      · rw [st1_at]
        by_cases e : q = p
        · rw [if_pos ⟨rfl, e⟩]; exact hx
        · rw [if_neg (fun e9 => e e9.2)]; exact a4
    · rw [hT 9 (by omega), hS 8 (by omega)]; exact hW.2 i hi
  by_cases h3 : S 6 p + 1 = 3
  · have h4 : ¬ T 7 p + 1 < 3 := by rw [w7, h3]; decide
    have fT : ∀ g, g ≠ 11 → g ≠ 12 → itN (tb1 p) (st1 (st1 T 7 p (T 7 p + 1)) 7 p 0) n g = st1 T 7 p 0 g := by
      intro g g1 g2
      rw [itN_f (F := tb1 p) g (fun k S => tb1_f g1 g2)]
      by_cases e : g = 7
      · subst e
        funext j
        rw [st1_at, st1_at, st1_at]
        by_cases e2 : j = p
        · rw [if_pos ⟨rfl, e2⟩, if_pos ⟨rfl, e2⟩]
        · rw [if_neg (fun e9 => e2 e9.2), if_neg (fun e9 => e2 e9.2), if_neg (fun e9 => e2 e9.2)]
      · rw [st1_f e, st1_f e, st1_f e]
    have fS : ∀ g, g ≠ 16 → itN (rone p) (st1 (st1 S 6 p (S 6 p + 1)) 6 p 0) n g = st1 S 6 p 0 g := by
      intro g g1
      rw [itN_f (F := rone p) g (fun k S => st1_f g1)]
      by_cases e : g = 6
      · subst e
        funext j
        rw [st1_at, st1_at, st1_at]
        by_cases e2 : j = p
        · rw [if_pos ⟨rfl, e2⟩, if_pos ⟨rfl, e2⟩]
        · rw [if_neg (fun e9 => e2 e9.2), if_neg (fun e9 => e2 e9.2), if_neg (fun e9 => e2 e9.2)]
      · rw [st1_f e, st1_f e, st1_f e]
    have hM2 := jM_bN (T := st1 (st1 T 7 p (T 7 p + 1)) 7 p 0) (S := st1 (st1 S 6 p (S 6 p + 1)) 6 p 0) (jM_c hM rfl rfl rfl) hp n (Nat.le_refl n)
    unfold tBnc rOne
    rw [if_neg h4, if_pos h3]
    have u : ∀ g, g ≠ 7 → g ≠ 11 → g ≠ 12 → itN (tb1 p) (st1 (st1 T 7 p (T 7 p + 1)) 7 p 0) n g = T g := fun g g0 g1 g2 => by rw [fT g g1 g2, st1_f g0]
    have w : ∀ g, g ≠ 6 → g ≠ 16 → itN (rone p) (st1 (st1 S 6 p (S 6 p + 1)) 6 p 0) n g = S g := fun g g0 g1 => by rw [fS g g1, st1_f g0]
    have w' : ∀ {g}, g ≠ 6 ∧ g ≠ 16 → itN (rone p) (st1 (st1 S 6 p (S 6 p + 1)) 6 p 0) n g = S g := fun h => w _ h.1 h.2
    have u' : ∀ {g}, g ≠ 7 ∧ g ≠ 11 ∧ g ≠ 12 → itN (tb1 p) (st1 (st1 T 7 p (T 7 p + 1)) 7 p 0) n g = T g := fun h => u _ h.1 h.2.1 h.2.2
    refine ⟨⟨jA_c hA (u' (by decide)) (u' (by decide)) (u' (by decide)) (u' (by decide)) (u' (by decide)) (w' (by decide)) (w' (by decide)) (w' (by decide)) (w' (by decide)) (w' (by decide)), hW2 0 (Or.inl rfl) _ _ (fun g hg => fT g (by omega) (by omega)) (fun g hg => fS g (by omega)), jL_c hL (u' (by decide)) (u' (by decide)) (u' (by decide)) (u' (by decide)) (u' (by decide)) (w' (by decide)) (w' (by decide)) (w' (by decide)) (w' (by decide)) (w' (by decide)), jP_c hP (u' (by decide)) (w' (by decide)), hM2, jF_c hF (w' (by decide)) (w' (by decide)) (w' (by decide)), jK_c hK (u' (by decide)) (u' (by decide)) (u' (by decide)) (u' (by decide)) (u' (by decide)) (u' (by decide)) (u' (by decide)) (u' (by decide)) (u' (by decide)) (u' (by decide)) (u' (by decide)) (w' (by decide)) (w' (by decide)) (w' (by decide)) (w' (by decide)) (w' (by decide)) (w' (by decide)) (w' (by decide)) (w' (by decide)) (w' (by decide)) (w' (by decide)), jQ_c hQ (u' (by decide)) (u' (by decide)) (u' (by decide)) (u' (by decide)) (u' (by decide)) (w' (by decide)) (w' (by decide)) (w' (by decide)) (w' (by decide)) (w' (by decide)) (w' (by decide)), jN_c hN (u' (by decide)) (w' (by decide)) (w' (by decide)) (w' (by decide)) (w' (by decide)) (w' (by decide)) (w' (by decide))⟩, ?_, ?_, ?_⟩
    · have e35 : itN (rone p) (st1 (st1 S 6 p (S 6 p + 1)) 6 p 0) n 35 = S 35 := w' (by decide)
      rw [e35]
      exact jD_c hD (u' (by decide)) (u' (by decide)) (u' (by decide)) (u' (by decide)) (u' (by decide)) (w' (by decide)) (w' (by decide)) (w' (by decide)) (w' (by decide))
    · have e24 : itN (rone p) (st1 (st1 S 6 p (S 6 p + 1)) 6 p 0) n 24 = S 24 := w' (by decide)
      rw [e24]; exact h24
    · have e20 : itN (rone p) (st1 (st1 S 6 p (S 6 p + 1)) 6 p 0) n 20 = S 20 := w' (by decide)
      have e31 : itN (rone p) (st1 (st1 S 6 p (S 6 p + 1)) 6 p 0) n 31 = S 31 := w' (by decide)
      have e35 : itN (rone p) (st1 (st1 S 6 p (S 6 p + 1)) 6 p 0) n 35 = S 35 := w' (by decide)
      rw [e20, e31, e35]; exact hI
  · have h4 : T 7 p + 1 < 3 := by
      rw [w7]
      rcases w6 with e | e | e
      · rw [e]; decide
      · rw [e]; decide
      · rw [e] at h3; exact absurd rfl h3
    unfold tBnc rOne
    rw [if_pos h4, if_neg h3, w7]
    refine ⟨⟨jA_c hA rfl rfl rfl rfl rfl rfl rfl rfl rfl rfl, hW2 (S 6 p + 1) ?_ _ _ (fun _ _ => rfl) (fun _ _ => rfl), jL_c hL rfl rfl rfl rfl rfl rfl rfl rfl rfl rfl, jP_c hP rfl rfl, jM_c hM rfl rfl rfl, jF_c hF rfl rfl rfl, jK_c hK rfl rfl rfl rfl rfl rfl rfl rfl rfl rfl rfl rfl rfl rfl rfl rfl rfl rfl rfl rfl rfl, jQ_c hQ rfl rfl rfl rfl rfl rfl rfl rfl rfl rfl rfl, jN_c hN rfl rfl rfl rfl rfl rfl rfl⟩, jD_c hD rfl rfl rfl rfl rfl rfl rfl rfl rfl, h24, hI⟩
    rcases w6 with e | e | e
    · rw [e]; exact Or.inr (Or.inl rfl)
    · rw [e]; exact Or.inr (Or.inr rfl)
    · rw [e] at h3; exact absurd rfl h3
/-- into a digest -/
theorem jJ_dig (h : jJ T S n m v t c k) (hk : k < m) (hp : p < 16) {l d : Nat} (hl : l < n) (hd : S 20 k = nI d) (hdt : d ≤ t) : jJ (tDig T k p l) (rDig S k l p d) n m v t c k := by
  obtain ⟨⟨hA, hW, hL, hP, hM, hF, hK, hQ, hN⟩, hD, h24, hI⟩ := h
  obtain ⟨a1, a2, hn10, a4, a5, hm80, a7, hvm, a9, a10, ht4, a12, a13⟩ := id hA
  have hkk := hK k hk
  obtain ⟨j, hj, e21, e33⟩ := hkk.2.2.2.2.2.1
  rw [hd] at e33
  have hl10 : l < 10 := by omega
  obtain ⟨d9, hd9, f33, f37, f⟩ := hD.1 j hj
  have edd : d9 = d := by
    rw [e33] at f33
    exact ((nI_eq (by omega) (by omega)).mp f33).symm
  subst edd
  have hdig : tDig T k p l = st1 (st1 (st1 (st1 T 27 k (T 27 k ||| (1 : Int32) <<< (nI l &&& 31))) 34 (10 * j + l) (T 34 (10 * j + l) ||| (1 : Int32) <<< (nI p &&& 31))) 36 j (if T 37 j = 0 then T 36 j else T 36 j ||| (1 : Int32) <<< (nI l &&& 31))) 26 k (T 26 k ||| (1 : Int32) <<< (nI p &&& 31)) := by
    unfold tDig tAdd
    rw [e21, nI_clamp (by omega)]
    rfl
  obtain ⟨q34, q35, q36⟩ := f l hl10
  have bp : ¬ (T 34 (10 * j + l) ||| (1 : Int32) <<< (nI p &&& 31)) = 0 := fun e => by
    have h9 : bt (T 34 (10 * j + l) ||| (1 : Int32) <<< (nI p &&& 31)) p = true := by rw [b_or, bt_bit (by omega), Bool.or_true]
    rw [e, b_0] at h9
    cases h9
  have hcnd : (S 31 (10 * k + l) = 0 ∧ ¬ S 1 0 ≤ nI d9 ∧ ¬ S 35 (401 * l + d9) = S 2 0) ↔ (¬ d9 = t ∧ bt (T 36 j) l = false) := by
    have hle : S 1 0 ≤ nI d9 ↔ d9 = t := by
      rw [a10, nI_leI (by omega) (by omega)]
      omega
    rw [hle, a12, ← bt_false, q36]
    constructor
    · rintro ⟨h1, h2, h3⟩
      exact ⟨h2, fun e => h3 e.2⟩
    · rintro ⟨h1, h2⟩
      refine ⟨?_, h1, fun e => h2 ⟨h1, e⟩⟩
      apply Classical.byContradiction
      intro h3
      rcases hI l d9 hl10 hd hdt h3 with h4 | h4
      · exact h1 h4
      · exact h2 ⟨h1, h4⟩
  -- the reference's places
  have sf : ∀ {g}, g ≠ 25 ∧ g ≠ 31 ∧ g ≠ 32 ∧ g ≠ 33 ∧ g ≠ 34 ∧ g ≠ 35 → rDig S k l p d9 g = S g := fun h => rDig_f h.2.1 h.2.2.1 h.2.2.2.1 h.2.2.2.2.1 h.2.2.2.2.2 h.1
  have s25 : rDig S k l p d9 25 = st1 S 25 k (S 25 k ||| (1 : Int32) <<< (nI p &&& 31)) 25 := by
    unfold rDig
    split <;> rfl
  have s31 : rDig S k l p d9 31 = st1 S 31 (10 * k + l) 1 31 := by
    unfold rDig
    split <;> rfl
  have s32 : rDig S k l p d9 32 = st1 S 32 (401 * l + d9) 1 32 := by
    unfold rDig
    split <;> rfl
  have s34 : rDig S k l p d9 34 = st1 S 34 (401 * l + d9) (S 34 (401 * l + d9) ||| (1 : Int32) <<< (nI p &&& 31)) 34 := by
    unfold rDig
    split <;> rfl
  have s33 : rDig S k l p d9 33 = if ¬ d9 = t ∧ bt (T 36 j) l = false then st1 S 33 (401 * l + d9) (S 33 (401 * l + d9) + 1) 33 else S 33 := by
    unfold rDig
    by_cases h9 : ¬ d9 = t ∧ bt (T 36 j) l = false
    · rw [if_pos h9, if_pos (hcnd.mpr h9)]; rfl
    · rw [if_neg h9, if_neg (fun e => h9 (hcnd.mp e))]; rfl
  have s35 : rDig S k l p d9 35 = if ¬ d9 = t ∧ bt (T 36 j) l = false then st1 S 35 (401 * l + d9) (nI c) 35 else S 35 := by
    unfold rDig
    by_cases h9 : ¬ d9 = t ∧ bt (T 36 j) l = false
    · rw [if_pos h9, if_pos (hcnd.mpr h9), ← a12]; rfl
    · rw [if_neg h9, if_neg (fun e => h9 (hcnd.mp e))]; rfl
  have s35c : ∀ l2 d2, d2 ≤ 400 → (rDig S k l p d9 35 (401 * l2 + d2) = nI c ↔ ((l2 = l ∧ d2 = d9 ∧ ¬ d9 = t) ∨ S 35 (401 * l2 + d2) = nI c)) := by
    intro l2 d2 hd2
    rw [s35]
    by_cases h9 : ¬ d9 = t ∧ bt (T 36 j) l = false
    · rw [if_pos h9, st1_at]
      by_cases e : 401 * l2 + d2 = 401 * l + d9
      · have e1 : l2 = l := by omega
        have e2 : d2 = d9 := by omega
        rw [if_pos ⟨rfl, e⟩]
        exact ⟨fun _ => Or.inl ⟨e1, e2, h9.1⟩, fun _ => rfl⟩
      · rw [if_neg (fun e9 => e e9.2)]
        constructor
        · exact Or.inr
        · rintro (⟨e1, e2, -⟩ | h)
          · exact absurd (by rw [e1, e2]) e
          · exact h
    · rw [if_neg h9]
      constructor
      · exact Or.inr
      · rintro (⟨e1, e2, e3⟩ | h)
        · subst e1; subst e2
          have h8 : bt (T 36 j) l2 = true := by
            by_cases h7 : bt (T 36 j) l2 = true
            · exact h7
            · exact absurd ⟨e3, bt_false.mp h7⟩ h9
          exact (q36.mp h8).2
        · exact h
  have hS34 : ∀ a, rDig S k l p d9 34 a = if a = 401 * l + d9 then S 34 (401 * l + d9) ||| (1 : Int32) <<< (nI p &&& 31) else S 34 a := fun a => by rw [s34, st1_if]
  have hS33 : ∀ a, rDig S k l p d9 33 a = if a = 401 * l + d9 ∧ ¬ d9 = t ∧ bt (T 36 j) l = false then S 33 a + 1 else S 33 a := fun a => by
    rw [s33]
    by_cases h9 : ¬ d9 = t ∧ bt (T 36 j) l = false
    · rw [if_pos h9, st1_if]
      by_cases h8 : a = 401 * l + d9
      · rw [if_pos h8, if_pos ⟨h8, h9⟩, h8]
      · rw [if_neg h8, if_neg (fun e => h8 e.1)]
    · rw [if_neg h9, if_neg (fun e => h9 e.2)]
  rw [hdig]
  generalize hT9 : st1 (st1 (st1 (st1 T 27 k (T 27 k ||| (1 : Int32) <<< (nI l &&& 31))) 34 (10 * j + l) (T 34 (10 * j + l) ||| (1 : Int32) <<< (nI p &&& 31))) 36 j (if T 37 j = 0 then T 36 j else T 36 j ||| (1 : Int32) <<< (nI l &&& 31))) 26 k (T 26 k ||| (1 : Int32) <<< (nI p &&& 31)) = T9
  have hT34 : ∀ a, T9 34 a = if a = 10 * j + l then T 34 (10 * j + l) ||| (1 : Int32) <<< (nI p &&& 31) else T 34 a := fun a => by rw [← hT9, st1_f (show 34 ≠ 26 by decide), st1_f (show 34 ≠ 36 by decide), st1_if]; rfl
  have hT36 : ∀ a, T9 36 a = if a = j then (if T 37 j = 0 then T 36 j else T 36 j ||| (1 : Int32) <<< (nI l &&& 31)) else T 36 a := fun a => by rw [← hT9, st1_f (show 36 ≠ 26 by decide), st1_if]; rfl
  subst hT9
  refine ⟨⟨jA_c hA rfl rfl rfl rfl rfl (sf (by decide)) (sf (by decide)) (sf (by decide)) (sf (by decide)) (sf (by decide)), jW_c hW rfl rfl rfl rfl rfl (sf (by decide)) (sf (by decide)) (sf (by decide)) (sf (by decide)) (sf (by decide)), jL_c hL rfl rfl rfl rfl rfl (sf (by decide)) (sf (by decide)) (sf (by decide)) (sf (by decide)) (sf (by decide)), jP_c hP rfl (sf (by decide)), jM_c hM rfl rfl (sf (by decide)), jF_c hF (sf (by decide)) (sf (by decide)) (sf (by decide)), ?_, jQ_c hQ rfl rfl rfl rfl rfl (sf (by decide)) (sf (by decide)) (sf (by decide)) (sf (by decide)) (sf (by decide)) (sf (by decide)), ?_⟩, ⟨fun i hi => ?_, hD.2.1, fun l2 d2 hl2 hd2 => ?_⟩, ?_, ?_⟩
  · -- mails
    intro i hi
    obtain ⟨b1, b2, b3, b4, b5, b6, b7, b8, b9, b10, b11, b12, b13, b14, b15⟩ := hK i hi
    have z : ∀ {g}, g ≠ 25 ∧ g ≠ 31 ∧ g ≠ 32 ∧ g ≠ 33 ∧ g ≠ 34 ∧ g ≠ 35 → rDig S k l p d9 g i = S g i := fun h => congrFun (sf h) i
    rw [z (g := 18) (by decide), z (g := 19) (by decide), z (g := 20) (by decide), z (g := 21) (by decide), z (g := 22) (by decide), z (g := 23) (by decide), z (g := 24) (by decide), z (g := 26) (by decide), s25, s31]
    refine ⟨b1, b2, b3, b4, b5, b6, b7, b8, b9, b10, b11, b12, ?_, fun l2 hl2 => ?_, fun h9 l2 hl2 => ?_⟩
    · by_cases e : i = k
      · subst e
        rw [st1_same, st1_same, b13]
      · rw [st1_j e, st1_j e]; exact b13
    · rw [st1_f (show 27 ≠ 26 by decide), st1_f (show 27 ≠ 36 by decide), st1_f (show 27 ≠ 34 by decide), st1_at, st1_at]
      by_cases e : i = k
      · subst e
        rw [if_pos ⟨rfl, rfl⟩, b_or, b_bit (by omega) (by omega)]
        by_cases e2 : l2 = l
        · subst e2
          rw [if_pos ⟨rfl, rfl⟩, decide_eq_true rfl, Bool.or_true]
          exact ⟨fun _ => by decide, fun _ => rfl⟩
        · rw [if_neg (fun e9 => e2 (by omega)), decide_eq_false e2, Bool.or_false]
          exact b14 l2 hl2
      · rw [if_neg (fun e9 => e e9.2), if_neg (fun e9 => e (by omega))]
        exact b14 l2 hl2
    · rw [st1_at]
      by_cases e : i = k
      · subst e
        rw [h24] at h9
        exact absurd h9 (by decide)
      · rw [if_neg (fun e9 => e (by omega))]
        exact b15 h9 l2 hl2
  · refine jN_25 hN hk s25 (sf (by decide)) (sf (by decide)) (sf (by decide)) (sf (by decide)) (fun i l2 hi hl2 => ?_) rfl
    rw [s31, st1_at, if_neg (by omega)]
  · -- days
    obtain ⟨d2, hd2, g33, g37, g⟩ := hD.1 i hi
    refine ⟨d2, hd2, g33, g37, fun l2 hl2 => ?_⟩
    obtain ⟨r34, r35, r36⟩ := g l2 hl2
    rw [hT34, hT36, hS34, hS33]
    show _ ∧ _ = T 35 (10 * i + l2) + _ ∧ (_ ↔ ¬ d2 = t ∧ rDig S k l p d9 35 (401 * l2 + d2) = nI c)
    rw [s35c l2 d2 (by omega)]
    by_cases e : i = j
    · subst e
      have ed : d2 = d9 := by
        rw [e33] at g33
        exact ((nI_eq (by omega) (by omega)).mp g33).symm
      subst ed
      rw [if_pos (show i = i from rfl)]
      by_cases e2 : l2 = l
      · subst e2
        rw [if_pos (show 10 * i + l2 = 10 * i + l2 from rfl), if_pos (show 401 * l2 + d2 = 401 * l2 + d2 from rfl), q34]
        refine ⟨rfl, ?_, ?_⟩
        · by_cases h0 : d2 = t
          · rw [if_pos (f37.mpr h0), if_neg (fun e9 => e9.2.1 h0)]
            exact q35
          · rw [if_neg (fun e9 => h0 (f37.mp e9)), b_or, bt_bit (by omega), Bool.or_true, if_pos (show true = true from rfl)]
            by_cases h1 : bt (T 36 i) l2 = true
            · rw [if_neg (fun e9 => by rw [h1] at e9; exact absurd e9.2.2 (by decide)), q35, if_pos h1]
            · rw [if_pos ⟨rfl, h0, bt_false.mp h1⟩, q35, if_neg h1, Int32.add_zero]
        · by_cases h0 : d2 = t
          · rw [if_pos (f37.mpr h0), q36]
            exact ⟨fun e9 => absurd h0 e9.1, fun e9 => absurd h0 e9.1⟩
          · rw [if_neg (fun e9 => h0 (f37.mp e9)), b_or, bt_bit (by omega), Bool.or_true]
            exact ⟨fun _ => ⟨h0, Or.inl ⟨rfl, rfl, h0⟩⟩, fun _ => rfl⟩
      · have n1 : ¬ 10 * i + l2 = 10 * i + l := by omega
        have n2 : ¬ 401 * l2 + d2 = 401 * l + d2 := by omega
        rw [if_neg n1, if_neg n2, if_neg (fun e9 => n2 e9.1)]
        have hb9 : bt (if T 37 i = 0 then T 36 i else T 36 i ||| (1 : Int32) <<< (nI l &&& 31)) l2 = bt (T 36 i) l2 := by
          split
          · rfl
          · rw [b_or, b_bit (by omega) (by omega), decide_eq_false e2, Bool.or_false]
        rw [hb9]
        refine ⟨r34, r35, ?_⟩
        rw [r36]
        constructor
        · rintro ⟨x1, x2⟩; exact ⟨x1, Or.inr x2⟩
        · rintro ⟨x1, x2⟩
          exact ⟨x1, x2.resolve_left (fun e9 => e2 e9.1)⟩
    · have hne : ¬ d2 = d9 := fun e9 => e (hD.2.1 i j hi hj (by rw [g33, e33, e9]))
      have n1 : ¬ 10 * i + l2 = 10 * j + l := by omega
      have n2 : ¬ 401 * l2 + d2 = 401 * l + d9 := by omega
      rw [if_neg n1, if_neg n2, if_neg (fun e9 => n2 e9.1), if_neg e]
      refine ⟨r34, r35, ?_⟩
      rw [r36]
      constructor
      · rintro ⟨x1, x2⟩; exact ⟨x1, Or.inr x2⟩
      · rintro ⟨x1, x2⟩
        exact ⟨x1, x2.resolve_left (fun e9 => hne e9.2.1)⟩
  · obtain ⟨g1, g2, g3, g4, c', hc', g5⟩ := hD.2.2 l2 d2 hl2 hd2
    rw [s32, s34, s33, s35]
    by_cases e : l2 = l ∧ d2 = d9
    · obtain ⟨rfl, rfl⟩ := e
      rw [st1_same, st1_same, ← q34]
      refine ⟨⟨fun e9 => absurd e9 (by decide), fun e9 => absurd e9 bp⟩, fun h9 => absurd hl (by omega), fun h9 => absurd e33 (h9 j hj), fun h9 => ?_, ?_⟩
      · rw [if_neg (fun e9 => e9.1 h9)]; exact g4 h9
      · split
        · exact ⟨c, Nat.le_refl c, st1_same _ _ _ _⟩
        · exact ⟨c', hc', g5⟩
    · have hne : ¬ 401 * l2 + d2 = 401 * l + d9 := fun e9 => e ⟨by omega, by omega⟩
      rw [st1_j hne, st1_j hne]
      refine ⟨g1, g2, fun h9 => ⟨(g3 h9).1, ?_⟩, fun h9 => ?_, ?_⟩
      · split
        · rw [st1_j hne]; exact (g3 h9).2
        · exact (g3 h9).2
      · split
        · rw [st1_j hne]; exact g4 h9
        · exact g4 h9
      · refine ⟨c', hc', ?_⟩
        split
        · rw [st1_j hne]; exact g5
        · exact g5
  · rw [show rDig S k l p d9 24 = S 24 from sf (by decide)]; exact h24
  · intro l2 d2 hl2 h20 hd2t h31
    rw [show rDig S k l p d9 20 = S 20 from sf (by decide), hd] at h20
    have ed : d2 = d9 := ((nI_eq (by omega) (by omega)).mp h20).symm
    subst ed
    rw [s35c l2 d2 (by omega)]
    rw [s31, st1_at] at h31
    by_cases e2 : l2 = l
    · subst e2
      by_cases h0 : d2 = t
      · exact Or.inl h0
      · exact Or.inr (Or.inl ⟨rfl, rfl, h0⟩)
    · rw [if_neg (fun e9 => e2 (by omega))] at h31
      rcases hI l2 d2 hl2 hd hd2t h31 with h9 | h9
      · exact Or.inl h9
      · exact Or.inr (Or.inr h9)
end
