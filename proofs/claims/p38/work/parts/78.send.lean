/-! pure: a mail is sent, in both -/
theorem qD_newD {T S : am_T} {m v t c : Nat} {lt : Nat → Nat → Prop} (hD : qD T S m v t c lt) (h3 : T 3 0 = nI t) (ht : t ≤ 14) (h0 : ∀ i, i < v → ¬ T 33 i = T 3 0) (hlt : ∀ l, l < 4 → ¬ lt l t) : qD (tNewD T v) S m (v + 1) t c lt := by
  have e33 : tNewD T v 33 v = nI t := tNewD_33.trans h3
  have ne : ∀ {g p : Nat}, g ≠ 34 ∧ g ≠ 35 ∧ g ≠ 2 → p ≠ v → tNewD T v g p = T g p := fun h hp => tNewD_ne h hp
  have na : ∀ {g i : Nat}, g = 34 ∨ g = 35 → tNewD T v g i = if 10 * v ≤ i ∧ i < 10 * v + 10 then 0 else T g i := fun h => tNewD_a h
  have nd : ∀ j, j < v → ¬ T 33 j = nI t := fun j hj e => h0 j hj (by rw [h3]; exact e)
  have old : ∀ l, l < 4 → S 50 (15 * l + t) = 0 ∧ S 40 (15 * l + t) = 0 := fun l hl => hD.2.2.1 l t hl (by omega) nd
  refine ⟨fun j hj => ?_, fun i j hi hj e => ?_, fun l d hl hd hn => ?_, ?_⟩
  · by_cases e : j = v
    · subst e
      refine ⟨t, Nat.le_refl t, e33, ?_, fun l hl => ?_⟩
      · rw [tNewD_37]
        exact ⟨fun _ => rfl, fun _ => rfl⟩
      · obtain ⟨z1, z2⟩ := old l hl
        rw [na (Or.inl rfl), na (Or.inr rfl), tNewD_36, if_pos (by omega), if_pos (by omega), b_0, z1, z2]
        exact ⟨rfl, ⟨0, by omega, rfl, rfl, fun _ => rfl, fun _ => rfl⟩, ⟨fun h => (by cases h), fun h => absurd h (hlt l hl)⟩, fun h => (by cases h)⟩
    · obtain ⟨d, hd, g33, g37, g⟩ := hD.1 j (by omega)
      refine ⟨d, hd, by rw [ne (by decide) e]; exact g33, by rw [ne (by decide) e]; exact g37, fun l hl => ?_⟩
      rw [na (Or.inl rfl), na (Or.inr rfl), ne (show 36 ≠ 34 ∧ 36 ≠ 35 ∧ 36 ≠ 2 by decide) e, if_neg (by omega), if_neg (by omega)]
      exact g l hl
  · by_cases e1 : i = v
    · by_cases e2 : j = v
      · omega
      · rw [e1, e33, ne (by decide) e2] at e
        exact absurd e.symm (nd j (by omega))
    · by_cases e2 : j = v
      · rw [e2, e33, ne (by decide) e1] at e
        exact absurd e (nd i (by omega))
      · rw [ne (by decide) e1, ne (by decide) e2] at e
        exact hD.2.1 i j (by omega) (by omega) e
  · refine hD.2.2.1 l d hl hd (fun j hj => ?_)
    have := hn j (by omega)
    rw [ne (by decide) (show j ≠ v by omega)] at this
    exact this
  · rw [tNewD_f (by decide)]
    exact hD.2.2.2
/-- what the law writes of a new mail -/
def lNew (S : am_T) (m p l : Nat) (t cs sc : Int32) : am_T := st1 (st1 (st1 (st1 (st1 (st1 (st1 (st1 S 10 m (nI p)) 11 m (nI l)) 12 m t) 13 m 1) 14 m cs) 20 m sc) 21 m (t + S 2 l)) 72 0 (nI m + 1)
theorem q_newM {T T1 S : am_T} {o : Nat → Int64} {n m v v1 t c c2 : Nat} {lt : Nat → Nat → Prop} (hB : qB T S o n m v t c) (hV : qV T S m) (hD : qD T1 S m v1 t c2 lt) (f : ∀ {g}, g ≠ 34 ∧ g ≠ 35 ∧ g ≠ 33 ∧ g ≠ 36 ∧ g ≠ 37 ∧ g ≠ 2 → T1 g = T g) (h2 : T1 2 0 = nI v1) (hv1 : v1 ≤ m + 1) (hvv : v ≤ v1) (h33 : ∀ i, i < v → T1 33 i = T 33 i) {j : Nat} (hj : j < v1) (hjt : T1 33 j = nI t) (hm10 : m < 10) {p l : Nat} (hp : p < 8) (hl : l < n) (sc cs : Int32) : qB (tNewM T1 m j (nI p) (nI l) sc cs (T1 16 l)) (lNew S m p l (nI t) cs sc) o n (m + 1) v1 t c ∧ qD (tNewM T1 m j (nI p) (nI l) sc cs (T1 16 l)) (lNew S m p l (nI t) cs sc) (m + 1) v1 t c2 lt ∧ qV (tNewM T1 m j (nI p) (nI l) sc cs (T1 16 l)) (lNew S m p l (nI t) cs sc) (m + 1) := by
  obtain ⟨hA, hP, hL, hJ, hM, hF, hK, hQ, hN⟩ := hB
  obtain ⟨a1, a2, a3, a4, a5, a6, a7, a8, a9, a10, a11, a12⟩ := hA
  obtain ⟨-, -, -, l16, ⟨dp, hd1, hd7, l2⟩, -⟩ := hL l hl
  have ep : T1 16 l = nI dp := by rw [f (by decide), l16, l2]
  obtain ⟨n15, n22, n24, n25⟩ := hN.1 m (Nat.le_refl m) hm10
  -- the class's columns
  have e18 : tNewM T1 m j (nI p) (nI l) sc cs (T1 16 l) 18 m = nI m := tNewM_18
  have e19 : tNewM T1 m j (nI p) (nI l) sc cs (T1 16 l) 19 m = nI p := tNewM_19
  have e20 : tNewM T1 m j (nI p) (nI l) sc cs (T1 16 l) 20 m = nI l := tNewM_20
  have e21 : tNewM T1 m j (nI p) (nI l) sc cs (T1 16 l) 21 m = nI j := tNewM_21
  have e22 : tNewM T1 m j (nI p) (nI l) sc cs (T1 16 l) 22 m = sc := tNewM_22
  have e23 : tNewM T1 m j (nI p) (nI l) sc cs (T1 16 l) 23 m = cs := tNewM_23
  have e24 : tNewM T1 m j (nI p) (nI l) sc cs (T1 16 l) 24 m = nI (t + dp) := by rw [tNewM_24, hjt, ep, nI_add]
  have e25 : tNewM T1 m j (nI p) (nI l) sc cs (T1 16 l) 25 m = 1 := tNewM_25
  have e26 : tNewM T1 m j (nI p) (nI l) sc cs (T1 16 l) 26 m = 0 := tNewM_26
  have e27 : tNewM T1 m j (nI p) (nI l) sc cs (T1 16 l) 27 m = 0 := tNewM_27
  have e28 : tNewM T1 m j (nI p) (nI l) sc cs (T1 16 l) 28 m = 0 := tNewM_28
  have e1 : tNewM T1 m j (nI p) (nI l) sc cs (T1 16 l) 1 0 = nI m + 1 := tNewM_1
  have ne : ∀ {g q : Nat}, g ≠ 1 → q ≠ m → tNewM T1 m j (nI p) (nI l) sc cs (T1 16 l) g q = T1 g q := fun h1 h2 => tNewM_ne h1 h2
  have t1 : ∀ {g}, g ≠ 1 ∧ g ≠ 18 ∧ g ≠ 19 ∧ g ≠ 20 ∧ g ≠ 21 ∧ g ≠ 22 ∧ g ≠ 23 ∧ g ≠ 24 ∧ g ≠ 25 ∧ g ≠ 26 ∧ g ≠ 27 ∧ g ≠ 28 → tNewM T1 m j (nI p) (nI l) sc cs (T1 16 l) g = T1 g := fun h => tNewM_f h
  have tt : ∀ {g}, (g ≠ 1 ∧ g ≠ 18 ∧ g ≠ 19 ∧ g ≠ 20 ∧ g ≠ 21 ∧ g ≠ 22 ∧ g ≠ 23 ∧ g ≠ 24 ∧ g ≠ 25 ∧ g ≠ 26 ∧ g ≠ 27 ∧ g ≠ 28) ∧ (g ≠ 34 ∧ g ≠ 35 ∧ g ≠ 33 ∧ g ≠ 36 ∧ g ≠ 37 ∧ g ≠ 2) → tNewM T1 m j (nI p) (nI l) sc cs (T1 16 l) g = T g := fun h => (tNewM_f h.1).trans (f h.2)
  generalize tNewM T1 m j (nI p) (nI l) sc cs (T1 16 l) = T9 at e18 e19 e20 e21 e22 e23 e24 e25 e26 e27 e28 e1 ne t1 tt ⊢
  -- the law's
  obtain ⟨S9, hS9⟩ : ∃ S9 : am_T, S9 = lNew S m p l (nI t) cs sc := ⟨_, rfl⟩
  have s10 : S9 10 = st1 S 10 m (nI p) 10 := (congrFun hS9 10).trans rfl
  have s11 : S9 11 = st1 S 11 m (nI l) 11 := (congrFun hS9 11).trans rfl
  have s12 : S9 12 = st1 S 12 m (nI t) 12 := (congrFun hS9 12).trans rfl
  have s13 : S9 13 = st1 S 13 m 1 13 := (congrFun hS9 13).trans rfl
  have s14 : S9 14 = st1 S 14 m cs 14 := (congrFun hS9 14).trans rfl
  have s20 : S9 20 = st1 S 20 m sc 20 := (congrFun hS9 20).trans rfl
  have s21 : S9 21 = st1 S 21 m (nI t + S 2 l) 21 := (congrFun hS9 21).trans rfl
  have s72 : S9 72 = st1 S 72 0 (nI m + 1) 72 := (congrFun hS9 72).trans rfl
  have sf : ∀ {g}, g ≠ 10 ∧ g ≠ 11 ∧ g ≠ 12 ∧ g ≠ 13 ∧ g ≠ 14 ∧ g ≠ 20 ∧ g ≠ 21 ∧ g ≠ 72 → S9 g = S g := fun h => by
    obtain ⟨h1, h2, h3, h4, h5, h6, h7, h8⟩ := h
    rw [hS9]
    unfold lNew
    rw [st1_f h8, st1_f h7, st1_f h6, st1_f h5, st1_f h4, st1_f h3, st1_f h2, st1_f h1]
  rw [← hS9]
  have tb : ∀ {g q}, g ≠ 1 ∧ g ≠ 34 ∧ g ≠ 35 ∧ g ≠ 33 ∧ g ≠ 36 ∧ g ≠ 37 ∧ g ≠ 2 → q ≠ m → T9 g q = T g q := fun h hq => (ne h.1 hq).trans (congrFun (f h.2) _)
  have hx : S9 15 = S 15 := sf (by decide)
  refine ⟨⟨⟨by rw [tt (show (0 ≠ 1 ∧ 0 ≠ 18 ∧ 0 ≠ 19 ∧ 0 ≠ 20 ∧ 0 ≠ 21 ∧ 0 ≠ 22 ∧ 0 ≠ 23 ∧ 0 ≠ 24 ∧ 0 ≠ 25 ∧ 0 ≠ 26 ∧ 0 ≠ 27 ∧ 0 ≠ 28) ∧ (0 ≠ 34 ∧ 0 ≠ 35 ∧ 0 ≠ 33 ∧ 0 ≠ 36 ∧ 0 ≠ 37 ∧ 0 ≠ 2) by decide)]; exact a1, by rw [sf (show 71 ≠ 10 ∧ 71 ≠ 11 ∧ 71 ≠ 12 ∧ 71 ≠ 13 ∧ 71 ≠ 14 ∧ 71 ≠ 20 ∧ 71 ≠ 21 ∧ 71 ≠ 72 by decide)]; exact a2, a3, by rw [e1, nI_1], by rw [s72, st1_same, nI_1], by omega, by rw [t1 (by decide)]; exact h2, hv1, by rw [tt (show (3 ≠ 1 ∧ 3 ≠ 18 ∧ 3 ≠ 19 ∧ 3 ≠ 20 ∧ 3 ≠ 21 ∧ 3 ≠ 22 ∧ 3 ≠ 23 ∧ 3 ≠ 24 ∧ 3 ≠ 25 ∧ 3 ≠ 26 ∧ 3 ≠ 27 ∧ 3 ≠ 28) ∧ (3 ≠ 34 ∧ 3 ≠ 35 ∧ 3 ≠ 33 ∧ 3 ≠ 36 ∧ 3 ≠ 37 ∧ 3 ≠ 2) by decide)]; exact a9, by rw [sf (show 70 ≠ 10 ∧ 70 ≠ 11 ∧ 70 ≠ 12 ∧ 70 ≠ 13 ∧ 70 ≠ 14 ∧ 70 ≠ 20 ∧ 70 ≠ 21 ∧ 70 ≠ 72 by decide)]; exact a10, a11, by rw [tt (show (4 ≠ 1 ∧ 4 ≠ 18 ∧ 4 ≠ 19 ∧ 4 ≠ 20 ∧ 4 ≠ 21 ∧ 4 ≠ 22 ∧ 4 ≠ 23 ∧ 4 ≠ 24 ∧ 4 ≠ 25 ∧ 4 ≠ 26 ∧ 4 ≠ 27 ∧ 4 ≠ 28) ∧ (4 ≠ 34 ∧ 4 ≠ 35 ∧ 4 ≠ 33 ∧ 4 ≠ 36 ∧ 4 ≠ 37 ∧ 4 ≠ 2) by decide), sf (show 80 ≠ 10 ∧ 80 ≠ 11 ∧ 80 ≠ 12 ∧ 80 ≠ 13 ∧ 80 ≠ 14 ∧ 80 ≠ 20 ∧ 80 ≠ 21 ∧ 80 ≠ 72 by decide)]; exact a12⟩, qP_m (qP_c hP (tt (show (5 ≠ 1 ∧ 5 ≠ 18 ∧ 5 ≠ 19 ∧ 5 ≠ 20 ∧ 5 ≠ 21 ∧ 5 ≠ 22 ∧ 5 ≠ 23 ∧ 5 ≠ 24 ∧ 5 ≠ 25 ∧ 5 ≠ 26 ∧ 5 ≠ 27 ∧ 5 ≠ 28) ∧ (5 ≠ 34 ∧ 5 ≠ 35 ∧ 5 ≠ 33 ∧ 5 ≠ 36 ∧ 5 ≠ 37 ∧ 5 ≠ 2) by decide)) (tt (show (6 ≠ 1 ∧ 6 ≠ 18 ∧ 6 ≠ 19 ∧ 6 ≠ 20 ∧ 6 ≠ 21 ∧ 6 ≠ 22 ∧ 6 ≠ 23 ∧ 6 ≠ 24 ∧ 6 ≠ 25 ∧ 6 ≠ 26 ∧ 6 ≠ 27 ∧ 6 ≠ 28) ∧ (6 ≠ 34 ∧ 6 ≠ 35 ∧ 6 ≠ 33 ∧ 6 ≠ 36 ∧ 6 ≠ 37 ∧ 6 ≠ 2) by decide)) (tt (show (7 ≠ 1 ∧ 7 ≠ 18 ∧ 7 ≠ 19 ∧ 7 ≠ 20 ∧ 7 ≠ 21 ∧ 7 ≠ 22 ∧ 7 ≠ 23 ∧ 7 ≠ 24 ∧ 7 ≠ 25 ∧ 7 ≠ 26 ∧ 7 ≠ 27 ∧ 7 ≠ 28) ∧ (7 ≠ 34 ∧ 7 ≠ 35 ∧ 7 ≠ 33 ∧ 7 ≠ 36 ∧ 7 ≠ 37 ∧ 7 ≠ 2) by decide)) (tt (show (8 ≠ 1 ∧ 8 ≠ 18 ∧ 8 ≠ 19 ∧ 8 ≠ 20 ∧ 8 ≠ 21 ∧ 8 ≠ 22 ∧ 8 ≠ 23 ∧ 8 ≠ 24 ∧ 8 ≠ 25 ∧ 8 ≠ 26 ∧ 8 ≠ 27 ∧ 8 ≠ 28) ∧ (8 ≠ 34 ∧ 8 ≠ 35 ∧ 8 ≠ 33 ∧ 8 ≠ 36 ∧ 8 ≠ 37 ∧ 8 ≠ 2) by decide)) (tt (show (9 ≠ 1 ∧ 9 ≠ 18 ∧ 9 ≠ 19 ∧ 9 ≠ 20 ∧ 9 ≠ 21 ∧ 9 ≠ 22 ∧ 9 ≠ 23 ∧ 9 ≠ 24 ∧ 9 ≠ 25 ∧ 9 ≠ 26 ∧ 9 ≠ 27 ∧ 9 ≠ 28) ∧ (9 ≠ 34 ∧ 9 ≠ 35 ∧ 9 ≠ 33 ∧ 9 ≠ 36 ∧ 9 ≠ 37 ∧ 9 ≠ 2) by decide)) (sf (show 30 ≠ 10 ∧ 30 ≠ 11 ∧ 30 ≠ 12 ∧ 30 ≠ 13 ∧ 30 ≠ 14 ∧ 30 ≠ 20 ∧ 30 ≠ 21 ∧ 30 ≠ 72 by decide)) (sf (show 31 ≠ 10 ∧ 31 ≠ 11 ∧ 31 ≠ 12 ∧ 31 ≠ 13 ∧ 31 ≠ 14 ∧ 31 ≠ 20 ∧ 31 ≠ 21 ∧ 31 ≠ 72 by decide)) (sf (show 32 ≠ 10 ∧ 32 ≠ 11 ∧ 32 ≠ 12 ∧ 32 ≠ 13 ∧ 32 ≠ 14 ∧ 32 ≠ 20 ∧ 32 ≠ 21 ∧ 32 ≠ 72 by decide)) (sf (show 33 ≠ 10 ∧ 33 ≠ 11 ∧ 33 ≠ 12 ∧ 33 ≠ 13 ∧ 33 ≠ 14 ∧ 33 ≠ 20 ∧ 33 ≠ 21 ∧ 33 ≠ 72 by decide)) rfl) (Nat.le_succ m) (Nat.le_refl c), qL_c hL (tt (show (10 ≠ 1 ∧ 10 ≠ 18 ∧ 10 ≠ 19 ∧ 10 ≠ 20 ∧ 10 ≠ 21 ∧ 10 ≠ 22 ∧ 10 ≠ 23 ∧ 10 ≠ 24 ∧ 10 ≠ 25 ∧ 10 ≠ 26 ∧ 10 ≠ 27 ∧ 10 ≠ 28) ∧ (10 ≠ 34 ∧ 10 ≠ 35 ∧ 10 ≠ 33 ∧ 10 ≠ 36 ∧ 10 ≠ 37 ∧ 10 ≠ 2) by decide)) (tt (show (14 ≠ 1 ∧ 14 ≠ 18 ∧ 14 ≠ 19 ∧ 14 ≠ 20 ∧ 14 ≠ 21 ∧ 14 ≠ 22 ∧ 14 ≠ 23 ∧ 14 ≠ 24 ∧ 14 ≠ 25 ∧ 14 ≠ 26 ∧ 14 ≠ 27 ∧ 14 ≠ 28) ∧ (14 ≠ 34 ∧ 14 ≠ 35 ∧ 14 ≠ 33 ∧ 14 ≠ 36 ∧ 14 ≠ 37 ∧ 14 ≠ 2) by decide)) (tt (show (15 ≠ 1 ∧ 15 ≠ 18 ∧ 15 ≠ 19 ∧ 15 ≠ 20 ∧ 15 ≠ 21 ∧ 15 ≠ 22 ∧ 15 ≠ 23 ∧ 15 ≠ 24 ∧ 15 ≠ 25 ∧ 15 ≠ 26 ∧ 15 ≠ 27 ∧ 15 ≠ 28) ∧ (15 ≠ 34 ∧ 15 ≠ 35 ∧ 15 ≠ 33 ∧ 15 ≠ 36 ∧ 15 ≠ 37 ∧ 15 ≠ 2) by decide)) (tt (show (16 ≠ 1 ∧ 16 ≠ 18 ∧ 16 ≠ 19 ∧ 16 ≠ 20 ∧ 16 ≠ 21 ∧ 16 ≠ 22 ∧ 16 ≠ 23 ∧ 16 ≠ 24 ∧ 16 ≠ 25 ∧ 16 ≠ 26 ∧ 16 ≠ 27 ∧ 16 ≠ 28) ∧ (16 ≠ 34 ∧ 16 ≠ 35 ∧ 16 ≠ 33 ∧ 16 ≠ 36 ∧ 16 ≠ 37 ∧ 16 ≠ 2) by decide)) (tt (show (17 ≠ 1 ∧ 17 ≠ 18 ∧ 17 ≠ 19 ∧ 17 ≠ 20 ∧ 17 ≠ 21 ∧ 17 ≠ 22 ∧ 17 ≠ 23 ∧ 17 ≠ 24 ∧ 17 ≠ 25 ∧ 17 ≠ 26 ∧ 17 ≠ 27 ∧ 17 ≠ 28) ∧ (17 ≠ 34 ∧ 17 ≠ 35 ∧ 17 ≠ 33 ∧ 17 ≠ 36 ∧ 17 ≠ 37 ∧ 17 ≠ 2) by decide)) (sf (show 0 ≠ 10 ∧ 0 ≠ 11 ∧ 0 ≠ 12 ∧ 0 ≠ 13 ∧ 0 ≠ 14 ∧ 0 ≠ 20 ∧ 0 ≠ 21 ∧ 0 ≠ 72 by decide)) (sf (show 1 ≠ 10 ∧ 1 ≠ 11 ∧ 1 ≠ 12 ∧ 1 ≠ 13 ∧ 1 ≠ 14 ∧ 1 ≠ 20 ∧ 1 ≠ 21 ∧ 1 ≠ 72 by decide)) (sf (show 2 ≠ 10 ∧ 2 ≠ 11 ∧ 2 ≠ 12 ∧ 2 ≠ 13 ∧ 2 ≠ 14 ∧ 2 ≠ 20 ∧ 2 ≠ 21 ∧ 2 ≠ 72 by decide)) (sf (show 3 ≠ 10 ∧ 3 ≠ 11 ∧ 3 ≠ 12 ∧ 3 ≠ 13 ∧ 3 ≠ 14 ∧ 3 ≠ 20 ∧ 3 ≠ 21 ∧ 3 ≠ 72 by decide)) (sf (show 4 ≠ 10 ∧ 4 ≠ 11 ∧ 4 ≠ 12 ∧ 4 ≠ 13 ∧ 4 ≠ 14 ∧ 4 ≠ 20 ∧ 4 ≠ 21 ∧ 4 ≠ 72 by decide)), jP_c hJ (tt (show (13 ≠ 1 ∧ 13 ≠ 18 ∧ 13 ≠ 19 ∧ 13 ≠ 20 ∧ 13 ≠ 21 ∧ 13 ≠ 22 ∧ 13 ≠ 23 ∧ 13 ≠ 24 ∧ 13 ≠ 25 ∧ 13 ≠ 26 ∧ 13 ≠ 27 ∧ 13 ≠ 28) ∧ (13 ≠ 34 ∧ 13 ≠ 35 ∧ 13 ≠ 33 ∧ 13 ≠ 36 ∧ 13 ≠ 37 ∧ 13 ≠ 2) by decide)) (sf (show 5 ≠ 10 ∧ 5 ≠ 11 ∧ 5 ≠ 12 ∧ 5 ≠ 13 ∧ 5 ≠ 14 ∧ 5 ≠ 20 ∧ 5 ≠ 21 ∧ 5 ≠ 72 by decide)), qM_c hM (tt (show (11 ≠ 1 ∧ 11 ≠ 18 ∧ 11 ≠ 19 ∧ 11 ≠ 20 ∧ 11 ≠ 21 ∧ 11 ≠ 22 ∧ 11 ≠ 23 ∧ 11 ≠ 24 ∧ 11 ≠ 25 ∧ 11 ≠ 26 ∧ 11 ≠ 27 ∧ 11 ≠ 28) ∧ (11 ≠ 34 ∧ 11 ≠ 35 ∧ 11 ≠ 33 ∧ 11 ≠ 36 ∧ 11 ≠ 37 ∧ 11 ≠ 2) by decide)) (tt (show (12 ≠ 1 ∧ 12 ≠ 18 ∧ 12 ≠ 19 ∧ 12 ≠ 20 ∧ 12 ≠ 21 ∧ 12 ≠ 22 ∧ 12 ≠ 23 ∧ 12 ≠ 24 ∧ 12 ≠ 25 ∧ 12 ≠ 26 ∧ 12 ≠ 27 ∧ 12 ≠ 28) ∧ (12 ≠ 34 ∧ 12 ≠ 35 ∧ 12 ≠ 33 ∧ 12 ≠ 36 ∧ 12 ≠ 37 ∧ 12 ≠ 2) by decide)) (sf (show 6 ≠ 10 ∧ 6 ≠ 11 ∧ 6 ≠ 12 ∧ 6 ≠ 13 ∧ 6 ≠ 14 ∧ 6 ≠ 20 ∧ 6 ≠ 21 ∧ 6 ≠ 72 by decide)) (sf (show 7 ≠ 10 ∧ 7 ≠ 11 ∧ 7 ≠ 12 ∧ 7 ≠ 13 ∧ 7 ≠ 14 ∧ 7 ≠ 20 ∧ 7 ≠ 21 ∧ 7 ≠ 72 by decide)), qF_c hF (sf (show 3 ≠ 10 ∧ 3 ≠ 11 ∧ 3 ≠ 12 ∧ 3 ≠ 13 ∧ 3 ≠ 14 ∧ 3 ≠ 20 ∧ 3 ≠ 21 ∧ 3 ≠ 72 by decide)) (sf (show 4 ≠ 10 ∧ 4 ≠ 11 ∧ 4 ≠ 12 ∧ 4 ≠ 13 ∧ 4 ≠ 14 ∧ 4 ≠ 20 ∧ 4 ≠ 21 ∧ 4 ≠ 72 by decide)) (sf (show 5 ≠ 10 ∧ 5 ≠ 11 ∧ 5 ≠ 12 ∧ 5 ≠ 13 ∧ 5 ≠ 14 ∧ 5 ≠ 20 ∧ 5 ≠ 21 ∧ 5 ≠ 72 by decide)) (sf (show 6 ≠ 10 ∧ 6 ≠ 11 ∧ 6 ≠ 12 ∧ 6 ≠ 13 ∧ 6 ≠ 14 ∧ 6 ≠ 20 ∧ 6 ≠ 21 ∧ 6 ≠ 72 by decide)) (sf (show 7 ≠ 10 ∧ 7 ≠ 11 ∧ 7 ≠ 12 ∧ 7 ≠ 13 ∧ 7 ≠ 14 ∧ 7 ≠ 20 ∧ 7 ≠ 21 ∧ 7 ≠ 72 by decide)), fun k hk => ?_, fun k hk => ?_, ⟨fun k h1 h2 => ?_, fun k h1 h2 => ?_⟩⟩, ⟨fun i hi => ?_, ?_, ?_, fun l2 d hl2 hd => ⟨?_, fun k hk => ?_⟩⟩, fun k hk h => ?_⟩
  · rw [s10, s11, s12, s13, s14, s20, s21, hx, sf (show 22 ≠ 10 ∧ 22 ≠ 11 ∧ 22 ≠ 12 ∧ 22 ≠ 13 ∧ 22 ≠ 14 ∧ 22 ≠ 20 ∧ 22 ≠ 21 ∧ 22 ≠ 72 by decide), t1 (show 33 ≠ 1 ∧ 33 ≠ 18 ∧ 33 ≠ 19 ∧ 33 ≠ 20 ∧ 33 ≠ 21 ∧ 33 ≠ 22 ∧ 33 ≠ 23 ∧ 33 ≠ 24 ∧ 33 ≠ 25 ∧ 33 ≠ 26 ∧ 33 ≠ 27 ∧ 33 ≠ 28 by decide)]
    by_cases e : k = m
    · subst e
      rw [st1_same, st1_same, st1_same, st1_same, st1_same, st1_same, st1_same, e18, e19, e20, e21, e22, e23, e24, e25, e26, l2, nI_add]
      exact ⟨rfl, rfl, ⟨p, hp, rfl⟩, rfl, ⟨l, hl, rfl⟩, ⟨j, hj, rfl, hjt⟩, ⟨t, Nat.le_refl t, rfl⟩, rfl, rfl, rfl, ⟨t + dp, by omega, rfl, fun _ _ => by omega⟩, rfl, n15.symm⟩
    · obtain ⟨b1, b2, b3, b4, b5, ⟨i, hi, b6, b7⟩, b8⟩ := hK k (by omega)
      rw [st1_j e, st1_j e, st1_j e, st1_j e, st1_j e, st1_j e, st1_j e, tb (show 18 ≠ 1 ∧ 18 ≠ 34 ∧ 18 ≠ 35 ∧ 18 ≠ 33 ∧ 18 ≠ 36 ∧ 18 ≠ 37 ∧ 18 ≠ 2 by decide) e, tb (show 19 ≠ 1 ∧ 19 ≠ 34 ∧ 19 ≠ 35 ∧ 19 ≠ 33 ∧ 19 ≠ 36 ∧ 19 ≠ 37 ∧ 19 ≠ 2 by decide) e, tb (show 20 ≠ 1 ∧ 20 ≠ 34 ∧ 20 ≠ 35 ∧ 20 ≠ 33 ∧ 20 ≠ 36 ∧ 20 ≠ 37 ∧ 20 ≠ 2 by decide) e, tb (show 21 ≠ 1 ∧ 21 ≠ 34 ∧ 21 ≠ 35 ∧ 21 ≠ 33 ∧ 21 ≠ 36 ∧ 21 ≠ 37 ∧ 21 ≠ 2 by decide) e, tb (show 22 ≠ 1 ∧ 22 ≠ 34 ∧ 22 ≠ 35 ∧ 22 ≠ 33 ∧ 22 ≠ 36 ∧ 22 ≠ 37 ∧ 22 ≠ 2 by decide) e, tb (show 23 ≠ 1 ∧ 23 ≠ 34 ∧ 23 ≠ 35 ∧ 23 ≠ 33 ∧ 23 ≠ 36 ∧ 23 ≠ 37 ∧ 23 ≠ 2 by decide) e, tb (show 24 ≠ 1 ∧ 24 ≠ 34 ∧ 24 ≠ 35 ∧ 24 ≠ 33 ∧ 24 ≠ 36 ∧ 24 ≠ 37 ∧ 24 ≠ 2 by decide) e, tb (show 25 ≠ 1 ∧ 25 ≠ 34 ∧ 25 ≠ 35 ∧ 25 ≠ 33 ∧ 25 ≠ 36 ∧ 25 ≠ 37 ∧ 25 ≠ 2 by decide) e, tb (show 26 ≠ 1 ∧ 26 ≠ 34 ∧ 26 ≠ 35 ∧ 26 ≠ 33 ∧ 26 ≠ 36 ∧ 26 ≠ 37 ∧ 26 ≠ 2 by decide) e]
      exact ⟨b1, b2, b3, b4, b5, ⟨i, by omega, b6, by rw [h33 i hi]; exact b7⟩, b8⟩
  · rw [s13, sf (show 22 ≠ 10 ∧ 22 ≠ 11 ∧ 22 ≠ 12 ∧ 22 ≠ 13 ∧ 22 ≠ 14 ∧ 22 ≠ 20 ∧ 22 ≠ 21 ∧ 22 ≠ 72 by decide), sf (show 23 ≠ 10 ∧ 23 ≠ 11 ∧ 23 ≠ 12 ∧ 23 ≠ 13 ∧ 23 ≠ 14 ∧ 23 ≠ 20 ∧ 23 ≠ 21 ∧ 23 ≠ 72 by decide), sf (show 24 ≠ 10 ∧ 24 ≠ 11 ∧ 24 ≠ 12 ∧ 24 ≠ 13 ∧ 24 ≠ 14 ∧ 24 ≠ 20 ∧ 24 ≠ 21 ∧ 24 ≠ 72 by decide), sf (show 25 ≠ 10 ∧ 25 ≠ 11 ∧ 25 ≠ 12 ∧ 25 ≠ 13 ∧ 25 ≠ 14 ∧ 25 ≠ 20 ∧ 25 ≠ 21 ∧ 25 ≠ 72 by decide)]
    by_cases e : k = m
    · subst e
      rw [st1_same, n22, n24, n25, e28]
      exact ⟨⟨fun h => absurd h (by decide), fun h => absurd rfl h⟩, Or.inl rfl, fun h => absurd h (by decide), fun _ h => absurd rfl h, fun _ => ⟨rfl, rfl⟩, fun h => absurd h (by decide)⟩
    · rw [st1_j e, tb (show 28 ≠ 1 ∧ 28 ≠ 34 ∧ 28 ≠ 35 ∧ 28 ≠ 33 ∧ 28 ≠ 36 ∧ 28 ≠ 37 ∧ 28 ≠ 2 by decide) e, tb (show 29 ≠ 1 ∧ 29 ≠ 34 ∧ 29 ≠ 35 ∧ 29 ≠ 33 ∧ 29 ≠ 36 ∧ 29 ≠ 37 ∧ 29 ≠ 2 by decide) e, tb (show 30 ≠ 1 ∧ 30 ≠ 34 ∧ 30 ≠ 35 ∧ 30 ≠ 33 ∧ 30 ≠ 36 ∧ 30 ≠ 37 ∧ 30 ≠ 2 by decide) e, tb (show 31 ≠ 1 ∧ 31 ≠ 34 ∧ 31 ≠ 35 ∧ 31 ≠ 33 ∧ 31 ≠ 36 ∧ 31 ≠ 37 ∧ 31 ≠ 2 by decide) e, tb (show 32 ≠ 1 ∧ 32 ≠ 34 ∧ 32 ≠ 35 ∧ 32 ≠ 33 ∧ 32 ≠ 36 ∧ 32 ≠ 37 ∧ 32 ≠ 2 by decide) e]
      exact hQ k (by omega)
  · rw [hx, sf (show 22 ≠ 10 ∧ 22 ≠ 11 ∧ 22 ≠ 12 ∧ 22 ≠ 13 ∧ 22 ≠ 14 ∧ 22 ≠ 20 ∧ 22 ≠ 21 ∧ 22 ≠ 72 by decide), sf (show 24 ≠ 10 ∧ 24 ≠ 11 ∧ 24 ≠ 12 ∧ 24 ≠ 13 ∧ 24 ≠ 14 ∧ 24 ≠ 20 ∧ 24 ≠ 21 ∧ 24 ≠ 72 by decide), sf (show 25 ≠ 10 ∧ 25 ≠ 11 ∧ 25 ≠ 12 ∧ 25 ≠ 13 ∧ 25 ≠ 14 ∧ 25 ≠ 20 ∧ 25 ≠ 21 ∧ 25 ≠ 72 by decide)]
    exact hN.1 k (by omega) h2
  · by_cases e : k = m
    · subst e
      rw [e28]
      decide
    · rw [tb (show 28 ≠ 1 ∧ 28 ≠ 34 ∧ 28 ≠ 35 ∧ 28 ≠ 33 ∧ 28 ≠ 36 ∧ 28 ≠ 37 ∧ 28 ≠ 2 by decide) e]
      exact hN.2 k (by omega) h2
  · rw [t1 (show 33 ≠ 1 ∧ 33 ≠ 18 ∧ 33 ≠ 19 ∧ 33 ≠ 20 ∧ 33 ≠ 21 ∧ 33 ≠ 22 ∧ 33 ≠ 23 ∧ 33 ≠ 24 ∧ 33 ≠ 25 ∧ 33 ≠ 26 ∧ 33 ≠ 27 ∧ 33 ≠ 28 by decide), t1 (show 34 ≠ 1 ∧ 34 ≠ 18 ∧ 34 ≠ 19 ∧ 34 ≠ 20 ∧ 34 ≠ 21 ∧ 34 ≠ 22 ∧ 34 ≠ 23 ∧ 34 ≠ 24 ∧ 34 ≠ 25 ∧ 34 ≠ 26 ∧ 34 ≠ 27 ∧ 34 ≠ 28 by decide), t1 (show 35 ≠ 1 ∧ 35 ≠ 18 ∧ 35 ≠ 19 ∧ 35 ≠ 20 ∧ 35 ≠ 21 ∧ 35 ≠ 22 ∧ 35 ≠ 23 ∧ 35 ≠ 24 ∧ 35 ≠ 25 ∧ 35 ≠ 26 ∧ 35 ≠ 27 ∧ 35 ≠ 28 by decide), t1 (show 36 ≠ 1 ∧ 36 ≠ 18 ∧ 36 ≠ 19 ∧ 36 ≠ 20 ∧ 36 ≠ 21 ∧ 36 ≠ 22 ∧ 36 ≠ 23 ∧ 36 ≠ 24 ∧ 36 ≠ 25 ∧ 36 ≠ 26 ∧ 36 ≠ 27 ∧ 36 ≠ 28 by decide), t1 (show 37 ≠ 1 ∧ 37 ≠ 18 ∧ 37 ≠ 19 ∧ 37 ≠ 20 ∧ 37 ≠ 21 ∧ 37 ≠ 22 ∧ 37 ≠ 23 ∧ 37 ≠ 24 ∧ 37 ≠ 25 ∧ 37 ≠ 26 ∧ 37 ≠ 27 ∧ 37 ≠ 28 by decide), sf (show 40 ≠ 10 ∧ 40 ≠ 11 ∧ 40 ≠ 12 ∧ 40 ≠ 13 ∧ 40 ≠ 14 ∧ 40 ≠ 20 ∧ 40 ≠ 21 ∧ 40 ≠ 72 by decide), sf (show 50 ≠ 10 ∧ 50 ≠ 11 ∧ 50 ≠ 12 ∧ 50 ≠ 13 ∧ 50 ≠ 14 ∧ 50 ≠ 20 ∧ 50 ≠ 21 ∧ 50 ≠ 72 by decide)]
    exact hD.1 i hi
  · rw [t1 (show 33 ≠ 1 ∧ 33 ≠ 18 ∧ 33 ≠ 19 ∧ 33 ≠ 20 ∧ 33 ≠ 21 ∧ 33 ≠ 22 ∧ 33 ≠ 23 ∧ 33 ≠ 24 ∧ 33 ≠ 25 ∧ 33 ≠ 26 ∧ 33 ≠ 27 ∧ 33 ≠ 28 by decide)]
    exact hD.2.1
  · rw [t1 (show 33 ≠ 1 ∧ 33 ≠ 18 ∧ 33 ≠ 19 ∧ 33 ≠ 20 ∧ 33 ≠ 21 ∧ 33 ≠ 22 ∧ 33 ≠ 23 ∧ 33 ≠ 24 ∧ 33 ≠ 25 ∧ 33 ≠ 26 ∧ 33 ≠ 27 ∧ 33 ≠ 28 by decide), sf (show 40 ≠ 10 ∧ 40 ≠ 11 ∧ 40 ≠ 12 ∧ 40 ≠ 13 ∧ 40 ≠ 14 ∧ 40 ≠ 20 ∧ 40 ≠ 21 ∧ 40 ≠ 72 by decide), sf (show 50 ≠ 10 ∧ 50 ≠ 11 ∧ 50 ≠ 12 ∧ 50 ≠ 13 ∧ 50 ≠ 14 ∧ 50 ≠ 20 ∧ 50 ≠ 21 ∧ 50 ≠ 72 by decide)]
    exact hD.2.2.1
  · rw [sf (show 60 ≠ 10 ∧ 60 ≠ 11 ∧ 60 ≠ 12 ∧ 60 ≠ 13 ∧ 60 ≠ 14 ∧ 60 ≠ 20 ∧ 60 ≠ 21 ∧ 60 ≠ 72 by decide)]
    exact (hD.2.2.2 l2 d hl2 hd).1
  · rw [sf (show 60 ≠ 10 ∧ 60 ≠ 11 ∧ 60 ≠ 12 ∧ 60 ≠ 13 ∧ 60 ≠ 14 ∧ 60 ≠ 20 ∧ 60 ≠ 21 ∧ 60 ≠ 72 by decide), (hD.2.2.2 l2 d hl2 hd).2 k hk, s12]
    by_cases e : k = m
    · subst e
      rw [e27, b_0]
      constructor
      · rintro ⟨h, -⟩; omega
      · rintro ⟨-, -, h⟩; cases h
    · rw [st1_j e, ne (by decide) e]
      constructor
      · rintro ⟨h, h'⟩; exact ⟨by omega, h'⟩
      · rintro ⟨h, h'⟩; exact ⟨by omega, h'⟩
  · rw [sf (show 22 ≠ 10 ∧ 22 ≠ 11 ∧ 22 ≠ 12 ∧ 22 ≠ 13 ∧ 22 ≠ 14 ∧ 22 ≠ 20 ∧ 22 ≠ 21 ∧ 22 ≠ 72 by decide)] at h
    by_cases e : k = m
    · subst e
      rw [n22] at h
      exact absurd h (by decide)
    · rw [tb (show 30 ≠ 1 ∧ 30 ≠ 34 ∧ 30 ≠ 35 ∧ 30 ≠ 33 ∧ 30 ≠ 36 ∧ 30 ≠ 37 ∧ 30 ≠ 2 by decide) e, tb (show 31 ≠ 1 ∧ 31 ≠ 34 ∧ 31 ≠ 35 ∧ 31 ≠ 33 ∧ 31 ≠ 36 ∧ 31 ≠ 37 ∧ 31 ≠ 2 by decide) e]
      exact hV k (by omega) h

/-- the score of a mail -/
def lsw (S : am_T) (words : Int32) (k : Nat) (s : Int32) : Int32 := if (words >>> (nI k &&& 31)) &&& 1 = 1 then s + S 80 k else s
def lst (S : am_T) (p k : Nat) (s : Int32) : Int32 := if S 10 k = nI p ∧ S 12 k = S 70 0 then s + 1 else s
def lSc (S : am_T) (m p : Nat) (words : Int32) : Int32 := itN (lst S p) (itN (lsw S words) (S 30 p) 4) m
theorem nI16_bit : ∀ w, w < 16 → ∀ k, k < 20 → 4 ≤ k → bt (nI w) k = false := by decide +kernel
section
variable {T S : am_T} {o : Nat → Int64} {n m v t c : Nat}
theorem score_eq (h : qB T S o n m v t c) {p w : Nat} (hp : p < 8) (hw : w < 16) : lSc S m p (nI w) = itN (tsw T (nI w)) (T 5 p + tSent T m p) 20 := by
  obtain ⟨a1, a2, a3, a4, a5, a6, a7, a8, a9, a10, a11, a12⟩ := h.1
  have e1 : ∀ a, itN (tsw T (nI w)) a 20 = itN (tsw T (nI w)) a 4 := fun a => itN_id (by omega) (fun k h1 h2 x => by
    unfold tsw
    rw [nI16_bit w hw k h2 h1]
    rfl)
  have e2 : ∀ a b i, itN (tsw T (nI w)) (a + b) i = itN (tsw T (nI w)) a i + b := by
    intro a b i
    induction i with
    | zero => rfl
    | succ i ih =>
      show tsw T (nI w) i (itN (tsw T (nI w)) (a + b) i) = tsw T (nI w) i (itN (tsw T (nI w)) a i) + b
      rw [ih]
      unfold tsw
      split
      · rw [Int32.add_assoc, Int32.add_comm b, Int32.add_assoc]
      · rfl
  have e3 : ∀ a i, i ≤ m → itN (lst S p) a i = a + itN (tst T p) 0 i := by
    intro a i
    induction i with
    | zero => intro _; exact (Int32.add_zero a).symm
    | succ i ih =>
      intro hi
      show lst S p i (itN (lst S p) a i) = a + tst T p i (itN (tst T p) 0 i)
      rw [ih (by omega)]
      obtain ⟨-, b2, -, -, -, ⟨j, hj, b6, b7⟩, -⟩ := h.2.2.2.2.2.2.1 i (by omega)
      unfold lst tst
      rw [b2, b6, nI_clamp (by omega), b7, a9, a10]
      split
      · rw [Int32.add_assoc]
      · rfl
  have e4 : ∀ a, itN (lsw S (nI w)) a 4 = itN (tsw T (nI w)) a 4 := fun a => itN_congr (fun k hk s => by
    unfold lsw tsw
    rw [a12 k hk]
    by_cases h9 : bt (nI w) k = true
    · rw [if_pos h9, if_pos ((bt_iff (by omega)).mpr h9)]
    · rw [if_neg h9, if_neg (fun e => h9 ((bt_iff (by omega)).mp e))])
  obtain ⟨p5, -⟩ := h.2.1.1 p hp
  unfold lSc tSent
  rw [e1, e2, e3 _ m (Nat.le_refl m), e4, p5]
/-- the cause -/
def lCs (S : am_T) (p l : Nat) (sc : Int32) : Int32 := if (S 4 l >>> (nI p &&& 31)) &&& 1 = 1 then 0 else if S 3 l = 1 ∧ (lRe S l >>> (nI p &&& 31)) &&& 1 = 0 then 1 else if sc < S 1 l then -1 else 2
theorem cause_eq (h : qB T S o n m v t c) {p l : Nat} (hp : p < 8) (hl : l < n) (sc : Int32) : lCs S p l sc = tCause T n p l sc := by
  obtain ⟨b1, b2, b3, b4, b5, b6, b7, b8⟩ := h.2.2.1 l hl
  unfold lCs tCause
  rw [b8, b6, b3, ← qB_re h hl]
  by_cases h1 : bt (S 4 l) p = true
  · rw [if_pos h1, if_pos ((bt_iff (by omega)).mpr h1)]
  · rw [if_neg h1, if_neg (fun e => h1 ((bt_iff (by omega)).mp e))]
    by_cases h2 : ¬ S 3 l = 0 ∧ bt (lRe S l) p = false
    · rw [if_pos h2, if_pos ⟨b7.resolve_left h2.1, (bt_iff0 (by omega)).mpr h2.2⟩]
    · rw [if_neg h2, if_neg (fun e => h2 ⟨by rw [e.1]; decide, (bt_iff0 (by omega)).mp e.2⟩)]
end
