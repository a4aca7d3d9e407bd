/-! each call: list, read, refuse, mails, held -/
theorem nl16 (A : am_T) (n j : Nat) : ∀ i, itN (fun k S1 => st1 S1 16 (16 * n + k) (-1)) A i 16 j = if 16 * n ≤ j ∧ j < 16 * n + i then -1 else A 16 j := by
  intro i
  induction i with
  | zero => rw [if_neg (by omega)]; rfl
  | succ i ih =>
    show st1 (itN (fun k S1 => st1 S1 16 (16 * n + k) (-1)) A i) 16 (16 * n + i) (-1) 16 j = _
    rw [st1_at, ih]
    by_cases h : j = 16 * n + i
    · rw [if_pos ⟨rfl, h⟩, if_pos (by omega)]
    · rw [if_neg (fun e => h e.2)]
      by_cases h2 : 16 * n ≤ j ∧ j < 16 * n + i
      · rw [if_pos h2, if_pos (by omega)]
      · rw [if_neg h2, if_neg (by omega)]
theorem nl_f (A : am_T) (n : Nat) {g : Nat} (h : g ≠ 16) (i : Nat) : itN (fun k S1 => st1 S1 16 (16 * n + k) (-1)) A i g = A g := itN_f (F := fun k S1 => st1 S1 16 (16 * n + k) (-1)) g (fun k S => st1_f h) A i
def sNewL (S : am_T) (n : Nat) (x : Int32) : am_T := st1 (itN (fun k S1 => st1 S1 16 (16 * n + k) (-1)) (st1 (st1 (st1 (st1 S 0 0 0) 10 n x) 11 n 10) 12 n 7) 16) 9 0 (nI n + 1)
theorem sNewL_f (S : am_T) (n : Nat) (x : Int32) {g : Nat} (h : g ≠ 0 ∧ g ≠ 9 ∧ g ≠ 10 ∧ g ≠ 11 ∧ g ≠ 12 ∧ g ≠ 16) : sNewL S n x g = S g := by
  obtain ⟨h0, h9, h10, h11, h12, h16⟩ := h
  unfold sNewL
  rw [st1_f h9, nl_f _ _ h16, st1_f h12, st1_f h11, st1_f h10, st1_f h0]
theorem sNewL_16 (S : am_T) (n : Nat) (x : Int32) (j : Nat) : sNewL S n x 16 j = if 16 * n ≤ j ∧ j < 16 * n + 16 then -1 else S 16 j := by
  unfold sNewL
  rw [st1_f (by decide), nl16]
  rfl
theorem sNewL_at (S : am_T) (n : Nat) (x : Int32) (j : Nat) : sNewL S n x 10 j = (if j = n then x else S 10 j) ∧ sNewL S n x 11 j = (if j = n then 10 else S 11 j) ∧ sNewL S n x 12 j = (if j = n then 7 else S 12 j) := by
  unfold sNewL
  refine ⟨?_, ?_, ?_⟩
  · rw [st1_f (by decide), nl_f _ _ (by decide), st1_f (by decide), st1_f (by decide), st1_at]
    by_cases e : j = n
    · rw [if_pos ⟨rfl, e⟩, if_pos e]
    · rw [if_neg (fun e9 => e e9.2), if_neg e]; rfl
  · rw [st1_f (by decide), nl_f _ _ (by decide), st1_f (by decide), st1_at]
    by_cases e : j = n
    · rw [if_pos ⟨rfl, e⟩, if_pos e]
    · rw [if_neg (fun e9 => e e9.2), if_neg e]; rfl
  · rw [st1_f (by decide), nl_f _ _ (by decide), st1_at]
    by_cases e : j = n
    · rw [if_pos ⟨rfl, e⟩, if_pos e]
    · rw [if_neg (fun e9 => e e9.2), if_neg e]; rfl
theorem jR_newL {T S : am_T} {n m v t c p : Nat} (h : jR T S n m v t c) (h10 : n < 10) (hp : p < 16) : jR (tNewL T n (nI p)) (sNewL S n (nI p)) (n + 1) m v t c := by
  obtain ⟨⟨hA, hW, hL, hP, hM, hF, hK, hQ, hN⟩, hD⟩ := h
  obtain ⟨a1, a2, a3, a4, a5, a6, a7, a8, a9, a10, a11, a12, a13⟩ := hA
  have tf : ∀ {g : Nat}, (g ≠ 0 ∧ g ≠ 10 ∧ g ≠ 11 ∧ g ≠ 12 ∧ g ≠ 13 ∧ g ≠ 14 ∧ g ≠ 15 ∧ g ≠ 16 ∧ g ≠ 17) → tNewL T n (nI p) g = T g := fun h => tNewL_f h
  have sf : ∀ {g : Nat}, (g ≠ 0 ∧ g ≠ 9 ∧ g ≠ 10 ∧ g ≠ 11 ∧ g ≠ 12 ∧ g ≠ 16) → sNewL S n (nI p) g = S g := fun h => sNewL_f S n _ h
  refine ⟨⟨⟨by rw [tNewL_0, nI_1], by unfold sNewL; rw [st1_same, nI_1], by omega, by rw [tf (by decide)]; exact a4, by rw [sf (by decide)]; exact a5, a6, by rw [tf (by decide)]; exact a7, a8, by rw [tf (by decide)]; exact a9, by rw [sf (by decide)]; exact a10, a11, by rw [sf (by decide)]; exact a12, by rw [tf (by decide), sf (by decide)]; exact a13⟩,
    jW_c hW (tf (by decide)) (tf (by decide)) (tf (by decide)) (tf (by decide)) (tf (by decide)) (sf (by decide)) (sf (by decide)) (sf (by decide)) (sf (by decide)) (sf (by decide)), ?_, ?_, ?_, ?_, ?_,
    jQ_c hQ (tf (by decide)) (tf (by decide)) (tf (by decide)) (tf (by decide)) (tf (by decide)) (sf (by decide)) (sf (by decide)) (sf (by decide)) (sf (by decide)) (sf (by decide)) (sf (by decide)),
    jN_c hN (tf (by decide)) (sf (by decide)) (sf (by decide)) (sf (by decide)) (sf (by decide)) (sf (by decide)) (sf (by decide))⟩, ?_⟩
  · intro l hl
    obtain ⟨b1, b2, b3⟩ := sNewL_at S n (nI p) l
    rw [b1, b2, b3, sf (show 13 ≠ 0 ∧ _ by decide), sf (show 14 ≠ 0 ∧ _ by decide)]
    by_cases e : l = n
    · subst e
      obtain ⟨f1, f2, f3⟩ := hF l (Nat.le_refl l) h10
      rw [if_pos rfl, if_pos rfl, if_pos rfl, tNewL_10, tNewL_14, tNewL_15, tNewL_16, tNewL_17, f1, f2]
      exact ⟨⟨p, hp, rfl⟩, rfl, rfl, rfl, rfl, ⟨7, by decide, by decide, rfl⟩, rfl⟩
    · rw [if_neg e, if_neg e, if_neg e, tNewL_ne (by decide) e, tNewL_ne (by decide) e, tNewL_ne (by decide) e, tNewL_ne (by decide) e, tNewL_ne (by decide) e]
      exact hL l (by omega)
  · refine ⟨by omega, fun l hl => ?_⟩
    rw [sf (show 15 ≠ 0 ∧ _ by decide)]
    by_cases e : l = n
    · subst e
      obtain ⟨f1, f2, f3⟩ := hF l (Nat.le_refl l) h10
      rw [tNewL_13, f3]
      exact ⟨rfl, bd_0 _⟩
    · rw [tNewL_ne (by decide) e]
      obtain ⟨g1, g2⟩ := hP.2 l (by omega)
      exact ⟨g1, fun i hi => by have := g2 i hi; omega⟩
  · intro l hl
    by_cases e : l = n
    · subst e
      rw [tNewL_11]
      refine ⟨fun q hq => ?_, bd_0 _⟩
      rw [sNewL_16, if_pos (by omega), b_0]
      exact ⟨⟨fun e => (by cases e), fun e => absurd rfl e⟩, Or.inl rfl, fun e => (by cases e)⟩
    · rw [tNewL_ne (by decide) e, tNewL_ne (by decide) e]
      obtain ⟨g1, g2⟩ := hM l (by omega)
      refine ⟨fun q hq => ?_, g2⟩
      rw [sNewL_16, if_neg (by omega)]
      exact g1 q hq
  · intro l hl hl9
    rw [sf (show 13 ≠ 0 ∧ _ by decide), sf (show 14 ≠ 0 ∧ _ by decide), sf (show 15 ≠ 0 ∧ _ by decide)]
    exact hF l (by omega) hl9
  · have hK2 := jK_c (T' := tNewL T n (nI p)) (S' := sNewL S n (nI p)) hK (tf (by decide)) (tf (by decide)) (tf (by decide)) (tf (by decide)) (tf (by decide)) (tf (by decide)) (tf (by decide)) (tf (by decide)) (tf (by decide)) (tf (by decide)) (tf (by decide)) (sf (by decide)) (sf (by decide)) (sf (by decide)) (sf (by decide)) (sf (by decide)) (sf (by decide)) (sf (by decide)) (sf (by decide)) (sf (by decide)) (sf (by decide))
    intro k hk
    obtain ⟨b1, b2, b3, b4, ⟨l, hl, b5⟩, b6⟩ := hK2 k hk
    exact ⟨b1, b2, b3, b4, ⟨l, by omega, b5⟩, b6⟩
  · obtain ⟨d1, d2, d3⟩ := jD_c (T' := tNewL T n (nI p)) (S' := sNewL S n (nI p)) hD.1 (tf (by decide)) (tf (by decide)) (tf (by decide)) (tf (by decide)) (tf (by decide)) (sf (by decide)) (sf (by decide)) (sf (by decide)) (sf (by decide))
    refine ⟨⟨d1, d2, fun l d hl hd => ?_⟩, jV_c hD.2 (tf (by decide)) (tf (by decide)) (tf (by decide)) (sf (by decide))⟩
    obtain ⟨g1, g2, g3⟩ := d3 l d hl hd
    exact ⟨g1, fun h9 => g2 (by omega), g3⟩
set_option maxRecDepth 20000 in
set_option maxHeartbeats 1000000 in
theorem op_list {G : am_S} (hG : G.1.stackTraces = false) {c0 : Nat} (hc0 : c0 < 1024) {T S : am_T} {o : Nat → Int64} (h : Rel c0 T S) : ∀ x1 : Int32, ∃ (kk bb : Int32) (T' S' : am_T) (o' : Nat → Int64), am_D G yL_list (.codeWith yL_list cL_list 4 (some .int) [(0, 9, 12, 13), (0, 9, 15, 15)] :: am_G) am_WR (hp T S o) [.ref 0, .int x1, .ref 464] (hp T' S o') (some (.int kk)) ∧ am_D G yX6_list (.code yX6_list cX6_list 3 (some .int) :: am_G) { frames := 2, cells := 0, slots := 0, locals := 42 } (hp T' S o') [.ref 465, .int x1] (hp T' S' o') (some (.int bb)) ∧ S' 0 0 = kk ∧ (kk = 0 → o' 0 = bb.toInt64) ∧ Rel (c0 + 1) T' S' := by
  obtain ⟨n, m, v, t, c, hc, hR⟩ := h
  have hs := jR_safe hR
  have ha := jR_all hR
  obtain ⟨⟨hA, hW, hL, hP, hM, hF, hK, hQ, hN⟩, hD⟩ := id hR
  obtain ⟨hn, hn2, hn10, hm, hm2, hm80, hv, hvm, ht, ht2, ht4, hcc, hwd⟩ := id hA
  have hv80 : v ≤ 80 := by omega
  intro x1
  rcases ixs x1 16 (by omega) with hx | ⟨p, hp, rfl⟩
  · exact ⟨1, 0, T, (st1 S 0 0 1), o, w_list_1 ⟨by decide, by decide, by decide, by decide⟩ (c_p_list_1 hG hx), c_r_list_1 hx, rfl, fun h0 => absurd h0 (by decide), Rel_0 hc hR _⟩
  by_cases h10 : n = 10
  · exact ⟨2, 0, T, (st1 S 0 0 2), o, w_list_2 ⟨by decide, by decide, by decide, by decide⟩ (c_p_list_2 hG hp (by rw [hn, h10])), c_r_list_2 hn2 hn10 hp h10, rfl, fun h0 => absurd h0 (by decide), Rel_0 hc hR _⟩
  · exact ⟨0, nI n, (tNewL T n (nI p)), (sNewL S n (nI p)), am_updL o 0 (nI n).toInt64, w_list_n ⟨by decide, by decide, by decide, by decide⟩ (c_p_list_n hs (by omega) hp), c_r_list_3 hn2 hn10 hp (by omega), rfl, fun _ => up0 o _, ⟨n + 1, m, v, t, c, by omega, jR_newL hR (by omega) hp⟩⟩
theorem rsh_at (p : Nat) (S : am_T) (i : Nat) : ∀ b, itN (rsh p) S b 8 i = if 10 * p ≤ i ∧ i < 10 * p + b then S 8 (i + 1) else S 8 i := by
  intro b
  induction b generalizing i with
  | zero => rw [if_neg (by omega)]; rfl
  | succ b ih =>
    show st1 (itN (rsh p) S b) 8 (10 * p + b) (itN (rsh p) S b 8 (10 * p + (b + 1))) 8 i = _
    rw [st1_at, ih, ih]
    by_cases h : i = 10 * p + b
    · rw [if_pos ⟨rfl, h⟩, if_neg (by omega), if_pos (by omega), h]
      rfl
    · rw [if_neg (fun e => h e.2)]
      by_cases h2 : 10 * p ≤ i ∧ i < 10 * p + b
      · rw [if_pos h2, if_pos (by omega)]
      · rw [if_neg h2, if_neg (by omega)]
theorem rsh_f {p g : Nat} (h : g ≠ 8) (S : am_T) (b : Nat) : itN (rsh p) S b g = S g := itN_f (F := rsh p) g (fun k S => st1_f h) S b
theorem jW_read {T S : am_T} {p b : Nat} (h : jW T S) (hp : p < 16) (hb : S 7 p = nI (b + 1)) (hb10 : b < 10) : jW (tSh (st1 T 8 p ((nI (b + 1)) - 1)) p b) (st1 (itN (rsh p) (st1 S 0 0 0) (b + 1 - 1)) 7 p (nI (b + 1) - 1)) := by
  refine ⟨fun q hq => ?_, fun i hi => ?_⟩
  · obtain ⟨a1, a2, a3, a4, a5, a6⟩ := h.1 q hq
    have e : ∀ {g : Nat}, g ≠ 9 → tSh (st1 T 8 p ((nI (b + 1)) - 1)) p b g = st1 T 8 p ((nI (b + 1)) - 1) g := fun h9 => if_neg h9
    rw [e (by decide), e (by decide), e (by decide), e (by decide), st1_f (show 5 ≠ 8 by decide), st1_f (show 6 ≠ 8 by decide), st1_f (show 7 ≠ 8 by decide), st1_f (show 4 ≠ 7 by decide), st1_f (show 5 ≠ 7 by decide), st1_f (show 6 ≠ 7 by decide), rsh_f (by decide), rsh_f (by decide), rsh_f (by decide)]
    refine ⟨a1, a2, a3, a4, ?_⟩
    rw [st1_at, st1_at]
    by_cases hqp : q = p
    · rw [if_pos ⟨rfl, hqp⟩, if_pos ⟨rfl, hqp⟩, nI_pred]
      exact ⟨rfl, b, by omega, rfl⟩
    · rw [if_neg (fun e => hqp e.2), if_neg (fun e => hqp e.2), rsh_f (by decide)]
      exact ⟨a5, a6⟩
  · rw [st1_f (show 8 ≠ 7 by decide), rsh_at]
    show (if 10 * p ≤ i ∧ i < 10 * p + b then T 9 (i + 1) else T 9 i) = _
    rw [show b + 1 - 1 = b from rfl]
    by_cases h2 : 10 * p ≤ i ∧ i < 10 * p + b
    · rw [if_pos h2, if_pos h2]; exact h.2 _ (by omega)
    · rw [if_neg h2, if_neg h2]; exact h.2 _ hi
set_option maxRecDepth 20000 in
set_option maxHeartbeats 1000000 in
theorem op_read {G : am_S} (hG : G.1.stackTraces = false) {c0 : Nat} (hc0 : c0 < 1024) {T S : am_T} {o : Nat → Int64} (h : Rel c0 T S) : ∀ x1 : Int32, ∃ (kk bb : Int32) (T' S' : am_T) (o' : Nat → Int64), am_D G yL_read (.codeWith yL_read cL_read 4 (some .int) [(0, 9, 12, 13)] :: am_G) am_WR (hp T S o) [.ref 0, .int x1, .ref 464] (hp T' S o') (some (.int kk)) ∧ am_D G yX6_read (.code yX6_read cX6_read 4 (some .int) :: am_G) { frames := 2, cells := 0, slots := 0, locals := 42 } (hp T' S o') [.ref 465, .int x1] (hp T' S' o') (some (.int bb)) ∧ S' 0 0 = kk ∧ (kk = 0 → o' 0 = bb.toInt64) ∧ Rel (c0 + 1) T' S' := by
  obtain ⟨n, m, v, t, c, hc, hR⟩ := h
  have hs := jR_safe hR
  have ha := jR_all hR
  obtain ⟨⟨hA, hW, hL, hP, hM, hF, hK, hQ, hN⟩, hD⟩ := id hR
  obtain ⟨hn, hn2, hn10, hm, hm2, hm80, hv, hvm, ht, ht2, ht4, hcc, hwd⟩ := id hA
  have hv80 : v ≤ 80 := by omega
  intro x1
  rcases ixs x1 16 (by omega) with hx | ⟨p, hp, rfl⟩
  · exact ⟨1, 0, T, (st1 S 0 0 1), o, w_read_1 ⟨by decide, by decide, by decide, by decide⟩ (c_p_read_1 hG hx), c_r_read_1 hx, rfl, fun h0 => absurd h0 (by decide), Rel_0 hc hR _⟩
  obtain ⟨-, -, -, -, e8, b, hb10, hb⟩ := hW.1 p hp
  cases b with
  | zero => exact ⟨0, -1, T, (st1 S 0 0 0), am_updL o 0 (-1).toInt64, w_read_n ⟨by decide, by decide, by decide, by decide⟩ (c_p_read_n0 hp (e8.trans hb)), c_r_read_2 hp hb, rfl, fun _ => up0 o _, Rel_0 hc hR _⟩
  | succ b =>
    have e9 : T 9 (10 * p + 0) = S 8 (10 * p) := hW.2 _ (by omega)
    have sf : ∀ {g : Nat}, g ≠ 0 ∧ g ≠ 8 ∧ g ≠ 7 → (st1 (itN (rsh p) (st1 S 0 0 0) (b + 1 - 1)) 7 p (nI (b + 1) - 1)) g = S g := fun h9 => by rw [st1_f h9.2.2, rsh_f h9.2.1, st1_f h9.1]
    have hrel : Rel (c0 + 1) (tSh (st1 T 8 p ((nI (b + 1)) - 1)) p b) (st1 (itN (rsh p) (st1 S 0 0 0) (b + 1 - 1)) 7 p (nI (b + 1) - 1)) := ⟨n, m, v, t, c, by omega, ⟨⟨jA_c hA rfl rfl rfl rfl rfl (sf (by decide)) (sf (by decide)) (sf (by decide)) (sf (by decide)) (sf (by decide)), jW_read hW hp hb (by omega), jL_c hL rfl rfl rfl rfl rfl (sf (by decide)) (sf (by decide)) (sf (by decide)) (sf (by decide)) (sf (by decide)), jP_c hP rfl (sf (by decide)), jM_c hM rfl rfl (sf (by decide)), jF_c hF (sf (by decide)) (sf (by decide)) (sf (by decide)), jK_c hK rfl rfl rfl rfl rfl rfl rfl rfl rfl rfl rfl (sf (by decide)) (sf (by decide)) (sf (by decide)) (sf (by decide)) (sf (by decide)) (sf (by decide)) (sf (by decide)) (sf (by decide)) (sf (by decide)) (sf (by decide)), jQ_c hQ rfl rfl rfl rfl rfl (sf (by decide)) (sf (by decide)) (sf (by decide)) (sf (by decide)) (sf (by decide)) (sf (by decide)), jN_c hN rfl (sf (by decide)) (sf (by decide)) (sf (by decide)) (sf (by decide)) (sf (by decide)) (sf (by decide))⟩, jD_c hD.1 rfl rfl rfl rfl rfl (sf (by decide)) (sf (by decide)) (sf (by decide)) (sf (by decide)), jV_c hD.2 rfl rfl rfl (sf (by decide))⟩⟩
    exact ⟨0, S 8 (10 * p), (tSh (st1 T 8 p ((nI (b + 1)) - 1)) p b), (st1 (itN (rsh p) (st1 S 0 0 0) (b + 1 - 1)) 7 p (nI (b + 1) - 1)), am_updL o 0 (T 9 (10 * p + 0)).toInt64, w_read_n ⟨by decide, by decide, by decide, by decide⟩ (c_p_read_n1 hp (e8.trans hb) (by omega)), c_r_read_3 hp hb hb10 (by omega), (by rw [st1_f (by decide), rsh_f (by decide)]; rfl), fun _ => (up0 o _).trans (congrArg Int32.toInt64 e9), hrel⟩
theorem open_iff {T S : am_T} {m k : Nat} (hQ : jQ T S m) (hk : k < m) : (T 28 k = 1 ∧ ¬ T 32 k = 0) ↔ ¬ S 27 k = 0 := by
  obtain ⟨q1, q2, q3, q5, q4⟩ := hQ k hk
  constructor
  · rintro ⟨h1, h2⟩ h3
    exact h2 ((q4 h1).1.mpr h3)
  · intro h3
    have h1 := q1.mpr (q2 h3).2
    exact ⟨h1, fun h2 => h3 ((q4 h1).1.mp h2)⟩
theorem held_iff {T S : am_T} {n m v t k : Nat} (hK : jK T S n m v t) (hQ : jQ T S m) (hk : k < m) : (T 25 k = 1 ∧ ¬ (T 28 k = 1 ∧ ¬ T 32 k = 0)) ↔ (S 24 k = 1 ∧ S 27 k = 0) := by
  rw [open_iff hQ hk, Decidable.not_not, (hK k hk).2.2.2.2.2.2.2.2.2.2.2.1]
/-- a mail's state goes to what isn't 'held', its appeal not open -/
theorem jK_st {T S : am_T} {n m v t k : Nat} {x w : Int32} (hK : jK T S n m v t) (hx : ¬ x = 1) : jK (st1 T 25 k x) (st1 (st1 S 0 0 w) 24 k x) n m v t := by
  intro i hi
  obtain ⟨b1, b2, b3, b4, b5, b6, b7, b8, b9, b10, ⟨e, he, b11, b12⟩, b13, b14, b15, b16⟩ := hK i hi
  by_cases e9 : i = k
  · subst e9
    refine ⟨b1, b2, b3, b4, b5, b6, b7, b8, b9, b10, ⟨e, he, b11, fun h1 => ?_⟩, ?_, b14, b15, fun h1 => ?_⟩
    · rw [st1_same] at h1; exact absurd h1 hx
    · rw [st1_same, st1_same]
    · rw [st1_same] at h1; exact absurd h1 hx
  · have e1 : st1 (st1 S 0 0 w) 24 k x 24 i = S 24 i := by rw [st1_j e9]; rfl
    refine ⟨b1, b2, b3, b4, b5, b6, b7, b8, b9, b10, ⟨e, he, b11, fun h1 => ?_⟩, ?_, b14, b15, fun h1 => ?_⟩
    · rw [e1] at h1; exact b12 h1
    · rw [e1, st1_j e9]; exact b13
    · rw [e1] at h1; exact b16 h1
theorem jQ_st {T S : am_T} {m k : Nat} {x w : Int32} (hQ : jQ T S m) (hk : k < m) (ho : S 27 k = 0) (hx : ¬ x = 1) : jQ (st1 T 25 k x) (st1 (st1 S 0 0 w) 24 k x) m := by
  intro i hi
  obtain ⟨q1, q2, q3, q5, q4⟩ := hQ i hi
  by_cases e9 : i = k
  · subst e9
    refine ⟨q1, fun h => absurd ho h, fun h => ?_, q5, q4⟩
    rw [st1_same] at h; exact absurd h hx
  · have e1 : st1 (st1 S 0 0 w) 24 k x 24 i = S 24 i := by rw [st1_j e9]; rfl
    rw [e1]
    exact ⟨q1, q2, q3, q5, q4⟩
set_option maxRecDepth 20000 in
set_option maxHeartbeats 1000000 in
theorem op_refuse {G : am_S} (hG : G.1.stackTraces = false) {c0 : Nat} (hc0 : c0 < 1024) {T S : am_T} {o : Nat → Int64} (h : Rel c0 T S) : ∀ x1 : Int32, ∃ (kk bb : Int32) (T' S' : am_T) (o' : Nat → Int64), am_D G yL_refuse (.codeWith yL_refuse cL_refuse 4 (some .int) [(0, 9, 12, 13), (0, 9, 15, 15)] :: am_G) am_WR (hp T S o) [.ref 0, .int x1, .ref 464] (hp T' S o') (some (.int kk)) ∧ am_D G yX6_refuse (.code yX6_refuse cX6_refuse 2 (some .int) :: am_G) { frames := 3, cells := 0, slots := 0, locals := 64 } (hp T' S o') [.ref 465, .int x1] (hp T' S' o') (some (.int bb)) ∧ S' 0 0 = kk ∧ (kk = 0 → o' 0 = bb.toInt64) ∧ Rel (c0 + 1) T' S' := by
  obtain ⟨n, m, v, t, c, hc, hR⟩ := h
  have hs := jR_safe hR
  have ha := jR_all hR
  obtain ⟨⟨hA, hW, hL, hP, hM, hF, hK, hQ, hN⟩, hD⟩ := id hR
  obtain ⟨hn, hn2, hn10, hm, hm2, hm80, hv, hvm, ht, ht2, ht4, hcc, hwd⟩ := id hA
  have hv80 : v ≤ 80 := by omega
  intro x1
  rcases ixs x1 m (by omega) with hx | ⟨k, hk, rfl⟩
  · exact ⟨1, 0, T, (st1 S 0 0 1), o, w_refuse_1 ⟨by decide, by decide, by decide, by decide⟩ (c_p_refuse_1 hG hm hm80 hx), c_r_refuse_1 hm2 hm80 hx, rfl, fun h0 => absurd h0 (by decide), Rel_0 hc hR _⟩
  by_cases hh : S 24 k = 1 ∧ S 27 k = 0
  · have h9 := (held_iff hK hQ hk).mpr hh
    have e9 : T 22 k = S 22 k := (hK k hk).2.2.2.2.2.2.2.1
    exact ⟨0, S 22 k, (st1 T 25 k 3), (st1 (st1 S 0 0 0) 24 k 3), am_updL o 0 (T 22 k).toInt64, w_refuse_n ⟨by decide, by decide, by decide, by decide⟩ (c_p_refuse_n hm hm80 hk h9.1 h9.2), c_r_refuse_3 hm2 hm80 hk hh, rfl, fun _ => (up0 o _).trans (congrArg Int32.toInt64 e9), ⟨n, m, v, t, c, by omega, ⟨⟨jA_c hA rfl rfl rfl rfl rfl rfl rfl rfl rfl rfl, jW_c hW rfl rfl rfl rfl rfl rfl rfl rfl rfl rfl, jL_c hL rfl rfl rfl rfl rfl rfl rfl rfl rfl rfl, jP_c hP rfl rfl, jM_c hM rfl rfl rfl, jF_c hF rfl rfl rfl, jK_st hK (by decide), jQ_st hQ hk hh.2 (by decide), jN_c hN rfl rfl rfl rfl rfl rfl rfl⟩, jD_c hD.1 rfl rfl rfl rfl rfl rfl rfl rfl rfl, jV_c hD.2 rfl rfl rfl rfl⟩⟩⟩
  · have h9 : ¬ T 25 k = 1 ∨ (T 28 k = 1 ∧ ¬ T 32 k = 0) := by
      by_cases h1 : T 25 k = 1
      · by_cases h2 : T 28 k = 1 ∧ ¬ T 32 k = 0
        · exact Or.inr h2
        · exact absurd ((held_iff hK hQ hk).mp ⟨h1, h2⟩) hh
      · exact Or.inl h1
    exact ⟨2, 0, T, (st1 S 0 0 2), o, w_refuse_2 ⟨by decide, by decide, by decide, by decide⟩ (c_p_refuse_2 hG hm hm80 hk h9), c_r_refuse_2 hm2 hm80 hk hh, rfl, fun h0 => absurd h0 (by decide), Rel_0 hc hR _⟩
set_option maxRecDepth 20000 in
set_option maxHeartbeats 1000000 in
theorem op_mails {G : am_S} (hG : G.1.stackTraces = false) {c0 : Nat} (hc0 : c0 < 1024) {T S : am_T} {o : Nat → Int64} (h : Rel c0 T S) : ∃ (bb : Int32) (S' : am_T), am_D G yX5_mails (.code yX5_mails cX5_mails 1 (some .int) :: am_G) { frames := 0, cells := 0, slots := 0, locals := 0 } (hp T S o) [.ref 0] (hp T S o) (some (.int bb)) ∧ am_D G yX6_mails (.code yX6_mails cX6_mails 1 (some .int) :: am_G) { frames := 0, cells := 0, slots := 0, locals := 0 } (hp T S o) [.ref 465] (hp T S' o) (some (.int bb)) ∧ Rel (c0 + 1) T S' := by
  obtain ⟨n, m, v, t, c, hc, hR⟩ := h
  have hs := jR_safe hR
  have ha := jR_all hR
  obtain ⟨⟨hA, hW, hL, hP, hM, hF, hK, hQ, hN⟩, hD⟩ := id hR
  obtain ⟨hn, hn2, hn10, hm, hm2, hm80, hv, hvm, ht, ht2, ht4, hcc, hwd⟩ := id hA
  have hv80 : v ≤ 80 := by omega
  exact ⟨nI m, st1 S 0 0 0, c_p_mails_n hm hm80, c_r_mails hm2 hm80, Rel_0 hc hR _⟩
set_option maxRecDepth 20000 in
set_option maxHeartbeats 1000000 in
theorem op_held {G : am_S} (hG : G.1.stackTraces = false) {c0 : Nat} (hc0 : c0 < 1024) {T S : am_T} {o : Nat → Int64} (h : Rel c0 T S) : ∃ (bb : Int32) (S' : am_T), am_D G yX5_held (.code yX5_held cX5_held 3 (some .int) :: am_G) { frames := 0, cells := 0, slots := 0, locals := 0 } (hp T S o) [.ref 0] (hp T S o) (some (.int bb)) ∧ am_D G yX6_held_ (.code yX6_held_ cX6_held_ 3 (some .int) :: am_G) { frames := 0, cells := 0, slots := 0, locals := 0 } (hp T S o) [.ref 465] (hp T S' o) (some (.int bb)) ∧ Rel (c0 + 1) T S' := by
  obtain ⟨n, m, v, t, c, hc, hR⟩ := h
  have hs := jR_safe hR
  have ha := jR_all hR
  obtain ⟨⟨hA, hW, hL, hP, hM, hF, hK, hQ, hN⟩, hD⟩ := id hR
  obtain ⟨hn, hn2, hn10, hm, hm2, hm80, hv, hvm, ht, ht2, ht4, hcc, hwd⟩ := id hA
  have hv80 : v ≤ 80 := by omega
  have e9 : itN (thl T) 0 m = rHeld S m := itN_congr (fun k hk a => by
    unfold thl
    rw [(hK k hk).2.2.2.2.2.2.2.2.2.2.2.1]
    by_cases h1 : S 24 k = 1
    · rw [if_pos h1, if_pos h1]
    · rw [if_neg h1, if_neg h1, Int32.add_zero])
  have h9 := c_p_held_n (G := G) (T := T) (S := S) (o := o) hm hm80
  rw [e9] at h9
  exact ⟨rHeld S m, st1 S 0 0 0, h9, c_r_heldn hm2 hm80, Rel_0 hc hR _⟩
