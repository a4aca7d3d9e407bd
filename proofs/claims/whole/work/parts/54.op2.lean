/-! each call: lists, words, boxes -/
theorem b_andn (x y : Int32) {i : Nat} (hi : i < 32) : bt (x &&& (y ^^^ (-1))) i = (bt x i && !bt y i) := by
  rw [b_and, b_xor, b_m1 i hi, Bool.xor_true]
theorem bt_false {x : Int32} {i : Nat} : ¬ bt x i = true ↔ bt x i = false := by cases bt x i <;> decide
theorem bd_or {n : Nat} {x y : Int32} (h1 : bd n x) (h2 : bd n y) : bd n (x ||| y) := fun i h => by
  rw [b_or, Bool.or_eq_true] at h
  exact h.elim (h1 i) (h2 i)
theorem bd_andn {n : Nat} {x : Int32} (y : Int32) (h1 : bd n x) : bd n (x &&& y) := fun i h => by
  rw [b_and, Bool.and_eq_true] at h
  exact h1 i h.1
theorem bd_xor {n : Nat} {x y : Int32} (h1 : bd n x) (h2 : bd n y) : bd n (x ^^^ y) := fun i h => by
  by_cases h3 : bt x i = true
  · exact h1 i h3
  · by_cases h4 : bt y i = true
    · exact h2 i h4
    · rw [b_xor, bt_false.mp h3, bt_false.mp h4] at h
      cases h
theorem bd_0 (n : Nat) : bd n 0 := fun i h => by rw [b_0] at h; cases h
theorem tPut_11 (T : am_T) (l p : Nat) (x : Int32) (j : Nat) : tPut T l p x 11 j = if j = l then T 11 l ||| (1 : Int32) <<< (nI p &&& 31) else T 11 j := by
  unfold tPut
  rw [st1_f (by decide), st1_at]
  by_cases h : j = l
  · rw [if_pos ⟨rfl, h⟩, if_pos h]
  · rw [if_neg (fun e => h e.2), if_neg h]
theorem tPut_12 (T : am_T) (l p : Nat) (x : Int32) (j : Nat) : tPut T l p x 12 j = if j = l then (if x = 0 then T 12 l ||| (1 : Int32) <<< (nI p &&& 31) else T 12 l &&& ((1 : Int32) <<< (nI p &&& 31) ^^^ (-1))) else T 12 j := by
  unfold tPut
  rw [st1_at]
  by_cases h : j = l
  · rw [if_pos ⟨rfl, h⟩, if_pos h]
  · rw [if_neg (fun e => h e.2), if_neg h, st1_f (by decide)]
theorem tDrop_11 (T : am_T) (l p : Nat) (j : Nat) : tDrop T l p 11 j = if j = l then T 11 l &&& ((1 : Int32) <<< (nI p &&& 31) ^^^ (-1)) else T 11 j := by
  unfold tDrop
  rw [st1_f (by decide), st1_at]
  by_cases h : j = l
  · rw [if_pos ⟨rfl, h⟩, if_pos h]
  · rw [if_neg (fun e => h e.2), if_neg h]
theorem tDrop_12 (T : am_T) (l p : Nat) (j : Nat) : tDrop T l p 12 j = if j = l then T 12 l &&& ((1 : Int32) <<< (nI p &&& 31) ^^^ (-1)) else T 12 j := by
  unfold tDrop
  rw [st1_at]
  by_cases h : j = l
  · rw [if_pos ⟨rfl, h⟩, if_pos h]
  · rw [if_neg (fun e => h e.2), if_neg h, st1_f (by decide)]
section
variable {T S S' : am_T} {n : Nat}
/-- a member is put into a list, or its mode changed -/
theorem jM_put (h : jM T S n) {l p q : Nat} (hl : l < n) (hp : p < 16) (hq : q < 2) (e16 : ∀ j, S' 16 j = if j = 16 * l + p then nI q else S 16 j) : jM (tPut T l p (nI q)) S' n := by
  intro k hk
  obtain ⟨h1, h2⟩ := h k hk
  rw [tPut_11, tPut_12]
  by_cases hkl : k = l
  · subst hkl
    rw [if_pos rfl, if_pos rfl]
    refine ⟨fun i hi => ?_, bd_or h2 (bd_bit hp (by decide))⟩
    rw [e16, b_or, b_bit (by omega) (by omega)]
    obtain ⟨a1, a2, a3⟩ := h1 i hi
    by_cases hip : i = p
    · subst hip
      rw [if_pos rfl, decide_eq_true rfl, Bool.or_true]
      have hq9 : q = 0 ∨ q = 1 := by omega
      rcases hq9 with rfl | rfl
      · refine ⟨⟨fun _ => by decide, fun _ => rfl⟩, Or.inr (Or.inl rfl), fun _ => ?_⟩
        rw [if_pos (show nI 0 = 0 from rfl), b_or, bt_bit (by omega), Bool.or_true]
        exact ⟨fun _ => rfl, fun _ => rfl⟩
      · refine ⟨⟨fun _ => by decide, fun _ => rfl⟩, Or.inr (Or.inr rfl), fun _ => ?_⟩
        rw [if_neg (show ¬ nI 1 = 0 by decide), b_andn _ _ (by omega), bt_bit (by omega)]
        exact ⟨fun e => (by rw [Bool.not_true, Bool.and_false] at e; cases e), fun e => absurd e (by decide)⟩
    · have hne : ¬ 16 * k + i = 16 * k + p := by omega
      rw [if_neg hne, decide_eq_false hip, Bool.or_false]
      refine ⟨a1, a2, fun hb => ?_⟩
      rw [← a3 hb]
      split
      · rw [b_or, b_bit (by omega) (by omega), decide_eq_false hip, Bool.or_false]
      · rw [b_andn _ _ (by omega), b_bit (by omega) (by omega), decide_eq_false hip, Bool.not_false, Bool.and_true]
  · rw [if_neg hkl, if_neg hkl]
    refine ⟨fun i hi => ?_, h2⟩
    rw [e16, if_neg (show ¬ 16 * k + i = 16 * l + p by omega)]
    exact h1 i hi
theorem jM_drop (h : jM T S n) {l p : Nat} (hl : l < n) (hp : p < 16) (e16 : ∀ j, S' 16 j = if j = 16 * l + p then -1 else S 16 j) : jM (tDrop T l p) S' n := by
  intro k hk
  obtain ⟨h1, h2⟩ := h k hk
  rw [tDrop_11, tDrop_12]
  by_cases hkl : k = l
  · subst hkl
    rw [if_pos rfl, if_pos rfl]
    refine ⟨fun i hi => ?_, bd_andn _ h2⟩
    rw [e16, b_andn _ _ (by omega), b_andn _ _ (by omega), b_bit (by omega) (by omega)]
    obtain ⟨a1, a2, a3⟩ := h1 i hi
    by_cases hip : i = p
    · subst hip
      rw [if_pos rfl, decide_eq_true rfl, Bool.not_true, Bool.and_false, Bool.and_false]
      exact ⟨⟨fun e => (by cases e), fun e => absurd rfl e⟩, Or.inl rfl, fun e => (by cases e)⟩
    · have hne : ¬ 16 * k + i = 16 * k + p := by omega
      rw [if_neg hne, decide_eq_false hip, Bool.not_false, Bool.and_true, Bool.and_true]
      exact ⟨a1, a2, a3⟩
  · rw [if_neg hkl, if_neg hkl]
    refine ⟨fun i hi => ?_, h2⟩
    rw [e16, if_neg (show ¬ 16 * k + i = 16 * l + p by omega)]
    exact h1 i hi
theorem cnt_eq (h : jM T S n) {l : Nat} (hl : l < n) : bc (T 11 l) = rCnt S l := by
  obtain ⟨h1, h2⟩ := h l hl
  rw [bc_eq h2]
  have : ∀ i, i ≤ 16 → nI (cb (T 11 l) i) = itN (fun k a => a + (if S 16 (16 * l + k) = -1 then 0 else 1)) 0 i := by
    intro i
    induction i with
    | zero => intro _; rfl
    | succ i ih =>
      intro hi
      show nI (cb (T 11 l) i + (if bt (T 11 l) i = true then 1 else 0)) = itN (fun k a => a + (if S 16 (16 * l + k) = -1 then 0 else 1)) 0 i + (if S 16 (16 * l + i) = -1 then 0 else 1)
      rw [← ih (by omega), ← nI_add]
      congr 1
      have h9 := (h1 i (by omega)).1
      by_cases hb : bt (T 11 l) i = true
      · rw [if_pos hb, if_neg (h9.mp hb)]; rfl
      · rw [if_neg hb, if_pos (Decidable.not_not.mp (fun e => hb (h9.mpr e)))]; rfl
  exact this 16 (Nat.le_refl 16)
theorem memb_mode (h : jM T S n) {l p : Nat} (hl : l < n) (hp : p < 16) (hb : bt (T 11 l) p = true) : zb (!bt (T 12 l) p) = S 16 (16 * l + p) := by
  obtain ⟨a1, a2, a3⟩ := (h l hl).1 p hp
  have h3 := a3 hb
  by_cases h4 : bt (T 12 l) p = true
  · rw [h4, h3.mp h4]; rfl
  · have h5 : ¬ S 16 (16 * l + p) = 0 := fun e => h4 (h3.mpr e)
    rw [bt_false.mp h4, (a2.resolve_left (a1.mp hb)).resolve_left h5]
    rfl
end
theorem s16_at (S : am_T) (x y : Int32) (a : Nat) (z : Int32) (j : Nat) : st1 (st1 (st1 S 0 0 x) 0 0 y) 16 a z 16 j = if j = a then z else S 16 j := by
  rw [st1_at]
  by_cases h : j = a
  · rw [if_pos ⟨rfl, h⟩, if_pos h]
  · rw [if_neg (fun e => h e.2), if_neg h]
    rfl
theorem st1_id16 {S : am_T} {a : Nat} {x y z : Int32} (h : S 16 a = z) : st1 (st1 (st1 S 0 0 x) 0 0 y) 16 a z = st1 (st1 S 0 0 x) 0 0 y := by
  have e : z = st1 (st1 S 0 0 x) 0 0 y 16 a := h.symm
  rw [e]
  exact st1_id _ _ _
set_option maxRecDepth 20000 in
set_option maxHeartbeats 1000000 in
theorem op_join {G : am_S} (hG : G.1.stackTraces = false) {c0 : Nat} (hc0 : c0 < 1024) {T S : am_T} {o : Nat → Int64} (h : Rel c0 T S) : ∀ x1 x2 x3 : Int32, ∃ (kk bb : Int32) (T' S' : am_T) (o' : Nat → Int64), am_D G yL_join (.codeWith yL_join cL_join 6 (some .int) [(0, 12, 15, 13), (0, 12, 19, 21), (0, 12, 23, 15)] :: am_G) am_WR (hp T S o) [.ref 0, .int x1, .int x2, .int x3, .ref 464] (hp T' S o') (some (.int kk)) ∧ am_D G yX6_join (.code yX6_join cX6_join 4 (some .int) :: am_G) { frames := 2, cells := 0, slots := 0, locals := 43 } (hp T' S o') [.ref 465, .int x1, .int x2, .int x3] (hp T' S' o') (some (.int bb)) ∧ S' 0 0 = kk ∧ (kk = 0 → o' 0 = bb.toInt64) ∧ Rel (c0 + 1) T' S' := by
  obtain ⟨n, m, v, t, c, hc, hR⟩ := h
  have hs := jR_safe hR
  have ha := jR_all hR
  obtain ⟨⟨hA, hW, hL, hP, hM, hF, hK, hQ, hN⟩, hD⟩ := id hR
  obtain ⟨hn, hn2, hn10, hm, hm2, hm80, hv, hvm, ht, ht2, ht4, hcc, hwd⟩ := id hA
  have hv80 : v ≤ 80 := by omega
  intro x1 x2 x3
  rcases ixs x1 n (by omega) with hx | ⟨l, hl, rfl⟩
  · exact ⟨1, 0, T, (st1 S 0 0 1), o, w_join_1 ⟨by decide, by decide, by decide, by decide⟩ (c_p_join_1a hG hn hn10 hx), c_r_join_1 hn2 hn10 hx, rfl, fun h0 => absurd h0 (by decide), Rel_0 hc hR _⟩
  rcases ixs x2 16 (by omega) with hx | ⟨p, hp, rfl⟩
  · exact ⟨1, 0, T, (st1 S 0 0 1), o, w_join_1 ⟨by decide, by decide, by decide, by decide⟩ (c_p_join_1b hG hn hn10 hl hx), c_r_join_2 hn2 hn10 hl hx, rfl, fun h0 => absurd h0 (by decide), Rel_0 hc hR _⟩
  rcases ixs x3 2 (by omega) with hx | ⟨q, hq, rfl⟩
  · have hz : x3 ≠ 0 ∧ x3 ≠ 1 := ⟨fun e => by rw [e] at hx; revert hx; decide, fun e => by rw [e] at hx; revert hx; decide⟩
    exact ⟨2, 0, T, (st1 S 0 0 2), o, w_join_3 ⟨by decide, by decide, by decide, by decide⟩ (c_p_join_2 hG hn hn10 hl hp hz), c_r_join_3 hn2 hn10 hl hp hx, rfl, fun h0 => absurd h0 (by decide), Rel_0 hc hR _⟩
  have hz : nI q = 0 ∨ nI q = 1 := by
    have hq9 : q = 0 ∨ q = 1 := by omega
    rcases hq9 with rfl | rfl
    · exact Or.inl rfl
    · exact Or.inr rfl
  have hm1 := ((hM l hl).1 p hp).1
  have hM2 : jM (tPut T l p (nI q)) (st1 (st1 (st1 S 0 0 0) 0 0 0) 16 ((16 * l) + p) (nI q)) n := jM_put hM hl hp hq (s16_at S 0 0 _ _)
  by_cases hb : bt (T 11 l) p = true
  · exact ⟨3, 0, T, (st1 (st1 S 0 0 0) 0 0 3), o, w_join_2 ⟨by decide, by decide, by decide, by decide⟩ (c_p_join_3 hG hn hn10 hl hp hz hb), c_r_join_4 hn2 hn10 hl hp hq (hm1.mp hb), rfl, fun h0 => absurd h0 (by decide), Rel_00 hc hR _ _⟩
  · have e9 : bc ((tPut T l p (nI q)) 11 l) = rCnt (st1 (st1 (st1 S 0 0 0) 0 0 0) 16 ((16 * l) + p) (nI q)) l := cnt_eq hM2 hl
    exact ⟨0, rCnt (st1 (st1 (st1 S 0 0 0) 0 0 0) 16 ((16 * l) + p) (nI q)) l, (tPut T l p (nI q)), (st1 (st1 (st1 S 0 0 0) 0 0 0) 16 ((16 * l) + p) (nI q)), am_updL o 0 (bc ((tPut T l p (nI q)) 11 l)).toInt64, w_join_n ⟨by decide, by decide, by decide, by decide⟩ (c_p_join_n hn hn10 hl hp hz (bt_false.mp hb)), c_r_join_5 hn2 hn10 hl hp hq (Decidable.not_not.mp (fun e => hb (hm1.mpr e))), rfl, fun _ => (up0 o _).trans (congrArg Int32.toInt64 e9), ⟨n, m, v, t, c, by omega, ⟨⟨jA_c hA rfl rfl rfl rfl rfl rfl rfl rfl rfl rfl, jW_c hW rfl rfl rfl rfl rfl rfl rfl rfl rfl rfl, jL_c hL rfl rfl rfl rfl rfl rfl rfl rfl rfl rfl, jP_c hP rfl rfl, hM2, jF_c hF rfl rfl rfl, jK_c hK rfl rfl rfl rfl rfl rfl rfl rfl rfl rfl rfl rfl rfl rfl rfl rfl rfl rfl rfl rfl rfl, jQ_c hQ rfl rfl rfl rfl rfl rfl rfl rfl rfl rfl rfl, jN_c hN rfl rfl rfl rfl rfl rfl rfl⟩, jD_c hD.1 rfl rfl rfl rfl rfl rfl rfl rfl rfl, jV_c hD.2 rfl rfl rfl rfl⟩⟩⟩
set_option maxRecDepth 20000 in
set_option maxHeartbeats 1000000 in
theorem op_mode {G : am_S} (hG : G.1.stackTraces = false) {c0 : Nat} (hc0 : c0 < 1024) {T S : am_T} {o : Nat → Int64} (h : Rel c0 T S) : ∀ x1 x2 x3 : Int32, ∃ (kk bb : Int32) (T' S' : am_T) (o' : Nat → Int64), am_D G yL_mode (.codeWith yL_mode cL_mode 6 (some .int) [(0, 12, 15, 13), (0, 12, 19, 21), (0, 12, 23, 15)] :: am_G) am_WR (hp T S o) [.ref 0, .int x1, .int x2, .int x3, .ref 464] (hp T' S o') (some (.int kk)) ∧ am_D G yX6_mode (.code yX6_mode cX6_mode 5 (some .int) :: am_G) { frames := 2, cells := 0, slots := 0, locals := 43 } (hp T' S o') [.ref 465, .int x1, .int x2, .int x3] (hp T' S' o') (some (.int bb)) ∧ S' 0 0 = kk ∧ (kk = 0 → o' 0 = bb.toInt64) ∧ Rel (c0 + 1) T' S' := by
  obtain ⟨n, m, v, t, c, hc, hR⟩ := h
  have hs := jR_safe hR
  have ha := jR_all hR
  obtain ⟨⟨hA, hW, hL, hP, hM, hF, hK, hQ, hN⟩, hD⟩ := id hR
  obtain ⟨hn, hn2, hn10, hm, hm2, hm80, hv, hvm, ht, ht2, ht4, hcc, hwd⟩ := id hA
  have hv80 : v ≤ 80 := by omega
  intro x1 x2 x3
  rcases ixs x1 n (by omega) with hx | ⟨l, hl, rfl⟩
  · exact ⟨1, 0, T, (st1 S 0 0 1), o, w_mode_1 ⟨by decide, by decide, by decide, by decide⟩ (c_p_mode_1a hG hn hn10 hx), c_r_mode_1 hn2 hn10 hx, rfl, fun h0 => absurd h0 (by decide), Rel_0 hc hR _⟩
  rcases ixs x2 16 (by omega) with hx | ⟨p, hp, rfl⟩
  · exact ⟨1, 0, T, (st1 S 0 0 1), o, w_mode_1 ⟨by decide, by decide, by decide, by decide⟩ (c_p_mode_1b hG hn hn10 hl hx), c_r_mode_2 hn2 hn10 hl hx, rfl, fun h0 => absurd h0 (by decide), Rel_0 hc hR _⟩
  rcases ixs x3 2 (by omega) with hx | ⟨q, hq, rfl⟩
  · have hz : x3 ≠ 0 ∧ x3 ≠ 1 := ⟨fun e => by rw [e] at hx; revert hx; decide, fun e => by rw [e] at hx; revert hx; decide⟩
    exact ⟨2, 0, T, (st1 S 0 0 2), o, w_mode_3 ⟨by decide, by decide, by decide, by decide⟩ (c_p_mode_2 hG hn hn10 hl hp hz), c_r_mode_3 hn2 hn10 hl hp hx, rfl, fun h0 => absurd h0 (by decide), Rel_0 hc hR _⟩
  have hz : nI q = 0 ∨ nI q = 1 := by
    have hq9 : q = 0 ∨ q = 1 := by omega
    rcases hq9 with rfl | rfl
    · exact Or.inl rfl
    · exact Or.inr rfl
  have hm1 := ((hM l hl).1 p hp).1
  have hM2 : jM (tPut T l p (nI q)) (st1 (st1 (st1 S 0 0 0) 0 0 0) 16 ((16 * l) + p) (nI q)) n := jM_put hM hl hp hq (s16_at S 0 0 _ _)
  by_cases hb : bt (T 11 l) p = true
  · have e9 : zb (!bt (T 12 l) p) = S 16 (16 * l + p) := memb_mode hM hl hp hb
    exact ⟨0, S 16 ((16 * l) + p), (tPut T l p (nI q)), (st1 (st1 (st1 S 0 0 0) 0 0 0) 16 ((16 * l) + p) (nI q)), am_updL o 0 (zb (!bt (T 12 l) p)).toInt64, w_mode_n ⟨by decide, by decide, by decide, by decide⟩ (c_p_mode_n hn hn10 hl hp hz hb), c_r_mode_5 hn2 hn10 hl hp hq (hm1.mp hb), rfl, fun _ => (up0 o _).trans (congrArg Int32.toInt64 e9), ⟨n, m, v, t, c, by omega, ⟨⟨jA_c hA rfl rfl rfl rfl rfl rfl rfl rfl rfl rfl, jW_c hW rfl rfl rfl rfl rfl rfl rfl rfl rfl rfl, jL_c hL rfl rfl rfl rfl rfl rfl rfl rfl rfl rfl, jP_c hP rfl rfl, hM2, jF_c hF rfl rfl rfl, jK_c hK rfl rfl rfl rfl rfl rfl rfl rfl rfl rfl rfl rfl rfl rfl rfl rfl rfl rfl rfl rfl rfl, jQ_c hQ rfl rfl rfl rfl rfl rfl rfl rfl rfl rfl rfl, jN_c hN rfl rfl rfl rfl rfl rfl rfl⟩, jD_c hD.1 rfl rfl rfl rfl rfl rfl rfl rfl rfl, jV_c hD.2 rfl rfl rfl rfl⟩⟩⟩
  · exact ⟨3, 0, T, (st1 (st1 S 0 0 0) 0 0 3), o, w_mode_2 ⟨by decide, by decide, by decide, by decide⟩ (c_p_mode_3 hG hn hn10 hl hp hz (bt_false.mp hb)), c_r_mode_4 hn2 hn10 hl hp hq (Decidable.not_not.mp (fun e => hb (hm1.mpr e))), rfl, fun h0 => absurd h0 (by decide), Rel_00 hc hR _ _⟩
set_option maxRecDepth 20000 in
set_option maxHeartbeats 1000000 in
theorem op_leave {G : am_S} (hG : G.1.stackTraces = false) {c0 : Nat} (hc0 : c0 < 1024) {T S : am_T} {o : Nat → Int64} (h : Rel c0 T S) : ∀ x1 x2 : Int32, ∃ (kk bb : Int32) (T' S' : am_T) (o' : Nat → Int64), am_D G yL_leave (.codeWith yL_leave cL_leave 5 (some .int) [(0, 10, 13, 13), (0, 10, 17, 15)] :: am_G) am_WR (hp T S o) [.ref 0, .int x1, .int x2, .ref 464] (hp T' S o') (some (.int kk)) ∧ am_D G yX6_leave (.code yX6_leave cX6_leave 4 (some .int) :: am_G) { frames := 2, cells := 0, slots := 0, locals := 43 } (hp T' S o') [.ref 465, .int x1, .int x2] (hp T' S' o') (some (.int bb)) ∧ S' 0 0 = kk ∧ (kk = 0 → o' 0 = bb.toInt64) ∧ Rel (c0 + 1) T' S' := by
  obtain ⟨n, m, v, t, c, hc, hR⟩ := h
  have hs := jR_safe hR
  have ha := jR_all hR
  obtain ⟨⟨hA, hW, hL, hP, hM, hF, hK, hQ, hN⟩, hD⟩ := id hR
  obtain ⟨hn, hn2, hn10, hm, hm2, hm80, hv, hvm, ht, ht2, ht4, hcc, hwd⟩ := id hA
  have hv80 : v ≤ 80 := by omega
  intro x1 x2
  rcases ixs x1 n (by omega) with hx | ⟨l, hl, rfl⟩
  · exact ⟨1, 0, T, (st1 S 0 0 1), o, w_leave_1 ⟨by decide, by decide, by decide, by decide⟩ (c_p_leave_1a hG hn hn10 hx), c_r_leave_1 hn2 hn10 hx, rfl, fun h0 => absurd h0 (by decide), Rel_0 hc hR _⟩
  rcases ixs x2 16 (by omega) with hx | ⟨p, hp, rfl⟩
  · exact ⟨1, 0, T, (st1 S 0 0 1), o, w_leave_1 ⟨by decide, by decide, by decide, by decide⟩ (c_p_leave_1b hG hn hn10 hl hx), c_r_leave_2 hn2 hn10 hl hx, rfl, fun h0 => absurd h0 (by decide), Rel_0 hc hR _⟩
  have hm1 := ((hM l hl).1 p hp).1
  by_cases hb : bt (T 11 l) p = true
  · have hM2 : jM (tDrop T l p) (st1 (st1 (st1 S 0 0 0) 0 0 0) 16 ((16 * l) + p) (-1)) n := jM_drop hM hl hp (s16_at S 0 0 _ _)
    have e9 : zb (!bt (T 12 l) p) = S 16 (16 * l + p) := memb_mode hM hl hp hb
    exact ⟨0, S 16 ((16 * l) + p), (tDrop T l p), (st1 (st1 (st1 S 0 0 0) 0 0 0) 16 ((16 * l) + p) (-1)), am_updL o 0 (zb (!bt (T 12 l) p)).toInt64, w_leave_n ⟨by decide, by decide, by decide, by decide⟩ (c_p_leave_n hn hn10 hl hp hb), c_r_leave_4 hn2 hn10 hl hp (hm1.mp hb), rfl, fun _ => (up0 o _).trans (congrArg Int32.toInt64 e9), ⟨n, m, v, t, c, by omega, ⟨⟨jA_c hA rfl rfl rfl rfl rfl rfl rfl rfl rfl rfl, jW_c hW rfl rfl rfl rfl rfl rfl rfl rfl rfl rfl, jL_c hL rfl rfl rfl rfl rfl rfl rfl rfl rfl rfl, jP_c hP rfl rfl, hM2, jF_c hF rfl rfl rfl, jK_c hK rfl rfl rfl rfl rfl rfl rfl rfl rfl rfl rfl rfl rfl rfl rfl rfl rfl rfl rfl rfl rfl, jQ_c hQ rfl rfl rfl rfl rfl rfl rfl rfl rfl rfl rfl, jN_c hN rfl rfl rfl rfl rfl rfl rfl⟩, jD_c hD.1 rfl rfl rfl rfl rfl rfl rfl rfl rfl, jV_c hD.2 rfl rfl rfl rfl⟩⟩⟩
  · have h9 : S 16 (16 * l + p) = -1 := Decidable.not_not.mp (fun e => hb (hm1.mpr e))
    have hr9 := c_r_leave_3 (G := G) (T := T) (o := o) hn2 hn10 hl hp h9
    rw [st1_id16 h9] at hr9
    exact ⟨2, 0, T, (st1 (st1 S 0 0 0) 0 0 2), o, w_leave_2 ⟨by decide, by decide, by decide, by decide⟩ (c_p_leave_2 hG hn hn10 hl hp (bt_false.mp hb)), hr9, rfl, fun h0 => absurd h0 (by decide), Rel_00 hc hR _ _⟩
theorem jP_nest {T S : am_T} {n l q : Nat} (h : jP T S n) (hl : l < n) (hq : q < n) (x y : Int32) : jP (st1 T 13 l ((T 13 l) ^^^ ((1 : Int32) <<< (nI q &&& 31)))) (st1 (st1 (st1 S 0 0 x) 0 0 y) 15 l ((S 15 l) ^^^ (1 <<< ((nI q) &&& 31)))) n := by
  have hn := h.1
  refine ⟨hn, fun k hk => ?_⟩
  obtain ⟨h1, h2⟩ := h.2 k hk
  rw [st1_at, st1_at]
  by_cases e : k = l
  · subst e
    rw [if_pos ⟨rfl, rfl⟩, if_pos ⟨rfl, rfl⟩, h1]
    exact ⟨rfl, bd_xor h2 (bd_bit hq (by omega))⟩
  · rw [if_neg (fun e9 => e e9.2), if_neg (fun e9 => e e9.2)]
    exact ⟨h1, h2⟩
theorem jF_st {S : am_T} {n l f : Nat} {x : Int32} (h : jF S n) (hl : l < n) : jF (st1 S f l x) n := by
  intro k hk hk9
  obtain ⟨a1, a2, a3⟩ := h k hk hk9
  rw [st1_at, st1_at, st1_at, if_neg (by omega), if_neg (by omega), if_neg (by omega)]
  exact ⟨a1, a2, a3⟩
set_option maxRecDepth 20000 in
set_option maxHeartbeats 1000000 in
theorem op_nest {G : am_S} (hG : G.1.stackTraces = false) {c0 : Nat} (hc0 : c0 < 1024) {T S : am_T} {o : Nat → Int64} (h : Rel c0 T S) : ∀ x1 x2 : Int32, ∃ (kk bb : Int32) (T' S' : am_T) (o' : Nat → Int64), am_D G yL_nest (.codeWith yL_nest cL_nest 5 (some .int) [(0, 17, 20, 13), (0, 17, 24, 21)] :: am_G) am_WR (hp T S o) [.ref 0, .int x1, .int x2, .ref 464] (hp T' S o') (some (.int kk)) ∧ am_D G yX6_nest (.code yX6_nest cX6_nest 4 (some .boolean) :: am_G) { frames := 2, cells := 0, slots := 0, locals := 43 } (hp T' S o') [.ref 465, .int x1, .int x2] (hp T' S' o') (some (.int bb)) ∧ S' 0 0 = kk ∧ (kk = 0 → o' 0 = (if bb = 0 then 0 else 1)) ∧ Rel (c0 + 1) T' S' := by
  obtain ⟨n, m, v, t, c, hc, hR⟩ := h
  have hs := jR_safe hR
  have ha := jR_all hR
  obtain ⟨⟨hA, hW, hL, hP, hM, hF, hK, hQ, hN⟩, hD⟩ := id hR
  obtain ⟨hn, hn2, hn10, hm, hm2, hm80, hv, hvm, ht, ht2, ht4, hcc, hwd⟩ := id hA
  have hv80 : v ≤ 80 := by omega
  intro x1 x2
  rcases ixs x1 n (by omega) with hx | ⟨l, hl, rfl⟩
  · exact ⟨1, 0, T, (st1 S 0 0 1), o, w_nest_1 ⟨by decide, by decide, by decide, by decide⟩ (c_p_nest_1a hG hn hn10 hx), c_r_nest_1 hn2 hn10 hx, rfl, fun h0 => absurd h0 (by decide), Rel_0 hc hR _⟩
  rcases ixs x2 n (by omega) with hx | ⟨q, hq, rfl⟩
  · exact ⟨1, 0, T, (st1 S 0 0 1), o, w_nest_1 ⟨by decide, by decide, by decide, by decide⟩ (c_p_nest_1b hG hn hn10 hl hx), c_r_nest_2 hn2 hn10 hl hx, rfl, fun h0 => absurd h0 (by decide), Rel_0 hc hR _⟩
  have e13 := (hP.2 l hl).1
  have hwin : rWin (st1 S 0 0 0) n q = tDown T n q := rWin_eq (S := st1 S 0 0 0) (jP_c hP rfl rfl) hq
  have hrel : Rel (c0 + 1) (st1 T 13 l ((T 13 l) ^^^ ((1 : Int32) <<< (nI q &&& 31)))) (st1 (st1 (st1 S 0 0 0) 0 0 0) 15 l ((S 15 l) ^^^ (1 <<< ((nI q) &&& 31)))) := ⟨n, m, v, t, c, by omega, ⟨⟨jA_c hA rfl rfl rfl rfl rfl rfl rfl rfl rfl rfl, jW_c hW rfl rfl rfl rfl rfl rfl rfl rfl rfl rfl, jL_c hL rfl rfl rfl rfl rfl rfl rfl rfl rfl rfl, jP_nest hP hl hq 0 0, jM_c hM rfl rfl rfl, jF_st (jF_c hF rfl rfl rfl) hl, jK_c hK rfl rfl rfl rfl rfl rfl rfl rfl rfl rfl rfl rfl rfl rfl rfl rfl rfl rfl rfl rfl rfl, jQ_c hQ rfl rfl rfl rfl rfl rfl rfl rfl rfl rfl rfl, jN_c hN rfl rfl rfl rfl rfl rfl rfl⟩, jD_c hD.1 rfl rfl rfl rfl rfl rfl rfl rfl rfl, jV_c hD.2 rfl rfl rfl rfl⟩⟩
  by_cases hb : bt (T 13 l) q = true
  · exact ⟨0, 0, (st1 T 13 l ((T 13 l) ^^^ ((1 : Int32) <<< (nI q &&& 31)))), (st1 (st1 (st1 S 0 0 0) 0 0 0) 15 l ((S 15 l) ^^^ (1 <<< ((nI q) &&& 31)))), am_updL o 0 (if (0 : Int32) = 0 then 0 else 1), w_nest_n ⟨by decide, by decide, by decide, by decide⟩ (c_p_nest_n1 hn hn10 hl hq hb), c_r_nest_5 hn2 hn10 hl hq ((bt_iff (by omega)).mpr (e13 ▸ hb)), rfl, fun _ => rfl, hrel⟩
  have hi : ¬ S 15 l >>> (nI q &&& 31) &&& 1 = 1 := fun e => hb (e13.symm ▸ (bt_iff (by omega)).mp e)
  by_cases hd : bt (tDown T n q) l = true
  · exact ⟨2, 0, T, (st1 (st1 S 0 0 0) 0 0 2), o, w_nest_3 ⟨by decide, by decide, by decide, by decide⟩ (c_p_nest_2 hG hn hn10 hl hq (bt_false.mp hb) hd), c_r_nest_3 hn2 hn10 hl hq hi (by rw [hwin]; exact (bt_iff (by omega)).mpr hd), rfl, fun h0 => absurd h0 (by decide), Rel_00 hc hR _ _⟩
  · exact ⟨0, 1, (st1 T 13 l ((T 13 l) ^^^ ((1 : Int32) <<< (nI q &&& 31)))), (st1 (st1 (st1 S 0 0 0) 0 0 0) 15 l ((S 15 l) ^^^ (1 <<< ((nI q) &&& 31)))), am_updL o 0 (if (1 : Int32) = 0 then 0 else 1), w_nest_n ⟨by decide, by decide, by decide, by decide⟩ (c_p_nest_n0 hn hn10 hl hq (bt_false.mp hb) (bt_false.mp hd)), c_r_nest_4 hn2 hn10 hl hq hi (by rw [hwin]; exact fun e => hd ((bt_iff (by omega)).mp e)), rfl, fun _ => rfl, hrel⟩
theorem jL_at {T S : am_T} {n l f g : Nat} {x y : Int32} (h : jL T S n) (hf : f = 14 ∧ g = 14) (e : x = y) : jL (st1 T f l x) (st1 S g l y) n := by
  obtain ⟨rfl, rfl⟩ := hf
  subst e
  intro k hk
  obtain ⟨a1, a2, a3, a4⟩ := h k hk
  refine ⟨a1, a2, ?_, a4⟩
  rw [st1_at, st1_at, a3]
set_option maxRecDepth 20000 in
set_option maxHeartbeats 1000000 in
theorem op_bar {G : am_S} (hG : G.1.stackTraces = false) {c0 : Nat} (hc0 : c0 < 1024) {T S : am_T} {o : Nat → Int64} (h : Rel c0 T S) : ∀ x1 x2 : Int32, ∃ (kk bb : Int32) (T' S' : am_T) (o' : Nat → Int64), am_D G yL_bar (.codeWith yL_bar cL_bar 5 (some .int) [(0, 17, 20, 13)] :: am_G) am_WR (hp T S o) [.ref 0, .int x1, .int x2, .ref 464] (hp T' S o') (some (.int kk)) ∧ am_D G yX6_bar (.code yX6_bar cX6_bar 3 (some .boolean) :: am_G) { frames := 2, cells := 0, slots := 0, locals := 43 } (hp T' S o') [.ref 465, .int x1, .int x2] (hp T' S' o') (some (.int bb)) ∧ S' 0 0 = kk ∧ (kk = 0 → o' 0 = (if bb = 0 then 0 else 1)) ∧ Rel (c0 + 1) T' S' := by
  obtain ⟨n, m, v, t, c, hc, hR⟩ := h
  have hs := jR_safe hR
  have ha := jR_all hR
  obtain ⟨⟨hA, hW, hL, hP, hM, hF, hK, hQ, hN⟩, hD⟩ := id hR
  obtain ⟨hn, hn2, hn10, hm, hm2, hm80, hv, hvm, ht, ht2, ht4, hcc, hwd⟩ := id hA
  have hv80 : v ≤ 80 := by omega
  intro x1 x2
  rcases ixs x1 n (by omega) with hx | ⟨l, hl, rfl⟩
  · exact ⟨1, 0, T, (st1 S 0 0 1), o, w_bar_1 ⟨by decide, by decide, by decide, by decide⟩ (c_p_bar_1a hG hn hn10 hx), c_r_bar_1 hn2 hn10 hx, rfl, fun h0 => absurd h0 (by decide), Rel_0 hc hR _⟩
  rcases ixs x2 16 (by omega) with hx | ⟨p, hp, rfl⟩
  · exact ⟨1, 0, T, (st1 S 0 0 1), o, w_bar_1 ⟨by decide, by decide, by decide, by decide⟩ (c_p_bar_1b hG hn hn10 hl hx), c_r_bar_2 hn2 hn10 hl hx, rfl, fun h0 => absurd h0 (by decide), Rel_0 hc hR _⟩
  have e14 : T 14 l = S 14 l := (hL l hl).2.2.1
  have hrel : Rel (c0 + 1) (st1 T 14 l ((T 14 l) ^^^ ((1 : Int32) <<< (nI p &&& 31)))) (st1 (st1 S 0 0 0) 14 l ((S 14 l) ^^^ (1 <<< ((nI p) &&& 31)))) := ⟨n, m, v, t, c, by omega, ⟨⟨jA_c hA rfl rfl rfl rfl rfl rfl rfl rfl rfl rfl, jW_c hW rfl rfl rfl rfl rfl rfl rfl rfl rfl rfl, jL_at (jL_c (S' := st1 S 0 0 0) hL rfl rfl rfl rfl rfl rfl rfl rfl rfl rfl) ⟨rfl, rfl⟩ (by rw [e14]), jP_c hP rfl rfl, jM_c hM rfl rfl rfl, jF_st (jF_c hF rfl rfl rfl) hl, jK_c hK rfl rfl rfl rfl rfl rfl rfl rfl rfl rfl rfl rfl rfl rfl rfl rfl rfl rfl rfl rfl rfl, jQ_c hQ rfl rfl rfl rfl rfl rfl rfl rfl rfl rfl rfl, jN_c hN rfl rfl rfl rfl rfl rfl rfl⟩, jD_c hD.1 rfl rfl rfl rfl rfl rfl rfl rfl rfl, jV_c hD.2 rfl rfl rfl rfl⟩⟩
  have hcp := c_p_bar_n (G := G) (T := T) (S := S) (o := o) hn hn10 hl hp
  by_cases hb : bt ((T 14 l) ^^^ ((1 : Int32) <<< (nI p &&& 31))) p = true
  · rw [zb_t hb] at hcp
    exact ⟨0, 1, (st1 T 14 l ((T 14 l) ^^^ ((1 : Int32) <<< (nI p &&& 31)))), (st1 (st1 S 0 0 0) 14 l ((S 14 l) ^^^ (1 <<< ((nI p) &&& 31)))), am_updL o 0 (if (1 : Int32) = 0 then 0 else 1), w_bar_n ⟨by decide, by decide, by decide, by decide⟩ (hcp), c_r_bar_3 hn2 hn10 hl hp ((bt_iff (by omega)).mpr (e14 ▸ hb)), rfl, fun _ => rfl, hrel⟩
  · rw [zb_f (bt_false.mp hb)] at hcp
    exact ⟨0, 0, (st1 T 14 l ((T 14 l) ^^^ ((1 : Int32) <<< (nI p &&& 31)))), (st1 (st1 S 0 0 0) 14 l ((S 14 l) ^^^ (1 <<< ((nI p) &&& 31)))), am_updL o 0 (if (0 : Int32) = 0 then 0 else 1), w_bar_n ⟨by decide, by decide, by decide, by decide⟩ (hcp), c_r_bar_4 hn2 hn10 hl hp (fun e => hb (e14.symm ▸ (bt_iff (by omega)).mp e)), rfl, fun _ => rfl, hrel⟩
theorem jL_rules {T S : am_T} {n l d : Nat} {y z b : Int32} (h : jL T S n) (hd : 1 ≤ d ∧ d ≤ 30) (hz : z = nI d) (w : Int32) : jL (st1 (st1 (st1 T 15 l y) 16 l z) 17 l b) (st1 (st1 (st1 (st1 S 0 0 w) 11 l y) 12 l z) 13 l b) n := by
  intro k hk
  obtain ⟨a1, a2, a3, a4, a5, a6, a7⟩ := h k hk
  have q1 : st1 (st1 (st1 T 15 l y) 16 l z) 17 l b 15 k = if k = l then y else T 15 k := by
    rw [st1_f (by decide), st1_f (by decide), st1_at]
    by_cases e : k = l
    · rw [if_pos ⟨rfl, e⟩, if_pos e]
    · rw [if_neg (fun e9 => e e9.2), if_neg e]
  have q2 : st1 (st1 (st1 T 15 l y) 16 l z) 17 l b 16 k = if k = l then z else T 16 k := by
    rw [st1_f (by decide), st1_at]
    by_cases e : k = l
    · rw [if_pos ⟨rfl, e⟩, if_pos e]
    · rw [if_neg (fun e9 => e e9.2), if_neg e, st1_f (by decide)]
  have q3 : st1 (st1 (st1 T 15 l y) 16 l z) 17 l b 17 k = if k = l then b else T 17 k := by
    rw [st1_at]
    by_cases e : k = l
    · rw [if_pos ⟨rfl, e⟩, if_pos e]
    · rw [if_neg (fun e9 => e e9.2), if_neg e, st1_f (by decide), st1_f (by decide)]
  have r1 : st1 (st1 (st1 (st1 S 0 0 w) 11 l y) 12 l z) 13 l b 11 k = if k = l then y else S 11 k := by
    rw [st1_f (by decide), st1_f (by decide), st1_at]
    by_cases e : k = l
    · rw [if_pos ⟨rfl, e⟩, if_pos e]
    · rw [if_neg (fun e9 => e e9.2), if_neg e, st1_f (by decide)]
  have r2 : st1 (st1 (st1 (st1 S 0 0 w) 11 l y) 12 l z) 13 l b 12 k = if k = l then z else S 12 k := by
    rw [st1_f (by decide), st1_at]
    by_cases e : k = l
    · rw [if_pos ⟨rfl, e⟩, if_pos e]
    · rw [if_neg (fun e9 => e e9.2), if_neg e, st1_f (by decide), st1_f (by decide)]
  have r3 : st1 (st1 (st1 (st1 S 0 0 w) 11 l y) 12 l z) 13 l b 13 k = if k = l then b else S 13 k := by
    rw [st1_at]
    by_cases e : k = l
    · rw [if_pos ⟨rfl, e⟩, if_pos e]
    · rw [if_neg (fun e9 => e e9.2), if_neg e, st1_f (by decide), st1_f (by decide), st1_f (by decide)]
  refine ⟨a1, a2, a3, ?_, ?_, ?_, ?_⟩
  · rw [q1, r1, a4]
  · rw [q2, r2, a5]
  · rw [r2]
    by_cases e : k = l
    · rw [if_pos e]; exact ⟨d, hd.1, hd.2, hz⟩
    · rw [if_neg e]; exact a6
  · rw [q3, r3, a7]
set_option maxRecDepth 20000 in
set_option maxHeartbeats 1000000 in
theorem op_rules {G : am_S} (hG : G.1.stackTraces = false) {c0 : Nat} (hc0 : c0 < 1024) {T S : am_T} {o : Nat → Int64} (h : Rel c0 T S) : ∀ x1 x2 x3 x4 : Int32, (x4 = 0 ∨ x4 = 1) → ∃ (kk bb : Int32) (T' S' : am_T) (o' : Nat → Int64), am_D G yL_rules (.codeWith yL_rules cL_rules 7 (some .int) [(0, 14, 17, 13), (0, 14, 21, 21)] :: am_G) am_WR (hp T S o) [.ref 0, .int x1, .int x2, .int x3, .int x4, .ref 464] (hp T' S o') (some (.int kk)) ∧ am_D G yX6_rules (.code yX6_rules cX6_rules 6 (some .int) :: am_G) { frames := 2, cells := 0, slots := 0, locals := 43 } (hp T' S o') [.ref 465, .int x1, .int x2, .int x3, .int x4] (hp T' S' o') (some (.int bb)) ∧ S' 0 0 = kk ∧ (kk = 0 → o' 0 = bb.toInt64) ∧ Rel (c0 + 1) T' S' := by
  obtain ⟨n, m, v, t, c, hc, hR⟩ := h
  have hs := jR_safe hR
  have ha := jR_all hR
  obtain ⟨⟨hA, hW, hL, hP, hM, hF, hK, hQ, hN⟩, hD⟩ := id hR
  obtain ⟨hn, hn2, hn10, hm, hm2, hm80, hv, hvm, ht, ht2, ht4, hcc, hwd⟩ := id hA
  have hv80 : v ≤ 80 := by omega
  intro x1 x2 x3 x4 hb4
  have e15 := fun l (hl : l < n) => (hL l hl).2.2.2.1
  have main : ∀ (b : Bool), (if b = true then (1 : Int32) else 0) = x4 → (∀ l, l < n → (1 ≤ x2 ∧ x2 ≤ 200) → (1 ≤ x3 ∧ x3 ≤ 30) → am_D G yX5_rules (.code yX5_rules cX5_rules 7 (some .int) :: am_G) { frames := 1, cells := 0, slots := 0, locals := 22 } (hp T S o) [.ref 0, .int (nI l), .int x2, .int x3, .int x4] (hp (st1 (st1 (st1 T 15 l x2) 16 l x3) 17 l x4) S o) (some (.int (T 15 l)))) → (∃ (kk bb : Int32) (T' S' : am_T) (o' : Nat → Int64), am_D G yL_rules (.codeWith yL_rules cL_rules 7 (some .int) [(0, 14, 17, 13), (0, 14, 21, 21)] :: am_G) am_WR (hp T S o) [.ref 0, .int x1, .int x2, .int x3, .int x4, .ref 464] (hp T' S o') (some (.int kk)) ∧ am_D G yX6_rules (.code yX6_rules cX6_rules 6 (some .int) :: am_G) { frames := 2, cells := 0, slots := 0, locals := 43 } (hp T' S o') [.ref 465, .int x1, .int x2, .int x3, .int x4] (hp T' S' o') (some (.int bb)) ∧ S' 0 0 = kk ∧ (kk = 0 → o' 0 = bb.toInt64) ∧ Rel (c0 + 1) T' S') := by
    intro b hx4 hcp
    rcases ixs x1 n (by omega) with hx | ⟨l, hl, rfl⟩
    · exact ⟨1, 0, T, (st1 S 0 0 1), o, w_rules_1 ⟨by decide, by decide, by decide, by decide⟩ (c_p_rules_1 hG hn hn10 hx), hx4 ▸ c_r_rules_1 (b := b) hn2 hn10 hx, rfl, fun h0 => absurd h0 (by decide), Rel_0 hc hR _⟩
    by_cases hy : 1 ≤ x2 ∧ x2 ≤ 200
    · by_cases hz : 1 ≤ x3 ∧ x3 ≤ 30
      · obtain ⟨d, hd, e⟩ : ∃ d, (1 ≤ d ∧ d ≤ 30) ∧ x3 = nI d := by
          rcases ixs x3 31 (by decide) with h9 | ⟨d, hd, e⟩
          · rcases h9 with h9 | h9
            · exact absurd (Int32.le_trans hz.1 (Int32.le_of_lt h9)) (by decide)
            · exact absurd (Int32.le_trans h9 hz.2) (by decide)
          · refine ⟨d, ⟨?_, by omega⟩, e⟩
            rw [e] at hz
            exact am_leI (a := 1) (by decide) (by omega) hz.1
        exact ⟨0, S 11 l, (st1 (st1 (st1 T 15 l x2) 16 l x3) 17 l x4), (st1 (st1 (st1 (st1 S 0 0 0) 11 l x2) 12 l x3) 13 l x4), am_updL o 0 (T 15 l).toInt64, w_rules_n ⟨by decide, by decide, by decide, by decide⟩ (hcp l hl hy hz), hx4 ▸ c_r_rules_4 (b := b) hn2 hn10 hl (Int32.not_lt.mpr hy.1) (Int32.not_lt.mpr hy.2) (Int32.not_lt.mpr hz.1) (Int32.not_lt.mpr hz.2), rfl, fun _ => (up0 o _).trans (congrArg Int32.toInt64 (e15 l hl)), ⟨n, m, v, t, c, by omega, ⟨⟨jA_c hA rfl rfl rfl rfl rfl rfl rfl rfl rfl rfl, jW_c hW rfl rfl rfl rfl rfl rfl rfl rfl rfl rfl, jL_rules hL hd e 0, jP_c hP rfl rfl, jM_c hM rfl rfl rfl, jF_st (jF_c hF rfl rfl rfl) hl, jK_c hK rfl rfl rfl rfl rfl rfl rfl rfl rfl rfl rfl rfl rfl rfl rfl rfl rfl rfl rfl rfl rfl, jQ_c hQ rfl rfl rfl rfl rfl rfl rfl rfl rfl rfl rfl, jN_c hN rfl rfl rfl rfl rfl rfl rfl⟩, jD_c hD.1 rfl rfl rfl rfl rfl rfl rfl rfl rfl, jV_c hD.2 rfl rfl rfl rfl⟩⟩⟩
      · have hz2 : x3 < 1 ∨ 30 < x3 := by
          by_cases h1 : 1 ≤ x3
          · exact Or.inr (Int32.not_le.mp (fun h2 => hz ⟨h1, h2⟩))
          · exact Or.inl (Int32.not_le.mp h1)
        exact ⟨2, 0, T, (st1 S 0 0 2), o, w_rules_3 ⟨by decide, by decide, by decide, by decide⟩ (c_p_rules_2b hG hn hn10 hl hy hz2), hx4 ▸ c_r_rules_3 (b := b) hn2 hn10 hl (Int32.not_lt.mpr hy.1) (Int32.not_lt.mpr hy.2) hz2, rfl, fun h0 => absurd h0 (by decide), Rel_0 hc hR _⟩
    · have hy2 : x2 < 1 ∨ 200 < x2 := by
        by_cases h1 : 1 ≤ x2
        · exact Or.inr (Int32.not_le.mp (fun h2 => hy ⟨h1, h2⟩))
        · exact Or.inl (Int32.not_le.mp h1)
      exact ⟨2, 0, T, (st1 S 0 0 2), o, w_rules_3 ⟨by decide, by decide, by decide, by decide⟩ (c_p_rules_2a hG hn hn10 hl hy2), hx4 ▸ c_r_rules_2 (b := b) hn2 hn10 hl hy2, rfl, fun h0 => absurd h0 (by decide), Rel_0 hc hR _⟩
  rcases hb4 with rfl | rfl
  · exact main false rfl (fun l hl hy hz => c_p_rules_n0 hn hn10 hl hy hz)
  · exact main true rfl (fun l hl hy hz => c_p_rules_n1 hn hn10 hl hy hz)
set_option maxRecDepth 20000 in
set_option maxHeartbeats 1000000 in
theorem op_word {G : am_S} (hG : G.1.stackTraces = false) {c0 : Nat} (hc0 : c0 < 1024) {T S : am_T} {o : Nat → Int64} (h : Rel c0 T S) : ∀ x1 x2 : Int32, ∃ (kk bb : Int32) (T' S' : am_T) (o' : Nat → Int64), am_D G yL_word (.codeWith yL_word cL_word 5 (some .int) [(0, 10, 13, 13), (0, 10, 17, 21)] :: am_G) am_WR (hp T S o) [.ref 0, .int x1, .int x2, .ref 464] (hp T' S o') (some (.int kk)) ∧ am_D G yX6_word (.code yX6_word cX6_word 4 (some .int) :: am_G) { frames := 1, cells := 0, slots := 0, locals := 22 } (hp T' S o') [.ref 465, .int x1, .int x2] (hp T' S' o') (some (.int bb)) ∧ S' 0 0 = kk ∧ (kk = 0 → o' 0 = bb.toInt64) ∧ Rel (c0 + 1) T' S' := by
  obtain ⟨n, m, v, t, c, hc, hR⟩ := h
  have hs := jR_safe hR
  have ha := jR_all hR
  obtain ⟨⟨hA, hW, hL, hP, hM, hF, hK, hQ, hN⟩, hD⟩ := id hR
  obtain ⟨hn, hn2, hn10, hm, hm2, hm80, hv, hvm, ht, ht2, ht4, hcc, hwd⟩ := id hA
  have hv80 : v ≤ 80 := by omega
  intro x1 x2
  rcases ixs x1 20 (by decide) with hx | ⟨j, hj, rfl⟩
  · exact ⟨1, 0, T, (st1 S 0 0 1), o, w_word_1 ⟨by decide, by decide, by decide, by decide⟩ (c_p_word_1 hG hx), c_r_word_1 hx, rfl, fun h0 => absurd h0 (by decide), Rel_0 hc hR _⟩
  by_cases hy : -20 ≤ x2 ∧ x2 ≤ 50
  · have hwd2 : ∀ i, i < 20 → st1 T 4 j x2 4 i = st1 (st1 S 0 0 0) 3 j x2 3 i := by
      intro i hi
      rw [st1_at, st1_at]
      by_cases e : i = j
      · rw [if_pos ⟨rfl, e⟩, if_pos ⟨rfl, e⟩]
      · rw [if_neg (fun e9 => e e9.2), if_neg (fun e9 => e e9.2)]
        exact hwd i hi
    exact ⟨0, S 3 j, (st1 T 4 j x2), (st1 (st1 S 0 0 0) 3 j x2), am_updL o 0 (T 4 j).toInt64, w_word_n ⟨by decide, by decide, by decide, by decide⟩ (c_p_word_n hj hy), c_r_word_3 hj (Int32.not_lt.mpr hy.1) (Int32.not_lt.mpr hy.2), rfl, fun _ => (up0 o _).trans (congrArg Int32.toInt64 (hwd j hj)), ⟨n, m, v, t, c, by omega, ⟨⟨⟨hn, hn2, hn10, hm, hm2, hm80, hv, hvm, ht, ht2, ht4, hcc, hwd2⟩, jW_c hW rfl rfl rfl rfl rfl rfl rfl rfl rfl rfl, jL_c hL rfl rfl rfl rfl rfl rfl rfl rfl rfl rfl, jP_c hP rfl rfl, jM_c hM rfl rfl rfl, jF_c hF rfl rfl rfl, jK_c hK rfl rfl rfl rfl rfl rfl rfl rfl rfl rfl rfl rfl rfl rfl rfl rfl rfl rfl rfl rfl rfl, jQ_c hQ rfl rfl rfl rfl rfl rfl rfl rfl rfl rfl rfl, jN_c hN rfl rfl rfl rfl rfl rfl rfl⟩, jD_c hD.1 rfl rfl rfl rfl rfl rfl rfl rfl rfl, jV_c hD.2 rfl rfl rfl rfl⟩⟩⟩
  · have hy2 : x2 < -20 ∨ 50 < x2 := by
      by_cases h1 : -20 ≤ x2
      · exact Or.inr (Int32.not_le.mp (fun h2 => hy ⟨h1, h2⟩))
      · exact Or.inl (Int32.not_le.mp h1)
    exact ⟨2, 0, T, (st1 S 0 0 2), o, w_word_3 ⟨by decide, by decide, by decide, by decide⟩ (c_p_word_2 hG hj hy2), c_r_word_2 hj hy2, rfl, fun h0 => absurd h0 (by decide), Rel_0 hc hR _⟩
