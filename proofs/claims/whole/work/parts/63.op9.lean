/-! each call: vote -/
theorem jD_up {T S : am_T} {n v t c : Nat} (hD : jD T S n v t c j0) : jD T S n v t (c + 1) j0 := by
  obtain ⟨d1, d2, d3⟩ := hD
  refine ⟨d1, d2, fun l d hl hd => ?_⟩
  obtain ⟨g1, g2, g3, g4, c', hc', g5⟩ := d3 l d hl hd
  exact ⟨g1, g2, g3, g4, c', by omega, g5⟩
theorem tClr_f {n c k g : Nat} {T : am_T} (h : g ≠ 7 ∧ g ≠ 8 ∧ g ≠ 9 ∧ g ≠ 11 ∧ g ≠ 12 ∧ g ≠ 26 ∧ g ≠ 27 ∧ g ≠ 34 ∧ g ≠ 36) (h25 : g ≠ 25) (h32 : g ≠ 32) : tClr n c k T g = T g := by
  unfold tClr
  split
  · rw [tDel_f h h25]; exact tClose_f h32
  · rfl
theorem aw_bits {A B C D : Int32} {p : Nat} (hp : p < 16) (h : A = B &&& (C ^^^ (-1)) &&& (D ^^^ (-1))) : A &&& ((1 : Int32) <<< (nI p &&& 31) ^^^ (-1)) = B &&& ((C ||| (1 : Int32) <<< (nI p &&& 31)) ^^^ (-1)) &&& (D ^^^ (-1)) ∧ A &&& ((1 : Int32) <<< (nI p &&& 31) ^^^ (-1)) = B &&& (C ^^^ (-1)) &&& ((D ||| (1 : Int32) <<< (nI p &&& 31)) ^^^ (-1)) := by
  subst h
  constructor <;> (
    refine b_ext (fun i hi => ?_)
    rw [b_andn _ _ hi, b_andn _ _ hi, b_andn _ _ hi, b_andn _ _ hi, b_andn _ _ hi, b_or]
    cases bt B i <;> cases bt C i <;> cases bt D i <;> cases bt ((1 : Int32) <<< (nI p &&& 31)) i <;> rfl)
theorem jB_for {T S : am_T} {n m v t c k p : Nat} (hR : jR T S n m v t c) (hk : k < m) (hp : p < 16) (ho : ¬ S 27 k = 0) (hj : bt (S 28 k) p = true) : jB (st1 (st1 T 30 k (T 30 k ||| (1 : Int32) <<< (nI p &&& 31))) 6 p (T 6 p + 1)) (st1 (st1 (st1 (st1 (st1 (st1 (st1 S 0 0 0) 0 0 0) 2 0 ((S 2 0) + 1)) 28 k ((S 28 k) &&& ((1 <<< ((nI p) &&& 31)) ^^^ (-1)))) 5 p ((S 5 p) + 1)) 29 k ((S 29 k) + 1)) 30 k ((S 30 k) + 0)) n m v t (c + 1) ∧ jD (st1 (st1 T 30 k (T 30 k ||| (1 : Int32) <<< (nI p &&& 31))) 6 p (T 6 p + 1)) (st1 (st1 (st1 (st1 (st1 (st1 (st1 S 0 0 0) 0 0 0) 2 0 ((S 2 0) + 1)) 28 k ((S 28 k) &&& ((1 <<< ((nI p) &&& 31)) ^^^ (-1)))) 5 p ((S 5 p) + 1)) 29 k ((S 29 k) + 1)) 30 k ((S 30 k) + 0)) n v t c j0 := by
  obtain ⟨⟨hA, hW, hL, hP, hM, hF, hK, hQ, hN⟩, hD, hV⟩ := hR
  obtain ⟨a1, a2, a3, a4, a5, a6, a7, a8, a9, a10, a11, a12, a13⟩ := hA
  have s28 : ∀ i, (st1 (st1 (st1 (st1 (st1 (st1 (st1 S 0 0 0) 0 0 0) 2 0 ((S 2 0) + 1)) 28 k ((S 28 k) &&& ((1 <<< ((nI p) &&& 31)) ^^^ (-1)))) 5 p ((S 5 p) + 1)) 29 k ((S 29 k) + 1)) 30 k ((S 30 k) + 0)) 28 i = if i = k then S 28 k &&& ((1 <<< ((nI p) &&& 31)) ^^^ (-1)) else S 28 i := fun i => by
    rw [st1_f (by decide), st1_f (by decide), st1_f (by decide), st1_if]; rfl
  have s29 : ∀ i, (st1 (st1 (st1 (st1 (st1 (st1 (st1 S 0 0 0) 0 0 0) 2 0 ((S 2 0) + 1)) 28 k ((S 28 k) &&& ((1 <<< ((nI p) &&& 31)) ^^^ (-1)))) 5 p ((S 5 p) + 1)) 29 k ((S 29 k) + 1)) 30 k ((S 30 k) + 0)) 29 i = if i = k then S 29 k + 1 else S 29 i := fun i => by
    rw [st1_f (by decide), st1_if]; rfl
  have s30 : ∀ i, (st1 (st1 (st1 (st1 (st1 (st1 (st1 S 0 0 0) 0 0 0) 2 0 ((S 2 0) + 1)) 28 k ((S 28 k) &&& ((1 <<< ((nI p) &&& 31)) ^^^ (-1)))) 5 p ((S 5 p) + 1)) 29 k ((S 29 k) + 1)) 30 k ((S 30 k) + 0)) 30 i = if i = k then S 30 k + 0 else S 30 i := fun i => by
    rw [st1_if]; rfl
  have tf : ∀ i, (st1 (st1 T 30 k (T 30 k ||| (1 : Int32) <<< (nI p &&& 31))) 6 p (T 6 p + 1)) 30 i = if i = k then T 30 k ||| (1 : Int32) <<< (nI p &&& 31) else T 30 i := fun i => by
    rw [st1_f (by decide), st1_if]
  refine ⟨⟨⟨a1, a2, a3, a4, a5, a6, a7, a8, a9, a10, a11, ?_, a13⟩, ⟨fun q hq => ?_, hW.2⟩, jL_c hL rfl rfl rfl rfl rfl rfl rfl rfl rfl rfl, jP_c hP rfl rfl, jM_c hM rfl rfl rfl, jF_c hF rfl rfl rfl, jK_c hK rfl rfl rfl rfl rfl rfl rfl rfl rfl rfl rfl rfl rfl rfl rfl rfl rfl rfl rfl rfl rfl, ?_, ?_⟩, jD_c hD rfl rfl rfl rfl rfl rfl rfl rfl rfl⟩
  · show S 2 0 + 1 = _
    rw [a12, nI_1]
  · obtain ⟨w1, w2, w3⟩ := hW.1 q hq
    have e6 : (st1 (st1 T 30 k (T 30 k ||| (1 : Int32) <<< (nI p &&& 31))) 6 p (T 6 p + 1)) 6 q = if q = p then T 6 p + 1 else T 6 q := by rw [st1_if]; rfl
    have e5 : (st1 (st1 (st1 (st1 (st1 (st1 (st1 S 0 0 0) 0 0 0) 2 0 ((S 2 0) + 1)) 28 k ((S 28 k) &&& ((1 <<< ((nI p) &&& 31)) ^^^ (-1)))) 5 p ((S 5 p) + 1)) 29 k ((S 29 k) + 1)) 30 k ((S 30 k) + 0)) 5 q = if q = p then S 5 p + 1 else S 5 q := by
      rw [st1_f (by decide), st1_f (by decide), st1_if]; rfl
    refine ⟨w1, ?_, w3⟩
    rw [e6, e5, w2, (hW.1 p hp).2.1]
  · intro i hi
    obtain ⟨q1, q2, q3, q5, q4⟩ := hQ i hi
    rw [s28, s29, s30, tf]
    by_cases e9 : i = k
    · subst e9
      rw [if_pos rfl, if_pos rfl, if_pos rfl, if_pos rfl]
      refine ⟨q1, q2, q3, fun h => absurd h (q2 ho).2, fun h => ?_⟩
      obtain ⟨g1, g2, g3, g4, g5, g6, g7⟩ := q4 h
      have hb : bt (T 30 i) p = false := by
        rw [g2, b_andn _ _ (by omega), b_andn _ _ (by omega)] at hj
        revert hj
        cases bt (T 29 i) p <;> cases bt (T 30 i) p <;> cases bt (T 31 i) p <;> decide
      have hcb := cb_ins (p := p) (by omega) hb 16 (by omega)
      rw [if_pos hp] at hcb
      have haw := aw_bits hp g2
      refine ⟨g1, haw.1, g3, bd_or g4 (bd_bit hp (by omega)), g5, ?_, ?_⟩
      · rw [hcb, g6, nI_1]
      · rw [g7, Int32.add_zero]; rfl
    · rw [if_neg e9, if_neg e9, if_neg e9, if_neg e9]
      exact ⟨q1, q2, q3, q5, q4⟩
  · intro i hi hi9
    have q := hN i hi hi9
    rw [s29, s30, if_neg (by omega), if_neg (by omega)]
    exact q
theorem jB_ag {T S : am_T} {n m v t c k p : Nat} (hR : jR T S n m v t c) (hk : k < m) (hp : p < 16) (ho : ¬ S 27 k = 0) (hj : bt (S 28 k) p = true) : jB (st1 (st1 T 31 k (T 31 k ||| (1 : Int32) <<< (nI p &&& 31))) 6 p (T 6 p + 1)) (st1 (st1 (st1 (st1 (st1 (st1 (st1 S 0 0 0) 0 0 0) 2 0 ((S 2 0) + 1)) 28 k ((S 28 k) &&& ((1 <<< ((nI p) &&& 31)) ^^^ (-1)))) 5 p ((S 5 p) + 1)) 29 k ((S 29 k) + 0)) 30 k ((S 30 k) + 1)) n m v t (c + 1) ∧ jD (st1 (st1 T 31 k (T 31 k ||| (1 : Int32) <<< (nI p &&& 31))) 6 p (T 6 p + 1)) (st1 (st1 (st1 (st1 (st1 (st1 (st1 S 0 0 0) 0 0 0) 2 0 ((S 2 0) + 1)) 28 k ((S 28 k) &&& ((1 <<< ((nI p) &&& 31)) ^^^ (-1)))) 5 p ((S 5 p) + 1)) 29 k ((S 29 k) + 0)) 30 k ((S 30 k) + 1)) n v t c j0 := by
  obtain ⟨⟨hA, hW, hL, hP, hM, hF, hK, hQ, hN⟩, hD, hV⟩ := hR
  obtain ⟨a1, a2, a3, a4, a5, a6, a7, a8, a9, a10, a11, a12, a13⟩ := hA
  have s28 : ∀ i, (st1 (st1 (st1 (st1 (st1 (st1 (st1 S 0 0 0) 0 0 0) 2 0 ((S 2 0) + 1)) 28 k ((S 28 k) &&& ((1 <<< ((nI p) &&& 31)) ^^^ (-1)))) 5 p ((S 5 p) + 1)) 29 k ((S 29 k) + 0)) 30 k ((S 30 k) + 1)) 28 i = if i = k then S 28 k &&& ((1 <<< ((nI p) &&& 31)) ^^^ (-1)) else S 28 i := fun i => by
    rw [st1_f (by decide), st1_f (by decide), st1_f (by decide), st1_if]; rfl
  have s29 : ∀ i, (st1 (st1 (st1 (st1 (st1 (st1 (st1 S 0 0 0) 0 0 0) 2 0 ((S 2 0) + 1)) 28 k ((S 28 k) &&& ((1 <<< ((nI p) &&& 31)) ^^^ (-1)))) 5 p ((S 5 p) + 1)) 29 k ((S 29 k) + 0)) 30 k ((S 30 k) + 1)) 29 i = if i = k then S 29 k + 0 else S 29 i := fun i => by
    rw [st1_f (by decide), st1_if]; rfl
  have s30 : ∀ i, (st1 (st1 (st1 (st1 (st1 (st1 (st1 S 0 0 0) 0 0 0) 2 0 ((S 2 0) + 1)) 28 k ((S 28 k) &&& ((1 <<< ((nI p) &&& 31)) ^^^ (-1)))) 5 p ((S 5 p) + 1)) 29 k ((S 29 k) + 0)) 30 k ((S 30 k) + 1)) 30 i = if i = k then S 30 k + 1 else S 30 i := fun i => by
    rw [st1_if]; rfl
  have tf : ∀ i, (st1 (st1 T 31 k (T 31 k ||| (1 : Int32) <<< (nI p &&& 31))) 6 p (T 6 p + 1)) 31 i = if i = k then T 31 k ||| (1 : Int32) <<< (nI p &&& 31) else T 31 i := fun i => by
    rw [st1_f (by decide), st1_if]
  refine ⟨⟨⟨a1, a2, a3, a4, a5, a6, a7, a8, a9, a10, a11, ?_, a13⟩, ⟨fun q hq => ?_, hW.2⟩, jL_c hL rfl rfl rfl rfl rfl rfl rfl rfl rfl rfl, jP_c hP rfl rfl, jM_c hM rfl rfl rfl, jF_c hF rfl rfl rfl, jK_c hK rfl rfl rfl rfl rfl rfl rfl rfl rfl rfl rfl rfl rfl rfl rfl rfl rfl rfl rfl rfl rfl, ?_, ?_⟩, jD_c hD rfl rfl rfl rfl rfl rfl rfl rfl rfl⟩
  · show S 2 0 + 1 = _
    rw [a12, nI_1]
  · obtain ⟨w1, w2, w3⟩ := hW.1 q hq
    have e6 : (st1 (st1 T 31 k (T 31 k ||| (1 : Int32) <<< (nI p &&& 31))) 6 p (T 6 p + 1)) 6 q = if q = p then T 6 p + 1 else T 6 q := by rw [st1_if]; rfl
    have e5 : (st1 (st1 (st1 (st1 (st1 (st1 (st1 S 0 0 0) 0 0 0) 2 0 ((S 2 0) + 1)) 28 k ((S 28 k) &&& ((1 <<< ((nI p) &&& 31)) ^^^ (-1)))) 5 p ((S 5 p) + 1)) 29 k ((S 29 k) + 0)) 30 k ((S 30 k) + 1)) 5 q = if q = p then S 5 p + 1 else S 5 q := by
      rw [st1_f (by decide), st1_f (by decide), st1_if]; rfl
    refine ⟨w1, ?_, w3⟩
    rw [e6, e5, w2, (hW.1 p hp).2.1]
  · intro i hi
    obtain ⟨q1, q2, q3, q5, q4⟩ := hQ i hi
    rw [s28, s29, s30, tf]
    by_cases e9 : i = k
    · subst e9
      rw [if_pos rfl, if_pos rfl, if_pos rfl, if_pos rfl]
      refine ⟨q1, q2, q3, fun h => absurd h (q2 ho).2, fun h => ?_⟩
      obtain ⟨g1, g2, g3, g4, g5, g6, g7⟩ := q4 h
      have hb : bt (T 31 i) p = false := by
        rw [g2, b_andn _ _ (by omega), b_andn _ _ (by omega)] at hj
        revert hj
        cases bt (T 29 i) p <;> cases bt (T 30 i) p <;> cases bt (T 31 i) p <;> decide
      have hcb := cb_ins (p := p) (by omega) hb 16 (by omega)
      rw [if_pos hp] at hcb
      have haw := aw_bits hp g2
      refine ⟨g1, haw.2, g3, g4, bd_or g5 (bd_bit hp (by omega)), ?_, ?_⟩
      · rw [g6, Int32.add_zero]; rfl
      · rw [hcb, g7, nI_1]
    · rw [if_neg e9, if_neg e9, if_neg e9, if_neg e9]
      exact ⟨q1, q2, q3, q5, q4⟩
  · intro i hi hi9
    have q := hN i hi hi9
    rw [s29, s30, if_neg (by omega), if_neg (by omega)]
    exact q
set_option maxRecDepth 20000 in
set_option maxHeartbeats 1000000 in
theorem op_vote {G : am_S} (hG : G.1.stackTraces = false) {c0 : Nat} (hc0 : c0 < 1024) {T S : am_T} {o : Nat → Int64} (h : Rel c0 T S) : ∀ x1 x2 x3 : Int32, (x3 = 0 ∨ x3 = 1) → ∃ (kk bb : Int32) (T' S' : am_T) (o' : Nat → Int64), am_D G yL_vote (.codeWith yL_vote cL_vote 6 (some .int) [(0, 12, 15, 13), (0, 12, 19, 15)] :: am_G) am_WR (hp T S o) [.ref 0, .int x1, .int x2, .int x3, .ref 464] (hp T' S o') (some (.int kk)) ∧ am_D G yX6_vote (.code yX6_vote cX6_vote 5 (some .int) :: am_G) { frames := 5, cells := 0, slots := 0, locals := 121 } (hp T' S o') [.ref 465, .int x1, .int x2, .int x3] (hp T' S' o') (some (.int bb)) ∧ S' 0 0 = kk ∧ (kk = 0 → o' 0 = bb.toInt64) ∧ Rel (c0 + 1) T' S' := by
  obtain ⟨n, m, v, t, c, hc, hR⟩ := h
  have hs := jR_safe hR
  have ha := jR_all hR
  obtain ⟨⟨hA, hW, hL, hP, hM, hF, hK, hQ, hN⟩, hD⟩ := id hR
  obtain ⟨hn, hn2, hn10, hm, hm2, hm80, hv, hvm, ht, ht2, ht4, hcc, hwd⟩ := id hA
  have hv80 : v ≤ 80 := by omega
  intro x1 x2 x3 hx3
  rcases ixs x1 m (by omega) with hx | ⟨k, hk, rfl⟩
  · exact ⟨1, 0, T, (st1 S 0 0 1), o, w_vote_1 ⟨by decide, by decide, by decide, by decide⟩ (c_p_vote_1a hG hm hm80 hx), c_r_vote_1 hm2 hm80 hx, rfl, fun h0 => absurd h0 (by decide), Rel_0 hc hR _⟩
  rcases ixs x2 16 (by omega) with hy | ⟨p, hp, rfl⟩
  · exact ⟨1, 0, T, (st1 S 0 0 1), o, w_vote_1 ⟨by decide, by decide, by decide, by decide⟩ (c_p_vote_1b hG hm hm80 hk hy), c_r_vote_2 hm2 hm80 hk hy, rfl, fun h0 => absurd h0 (by decide), Rel_0 hc hR _⟩
  obtain ⟨q1, q2, q3, q5, q4⟩ := hQ k hk
  by_cases ho : S 27 k = 0
  · by_cases h28 : T 28 k = 1
    · have hw : bt (tAw T k) p = false := by
        unfold tAw
        rw [if_pos ((q4 h28).1.mpr ho), b_0]
      exact ⟨2, 0, T, (st1 (st1 S 0 0 0) 0 0 2), o, w_vote_2 ⟨by decide, by decide, by decide, by decide⟩ (c_p_vote_2b hG hm hm80 hk hp h28 hw), c_r_vote_3 hm2 hm80 hk hp ho, rfl, fun h0 => absurd h0 (by decide), Rel_00 hc hR _ _⟩
    · exact ⟨2, 0, T, (st1 (st1 S 0 0 0) 0 0 2), o, w_vote_2 ⟨by decide, by decide, by decide, by decide⟩ (c_p_vote_2a hG hm hm80 hk hp h28), c_r_vote_3 hm2 hm80 hk hp ho, rfl, fun h0 => absurd h0 (by decide), Rel_00 hc hR _ _⟩
  have h24 := (q2 ho).1
  have h28 : T 28 k = 1 := q1.mpr (q2 ho).2
  obtain ⟨g1, g2, g3, g4, g5, g6, g7⟩ := q4 h28
  have eaw : tAw T k = S 28 k := by
    unfold tAw
    rw [if_neg (fun h => ho (g1.mp h)), g2]
  by_cases hj : bt (S 28 k) p = true
  rotate_left
  · exact ⟨2, 0, T, (st1 (st1 S 0 0 0) 0 0 2), o, w_vote_2 ⟨by decide, by decide, by decide, by decide⟩ (c_p_vote_2b hG hm hm80 hk hp h28 (by rw [eaw]; exact bt_false.mp hj)), c_r_vote_4 hm2 hm80 hk hp ho (fun h => hj ((bt_iff (by omega)).mp h)), rfl, fun h0 => absurd h0 (by decide), Rel_00 hc hR _ _⟩
  have hw : bt (tAw T k) p = true := by rw [eaw]; exact hj
  have hj9 := (bt_iff (x := S 28 k) (k := p) (by omega)).mpr hj
  obtain ⟨hV1, hV2⟩ := hD.2 k hk h28 ho
  have n30 : bt (T 30 k) p = false ∧ bt (T 31 k) p = false := by
    rw [g2, b_andn _ _ (by omega), b_andn _ _ (by omega)] at hj
    revert hj
    cases bt (T 29 k) p <;> cases bt (T 30 k) p <;> cases bt (T 31 k) p <;> decide
  have c30 := cb_ins (p := p) (by omega) n30.1 16 (by omega)
  have c31 := cb_ins (p := p) (by omega) n30.2 16 (by omega)
  rw [if_pos hp] at c30 c31
  have b30 := bc_eq (bd_or g4 (bd_bit hp (by omega)))
  have b31 := bc_eq (bd_or g5 (bd_bit hp (by omega)))
  have b30' := bc_eq g4
  have b31' := bc_eq g5
  have two : ∀ x : Nat, x < 2 ^ 31 → ((2 : Int32) ≤ nI x ↔ 2 ≤ x) := fun x hx => nI_leI (a := 2) (b := x) (by decide) hx
  have eq2 : ∀ x : Nat, x < 2 ^ 31 → (nI x = (2 : Int32) ↔ x = 2) := fun x hx => nI_eq (a := x) (b := 2) (by omega) (by decide)
  obtain ⟨sp, hsp, e18⟩ := (hK k hk).2.2.1
  have e19 : T 19 k = nI sp := (hK k hk).2.1.trans e18
  rcases hx3 with rfl | rfl
  rotate_left
  · obtain ⟨hB1, hD1⟩ := jB_for hR hk hp ho hj
    have e30 : (st1 (st1 T 30 k (T 30 k ||| (1 : Int32) <<< (nI p &&& 31))) 6 p (T 6 p + 1)) 30 k = T 30 k ||| (1 : Int32) <<< (nI p &&& 31) := by rw [st1_f (by decide), st1_same]
    have e31 : (st1 (st1 T 30 k (T 30 k ||| (1 : Int32) <<< (nI p &&& 31))) 6 p (T 6 p + 1)) 31 k = T 31 k := rfl
    by_cases h1 : 2 ≤ cb (T 30 k) 16 + 1
    · have hM9 : jMid (st1 (st1 T 30 k (T 30 k ||| (1 : Int32) <<< (nI p &&& 31))) 6 p (T 6 p + 1)) (st1 (st1 (st1 (st1 (st1 (st1 (st1 S 0 0 0) 0 0 0) 2 0 ((S 2 0) + 1)) 28 k ((S 28 k) &&& ((1 <<< ((nI p) &&& 31)) ^^^ (-1)))) 5 p ((S 5 p) + 1)) 29 k ((S 29 k) + 1)) 30 k ((S 30 k) + 0)) n m v t (c + 1) := ⟨hB1, jD_mid hD1 (by omega) ht4⟩
      have hM8 := jB_5 hM9 hsp (-10)
      obtain ⟨r1, -, r3, r4, -, -⟩ := clr_it hM8 hk h24 m (Nat.le_refl m)
      have eT : itN (tClr n k) (st1 (st1 (st1 T 30 k (T 30 k ||| (1 : Int32) <<< (nI p &&& 31))) 6 p (T 6 p + 1)) 5 sp (-10)) m = itN (tClr n k) (st1 (st1 (st1 T 30 k (T 30 k ||| (1 : Int32) <<< (nI p &&& 31))) 6 p (T 6 p + 1)) 5 ((st1 (st1 T 30 k (T 30 k ||| (1 : Int32) <<< (nI p &&& 31))) 6 p (T 6 p + 1)) 19 k).toNatClampNeg (-10)) m := by
        rw [show (st1 (st1 T 30 k (T 30 k ||| (1 : Int32) <<< (nI p &&& 31))) 6 p (T 6 p + 1)) 19 k = nI sp from e19, nI_clamp (by omega)]
      have eS : itN (rcl n k) (st1 (st1 (st1 (st1 (st1 (st1 (st1 (st1 S 0 0 0) 0 0 0) 2 0 ((S 2 0) + 1)) 28 k ((S 28 k) &&& ((1 <<< ((nI p) &&& 31)) ^^^ (-1)))) 5 p ((S 5 p) + 1)) 29 k ((S 29 k) + 1)) 30 k ((S 30 k) + 0)) 4 sp (-10)) m = rClear (st1 (st1 (st1 (st1 (st1 (st1 (st1 S 0 0 0) 0 0 0) 2 0 ((S 2 0) + 1)) 28 k ((S 28 k) &&& ((1 <<< ((nI p) &&& 31)) ^^^ (-1)))) 5 p ((S 5 p) + 1)) 29 k ((S 29 k) + 1)) 30 k ((S 30 k) + 0)) n m k := by
        unfold rClear
        rw [show (st1 (st1 (st1 (st1 (st1 (st1 (st1 S 0 0 0) 0 0 0) 2 0 ((S 2 0) + 1)) 28 k ((S 28 k) &&& ((1 <<< ((nI p) &&& 31)) ^^^ (-1)))) 5 p ((S 5 p) + 1)) 29 k ((S 29 k) + 1)) 30 k ((S 30 k) + 0)) 18 k = nI sp from e18, nI_clamp (by omega)]
      rw [eT, eS] at r1
      rw [eS] at r3 r4
      have tfx : ∀ {g}, ((g ≠ 7 ∧ g ≠ 8 ∧ g ≠ 9 ∧ g ≠ 11 ∧ g ≠ 12 ∧ g ≠ 26 ∧ g ≠ 27 ∧ g ≠ 34 ∧ g ≠ 36) ∧ g ≠ 25 ∧ g ≠ 32) ∧ g ≠ 5 → itN (tClr n k) (st1 (st1 (st1 T 30 k (T 30 k ||| (1 : Int32) <<< (nI p &&& 31))) 6 p (T 6 p + 1)) 5 ((st1 (st1 T 30 k (T 30 k ||| (1 : Int32) <<< (nI p &&& 31))) 6 p (T 6 p + 1)) 19 k).toNatClampNeg (-10)) m g = (st1 (st1 T 30 k (T 30 k ||| (1 : Int32) <<< (nI p &&& 31))) 6 p (T 6 p + 1)) g := fun {g} h => (itN_f (F := tClr n k) g (fun i S => tClr_f h.1.1 h.1.2.1 h.1.2.2) _ m).trans (st1_f h.2)
      have hV9 : jV (itN (tClr n k) (st1 (st1 (st1 T 30 k (T 30 k ||| (1 : Int32) <<< (nI p &&& 31))) 6 p (T 6 p + 1)) 5 ((st1 (st1 T 30 k (T 30 k ||| (1 : Int32) <<< (nI p &&& 31))) 6 p (T 6 p + 1)) 19 k).toNatClampNeg (-10)) m) (rClear (st1 (st1 (st1 (st1 (st1 (st1 (st1 S 0 0 0) 0 0 0) 2 0 ((S 2 0) + 1)) 28 k ((S 28 k) &&& ((1 <<< ((nI p) &&& 31)) ^^^ (-1)))) 5 p ((S 5 p) + 1)) 29 k ((S 29 k) + 1)) 30 k ((S 30 k) + 0)) n m k) m := by
        intro i hi
        rw [tfx (by decide), tfx (by decide), tfx (by decide)]
        intro h8 h7
        by_cases e9 : i = k
        · subst e9
          exact absurd (r4 hk) h7
        · have e27 : (rClear (st1 (st1 (st1 (st1 (st1 (st1 (st1 S 0 0 0) 0 0 0) 2 0 ((S 2 0) + 1)) 28 k ((S 28 k) &&& ((1 <<< ((nI p) &&& 31)) ^^^ (-1)))) 5 p ((S 5 p) + 1)) 29 k ((S 29 k) + 1)) 30 k ((S 30 k) + 0)) n m k) 27 i = S 27 i := (r3 i).resolve_right h7
          rw [e27] at h7
          have q := hD.2 i hi h8 h7
          rw [st1_f (show 30 ≠ 6 by decide), st1_j e9]
          exact q
      have hR9 := mid_settle (v := v) r1 hV9
      have e9 : (tClear (st1 (st1 T 30 k (T 30 k ||| (1 : Int32) <<< (nI p &&& 31))) 6 p (T 6 p + 1)) n m v k) 25 k = (rClear (st1 (st1 (st1 (st1 (st1 (st1 (st1 S 0 0 0) 0 0 0) 2 0 ((S 2 0) + 1)) 28 k ((S 28 k) &&& ((1 <<< ((nI p) &&& 31)) ^^^ (-1)))) 5 p ((S 5 p) + 1)) 29 k ((S 29 k) + 1)) 30 k ((S 30 k) + 0)) n m k) 24 k := (hR9.1.2.2.2.2.2.2.1 k hk).2.2.2.2.2.2.2.2.2.2.2.1
      have e00 : (rClear (st1 (st1 (st1 (st1 (st1 (st1 (st1 S 0 0 0) 0 0 0) 2 0 ((S 2 0) + 1)) 28 k ((S 28 k) &&& ((1 <<< ((nI p) &&& 31)) ^^^ (-1)))) 5 p ((S 5 p) + 1)) 29 k ((S 29 k) + 1)) 30 k ((S 30 k) + 0)) n m k) 0 0 = 0 := by
        have hz : ∀ i, itN (rcl n k) (st1 (st1 (st1 (st1 (st1 (st1 (st1 (st1 S 0 0 0) 0 0 0) 2 0 ((S 2 0) + 1)) 28 k ((S 28 k) &&& ((1 <<< ((nI p) &&& 31)) ^^^ (-1)))) 5 p ((S 5 p) + 1)) 29 k ((S 29 k) + 1)) 30 k ((S 30 k) + 0)) 4 ((st1 (st1 (st1 (st1 (st1 (st1 (st1 S 0 0 0) 0 0 0) 2 0 ((S 2 0) + 1)) 28 k ((S 28 k) &&& ((1 <<< ((nI p) &&& 31)) ^^^ (-1)))) 5 p ((S 5 p) + 1)) 29 k ((S 29 k) + 1)) 30 k ((S 30 k) + 0)) 18 k).toNatClampNeg (-10)) i 0 = (st1 (st1 (st1 (st1 (st1 (st1 (st1 S 0 0 0) 0 0 0) 2 0 ((S 2 0) + 1)) 28 k ((S 28 k) &&& ((1 <<< ((nI p) &&& 31)) ^^^ (-1)))) 5 p ((S 5 p) + 1)) 29 k ((S 29 k) + 1)) 30 k ((S 30 k) + 0)) 0 := fun i => (itN_f (F := rcl n k) 0 (fun i S => by
          unfold rcl
          split
          · rw [rPass_f (by decide) (by decide)]; rfl
          · rfl) _ i).trans rfl
        exact congrFun (hz m) 0
      exact ⟨0, (rClear (st1 (st1 (st1 (st1 (st1 (st1 (st1 S 0 0 0) 0 0 0) 2 0 ((S 2 0) + 1)) 28 k ((S 28 k) &&& ((1 <<< ((nI p) &&& 31)) ^^^ (-1)))) 5 p ((S 5 p) + 1)) 29 k ((S 29 k) + 1)) 30 k ((S 30 k) + 0)) n m k) 24 k, (tClear (st1 (st1 T 30 k (T 30 k ||| (1 : Int32) <<< (nI p &&& 31))) 6 p (T 6 p + 1)) n m v k), (rClear (st1 (st1 (st1 (st1 (st1 (st1 (st1 S 0 0 0) 0 0 0) 2 0 ((S 2 0) + 1)) 28 k ((S 28 k) &&& ((1 <<< ((nI p) &&& 31)) ^^^ (-1)))) 5 p ((S 5 p) + 1)) 29 k ((S 29 k) + 1)) 30 k ((S 30 k) + 0)) n m k), am_updL o 0 ((tClear (st1 (st1 T 30 k (T 30 k ||| (1 : Int32) <<< (nI p &&& 31))) 6 p (T 6 p + 1)) n m v k) 25 k).toInt64, w_vote_n ⟨by decide, by decide, by decide, by decide⟩ (c_p_vote_nf1 hs hk hp h28 hw (by rw [e30, b30, c30]; exact (two _ (by omega)).mpr h1)), c_r_vote_5 ha hk hp ho hj9 (by rw [g6, nI_1]; exact (eq2 _ (by omega)).mpr (by omega)), e00, fun _ => (up0 o _).trans (congrArg Int32.toInt64 e9), ⟨n, m, v, t, c + 1, by omega, hR9⟩⟩
    · have hV9 : jV (st1 (st1 T 30 k (T 30 k ||| (1 : Int32) <<< (nI p &&& 31))) 6 p (T 6 p + 1)) (st1 (st1 (st1 (st1 (st1 (st1 (st1 S 0 0 0) 0 0 0) 2 0 ((S 2 0) + 1)) 28 k ((S 28 k) &&& ((1 <<< ((nI p) &&& 31)) ^^^ (-1)))) 5 p ((S 5 p) + 1)) 29 k ((S 29 k) + 1)) 30 k ((S 30 k) + 0)) m := by
        intro i hi h8 h7
        by_cases e9 : i = k
        · subst e9
          rw [e30, e31, c30]
          exact ⟨by omega, by omega⟩
        · have q := hD.2 i hi h8 h7
          rw [st1_f (show 30 ≠ 6 by decide), st1_j e9]
          exact q
      have hR9 : jR (st1 (st1 T 30 k (T 30 k ||| (1 : Int32) <<< (nI p &&& 31))) 6 p (T 6 p + 1)) (st1 (st1 (st1 (st1 (st1 (st1 (st1 S 0 0 0) 0 0 0) 2 0 ((S 2 0) + 1)) 28 k ((S 28 k) &&& ((1 <<< ((nI p) &&& 31)) ^^^ (-1)))) 5 p ((S 5 p) + 1)) 29 k ((S 29 k) + 1)) 30 k ((S 30 k) + 0)) n m v t (c + 1) := ⟨hB1, jD_up hD1, hV9⟩
      have e9 : (st1 (st1 T 30 k (T 30 k ||| (1 : Int32) <<< (nI p &&& 31))) 6 p (T 6 p + 1)) 25 k = S 24 k := (hK k hk).2.2.2.2.2.2.2.2.2.2.2.1
      exact ⟨0, S 24 k, (st1 (st1 T 30 k (T 30 k ||| (1 : Int32) <<< (nI p &&& 31))) 6 p (T 6 p + 1)), (st1 (st1 (st1 (st1 (st1 (st1 (st1 S 0 0 0) 0 0 0) 2 0 ((S 2 0) + 1)) 28 k ((S 28 k) &&& ((1 <<< ((nI p) &&& 31)) ^^^ (-1)))) 5 p ((S 5 p) + 1)) 29 k ((S 29 k) + 1)) 30 k ((S 30 k) + 0)), am_updL o 0 ((st1 (st1 T 30 k (T 30 k ||| (1 : Int32) <<< (nI p &&& 31))) 6 p (T 6 p + 1)) 25 k).toInt64, w_vote_n ⟨by decide, by decide, by decide, by decide⟩ (c_p_vote_nf0 hs hk hp h28 hw (by rw [e30, b30, c30, two _ (by omega)]; exact h1) (by rw [e31, b31', two _ (by omega)]; omega)), c_r_vote_6 hm2 hm80 hk hp ho hj9 (by rw [g6, nI_1, eq2 _ (by omega)]; omega) (by rw [g7, Int32.add_zero, eq2 _ (by omega)]; omega), rfl, fun _ => (up0 o _).trans (congrArg Int32.toInt64 e9), ⟨n, m, v, t, c + 1, by omega, hR9⟩⟩
  · obtain ⟨hB1, hD1⟩ := jB_ag hR hk hp ho hj
    have e31 : (st1 (st1 T 31 k (T 31 k ||| (1 : Int32) <<< (nI p &&& 31))) 6 p (T 6 p + 1)) 31 k = T 31 k ||| (1 : Int32) <<< (nI p &&& 31) := by rw [st1_f (by decide), st1_same]
    have e30 : (st1 (st1 T 31 k (T 31 k ||| (1 : Int32) <<< (nI p &&& 31))) 6 p (T 6 p + 1)) 30 k = T 30 k := rfl
    by_cases h1 : 2 ≤ cb (T 31 k) 16 + 1
    · have hcond : ∀ y : Int32, (if (100 : Int32) < T 5 sp + 5 then 100 else T 5 sp + 5) = y → jR (tCond (st1 (st1 T 31 k (T 31 k ||| (1 : Int32) <<< (nI p &&& 31))) 6 p (T 6 p + 1)) k) (st1 (st1 (st1 (st1 (st1 (st1 (st1 (st1 (st1 (st1 S 0 0 0) 0 0 0) 2 0 ((S 2 0) + 1)) 28 k ((S 28 k) &&& ((1 <<< ((nI p) &&& 31)) ^^^ (-1)))) 5 p ((S 5 p) + 1)) 29 k ((S 29 k) + 0)) 30 k ((S 30 k) + 1)) 27 k 0) 24 k 3) 4 sp y) n m v t (c + 1) := by
        intro y hy
        have eT : (tCond (st1 (st1 T 31 k (T 31 k ||| (1 : Int32) <<< (nI p &&& 31))) 6 p (T 6 p + 1)) k) = st1 (st1 (st1 (st1 (st1 T 31 k (T 31 k ||| (1 : Int32) <<< (nI p &&& 31))) 6 p (T 6 p + 1)) 25 k 3) 32 k 0) 5 sp y := by
          unfold tCond tClose
          rw [show st1 (st1 (st1 T 31 k (T 31 k ||| (1 : Int32) <<< (nI p &&& 31))) 6 p (T 6 p + 1)) 25 k 3 28 k = 1 from h28, if_pos rfl, show (st1 (st1 T 31 k (T 31 k ||| (1 : Int32) <<< (nI p &&& 31))) 6 p (T 6 p + 1)) 19 k = nI sp from e19, nI_clamp (by omega)]
          show st1 _ 5 sp (if (100 : Int32) < T 5 sp + 5 then 100 else T 5 sp + 5) = _
          rw [hy]
        rw [eT]
        obtain ⟨hA, hW, hL, hP, hM, hF, hK, hQ, hN⟩ := hB1
        have u25 : ∀ i, st1 (st1 (st1 (st1 (st1 T 31 k (T 31 k ||| (1 : Int32) <<< (nI p &&& 31))) 6 p (T 6 p + 1)) 25 k 3) 32 k 0) 5 sp y 25 i = if i = k then (3 : Int32) else (st1 (st1 T 31 k (T 31 k ||| (1 : Int32) <<< (nI p &&& 31))) 6 p (T 6 p + 1)) 25 i := fun i => by
          rw [st1_f (by decide), st1_f (by decide), st1_if]
        have u32 : ∀ i, st1 (st1 (st1 (st1 (st1 T 31 k (T 31 k ||| (1 : Int32) <<< (nI p &&& 31))) 6 p (T 6 p + 1)) 25 k 3) 32 k 0) 5 sp y 32 i = if i = k then (0 : Int32) else (st1 (st1 T 31 k (T 31 k ||| (1 : Int32) <<< (nI p &&& 31))) 6 p (T 6 p + 1)) 32 i := fun i => by
          rw [st1_f (by decide), st1_if]; rfl
        have u5 : ∀ i, st1 (st1 (st1 (st1 (st1 T 31 k (T 31 k ||| (1 : Int32) <<< (nI p &&& 31))) 6 p (T 6 p + 1)) 25 k 3) 32 k 0) 5 sp y 5 i = if i = sp then y else (st1 (st1 T 31 k (T 31 k ||| (1 : Int32) <<< (nI p &&& 31))) 6 p (T 6 p + 1)) 5 i := fun i => by
          rw [st1_if]; rfl
        have w24 : ∀ i, st1 (st1 (st1 (st1 (st1 (st1 (st1 (st1 (st1 (st1 S 0 0 0) 0 0 0) 2 0 ((S 2 0) + 1)) 28 k ((S 28 k) &&& ((1 <<< ((nI p) &&& 31)) ^^^ (-1)))) 5 p ((S 5 p) + 1)) 29 k ((S 29 k) + 0)) 30 k ((S 30 k) + 1)) 27 k 0) 24 k 3) 4 sp y 24 i = if i = k then (3 : Int32) else (st1 (st1 (st1 (st1 (st1 (st1 (st1 S 0 0 0) 0 0 0) 2 0 ((S 2 0) + 1)) 28 k ((S 28 k) &&& ((1 <<< ((nI p) &&& 31)) ^^^ (-1)))) 5 p ((S 5 p) + 1)) 29 k ((S 29 k) + 0)) 30 k ((S 30 k) + 1)) 24 i := fun i => by
          rw [st1_f (by decide), st1_if]; rfl
        have w27 : ∀ i, st1 (st1 (st1 (st1 (st1 (st1 (st1 (st1 (st1 (st1 S 0 0 0) 0 0 0) 2 0 ((S 2 0) + 1)) 28 k ((S 28 k) &&& ((1 <<< ((nI p) &&& 31)) ^^^ (-1)))) 5 p ((S 5 p) + 1)) 29 k ((S 29 k) + 0)) 30 k ((S 30 k) + 1)) 27 k 0) 24 k 3) 4 sp y 27 i = if i = k then (0 : Int32) else (st1 (st1 (st1 (st1 (st1 (st1 (st1 S 0 0 0) 0 0 0) 2 0 ((S 2 0) + 1)) 28 k ((S 28 k) &&& ((1 <<< ((nI p) &&& 31)) ^^^ (-1)))) 5 p ((S 5 p) + 1)) 29 k ((S 29 k) + 0)) 30 k ((S 30 k) + 1)) 27 i := fun i => by
          rw [st1_f (by decide), st1_f (by decide), st1_if]
        have w4 : ∀ i, st1 (st1 (st1 (st1 (st1 (st1 (st1 (st1 (st1 (st1 S 0 0 0) 0 0 0) 2 0 ((S 2 0) + 1)) 28 k ((S 28 k) &&& ((1 <<< ((nI p) &&& 31)) ^^^ (-1)))) 5 p ((S 5 p) + 1)) 29 k ((S 29 k) + 0)) 30 k ((S 30 k) + 1)) 27 k 0) 24 k 3) 4 sp y 4 i = if i = sp then y else (st1 (st1 (st1 (st1 (st1 (st1 (st1 S 0 0 0) 0 0 0) 2 0 ((S 2 0) + 1)) 28 k ((S 28 k) &&& ((1 <<< ((nI p) &&& 31)) ^^^ (-1)))) 5 p ((S 5 p) + 1)) 29 k ((S 29 k) + 0)) 30 k ((S 30 k) + 1)) 4 i := fun i => by
          rw [st1_if]; rfl
        have hV0 := hD.2
        have fq31 : ∀ i, i ≠ k → (st1 (st1 T 31 k (T 31 k ||| (1 : Int32) <<< (nI p &&& 31))) 6 p (T 6 p + 1)) 31 i = T 31 i := fun i hi => by
          rw [st1_f (show 31 ≠ 6 by decide), st1_j hi]
        have fT30 : ∀ i, (st1 (st1 T 31 k (T 31 k ||| (1 : Int32) <<< (nI p &&& 31))) 6 p (T 6 p + 1)) 30 i = T 30 i := fun i => rfl
        have fT28 : ∀ i, (st1 (st1 T 31 k (T 31 k ||| (1 : Int32) <<< (nI p &&& 31))) 6 p (T 6 p + 1)) 28 i = T 28 i := fun i => rfl
        have fS27 : ∀ i, (st1 (st1 (st1 (st1 (st1 (st1 (st1 S 0 0 0) 0 0 0) 2 0 ((S 2 0) + 1)) 28 k ((S 28 k) &&& ((1 <<< ((nI p) &&& 31)) ^^^ (-1)))) 5 p ((S 5 p) + 1)) 29 k ((S 29 k) + 0)) 30 k ((S 30 k) + 1)) 27 i = S 27 i := fun i => rfl
        generalize (st1 (st1 T 31 k (T 31 k ||| (1 : Int32) <<< (nI p &&& 31))) 6 p (T 6 p + 1)) = T9 at hA hW hL hP hM hF hK hQ hN hD1 u25 u32 u5 fq31 fT30 fT28 ⊢
        generalize (st1 (st1 (st1 (st1 (st1 (st1 (st1 S 0 0 0) 0 0 0) 2 0 ((S 2 0) + 1)) 28 k ((S 28 k) &&& ((1 <<< ((nI p) &&& 31)) ^^^ (-1)))) 5 p ((S 5 p) + 1)) 29 k ((S 29 k) + 0)) 30 k ((S 30 k) + 1)) = S9 at hA hW hL hP hM hF hK hQ hN hD1 w24 w27 w4 fS27 ⊢
        refine ⟨⟨jA_c hA rfl rfl rfl rfl rfl rfl rfl rfl rfl rfl, ⟨fun q hq => ?_, hW.2⟩, jL_c hL rfl rfl rfl rfl rfl rfl rfl rfl rfl rfl, jP_c hP rfl rfl, jM_c hM rfl rfl rfl, jF_c hF rfl rfl rfl, ?_, ?_, ?_⟩, jD_up (jD_c hD1 rfl rfl rfl rfl rfl rfl rfl rfl rfl), ?_⟩
        · obtain ⟨w1, w2⟩ := hW.1 q hq
          refine ⟨?_, w2⟩
          rw [u5, w4, w1]
        · intro i hi
          obtain ⟨b1, b2, b3, b4, b5, b6, b7, b8, b9, b10, ⟨e, he, b11, b12⟩, b13, b14, b15, b16⟩ := hK i hi
          refine ⟨b1, b2, b3, b4, b5, b6, b7, b8, b9, b10, ⟨e, he, b11, fun h1 => ?_⟩, ?_, b14, b15, fun h1 => ?_⟩
          · rw [w24] at h1
            by_cases e9 : i = k
            · rw [if_pos e9] at h1; exact absurd h1 (by decide)
            · rw [if_neg e9] at h1; exact b12 h1
          · rw [u25, w24, b13]
          · rw [w24] at h1
            by_cases e9 : i = k
            · rw [if_pos e9] at h1; exact absurd h1 (by decide)
            · rw [if_neg e9] at h1; exact b16 h1
        · intro i hi
          obtain ⟨q1, q2, q3, q5, q4⟩ := hQ i hi
          rw [w24, w27, u32]
          by_cases e9 : i = k
          · rw [if_pos e9, if_pos e9, if_pos e9]
            exact ⟨q1, fun h => absurd rfl h, fun h => absurd h (by decide), q5, fun h => ⟨⟨fun _ => rfl, fun _ => rfl⟩, (q4 h).2⟩⟩
          · rw [if_neg e9, if_neg e9, if_neg e9]
            exact ⟨q1, q2, q3, q5, q4⟩
        · intro i hi hi9
          have q := hN i hi hi9
          rw [w27, if_neg (by omega)]
          exact q
        · intro i hi h8 h7
          rw [w27] at h7
          by_cases e9 : i = k
          · rw [if_pos e9] at h7; exact absurd rfl h7
          · rw [if_neg e9, fS27] at h7
            have q := hV0 i hi ((fT28 i).symm.trans h8) h7
            show cb (T9 30 i) 16 < 2 ∧ cb (T9 31 i) 16 < 2
            rw [fT30, fq31 i e9]
            exact q
      have e5 : T 5 sp = S 4 sp := (hW.1 sp hsp).1
      have e9 : (tCond (st1 (st1 T 31 k (T 31 k ||| (1 : Int32) <<< (nI p &&& 31))) 6 p (T 6 p + 1)) k) 25 k = 3 := by
        unfold tCond tClose
        rw [st1_f (by decide), st1_f (by decide), st1_same]
      by_cases h3 : S 4 sp + 5 ≤ 100
      · exact ⟨0, 3, (tCond (st1 (st1 T 31 k (T 31 k ||| (1 : Int32) <<< (nI p &&& 31))) 6 p (T 6 p + 1)) k), (st1 (st1 (st1 (st1 (st1 (st1 (st1 (st1 (st1 (st1 S 0 0 0) 0 0 0) 2 0 ((S 2 0) + 1)) 28 k ((S 28 k) &&& ((1 <<< ((nI p) &&& 31)) ^^^ (-1)))) 5 p ((S 5 p) + 1)) 29 k ((S 29 k) + 0)) 30 k ((S 30 k) + 1)) 27 k 0) 24 k 3) 4 sp ((S 4 sp) + 5)), am_updL o 0 ((tCond (st1 (st1 T 31 k (T 31 k ||| (1 : Int32) <<< (nI p &&& 31))) 6 p (T 6 p + 1)) k) 25 k).toInt64, w_vote_n ⟨by decide, by decide, by decide, by decide⟩ (c_p_vote_na1 hs hk hp h28 hw (by rw [e30, b30', two _ (by omega)]; omega) (by rw [e31, b31, c31]; exact (two _ (by omega)).mpr h1)), c_r_vote_8 hm2 hm80 hk hp ho hj9 hsp e18 (by rw [g6, Int32.add_zero, eq2 _ (by omega)]; omega) (by rw [g7, nI_1]; exact (eq2 _ (by omega)).mpr (by omega)) h3, rfl, fun _ => (up0 o _).trans (congrArg Int32.toInt64 e9), ⟨n, m, v, t, c + 1, by omega, hcond _ (by rw [e5]; exact if_neg (Int32.not_lt.mpr h3))⟩⟩
      · exact ⟨0, 3, (tCond (st1 (st1 T 31 k (T 31 k ||| (1 : Int32) <<< (nI p &&& 31))) 6 p (T 6 p + 1)) k), (st1 (st1 (st1 (st1 (st1 (st1 (st1 (st1 (st1 (st1 S 0 0 0) 0 0 0) 2 0 ((S 2 0) + 1)) 28 k ((S 28 k) &&& ((1 <<< ((nI p) &&& 31)) ^^^ (-1)))) 5 p ((S 5 p) + 1)) 29 k ((S 29 k) + 0)) 30 k ((S 30 k) + 1)) 27 k 0) 24 k 3) 4 sp 100), am_updL o 0 ((tCond (st1 (st1 T 31 k (T 31 k ||| (1 : Int32) <<< (nI p &&& 31))) 6 p (T 6 p + 1)) k) 25 k).toInt64, w_vote_n ⟨by decide, by decide, by decide, by decide⟩ (c_p_vote_na1 hs hk hp h28 hw (by rw [e30, b30', two _ (by omega)]; omega) (by rw [e31, b31, c31]; exact (two _ (by omega)).mpr h1)), c_r_vote_9 hm2 hm80 hk hp ho hj9 hsp e18 (by rw [g6, Int32.add_zero, eq2 _ (by omega)]; omega) (by rw [g7, nI_1]; exact (eq2 _ (by omega)).mpr (by omega)) h3, rfl, fun _ => (up0 o _).trans (congrArg Int32.toInt64 e9), ⟨n, m, v, t, c + 1, by omega, hcond _ (by rw [e5]; exact if_pos (Int32.not_le.mp h3))⟩⟩
    · have hV9 : jV (st1 (st1 T 31 k (T 31 k ||| (1 : Int32) <<< (nI p &&& 31))) 6 p (T 6 p + 1)) (st1 (st1 (st1 (st1 (st1 (st1 (st1 S 0 0 0) 0 0 0) 2 0 ((S 2 0) + 1)) 28 k ((S 28 k) &&& ((1 <<< ((nI p) &&& 31)) ^^^ (-1)))) 5 p ((S 5 p) + 1)) 29 k ((S 29 k) + 0)) 30 k ((S 30 k) + 1)) m := by
        intro i hi h8 h7
        by_cases e9 : i = k
        · subst e9
          rw [e30, e31, c31]
          exact ⟨by omega, by omega⟩
        · have q := hD.2 i hi h8 h7
          rw [st1_f (show 31 ≠ 6 by decide), st1_j e9]
          exact q
      have hR9 : jR (st1 (st1 T 31 k (T 31 k ||| (1 : Int32) <<< (nI p &&& 31))) 6 p (T 6 p + 1)) (st1 (st1 (st1 (st1 (st1 (st1 (st1 S 0 0 0) 0 0 0) 2 0 ((S 2 0) + 1)) 28 k ((S 28 k) &&& ((1 <<< ((nI p) &&& 31)) ^^^ (-1)))) 5 p ((S 5 p) + 1)) 29 k ((S 29 k) + 0)) 30 k ((S 30 k) + 1)) n m v t (c + 1) := ⟨hB1, jD_up hD1, hV9⟩
      have e9 : (st1 (st1 T 31 k (T 31 k ||| (1 : Int32) <<< (nI p &&& 31))) 6 p (T 6 p + 1)) 25 k = S 24 k := (hK k hk).2.2.2.2.2.2.2.2.2.2.2.1
      exact ⟨0, S 24 k, (st1 (st1 T 31 k (T 31 k ||| (1 : Int32) <<< (nI p &&& 31))) 6 p (T 6 p + 1)), (st1 (st1 (st1 (st1 (st1 (st1 (st1 S 0 0 0) 0 0 0) 2 0 ((S 2 0) + 1)) 28 k ((S 28 k) &&& ((1 <<< ((nI p) &&& 31)) ^^^ (-1)))) 5 p ((S 5 p) + 1)) 29 k ((S 29 k) + 0)) 30 k ((S 30 k) + 1)), am_updL o 0 ((st1 (st1 T 31 k (T 31 k ||| (1 : Int32) <<< (nI p &&& 31))) 6 p (T 6 p + 1)) 25 k).toInt64, w_vote_n ⟨by decide, by decide, by decide, by decide⟩ (c_p_vote_na0 hs hk hp h28 hw (by rw [e30, b30', two _ (by omega)]; omega) (by rw [e31, b31, c31, two _ (by omega)]; exact h1)), c_r_vote_7 hm2 hm80 hk hp ho hj9 (by rw [g6, Int32.add_zero, eq2 _ (by omega)]; omega) (by rw [g7, nI_1, eq2 _ (by omega)]; omega), rfl, fun _ => (up0 o _).trans (congrArg Int32.toInt64 e9), ⟨n, m, v, t, c + 1, by omega, hR9⟩⟩
