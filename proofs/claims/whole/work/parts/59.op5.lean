/-! each call: readers, edition, size, digest -/
/-- a day, given or not -/
theorem ixd (x : Int32) (t : Nat) (ht : t ≤ 400) : (x < 0 ∨ nI t < x) ∨ ∃ d, d ≤ t ∧ x = nI d := by
  rcases ixs x (t + 1) (by omega) with (h | h) | ⟨d, hd, e⟩
  · exact Or.inl (Or.inl h)
  · exact Or.inl (Or.inr (Int32.lt_of_lt_of_le (nI_lt (a := t) (b := t + 1) (by omega) (by omega)) h))
  · exact Or.inr ⟨d, by omega, e⟩
theorem day_of (T : am_T) (x : Int32) : ∀ v, (∃ j, j < v ∧ T 33 j = x ∧ ∀ i, i < j → ¬ T 33 i = x) ∨ ∀ i, i < v → ¬ T 33 i = x := by
  intro v
  induction v with
  | zero => exact Or.inr (fun i h => absurd h (by omega))
  | succ v ih =>
    rcases ih with ⟨j, hj, e, h0⟩ | h0
    · exact Or.inl ⟨j, by omega, e, h0⟩
    · by_cases e : T 33 v = x
      · exact Or.inl ⟨v, by omega, e, h0⟩
      · refine Or.inr (fun i hi => ?_)
        by_cases e2 : i = v
        · subst e2; exact e
        · exact h0 i (by omega)
theorem in_dig {T S : am_T} {n m v t k l d : Nat} (hK : jK T S n m v t) (hv80 : v ≤ 80) (hk : k < m) (hl : l < 10) : (T 33 (T 21 k).toNatClampNeg = nI d ∧ bt (T 27 k) l = true) ↔ (S 20 k = nI d ∧ ¬ S 31 (10 * k + l) = 0) := by
  obtain ⟨b1, b2, b3, b4, b5, ⟨j, hj, b6, b7⟩, b8, b9, b10, b11, b12, b13, b14, b15, b16⟩ := hK k hk
  rw [b6, nI_clamp (by omega), b7, b15 l hl]
theorem tsz_eq {T S : am_T} {n m v t l d : Nat} (hK : jK T S n m v t) (hv80 : v ≤ 80) (hl : l < 10) {i : Nat} (hi : i ≤ m) : itN (tsz T l (nI d)) 0 i = itN (rsz S l d) 0 i := itN_congr (fun k hk a => by
  unfold tsz rsz
  by_cases h : S 20 k = nI d ∧ ¬ S 31 (10 * k + l) = 0
  · rw [if_pos h, if_pos ((in_dig hK hv80 (by omega) hl).mpr h)]
  · rw [if_neg h, if_neg (fun e => h ((in_dig hK hv80 (by omega) hl).mp e)), Int32.add_zero])
theorem rdg_at (S : am_T) (l d : Nat) (z : Int32) : ∀ i, i ≤ 80 → ∃ b, b ≤ i ∧ itN (rsz S l d) 0 i = nI b ∧ (itN (rdg S l d) (z, -1) i).1 = z - nI b ∧ (((∀ k, k < i → (S 20 k = nI d ∧ ¬ S 31 (10 * k + l) = 0) → ¬ itN (rsz S l d) 0 k = z) ∧ (itN (rdg S l d) (z, -1) i).2 = -1) ∨ ∃ q a, q < i ∧ (S 20 q = nI d ∧ ¬ S 31 (10 * q + l) = 0) ∧ itN (rsz S l d) 0 q = z ∧ (∀ k, k < q → (S 20 k = nI d ∧ ¬ S 31 (10 * k + l) = 0) → ¬ itN (rsz S l d) 0 k = z) ∧ (itN (rdg S l d) (z, -1) i).2 = nI q ∧ z = nI a ∧ a < b) := by
  intro i
  induction i with
  | zero => exact fun _ => ⟨0, Nat.le_refl 0, rfl, (Int32.sub_zero z).symm, Or.inl ⟨fun k h => absurd h (by omega), rfl⟩⟩
  | succ i ih =>
    intro hi
    obtain ⟨b, hb, e1, e2, e3⟩ := ih (by omega)
    show ∃ b, b ≤ i + 1 ∧ rsz S l d i (itN (rsz S l d) 0 i) = nI b ∧ (rdg S l d i (itN (rdg S l d) (z, -1) i)).1 = z - nI b ∧ (((∀ k, k < i + 1 → (S 20 k = nI d ∧ ¬ S 31 (10 * k + l) = 0) → ¬ itN (rsz S l d) 0 k = z) ∧ (rdg S l d i (itN (rdg S l d) (z, -1) i)).2 = -1) ∨ ∃ q a, q < i + 1 ∧ (S 20 q = nI d ∧ ¬ S 31 (10 * q + l) = 0) ∧ itN (rsz S l d) 0 q = z ∧ (∀ k, k < q → (S 20 k = nI d ∧ ¬ S 31 (10 * k + l) = 0) → ¬ itN (rsz S l d) 0 k = z) ∧ (rdg S l d i (itN (rdg S l d) (z, -1) i)).2 = nI q ∧ z = nI a ∧ a < b)
    generalize itN (rdg S l d) (z, -1) i = X at e2 e3 ⊢
    unfold rdg
    by_cases hM : S 20 i = nI d ∧ ¬ S 31 (10 * i + l) = 0
    · rw [if_pos hM]
      have hz : X.1 = 0 ↔ z = nI b := by
        rw [e2]
        constructor
        · intro h
          have h9 := Int32.sub_add_cancel z (nI b)
          rw [h, Int32.zero_add] at h9
          exact h9.symm
        · intro h
          rw [h, Int32.sub_self]
      refine ⟨b + 1, by omega, ?_, ?_, ?_⟩
      · show itN (rsz S l d) 0 i + (if S 20 i = nI d ∧ ¬ S 31 (10 * i + l) = 0 then 1 else 0) = _
        rw [if_pos hM, e1, nI_1]
      · show X.1 + (-1) = _
        rw [e2, ← nI_1]
        simp only [Int32.sub_eq_add_neg, Int32.neg_add, Int32.add_assoc]
      · rcases e3 with ⟨f1, f2⟩ | ⟨q, a, hq, f1, f2, f3, f4, f5, f6⟩
        · by_cases h9 : X.1 = 0
          · refine Or.inr ⟨i, b, by omega, hM, e1.trans (hz.mp h9).symm, f1, ?_, hz.mp h9, by omega⟩
            show (if X.1 = 0 then nI i else X.2) = nI i
            rw [if_pos h9]
          · refine Or.inl ⟨fun k hk hm => ?_, ?_⟩
            · by_cases e9 : k = i
              · subst e9; rw [e1]; exact fun h => h9 (hz.mpr h.symm)
              · exact f1 k (by omega) hm
            · show (if X.1 = 0 then nI i else X.2) = -1
              rw [if_neg h9, f2]
        · refine Or.inr ⟨q, a, by omega, f1, f2, f3, ?_, f5, by omega⟩
          show (if X.1 = 0 then nI i else X.2) = nI q
          rw [if_neg (fun h => ?_), f4]
          have h8 := (nI_eq (a := a) (b := b) (by omega) (by omega)).mp (f5.symm.trans (hz.mp h))
          omega
    · rw [if_neg hM]
      refine ⟨b, by omega, ?_, e2, ?_⟩
      · show itN (rsz S l d) 0 i + (if S 20 i = nI d ∧ ¬ S 31 (10 * i + l) = 0 then 1 else 0) = _
        rw [if_neg hM, e1, Int32.add_zero]
      · rcases e3 with ⟨f1, f2⟩ | ⟨q, a, hq, f1, f2, f3, f4, f5, f6⟩
        · refine Or.inl ⟨fun k hk hm => ?_, f2⟩
          by_cases e9 : k = i
          · subst e9; exact absurd hm hM
          · exact f1 k (by omega) hm
        · exact Or.inr ⟨q, a, by omega, f1, f2, f3, f4, f5, f6⟩
set_option maxRecDepth 20000 in
set_option maxHeartbeats 1000000 in
theorem op_readers {G : am_S} (hG : G.1.stackTraces = false) {c0 : Nat} (hc0 : c0 < 1024) {T S : am_T} {o : Nat → Int64} (h : Rel c0 T S) : ∀ x1 x2 : Int32, ∃ (kk bb : Int32) (T' S' : am_T) (o' : Nat → Int64), am_D G yL_readers (.codeWith yL_readers cL_readers 5 (some .int) [(0, 10, 13, 13), (0, 10, 17, 21)] :: am_G) am_WR (hp T S o) [.ref 0, .int x1, .int x2, .ref 464] (hp T' S o') (some (.int kk)) ∧ am_D G yX6_readers (.code yX6_readers cX6_readers 3 (some .int) :: am_G) { frames := 3, cells := 0, slots := 0, locals := 65 } (hp T' S o') [.ref 465, .int x1, .int x2] (hp T' S' o') (some (.int bb)) ∧ S' 0 0 = kk ∧ (kk = 0 → o' 0 = bb.toInt64) ∧ Rel (c0 + 1) T' S' := by
  obtain ⟨n, m, v, t, c, hc, hR⟩ := h
  have hs := jR_safe hR
  have ha := jR_all hR
  obtain ⟨⟨hA, hW, hL, hP, hM, hF, hK, hQ, hN⟩, hD⟩ := id hR
  obtain ⟨hn, hn2, hn10, hm, hm2, hm80, hv, hvm, ht, ht2, ht4, hcc, hwd⟩ := id hA
  have hv80 : v ≤ 80 := by omega
  intro x1 x2
  have hday : ∀ k, k < m → (T 21 k).toNatClampNeg < v := fun k hk => (hs.2.2.2.2.2.2.2 k hk).1
  rcases ixs x1 n (by omega) with hx | ⟨l, hl, rfl⟩
  · exact ⟨1, 0, T, (st1 S 0 0 1), o, w_readers_1 ⟨by decide, by decide, by decide, by decide⟩ (c_p_readers_1 hG hn hn10 hx), c_r_readers_1 hn2 hn10 hx, rfl, fun h0 => absurd h0 (by decide), Rel_0 hc hR _⟩
  rcases ixd x2 t ht4 with hy | ⟨d, hd, rfl⟩
  · exact ⟨2, 0, T, (st1 S 0 0 2), o, w_readers_3 ⟨by decide, by decide, by decide, by decide⟩ (c_p_readers_2 hG hn hn10 ht ht4 hl hy), c_r_readers_2 hn2 hn10 ht2 ht4 hl hy, rfl, fun h0 => absurd h0 (by decide), Rel_0 hc hR _⟩
  rcases day_of T (nI d) v with ⟨j, hj, hx, h0⟩ | h0
  · obtain ⟨d2, hd2, e1, e2, e3⟩ := hD.1.1 j hj
    have e4 : d2 = d := (nI_eq (by omega) (by omega)).mp (e1.symm.trans hx)
    subst e4
    have e9 : T 34 (10 * j + l) = S 34 (401 * l + d2) := by
      exact (e3 l (by omega)).1
    exact ⟨0, S 34 (401 * l + d2), T, (st1 S 0 0 0), am_updL o 0 (T 34 (10 * j + l)).toInt64, w_readers_n ⟨by decide, by decide, by decide, by decide⟩ (c_p_readers_y hn hn10 hm hm80 hv hv80 hday ht ht4 hl hd2 hj hx h0), c_r_readers_3 hn2 hn10 ht2 ht4 hl hd2, rfl, fun _ => (up0 o _).trans (congrArg Int32.toInt64 e9), Rel_0 hc hR _⟩
  · have e9 : (0 : Int32) = S 34 (401 * l + d) := by
      obtain ⟨g1, g2, g3, -⟩ := hD.1.2.2 l d (by omega) (by omega)
      have g3 := g3 h0
      exact g3.1.symm
    exact ⟨0, S 34 (401 * l + d), T, (st1 S 0 0 0), am_updL o 0 ((0 : Int32)).toInt64, w_readers_n ⟨by decide, by decide, by decide, by decide⟩ (c_p_readers_n hn hn10 hm hm80 hv hv80 hday ht ht4 hl hd h0), c_r_readers_3 hn2 hn10 ht2 ht4 hl hd, rfl, fun _ => (up0 o _).trans (congrArg Int32.toInt64 e9), Rel_0 hc hR _⟩
set_option maxRecDepth 20000 in
set_option maxHeartbeats 1000000 in
theorem op_edition {G : am_S} (hG : G.1.stackTraces = false) {c0 : Nat} (hc0 : c0 < 1024) {T S : am_T} {o : Nat → Int64} (h : Rel c0 T S) : ∀ x1 x2 : Int32, ∃ (kk bb : Int32) (T' S' : am_T) (o' : Nat → Int64), am_D G yL_edition (.codeWith yL_edition cL_edition 5 (some .int) [(0, 10, 13, 13), (0, 10, 17, 21)] :: am_G) am_WR (hp T S o) [.ref 0, .int x1, .int x2, .ref 464] (hp T' S o') (some (.int kk)) ∧ am_D G yX6_edition (.code yX6_edition cX6_edition 3 (some .int) :: am_G) { frames := 3, cells := 0, slots := 0, locals := 65 } (hp T' S o') [.ref 465, .int x1, .int x2] (hp T' S' o') (some (.int bb)) ∧ S' 0 0 = kk ∧ (kk = 0 → o' 0 = bb.toInt64) ∧ Rel (c0 + 1) T' S' := by
  obtain ⟨n, m, v, t, c, hc, hR⟩ := h
  have hs := jR_safe hR
  have ha := jR_all hR
  obtain ⟨⟨hA, hW, hL, hP, hM, hF, hK, hQ, hN⟩, hD⟩ := id hR
  obtain ⟨hn, hn2, hn10, hm, hm2, hm80, hv, hvm, ht, ht2, ht4, hcc, hwd⟩ := id hA
  have hv80 : v ≤ 80 := by omega
  intro x1 x2
  have hday : ∀ k, k < m → (T 21 k).toNatClampNeg < v := fun k hk => (hs.2.2.2.2.2.2.2 k hk).1
  rcases ixs x1 n (by omega) with hx | ⟨l, hl, rfl⟩
  · exact ⟨1, 0, T, (st1 S 0 0 1), o, w_edition_1 ⟨by decide, by decide, by decide, by decide⟩ (c_p_edition_1 hG hn hn10 hx), c_r_edition_1 hn2 hn10 hx, rfl, fun h0 => absurd h0 (by decide), Rel_0 hc hR _⟩
  rcases ixd x2 t ht4 with hy | ⟨d, hd, rfl⟩
  · exact ⟨2, 0, T, (st1 S 0 0 2), o, w_edition_3 ⟨by decide, by decide, by decide, by decide⟩ (c_p_edition_2 hG hn hn10 ht ht4 hl hy), c_r_edition_2 hn2 hn10 ht2 ht4 hl hy, rfl, fun h0 => absurd h0 (by decide), Rel_0 hc hR _⟩
  rcases day_of T (nI d) v with ⟨j, hj, hx, h0⟩ | h0
  · obtain ⟨d2, hd2, e1, e2, e3⟩ := hD.1.1 j hj
    have e4 : d2 = d := (nI_eq (by omega) (by omega)).mp (e1.symm.trans hx)
    subst e4
    have e9 : (if T 34 (10 * j + l) = 0 then -1 else T 35 (10 * j + l)) = (if S 32 (401 * l + d2) = 0 then -1 else S 33 (401 * l + d2)) := by
      obtain ⟨g1, g2, g3⟩ := e3 l (by omega)
      have g4 := (hD.1.2.2 l d2 (by omega) (by omega)).1
      rw [g1, g2]
      have g5 : ¬ bt (T 36 j) l = true := fun h => (g3.mp h)
      rw [if_neg g5, Int32.add_zero]
      by_cases h9 : S 34 (401 * l + d2) = 0
      · rw [if_pos h9, if_pos (g4.mpr h9)]
      · rw [if_neg h9, if_neg (fun h => h9 (g4.mp h))]
    exact ⟨0, (if S 32 (401 * l + d2) = 0 then -1 else S 33 (401 * l + d2)), T, (st1 S 0 0 0), am_updL o 0 ((if T 34 (10 * j + l) = 0 then -1 else T 35 (10 * j + l))).toInt64, w_edition_n ⟨by decide, by decide, by decide, by decide⟩ (c_p_edition_y hn hn10 hm hm80 hv hv80 hday ht ht4 hl hd2 hj hx h0), c_r_edition_3 hn2 hn10 ht2 ht4 hl hd2, rfl, fun _ => (up0 o _).trans (congrArg Int32.toInt64 e9), Rel_0 hc hR _⟩
  · have e9 : (-1 : Int32) = (if S 32 (401 * l + d) = 0 then -1 else S 33 (401 * l + d)) := by
      obtain ⟨g1, g2, g3, -⟩ := hD.1.2.2 l d (by omega) (by omega)
      have g3 := g3 h0
      rw [if_pos (g1.mpr g3.1)]
    exact ⟨0, (if S 32 (401 * l + d) = 0 then -1 else S 33 (401 * l + d)), T, (st1 S 0 0 0), am_updL o 0 ((-1 : Int32)).toInt64, w_edition_n ⟨by decide, by decide, by decide, by decide⟩ (c_p_edition_n hn hn10 hm hm80 hv hv80 hday ht ht4 hl hd h0), c_r_edition_3 hn2 hn10 ht2 ht4 hl hd, rfl, fun _ => (up0 o _).trans (congrArg Int32.toInt64 e9), Rel_0 hc hR _⟩
set_option maxRecDepth 20000 in
set_option maxHeartbeats 1000000 in
theorem op_size {G : am_S} (hG : G.1.stackTraces = false) {c0 : Nat} (hc0 : c0 < 1024) {T S : am_T} {o : Nat → Int64} (h : Rel c0 T S) : ∀ x1 x2 : Int32, ∃ (kk bb : Int32) (T' S' : am_T) (o' : Nat → Int64), am_D G yL_size (.codeWith yL_size cL_size 5 (some .int) [(0, 10, 13, 13), (0, 10, 17, 21)] :: am_G) am_WR (hp T S o) [.ref 0, .int x1, .int x2, .ref 464] (hp T' S o') (some (.int kk)) ∧ am_D G yX6_size (.code yX6_size cX6_size 5 (some .int) :: am_G) { frames := 3, cells := 0, slots := 0, locals := 65 } (hp T' S o') [.ref 465, .int x1, .int x2] (hp T' S' o') (some (.int bb)) ∧ S' 0 0 = kk ∧ (kk = 0 → o' 0 = bb.toInt64) ∧ Rel (c0 + 1) T' S' := by
  obtain ⟨n, m, v, t, c, hc, hR⟩ := h
  have hs := jR_safe hR
  have ha := jR_all hR
  obtain ⟨⟨hA, hW, hL, hP, hM, hF, hK, hQ, hN⟩, hD⟩ := id hR
  obtain ⟨hn, hn2, hn10, hm, hm2, hm80, hv, hvm, ht, ht2, ht4, hcc, hwd⟩ := id hA
  have hv80 : v ≤ 80 := by omega
  intro x1 x2
  have hday : ∀ k, k < m → (T 21 k).toNatClampNeg < v := fun k hk => (hs.2.2.2.2.2.2.2 k hk).1
  rcases ixs x1 n (by omega) with hx | ⟨l, hl, rfl⟩
  · exact ⟨1, 0, T, (st1 S 0 0 1), o, w_size_1 ⟨by decide, by decide, by decide, by decide⟩ (c_p_size_1 hG hn hn10 hx), c_r_size_1 hn2 hn10 hm2 hm80 hx, rfl, fun h0 => absurd h0 (by decide), Rel_0 hc hR _⟩
  rcases ixd x2 t ht4 with hy | ⟨d, hd, rfl⟩
  · exact ⟨2, 0, T, (st1 S 0 0 2), o, w_size_3 ⟨by decide, by decide, by decide, by decide⟩ (c_p_size_2 hG hn hn10 ht ht4 hl hy), c_r_size_2 hn2 hn10 hm2 hm80 ht2 ht4 hl hy, rfl, fun h0 => absurd h0 (by decide), Rel_0 hc hR _⟩
  have e9 := tsz_eq (d := d) hK hv80 (show l < 10 by omega) (Nat.le_refl m)
  exact ⟨0, rSize S m l d, T, (st1 S 0 0 0), am_updL o 0 ((itN (tsz T l (nI d)) 0 m)).toInt64, w_size_n ⟨by decide, by decide, by decide, by decide⟩ (c_p_size_n hn hn10 hm hm80 hv hv80 hday ht ht4 hl hd), c_r_size_3 hn2 hn10 hm2 hm80 ht2 ht4 hl hd, rfl, fun _ => (up0 o _).trans (congrArg Int32.toInt64 e9), Rel_0 hc hR _⟩
set_option maxRecDepth 20000 in
set_option maxHeartbeats 1000000 in
theorem op_digest {G : am_S} (hG : G.1.stackTraces = false) {c0 : Nat} (hc0 : c0 < 1024) {T S : am_T} {o : Nat → Int64} (h : Rel c0 T S) : ∀ x1 x2 x3 : Int32, ∃ (kk bb : Int32) (T' S' : am_T) (o' : Nat → Int64), am_D G yL_digest (.codeWith yL_digest cL_digest 6 (some .int) [(0, 12, 15, 13), (0, 12, 19, 21), (0, 12, 23, 112)] :: am_G) am_WR (hp T S o) [.ref 0, .int x1, .int x2, .int x3, .ref 464] (hp T' S o') (some (.int kk)) ∧ am_D G yX6_digest (.code yX6_digest cX6_digest 7 (some .int) :: am_G) { frames := 3, cells := 0, slots := 0, locals := 65 } (hp T' S o') [.ref 465, .int x1, .int x2, .int x3] (hp T' S' o') (some (.int bb)) ∧ S' 0 0 = kk ∧ (kk = 0 → o' 0 = bb.toInt64) ∧ Rel (c0 + 1) T' S' := by
  obtain ⟨n, m, v, t, c, hc, hR⟩ := h
  have hs := jR_safe hR
  have ha := jR_all hR
  obtain ⟨⟨hA, hW, hL, hP, hM, hF, hK, hQ, hN⟩, hD⟩ := id hR
  obtain ⟨hn, hn2, hn10, hm, hm2, hm80, hv, hvm, ht, ht2, ht4, hcc, hwd⟩ := id hA
  have hv80 : v ≤ 80 := by omega
  intro x1 x2 x3
  have hday : ∀ k, k < m → (T 21 k).toNatClampNeg < v := fun k hk => (hs.2.2.2.2.2.2.2 k hk).1
  rcases ixs x1 n (by omega) with hx | ⟨l, hl, rfl⟩
  · exact ⟨1, 0, T, (st1 (st1 S 0 0 1) 0 0 1), o, w_digest_1 ⟨by decide, by decide, by decide, by decide⟩ (c_p_digest_1 hG hn hn10 hx), c_r_digest_1 hn2 hn10 hm2 hm80 hx, rfl, fun h0 => absurd h0 (by decide), Rel_00 hc hR _ _⟩
  rcases ixd x2 t ht4 with hy | ⟨d, hd, rfl⟩
  · exact ⟨2, 0, T, (st1 (st1 S 0 0 2) 0 0 2), o, w_digest_3 ⟨by decide, by decide, by decide, by decide⟩ (c_p_digest_2 hG hn hn10 ht ht4 hl hy), c_r_digest_2 hn2 hn10 hm2 hm80 ht2 ht4 hl hy, rfl, fun h0 => absurd h0 (by decide), Rel_00 hc hR _ _⟩
  obtain ⟨b, hb, e1, e2, e3⟩ := rdg_at S l d x3 m hm80
  have h9 := fun o => c_r_digest_3 (G := G) (T := T) (S := S) (o := o) hn2 hn10 hm2 hm80 ht2 ht4 hl hd (z := x3)
  rcases e3 with ⟨f1, f2⟩ | ⟨q, a, hq, f1, f2, f3, f4, f5, f6⟩
  · have f2 : (rDg S m l d x3).2 = -1 := f2
    have h9 := h9 o
    rw [if_pos f2, if_pos f2] at h9
    exact ⟨3, 0, T, (st1 (st1 S 0 0 0) 0 0 3), o, w_digest_4 ⟨by decide, by decide, by decide, by decide⟩ (c_p_digest_x hG hn hn10 hm hm80 hv hv80 hday ht ht4 hl hd (fun i hi h => by rw [tsz_eq hK hv80 (by omega) (by omega)]; exact f1 i hi ((in_dig hK hv80 hi (by omega)).mp h))), h9, rfl, fun h0 => absurd h0 (by decide), Rel_00 hc hR _ _⟩
  · have f4 : (rDg S m l d x3).2 = nI q := f4
    have f7 : ¬ (rDg S m l d x3).2 = -1 := by
      rw [f4]; exact nI_ne_m1 (by omega)
    have h9 := h9 (am_updL o 0 (nI q).toInt64)
    rw [if_neg f7, if_neg f7, f4] at h9
    exact ⟨0, nI q, T, (st1 (st1 S 0 0 0) 0 0 0), am_updL o 0 (nI q).toInt64, w_digest_n ⟨by decide, by decide, by decide, by decide⟩ (c_p_digest_n hn hn10 hm hm80 hv hv80 hday ht ht4 hl hd hq ((in_dig hK hv80 hq (by omega)).mpr f1) (by rw [tsz_eq hK hv80 (by omega) (by omega)]; exact f2) (fun i hi h => by rw [tsz_eq hK hv80 (by omega) (by omega)]; exact f3 i hi ((in_dig hK hv80 (by omega) (by omega)).mp h))), h9, rfl, fun _ => up0 o _, Rel_00 hc hR _ _⟩
