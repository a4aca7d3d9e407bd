/-! each call: approve -/
set_option maxRecDepth 20000 in
set_option maxHeartbeats 1000000 in
theorem op_approve {G : am_S} (hG : G.1.stackTraces = false) {c0 : Nat} (hc0 : c0 < 1024) {T S : am_T} {o : Nat → Int64} (h : Rel c0 T S) : ∀ x1 : Int32, ∃ (kk bb : Int32) (T' S' : am_T) (o' : Nat → Int64), am_D G yL_approve (.codeWith yL_approve cL_approve 4 (some .int) [(0, 9, 12, 13), (0, 9, 15, 15)] :: am_G) am_WR (hp T S o) [.ref 0, .int x1, .ref 464] (hp T' S o') (some (.int kk)) ∧ am_D G yX6_approve (.code yX6_approve cX6_approve 2 (some .int) :: am_G) { frames := 4, cells := 0, slots := 0, locals := 98 } (hp T' S o') [.ref 465, .int x1] (hp T' S' o') (some (.int bb)) ∧ S' 0 0 = kk ∧ (kk = 0 → o' 0 = bb.toInt64) ∧ Rel (c0 + 1) T' S' := by
  obtain ⟨n, m, v, t, c, hc, hR⟩ := h
  have hs := jR_safe hR
  have ha := jR_all hR
  obtain ⟨⟨hA, hW, hL, hP, hM, hF, hK, hQ, hN⟩, hD⟩ := id hR
  obtain ⟨hn, hn2, hn10, hm, hm2, hm80, hv, hvm, ht, ht2, ht4, hcc, hwd⟩ := id hA
  have hv80 : v ≤ 80 := by omega
  intro x1
  rcases ixs x1 m (by omega) with hx | ⟨k, hk, rfl⟩
  · exact ⟨1, 0, T, (st1 S 0 0 1), o, w_approve_1 ⟨by decide, by decide, by decide, by decide⟩ (c_p_approve_1 hG hm hm80 hx), c_r_approve_1 hm2 hm80 hx, rfl, fun h0 => absurd h0 (by decide), Rel_0 hc hR _⟩
  by_cases hh : S 24 k = 1 ∧ S 27 k = 0
  · have h9 := (held_iff hK hQ hk).mpr hh
    obtain ⟨l, hl, e19⟩ := (hK k hk).2.2.2.2.1
    obtain ⟨d, hd, e20⟩ := (hK k hk).2.2.2.2.2.2.1
    have hs9 : rSafe S n k l d := ⟨hn2, hn10, hl, by omega, e19, e20, by omega, ha.2.2.2.2.1⟩
    have h1 := mid_of (T' := T) (S' := (st1 (st1 S 0 0 0) 2 0 (S 2 0 + 1))) hR (by omega) (fun _ => rfl) (fun g g0 g2 => by rw [st1_f g2, st1_f g0]) (by rw [st1_same, hcc, nI_1])
    have h2 := mid_pass h1 hk hh.1
    have e27 : st1 (st1 (st1 S 0 0 0) 2 0 (S 2 0 + 1)) 27 k 0 = (st1 (st1 S 0 0 0) 2 0 (S 2 0 + 1)) := by
      have h := st1_id (st1 (st1 S 0 0 0) 2 0 (S 2 0 + 1)) 27 k
      rw [show (st1 (st1 S 0 0 0) 2 0 (S 2 0 + 1)) 27 k = 0 from hh.2] at h
      exact h
    rw [tClose_id hQ hk hh.2, e27, show ((st1 (st1 S 0 0 0) 2 0 (S 2 0 + 1)) 19 k).toNatClampNeg = l from by rw [show (st1 (st1 S 0 0 0) 2 0 (S 2 0 + 1)) 19 k = nI l from e19, nI_clamp (by omega)]] at h2
    have hV := jV_c (T' := tDel T n k) (S' := (rPass (st1 (st1 S 0 0 0) 2 0 (S 2 0 + 1)) n k l)) hD.2 (tDel_f (by decide) (by decide)) (tDel_f (by decide) (by decide)) (tDel_f (by decide) (by decide)) ((rPass_f (by decide) (by decide)).trans rfl)
    have h3 := mid_settle (v := v) h2 hV
    have e9 : (tSettle (tDel T n k) v) 26 k = (rPass (st1 (st1 S 0 0 0) 2 0 (S 2 0 + 1)) n k l) 25 k := (h3.1.2.2.2.2.2.2.1 k hk).2.2.2.2.2.2.2.2.2.2.2.2.1
    exact ⟨0, (rPass (st1 (st1 S 0 0 0) 2 0 (S 2 0 + 1)) n k l) 25 k, (tSettle (tDel T n k) v), (rPass (st1 (st1 S 0 0 0) 2 0 (S 2 0 + 1)) n k l), am_updL o 0 ((tSettle (tDel T n k) v) 26 k).toInt64, w_approve_n ⟨by decide, by decide, by decide, by decide⟩ (c_p_approve_n hs hk h9.1 h9.2), c_r_approve_3 hm2 hm80 hk hs9 hh, ((congrFun (rPass_f (by decide) (by decide)) 0).trans rfl), fun _ => (up0 o _).trans (congrArg Int32.toInt64 e9), ⟨n, m, v, t, c + 1, by omega, h3⟩⟩
  · have h9 : ¬ T 25 k = 1 ∨ (T 28 k = 1 ∧ ¬ T 32 k = 0) := by
      by_cases h1 : T 25 k = 1
      · by_cases h2 : T 28 k = 1 ∧ ¬ T 32 k = 0
        · exact Or.inr h2
        · exact absurd ((held_iff hK hQ hk).mp ⟨h1, h2⟩) hh
      · exact Or.inl h1
    exact ⟨2, 0, T, (st1 S 0 0 2), o, w_approve_2 ⟨by decide, by decide, by decide, by decide⟩ (c_p_approve_2 hG hm hm80 hk h9), c_r_approve_2 hm2 hm80 hk hh, rfl, fun h0 => absurd h0 (by decide), Rel_0 hc hR _⟩
