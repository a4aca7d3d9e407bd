/-! each call: the getters -/
set_option maxRecDepth 20000 in
set_option maxHeartbeats 1000000 in
theorem op_state {G : am_S} (hG : G.1.stackTraces = false) {c0 : Nat} (hc0 : c0 < 1024) {T S : am_T} {o : Nat → Int64} (h : Rel c0 T S) : ∀ x1 : Int32, ∃ (kk bb : Int32) (T' S' : am_T) (o' : Nat → Int64), am_D G yL_state (.codeWith yL_state cL_state 4 (some .int) [(0, 9, 12, 13)] :: am_G) am_WR (hp T S o) [.ref 0, .int x1, .ref 464] (hp T' S o') (some (.int kk)) ∧ am_D G yX6_state (.code yX6_state cX6_state 2 (some .int) :: am_G) { frames := 3, cells := 0, slots := 0, locals := 64 } (hp T' S o') [.ref 465, .int x1] (hp T' S' o') (some (.int bb)) ∧ S' 0 0 = kk ∧ (kk = 0 → o' 0 = bb.toInt64) ∧ Rel (c0 + 1) T' S' := by
  obtain ⟨n, m, v, t, c, hc, hR⟩ := h
  have hs := jR_safe hR
  have ha := jR_all hR
  obtain ⟨⟨hA, hW, hL, hP, hM, hF, hK, hQ, hN⟩, hD⟩ := id hR
  obtain ⟨hn, hn2, hn10, hm, hm2, hm80, hv, hvm, ht, ht2, ht4, hcc, hwd⟩ := id hA
  have hv80 : v ≤ 80 := by omega
  intro x1
  rcases ixs x1 m (by omega) with hx | ⟨k, hk, rfl⟩
  · exact ⟨1, 0, T, (st1 S 0 0 1), o, w_state_1 ⟨by decide, by decide, by decide, by decide⟩ (c_p_state_1 hG hm hm80 hx), c_r_state_f hm2 hm80 hx, rfl, fun h0 => absurd h0 (by decide), Rel_0 hc hR _⟩
  · have hK := hK k hk
    have e9 : T 25 k = S 24 k := hK.2.2.2.2.2.2.2.2.2.2.2.1
    exact ⟨0, S 24 k, T, (st1 S 0 0 0), am_updL o 0 (T 25 k).toInt64, w_state_n ⟨by decide, by decide, by decide, by decide⟩ (c_p_state_n hm hm80 hk), c_r_state_t hm2 hm80 hk, rfl, fun _ => (up0 o _).trans (congrArg Int32.toInt64 e9), Rel_0 hc hR _⟩
set_option maxRecDepth 20000 in
set_option maxHeartbeats 1000000 in
theorem op_cause {G : am_S} (hG : G.1.stackTraces = false) {c0 : Nat} (hc0 : c0 < 1024) {T S : am_T} {o : Nat → Int64} (h : Rel c0 T S) : ∀ x1 : Int32, ∃ (kk bb : Int32) (T' S' : am_T) (o' : Nat → Int64), am_D G yL_cause (.codeWith yL_cause cL_cause 4 (some .int) [(0, 9, 12, 13)] :: am_G) am_WR (hp T S o) [.ref 0, .int x1, .ref 464] (hp T' S o') (some (.int kk)) ∧ am_D G yX6_cause (.code yX6_cause cX6_cause 2 (some .int) :: am_G) { frames := 3, cells := 0, slots := 0, locals := 64 } (hp T' S o') [.ref 465, .int x1] (hp T' S' o') (some (.int bb)) ∧ S' 0 0 = kk ∧ (kk = 0 → o' 0 = bb.toInt64) ∧ Rel (c0 + 1) T' S' := by
  obtain ⟨n, m, v, t, c, hc, hR⟩ := h
  have hs := jR_safe hR
  have ha := jR_all hR
  obtain ⟨⟨hA, hW, hL, hP, hM, hF, hK, hQ, hN⟩, hD⟩ := id hR
  obtain ⟨hn, hn2, hn10, hm, hm2, hm80, hv, hvm, ht, ht2, ht4, hcc, hwd⟩ := id hA
  have hv80 : v ≤ 80 := by omega
  intro x1
  rcases ixs x1 m (by omega) with hx | ⟨k, hk, rfl⟩
  · exact ⟨1, 0, T, (st1 S 0 0 1), o, w_cause_1 ⟨by decide, by decide, by decide, by decide⟩ (c_p_cause_1 hG hm hm80 hx), c_r_cause_f hm2 hm80 hx, rfl, fun h0 => absurd h0 (by decide), Rel_0 hc hR _⟩
  · have hK := hK k hk
    have e9 : T 23 k = S 23 k := hK.2.2.2.2.2.2.2.2.1
    exact ⟨0, S 23 k, T, (st1 S 0 0 0), am_updL o 0 (T 23 k).toInt64, w_cause_n ⟨by decide, by decide, by decide, by decide⟩ (c_p_cause_n hm hm80 hk), c_r_cause_t hm2 hm80 hk, rfl, fun _ => (up0 o _).trans (congrArg Int32.toInt64 e9), Rel_0 hc hR _⟩
set_option maxRecDepth 20000 in
set_option maxHeartbeats 1000000 in
theorem op_score {G : am_S} (hG : G.1.stackTraces = false) {c0 : Nat} (hc0 : c0 < 1024) {T S : am_T} {o : Nat → Int64} (h : Rel c0 T S) : ∀ x1 : Int32, ∃ (kk bb : Int32) (T' S' : am_T) (o' : Nat → Int64), am_D G yL_score (.codeWith yL_score cL_score 4 (some .int) [(0, 9, 12, 13)] :: am_G) am_WR (hp T S o) [.ref 0, .int x1, .ref 464] (hp T' S o') (some (.int kk)) ∧ am_D G yX6_score (.code yX6_score cX6_score 2 (some .int) :: am_G) { frames := 3, cells := 0, slots := 0, locals := 64 } (hp T' S o') [.ref 465, .int x1] (hp T' S' o') (some (.int bb)) ∧ S' 0 0 = kk ∧ (kk = 0 → o' 0 = bb.toInt64) ∧ Rel (c0 + 1) T' S' := by
  obtain ⟨n, m, v, t, c, hc, hR⟩ := h
  have hs := jR_safe hR
  have ha := jR_all hR
  obtain ⟨⟨hA, hW, hL, hP, hM, hF, hK, hQ, hN⟩, hD⟩ := id hR
  obtain ⟨hn, hn2, hn10, hm, hm2, hm80, hv, hvm, ht, ht2, ht4, hcc, hwd⟩ := id hA
  have hv80 : v ≤ 80 := by omega
  intro x1
  rcases ixs x1 m (by omega) with hx | ⟨k, hk, rfl⟩
  · exact ⟨1, 0, T, (st1 S 0 0 1), o, w_score_1 ⟨by decide, by decide, by decide, by decide⟩ (c_p_score_1 hG hm hm80 hx), c_r_score_f hm2 hm80 hx, rfl, fun h0 => absurd h0 (by decide), Rel_0 hc hR _⟩
  · have hK := hK k hk
    have e9 : T 22 k = S 22 k := hK.2.2.2.2.2.2.2.1
    exact ⟨0, S 22 k, T, (st1 S 0 0 0), am_updL o 0 (T 22 k).toInt64, w_score_n ⟨by decide, by decide, by decide, by decide⟩ (c_p_score_n hm hm80 hk), c_r_score_t hm2 hm80 hk, rfl, fun _ => (up0 o _).trans (congrArg Int32.toInt64 e9), Rel_0 hc hR _⟩
set_option maxRecDepth 20000 in
set_option maxHeartbeats 1000000 in
theorem op_reached {G : am_S} (hG : G.1.stackTraces = false) {c0 : Nat} (hc0 : c0 < 1024) {T S : am_T} {o : Nat → Int64} (h : Rel c0 T S) : ∀ x1 : Int32, ∃ (kk bb : Int32) (T' S' : am_T) (o' : Nat → Int64), am_D G yL_reached (.codeWith yL_reached cL_reached 4 (some .int) [(0, 9, 12, 13)] :: am_G) am_WR (hp T S o) [.ref 0, .int x1, .ref 464] (hp T' S o') (some (.int kk)) ∧ am_D G yX6_reached (.code yX6_reached cX6_reached 2 (some .int) :: am_G) { frames := 3, cells := 0, slots := 0, locals := 64 } (hp T' S o') [.ref 465, .int x1] (hp T' S' o') (some (.int bb)) ∧ S' 0 0 = kk ∧ (kk = 0 → o' 0 = bb.toInt64) ∧ Rel (c0 + 1) T' S' := by
  obtain ⟨n, m, v, t, c, hc, hR⟩ := h
  have hs := jR_safe hR
  have ha := jR_all hR
  obtain ⟨⟨hA, hW, hL, hP, hM, hF, hK, hQ, hN⟩, hD⟩ := id hR
  obtain ⟨hn, hn2, hn10, hm, hm2, hm80, hv, hvm, ht, ht2, ht4, hcc, hwd⟩ := id hA
  have hv80 : v ≤ 80 := by omega
  intro x1
  rcases ixs x1 m (by omega) with hx | ⟨k, hk, rfl⟩
  · exact ⟨1, 0, T, (st1 S 0 0 1), o, w_reached_1 ⟨by decide, by decide, by decide, by decide⟩ (c_p_reached_1 hG hm hm80 hx), c_r_reached_f hm2 hm80 hx, rfl, fun h0 => absurd h0 (by decide), Rel_0 hc hR _⟩
  · have hK := hK k hk
    have e9 : T 26 k = S 25 k := hK.2.2.2.2.2.2.2.2.2.2.2.2.1
    exact ⟨0, S 25 k, T, (st1 S 0 0 0), am_updL o 0 (T 26 k).toInt64, w_reached_n ⟨by decide, by decide, by decide, by decide⟩ (c_p_reached_n hm hm80 hk), c_r_reached_t hm2 hm80 hk, rfl, fun _ => (up0 o _).trans (congrArg Int32.toInt64 e9), Rel_0 hc hR _⟩
set_option maxRecDepth 20000 in
set_option maxHeartbeats 1000000 in
theorem op_lapses {G : am_S} (hG : G.1.stackTraces = false) {c0 : Nat} (hc0 : c0 < 1024) {T S : am_T} {o : Nat → Int64} (h : Rel c0 T S) : ∀ x1 : Int32, ∃ (kk bb : Int32) (T' S' : am_T) (o' : Nat → Int64), am_D G yL_lapses (.codeWith yL_lapses cL_lapses 4 (some .int) [(0, 9, 12, 13)] :: am_G) am_WR (hp T S o) [.ref 0, .int x1, .ref 464] (hp T' S o') (some (.int kk)) ∧ am_D G yX6_lapses (.code yX6_lapses cX6_lapses 2 (some .int) :: am_G) { frames := 3, cells := 0, slots := 0, locals := 64 } (hp T' S o') [.ref 465, .int x1] (hp T' S' o') (some (.int bb)) ∧ S' 0 0 = kk ∧ (kk = 0 → o' 0 = bb.toInt64) ∧ Rel (c0 + 1) T' S' := by
  obtain ⟨n, m, v, t, c, hc, hR⟩ := h
  have hs := jR_safe hR
  have ha := jR_all hR
  obtain ⟨⟨hA, hW, hL, hP, hM, hF, hK, hQ, hN⟩, hD⟩ := id hR
  obtain ⟨hn, hn2, hn10, hm, hm2, hm80, hv, hvm, ht, ht2, ht4, hcc, hwd⟩ := id hA
  have hv80 : v ≤ 80 := by omega
  intro x1
  rcases ixs x1 m (by omega) with hx | ⟨k, hk, rfl⟩
  · exact ⟨1, 0, T, (st1 S 0 0 1), o, w_lapses_1 ⟨by decide, by decide, by decide, by decide⟩ (c_p_lapses_1 hG hm hm80 hx), c_r_lapses_f hm2 hm80 hx, rfl, fun h0 => absurd h0 (by decide), Rel_0 hc hR _⟩
  · have hK := hK k hk
    have hQ := hQ k hk
    have e9 : (if T 25 k = 1 ∧ ¬ T 28 k = 1 then T 24 k else -1) = (if S 24 k = 1 ∧ S 26 k = 0 then S 21 k else -1) := by
      have h1 : (T 25 k = 1 ∧ ¬ T 28 k = 1) ↔ (S 24 k = 1 ∧ S 26 k = 0) := by
        rw [hK.2.2.2.2.2.2.2.2.2.2.2.1, hQ.1, Decidable.not_not]
      rw [hK.2.2.2.2.2.2.2.2.2.1]
      by_cases h2 : S 24 k = 1 ∧ S 26 k = 0
      · rw [if_pos h2, if_pos (h1.mpr h2)]
      · rw [if_neg h2, if_neg (fun e => h2 (h1.mp e))]
    exact ⟨0, (if S 24 k = 1 ∧ S 26 k = 0 then S 21 k else -1), T, (st1 S 0 0 0), am_updL o 0 (if T 25 k = 1 ∧ ¬ T 28 k = 1 then T 24 k else -1).toInt64, w_lapses_n ⟨by decide, by decide, by decide, by decide⟩ (c_p_lapses_n hm hm80 hk), c_r_lapses_t hm2 hm80 hk, rfl, fun _ => (up0 o _).trans (congrArg Int32.toInt64 e9), Rel_0 hc hR _⟩
set_option maxRecDepth 20000 in
set_option maxHeartbeats 1000000 in
theorem op_jurors {G : am_S} (hG : G.1.stackTraces = false) {c0 : Nat} (hc0 : c0 < 1024) {T S : am_T} {o : Nat → Int64} (h : Rel c0 T S) : ∀ x1 : Int32, ∃ (kk bb : Int32) (T' S' : am_T) (o' : Nat → Int64), am_D G yL_jurors (.codeWith yL_jurors cL_jurors 4 (some .int) [(0, 9, 12, 13)] :: am_G) am_WR (hp T S o) [.ref 0, .int x1, .ref 464] (hp T' S o') (some (.int kk)) ∧ am_D G yX6_jurors (.code yX6_jurors cX6_jurors 2 (some .int) :: am_G) { frames := 3, cells := 0, slots := 0, locals := 64 } (hp T' S o') [.ref 465, .int x1] (hp T' S' o') (some (.int bb)) ∧ S' 0 0 = kk ∧ (kk = 0 → o' 0 = bb.toInt64) ∧ Rel (c0 + 1) T' S' := by
  obtain ⟨n, m, v, t, c, hc, hR⟩ := h
  have hs := jR_safe hR
  have ha := jR_all hR
  obtain ⟨⟨hA, hW, hL, hP, hM, hF, hK, hQ, hN⟩, hD⟩ := id hR
  obtain ⟨hn, hn2, hn10, hm, hm2, hm80, hv, hvm, ht, ht2, ht4, hcc, hwd⟩ := id hA
  have hv80 : v ≤ 80 := by omega
  intro x1
  rcases ixs x1 m (by omega) with hx | ⟨k, hk, rfl⟩
  · exact ⟨1, 0, T, (st1 S 0 0 1), o, w_jurors_1 ⟨by decide, by decide, by decide, by decide⟩ (c_p_jurors_1 hG hm hm80 hx), c_r_jurors_f hm2 hm80 hx, rfl, fun h0 => absurd h0 (by decide), Rel_0 hc hR _⟩
  · have hQ := hQ k hk
    have e9 : (if T 28 k = 1 then tAw T k else 0) = (if S 27 k = 0 then 0 else S 28 k) := by
      by_cases h1 : T 28 k = 1
      · rw [if_pos h1]
        have h2 := hQ.2.2.2.2 h1
        unfold tAw
        by_cases h3 : S 27 k = 0
        · rw [if_pos (h2.1.mpr h3), if_pos h3]
        · rw [if_neg (fun e => h3 (h2.1.mp e)), if_neg h3, h2.2.1]
      · rw [if_neg h1]
        by_cases h3 : S 27 k = 0
        · rw [if_pos h3]
        · exact absurd (hQ.1.mpr (hQ.2.1 h3).2) h1
    exact ⟨0, (if S 27 k = 0 then 0 else S 28 k), T, (st1 S 0 0 0), am_updL o 0 (if T 28 k = 1 then tAw T k else 0).toInt64, w_jurors_n ⟨by decide, by decide, by decide, by decide⟩ (c_p_jurors_n hm hm80 hk), c_r_jurors_t hm2 hm80 hk, rfl, fun _ => (up0 o _).trans (congrArg Int32.toInt64 e9), Rel_0 hc hR _⟩
set_option maxRecDepth 20000 in
set_option maxHeartbeats 1000000 in
theorem op_weight {G : am_S} (hG : G.1.stackTraces = false) {c0 : Nat} (hc0 : c0 < 1024) {T S : am_T} {o : Nat → Int64} (h : Rel c0 T S) : ∀ x1 : Int32, ∃ (kk bb : Int32) (T' S' : am_T) (o' : Nat → Int64), am_D G yL_weight (.codeWith yL_weight cL_weight 4 (some .int) [(0, 9, 12, 13)] :: am_G) am_WR (hp T S o) [.ref 0, .int x1, .ref 464] (hp T' S o') (some (.int kk)) ∧ am_D G yX6_weight (.code yX6_weight cX6_weight 2 (some .int) :: am_G) { frames := 3, cells := 0, slots := 0, locals := 63 } (hp T' S o') [.ref 465, .int x1] (hp T' S' o') (some (.int bb)) ∧ S' 0 0 = kk ∧ (kk = 0 → o' 0 = bb.toInt64) ∧ Rel (c0 + 1) T' S' := by
  obtain ⟨n, m, v, t, c, hc, hR⟩ := h
  have hs := jR_safe hR
  have ha := jR_all hR
  obtain ⟨⟨hA, hW, hL, hP, hM, hF, hK, hQ, hN⟩, hD⟩ := id hR
  obtain ⟨hn, hn2, hn10, hm, hm2, hm80, hv, hvm, ht, ht2, ht4, hcc, hwd⟩ := id hA
  have hv80 : v ≤ 80 := by omega
  intro x1
  rcases ixs x1 16 (by omega) with hx | ⟨p, hp, rfl⟩
  · exact ⟨1, 0, T, (st1 S 0 0 1), o, w_weight_1 ⟨by decide, by decide, by decide, by decide⟩ (c_p_weight_1 hG hx), c_r_weight_f hx, rfl, fun h0 => absurd h0 (by decide), Rel_0 hc hR _⟩
  · have e9 : T 5 p = S 4 p := (hW.1 p hp).1
    exact ⟨0, S 4 p, T, (st1 S 0 0 0), am_updL o 0 (T 5 p).toInt64, w_weight_n ⟨by decide, by decide, by decide, by decide⟩ (c_p_weight_n hp), c_r_weight_t hp, rfl, fun _ => (up0 o _).trans (congrArg Int32.toInt64 e9), Rel_0 hc hR _⟩
set_option maxRecDepth 20000 in
set_option maxHeartbeats 1000000 in
theorem op_judged {G : am_S} (hG : G.1.stackTraces = false) {c0 : Nat} (hc0 : c0 < 1024) {T S : am_T} {o : Nat → Int64} (h : Rel c0 T S) : ∀ x1 : Int32, ∃ (kk bb : Int32) (T' S' : am_T) (o' : Nat → Int64), am_D G yL_judged (.codeWith yL_judged cL_judged 4 (some .int) [(0, 9, 12, 13)] :: am_G) am_WR (hp T S o) [.ref 0, .int x1, .ref 464] (hp T' S o') (some (.int kk)) ∧ am_D G yX6_judged (.code yX6_judged cX6_judged 2 (some .int) :: am_G) { frames := 3, cells := 0, slots := 0, locals := 63 } (hp T' S o') [.ref 465, .int x1] (hp T' S' o') (some (.int bb)) ∧ S' 0 0 = kk ∧ (kk = 0 → o' 0 = bb.toInt64) ∧ Rel (c0 + 1) T' S' := by
  obtain ⟨n, m, v, t, c, hc, hR⟩ := h
  have hs := jR_safe hR
  have ha := jR_all hR
  obtain ⟨⟨hA, hW, hL, hP, hM, hF, hK, hQ, hN⟩, hD⟩ := id hR
  obtain ⟨hn, hn2, hn10, hm, hm2, hm80, hv, hvm, ht, ht2, ht4, hcc, hwd⟩ := id hA
  have hv80 : v ≤ 80 := by omega
  intro x1
  rcases ixs x1 16 (by omega) with hx | ⟨p, hp, rfl⟩
  · exact ⟨1, 0, T, (st1 S 0 0 1), o, w_judged_1 ⟨by decide, by decide, by decide, by decide⟩ (c_p_judged_1 hG hx), c_r_judged_f hx, rfl, fun h0 => absurd h0 (by decide), Rel_0 hc hR _⟩
  · have e9 : T 6 p = S 5 p := (hW.1 p hp).2.1
    exact ⟨0, S 5 p, T, (st1 S 0 0 0), am_updL o 0 (T 6 p).toInt64, w_judged_n ⟨by decide, by decide, by decide, by decide⟩ (c_p_judged_n hp), c_r_judged_t hp, rfl, fun _ => (up0 o _).trans (congrArg Int32.toInt64 e9), Rel_0 hc hR _⟩
set_option maxRecDepth 20000 in
set_option maxHeartbeats 1000000 in
theorem op_bounces {G : am_S} (hG : G.1.stackTraces = false) {c0 : Nat} (hc0 : c0 < 1024) {T S : am_T} {o : Nat → Int64} (h : Rel c0 T S) : ∀ x1 : Int32, ∃ (kk bb : Int32) (T' S' : am_T) (o' : Nat → Int64), am_D G yL_bounces (.codeWith yL_bounces cL_bounces 4 (some .int) [(0, 9, 12, 13)] :: am_G) am_WR (hp T S o) [.ref 0, .int x1, .ref 464] (hp T' S o') (some (.int kk)) ∧ am_D G yX6_bounces (.code yX6_bounces cX6_bounces 2 (some .int) :: am_G) { frames := 3, cells := 0, slots := 0, locals := 63 } (hp T' S o') [.ref 465, .int x1] (hp T' S' o') (some (.int bb)) ∧ S' 0 0 = kk ∧ (kk = 0 → o' 0 = bb.toInt64) ∧ Rel (c0 + 1) T' S' := by
  obtain ⟨n, m, v, t, c, hc, hR⟩ := h
  have hs := jR_safe hR
  have ha := jR_all hR
  obtain ⟨⟨hA, hW, hL, hP, hM, hF, hK, hQ, hN⟩, hD⟩ := id hR
  obtain ⟨hn, hn2, hn10, hm, hm2, hm80, hv, hvm, ht, ht2, ht4, hcc, hwd⟩ := id hA
  have hv80 : v ≤ 80 := by omega
  intro x1
  rcases ixs x1 16 (by omega) with hx | ⟨p, hp, rfl⟩
  · exact ⟨1, 0, T, (st1 S 0 0 1), o, w_bounces_1 ⟨by decide, by decide, by decide, by decide⟩ (c_p_bounces_1 hG hx), c_r_bounces_f hx, rfl, fun h0 => absurd h0 (by decide), Rel_0 hc hR _⟩
  · have e9 : T 7 p = S 6 p := (hW.1 p hp).2.2.1
    exact ⟨0, S 6 p, T, (st1 S 0 0 0), am_updL o 0 (T 7 p).toInt64, w_bounces_n ⟨by decide, by decide, by decide, by decide⟩ (c_p_bounces_n hp), c_r_bounces_t hp, rfl, fun _ => (up0 o _).trans (congrArg Int32.toInt64 e9), Rel_0 hc hR _⟩
set_option maxRecDepth 20000 in
set_option maxHeartbeats 1000000 in
theorem op_box {G : am_S} (hG : G.1.stackTraces = false) {c0 : Nat} (hc0 : c0 < 1024) {T S : am_T} {o : Nat → Int64} (h : Rel c0 T S) : ∀ x1 : Int32, ∃ (kk bb : Int32) (T' S' : am_T) (o' : Nat → Int64), am_D G yL_box (.codeWith yL_box cL_box 4 (some .int) [(0, 9, 12, 13)] :: am_G) am_WR (hp T S o) [.ref 0, .int x1, .ref 464] (hp T' S o') (some (.int kk)) ∧ am_D G yX6_box (.code yX6_box cX6_box 2 (some .int) :: am_G) { frames := 3, cells := 0, slots := 0, locals := 63 } (hp T' S o') [.ref 465, .int x1] (hp T' S' o') (some (.int bb)) ∧ S' 0 0 = kk ∧ (kk = 0 → o' 0 = bb.toInt64) ∧ Rel (c0 + 1) T' S' := by
  obtain ⟨n, m, v, t, c, hc, hR⟩ := h
  have hs := jR_safe hR
  have ha := jR_all hR
  obtain ⟨⟨hA, hW, hL, hP, hM, hF, hK, hQ, hN⟩, hD⟩ := id hR
  obtain ⟨hn, hn2, hn10, hm, hm2, hm80, hv, hvm, ht, ht2, ht4, hcc, hwd⟩ := id hA
  have hv80 : v ≤ 80 := by omega
  intro x1
  rcases ixs x1 16 (by omega) with hx | ⟨p, hp, rfl⟩
  · exact ⟨1, 0, T, (st1 S 0 0 1), o, w_box_1 ⟨by decide, by decide, by decide, by decide⟩ (c_p_box_1 hG hx), c_r_box_f hx, rfl, fun h0 => absurd h0 (by decide), Rel_0 hc hR _⟩
  · have e9 : T 8 p = S 7 p := (hW.1 p hp).2.2.2.2.1
    exact ⟨0, S 7 p, T, (st1 S 0 0 0), am_updL o 0 (T 8 p).toInt64, w_box_n ⟨by decide, by decide, by decide, by decide⟩ (c_p_box_n hp), c_r_box_t hp, rfl, fun _ => (up0 o _).trans (congrArg Int32.toInt64 e9), Rel_0 hc hR _⟩
set_option maxRecDepth 20000 in
set_option maxHeartbeats 1000000 in
theorem op_mailAt {G : am_S} (hG : G.1.stackTraces = false) {c0 : Nat} (hc0 : c0 < 1024) {T S : am_T} {o : Nat → Int64} (h : Rel c0 T S) : ∀ x1 x2 : Int32, ∃ (kk bb : Int32) (T' S' : am_T) (o' : Nat → Int64), am_D G yL_mailAt (.codeWith yL_mailAt cL_mailAt 5 (some .int) [(0, 10, 13, 13)] :: am_G) am_WR (hp T S o) [.ref 0, .int x1, .int x2, .ref 464] (hp T' S o') (some (.int kk)) ∧ am_D G yX6_mailAt (.code yX6_mailAt cX6_mailAt 3 (some .int) :: am_G) { frames := 2, cells := 0, slots := 0, locals := 42 } (hp T' S o') [.ref 465, .int x1, .int x2] (hp T' S' o') (some (.int bb)) ∧ S' 0 0 = kk ∧ (kk = 0 → o' 0 = bb.toInt64) ∧ Rel (c0 + 1) T' S' := by
  obtain ⟨n, m, v, t, c, hc, hR⟩ := h
  have hs := jR_safe hR
  have ha := jR_all hR
  obtain ⟨⟨hA, hW, hL, hP, hM, hF, hK, hQ, hN⟩, hD⟩ := id hR
  obtain ⟨hn, hn2, hn10, hm, hm2, hm80, hv, hvm, ht, ht2, ht4, hcc, hwd⟩ := id hA
  have hv80 : v ≤ 80 := by omega
  intro x1 x2
  rcases ixs x1 16 (by omega) with hx | ⟨p, hp, rfl⟩
  · exact ⟨1, 0, T, (st1 S 0 0 1), o, w_mailAt_1 ⟨by decide, by decide, by decide, by decide⟩ (c_p_mailAt_1a hG hx), c_r_mailAt_1 hx, rfl, fun h0 => absurd h0 (by decide), Rel_0 hc hR _⟩
  · obtain ⟨-, -, -, -, e8, b, hb10, hb⟩ := hW.1 p hp
    rcases ixs x2 b (by omega) with hx | ⟨j, hj, rfl⟩
    · exact ⟨1, 0, T, (st1 S 0 0 1), o, w_mailAt_1 ⟨by decide, by decide, by decide, by decide⟩ (c_p_mailAt_1b hG hp (e8.trans hb) hb10 hx), c_r_mailAt_2 hp hb hb10 hx, rfl, fun h0 => absurd h0 (by decide), Rel_0 hc hR _⟩
    · have e9 : T 9 (10 * p + j) = S 8 (10 * p + j) := hW.2 _ (by omega)
      exact ⟨0, S 8 ((10 * p) + j), T, (st1 S 0 0 0), am_updL o 0 (T 9 (10 * p + j)).toInt64, w_mailAt_n ⟨by decide, by decide, by decide, by decide⟩ (c_p_mailAt_n hp (e8.trans hb) hb10 hj), c_r_mailAt_3 hp hb hb10 hj, rfl, fun _ => (up0 o _).trans (congrArg Int32.toInt64 e9), Rel_0 hc hR _⟩
set_option maxRecDepth 20000 in
set_option maxHeartbeats 1000000 in
theorem op_reaches {G : am_S} (hG : G.1.stackTraces = false) {c0 : Nat} (hc0 : c0 < 1024) {T S : am_T} {o : Nat → Int64} (h : Rel c0 T S) : ∀ x1 : Int32, ∃ (kk bb : Int32) (T' S' : am_T) (o' : Nat → Int64), am_D G yL_reaches (.codeWith yL_reaches cL_reaches 4 (some .int) [(0, 9, 12, 13)] :: am_G) am_WR (hp T S o) [.ref 0, .int x1, .ref 464] (hp T' S o') (some (.int kk)) ∧ am_D G yX6_reaches (.code yX6_reaches cX6_reaches 2 (some .int) :: am_G) { frames := 3, cells := 0, slots := 0, locals := 75 } (hp T' S o') [.ref 465, .int x1] (hp T' S' o') (some (.int bb)) ∧ S' 0 0 = kk ∧ (kk = 0 → o' 0 = bb.toInt64) ∧ Rel (c0 + 1) T' S' := by
  obtain ⟨n, m, v, t, c, hc, hR⟩ := h
  have hs := jR_safe hR
  have ha := jR_all hR
  obtain ⟨⟨hA, hW, hL, hP, hM, hF, hK, hQ, hN⟩, hD⟩ := id hR
  obtain ⟨hn, hn2, hn10, hm, hm2, hm80, hv, hvm, ht, ht2, ht4, hcc, hwd⟩ := id hA
  have hv80 : v ≤ 80 := by omega
  intro x1
  rcases ixs x1 n (by omega) with hx | ⟨l, hl, rfl⟩
  · exact ⟨1, 0, T, (st1 S 0 0 1), o, w_reaches_1 ⟨by decide, by decide, by decide, by decide⟩ (c_p_reaches_1 hG hn hn10 hx), c_r_reaches_1 hn2 hn10 hx, rfl, fun h0 => absurd h0 (by decide), Rel_0 hc hR _⟩
  · have e9 : tMem T n (tDown T n l) = rRe (st1 S 0 0 0) n l := by
      rw [re_eq (S := st1 S 0 0 0) (jP_c hP rfl rfl) (jM_c hM rfl rfl rfl) hl]
    exact ⟨0, rRe (st1 S 0 0 0) n l, T, (st1 S 0 0 0), am_updL o 0 (tMem T n (tDown T n l)).toInt64, w_reaches_n ⟨by decide, by decide, by decide, by decide⟩ (c_p_reaches_n hn hn10 hl), c_r_reaches_2 hn2 hn10 hl, rfl, fun _ => (up0 o _).trans (congrArg Int32.toInt64 e9), Rel_0 hc hR _⟩
set_option maxRecDepth 20000 in
set_option maxHeartbeats 1000000 in
theorem op_reachesByMembers {G : am_S} (hG : G.1.stackTraces = false) {c0 : Nat} (hc0 : c0 < 1024) {T S : am_T} {o : Nat → Int64} (h : Rel c0 T S) : ∀ x1 : Int32, ∃ (kk bb : Int32) (T' S' : am_T) (o' : Nat → Int64), am_D G yL_reachesByMembers (.codeWith yL_reachesByMembers cL_reachesByMembers 4 (some .int) [(0, 9, 12, 13)] :: am_G) am_WR (hp T S o) [.ref 0, .int x1, .ref 464] (hp T' S o') (some (.int kk)) ∧ am_D G yX6_reachesByMembers (.code yX6_reachesByMembers cX6_reachesByMembers 2 (some .int) :: am_G) { frames := 3, cells := 0, slots := 0, locals := 75 } (hp T' S o') [.ref 465, .int x1] (hp T' S' o') (some (.int bb)) ∧ S' 0 0 = kk ∧ (kk = 0 → o' 0 = bb.toInt64) ∧ Rel (c0 + 1) T' S' := by
  obtain ⟨n, m, v, t, c, hc, hR⟩ := h
  have hs := jR_safe hR
  have ha := jR_all hR
  obtain ⟨⟨hA, hW, hL, hP, hM, hF, hK, hQ, hN⟩, hD⟩ := id hR
  obtain ⟨hn, hn2, hn10, hm, hm2, hm80, hv, hvm, ht, ht2, ht4, hcc, hwd⟩ := id hA
  have hv80 : v ≤ 80 := by omega
  intro x1
  rcases ixs x1 n (by omega) with hx | ⟨l, hl, rfl⟩
  · exact ⟨1, 0, T, (st1 S 0 0 1), o, w_reachesByMembers_1 ⟨by decide, by decide, by decide, by decide⟩ (c_p_reachesByMembers_1 hG hn hn10 hx), c_r_reachesByMembers_1 hn2 hn10 hx, rfl, fun h0 => absurd h0 (by decide), Rel_0 hc hR _⟩
  · have e9 : tRbm T n l = rRe (st1 S 0 0 0) n l := by
      rw [rbm_eq hP hM hl, re_eq (S := st1 S 0 0 0) (jP_c hP rfl rfl) (jM_c hM rfl rfl rfl) hl]
    exact ⟨0, rRe (st1 S 0 0 0) n l, T, (st1 S 0 0 0), am_updL o 0 (tRbm T n l).toInt64, w_reachesByMembers_n ⟨by decide, by decide, by decide, by decide⟩ (c_p_reachesByMembers_n hn hn10 hl), c_r_reachesByMembers_2 hn2 hn10 hl, rfl, fun _ => (up0 o _).trans (congrArg Int32.toInt64 e9), Rel_0 hc hR _⟩
set_option maxRecDepth 20000 in
set_option maxHeartbeats 1000000 in
theorem op_modeOf {G : am_S} (hG : G.1.stackTraces = false) {c0 : Nat} (hc0 : c0 < 1024) {T S : am_T} {o : Nat → Int64} (h : Rel c0 T S) : ∀ x1 x2 : Int32, ∃ (kk bb : Int32) (T' S' : am_T) (o' : Nat → Int64), am_D G yL_modeOf (.codeWith yL_modeOf cL_modeOf 5 (some .int) [(0, 10, 13, 13)] :: am_G) am_WR (hp T S o) [.ref 0, .int x1, .int x2, .ref 464] (hp T' S o') (some (.int kk)) ∧ am_D G yX6_modeOf (.code yX6_modeOf cX6_modeOf 3 (some .int) :: am_G) { frames := 3, cells := 0, slots := 0, locals := 74 } (hp T' S o') [.ref 465, .int x1, .int x2] (hp T' S' o') (some (.int bb)) ∧ S' 0 0 = kk ∧ (kk = 0 → o' 0 = bb.toInt64) ∧ Rel (c0 + 1) T' S' := by
  obtain ⟨n, m, v, t, c, hc, hR⟩ := h
  have hs := jR_safe hR
  have ha := jR_all hR
  obtain ⟨⟨hA, hW, hL, hP, hM, hF, hK, hQ, hN⟩, hD⟩ := id hR
  obtain ⟨hn, hn2, hn10, hm, hm2, hm80, hv, hvm, ht, ht2, ht4, hcc, hwd⟩ := id hA
  have hv80 : v ≤ 80 := by omega
  intro x1 x2
  rcases ixs x1 n (by omega) with hx | ⟨l, hl, rfl⟩
  · exact ⟨1, 0, T, (st1 S 0 0 1), o, w_modeOf_1 ⟨by decide, by decide, by decide, by decide⟩ (c_p_modeOf_1a hG hn hn10 hx), c_r_modeOf_1 hn2 hn10 hx, rfl, fun h0 => absurd h0 (by decide), Rel_0 hc hR _⟩
  · rcases ixs x2 16 (by omega) with hx | ⟨p, hp, rfl⟩
    · exact ⟨1, 0, T, (st1 S 0 0 1), o, w_modeOf_1 ⟨by decide, by decide, by decide, by decide⟩ (c_p_modeOf_1b hG hn hn10 hl hx), c_r_modeOf_2 hn2 hn10 hl hx, rfl, fun h0 => absurd h0 (by decide), Rel_0 hc hR _⟩
    · have e9 : tMode T n (tDown T n l) p = rMode (st1 S 0 0 0) n l p := (mode_eq (jP_c hP rfl rfl) (jM_c hM rfl rfl rfl) hl hp).symm
      exact ⟨0, rMode (st1 S 0 0 0) n l p, T, (st1 S 0 0 0), am_updL o 0 (tMode T n (tDown T n l) p).toInt64, w_modeOf_n ⟨by decide, by decide, by decide, by decide⟩ (c_p_modeOf_n hn hn10 hl hp), c_r_modeOf_3 hn2 hn10 hl hp, rfl, fun _ => (up0 o _).trans (congrArg Int32.toInt64 e9), Rel_0 hc hR _⟩
