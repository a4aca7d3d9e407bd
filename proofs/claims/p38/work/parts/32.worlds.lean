theorem tNewM_18 {T : am_T} {m j : Nat} {x2 x3 x5 x6 x7 : Int32} : tNewM T m j x2 x3 x5 x6 x7 18 m = nI m := by
  unfold tNewM
  rw [st1_ne (by omega), st1_ne (by omega), st1_ne (by omega), st1_ne (by omega), st1_ne (by omega), st1_ne (by omega), st1_ne (by omega), st1_ne (by omega), st1_ne (by omega), st1_ne (by omega), st1_ne (by omega), st1_same]
theorem tNewM_19 {T : am_T} {m j : Nat} {x2 x3 x5 x6 x7 : Int32} : tNewM T m j x2 x3 x5 x6 x7 19 m = x2 := by
  unfold tNewM
  rw [st1_ne (by omega), st1_ne (by omega), st1_ne (by omega), st1_ne (by omega), st1_ne (by omega), st1_ne (by omega), st1_ne (by omega), st1_ne (by omega), st1_ne (by omega), st1_ne (by omega), st1_same]
theorem tNewM_20 {T : am_T} {m j : Nat} {x2 x3 x5 x6 x7 : Int32} : tNewM T m j x2 x3 x5 x6 x7 20 m = x3 := by
  unfold tNewM
  rw [st1_ne (by omega), st1_ne (by omega), st1_ne (by omega), st1_ne (by omega), st1_ne (by omega), st1_ne (by omega), st1_ne (by omega), st1_ne (by omega), st1_ne (by omega), st1_same]
theorem tNewM_21 {T : am_T} {m j : Nat} {x2 x3 x5 x6 x7 : Int32} : tNewM T m j x2 x3 x5 x6 x7 21 m = nI j := by
  unfold tNewM
  rw [st1_ne (by omega), st1_ne (by omega), st1_ne (by omega), st1_ne (by omega), st1_ne (by omega), st1_ne (by omega), st1_ne (by omega), st1_ne (by omega), st1_same]
theorem tNewM_22 {T : am_T} {m j : Nat} {x2 x3 x5 x6 x7 : Int32} : tNewM T m j x2 x3 x5 x6 x7 22 m = x5 := by
  unfold tNewM
  rw [st1_ne (by omega), st1_ne (by omega), st1_ne (by omega), st1_ne (by omega), st1_ne (by omega), st1_ne (by omega), st1_ne (by omega), st1_same]
theorem tNewM_23 {T : am_T} {m j : Nat} {x2 x3 x5 x6 x7 : Int32} : tNewM T m j x2 x3 x5 x6 x7 23 m = x6 := by
  unfold tNewM
  rw [st1_ne (by omega), st1_ne (by omega), st1_ne (by omega), st1_ne (by omega), st1_ne (by omega), st1_ne (by omega), st1_same]
theorem tNewM_24 {T : am_T} {m j : Nat} {x2 x3 x5 x6 x7 : Int32} : tNewM T m j x2 x3 x5 x6 x7 24 m = T 33 j + x7 := by
  unfold tNewM
  rw [st1_ne (by omega), st1_ne (by omega), st1_ne (by omega), st1_ne (by omega), st1_ne (by omega), st1_same]
theorem tNewM_25 {T : am_T} {m j : Nat} {x2 x3 x5 x6 x7 : Int32} : tNewM T m j x2 x3 x5 x6 x7 25 m = 1 := by
  unfold tNewM
  rw [st1_ne (by omega), st1_ne (by omega), st1_ne (by omega), st1_ne (by omega), st1_same]
theorem tNewM_26 {T : am_T} {m j : Nat} {x2 x3 x5 x6 x7 : Int32} : tNewM T m j x2 x3 x5 x6 x7 26 m = 0 := by
  unfold tNewM
  rw [st1_ne (by omega), st1_ne (by omega), st1_ne (by omega), st1_same]
theorem tNewM_27 {T : am_T} {m j : Nat} {x2 x3 x5 x6 x7 : Int32} : tNewM T m j x2 x3 x5 x6 x7 27 m = 0 := by
  unfold tNewM
  rw [st1_ne (by omega), st1_ne (by omega), st1_same]
theorem tNewM_28 {T : am_T} {m j : Nat} {x2 x3 x5 x6 x7 : Int32} : tNewM T m j x2 x3 x5 x6 x7 28 m = 0 := by
  unfold tNewM
  rw [st1_ne (by omega), st1_same]
theorem tNewM_1 {T : am_T} {m j : Nat} {x2 x3 x5 x6 x7 : Int32} : tNewM T m j x2 x3 x5 x6 x7 1 0 = nI m + 1 := by
  unfold tNewM
  rw [st1_same]
theorem tNewM_f {T : am_T} {m j : Nat} {x2 x3 x5 x6 x7 : Int32} {g : Nat} (h : g ≠ 1 ∧ g ≠ 18 ∧ g ≠ 19 ∧ g ≠ 20 ∧ g ≠ 21 ∧ g ≠ 22 ∧ g ≠ 23 ∧ g ≠ 24 ∧ g ≠ 25 ∧ g ≠ 26 ∧ g ≠ 27 ∧ g ≠ 28) : tNewM T m j x2 x3 x5 x6 x7 g = T g := by
  unfold tNewM
  rw [st1_f (by omega), st1_f (by omega), st1_f (by omega), st1_f (by omega), st1_f (by omega), st1_f (by omega), st1_f (by omega), st1_f (by omega), st1_f (by omega), st1_f (by omega), st1_f (by omega), st1_f (by omega)]
theorem tNewM_ne {T : am_T} {m j : Nat} {x2 x3 x5 x6 x7 : Int32} {g p : Nat} (h0 : g ≠ 1) (h : p ≠ m) : tNewM T m j x2 x3 x5 x6 x7 g p = T g p := by
  unfold tNewM
  rw [st1_ne (by omega), st1_ne (by omega), st1_ne (by omega), st1_ne (by omega), st1_ne (by omega), st1_ne (by omega), st1_ne (by omega), st1_ne (by omega), st1_ne (by omega), st1_ne (by omega), st1_ne (by omega), st1_ne (by omega)]
set_option maxRecDepth 100000 in
set_option maxHeartbeats 2000000 in
theorem hp_newm {T S : am_T} {o : Nat → Int64} {n m v j : Nat} {x2 x3 x5 x6 x7 : Int32} (hn : T 0 0 = nI n) (hn10 : n ≤ 10) (hm : T 1 0 = nI m) (hm80 : m < 80) (hv : T 2 0 = nI v) (hv80 : v ≤ 80) (hj : j < v) (h28 : ¬ T 28 m = 1) : (am_u (am_u (am_u (hp T S o) (64 + m) (.inr (1, [.int (nI m), .int x2, .int x3, .ref (224 + j), .int x5, .int x6, .int (T 33 j + x7), .int 1, .int 0, .int 0, .null]))) (4) (.inl (4, 80, .inr (.inr (.inr (.inr (va_up (fun k => if k < tN T 1 then some (64 + k) else none) m (some (64 + m))))))))) (0) (.inr (5, [.ref 1, .ref 2, .ref 3, .int (T 0 0), .ref 4, .int (nI m + 1), .ref 5, .int (T 2 0), .int (T 3 0)]))) = (hp (tNewM T m j x2 x3 x5 x6 x7) S o) := by
  have hnm : tNewM T m j x2 x3 x5 x6 x7 1 0 = nI (m + 1) := by rw [tNewM_1, nI_1]
  funext i
  unfold am_u
  by_cases h0 : i = 0
  · subst h0
    rw [if_pos rfl]
    rw [hp_main]; unfold tMain; rw [show (tNewM T m j x2 x3 x5 x6 x7) 0 = T 0 from tNewM_f (by decide), tNewM_1, show (tNewM T m j x2 x3 x5 x6 x7) 2 = T 2 from tNewM_f (by decide), show (tNewM T m j x2 x3 x5 x6 x7) 3 = T 3 from tNewM_f (by decide)]
  by_cases h1 : i = 4
  · subst h1
    rw [if_neg (by omega), if_pos rfl]
    show some _ = some (am_q (fun l => if l < tN (tNewM T m j x2 x3 x5 x6 x7) 1 then some (64 + l) else none) 80 4)
    rw [tN_eq hnm (by omega)]
    show some (am_q (va_up (fun l => if l < tN T 1 then some (64 + l) else none) m (some (64 + m))) 80 4) = _
    rw [tN_eq hm (by omega)]
    refine congrArg (fun f9 => some (am_q f9 80 4)) ?_
    funext l
    unfold va_up
    by_cases hl : l = m
    · rw [if_pos hl, if_pos (by omega), hl]
    · rw [if_neg hl]
      show (if l < m then some (64 + l) else none) = _
      by_cases hl2 : l < m
      · rw [if_pos hl2, if_pos (by omega)]
      · rw [if_neg hl2, if_neg (by omega)]
  by_cases h2 : i = 64 + m
  · subst h2
    rw [if_neg (by omega), if_neg (by omega), if_pos rfl]
    rw [hp_mail (tNewM T m j x2 x3 x5 x6 x7) S o hnm (show m + 1 ≤ 80 by omega) (show m < m + 1 by omega)]
    unfold tMail
    rw [tNewM_18, tNewM_19, tNewM_20, tNewM_21, tNewM_22, tNewM_23, tNewM_24, tNewM_25, tNewM_26, tNewM_27, tNewM_28, nI_clamp (show j < 2 ^ 31 by omega), if_neg (show ¬ (0 : Int32) = 1 by decide)]
  rw [if_neg h0, if_neg h1, if_neg h2]
  by_cases h464 : i < 464
  · by_cases r16 : i < 16
    · by_cases e0 : i = 0
      · exact absurd e0 h0
      by_cases e1 : i = 1
      · subst e1; rw [hp_1, hp_1]
      by_cases e2 : i = 2
      · subst e2; rw [hp_words, hp_words, show (tNewM T m j x2 x3 x5 x6 x7) 4 = T 4 from tNewM_f (by decide)]
      by_cases e3 : i = 3
      · subst e3; rw [hp_3, hp_3, show tN (tNewM T m j x2 x3 x5 x6 x7) 0 = tN T 0 from by unfold tN; rw [show (tNewM T m j x2 x3 x5 x6 x7) 0 = T 0 from tNewM_f (by decide)]]
      by_cases e4 : i = 4
      · exact absurd e4 h1
      by_cases e5 : i = 5
      · subst e5; rw [hp_5, hp_5, show tN (tNewM T m j x2 x3 x5 x6 x7) 2 = tN T 2 from by unfold tN; rw [show (tNewM T m j x2 x3 x5 x6 x7) 2 = T 2 from tNewM_f (by decide)]]
      rw [hpC_small T S o (by omega) r16, hpC_small (tNewM T m j x2 x3 x5 x6 x7) S o (by omega) r16]
    by_cases r32 : i < 32
    · obtain ⟨p, rfl⟩ : ∃ p, i = 16 + p := ⟨i - 16, by omega⟩
      rw [hp_person T S o (show p < 16 by omega), hp_person (tNewM T m j x2 x3 x5 x6 x7) S o (show p < 16 by omega)]; rfl
    by_cases r48 : i < 48
    · obtain ⟨p, rfl⟩ : ∃ p, i = 32 + p := ⟨i - 32, by omega⟩
      rw [hp_box T S o (show p < 16 by omega), hp_box (tNewM T m j x2 x3 x5 x6 x7) S o (show p < 16 by omega)]; rfl
    by_cases r64 : i < 64
    · obtain ⟨p, rfl⟩ : ∃ p, i = 48 + p := ⟨i - 48, by omega⟩
      by_cases hp9 : p < n
      · rw [hp_list T S o hn hn10 hp9, hp_list (tNewM T m j x2 x3 x5 x6 x7) S o hn hn10 hp9]; rfl
      · rw [hp_nolist T S o hn hn10 hp9 (by omega), hp_nolist (tNewM T m j x2 x3 x5 x6 x7) S o hn hn10 hp9 (by omega)]
    by_cases r144 : i < 144
    · obtain ⟨p, rfl⟩ : ∃ p, i = 64 + p := ⟨i - 64, by omega⟩
      by_cases hp9 : p < m
      · have hne : p ≠ m := by omega
        rw [hp_mail T S o hm (show m ≤ 80 by omega) hp9, hp_mail (tNewM T m j x2 x3 x5 x6 x7) S o hnm (show m + 1 ≤ 80 by omega) (show p < m + 1 by omega)]
        unfold tMail
        rw [show (tNewM T m j x2 x3 x5 x6 x7) 18 p = T 18 p from tNewM_ne (by decide) hne, show (tNewM T m j x2 x3 x5 x6 x7) 19 p = T 19 p from tNewM_ne (by decide) hne, show (tNewM T m j x2 x3 x5 x6 x7) 20 p = T 20 p from tNewM_ne (by decide) hne, show (tNewM T m j x2 x3 x5 x6 x7) 21 p = T 21 p from tNewM_ne (by decide) hne, show (tNewM T m j x2 x3 x5 x6 x7) 22 p = T 22 p from tNewM_ne (by decide) hne, show (tNewM T m j x2 x3 x5 x6 x7) 23 p = T 23 p from tNewM_ne (by decide) hne, show (tNewM T m j x2 x3 x5 x6 x7) 24 p = T 24 p from tNewM_ne (by decide) hne, show (tNewM T m j x2 x3 x5 x6 x7) 25 p = T 25 p from tNewM_ne (by decide) hne, show (tNewM T m j x2 x3 x5 x6 x7) 26 p = T 26 p from tNewM_ne (by decide) hne, show (tNewM T m j x2 x3 x5 x6 x7) 27 p = T 27 p from tNewM_ne (by decide) hne, show (tNewM T m j x2 x3 x5 x6 x7) 28 p = T 28 p from tNewM_ne (by decide) hne]
      · rw [hp_nomail T S o hm (show m ≤ 80 by omega) hp9 (by omega), hp_nomail (tNewM T m j x2 x3 x5 x6 x7) S o hnm (show m + 1 ≤ 80 by omega) (show ¬ p < m + 1 by omega) (by omega)]
    by_cases r224 : i < 224
    · obtain ⟨p, rfl⟩ : ∃ p, i = 144 + p := ⟨i - 144, by omega⟩
      by_cases hpm : p = m
      · subst hpm
        rw [hp_noappeal T S o (show p < 80 by omega) h28, hp_noappeal (tNewM T p j x2 x3 x5 x6 x7) S o (show p < 80 by omega) (by rw [tNewM_28]; decide)]
      · by_cases h28p : T 28 p = 1
        · rw [hp_appeal T S o (show p < 80 by omega) h28p, hp_appeal (tNewM T m j x2 x3 x5 x6 x7) S o (show p < 80 by omega) (by rw [tNewM_ne (by decide) hpm]; exact h28p)]; rfl
        · rw [hp_noappeal T S o (show p < 80 by omega) h28p, hp_noappeal (tNewM T m j x2 x3 x5 x6 x7) S o (show p < 80 by omega) (by rw [tNewM_ne (by decide) hpm]; exact h28p)]
    by_cases r304 : i < 304
    · obtain ⟨p, rfl⟩ : ∃ p, i = 224 + p := ⟨i - 224, by omega⟩
      by_cases hp9 : p < v
      · rw [hp_day T S o hv hv80 hp9, hp_day (tNewM T m j x2 x3 x5 x6 x7) S o hv hv80 hp9]; rfl
      · rw [hp_noday T S o hv hv80 hp9 (by omega), hp_noday (tNewM T m j x2 x3 x5 x6 x7) S o hv hv80 hp9 (by omega)]
    by_cases r384 : i < 384
    · obtain ⟨p, rfl⟩ : ∃ p, i = 304 + p := ⟨i - 304, by omega⟩
      by_cases hp9 : p < v
      · rw [hp_drd T S o hv hv80 hp9, hp_drd (tNewM T m j x2 x3 x5 x6 x7) S o hv hv80 hp9]; rfl
      · rw [hp_nodrd T S o hv hv80 hp9 (by omega), hp_nodrd (tNewM T m j x2 x3 x5 x6 x7) S o hv hv80 hp9 (by omega)]
    obtain ⟨p, rfl⟩ : ∃ p, i = 384 + p := ⟨i - 384, by omega⟩
    by_cases hp9 : p < v
    · rw [hp_ded T S o hv hv80 hp9, hp_ded (tNewM T m j x2 x3 x5 x6 x7) S o hv hv80 hp9]; rfl
    · rw [hp_noded T S o hv hv80 hp9 (by omega), hp_noded (tNewM T m j x2 x3 x5 x6 x7) S o hv hv80 hp9 (by omega)]
  · unfold hp
    rw [if_neg h464, if_neg h464]
theorem tApp_28 {T : am_T} {k : Nat} {x : Int32} : tApp T k x 28 k = 1 := by
  unfold tApp
  rw [st1_ne (by omega), st1_ne (by omega), st1_ne (by omega), st1_ne (by omega), st1_same]
theorem tApp_29 {T : am_T} {k : Nat} {x : Int32} : tApp T k x 29 k = x := by
  unfold tApp
  rw [st1_ne (by omega), st1_ne (by omega), st1_ne (by omega), st1_same]
theorem tApp_30 {T : am_T} {k : Nat} {x : Int32} : tApp T k x 30 k = 0 := by
  unfold tApp
  rw [st1_ne (by omega), st1_ne (by omega), st1_same]
theorem tApp_31 {T : am_T} {k : Nat} {x : Int32} : tApp T k x 31 k = 0 := by
  unfold tApp
  rw [st1_ne (by omega), st1_same]
theorem tApp_32 {T : am_T} {k : Nat} {x : Int32} : tApp T k x 32 k = 1 := by
  unfold tApp
  rw [st1_same]
theorem tApp_f {T : am_T} {k : Nat} {x : Int32} {g : Nat} (h : g ≠ 28 ∧ g ≠ 29 ∧ g ≠ 30 ∧ g ≠ 31 ∧ g ≠ 32) : tApp T k x g = T g := by
  unfold tApp
  rw [st1_f (by omega), st1_f (by omega), st1_f (by omega), st1_f (by omega), st1_f (by omega)]
theorem tApp_ne {T : am_T} {k : Nat} {x : Int32} {g p : Nat} (h0 : g ≠ 99) (h : p ≠ k) : tApp T k x g p = T g p := by
  unfold tApp
  rw [st1_ne (by omega), st1_ne (by omega), st1_ne (by omega), st1_ne (by omega), st1_ne (by omega)]
set_option maxRecDepth 100000 in
set_option maxHeartbeats 2000000 in
theorem hp_app {T S : am_T} {o : Nat → Int64} {n m v k : Nat} {x : Int32} (hn : T 0 0 = nI n) (hn10 : n ≤ 10) (hm : T 1 0 = nI m) (hm80 : m ≤ 80) (hv : T 2 0 = nI v) (hv80 : v ≤ 80) (hk : k < m) : (am_u (am_u (hp T S o) (144 + k) (.inr (0, [.int x, .int 0, .int 0, .int 1]))) (64 + k) (.inr (1, [.int (T 18 k), .int (T 19 k), .int (T 20 k), .ref (224 + (T 21 k).toNatClampNeg), .int (T 22 k), .int (T 23 k), .int (T 24 k), .int (T 25 k), .int (T 26 k), .int (T 27 k), .ref (144 + k)]))) = (hp (tApp T k x) S o) := by
  have hma : tApp T k x 1 0 = nI m := by rw [show (tApp T k x) 1 = T 1 from tApp_f (by decide)]; exact hm
  funext i
  unfold am_u
  by_cases h0 : i = 64 + k
  · subst h0
    rw [if_pos rfl]
    rw [hp_mail (tApp T k x) S o hma hm80 hk]
    unfold tMail
    rw [tApp_28, if_pos rfl, show (tApp T k x) 18 = T 18 from tApp_f (by decide), show (tApp T k x) 19 = T 19 from tApp_f (by decide), show (tApp T k x) 20 = T 20 from tApp_f (by decide), show (tApp T k x) 21 = T 21 from tApp_f (by decide), show (tApp T k x) 22 = T 22 from tApp_f (by decide), show (tApp T k x) 23 = T 23 from tApp_f (by decide), show (tApp T k x) 24 = T 24 from tApp_f (by decide), show (tApp T k x) 25 = T 25 from tApp_f (by decide), show (tApp T k x) 26 = T 26 from tApp_f (by decide), show (tApp T k x) 27 = T 27 from tApp_f (by decide)]
  by_cases h1 : i = 144 + k
  · subst h1
    rw [if_neg (by omega), if_pos rfl]
    rw [hp_appeal (tApp T k x) S o (show k < 80 by omega) tApp_28]
    unfold tAppeal
    rw [tApp_29, tApp_30, tApp_31, tApp_32]
  rw [if_neg h0, if_neg h1]
  by_cases h464 : i < 464
  · by_cases r16 : i < 16
    · by_cases e0 : i = 0
      · subst e0; rw [hp_main, hp_main]; unfold tMain; rw [show (tApp T k x) 0 = T 0 from tApp_f (by decide), show (tApp T k x) 1 = T 1 from tApp_f (by decide), show (tApp T k x) 2 = T 2 from tApp_f (by decide), show (tApp T k x) 3 = T 3 from tApp_f (by decide)]
      by_cases e1 : i = 1
      · subst e1; rw [hp_1, hp_1]
      by_cases e2 : i = 2
      · subst e2; rw [hp_words, hp_words, show (tApp T k x) 4 = T 4 from tApp_f (by decide)]
      by_cases e3 : i = 3
      · subst e3; rw [hp_3, hp_3, show tN (tApp T k x) 0 = tN T 0 from by unfold tN; rw [show (tApp T k x) 0 = T 0 from tApp_f (by decide)]]
      by_cases e4 : i = 4
      · subst e4; rw [hp_4, hp_4, show tN (tApp T k x) 1 = tN T 1 from by unfold tN; rw [show (tApp T k x) 1 = T 1 from tApp_f (by decide)]]
      by_cases e5 : i = 5
      · subst e5; rw [hp_5, hp_5, show tN (tApp T k x) 2 = tN T 2 from by unfold tN; rw [show (tApp T k x) 2 = T 2 from tApp_f (by decide)]]
      rw [hpC_small T S o (by omega) r16, hpC_small (tApp T k x) S o (by omega) r16]
    by_cases r32 : i < 32
    · obtain ⟨p, rfl⟩ : ∃ p, i = 16 + p := ⟨i - 16, by omega⟩
      rw [hp_person T S o (show p < 16 by omega), hp_person (tApp T k x) S o (show p < 16 by omega)]; rfl
    by_cases r48 : i < 48
    · obtain ⟨p, rfl⟩ : ∃ p, i = 32 + p := ⟨i - 32, by omega⟩
      rw [hp_box T S o (show p < 16 by omega), hp_box (tApp T k x) S o (show p < 16 by omega)]; rfl
    by_cases r64 : i < 64
    · obtain ⟨p, rfl⟩ : ∃ p, i = 48 + p := ⟨i - 48, by omega⟩
      by_cases hp9 : p < n
      · rw [hp_list T S o hn hn10 hp9, hp_list (tApp T k x) S o hn hn10 hp9]; rfl
      · rw [hp_nolist T S o hn hn10 hp9 (by omega), hp_nolist (tApp T k x) S o hn hn10 hp9 (by omega)]
    by_cases r144 : i < 144
    · obtain ⟨p, rfl⟩ : ∃ p, i = 64 + p := ⟨i - 64, by omega⟩
      by_cases hp9 : p < m
      · have hne : p ≠ k := by omega
        rw [hp_mail T S o hm hm80 hp9, hp_mail (tApp T k x) S o hma hm80 hp9]
        unfold tMail
        rw [show (tApp T k x) 18 p = T 18 p from tApp_ne (by decide) hne, show (tApp T k x) 19 p = T 19 p from tApp_ne (by decide) hne, show (tApp T k x) 20 p = T 20 p from tApp_ne (by decide) hne, show (tApp T k x) 21 p = T 21 p from tApp_ne (by decide) hne, show (tApp T k x) 22 p = T 22 p from tApp_ne (by decide) hne, show (tApp T k x) 23 p = T 23 p from tApp_ne (by decide) hne, show (tApp T k x) 24 p = T 24 p from tApp_ne (by decide) hne, show (tApp T k x) 25 p = T 25 p from tApp_ne (by decide) hne, show (tApp T k x) 26 p = T 26 p from tApp_ne (by decide) hne, show (tApp T k x) 27 p = T 27 p from tApp_ne (by decide) hne, show (tApp T k x) 28 p = T 28 p from tApp_ne (by decide) hne]
      · rw [hp_nomail T S o hm hm80 hp9 (by omega), hp_nomail (tApp T k x) S o hma hm80 hp9 (by omega)]
    by_cases r224 : i < 224
    · obtain ⟨p, rfl⟩ : ∃ p, i = 144 + p := ⟨i - 144, by omega⟩
      have hne : p ≠ k := by omega
      by_cases h28p : T 28 p = 1
      · rw [hp_appeal T S o (show p < 80 by omega) h28p, hp_appeal (tApp T k x) S o (show p < 80 by omega) (by rw [tApp_ne (by decide) hne]; exact h28p)]
        unfold tAppeal
        rw [show (tApp T k x) 29 p = T 29 p from tApp_ne (by decide) hne, show (tApp T k x) 30 p = T 30 p from tApp_ne (by decide) hne, show (tApp T k x) 31 p = T 31 p from tApp_ne (by decide) hne, show (tApp T k x) 32 p = T 32 p from tApp_ne (by decide) hne]
      · rw [hp_noappeal T S o (show p < 80 by omega) h28p, hp_noappeal (tApp T k x) S o (show p < 80 by omega) (by rw [tApp_ne (by decide) hne]; exact h28p)]
    by_cases r304 : i < 304
    · obtain ⟨p, rfl⟩ : ∃ p, i = 224 + p := ⟨i - 224, by omega⟩
      by_cases hp9 : p < v
      · rw [hp_day T S o hv hv80 hp9, hp_day (tApp T k x) S o hv hv80 hp9]; rfl
      · rw [hp_noday T S o hv hv80 hp9 (by omega), hp_noday (tApp T k x) S o hv hv80 hp9 (by omega)]
    by_cases r384 : i < 384
    · obtain ⟨p, rfl⟩ : ∃ p, i = 304 + p := ⟨i - 304, by omega⟩
      by_cases hp9 : p < v
      · rw [hp_drd T S o hv hv80 hp9, hp_drd (tApp T k x) S o hv hv80 hp9]; rfl
      · rw [hp_nodrd T S o hv hv80 hp9 (by omega), hp_nodrd (tApp T k x) S o hv hv80 hp9 (by omega)]
    obtain ⟨p, rfl⟩ : ∃ p, i = 384 + p := ⟨i - 384, by omega⟩
    by_cases hp9 : p < v
    · rw [hp_ded T S o hv hv80 hp9, hp_ded (tApp T k x) S o hv hv80 hp9]; rfl
    · rw [hp_noded T S o hv hv80 hp9 (by omega), hp_noded (tApp T k x) S o hv hv80 hp9 (by omega)]
  · unfold hp
    rw [if_neg h464, if_neg h464]
theorem tNewD_f {T : am_T} {v g : Nat} (h : g ≠ 34 ∧ g ≠ 35 ∧ g ≠ 33 ∧ g ≠ 36 ∧ g ≠ 37 ∧ g ≠ 2) : tNewD T v g = T g := by
  unfold tNewD
  rw [if_neg (by omega), st1_f (by omega), st1_f (by omega), st1_f (by omega), st1_f (by omega)]
theorem tNewD_ne {T : am_T} {v g p : Nat} (h : g ≠ 34 ∧ g ≠ 35 ∧ g ≠ 2) (hp : p ≠ v) : tNewD T v g p = T g p := by
  unfold tNewD
  rw [if_neg (by omega), st1_ne (by omega), st1_ne (by omega), st1_ne (by omega), st1_ne (by omega)]
theorem tNewD_2 {T : am_T} {v : Nat} : tNewD T v 2 0 = nI v + 1 := by
  unfold tNewD
  rw [if_neg (by omega), st1_same]
theorem tNewD_33 {T : am_T} {v : Nat} : tNewD T v 33 v = T 3 0 := by
  unfold tNewD
  rw [if_neg (by omega), st1_ne (by omega), st1_ne (by omega), st1_ne (by omega), st1_same]
theorem tNewD_36 {T : am_T} {v : Nat} : tNewD T v 36 v = 0 := by
  unfold tNewD
  rw [if_neg (by omega), st1_ne (by omega), st1_ne (by omega), st1_same]
theorem tNewD_37 {T : am_T} {v : Nat} : tNewD T v 37 v = 0 := by
  unfold tNewD
  rw [if_neg (by omega), st1_ne (by omega), st1_same]
theorem tNewD_a {T : am_T} {v g i : Nat} (h : g = 34 ∨ g = 35) : tNewD T v g i = if 10 * v ≤ i ∧ i < 10 * v + 10 then 0 else T g i := by
  unfold tNewD
  rw [if_pos h]
theorem tNewD_z {T : am_T} {v g : Nat} (h : g = 34 ∨ g = 35) : (fun l => if l < 10 then tNewD T v g (10 * v + l) else 0) = (fun _ => (0 : Int32)) := by
  funext l
  by_cases hl : l < 10
  · rw [if_pos hl, tNewD_a h, if_pos (by omega)]
  · rw [if_neg hl]
theorem tNewD_o {T : am_T} {v g p : Nat} (h : g = 34 ∨ g = 35) (hp : p < v) : (fun l => if l < 10 then tNewD T v g (10 * p + l) else 0) = (fun l => if l < 10 then T g (10 * p + l) else 0) := by
  funext l
  by_cases hl : l < 10
  · rw [if_pos hl, if_pos hl, tNewD_a h, if_neg (by omega)]
  · rw [if_neg hl, if_neg hl]
set_option maxRecDepth 100000 in
set_option maxHeartbeats 2000000 in
theorem hp_newd {T S : am_T} {o : Nat → Int64} {n m v z : Nat} {e : va_E} (hn : T 0 0 = nI n) (hn10 : n ≤ 10) (hm : T 1 0 = nI m) (hm80 : m ≤ 80) (hv : T 2 0 = nI v) (hv80 : v < 80) (hz : z < 80) : (am_u (am_u (am_u (am_u (am_u (am_u (am_u (hp T S o) (64 + z) e) (224 + v) (.inr (4, [.int 0, .null, .null, .int 0, .int 0]))) (304 + v) (.inl (0, 10, .inl (fun _ => 0)))) (384 + v) (.inl (0, 10, .inl (fun _ => 0)))) (224 + v) (.inr (4, [.int (T 3 0), .ref (304 + v), .ref (384 + v), .int 0, .int 0]))) (5) (.inl (5, 80, .inr (.inr (.inr (.inr (va_up (fun j => if j < tN T 2 then some (224 + j) else none) v (some (224 + v))))))))) (0) (.inr (5, [.ref 1, .ref 2, .ref 3, .int (T 0 0), .ref 4, .int (T 1 0), .ref 5, .int (nI v + 1), .int (T 3 0)]))) = (am_u (hp (tNewD T v) S o) (64 + z) e) := by
  have hnd : tNewD T v 2 0 = nI (v + 1) := by rw [tNewD_2, nI_1]
  funext i
  unfold am_u
  by_cases h0 : i = 0
  · subst h0
    rw [if_pos rfl, if_neg (by omega)]
    rw [hp_main]; unfold tMain; rw [show (tNewD T v) 0 = T 0 from tNewD_f (by decide), show (tNewD T v) 1 = T 1 from tNewD_f (by decide), tNewD_2, show (tNewD T v) 3 = T 3 from tNewD_f (by decide)]
  by_cases h1 : i = 5
  · subst h1
    rw [if_neg (by omega), if_pos rfl, if_neg (by omega)]
    show some _ = some (am_q (fun l => if l < tN (tNewD T v) 2 then some (224 + l) else none) 80 5)
    rw [tN_eq hnd (by omega)]
    show some (am_q (va_up (fun l => if l < tN T 2 then some (224 + l) else none) v (some (224 + v))) 80 5) = _
    rw [tN_eq hv (by omega)]
    refine congrArg (fun f9 => some (am_q f9 80 5)) ?_
    funext l
    unfold va_up
    by_cases hl : l = v
    · rw [if_pos hl, if_pos (by omega), hl]
    · rw [if_neg hl]
      show (if l < v then some (224 + l) else none) = _
      by_cases hl2 : l < v
      · rw [if_pos hl2, if_pos (by omega)]
      · rw [if_neg hl2, if_neg (by omega)]
  by_cases h2 : i = 224 + v
  · subst h2
    rw [if_neg (by omega), if_neg (by omega), if_pos rfl, if_neg (by omega)]
    rw [hp_day (tNewD T v) S o hnd (show v + 1 ≤ 80 by omega) (show v < v + 1 by omega)]
    unfold tDay
    rw [tNewD_33, tNewD_36, tNewD_37]
  by_cases h3 : i = 384 + v
  · subst h3
    rw [if_neg (by omega), if_neg (by omega), if_neg (by omega), if_pos rfl, if_neg (by omega)]
    rw [hp_ded (tNewD T v) S o hnd (show v + 1 ≤ 80 by omega) (show v < v + 1 by omega), tNewD_z (by decide)]; rfl
  by_cases h4 : i = 304 + v
  · subst h4
    rw [if_neg (by omega), if_neg (by omega), if_neg (by omega), if_neg (by omega), if_pos rfl, if_neg (by omega)]
    rw [hp_drd (tNewD T v) S o hnd (show v + 1 ≤ 80 by omega) (show v < v + 1 by omega), tNewD_z (by decide)]; rfl
  by_cases h6 : i = 64 + z
  · subst h6
    rw [if_neg (by omega), if_neg (by omega), if_neg (by omega), if_neg (by omega), if_neg (by omega), if_neg (by omega), if_pos rfl, if_pos rfl]
  rw [if_neg h0, if_neg h1, if_neg h2, if_neg h3, if_neg h4, if_neg h2, if_neg h6, if_neg h6]
  by_cases h464 : i < 464
  · by_cases r16 : i < 16
    · by_cases e0 : i = 0
      · exact absurd e0 h0
      by_cases e1 : i = 1
      · subst e1; rw [hp_1, hp_1]
      by_cases e2 : i = 2
      · subst e2; rw [hp_words, hp_words, show (tNewD T v) 4 = T 4 from tNewD_f (by decide)]
      by_cases e3 : i = 3
      · subst e3; rw [hp_3, hp_3, show tN (tNewD T v) 0 = tN T 0 from by unfold tN; rw [show (tNewD T v) 0 = T 0 from tNewD_f (by decide)]]
      by_cases e4 : i = 4
      · subst e4; rw [hp_4, hp_4, show tN (tNewD T v) 1 = tN T 1 from by unfold tN; rw [show (tNewD T v) 1 = T 1 from tNewD_f (by decide)]]
      by_cases e5 : i = 5
      · exact absurd e5 h1
      rw [hpC_small T S o (by omega) r16, hpC_small (tNewD T v) S o (by omega) r16]
    by_cases r32 : i < 32
    · obtain ⟨p, rfl⟩ : ∃ p, i = 16 + p := ⟨i - 16, by omega⟩
      rw [hp_person T S o (show p < 16 by omega), hp_person (tNewD T v) S o (show p < 16 by omega)]; rfl
    by_cases r48 : i < 48
    · obtain ⟨p, rfl⟩ : ∃ p, i = 32 + p := ⟨i - 32, by omega⟩
      rw [hp_box T S o (show p < 16 by omega), hp_box (tNewD T v) S o (show p < 16 by omega)]; rfl
    by_cases r64 : i < 64
    · obtain ⟨p, rfl⟩ : ∃ p, i = 48 + p := ⟨i - 48, by omega⟩
      by_cases hp9 : p < n
      · rw [hp_list T S o hn hn10 hp9, hp_list (tNewD T v) S o hn hn10 hp9]; rfl
      · rw [hp_nolist T S o hn hn10 hp9 (by omega), hp_nolist (tNewD T v) S o hn hn10 hp9 (by omega)]
    by_cases r144 : i < 144
    · obtain ⟨p, rfl⟩ : ∃ p, i = 64 + p := ⟨i - 64, by omega⟩
      by_cases hp9 : p < m
      · rw [hp_mail T S o hm hm80 hp9, hp_mail (tNewD T v) S o hm hm80 hp9]; rfl
      · rw [hp_nomail T S o hm hm80 hp9 (by omega), hp_nomail (tNewD T v) S o hm hm80 hp9 (by omega)]
    by_cases r224 : i < 224
    · obtain ⟨p, rfl⟩ : ∃ p, i = 144 + p := ⟨i - 144, by omega⟩
      by_cases h28 : T 28 p = 1
      · rw [hp_appeal T S o (show p < 80 by omega) h28, hp_appeal (tNewD T v) S o (show p < 80 by omega) h28]; rfl
      · rw [hp_noappeal T S o (show p < 80 by omega) h28, hp_noappeal (tNewD T v) S o (show p < 80 by omega) h28]
    by_cases r304 : i < 304
    · obtain ⟨p, rfl⟩ : ∃ p, i = 224 + p := ⟨i - 224, by omega⟩
      by_cases hp9 : p < v
      · have hne : p ≠ v := by omega
        rw [hp_day T S o hv (show v ≤ 80 by omega) hp9, hp_day (tNewD T v) S o hnd (show v + 1 ≤ 80 by omega) (show p < v + 1 by omega)]
        unfold tDay
        rw [show (tNewD T v) 33 p = T 33 p from tNewD_ne (by decide) hne, show (tNewD T v) 36 p = T 36 p from tNewD_ne (by decide) hne, show (tNewD T v) 37 p = T 37 p from tNewD_ne (by decide) hne]
      · rw [hp_noday T S o hv (show v ≤ 80 by omega) hp9 (by omega), hp_noday (tNewD T v) S o hnd (show v + 1 ≤ 80 by omega) (show ¬ p < v + 1 by omega) (by omega)]
    by_cases r384 : i < 384
    · obtain ⟨p, rfl⟩ : ∃ p, i = 304 + p := ⟨i - 304, by omega⟩
      by_cases hp9 : p < v
      · rw [hp_drd T S o hv (show v ≤ 80 by omega) hp9, hp_drd (tNewD T v) S o hnd (show v + 1 ≤ 80 by omega) (show p < v + 1 by omega), tNewD_o (by decide) hp9]
      · rw [hp_nodrd T S o hv (show v ≤ 80 by omega) hp9 (by omega), hp_nodrd (tNewD T v) S o hnd (show v + 1 ≤ 80 by omega) (show ¬ p < v + 1 by omega) (by omega)]
    obtain ⟨p, rfl⟩ : ∃ p, i = 384 + p := ⟨i - 384, by omega⟩
    by_cases hp9 : p < v
    · rw [hp_ded T S o hv (show v ≤ 80 by omega) hp9, hp_ded (tNewD T v) S o hnd (show v + 1 ≤ 80 by omega) (show p < v + 1 by omega), tNewD_o (by decide) hp9]
    · rw [hp_noded T S o hv (show v ≤ 80 by omega) hp9 (by omega), hp_noded (tNewD T v) S o hnd (show v + 1 ≤ 80 by omega) (show ¬ p < v + 1 by omega) (by omega)]
  · unfold hp
    rw [if_neg h464, if_neg h464]
