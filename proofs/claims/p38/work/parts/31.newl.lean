set_option maxRecDepth 100000 in
set_option maxHeartbeats 2000000 in
theorem hp_newl {T S : am_T} {o : Nat → Int64} {n m v : Nat} {x : Int32} (hn : T 0 0 = nI n) (hn10 : n < 10) (hm : T 1 0 = nI m) (hm80 : m ≤ 80) (hv : T 2 0 = nI v) (hv80 : v ≤ 80) : (am_u (am_u (am_u (hp T S o) (48 + n) (.inr (2, [.int x, .int 0, .int 0, .int 0, .int 0, .int 10, .int 7, .int 0]))) (3) (.inl (3, 10, .inr (.inr (.inr (.inr (va_up (fun l => if l < tN T 0 then some (48 + l) else none) n (some (48 + n))))))))) (0) (.inr (5, [.ref 1, .ref 2, .ref 3, .int (nI n + 1), .ref 4, .int (T 1 0), .ref 5, .int (T 2 0), .int (T 3 0)]))) = (hp (tNewL T n x) S o) := by
  have hnn : tNewL T n x 0 0 = nI (n + 1) := by rw [tNewL_0, nI_1]
  funext i
  unfold am_u
  by_cases h0 : i = 0
  · subst h0
    rw [if_pos rfl]
    rw [hp_main]; unfold tMain; rw [tNewL_0, congrFun (tNewL_f (T := T) (n := n) (x := x) (g := 1) (by decide)) 0, congrFun (tNewL_f (T := T) (n := n) (x := x) (g := 2) (by decide)) 0, congrFun (tNewL_f (T := T) (n := n) (x := x) (g := 3) (by decide)) 0]
  by_cases h1 : i = 3
  · subst h1
    rw [if_neg (by omega), if_pos rfl]
    show some _ = some (am_q (fun l => if l < tN (tNewL T n x) 0 then some (48 + l) else none) 10 3)
    rw [tN_eq hnn (by omega)]
    show some (am_q (va_up (fun l => if l < tN T 0 then some (48 + l) else none) n (some (48 + n))) 10 3) = _
    rw [tN_eq hn (by omega)]
    refine congrArg (fun f9 => some (am_q f9 10 3)) ?_
    funext l
    unfold va_up
    by_cases hl : l = n
    · rw [if_pos hl, if_pos (by omega), hl]
    · rw [if_neg hl]
      show (if l < n then some (48 + l) else none) = _
      by_cases hl2 : l < n
      · rw [if_pos hl2, if_pos (by omega)]
      · rw [if_neg hl2, if_neg (by omega)]
  by_cases h2 : i = 48 + n
  · subst h2
    rw [if_neg (by omega), if_neg (by omega), if_pos rfl]
    rw [hp_list (tNewL T n x) S o hnn (show n + 1 ≤ 10 by omega) (show n < n + 1 by omega)]
    unfold tList
    rw [tNewL_10, tNewL_11, tNewL_12, tNewL_13, tNewL_14, tNewL_15, tNewL_16, tNewL_17]
  rw [if_neg h0, if_neg h1, if_neg h2]
  by_cases h464 : i < 464
  · by_cases r16 : i < 16
    · by_cases e0 : i = 0
      · exact absurd e0 h0
      by_cases e1 : i = 1
      · subst e1; rw [hp_1, hp_1]
      by_cases e2 : i = 2
      · subst e2; rw [hp_words, hp_words, show (tNewL T n x) 4 = T 4 from tNewL_f (by decide)]
      by_cases e3 : i = 3
      · exact absurd e3 h1
      by_cases e4 : i = 4
      · subst e4; rw [hp_4, hp_4, show tN (tNewL T n x) 1 = tN T 1 from by unfold tN; rw [show (tNewL T n x) 1 = T 1 from tNewL_f (by decide)]]
      by_cases e5 : i = 5
      · subst e5; rw [hp_5, hp_5, show tN (tNewL T n x) 2 = tN T 2 from by unfold tN; rw [show (tNewL T n x) 2 = T 2 from tNewL_f (by decide)]]
      rw [hpC_small T S o (by omega) r16, hpC_small (tNewL T n x) S o (by omega) r16]
    by_cases r32 : i < 32
    · obtain ⟨p, rfl⟩ : ∃ p, i = 16 + p := ⟨i - 16, by omega⟩
      rw [hp_person T S o (show p < 16 by omega), hp_person (tNewL T n x) S o (show p < 16 by omega)]; rfl
    by_cases r48 : i < 48
    · obtain ⟨p, rfl⟩ : ∃ p, i = 32 + p := ⟨i - 32, by omega⟩
      rw [hp_box T S o (show p < 16 by omega), hp_box (tNewL T n x) S o (show p < 16 by omega)]; rfl
    by_cases r64 : i < 64
    · obtain ⟨p, rfl⟩ : ∃ p, i = 48 + p := ⟨i - 48, by omega⟩
      by_cases hp9 : p < n
      · rw [hp_list T S o hn (show n ≤ 10 by omega) hp9, hp_list (tNewL T n x) S o hnn (show n + 1 ≤ 10 by omega) (show p < n + 1 by omega)]
        show some (Sum.inr (_, tList T p)) = some (Sum.inr (_, tList (tNewL T n x) p))
        have hne : p ≠ n := by omega
        unfold tList
        rw [show tNewL T n x 10 p = T 10 p from tNewL_ne (by decide) hne, show tNewL T n x 11 p = T 11 p from tNewL_ne (by decide) hne, show tNewL T n x 12 p = T 12 p from tNewL_ne (by decide) hne, show tNewL T n x 13 p = T 13 p from tNewL_ne (by decide) hne, show tNewL T n x 14 p = T 14 p from tNewL_ne (by decide) hne, show tNewL T n x 15 p = T 15 p from tNewL_ne (by decide) hne, show tNewL T n x 16 p = T 16 p from tNewL_ne (by decide) hne, show tNewL T n x 17 p = T 17 p from tNewL_ne (by decide) hne]
      · rw [hp_nolist T S o hn (show n ≤ 10 by omega) hp9 (by omega), hp_nolist (tNewL T n x) S o hnn (show n + 1 ≤ 10 by omega) (show ¬ p < n + 1 by omega) (by omega)]
    by_cases r144 : i < 144
    · obtain ⟨p, rfl⟩ : ∃ p, i = 64 + p := ⟨i - 64, by omega⟩
      by_cases hp9 : p < m
      · rw [hp_mail T S o hm hm80 hp9, hp_mail (tNewL T n x) S o hm hm80 hp9]; rfl
      · rw [hp_nomail T S o hm hm80 hp9 (by omega), hp_nomail (tNewL T n x) S o hm hm80 hp9 (by omega)]
    by_cases r224 : i < 224
    · obtain ⟨p, rfl⟩ : ∃ p, i = 144 + p := ⟨i - 144, by omega⟩
      by_cases h28 : T 28 p = 1
      · rw [hp_appeal T S o (show p < 80 by omega) h28, hp_appeal (tNewL T n x) S o (show p < 80 by omega) h28]; rfl
      · rw [hp_noappeal T S o (show p < 80 by omega) h28, hp_noappeal (tNewL T n x) S o (show p < 80 by omega) h28]
    by_cases r304 : i < 304
    · obtain ⟨p, rfl⟩ : ∃ p, i = 224 + p := ⟨i - 224, by omega⟩
      by_cases hp9 : p < v
      · rw [hp_day T S o hv hv80 hp9, hp_day (tNewL T n x) S o hv hv80 hp9]; rfl
      · rw [hp_noday T S o hv hv80 hp9 (by omega), hp_noday (tNewL T n x) S o hv hv80 hp9 (by omega)]
    by_cases r384 : i < 384
    · obtain ⟨p, rfl⟩ : ∃ p, i = 304 + p := ⟨i - 304, by omega⟩
      by_cases hp9 : p < v
      · rw [hp_drd T S o hv hv80 hp9, hp_drd (tNewL T n x) S o hv hv80 hp9]; rfl
      · rw [hp_nodrd T S o hv hv80 hp9 (by omega), hp_nodrd (tNewL T n x) S o hv hv80 hp9 (by omega)]
    obtain ⟨p, rfl⟩ : ∃ p, i = 384 + p := ⟨i - 384, by omega⟩
    by_cases hp9 : p < v
    · rw [hp_ded T S o hv hv80 hp9, hp_ded (tNewL T n x) S o hv hv80 hp9]; rfl
    · rw [hp_noded T S o hv hv80 hp9 (by omega), hp_noded (tNewL T n x) S o hv hv80 hp9 (by omega)]
  · unfold hp
    rw [if_neg h464, if_neg h464]
