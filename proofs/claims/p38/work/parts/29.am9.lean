/-! my layer, 9: worlds with new cells in them; what no cell speaks of -/
theorem am_us (X : am_H) (i : Nat) (e : va_E) : am_u X i e i = some e := if_pos rfl
theorem am_un {X : am_H} {i j : Nat} {e : va_E} (h : j ≠ i) {c : Option va_E} (hX : X j = c) : am_u X i e j = c := by
  unfold am_u
  rw [if_neg h, hX]
theorem am_uu (X : am_H) (i : Nat) (a b : va_E) : am_u (am_u X i a) i b = am_u X i b := by
  funext j
  unfold am_u
  by_cases h : j = i
  · rw [if_pos h, if_pos h]
  · rw [if_neg h, if_neg h, if_neg h]
/-- the cell speaks of i -/
def am_mn (e : va_E) (i : Nat) : Prop := match e with
  | .inl q => match q.2.2 with
    | .inr (.inr (.inr (.inr f))) => ∃ j, f j = some i
    | _ => False
  | .inr q => Value.ref i ∈ q.2
theorem am_mn_fr {e : va_E} {i : Nat} (h : ¬ am_mn e i) (ty : Nat → ClassId) (ad : Nat → Nat) (q : Nat) : am_e ty (va_up ad i q) e = am_e ty ad e := by
  match e, h with
  | .inl (t, m, .inl f), _ => rfl
  | .inl (t, m, .inr (.inl f)), _ => rfl
  | .inl (t, m, .inr (.inr (.inl f))), _ => rfl
  | .inl (t, m, .inr (.inr (.inr (.inl f)))), _ => rfl
  | .inl (t, m, .inr (.inr (.inr (.inr f)))), h =>
    have e9 : (fun j => (f j).map (va_up ad i q)) = (fun j => (f j).map ad) := by
      funext j
      cases hj : f j with
      | none => rfl
      | some a =>
        have : a ≠ i := fun e => h ⟨j, by rw [hj, e]⟩
        show some (va_up ad i q a) = some (ad a)
        rw [va_up_ne _ _ this]
    show Sum.inl (ty t, m, Sum.inr (Sum.inr (Sum.inr (Sum.inr (fun j => (f j).map (va_up ad i q)))))) = Sum.inl (ty t, m, Sum.inr (Sum.inr (Sum.inr (Sum.inr (fun j => (f j).map ad)))))
    rw [e9]
  | .inr (c, vs), h =>
    show Sum.inr (c, vs.map (am_v (va_up ad i q))) = Sum.inr (c, vs.map (am_v ad))
    rw [am_nr_map (fun v hv e => h (show Value.ref i ∈ vs from e ▸ hv))]
/-- what the cells speak of is there -/
def am_cl (X : am_H) : Prop := ∀ (j : Nat) (e : va_E), X j = some e → ∀ r, am_mn e r → X r ≠ none
theorem am_cl_fr {X : am_H} (h : am_cl X) {i : Nat} (hi : X i = none) : am_fr X i := fun j e hj ty ad q => am_mn_fr (fun hm => h j e hj i hm hi) ty ad q
theorem am_cl_u {X : am_H} (h : am_cl X) {i : Nat} {e : va_E} (he : ∀ r, am_mn e r → r = i ∨ X r ≠ none) : am_cl (am_u X i e) := by
  intro j e' hj r hr
  have key : r = i ∨ X r ≠ none := by
    unfold am_u at hj
    by_cases hji : j = i
    · rw [if_pos hji] at hj
      cases hj
      exact he r hr
    · rw [if_neg hji] at hj
      exact Or.inr (h j e' hj r hr)
  unfold am_u
  by_cases hri : r = i
  · rw [if_pos hri]; exact fun h => by cases h
  · rw [if_neg hri]; exact key.resolve_left hri
theorem am_cl_0 : am_cl (fun _ => none) := fun _ _ h => by cases h
theorem am_mi {t m : Nat} {f : Nat → Int32} {r : Nat} {P : Prop} (h : am_mn (.inl (t, m, .inl f)) r) : P := h.elim
theorem am_ml {t m : Nat} {f : Nat → Int64} {r : Nat} {P : Prop} (h : am_mn (.inl (t, m, .inr (.inl f))) r) : P := h.elim
theorem am_mq {t m : Nat} {r : Nat} {P : Prop} (h : am_mn (.inl (t, m, .inr (.inr (.inr (.inr (fun _ => none)))))) r) : P := by obtain ⟨j, hj⟩ := h; cases hj
section
variable (T S : am_T) (o : Nat → Int64)
theorem hpC_small {i : Nat} (h : 5 < i) (h16 : i < 16) : hp T S o i = none := by
  rw [hpC_hp T S o (by omega)]; unfold hpC
  rw [if_pos h16, if_neg (by omega), if_neg (by omega), if_neg (by omega), if_neg (by omega), if_neg (by omega), if_neg (by omega)]
theorem hp_nolist {n p : Nat} (hn : T 0 0 = nI n) (hn10 : n ≤ 10) (hp9 : ¬ p < n) (h : p < 16) : hp T S o (48 + p) = none := by
  rw [hpC_hp T S o (by omega)]; unfold hpC
  rw [if_neg (by omega)]; rw [if_neg (by omega)]; rw [if_neg (by omega)]; rw [if_pos (by omega), show 48 + p - 48 = p by omega, tN_eq hn (by omega), if_neg hp9]
theorem hp_nomail {m p : Nat} (hm : T 1 0 = nI m) (hm80 : m ≤ 80) (hp9 : ¬ p < m) (h : p < 80) : hp T S o (64 + p) = none := by
  rw [hpC_hp T S o (by omega)]; unfold hpC
  rw [if_neg (by omega)]; rw [if_neg (by omega)]; rw [if_neg (by omega)]; rw [if_neg (by omega)]; rw [if_pos (by omega), show 64 + p - 64 = p by omega, tN_eq hm (by omega), if_neg hp9]
theorem hp_noappeal {p : Nat} (h : p < 80) (h28 : ¬ T 28 p = 1) : hp T S o (144 + p) = none := by
  rw [hpC_hp T S o (by omega)]; unfold hpC
  rw [if_neg (by omega)]; rw [if_neg (by omega)]; rw [if_neg (by omega)]; rw [if_neg (by omega)]; rw [if_neg (by omega)]; rw [if_pos (by omega), show 144 + p - 144 = p by omega, if_neg h28]
theorem hp_noday {v p : Nat} (hv : T 2 0 = nI v) (hv80 : v ≤ 80) (hp9 : ¬ p < v) (h : p < 80) : hp T S o (224 + p) = none := by
  rw [hpC_hp T S o (by omega)]; unfold hpC
  rw [if_neg (by omega)]; rw [if_neg (by omega)]; rw [if_neg (by omega)]; rw [if_neg (by omega)]; rw [if_neg (by omega)]; rw [if_neg (by omega)]; rw [if_pos (by omega), show 224 + p - 224 = p by omega, tN_eq hv (by omega), if_neg hp9]
theorem hp_nodrd {v p : Nat} (hv : T 2 0 = nI v) (hv80 : v ≤ 80) (hp9 : ¬ p < v) (h : p < 80) : hp T S o (304 + p) = none := by
  rw [hpC_hp T S o (by omega)]; unfold hpC
  rw [if_neg (by omega)]; rw [if_neg (by omega)]; rw [if_neg (by omega)]; rw [if_neg (by omega)]; rw [if_neg (by omega)]; rw [if_neg (by omega)]; rw [if_neg (by omega)]; rw [if_pos (by omega), show 304 + p - 304 = p by omega, tN_eq hv (by omega), if_neg hp9]
theorem hp_noded {v p : Nat} (hv : T 2 0 = nI v) (hv80 : v ≤ 80) (hp9 : ¬ p < v) (h : p < 80) : hp T S o (384 + p) = none := by
  rw [hpC_hp T S o (by omega)]; unfold hpC
  rw [if_neg (by omega)]; rw [if_neg (by omega)]; rw [if_neg (by omega)]; rw [if_neg (by omega)]; rw [if_neg (by omega)]; rw [if_neg (by omega)]; rw [if_neg (by omega)]; rw [if_neg (by omega)]; rw [if_pos (by omega), show 384 + p - 384 = p by omega, tN_eq hv (by omega), if_neg hp9]
end
/-- the state's heap is closed -/
theorem hp_cl {T S : am_T} {o : Nat → Int64} {n m v : Nat} (hs : tSafe T n m v) : am_cl (hp T S o) := by
  obtain ⟨hn, hn10, hm, hm80, hv, hv80, -, hmm⟩ := hs
  intro j e hj r hr
  by_cases h464 : j < 464
  · by_cases h0 : j = 0
    · subst h0
      rw [hp_main] at hj
      cases hj
      simp only [am_mn, tMain, List.mem_cons, List.not_mem_nil, or_false, Value.ref.injEq, reduceCtorEq, false_or] at hr
      rcases hr with rfl | rfl | rfl | rfl | rfl <;> exact Option.some_ne_none _
    by_cases h1 : j = 1
    · subst h1
      rw [show hp T S o 1 = some (am_q (fun p => if p < 16 then some (16 + p) else none) 16 2) from rfl] at hj
      cases hj
      obtain ⟨p, hp9⟩ := hr
      dsimp only at hp9
      by_cases h9 : p < 16
      · rw [if_pos h9] at hp9
        cases hp9
        rw [hp_person T S o h9]; exact fun h => by cases h
      · rw [if_neg h9] at hp9; cases hp9
    by_cases h2 : j = 2
    · subst h2
      rw [hp_words] at hj
      cases hj; exact hr.elim
    by_cases h3 : j = 3
    · subst h3
      rw [show hp T S o 3 = some (am_q (fun l => if l < tN T 0 then some (48 + l) else none) 10 3) from rfl] at hj
      cases hj
      obtain ⟨p, hp9⟩ := hr
      dsimp only at hp9
      by_cases h9 : p < tN T 0
      · rw [if_pos h9] at hp9
        cases hp9
        rw [tN_eq hn (by omega)] at h9
        rw [hp_list T S o hn hn10 h9]; exact fun h => by cases h
      · rw [if_neg h9] at hp9; cases hp9
    by_cases h4 : j = 4
    · subst h4
      rw [show hp T S o 4 = some (am_q (fun l => if l < tN T 1 then some (64 + l) else none) 80 4) from rfl] at hj
      cases hj
      obtain ⟨p, hp9⟩ := hr
      dsimp only at hp9
      by_cases h9 : p < tN T 1
      · rw [if_pos h9] at hp9
        cases hp9
        rw [tN_eq hm (by omega)] at h9
        rw [hp_mail T S o hm hm80 h9]; exact fun h => by cases h
      · rw [if_neg h9] at hp9; cases hp9
    by_cases h5 : j = 5
    · subst h5
      rw [show hp T S o 5 = some (am_q (fun l => if l < tN T 2 then some (224 + l) else none) 80 5) from rfl] at hj
      cases hj
      obtain ⟨p, hp9⟩ := hr
      dsimp only at hp9
      by_cases h9 : p < tN T 2
      · rw [if_pos h9] at hp9
        cases hp9
        rw [tN_eq hv (by omega)] at h9
        rw [hp_day T S o hv hv80 h9]; exact fun h => by cases h
      · rw [if_neg h9] at hp9; cases hp9
    by_cases h16 : j < 16
    · rw [hpC_small T S o (by omega) h16] at hj; cases hj
    by_cases h32 : j < 32
    · obtain ⟨p, rfl⟩ : ∃ p, j = 16 + p := ⟨j - 16, by omega⟩
      rw [hp_person T S o (show p < 16 by omega)] at hj
      cases hj
      simp only [am_mn, tPerson, List.mem_cons, List.not_mem_nil, or_false, Value.ref.injEq, reduceCtorEq, false_or] at hr
      rw [hr, hp_box T S o (show p < 16 by omega)]; exact fun h => by cases h
    by_cases h48 : j < 48
    · obtain ⟨p, rfl⟩ : ∃ p, j = 32 + p := ⟨j - 32, by omega⟩
      rw [hp_box T S o (show p < 16 by omega)] at hj
      cases hj; exact hr.elim
    by_cases h64 : j < 64
    · obtain ⟨p, rfl⟩ : ∃ p, j = 48 + p := ⟨j - 48, by omega⟩
      by_cases hp9 : p < n
      · rw [hp_list T S o hn hn10 hp9] at hj
        cases hj
        simp only [am_mn, tList, List.mem_cons, List.not_mem_nil, or_false, reduceCtorEq] at hr
      · rw [hp_nolist T S o hn hn10 hp9 (by omega)] at hj; cases hj
    by_cases h144 : j < 144
    · obtain ⟨p, rfl⟩ : ∃ p, j = 64 + p := ⟨j - 64, by omega⟩
      by_cases hp9 : p < m
      · rw [hp_mail T S o hm hm80 hp9] at hj
        cases hj
        simp only [am_mn, tMail, List.mem_cons, List.not_mem_nil, or_false, Value.ref.injEq, reduceCtorEq, false_or] at hr
        rcases hr with hr | hr
        · rw [hr, hp_day T S o hv hv80 (hmm _ hp9).1]; exact fun h => by cases h
        · by_cases h28 : T 28 p = 1
          · rw [if_pos h28] at hr
            cases hr
            rw [hp_appeal T S o (show p < 80 by omega) h28]; exact fun h => by cases h
          · rw [if_neg h28] at hr; cases hr
      · rw [hp_nomail T S o hm hm80 hp9 (by omega)] at hj; cases hj
    by_cases h224 : j < 224
    · obtain ⟨p, rfl⟩ : ∃ p, j = 144 + p := ⟨j - 144, by omega⟩
      by_cases h28 : T 28 p = 1
      · rw [hp_appeal T S o (show p < 80 by omega) h28] at hj
        cases hj
        simp only [am_mn, tAppeal, List.mem_cons, List.not_mem_nil, or_false, reduceCtorEq] at hr
      · rw [hp_noappeal T S o (show p < 80 by omega) h28] at hj; cases hj
    by_cases h304 : j < 304
    · obtain ⟨p, rfl⟩ : ∃ p, j = 224 + p := ⟨j - 224, by omega⟩
      by_cases hp9 : p < v
      · rw [hp_day T S o hv hv80 hp9] at hj
        cases hj
        simp only [am_mn, tDay, List.mem_cons, List.not_mem_nil, or_false, Value.ref.injEq, reduceCtorEq, false_or] at hr
        rcases hr with hr | hr
        · rw [hr, hp_drd T S o hv hv80 hp9]; exact fun h => by cases h
        · rw [hr, hp_ded T S o hv hv80 hp9]; exact fun h => by cases h
      · rw [hp_noday T S o hv hv80 hp9 (by omega)] at hj; cases hj
    by_cases h384 : j < 384
    · obtain ⟨p, rfl⟩ : ∃ p, j = 304 + p := ⟨j - 304, by omega⟩
      by_cases hp9 : p < v
      · rw [hp_drd T S o hv hv80 hp9] at hj
        cases hj; exact hr.elim
      · rw [hp_nodrd T S o hv hv80 hp9 (by omega)] at hj; cases hj
    · obtain ⟨p, rfl⟩ : ∃ p, j = 384 + p := ⟨j - 384, by omega⟩
      by_cases hp9 : p < v
      · rw [hp_ded T S o hv hv80 hp9] at hj
        cases hj; exact hr.elim
      · rw [hp_noded T S o hv hv80 hp9 (by omega)] at hj; cases hj
  · unfold hp at hj
    rw [if_neg h464] at hj
    by_cases h465 : j < 465
    · rw [if_pos h465] at hj
      unfold hpO at hj
      by_cases h4 : j = 464
      · rw [if_pos h4] at hj; cases hj; exact hr.elim
      · rw [if_neg h4] at hj; cases hj
    · rw [if_neg h465] at hj
      unfold hpM at hj
      by_cases h500 : j < 500
      · rw [if_pos h500] at hj; cases hj
      · rw [if_neg h500] at hj
        by_cases h509 : j < 509
        · rw [if_pos h509] at hj; cases hj; exact hr.elim
        · rw [if_neg h509] at hj
          by_cases e509 : j = 509
          · rw [if_pos e509] at hj
            by_cases h91 : S 91 0 = 1
            · rw [if_pos h91] at hj; cases hj; exact hr.elim
            · rw [if_neg h91] at hj; cases hj
          · rw [if_neg e509] at hj; cases hj
