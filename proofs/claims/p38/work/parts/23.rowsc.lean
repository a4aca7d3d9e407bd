theorem tN_eq {T : am_T} {f n : Nat} (h : T f 0 = nI n) (hn : n < 2 ^ 31) : tN T f = n := by unfold tN; rw [h]; exact nI_clamp hn
section
variable (T S : am_T) (o : Nat → Int64)
theorem hp_main : hp T S o 0 = some (.inr (5, tMain T)) := rfl
theorem hp_words : hp T S o 2 = some (am_i (T 4) 20) := rfl
theorem hpC_hp {i : Nat} (h : i < 464) : hp T S o i = hpC T i := by unfold hp; rw [if_pos h]
theorem hp_person {p : Nat} (hp9 : p < 16) : hp T S o (16 + p) = some (.inr (3, tPerson T p)) := by
  rw [hpC_hp T S o (by omega)]; unfold hpC
  rw [if_neg (by omega), if_pos (by omega), show 16 + p - 16 = p by omega]
theorem hp_box {p : Nat} (hp9 : p < 16) : hp T S o (32 + p) = some (am_i (fun j => if j < 10 then T 9 (10 * p + j) else 0) 10) := by
  rw [hpC_hp T S o (by omega)]; unfold hpC
  rw [if_neg (by omega), if_neg (by omega), if_pos (by omega), show 32 + p - 32 = p by omega]
theorem hp_list {n l : Nat} (hn : T 0 0 = nI n) (hn10 : n ≤ 10) (hl : l < n) : hp T S o (48 + l) = some (.inr (2, tList T l)) := by
  rw [hpC_hp T S o (by omega)]; unfold hpC
  rw [if_neg (by omega), if_neg (by omega), if_neg (by omega), if_pos (by omega), show 48 + l - 48 = l by omega, tN_eq hn (by omega), if_pos hl]
theorem hp_mail {m k : Nat} (hm : T 1 0 = nI m) (hm80 : m ≤ 80) (hk : k < m) : hp T S o (64 + k) = some (.inr (1, tMail T k)) := by
  rw [hpC_hp T S o (by omega)]; unfold hpC
  rw [if_neg (by omega), if_neg (by omega), if_neg (by omega), if_neg (by omega), if_pos (by omega), show 64 + k - 64 = k by omega, tN_eq hm (by omega), if_pos hk]
theorem hp_appeal {k : Nat} (hk : k < 80) (h : T 28 k = 1) : hp T S o (144 + k) = some (.inr (0, tAppeal T k)) := by
  rw [hpC_hp T S o (by omega)]; unfold hpC
  rw [if_neg (by omega), if_neg (by omega), if_neg (by omega), if_neg (by omega), if_neg (by omega), if_pos (by omega), show 144 + k - 144 = k by omega, if_pos h]
theorem hp_day {v j : Nat} (hv : T 2 0 = nI v) (hv80 : v ≤ 80) (hj : j < v) : hp T S o (224 + j) = some (.inr (4, tDay T j)) := by
  rw [hpC_hp T S o (by omega)]; unfold hpC
  rw [if_neg (by omega), if_neg (by omega), if_neg (by omega), if_neg (by omega), if_neg (by omega), if_neg (by omega), if_pos (by omega), show 224 + j - 224 = j by omega, tN_eq hv (by omega), if_pos hj]
theorem hp_drd {v j : Nat} (hv : T 2 0 = nI v) (hv80 : v ≤ 80) (hj : j < v) : hp T S o (304 + j) = some (am_i (fun l => if l < 10 then T 34 (10 * j + l) else 0) 10) := by
  rw [hpC_hp T S o (by omega)]; unfold hpC
  rw [if_neg (by omega), if_neg (by omega), if_neg (by omega), if_neg (by omega), if_neg (by omega), if_neg (by omega), if_neg (by omega), if_pos (by omega), show 304 + j - 304 = j by omega, tN_eq hv (by omega), if_pos hj]
theorem hp_ded {v j : Nat} (hv : T 2 0 = nI v) (hv80 : v ≤ 80) (hj : j < v) : hp T S o (384 + j) = some (am_i (fun l => if l < 10 then T 35 (10 * j + l) else 0) 10) := by
  rw [hpC_hp T S o (by omega)]; unfold hpC
  rw [if_neg (by omega), if_neg (by omega), if_neg (by omega), if_neg (by omega), if_neg (by omega), if_neg (by omega), if_neg (by omega), if_neg (by omega), if_pos (by omega), show 384 + j - 384 = j by omega, tN_eq hv (by omega), if_pos hj]
end
theorem am_iu (f : Nat → Int32) (m : Nat) : am_i f m = .inl (0, m, .inl f) := rfl
theorem am_c5 {T : am_T} {p i : Nat} {x : Int32} (hi : ¬ i = 16 + p) (h : 16 ≤ i) : (some (.inr (3, tPerson T (i - 16))) : Option va_E) = some (.inr (3, tPerson (st1 T 5 p x) (i - 16))) := by
  have e : tPerson (st1 T 5 p x) (i - 16) = tPerson T (i - 16) := by
    unfold tPerson
    rw [st1_j (show i - 16 ≠ p by omega)]
    rfl
  rw [e]
theorem hp_s5 {T S : am_T} {o : Nat → Int64} {p : Nat} (hp9 : p < 16) (x : Int32) : am_u (hp T S o) (16 + p) (.inr (3, (tPerson T p).set 0 (.int x))) = hp (st1 T 5 p x) S o := by
  funext i
  unfold am_u
  by_cases hi : i = 16 + p
  · subst hi
    rw [if_pos rfl, hp_person (st1 T 5 p x) S o hp9]
    show some (Sum.inr (_, _)) = some (Sum.inr (_, tPerson (st1 T 5 p x) p))
    unfold tPerson
    rw [st1_same]
    rfl
  · rw [if_neg hi]
    have key : hpC T i = hpC (st1 T 5 p x) i := by
      unfold hpC
      exact ite_congr rfl (fun _ => rfl) (fun h0 => ite_congr rfl (fun h1 => am_c5 hi (by omega)) (fun _ => rfl))
    unfold hp
    by_cases h : i < 464
    · rw [if_pos h, if_pos h, key]
    · rw [if_neg h, if_neg h]
theorem am_c6 {T : am_T} {p i : Nat} {x : Int32} (hi : ¬ i = 16 + p) (h : 16 ≤ i) : (some (.inr (3, tPerson T (i - 16))) : Option va_E) = some (.inr (3, tPerson (st1 T 6 p x) (i - 16))) := by
  have e : tPerson (st1 T 6 p x) (i - 16) = tPerson T (i - 16) := by
    unfold tPerson
    rw [st1_j (show i - 16 ≠ p by omega)]
    rfl
  rw [e]
theorem hp_s6 {T S : am_T} {o : Nat → Int64} {p : Nat} (hp9 : p < 16) (x : Int32) : am_u (hp T S o) (16 + p) (.inr (3, (tPerson T p).set 1 (.int x))) = hp (st1 T 6 p x) S o := by
  funext i
  unfold am_u
  by_cases hi : i = 16 + p
  · subst hi
    rw [if_pos rfl, hp_person (st1 T 6 p x) S o hp9]
    show some (Sum.inr (_, _)) = some (Sum.inr (_, tPerson (st1 T 6 p x) p))
    unfold tPerson
    rw [st1_same]
    rfl
  · rw [if_neg hi]
    have key : hpC T i = hpC (st1 T 6 p x) i := by
      unfold hpC
      exact ite_congr rfl (fun _ => rfl) (fun h0 => ite_congr rfl (fun h1 => am_c6 hi (by omega)) (fun _ => rfl))
    unfold hp
    by_cases h : i < 464
    · rw [if_pos h, if_pos h, key]
    · rw [if_neg h, if_neg h]
theorem am_c7 {T : am_T} {p i : Nat} {x : Int32} (hi : ¬ i = 16 + p) (h : 16 ≤ i) : (some (.inr (3, tPerson T (i - 16))) : Option va_E) = some (.inr (3, tPerson (st1 T 7 p x) (i - 16))) := by
  have e : tPerson (st1 T 7 p x) (i - 16) = tPerson T (i - 16) := by
    unfold tPerson
    rw [st1_j (show i - 16 ≠ p by omega)]
    rfl
  rw [e]
theorem hp_s7 {T S : am_T} {o : Nat → Int64} {p : Nat} (hp9 : p < 16) (x : Int32) : am_u (hp T S o) (16 + p) (.inr (3, (tPerson T p).set 2 (.int x))) = hp (st1 T 7 p x) S o := by
  funext i
  unfold am_u
  by_cases hi : i = 16 + p
  · subst hi
    rw [if_pos rfl, hp_person (st1 T 7 p x) S o hp9]
    show some (Sum.inr (_, _)) = some (Sum.inr (_, tPerson (st1 T 7 p x) p))
    unfold tPerson
    rw [st1_same]
    rfl
  · rw [if_neg hi]
    have key : hpC T i = hpC (st1 T 7 p x) i := by
      unfold hpC
      exact ite_congr rfl (fun _ => rfl) (fun h0 => ite_congr rfl (fun h1 => am_c7 hi (by omega)) (fun _ => rfl))
    unfold hp
    by_cases h : i < 464
    · rw [if_pos h, if_pos h, key]
    · rw [if_neg h, if_neg h]
theorem am_c8 {T : am_T} {p i : Nat} {x : Int32} (hi : ¬ i = 16 + p) (h : 16 ≤ i) : (some (.inr (3, tPerson T (i - 16))) : Option va_E) = some (.inr (3, tPerson (st1 T 8 p x) (i - 16))) := by
  have e : tPerson (st1 T 8 p x) (i - 16) = tPerson T (i - 16) := by
    unfold tPerson
    rw [st1_j (show i - 16 ≠ p by omega)]
    rfl
  rw [e]
theorem hp_s8 {T S : am_T} {o : Nat → Int64} {p : Nat} (hp9 : p < 16) (x : Int32) : am_u (hp T S o) (16 + p) (.inr (3, (tPerson T p).set 4 (.int x))) = hp (st1 T 8 p x) S o := by
  funext i
  unfold am_u
  by_cases hi : i = 16 + p
  · subst hi
    rw [if_pos rfl, hp_person (st1 T 8 p x) S o hp9]
    show some (Sum.inr (_, _)) = some (Sum.inr (_, tPerson (st1 T 8 p x) p))
    unfold tPerson
    rw [st1_same]
    rfl
  · rw [if_neg hi]
    have key : hpC T i = hpC (st1 T 8 p x) i := by
      unfold hpC
      exact ite_congr rfl (fun _ => rfl) (fun h0 => ite_congr rfl (fun h1 => am_c8 hi (by omega)) (fun _ => rfl))
    unfold hp
    by_cases h : i < 464
    · rw [if_pos h, if_pos h, key]
    · rw [if_neg h, if_neg h]
theorem am_c10 {T : am_T} {p i : Nat} {x : Int32} (hi : ¬ i = 48 + p) (h : 48 ≤ i) : ((if i - 48 < tN T 0 then some (.inr (2, tList T (i - 48))) else none) : Option va_E) = (if i - 48 < tN (st1 T 10 p x) 0 then some (.inr (2, tList (st1 T 10 p x) (i - 48))) else none) := by
  have e : tList (st1 T 10 p x) (i - 48) = tList T (i - 48) := by
    unfold tList
    rw [st1_j (show i - 48 ≠ p by omega)]
    rfl
  rw [e]
  rfl
theorem hp_s10 {T S : am_T} {o : Nat → Int64} {n p : Nat} (hn : T 0 0 = nI n) (hn10 : n ≤ 10) (hl : p < n) (x : Int32) : am_u (hp T S o) (48 + p) (.inr (2, (tList T p).set 0 (.int x))) = hp (st1 T 10 p x) S o := by
  funext i
  unfold am_u
  by_cases hi : i = 48 + p
  · subst hi
    rw [if_pos rfl, hp_list (st1 T 10 p x) S o (n := n) hn hn10 hl]
    show some (Sum.inr (_, _)) = some (Sum.inr (_, tList (st1 T 10 p x) p))
    unfold tList
    rw [st1_same]
    rfl
  · rw [if_neg hi]
    have key : hpC T i = hpC (st1 T 10 p x) i := by
      unfold hpC
      exact ite_congr rfl (fun _ => rfl) (fun h0 => ite_congr rfl (fun _ => rfl) (fun h1 => ite_congr rfl (fun _ => rfl) (fun h2 => ite_congr rfl (fun h3 => am_c10 hi (by omega)) (fun _ => rfl))))
    unfold hp
    by_cases h : i < 464
    · rw [if_pos h, if_pos h, key]
    · rw [if_neg h, if_neg h]
theorem am_c11 {T : am_T} {p i : Nat} {x : Int32} (hi : ¬ i = 48 + p) (h : 48 ≤ i) : ((if i - 48 < tN T 0 then some (.inr (2, tList T (i - 48))) else none) : Option va_E) = (if i - 48 < tN (st1 T 11 p x) 0 then some (.inr (2, tList (st1 T 11 p x) (i - 48))) else none) := by
  have e : tList (st1 T 11 p x) (i - 48) = tList T (i - 48) := by
    unfold tList
    rw [st1_j (show i - 48 ≠ p by omega)]
    rfl
  rw [e]
  rfl
theorem hp_s11 {T S : am_T} {o : Nat → Int64} {n p : Nat} (hn : T 0 0 = nI n) (hn10 : n ≤ 10) (hl : p < n) (x : Int32) : am_u (hp T S o) (48 + p) (.inr (2, (tList T p).set 1 (.int x))) = hp (st1 T 11 p x) S o := by
  funext i
  unfold am_u
  by_cases hi : i = 48 + p
  · subst hi
    rw [if_pos rfl, hp_list (st1 T 11 p x) S o (n := n) hn hn10 hl]
    show some (Sum.inr (_, _)) = some (Sum.inr (_, tList (st1 T 11 p x) p))
    unfold tList
    rw [st1_same]
    rfl
  · rw [if_neg hi]
    have key : hpC T i = hpC (st1 T 11 p x) i := by
      unfold hpC
      exact ite_congr rfl (fun _ => rfl) (fun h0 => ite_congr rfl (fun _ => rfl) (fun h1 => ite_congr rfl (fun _ => rfl) (fun h2 => ite_congr rfl (fun h3 => am_c11 hi (by omega)) (fun _ => rfl))))
    unfold hp
    by_cases h : i < 464
    · rw [if_pos h, if_pos h, key]
    · rw [if_neg h, if_neg h]
theorem am_c12 {T : am_T} {p i : Nat} {x : Int32} (hi : ¬ i = 48 + p) (h : 48 ≤ i) : ((if i - 48 < tN T 0 then some (.inr (2, tList T (i - 48))) else none) : Option va_E) = (if i - 48 < tN (st1 T 12 p x) 0 then some (.inr (2, tList (st1 T 12 p x) (i - 48))) else none) := by
  have e : tList (st1 T 12 p x) (i - 48) = tList T (i - 48) := by
    unfold tList
    rw [st1_j (show i - 48 ≠ p by omega)]
    rfl
  rw [e]
  rfl
theorem hp_s12 {T S : am_T} {o : Nat → Int64} {n p : Nat} (hn : T 0 0 = nI n) (hn10 : n ≤ 10) (hl : p < n) (x : Int32) : am_u (hp T S o) (48 + p) (.inr (2, (tList T p).set 2 (.int x))) = hp (st1 T 12 p x) S o := by
  funext i
  unfold am_u
  by_cases hi : i = 48 + p
  · subst hi
    rw [if_pos rfl, hp_list (st1 T 12 p x) S o (n := n) hn hn10 hl]
    show some (Sum.inr (_, _)) = some (Sum.inr (_, tList (st1 T 12 p x) p))
    unfold tList
    rw [st1_same]
    rfl
  · rw [if_neg hi]
    have key : hpC T i = hpC (st1 T 12 p x) i := by
      unfold hpC
      exact ite_congr rfl (fun _ => rfl) (fun h0 => ite_congr rfl (fun _ => rfl) (fun h1 => ite_congr rfl (fun _ => rfl) (fun h2 => ite_congr rfl (fun h3 => am_c12 hi (by omega)) (fun _ => rfl))))
    unfold hp
    by_cases h : i < 464
    · rw [if_pos h, if_pos h, key]
    · rw [if_neg h, if_neg h]
theorem am_c13 {T : am_T} {p i : Nat} {x : Int32} (hi : ¬ i = 48 + p) (h : 48 ≤ i) : ((if i - 48 < tN T 0 then some (.inr (2, tList T (i - 48))) else none) : Option va_E) = (if i - 48 < tN (st1 T 13 p x) 0 then some (.inr (2, tList (st1 T 13 p x) (i - 48))) else none) := by
  have e : tList (st1 T 13 p x) (i - 48) = tList T (i - 48) := by
    unfold tList
    rw [st1_j (show i - 48 ≠ p by omega)]
    rfl
  rw [e]
  rfl
theorem hp_s13 {T S : am_T} {o : Nat → Int64} {n p : Nat} (hn : T 0 0 = nI n) (hn10 : n ≤ 10) (hl : p < n) (x : Int32) : am_u (hp T S o) (48 + p) (.inr (2, (tList T p).set 3 (.int x))) = hp (st1 T 13 p x) S o := by
  funext i
  unfold am_u
  by_cases hi : i = 48 + p
  · subst hi
    rw [if_pos rfl, hp_list (st1 T 13 p x) S o (n := n) hn hn10 hl]
    show some (Sum.inr (_, _)) = some (Sum.inr (_, tList (st1 T 13 p x) p))
    unfold tList
    rw [st1_same]
    rfl
  · rw [if_neg hi]
    have key : hpC T i = hpC (st1 T 13 p x) i := by
      unfold hpC
      exact ite_congr rfl (fun _ => rfl) (fun h0 => ite_congr rfl (fun _ => rfl) (fun h1 => ite_congr rfl (fun _ => rfl) (fun h2 => ite_congr rfl (fun h3 => am_c13 hi (by omega)) (fun _ => rfl))))
    unfold hp
    by_cases h : i < 464
    · rw [if_pos h, if_pos h, key]
    · rw [if_neg h, if_neg h]
theorem am_c14 {T : am_T} {p i : Nat} {x : Int32} (hi : ¬ i = 48 + p) (h : 48 ≤ i) : ((if i - 48 < tN T 0 then some (.inr (2, tList T (i - 48))) else none) : Option va_E) = (if i - 48 < tN (st1 T 14 p x) 0 then some (.inr (2, tList (st1 T 14 p x) (i - 48))) else none) := by
  have e : tList (st1 T 14 p x) (i - 48) = tList T (i - 48) := by
    unfold tList
    rw [st1_j (show i - 48 ≠ p by omega)]
    rfl
  rw [e]
  rfl
theorem hp_s14 {T S : am_T} {o : Nat → Int64} {n p : Nat} (hn : T 0 0 = nI n) (hn10 : n ≤ 10) (hl : p < n) (x : Int32) : am_u (hp T S o) (48 + p) (.inr (2, (tList T p).set 4 (.int x))) = hp (st1 T 14 p x) S o := by
  funext i
  unfold am_u
  by_cases hi : i = 48 + p
  · subst hi
    rw [if_pos rfl, hp_list (st1 T 14 p x) S o (n := n) hn hn10 hl]
    show some (Sum.inr (_, _)) = some (Sum.inr (_, tList (st1 T 14 p x) p))
    unfold tList
    rw [st1_same]
    rfl
  · rw [if_neg hi]
    have key : hpC T i = hpC (st1 T 14 p x) i := by
      unfold hpC
      exact ite_congr rfl (fun _ => rfl) (fun h0 => ite_congr rfl (fun _ => rfl) (fun h1 => ite_congr rfl (fun _ => rfl) (fun h2 => ite_congr rfl (fun h3 => am_c14 hi (by omega)) (fun _ => rfl))))
    unfold hp
    by_cases h : i < 464
    · rw [if_pos h, if_pos h, key]
    · rw [if_neg h, if_neg h]
theorem am_c15 {T : am_T} {p i : Nat} {x : Int32} (hi : ¬ i = 48 + p) (h : 48 ≤ i) : ((if i - 48 < tN T 0 then some (.inr (2, tList T (i - 48))) else none) : Option va_E) = (if i - 48 < tN (st1 T 15 p x) 0 then some (.inr (2, tList (st1 T 15 p x) (i - 48))) else none) := by
  have e : tList (st1 T 15 p x) (i - 48) = tList T (i - 48) := by
    unfold tList
    rw [st1_j (show i - 48 ≠ p by omega)]
    rfl
  rw [e]
  rfl
theorem hp_s15 {T S : am_T} {o : Nat → Int64} {n p : Nat} (hn : T 0 0 = nI n) (hn10 : n ≤ 10) (hl : p < n) (x : Int32) : am_u (hp T S o) (48 + p) (.inr (2, (tList T p).set 5 (.int x))) = hp (st1 T 15 p x) S o := by
  funext i
  unfold am_u
  by_cases hi : i = 48 + p
  · subst hi
    rw [if_pos rfl, hp_list (st1 T 15 p x) S o (n := n) hn hn10 hl]
    show some (Sum.inr (_, _)) = some (Sum.inr (_, tList (st1 T 15 p x) p))
    unfold tList
    rw [st1_same]
    rfl
  · rw [if_neg hi]
    have key : hpC T i = hpC (st1 T 15 p x) i := by
      unfold hpC
      exact ite_congr rfl (fun _ => rfl) (fun h0 => ite_congr rfl (fun _ => rfl) (fun h1 => ite_congr rfl (fun _ => rfl) (fun h2 => ite_congr rfl (fun h3 => am_c15 hi (by omega)) (fun _ => rfl))))
    unfold hp
    by_cases h : i < 464
    · rw [if_pos h, if_pos h, key]
    · rw [if_neg h, if_neg h]
theorem am_c16 {T : am_T} {p i : Nat} {x : Int32} (hi : ¬ i = 48 + p) (h : 48 ≤ i) : ((if i - 48 < tN T 0 then some (.inr (2, tList T (i - 48))) else none) : Option va_E) = (if i - 48 < tN (st1 T 16 p x) 0 then some (.inr (2, tList (st1 T 16 p x) (i - 48))) else none) := by
  have e : tList (st1 T 16 p x) (i - 48) = tList T (i - 48) := by
    unfold tList
    rw [st1_j (show i - 48 ≠ p by omega)]
    rfl
  rw [e]
  rfl
theorem hp_s16 {T S : am_T} {o : Nat → Int64} {n p : Nat} (hn : T 0 0 = nI n) (hn10 : n ≤ 10) (hl : p < n) (x : Int32) : am_u (hp T S o) (48 + p) (.inr (2, (tList T p).set 6 (.int x))) = hp (st1 T 16 p x) S o := by
  funext i
  unfold am_u
  by_cases hi : i = 48 + p
  · subst hi
    rw [if_pos rfl, hp_list (st1 T 16 p x) S o (n := n) hn hn10 hl]
    show some (Sum.inr (_, _)) = some (Sum.inr (_, tList (st1 T 16 p x) p))
    unfold tList
    rw [st1_same]
    rfl
  · rw [if_neg hi]
    have key : hpC T i = hpC (st1 T 16 p x) i := by
      unfold hpC
      exact ite_congr rfl (fun _ => rfl) (fun h0 => ite_congr rfl (fun _ => rfl) (fun h1 => ite_congr rfl (fun _ => rfl) (fun h2 => ite_congr rfl (fun h3 => am_c16 hi (by omega)) (fun _ => rfl))))
    unfold hp
    by_cases h : i < 464
    · rw [if_pos h, if_pos h, key]
    · rw [if_neg h, if_neg h]
theorem am_c17 {T : am_T} {p i : Nat} {x : Int32} (hi : ¬ i = 48 + p) (h : 48 ≤ i) : ((if i - 48 < tN T 0 then some (.inr (2, tList T (i - 48))) else none) : Option va_E) = (if i - 48 < tN (st1 T 17 p x) 0 then some (.inr (2, tList (st1 T 17 p x) (i - 48))) else none) := by
  have e : tList (st1 T 17 p x) (i - 48) = tList T (i - 48) := by
    unfold tList
    rw [st1_j (show i - 48 ≠ p by omega)]
    rfl
  rw [e]
  rfl
theorem hp_s17 {T S : am_T} {o : Nat → Int64} {n p : Nat} (hn : T 0 0 = nI n) (hn10 : n ≤ 10) (hl : p < n) (x : Int32) : am_u (hp T S o) (48 + p) (.inr (2, (tList T p).set 7 (.int x))) = hp (st1 T 17 p x) S o := by
  funext i
  unfold am_u
  by_cases hi : i = 48 + p
  · subst hi
    rw [if_pos rfl, hp_list (st1 T 17 p x) S o (n := n) hn hn10 hl]
    show some (Sum.inr (_, _)) = some (Sum.inr (_, tList (st1 T 17 p x) p))
    unfold tList
    rw [st1_same]
    rfl
  · rw [if_neg hi]
    have key : hpC T i = hpC (st1 T 17 p x) i := by
      unfold hpC
      exact ite_congr rfl (fun _ => rfl) (fun h0 => ite_congr rfl (fun _ => rfl) (fun h1 => ite_congr rfl (fun _ => rfl) (fun h2 => ite_congr rfl (fun h3 => am_c17 hi (by omega)) (fun _ => rfl))))
    unfold hp
    by_cases h : i < 464
    · rw [if_pos h, if_pos h, key]
    · rw [if_neg h, if_neg h]
theorem am_c25 {T : am_T} {p i : Nat} {x : Int32} (hi : ¬ i = 64 + p) (h : 64 ≤ i) : ((if i - 64 < tN T 1 then some (.inr (1, tMail T (i - 64))) else none) : Option va_E) = (if i - 64 < tN (st1 T 25 p x) 1 then some (.inr (1, tMail (st1 T 25 p x) (i - 64))) else none) := by
  have e : tMail (st1 T 25 p x) (i - 64) = tMail T (i - 64) := by
    unfold tMail
    rw [st1_j (show i - 64 ≠ p by omega)]
    rfl
  rw [e]
  rfl
theorem hp_s25 {T S : am_T} {o : Nat → Int64} {m p : Nat} (hm : T 1 0 = nI m) (hm80 : m ≤ 80) (hk : p < m) (x : Int32) : am_u (hp T S o) (64 + p) (.inr (1, (tMail T p).set 7 (.int x))) = hp (st1 T 25 p x) S o := by
  funext i
  unfold am_u
  by_cases hi : i = 64 + p
  · subst hi
    rw [if_pos rfl, hp_mail (st1 T 25 p x) S o (m := m) hm hm80 hk]
    show some (Sum.inr (_, _)) = some (Sum.inr (_, tMail (st1 T 25 p x) p))
    unfold tMail
    rw [st1_same]
    rfl
  · rw [if_neg hi]
    have key : hpC T i = hpC (st1 T 25 p x) i := by
      unfold hpC
      exact ite_congr rfl (fun _ => rfl) (fun h0 => ite_congr rfl (fun _ => rfl) (fun h1 => ite_congr rfl (fun _ => rfl) (fun h2 => ite_congr rfl (fun _ => rfl) (fun h3 => ite_congr rfl (fun h4 => am_c25 hi (by omega)) (fun _ => rfl)))))
    unfold hp
    by_cases h : i < 464
    · rw [if_pos h, if_pos h, key]
    · rw [if_neg h, if_neg h]
theorem am_c26 {T : am_T} {p i : Nat} {x : Int32} (hi : ¬ i = 64 + p) (h : 64 ≤ i) : ((if i - 64 < tN T 1 then some (.inr (1, tMail T (i - 64))) else none) : Option va_E) = (if i - 64 < tN (st1 T 26 p x) 1 then some (.inr (1, tMail (st1 T 26 p x) (i - 64))) else none) := by
  have e : tMail (st1 T 26 p x) (i - 64) = tMail T (i - 64) := by
    unfold tMail
    rw [st1_j (show i - 64 ≠ p by omega)]
    rfl
  rw [e]
  rfl
theorem hp_s26 {T S : am_T} {o : Nat → Int64} {m p : Nat} (hm : T 1 0 = nI m) (hm80 : m ≤ 80) (hk : p < m) (x : Int32) : am_u (hp T S o) (64 + p) (.inr (1, (tMail T p).set 8 (.int x))) = hp (st1 T 26 p x) S o := by
  funext i
  unfold am_u
  by_cases hi : i = 64 + p
  · subst hi
    rw [if_pos rfl, hp_mail (st1 T 26 p x) S o (m := m) hm hm80 hk]
    show some (Sum.inr (_, _)) = some (Sum.inr (_, tMail (st1 T 26 p x) p))
    unfold tMail
    rw [st1_same]
    rfl
  · rw [if_neg hi]
    have key : hpC T i = hpC (st1 T 26 p x) i := by
      unfold hpC
      exact ite_congr rfl (fun _ => rfl) (fun h0 => ite_congr rfl (fun _ => rfl) (fun h1 => ite_congr rfl (fun _ => rfl) (fun h2 => ite_congr rfl (fun _ => rfl) (fun h3 => ite_congr rfl (fun h4 => am_c26 hi (by omega)) (fun _ => rfl)))))
    unfold hp
    by_cases h : i < 464
    · rw [if_pos h, if_pos h, key]
    · rw [if_neg h, if_neg h]
theorem am_c27 {T : am_T} {p i : Nat} {x : Int32} (hi : ¬ i = 64 + p) (h : 64 ≤ i) : ((if i - 64 < tN T 1 then some (.inr (1, tMail T (i - 64))) else none) : Option va_E) = (if i - 64 < tN (st1 T 27 p x) 1 then some (.inr (1, tMail (st1 T 27 p x) (i - 64))) else none) := by
  have e : tMail (st1 T 27 p x) (i - 64) = tMail T (i - 64) := by
    unfold tMail
    rw [st1_j (show i - 64 ≠ p by omega)]
    rfl
  rw [e]
  rfl
theorem hp_s27 {T S : am_T} {o : Nat → Int64} {m p : Nat} (hm : T 1 0 = nI m) (hm80 : m ≤ 80) (hk : p < m) (x : Int32) : am_u (hp T S o) (64 + p) (.inr (1, (tMail T p).set 9 (.int x))) = hp (st1 T 27 p x) S o := by
  funext i
  unfold am_u
  by_cases hi : i = 64 + p
  · subst hi
    rw [if_pos rfl, hp_mail (st1 T 27 p x) S o (m := m) hm hm80 hk]
    show some (Sum.inr (_, _)) = some (Sum.inr (_, tMail (st1 T 27 p x) p))
    unfold tMail
    rw [st1_same]
    rfl
  · rw [if_neg hi]
    have key : hpC T i = hpC (st1 T 27 p x) i := by
      unfold hpC
      exact ite_congr rfl (fun _ => rfl) (fun h0 => ite_congr rfl (fun _ => rfl) (fun h1 => ite_congr rfl (fun _ => rfl) (fun h2 => ite_congr rfl (fun _ => rfl) (fun h3 => ite_congr rfl (fun h4 => am_c27 hi (by omega)) (fun _ => rfl)))))
    unfold hp
    by_cases h : i < 464
    · rw [if_pos h, if_pos h, key]
    · rw [if_neg h, if_neg h]
theorem am_c29 {T : am_T} {p i : Nat} {x : Int32} (hi : ¬ i = 144 + p) (h : 144 ≤ i) : ((if T 28 (i - 144) = 1 then some (.inr (0, tAppeal T (i - 144))) else none) : Option va_E) = (if (st1 T 29 p x) 28 (i - 144) = 1 then some (.inr (0, tAppeal (st1 T 29 p x) (i - 144))) else none) := by
  have e : tAppeal (st1 T 29 p x) (i - 144) = tAppeal T (i - 144) := by
    unfold tAppeal
    rw [st1_j (show i - 144 ≠ p by omega)]
    rfl
  rw [e]
  rfl
theorem hp_s29 {T S : am_T} {o : Nat → Int64} {p : Nat} (hk : p < 80) (h : T 28 p = 1) (x : Int32) : am_u (hp T S o) (144 + p) (.inr (0, (tAppeal T p).set 0 (.int x))) = hp (st1 T 29 p x) S o := by
  funext i
  unfold am_u
  by_cases hi : i = 144 + p
  · subst hi
    rw [if_pos rfl, hp_appeal (st1 T 29 p x) S o hk h]
    show some (Sum.inr (_, _)) = some (Sum.inr (_, tAppeal (st1 T 29 p x) p))
    unfold tAppeal
    rw [st1_same]
    rfl
  · rw [if_neg hi]
    have key : hpC T i = hpC (st1 T 29 p x) i := by
      unfold hpC
      exact ite_congr rfl (fun _ => rfl) (fun h0 => ite_congr rfl (fun _ => rfl) (fun h1 => ite_congr rfl (fun _ => rfl) (fun h2 => ite_congr rfl (fun _ => rfl) (fun h3 => ite_congr rfl (fun _ => rfl) (fun h4 => ite_congr rfl (fun h5 => am_c29 hi (by omega)) (fun _ => rfl))))))
    unfold hp
    by_cases h : i < 464
    · rw [if_pos h, if_pos h, key]
    · rw [if_neg h, if_neg h]
theorem am_c30 {T : am_T} {p i : Nat} {x : Int32} (hi : ¬ i = 144 + p) (h : 144 ≤ i) : ((if T 28 (i - 144) = 1 then some (.inr (0, tAppeal T (i - 144))) else none) : Option va_E) = (if (st1 T 30 p x) 28 (i - 144) = 1 then some (.inr (0, tAppeal (st1 T 30 p x) (i - 144))) else none) := by
  have e : tAppeal (st1 T 30 p x) (i - 144) = tAppeal T (i - 144) := by
    unfold tAppeal
    rw [st1_j (show i - 144 ≠ p by omega)]
    rfl
  rw [e]
  rfl
theorem hp_s30 {T S : am_T} {o : Nat → Int64} {p : Nat} (hk : p < 80) (h : T 28 p = 1) (x : Int32) : am_u (hp T S o) (144 + p) (.inr (0, (tAppeal T p).set 1 (.int x))) = hp (st1 T 30 p x) S o := by
  funext i
  unfold am_u
  by_cases hi : i = 144 + p
  · subst hi
    rw [if_pos rfl, hp_appeal (st1 T 30 p x) S o hk h]
    show some (Sum.inr (_, _)) = some (Sum.inr (_, tAppeal (st1 T 30 p x) p))
    unfold tAppeal
    rw [st1_same]
    rfl
  · rw [if_neg hi]
    have key : hpC T i = hpC (st1 T 30 p x) i := by
      unfold hpC
      exact ite_congr rfl (fun _ => rfl) (fun h0 => ite_congr rfl (fun _ => rfl) (fun h1 => ite_congr rfl (fun _ => rfl) (fun h2 => ite_congr rfl (fun _ => rfl) (fun h3 => ite_congr rfl (fun _ => rfl) (fun h4 => ite_congr rfl (fun h5 => am_c30 hi (by omega)) (fun _ => rfl))))))
    unfold hp
    by_cases h : i < 464
    · rw [if_pos h, if_pos h, key]
    · rw [if_neg h, if_neg h]
theorem am_c31 {T : am_T} {p i : Nat} {x : Int32} (hi : ¬ i = 144 + p) (h : 144 ≤ i) : ((if T 28 (i - 144) = 1 then some (.inr (0, tAppeal T (i - 144))) else none) : Option va_E) = (if (st1 T 31 p x) 28 (i - 144) = 1 then some (.inr (0, tAppeal (st1 T 31 p x) (i - 144))) else none) := by
  have e : tAppeal (st1 T 31 p x) (i - 144) = tAppeal T (i - 144) := by
    unfold tAppeal
    rw [st1_j (show i - 144 ≠ p by omega)]
    rfl
  rw [e]
  rfl
theorem hp_s31 {T S : am_T} {o : Nat → Int64} {p : Nat} (hk : p < 80) (h : T 28 p = 1) (x : Int32) : am_u (hp T S o) (144 + p) (.inr (0, (tAppeal T p).set 2 (.int x))) = hp (st1 T 31 p x) S o := by
  funext i
  unfold am_u
  by_cases hi : i = 144 + p
  · subst hi
    rw [if_pos rfl, hp_appeal (st1 T 31 p x) S o hk h]
    show some (Sum.inr (_, _)) = some (Sum.inr (_, tAppeal (st1 T 31 p x) p))
    unfold tAppeal
    rw [st1_same]
    rfl
  · rw [if_neg hi]
    have key : hpC T i = hpC (st1 T 31 p x) i := by
      unfold hpC
      exact ite_congr rfl (fun _ => rfl) (fun h0 => ite_congr rfl (fun _ => rfl) (fun h1 => ite_congr rfl (fun _ => rfl) (fun h2 => ite_congr rfl (fun _ => rfl) (fun h3 => ite_congr rfl (fun _ => rfl) (fun h4 => ite_congr rfl (fun h5 => am_c31 hi (by omega)) (fun _ => rfl))))))
    unfold hp
    by_cases h : i < 464
    · rw [if_pos h, if_pos h, key]
    · rw [if_neg h, if_neg h]
theorem am_c32 {T : am_T} {p i : Nat} {x : Int32} (hi : ¬ i = 144 + p) (h : 144 ≤ i) : ((if T 28 (i - 144) = 1 then some (.inr (0, tAppeal T (i - 144))) else none) : Option va_E) = (if (st1 T 32 p x) 28 (i - 144) = 1 then some (.inr (0, tAppeal (st1 T 32 p x) (i - 144))) else none) := by
  have e : tAppeal (st1 T 32 p x) (i - 144) = tAppeal T (i - 144) := by
    unfold tAppeal
    rw [st1_j (show i - 144 ≠ p by omega)]
    rfl
  rw [e]
  rfl
theorem hp_s32 {T S : am_T} {o : Nat → Int64} {p : Nat} (hk : p < 80) (h : T 28 p = 1) (x : Int32) : am_u (hp T S o) (144 + p) (.inr (0, (tAppeal T p).set 3 (.int x))) = hp (st1 T 32 p x) S o := by
  funext i
  unfold am_u
  by_cases hi : i = 144 + p
  · subst hi
    rw [if_pos rfl, hp_appeal (st1 T 32 p x) S o hk h]
    show some (Sum.inr (_, _)) = some (Sum.inr (_, tAppeal (st1 T 32 p x) p))
    unfold tAppeal
    rw [st1_same]
    rfl
  · rw [if_neg hi]
    have key : hpC T i = hpC (st1 T 32 p x) i := by
      unfold hpC
      exact ite_congr rfl (fun _ => rfl) (fun h0 => ite_congr rfl (fun _ => rfl) (fun h1 => ite_congr rfl (fun _ => rfl) (fun h2 => ite_congr rfl (fun _ => rfl) (fun h3 => ite_congr rfl (fun _ => rfl) (fun h4 => ite_congr rfl (fun h5 => am_c32 hi (by omega)) (fun _ => rfl))))))
    unfold hp
    by_cases h : i < 464
    · rw [if_pos h, if_pos h, key]
    · rw [if_neg h, if_neg h]
theorem am_c36 {T : am_T} {p i : Nat} {x : Int32} (hi : ¬ i = 224 + p) (h : 224 ≤ i) : ((if i - 224 < tN T 2 then some (.inr (4, tDay T (i - 224))) else none) : Option va_E) = (if i - 224 < tN (st1 T 36 p x) 2 then some (.inr (4, tDay (st1 T 36 p x) (i - 224))) else none) := by
  have e : tDay (st1 T 36 p x) (i - 224) = tDay T (i - 224) := by
    unfold tDay
    rw [st1_j (show i - 224 ≠ p by omega)]
    rfl
  rw [e]
  rfl
theorem hp_s36 {T S : am_T} {o : Nat → Int64} {v p : Nat} (hv : T 2 0 = nI v) (hv80 : v ≤ 80) (hj : p < v) (x : Int32) : am_u (hp T S o) (224 + p) (.inr (4, (tDay T p).set 3 (.int x))) = hp (st1 T 36 p x) S o := by
  funext i
  unfold am_u
  by_cases hi : i = 224 + p
  · subst hi
    rw [if_pos rfl, hp_day (st1 T 36 p x) S o (v := v) hv hv80 hj]
    show some (Sum.inr (_, _)) = some (Sum.inr (_, tDay (st1 T 36 p x) p))
    unfold tDay
    rw [st1_same]
    rfl
  · rw [if_neg hi]
    have key : hpC T i = hpC (st1 T 36 p x) i := by
      unfold hpC
      exact ite_congr rfl (fun _ => rfl) (fun h0 => ite_congr rfl (fun _ => rfl) (fun h1 => ite_congr rfl (fun _ => rfl) (fun h2 => ite_congr rfl (fun _ => rfl) (fun h3 => ite_congr rfl (fun _ => rfl) (fun h4 => ite_congr rfl (fun _ => rfl) (fun h5 => ite_congr rfl (fun h6 => am_c36 hi (by omega)) (fun _ => rfl)))))))
    unfold hp
    by_cases h : i < 464
    · rw [if_pos h, if_pos h, key]
    · rw [if_neg h, if_neg h]
theorem am_c37 {T : am_T} {p i : Nat} {x : Int32} (hi : ¬ i = 224 + p) (h : 224 ≤ i) : ((if i - 224 < tN T 2 then some (.inr (4, tDay T (i - 224))) else none) : Option va_E) = (if i - 224 < tN (st1 T 37 p x) 2 then some (.inr (4, tDay (st1 T 37 p x) (i - 224))) else none) := by
  have e : tDay (st1 T 37 p x) (i - 224) = tDay T (i - 224) := by
    unfold tDay
    rw [st1_j (show i - 224 ≠ p by omega)]
    rfl
  rw [e]
  rfl
theorem hp_s37 {T S : am_T} {o : Nat → Int64} {v p : Nat} (hv : T 2 0 = nI v) (hv80 : v ≤ 80) (hj : p < v) (x : Int32) : am_u (hp T S o) (224 + p) (.inr (4, (tDay T p).set 4 (.int x))) = hp (st1 T 37 p x) S o := by
  funext i
  unfold am_u
  by_cases hi : i = 224 + p
  · subst hi
    rw [if_pos rfl, hp_day (st1 T 37 p x) S o (v := v) hv hv80 hj]
    show some (Sum.inr (_, _)) = some (Sum.inr (_, tDay (st1 T 37 p x) p))
    unfold tDay
    rw [st1_same]
    rfl
  · rw [if_neg hi]
    have key : hpC T i = hpC (st1 T 37 p x) i := by
      unfold hpC
      exact ite_congr rfl (fun _ => rfl) (fun h0 => ite_congr rfl (fun _ => rfl) (fun h1 => ite_congr rfl (fun _ => rfl) (fun h2 => ite_congr rfl (fun _ => rfl) (fun h3 => ite_congr rfl (fun _ => rfl) (fun h4 => ite_congr rfl (fun _ => rfl) (fun h5 => ite_congr rfl (fun h6 => am_c37 hi (by omega)) (fun _ => rfl)))))))
    unfold hp
    by_cases h : i < 464
    · rw [if_pos h, if_pos h, key]
    · rw [if_neg h, if_neg h]
theorem hp_s3 {T S : am_T} {o : Nat → Int64} (x : Int32) : am_u (hp T S o) 0 (.inr (5, (tMain T).set 8 (.int x))) = hp (st1 T 3 0 x) S o := by
  funext i
  unfold am_u
  by_cases hi : i = 0
  · subst hi
    rw [if_pos rfl]
    rfl
  · rw [if_neg hi]
    have key : hpC T i = hpC (st1 T 3 0 x) i := by
      unfold hpC
      exact ite_congr rfl (fun _ => by rw [if_neg hi, if_neg hi]; rfl) (fun _ => rfl)
    unfold hp
    by_cases h : i < 464
    · rw [if_pos h, if_pos h, key]
    · rw [if_neg h, if_neg h]
theorem hp_s4 {T S : am_T} {o : Nat → Int64} (j : Nat) (x : Int32) : am_u (hp T S o) 2 (.inl (0, 20, .inl (upd (T 4) j x))) = hp (st1 T 4 j x) S o := by
  funext i
  unfold am_u
  by_cases hi : i = 2
  · subst hi
    rw [if_pos rfl]
    rfl
  · rw [if_neg hi]
    have key : hpC T i = hpC (st1 T 4 j x) i := by
      unfold hpC
      refine ite_congr rfl (fun _ => ?_) (fun _ => rfl)
      refine ite_congr rfl (fun _ => rfl) (fun _ => ite_congr rfl (fun _ => rfl) (fun _ => ?_))
      rw [if_neg hi, if_neg hi]
      rfl
    unfold hp
    by_cases h : i < 464
    · rw [if_pos h, if_pos h, key]
    · rw [if_neg h, if_neg h]
theorem am_c9 {T : am_T} {p i j : Nat} {x : Int32} (hj : j < 10) (hi : ¬ i = 32 + p) (h : 32 ≤ i) : (some (am_i (fun j9 => if j9 < 10 then T 9 (10 * (i - 32) + j9) else 0) 10) : Option va_E) = some (am_i (fun j9 => if j9 < 10 then (st1 T 9 (10 * p + j) x) 9 (10 * (i - 32) + j9) else 0) 10) := by
  have e : (fun j9 => if j9 < 10 then st1 T 9 (10 * p + j) x 9 (10 * (i - 32) + j9) else 0) = (fun j9 => if j9 < 10 then T 9 (10 * (i - 32) + j9) else 0) := by
    funext j9
    by_cases h9 : j9 < 10
    · rw [if_pos h9, if_pos h9, st1_j (by omega)]
    · rw [if_neg h9, if_neg h9]
  rw [e]

theorem hp_s9 {T S : am_T} {o : Nat → Int64} {p : Nat} (hp9 : p < 16) {j : Nat} (hj : j < 10) (x : Int32) : am_u (hp T S o) (32 + p) (.inl (0, 10, .inl (upd (fun l => if l < 10 then T 9 (10 * p + l) else 0) j x))) = hp (st1 T 9 (10 * p + j) x) S o := by
  funext i
  unfold am_u
  by_cases hi : i = 32 + p
  · subst hi
    rw [if_pos rfl, hp_box (st1 T 9 (10 * p + j) x) S o hp9]
    refine congrArg (fun f9 => some (am_i f9 10)) ?_
    funext l
    unfold upd
    by_cases hl : l = j
    · subst hl; rw [if_pos rfl, if_pos hj, st1_same]
    · rw [if_neg hl, st1_j (by omega)]
  · rw [if_neg hi]
    have key : hpC T i = hpC (st1 T 9 (10 * p + j) x) i := by
      unfold hpC
      exact ite_congr rfl (fun _ => rfl) (fun h0 => ite_congr rfl (fun _ => rfl) (fun h1 => ite_congr rfl (fun h2 => am_c9 hj hi (by omega)) (fun _ => rfl)))
    unfold hp
    by_cases h : i < 464
    · rw [if_pos h, if_pos h, key]
    · rw [if_neg h, if_neg h]
theorem am_c34 {T : am_T} {p i j : Nat} {x : Int32} (hj : j < 10) (hi : ¬ i = 304 + p) (h : 304 ≤ i) : ((if i - 304 < tN T 2 then some (am_i (fun l => if l < 10 then T 34 (10 * (i - 304) + l) else 0) 10) else none) : Option va_E) = (if i - 304 < tN (st1 T 34 (10 * p + j) x) 2 then some (am_i (fun l => if l < 10 then (st1 T 34 (10 * p + j) x) 34 (10 * (i - 304) + l) else 0) 10) else none) := by
  have e : (fun j9 => if j9 < 10 then st1 T 34 (10 * p + j) x 34 (10 * (i - 304) + j9) else 0) = (fun j9 => if j9 < 10 then T 34 (10 * (i - 304) + j9) else 0) := by
    funext j9
    by_cases h9 : j9 < 10
    · rw [if_pos h9, if_pos h9, st1_j (by omega)]
    · rw [if_neg h9, if_neg h9]
  rw [e]
  rfl

theorem hp_s34 {T S : am_T} {o : Nat → Int64} {v p : Nat} (hv : T 2 0 = nI v) (hv80 : v ≤ 80) (hj9 : p < v) {j : Nat} (hj : j < 10) (x : Int32) : am_u (hp T S o) (304 + p) (.inl (0, 10, .inl (upd (fun l => if l < 10 then T 34 (10 * p + l) else 0) j x))) = hp (st1 T 34 (10 * p + j) x) S o := by
  funext i
  unfold am_u
  by_cases hi : i = 304 + p
  · subst hi
    rw [if_pos rfl, hp_drd (st1 T 34 (10 * p + j) x) S o (v := v) hv hv80 hj9]
    refine congrArg (fun f9 => some (am_i f9 10)) ?_
    funext l
    unfold upd
    by_cases hl : l = j
    · subst hl; rw [if_pos rfl, if_pos hj, st1_same]
    · rw [if_neg hl, st1_j (by omega)]
  · rw [if_neg hi]
    have key : hpC T i = hpC (st1 T 34 (10 * p + j) x) i := by
      unfold hpC
      exact ite_congr rfl (fun _ => rfl) (fun h0 => ite_congr rfl (fun _ => rfl) (fun h1 => ite_congr rfl (fun _ => rfl) (fun h2 => ite_congr rfl (fun _ => rfl) (fun h3 => ite_congr rfl (fun _ => rfl) (fun h4 => ite_congr rfl (fun _ => rfl) (fun h5 => ite_congr rfl (fun _ => rfl) (fun h6 => ite_congr rfl (fun h7 => am_c34 hj hi (by omega)) (fun _ => rfl))))))))
    unfold hp
    by_cases h : i < 464
    · rw [if_pos h, if_pos h, key]
    · rw [if_neg h, if_neg h]
theorem am_c35 {T : am_T} {p i j : Nat} {x : Int32} (hj : j < 10) (hi : ¬ i = 384 + p) (h : 384 ≤ i) : ((if i - 384 < tN T 2 then some (am_i (fun l => if l < 10 then T 35 (10 * (i - 384) + l) else 0) 10) else none) : Option va_E) = (if i - 384 < tN (st1 T 35 (10 * p + j) x) 2 then some (am_i (fun l => if l < 10 then (st1 T 35 (10 * p + j) x) 35 (10 * (i - 384) + l) else 0) 10) else none) := by
  have e : (fun j9 => if j9 < 10 then st1 T 35 (10 * p + j) x 35 (10 * (i - 384) + j9) else 0) = (fun j9 => if j9 < 10 then T 35 (10 * (i - 384) + j9) else 0) := by
    funext j9
    by_cases h9 : j9 < 10
    · rw [if_pos h9, if_pos h9, st1_j (by omega)]
    · rw [if_neg h9, if_neg h9]
  rw [e]
  rfl

theorem hp_s35 {T S : am_T} {o : Nat → Int64} {v p : Nat} (hv : T 2 0 = nI v) (hv80 : v ≤ 80) (hj9 : p < v) {j : Nat} (hj : j < 10) (x : Int32) : am_u (hp T S o) (384 + p) (.inl (0, 10, .inl (upd (fun l => if l < 10 then T 35 (10 * p + l) else 0) j x))) = hp (st1 T 35 (10 * p + j) x) S o := by
  funext i
  unfold am_u
  by_cases hi : i = 384 + p
  · subst hi
    rw [if_pos rfl, hp_ded (st1 T 35 (10 * p + j) x) S o (v := v) hv hv80 hj9]
    refine congrArg (fun f9 => some (am_i f9 10)) ?_
    funext l
    unfold upd
    by_cases hl : l = j
    · subst hl; rw [if_pos rfl, if_pos hj, st1_same]
    · rw [if_neg hl, st1_j (by omega)]
  · rw [if_neg hi]
    have key : hpC T i = hpC (st1 T 35 (10 * p + j) x) i := by
      unfold hpC
      exact ite_congr rfl (fun _ => rfl) (fun h0 => ite_congr rfl (fun _ => rfl) (fun h1 => ite_congr rfl (fun _ => rfl) (fun h2 => ite_congr rfl (fun _ => rfl) (fun h3 => ite_congr rfl (fun _ => rfl) (fun h4 => ite_congr rfl (fun _ => rfl) (fun h5 => ite_congr rfl (fun _ => rfl) (fun h6 => ite_congr rfl (fun _ => rfl) (fun h7 => ite_congr rfl (fun h8 => am_c35 hj hi (by omega)) (fun _ => rfl)))))))))
    unfold hp
    by_cases h : i < 464
    · rw [if_pos h, if_pos h, key]
    · rw [if_neg h, if_neg h]
section
variable {C : am_Cx} {T S : am_T} {o : Nat → Int64} {k n9 pc : Nat} {L : List (Nat × Value)} {st : List Value} {cc : ByteArray} {nL : Nat} {own : String} {Ts : List Cond}
theorem cv_persons (hF : am_F C cc nL own Ts) (j : Nat) {x : Int32} (hx : x = nI j) (hj : j < 16) (hd : decode cc pc = .ok (.aaload, 1)) (kk : am_W C (hp T S o) k n9 (pc + 1) L (.ref (16 + j) :: st)) : am_W C (hp T S o) k n9 pc L (.int x :: .ref 1 :: st) :=
  am_aald hF (X := hp T S o) (i := 1) (f := fun p => if p < 16 then some (16 + p) else none) rfl (by decide) rfl j hx hj (by decide) (.ref (16 + j)) (by rw [if_pos hj]; rfl) hd kk
theorem cv_lists (hF : am_F C cc nL own Ts) {n : Nat} (hn : T 0 0 = nI n) (hn10 : n ≤ 10) (j : Nat) {x : Int32} (hx : x = nI j) (hj : j < n) (hd : decode cc pc = .ok (.aaload, 1)) (kk : am_W C (hp T S o) k n9 (pc + 1) L (.ref (48 + j) :: st)) : am_W C (hp T S o) k n9 pc L (.int x :: .ref 3 :: st) :=
  am_aald hF (X := hp T S o) (i := 3) (f := fun l => if l < tN T 0 then some (48 + l) else none) rfl (by decide) rfl j hx (show j < 10 by omega) (by decide) (.ref (48 + j)) (by rw [if_pos (by rw [tN_eq hn (by omega)]; exact hj)]; rfl) hd kk
theorem cv_post (hF : am_F C cc nL own Ts) {m : Nat} (hm : T 1 0 = nI m) (hm80 : m ≤ 80) (j : Nat) {x : Int32} (hx : x = nI j) (hj : j < m) (hd : decode cc pc = .ok (.aaload, 1)) (kk : am_W C (hp T S o) k n9 (pc + 1) L (.ref (64 + j) :: st)) : am_W C (hp T S o) k n9 pc L (.int x :: .ref 4 :: st) :=
  am_aald hF (X := hp T S o) (i := 4) (f := fun l => if l < tN T 1 then some (64 + l) else none) rfl (by decide) rfl j hx (show j < 80 by omega) (by decide) (.ref (64 + j)) (by rw [if_pos (by rw [tN_eq hm (by omega)]; exact hj)]; rfl) hd kk
theorem cv_days (hF : am_F C cc nL own Ts) {v : Nat} (hv : T 2 0 = nI v) (hv80 : v ≤ 80) (j : Nat) {x : Int32} (hx : x = nI j) (hj : j < v) (hd : decode cc pc = .ok (.aaload, 1)) (kk : am_W C (hp T S o) k n9 (pc + 1) L (.ref (224 + j) :: st)) : am_W C (hp T S o) k n9 pc L (.int x :: .ref 5 :: st) :=
  am_aald hF (X := hp T S o) (i := 5) (f := fun l => if l < tN T 2 then some (224 + l) else none) rfl (by decide) rfl j hx (show j < 80 by omega) (by decide) (.ref (224 + j)) (by rw [if_pos (by rw [tN_eq hv (by omega)]; exact hj)]; rfl) hd kk
end
