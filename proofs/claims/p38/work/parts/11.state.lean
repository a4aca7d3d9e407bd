/-! the state: T, what the class's objects hold; S, what the reference's arrays hold; o, the law's row; hp, the heap of them -/
abbrev am_T : Type := Nat → Nat → Int32
/-- one place set -/
def st1 (S : am_T) (f j : Nat) (v : Int32) : am_T := fun a => if a = f then upd (S f) j v else S a
def am_q (f : Nat → Option Nat) (m t : Nat) : va_E := .inl (t, m, .inr (.inr (.inr (.inr f))))
def am_i (f : Nat → Int32) (m : Nat) : va_E := .inl (0, m, .inl f)
def tN (T : am_T) (f : Nat) : Nat := (T f 0).toNatClampNeg
def tMain (T : am_T) : List Value := [.ref 1, .ref 2, .ref 3, .int (T 0 0), .ref 4, .int (T 1 0), .ref 5, .int (T 2 0), .int (T 3 0)]
def tPerson (T : am_T) (p : Nat) : List Value := [.int (T 5 p), .int (T 6 p), .int (T 7 p), .ref (32 + p), .int (T 8 p)]
def tList (T : am_T) (l : Nat) : List Value := [.int (T 10 l), .int (T 11 l), .int (T 12 l), .int (T 13 l), .int (T 14 l), .int (T 15 l), .int (T 16 l), .int (T 17 l)]
def tMail (T : am_T) (k : Nat) : List Value := [.int (T 18 k), .int (T 19 k), .int (T 20 k), .ref (224 + (T 21 k).toNatClampNeg), .int (T 22 k), .int (T 23 k), .int (T 24 k), .int (T 25 k), .int (T 26 k), .int (T 27 k), if T 28 k = 1 then .ref (144 + k) else .null]
def tAppeal (T : am_T) (k : Nat) : List Value := [.int (T 29 k), .int (T 30 k), .int (T 31 k), .int (T 32 k)]
def tDay (T : am_T) (j : Nat) : List Value := [.int (T 33 j), .ref (304 + j), .ref (384 + j), .int (T 36 j), .int (T 37 j)]
def hpC (T : am_T) (i : Nat) : Option va_E :=
  if i < 16 then
    (if i = 0 then some (.inr (5, tMain T))
    else if i = 1 then some (am_q (fun p => if p < 16 then some (16 + p) else none) 16 2)
    else if i = 2 then some (am_i (T 4) 20)
    else if i = 3 then some (am_q (fun l => if l < tN T 0 then some (48 + l) else none) 10 3)
    else if i = 4 then some (am_q (fun k => if k < tN T 1 then some (64 + k) else none) 80 4)
    else if i = 5 then some (am_q (fun j => if j < tN T 2 then some (224 + j) else none) 80 5)
    else none)
  else if i < 32 then some (.inr (3, tPerson T (i - 16)))
  else if i < 48 then some (am_i (fun j => if j < 10 then T 9 (10 * (i - 32) + j) else 0) 10)
  else if i < 64 then (if i - 48 < tN T 0 then some (.inr (2, tList T (i - 48))) else none)
  else if i < 144 then (if i - 64 < tN T 1 then some (.inr (1, tMail T (i - 64))) else none)
  else if i < 224 then (if T 28 (i - 144) = 1 then some (.inr (0, tAppeal T (i - 144))) else none)
  else if i < 304 then (if i - 224 < tN T 2 then some (.inr (4, tDay T (i - 224))) else none)
  else if i < 384 then (if i - 304 < tN T 2 then some (am_i (fun l => if l < 10 then T 34 (10 * (i - 304) + l) else 0) 10) else none)
  else if i < 464 then (if i - 384 < tN T 2 then some (am_i (fun l => if l < 10 then T 35 (10 * (i - 384) + l) else 0) 10) else none)
  else none
theorem st1_same (S : am_T) (f j : Nat) (v : Int32) : st1 S f j v f j = v := by simp [st1, upd]
theorem st1_f {S : am_T} {f g j : Nat} {v : Int32} (h : g ≠ f) : st1 S f j v g = S g := by simp [st1, h]
theorem st1_j {S : am_T} {f j i : Nat} {v : Int32} (h : i ≠ j) : st1 S f j v f i = S f i := by simp [st1, upd, h]
theorem st1_at (S : am_T) (f j g i : Nat) (v : Int32) : st1 S f j v g i = if g = f ∧ i = j then v else S g i := by
  unfold st1
  by_cases hg : g = f
  · subst hg
    by_cases hi : i = j <;> simp [upd, hi]
  · simp [hg]
/-- the law's arrays of ints as columns: array f has wC f of them, column c of it is S (10 * f + c); how long; the one of longs is o, of 8; the last one is there if S 91 0 = 1 -/
def wC (f : Nat) : Nat := match f with
  | 0 => 8
  | 1 => 6
  | 2 => 6
  | 3 => 4
  | 7 => 3
  | _ => 1
def mL (f : Nat) : Nat := match f with
  | 0 => 32
  | 3 => 32
  | 7 => 3
  | 8 => 4
  | 9 => 4
  | _ => 60
def ct (S : am_T) (f : Nat) : Nat → Int32 := fun j => S (10 * f + j % wC f) (j / wC f)
def hpM (S : am_T) (i : Nat) : Option va_E := if i < 500 then none else if i < 509 then some (.inl (0, mL (i - 500), .inl (ct S (i - 500)))) else if i = 509 then (if S 91 0 = 1 then some (.inl (0, 4, .inl (S 90))) else none) else none
def hpO (o : Nat → Int64) (i : Nat) : Option va_E := if i = 464 then some (.inl (6, 8, .inr (.inl o))) else none
def hp (T S : am_T) (o : Nat → Int64) : am_H := fun i => if i < 464 then hpC T i else if i < 465 then hpO o i else hpM S i
theorem hp_a (T S : am_T) (o : Nat → Int64) {f : Nat} (h9 : f < 9) : hp T S o (500 + f) = some (.inl (0, mL f, .inl (ct S f))) := by
  have e : 500 + f - 500 = f := by omega
  unfold hp hpM
  rw [if_neg (by omega), if_neg (by omega), if_neg (by omega), if_pos (by omega), e]
theorem hp_t (T S : am_T) (o : Nat → Int64) (h : S 91 0 = 1) : hp T S o 509 = some (.inl (0, 4, .inl (S 90))) := by
  unfold hp hpM
  rw [if_neg (by decide), if_neg (by decide), if_neg (by decide), if_neg (by decide), if_pos rfl, if_pos h]
theorem hp_tn (T S : am_T) (o : Nat → Int64) (h : ¬ S 91 0 = 1) : hp T S o 509 = none := by
  unfold hp hpM
  rw [if_neg (by decide), if_neg (by decide), if_neg (by decide), if_neg (by decide), if_pos rfl, if_neg h]
theorem hp_big (T S : am_T) (o : Nat → Int64) {i : Nat} (h : 464 < i) : hp T S o i = hpM S i := by
  unfold hp
  rw [if_neg (by omega), if_neg (by omega)]
theorem wC_pos (f : Nat) : 0 < wC f := by unfold wC; split <;> decide
theorem wC_le (f : Nat) : wC f ≤ 8 := by unfold wC; split <;> decide
theorem ct_at (S : am_T) (f c a : Nat) (hc : c < wC f) : ct S f (wC f * a + c) = S (10 * f + c) a := by
  unfold ct
  rw [Nat.mul_add_mod, Nat.mod_eq_of_lt hc, Nat.mul_add_div (wC_pos f), Nat.div_eq_of_lt hc, Nat.add_zero]
theorem ct_set (S : am_T) (f c a : Nat) (hc : c < wC f) (v : Int32) : upd (ct S f) (wC f * a + c) v = ct (st1 S (10 * f + c) a v) f := by
  funext j
  have hj := Nat.div_add_mod j (wC f)
  unfold ct
  by_cases e : j = wC f * a + c
  · subst e
    rw [Nat.mul_add_mod, Nat.mod_eq_of_lt hc, Nat.mul_add_div (wC_pos f), Nat.div_eq_of_lt hc, Nat.add_zero]
    simp [upd, st1]
  · have h1 : upd (fun j => S (10 * f + j % wC f) (j / wC f)) (wC f * a + c) v j = S (10 * f + j % wC f) (j / wC f) := by simp [upd, e]
    rw [h1]
    unfold st1
    by_cases h2 : j % wC f = c
    · have h3 : ¬ j / wC f = a := fun h3 => e (by rw [← h3, ← h2]; exact hj.symm)
      rw [if_pos (by rw [h2])]
      simp [upd, h3, h2]
    · rw [if_neg (by omega)]
theorem ct_ne (S : am_T) (f f' c a : Nat) (hf : f ≠ f') (hc : c < wC f) (v : Int32) : ct (st1 S (10 * f + c) a v) f' = ct S f' := by
  funext j
  unfold ct st1
  have h1 := wC_le f
  have h2 := Nat.lt_of_lt_of_le (Nat.mod_lt j (wC_pos f')) (wC_le f')
  rw [if_neg (by omega)]
theorem hp_sa (T S : am_T) (o : Nat → Int64) {f c : Nat} (h9 : f < 9) (hc : c < wC f) (a : Nat) (v : Int32) : am_u (hp T S o) (500 + f) (.inl (0, mL f, .inl (upd (ct S f) (wC f * a + c) v))) = hp T (st1 S (10 * f + c) a v) o := by
  funext i
  unfold am_u
  by_cases hi : i = 500 + f
  · subst hi
    rw [if_pos rfl, hp_a T (st1 S (10 * f + c) a v) o h9, ct_set S f c a hc]
  · rw [if_neg hi]
    by_cases h1 : i < 465
    · unfold hp
      by_cases h2 : i < 464
      · rw [if_pos h2, if_pos h2]
      · rw [if_neg h2, if_neg h2, if_pos h1, if_pos h1]
    · rw [hp_big T S o (by omega), hp_big T _ o (by omega)]
      unfold hpM
      by_cases h3 : i < 500
      · rw [if_pos h3, if_pos h3]
      · rw [if_neg h3, if_neg h3]
        by_cases h4 : i < 509
        · rw [if_pos h4, if_pos h4, ct_ne S f (i - 500) c a (by omega) hc]
        · have h5 := wC_le f
          rw [if_neg h4, if_neg h4, st1_f (show 91 ≠ 10 * f + c by omega), st1_f (show 90 ≠ 10 * f + c by omega)]
theorem hp_st (T S : am_T) (o : Nat → Int64) (h : S 91 0 = 1) (a : Nat) (v : Int32) : am_u (hp T S o) 509 (.inl (0, 4, .inl (upd (S 90) a v))) = hp T (st1 S 90 a v) o := by
  funext i
  unfold am_u
  by_cases hi : i = 509
  · subst hi
    rw [if_pos rfl, hp_t T (st1 S 90 a v) o h]
    simp [st1]
  · rw [if_neg hi]
    by_cases h1 : i < 465
    · unfold hp
      by_cases h2 : i < 464
      · rw [if_pos h2, if_pos h2]
      · rw [if_neg h2, if_neg h2, if_pos h1, if_pos h1]
    · rw [hp_big T S o (by omega), hp_big T _ o (by omega)]
      unfold hpM
      by_cases h3 : i < 500
      · rw [if_pos h3, if_pos h3]
      · rw [if_neg h3, if_neg h3]
        by_cases h4 : i < 509
        · rw [if_pos h4, if_pos h4]
          have : ct (st1 S 90 a v) (i - 500) = ct S (i - 500) := by
            funext j
            unfold ct st1
            have h2 := Nat.lt_of_lt_of_le (Nat.mod_lt j (wC_pos (i - 500))) (wC_le (i - 500))
            rw [if_neg (by omega)]
          rw [this]
        · rw [if_neg h4, if_neg h4, if_neg hi, if_neg hi]
/-- the last array begins -/
def z90 (S : am_T) : am_T := fun g => if g = 90 then fun _ => 0 else if g = 91 then fun _ => 1 else S g
theorem hp_z (T S : am_T) (o : Nat → Int64) : am_u (hp T S o) 509 (.inl (0, 4, .inl (fun _ => 0))) = hp T (z90 S) o := by
  funext i
  unfold am_u
  by_cases hi : i = 509
  · subst hi
    rw [if_pos rfl, hp_t T (z90 S) o rfl]
    rfl
  · rw [if_neg hi]
    by_cases h1 : i < 465
    · unfold hp
      by_cases h2 : i < 464
      · rw [if_pos h2, if_pos h2]
      · rw [if_neg h2, if_neg h2, if_pos h1, if_pos h1]
    · rw [hp_big T S o (by omega), hp_big T _ o (by omega)]
      unfold hpM
      by_cases h3 : i < 500
      · rw [if_pos h3, if_pos h3]
      · rw [if_neg h3, if_neg h3]
        by_cases h4 : i < 509
        · rw [if_pos h4, if_pos h4]
          have : ct (z90 S) (i - 500) = ct S (i - 500) := by
            funext j
            unfold ct z90
            have h2 := Nat.lt_of_lt_of_le (Nat.mod_lt j (wC_pos (i - 500))) (wC_le (i - 500))
            rw [if_neg (by omega), if_neg (by omega)]
          rw [this]
        · rw [if_neg h4, if_neg h4, if_neg hi, if_neg hi]
theorem hp_o (T S : am_T) (o : Nat → Int64) : hp T S o 464 = some (.inl (6, 8, .inr (.inl o))) := rfl
theorem hp_so (T S : am_T) (o : Nat → Int64) (j : Nat) (v : Int64) : am_u (hp T S o) 464 (.inl (6, 8, .inr (.inl (am_updL o j v)))) = hp T S (am_updL o j v) := by
  funext i
  unfold am_u
  by_cases hi : i = 464
  · subst hi; rw [if_pos rfl]; rfl
  · rw [if_neg hi]
    unfold hp
    by_cases h1 : i < 464
    · rw [if_pos h1, if_pos h1]
    · rw [if_neg h1, if_neg h1, if_neg (by omega), if_neg (by omega)]
