/-! pure: a vote, as the turn needs it -/
section
variable {T S : am_T} {o : Nat → Int64} {n m v t c : Nat}
theorem vote_no {G : am_S} (hG : G.1.stackTraces = false) {S2 : am_T} {o2 : Nat → Int64} (h : qR T S o n m v t c) {k p : Nat} (hk : k < m) (hp16 : p < 16) (h0 : ¬ S 22 k = 3 ∨ bt (S 23 k) p = false) : ∀ u : Int32, am_XD G yX5_vote (.code yX5_vote cX5_vote 6 (some .int) :: am_G) { frames := 8, cells := 1, slots := 6, locals := 136 } (hp T S2 o2) [.ref 0, .int (nI k), .int (nI p), .int u] am_E2 := by
  intro u
  obtain ⟨a1, a2, hn4, a4, a5, hm10, -⟩ := id h.1.1
  by_cases h28 : T 28 k = 1
  · refine c_p_vote_2b hG a4 (by omega) hk hp16 h28 ?_
    by_cases h22 : S 22 k = 3
    · rw [aw_eq h.1 hk h22]
      exact h0.resolve_left (fun h9 => h9 h22)
    · have := jur_n h.1 hk h22
      rw [if_pos h28] at this
      rw [this]
      exact bt_false.mp (fun h9 => absurd (bd_0 0 p h9) (Nat.not_lt_zero p))
  · exact c_p_vote_2a hG a4 (by omega) hk hp16 h28
theorem v_cnt0 (h : qR T S o n m v t c) {k p : Nat} (hk : k < m) (hp : p < 8) (h22 : S 22 k = 3) (hw : bt (S 23 k) p = true) : bc (st1 (st1 T 30 k (T 30 k ||| (1 : Int32) <<< (nI p &&& 31))) 6 p (T 6 p + 1) 30 k) = S 24 k + 1 := by
  obtain ⟨f, g, hf, hg, e24, e25, ef, eg, b30, b31⟩ := v_num h hk h22
  have hb : bd 16 (T 30 k ||| (1 : Int32) <<< (nI p &&& 31)) := bd_or b30 (bd_bit (by omega) (by omega))
  show bc (st1 T 30 k (T 30 k ||| (1 : Int32) <<< (nI p &&& 31)) 30 k) = _
  rw [st1_same, bc_eq hb, (q_v0 h.1 h.2.1 hk hp h22 hw).2, ef, e24, nI_1]
theorem v_cnt1 (h : qR T S o n m v t c) {k p : Nat} (hk : k < m) (hp : p < 8) (h22 : S 22 k = 3) (hw : bt (S 23 k) p = true) : bc (st1 (st1 T 31 k (T 31 k ||| (1 : Int32) <<< (nI p &&& 31))) 6 p (T 6 p + 1) 31 k) = S 25 k + 1 := by
  obtain ⟨f, g, hf, hg, e24, e25, ef, eg, b30, b31⟩ := v_num h hk h22
  have hb : bd 16 (T 31 k ||| (1 : Int32) <<< (nI p &&& 31)) := bd_or b31 (bd_bit (by omega) (by omega))
  show bc (st1 T 31 k (T 31 k ||| (1 : Int32) <<< (nI p &&& 31)) 31 k) = _
  rw [st1_same, bc_eq hb, (q_v1 h.1 h.2.1 hk hp h22 hw).2, eg, e25, nI_1]
theorem two_le : ∀ f, f < 2 → ¬ nI f + 1 = 2 → ¬ (2 : Int32) ≤ nI f + 1 := by decide +kernel
theorem two_lt : ∀ f, f < 2 → ¬ (2 : Int32) ≤ nI f := by decide +kernel
theorem v_h0 (h : qR T S o n m v t c) {k p : Nat} (hk : k < m) (hp : p < 8) (h22 : S 22 k = 3) (hw : bt (S 23 k) p = true) (h2 : ¬ S 24 k + 1 = 2) : ¬ (2 : Int32) ≤ bc (st1 (st1 T 30 k (T 30 k ||| (1 : Int32) <<< (nI p &&& 31))) 6 p (T 6 p + 1) 30 k) ∧ ¬ (2 : Int32) ≤ bc (st1 (st1 T 30 k (T 30 k ||| (1 : Int32) <<< (nI p &&& 31))) 6 p (T 6 p + 1) 31 k) := by
  obtain ⟨f, g, hf, hg, e24, e25, ef, eg, b30, b31⟩ := v_num h hk h22
  rw [v_cnt0 h hk hp h22 hw]
  show _ ∧ ¬ _ ≤ bc (T 31 k)
  rw [bc_eq b31, eg, e24]
  rw [e24] at h2
  exact ⟨two_le f hf h2, two_lt g hg⟩
theorem v_h1 (h : qR T S o n m v t c) {k p : Nat} (hk : k < m) (hp : p < 8) (h22 : S 22 k = 3) (hw : bt (S 23 k) p = true) (h2 : ¬ S 25 k + 1 = 2) : ¬ (2 : Int32) ≤ bc (st1 (st1 T 31 k (T 31 k ||| (1 : Int32) <<< (nI p &&& 31))) 6 p (T 6 p + 1) 30 k) ∧ ¬ (2 : Int32) ≤ bc (st1 (st1 T 31 k (T 31 k ||| (1 : Int32) <<< (nI p &&& 31))) 6 p (T 6 p + 1) 31 k) := by
  obtain ⟨f, g, hf, hg, e24, e25, ef, eg, b30, b31⟩ := v_num h hk h22
  rw [v_cnt1 h hk hp h22 hw]
  show ¬ _ ≤ bc (T 30 k) ∧ _
  rw [bc_eq b30, ef, e25]
  rw [e25] at h2
  exact ⟨two_lt f hf, two_le g hg h2⟩
theorem v_y0 (h : qR T S o n m v t c) {k p : Nat} (hk : k < m) (hp : p < 8) (h22 : S 22 k = 3) (hw : bt (S 23 k) p = true) (h2 : S 24 k + 1 = 2) : (2 : Int32) ≤ bc (st1 (st1 T 30 k (T 30 k ||| (1 : Int32) <<< (nI p &&& 31))) 6 p (T 6 p + 1) 30 k) := by
  rw [v_cnt0 h hk hp h22 hw, h2]
  decide
theorem v_y1 (h : qR T S o n m v t c) {k p : Nat} (hk : k < m) (hp : p < 8) (h22 : S 22 k = 3) (hw : bt (S 23 k) p = true) (h2 : S 25 k + 1 = 2) : ¬ (2 : Int32) ≤ bc (st1 (st1 T 31 k (T 31 k ||| (1 : Int32) <<< (nI p &&& 31))) 6 p (T 6 p + 1) 30 k) ∧ (2 : Int32) ≤ bc (st1 (st1 T 31 k (T 31 k ||| (1 : Int32) <<< (nI p &&& 31))) 6 p (T 6 p + 1) 31 k) := by
  obtain ⟨f, g, hf, hg, e24, e25, ef, eg, b30, b31⟩ := v_num h hk h22
  rw [v_cnt1 h hk hp h22 hw, h2]
  show ¬ _ ≤ bc (T 30 k) ∧ _
  rw [bc_eq b30, ef]
  exact ⟨two_lt f hf, by decide⟩
/-- the court clears -/
theorem q_clear (h : qR T S o n m v t c) (hc : c ≤ 100) {k p s : Nat} (hk : k < m) (hp : p < 8) (h22 : S 22 k = 3) (hw : bt (S 23 k) p = true) (h10 : S 10 k = nI s) (hs8 : s < 8) : qR (tClear (st1 (st1 T 30 k (T 30 k ||| (1 : Int32) <<< (nI p &&& 31))) 6 p (T 6 p + 1)) n m v k) (itN (lcl k s) (st1 (st1 (st1 (st1 (z90 S) 23 k ((z90 S) 23 k &&& ((1 : Int32) <<< (nI p &&& 31) ^^^ (-1)))) 24 k ((z90 S) 24 k + 1)) 31 p ((z90 S) 31 p + 1)) 30 s (-10), o) m).1 (itN (lcl k s) (st1 (st1 (st1 (st1 (z90 S) 23 k ((z90 S) 23 k &&& ((1 : Int32) <<< (nI p &&& 31) ^^^ (-1)))) 24 k ((z90 S) 24 k + 1)) 31 p ((z90 S) 31 p + 1)) 30 s (-10), o) m).2 n m v t (c + 1) := by
  have hz := q_z90 h
  obtain ⟨⟨hB, hD⟩, hV⟩ := q_begin h
  obtain ⟨⟨v1, v2⟩, v3⟩ := q_v0 hz.1 hD hk hp h22 hw
  have h5 := q_5 (s := s) (w := 0) v1 v2 (by omega)
  rw [show (nI 0 - 10 : Int32) = -10 from by decide] at h5
  have hJ : qJ (st1 (st1 (st1 T 30 k (T 30 k ||| (1 : Int32) <<< (nI p &&& 31))) 6 p (T 6 p + 1)) 5 s (-10)) (st1 (st1 (st1 (st1 (z90 S) 23 k ((z90 S) 23 k &&& ((1 : Int32) <<< (nI p &&& 31) ^^^ (-1)))) 24 k ((z90 S) 24 k + 1)) 31 p ((z90 S) 31 p + 1)) 30 s (-10)) o n m v t c := ⟨h5.1, h5.2⟩
  have e19 : T 19 k = nI s := (h.1.2.2.2.2.2.2.1 k hk).2.1.trans h10
  have h13 : S 13 k = 1 := (h.1.2.2.2.2.2.2.2.1 k hk).2.2.1 h22
  obtain ⟨i1, i2, i3, i4, i5⟩ := clr_it hJ hc hk (s := s) h10 h13 m (Nat.le_refl m)
  have e9 : tClear (st1 (st1 T 30 k (T 30 k ||| (1 : Int32) <<< (nI p &&& 31))) 6 p (T 6 p + 1)) n m v k = tSettle (itN (tClr n k) (st1 (st1 (st1 T 30 k (T 30 k ||| (1 : Int32) <<< (nI p &&& 31))) 6 p (T 6 p + 1)) 5 s (-10)) m) v := by
    unfold tClear
    rw [show (st1 (st1 T 30 k (T 30 k ||| (1 : Int32) <<< (nI p &&& 31))) 6 p (T 6 p + 1)) 19 k = T 19 k from rfl, e19, nI_clamp (by omega)]
  rw [e9]
  refine q_settle i1 hc (fun q hq h9 => ?_)
  have e : ¬ q = k := fun e => by subst e; exact i4 hk h9
  rw [i5 (Or.inl rfl), i5 (Or.inr rfl)]
  have hv := h.2.2 q hq (i3 q h9)
  show cb (st1 T 30 k (T 30 k ||| (1 : Int32) <<< (nI p &&& 31)) 30 q) 16 < 2 ∧ cb (T 31 q) 16 < 2
  rw [st1_j e]
  exact hv
theorem w_sum : ∀ w, w ≤ 110 → ∃ u, u ≤ 110 ∧ (if (100 : Int32) < nI w - 10 + 5 then (100 : Int32) else nI w - 10 + 5) = nI u - 10 ∧ (if nI w - 10 ≤ (95 : Int32) then nI w - 10 + 5 else (100 : Int32)) = nI u - 10 := by
  have h : ∀ w, w < 111 → ((if (100 : Int32) < nI w - 10 + 5 then (100 : Int32) else nI w - 10 + 5) = nI (if w ≤ 105 then w + 5 else 110) - 10 ∧ (if nI w - 10 ≤ (95 : Int32) then nI w - 10 + 5 else (100 : Int32)) = nI (if w ≤ 105 then w + 5 else 110) - 10) := by decide +kernel
  intro w hw
  exact ⟨if w ≤ 105 then w + 5 else 110, by split <;> omega, (h w (by omega)).1, (h w (by omega)).2⟩
theorem st1_id9 (X : am_T) (g i : Nat) : st1 X g i (X g i) = X := by
  funext a b
  rw [st1_at]
  split
  · rename_i e; rw [e.1, e.2]
  · rfl
theorem st1_ow9 (X : am_T) (g i : Nat) (a b : Int32) : st1 (st1 X g i a) g i b = st1 X g i b := by
  funext x y
  rw [st1_at, st1_at, st1_at]
  split <;> rfl
/-- the court condemns -/
theorem q_condemn (h : qR T S o n m v t c) (hc : c ≤ 100) {k p s : Nat} (hk : k < m) (hp : p < 8) (h22 : S 22 k = 3) (hw : bt (S 23 k) p = true) (h10 : S 10 k = nI s) (hs8 : s < 8) {x : Int32} (hx : x = if S 30 s ≤ 95 then S 30 s + 5 else 100) : qR (tCond (st1 (st1 T 31 k (T 31 k ||| (1 : Int32) <<< (nI p &&& 31))) 6 p (T 6 p + 1)) k) (st1 (st1 (st1 (st1 (st1 (st1 S 23 k (S 23 k &&& ((1 : Int32) <<< (nI p &&& 31) ^^^ (-1)))) 25 k (S 25 k + 1)) 31 p (S 31 p + 1)) 22 k 1) 13 k 3) 30 s x) o n m v t (c + 1) := by
  obtain ⟨⟨v1, v2⟩, v3⟩ := q_v1 h.1 h.2.1 hk hp h22 hw
  have q9 := q_cond v1 v2 (k := k) (fun i hi e h9 => by
    have hv := h.2.2 i hi h9
    show cb (T 30 i) 16 < 2 ∧ cb (st1 T 31 k (T 31 k ||| (1 : Int32) <<< (nI p &&& 31)) 31 i) 16 < 2
    rw [st1_j e]
    exact hv) hk h22
  have eid : st1 (tClose (st1 (st1 (st1 T 31 k (T 31 k ||| (1 : Int32) <<< (nI p &&& 31))) 6 p (T 6 p + 1)) 25 k 3) k) 5 0 ((st1 (st1 T 31 k (T 31 k ||| (1 : Int32) <<< (nI p &&& 31))) 6 p (T 6 p + 1)) 5 0) = tClose (st1 (st1 (st1 T 31 k (T 31 k ||| (1 : Int32) <<< (nI p &&& 31))) 6 p (T 6 p + 1)) 25 k 3) k := by
    have := st1_id9 (tClose (st1 (st1 (st1 T 31 k (T 31 k ||| (1 : Int32) <<< (nI p &&& 31))) 6 p (T 6 p + 1)) 25 k 3) k) 5 0
    exact this
  rw [eid] at q9
  obtain ⟨⟨v4, v5⟩, v6⟩ := q9
  have e19 : T 19 k = nI s := (h.1.2.2.2.2.2.2.1 k hk).2.1.trans h10
  obtain ⟨e5, ⟨w, hw9, e30⟩, -⟩ := h.1.2.1.1 s hs8
  obtain ⟨u, hu, eu1, eu2⟩ := w_sum w hw9
  have e9 : tCond (st1 (st1 T 31 k (T 31 k ||| (1 : Int32) <<< (nI p &&& 31))) 6 p (T 6 p + 1)) k = st1 (tClose (st1 (st1 (st1 T 31 k (T 31 k ||| (1 : Int32) <<< (nI p &&& 31))) 6 p (T 6 p + 1)) 25 k 3) k) 5 s (nI u - 10) := by
    unfold tCond
    rw [show (st1 (st1 T 31 k (T 31 k ||| (1 : Int32) <<< (nI p &&& 31))) 6 p (T 6 p + 1)) 19 k = T 19 k from rfl, e19, nI_clamp (by omega), show (st1 (st1 T 31 k (T 31 k ||| (1 : Int32) <<< (nI p &&& 31))) 6 p (T 6 p + 1)) 5 s = T 5 s from rfl, e5, e30, eu1]
  rw [e9, hx, e30, eu2]
  have h5 := q_5 (s := s) (w := u) v4 v5 hu
  exact ⟨h5.1, qD_m h5.2 (Nat.le_succ c), qV_c v6 rfl rfl rfl⟩
end
/-- the juror that the law finds -/
def ljn (x w : Int32) (p : Nat) : Nat → Nat
  | 0 => p
  | i + 1 => if 0 < w then (if (x >>> (nI (ljn x w p i) &&& 31)) &&& 1 = 0 then (ljn x w p i + 1) % 8 else ljn x w p i) else ljn x w p i
theorem ljn_lt {x w : Int32} {p : Nat} (hp : p < 8) : ∀ i, ljn x w p i < 8
  | 0 => hp
  | i + 1 => by
    have ih := ljn_lt (x := x) (w := w) hp i
    unfold ljn
    split
    · split
      · omega
      · exact ih
    · exact ih
theorem ljn_n {x w : Int32} {p i : Nat} (h : ¬ 0 < w) : nI (ljn x w p (i + 1)) = nI (ljn x w p i) := congrArg nI (if_neg h)
theorem ljn_b {x w : Int32} {p i : Nat} (h : 0 < w) (h1 : ¬ (x >>> (nI (ljn x w p i) &&& 31)) &&& 1 = 0) : nI (ljn x w p (i + 1)) = nI (ljn x w p i) := congrArg nI ((if_pos h).trans (if_neg h1))
theorem ljn_y {x w : Int32} {p i : Nat} (hp : p < 8) (h : 0 < w) (h1 : (x >>> (nI (ljn x w p i) &&& 31)) &&& 1 = 0) : nI (ljn x w p i) + 1 - (nI (ljn x w p i) + 1) / 8 * 8 = nI (ljn x w p (i + 1)) := by
  have hl := ljn_lt (x := x) (w := w) hp i
  rw [show ljn x w p (i + 1) = (ljn x w p i + 1) % 8 from (if_pos h).trans (if_pos h1), nI_1]
  exact pk_rem (d := 8) (show ljn x w p i + 1 < 2 ^ 31 by omega) (by decide) (by decide)
