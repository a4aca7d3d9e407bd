/-! the law's same: in the relation, it answers 1 -/
def lsz (S : am_T) (a k : Nat) (x : Int32) : Int32 := if (S 60 a >>> (nI k &&& 31)) &&& 1 = 0 then x else x + 1
section
variable {T S : am_T} {o : Nat → Int64} {n m v t c : Nat}
theorem lap_y (h : qB T S o n m v t c) {k : Nat} (hk : k < m) (h1 : S 13 k = 1) (h2 : S 22 k = 0) : (if T 25 k = 1 ∧ ¬ T 28 k = 1 then T 24 k else -1) = S 21 k := by
  obtain ⟨-, -, -, -, -, -, -, -, -, e24, -, e25, -⟩ := h.2.2.2.2.2.2.1 k hk
  obtain ⟨b1, -⟩ := h.2.2.2.2.2.2.2.1 k hk
  rw [if_pos ⟨by rw [e25]; exact h1, fun h9 => b1.mp h9 h2⟩]
  exact e24
theorem lap_n (h : qB T S o n m v t c) {k : Nat} (hk : k < m) (h1 : ¬ (S 13 k = 1 ∧ S 22 k = 0)) : (if T 25 k = 1 ∧ ¬ T 28 k = 1 then T 24 k else -1) = -1 := by
  obtain ⟨-, -, -, -, -, -, -, -, -, e24, -, e25, -⟩ := h.2.2.2.2.2.2.1 k hk
  obtain ⟨b1, -⟩ := h.2.2.2.2.2.2.2.1 k hk
  refine if_neg (fun h9 => h1 ⟨by rw [← e25]; exact h9.1, ?_⟩)
  exact Decidable.not_not.mp (fun h8 => h9.2 (b1.mpr h8))
theorem jur_y (h : qB T S o n m v t c) {k : Nat} (hk : k < m) (h1 : S 22 k = 3) : (if T 28 k = 1 then tAw T k else 0) = S 23 k := by
  obtain ⟨b1, b2, b3, b4, b5, b6⟩ := h.2.2.2.2.2.2.2.1 k hk
  have h28 : T 28 k = 1 := b1.mpr (by rw [h1]; decide)
  obtain ⟨c1, c2, -⟩ := b6 h28
  rw [if_pos h28]
  unfold tAw
  rw [if_neg (fun h9 => by have := c1.mp h9; rw [h1] at this; exact absurd this (by decide))]
  exact c2.symm
theorem jur_n (h : qB T S o n m v t c) {k : Nat} (hk : k < m) (h1 : ¬ S 22 k = 3) : (if T 28 k = 1 then tAw T k else 0) = 0 := by
  obtain ⟨b1, b2, b3, b4, b5, b6⟩ := h.2.2.2.2.2.2.2.1 k hk
  by_cases h28 : T 28 k = 1
  · rw [if_pos h28]
    unfold tAw
    obtain ⟨c1, -⟩ := b6 h28
    rw [if_pos (c1.mpr ((b2.resolve_left (b1.mp h28)).resolve_right h1))]
  · exact if_neg h28
theorem mailAt_eq (h : qB T S o n m v t c) {p b i : Nat} (hp : p < 8) (hb : S 33 p = nI b) (hb10 : b ≤ 10) (hi : i < b) : T 9 (10 * p + i) = (o p >>> ((4 * nI i).toInt64 &&& 63) &&& 15).toInt32 := by
  obtain ⟨-, -, -, -, -, -, -, b9, hb9, w33, X, x1, x2, x3⟩ := h.2.1.1 p hp
  have eb : b9 = b := (nI_eq (by omega) (by omega)).mp (w33.symm.trans hb)
  subst eb
  rw [(x3 i hi).2, x2, k_shr (k_lt40 x1 hb9) (by omega), k_low]
theorem day_of (h : qR T S o n m v t c) {k d l : Nat} (hk : k < m) (hd : d < 15) : (T 33 (T 21 k).toNatClampNeg = nI d ∧ bt (T 27 k) l = true) ↔ (S 12 k = nI d ∧ bt (T 27 k) l = true) := by
  obtain ⟨-, -, -, -, -, ⟨j, hj, e21, e33⟩, -⟩ := h.1.2.2.2.2.2.2.1 k hk
  have hv := h.1.1.2.2.2.2.2.2.2.1
  have hm := h.1.1.2.2.2.2.2.1
  rw [e21, nI_clamp (by omega), e33]
theorem q_bit (h : qR T S o n m v t c) {k l d : Nat} (hk : k < 10) (hl : l < n) (hd : d ≤ t) : (¬ (S 60 (15 * l + d) >>> (nI k &&& 31)) &&& 1 = 0) ↔ (k < m ∧ T 33 (T 21 k).toNatClampNeg = nI d ∧ bt (T 27 k) l = true) := by
  have hn4 := h.1.1.2.2.1
  have ht := h.1.1.2.2.2.2.2.2.2.2.2.2.1
  obtain ⟨-, g⟩ := h.2.1.2.2.2 l d (by omega) (by omega)
  rw [bt_iff0 (by omega), Bool.not_eq_false, g k hk]
  constructor
  · rintro ⟨a, b, c9⟩
    exact ⟨a, (day_of h a (by omega)).mpr ⟨b, c9⟩⟩
  · rintro ⟨a, b⟩
    exact ⟨a, (day_of h a (by omega)).mp b⟩
theorem sz_eq (h : qR T S o n m v t c) {l d : Nat} (hl : l < n) (hd : d ≤ t) : ∀ i, i ≤ m → itN (lsz S (15 * l + d)) 0 i = itN (tsz T l (nI d)) 0 i
  | 0, _ => rfl
  | i + 1, hi => by
    have hm := h.1.1.2.2.2.2.2.1
    have ih := sz_eq h hl hd i (by omega)
    show lsz S (15 * l + d) i (itN (lsz S (15 * l + d)) 0 i) = tsz T l (nI d) i (itN (tsz T l (nI d)) 0 i)
    rw [ih]
    unfold lsz tsz
    have hb := q_bit h (k := i) (by omega) hl hd
    by_cases h9 : (S 60 (15 * l + d) >>> (nI i &&& 31)) &&& 1 = 0
    · rw [if_pos h9, if_neg (fun h8 => hb.mpr ⟨by omega, h8⟩ h9)]
    · rw [if_neg h9, if_pos (hb.mp h9).2]
theorem sz_10 (h : qR T S o n m v t c) {l d : Nat} (hl : l < n) (hd : d ≤ t) : itN (lsz S (15 * l + d)) 0 10 = itN (tsz T l (nI d)) 0 m := by
  rw [← sz_eq h hl hd m (Nat.le_refl m)]
  refine itN_id h.1.1.2.2.2.2.2.1 (fun k h1 h2 x => ?_)
  unfold lsz
  refine if_pos (Decidable.not_not.mp (fun h9 => ?_))
  have := ((q_bit h h2 hl hd).mp h9).1
  omega
def nsz (T : am_T) (l : Nat) (x : Int32) : Nat → Nat
  | 0 => 0
  | k + 1 => if T 33 (T 21 k).toNatClampNeg = x ∧ bt (T 27 k) l = true then nsz T l x k + 1 else nsz T l x k
theorem nsz_le (T : am_T) (l : Nat) (x : Int32) : ∀ k, nsz T l x k ≤ k
  | 0 => Nat.le_refl 0
  | k + 1 => by
    have := nsz_le T l x k
    unfold nsz
    split <;> omega
theorem nsz_eq (T : am_T) (l : Nat) (x : Int32) : ∀ k, itN (tsz T l x) 0 k = nI (nsz T l x k)
  | 0 => rfl
  | k + 1 => by
    show tsz T l x k (itN (tsz T l x) 0 k) = _
    rw [nsz_eq T l x k]
    unfold tsz
    show _ = nI (if _ then _ else _)
    split
    · rw [nI_1]
    · rfl
theorem nsz_mono (T : am_T) (l : Nat) (x : Int32) {i : Nat} : ∀ {k}, i ≤ k → nsz T l x i ≤ nsz T l x k
  | 0, h => by rw [show i = 0 by omega]; exact Nat.le_refl _
  | k + 1, h => by
    by_cases e : i = k + 1
    · rw [e]; exact Nat.le_refl _
    · have := nsz_mono T l x (i := i) (k := k) (by omega)
      have e9 : nsz T l x (k + 1) = if T 33 (T 21 k).toNatClampNeg = x ∧ bt (T 27 k) l = true then nsz T l x k + 1 else nsz T l x k := rfl
      rw [e9]
      split <;> omega
theorem nsz_lt (T : am_T) (l : Nat) (x : Int32) {i k : Nat} (hi : T 33 (T 21 i).toNatClampNeg = x ∧ bt (T 27 i) l = true) (h : i < k) : nsz T l x i < nsz T l x k := by
  have h1 : nsz T l x (i + 1) = nsz T l x i + 1 := if_pos hi
  have := nsz_mono T l x (i := i + 1) (k := k) h
  omega
theorem hday (h : qB T S o n m v t c) : ∀ k, k < m → (T 21 k).toNatClampNeg < v := fun k hk => ((qB_safe h).2.2.2.2.2.2.2 k hk).1
theorem day_first (h : qR T S o n m v t c) {j d : Nat} (hj : j < v) (hx : T 33 j = nI d) : ∀ i, i < j → ¬ T 33 i = nI d := fun i hi e => by
  have := h.2.1.2.1 i j (by omega) hj (by rw [e, hx])
  omega
theorem ed_all {G : am_S} (h : qR T S o n m v t c) (hc : c ≤ 100) {l d : Nat} (hl : l < n) (hd : d ≤ t) : ∃ r : Int32, am_D G yX5_edition (.code yX5_edition cX5_edition 4 (some .int) :: am_G) { frames := 1, cells := 0, slots := 0, locals := 22 } (hp T S o) [.ref 0, .int (nI l), .int (nI d)] (hp T S o) (some (.int r)) ∧ (S 40 (15 * l + d) &&& 1 = 0 → r = -1) ∧ (¬ S 40 (15 * l + d) &&& 1 = 0 → r = S 40 (15 * l + d) >>> ((1 : Int32) &&& 31)) := by
  obtain ⟨a1, a2, hn4, a4, a5, hm10, a7, hvm, a9, a10, ht14, a12⟩ := id h.1.1
  by_cases hj : ∃ j, j < v ∧ T 33 j = nI d
  · obtain ⟨j, hj, hx⟩ := hj
    refine ⟨_, c_p_edition_y a1 (by omega) a4 (by omega) a7 (by omega) (hday h.1) a9 (by omega) hl hd hj hx (day_first h hj hx), ?_, ?_⟩
    · intro h9
      obtain ⟨d2, hd2, g33, -, g⟩ := h.2.1.1 j hj
      have ed : d2 = d := (nI_eq (by omega) (by omega)).mp (g33.symm.trans hx)
      subst ed
      obtain ⟨r34, ⟨e, he, r35, r40, re0, ret⟩, r36, r36b⟩ := g l (by omega)
      have hlate : ¬ bt (T 36 j) l = true := fun e9 => r36.mp e9
      rw [if_neg hlate] at r40
      have hh : (if S 50 (15 * l + d2) = 0 then 0 else 1) ≤ 1 := by split <;> omega
      rw [r40, k_and1 hh (by omega)] at h9
      refine if_pos ?_
      rw [r34]
      by_cases h8 : S 50 (15 * l + d2) = 0
      · exact h8
      · rw [if_neg h8] at h9; exact absurd h9 (by decide)
    · intro h9
      obtain ⟨d2, hd2, g33, -, g⟩ := h.2.1.1 j hj
      have ed : d2 = d := (nI_eq (by omega) (by omega)).mp (g33.symm.trans hx)
      subst ed
      obtain ⟨r34, ⟨e, he, r35, r40, re0, ret⟩, r36, r36b⟩ := g l (by omega)
      have hlate : ¬ bt (T 36 j) l = true := fun e9 => r36.mp e9
      rw [if_neg hlate] at r40
      have hh : (if S 50 (15 * l + d2) = 0 then 0 else 1) ≤ 1 := by split <;> omega
      rw [r40, k_and1 hh (by omega)] at h9
      rw [r40, k_shr2 hh (by omega)]
      have h8 : ¬ S 50 (15 * l + d2) = 0 := fun h8 => by rw [if_pos h8] at h9; exact h9 rfl
      rw [if_neg (by rw [r34]; exact h8), r35]
      rfl
  · refine ⟨_, c_p_edition_n a1 (by omega) a4 (by omega) a7 (by omega) (hday h.1) a9 (by omega) hl hd (fun i hi e => hj ⟨i, hi, e⟩), fun _ => rfl, fun h9 => ?_⟩
    obtain ⟨-, g⟩ := h.2.1.2.2.1 l d (by omega) (by omega) (fun i hi e => hj ⟨i, hi, e⟩)
    rw [g] at h9
    exact absurd (by decide) h9
theorem rd_all {G : am_S} (h : qR T S o n m v t c) {l d : Nat} (hl : l < n) (hd : d ≤ t) : am_D G yX5_readers (.code yX5_readers cX5_readers 4 (some .int) :: am_G) { frames := 1, cells := 0, slots := 0, locals := 22 } (hp T S o) [.ref 0, .int (nI l), .int (nI d)] (hp T S o) (some (.int (S 50 (15 * l + d)))) := by
  obtain ⟨a1, a2, hn4, a4, a5, hm10, a7, hvm, a9, a10, ht14, a12⟩ := id h.1.1
  by_cases hj : ∃ j, j < v ∧ T 33 j = nI d
  · obtain ⟨j, hj, hx⟩ := hj
    have h9 := c_p_readers_y (G := G) (T := T) (S := S) (o := o) a1 (by omega) a4 (by omega) a7 (by omega) (hday h.1) a9 (by omega) hl hd hj hx (day_first h hj hx)
    obtain ⟨d2, hd2, g33, -, g⟩ := h.2.1.1 j hj
    have ed : d2 = d := (nI_eq (by omega) (by omega)).mp (g33.symm.trans hx)
    subst ed
    rw [(g l (by omega)).1] at h9
    exact h9
  · have h9 := c_p_readers_n (G := G) (T := T) (S := S) (o := o) a1 (by omega) a4 (by omega) a7 (by omega) (hday h.1) a9 (by omega) hl hd (fun i hi e => hj ⟨i, hi, e⟩)
    obtain ⟨g, -⟩ := h.2.1.2.2.1 l d (by omega) (by omega) (fun i hi e => hj ⟨i, hi, e⟩)
    rw [g]
    exact h9
end
theorem dL_same_11 : decode cL_same 11 = .ok (.iaload, 1) := by decide +kernel
theorem dL_same_111 : decode cL_same 111 = .ok (.invokevirtual 70, 3) := by decide +kernel
theorem dL_same_12 : decode cL_same 12 = .ok (.if_icmp .ge 41, 3) := by decide +kernel
theorem dL_same_122 : decode cL_same 122 = .ok (.iaload, 1) := by decide +kernel
theorem dL_same_123 : decode cL_same 123 = .ok (.if_icmp .ne 129, 3) := by decide +kernel
theorem dL_same_129 : decode cL_same 129 = .ok (.invokevirtual 73, 3) := by decide +kernel
theorem dL_same_140 : decode cL_same 140 = .ok (.iaload, 1) := by decide +kernel
theorem dL_same_141 : decode cL_same 141 = .ok (.if_icmp .ne 111, 3) := by decide +kernel
theorem dL_same_147 : decode cL_same 147 = .ok (.invokevirtual 76, 3) := by decide +kernel
theorem dL_same_158 : decode cL_same 158 = .ok (.iaload, 1) := by decide +kernel
theorem dL_same_159 : decode cL_same 159 = .ok (.if_icmp .ne 93, 3) := by decide +kernel
theorem dL_same_165 : decode cL_same 165 = .ok (.invokevirtual 79, 3) := by decide +kernel
theorem dL_same_174 : decode cL_same 174 = .ok (.iaload, 1) := by decide +kernel
theorem dL_same_175 : decode cL_same 175 = .ok (.if_icmp .ne 77, 3) := by decide +kernel
theorem dL_same_18 : decode cL_same 18 = .ok (.invokevirtual 64, 3) := by decide +kernel
theorem dL_same_181 : decode cL_same 181 = .ok (.invokevirtual 82, 3) := by decide +kernel
theorem dL_same_192 : decode cL_same 192 = .ok (.iaload, 1) := by decide +kernel
theorem dL_same_194 : decode cL_same 194 = .ok (.if_icmp .ne 27, 3) := by decide +kernel
theorem dL_same_205 : decode cL_same 205 = .ok (.iaload, 1) := by decide +kernel
theorem dL_same_206 : decode cL_same 206 = .ok (.ifCond .ne 15, 3) := by decide +kernel
theorem dL_same_217 : decode cL_same 217 = .ok (.iaload, 1) := by decide +kernel
theorem dL_same_222 : decode cL_same 222 = .ok (.if_icmp .ne 30, 3) := by decide +kernel
theorem dL_same_228 : decode cL_same 228 = .ok (.invokevirtual 85, 3) := by decide +kernel
theorem dL_same_233 : decode cL_same 233 = .ok (.ifCond .eq 15, 3) := by decide +kernel
theorem dL_same_24 : decode cL_same 24 = .ok (.invokestatic 16, 3) := by decide +kernel
theorem dL_same_244 : decode cL_same 244 = .ok (.iaload, 1) := by decide +kernel
theorem dL_same_249 : decode cL_same 249 = .ok (.if_icmp .eq 5, 3) := by decide +kernel
theorem dL_same_267 : decode cL_same 267 = .ok (.if_icmp .ge 181, 3) := by decide +kernel
theorem dL_same_27 : decode cL_same 27 = .ok (.if_icmp .ne 18, 3) := by decide +kernel
theorem dL_same_273 : decode cL_same 273 = .ok (.invokevirtual 88, 3) := by decide +kernel
theorem dL_same_282 : decode cL_same 282 = .ok (.iaload, 1) := by decide +kernel
theorem dL_same_283 : decode cL_same 283 = .ok (.if_icmp .ne 57, 3) := by decide +kernel
theorem dL_same_289 : decode cL_same 289 = .ok (.invokevirtual 91, 3) := by decide +kernel
theorem dL_same_300 : decode cL_same 300 = .ok (.iaload, 1) := by decide +kernel
theorem dL_same_301 : decode cL_same 301 = .ok (.if_icmp .ne 39, 3) := by decide +kernel
theorem dL_same_307 : decode cL_same 307 = .ok (.invokevirtual 94, 3) := by decide +kernel
theorem dL_same_318 : decode cL_same 318 = .ok (.iaload, 1) := by decide +kernel
theorem dL_same_319 : decode cL_same 319 = .ok (.if_icmp .ne 21, 3) := by decide +kernel
theorem dL_same_325 : decode cL_same 325 = .ok (.invokevirtual 97, 3) := by decide +kernel
theorem dL_same_33 : decode cL_same 33 = .ok (.invokevirtual 67, 3) := by decide +kernel
theorem dL_same_336 : decode cL_same 336 = .ok (.iaload, 1) := by decide +kernel
theorem dL_same_337 : decode cL_same 337 = .ok (.if_icmp .eq 5, 3) := by decide +kernel
theorem dL_same_355 : decode cL_same 355 = .ok (.iaload, 1) := by decide +kernel
theorem dL_same_356 : decode cL_same 356 = .ok (.if_icmp .ge 37, 3) := by decide +kernel
theorem dL_same_364 : decode cL_same 364 = .ok (.invokevirtual 100, 3) := by decide +kernel
theorem dL_same_371 : decode cL_same 371 = .ok (.laload, 1) := by decide +kernel
theorem dL_same_377 : decode cL_same 377 = .ok (.ldc2_w 103, 3) := by decide +kernel
theorem dL_same_382 : decode cL_same 382 = .ok (.if_icmp .eq 5, 3) := by decide +kernel
theorem dL_same_39 : decode cL_same 39 = .ok (.invokestatic 16, 3) := by decide +kernel
theorem dL_same_396 : decode cL_same 396 = .ok (.iaload, 1) := by decide +kernel
theorem dL_same_397 : decode cL_same 397 = .ok (.ifCond .le 45, 3) := by decide +kernel
theorem dL_same_405 : decode cL_same 405 = .ok (.invokestatic 19, 3) := by decide +kernel
theorem dL_same_415 : decode cL_same 415 = .ok (.invokevirtual 105, 3) := by decide +kernel
theorem dL_same_42 : decode cL_same 42 = .ok (.if_icmp .eq 5, 3) := by decide +kernel
theorem dL_same_420 : decode cL_same 420 = .ok (.ifCond .ge 7, 3) := by decide +kernel
theorem dL_same_429 : decode cL_same 429 = .ok (.ifCond .ne 7, 3) := by decide +kernel
theorem dL_same_437 : decode cL_same 437 = .ok (.if_icmp .eq 5, 3) := by decide +kernel
theorem dL_same_451 : decode cL_same 451 = .ok (.iaload, 1) := by decide +kernel
theorem dL_same_452 : decode cL_same 452 = .ok (.ifCond .le 131, 3) := by decide +kernel
theorem dL_same_475 : decode cL_same 475 = .ok (.if_icmp .ge 45, 3) := by decide +kernel
theorem dL_same_482 : decode cL_same 482 = .ok (.iaload, 1) := by decide +kernel
theorem dL_same_488 : decode cL_same 488 = .ok (.ifCond .ne 6, 3) := by decide +kernel
theorem dL_same_501 : decode cL_same 501 = .ok (.invokevirtual 108, 3) := by decide +kernel
theorem dL_same_506 : decode cL_same 506 = .ok (.if_icmp .eq 5, 3) := by decide +kernel
theorem dL_same_525 : decode cL_same 525 = .ok (.invokevirtual 111, 3) := by decide +kernel
theorem dL_same_530 : decode cL_same 530 = .ok (.if_icmp .ne 51, 3) := by decide +kernel
theorem dL_same_538 : decode cL_same 538 = .ok (.invokevirtual 114, 3) := by decide +kernel
theorem dL_same_545 : decode cL_same 545 = .ok (.iaload, 1) := by decide +kernel
theorem dL_same_548 : decode cL_same 548 = .ok (.ifCond .ne 7, 3) := by decide +kernel
theorem dL_same_559 : decode cL_same 559 = .ok (.iaload, 1) := by decide +kernel
theorem dL_same_562 : decode cL_same 562 = .ok (.if_icmp .ne 19, 3) := by decide +kernel
theorem dL_same_570 : decode cL_same 570 = .ok (.invokevirtual 117, 3) := by decide +kernel
theorem dL_same_577 : decode cL_same 577 = .ok (.iaload, 1) := by decide +kernel
theorem dL_same_578 : decode cL_same 578 = .ok (.if_icmp .eq 5, 3) := by decide +kernel
theorem dL_same_584 : decode cL_same 584 = .ok (.invokevirtual 120, 3) := by decide +kernel
theorem dL_same_589 : decode cL_same 589 = .ok (.if_icmp .ne 18, 3) := by decide +kernel
theorem dL_same_593 : decode cL_same 593 = .ok (.invokevirtual 124, 3) := by decide +kernel
theorem dL_same_599 : decode cL_same 599 = .ok (.iaload, 1) := by decide +kernel
theorem dL_same_600 : decode cL_same 600 = .ok (.if_icmp .ne 7, 3) := by decide +kernel
theorem dL_same_608 : decode cL_same 608 = .ok (.ireturn, 1) := by decide +kernel
theorem dL_same_61 : decode cL_same 61 = .ok (.iaload, 1) := by decide +kernel
theorem dL_same_62 : decode cL_same 62 = .ok (.if_icmp .ge 198, 3) := by decide +kernel
theorem dL_same_73 : decode cL_same 73 = .ok (.iaload, 1) := by decide +kernel
theorem dL_same_75 : decode cL_same 75 = .ok (.if_icmp .ne 7, 3) := by decide +kernel
theorem dL_same_95 : decode cL_same 95 = .ok (.iaload, 1) := by decide +kernel
theorem dL_same_97 : decode cL_same 97 = .ok (.if_icmp .ne 7, 3) := by decide +kernel
def sgL_same_0_aa93a : List Instr := [.iconst 0, .istore 12, .iconst 0, .istore 13]
theorem sgL_same_0_aa93ad : am_dec cL_same 0 sgL_same_0_aa93a = true := by decide +kernel
def sgL_same_100_6f86b : List Instr := [.iconst 1, .goto 4, .iadd]
theorem sgL_same_100_6f86bd : am_dec cL_same 100 sgL_same_100_6f86b = true := by decide +kernel
def sgL_same_104_44594 : List Instr := [.iconst 0, .iadd]
theorem sgL_same_104_44594d : am_dec cL_same 104 sgL_same_104_44594 = true := by decide +kernel
def sgL_same_106_80092 : List Instr := [.istore 12, .aload_n 0, .iload 13]
theorem sgL_same_106_80092d : am_dec cL_same 106 sgL_same_106_80092 = true := by decide +kernel
def sgL_same_114_9e95a : List Instr := [.aload_n 2, .bipush 6, .iload 13, .imul, .iconst 3, .iadd]
theorem sgL_same_114_9e95ad : am_dec cL_same 114 sgL_same_114_9e95a = true := by decide +kernel
def sgL_same_126_2d860 : List Instr := [.aload_n 0, .iload 13]
theorem sgL_same_126_2d860d : am_dec cL_same 126 sgL_same_126_2d860 = true := by decide +kernel
def sgL_same_132_03568 : List Instr := [.aload_n 2, .bipush 6, .iload 13, .imul, .iconst 4, .iadd]
theorem sgL_same_132_03568d : am_dec cL_same 132 sgL_same_132_03568 = true := by decide +kernel
def sgL_same_144_2d860 : List Instr := [.aload_n 0, .iload 13]
theorem sgL_same_144_2d860d : am_dec cL_same 144 sgL_same_144_2d860 = true := by decide +kernel
def sgL_same_150_2be06 : List Instr := [.aload_n 2, .bipush 6, .iload 13, .imul, .iconst 5, .iadd]
theorem sgL_same_150_2be06d : am_dec cL_same 150 sgL_same_150_2be06 = true := by decide +kernel
def sgL_same_15_2d860 : List Instr := [.aload_n 0, .iload 13]
theorem sgL_same_15_2d860d : am_dec cL_same 15 sgL_same_15_2d860 = true := by decide +kernel
def sgL_same_162_2d860 : List Instr := [.aload_n 0, .iload 13]
theorem sgL_same_162_2d860d : am_dec cL_same 162 sgL_same_162_2d860 = true := by decide +kernel
def sgL_same_168_54758 : List Instr := [.aload_n 3, .bipush 6, .iload 13, .imul]
theorem sgL_same_168_54758d : am_dec cL_same 168 sgL_same_168_54758 = true := by decide +kernel
def sgL_same_178_2d860 : List Instr := [.aload_n 0, .iload 13]
theorem sgL_same_178_2d860d : am_dec cL_same 178 sgL_same_178_2d860 = true := by decide +kernel
def sgL_same_184_9e95a : List Instr := [.aload_n 2, .bipush 6, .iload 13, .imul, .iconst 3, .iadd]
theorem sgL_same_184_9e95ad : am_dec cL_same 184 sgL_same_184_9e95a = true := by decide +kernel
def sgL_same_193_4de0a : List Instr := [.iconst 1]
theorem sgL_same_193_4de0ad : am_dec cL_same 193 sgL_same_193_4de0a = true := by decide +kernel
def sgL_same_197_dc750 : List Instr := [.aload_n 3, .bipush 6, .iload 13, .imul, .iconst 2, .iadd]
theorem sgL_same_197_dc750d : am_dec cL_same 197 sgL_same_197_dc750 = true := by decide +kernel
def sgL_same_209_fa7ee : List Instr := [.aload_n 3, .bipush 6, .iload 13, .imul, .iconst 1, .iadd]
theorem sgL_same_209_fa7eed : am_dec cL_same 209 sgL_same_209_fa7ee = true := by decide +kernel
def sgL_same_218_c4397 : List Instr := [.goto 4]
theorem sgL_same_218_c4397d : am_dec cL_same 218 sgL_same_218_c4397 = true := by decide +kernel
def sgL_same_21_2afee : List Instr := [.aload_n 1, .iload 13]
theorem sgL_same_21_2afeed : am_dec cL_same 21 sgL_same_21_2afee = true := by decide +kernel
def sgL_same_221_5ff24 : List Instr := [.iconst (-1)]
theorem sgL_same_221_5ff24d : am_dec cL_same 221 sgL_same_221_5ff24 = true := by decide +kernel
def sgL_same_225_2d860 : List Instr := [.aload_n 0, .iload 13]
theorem sgL_same_225_2d860d : am_dec cL_same 225 sgL_same_225_2d860 = true := by decide +kernel
def sgL_same_231_00397 : List Instr := [.iload 14]
theorem sgL_same_231_00397d : am_dec cL_same 231 sgL_same_231_00397 = true := by decide +kernel
def sgL_same_236_72498 : List Instr := [.aload_n 3, .bipush 6, .iload 13, .imul, .iconst 3, .iadd]
theorem sgL_same_236_72498d : am_dec cL_same 236 sgL_same_236_72498 = true := by decide +kernel
def sgL_same_245_c4397 : List Instr := [.goto 4]
theorem sgL_same_245_c4397d : am_dec cL_same 245 sgL_same_245_c4397 = true := by decide +kernel
def sgL_same_248_56c54 : List Instr := [.iconst 0]
theorem sgL_same_248_56c54d : am_dec cL_same 248 sgL_same_248_56c54 = true := by decide +kernel
def sgL_same_254_2e993 : List Instr := [.iinc 13 1, .goto (-201)]
theorem sgL_same_254_2e993d : am_dec cL_same 254 sgL_same_254_2e993 = true := by decide +kernel
def sgL_same_260_1c511 : List Instr := [.iconst 0, .istore 13]
theorem sgL_same_260_1c511d : am_dec cL_same 260 sgL_same_260_1c511 = true := by decide +kernel
def sgL_same_263_f2cce : List Instr := [.iload 13, .bipush 8]
theorem sgL_same_263_f2cced : am_dec cL_same 263 sgL_same_263_f2cce = true := by decide +kernel
def sgL_same_270_2d860 : List Instr := [.aload_n 0, .iload 13]
theorem sgL_same_270_2d860d : am_dec cL_same 270 sgL_same_270_2d860 = true := by decide +kernel
def sgL_same_276_30bbc : List Instr := [.aload 4, .iconst 4, .iload 13, .imul]
theorem sgL_same_276_30bbcd : am_dec cL_same 276 sgL_same_276_30bbc = true := by decide +kernel
def sgL_same_286_2d860 : List Instr := [.aload_n 0, .iload 13]
theorem sgL_same_286_2d860d : am_dec cL_same 286 sgL_same_286_2d860 = true := by decide +kernel
def sgL_same_292_dc456 : List Instr := [.aload 4, .iconst 4, .iload 13, .imul, .iconst 1, .iadd]
theorem sgL_same_292_dc456d : am_dec cL_same 292 sgL_same_292_dc456 = true := by decide +kernel
def sgL_same_304_2d860 : List Instr := [.aload_n 0, .iload 13]
theorem sgL_same_304_2d860d : am_dec cL_same 304 sgL_same_304_2d860 = true := by decide +kernel
def sgL_same_30_2d860 : List Instr := [.aload_n 0, .iload 13]
theorem sgL_same_30_2d860d : am_dec cL_same 30 sgL_same_30_2d860 = true := by decide +kernel
def sgL_same_310_a2f12 : List Instr := [.aload 4, .iconst 4, .iload 13, .imul, .iconst 2, .iadd]
theorem sgL_same_310_a2f12d : am_dec cL_same 310 sgL_same_310_a2f12 = true := by decide +kernel
def sgL_same_322_2d860 : List Instr := [.aload_n 0, .iload 13]
theorem sgL_same_322_2d860d : am_dec cL_same 322 sgL_same_322_2d860 = true := by decide +kernel
def sgL_same_328_71d24 : List Instr := [.aload 4, .iconst 4, .iload 13, .imul, .iconst 3, .iadd]
theorem sgL_same_328_71d24d : am_dec cL_same 328 sgL_same_328_71d24 = true := by decide +kernel
def sgL_same_342_2dd7f : List Instr := [.iconst 0, .istore 14]
theorem sgL_same_342_2dd7fd : am_dec cL_same 342 sgL_same_342_2dd7f = true := by decide +kernel
def sgL_same_345_f06f3 : List Instr := [.iload 14, .aload 4, .iconst 4, .iload 13, .imul, .iconst 3, .iadd]
theorem sgL_same_345_f06f3d : am_dec cL_same 345 sgL_same_345_f06f3 = true := by decide +kernel
def sgL_same_359_cf2dc : List Instr := [.aload_n 0, .iload 13, .iload 14]
theorem sgL_same_359_cf2dcd : am_dec cL_same 359 sgL_same_359_cf2dc = true := by decide +kernel
def sgL_same_367_a0499 : List Instr := [.aload 5, .iload 13]
theorem sgL_same_367_a0499d : am_dec cL_same 367 sgL_same_367_a0499 = true := by decide +kernel
def sgL_same_36_2afee : List Instr := [.aload_n 1, .iload 13]
theorem sgL_same_36_2afeed : am_dec cL_same 36 sgL_same_36_2afee = true := by decide +kernel
def sgL_same_372_14ed6 : List Instr := [.iconst 4, .iload 14, .imul, .lshr]
theorem sgL_same_372_14ed6d : am_dec cL_same 372 sgL_same_372_14ed6 = true := by decide +kernel
def sgL_same_380_ef760 : List Instr := [.land, .l2i]
theorem sgL_same_380_ef760d : am_dec cL_same 380 sgL_same_380_ef760 = true := by decide +kernel
def sgL_same_387_efa57 : List Instr := [.iinc 14 1, .goto (-45)]
theorem sgL_same_387_efa57d : am_dec cL_same 387 sgL_same_387_efa57 = true := by decide +kernel
def sgL_same_393_be6b1 : List Instr := [.aload 9, .iconst 1]
theorem sgL_same_393_be6b1d : am_dec cL_same 393 sgL_same_393_be6b1 = true := by decide +kernel
def sgL_same_400_a2f8a : List Instr := [.aload_n 1, .iload 10, .iload 13]
theorem sgL_same_400_a2f8ad : am_dec cL_same 400 sgL_same_400_a2f8a = true := by decide +kernel
def sgL_same_408_555c0 : List Instr := [.istore 14, .aload_n 0, .iload 10, .iload 13]
theorem sgL_same_408_555c0d : am_dec cL_same 408 sgL_same_408_555c0 = true := by decide +kernel
def sgL_same_418_00397 : List Instr := [.iload 14]
theorem sgL_same_418_00397d : am_dec cL_same 418 sgL_same_418_00397 = true := by decide +kernel
def sgL_same_423_f1ec3 : List Instr := [.iconst (-1), .goto 13]
theorem sgL_same_423_f1ec3d : am_dec cL_same 423 sgL_same_423_f1ec3 = true := by decide +kernel
def sgL_same_427_00397 : List Instr := [.iload 14]
theorem sgL_same_427_00397d : am_dec cL_same 427 sgL_same_427_00397 = true := by decide +kernel
def sgL_same_432_1cbe9 : List Instr := [.iconst 0, .goto 4]
theorem sgL_same_432_1cbe9d : am_dec cL_same 432 sgL_same_432_1cbe9 = true := by decide +kernel
def sgL_same_436_4de0a : List Instr := [.iconst 1]
theorem sgL_same_436_4de0ad : am_dec cL_same 436 sgL_same_436_4de0a = true := by decide +kernel
def sgL_same_442_05e92 : List Instr := [.iinc 13 1, .goto (-182)]
theorem sgL_same_442_05e92d : am_dec cL_same 442 sgL_same_442_05e92 = true := by decide +kernel
def sgL_same_448_be6b1 : List Instr := [.aload 9, .iconst 1]
theorem sgL_same_448_be6b1d : am_dec cL_same 448 sgL_same_448_be6b1 = true := by decide +kernel
def sgL_same_455_3503e : List Instr := [.bipush 15, .iload 10, .imul, .iload 11, .iadd, .istore 13, .iconst 0, .istore 14, .iconst 0, .istore 15]
theorem sgL_same_455_3503ed : am_dec cL_same 455 sgL_same_455_3503e = true := by decide +kernel
def sgL_same_471_26eac : List Instr := [.iload 15, .bipush 10]
theorem sgL_same_471_26eacd : am_dec cL_same 471 sgL_same_471_26eac = true := by decide +kernel
def sgL_same_478_7d297 : List Instr := [.aload 8, .iload 13]
theorem sgL_same_478_7d297d : am_dec cL_same 478 sgL_same_478_7d297 = true := by decide +kernel
def sgL_same_47_7bc7f : List Instr := [.iinc 13 1, .goto (-44)]
theorem sgL_same_47_7bc7fd : am_dec cL_same 47 sgL_same_47_7bc7f = true := by decide +kernel
def sgL_same_483_af961 : List Instr := [.iload 15, .ishr, .iconst 1, .iand]
theorem sgL_same_483_af961d : am_dec cL_same 483 sgL_same_483_af961 = true := by decide +kernel
def sgL_same_491_4a32e : List Instr := [.goto 23, .iinc 15 1, .goto (-46)]
theorem sgL_same_491_4a32ed : am_dec cL_same 491 sgL_same_491_4a32e = true := by decide +kernel
def sgL_same_494_60104 : List Instr := [.aload_n 0, .iload 10, .iload 11, .iload 14]
theorem sgL_same_494_60104d : am_dec cL_same 494 sgL_same_494_60104 = true := by decide +kernel
def sgL_same_504_63431 : List Instr := [.iload 15]
theorem sgL_same_504_63431d : am_dec cL_same 504 sgL_same_504_63431 = true := by decide +kernel
def sgL_same_511_0d592 : List Instr := [.iinc 14 1, .iinc 15 1, .goto (-46)]
theorem sgL_same_511_0d592d : am_dec cL_same 511 sgL_same_511_0d592 = true := by decide +kernel
def sgL_same_520_24a13 : List Instr := [.aload_n 0, .iload 10, .iload 11]
theorem sgL_same_520_24a13d : am_dec cL_same 520 sgL_same_520_24a13 = true := by decide +kernel
def sgL_same_528_00397 : List Instr := [.iload 14]
theorem sgL_same_528_00397d : am_dec cL_same 528 sgL_same_528_00397 = true := by decide +kernel
def sgL_same_533_24a13 : List Instr := [.aload_n 0, .iload 10, .iload 11]
theorem sgL_same_533_24a13d : am_dec cL_same 533 sgL_same_533_24a13 = true := by decide +kernel
def sgL_same_53_1c511 : List Instr := [.iconst 0, .istore 13]
theorem sgL_same_53_1c511d : am_dec cL_same 53 sgL_same_53_1c511 = true := by decide +kernel
def sgL_same_541_e6355 : List Instr := [.aload 6, .iload 13]
theorem sgL_same_541_e6355d : am_dec cL_same 541 sgL_same_541_e6355 = true := by decide +kernel
def sgL_same_546_094b1 : List Instr := [.iconst 1, .iand]
theorem sgL_same_546_094b1d : am_dec cL_same 546 sgL_same_546_094b1 = true := by decide +kernel
def sgL_same_551_3aa5e : List Instr := [.iconst (-1), .goto 10]
theorem sgL_same_551_3aa5ed : am_dec cL_same 551 sgL_same_551_3aa5e = true := by decide +kernel
def sgL_same_555_e6355 : List Instr := [.aload 6, .iload 13]
theorem sgL_same_555_e6355d : am_dec cL_same 555 sgL_same_555_e6355 = true := by decide +kernel
def sgL_same_560_ae44a : List Instr := [.iconst 1, .ishr]
theorem sgL_same_560_ae44ad : am_dec cL_same 560 sgL_same_560_ae44a = true := by decide +kernel
def sgL_same_565_24a13 : List Instr := [.aload_n 0, .iload 10, .iload 11]
theorem sgL_same_565_24a13d : am_dec cL_same 565 sgL_same_565_24a13 = true := by decide +kernel
def sgL_same_56_1164d : List Instr := [.iload 13, .aload 9, .iconst 2]
theorem sgL_same_56_1164dd : am_dec cL_same 56 sgL_same_56_1164d = true := by decide +kernel
def sgL_same_573_1b3e0 : List Instr := [.aload 7, .iload 13]
theorem sgL_same_573_1b3e0d : am_dec cL_same 573 sgL_same_573_1b3e0 = true := by decide +kernel
def sgL_same_583_34db8 : List Instr := [.aload_n 0]
theorem sgL_same_583_34db8d : am_dec cL_same 583 sgL_same_583_34db8 = true := by decide +kernel
def sgL_same_587_16673 : List Instr := [.iload 12]
theorem sgL_same_587_16673d : am_dec cL_same 587 sgL_same_587_16673 = true := by decide +kernel
def sgL_same_592_34db8 : List Instr := [.aload_n 0]
theorem sgL_same_592_34db8d : am_dec cL_same 592 sgL_same_592_34db8 = true := by decide +kernel
def sgL_same_596_8e685 : List Instr := [.aload 9, .iconst 2]
theorem sgL_same_596_8e685d : am_dec cL_same 596 sgL_same_596_8e685 = true := by decide +kernel
def sgL_same_603_1c64c : List Instr := [.iconst 1, .goto 4]
theorem sgL_same_603_1c64cd : am_dec cL_same 603 sgL_same_603_1c64c = true := by decide +kernel
def sgL_same_65_dc750 : List Instr := [.aload_n 3, .bipush 6, .iload 13, .imul, .iconst 2, .iadd]
theorem sgL_same_65_dc750d : am_dec cL_same 65 sgL_same_65_dc750 = true := by decide +kernel
def sgL_same_6_59cde : List Instr := [.iload 13, .aload 9, .iconst 1]
theorem sgL_same_6_59cded : am_dec cL_same 6 sgL_same_6_59cde = true := by decide +kernel
def sgL_same_74_800cc : List Instr := [.iconst 3]
theorem sgL_same_74_800ccd : am_dec cL_same 74 sgL_same_74_800cc = true := by decide +kernel
def sgL_same_78_43455 : List Instr := [.iconst 1, .goto 4, .istore 14, .iload 12, .aload_n 2, .bipush 6, .iload 13, .imul, .iconst 3, .iadd]
theorem sgL_same_78_43455d : am_dec cL_same 78 sgL_same_78_43455 = true := by decide +kernel
def sgL_same_82_2996a : List Instr := [.iconst 0, .istore 14, .iload 12, .aload_n 2, .bipush 6, .iload 13, .imul, .iconst 3, .iadd]
theorem sgL_same_82_2996ad : am_dec cL_same 82 sgL_same_82_2996a = true := by decide +kernel
def sgL_same_96_4de0a : List Instr := [.iconst 1]
theorem sgL_same_96_4de0ad : am_dec cL_same 96 sgL_same_96_4de0a = true := by decide +kernel
set_option maxRecDepth 100000 in
set_option maxHeartbeats 4000000 in
theorem c_same {G : am_S} {T S : am_T} {o : Nat → Int64} {n m v t c : Nat} (h : qR T S o n m v t c) (hc : c ≤ 100) {l d : Nat} (hl : l < n) (hd : d ≤ t) : am_D G yL_same (.code yL_same cL_same 16 (some .boolean) :: am_G) { frames := 4, cells := 0, slots := 0, locals := 100 } (hp T S o) [.ref 0, .ref 500, .ref 501, .ref 502, .ref 503, .ref 464, .ref 504, .ref 505, .ref 506, .ref 507, .int (nI l), .int (nI d)] (hp T S o) (some (.int 1)) := by
  refine am_of (by decide +kernel) (Nat.le_of_ble_eq_true rfl) ?_
  intro C hse hret hname hF hO
  subst hse
  obtain ⟨a1, a2, hn4, a4, a5, hm10, a7, hvm, a9, a10, ht14, a12⟩ := id h.1.1
  have hB := h.1
  refine am_go hF sgL_same_0_aa93a 6 [(13, .int 0), (12, .int 0), (0, .ref 0), (1, .ref 500), (2, .ref 501), (3, .ref 502), (4, .ref 503), (5, .ref 464), (6, .ref 504), (7, .ref 505), (8, .ref 506), (9, .ref 507), (10, .int (nI l)), (11, .int (nI d))] [] sgL_same_0_aa93ad rfl ?_
  refine am_drop [2, 3, 4, 5, 6, 7, 8, 9, 10, 11, 12, 13, 1, 0] [(0, .ref 0), (1, .ref 500), (2, .ref 501), (3, .ref 502), (4, .ref 503), (5, .ref 464), (6, .ref 504), (7, .ref 505), (8, .ref 506), (9, .ref 507), (10, .int (nI l)), (11, .int (nI d)), (12, .int 0), (13, .int 0)] rfl ?_
  have lp6 : ∀ (zz j : Nat), j + zz = n → am_W C (hp T S o) 0 0 6 [(0, .ref 0), (1, .ref 500), (2, .ref 501), (3, .ref 502), (4, .ref 503), (5, .ref 464), (6, .ref 504), (7, .ref 505), (8, .ref 506), (9, .ref 507), (10, .int (nI l)), (11, .int (nI d)), (12, .int 0), (13, .int (nI j))] [] := by
    intro zz
    induction zz with
    | zero =>
      intro j hj
      have e9j : j = n := by omega
      refine am_go hF sgL_same_6_59cde 11 [(0, .ref 0), (1, .ref 500), (2, .ref 501), (3, .ref 502), (4, .ref 503), (5, .ref 464), (6, .ref 504), (7, .ref 505), (8, .ref 506), (9, .ref 507), (10, .int (nI l)), (11, .int (nI d)), (12, .int 0), (13, .int (nI j))] [.int 1, .ref 507, .int (nI j)] sgL_same_6_59cded rfl ?_
      refine sv_iald hF 7 1 0 71 (by decide) (by decide) rfl rfl (show 3 * 0 + 1 < 3 by omega) (by decide) dL_same_11 ?_
      refine am_top (nI n) a2 ?_
      refine am_icmpge hF 53 dL_same_12 (by decide) (fun _ => ?_) (fun h9 => False.elim (absurd (nc_ge (show n ≤ j by omega) (by omega) (by omega) rfl rfl) h9))
      refine am_go hF sgL_same_53_1c511 56 [(13, .int 0), (0, .ref 0), (1, .ref 500), (2, .ref 501), (3, .ref 502), (4, .ref 503), (5, .ref 464), (6, .ref 504), (7, .ref 505), (8, .ref 506), (9, .ref 507), (10, .int (nI l)), (11, .int (nI d)), (12, .int 0)] [] sgL_same_53_1c511d rfl ?_
      refine am_drop [1, 2, 3, 4, 5, 6, 7, 8, 9, 10, 11, 12, 13, 0] [(0, .ref 0), (1, .ref 500), (2, .ref 501), (3, .ref 502), (4, .ref 503), (5, .ref 464), (6, .ref 504), (7, .ref 505), (8, .ref 506), (9, .ref 507), (10, .int (nI l)), (11, .int (nI d)), (12, .int 0), (13, .int 0)] rfl ?_
      have lp56 : ∀ (zz j : Nat), j + zz = m → am_W C (hp T S o) 0 0 56 [(0, .ref 0), (1, .ref 500), (2, .ref 501), (3, .ref 502), (4, .ref 503), (5, .ref 464), (6, .ref 504), (7, .ref 505), (8, .ref 506), (9, .ref 507), (10, .int (nI l)), (11, .int (nI d)), (12, .int (itN (thl T) 0 j)), (13, .int (nI j))] [] := by
        intro zz
        induction zz with
        | zero =>
          intro j hj
          have e9j : j = m := by omega
          refine am_go hF sgL_same_56_1164d 61 [(0, .ref 0), (1, .ref 500), (2, .ref 501), (3, .ref 502), (4, .ref 503), (5, .ref 464), (6, .ref 504), (7, .ref 505), (8, .ref 506), (9, .ref 507), (10, .int (nI l)), (11, .int (nI d)), (12, .int (itN (thl T) 0 j)), (13, .int (nI j))] [.int 2, .ref 507, .int (nI j)] sgL_same_56_1164dd rfl ?_
          refine sv_iald hF 7 2 0 72 (by decide) (by decide) rfl rfl (show 3 * 0 + 2 < 3 by omega) (by decide) dL_same_61 ?_
          refine am_top (nI m) a5 ?_
          refine am_icmpge hF 260 dL_same_62 (by decide) (fun _ => ?_) (fun h9 => False.elim (absurd (nc_ge (show m ≤ j by omega) (by omega) (by omega) rfl rfl) h9))
          refine am_eqL [(0, .ref 0), (1, .ref 500), (2, .ref 501), (3, .ref 502), (4, .ref 503), (5, .ref 464), (6, .ref 504), (7, .ref 505), (8, .ref 506), (9, .ref 507), (10, .int (nI l)), (11, .int (nI d)), (12, .int (itN (thl T) 0 m)), (13, .int (nI j))] (by rw [e9j]) ?_
          refine am_go hF sgL_same_260_1c511 263 [(13, .int 0), (0, .ref 0), (1, .ref 500), (2, .ref 501), (3, .ref 502), (4, .ref 503), (5, .ref 464), (6, .ref 504), (7, .ref 505), (8, .ref 506), (9, .ref 507), (10, .int (nI l)), (11, .int (nI d)), (12, .int (itN (thl T) 0 m))] [] sgL_same_260_1c511d rfl ?_
          refine am_drop [1, 2, 3, 4, 5, 6, 7, 8, 9, 10, 11, 12, 13, 0] [(0, .ref 0), (1, .ref 500), (2, .ref 501), (3, .ref 502), (4, .ref 503), (5, .ref 464), (6, .ref 504), (7, .ref 505), (8, .ref 506), (9, .ref 507), (10, .int (nI l)), (11, .int (nI d)), (12, .int (itN (thl T) 0 m)), (13, .int 0)] rfl ?_
          have lp263 : ∀ (zz j : Nat), j + zz = 8 → am_W C (hp T S o) 0 0 263 [(0, .ref 0), (1, .ref 500), (2, .ref 501), (3, .ref 502), (4, .ref 503), (5, .ref 464), (6, .ref 504), (7, .ref 505), (8, .ref 506), (9, .ref 507), (10, .int (nI l)), (11, .int (nI d)), (12, .int (itN (thl T) 0 m)), (13, .int (nI j))] [] := by
            intro zz
            induction zz with
            | zero =>
              intro j hj
              have e9j : j = 8 := by omega
              refine am_go hF sgL_same_263_f2cce 267 [(0, .ref 0), (1, .ref 500), (2, .ref 501), (3, .ref 502), (4, .ref 503), (5, .ref 464), (6, .ref 504), (7, .ref 505), (8, .ref 506), (9, .ref 507), (10, .int (nI l)), (11, .int (nI d)), (12, .int (itN (thl T) 0 m)), (13, .int (nI j))] [.int 8, .int (nI j)] sgL_same_263_f2cced rfl ?_
              refine am_icmpge hF 448 dL_same_267 (by decide) (fun _ => ?_) (fun h9 => False.elim (absurd (nc_ge (show 8 ≤ j by omega) (by omega) (by omega) rfl rfl) h9))
              refine am_go hF sgL_same_448_be6b1 451 [(0, .ref 0), (1, .ref 500), (2, .ref 501), (3, .ref 502), (4, .ref 503), (5, .ref 464), (6, .ref 504), (7, .ref 505), (8, .ref 506), (9, .ref 507), (10, .int (nI l)), (11, .int (nI d)), (12, .int (itN (thl T) 0 m)), (13, .int (nI j))] [.int 1, .ref 507] sgL_same_448_be6b1d rfl ?_
              refine sv_iald hF 7 1 0 71 (by decide) (by decide) rfl rfl (show 3 * 0 + 1 < 3 by omega) (by decide) dL_same_451 ?_
              refine am_top (nI n) a2 ?_
              refine am_ifle hF 583 dL_same_452 (by decide) (fun h9 => False.elim (nc_gt_f (show 0 < n by omega) (by omega) (by omega) rfl rfl h9)) (fun _ => ?_)
              refine am_go hF sgL_same_455_3503e 471 [(15, .int 0), (14, .int 0), (13, .int ((15 * (nI l)) + (nI d))), (0, .ref 0), (1, .ref 500), (2, .ref 501), (3, .ref 502), (4, .ref 503), (5, .ref 464), (6, .ref 504), (7, .ref 505), (8, .ref 506), (9, .ref 507), (10, .int (nI l)), (11, .int (nI d)), (12, .int (itN (thl T) 0 m))] [] sgL_same_455_3503ed rfl ?_
              have hat : 15 * l + d < 60 := by omega
              refine am_eqL [(15, .int 0), (14, .int 0), (13, .int (nI (15 * l + d))), (0, .ref 0), (1, .ref 500), (2, .ref 501), (3, .ref 502), (4, .ref 503), (5, .ref 464), (6, .ref 504), (7, .ref 505), (8, .ref 506), (9, .ref 507), (10, .int (nI l)), (11, .int (nI d)), (12, .int (itN (thl T) 0 m))] (by rw [show (15 * nI l + nI d : Int32) = nI (15 * l + d) from am_ad (am_mu rfl rfl) rfl]) ?_
              refine am_drop [3, 4, 5, 6, 7, 8, 9, 10, 11, 12, 13, 14, 15, 2, 1, 0] [(0, .ref 0), (1, .ref 500), (2, .ref 501), (3, .ref 502), (4, .ref 503), (5, .ref 464), (6, .ref 504), (7, .ref 505), (8, .ref 506), (9, .ref 507), (10, .int (nI l)), (11, .int (nI d)), (12, .int (itN (thl T) 0 m)), (13, .int (nI (15 * l + d))), (14, .int 0), (15, .int 0)] rfl ?_
              have lp471 : ∀ (zz j : Nat), j + zz = 10 → am_W C (hp T S o) 0 0 471 [(0, .ref 0), (1, .ref 500), (2, .ref 501), (3, .ref 502), (4, .ref 503), (5, .ref 464), (6, .ref 504), (7, .ref 505), (8, .ref 506), (9, .ref 507), (10, .int (nI l)), (11, .int (nI d)), (12, .int (itN (thl T) 0 m)), (13, .int (nI (15 * l + d))), (14, .int (itN (lsz S (15 * l + d)) 0 j)), (15, .int (nI j))] [] := by
                intro zz
                induction zz with
                | zero =>
                  intro j hj
                  have e9j : j = 10 := by omega
                  refine am_go hF sgL_same_471_26eac 475 [(0, .ref 0), (1, .ref 500), (2, .ref 501), (3, .ref 502), (4, .ref 503), (5, .ref 464), (6, .ref 504), (7, .ref 505), (8, .ref 506), (9, .ref 507), (10, .int (nI l)), (11, .int (nI d)), (12, .int (itN (thl T) 0 m)), (13, .int (nI (15 * l + d))), (14, .int (itN (lsz S (15 * l + d)) 0 j)), (15, .int (nI j))] [.int 10, .int (nI j)] sgL_same_471_26eacd rfl ?_
                  refine am_icmpge hF 520 dL_same_475 (by decide) (fun _ => ?_) (fun h9 => False.elim (absurd (nc_ge (show 10 ≤ j by omega) (by omega) (by omega) rfl rfl) h9))
                  refine am_eqL [(0, .ref 0), (1, .ref 500), (2, .ref 501), (3, .ref 502), (4, .ref 503), (5, .ref 464), (6, .ref 504), (7, .ref 505), (8, .ref 506), (9, .ref 507), (10, .int (nI l)), (11, .int (nI d)), (12, .int (itN (thl T) 0 m)), (13, .int (nI (15 * l + d))), (14, .int (itN (lsz S (15 * l + d)) 0 10)), (15, .int (nI j))] (by rw [e9j]) ?_
                  obtain ⟨r9, hr9, er1, er2⟩ := ed_all (G := C.se) h hc hl hd
                  refine am_go hF sgL_same_520_24a13 525 [(0, .ref 0), (1, .ref 500), (2, .ref 501), (3, .ref 502), (4, .ref 503), (5, .ref 464), (6, .ref 504), (7, .ref 505), (8, .ref 506), (9, .ref 507), (10, .int (nI l)), (11, .int (nI d)), (12, .int (itN (thl T) 0 m)), (13, .int (nI (15 * l + d))), (14, .int (itN (lsz S (15 * l + d)) 0 10)), (15, .int (nI j))] [.int (nI d), .int (nI l), .ref 0] sgL_same_520_24a13d rfl ?_
                  refine am_dV hF hO [.int (nI l), .int (nI d)] [] (c_p_size_n a1 (by omega) a4 (by omega) a7 (by omega) (hday hB) a9 (by omega) hl hd) myX5_size vyX5_size lm_RL_111 (hp_main _ _ _) rfl rfl 0 0 ⟨Nat.le_of_ble_eq_true rfl, Nat.le_of_ble_eq_true rfl⟩ ⟨Nat.le_of_ble_eq_true rfl, Nat.le_of_ble_eq_true rfl, Nat.le_of_ble_eq_true rfl, Nat.le_of_ble_eq_true rfl⟩ rfl (am_lv_ref (hp_main _ _ _) (am_lv_ref (hp_a _ _ _ (f := 0) (by decide)) (am_lv_ref (hp_a _ _ _ (f := 1) (by decide)) (am_lv_ref (hp_a _ _ _ (f := 2) (by decide)) (am_lv_ref (hp_a _ _ _ (f := 3) (by decide)) (am_lv_ref (hp_o _ _ _) (am_lv_ref (hp_a _ _ _ (f := 4) (by decide)) (am_lv_ref (hp_a _ _ _ (f := 5) (by decide)) (am_lv_ref (hp_a _ _ _ (f := 6) (by decide)) (am_lv_ref (hp_a _ _ _ (f := 7) (by decide)) (am_lv_int (am_lv_int (am_lv_int (am_lv_int (am_lv_int (am_lv_int am_lv_nil)))))))))))))))) (Nat.le_of_ble_eq_true rfl) dL_same_525 [.int (itN (tsz T l (nI d)) 0 m)] rfl ?_
                  refine am_top (itN (lsz S (15 * l + d)) 0 10) (sz_10 h hl hd).symm ?_
                  refine am_go hF sgL_same_528_00397 530 [(0, .ref 0), (1, .ref 500), (2, .ref 501), (3, .ref 502), (4, .ref 503), (5, .ref 464), (6, .ref 504), (7, .ref 505), (8, .ref 506), (9, .ref 507), (10, .int (nI l)), (11, .int (nI d)), (12, .int (itN (thl T) 0 m)), (13, .int (nI (15 * l + d))), (14, .int (itN (lsz S (15 * l + d)) 0 10)), (15, .int (nI j))] [.int (itN (lsz S (15 * l + d)) 0 10), .int (itN (lsz S (15 * l + d)) 0 10)] sgL_same_528_00397d rfl ?_
                  refine am_icmpne hF 581 dL_same_530 (by decide) (fun h9 => False.elim (absurd rfl h9)) (fun _ => ?_)
                  refine am_go hF sgL_same_533_24a13 538 [(0, .ref 0), (1, .ref 500), (2, .ref 501), (3, .ref 502), (4, .ref 503), (5, .ref 464), (6, .ref 504), (7, .ref 505), (8, .ref 506), (9, .ref 507), (10, .int (nI l)), (11, .int (nI d)), (12, .int (itN (thl T) 0 m)), (13, .int (nI (15 * l + d))), (14, .int (itN (lsz S (15 * l + d)) 0 10)), (15, .int (nI j))] [.int (nI d), .int (nI l), .ref 0] sgL_same_533_24a13d rfl ?_
                  refine am_dV hF hO [.int (nI l), .int (nI d)] [] (hr9) myX5_edition vyX5_edition lm_RL_114 (hp_main _ _ _) rfl rfl 0 0 ⟨Nat.le_of_ble_eq_true rfl, Nat.le_of_ble_eq_true rfl⟩ ⟨Nat.le_of_ble_eq_true rfl, Nat.le_of_ble_eq_true rfl, Nat.le_of_ble_eq_true rfl, Nat.le_of_ble_eq_true rfl⟩ rfl (am_lv_ref (hp_main _ _ _) (am_lv_ref (hp_a _ _ _ (f := 0) (by decide)) (am_lv_ref (hp_a _ _ _ (f := 1) (by decide)) (am_lv_ref (hp_a _ _ _ (f := 2) (by decide)) (am_lv_ref (hp_a _ _ _ (f := 3) (by decide)) (am_lv_ref (hp_o _ _ _) (am_lv_ref (hp_a _ _ _ (f := 4) (by decide)) (am_lv_ref (hp_a _ _ _ (f := 5) (by decide)) (am_lv_ref (hp_a _ _ _ (f := 6) (by decide)) (am_lv_ref (hp_a _ _ _ (f := 7) (by decide)) (am_lv_int (am_lv_int (am_lv_int (am_lv_int (am_lv_int (am_lv_int am_lv_nil)))))))))))))))) (Nat.le_of_ble_eq_true rfl) dL_same_538 [.int r9] rfl ?_
                  refine am_go hF sgL_same_541_e6355 545 [(0, .ref 0), (1, .ref 500), (2, .ref 501), (3, .ref 502), (4, .ref 503), (5, .ref 464), (6, .ref 504), (7, .ref 505), (8, .ref 506), (9, .ref 507), (10, .int (nI l)), (11, .int (nI d)), (12, .int (itN (thl T) 0 m)), (13, .int (nI (15 * l + d))), (14, .int (itN (lsz S (15 * l + d)) 0 10)), (15, .int (nI j))] [.int (nI (15 * l + d)), .ref 504, .int r9] sgL_same_541_e6355d rfl ?_
                  refine sv_iald1 hF 4 (15 * l + d) 40 (by decide) rfl rfl rfl (show 15 * l + d < 60 by omega) (by decide) dL_same_545 ?_
                  refine am_go hF sgL_same_546_094b1 548 [(0, .ref 0), (1, .ref 500), (2, .ref 501), (3, .ref 502), (4, .ref 503), (5, .ref 464), (6, .ref 504), (7, .ref 505), (8, .ref 506), (9, .ref 507), (10, .int (nI l)), (11, .int (nI d)), (12, .int (itN (thl T) 0 m)), (13, .int (nI (15 * l + d))), (14, .int (itN (lsz S (15 * l + d)) 0 10)), (15, .int (nI j))] [.int ((S 40 (15 * l + d)) &&& 1), .int r9] sgL_same_546_094b1d rfl ?_
                  refine am_ifne hF 555 dL_same_548 (by decide) (fun c1 => ?_) (fun c1 => ?_)
                  · skip
                    refine am_go hF sgL_same_555_e6355 559 [(0, .ref 0), (1, .ref 500), (2, .ref 501), (3, .ref 502), (4, .ref 503), (5, .ref 464), (6, .ref 504), (7, .ref 505), (8, .ref 506), (9, .ref 507), (10, .int (nI l)), (11, .int (nI d)), (12, .int (itN (thl T) 0 m)), (13, .int (nI (15 * l + d))), (14, .int (itN (lsz S (15 * l + d)) 0 10)), (15, .int (nI j))] [.int (nI (15 * l + d)), .ref 504, .int r9] sgL_same_555_e6355d rfl ?_
                    refine sv_iald1 hF 4 (15 * l + d) 40 (by decide) rfl rfl rfl (show 15 * l + d < 60 by omega) (by decide) dL_same_559 ?_
                    refine am_go hF sgL_same_560_ae44a 562 [(0, .ref 0), (1, .ref 500), (2, .ref 501), (3, .ref 502), (4, .ref 503), (5, .ref 464), (6, .ref 504), (7, .ref 505), (8, .ref 506), (9, .ref 507), (10, .int (nI l)), (11, .int (nI d)), (12, .int (itN (thl T) 0 m)), (13, .int (nI (15 * l + d))), (14, .int (itN (lsz S (15 * l + d)) 0 10)), (15, .int (nI j))] [.int ((S 40 (15 * l + d)) >>> (1 &&& 31)), .int r9] sgL_same_560_ae44ad rfl ?_
                    refine am_icmpne hF 581 dL_same_562 (by decide) (fun h9 => False.elim (absurd (er2 c1) h9)) (fun _ => ?_)
                    refine am_go hF sgL_same_565_24a13 570 [(0, .ref 0), (1, .ref 500), (2, .ref 501), (3, .ref 502), (4, .ref 503), (5, .ref 464), (6, .ref 504), (7, .ref 505), (8, .ref 506), (9, .ref 507), (10, .int (nI l)), (11, .int (nI d)), (12, .int (itN (thl T) 0 m)), (13, .int (nI (15 * l + d))), (14, .int (itN (lsz S (15 * l + d)) 0 10)), (15, .int (nI j))] [.int (nI d), .int (nI l), .ref 0] sgL_same_565_24a13d rfl ?_
                    refine am_dV hF hO [.int (nI l), .int (nI d)] [] (rd_all h hl hd) myX5_readers vyX5_readers lm_RL_117 (hp_main _ _ _) rfl rfl 0 0 ⟨Nat.le_of_ble_eq_true rfl, Nat.le_of_ble_eq_true rfl⟩ ⟨Nat.le_of_ble_eq_true rfl, Nat.le_of_ble_eq_true rfl, Nat.le_of_ble_eq_true rfl, Nat.le_of_ble_eq_true rfl⟩ rfl (am_lv_ref (hp_main _ _ _) (am_lv_ref (hp_a _ _ _ (f := 0) (by decide)) (am_lv_ref (hp_a _ _ _ (f := 1) (by decide)) (am_lv_ref (hp_a _ _ _ (f := 2) (by decide)) (am_lv_ref (hp_a _ _ _ (f := 3) (by decide)) (am_lv_ref (hp_o _ _ _) (am_lv_ref (hp_a _ _ _ (f := 4) (by decide)) (am_lv_ref (hp_a _ _ _ (f := 5) (by decide)) (am_lv_ref (hp_a _ _ _ (f := 6) (by decide)) (am_lv_ref (hp_a _ _ _ (f := 7) (by decide)) (am_lv_int (am_lv_int (am_lv_int (am_lv_int (am_lv_int (am_lv_int am_lv_nil)))))))))))))))) (Nat.le_of_ble_eq_true rfl) dL_same_570 [.int (S 50 (15 * l + d))] rfl ?_
                    refine am_go hF sgL_same_573_1b3e0 577 [(0, .ref 0), (1, .ref 500), (2, .ref 501), (3, .ref 502), (4, .ref 503), (5, .ref 464), (6, .ref 504), (7, .ref 505), (8, .ref 506), (9, .ref 507), (10, .int (nI l)), (11, .int (nI d)), (12, .int (itN (thl T) 0 m)), (13, .int (nI (15 * l + d))), (14, .int (itN (lsz S (15 * l + d)) 0 10)), (15, .int (nI j))] [.int (nI (15 * l + d)), .ref 505, .int (S 50 (15 * l + d))] sgL_same_573_1b3e0d rfl ?_
                    refine sv_iald1 hF 5 (15 * l + d) 50 (by decide) rfl rfl rfl (show 15 * l + d < 60 by omega) (by decide) dL_same_577 ?_
                    refine am_icmpeq hF 583 dL_same_578 (by decide) (fun _ => ?_) (fun h9 => False.elim (absurd rfl h9))
                    refine am_go hF sgL_same_583_34db8 584 [(0, .ref 0), (1, .ref 500), (2, .ref 501), (3, .ref 502), (4, .ref 503), (5, .ref 464), (6, .ref 504), (7, .ref 505), (8, .ref 506), (9, .ref 507), (10, .int (nI l)), (11, .int (nI d)), (12, .int (itN (thl T) 0 m)), (13, .int (nI (15 * l + d))), (14, .int (itN (lsz S (15 * l + d)) 0 10)), (15, .int (nI j))] [.ref 0] sgL_same_583_34db8d rfl ?_
                    refine am_dV hF hO [] [] (c_p_held_n a4 (by omega)) myX5_held vyX5_held lm_RL_120 (hp_main _ _ _) rfl rfl 0 0 ⟨Nat.le_of_ble_eq_true rfl, Nat.le_of_ble_eq_true rfl⟩ ⟨Nat.le_of_ble_eq_true rfl, Nat.le_of_ble_eq_true rfl, Nat.le_of_ble_eq_true rfl, Nat.le_of_ble_eq_true rfl⟩ rfl (am_lv_ref (hp_main _ _ _) (am_lv_ref (hp_a _ _ _ (f := 0) (by decide)) (am_lv_ref (hp_a _ _ _ (f := 1) (by decide)) (am_lv_ref (hp_a _ _ _ (f := 2) (by decide)) (am_lv_ref (hp_a _ _ _ (f := 3) (by decide)) (am_lv_ref (hp_o _ _ _) (am_lv_ref (hp_a _ _ _ (f := 4) (by decide)) (am_lv_ref (hp_a _ _ _ (f := 5) (by decide)) (am_lv_ref (hp_a _ _ _ (f := 6) (by decide)) (am_lv_ref (hp_a _ _ _ (f := 7) (by decide)) (am_lv_int (am_lv_int (am_lv_int (am_lv_int (am_lv_int (am_lv_int am_lv_nil)))))))))))))))) (Nat.le_of_ble_eq_true rfl) dL_same_584 [.int (itN (thl T) 0 m)] rfl ?_
                    refine am_go hF sgL_same_587_16673 589 [(0, .ref 0), (1, .ref 500), (2, .ref 501), (3, .ref 502), (4, .ref 503), (5, .ref 464), (6, .ref 504), (7, .ref 505), (8, .ref 506), (9, .ref 507), (10, .int (nI l)), (11, .int (nI d)), (12, .int (itN (thl T) 0 m)), (13, .int (nI (15 * l + d))), (14, .int (itN (lsz S (15 * l + d)) 0 10)), (15, .int (nI j))] [.int (itN (thl T) 0 m), .int (itN (thl T) 0 m)] sgL_same_587_16673d rfl ?_
                    refine am_icmpne hF 607 dL_same_589 (by decide) (fun h9 => False.elim (absurd rfl h9)) (fun _ => ?_)
                    refine am_go hF sgL_same_592_34db8 593 [(0, .ref 0), (1, .ref 500), (2, .ref 501), (3, .ref 502), (4, .ref 503), (5, .ref 464), (6, .ref 504), (7, .ref 505), (8, .ref 506), (9, .ref 507), (10, .int (nI l)), (11, .int (nI d)), (12, .int (itN (thl T) 0 m)), (13, .int (nI (15 * l + d))), (14, .int (itN (lsz S (15 * l + d)) 0 10)), (15, .int (nI j))] [.ref 0] sgL_same_592_34db8d rfl ?_
                    refine am_dV hF hO [] [] (c_p_mails_n a4 (by omega)) myX5_mails vyX5_mails lm_RL_124 (hp_main _ _ _) rfl rfl 0 0 ⟨Nat.le_of_ble_eq_true rfl, Nat.le_of_ble_eq_true rfl⟩ ⟨Nat.le_of_ble_eq_true rfl, Nat.le_of_ble_eq_true rfl, Nat.le_of_ble_eq_true rfl, Nat.le_of_ble_eq_true rfl⟩ rfl (am_lv_ref (hp_main _ _ _) (am_lv_ref (hp_a _ _ _ (f := 0) (by decide)) (am_lv_ref (hp_a _ _ _ (f := 1) (by decide)) (am_lv_ref (hp_a _ _ _ (f := 2) (by decide)) (am_lv_ref (hp_a _ _ _ (f := 3) (by decide)) (am_lv_ref (hp_o _ _ _) (am_lv_ref (hp_a _ _ _ (f := 4) (by decide)) (am_lv_ref (hp_a _ _ _ (f := 5) (by decide)) (am_lv_ref (hp_a _ _ _ (f := 6) (by decide)) (am_lv_ref (hp_a _ _ _ (f := 7) (by decide)) (am_lv_int (am_lv_int (am_lv_int (am_lv_int (am_lv_int (am_lv_int am_lv_nil)))))))))))))))) (Nat.le_of_ble_eq_true rfl) dL_same_593 [.int (nI m)] rfl ?_
                    refine am_go hF sgL_same_596_8e685 599 [(0, .ref 0), (1, .ref 500), (2, .ref 501), (3, .ref 502), (4, .ref 503), (5, .ref 464), (6, .ref 504), (7, .ref 505), (8, .ref 506), (9, .ref 507), (10, .int (nI l)), (11, .int (nI d)), (12, .int (itN (thl T) 0 m)), (13, .int (nI (15 * l + d))), (14, .int (itN (lsz S (15 * l + d)) 0 10)), (15, .int (nI j))] [.int 2, .ref 507, .int (nI m)] sgL_same_596_8e685d rfl ?_
                    refine sv_iald hF 7 2 0 72 (by decide) (by decide) rfl rfl (show 3 * 0 + 2 < 3 by omega) (by decide) dL_same_599 ?_
                    refine am_top (nI m) a5 ?_
                    refine am_icmpne hF 607 dL_same_600 (by decide) (fun h9 => False.elim (absurd rfl h9)) (fun _ => ?_)
                    refine am_go hF sgL_same_603_1c64c 608 [(0, .ref 0), (1, .ref 500), (2, .ref 501), (3, .ref 502), (4, .ref 503), (5, .ref 464), (6, .ref 504), (7, .ref 505), (8, .ref 506), (9, .ref 507), (10, .int (nI l)), (11, .int (nI d)), (12, .int (itN (thl T) 0 m)), (13, .int (nI (15 * l + d))), (14, .int (itN (lsz S (15 * l + d)) 0 10)), (15, .int (nI j))] [.int 1] sgL_same_603_1c64cd rfl ?_
                    exact am_iret hF hO hret rfl dL_same_608 ⟨rfl, rfl⟩
                  · skip
                    refine am_go hF sgL_same_551_3aa5e 562 [(0, .ref 0), (1, .ref 500), (2, .ref 501), (3, .ref 502), (4, .ref 503), (5, .ref 464), (6, .ref 504), (7, .ref 505), (8, .ref 506), (9, .ref 507), (10, .int (nI l)), (11, .int (nI d)), (12, .int (itN (thl T) 0 m)), (13, .int (nI (15 * l + d))), (14, .int (itN (lsz S (15 * l + d)) 0 10)), (15, .int (nI j))] [.int (-1), .int r9] sgL_same_551_3aa5ed rfl ?_
                    refine am_icmpne hF 581 dL_same_562 (by decide) (fun h9 => False.elim (absurd (er1 c1) h9)) (fun _ => ?_)
                    refine am_go hF sgL_same_565_24a13 570 [(0, .ref 0), (1, .ref 500), (2, .ref 501), (3, .ref 502), (4, .ref 503), (5, .ref 464), (6, .ref 504), (7, .ref 505), (8, .ref 506), (9, .ref 507), (10, .int (nI l)), (11, .int (nI d)), (12, .int (itN (thl T) 0 m)), (13, .int (nI (15 * l + d))), (14, .int (itN (lsz S (15 * l + d)) 0 10)), (15, .int (nI j))] [.int (nI d), .int (nI l), .ref 0] sgL_same_565_24a13d rfl ?_
                    refine am_dV hF hO [.int (nI l), .int (nI d)] [] (rd_all h hl hd) myX5_readers vyX5_readers lm_RL_117 (hp_main _ _ _) rfl rfl 0 0 ⟨Nat.le_of_ble_eq_true rfl, Nat.le_of_ble_eq_true rfl⟩ ⟨Nat.le_of_ble_eq_true rfl, Nat.le_of_ble_eq_true rfl, Nat.le_of_ble_eq_true rfl, Nat.le_of_ble_eq_true rfl⟩ rfl (am_lv_ref (hp_main _ _ _) (am_lv_ref (hp_a _ _ _ (f := 0) (by decide)) (am_lv_ref (hp_a _ _ _ (f := 1) (by decide)) (am_lv_ref (hp_a _ _ _ (f := 2) (by decide)) (am_lv_ref (hp_a _ _ _ (f := 3) (by decide)) (am_lv_ref (hp_o _ _ _) (am_lv_ref (hp_a _ _ _ (f := 4) (by decide)) (am_lv_ref (hp_a _ _ _ (f := 5) (by decide)) (am_lv_ref (hp_a _ _ _ (f := 6) (by decide)) (am_lv_ref (hp_a _ _ _ (f := 7) (by decide)) (am_lv_int (am_lv_int (am_lv_int (am_lv_int (am_lv_int (am_lv_int am_lv_nil)))))))))))))))) (Nat.le_of_ble_eq_true rfl) dL_same_570 [.int (S 50 (15 * l + d))] rfl ?_
                    refine am_go hF sgL_same_573_1b3e0 577 [(0, .ref 0), (1, .ref 500), (2, .ref 501), (3, .ref 502), (4, .ref 503), (5, .ref 464), (6, .ref 504), (7, .ref 505), (8, .ref 506), (9, .ref 507), (10, .int (nI l)), (11, .int (nI d)), (12, .int (itN (thl T) 0 m)), (13, .int (nI (15 * l + d))), (14, .int (itN (lsz S (15 * l + d)) 0 10)), (15, .int (nI j))] [.int (nI (15 * l + d)), .ref 505, .int (S 50 (15 * l + d))] sgL_same_573_1b3e0d rfl ?_
                    refine sv_iald1 hF 5 (15 * l + d) 50 (by decide) rfl rfl rfl (show 15 * l + d < 60 by omega) (by decide) dL_same_577 ?_
                    refine am_icmpeq hF 583 dL_same_578 (by decide) (fun _ => ?_) (fun h9 => False.elim (absurd rfl h9))
                    refine am_go hF sgL_same_583_34db8 584 [(0, .ref 0), (1, .ref 500), (2, .ref 501), (3, .ref 502), (4, .ref 503), (5, .ref 464), (6, .ref 504), (7, .ref 505), (8, .ref 506), (9, .ref 507), (10, .int (nI l)), (11, .int (nI d)), (12, .int (itN (thl T) 0 m)), (13, .int (nI (15 * l + d))), (14, .int (itN (lsz S (15 * l + d)) 0 10)), (15, .int (nI j))] [.ref 0] sgL_same_583_34db8d rfl ?_
                    refine am_dV hF hO [] [] (c_p_held_n a4 (by omega)) myX5_held vyX5_held lm_RL_120 (hp_main _ _ _) rfl rfl 0 0 ⟨Nat.le_of_ble_eq_true rfl, Nat.le_of_ble_eq_true rfl⟩ ⟨Nat.le_of_ble_eq_true rfl, Nat.le_of_ble_eq_true rfl, Nat.le_of_ble_eq_true rfl, Nat.le_of_ble_eq_true rfl⟩ rfl (am_lv_ref (hp_main _ _ _) (am_lv_ref (hp_a _ _ _ (f := 0) (by decide)) (am_lv_ref (hp_a _ _ _ (f := 1) (by decide)) (am_lv_ref (hp_a _ _ _ (f := 2) (by decide)) (am_lv_ref (hp_a _ _ _ (f := 3) (by decide)) (am_lv_ref (hp_o _ _ _) (am_lv_ref (hp_a _ _ _ (f := 4) (by decide)) (am_lv_ref (hp_a _ _ _ (f := 5) (by decide)) (am_lv_ref (hp_a _ _ _ (f := 6) (by decide)) (am_lv_ref (hp_a _ _ _ (f := 7) (by decide)) (am_lv_int (am_lv_int (am_lv_int (am_lv_int (am_lv_int (am_lv_int am_lv_nil)))))))))))))))) (Nat.le_of_ble_eq_true rfl) dL_same_584 [.int (itN (thl T) 0 m)] rfl ?_
                    refine am_go hF sgL_same_587_16673 589 [(0, .ref 0), (1, .ref 500), (2, .ref 501), (3, .ref 502), (4, .ref 503), (5, .ref 464), (6, .ref 504), (7, .ref 505), (8, .ref 506), (9, .ref 507), (10, .int (nI l)), (11, .int (nI d)), (12, .int (itN (thl T) 0 m)), (13, .int (nI (15 * l + d))), (14, .int (itN (lsz S (15 * l + d)) 0 10)), (15, .int (nI j))] [.int (itN (thl T) 0 m), .int (itN (thl T) 0 m)] sgL_same_587_16673d rfl ?_
                    refine am_icmpne hF 607 dL_same_589 (by decide) (fun h9 => False.elim (absurd rfl h9)) (fun _ => ?_)
                    refine am_go hF sgL_same_592_34db8 593 [(0, .ref 0), (1, .ref 500), (2, .ref 501), (3, .ref 502), (4, .ref 503), (5, .ref 464), (6, .ref 504), (7, .ref 505), (8, .ref 506), (9, .ref 507), (10, .int (nI l)), (11, .int (nI d)), (12, .int (itN (thl T) 0 m)), (13, .int (nI (15 * l + d))), (14, .int (itN (lsz S (15 * l + d)) 0 10)), (15, .int (nI j))] [.ref 0] sgL_same_592_34db8d rfl ?_
                    refine am_dV hF hO [] [] (c_p_mails_n a4 (by omega)) myX5_mails vyX5_mails lm_RL_124 (hp_main _ _ _) rfl rfl 0 0 ⟨Nat.le_of_ble_eq_true rfl, Nat.le_of_ble_eq_true rfl⟩ ⟨Nat.le_of_ble_eq_true rfl, Nat.le_of_ble_eq_true rfl, Nat.le_of_ble_eq_true rfl, Nat.le_of_ble_eq_true rfl⟩ rfl (am_lv_ref (hp_main _ _ _) (am_lv_ref (hp_a _ _ _ (f := 0) (by decide)) (am_lv_ref (hp_a _ _ _ (f := 1) (by decide)) (am_lv_ref (hp_a _ _ _ (f := 2) (by decide)) (am_lv_ref (hp_a _ _ _ (f := 3) (by decide)) (am_lv_ref (hp_o _ _ _) (am_lv_ref (hp_a _ _ _ (f := 4) (by decide)) (am_lv_ref (hp_a _ _ _ (f := 5) (by decide)) (am_lv_ref (hp_a _ _ _ (f := 6) (by decide)) (am_lv_ref (hp_a _ _ _ (f := 7) (by decide)) (am_lv_int (am_lv_int (am_lv_int (am_lv_int (am_lv_int (am_lv_int am_lv_nil)))))))))))))))) (Nat.le_of_ble_eq_true rfl) dL_same_593 [.int (nI m)] rfl ?_
                    refine am_go hF sgL_same_596_8e685 599 [(0, .ref 0), (1, .ref 500), (2, .ref 501), (3, .ref 502), (4, .ref 503), (5, .ref 464), (6, .ref 504), (7, .ref 505), (8, .ref 506), (9, .ref 507), (10, .int (nI l)), (11, .int (nI d)), (12, .int (itN (thl T) 0 m)), (13, .int (nI (15 * l + d))), (14, .int (itN (lsz S (15 * l + d)) 0 10)), (15, .int (nI j))] [.int 2, .ref 507, .int (nI m)] sgL_same_596_8e685d rfl ?_
                    refine sv_iald hF 7 2 0 72 (by decide) (by decide) rfl rfl (show 3 * 0 + 2 < 3 by omega) (by decide) dL_same_599 ?_
                    refine am_top (nI m) a5 ?_
                    refine am_icmpne hF 607 dL_same_600 (by decide) (fun h9 => False.elim (absurd rfl h9)) (fun _ => ?_)
                    refine am_go hF sgL_same_603_1c64c 608 [(0, .ref 0), (1, .ref 500), (2, .ref 501), (3, .ref 502), (4, .ref 503), (5, .ref 464), (6, .ref 504), (7, .ref 505), (8, .ref 506), (9, .ref 507), (10, .int (nI l)), (11, .int (nI d)), (12, .int (itN (thl T) 0 m)), (13, .int (nI (15 * l + d))), (14, .int (itN (lsz S (15 * l + d)) 0 10)), (15, .int (nI j))] [.int 1] sgL_same_603_1c64cd rfl ?_
                    exact am_iret hF hO hret rfl dL_same_608 ⟨rfl, rfl⟩
                | succ zz ih471 =>
                  intro j hj
                  have l9j : j < 10 := by omega
                  refine am_go hF sgL_same_471_26eac 475 [(0, .ref 0), (1, .ref 500), (2, .ref 501), (3, .ref 502), (4, .ref 503), (5, .ref 464), (6, .ref 504), (7, .ref 505), (8, .ref 506), (9, .ref 507), (10, .int (nI l)), (11, .int (nI d)), (12, .int (itN (thl T) 0 m)), (13, .int (nI (15 * l + d))), (14, .int (itN (lsz S (15 * l + d)) 0 j)), (15, .int (nI j))] [.int 10, .int (nI j)] sgL_same_471_26eacd rfl ?_
                  refine am_icmpge hF 520 dL_same_475 (by decide) (fun h9 => False.elim (nc_lt_f (show j < 10 by omega) (by omega) (by omega) rfl rfl h9)) (fun _ => ?_)
                  refine am_go hF sgL_same_478_7d297 482 [(0, .ref 0), (1, .ref 500), (2, .ref 501), (3, .ref 502), (4, .ref 503), (5, .ref 464), (6, .ref 504), (7, .ref 505), (8, .ref 506), (9, .ref 507), (10, .int (nI l)), (11, .int (nI d)), (12, .int (itN (thl T) 0 m)), (13, .int (nI (15 * l + d))), (14, .int (itN (lsz S (15 * l + d)) 0 j)), (15, .int (nI j))] [.int (nI (15 * l + d)), .ref 506] sgL_same_478_7d297d rfl ?_
                  refine sv_iald1 hF 6 (15 * l + d) 60 (by decide) rfl rfl rfl (show 15 * l + d < 60 by omega) (by decide) dL_same_482 ?_
                  refine am_go hF sgL_same_483_af961 488 [(0, .ref 0), (1, .ref 500), (2, .ref 501), (3, .ref 502), (4, .ref 503), (5, .ref 464), (6, .ref 504), (7, .ref 505), (8, .ref 506), (9, .ref 507), (10, .int (nI l)), (11, .int (nI d)), (12, .int (itN (thl T) 0 m)), (13, .int (nI (15 * l + d))), (14, .int (itN (lsz S (15 * l + d)) 0 j)), (15, .int (nI j))] [.int (((S 60 (15 * l + d)) >>> ((nI j) &&& 31)) &&& 1)] sgL_same_483_af961d rfl ?_
                  refine am_ifne hF 494 dL_same_488 (by decide) (fun c1 => ?_) (fun c1 => ?_)
                  · skip
                    obtain ⟨hkm, hin⟩ := (q_bit h (k := j) (by omega) hl hd).mp c1
                    refine am_go hF sgL_same_494_60104 501 [(0, .ref 0), (1, .ref 500), (2, .ref 501), (3, .ref 502), (4, .ref 503), (5, .ref 464), (6, .ref 504), (7, .ref 505), (8, .ref 506), (9, .ref 507), (10, .int (nI l)), (11, .int (nI d)), (12, .int (itN (thl T) 0 m)), (13, .int (nI (15 * l + d))), (14, .int (itN (lsz S (15 * l + d)) 0 j)), (15, .int (nI j))] [.int (itN (lsz S (15 * l + d)) 0 j), .int (nI d), .int (nI l), .ref 0] sgL_same_494_60104d rfl ?_
                    refine am_dV hF hO [.int (nI l), .int (nI d), .int (itN (lsz S (15 * l + d)) 0 j)] [] (c_p_digest_n a1 (by omega) a4 (by omega) a7 (by omega) (hday hB) a9 (by omega) hl hd hkm hin (sz_eq h hl hd j (by omega)).symm (fun i hi hin2 e9 => by have h1 := nsz_lt T l (nI d) hin2 hi; have h2 := nsz_le T l (nI d) j; rw [sz_eq h hl hd j (by omega), nsz_eq, nsz_eq] at e9; have := (nI_eq (by omega) (by omega)).mp e9; omega)) myX5_digest vyX5_digest lm_RL_108 (hp_main _ _ _) rfl rfl 0 0 ⟨Nat.le_of_ble_eq_true rfl, Nat.le_of_ble_eq_true rfl⟩ ⟨Nat.le_of_ble_eq_true rfl, Nat.le_of_ble_eq_true rfl, Nat.le_of_ble_eq_true rfl, Nat.le_of_ble_eq_true rfl⟩ rfl (am_lv_ref (hp_main _ _ _) (am_lv_ref (hp_a _ _ _ (f := 0) (by decide)) (am_lv_ref (hp_a _ _ _ (f := 1) (by decide)) (am_lv_ref (hp_a _ _ _ (f := 2) (by decide)) (am_lv_ref (hp_a _ _ _ (f := 3) (by decide)) (am_lv_ref (hp_o _ _ _) (am_lv_ref (hp_a _ _ _ (f := 4) (by decide)) (am_lv_ref (hp_a _ _ _ (f := 5) (by decide)) (am_lv_ref (hp_a _ _ _ (f := 6) (by decide)) (am_lv_ref (hp_a _ _ _ (f := 7) (by decide)) (am_lv_int (am_lv_int (am_lv_int (am_lv_int (am_lv_int (am_lv_int am_lv_nil)))))))))))))))) (Nat.le_of_ble_eq_true rfl) dL_same_501 [.int (nI j)] rfl ?_
                    refine am_go hF sgL_same_504_63431 506 [(0, .ref 0), (1, .ref 500), (2, .ref 501), (3, .ref 502), (4, .ref 503), (5, .ref 464), (6, .ref 504), (7, .ref 505), (8, .ref 506), (9, .ref 507), (10, .int (nI l)), (11, .int (nI d)), (12, .int (itN (thl T) 0 m)), (13, .int (nI (15 * l + d))), (14, .int (itN (lsz S (15 * l + d)) 0 j)), (15, .int (nI j))] [.int (nI j), .int (nI j)] sgL_same_504_63431d rfl ?_
                    refine am_icmpeq hF 511 dL_same_506 (by decide) (fun _ => ?_) (fun h9 => False.elim (absurd rfl h9))
                    refine am_go hF sgL_same_511_0d592 471 [(15, .int ((nI j) + 1)), (14, .int ((itN (lsz S (15 * l + d)) 0 j) + 1)), (0, .ref 0), (1, .ref 500), (2, .ref 501), (3, .ref 502), (4, .ref 503), (5, .ref 464), (6, .ref 504), (7, .ref 505), (8, .ref 506), (9, .ref 507), (10, .int (nI l)), (11, .int (nI d)), (12, .int (itN (thl T) 0 m)), (13, .int (nI (15 * l + d)))] [] sgL_same_511_0d592d rfl ?_
                    refine am_drop [2, 3, 4, 5, 6, 7, 8, 9, 10, 11, 12, 13, 14, 15, 1, 0] [(0, .ref 0), (1, .ref 500), (2, .ref 501), (3, .ref 502), (4, .ref 503), (5, .ref 464), (6, .ref 504), (7, .ref 505), (8, .ref 506), (9, .ref 507), (10, .int (nI l)), (11, .int (nI d)), (12, .int (itN (thl T) 0 m)), (13, .int (nI (15 * l + d))), (14, .int ((itN (lsz S (15 * l + d)) 0 j) + 1)), (15, .int ((nI j) + 1))] rfl ?_
                    refine am_eqL [(0, .ref 0), (1, .ref 500), (2, .ref 501), (3, .ref 502), (4, .ref 503), (5, .ref 464), (6, .ref 504), (7, .ref 505), (8, .ref 506), (9, .ref 507), (10, .int (nI l)), (11, .int (nI d)), (12, .int (itN (thl T) 0 m)), (13, .int (nI (15 * l + d))), (14, .int ((itN (lsz S (15 * l + d)) 0 j) + 1)), (15, .int (nI (j + 1)))] (by first | rfl | (rw [nI_1]; done) | (simp only [nI_1]; done)) ?_
                    refine am_eqL [(0, .ref 0), (1, .ref 500), (2, .ref 501), (3, .ref 502), (4, .ref 503), (5, .ref 464), (6, .ref 504), (7, .ref 505), (8, .ref 506), (9, .ref 507), (10, .int (nI l)), (11, .int (nI d)), (12, .int (itN (thl T) 0 m)), (13, .int (nI (15 * l + d))), (14, .int (itN (lsz S (15 * l + d)) 0 (j + 1))), (15, .int (nI (j + 1)))] (by rw [show itN (lsz S (15 * l + d)) 0 (j + 1) = itN (lsz S (15 * l + d)) 0 j + 1 from if_neg c1]) ?_
                    exact ih471 (j + 1) (by omega)
                  · skip
                    refine am_go hF sgL_same_491_4a32e 471 [(15, .int ((nI j) + 1)), (0, .ref 0), (1, .ref 500), (2, .ref 501), (3, .ref 502), (4, .ref 503), (5, .ref 464), (6, .ref 504), (7, .ref 505), (8, .ref 506), (9, .ref 507), (10, .int (nI l)), (11, .int (nI d)), (12, .int (itN (thl T) 0 m)), (13, .int (nI (15 * l + d))), (14, .int (itN (lsz S (15 * l + d)) 0 j))] [] sgL_same_491_4a32ed rfl ?_
                    refine am_drop [1, 2, 3, 4, 5, 6, 7, 8, 9, 10, 11, 12, 13, 14, 15, 0] [(0, .ref 0), (1, .ref 500), (2, .ref 501), (3, .ref 502), (4, .ref 503), (5, .ref 464), (6, .ref 504), (7, .ref 505), (8, .ref 506), (9, .ref 507), (10, .int (nI l)), (11, .int (nI d)), (12, .int (itN (thl T) 0 m)), (13, .int (nI (15 * l + d))), (14, .int (itN (lsz S (15 * l + d)) 0 j)), (15, .int ((nI j) + 1))] rfl ?_
                    refine am_eqL [(0, .ref 0), (1, .ref 500), (2, .ref 501), (3, .ref 502), (4, .ref 503), (5, .ref 464), (6, .ref 504), (7, .ref 505), (8, .ref 506), (9, .ref 507), (10, .int (nI l)), (11, .int (nI d)), (12, .int (itN (thl T) 0 m)), (13, .int (nI (15 * l + d))), (14, .int (itN (lsz S (15 * l + d)) 0 j)), (15, .int (nI (j + 1)))] (by first | rfl | (rw [nI_1]; done) | (simp only [nI_1]; done)) ?_
                    refine am_eqL [(0, .ref 0), (1, .ref 500), (2, .ref 501), (3, .ref 502), (4, .ref 503), (5, .ref 464), (6, .ref 504), (7, .ref 505), (8, .ref 506), (9, .ref 507), (10, .int (nI l)), (11, .int (nI d)), (12, .int (itN (thl T) 0 m)), (13, .int (nI (15 * l + d))), (14, .int (itN (lsz S (15 * l + d)) 0 (j + 1))), (15, .int (nI (j + 1)))] (by rw [show itN (lsz S (15 * l + d)) 0 (j + 1) = itN (lsz S (15 * l + d)) 0 j from if_pos c1]) ?_
                    exact ih471 (j + 1) (by omega)
              exact lp471 (10) 0 (by omega)
            | succ zz ih263 =>
              intro j hj
              have l9j : j < 8 := by omega
              refine am_go hF sgL_same_263_f2cce 267 [(0, .ref 0), (1, .ref 500), (2, .ref 501), (3, .ref 502), (4, .ref 503), (5, .ref 464), (6, .ref 504), (7, .ref 505), (8, .ref 506), (9, .ref 507), (10, .int (nI l)), (11, .int (nI d)), (12, .int (itN (thl T) 0 m)), (13, .int (nI j))] [.int 8, .int (nI j)] sgL_same_263_f2cced rfl ?_
              refine am_icmpge hF 448 dL_same_267 (by decide) (fun h9 => False.elim (nc_lt_f (show j < 8 by omega) (by omega) (by omega) rfl rfl h9)) (fun _ => ?_)
              obtain ⟨e5, -, e6, -, e7, -, e8, b, hb10, e33, hpk⟩ := hB.2.1.1 j (show j < 8 by omega)
              refine am_go hF sgL_same_270_2d860 273 [(0, .ref 0), (1, .ref 500), (2, .ref 501), (3, .ref 502), (4, .ref 503), (5, .ref 464), (6, .ref 504), (7, .ref 505), (8, .ref 506), (9, .ref 507), (10, .int (nI l)), (11, .int (nI d)), (12, .int (itN (thl T) 0 m)), (13, .int (nI j))] [.int (nI j), .ref 0] sgL_same_270_2d860d rfl ?_
              refine am_dV hF hO [.int (nI j)] [] (c_p_weight_n (show j < 16 by omega)) myX5_weight vyX5_weight lm_RL_88 (hp_main _ _ _) rfl rfl 0 0 ⟨Nat.le_of_ble_eq_true rfl, Nat.le_of_ble_eq_true rfl⟩ ⟨Nat.le_of_ble_eq_true rfl, Nat.le_of_ble_eq_true rfl, Nat.le_of_ble_eq_true rfl, Nat.le_of_ble_eq_true rfl⟩ rfl (am_lv_ref (hp_main _ _ _) (am_lv_ref (hp_a _ _ _ (f := 0) (by decide)) (am_lv_ref (hp_a _ _ _ (f := 1) (by decide)) (am_lv_ref (hp_a _ _ _ (f := 2) (by decide)) (am_lv_ref (hp_a _ _ _ (f := 3) (by decide)) (am_lv_ref (hp_o _ _ _) (am_lv_ref (hp_a _ _ _ (f := 4) (by decide)) (am_lv_ref (hp_a _ _ _ (f := 5) (by decide)) (am_lv_ref (hp_a _ _ _ (f := 6) (by decide)) (am_lv_ref (hp_a _ _ _ (f := 7) (by decide)) (am_lv_int (am_lv_int (am_lv_int (am_lv_int am_lv_nil)))))))))))))) (Nat.le_of_ble_eq_true rfl) dL_same_273 [.int (T 5 j)] rfl ?_
              refine am_top (S 30 j) e5 ?_
              refine am_go hF sgL_same_276_30bbc 282 [(0, .ref 0), (1, .ref 500), (2, .ref 501), (3, .ref 502), (4, .ref 503), (5, .ref 464), (6, .ref 504), (7, .ref 505), (8, .ref 506), (9, .ref 507), (10, .int (nI l)), (11, .int (nI d)), (12, .int (itN (thl T) 0 m)), (13, .int (nI j))] [.int (4 * (nI j)), .ref 503, .int (S 30 j)] sgL_same_276_30bbcd rfl ?_
              refine sv_iald hF 3 0 j 30 (by decide) (by decide) rfl (am_mu rfl rfl) (show 4 * j + 0 < 32 by omega) (by decide) dL_same_282 ?_
              refine am_icmpne hF 340 dL_same_283 (by decide) (fun h9 => False.elim (absurd rfl h9)) (fun _ => ?_)
              refine am_go hF sgL_same_286_2d860 289 [(0, .ref 0), (1, .ref 500), (2, .ref 501), (3, .ref 502), (4, .ref 503), (5, .ref 464), (6, .ref 504), (7, .ref 505), (8, .ref 506), (9, .ref 507), (10, .int (nI l)), (11, .int (nI d)), (12, .int (itN (thl T) 0 m)), (13, .int (nI j))] [.int (nI j), .ref 0] sgL_same_286_2d860d rfl ?_
              refine am_dV hF hO [.int (nI j)] [] (c_p_judged_n (show j < 16 by omega)) myX5_judged vyX5_judged lm_RL_91 (hp_main _ _ _) rfl rfl 0 0 ⟨Nat.le_of_ble_eq_true rfl, Nat.le_of_ble_eq_true rfl⟩ ⟨Nat.le_of_ble_eq_true rfl, Nat.le_of_ble_eq_true rfl, Nat.le_of_ble_eq_true rfl, Nat.le_of_ble_eq_true rfl⟩ rfl (am_lv_ref (hp_main _ _ _) (am_lv_ref (hp_a _ _ _ (f := 0) (by decide)) (am_lv_ref (hp_a _ _ _ (f := 1) (by decide)) (am_lv_ref (hp_a _ _ _ (f := 2) (by decide)) (am_lv_ref (hp_a _ _ _ (f := 3) (by decide)) (am_lv_ref (hp_o _ _ _) (am_lv_ref (hp_a _ _ _ (f := 4) (by decide)) (am_lv_ref (hp_a _ _ _ (f := 5) (by decide)) (am_lv_ref (hp_a _ _ _ (f := 6) (by decide)) (am_lv_ref (hp_a _ _ _ (f := 7) (by decide)) (am_lv_int (am_lv_int (am_lv_int (am_lv_int am_lv_nil)))))))))))))) (Nat.le_of_ble_eq_true rfl) dL_same_289 [.int (T 6 j)] rfl ?_
              refine am_top (S 31 j) e6 ?_
              refine am_go hF sgL_same_292_dc456 300 [(0, .ref 0), (1, .ref 500), (2, .ref 501), (3, .ref 502), (4, .ref 503), (5, .ref 464), (6, .ref 504), (7, .ref 505), (8, .ref 506), (9, .ref 507), (10, .int (nI l)), (11, .int (nI d)), (12, .int (itN (thl T) 0 m)), (13, .int (nI j))] [.int ((4 * (nI j)) + 1), .ref 503, .int (S 31 j)] sgL_same_292_dc456d rfl ?_
              refine sv_iald hF 3 1 j 31 (by decide) (by decide) rfl (am_ad (am_mu rfl rfl) rfl) (show 4 * j + 1 < 32 by omega) (by decide) dL_same_300 ?_
              refine am_icmpne hF 340 dL_same_301 (by decide) (fun h9 => False.elim (absurd rfl h9)) (fun _ => ?_)
              refine am_go hF sgL_same_304_2d860 307 [(0, .ref 0), (1, .ref 500), (2, .ref 501), (3, .ref 502), (4, .ref 503), (5, .ref 464), (6, .ref 504), (7, .ref 505), (8, .ref 506), (9, .ref 507), (10, .int (nI l)), (11, .int (nI d)), (12, .int (itN (thl T) 0 m)), (13, .int (nI j))] [.int (nI j), .ref 0] sgL_same_304_2d860d rfl ?_
              refine am_dV hF hO [.int (nI j)] [] (c_p_bounces_n (show j < 16 by omega)) myX5_bounces vyX5_bounces lm_RL_94 (hp_main _ _ _) rfl rfl 0 0 ⟨Nat.le_of_ble_eq_true rfl, Nat.le_of_ble_eq_true rfl⟩ ⟨Nat.le_of_ble_eq_true rfl, Nat.le_of_ble_eq_true rfl, Nat.le_of_ble_eq_true rfl, Nat.le_of_ble_eq_true rfl⟩ rfl (am_lv_ref (hp_main _ _ _) (am_lv_ref (hp_a _ _ _ (f := 0) (by decide)) (am_lv_ref (hp_a _ _ _ (f := 1) (by decide)) (am_lv_ref (hp_a _ _ _ (f := 2) (by decide)) (am_lv_ref (hp_a _ _ _ (f := 3) (by decide)) (am_lv_ref (hp_o _ _ _) (am_lv_ref (hp_a _ _ _ (f := 4) (by decide)) (am_lv_ref (hp_a _ _ _ (f := 5) (by decide)) (am_lv_ref (hp_a _ _ _ (f := 6) (by decide)) (am_lv_ref (hp_a _ _ _ (f := 7) (by decide)) (am_lv_int (am_lv_int (am_lv_int (am_lv_int am_lv_nil)))))))))))))) (Nat.le_of_ble_eq_true rfl) dL_same_307 [.int (T 7 j)] rfl ?_
              refine am_top (S 32 j) e7 ?_
              refine am_go hF sgL_same_310_a2f12 318 [(0, .ref 0), (1, .ref 500), (2, .ref 501), (3, .ref 502), (4, .ref 503), (5, .ref 464), (6, .ref 504), (7, .ref 505), (8, .ref 506), (9, .ref 507), (10, .int (nI l)), (11, .int (nI d)), (12, .int (itN (thl T) 0 m)), (13, .int (nI j))] [.int ((4 * (nI j)) + 2), .ref 503, .int (S 32 j)] sgL_same_310_a2f12d rfl ?_
              refine sv_iald hF 3 2 j 32 (by decide) (by decide) rfl (am_ad (am_mu rfl rfl) rfl) (show 4 * j + 2 < 32 by omega) (by decide) dL_same_318 ?_
              refine am_icmpne hF 340 dL_same_319 (by decide) (fun h9 => False.elim (absurd rfl h9)) (fun _ => ?_)
              refine am_go hF sgL_same_322_2d860 325 [(0, .ref 0), (1, .ref 500), (2, .ref 501), (3, .ref 502), (4, .ref 503), (5, .ref 464), (6, .ref 504), (7, .ref 505), (8, .ref 506), (9, .ref 507), (10, .int (nI l)), (11, .int (nI d)), (12, .int (itN (thl T) 0 m)), (13, .int (nI j))] [.int (nI j), .ref 0] sgL_same_322_2d860d rfl ?_
              refine am_dV hF hO [.int (nI j)] [] (c_p_box_n (show j < 16 by omega)) myX5_box vyX5_box lm_RL_97 (hp_main _ _ _) rfl rfl 0 0 ⟨Nat.le_of_ble_eq_true rfl, Nat.le_of_ble_eq_true rfl⟩ ⟨Nat.le_of_ble_eq_true rfl, Nat.le_of_ble_eq_true rfl, Nat.le_of_ble_eq_true rfl, Nat.le_of_ble_eq_true rfl⟩ rfl (am_lv_ref (hp_main _ _ _) (am_lv_ref (hp_a _ _ _ (f := 0) (by decide)) (am_lv_ref (hp_a _ _ _ (f := 1) (by decide)) (am_lv_ref (hp_a _ _ _ (f := 2) (by decide)) (am_lv_ref (hp_a _ _ _ (f := 3) (by decide)) (am_lv_ref (hp_o _ _ _) (am_lv_ref (hp_a _ _ _ (f := 4) (by decide)) (am_lv_ref (hp_a _ _ _ (f := 5) (by decide)) (am_lv_ref (hp_a _ _ _ (f := 6) (by decide)) (am_lv_ref (hp_a _ _ _ (f := 7) (by decide)) (am_lv_int (am_lv_int (am_lv_int (am_lv_int am_lv_nil)))))))))))))) (Nat.le_of_ble_eq_true rfl) dL_same_325 [.int (T 8 j)] rfl ?_
              refine am_top (S 33 j) e8 ?_
              refine am_go hF sgL_same_328_71d24 336 [(0, .ref 0), (1, .ref 500), (2, .ref 501), (3, .ref 502), (4, .ref 503), (5, .ref 464), (6, .ref 504), (7, .ref 505), (8, .ref 506), (9, .ref 507), (10, .int (nI l)), (11, .int (nI d)), (12, .int (itN (thl T) 0 m)), (13, .int (nI j))] [.int ((4 * (nI j)) + 3), .ref 503, .int (S 33 j)] sgL_same_328_71d24d rfl ?_
              refine sv_iald hF 3 3 j 33 (by decide) (by decide) rfl (am_ad (am_mu rfl rfl) rfl) (show 4 * j + 3 < 32 by omega) (by decide) dL_same_336 ?_
              refine am_icmpeq hF 342 dL_same_337 (by decide) (fun _ => ?_) (fun h9 => False.elim (absurd rfl h9))
              refine am_go hF sgL_same_342_2dd7f 345 [(14, .int 0), (0, .ref 0), (1, .ref 500), (2, .ref 501), (3, .ref 502), (4, .ref 503), (5, .ref 464), (6, .ref 504), (7, .ref 505), (8, .ref 506), (9, .ref 507), (10, .int (nI l)), (11, .int (nI d)), (12, .int (itN (thl T) 0 m)), (13, .int (nI j))] [] sgL_same_342_2dd7fd rfl ?_
              refine am_drop [1, 2, 3, 4, 5, 6, 7, 8, 9, 10, 11, 12, 13, 14, 0] [(0, .ref 0), (1, .ref 500), (2, .ref 501), (3, .ref 502), (4, .ref 503), (5, .ref 464), (6, .ref 504), (7, .ref 505), (8, .ref 506), (9, .ref 507), (10, .int (nI l)), (11, .int (nI d)), (12, .int (itN (thl T) 0 m)), (13, .int (nI j)), (14, .int 0)] rfl ?_
              have lp345 : ∀ (zz i : Nat), i + zz = b → am_W C (hp T S o) 0 0 345 [(0, .ref 0), (1, .ref 500), (2, .ref 501), (3, .ref 502), (4, .ref 503), (5, .ref 464), (6, .ref 504), (7, .ref 505), (8, .ref 506), (9, .ref 507), (10, .int (nI l)), (11, .int (nI d)), (12, .int (itN (thl T) 0 m)), (13, .int (nI j)), (14, .int (nI i))] [] := by
                intro zz
                induction zz with
                | zero =>
                  intro i hi
                  have e9i : i = b := by omega
                  refine am_go hF sgL_same_345_f06f3 355 [(0, .ref 0), (1, .ref 500), (2, .ref 501), (3, .ref 502), (4, .ref 503), (5, .ref 464), (6, .ref 504), (7, .ref 505), (8, .ref 506), (9, .ref 507), (10, .int (nI l)), (11, .int (nI d)), (12, .int (itN (thl T) 0 m)), (13, .int (nI j)), (14, .int (nI i))] [.int ((4 * (nI j)) + 3), .ref 503, .int (nI i)] sgL_same_345_f06f3d rfl ?_
                  refine sv_iald hF 3 3 j 33 (by decide) (by decide) rfl (am_ad (am_mu rfl rfl) rfl) (show 4 * j + 3 < 32 by omega) (by decide) dL_same_355 ?_
                  refine am_top (nI b) e33 ?_
                  refine am_icmpge hF 393 dL_same_356 (by decide) (fun _ => ?_) (fun h9 => False.elim (absurd (nc_ge (show b ≤ i by omega) (by omega) (by omega) rfl rfl) h9))
                  refine am_go hF sgL_same_393_be6b1 396 [(0, .ref 0), (1, .ref 500), (2, .ref 501), (3, .ref 502), (4, .ref 503), (5, .ref 464), (6, .ref 504), (7, .ref 505), (8, .ref 506), (9, .ref 507), (10, .int (nI l)), (11, .int (nI d)), (12, .int (itN (thl T) 0 m)), (13, .int (nI j)), (14, .int (nI i))] [.int 1, .ref 507] sgL_same_393_be6b1d rfl ?_
                  refine sv_iald hF 7 1 0 71 (by decide) (by decide) rfl rfl (show 3 * 0 + 1 < 3 by omega) (by decide) dL_same_396 ?_
                  refine am_top (nI n) a2 ?_
                  refine am_ifle hF 442 dL_same_397 (by decide) (fun h9 => False.elim (nc_gt_f (show 0 < n by omega) (by omega) (by omega) rfl rfl h9)) (fun _ => ?_)
                  refine am_go hF sgL_same_400_a2f8a 405 [(0, .ref 0), (1, .ref 500), (2, .ref 501), (3, .ref 502), (4, .ref 503), (5, .ref 464), (6, .ref 504), (7, .ref 505), (8, .ref 506), (9, .ref 507), (10, .int (nI l)), (11, .int (nI d)), (12, .int (itN (thl T) 0 m)), (13, .int (nI j)), (14, .int (nI i))] [.int (nI j), .int (nI l), .ref 500] sgL_same_400_a2f8ad rfl ?_
                  refine am_dS hF hO [.ref 500, .int (nI l), .int (nI j)] [] (c_way (show l < 4 by omega) (show j < 8 by omega)) myL_way syL_way lm_RL_19 rfl 0 0 ⟨Nat.le_of_ble_eq_true rfl, Nat.le_of_ble_eq_true rfl⟩ ⟨Nat.le_of_ble_eq_true rfl, Nat.le_of_ble_eq_true rfl, Nat.le_of_ble_eq_true rfl, Nat.le_of_ble_eq_true rfl⟩ rfl (am_lv_ref (hp_main _ _ _) (am_lv_ref (hp_a _ _ _ (f := 0) (by decide)) (am_lv_ref (hp_a _ _ _ (f := 1) (by decide)) (am_lv_ref (hp_a _ _ _ (f := 2) (by decide)) (am_lv_ref (hp_a _ _ _ (f := 3) (by decide)) (am_lv_ref (hp_o _ _ _) (am_lv_ref (hp_a _ _ _ (f := 4) (by decide)) (am_lv_ref (hp_a _ _ _ (f := 5) (by decide)) (am_lv_ref (hp_a _ _ _ (f := 6) (by decide)) (am_lv_ref (hp_a _ _ _ (f := 7) (by decide)) (am_lv_int (am_lv_int (am_lv_int (am_lv_int (am_lv_int am_lv_nil))))))))))))))) (Nat.le_of_ble_eq_true rfl) dL_same_405 [.int (lWay S l j)] rfl ?_
                  rcases qB_way hB hl (show j < 8 by omega) with ⟨w1, w2⟩ | ⟨w1, w2, w3⟩ | ⟨i9, hi9, w1, w2, w3⟩
                  · skip
                    refine am_top (-1) w1 ?_
                    refine am_go hF sgL_same_408_555c0 415 [(14, .int (-1)), (0, .ref 0), (1, .ref 500), (2, .ref 501), (3, .ref 502), (4, .ref 503), (5, .ref 464), (6, .ref 504), (7, .ref 505), (8, .ref 506), (9, .ref 507), (10, .int (nI l)), (11, .int (nI d)), (12, .int (itN (thl T) 0 m)), (13, .int (nI j))] [.int (nI j), .int (nI l), .ref 0] sgL_same_408_555c0d rfl ?_
                    refine am_dV hF hO [.int (nI l), .int (nI j)] [] (c_p_modeOf_n a1 (by omega) hl (show j < 16 by omega)) myX5_modeOf vyX5_modeOf lm_RL_105 (hp_main _ _ _) rfl rfl 0 0 ⟨Nat.le_of_ble_eq_true rfl, Nat.le_of_ble_eq_true rfl⟩ ⟨Nat.le_of_ble_eq_true rfl, Nat.le_of_ble_eq_true rfl, Nat.le_of_ble_eq_true rfl, Nat.le_of_ble_eq_true rfl⟩ rfl (am_lv_int (am_lv_ref (hp_main _ _ _) (am_lv_ref (hp_a _ _ _ (f := 0) (by decide)) (am_lv_ref (hp_a _ _ _ (f := 1) (by decide)) (am_lv_ref (hp_a _ _ _ (f := 2) (by decide)) (am_lv_ref (hp_a _ _ _ (f := 3) (by decide)) (am_lv_ref (hp_o _ _ _) (am_lv_ref (hp_a _ _ _ (f := 4) (by decide)) (am_lv_ref (hp_a _ _ _ (f := 5) (by decide)) (am_lv_ref (hp_a _ _ _ (f := 6) (by decide)) (am_lv_ref (hp_a _ _ _ (f := 7) (by decide)) (am_lv_int (am_lv_int (am_lv_int (am_lv_int am_lv_nil))))))))))))))) (Nat.le_of_ble_eq_true rfl) dL_same_415 [.int (tMode T n (tDown T n l) j)] rfl ?_
                    refine am_top (-1) (by unfold tMode; rw [if_pos w2]) ?_
                    refine am_go hF sgL_same_418_00397 420 [(14, .int (-1)), (0, .ref 0), (1, .ref 500), (2, .ref 501), (3, .ref 502), (4, .ref 503), (5, .ref 464), (6, .ref 504), (7, .ref 505), (8, .ref 506), (9, .ref 507), (10, .int (nI l)), (11, .int (nI d)), (12, .int (itN (thl T) 0 m)), (13, .int (nI j))] [.int (-1), .int (-1)] sgL_same_418_00397d rfl ?_
                    refine am_ifge hF 427 dL_same_420 (by decide) (fun h9 => False.elim (by revert h9; decide)) (fun _ => ?_)
                    refine am_go hF sgL_same_423_f1ec3 437 [(14, .int (-1)), (0, .ref 0), (1, .ref 500), (2, .ref 501), (3, .ref 502), (4, .ref 503), (5, .ref 464), (6, .ref 504), (7, .ref 505), (8, .ref 506), (9, .ref 507), (10, .int (nI l)), (11, .int (nI d)), (12, .int (itN (thl T) 0 m)), (13, .int (nI j))] [.int (-1), .int (-1)] sgL_same_423_f1ec3d rfl ?_
                    refine am_icmpeq hF 442 dL_same_437 (by decide) (fun _ => ?_) (fun h9 => False.elim (absurd rfl h9))
                    refine am_go hF sgL_same_442_05e92 263 [(13, .int ((nI j) + 1)), (14, .int (-1)), (0, .ref 0), (1, .ref 500), (2, .ref 501), (3, .ref 502), (4, .ref 503), (5, .ref 464), (6, .ref 504), (7, .ref 505), (8, .ref 506), (9, .ref 507), (10, .int (nI l)), (11, .int (nI d)), (12, .int (itN (thl T) 0 m))] [] sgL_same_442_05e92d rfl ?_
                    refine am_drop [2, 3, 4, 5, 6, 7, 8, 9, 10, 11, 12, 13, 14, 0] [(0, .ref 0), (1, .ref 500), (2, .ref 501), (3, .ref 502), (4, .ref 503), (5, .ref 464), (6, .ref 504), (7, .ref 505), (8, .ref 506), (9, .ref 507), (10, .int (nI l)), (11, .int (nI d)), (12, .int (itN (thl T) 0 m)), (13, .int ((nI j) + 1))] rfl ?_
                    refine am_eqL [(0, .ref 0), (1, .ref 500), (2, .ref 501), (3, .ref 502), (4, .ref 503), (5, .ref 464), (6, .ref 504), (7, .ref 505), (8, .ref 506), (9, .ref 507), (10, .int (nI l)), (11, .int (nI d)), (12, .int (itN (thl T) 0 m)), (13, .int (nI (j + 1)))] (by first | rfl | (rw [nI_1]; done) | (simp only [nI_1]; done)) ?_
                    exact ih263 (j + 1) (by omega)
                  · skip
                    refine am_top 0 w1 ?_
                    refine am_go hF sgL_same_408_555c0 415 [(14, .int 0), (0, .ref 0), (1, .ref 500), (2, .ref 501), (3, .ref 502), (4, .ref 503), (5, .ref 464), (6, .ref 504), (7, .ref 505), (8, .ref 506), (9, .ref 507), (10, .int (nI l)), (11, .int (nI d)), (12, .int (itN (thl T) 0 m)), (13, .int (nI j))] [.int (nI j), .int (nI l), .ref 0] sgL_same_408_555c0d rfl ?_
                    refine am_dV hF hO [.int (nI l), .int (nI j)] [] (c_p_modeOf_n a1 (by omega) hl (show j < 16 by omega)) myX5_modeOf vyX5_modeOf lm_RL_105 (hp_main _ _ _) rfl rfl 0 0 ⟨Nat.le_of_ble_eq_true rfl, Nat.le_of_ble_eq_true rfl⟩ ⟨Nat.le_of_ble_eq_true rfl, Nat.le_of_ble_eq_true rfl, Nat.le_of_ble_eq_true rfl, Nat.le_of_ble_eq_true rfl⟩ rfl (am_lv_int (am_lv_ref (hp_main _ _ _) (am_lv_ref (hp_a _ _ _ (f := 0) (by decide)) (am_lv_ref (hp_a _ _ _ (f := 1) (by decide)) (am_lv_ref (hp_a _ _ _ (f := 2) (by decide)) (am_lv_ref (hp_a _ _ _ (f := 3) (by decide)) (am_lv_ref (hp_o _ _ _) (am_lv_ref (hp_a _ _ _ (f := 4) (by decide)) (am_lv_ref (hp_a _ _ _ (f := 5) (by decide)) (am_lv_ref (hp_a _ _ _ (f := 6) (by decide)) (am_lv_ref (hp_a _ _ _ (f := 7) (by decide)) (am_lv_int (am_lv_int (am_lv_int (am_lv_int am_lv_nil))))))))))))))) (Nat.le_of_ble_eq_true rfl) dL_same_415 [.int (tMode T n (tDown T n l) j)] rfl ?_
                    refine am_top 0 w3 ?_
                    refine am_go hF sgL_same_418_00397 420 [(14, .int 0), (0, .ref 0), (1, .ref 500), (2, .ref 501), (3, .ref 502), (4, .ref 503), (5, .ref 464), (6, .ref 504), (7, .ref 505), (8, .ref 506), (9, .ref 507), (10, .int (nI l)), (11, .int (nI d)), (12, .int (itN (thl T) 0 m)), (13, .int (nI j))] [.int 0, .int 0] sgL_same_418_00397d rfl ?_
                    refine am_ifge hF 427 dL_same_420 (by decide) (fun _ => ?_) (fun h9 => False.elim (by revert h9; decide))
                    refine am_go hF sgL_same_427_00397 429 [(14, .int 0), (0, .ref 0), (1, .ref 500), (2, .ref 501), (3, .ref 502), (4, .ref 503), (5, .ref 464), (6, .ref 504), (7, .ref 505), (8, .ref 506), (9, .ref 507), (10, .int (nI l)), (11, .int (nI d)), (12, .int (itN (thl T) 0 m)), (13, .int (nI j))] [.int 0, .int 0] sgL_same_427_00397d rfl ?_
                    refine am_ifne hF 436 dL_same_429 (by decide) (fun h9 => False.elim (by revert h9; decide)) (fun _ => ?_)
                    refine am_go hF sgL_same_432_1cbe9 437 [(14, .int 0), (0, .ref 0), (1, .ref 500), (2, .ref 501), (3, .ref 502), (4, .ref 503), (5, .ref 464), (6, .ref 504), (7, .ref 505), (8, .ref 506), (9, .ref 507), (10, .int (nI l)), (11, .int (nI d)), (12, .int (itN (thl T) 0 m)), (13, .int (nI j))] [.int 0, .int 0] sgL_same_432_1cbe9d rfl ?_
                    refine am_icmpeq hF 442 dL_same_437 (by decide) (fun _ => ?_) (fun h9 => False.elim (absurd rfl h9))
                    refine am_go hF sgL_same_442_05e92 263 [(13, .int ((nI j) + 1)), (14, .int 0), (0, .ref 0), (1, .ref 500), (2, .ref 501), (3, .ref 502), (4, .ref 503), (5, .ref 464), (6, .ref 504), (7, .ref 505), (8, .ref 506), (9, .ref 507), (10, .int (nI l)), (11, .int (nI d)), (12, .int (itN (thl T) 0 m))] [] sgL_same_442_05e92d rfl ?_
                    refine am_drop [2, 3, 4, 5, 6, 7, 8, 9, 10, 11, 12, 13, 14, 0] [(0, .ref 0), (1, .ref 500), (2, .ref 501), (3, .ref 502), (4, .ref 503), (5, .ref 464), (6, .ref 504), (7, .ref 505), (8, .ref 506), (9, .ref 507), (10, .int (nI l)), (11, .int (nI d)), (12, .int (itN (thl T) 0 m)), (13, .int ((nI j) + 1))] rfl ?_
                    refine am_eqL [(0, .ref 0), (1, .ref 500), (2, .ref 501), (3, .ref 502), (4, .ref 503), (5, .ref 464), (6, .ref 504), (7, .ref 505), (8, .ref 506), (9, .ref 507), (10, .int (nI l)), (11, .int (nI d)), (12, .int (itN (thl T) 0 m)), (13, .int (nI (j + 1)))] (by first | rfl | (rw [nI_1]; done) | (simp only [nI_1]; done)) ?_
                    exact ih263 (j + 1) (by omega)
                  · skip
                    refine am_top (nI (i9 + 1)) w1 ?_
                    refine am_go hF sgL_same_408_555c0 415 [(14, .int (nI (i9 + 1))), (0, .ref 0), (1, .ref 500), (2, .ref 501), (3, .ref 502), (4, .ref 503), (5, .ref 464), (6, .ref 504), (7, .ref 505), (8, .ref 506), (9, .ref 507), (10, .int (nI l)), (11, .int (nI d)), (12, .int (itN (thl T) 0 m)), (13, .int (nI j))] [.int (nI j), .int (nI l), .ref 0] sgL_same_408_555c0d rfl ?_
                    refine am_dV hF hO [.int (nI l), .int (nI j)] [] (c_p_modeOf_n a1 (by omega) hl (show j < 16 by omega)) myX5_modeOf vyX5_modeOf lm_RL_105 (hp_main _ _ _) rfl rfl 0 0 ⟨Nat.le_of_ble_eq_true rfl, Nat.le_of_ble_eq_true rfl⟩ ⟨Nat.le_of_ble_eq_true rfl, Nat.le_of_ble_eq_true rfl, Nat.le_of_ble_eq_true rfl, Nat.le_of_ble_eq_true rfl⟩ rfl (am_lv_int (am_lv_ref (hp_main _ _ _) (am_lv_ref (hp_a _ _ _ (f := 0) (by decide)) (am_lv_ref (hp_a _ _ _ (f := 1) (by decide)) (am_lv_ref (hp_a _ _ _ (f := 2) (by decide)) (am_lv_ref (hp_a _ _ _ (f := 3) (by decide)) (am_lv_ref (hp_o _ _ _) (am_lv_ref (hp_a _ _ _ (f := 4) (by decide)) (am_lv_ref (hp_a _ _ _ (f := 5) (by decide)) (am_lv_ref (hp_a _ _ _ (f := 6) (by decide)) (am_lv_ref (hp_a _ _ _ (f := 7) (by decide)) (am_lv_int (am_lv_int (am_lv_int (am_lv_int am_lv_nil))))))))))))))) (Nat.le_of_ble_eq_true rfl) dL_same_415 [.int (tMode T n (tDown T n l) j)] rfl ?_
                    refine am_top 1 w3 ?_
                    refine am_go hF sgL_same_418_00397 420 [(14, .int (nI (i9 + 1))), (0, .ref 0), (1, .ref 500), (2, .ref 501), (3, .ref 502), (4, .ref 503), (5, .ref 464), (6, .ref 504), (7, .ref 505), (8, .ref 506), (9, .ref 507), (10, .int (nI l)), (11, .int (nI d)), (12, .int (itN (thl T) 0 m)), (13, .int (nI j))] [.int (nI (i9 + 1)), .int 1] sgL_same_418_00397d rfl ?_
                    refine am_ifge hF 427 dL_same_420 (by decide) (fun _ => ?_) (fun h9 => False.elim (absurd (nc_ge (show 0 ≤ i9 + 1 by omega) (by omega) (by omega) rfl rfl) h9))
                    refine am_go hF sgL_same_427_00397 429 [(14, .int (nI (i9 + 1))), (0, .ref 0), (1, .ref 500), (2, .ref 501), (3, .ref 502), (4, .ref 503), (5, .ref 464), (6, .ref 504), (7, .ref 505), (8, .ref 506), (9, .ref 507), (10, .int (nI l)), (11, .int (nI d)), (12, .int (itN (thl T) 0 m)), (13, .int (nI j))] [.int (nI (i9 + 1)), .int 1] sgL_same_427_00397d rfl ?_
                    refine am_ifne hF 436 dL_same_429 (by decide) (fun _ => ?_) (fun h9 => False.elim (absurd h9 (nc_ne (show i9 + 1 ≠ 0 by omega) (by omega) (by omega) rfl rfl)))
                    refine am_go hF sgL_same_436_4de0a 437 [(14, .int (nI (i9 + 1))), (0, .ref 0), (1, .ref 500), (2, .ref 501), (3, .ref 502), (4, .ref 503), (5, .ref 464), (6, .ref 504), (7, .ref 505), (8, .ref 506), (9, .ref 507), (10, .int (nI l)), (11, .int (nI d)), (12, .int (itN (thl T) 0 m)), (13, .int (nI j))] [.int 1, .int 1] sgL_same_436_4de0ad rfl ?_
                    refine am_icmpeq hF 442 dL_same_437 (by decide) (fun _ => ?_) (fun h9 => False.elim (absurd rfl h9))
                    refine am_go hF sgL_same_442_05e92 263 [(13, .int ((nI j) + 1)), (14, .int (nI (i9 + 1))), (0, .ref 0), (1, .ref 500), (2, .ref 501), (3, .ref 502), (4, .ref 503), (5, .ref 464), (6, .ref 504), (7, .ref 505), (8, .ref 506), (9, .ref 507), (10, .int (nI l)), (11, .int (nI d)), (12, .int (itN (thl T) 0 m))] [] sgL_same_442_05e92d rfl ?_
                    refine am_drop [2, 3, 4, 5, 6, 7, 8, 9, 10, 11, 12, 13, 14, 0] [(0, .ref 0), (1, .ref 500), (2, .ref 501), (3, .ref 502), (4, .ref 503), (5, .ref 464), (6, .ref 504), (7, .ref 505), (8, .ref 506), (9, .ref 507), (10, .int (nI l)), (11, .int (nI d)), (12, .int (itN (thl T) 0 m)), (13, .int ((nI j) + 1))] rfl ?_
                    refine am_eqL [(0, .ref 0), (1, .ref 500), (2, .ref 501), (3, .ref 502), (4, .ref 503), (5, .ref 464), (6, .ref 504), (7, .ref 505), (8, .ref 506), (9, .ref 507), (10, .int (nI l)), (11, .int (nI d)), (12, .int (itN (thl T) 0 m)), (13, .int (nI (j + 1)))] (by first | rfl | (rw [nI_1]; done) | (simp only [nI_1]; done)) ?_
                    exact ih263 (j + 1) (by omega)
                | succ zz ih345 =>
                  intro i hi
                  have l9i : i < b := by omega
                  refine am_go hF sgL_same_345_f06f3 355 [(0, .ref 0), (1, .ref 500), (2, .ref 501), (3, .ref 502), (4, .ref 503), (5, .ref 464), (6, .ref 504), (7, .ref 505), (8, .ref 506), (9, .ref 507), (10, .int (nI l)), (11, .int (nI d)), (12, .int (itN (thl T) 0 m)), (13, .int (nI j)), (14, .int (nI i))] [.int ((4 * (nI j)) + 3), .ref 503, .int (nI i)] sgL_same_345_f06f3d rfl ?_
                  refine sv_iald hF 3 3 j 33 (by decide) (by decide) rfl (am_ad (am_mu rfl rfl) rfl) (show 4 * j + 3 < 32 by omega) (by decide) dL_same_355 ?_
                  refine am_top (nI b) e33 ?_
                  refine am_icmpge hF 393 dL_same_356 (by decide) (fun h9 => False.elim (nc_lt_f (show i < b by omega) (by omega) (by omega) rfl rfl h9)) (fun _ => ?_)
                  refine am_go hF sgL_same_359_cf2dc 364 [(0, .ref 0), (1, .ref 500), (2, .ref 501), (3, .ref 502), (4, .ref 503), (5, .ref 464), (6, .ref 504), (7, .ref 505), (8, .ref 506), (9, .ref 507), (10, .int (nI l)), (11, .int (nI d)), (12, .int (itN (thl T) 0 m)), (13, .int (nI j)), (14, .int (nI i))] [.int (nI i), .int (nI j), .ref 0] sgL_same_359_cf2dcd rfl ?_
                  refine am_dV hF hO [.int (nI j), .int (nI i)] [] (c_p_mailAt_n (show j < 16 by omega) (e8.trans e33) hb10 (show i < b by omega)) myX5_mailAt vyX5_mailAt lm_RL_100 (hp_main _ _ _) rfl rfl 0 0 ⟨Nat.le_of_ble_eq_true rfl, Nat.le_of_ble_eq_true rfl⟩ ⟨Nat.le_of_ble_eq_true rfl, Nat.le_of_ble_eq_true rfl, Nat.le_of_ble_eq_true rfl, Nat.le_of_ble_eq_true rfl⟩ rfl (am_lv_ref (hp_main _ _ _) (am_lv_ref (hp_a _ _ _ (f := 0) (by decide)) (am_lv_ref (hp_a _ _ _ (f := 1) (by decide)) (am_lv_ref (hp_a _ _ _ (f := 2) (by decide)) (am_lv_ref (hp_a _ _ _ (f := 3) (by decide)) (am_lv_ref (hp_o _ _ _) (am_lv_ref (hp_a _ _ _ (f := 4) (by decide)) (am_lv_ref (hp_a _ _ _ (f := 5) (by decide)) (am_lv_ref (hp_a _ _ _ (f := 6) (by decide)) (am_lv_ref (hp_a _ _ _ (f := 7) (by decide)) (am_lv_int (am_lv_int (am_lv_int (am_lv_int (am_lv_int am_lv_nil))))))))))))))) (Nat.le_of_ble_eq_true rfl) dL_same_364 [.int (T 9 (10 * j + i))] rfl ?_
                  refine am_go hF sgL_same_367_a0499 371 [(0, .ref 0), (1, .ref 500), (2, .ref 501), (3, .ref 502), (4, .ref 503), (5, .ref 464), (6, .ref 504), (7, .ref 505), (8, .ref 506), (9, .ref 507), (10, .int (nI l)), (11, .int (nI d)), (12, .int (itN (thl T) 0 m)), (13, .int (nI j)), (14, .int (nI i))] [.int (nI j), .ref 464, .int (T 9 (10 * j + i))] sgL_same_367_a0499d rfl ?_
                  refine sv_lald hF j rfl (by omega) dL_same_371 ?_
                  refine am_go hF sgL_same_372_14ed6 377 [(0, .ref 0), (1, .ref 500), (2, .ref 501), (3, .ref 502), (4, .ref 503), (5, .ref 464), (6, .ref 504), (7, .ref 505), (8, .ref 506), (9, .ref 507), (10, .int (nI l)), (11, .int (nI d)), (12, .int (itN (thl T) 0 m)), (13, .int (nI j)), (14, .int (nI i))] [.long ((o j) >>> (((4 * (nI i)).toInt64) &&& 63)), .int (T 9 (10 * j + i))] sgL_same_372_14ed6d rfl ?_
                  refine am_ldc2 hF 15 (List.mem_cons_of_mem _ lk_RL_103) dL_same_377 ?_
                  refine am_go hF sgL_same_380_ef760 382 [(0, .ref 0), (1, .ref 500), (2, .ref 501), (3, .ref 502), (4, .ref 503), (5, .ref 464), (6, .ref 504), (7, .ref 505), (8, .ref 506), (9, .ref 507), (10, .int (nI l)), (11, .int (nI d)), (12, .int (itN (thl T) 0 m)), (13, .int (nI j)), (14, .int (nI i))] [.int ((((o j) >>> (((4 * (nI i)).toInt64) &&& 63)) &&& 15).toInt32), .int (T 9 (10 * j + i))] sgL_same_380_ef760d rfl ?_
                  refine am_icmpeq hF 387 dL_same_382 (by decide) (fun _ => ?_) (fun h9 => False.elim (absurd (mailAt_eq hB (show j < 8 by omega) e33 hb10 (show i < b by omega)) h9))
                  refine am_go hF sgL_same_387_efa57 345 [(14, .int ((nI i) + 1)), (0, .ref 0), (1, .ref 500), (2, .ref 501), (3, .ref 502), (4, .ref 503), (5, .ref 464), (6, .ref 504), (7, .ref 505), (8, .ref 506), (9, .ref 507), (10, .int (nI l)), (11, .int (nI d)), (12, .int (itN (thl T) 0 m)), (13, .int (nI j))] [] sgL_same_387_efa57d rfl ?_
                  refine am_drop [1, 2, 3, 4, 5, 6, 7, 8, 9, 10, 11, 12, 13, 14, 0] [(0, .ref 0), (1, .ref 500), (2, .ref 501), (3, .ref 502), (4, .ref 503), (5, .ref 464), (6, .ref 504), (7, .ref 505), (8, .ref 506), (9, .ref 507), (10, .int (nI l)), (11, .int (nI d)), (12, .int (itN (thl T) 0 m)), (13, .int (nI j)), (14, .int ((nI i) + 1))] rfl ?_
                  refine am_eqL [(0, .ref 0), (1, .ref 500), (2, .ref 501), (3, .ref 502), (4, .ref 503), (5, .ref 464), (6, .ref 504), (7, .ref 505), (8, .ref 506), (9, .ref 507), (10, .int (nI l)), (11, .int (nI d)), (12, .int (itN (thl T) 0 m)), (13, .int (nI j)), (14, .int (nI (i + 1)))] (by first | rfl | (rw [nI_1]; done) | (simp only [nI_1]; done)) ?_
                  exact ih345 (i + 1) (by omega)
              exact lp345 (b) 0 (by omega)
          exact lp263 (8) 0 (by omega)
        | succ zz ih56 =>
          intro j hj
          have l9j : j < m := by omega
          refine am_go hF sgL_same_56_1164d 61 [(0, .ref 0), (1, .ref 500), (2, .ref 501), (3, .ref 502), (4, .ref 503), (5, .ref 464), (6, .ref 504), (7, .ref 505), (8, .ref 506), (9, .ref 507), (10, .int (nI l)), (11, .int (nI d)), (12, .int (itN (thl T) 0 j)), (13, .int (nI j))] [.int 2, .ref 507, .int (nI j)] sgL_same_56_1164dd rfl ?_
          refine sv_iald hF 7 2 0 72 (by decide) (by decide) rfl rfl (show 3 * 0 + 2 < 3 by omega) (by decide) dL_same_61 ?_
          refine am_top (nI m) a5 ?_
          refine am_icmpge hF 260 dL_same_62 (by decide) (fun h9 => False.elim (nc_lt_f (show j < m by omega) (by omega) (by omega) rfl rfl h9)) (fun _ => ?_)
          have hkm : j < m := by omega
          obtain ⟨k18, k19, k10, k20, k11, k21, k12, k22, k23, k24, kl, k25, k26⟩ := hB.2.2.2.2.2.2.1 j hkm
          obtain ⟨b1, b2, b3, b4, b5, b6⟩ := hB.2.2.2.2.2.2.2.1 j hkm
          refine am_go hF sgL_same_65_dc750 73 [(0, .ref 0), (1, .ref 500), (2, .ref 501), (3, .ref 502), (4, .ref 503), (5, .ref 464), (6, .ref 504), (7, .ref 505), (8, .ref 506), (9, .ref 507), (10, .int (nI l)), (11, .int (nI d)), (12, .int (itN (thl T) 0 j)), (13, .int (nI j))] [.int ((6 * (nI j)) + 2), .ref 502] sgL_same_65_dc750d rfl ?_
          refine sv_iald hF 2 2 j 22 (by decide) (by decide) rfl (am_ad (am_mu rfl rfl) rfl) (show 6 * j + 2 < 60 by omega) (by decide) dL_same_73 ?_
          refine am_go hF sgL_same_74_800cc 75 [(0, .ref 0), (1, .ref 500), (2, .ref 501), (3, .ref 502), (4, .ref 503), (5, .ref 464), (6, .ref 504), (7, .ref 505), (8, .ref 506), (9, .ref 507), (10, .int (nI l)), (11, .int (nI d)), (12, .int (itN (thl T) 0 j)), (13, .int (nI j))] [.int 3, .int (S 22 j)] sgL_same_74_800ccd rfl ?_
          refine am_icmpne hF 82 dL_same_75 (by decide) (fun c1 => ?_) (fun c1 => ?_)
          · skip
            refine am_go hF sgL_same_82_2996a 95 [(14, .int 0), (0, .ref 0), (1, .ref 500), (2, .ref 501), (3, .ref 502), (4, .ref 503), (5, .ref 464), (6, .ref 504), (7, .ref 505), (8, .ref 506), (9, .ref 507), (10, .int (nI l)), (11, .int (nI d)), (12, .int (itN (thl T) 0 j)), (13, .int (nI j))] [.int ((6 * (nI j)) + 3), .ref 501, .int (itN (thl T) 0 j)] sgL_same_82_2996ad rfl ?_
            refine sv_iald hF 1 3 j 13 (by decide) (by decide) rfl (am_ad (am_mu rfl rfl) rfl) (show 6 * j + 3 < 60 by omega) (by decide) dL_same_95 ?_
            refine am_go hF sgL_same_96_4de0a 97 [(14, .int 0), (0, .ref 0), (1, .ref 500), (2, .ref 501), (3, .ref 502), (4, .ref 503), (5, .ref 464), (6, .ref 504), (7, .ref 505), (8, .ref 506), (9, .ref 507), (10, .int (nI l)), (11, .int (nI d)), (12, .int (itN (thl T) 0 j)), (13, .int (nI j))] [.int 1, .int (S 13 j), .int (itN (thl T) 0 j)] sgL_same_96_4de0ad rfl ?_
            refine am_icmpne hF 104 dL_same_97 (by decide) (fun c2 => ?_) (fun c2 => ?_)
            · skip
              refine am_go hF sgL_same_104_44594 106 [(14, .int 0), (0, .ref 0), (1, .ref 500), (2, .ref 501), (3, .ref 502), (4, .ref 503), (5, .ref 464), (6, .ref 504), (7, .ref 505), (8, .ref 506), (9, .ref 507), (10, .int (nI l)), (11, .int (nI d)), (12, .int (itN (thl T) 0 j)), (13, .int (nI j))] [.int ((itN (thl T) 0 j) + 0)] sgL_same_104_44594d rfl ?_
              refine am_top (itN (thl T) 0 (j + 1)) ((Int32.add_zero _).trans (if_neg (show ¬ T 25 j = 1 by rw [k25]; exact c2)).symm) ?_
              refine am_go hF sgL_same_106_80092 111 [(12, .int (itN (thl T) 0 (j + 1))), (14, .int 0), (0, .ref 0), (1, .ref 500), (2, .ref 501), (3, .ref 502), (4, .ref 503), (5, .ref 464), (6, .ref 504), (7, .ref 505), (8, .ref 506), (9, .ref 507), (10, .int (nI l)), (11, .int (nI d)), (13, .int (nI j))] [.int (nI j), .ref 0] sgL_same_106_80092d rfl ?_
              refine am_dV hF hO [.int (nI j)] [] (c_p_state_n a4 (by omega) hkm) myX5_state vyX5_state lm_RL_70 (hp_main _ _ _) rfl rfl 0 0 ⟨Nat.le_of_ble_eq_true rfl, Nat.le_of_ble_eq_true rfl⟩ ⟨Nat.le_of_ble_eq_true rfl, Nat.le_of_ble_eq_true rfl, Nat.le_of_ble_eq_true rfl, Nat.le_of_ble_eq_true rfl⟩ rfl (am_lv_int (am_lv_int (am_lv_ref (hp_main _ _ _) (am_lv_ref (hp_a _ _ _ (f := 0) (by decide)) (am_lv_ref (hp_a _ _ _ (f := 1) (by decide)) (am_lv_ref (hp_a _ _ _ (f := 2) (by decide)) (am_lv_ref (hp_a _ _ _ (f := 3) (by decide)) (am_lv_ref (hp_o _ _ _) (am_lv_ref (hp_a _ _ _ (f := 4) (by decide)) (am_lv_ref (hp_a _ _ _ (f := 5) (by decide)) (am_lv_ref (hp_a _ _ _ (f := 6) (by decide)) (am_lv_ref (hp_a _ _ _ (f := 7) (by decide)) (am_lv_int (am_lv_int (am_lv_int am_lv_nil))))))))))))))) (Nat.le_of_ble_eq_true rfl) dL_same_111 [.int (T 25 j)] rfl ?_
              refine am_top (S 13 j) k25 ?_
              refine am_go hF sgL_same_114_9e95a 122 [(12, .int (itN (thl T) 0 (j + 1))), (14, .int 0), (0, .ref 0), (1, .ref 500), (2, .ref 501), (3, .ref 502), (4, .ref 503), (5, .ref 464), (6, .ref 504), (7, .ref 505), (8, .ref 506), (9, .ref 507), (10, .int (nI l)), (11, .int (nI d)), (13, .int (nI j))] [.int ((6 * (nI j)) + 3), .ref 501, .int (S 13 j)] sgL_same_114_9e95ad rfl ?_
              refine sv_iald hF 1 3 j 13 (by decide) (by decide) rfl (am_ad (am_mu rfl rfl) rfl) (show 6 * j + 3 < 60 by omega) (by decide) dL_same_122 ?_
              refine am_icmpne hF 252 dL_same_123 (by decide) (fun h9 => False.elim (absurd rfl h9)) (fun _ => ?_)
              refine am_go hF sgL_same_126_2d860 129 [(12, .int (itN (thl T) 0 (j + 1))), (14, .int 0), (0, .ref 0), (1, .ref 500), (2, .ref 501), (3, .ref 502), (4, .ref 503), (5, .ref 464), (6, .ref 504), (7, .ref 505), (8, .ref 506), (9, .ref 507), (10, .int (nI l)), (11, .int (nI d)), (13, .int (nI j))] [.int (nI j), .ref 0] sgL_same_126_2d860d rfl ?_
              refine am_dV hF hO [.int (nI j)] [] (c_p_cause_n a4 (by omega) hkm) myX5_cause vyX5_cause lm_RL_73 (hp_main _ _ _) rfl rfl 0 0 ⟨Nat.le_of_ble_eq_true rfl, Nat.le_of_ble_eq_true rfl⟩ ⟨Nat.le_of_ble_eq_true rfl, Nat.le_of_ble_eq_true rfl, Nat.le_of_ble_eq_true rfl, Nat.le_of_ble_eq_true rfl⟩ rfl (am_lv_int (am_lv_int (am_lv_ref (hp_main _ _ _) (am_lv_ref (hp_a _ _ _ (f := 0) (by decide)) (am_lv_ref (hp_a _ _ _ (f := 1) (by decide)) (am_lv_ref (hp_a _ _ _ (f := 2) (by decide)) (am_lv_ref (hp_a _ _ _ (f := 3) (by decide)) (am_lv_ref (hp_o _ _ _) (am_lv_ref (hp_a _ _ _ (f := 4) (by decide)) (am_lv_ref (hp_a _ _ _ (f := 5) (by decide)) (am_lv_ref (hp_a _ _ _ (f := 6) (by decide)) (am_lv_ref (hp_a _ _ _ (f := 7) (by decide)) (am_lv_int (am_lv_int (am_lv_int am_lv_nil))))))))))))))) (Nat.le_of_ble_eq_true rfl) dL_same_129 [.int (T 23 j)] rfl ?_
              refine am_top (S 14 j) k23 ?_
              refine am_go hF sgL_same_132_03568 140 [(12, .int (itN (thl T) 0 (j + 1))), (14, .int 0), (0, .ref 0), (1, .ref 500), (2, .ref 501), (3, .ref 502), (4, .ref 503), (5, .ref 464), (6, .ref 504), (7, .ref 505), (8, .ref 506), (9, .ref 507), (10, .int (nI l)), (11, .int (nI d)), (13, .int (nI j))] [.int ((6 * (nI j)) + 4), .ref 501, .int (S 14 j)] sgL_same_132_03568d rfl ?_
              refine sv_iald hF 1 4 j 14 (by decide) (by decide) rfl (am_ad (am_mu rfl rfl) rfl) (show 6 * j + 4 < 60 by omega) (by decide) dL_same_140 ?_
              refine am_icmpne hF 252 dL_same_141 (by decide) (fun h9 => False.elim (absurd rfl h9)) (fun _ => ?_)
              refine am_go hF sgL_same_144_2d860 147 [(12, .int (itN (thl T) 0 (j + 1))), (14, .int 0), (0, .ref 0), (1, .ref 500), (2, .ref 501), (3, .ref 502), (4, .ref 503), (5, .ref 464), (6, .ref 504), (7, .ref 505), (8, .ref 506), (9, .ref 507), (10, .int (nI l)), (11, .int (nI d)), (13, .int (nI j))] [.int (nI j), .ref 0] sgL_same_144_2d860d rfl ?_
              refine am_dV hF hO [.int (nI j)] [] (c_p_reached_n a4 (by omega) hkm) myX5_reached vyX5_reached lm_RL_76 (hp_main _ _ _) rfl rfl 0 0 ⟨Nat.le_of_ble_eq_true rfl, Nat.le_of_ble_eq_true rfl⟩ ⟨Nat.le_of_ble_eq_true rfl, Nat.le_of_ble_eq_true rfl, Nat.le_of_ble_eq_true rfl, Nat.le_of_ble_eq_true rfl⟩ rfl (am_lv_int (am_lv_int (am_lv_ref (hp_main _ _ _) (am_lv_ref (hp_a _ _ _ (f := 0) (by decide)) (am_lv_ref (hp_a _ _ _ (f := 1) (by decide)) (am_lv_ref (hp_a _ _ _ (f := 2) (by decide)) (am_lv_ref (hp_a _ _ _ (f := 3) (by decide)) (am_lv_ref (hp_o _ _ _) (am_lv_ref (hp_a _ _ _ (f := 4) (by decide)) (am_lv_ref (hp_a _ _ _ (f := 5) (by decide)) (am_lv_ref (hp_a _ _ _ (f := 6) (by decide)) (am_lv_ref (hp_a _ _ _ (f := 7) (by decide)) (am_lv_int (am_lv_int (am_lv_int am_lv_nil))))))))))))))) (Nat.le_of_ble_eq_true rfl) dL_same_147 [.int (T 26 j)] rfl ?_
              refine am_top (S 15 j) k26 ?_
              refine am_go hF sgL_same_150_2be06 158 [(12, .int (itN (thl T) 0 (j + 1))), (14, .int 0), (0, .ref 0), (1, .ref 500), (2, .ref 501), (3, .ref 502), (4, .ref 503), (5, .ref 464), (6, .ref 504), (7, .ref 505), (8, .ref 506), (9, .ref 507), (10, .int (nI l)), (11, .int (nI d)), (13, .int (nI j))] [.int ((6 * (nI j)) + 5), .ref 501, .int (S 15 j)] sgL_same_150_2be06d rfl ?_
              refine sv_iald hF 1 5 j 15 (by decide) (by decide) rfl (am_ad (am_mu rfl rfl) rfl) (show 6 * j + 5 < 60 by omega) (by decide) dL_same_158 ?_
              refine am_icmpne hF 252 dL_same_159 (by decide) (fun h9 => False.elim (absurd rfl h9)) (fun _ => ?_)
              refine am_go hF sgL_same_162_2d860 165 [(12, .int (itN (thl T) 0 (j + 1))), (14, .int 0), (0, .ref 0), (1, .ref 500), (2, .ref 501), (3, .ref 502), (4, .ref 503), (5, .ref 464), (6, .ref 504), (7, .ref 505), (8, .ref 506), (9, .ref 507), (10, .int (nI l)), (11, .int (nI d)), (13, .int (nI j))] [.int (nI j), .ref 0] sgL_same_162_2d860d rfl ?_
              refine am_dV hF hO [.int (nI j)] [] (c_p_score_n a4 (by omega) hkm) myX5_score vyX5_score lm_RL_79 (hp_main _ _ _) rfl rfl 0 0 ⟨Nat.le_of_ble_eq_true rfl, Nat.le_of_ble_eq_true rfl⟩ ⟨Nat.le_of_ble_eq_true rfl, Nat.le_of_ble_eq_true rfl, Nat.le_of_ble_eq_true rfl, Nat.le_of_ble_eq_true rfl⟩ rfl (am_lv_int (am_lv_int (am_lv_ref (hp_main _ _ _) (am_lv_ref (hp_a _ _ _ (f := 0) (by decide)) (am_lv_ref (hp_a _ _ _ (f := 1) (by decide)) (am_lv_ref (hp_a _ _ _ (f := 2) (by decide)) (am_lv_ref (hp_a _ _ _ (f := 3) (by decide)) (am_lv_ref (hp_o _ _ _) (am_lv_ref (hp_a _ _ _ (f := 4) (by decide)) (am_lv_ref (hp_a _ _ _ (f := 5) (by decide)) (am_lv_ref (hp_a _ _ _ (f := 6) (by decide)) (am_lv_ref (hp_a _ _ _ (f := 7) (by decide)) (am_lv_int (am_lv_int (am_lv_int am_lv_nil))))))))))))))) (Nat.le_of_ble_eq_true rfl) dL_same_165 [.int (T 22 j)] rfl ?_
              refine am_top (S 20 j) k22 ?_
              refine am_go hF sgL_same_168_54758 174 [(12, .int (itN (thl T) 0 (j + 1))), (14, .int 0), (0, .ref 0), (1, .ref 500), (2, .ref 501), (3, .ref 502), (4, .ref 503), (5, .ref 464), (6, .ref 504), (7, .ref 505), (8, .ref 506), (9, .ref 507), (10, .int (nI l)), (11, .int (nI d)), (13, .int (nI j))] [.int (6 * (nI j)), .ref 502, .int (S 20 j)] sgL_same_168_54758d rfl ?_
              refine sv_iald hF 2 0 j 20 (by decide) (by decide) rfl (am_mu rfl rfl) (show 6 * j + 0 < 60 by omega) (by decide) dL_same_174 ?_
              refine am_icmpne hF 252 dL_same_175 (by decide) (fun h9 => False.elim (absurd rfl h9)) (fun _ => ?_)
              refine am_go hF sgL_same_178_2d860 181 [(12, .int (itN (thl T) 0 (j + 1))), (14, .int 0), (0, .ref 0), (1, .ref 500), (2, .ref 501), (3, .ref 502), (4, .ref 503), (5, .ref 464), (6, .ref 504), (7, .ref 505), (8, .ref 506), (9, .ref 507), (10, .int (nI l)), (11, .int (nI d)), (13, .int (nI j))] [.int (nI j), .ref 0] sgL_same_178_2d860d rfl ?_
              refine am_dV hF hO [.int (nI j)] [] (c_p_lapses_n a4 (by omega) hkm) myX5_lapses vyX5_lapses lm_RL_82 (hp_main _ _ _) rfl rfl 0 0 ⟨Nat.le_of_ble_eq_true rfl, Nat.le_of_ble_eq_true rfl⟩ ⟨Nat.le_of_ble_eq_true rfl, Nat.le_of_ble_eq_true rfl, Nat.le_of_ble_eq_true rfl, Nat.le_of_ble_eq_true rfl⟩ rfl (am_lv_int (am_lv_int (am_lv_ref (hp_main _ _ _) (am_lv_ref (hp_a _ _ _ (f := 0) (by decide)) (am_lv_ref (hp_a _ _ _ (f := 1) (by decide)) (am_lv_ref (hp_a _ _ _ (f := 2) (by decide)) (am_lv_ref (hp_a _ _ _ (f := 3) (by decide)) (am_lv_ref (hp_o _ _ _) (am_lv_ref (hp_a _ _ _ (f := 4) (by decide)) (am_lv_ref (hp_a _ _ _ (f := 5) (by decide)) (am_lv_ref (hp_a _ _ _ (f := 6) (by decide)) (am_lv_ref (hp_a _ _ _ (f := 7) (by decide)) (am_lv_int (am_lv_int (am_lv_int am_lv_nil))))))))))))))) (Nat.le_of_ble_eq_true rfl) dL_same_181 [.int (if T 25 j = 1 ∧ ¬ T 28 j = 1 then T 24 j else -1)] rfl ?_
              refine am_go hF sgL_same_184_9e95a 192 [(12, .int (itN (thl T) 0 (j + 1))), (14, .int 0), (0, .ref 0), (1, .ref 500), (2, .ref 501), (3, .ref 502), (4, .ref 503), (5, .ref 464), (6, .ref 504), (7, .ref 505), (8, .ref 506), (9, .ref 507), (10, .int (nI l)), (11, .int (nI d)), (13, .int (nI j))] [.int ((6 * (nI j)) + 3), .ref 501, .int (if T 25 j = 1 ∧ ¬ T 28 j = 1 then T 24 j else -1)] sgL_same_184_9e95ad rfl ?_
              refine sv_iald hF 1 3 j 13 (by decide) (by decide) rfl (am_ad (am_mu rfl rfl) rfl) (show 6 * j + 3 < 60 by omega) (by decide) dL_same_192 ?_
              refine am_go hF sgL_same_193_4de0a 194 [(12, .int (itN (thl T) 0 (j + 1))), (14, .int 0), (0, .ref 0), (1, .ref 500), (2, .ref 501), (3, .ref 502), (4, .ref 503), (5, .ref 464), (6, .ref 504), (7, .ref 505), (8, .ref 506), (9, .ref 507), (10, .int (nI l)), (11, .int (nI d)), (13, .int (nI j))] [.int 1, .int (S 13 j), .int (if T 25 j = 1 ∧ ¬ T 28 j = 1 then T 24 j else -1)] sgL_same_193_4de0ad rfl ?_
              refine am_icmpne hF 221 dL_same_194 (by decide) (fun _ => ?_) (fun h9 => False.elim (absurd h9 c2))
              refine am_go hF sgL_same_221_5ff24 222 [(12, .int (itN (thl T) 0 (j + 1))), (14, .int 0), (0, .ref 0), (1, .ref 500), (2, .ref 501), (3, .ref 502), (4, .ref 503), (5, .ref 464), (6, .ref 504), (7, .ref 505), (8, .ref 506), (9, .ref 507), (10, .int (nI l)), (11, .int (nI d)), (13, .int (nI j))] [.int (-1), .int (if T 25 j = 1 ∧ ¬ T 28 j = 1 then T 24 j else -1)] sgL_same_221_5ff24d rfl ?_
              refine am_icmpne hF 252 dL_same_222 (by decide) (fun h9 => False.elim (absurd (lap_n hB hkm (fun h8 => c2 h8.1)) h9)) (fun _ => ?_)
              refine am_go hF sgL_same_225_2d860 228 [(12, .int (itN (thl T) 0 (j + 1))), (14, .int 0), (0, .ref 0), (1, .ref 500), (2, .ref 501), (3, .ref 502), (4, .ref 503), (5, .ref 464), (6, .ref 504), (7, .ref 505), (8, .ref 506), (9, .ref 507), (10, .int (nI l)), (11, .int (nI d)), (13, .int (nI j))] [.int (nI j), .ref 0] sgL_same_225_2d860d rfl ?_
              refine am_dV hF hO [.int (nI j)] [] (c_p_jurors_n a4 (by omega) hkm) myX5_jurors vyX5_jurors lm_RL_85 (hp_main _ _ _) rfl rfl 0 0 ⟨Nat.le_of_ble_eq_true rfl, Nat.le_of_ble_eq_true rfl⟩ ⟨Nat.le_of_ble_eq_true rfl, Nat.le_of_ble_eq_true rfl, Nat.le_of_ble_eq_true rfl, Nat.le_of_ble_eq_true rfl⟩ rfl (am_lv_int (am_lv_int (am_lv_ref (hp_main _ _ _) (am_lv_ref (hp_a _ _ _ (f := 0) (by decide)) (am_lv_ref (hp_a _ _ _ (f := 1) (by decide)) (am_lv_ref (hp_a _ _ _ (f := 2) (by decide)) (am_lv_ref (hp_a _ _ _ (f := 3) (by decide)) (am_lv_ref (hp_o _ _ _) (am_lv_ref (hp_a _ _ _ (f := 4) (by decide)) (am_lv_ref (hp_a _ _ _ (f := 5) (by decide)) (am_lv_ref (hp_a _ _ _ (f := 6) (by decide)) (am_lv_ref (hp_a _ _ _ (f := 7) (by decide)) (am_lv_int (am_lv_int (am_lv_int am_lv_nil))))))))))))))) (Nat.le_of_ble_eq_true rfl) dL_same_228 [.int (if T 28 j = 1 then tAw T j else 0)] rfl ?_
              refine am_go hF sgL_same_231_00397 233 [(12, .int (itN (thl T) 0 (j + 1))), (14, .int 0), (0, .ref 0), (1, .ref 500), (2, .ref 501), (3, .ref 502), (4, .ref 503), (5, .ref 464), (6, .ref 504), (7, .ref 505), (8, .ref 506), (9, .ref 507), (10, .int (nI l)), (11, .int (nI d)), (13, .int (nI j))] [.int 0, .int (if T 28 j = 1 then tAw T j else 0)] sgL_same_231_00397d rfl ?_
              refine am_ifeq hF 248 dL_same_233 (by decide) (fun _ => ?_) (fun h9 => False.elim (by revert h9; decide))
              refine am_go hF sgL_same_248_56c54 249 [(12, .int (itN (thl T) 0 (j + 1))), (14, .int 0), (0, .ref 0), (1, .ref 500), (2, .ref 501), (3, .ref 502), (4, .ref 503), (5, .ref 464), (6, .ref 504), (7, .ref 505), (8, .ref 506), (9, .ref 507), (10, .int (nI l)), (11, .int (nI d)), (13, .int (nI j))] [.int 0, .int (if T 28 j = 1 then tAw T j else 0)] sgL_same_248_56c54d rfl ?_
              refine am_icmpeq hF 254 dL_same_249 (by decide) (fun _ => ?_) (fun h9 => False.elim (absurd (jur_n hB hkm c1) h9))
              refine am_go hF sgL_same_254_2e993 56 [(13, .int ((nI j) + 1)), (12, .int (itN (thl T) 0 (j + 1))), (14, .int 0), (0, .ref 0), (1, .ref 500), (2, .ref 501), (3, .ref 502), (4, .ref 503), (5, .ref 464), (6, .ref 504), (7, .ref 505), (8, .ref 506), (9, .ref 507), (10, .int (nI l)), (11, .int (nI d))] [] sgL_same_254_2e993d rfl ?_
              refine am_drop [3, 4, 5, 6, 7, 8, 9, 10, 11, 12, 13, 14, 1, 0] [(0, .ref 0), (1, .ref 500), (2, .ref 501), (3, .ref 502), (4, .ref 503), (5, .ref 464), (6, .ref 504), (7, .ref 505), (8, .ref 506), (9, .ref 507), (10, .int (nI l)), (11, .int (nI d)), (12, .int (itN (thl T) 0 (j + 1))), (13, .int ((nI j) + 1))] rfl ?_
              refine am_eqL [(0, .ref 0), (1, .ref 500), (2, .ref 501), (3, .ref 502), (4, .ref 503), (5, .ref 464), (6, .ref 504), (7, .ref 505), (8, .ref 506), (9, .ref 507), (10, .int (nI l)), (11, .int (nI d)), (12, .int (itN (thl T) 0 (j + 1))), (13, .int (nI (j + 1)))] (by first | rfl | (rw [nI_1]; done) | (simp only [nI_1]; done)) ?_
              exact ih56 (j + 1) (by omega)
            · skip
              refine am_go hF sgL_same_100_6f86b 106 [(14, .int 0), (0, .ref 0), (1, .ref 500), (2, .ref 501), (3, .ref 502), (4, .ref 503), (5, .ref 464), (6, .ref 504), (7, .ref 505), (8, .ref 506), (9, .ref 507), (10, .int (nI l)), (11, .int (nI d)), (12, .int (itN (thl T) 0 j)), (13, .int (nI j))] [.int ((itN (thl T) 0 j) + 1)] sgL_same_100_6f86bd rfl ?_
              refine am_top (itN (thl T) 0 (j + 1)) (if_pos (show T 25 j = 1 by rw [k25]; exact c2)).symm ?_
              have c3 : S 22 j = 0 := Decidable.not_not.mp (fun h8 => c1 (b4 c2 h8))
              refine am_go hF sgL_same_106_80092 111 [(12, .int (itN (thl T) 0 (j + 1))), (14, .int 0), (0, .ref 0), (1, .ref 500), (2, .ref 501), (3, .ref 502), (4, .ref 503), (5, .ref 464), (6, .ref 504), (7, .ref 505), (8, .ref 506), (9, .ref 507), (10, .int (nI l)), (11, .int (nI d)), (13, .int (nI j))] [.int (nI j), .ref 0] sgL_same_106_80092d rfl ?_
              refine am_dV hF hO [.int (nI j)] [] (c_p_state_n a4 (by omega) hkm) myX5_state vyX5_state lm_RL_70 (hp_main _ _ _) rfl rfl 0 0 ⟨Nat.le_of_ble_eq_true rfl, Nat.le_of_ble_eq_true rfl⟩ ⟨Nat.le_of_ble_eq_true rfl, Nat.le_of_ble_eq_true rfl, Nat.le_of_ble_eq_true rfl, Nat.le_of_ble_eq_true rfl⟩ rfl (am_lv_int (am_lv_int (am_lv_ref (hp_main _ _ _) (am_lv_ref (hp_a _ _ _ (f := 0) (by decide)) (am_lv_ref (hp_a _ _ _ (f := 1) (by decide)) (am_lv_ref (hp_a _ _ _ (f := 2) (by decide)) (am_lv_ref (hp_a _ _ _ (f := 3) (by decide)) (am_lv_ref (hp_o _ _ _) (am_lv_ref (hp_a _ _ _ (f := 4) (by decide)) (am_lv_ref (hp_a _ _ _ (f := 5) (by decide)) (am_lv_ref (hp_a _ _ _ (f := 6) (by decide)) (am_lv_ref (hp_a _ _ _ (f := 7) (by decide)) (am_lv_int (am_lv_int (am_lv_int am_lv_nil))))))))))))))) (Nat.le_of_ble_eq_true rfl) dL_same_111 [.int (T 25 j)] rfl ?_
              refine am_top (S 13 j) k25 ?_
              refine am_go hF sgL_same_114_9e95a 122 [(12, .int (itN (thl T) 0 (j + 1))), (14, .int 0), (0, .ref 0), (1, .ref 500), (2, .ref 501), (3, .ref 502), (4, .ref 503), (5, .ref 464), (6, .ref 504), (7, .ref 505), (8, .ref 506), (9, .ref 507), (10, .int (nI l)), (11, .int (nI d)), (13, .int (nI j))] [.int ((6 * (nI j)) + 3), .ref 501, .int (S 13 j)] sgL_same_114_9e95ad rfl ?_
              refine sv_iald hF 1 3 j 13 (by decide) (by decide) rfl (am_ad (am_mu rfl rfl) rfl) (show 6 * j + 3 < 60 by omega) (by decide) dL_same_122 ?_
              refine am_icmpne hF 252 dL_same_123 (by decide) (fun h9 => False.elim (absurd rfl h9)) (fun _ => ?_)
              refine am_go hF sgL_same_126_2d860 129 [(12, .int (itN (thl T) 0 (j + 1))), (14, .int 0), (0, .ref 0), (1, .ref 500), (2, .ref 501), (3, .ref 502), (4, .ref 503), (5, .ref 464), (6, .ref 504), (7, .ref 505), (8, .ref 506), (9, .ref 507), (10, .int (nI l)), (11, .int (nI d)), (13, .int (nI j))] [.int (nI j), .ref 0] sgL_same_126_2d860d rfl ?_
              refine am_dV hF hO [.int (nI j)] [] (c_p_cause_n a4 (by omega) hkm) myX5_cause vyX5_cause lm_RL_73 (hp_main _ _ _) rfl rfl 0 0 ⟨Nat.le_of_ble_eq_true rfl, Nat.le_of_ble_eq_true rfl⟩ ⟨Nat.le_of_ble_eq_true rfl, Nat.le_of_ble_eq_true rfl, Nat.le_of_ble_eq_true rfl, Nat.le_of_ble_eq_true rfl⟩ rfl (am_lv_int (am_lv_int (am_lv_ref (hp_main _ _ _) (am_lv_ref (hp_a _ _ _ (f := 0) (by decide)) (am_lv_ref (hp_a _ _ _ (f := 1) (by decide)) (am_lv_ref (hp_a _ _ _ (f := 2) (by decide)) (am_lv_ref (hp_a _ _ _ (f := 3) (by decide)) (am_lv_ref (hp_o _ _ _) (am_lv_ref (hp_a _ _ _ (f := 4) (by decide)) (am_lv_ref (hp_a _ _ _ (f := 5) (by decide)) (am_lv_ref (hp_a _ _ _ (f := 6) (by decide)) (am_lv_ref (hp_a _ _ _ (f := 7) (by decide)) (am_lv_int (am_lv_int (am_lv_int am_lv_nil))))))))))))))) (Nat.le_of_ble_eq_true rfl) dL_same_129 [.int (T 23 j)] rfl ?_
              refine am_top (S 14 j) k23 ?_
              refine am_go hF sgL_same_132_03568 140 [(12, .int (itN (thl T) 0 (j + 1))), (14, .int 0), (0, .ref 0), (1, .ref 500), (2, .ref 501), (3, .ref 502), (4, .ref 503), (5, .ref 464), (6, .ref 504), (7, .ref 505), (8, .ref 506), (9, .ref 507), (10, .int (nI l)), (11, .int (nI d)), (13, .int (nI j))] [.int ((6 * (nI j)) + 4), .ref 501, .int (S 14 j)] sgL_same_132_03568d rfl ?_
              refine sv_iald hF 1 4 j 14 (by decide) (by decide) rfl (am_ad (am_mu rfl rfl) rfl) (show 6 * j + 4 < 60 by omega) (by decide) dL_same_140 ?_
              refine am_icmpne hF 252 dL_same_141 (by decide) (fun h9 => False.elim (absurd rfl h9)) (fun _ => ?_)
              refine am_go hF sgL_same_144_2d860 147 [(12, .int (itN (thl T) 0 (j + 1))), (14, .int 0), (0, .ref 0), (1, .ref 500), (2, .ref 501), (3, .ref 502), (4, .ref 503), (5, .ref 464), (6, .ref 504), (7, .ref 505), (8, .ref 506), (9, .ref 507), (10, .int (nI l)), (11, .int (nI d)), (13, .int (nI j))] [.int (nI j), .ref 0] sgL_same_144_2d860d rfl ?_
              refine am_dV hF hO [.int (nI j)] [] (c_p_reached_n a4 (by omega) hkm) myX5_reached vyX5_reached lm_RL_76 (hp_main _ _ _) rfl rfl 0 0 ⟨Nat.le_of_ble_eq_true rfl, Nat.le_of_ble_eq_true rfl⟩ ⟨Nat.le_of_ble_eq_true rfl, Nat.le_of_ble_eq_true rfl, Nat.le_of_ble_eq_true rfl, Nat.le_of_ble_eq_true rfl⟩ rfl (am_lv_int (am_lv_int (am_lv_ref (hp_main _ _ _) (am_lv_ref (hp_a _ _ _ (f := 0) (by decide)) (am_lv_ref (hp_a _ _ _ (f := 1) (by decide)) (am_lv_ref (hp_a _ _ _ (f := 2) (by decide)) (am_lv_ref (hp_a _ _ _ (f := 3) (by decide)) (am_lv_ref (hp_o _ _ _) (am_lv_ref (hp_a _ _ _ (f := 4) (by decide)) (am_lv_ref (hp_a _ _ _ (f := 5) (by decide)) (am_lv_ref (hp_a _ _ _ (f := 6) (by decide)) (am_lv_ref (hp_a _ _ _ (f := 7) (by decide)) (am_lv_int (am_lv_int (am_lv_int am_lv_nil))))))))))))))) (Nat.le_of_ble_eq_true rfl) dL_same_147 [.int (T 26 j)] rfl ?_
              refine am_top (S 15 j) k26 ?_
              refine am_go hF sgL_same_150_2be06 158 [(12, .int (itN (thl T) 0 (j + 1))), (14, .int 0), (0, .ref 0), (1, .ref 500), (2, .ref 501), (3, .ref 502), (4, .ref 503), (5, .ref 464), (6, .ref 504), (7, .ref 505), (8, .ref 506), (9, .ref 507), (10, .int (nI l)), (11, .int (nI d)), (13, .int (nI j))] [.int ((6 * (nI j)) + 5), .ref 501, .int (S 15 j)] sgL_same_150_2be06d rfl ?_
              refine sv_iald hF 1 5 j 15 (by decide) (by decide) rfl (am_ad (am_mu rfl rfl) rfl) (show 6 * j + 5 < 60 by omega) (by decide) dL_same_158 ?_
              refine am_icmpne hF 252 dL_same_159 (by decide) (fun h9 => False.elim (absurd rfl h9)) (fun _ => ?_)
              refine am_go hF sgL_same_162_2d860 165 [(12, .int (itN (thl T) 0 (j + 1))), (14, .int 0), (0, .ref 0), (1, .ref 500), (2, .ref 501), (3, .ref 502), (4, .ref 503), (5, .ref 464), (6, .ref 504), (7, .ref 505), (8, .ref 506), (9, .ref 507), (10, .int (nI l)), (11, .int (nI d)), (13, .int (nI j))] [.int (nI j), .ref 0] sgL_same_162_2d860d rfl ?_
              refine am_dV hF hO [.int (nI j)] [] (c_p_score_n a4 (by omega) hkm) myX5_score vyX5_score lm_RL_79 (hp_main _ _ _) rfl rfl 0 0 ⟨Nat.le_of_ble_eq_true rfl, Nat.le_of_ble_eq_true rfl⟩ ⟨Nat.le_of_ble_eq_true rfl, Nat.le_of_ble_eq_true rfl, Nat.le_of_ble_eq_true rfl, Nat.le_of_ble_eq_true rfl⟩ rfl (am_lv_int (am_lv_int (am_lv_ref (hp_main _ _ _) (am_lv_ref (hp_a _ _ _ (f := 0) (by decide)) (am_lv_ref (hp_a _ _ _ (f := 1) (by decide)) (am_lv_ref (hp_a _ _ _ (f := 2) (by decide)) (am_lv_ref (hp_a _ _ _ (f := 3) (by decide)) (am_lv_ref (hp_o _ _ _) (am_lv_ref (hp_a _ _ _ (f := 4) (by decide)) (am_lv_ref (hp_a _ _ _ (f := 5) (by decide)) (am_lv_ref (hp_a _ _ _ (f := 6) (by decide)) (am_lv_ref (hp_a _ _ _ (f := 7) (by decide)) (am_lv_int (am_lv_int (am_lv_int am_lv_nil))))))))))))))) (Nat.le_of_ble_eq_true rfl) dL_same_165 [.int (T 22 j)] rfl ?_
              refine am_top (S 20 j) k22 ?_
              refine am_go hF sgL_same_168_54758 174 [(12, .int (itN (thl T) 0 (j + 1))), (14, .int 0), (0, .ref 0), (1, .ref 500), (2, .ref 501), (3, .ref 502), (4, .ref 503), (5, .ref 464), (6, .ref 504), (7, .ref 505), (8, .ref 506), (9, .ref 507), (10, .int (nI l)), (11, .int (nI d)), (13, .int (nI j))] [.int (6 * (nI j)), .ref 502, .int (S 20 j)] sgL_same_168_54758d rfl ?_
              refine sv_iald hF 2 0 j 20 (by decide) (by decide) rfl (am_mu rfl rfl) (show 6 * j + 0 < 60 by omega) (by decide) dL_same_174 ?_
              refine am_icmpne hF 252 dL_same_175 (by decide) (fun h9 => False.elim (absurd rfl h9)) (fun _ => ?_)
              refine am_go hF sgL_same_178_2d860 181 [(12, .int (itN (thl T) 0 (j + 1))), (14, .int 0), (0, .ref 0), (1, .ref 500), (2, .ref 501), (3, .ref 502), (4, .ref 503), (5, .ref 464), (6, .ref 504), (7, .ref 505), (8, .ref 506), (9, .ref 507), (10, .int (nI l)), (11, .int (nI d)), (13, .int (nI j))] [.int (nI j), .ref 0] sgL_same_178_2d860d rfl ?_
              refine am_dV hF hO [.int (nI j)] [] (c_p_lapses_n a4 (by omega) hkm) myX5_lapses vyX5_lapses lm_RL_82 (hp_main _ _ _) rfl rfl 0 0 ⟨Nat.le_of_ble_eq_true rfl, Nat.le_of_ble_eq_true rfl⟩ ⟨Nat.le_of_ble_eq_true rfl, Nat.le_of_ble_eq_true rfl, Nat.le_of_ble_eq_true rfl, Nat.le_of_ble_eq_true rfl⟩ rfl (am_lv_int (am_lv_int (am_lv_ref (hp_main _ _ _) (am_lv_ref (hp_a _ _ _ (f := 0) (by decide)) (am_lv_ref (hp_a _ _ _ (f := 1) (by decide)) (am_lv_ref (hp_a _ _ _ (f := 2) (by decide)) (am_lv_ref (hp_a _ _ _ (f := 3) (by decide)) (am_lv_ref (hp_o _ _ _) (am_lv_ref (hp_a _ _ _ (f := 4) (by decide)) (am_lv_ref (hp_a _ _ _ (f := 5) (by decide)) (am_lv_ref (hp_a _ _ _ (f := 6) (by decide)) (am_lv_ref (hp_a _ _ _ (f := 7) (by decide)) (am_lv_int (am_lv_int (am_lv_int am_lv_nil))))))))))))))) (Nat.le_of_ble_eq_true rfl) dL_same_181 [.int (if T 25 j = 1 ∧ ¬ T 28 j = 1 then T 24 j else -1)] rfl ?_
              refine am_go hF sgL_same_184_9e95a 192 [(12, .int (itN (thl T) 0 (j + 1))), (14, .int 0), (0, .ref 0), (1, .ref 500), (2, .ref 501), (3, .ref 502), (4, .ref 503), (5, .ref 464), (6, .ref 504), (7, .ref 505), (8, .ref 506), (9, .ref 507), (10, .int (nI l)), (11, .int (nI d)), (13, .int (nI j))] [.int ((6 * (nI j)) + 3), .ref 501, .int (if T 25 j = 1 ∧ ¬ T 28 j = 1 then T 24 j else -1)] sgL_same_184_9e95ad rfl ?_
              refine sv_iald hF 1 3 j 13 (by decide) (by decide) rfl (am_ad (am_mu rfl rfl) rfl) (show 6 * j + 3 < 60 by omega) (by decide) dL_same_192 ?_
              refine am_go hF sgL_same_193_4de0a 194 [(12, .int (itN (thl T) 0 (j + 1))), (14, .int 0), (0, .ref 0), (1, .ref 500), (2, .ref 501), (3, .ref 502), (4, .ref 503), (5, .ref 464), (6, .ref 504), (7, .ref 505), (8, .ref 506), (9, .ref 507), (10, .int (nI l)), (11, .int (nI d)), (13, .int (nI j))] [.int 1, .int (S 13 j), .int (if T 25 j = 1 ∧ ¬ T 28 j = 1 then T 24 j else -1)] sgL_same_193_4de0ad rfl ?_
              refine am_icmpne hF 221 dL_same_194 (by decide) (fun h9 => False.elim (absurd c2 h9)) (fun _ => ?_)
              refine am_go hF sgL_same_197_dc750 205 [(12, .int (itN (thl T) 0 (j + 1))), (14, .int 0), (0, .ref 0), (1, .ref 500), (2, .ref 501), (3, .ref 502), (4, .ref 503), (5, .ref 464), (6, .ref 504), (7, .ref 505), (8, .ref 506), (9, .ref 507), (10, .int (nI l)), (11, .int (nI d)), (13, .int (nI j))] [.int ((6 * (nI j)) + 2), .ref 502, .int (if T 25 j = 1 ∧ ¬ T 28 j = 1 then T 24 j else -1)] sgL_same_197_dc750d rfl ?_
              refine sv_iald hF 2 2 j 22 (by decide) (by decide) rfl (am_ad (am_mu rfl rfl) rfl) (show 6 * j + 2 < 60 by omega) (by decide) dL_same_205 ?_
              refine am_ifne hF 221 dL_same_206 (by decide) (fun h9 => False.elim (absurd c3 h9)) (fun _ => ?_)
              refine am_go hF sgL_same_209_fa7ee 217 [(12, .int (itN (thl T) 0 (j + 1))), (14, .int 0), (0, .ref 0), (1, .ref 500), (2, .ref 501), (3, .ref 502), (4, .ref 503), (5, .ref 464), (6, .ref 504), (7, .ref 505), (8, .ref 506), (9, .ref 507), (10, .int (nI l)), (11, .int (nI d)), (13, .int (nI j))] [.int ((6 * (nI j)) + 1), .ref 502, .int (if T 25 j = 1 ∧ ¬ T 28 j = 1 then T 24 j else -1)] sgL_same_209_fa7eed rfl ?_
              refine sv_iald hF 2 1 j 21 (by decide) (by decide) rfl (am_ad (am_mu rfl rfl) rfl) (show 6 * j + 1 < 60 by omega) (by decide) dL_same_217 ?_
              refine am_go hF sgL_same_218_c4397 222 [(12, .int (itN (thl T) 0 (j + 1))), (14, .int 0), (0, .ref 0), (1, .ref 500), (2, .ref 501), (3, .ref 502), (4, .ref 503), (5, .ref 464), (6, .ref 504), (7, .ref 505), (8, .ref 506), (9, .ref 507), (10, .int (nI l)), (11, .int (nI d)), (13, .int (nI j))] [.int (S 21 j), .int (if T 25 j = 1 ∧ ¬ T 28 j = 1 then T 24 j else -1)] sgL_same_218_c4397d rfl ?_
              refine am_icmpne hF 252 dL_same_222 (by decide) (fun h9 => False.elim (absurd (lap_y hB hkm c2 c3) h9)) (fun _ => ?_)
              refine am_go hF sgL_same_225_2d860 228 [(12, .int (itN (thl T) 0 (j + 1))), (14, .int 0), (0, .ref 0), (1, .ref 500), (2, .ref 501), (3, .ref 502), (4, .ref 503), (5, .ref 464), (6, .ref 504), (7, .ref 505), (8, .ref 506), (9, .ref 507), (10, .int (nI l)), (11, .int (nI d)), (13, .int (nI j))] [.int (nI j), .ref 0] sgL_same_225_2d860d rfl ?_
              refine am_dV hF hO [.int (nI j)] [] (c_p_jurors_n a4 (by omega) hkm) myX5_jurors vyX5_jurors lm_RL_85 (hp_main _ _ _) rfl rfl 0 0 ⟨Nat.le_of_ble_eq_true rfl, Nat.le_of_ble_eq_true rfl⟩ ⟨Nat.le_of_ble_eq_true rfl, Nat.le_of_ble_eq_true rfl, Nat.le_of_ble_eq_true rfl, Nat.le_of_ble_eq_true rfl⟩ rfl (am_lv_int (am_lv_int (am_lv_ref (hp_main _ _ _) (am_lv_ref (hp_a _ _ _ (f := 0) (by decide)) (am_lv_ref (hp_a _ _ _ (f := 1) (by decide)) (am_lv_ref (hp_a _ _ _ (f := 2) (by decide)) (am_lv_ref (hp_a _ _ _ (f := 3) (by decide)) (am_lv_ref (hp_o _ _ _) (am_lv_ref (hp_a _ _ _ (f := 4) (by decide)) (am_lv_ref (hp_a _ _ _ (f := 5) (by decide)) (am_lv_ref (hp_a _ _ _ (f := 6) (by decide)) (am_lv_ref (hp_a _ _ _ (f := 7) (by decide)) (am_lv_int (am_lv_int (am_lv_int am_lv_nil))))))))))))))) (Nat.le_of_ble_eq_true rfl) dL_same_228 [.int (if T 28 j = 1 then tAw T j else 0)] rfl ?_
              refine am_go hF sgL_same_231_00397 233 [(12, .int (itN (thl T) 0 (j + 1))), (14, .int 0), (0, .ref 0), (1, .ref 500), (2, .ref 501), (3, .ref 502), (4, .ref 503), (5, .ref 464), (6, .ref 504), (7, .ref 505), (8, .ref 506), (9, .ref 507), (10, .int (nI l)), (11, .int (nI d)), (13, .int (nI j))] [.int 0, .int (if T 28 j = 1 then tAw T j else 0)] sgL_same_231_00397d rfl ?_
              refine am_ifeq hF 248 dL_same_233 (by decide) (fun _ => ?_) (fun h9 => False.elim (by revert h9; decide))
              refine am_go hF sgL_same_248_56c54 249 [(12, .int (itN (thl T) 0 (j + 1))), (14, .int 0), (0, .ref 0), (1, .ref 500), (2, .ref 501), (3, .ref 502), (4, .ref 503), (5, .ref 464), (6, .ref 504), (7, .ref 505), (8, .ref 506), (9, .ref 507), (10, .int (nI l)), (11, .int (nI d)), (13, .int (nI j))] [.int 0, .int (if T 28 j = 1 then tAw T j else 0)] sgL_same_248_56c54d rfl ?_
              refine am_icmpeq hF 254 dL_same_249 (by decide) (fun _ => ?_) (fun h9 => False.elim (absurd (jur_n hB hkm c1) h9))
              refine am_go hF sgL_same_254_2e993 56 [(13, .int ((nI j) + 1)), (12, .int (itN (thl T) 0 (j + 1))), (14, .int 0), (0, .ref 0), (1, .ref 500), (2, .ref 501), (3, .ref 502), (4, .ref 503), (5, .ref 464), (6, .ref 504), (7, .ref 505), (8, .ref 506), (9, .ref 507), (10, .int (nI l)), (11, .int (nI d))] [] sgL_same_254_2e993d rfl ?_
              refine am_drop [3, 4, 5, 6, 7, 8, 9, 10, 11, 12, 13, 14, 1, 0] [(0, .ref 0), (1, .ref 500), (2, .ref 501), (3, .ref 502), (4, .ref 503), (5, .ref 464), (6, .ref 504), (7, .ref 505), (8, .ref 506), (9, .ref 507), (10, .int (nI l)), (11, .int (nI d)), (12, .int (itN (thl T) 0 (j + 1))), (13, .int ((nI j) + 1))] rfl ?_
              refine am_eqL [(0, .ref 0), (1, .ref 500), (2, .ref 501), (3, .ref 502), (4, .ref 503), (5, .ref 464), (6, .ref 504), (7, .ref 505), (8, .ref 506), (9, .ref 507), (10, .int (nI l)), (11, .int (nI d)), (12, .int (itN (thl T) 0 (j + 1))), (13, .int (nI (j + 1)))] (by first | rfl | (rw [nI_1]; done) | (simp only [nI_1]; done)) ?_
              exact ih56 (j + 1) (by omega)
          · skip
            refine am_go hF sgL_same_78_43455 95 [(14, .int 1), (0, .ref 0), (1, .ref 500), (2, .ref 501), (3, .ref 502), (4, .ref 503), (5, .ref 464), (6, .ref 504), (7, .ref 505), (8, .ref 506), (9, .ref 507), (10, .int (nI l)), (11, .int (nI d)), (12, .int (itN (thl T) 0 j)), (13, .int (nI j))] [.int ((6 * (nI j)) + 3), .ref 501, .int (itN (thl T) 0 j)] sgL_same_78_43455d rfl ?_
            refine sv_iald hF 1 3 j 13 (by decide) (by decide) rfl (am_ad (am_mu rfl rfl) rfl) (show 6 * j + 3 < 60 by omega) (by decide) dL_same_95 ?_
            refine am_go hF sgL_same_96_4de0a 97 [(14, .int 1), (0, .ref 0), (1, .ref 500), (2, .ref 501), (3, .ref 502), (4, .ref 503), (5, .ref 464), (6, .ref 504), (7, .ref 505), (8, .ref 506), (9, .ref 507), (10, .int (nI l)), (11, .int (nI d)), (12, .int (itN (thl T) 0 j)), (13, .int (nI j))] [.int 1, .int (S 13 j), .int (itN (thl T) 0 j)] sgL_same_96_4de0ad rfl ?_
            refine am_icmpne hF 104 dL_same_97 (by decide) (fun h9 => False.elim (absurd (b3 c1) h9)) (fun _ => ?_)
            refine am_go hF sgL_same_100_6f86b 106 [(14, .int 1), (0, .ref 0), (1, .ref 500), (2, .ref 501), (3, .ref 502), (4, .ref 503), (5, .ref 464), (6, .ref 504), (7, .ref 505), (8, .ref 506), (9, .ref 507), (10, .int (nI l)), (11, .int (nI d)), (12, .int (itN (thl T) 0 j)), (13, .int (nI j))] [.int ((itN (thl T) 0 j) + 1)] sgL_same_100_6f86bd rfl ?_
            refine am_top (itN (thl T) 0 (j + 1)) (if_pos (show T 25 j = 1 by rw [k25]; exact b3 c1)).symm ?_
            refine am_go hF sgL_same_106_80092 111 [(12, .int (itN (thl T) 0 (j + 1))), (14, .int 1), (0, .ref 0), (1, .ref 500), (2, .ref 501), (3, .ref 502), (4, .ref 503), (5, .ref 464), (6, .ref 504), (7, .ref 505), (8, .ref 506), (9, .ref 507), (10, .int (nI l)), (11, .int (nI d)), (13, .int (nI j))] [.int (nI j), .ref 0] sgL_same_106_80092d rfl ?_
            refine am_dV hF hO [.int (nI j)] [] (c_p_state_n a4 (by omega) hkm) myX5_state vyX5_state lm_RL_70 (hp_main _ _ _) rfl rfl 0 0 ⟨Nat.le_of_ble_eq_true rfl, Nat.le_of_ble_eq_true rfl⟩ ⟨Nat.le_of_ble_eq_true rfl, Nat.le_of_ble_eq_true rfl, Nat.le_of_ble_eq_true rfl, Nat.le_of_ble_eq_true rfl⟩ rfl (am_lv_int (am_lv_int (am_lv_ref (hp_main _ _ _) (am_lv_ref (hp_a _ _ _ (f := 0) (by decide)) (am_lv_ref (hp_a _ _ _ (f := 1) (by decide)) (am_lv_ref (hp_a _ _ _ (f := 2) (by decide)) (am_lv_ref (hp_a _ _ _ (f := 3) (by decide)) (am_lv_ref (hp_o _ _ _) (am_lv_ref (hp_a _ _ _ (f := 4) (by decide)) (am_lv_ref (hp_a _ _ _ (f := 5) (by decide)) (am_lv_ref (hp_a _ _ _ (f := 6) (by decide)) (am_lv_ref (hp_a _ _ _ (f := 7) (by decide)) (am_lv_int (am_lv_int (am_lv_int am_lv_nil))))))))))))))) (Nat.le_of_ble_eq_true rfl) dL_same_111 [.int (T 25 j)] rfl ?_
            refine am_top (S 13 j) k25 ?_
            refine am_go hF sgL_same_114_9e95a 122 [(12, .int (itN (thl T) 0 (j + 1))), (14, .int 1), (0, .ref 0), (1, .ref 500), (2, .ref 501), (3, .ref 502), (4, .ref 503), (5, .ref 464), (6, .ref 504), (7, .ref 505), (8, .ref 506), (9, .ref 507), (10, .int (nI l)), (11, .int (nI d)), (13, .int (nI j))] [.int ((6 * (nI j)) + 3), .ref 501, .int (S 13 j)] sgL_same_114_9e95ad rfl ?_
            refine sv_iald hF 1 3 j 13 (by decide) (by decide) rfl (am_ad (am_mu rfl rfl) rfl) (show 6 * j + 3 < 60 by omega) (by decide) dL_same_122 ?_
            refine am_icmpne hF 252 dL_same_123 (by decide) (fun h9 => False.elim (absurd rfl h9)) (fun _ => ?_)
            refine am_go hF sgL_same_126_2d860 129 [(12, .int (itN (thl T) 0 (j + 1))), (14, .int 1), (0, .ref 0), (1, .ref 500), (2, .ref 501), (3, .ref 502), (4, .ref 503), (5, .ref 464), (6, .ref 504), (7, .ref 505), (8, .ref 506), (9, .ref 507), (10, .int (nI l)), (11, .int (nI d)), (13, .int (nI j))] [.int (nI j), .ref 0] sgL_same_126_2d860d rfl ?_
            refine am_dV hF hO [.int (nI j)] [] (c_p_cause_n a4 (by omega) hkm) myX5_cause vyX5_cause lm_RL_73 (hp_main _ _ _) rfl rfl 0 0 ⟨Nat.le_of_ble_eq_true rfl, Nat.le_of_ble_eq_true rfl⟩ ⟨Nat.le_of_ble_eq_true rfl, Nat.le_of_ble_eq_true rfl, Nat.le_of_ble_eq_true rfl, Nat.le_of_ble_eq_true rfl⟩ rfl (am_lv_int (am_lv_int (am_lv_ref (hp_main _ _ _) (am_lv_ref (hp_a _ _ _ (f := 0) (by decide)) (am_lv_ref (hp_a _ _ _ (f := 1) (by decide)) (am_lv_ref (hp_a _ _ _ (f := 2) (by decide)) (am_lv_ref (hp_a _ _ _ (f := 3) (by decide)) (am_lv_ref (hp_o _ _ _) (am_lv_ref (hp_a _ _ _ (f := 4) (by decide)) (am_lv_ref (hp_a _ _ _ (f := 5) (by decide)) (am_lv_ref (hp_a _ _ _ (f := 6) (by decide)) (am_lv_ref (hp_a _ _ _ (f := 7) (by decide)) (am_lv_int (am_lv_int (am_lv_int am_lv_nil))))))))))))))) (Nat.le_of_ble_eq_true rfl) dL_same_129 [.int (T 23 j)] rfl ?_
            refine am_top (S 14 j) k23 ?_
            refine am_go hF sgL_same_132_03568 140 [(12, .int (itN (thl T) 0 (j + 1))), (14, .int 1), (0, .ref 0), (1, .ref 500), (2, .ref 501), (3, .ref 502), (4, .ref 503), (5, .ref 464), (6, .ref 504), (7, .ref 505), (8, .ref 506), (9, .ref 507), (10, .int (nI l)), (11, .int (nI d)), (13, .int (nI j))] [.int ((6 * (nI j)) + 4), .ref 501, .int (S 14 j)] sgL_same_132_03568d rfl ?_
            refine sv_iald hF 1 4 j 14 (by decide) (by decide) rfl (am_ad (am_mu rfl rfl) rfl) (show 6 * j + 4 < 60 by omega) (by decide) dL_same_140 ?_
            refine am_icmpne hF 252 dL_same_141 (by decide) (fun h9 => False.elim (absurd rfl h9)) (fun _ => ?_)
            refine am_go hF sgL_same_144_2d860 147 [(12, .int (itN (thl T) 0 (j + 1))), (14, .int 1), (0, .ref 0), (1, .ref 500), (2, .ref 501), (3, .ref 502), (4, .ref 503), (5, .ref 464), (6, .ref 504), (7, .ref 505), (8, .ref 506), (9, .ref 507), (10, .int (nI l)), (11, .int (nI d)), (13, .int (nI j))] [.int (nI j), .ref 0] sgL_same_144_2d860d rfl ?_
            refine am_dV hF hO [.int (nI j)] [] (c_p_reached_n a4 (by omega) hkm) myX5_reached vyX5_reached lm_RL_76 (hp_main _ _ _) rfl rfl 0 0 ⟨Nat.le_of_ble_eq_true rfl, Nat.le_of_ble_eq_true rfl⟩ ⟨Nat.le_of_ble_eq_true rfl, Nat.le_of_ble_eq_true rfl, Nat.le_of_ble_eq_true rfl, Nat.le_of_ble_eq_true rfl⟩ rfl (am_lv_int (am_lv_int (am_lv_ref (hp_main _ _ _) (am_lv_ref (hp_a _ _ _ (f := 0) (by decide)) (am_lv_ref (hp_a _ _ _ (f := 1) (by decide)) (am_lv_ref (hp_a _ _ _ (f := 2) (by decide)) (am_lv_ref (hp_a _ _ _ (f := 3) (by decide)) (am_lv_ref (hp_o _ _ _) (am_lv_ref (hp_a _ _ _ (f := 4) (by decide)) (am_lv_ref (hp_a _ _ _ (f := 5) (by decide)) (am_lv_ref (hp_a _ _ _ (f := 6) (by decide)) (am_lv_ref (hp_a _ _ _ (f := 7) (by decide)) (am_lv_int (am_lv_int (am_lv_int am_lv_nil))))))))))))))) (Nat.le_of_ble_eq_true rfl) dL_same_147 [.int (T 26 j)] rfl ?_
            refine am_top (S 15 j) k26 ?_
            refine am_go hF sgL_same_150_2be06 158 [(12, .int (itN (thl T) 0 (j + 1))), (14, .int 1), (0, .ref 0), (1, .ref 500), (2, .ref 501), (3, .ref 502), (4, .ref 503), (5, .ref 464), (6, .ref 504), (7, .ref 505), (8, .ref 506), (9, .ref 507), (10, .int (nI l)), (11, .int (nI d)), (13, .int (nI j))] [.int ((6 * (nI j)) + 5), .ref 501, .int (S 15 j)] sgL_same_150_2be06d rfl ?_
            refine sv_iald hF 1 5 j 15 (by decide) (by decide) rfl (am_ad (am_mu rfl rfl) rfl) (show 6 * j + 5 < 60 by omega) (by decide) dL_same_158 ?_
            refine am_icmpne hF 252 dL_same_159 (by decide) (fun h9 => False.elim (absurd rfl h9)) (fun _ => ?_)
            refine am_go hF sgL_same_162_2d860 165 [(12, .int (itN (thl T) 0 (j + 1))), (14, .int 1), (0, .ref 0), (1, .ref 500), (2, .ref 501), (3, .ref 502), (4, .ref 503), (5, .ref 464), (6, .ref 504), (7, .ref 505), (8, .ref 506), (9, .ref 507), (10, .int (nI l)), (11, .int (nI d)), (13, .int (nI j))] [.int (nI j), .ref 0] sgL_same_162_2d860d rfl ?_
            refine am_dV hF hO [.int (nI j)] [] (c_p_score_n a4 (by omega) hkm) myX5_score vyX5_score lm_RL_79 (hp_main _ _ _) rfl rfl 0 0 ⟨Nat.le_of_ble_eq_true rfl, Nat.le_of_ble_eq_true rfl⟩ ⟨Nat.le_of_ble_eq_true rfl, Nat.le_of_ble_eq_true rfl, Nat.le_of_ble_eq_true rfl, Nat.le_of_ble_eq_true rfl⟩ rfl (am_lv_int (am_lv_int (am_lv_ref (hp_main _ _ _) (am_lv_ref (hp_a _ _ _ (f := 0) (by decide)) (am_lv_ref (hp_a _ _ _ (f := 1) (by decide)) (am_lv_ref (hp_a _ _ _ (f := 2) (by decide)) (am_lv_ref (hp_a _ _ _ (f := 3) (by decide)) (am_lv_ref (hp_o _ _ _) (am_lv_ref (hp_a _ _ _ (f := 4) (by decide)) (am_lv_ref (hp_a _ _ _ (f := 5) (by decide)) (am_lv_ref (hp_a _ _ _ (f := 6) (by decide)) (am_lv_ref (hp_a _ _ _ (f := 7) (by decide)) (am_lv_int (am_lv_int (am_lv_int am_lv_nil))))))))))))))) (Nat.le_of_ble_eq_true rfl) dL_same_165 [.int (T 22 j)] rfl ?_
            refine am_top (S 20 j) k22 ?_
            refine am_go hF sgL_same_168_54758 174 [(12, .int (itN (thl T) 0 (j + 1))), (14, .int 1), (0, .ref 0), (1, .ref 500), (2, .ref 501), (3, .ref 502), (4, .ref 503), (5, .ref 464), (6, .ref 504), (7, .ref 505), (8, .ref 506), (9, .ref 507), (10, .int (nI l)), (11, .int (nI d)), (13, .int (nI j))] [.int (6 * (nI j)), .ref 502, .int (S 20 j)] sgL_same_168_54758d rfl ?_
            refine sv_iald hF 2 0 j 20 (by decide) (by decide) rfl (am_mu rfl rfl) (show 6 * j + 0 < 60 by omega) (by decide) dL_same_174 ?_
            refine am_icmpne hF 252 dL_same_175 (by decide) (fun h9 => False.elim (absurd rfl h9)) (fun _ => ?_)
            refine am_go hF sgL_same_178_2d860 181 [(12, .int (itN (thl T) 0 (j + 1))), (14, .int 1), (0, .ref 0), (1, .ref 500), (2, .ref 501), (3, .ref 502), (4, .ref 503), (5, .ref 464), (6, .ref 504), (7, .ref 505), (8, .ref 506), (9, .ref 507), (10, .int (nI l)), (11, .int (nI d)), (13, .int (nI j))] [.int (nI j), .ref 0] sgL_same_178_2d860d rfl ?_
            refine am_dV hF hO [.int (nI j)] [] (c_p_lapses_n a4 (by omega) hkm) myX5_lapses vyX5_lapses lm_RL_82 (hp_main _ _ _) rfl rfl 0 0 ⟨Nat.le_of_ble_eq_true rfl, Nat.le_of_ble_eq_true rfl⟩ ⟨Nat.le_of_ble_eq_true rfl, Nat.le_of_ble_eq_true rfl, Nat.le_of_ble_eq_true rfl, Nat.le_of_ble_eq_true rfl⟩ rfl (am_lv_int (am_lv_int (am_lv_ref (hp_main _ _ _) (am_lv_ref (hp_a _ _ _ (f := 0) (by decide)) (am_lv_ref (hp_a _ _ _ (f := 1) (by decide)) (am_lv_ref (hp_a _ _ _ (f := 2) (by decide)) (am_lv_ref (hp_a _ _ _ (f := 3) (by decide)) (am_lv_ref (hp_o _ _ _) (am_lv_ref (hp_a _ _ _ (f := 4) (by decide)) (am_lv_ref (hp_a _ _ _ (f := 5) (by decide)) (am_lv_ref (hp_a _ _ _ (f := 6) (by decide)) (am_lv_ref (hp_a _ _ _ (f := 7) (by decide)) (am_lv_int (am_lv_int (am_lv_int am_lv_nil))))))))))))))) (Nat.le_of_ble_eq_true rfl) dL_same_181 [.int (if T 25 j = 1 ∧ ¬ T 28 j = 1 then T 24 j else -1)] rfl ?_
            refine am_go hF sgL_same_184_9e95a 192 [(12, .int (itN (thl T) 0 (j + 1))), (14, .int 1), (0, .ref 0), (1, .ref 500), (2, .ref 501), (3, .ref 502), (4, .ref 503), (5, .ref 464), (6, .ref 504), (7, .ref 505), (8, .ref 506), (9, .ref 507), (10, .int (nI l)), (11, .int (nI d)), (13, .int (nI j))] [.int ((6 * (nI j)) + 3), .ref 501, .int (if T 25 j = 1 ∧ ¬ T 28 j = 1 then T 24 j else -1)] sgL_same_184_9e95ad rfl ?_
            refine sv_iald hF 1 3 j 13 (by decide) (by decide) rfl (am_ad (am_mu rfl rfl) rfl) (show 6 * j + 3 < 60 by omega) (by decide) dL_same_192 ?_
            refine am_go hF sgL_same_193_4de0a 194 [(12, .int (itN (thl T) 0 (j + 1))), (14, .int 1), (0, .ref 0), (1, .ref 500), (2, .ref 501), (3, .ref 502), (4, .ref 503), (5, .ref 464), (6, .ref 504), (7, .ref 505), (8, .ref 506), (9, .ref 507), (10, .int (nI l)), (11, .int (nI d)), (13, .int (nI j))] [.int 1, .int (S 13 j), .int (if T 25 j = 1 ∧ ¬ T 28 j = 1 then T 24 j else -1)] sgL_same_193_4de0ad rfl ?_
            refine am_icmpne hF 221 dL_same_194 (by decide) (fun h9 => False.elim (absurd (b3 c1) h9)) (fun _ => ?_)
            refine am_go hF sgL_same_197_dc750 205 [(12, .int (itN (thl T) 0 (j + 1))), (14, .int 1), (0, .ref 0), (1, .ref 500), (2, .ref 501), (3, .ref 502), (4, .ref 503), (5, .ref 464), (6, .ref 504), (7, .ref 505), (8, .ref 506), (9, .ref 507), (10, .int (nI l)), (11, .int (nI d)), (13, .int (nI j))] [.int ((6 * (nI j)) + 2), .ref 502, .int (if T 25 j = 1 ∧ ¬ T 28 j = 1 then T 24 j else -1)] sgL_same_197_dc750d rfl ?_
            refine sv_iald hF 2 2 j 22 (by decide) (by decide) rfl (am_ad (am_mu rfl rfl) rfl) (show 6 * j + 2 < 60 by omega) (by decide) dL_same_205 ?_
            refine am_ifne hF 221 dL_same_206 (by decide) (fun _ => ?_) (fun h9 => False.elim (absurd c1 (by rw [h9]; decide)))
            refine am_go hF sgL_same_221_5ff24 222 [(12, .int (itN (thl T) 0 (j + 1))), (14, .int 1), (0, .ref 0), (1, .ref 500), (2, .ref 501), (3, .ref 502), (4, .ref 503), (5, .ref 464), (6, .ref 504), (7, .ref 505), (8, .ref 506), (9, .ref 507), (10, .int (nI l)), (11, .int (nI d)), (13, .int (nI j))] [.int (-1), .int (if T 25 j = 1 ∧ ¬ T 28 j = 1 then T 24 j else -1)] sgL_same_221_5ff24d rfl ?_
            refine am_icmpne hF 252 dL_same_222 (by decide) (fun h9 => False.elim (absurd (lap_n hB hkm (fun h8 => absurd c1 (by rw [h8.2]; decide))) h9)) (fun _ => ?_)
            refine am_go hF sgL_same_225_2d860 228 [(12, .int (itN (thl T) 0 (j + 1))), (14, .int 1), (0, .ref 0), (1, .ref 500), (2, .ref 501), (3, .ref 502), (4, .ref 503), (5, .ref 464), (6, .ref 504), (7, .ref 505), (8, .ref 506), (9, .ref 507), (10, .int (nI l)), (11, .int (nI d)), (13, .int (nI j))] [.int (nI j), .ref 0] sgL_same_225_2d860d rfl ?_
            refine am_dV hF hO [.int (nI j)] [] (c_p_jurors_n a4 (by omega) hkm) myX5_jurors vyX5_jurors lm_RL_85 (hp_main _ _ _) rfl rfl 0 0 ⟨Nat.le_of_ble_eq_true rfl, Nat.le_of_ble_eq_true rfl⟩ ⟨Nat.le_of_ble_eq_true rfl, Nat.le_of_ble_eq_true rfl, Nat.le_of_ble_eq_true rfl, Nat.le_of_ble_eq_true rfl⟩ rfl (am_lv_int (am_lv_int (am_lv_ref (hp_main _ _ _) (am_lv_ref (hp_a _ _ _ (f := 0) (by decide)) (am_lv_ref (hp_a _ _ _ (f := 1) (by decide)) (am_lv_ref (hp_a _ _ _ (f := 2) (by decide)) (am_lv_ref (hp_a _ _ _ (f := 3) (by decide)) (am_lv_ref (hp_o _ _ _) (am_lv_ref (hp_a _ _ _ (f := 4) (by decide)) (am_lv_ref (hp_a _ _ _ (f := 5) (by decide)) (am_lv_ref (hp_a _ _ _ (f := 6) (by decide)) (am_lv_ref (hp_a _ _ _ (f := 7) (by decide)) (am_lv_int (am_lv_int (am_lv_int am_lv_nil))))))))))))))) (Nat.le_of_ble_eq_true rfl) dL_same_228 [.int (if T 28 j = 1 then tAw T j else 0)] rfl ?_
            refine am_go hF sgL_same_231_00397 233 [(12, .int (itN (thl T) 0 (j + 1))), (14, .int 1), (0, .ref 0), (1, .ref 500), (2, .ref 501), (3, .ref 502), (4, .ref 503), (5, .ref 464), (6, .ref 504), (7, .ref 505), (8, .ref 506), (9, .ref 507), (10, .int (nI l)), (11, .int (nI d)), (13, .int (nI j))] [.int 1, .int (if T 28 j = 1 then tAw T j else 0)] sgL_same_231_00397d rfl ?_
            refine am_ifeq hF 248 dL_same_233 (by decide) (fun h9 => False.elim (by revert h9; decide)) (fun _ => ?_)
            refine am_go hF sgL_same_236_72498 244 [(12, .int (itN (thl T) 0 (j + 1))), (14, .int 1), (0, .ref 0), (1, .ref 500), (2, .ref 501), (3, .ref 502), (4, .ref 503), (5, .ref 464), (6, .ref 504), (7, .ref 505), (8, .ref 506), (9, .ref 507), (10, .int (nI l)), (11, .int (nI d)), (13, .int (nI j))] [.int ((6 * (nI j)) + 3), .ref 502, .int (if T 28 j = 1 then tAw T j else 0)] sgL_same_236_72498d rfl ?_
            refine sv_iald hF 2 3 j 23 (by decide) (by decide) rfl (am_ad (am_mu rfl rfl) rfl) (show 6 * j + 3 < 60 by omega) (by decide) dL_same_244 ?_
            refine am_go hF sgL_same_245_c4397 249 [(12, .int (itN (thl T) 0 (j + 1))), (14, .int 1), (0, .ref 0), (1, .ref 500), (2, .ref 501), (3, .ref 502), (4, .ref 503), (5, .ref 464), (6, .ref 504), (7, .ref 505), (8, .ref 506), (9, .ref 507), (10, .int (nI l)), (11, .int (nI d)), (13, .int (nI j))] [.int (S 23 j), .int (if T 28 j = 1 then tAw T j else 0)] sgL_same_245_c4397d rfl ?_
            refine am_icmpeq hF 254 dL_same_249 (by decide) (fun _ => ?_) (fun h9 => False.elim (absurd (jur_y hB hkm c1) h9))
            refine am_go hF sgL_same_254_2e993 56 [(13, .int ((nI j) + 1)), (12, .int (itN (thl T) 0 (j + 1))), (14, .int 1), (0, .ref 0), (1, .ref 500), (2, .ref 501), (3, .ref 502), (4, .ref 503), (5, .ref 464), (6, .ref 504), (7, .ref 505), (8, .ref 506), (9, .ref 507), (10, .int (nI l)), (11, .int (nI d))] [] sgL_same_254_2e993d rfl ?_
            refine am_drop [3, 4, 5, 6, 7, 8, 9, 10, 11, 12, 13, 14, 1, 0] [(0, .ref 0), (1, .ref 500), (2, .ref 501), (3, .ref 502), (4, .ref 503), (5, .ref 464), (6, .ref 504), (7, .ref 505), (8, .ref 506), (9, .ref 507), (10, .int (nI l)), (11, .int (nI d)), (12, .int (itN (thl T) 0 (j + 1))), (13, .int ((nI j) + 1))] rfl ?_
            refine am_eqL [(0, .ref 0), (1, .ref 500), (2, .ref 501), (3, .ref 502), (4, .ref 503), (5, .ref 464), (6, .ref 504), (7, .ref 505), (8, .ref 506), (9, .ref 507), (10, .int (nI l)), (11, .int (nI d)), (12, .int (itN (thl T) 0 (j + 1))), (13, .int (nI (j + 1)))] (by first | rfl | (rw [nI_1]; done) | (simp only [nI_1]; done)) ?_
            exact ih56 (j + 1) (by omega)
      exact lp56 (m) 0 (by omega)
    | succ zz ih6 =>
      intro j hj
      have l9j : j < n := by omega
      refine am_go hF sgL_same_6_59cde 11 [(0, .ref 0), (1, .ref 500), (2, .ref 501), (3, .ref 502), (4, .ref 503), (5, .ref 464), (6, .ref 504), (7, .ref 505), (8, .ref 506), (9, .ref 507), (10, .int (nI l)), (11, .int (nI d)), (12, .int 0), (13, .int (nI j))] [.int 1, .ref 507, .int (nI j)] sgL_same_6_59cded rfl ?_
      refine sv_iald hF 7 1 0 71 (by decide) (by decide) rfl rfl (show 3 * 0 + 1 < 3 by omega) (by decide) dL_same_11 ?_
      refine am_top (nI n) a2 ?_
      refine am_icmpge hF 53 dL_same_12 (by decide) (fun h9 => False.elim (nc_lt_f (show j < n by omega) (by omega) (by omega) rfl rfl h9)) (fun _ => ?_)
      refine am_go hF sgL_same_15_2d860 18 [(0, .ref 0), (1, .ref 500), (2, .ref 501), (3, .ref 502), (4, .ref 503), (5, .ref 464), (6, .ref 504), (7, .ref 505), (8, .ref 506), (9, .ref 507), (10, .int (nI l)), (11, .int (nI d)), (12, .int 0), (13, .int (nI j))] [.int (nI j), .ref 0] sgL_same_15_2d860d rfl ?_
      refine am_dV hF hO [.int (nI j)] [] (c_p_reaches_n a1 (by omega) (show j < n by omega)) myX5_reaches vyX5_reaches lm_RL_64 (hp_main _ _ _) rfl rfl 0 0 ⟨Nat.le_of_ble_eq_true rfl, Nat.le_of_ble_eq_true rfl⟩ ⟨Nat.le_of_ble_eq_true rfl, Nat.le_of_ble_eq_true rfl, Nat.le_of_ble_eq_true rfl, Nat.le_of_ble_eq_true rfl⟩ rfl (am_lv_ref (hp_main _ _ _) (am_lv_ref (hp_a _ _ _ (f := 0) (by decide)) (am_lv_ref (hp_a _ _ _ (f := 1) (by decide)) (am_lv_ref (hp_a _ _ _ (f := 2) (by decide)) (am_lv_ref (hp_a _ _ _ (f := 3) (by decide)) (am_lv_ref (hp_o _ _ _) (am_lv_ref (hp_a _ _ _ (f := 4) (by decide)) (am_lv_ref (hp_a _ _ _ (f := 5) (by decide)) (am_lv_ref (hp_a _ _ _ (f := 6) (by decide)) (am_lv_ref (hp_a _ _ _ (f := 7) (by decide)) (am_lv_int (am_lv_int (am_lv_int (am_lv_int am_lv_nil)))))))))))))) (Nat.le_of_ble_eq_true rfl) dL_same_18 [.int (tMem T n (tDown T n j))] rfl ?_
      refine am_top (lRe S j) (qB_re hB (show j < n by omega)).symm ?_
      refine am_go hF sgL_same_21_2afee 24 [(0, .ref 0), (1, .ref 500), (2, .ref 501), (3, .ref 502), (4, .ref 503), (5, .ref 464), (6, .ref 504), (7, .ref 505), (8, .ref 506), (9, .ref 507), (10, .int (nI l)), (11, .int (nI d)), (12, .int 0), (13, .int (nI j))] [.int (nI j), .ref 500, .int (lRe S j)] sgL_same_21_2afeed rfl ?_
      refine am_dS hF hO [.ref 500, .int (nI j)] [.int (lRe S j)] (c_reach (show j < 4 by omega)) myL_reach syL_reach lm_RL_16 rfl 0 0 ⟨Nat.le_of_ble_eq_true rfl, Nat.le_of_ble_eq_true rfl⟩ ⟨Nat.le_of_ble_eq_true rfl, Nat.le_of_ble_eq_true rfl, Nat.le_of_ble_eq_true rfl, Nat.le_of_ble_eq_true rfl⟩ rfl (am_lv_ref (hp_main _ _ _) (am_lv_ref (hp_a _ _ _ (f := 0) (by decide)) (am_lv_ref (hp_a _ _ _ (f := 1) (by decide)) (am_lv_ref (hp_a _ _ _ (f := 2) (by decide)) (am_lv_ref (hp_a _ _ _ (f := 3) (by decide)) (am_lv_ref (hp_o _ _ _) (am_lv_ref (hp_a _ _ _ (f := 4) (by decide)) (am_lv_ref (hp_a _ _ _ (f := 5) (by decide)) (am_lv_ref (hp_a _ _ _ (f := 6) (by decide)) (am_lv_ref (hp_a _ _ _ (f := 7) (by decide)) (am_lv_int (am_lv_int (am_lv_int (am_lv_int (am_lv_int am_lv_nil))))))))))))))) (Nat.le_of_ble_eq_true rfl) dL_same_24 [.int (lRe S j), .int (lRe S j)] rfl ?_
      refine am_icmpne hF 45 dL_same_27 (by decide) (fun h9 => False.elim (absurd rfl h9)) (fun _ => ?_)
      refine am_go hF sgL_same_30_2d860 33 [(0, .ref 0), (1, .ref 500), (2, .ref 501), (3, .ref 502), (4, .ref 503), (5, .ref 464), (6, .ref 504), (7, .ref 505), (8, .ref 506), (9, .ref 507), (10, .int (nI l)), (11, .int (nI d)), (12, .int 0), (13, .int (nI j))] [.int (nI j), .ref 0] sgL_same_30_2d860d rfl ?_
      refine am_dV hF hO [.int (nI j)] [] (c_p_reachesByMembers_n a1 (by omega) (show j < n by omega)) myX5_reachesByMembers vyX5_reachesByMembers lm_RL_67 (hp_main _ _ _) rfl rfl 0 0 ⟨Nat.le_of_ble_eq_true rfl, Nat.le_of_ble_eq_true rfl⟩ ⟨Nat.le_of_ble_eq_true rfl, Nat.le_of_ble_eq_true rfl, Nat.le_of_ble_eq_true rfl, Nat.le_of_ble_eq_true rfl⟩ rfl (am_lv_ref (hp_main _ _ _) (am_lv_ref (hp_a _ _ _ (f := 0) (by decide)) (am_lv_ref (hp_a _ _ _ (f := 1) (by decide)) (am_lv_ref (hp_a _ _ _ (f := 2) (by decide)) (am_lv_ref (hp_a _ _ _ (f := 3) (by decide)) (am_lv_ref (hp_o _ _ _) (am_lv_ref (hp_a _ _ _ (f := 4) (by decide)) (am_lv_ref (hp_a _ _ _ (f := 5) (by decide)) (am_lv_ref (hp_a _ _ _ (f := 6) (by decide)) (am_lv_ref (hp_a _ _ _ (f := 7) (by decide)) (am_lv_int (am_lv_int (am_lv_int (am_lv_int am_lv_nil)))))))))))))) (Nat.le_of_ble_eq_true rfl) dL_same_33 [.int (tRbm T n j)] rfl ?_
      refine am_top (lRe S j) ((rbm_eq hB.2.2.2.1 (show j < n by omega)).trans (qB_re hB (show j < n by omega)).symm) ?_
      refine am_go hF sgL_same_36_2afee 39 [(0, .ref 0), (1, .ref 500), (2, .ref 501), (3, .ref 502), (4, .ref 503), (5, .ref 464), (6, .ref 504), (7, .ref 505), (8, .ref 506), (9, .ref 507), (10, .int (nI l)), (11, .int (nI d)), (12, .int 0), (13, .int (nI j))] [.int (nI j), .ref 500, .int (lRe S j)] sgL_same_36_2afeed rfl ?_
      refine am_dS hF hO [.ref 500, .int (nI j)] [.int (lRe S j)] (c_reach (show j < 4 by omega)) myL_reach syL_reach lm_RL_16 rfl 0 0 ⟨Nat.le_of_ble_eq_true rfl, Nat.le_of_ble_eq_true rfl⟩ ⟨Nat.le_of_ble_eq_true rfl, Nat.le_of_ble_eq_true rfl, Nat.le_of_ble_eq_true rfl, Nat.le_of_ble_eq_true rfl⟩ rfl (am_lv_ref (hp_main _ _ _) (am_lv_ref (hp_a _ _ _ (f := 0) (by decide)) (am_lv_ref (hp_a _ _ _ (f := 1) (by decide)) (am_lv_ref (hp_a _ _ _ (f := 2) (by decide)) (am_lv_ref (hp_a _ _ _ (f := 3) (by decide)) (am_lv_ref (hp_o _ _ _) (am_lv_ref (hp_a _ _ _ (f := 4) (by decide)) (am_lv_ref (hp_a _ _ _ (f := 5) (by decide)) (am_lv_ref (hp_a _ _ _ (f := 6) (by decide)) (am_lv_ref (hp_a _ _ _ (f := 7) (by decide)) (am_lv_int (am_lv_int (am_lv_int (am_lv_int (am_lv_int am_lv_nil))))))))))))))) (Nat.le_of_ble_eq_true rfl) dL_same_39 [.int (lRe S j), .int (lRe S j)] rfl ?_
      refine am_icmpeq hF 47 dL_same_42 (by decide) (fun _ => ?_) (fun h9 => False.elim (absurd rfl h9))
      refine am_go hF sgL_same_47_7bc7f 6 [(13, .int ((nI j) + 1)), (0, .ref 0), (1, .ref 500), (2, .ref 501), (3, .ref 502), (4, .ref 503), (5, .ref 464), (6, .ref 504), (7, .ref 505), (8, .ref 506), (9, .ref 507), (10, .int (nI l)), (11, .int (nI d)), (12, .int 0)] [] sgL_same_47_7bc7fd rfl ?_
      refine am_drop [1, 2, 3, 4, 5, 6, 7, 8, 9, 10, 11, 12, 13, 0] [(0, .ref 0), (1, .ref 500), (2, .ref 501), (3, .ref 502), (4, .ref 503), (5, .ref 464), (6, .ref 504), (7, .ref 505), (8, .ref 506), (9, .ref 507), (10, .int (nI l)), (11, .int (nI d)), (12, .int 0), (13, .int ((nI j) + 1))] rfl ?_
      refine am_eqL [(0, .ref 0), (1, .ref 500), (2, .ref 501), (3, .ref 502), (4, .ref 503), (5, .ref 464), (6, .ref 504), (7, .ref 505), (8, .ref 506), (9, .ref 507), (10, .int (nI l)), (11, .int (nI d)), (12, .int 0), (13, .int (nI (j + 1)))] (by first | rfl | (rw [nI_1]; done) | (simp only [nI_1]; done)) ?_
      exact ih6 (j + 1) (by omega)
  exact lp6 (n) 0 (by omega)
