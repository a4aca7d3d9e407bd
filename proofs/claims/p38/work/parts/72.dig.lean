/-! pure: a mail comes into a digest, in both -/
section
variable {T S : am_T} {o : Nat → Int64} {n m v t c k p : Nat}
set_option maxHeartbeats 2000000 in
theorem qJ_dig (h : qJ T S o n m v t c) (hc : c ≤ 100) (hk : k < m) (hp : p < 8) {l d : Nat} (hl : l < n) (hd : S 12 k = nI d) (hd15 : d < 15) : qJ (tDig T k p l) (lDg S k p l d) o n m v t c := by
  obtain ⟨⟨hA, hP, hL, hJ, hM, hF, hK, hQ, hN⟩, hD⟩ := h
  obtain ⟨a1, a2, hn4, a4, a5, hm10, a7, hvm, a9, a10, ht14, a12⟩ := id hA
  have hkk := hK k hk
  obtain ⟨j, hj, e21, e33⟩ := hkk.2.2.2.2.2.1
  rw [hd] at e33
  obtain ⟨d9, hd9, f33, f37, f⟩ := hD.1 j hj
  have edd : d9 = d := by
    rw [e33] at f33
    exact ((nI_eq (by omega) (by omega)).mp f33).symm
  subst edd
  have hl4 : l < 4 := by omega
  have hdig : tDig T k p l = st1 (st1 (st1 (st1 T 27 k (T 27 k ||| (1 : Int32) <<< (nI l &&& 31))) 34 (10 * j + l) (T 34 (10 * j + l) ||| (1 : Int32) <<< (nI p &&& 31))) 36 j (if T 37 j = 0 then T 36 j else T 36 j ||| (1 : Int32) <<< (nI l &&& 31))) 26 k (T 26 k ||| (1 : Int32) <<< (nI p &&& 31)) := by
    unfold tDig tAdd
    rw [e21, nI_clamp (by omega)]
    rfl
  obtain ⟨q34, ⟨e, he, q35, q40, qe0, qet⟩, q36, q36b⟩ := f l hl4
  have bp : ¬ (S 50 (15 * l + d9) ||| (1 : Int32) <<< (nI p &&& 31)) = 0 := fun e => by
    have h9 : bt (S 50 (15 * l + d9) ||| (1 : Int32) <<< (nI p &&& 31)) p = true := by rw [b_or, bt_bit (by omega), Bool.or_true]
    rw [e, b_0] at h9
    cases h9
  -- when a late mail is told
  have hcnd : (nI d9 < S 70 0 ∧ (S 90 l >>> (nI d9 &&& 31)) &&& 1 = 0) ↔ (¬ d9 = t ∧ ¬ bt (T 36 j) l = true) := by
    rw [a10, bt_iff0 (by omega), q36]
    unfold lat
    rw [Bool.not_eq_true]
    constructor
    · rintro ⟨h1, h2⟩
      have := (nI_ltI (a := d9) (b := t) (by omega) (by omega)).mp h1
      exact ⟨by omega, h2⟩
    · rintro ⟨h1, h2⟩
      exact ⟨(nI_ltI (a := d9) (b := t) (by omega) (by omega)).mpr (by omega), h2⟩
  -- the law's places
  have sf : ∀ {g}, g ≠ 40 ∧ g ≠ 50 ∧ g ≠ 60 ∧ g ≠ 15 ∧ g ≠ 90 → lDg S k p l d9 g = S g := fun h => (lD2_f ⟨h.1, h.2.1, h.2.2.1, h.2.2.2.1⟩).trans (lLt_f ⟨h.1, h.2.2.2.2⟩)
  have s15 : lDg S k p l d9 15 = st1 S 15 k (S 15 k ||| (1 : Int32) <<< (nI p &&& 31)) 15 := by
    have e15 : lLt S l d9 15 = S 15 := lLt_f (by decide)
    funext i
    show st1 _ 15 k (lLt S l d9 15 k ||| _) 15 i = _
    rw [st1_if, st1_if, e15]
    split
    · rfl
    · show lLt S l d9 15 i = _
      rw [e15]
  have s50 : ∀ a, lDg S k p l d9 50 a = if a = 15 * l + d9 then S 50 (15 * l + d9) ||| (1 : Int32) <<< (nI p &&& 31) else S 50 a := fun a => by
    show st1 _ 50 (15 * l + d9) (lLt S l d9 50 (15 * l + d9) ||| _) 50 a = _
    rw [st1_if, lLt_f (by decide)]
    split
    · rfl
    · show lLt S l d9 50 a = _
      rw [lLt_f (by decide)]
  have s60 : ∀ a, lDg S k p l d9 60 a = if a = 15 * l + d9 then S 60 (15 * l + d9) ||| (1 : Int32) <<< (nI k &&& 31) else S 60 a := fun a => by
    show st1 _ 60 (15 * l + d9) (lLt S l d9 60 (15 * l + d9) ||| _) 60 a = _
    rw [st1_if, lLt_f (by decide)]
    split
    · rfl
    · show lLt S l d9 60 a = _
      rw [lLt_f (by decide)]
  have s40 : ∀ a, lDg S k p l d9 40 a = if a = 15 * l + d9 then (if ¬ d9 = t ∧ ¬ bt (T 36 j) l = true then S 40 (15 * l + d9) + 2 else S 40 (15 * l + d9)) ||| 1 else S 40 a := fun a => by
    show st1 (lLt S l d9) 40 (15 * l + d9) (lLt S l d9 40 (15 * l + d9) ||| 1) 40 a = _
    have h40 : ∀ a, lLt S l d9 40 a = if a = 15 * l + d9 then (if ¬ d9 = t ∧ ¬ bt (T 36 j) l = true then S 40 (15 * l + d9) + 2 else S 40 (15 * l + d9)) else S 40 a := fun a => by
      unfold lLt
      by_cases h9 : ¬ d9 = t ∧ ¬ bt (T 36 j) l = true
      · rw [if_pos (hcnd.mpr h9), if_pos h9]
        show st1 S 40 _ _ 40 a = _
        rw [st1_if]
      · rw [if_neg (fun e => h9 (hcnd.mp e)), if_neg h9]
        split
        · rename_i e; rw [e]
        · rfl
    rw [st1_if, h40, h40, if_pos rfl]
    split
    · rfl
    · rfl
  have s90 : ∀ l2, lDg S k p l d9 90 l2 = if l2 = l ∧ ¬ d9 = t ∧ ¬ bt (T 36 j) l = true then S 90 l ||| (1 : Int32) <<< (nI d9 &&& 31) else S 90 l2 := fun l2 => by
    show lLt S l d9 90 l2 = _
    unfold lLt
    by_cases h9 : ¬ d9 = t ∧ ¬ bt (T 36 j) l = true
    · rw [if_pos (hcnd.mpr h9), st1_if]
      by_cases h8 : l2 = l
      · rw [if_pos h8, if_pos ⟨h8, h9⟩]
      · rw [if_neg h8, if_neg (fun e => h8 e.1)]; rfl
    · rw [if_neg (fun e => h9 (hcnd.mp e)), if_neg (fun e => h9 e.2)]
  have hlat : ∀ l2 d2, d2 < 15 → (lat (lDg S k p l d9) l2 d2 ↔ ((l2 = l ∧ d2 = d9 ∧ ¬ d9 = t) ∨ lat S l2 d2)) := by
    intro l2 d2 hd2
    unfold lat
    rw [s90]
    by_cases h9 : l2 = l ∧ ¬ d9 = t ∧ ¬ bt (T 36 j) l = true
    · rw [if_pos h9, b_or, b_bit (by omega) (by omega), Bool.or_eq_true, decide_eq_true_eq]
      obtain ⟨rfl, h8, h7⟩ := h9
      constructor
      · rintro (h | h)
        · exact Or.inr h
        · exact Or.inl ⟨rfl, h, h8⟩
      · rintro (⟨-, h, -⟩ | h)
        · exact Or.inr h
        · exact Or.inl h
    · rw [if_neg h9]
      constructor
      · exact Or.inr
      · rintro (⟨e1, e2, e3⟩ | h)
        · subst e1; subst e2
          have h8 : bt (T 36 j) l2 = true := by
            by_cases h7 : bt (T 36 j) l2 = true
            · exact h7
            · exact absurd ⟨rfl, e3, h7⟩ h9
          exact q36.mp h8
        · exact h
  generalize lDg S k p l d9 = S9 at sf s15 s50 s60 s40 s90 hlat ⊢
  rw [hdig]
  generalize hT9 : st1 (st1 (st1 (st1 T 27 k (T 27 k ||| (1 : Int32) <<< (nI l &&& 31))) 34 (10 * j + l) (T 34 (10 * j + l) ||| (1 : Int32) <<< (nI p &&& 31))) 36 j (if T 37 j = 0 then T 36 j else T 36 j ||| (1 : Int32) <<< (nI l &&& 31))) 26 k (T 26 k ||| (1 : Int32) <<< (nI p &&& 31)) = T9
  have hT34 : ∀ a, T9 34 a = if a = 10 * j + l then T 34 (10 * j + l) ||| (1 : Int32) <<< (nI p &&& 31) else T 34 a := fun a => by rw [← hT9, st1_f (show 34 ≠ 26 by decide), st1_f (show 34 ≠ 36 by decide), st1_if]; rfl
  have hT36 : ∀ a, T9 36 a = if a = j then (if T 37 j = 0 then T 36 j else T 36 j ||| (1 : Int32) <<< (nI l &&& 31)) else T 36 a := fun a => by rw [← hT9, st1_f (show 36 ≠ 26 by decide), st1_if]; rfl
  have hT27 : ∀ a, T9 27 a = if a = k then T 27 k ||| (1 : Int32) <<< (nI l &&& 31) else T 27 a := fun a => by rw [← hT9, st1_f (show 27 ≠ 26 by decide), st1_f (show 27 ≠ 36 by decide), st1_f (show 27 ≠ 34 by decide), st1_if]
  have hT26 : T9 26 = st1 T 26 k (T 26 k ||| (1 : Int32) <<< (nI p &&& 31)) 26 := by
    rw [← hT9]
    rfl
  have tf : ∀ {g}, g ≠ 27 ∧ g ≠ 34 ∧ g ≠ 36 ∧ g ≠ 26 → T9 g = T g := fun h => by rw [← hT9, st1_f h.2.2.2, st1_f h.2.2.1, st1_f h.2.1, st1_f h.1]
  clear hT9
  refine ⟨⟨qA_c hA (tf (by decide)) (tf (by decide)) (tf (by decide)) (tf (by decide)) (tf (by decide)) (sf (by decide)) (sf (by decide)) (sf (by decide)) (sf (by decide)), qP_c hP (tf (by decide)) (tf (by decide)) (tf (by decide)) (tf (by decide)) (tf (by decide)) (sf (by decide)) (sf (by decide)) (sf (by decide)) (sf (by decide)) rfl, qL_c hL (tf (by decide)) (tf (by decide)) (tf (by decide)) (tf (by decide)) (tf (by decide)) (sf (by decide)) (sf (by decide)) (sf (by decide)) (sf (by decide)) (sf (by decide)), jP_c hJ (tf (by decide)) (sf (by decide)), qM_c hM (tf (by decide)) (tf (by decide)) (sf (by decide)) (sf (by decide)), qF_c hF (sf (by decide)) (sf (by decide)) (sf (by decide)) (sf (by decide)) (sf (by decide)), qK_26 hK _ hT26 s15 (tf (by decide)) (tf (by decide)) (tf (by decide)) (tf (by decide)) (tf (by decide)) (tf (by decide)) (tf (by decide)) (tf (by decide)) (tf (by decide)) (sf (by decide)) (sf (by decide)) (sf (by decide)) (sf (by decide)) (sf (by decide)) (sf (by decide)) (sf (by decide)) (sf (by decide)), qQ_c hQ (tf (by decide)) (tf (by decide)) (tf (by decide)) (tf (by decide)) (tf (by decide)) (sf (by decide)) (sf (by decide)) (sf (by decide)) (sf (by decide)) (sf (by decide)), qN_15 hN hk s15 (sf (by decide)) (sf (by decide)) (sf (by decide)) (tf (by decide))⟩, fun i hi => ?_, fun i i2 => by rw [tf (by decide)]; exact hD.2.1 i i2, fun l2 d2 hl2 hd2 h0 => ?_, fun l2 d2 hl2 hd2 => ?_⟩
  · -- days
    obtain ⟨d2, hd2, g33, g37, g⟩ := hD.1 i hi
    refine ⟨d2, hd2, by rw [tf (by decide)]; exact g33, by rw [tf (by decide)]; exact g37, fun l2 hl2 => ?_⟩
    obtain ⟨r34, ⟨e2, he2, r35, r40, re0, ret⟩, r36, r36b⟩ := g l2 hl2
    rw [hT34, hT36, s50, s40, tf (show 35 ≠ 27 ∧ 35 ≠ 34 ∧ 35 ≠ 36 ∧ 35 ≠ 26 by decide), hlat l2 d2 (by omega)]
    by_cases ei : i = j
    · subst ei
      have ed : d2 = d9 := by
        rw [e33] at g33
        exact ((nI_eq (by omega) (by omega)).mp g33).symm
      subst ed
      rw [if_pos (show i = i from rfl)]
      by_cases el : l2 = l
      · subst el
        have ee : e2 = e := (nI_eq (by omega) (by omega)).mp (r35.symm.trans q35)
        subst ee
        rw [if_pos (show 10 * i + l2 = 10 * i + l2 from rfl), if_pos (show 15 * l2 + d2 = 15 * l2 + d2 from rfl), if_pos (show 15 * l2 + d2 = 15 * l2 + d2 from rfl), if_neg bp, q34]
        refine ⟨rfl, ⟨e2, he2, q35, ?_, fun h9 => absurd h9 bp, qet⟩, ?_, ?_⟩
        · have hh : (if S 50 (15 * l2 + d2) = 0 then 0 else 1) ≤ 1 := by split <;> omega
          by_cases h0 : d2 = t
          · have hlate : ¬ bt (T 36 i) l2 = true := fun h9 => (q36b h9).2 h0
            rw [if_pos (f37.mpr h0), if_neg (fun e9 => e9.1 h0), if_neg hlate, q40, if_neg hlate]
            exact k_or1 hh (by omega)
          · rw [if_neg (fun e9 => h0 (f37.mp e9)), b_or, bt_bit (by omega), Bool.or_true, if_pos (show true = true from rfl)]
            by_cases h1 : bt (T 36 i) l2 = true
            · rw [if_neg (fun e9 => e9.2 h1), q40, if_pos h1]
              exact k_or1 hh (by omega)
            · rw [if_pos ⟨h0, h1⟩, q40, if_neg h1]
              have e9 : nI (2 * (e2 + 0) + (if S 50 (15 * l2 + d2) = 0 then 0 else 1)) + 2 = nI (2 * (e2 + 1) + (if S 50 (15 * l2 + d2) = 0 then 0 else 1)) := by
                rw [show (2 : Int32) = nI 2 from rfl, nI_add]
                congr 1
                omega
              rw [e9]
              exact k_or1 hh (by omega)
        · by_cases h0 : d2 = t
          · rw [if_pos (f37.mpr h0), q36]
            constructor
            · exact Or.inr
            · rintro (⟨-, -, h9⟩ | h9)
              · exact absurd h0 h9
              · exact h9
          · rw [if_neg (fun e9 => h0 (f37.mp e9)), b_or, bt_bit (by omega), Bool.or_true]
            exact ⟨fun _ => Or.inl ⟨rfl, rfl, h0⟩, fun _ => rfl⟩
        · intro h9
          refine ⟨bp, fun h0 => ?_⟩
          rw [if_pos (f37.mpr h0)] at h9
          exact (q36b h9).2 h0
      · have n1 : ¬ 10 * i + l2 = 10 * i + l := by omega
        have n2 : ¬ 15 * l2 + d2 = 15 * l + d2 := by omega
        rw [if_neg n1, if_neg n2, if_neg n2]
        have hb9 : bt (if T 37 i = 0 then T 36 i else T 36 i ||| (1 : Int32) <<< (nI l &&& 31)) l2 = bt (T 36 i) l2 := by
          split
          · rfl
          · rw [b_or, b_bit (by omega) (by omega), decide_eq_false el, Bool.or_false]
        rw [hb9]
        refine ⟨r34, ⟨e2, he2, r35, r40, re0, ret⟩, ?_, r36b⟩
        rw [r36]
        constructor
        · exact Or.inr
        · rintro (⟨x1, -⟩ | x2)
          · exact absurd x1 el
          · exact x2
    · have hne : ¬ d2 = d9 := fun e9 => ei (hD.2.1 i j hi hj (by rw [g33, e33, e9]))
      have n1 : ¬ 10 * i + l2 = 10 * j + l := by omega
      have n2 : ¬ 15 * l2 + d2 = 15 * l + d9 := by omega
      rw [if_neg n1, if_neg n2, if_neg n2, if_neg ei]
      refine ⟨r34, ⟨e2, he2, r35, r40, re0, ret⟩, ?_, r36b⟩
      rw [r36]
      constructor
      · exact Or.inr
      · rintro (⟨-, x1, -⟩ | x2)
        · exact absurd x1 hne
        · exact x2
  · have hne : ¬ 15 * l2 + d2 = 15 * l + d9 := fun e9 => by
      have e1 : l2 = l := by omega
      have e2 : d2 = d9 := by omega
      subst e2
      exact h0 j hj (by rw [tf (by decide)]; exact e33)
    rw [s50, s40, if_neg hne, if_neg hne]
    exact hD.2.2.1 l2 d2 hl2 hd2 (fun i hi => by have := h0 i hi; rw [tf (by decide)] at this; exact this)
  · obtain ⟨g1, g2⟩ := hD.2.2.2 l2 d2 hl2 hd2
    rw [s60, sf (show 12 ≠ 40 ∧ 12 ≠ 50 ∧ 12 ≠ 60 ∧ 12 ≠ 15 ∧ 12 ≠ 90 by decide)]
    by_cases e9 : 15 * l2 + d2 = 15 * l + d9
    · have e1 : l2 = l := by omega
      have e2 : d2 = d9 := by omega
      subst e1; subst e2
      rw [if_pos rfl]
      refine ⟨fun i hi => ?_, fun i hi => ?_⟩
      · rw [b_or, Bool.or_eq_true] at hi
        rcases hi with hi | hi
        · exact g1 i hi
        · have hi32 := b_lt hi
          rw [b_bit (by omega) hi32, decide_eq_true_eq] at hi
          omega
      · rw [b_or, Bool.or_eq_true, b_bit (by omega) (by omega), decide_eq_true_eq, g2 i hi, hT27]
        by_cases ei : i = k
        · subst ei
          rw [if_pos rfl, b_or, bt_bit (by omega), Bool.or_true]
          exact ⟨fun _ => ⟨hk, hd, rfl⟩, fun _ => Or.inr rfl⟩
        · rw [if_neg ei]
          exact ⟨fun h => h.resolve_right ei, Or.inl⟩
    · rw [if_neg e9]
      refine ⟨g1, fun i hi => ?_⟩
      rw [g2 i hi, hT27]
      by_cases ei : i = k
      · subst ei
        rw [if_pos rfl, b_or, Bool.or_eq_true, b_bit (by omega) (by omega), decide_eq_true_eq]
        constructor
        · rintro ⟨x1, x2, x3⟩; exact ⟨x1, x2, Or.inl x3⟩
        · rintro ⟨x1, x2, x3⟩
          refine ⟨x1, x2, x3.resolve_right (fun e1 => ?_)⟩
          rw [hd] at x2
          have e2 : d9 = d2 := (nI_eq (by omega) (by omega)).mp x2
          exact e9 (by omega)
      · rw [if_neg ei]
end
