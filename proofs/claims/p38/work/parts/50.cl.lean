/-! pure: what is in a list, going down and going up; members, modes, reaches -/
theorem itN_congr {α : Type} {f g : Nat → α → α} {a : α} : ∀ {n : Nat}, (∀ k, k < n → ∀ s, f k s = g k s) → itN f a n = itN g a n
  | 0, _ => rfl
  | n + 1, h => by
    show f n (itN f a n) = g n (itN g a n)
    rw [itN_congr (n := n) (fun k hk => h k (by omega)), h n (by omega)]
theorem itD_congr {α : Type} {f g : Nat → α → α} : ∀ {n : Nat} {a : α}, (∀ k, k < n → ∀ s, f k s = g k s) → itD f a n = itD g a n
  | 0, _, _ => rfl
  | n + 1, a, h => by
    show itD f (f n a) n = itD g (g n a) n
    rw [h n (by omega), itD_congr (n := n) (fun k hk => h k (by omega))]
def sb (s s' : Int32) : Prop := ∀ i, bt s i = true → bt s' i = true
def bd (n : Nat) (s : Int32) : Prop := ∀ i, bt s i = true → i < n
theorem sb_tr {a b c : Int32} (h1 : sb a b) (h2 : sb b c) : sb a c := fun i h => h2 i (h1 i h)
theorem sb_rf (a : Int32) : sb a a := fun _ h => h
theorem b_lt {s : Int32} {i : Nat} (h : bt s i = true) : i < 32 := by
  rcases Nat.lt_or_ge i 32 with h1 | h1
  · exact h1
  · rw [b_big h1] at h; cases h
theorem itN_sb {g : Nat → Int32 → Int32} (hg : ∀ k s, sb s (g k s)) (s : Int32) : ∀ n, sb s (itN g s n)
  | 0 => sb_rf s
  | n + 1 => sb_tr (itN_sb hg s n) (hg n _)
theorem itN_sb2 {g : Nat → Int32 → Int32} (hg : ∀ k s, sb s (g k s)) (s : Int32) : ∀ n m, n ≤ m → sb (itN g s n) (itN g s m) := by
  intro n m h
  induction m with
  | zero => rw [show n = 0 by omega]; exact sb_rf _
  | succ m ih =>
    by_cases e : n = m + 1
    · subst e; exact sb_rf _
    · exact sb_tr (ih (by omega)) (hg m _)
theorem itN_inv {α : Type} {g : Nat → α → α} {P : α → Prop} {s : α} (h0 : P s) : ∀ {n : Nat}, (∀ k, k < n → ∀ s, P s → P (g k s)) → P (itN g s n)
  | 0, _ => h0
  | n + 1, h => h n (by omega) _ (itN_inv h0 (n := n) (fun k hk => h k (by omega)))
/-- how many of the first n are in the set -/
def cb (s : Int32) : Nat → Nat
  | 0 => 0
  | i + 1 => cb s i + (if bt s i = true then 1 else 0)
theorem cb_le (s : Int32) : ∀ n, cb s n ≤ n
  | 0 => Nat.le_refl 0
  | n + 1 => by
    have := cb_le s n
    unfold cb
    split <;> omega
theorem cb_mono {s s' : Int32} (h : sb s s') : ∀ n, cb s n ≤ cb s' n
  | 0 => Nat.le_refl 0
  | n + 1 => by
    have := cb_mono h n
    unfold cb
    by_cases h1 : bt s n = true
    · rw [if_pos h1, if_pos (h n h1)]; omega
    · rw [if_neg h1]; split <;> omega
theorem cb_lt {s s' : Int32} (h : sb s s') {i : Nat} (h1 : ¬ bt s i = true) (h2 : bt s' i = true) : ∀ n, i < n → cb s n < cb s' n := by
  intro n
  induction n with
  | zero => intro h; omega
  | succ n ih =>
    intro hi
    unfold cb
    by_cases e : i = n
    · subst e
      rw [if_neg h1, if_pos h2]
      have := cb_mono h i
      omega
    · have := ih (by omega)
      by_cases h3 : bt s n = true
      · rw [if_pos h3, if_pos (h n h3)]; omega
      · rw [if_neg h3]; split <;> omega
theorem cb_pos {s : Int32} {i : Nat} (h : bt s i = true) : ∀ n, i < n → 1 ≤ cb s n := by
  intro n
  induction n with
  | zero => intro h; omega
  | succ n ih =>
    intro hi
    unfold cb
    by_cases e : i = n
    · subst e; rw [if_pos h]; omega
    · have := ih (by omega); omega
/-- a growing step comes to rest in n turns -/
theorem fix_n {f : Int32 → Int32} {n : Nat} {s0 : Int32} {i0 : Nat} (hn : n ≤ 32) (hi : ∀ s, sb s (f s)) (hb : ∀ s, bd n s → bd n (f s)) (h0 : bd n s0) (h1 : bt s0 i0 = true) : f (itN (fun _ s => f s) s0 n) = itN (fun _ s => f s) s0 n := by
  have hbd : ∀ j, bd n (itN (fun _ s => f s) s0 j) := fun j => itN_inv (P := bd n) h0 (fun k _ s h => hb s h)
  have key : ∀ j, (∃ i, i ≤ j ∧ f (itN (fun _ s => f s) s0 i) = itN (fun _ s => f s) s0 i) ∨ j + 1 ≤ cb (itN (fun _ s => f s) s0 j) n := by
    intro j
    induction j with
    | zero => exact Or.inr (cb_pos h1 n (h0 i0 h1))
    | succ j ih =>
      rcases ih with ⟨i, hi1, hi2⟩ | h
      · exact Or.inl ⟨i, by omega, hi2⟩
      · by_cases e : f (itN (fun _ s => f s) s0 j) = itN (fun _ s => f s) s0 j
        · exact Or.inl ⟨j, by omega, e⟩
        · have hs := hi (itN (fun _ s => f s) s0 j)
          have hex : ∃ i, i < 32 ∧ ¬ bt (itN (fun _ s => f s) s0 j) i = true ∧ bt (f (itN (fun _ s => f s) s0 j)) i = true := by
            apply Classical.byContradiction
            intro hne
            refine e (b_ext (fun i hi9 => ?_))
            by_cases h3 : bt (itN (fun _ s => f s) s0 j) i = true
            · rw [h3, hs i h3]
            · by_cases h4 : bt (f (itN (fun _ s => f s) s0 j)) i = true
              · exact absurd ⟨i, hi9, h3, h4⟩ hne
              · rw [Bool.eq_false_iff.mpr h3, Bool.eq_false_iff.mpr h4]
          obtain ⟨i, -, h3, h4⟩ := hex
          have := cb_lt hs h3 h4 n (hb _ (hbd j) i h4)
          refine Or.inr ?_
          show _ ≤ cb (f (itN (fun _ s => f s) s0 j)) n
          omega
  rcases key n with ⟨i, hi1, hi2⟩ | h
  · have : ∀ d, itN (fun _ s => f s) s0 (i + d) = itN (fun _ s => f s) s0 i := by
      intro d
      induction d with
      | zero => rfl
      | succ d ih => show f (itN (fun _ s => f s) s0 (i + d)) = _; rw [ih]; exact hi2
    have e : i + (n - i) = n := by omega
    rw [← e, this]
    exact hi2
  · have := cb_le (itN (fun _ s => f s) s0 n) n
    omega
theorem fix_m {f : Int32 → Int32} {n : Nat} {s0 : Int32} (h : f (itN (fun _ s => f s) s0 n) = itN (fun _ s => f s) s0 n) : ∀ d, itN (fun _ s => f s) s0 (n + d) = itN (fun _ s => f s) s0 n
  | 0 => rfl
  | d + 1 => by show f (itN (fun _ s => f s) s0 (n + d)) = _; rw [fix_m h d]; exact h
-- parts
def jP (T S : am_T) (n : Nat) : Prop := n ≤ 10 ∧ ∀ l, l < n → T 13 l = S 5 l ∧ bd n (S 5 l)
theorem td1_sb (T : am_T) (k : Nat) (s : Int32) : sb s (td1 T k s) := by
  intro i h
  unfold td1
  split
  · rw [b_or, h]; rfl
  · exact h
theorem tu1_sb (T : am_T) (k : Nat) (s : Int32) : sb s (tu1 T k s) := by
  intro i h
  unfold tu1
  split
  · exact h
  · rw [b_or, h]; rfl
theorem bd_bit {n l : Nat} (hl : l < n) (hn : n ≤ 32) : bd n ((1 : Int32) <<< (nI l &&& 31)) := by
  intro i h
  rw [b_bit (by omega) (b_lt h), decide_eq_true_eq] at h
  omega
theorem bt_bit {l : Nat} (hl : l < 32) : bt ((1 : Int32) <<< (nI l &&& 31)) l = true := by
  rw [b_bit hl hl, decide_eq_true_eq]
section
variable {T S : am_T} {n : Nat}
theorem td1_bd (h : jP T S n) {k : Nat} (hk : k < n) {s : Int32} (hs : bd n s) : bd n (td1 T k s) := by
  intro i hi
  unfold td1 at hi
  split at hi
  · rw [b_or, Bool.or_eq_true] at hi
    rcases hi with hi | hi
    · exact hs i hi
    · rw [(h.2 k hk).1] at hi; exact (h.2 k hk).2 i hi
  · exact hs i hi
theorem tu1_bd {k : Nat} (hk : k < n) (hn : n ≤ 32) {s : Int32} (hs : bd n s) : bd n (tu1 T k s) := by
  intro i hi
  unfold tu1 at hi
  split at hi
  · exact hs i hi
  · rw [b_or, Bool.or_eq_true] at hi
    rcases hi with hi | hi
    · exact hs i hi
    · exact bd_bit hk hn i hi
theorem tDown_fix (h : jP T S n) {l : Nat} (hl : l < n) : itN (td1 T) (tDown T n l) n = tDown T n l :=
  fix_n (f := fun s => itN (td1 T) s n) (i0 := l) (by have := h.1; omega) (fun s => itN_sb (td1_sb T) s n) (fun s hs => itN_inv (P := bd n) hs (fun k hk s hs => td1_bd h hk hs)) (bd_bit hl (by have := h.1; omega)) (bt_bit (by have := h.1; omega))
theorem tUp_fix (hn : n ≤ 10) {l : Nat} (hl : l < n) : itN (tu1 T) (tUp T n l) n = tUp T n l :=
  fix_n (f := fun s => itN (tu1 T) s n) (i0 := l) (by omega) (fun s => itN_sb (tu1_sb T) s n) (fun s hs => itN_inv (P := bd n) hs (fun k hk s hs => tu1_bd hk (by omega) hs)) (bd_bit hl (by omega)) (bt_bit (by omega))
theorem tDown_bd (h : jP T S n) {l : Nat} (hl : l < n) : bd n (tDown T n l) :=
  itN_inv (P := bd n) (bd_bit hl (by have := h.1; omega)) (fun _ _ s hs => itN_inv (P := bd n) hs (fun k hk s hs => td1_bd h hk hs))
theorem tDown_self (hn : n ≤ 10) {l : Nat} (hl : l < n) : bt (tDown T n l) l = true :=
  itN_sb (g := fun _ s => itN (td1 T) s n) (fun _ s => itN_sb (td1_sb T) s n) _ n l (bt_bit (by omega))
theorem tUp_self (hn : n ≤ 10) {l : Nat} (hl : l < n) : bt (tUp T n l) l = true :=
  itN_sb (g := fun _ s => itN (tu1 T) s n) (fun _ s => itN_sb (tu1_sb T) s n) _ n l (bt_bit (by omega))
/-- closed downwards -/
theorem tDown_cl (h : jP T S n) {l k i : Nat} (hl : l < n) (hk : k < n) (h1 : bt (tDown T n l) k = true) (h2 : bt (T 13 k) i = true) : bt (tDown T n l) i = true := by
  have e := tDown_fix h hl
  have h3 : bt (itN (td1 T) (tDown T n l) k) k = true := itN_sb (td1_sb T) _ k k h1
  have h4 : bt (itN (td1 T) (tDown T n l) (k + 1)) i = true := by
    show bt (td1 T k (itN (td1 T) (tDown T n l) k)) i = true
    generalize itN (td1 T) (tDown T n l) k = s9 at h3 ⊢
    unfold td1
    rw [if_pos h3, b_or, h2, Bool.or_true]
  have h5 := itN_sb2 (td1_sb T) (tDown T n l) (k + 1) n (by omega) i h4
  rw [e] at h5
  exact h5
theorem tUp_cl (hn : n ≤ 10) {l k i : Nat} (hl : l < n) (hk : k < n) (h1 : bt (tUp T n l) i = true) (h2 : bt (T 13 k) i = true) : bt (tUp T n l) k = true := by
  have e := tUp_fix (T := T) hn hl
  have h3 : bt (itN (tu1 T) (tUp T n l) k) i = true := itN_sb (tu1_sb T) _ k i h1
  have h4 : bt (itN (tu1 T) (tUp T n l) (k + 1)) k = true := by
    show bt (tu1 T k (itN (tu1 T) (tUp T n l) k)) k = true
    generalize itN (tu1 T) (tUp T n l) k = s9 at h3 ⊢
    unfold tu1
    rw [if_neg (fun e0 => by
      have h9 : bt (T 13 k &&& s9) i = true := by rw [b_and, h2, h3]; rfl
      rw [e0, b_0] at h9
      cases h9), b_or, bt_bit (by omega), Bool.or_true]
  have h5 := itN_sb2 (tu1_sb T) (tUp T n l) (k + 1) n (by omega) k h4
  rw [e] at h5
  exact h5
/-- the least such -/
theorem tDown_min (hn : n ≤ 10) {l : Nat} (hl : l < n) {P : Nat → Prop} (h0 : P l) (hP : ∀ k, k < n → P k → ∀ i, bt (T 13 k) i = true → P i) : ∀ i, bt (tDown T n l) i = true → P i := by
  refine itN_inv (P := fun s => ∀ i, bt s i = true → P i) (fun i hi => ?_) (fun _ _ s hs => itN_inv (P := fun s => ∀ i, bt s i = true → P i) hs (fun k hk s hs => ?_))
  · rw [b_bit (by omega) (b_lt hi), decide_eq_true_eq] at hi
    rw [hi]; exact h0
  · intro i hi
    unfold td1 at hi
    split at hi
    · rename_i hk9
      rw [b_or, Bool.or_eq_true] at hi
      rcases hi with hi | hi
      · exact hs i hi
      · exact hP k hk (hs k hk9) i hi
    · exact hs i hi
theorem tUp_min (hn : n ≤ 10) {l : Nat} (hl : l < n) {P : Nat → Prop} (h0 : P l) (hP : ∀ k, k < n → ∀ i, P i → bt (T 13 k) i = true → P k) : ∀ i, bt (tUp T n l) i = true → P i := by
  refine itN_inv (P := fun s => ∀ i, bt s i = true → P i) (fun i hi => ?_) (fun _ _ s hs => itN_inv (P := fun s => ∀ i, bt s i = true → P i) hs (fun k hk s hs => ?_))
  · rw [b_bit (by omega) (b_lt hi), decide_eq_true_eq] at hi
    rw [hi]; exact h0
  · intro i hi
    unfold tu1 at hi
    split at hi
    · exact hs i hi
    · rename_i hne
      rw [b_or, Bool.or_eq_true] at hi
      rcases hi with hi | hi
      · exact hs i hi
      · rw [b_bit (by omega) (b_lt hi), decide_eq_true_eq] at hi
        subst hi
        have hex : ∃ q, bt (T 13 i) q = true ∧ bt s q = true := by
          apply Classical.byContradiction
          intro hno
          refine hne (b_ext (fun q hq => ?_))
          rw [b_and, b_0]
          by_cases h1 : bt (T 13 i) q = true
          · by_cases h2 : bt s q = true
            · exact absurd ⟨q, h1, h2⟩ hno
            · rw [Bool.eq_false_iff.mpr h2, Bool.and_false]
          · rw [Bool.eq_false_iff.mpr h1, Bool.false_and]
        obtain ⟨q, h1, h2⟩ := hex
        exact hP i hk q (hs q h2) h1
theorem up_down (h : jP T S n) {l k : Nat} (hl : l < n) (hk : k < n) : bt (tUp T n k) l = true ↔ bt (tDown T n l) k = true := by
  have hn := h.1
  constructor
  · intro h1
    have := tUp_min (T := T) hn hk (P := fun i => i < n → bt (tDown T n i) k = true) (fun _ => tDown_self hn hk) (fun a ha i hi hb _ => by
      have hin : i < n := by rw [(h.2 a ha).1] at hb; exact (h.2 a ha).2 i hb
      exact tDown_min (T := T) hn hin (P := fun q => bt (tDown T n a) q = true) (tDown_cl h ha ha (tDown_self hn ha) hb) (fun q hq h9 r hr => tDown_cl h ha hq h9 hr) k (hi hin)) l h1
    exact this hl
  · intro h1
    have := tDown_min (T := T) hn hl (P := fun i => i < n → bt (tUp T n i) l = true) (fun _ => tUp_self hn hl) (fun a ha hi i hb hin => by
      exact tUp_min (T := T) hn ha (P := fun q => bt (tUp T n i) q = true) (tUp_cl hn hin ha (tUp_self hn hin) hb) (fun q hq r hr h9 => tUp_cl hn hin hq hr h9) l (hi ha)) k h1
    exact this hk
theorem tLow_ex {set : Int32} {p : Nat} (hn : n ≤ 10) : ¬ tLow T n set p = -1 ↔ ∃ k, k < n ∧ tHas T set p k = true := by
  constructor
  · intro h
    apply Classical.byContradiction
    intro hno
    refine h (tlo_none (fun i hi => ?_))
    by_cases h2 : tHas T set p i = true
    · exact absurd ⟨i, hi, h2⟩ hno
    · exact Bool.eq_false_iff.mpr h2
  · rintro ⟨k, hk, h⟩
    have : ∀ (j : Nat), (∃ k, k ≤ j ∧ k < n ∧ tHas T set p k = true) → ∃ q, q < n ∧ tLow T n set p = nI q := by
      intro j
      induction j with
      | zero =>
        rintro ⟨k, hk0, hkn, h⟩
        have e : k = 0 := by omega
        subst e
        exact ⟨0, hkn, tlo_some h (fun i hi => absurd hi (Nat.not_lt_zero i)) hkn _⟩
      | succ j ih =>
        rintro ⟨k, hk0, hkn, h⟩
        by_cases h2 : ∃ k, k ≤ j ∧ k < n ∧ tHas T set p k = true
        · exact ih h2
        · have e : k = j + 1 := by
            apply Classical.byContradiction
            intro hne
            exact h2 ⟨k, by omega, hkn, h⟩
          subst e
          refine ⟨j + 1, hkn, tlo_some h (fun i hi => ?_) hkn _⟩
          by_cases h3 : tHas T set p i = true
          · exact absurd ⟨i, by omega, by omega, h3⟩ h2
          · exact Bool.eq_false_iff.mpr h3
    obtain ⟨q, hq, e⟩ := this k ⟨k, Nat.le_refl k, hk, h⟩
    rw [e]
    exact nI_ne_m1 (by omega)
theorem tMem_bt (T : am_T) (set : Int32) {p : Nat} : ∀ n, bt (tMem T n set) p = true ↔ ∃ k, k < n ∧ tHas T set p k = true := by
  intro n
  induction n with
  | zero =>
    constructor
    · intro h
      have : bt (0 : Int32) p = true := h
      rw [b_0] at this; cases this
    · rintro ⟨k, hk, -⟩; omega
  | succ n ih =>
    show bt (tm1 T set n (tMem T n set)) p = true ↔ _
    unfold tm1
    by_cases h : bt set n = true
    · rw [if_pos h, b_or, Bool.or_eq_true, ih]
      constructor
      · rintro (⟨k, hk, h2⟩ | h2)
        · exact ⟨k, by omega, h2⟩
        · exact ⟨n, by omega, by unfold tHas; rw [h, h2]; rfl⟩
      · rintro ⟨k, hk, h2⟩
        by_cases e : k = n
        · subst e
          unfold tHas at h2
          rw [h, Bool.true_and] at h2
          exact Or.inr h2
        · exact Or.inl ⟨k, by omega, h2⟩
    · rw [if_neg h, ih]
      constructor
      · rintro ⟨k, hk, h2⟩; exact ⟨k, by omega, h2⟩
      · rintro ⟨k, hk, h2⟩
        by_cases e : k = n
        · subst e
          unfold tHas at h2
          rw [Bool.eq_false_iff.mpr h, Bool.false_and] at h2
          cases h2
        · exact ⟨k, by omega, h2⟩
theorem rbm_eq (h : jP T S n) {l : Nat} (hl : l < n) : tRbm T n l = tMem T n (tDown T n l) := by
  refine itN_congr (fun k hk s => ?_)
  unfold trb tm1
  by_cases h1 : bt (tDown T n l) k = true
  · rw [if_pos h1, if_pos ((up_down h hl hk).mpr h1)]
  · rw [if_neg h1, if_neg (fun e => h1 ((up_down h hl hk).mp e))]
end

/-! the law's own: within, reach, way -/
theorem bt_false {x : Int32} {i : Nat} : ¬ bt x i = true ↔ bt x i = false := by cases bt x i <;> simp
def lw1 (S : am_T) (k : Nat) (s : Int32) : Int32 := if (s >>> (nI k &&& 31)) &&& 1 = 1 then s ||| S 5 k else s
def lWin (S : am_T) (l : Nat) : Int32 := itN (fun _ s => itN (lw1 S) s 4) ((1 : Int32) <<< (nI l &&& 31)) 4
def lre (S : am_T) (set : Int32) (k : Nat) (s : Int32) : Int32 := if (set >>> (nI k &&& 31)) &&& 1 = 1 then s ||| S 6 k else s
def lRe (S : am_T) (l : Nat) : Int32 := itN (lre S (lWin S l)) 0 4
def lwy (S : am_T) (set : Int32) (p : Nat) : Nat → Int32 → Int32
  | 0, f => f
  | k + 1, f => if (set >>> (nI k &&& 31)) &&& 1 = 0 then lwy S set p k f else if (S 6 k >>> (nI p &&& 31)) &&& 1 = 0 then lwy S set p k f else if (S 7 k >>> (nI p &&& 31)) &&& 1 = 0 then 0 else lwy S set p k (nI k + 1)
def lWay (S : am_T) (l p : Nat) : Int32 := lwy S (lWin S l) p 4 (-1)
theorem lwy_in (S : am_T) (set : Int32) (p : Nat) : ∀ (k : Nat) (f : Int32), lwy S set p k f = f ∨ lwy S set p k f = 0 ∨ ∃ i, i < k ∧ lwy S set p k f = nI (i + 1)
  | 0, f => Or.inl rfl
  | k + 1, f => by
    have h1 := lwy_in S set p k f
    have h2 := lwy_in S set p k (nI k + 1)
    have up : ∀ {x : Int32}, (∃ i, i < k ∧ x = nI (i + 1)) → ∃ i, i < k + 1 ∧ x = nI (i + 1) := fun ⟨i, a, b⟩ => ⟨i, by omega, b⟩
    unfold lwy
    split
    · rcases h1 with h | h | h
      · exact Or.inl h
      · exact Or.inr (Or.inl h)
      · exact Or.inr (Or.inr (up h))
    · split
      · rcases h1 with h | h | h
        · exact Or.inl h
        · exact Or.inr (Or.inl h)
        · exact Or.inr (Or.inr (up h))
      · split
        · exact Or.inr (Or.inl rfl)
        · rcases h2 with h | h | h
          · exact Or.inr (Or.inr ⟨k, by omega, by rw [h, nI_1]⟩)
          · exact Or.inr (Or.inl h)
          · exact Or.inr (Or.inr (up h))
theorem lWay_in (S : am_T) (l p : Nat) : lWay S l p = -1 ∨ lWay S l p = 0 ∨ ∃ i, i < 4 ∧ lWay S l p = nI (i + 1) := lwy_in S _ p 4 (-1)
/-- members and modes of the two -/
def qM (T S : am_T) (n : Nat) : Prop := ∀ l, l < n → T 11 l = S 6 l ∧ bd 8 (S 6 l) ∧ bd 8 (S 7 l) ∧ ∀ p, p < 8 → (bt (S 7 l) p = true ↔ bt (S 6 l) p = true ∧ ¬ bt (T 12 l) p = true)
theorem itN_id {α : Type} {f : Nat → α → α} {s : α} {a : Nat} : ∀ {b : Nat}, a ≤ b → (∀ k, a ≤ k → k < b → ∀ x, f k x = x) → itN f s b = itN f s a
  | 0, h, _ => by rw [show a = 0 by omega]
  | b + 1, h, h9 => by
    by_cases e : a = b + 1
    · rw [e]
    · show f b (itN f s b) = _
      rw [h9 b (by omega) (by omega), itN_id (by omega) (fun k h1 h2 => h9 k h1 (by omega))]
section
variable {T S : am_T} {n : Nat}
theorem lw1_eq (h : jP T S n) {k : Nat} (hk : k < n) (s : Int32) : lw1 S k s = td1 T k s := by
  have hn := h.1
  unfold lw1 td1
  by_cases hb : bt s k = true
  · rw [if_pos hb, if_pos ((bt_iff (by omega)).mpr hb), (h.2 k hk).1]
  · rw [if_neg hb, if_neg (fun e => hb ((bt_iff (by omega)).mp e))]
theorem lWin_eq (h : jP T S n) (h4 : n ≤ 4) (hF : ∀ l, n ≤ l → l < 4 → S 5 l = 0) {l : Nat} (hl : l < n) : lWin S l = tDown T n l := by
  have h1 : ∀ s, itN (lw1 S) s 4 = itN (td1 T) s n := fun s => by
    rw [itN_id h4 (fun k h1 h2 x => by
      unfold lw1
      split
      · rw [hF k h1 h2]
        exact b_ext (fun i _ => by rw [b_or, b_0, Bool.or_false])
      · rfl)]
    exact itN_congr (fun k hk s => lw1_eq h hk s)
  have e1 : lWin S l = itN (fun _ s => itN (td1 T) s n) ((1 : Int32) <<< (nI l &&& 31)) 4 := itN_congr (fun _ _ s => h1 s)
  rw [e1, show (4 : Nat) = n + (4 - n) by omega]
  exact fix_m (f := fun s => itN (td1 T) s n) (tDown_fix h hl) (4 - n)
theorem lRe_eq (h : jP T S n) (h4 : n ≤ 4) (hF : ∀ l, n ≤ l → l < 4 → S 5 l = 0) (hM : qM T S n) {l : Nat} (hl : l < n) : lRe S l = tMem T n (tDown T n l) := by
  unfold lRe
  rw [lWin_eq h h4 hF hl]
  have hb := tDown_bd h hl
  rw [itN_id h4 (fun k h1 h2 x => by
    unfold lre
    rw [if_neg (fun e => by
      have := hb k ((bt_iff (by omega)).mp e)
      omega)])]
  refine itN_congr (fun k hk s => ?_)
  unfold lre tm1
  by_cases h9 : bt (tDown T n l) k = true
  · rw [if_pos h9, if_pos ((bt_iff (by omega)).mpr h9), (hM k hk).1]
  · rw [if_neg h9, if_neg (fun e => h9 ((bt_iff (by omega)).mp e))]
theorem lRe_bd (h : jP T S n) (h4 : n ≤ 4) (hF : ∀ l, n ≤ l → l < 4 → S 5 l = 0) (hM : qM T S n) {l : Nat} (hl : l < n) : bd 8 (lRe S l) := by
  intro i hi
  rw [lRe_eq h h4 hF hM hl] at hi
  obtain ⟨k, hk, h9⟩ := (tMem_bt T _ n).mp hi
  unfold tHas at h9
  rw [Bool.and_eq_true] at h9
  have := h9.2
  rw [(hM k hk).1] at this
  exact (hM k hk).2.1 i this
/-- one list's say -/
theorem lwy_step (hM : qM T S n) {set : Int32} {p : Nat} (hp : p < 8) {k : Nat} (hk : k < n) (h4 : n ≤ 4) (f : Int32) : lwy S set p (k + 1) f = if tHas T set p k = true then (if tDir T set p k = true then 0 else lwy S set p k (nI (k + 1))) else lwy S set p k f := by
  obtain ⟨m1, m2, m3, m4⟩ := hM k hk
  have e1 : lwy S set p (k + 1) f = if (set >>> (nI k &&& 31)) &&& 1 = 0 then lwy S set p k f else if (S 6 k >>> (nI p &&& 31)) &&& 1 = 0 then lwy S set p k f else if (S 7 k >>> (nI p &&& 31)) &&& 1 = 0 then 0 else lwy S set p k (nI k + 1) := rfl
  rw [e1, nI_1]
  unfold tHas tDir
  by_cases h1 : bt set k = true
  · rw [if_neg (fun e => by rw [bt_iff0 (by omega), h1] at e; cases e), m1]
    by_cases h2 : bt (S 6 k) p = true
    · rw [if_neg (fun e => by rw [bt_iff0 (by omega), h2] at e; cases e), h1, h2, Bool.and_self, if_pos rfl, Bool.true_and]
      by_cases h3 : bt (T 12 k) p = true
      · rw [if_pos ((bt_iff0 (by omega)).mpr (bt_false.mp (fun e => ((m4 p hp).mp e).2 h3))), h3, if_pos rfl]
      · rw [if_neg (fun e => by rw [bt_iff0 (by omega)] at e; rw [(m4 p hp).mpr ⟨h2, h3⟩] at e; cases e), bt_false.mp h3, if_neg (by decide)]
    · rw [if_pos ((bt_iff0 (by omega)).mpr (bt_false.mp h2)), bt_false.mp h2, Bool.and_false, if_neg (by decide)]
  · rw [if_pos ((bt_iff0 (by omega)).mpr (bt_false.mp h1)), bt_false.mp h1, Bool.false_and, if_neg (by decide)]
theorem tDir_has {set : Int32} {p k : Nat} (h : tDir T set p k = true) : tHas T set p k = true := by
  unfold tDir at h
  unfold tHas
  rw [Bool.and_eq_true] at h
  exact h.1
theorem lwy_0 (hM : qM T S n) {set : Int32} {p : Nat} (hp : p < 8) (h4 : n ≤ 4) : ∀ (k : Nat) (f : Int32), k ≤ n → (∃ i, i < k ∧ tDir T set p i = true) → lwy S set p k f = 0
  | 0, _, _, ⟨i, hi, _⟩ => absurd hi (Nat.not_lt_zero i)
  | k + 1, f, hk, ⟨i, hi, hd⟩ => by
    rw [lwy_step hM hp (by omega) h4]
    by_cases e : i = k
    · subst e
      rw [if_pos (tDir_has hd), if_pos hd]
    · have h9 : ∃ i, i < k ∧ tDir T set p i = true := ⟨i, by omega, hd⟩
      split
      · split
        · rfl
        · exact lwy_0 hM hp h4 k _ (by omega) h9
      · exact lwy_0 hM hp h4 k f (by omega) h9
theorem lwy_n (hM : qM T S n) {set : Int32} {p : Nat} (hp : p < 8) (h4 : n ≤ 4) : ∀ (k : Nat) (f : Int32), k ≤ n → (∀ i, i < k → ¬ tHas T set p i = true) → lwy S set p k f = f
  | 0, _, _, _ => rfl
  | k + 1, f, hk, h => by
    rw [lwy_step hM hp (by omega) h4, if_neg (h k (by omega))]
    exact lwy_n hM hp h4 k f (by omega) (fun i hi => h i (by omega))
theorem lwy_d (hM : qM T S n) {set : Int32} {p : Nat} (hp : p < 8) (h4 : n ≤ 4) : ∀ (k : Nat) (f : Int32), k ≤ n → (∀ i, i < k → ¬ tDir T set p i = true) → ∀ j, j < k → tHas T set p j = true → (∀ i, i < j → ¬ tHas T set p i = true) → lwy S set p k f = nI (j + 1)
  | 0, _, _, _, j, hj, _, _ => absurd hj (Nat.not_lt_zero j)
  | k + 1, f, hk, hd, j, hj, h1, h0 => by
    rw [lwy_step hM hp (by omega) h4]
    by_cases e : j = k
    · subst e
      rw [if_pos h1, if_neg (hd j (by omega))]
      exact lwy_n hM hp h4 j _ (by omega) h0
    · split
      · rw [if_neg (hd k (by omega))]
        exact lwy_d hM hp h4 k _ (by omega) (fun i hi => hd i (by omega)) j (by omega) h1 h0
      · exact lwy_d hM hp h4 k f (by omega) (fun i hi => hd i (by omega)) j (by omega) h1 h0
theorem least_of {P : Nat → Prop} : ∀ (k : Nat), (∃ i, i < k ∧ P i) → ∃ i, i < k ∧ P i ∧ ∀ j, j < i → ¬ P j
  | 0, ⟨i, hi, _⟩ => absurd hi (Nat.not_lt_zero i)
  | k + 1, ⟨i, hi, h⟩ => by
    by_cases h9 : ∃ i, i < k ∧ P i
    · obtain ⟨j, a, b, c⟩ := least_of k h9
      exact ⟨j, by omega, b, c⟩
    · have e : i = k := Classical.byContradiction (fun e => h9 ⟨i, by omega, h⟩)
      subst e
      exact ⟨i, by omega, h, fun j hj h' => h9 ⟨j, hj, h'⟩⟩
/-- the way of a list to a person, in both -/
theorem way_cases (h : jP T S n) (h4 : n ≤ 4) (hF : ∀ l, n ≤ l → l < 4 → S 5 l = 0) (hM : qM T S n) {l p : Nat} (hl : l < n) (hp : p < 8) :
    (lWay S l p = -1 ∧ tLow T n (tDown T n l) p = -1) ∨ (lWay S l p = 0 ∧ ¬ tLow T n (tDown T n l) p = -1 ∧ tMode T n (tDown T n l) p = 0) ∨ ∃ i, i < n ∧ lWay S l p = nI (i + 1) ∧ tLow T n (tDown T n l) p = nI i ∧ tMode T n (tDown T n l) p = 1 := by
  have hn := h.1
  have hb := tDown_bd h hl
  have e0 : lWay S l p = lwy S (tDown T n l) p n (-1) := by
    unfold lWay
    rw [lWin_eq h h4 hF hl]
    have : ∀ d (f : Int32), n + d ≤ 4 → lwy S (tDown T n l) p (n + d) f = lwy S (tDown T n l) p n f := by
      intro d
      induction d with
      | zero => intro f _; rfl
      | succ d ih =>
        intro f hd
        rw [← ih f (by omega)]
        show lwy S (tDown T n l) p (n + d + 1) f = _
        have e9 : (tDown T n l >>> (nI (n + d) &&& 31)) &&& 1 = 0 := (bt_iff0 (by omega)).mpr (bt_false.mp (fun e => by
          have := hb (n + d) e
          omega))
        exact if_pos e9
    have h9 := this (4 - n) (-1) (by omega)
    rw [show n + (4 - n) = 4 by omega] at h9
    exact h9
  rw [e0]
  by_cases h1 : ∃ k, k < n ∧ tHas T (tDown T n l) p k = true
  · have hlow : ¬ tLow T n (tDown T n l) p = -1 := (tLow_ex hn).mpr h1
    by_cases h2 : ∃ k, k < n ∧ tDir T (tDown T n l) p k = true
    · refine Or.inr (Or.inl ⟨lwy_0 hM hp h4 n _ (Nat.le_refl n) h2, hlow, ?_⟩)
      obtain ⟨j, hj, hd, h0⟩ := least_of n h2
      unfold tMode
      rw [if_neg hlow, show tlo (tDir T (tDown T n l) p) n = nI j from tlo_some hd (fun i hi => Bool.eq_false_iff.mpr (h0 i hi)) hj _, if_neg (nI_ne_m1 (by omega))]
    · obtain ⟨j, hj, hd, h0⟩ := least_of n h1
      refine Or.inr (Or.inr ⟨j, hj, lwy_d hM hp h4 n _ (Nat.le_refl n) (fun i hi hd => h2 ⟨i, hi, hd⟩) j hj hd h0, tlo_some hd (fun i hi => Bool.eq_false_iff.mpr (h0 i hi)) hj _, ?_⟩)
      unfold tMode
      rw [if_neg hlow, tlo_none (fun i hi => Bool.eq_false_iff.mpr (fun hd => h2 ⟨i, hi, hd⟩)), if_pos rfl]
  · exact Or.inl ⟨lwy_n hM hp h4 n _ (Nat.le_refl n) (fun i hi h9 => h1 ⟨i, hi, h9⟩), Classical.byContradiction (fun e => h1 ((tLow_ex hn).mp e))⟩
/-- who is reached, by the way -/
theorem re_way (h : jP T S n) (h4 : n ≤ 4) (hF : ∀ l, n ≤ l → l < 4 → S 5 l = 0) (hM : qM T S n) {l p : Nat} (hl : l < n) (hp : p < 8) : bt (lRe S l) p = true ↔ ¬ tLow T n (tDown T n l) p = -1 := by
  rw [lRe_eq h h4 hF hM hl, tMem_bt, tLow_ex h.1]
end
