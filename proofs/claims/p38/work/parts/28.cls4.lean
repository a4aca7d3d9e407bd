/-! the class: delivery, the court's ends, days -/
def tBox (T : am_T) (k p : Nat) : am_T := st1 (st1 (st1 T 9 (10 * p + (T 8 p).toNatClampNeg) (T 18 k)) 8 p (T 8 p + 1)) 26 k (T 26 k ||| (1 : Int32) <<< (nI p &&& 31))
def tDig (T : am_T) (k p l : Nat) : am_T := st1 (tAdd (st1 T 27 k (T 27 k ||| (1 : Int32) <<< (nI l &&& 31))) (T 21 k).toNatClampNeg l p) 26 k (T 26 k ||| (1 : Int32) <<< (nI p &&& 31))
def tb1 (p l : Nat) (T : am_T) : am_T := if bt (T 11 l) p = true then tPut T l p 1 else T
def tBnc (T : am_T) (n p : Nat) : am_T := if T 7 p + 1 < 3 then st1 T 7 p (T 7 p + 1) else itN (tb1 p) (st1 (st1 T 7 p (T 7 p + 1)) 7 p 0) n
def tTo (T : am_T) (n k p : Nat) (set : Int32) : am_T := if tLow T n set p = -1 then T else if tMode T n set p = 1 then tDig T k p (tLow T n set p).toNatClampNeg else if T 8 p < 10 then tBox T k p else tBnc T n p
def tdl (n k : Nat) (set : Int32) (p : Nat) (T : am_T) : am_T := if nI p = T 19 k then T else tTo T n k p set
def tDel (T : am_T) (n k : Nat) : am_T := itN (tdl n k (tDown (st1 T 25 k 0) n (T 20 k).toNatClampNeg)) (st1 T 25 k 0) 16
def tSafe (T : am_T) (n m v : Nat) : Prop := T 0 0 = nI n ∧ n ≤ 10 ∧ T 1 0 = nI m ∧ m ≤ 80 ∧ T 2 0 = nI v ∧ v ≤ 80 ∧ (∀ p, p < 16 → ∃ b, b ≤ 10 ∧ T 8 p = nI b) ∧ ∀ k, k < m → (T 21 k).toNatClampNeg < v ∧ (∃ p, p < 16 ∧ T 19 k = nI p) ∧ ∃ l, l < n ∧ T 20 k = nI l
theorem tPut_f {T : am_T} {l p g : Nat} {x : Int32} (h1 : g ≠ 11) (h2 : g ≠ 12) : tPut T l p x g = T g := by unfold tPut; rw [st1_f h2, st1_f h1]
theorem tb1_f {p l g : Nat} {T : am_T} (h1 : g ≠ 11) (h2 : g ≠ 12) : tb1 p l T g = T g := by
  unfold tb1
  split
  · exact tPut_f h1 h2
  · rfl
theorem tAdd_f {T : am_T} {j l p g : Nat} (h1 : g ≠ 34) (h2 : g ≠ 36) : tAdd T j l p g = T g := by unfold tAdd; rw [st1_f h2, st1_f h1]
theorem tTo_none {T : am_T} {n k p : Nat} {set : Int32} (h : tLow T n set p = -1) : tTo T n k p set = T := by unfold tTo; rw [if_pos h]
theorem tTo_dig {T : am_T} {n k p q : Nat} {set : Int32} (h : tLow T n set p = nI q) (hq : q < 2 ^ 31) (h2 : tMode T n set p = 1) : tTo T n k p set = tDig T k p q := by
  unfold tTo
  rw [h, if_neg (nI_ne_m1 hq), if_pos h2, nI_clamp hq]
theorem tTo_box {T : am_T} {n k p : Nat} {set : Int32} (h : ¬ tLow T n set p = -1) (h2 : ¬ tMode T n set p = 1) (h3 : T 8 p < 10) : tTo T n k p set = tBox T k p := by
  unfold tTo
  rw [if_neg h, if_neg h2, if_pos h3]
theorem tTo_bnc {T : am_T} {n k p : Nat} {set : Int32} (h : ¬ tLow T n set p = -1) (h2 : ¬ tMode T n set p = 1) (h3 : ¬ T 8 p < 10) : tTo T n k p set = tBnc T n p := by
  unfold tTo
  rw [if_neg h, if_neg h2, if_neg h3]
theorem tlo_in {P : Nat → Bool} : ∀ {n : Nat} {a : Int32}, itD (fun k f => if P k = true then nI k else f) a n = a ∨ ∃ q, q < n ∧ itD (fun k f => if P k = true then nI k else f) a n = nI q := by
  intro n
  induction n with
  | zero => intro a; exact Or.inl rfl
  | succ n ih =>
    intro a
    show itD _ (if P n = true then nI n else a) n = a ∨ ∃ q, q < n + 1 ∧ itD _ (if P n = true then nI n else a) n = nI q
    by_cases h : P n = true
    · rw [if_pos h]
      rcases ih (a := nI n) with e | ⟨q, hq, e⟩
      · exact Or.inr ⟨n, by omega, e⟩
      · exact Or.inr ⟨q, by omega, e⟩
    · rw [if_neg h]
      rcases ih (a := a) with e | ⟨q, hq, e⟩
      · exact Or.inl e
      · exact Or.inr ⟨q, by omega, e⟩
theorem tLow_in {T : am_T} {n p : Nat} {set : Int32} (h : ¬ tLow T n set p = -1) : ∃ q, q < n ∧ tLow T n set p = nI q := (tlo_in (n := n) (a := -1)).resolve_left h
theorem tTo_f {T : am_T} {n k p g : Nat} {set : Int32} (h : g ≠ 7 ∧ g ≠ 8 ∧ g ≠ 9 ∧ g ≠ 11 ∧ g ≠ 12 ∧ g ≠ 26 ∧ g ≠ 27 ∧ g ≠ 34 ∧ g ≠ 36) : tTo T n k p set g = T g := by
  obtain ⟨h7, h8, h9, h11, h12, h26, h27, h34, h36⟩ := h
  unfold tTo
  split
  · rfl
  split
  · unfold tDig
    rw [st1_f h26, tAdd_f h34 h36, st1_f h27]
  split
  · unfold tBox
    rw [st1_f h26, st1_f h8, st1_f h9]
  · unfold tBnc
    split
    · rw [st1_f h7]
    · rw [itN_f (F := tb1 p) g (fun k S => tb1_f h11 h12), st1_f h7, st1_f h7]
theorem tdl_f {n k p g : Nat} {set : Int32} {T : am_T} (h : g ≠ 7 ∧ g ≠ 8 ∧ g ≠ 9 ∧ g ≠ 11 ∧ g ≠ 12 ∧ g ≠ 26 ∧ g ≠ 27 ∧ g ≠ 34 ∧ g ≠ 36) : tdl n k set p T g = T g := by
  unfold tdl
  split
  · rfl
  · exact tTo_f h
theorem tTo_8 {T : am_T} {n k p : Nat} {set : Int32} (h : ∀ p, p < 16 → ∃ b, b ≤ 10 ∧ T 8 p = nI b) : ∀ p9, p9 < 16 → ∃ b, b ≤ 10 ∧ tTo T n k p set 8 p9 = nI b := by
  intro p9 h9
  obtain ⟨b, hb, e⟩ := h p9 h9
  unfold tTo
  split
  · exact ⟨b, hb, e⟩
  split
  · exact ⟨b, hb, e⟩
  split
  · rename_i h10
    by_cases hp : p9 = p
    · subst hp
      rw [e] at h10
      have hb10 : b < 10 := am_ltI (b := 10) (by omega) (by decide) h10
      exact ⟨b + 1, by omega, by show st1 _ 8 p9 (T 8 p9 + 1) 8 p9 = _; rw [st1_same, e, nI_1]⟩
    · refine ⟨b, hb, ?_⟩
      show st1 _ 8 p _ 8 p9 = _
      rw [st1_j hp]
      exact e
  · refine ⟨b, hb, ?_⟩
    unfold tBnc
    split
    · exact e
    · rw [itN_f (F := tb1 p) 8 (fun k S => tb1_f (by decide) (by decide))]
      exact e
theorem tSafe_of {T T' : am_T} {n m v : Nat} (h : tSafe T n m v) (h0 : T' 0 = T 0) (h1 : T' 1 = T 1) (h2 : T' 2 = T 2) (h8 : ∀ p, p < 16 → ∃ b, b ≤ 10 ∧ T' 8 p = nI b) (h19 : T' 19 = T 19) (h20 : T' 20 = T 20) (h21 : T' 21 = T 21) : tSafe T' n m v := by
  obtain ⟨a1, a2, a3, a4, a5, a6, a7, a8⟩ := h
  unfold tSafe
  rw [h0, h1, h2, h19, h20, h21]
  exact ⟨a1, a2, a3, a4, a5, a6, h8, a8⟩
theorem tdl_safe {n m v k p : Nat} {set : Int32} {T : am_T} (h : tSafe T n m v) : tSafe (tdl n k set p T) n m v := by
  unfold tdl
  split
  · exact h
  · exact tSafe_of h (tTo_f (by decide)) (tTo_f (by decide)) (tTo_f (by decide)) (tTo_8 h.2.2.2.2.2.2.1) (tTo_f (by decide)) (tTo_f (by decide)) (tTo_f (by decide))
theorem tdl_it {n m v k : Nat} {set : Int32} {T : am_T} (h : tSafe T n m v) : ∀ i, tSafe (itN (tdl n k set) T i) n m v
  | 0 => h
  | i + 1 => tdl_safe (tdl_it h i)
theorem tSafe_st {T : am_T} {n m v f j : Nat} {x : Int32} (h : tSafe T n m v) (hf : f ≠ 0 ∧ f ≠ 1 ∧ f ≠ 2 ∧ f ≠ 8 ∧ f ≠ 19 ∧ f ≠ 20 ∧ f ≠ 21) : tSafe (st1 T f j x) n m v := by
  obtain ⟨h0, h1, h2, h8, h19, h20, h21⟩ := hf
  refine tSafe_of h (st1_f h0.symm) (st1_f h1.symm) (st1_f h2.symm) ?_ (st1_f h19.symm) (st1_f h20.symm) (st1_f h21.symm)
  rw [st1_f h8.symm]
  exact h.2.2.2.2.2.2.1
theorem tDel_f {T : am_T} {n k g : Nat} (h : g ≠ 7 ∧ g ≠ 8 ∧ g ≠ 9 ∧ g ≠ 11 ∧ g ≠ 12 ∧ g ≠ 26 ∧ g ≠ 27 ∧ g ≠ 34 ∧ g ≠ 36) (h25 : g ≠ 25) : tDel T n k g = T g := by
  unfold tDel
  rw [itN_f (F := tdl n k _) g (fun i S => tdl_f h), st1_f h25]
theorem tDel_safe {T : am_T} {n m v k : Nat} (h : tSafe T n m v) : tSafe (tDel T n k) n m v := tdl_it (tSafe_st h (by decide)) 16
def tss (j : Nat) (T : am_T) : am_T := tSet T j
def tSettle (T : am_T) (v : Nat) : am_T := itN tss T v
theorem tSet_f {T : am_T} {j g : Nat} (h35 : g ≠ 35) (h36 : g ≠ 36) : tSet T j g = T g := by
  unfold tSet
  rw [st1_f h36]
  exact itN_f (F := tse j) g (fun k S => tse_f h35) T 10
def tClr (n c k : Nat) (T : am_T) : am_T := if k = c ∨ (T 19 k = T 19 c ∧ T 25 k = 1 ∧ T 23 k = 2) then tDel (tClose T k) n k else T
def tClear (T : am_T) (n m v c : Nat) : am_T := tSettle (itN (tClr n c) (st1 T 5 (T 19 c).toNatClampNeg (-10)) m) v
theorem tClose_f {T : am_T} {k g : Nat} (h : g ≠ 32) : tClose T k g = T g := st1_f h
theorem tClr_safe {n m v c k : Nat} {T : am_T} (h : tSafe T n m v) : tSafe (tClr n c k T) n m v := by
  unfold tClr
  split
  · exact tDel_safe (tSafe_st h (by decide))
  · exact h
theorem tClr_it {n m v c : Nat} {T : am_T} (h : tSafe T n m v) : ∀ i, tSafe (itN (tClr n c) T i) n m v
  | 0 => h
  | i + 1 => tClr_safe (tClr_it h i)
def tCond (T : am_T) (c : Nat) : am_T := st1 (tClose (st1 T 25 c 3) c) 5 (T 19 c).toNatClampNeg (if (100 : Int32) < T 5 (T 19 c).toNatClampNeg + 5 then 100 else T 5 (T 19 c).toNatClampNeg + 5)
def tlh (k : Nat) (x : am_T × Int32) : am_T × Int32 := if (x.1 25 k = 1 ∧ ¬ x.1 28 k = 1) ∧ x.1 24 k ≤ x.1 3 0 then (st1 x.1 25 k 2, x.2 + 1) else x
def tLapse (T : am_T) (m : Nat) : am_T × Int32 := itN tlh (T, 0) m
theorem tlh_f {k g : Nat} {x : am_T × Int32} (h : g ≠ 25) : (tlh k x).1 g = x.1 g := by
  unfold tlh
  split
  · exact st1_f h
  · rfl
theorem tlh_if {g : Nat} (h : g ≠ 25) (x : am_T × Int32) : ∀ i, (itN tlh x i).1 g = x.1 g
  | 0 => rfl
  | i + 1 => (tlh_f h).trans (tlh_if h x i)
theorem tlh_1 {T T1 : am_T} {a : Int32} {j : Nat} (hT : T1 = (itN tlh (T, 0) j).1) (ha : a = (itN tlh (T, 0) j).2) (h : (T1 25 j = 1 ∧ ¬ T1 28 j = 1) ∧ T1 24 j ≤ T1 3 0) : st1 T1 25 j 2 = (itN tlh (T, 0) (j + 1)).1 ∧ a + 1 = (itN tlh (T, 0) (j + 1)).2 := by
  show _ = (tlh j (itN tlh (T, 0) j)).1 ∧ _ = (tlh j (itN tlh (T, 0) j)).2
  have e : itN tlh (T, 0) j = (T1, a) := by rw [hT, ha]
  rw [e]
  unfold tlh
  rw [if_pos h]
  exact ⟨rfl, rfl⟩
theorem tlh_0 {T T1 : am_T} {a : Int32} {j : Nat} (hT : T1 = (itN tlh (T, 0) j).1) (ha : a = (itN tlh (T, 0) j).2) (h : ¬ ((T1 25 j = 1 ∧ ¬ T1 28 j = 1) ∧ T1 24 j ≤ T1 3 0)) : T1 = (itN tlh (T, 0) (j + 1)).1 ∧ a = (itN tlh (T, 0) (j + 1)).2 := by
  show _ = (tlh j (itN tlh (T, 0) j)).1 ∧ _ = (tlh j (itN tlh (T, 0) j)).2
  have e : itN tlh (T, 0) j = (T1, a) := by rw [hT, ha]
  rw [e]
  unfold tlh
  rw [if_neg h]
  exact ⟨rfl, rfl⟩
def sgX5_putIntoDigest_0_a632f : List Instr := [.aload_n 1, .dup]
theorem sgX5_putIntoDigest_0_a632fd : am_dec cX5_putIntoDigest 0 sgX5_putIntoDigest_0_a632f = true := by decide +kernel
theorem dX5_putIntoDigest_2 : decode cX5_putIntoDigest 2 = .ok (.getfield 342, 3) := by decide +kernel
def sgX5_putIntoDigest_5_13b50 : List Instr := [.iload_n 3]
theorem sgX5_putIntoDigest_5_13b50d : am_dec cX5_putIntoDigest 5 sgX5_putIntoDigest_5_13b50 = true := by decide +kernel
theorem dX5_putIntoDigest_6 : decode cX5_putIntoDigest 6 = .ok (.invokestatic 115, 3) := by decide +kernel
def sgX5_putIntoDigest_9_fceb6 : List Instr := [.ior]
theorem sgX5_putIntoDigest_9_fceb6d : am_dec cX5_putIntoDigest 9 sgX5_putIntoDigest_9_fceb6 = true := by decide +kernel
theorem dX5_putIntoDigest_10 : decode cX5_putIntoDigest 10 = .ok (.putfield 342, 3) := by decide +kernel
def sgX5_putIntoDigest_13_a7701 : List Instr := [.aload_n 1]
theorem sgX5_putIntoDigest_13_a7701d : am_dec cX5_putIntoDigest 13 sgX5_putIntoDigest_13_a7701 = true := by decide +kernel
theorem dX5_putIntoDigest_14 : decode cX5_putIntoDigest 14 = .ok (.getfield 312, 3) := by decide +kernel
def sgX5_putIntoDigest_17_8b8be : List Instr := [.iload_n 3, .iload_n 2]
theorem sgX5_putIntoDigest_17_8b8bed : am_dec cX5_putIntoDigest 17 sgX5_putIntoDigest_17_8b8be = true := by decide +kernel
theorem dX5_putIntoDigest_19 : decode cX5_putIntoDigest 19 = .ok (.invokevirtual 345, 3) := by decide +kernel
def sgX5_putIntoDigest_22_a632f : List Instr := [.aload_n 1, .dup]
theorem sgX5_putIntoDigest_22_a632fd : am_dec cX5_putIntoDigest 22 sgX5_putIntoDigest_22_a632f = true := by decide +kernel
theorem dX5_putIntoDigest_24 : decode cX5_putIntoDigest 24 = .ok (.getfield 180, 3) := by decide +kernel
def sgX5_putIntoDigest_27_f8a59 : List Instr := [.iload_n 2]
theorem sgX5_putIntoDigest_27_f8a59d : am_dec cX5_putIntoDigest 27 sgX5_putIntoDigest_27_f8a59 = true := by decide +kernel
theorem dX5_putIntoDigest_28 : decode cX5_putIntoDigest 28 = .ok (.invokestatic 115, 3) := by decide +kernel
def sgX5_putIntoDigest_31_fceb6 : List Instr := [.ior]
theorem sgX5_putIntoDigest_31_fceb6d : am_dec cX5_putIntoDigest 31 sgX5_putIntoDigest_31_fceb6 = true := by decide +kernel
theorem dX5_putIntoDigest_32 : decode cX5_putIntoDigest 32 = .ok (.putfield 180, 3) := by decide +kernel
theorem dX5_putIntoDigest_35 : decode cX5_putIntoDigest 35 = .ok (.return_, 1) := by decide +kernel
def sgX5_bounce_0_34db8 : List Instr := [.aload_n 0]
theorem sgX5_bounce_0_34db8d : am_dec cX5_bounce 0 sgX5_bounce_0_34db8 = true := by decide +kernel
theorem dX5_bounce_1 : decode cX5_bounce 1 = .ok (.getfield 11, 3) := by decide +kernel
def sgX5_bounce_4_840bf : List Instr := [.iload_n 1]
theorem sgX5_bounce_4_840bfd : am_dec cX5_bounce 4 sgX5_bounce_4_840bf = true := by decide +kernel
theorem dX5_bounce_5 : decode cX5_bounce 5 = .ok (.aaload, 1) := by decide +kernel
def sgX5_bounce_6_4b010 : List Instr := [.dup]
theorem sgX5_bounce_6_4b010d : am_dec cX5_bounce 6 sgX5_bounce_6_4b010 = true := by decide +kernel
theorem dX5_bounce_7 : decode cX5_bounce 7 = .ok (.getfield 243, 3) := by decide +kernel
def sgX5_bounce_10_c7176 : List Instr := [.iconst 1, .iadd]
theorem sgX5_bounce_10_c7176d : am_dec cX5_bounce 10 sgX5_bounce_10_c7176 = true := by decide +kernel
theorem dX5_bounce_12 : decode cX5_bounce 12 = .ok (.putfield 243, 3) := by decide +kernel
def sgX5_bounce_15_34db8 : List Instr := [.aload_n 0]
theorem sgX5_bounce_15_34db8d : am_dec cX5_bounce 15 sgX5_bounce_15_34db8 = true := by decide +kernel
theorem dX5_bounce_16 : decode cX5_bounce 16 = .ok (.getfield 11, 3) := by decide +kernel
def sgX5_bounce_19_840bf : List Instr := [.iload_n 1]
theorem sgX5_bounce_19_840bfd : am_dec cX5_bounce 19 sgX5_bounce_19_840bf = true := by decide +kernel
theorem dX5_bounce_20 : decode cX5_bounce 20 = .ok (.aaload, 1) := by decide +kernel
theorem dX5_bounce_21 : decode cX5_bounce 21 = .ok (.getfield 243, 3) := by decide +kernel
def sgX5_bounce_24_800cc : List Instr := [.iconst 3]
theorem sgX5_bounce_24_800ccd : am_dec cX5_bounce 24 sgX5_bounce_24_800cc = true := by decide +kernel
theorem dX5_bounce_25 : decode cX5_bounce 25 = .ok (.if_icmp .ge 4, 3) := by decide +kernel
def sgX5_bounce_29_34db8 : List Instr := [.aload_n 0]
theorem sgX5_bounce_29_34db8d : am_dec cX5_bounce 29 sgX5_bounce_29_34db8 = true := by decide +kernel
theorem dX5_bounce_30 : decode cX5_bounce 30 = .ok (.getfield 11, 3) := by decide +kernel
def sgX5_bounce_33_840bf : List Instr := [.iload_n 1]
theorem sgX5_bounce_33_840bfd : am_dec cX5_bounce 33 sgX5_bounce_33_840bf = true := by decide +kernel
theorem dX5_bounce_34 : decode cX5_bounce 34 = .ok (.aaload, 1) := by decide +kernel
def sgX5_bounce_35_56c54 : List Instr := [.iconst 0]
theorem sgX5_bounce_35_56c54d : am_dec cX5_bounce 35 sgX5_bounce_35_56c54 = true := by decide +kernel
theorem dX5_bounce_36 : decode cX5_bounce 36 = .ok (.putfield 243, 3) := by decide +kernel
def sgX5_bounce_39_01fef : List Instr := [.iconst 0, .istore_n 2]
theorem sgX5_bounce_39_01fefd : am_dec cX5_bounce 39 sgX5_bounce_39_01fef = true := by decide +kernel
def sgX5_bounce_41_14491 : List Instr := [.iload_n 2, .aload_n 0]
theorem sgX5_bounce_41_14491d : am_dec cX5_bounce 41 sgX5_bounce_41_14491 = true := by decide +kernel
theorem dX5_bounce_43 : decode cX5_bounce 43 = .ok (.getfield 25, 3) := by decide +kernel
theorem dX5_bounce_46 : decode cX5_bounce 46 = .ok (.if_icmp .ge 33, 3) := by decide +kernel
theorem dX5_bounce_79 : decode cX5_bounce 79 = .ok (.return_, 1) := by decide +kernel
def sgX5_bounce_49_34db8 : List Instr := [.aload_n 0]
theorem sgX5_bounce_49_34db8d : am_dec cX5_bounce 49 sgX5_bounce_49_34db8 = true := by decide +kernel
theorem dX5_bounce_50 : decode cX5_bounce 50 = .ok (.getfield 21, 3) := by decide +kernel
def sgX5_bounce_53_f8a59 : List Instr := [.iload_n 2]
theorem sgX5_bounce_53_f8a59d : am_dec cX5_bounce 53 sgX5_bounce_53_f8a59 = true := by decide +kernel
theorem dX5_bounce_54 : decode cX5_bounce 54 = .ok (.aaload, 1) := by decide +kernel
def sgX5_bounce_55_840bf : List Instr := [.iload_n 1]
theorem sgX5_bounce_55_840bfd : am_dec cX5_bounce 55 sgX5_bounce_55_840bf = true := by decide +kernel
theorem dX5_bounce_56 : decode cX5_bounce 56 = .ok (.invokevirtual 71, 3) := by decide +kernel
theorem dX5_bounce_59 : decode cX5_bounce 59 = .ok (.ifCond .eq 14, 3) := by decide +kernel
def sgX5_bounce_73_c656c : List Instr := [.iinc 2 1, .goto (-35)]
theorem sgX5_bounce_73_c656cd : am_dec cX5_bounce 73 sgX5_bounce_73_c656c = true := by decide +kernel
def sgX5_bounce_62_34db8 : List Instr := [.aload_n 0]
theorem sgX5_bounce_62_34db8d : am_dec cX5_bounce 62 sgX5_bounce_62_34db8 = true := by decide +kernel
theorem dX5_bounce_63 : decode cX5_bounce 63 = .ok (.getfield 21, 3) := by decide +kernel
def sgX5_bounce_66_f8a59 : List Instr := [.iload_n 2]
theorem sgX5_bounce_66_f8a59d : am_dec cX5_bounce 66 sgX5_bounce_66_f8a59 = true := by decide +kernel
theorem dX5_bounce_67 : decode cX5_bounce 67 = .ok (.aaload, 1) := by decide +kernel
def sgX5_bounce_68_d3633 : List Instr := [.iload_n 1, .iconst 1]
theorem sgX5_bounce_68_d3633d : am_dec cX5_bounce 68 sgX5_bounce_68_d3633 = true := by decide +kernel
theorem dX5_bounce_70 : decode cX5_bounce 70 = .ok (.invokevirtual 77, 3) := by decide +kernel
theorem dX5_bounce_28 : decode cX5_bounce 28 = .ok (.return_, 1) := by decide +kernel
def sgX5_deliverTo_0_57980 : List Instr := [.aload_n 0, .iload_n 3, .iload_n 2]
theorem sgX5_deliverTo_0_57980d : am_dec cX5_deliverTo 0 sgX5_deliverTo_0_57980 = true := by decide +kernel
theorem dX5_deliverTo_3 : decode cX5_deliverTo 3 = .ok (.invokevirtual 326, 3) := by decide +kernel
def sgX5_deliverTo_6_0d3ab : List Instr := [.istore 4, .iload 4, .iconst (-1)]
theorem sgX5_deliverTo_6_0d3abd : am_dec cX5_deliverTo 6 sgX5_deliverTo_6_0d3ab = true := by decide +kernel
theorem dX5_deliverTo_11 : decode cX5_deliverTo 11 = .ok (.if_icmp .ne 4, 3) := by decide +kernel
def sgX5_deliverTo_15_57980 : List Instr := [.aload_n 0, .iload_n 3, .iload_n 2]
theorem sgX5_deliverTo_15_57980d : am_dec cX5_deliverTo 15 sgX5_deliverTo_15_57980 = true := by decide +kernel
theorem dX5_deliverTo_18 : decode cX5_deliverTo 18 = .ok (.invokevirtual 146, 3) := by decide +kernel
def sgX5_deliverTo_21_4de0a : List Instr := [.iconst 1]
theorem sgX5_deliverTo_21_4de0ad : am_dec cX5_deliverTo 21 sgX5_deliverTo_21_4de0a = true := by decide +kernel
theorem dX5_deliverTo_22 : decode cX5_deliverTo 22 = .ok (.if_icmp .ne 14, 3) := by decide +kernel
def sgX5_deliverTo_36_34db8 : List Instr := [.aload_n 0]
theorem sgX5_deliverTo_36_34db8d : am_dec cX5_deliverTo 36 sgX5_deliverTo_36_34db8 = true := by decide +kernel
theorem dX5_deliverTo_37 : decode cX5_deliverTo 37 = .ok (.getfield 11, 3) := by decide +kernel
def sgX5_deliverTo_40_f8a59 : List Instr := [.iload_n 2]
theorem sgX5_deliverTo_40_f8a59d : am_dec cX5_deliverTo 40 sgX5_deliverTo_40_f8a59 = true := by decide +kernel
theorem dX5_deliverTo_41 : decode cX5_deliverTo 41 = .ok (.aaload, 1) := by decide +kernel
theorem dX5_deliverTo_42 : decode cX5_deliverTo 42 = .ok (.invokevirtual 332, 3) := by decide +kernel
theorem dX5_deliverTo_45 : decode cX5_deliverTo 45 = .ok (.ifCond .eq 32, 3) := by decide +kernel
def sgX5_deliverTo_77_78e74 : List Instr := [.aload_n 0, .iload_n 2]
theorem sgX5_deliverTo_77_78e74d : am_dec cX5_deliverTo 77 sgX5_deliverTo_77_78e74 = true := by decide +kernel
theorem dX5_deliverTo_79 : decode cX5_deliverTo 79 = .ok (.invokevirtual 339, 3) := by decide +kernel
theorem dX5_deliverTo_82 : decode cX5_deliverTo 82 = .ok (.return_, 1) := by decide +kernel
def sgX5_deliverTo_48_34db8 : List Instr := [.aload_n 0]
theorem sgX5_deliverTo_48_34db8d : am_dec cX5_deliverTo 48 sgX5_deliverTo_48_34db8 = true := by decide +kernel
theorem dX5_deliverTo_49 : decode cX5_deliverTo 49 = .ok (.getfield 11, 3) := by decide +kernel
def sgX5_deliverTo_52_f8a59 : List Instr := [.iload_n 2]
theorem sgX5_deliverTo_52_f8a59d : am_dec cX5_deliverTo 52 sgX5_deliverTo_52_f8a59 = true := by decide +kernel
theorem dX5_deliverTo_53 : decode cX5_deliverTo 53 = .ok (.aaload, 1) := by decide +kernel
def sgX5_deliverTo_54_a7701 : List Instr := [.aload_n 1]
theorem sgX5_deliverTo_54_a7701d : am_dec cX5_deliverTo 54 sgX5_deliverTo_54_a7701 = true := by decide +kernel
theorem dX5_deliverTo_55 : decode cX5_deliverTo 55 = .ok (.getfield 335, 3) := by decide +kernel
theorem dX5_deliverTo_58 : decode cX5_deliverTo 58 = .ok (.invokevirtual 336, 3) := by decide +kernel
def sgX5_deliverTo_61_a632f : List Instr := [.aload_n 1, .dup]
theorem sgX5_deliverTo_61_a632fd : am_dec cX5_deliverTo 61 sgX5_deliverTo_61_a632f = true := by decide +kernel
theorem dX5_deliverTo_63 : decode cX5_deliverTo 63 = .ok (.getfield 180, 3) := by decide +kernel
def sgX5_deliverTo_66_f8a59 : List Instr := [.iload_n 2]
theorem sgX5_deliverTo_66_f8a59d : am_dec cX5_deliverTo 66 sgX5_deliverTo_66_f8a59 = true := by decide +kernel
theorem dX5_deliverTo_67 : decode cX5_deliverTo 67 = .ok (.invokestatic 115, 3) := by decide +kernel
def sgX5_deliverTo_70_fceb6 : List Instr := [.ior]
theorem sgX5_deliverTo_70_fceb6d : am_dec cX5_deliverTo 70 sgX5_deliverTo_70_fceb6 = true := by decide +kernel
theorem dX5_deliverTo_71 : decode cX5_deliverTo 71 = .ok (.putfield 180, 3) := by decide +kernel
def sgX5_deliverTo_74_5e31b : List Instr := [.goto 8]
theorem sgX5_deliverTo_74_5e31bd : am_dec cX5_deliverTo 74 sgX5_deliverTo_74_5e31b = true := by decide +kernel
def sgX5_deliverTo_25_6cd2b : List Instr := [.aload_n 0, .aload_n 1, .iload_n 2, .iload 4]
theorem sgX5_deliverTo_25_6cd2bd : am_dec cX5_deliverTo 25 sgX5_deliverTo_25_6cd2b = true := by decide +kernel
theorem dX5_deliverTo_30 : decode cX5_deliverTo 30 = .ok (.invokevirtual 329, 3) := by decide +kernel
def sgX5_deliverTo_33_2cb8d : List Instr := [.goto 49]
theorem sgX5_deliverTo_33_2cb8dd : am_dec cX5_deliverTo 33 sgX5_deliverTo_33_2cb8d = true := by decide +kernel
theorem dX5_deliverTo_14 : decode cX5_deliverTo 14 = .ok (.return_, 1) := by decide +kernel
def sgX5_deliver_0_ff031 : List Instr := [.aload_n 1, .iconst 0]
theorem sgX5_deliver_0_ff031d : am_dec cX5_deliver 0 sgX5_deliver_0_ff031 = true := by decide +kernel
theorem dX5_deliver_2 : decode cX5_deliver 2 = .ok (.putfield 183, 3) := by decide +kernel
def sgX5_deliver_5_de6e7 : List Instr := [.aload_n 0, .aload_n 1]
theorem sgX5_deliver_5_de6e7d : am_dec cX5_deliver 5 sgX5_deliver_5_de6e7 = true := by decide +kernel
theorem dX5_deliver_7 : decode cX5_deliver 7 = .ok (.getfield 319, 3) := by decide +kernel
theorem dX5_deliver_10 : decode cX5_deliver 10 = .ok (.invokevirtual 107, 3) := by decide +kernel
def sgX5_deliver_13_7e279 : List Instr := [.istore_n 2, .iconst 0, .istore_n 3]
theorem sgX5_deliver_13_7e279d : am_dec cX5_deliver 13 sgX5_deliver_13_7e279 = true := by decide +kernel
def sgX5_deliver_16_b88ad : List Instr := [.iload_n 3, .bipush 16]
theorem sgX5_deliver_16_b88add : am_dec cX5_deliver 16 sgX5_deliver_16_b88ad = true := by decide +kernel
theorem dX5_deliver_19 : decode cX5_deliver 19 = .ok (.if_icmp .ge 24, 3) := by decide +kernel
theorem dX5_deliver_43 : decode cX5_deliver 43 = .ok (.return_, 1) := by decide +kernel
def sgX5_deliver_22_a358a : List Instr := [.iload_n 3, .aload_n 1]
theorem sgX5_deliver_22_a358ad : am_dec cX5_deliver 22 sgX5_deliver_22_a358a = true := by decide +kernel
theorem dX5_deliver_24 : decode cX5_deliver 24 = .ok (.getfield 309, 3) := by decide +kernel
theorem dX5_deliver_27 : decode cX5_deliver 27 = .ok (.if_icmp .eq 10, 3) := by decide +kernel
def sgX5_deliver_37_fc3b2 : List Instr := [.iinc 3 1, .goto (-24)]
theorem sgX5_deliver_37_fc3b2d : am_dec cX5_deliver 37 sgX5_deliver_37_fc3b2 = true := by decide +kernel
def sgX5_deliver_30_ffc44 : List Instr := [.aload_n 0, .aload_n 1, .iload_n 3, .iload_n 2]
theorem sgX5_deliver_30_ffc44d : am_dec cX5_deliver 30 sgX5_deliver_30_ffc44 = true := by decide +kernel
theorem dX5_deliver_34 : decode cX5_deliver 34 = .ok (.invokevirtual 322, 3) := by decide +kernel
def sgX5_settleEditions_0_67c14 : List Instr := [.iconst 0, .istore_n 1]
theorem sgX5_settleEditions_0_67c14d : am_dec cX5_settleEditions 0 sgX5_settleEditions_0_67c14 = true := by decide +kernel
def sgX5_settleEditions_2_45dfc : List Instr := [.iload_n 1, .aload_n 0]
theorem sgX5_settleEditions_2_45dfcd : am_dec cX5_settleEditions 2 sgX5_settleEditions_2_45dfc = true := by decide +kernel
theorem dX5_settleEditions_4 : decode cX5_settleEditions 4 = .ok (.getfield 44, 3) := by decide +kernel
theorem dX5_settleEditions_7 : decode cX5_settleEditions 7 = .ok (.if_icmp .ge 18, 3) := by decide +kernel
theorem dX5_settleEditions_25 : decode cX5_settleEditions 25 = .ok (.return_, 1) := by decide +kernel
def sgX5_settleEditions_10_34db8 : List Instr := [.aload_n 0]
theorem sgX5_settleEditions_10_34db8d : am_dec cX5_settleEditions 10 sgX5_settleEditions_10_34db8 = true := by decide +kernel
theorem dX5_settleEditions_11 : decode cX5_settleEditions 11 = .ok (.getfield 40, 3) := by decide +kernel
def sgX5_settleEditions_14_840bf : List Instr := [.iload_n 1]
theorem sgX5_settleEditions_14_840bfd : am_dec cX5_settleEditions 14 sgX5_settleEditions_14_840bf = true := by decide +kernel
theorem dX5_settleEditions_15 : decode cX5_settleEditions 15 = .ok (.aaload, 1) := by decide +kernel
theorem dX5_settleEditions_16 : decode cX5_settleEditions 16 = .ok (.invokevirtual 366, 3) := by decide +kernel
def sgX5_settleEditions_19_a9d92 : List Instr := [.iinc 1 1, .goto (-20)]
theorem sgX5_settleEditions_19_a9d92d : am_dec cX5_settleEditions 19 sgX5_settleEditions_19_a9d92 = true := by decide +kernel
def sgX5_clearSender_0_34db8 : List Instr := [.aload_n 0]
theorem sgX5_clearSender_0_34db8d : am_dec cX5_clearSender 0 sgX5_clearSender_0_34db8 = true := by decide +kernel
theorem dX5_clearSender_1 : decode cX5_clearSender 1 = .ok (.getfield 11, 3) := by decide +kernel
def sgX5_clearSender_4_a7701 : List Instr := [.aload_n 1]
theorem sgX5_clearSender_4_a7701d : am_dec cX5_clearSender 4 sgX5_clearSender_4_a7701 = true := by decide +kernel
theorem dX5_clearSender_5 : decode cX5_clearSender 5 = .ok (.getfield 309, 3) := by decide +kernel
theorem dX5_clearSender_8 : decode cX5_clearSender 8 = .ok (.aaload, 1) := by decide +kernel
def sgX5_clearSender_9_af0f1 : List Instr := [.bipush (-10)]
theorem sgX5_clearSender_9_af0f1d : am_dec cX5_clearSender 9 sgX5_clearSender_9_af0f1 = true := by decide +kernel
theorem dX5_clearSender_11 : decode cX5_clearSender 11 = .ok (.putfield 240, 3) := by decide +kernel
def sgX5_clearSender_14_01fef : List Instr := [.iconst 0, .istore_n 2]
theorem sgX5_clearSender_14_01fefd : am_dec cX5_clearSender 14 sgX5_clearSender_14_01fef = true := by decide +kernel
def sgX5_clearSender_16_14491 : List Instr := [.iload_n 2, .aload_n 0]
theorem sgX5_clearSender_16_14491d : am_dec cX5_clearSender 16 sgX5_clearSender_16_14491 = true := by decide +kernel
theorem dX5_clearSender_18 : decode cX5_clearSender 18 = .ok (.getfield 35, 3) := by decide +kernel
theorem dX5_clearSender_21 : decode cX5_clearSender 21 = .ok (.if_icmp .ge 48, 3) := by decide +kernel
def sgX5_clearSender_69_34db8 : List Instr := [.aload_n 0]
theorem sgX5_clearSender_69_34db8d : am_dec cX5_clearSender 69 sgX5_clearSender_69_34db8 = true := by decide +kernel
theorem dX5_clearSender_70 : decode cX5_clearSender 70 = .ok (.invokevirtual 177, 3) := by decide +kernel
theorem dX5_clearSender_73 : decode cX5_clearSender 73 = .ok (.return_, 1) := by decide +kernel
def sgX5_clearSender_24_34db8 : List Instr := [.aload_n 0]
theorem sgX5_clearSender_24_34db8d : am_dec cX5_clearSender 24 sgX5_clearSender_24_34db8 = true := by decide +kernel
theorem dX5_clearSender_25 : decode cX5_clearSender 25 = .ok (.getfield 31, 3) := by decide +kernel
def sgX5_clearSender_28_f8a59 : List Instr := [.iload_n 2]
theorem sgX5_clearSender_28_f8a59d : am_dec cX5_clearSender 28 sgX5_clearSender_28_f8a59 = true := by decide +kernel
theorem dX5_clearSender_29 : decode cX5_clearSender 29 = .ok (.aaload, 1) := by decide +kernel
def sgX5_clearSender_30_52103 : List Instr := [.astore_n 3, .aload_n 3, .aload_n 1]
theorem sgX5_clearSender_30_52103d : am_dec cX5_clearSender 30 sgX5_clearSender_30_52103 = true := by decide +kernel
theorem dX5_clearSender_33 : decode cX5_clearSender 33 = .ok (.if_acmp .eq 21, 3) := by decide +kernel
def sgX5_clearSender_54_67016 : List Instr := [.aload_n 3]
theorem sgX5_clearSender_54_67016d : am_dec cX5_clearSender 54 sgX5_clearSender_54_67016 = true := by decide +kernel
theorem dX5_clearSender_55 : decode cX5_clearSender 55 = .ok (.invokevirtual 357, 3) := by decide +kernel
def sgX5_clearSender_58_1638c : List Instr := [.aload_n 0, .aload_n 3]
theorem sgX5_clearSender_58_1638cd : am_dec cX5_clearSender 58 sgX5_clearSender_58_1638c = true := by decide +kernel
theorem dX5_clearSender_60 : decode cX5_clearSender 60 = .ok (.invokevirtual 170, 3) := by decide +kernel
def sgX5_clearSender_63_f51c7 : List Instr := [.iinc 2 1, .goto (-50)]
theorem sgX5_clearSender_63_f51c7d : am_dec cX5_clearSender 63 sgX5_clearSender_63_f51c7 = true := by decide +kernel
def sgX5_clearSender_36_67016 : List Instr := [.aload_n 3]
theorem sgX5_clearSender_36_67016d : am_dec cX5_clearSender 36 sgX5_clearSender_36_67016 = true := by decide +kernel
theorem dX5_clearSender_37 : decode cX5_clearSender 37 = .ok (.getfield 309, 3) := by decide +kernel
def sgX5_clearSender_40_a7701 : List Instr := [.aload_n 1]
theorem sgX5_clearSender_40_a7701d : am_dec cX5_clearSender 40 sgX5_clearSender_40_a7701 = true := by decide +kernel
theorem dX5_clearSender_41 : decode cX5_clearSender 41 = .ok (.getfield 309, 3) := by decide +kernel
theorem dX5_clearSender_44 : decode cX5_clearSender 44 = .ok (.if_icmp .ne 19, 3) := by decide +kernel
def sgX5_clearSender_47_67016 : List Instr := [.aload_n 3]
theorem sgX5_clearSender_47_67016d : am_dec cX5_clearSender 47 sgX5_clearSender_47_67016 = true := by decide +kernel
theorem dX5_clearSender_48 : decode cX5_clearSender 48 = .ok (.invokevirtual 354, 3) := by decide +kernel
theorem dX5_clearSender_51 : decode cX5_clearSender 51 = .ok (.ifCond .eq 12, 3) := by decide +kernel
def sgX5_condemnByCourt_0_e35ea : List Instr := [.aload_n 1, .iconst 3]
theorem sgX5_condemnByCourt_0_e35ead : am_dec cX5_condemnByCourt 0 sgX5_condemnByCourt_0_e35ea = true := by decide +kernel
theorem dX5_condemnByCourt_2 : decode cX5_condemnByCourt 2 = .ok (.putfield 183, 3) := by decide +kernel
def sgX5_condemnByCourt_5_a7701 : List Instr := [.aload_n 1]
theorem sgX5_condemnByCourt_5_a7701d : am_dec cX5_condemnByCourt 5 sgX5_condemnByCourt_5_a7701 = true := by decide +kernel
theorem dX5_condemnByCourt_6 : decode cX5_condemnByCourt 6 = .ok (.invokevirtual 357, 3) := by decide +kernel
def sgX5_condemnByCourt_9_34db8 : List Instr := [.aload_n 0]
theorem sgX5_condemnByCourt_9_34db8d : am_dec cX5_condemnByCourt 9 sgX5_condemnByCourt_9_34db8 = true := by decide +kernel
theorem dX5_condemnByCourt_10 : decode cX5_condemnByCourt 10 = .ok (.getfield 11, 3) := by decide +kernel
def sgX5_condemnByCourt_13_a7701 : List Instr := [.aload_n 1]
theorem sgX5_condemnByCourt_13_a7701d : am_dec cX5_condemnByCourt 13 sgX5_condemnByCourt_13_a7701 = true := by decide +kernel
theorem dX5_condemnByCourt_14 : decode cX5_condemnByCourt 14 = .ok (.getfield 309, 3) := by decide +kernel
theorem dX5_condemnByCourt_17 : decode cX5_condemnByCourt 17 = .ok (.aaload, 1) := by decide +kernel
def sgX5_condemnByCourt_18_f99e7 : List Instr := [.astore_n 2, .aload_n 2, .aload_n 2]
theorem sgX5_condemnByCourt_18_f99e7d : am_dec cX5_condemnByCourt 18 sgX5_condemnByCourt_18_f99e7 = true := by decide +kernel
theorem dX5_condemnByCourt_21 : decode cX5_condemnByCourt 21 = .ok (.getfield 240, 3) := by decide +kernel
def sgX5_condemnByCourt_24_c266f : List Instr := [.iconst 5, .iadd, .bipush 100]
theorem sgX5_condemnByCourt_24_c266fd : am_dec cX5_condemnByCourt 24 sgX5_condemnByCourt_24_c266f = true := by decide +kernel
theorem dX5_condemnByCourt_28 : decode cX5_condemnByCourt 28 = .ok (.invokestatic 360, 3) := by decide +kernel
theorem dX5_condemnByCourt_31 : decode cX5_condemnByCourt 31 = .ok (.putfield 240, 3) := by decide +kernel
theorem dX5_condemnByCourt_34 : decode cX5_condemnByCourt 34 = .ok (.return_, 1) := by decide +kernel
def sgX5_lapseHolds_0_1ac35 : List Instr := [.iconst 0, .istore_n 1, .iconst 0, .istore_n 2]
theorem sgX5_lapseHolds_0_1ac35d : am_dec cX5_lapseHolds 0 sgX5_lapseHolds_0_1ac35 = true := by decide +kernel
def sgX5_lapseHolds_4_14491 : List Instr := [.iload_n 2, .aload_n 0]
theorem sgX5_lapseHolds_4_14491d : am_dec cX5_lapseHolds 4 sgX5_lapseHolds_4_14491 = true := by decide +kernel
theorem dX5_lapseHolds_6 : decode cX5_lapseHolds 6 = .ok (.getfield 35, 3) := by decide +kernel
theorem dX5_lapseHolds_9 : decode cX5_lapseHolds 9 = .ok (.if_icmp .ge 42, 3) := by decide +kernel
def sgX5_lapseHolds_51_840bf : List Instr := [.iload_n 1]
theorem sgX5_lapseHolds_51_840bfd : am_dec cX5_lapseHolds 51 sgX5_lapseHolds_51_840bf = true := by decide +kernel
theorem dX5_lapseHolds_52 : decode cX5_lapseHolds 52 = .ok (.ireturn, 1) := by decide +kernel
def sgX5_lapseHolds_12_34db8 : List Instr := [.aload_n 0]
theorem sgX5_lapseHolds_12_34db8d : am_dec cX5_lapseHolds 12 sgX5_lapseHolds_12_34db8 = true := by decide +kernel
theorem dX5_lapseHolds_13 : decode cX5_lapseHolds 13 = .ok (.getfield 31, 3) := by decide +kernel
def sgX5_lapseHolds_16_f8a59 : List Instr := [.iload_n 2]
theorem sgX5_lapseHolds_16_f8a59d : am_dec cX5_lapseHolds 16 sgX5_lapseHolds_16_f8a59 = true := by decide +kernel
theorem dX5_lapseHolds_17 : decode cX5_lapseHolds 17 = .ok (.aaload, 1) := by decide +kernel
def sgX5_lapseHolds_18_c6008 : List Instr := [.astore_n 3, .aload_n 3]
theorem sgX5_lapseHolds_18_c6008d : am_dec cX5_lapseHolds 18 sgX5_lapseHolds_18_c6008 = true := by decide +kernel
theorem dX5_lapseHolds_20 : decode cX5_lapseHolds 20 = .ok (.invokevirtual 233, 3) := by decide +kernel
theorem dX5_lapseHolds_23 : decode cX5_lapseHolds 23 = .ok (.ifCond .eq 22, 3) := by decide +kernel
def sgX5_lapseHolds_45_ece1c : List Instr := [.iinc 2 1, .goto (-44)]
theorem sgX5_lapseHolds_45_ece1cd : am_dec cX5_lapseHolds 45 sgX5_lapseHolds_45_ece1c = true := by decide +kernel
def sgX5_lapseHolds_26_67016 : List Instr := [.aload_n 3]
theorem sgX5_lapseHolds_26_67016d : am_dec cX5_lapseHolds 26 sgX5_lapseHolds_26_67016 = true := by decide +kernel
theorem dX5_lapseHolds_27 : decode cX5_lapseHolds 27 = .ok (.getfield 237, 3) := by decide +kernel
def sgX5_lapseHolds_30_34db8 : List Instr := [.aload_n 0]
theorem sgX5_lapseHolds_30_34db8d : am_dec cX5_lapseHolds 30 sgX5_lapseHolds_30_34db8 = true := by decide +kernel
theorem dX5_lapseHolds_31 : decode cX5_lapseHolds 31 = .ok (.getfield 47, 3) := by decide +kernel
theorem dX5_lapseHolds_34 : decode cX5_lapseHolds 34 = .ok (.if_icmp .gt 11, 3) := by decide +kernel
def sgX5_lapseHolds_37_881c1 : List Instr := [.aload_n 3, .iconst 2]
theorem sgX5_lapseHolds_37_881c1d : am_dec cX5_lapseHolds 37 sgX5_lapseHolds_37_881c1 = true := by decide +kernel
theorem dX5_lapseHolds_39 : decode cX5_lapseHolds 39 = .ok (.putfield 183, 3) := by decide +kernel
def sgX5_lapseHolds_42_13bfe : List Instr := [.iinc 1 1, .iinc 2 1, .goto (-44)]
theorem sgX5_lapseHolds_42_13bfed : am_dec cX5_lapseHolds 42 sgX5_lapseHolds_42_13bfe = true := by decide +kernel
set_option maxRecDepth 100000 in
set_option maxHeartbeats 4000000 in
theorem c_putIntoDigest {G : am_S} {T S : am_T} {o : Nat → Int64} {m : Nat} (hm : T 1 0 = nI m) (hm80 : m ≤ 80) {v : Nat} (hv : T 2 0 = nI v) (hv80 : v ≤ 80) (hday : ∀ k, k < m → (T 21 k).toNatClampNeg < v) {k : Nat} (hk : k < m) {p l : Nat} (hp9 : p < 16) (hl : l < 10) : am_D G yX5_putIntoDigest (.code yX5_putIntoDigest cX5_putIntoDigest 4 none :: am_G) { frames := 2, cells := 0, slots := 0, locals := 42 } (hp T S o) [.ref 0, .ref (64 + k), .int (nI p), .int (nI l)] (hp (tDig T k p l) S o) none := by
  refine am_of (by decide +kernel) (Nat.le_of_ble_eq_true rfl) ?_
  intro C hse hret hname hF hO
  subst hse
  have hd9 := hday k hk
  refine am_go hF sgX5_putIntoDigest_0_a632f 2 [(0, .ref 0), (1, .ref (64 + k)), (2, .int (nI p)), (3, .int (nI l))] [.ref (64 + k), .ref (64 + k)] sgX5_putIntoDigest_0_a632fd rfl ?_
  refine am_getf hF (hp_mail T S o hm hm80 (show k < m by omega)) (T := TX1) (N := 11) rfl (inG 1 inG1) 9 (by decide) (List.mem_cons_of_mem _ lf_RX5_342) rfl (.int (T 27 k)) rfl dX5_putIntoDigest_2 ?_
  refine am_go hF sgX5_putIntoDigest_5_13b50 6 [(0, .ref 0), (1, .ref (64 + k)), (2, .int (nI p)), (3, .int (nI l))] [.int (nI l), .int (T 27 k), .ref (64 + k)] sgX5_putIntoDigest_5_13b50d rfl ?_
  refine am_dS hF hO [.int (nI l)] [.int (T 27 k), .ref (64 + k)] (c_bit) myX5_bit syX5_bit lm_RX5_115 rfl 0 0 ⟨Nat.le_of_ble_eq_true rfl, Nat.le_of_ble_eq_true rfl⟩ ⟨Nat.le_of_ble_eq_true rfl, Nat.le_of_ble_eq_true rfl, Nat.le_of_ble_eq_true rfl, Nat.le_of_ble_eq_true rfl⟩ rfl (am_lv_ref (hp_main _ _ _) (am_lv_ref (hp_mail _ _ _ hm hm80 (show k < m by omega)) (am_lv_int (am_lv_int (am_lv_int (am_lv_ref (hp_mail _ _ _ hm hm80 (show k < m by omega)) am_lv_nil)))))) (Nat.le_of_ble_eq_true rfl) dX5_putIntoDigest_6 [.int ((1 : Int32) <<< (nI l &&& 31)), .int (T 27 k), .ref (64 + k)] rfl ?_
  refine am_go hF sgX5_putIntoDigest_9_fceb6 10 [(0, .ref 0), (1, .ref (64 + k)), (2, .int (nI p)), (3, .int (nI l))] [.int ((T 27 k) ||| ((1 : Int32) <<< (nI l &&& 31))), .ref (64 + k)] sgX5_putIntoDigest_9_fceb6d rfl ?_
  refine am_putf hF (hp_mail T S o hm hm80 (show k < m by omega)) (T := TX1) (N := 11) rfl (inG 1 inG1) tyX1 tyX1_ok nmX1 9 (by decide) (List.mem_cons_of_mem _ lf_RX5_342) rfl (Or.inl rfl) rfl rfl (Nat.le_of_ble_eq_true rfl) dX5_putIntoDigest_10 ?_
  refine am_eqX (hp (st1 T 27 k ((T 27 k) ||| ((1 : Int32) <<< (nI l &&& 31)))) S o) (hp_s27 (T := T) hm hm80 (show k < m by omega) ((T 27 k) ||| ((1 : Int32) <<< (nI l &&& 31)))) ?_
  refine am_go hF sgX5_putIntoDigest_13_a7701 14 [(0, .ref 0), (1, .ref (64 + k)), (2, .int (nI p)), (3, .int (nI l))] [.ref (64 + k)] sgX5_putIntoDigest_13_a7701d rfl ?_
  refine am_getf hF (hp_mail (st1 T 27 k ((T 27 k) ||| ((1 : Int32) <<< (nI l &&& 31)))) S o hm hm80 (show k < m by omega)) (T := TX1) (N := 11) rfl (inG 1 inG1) 3 (by decide) (List.mem_cons_of_mem _ lf_RX5_312) rfl (.ref (224 + ((T 21 k).toNatClampNeg))) rfl dX5_putIntoDigest_14 ?_
  refine am_go hF sgX5_putIntoDigest_17_8b8be 19 [(0, .ref 0), (1, .ref (64 + k)), (2, .int (nI p)), (3, .int (nI l))] [.int (nI p), .int (nI l), .ref (224 + ((T 21 k).toNatClampNeg))] sgX5_putIntoDigest_17_8b8bed rfl ?_
  refine am_dV hF hO [.int (nI l), .int (nI p)] [] (c_addReader (T := (st1 T 27 k ((T 27 k) ||| ((1 : Int32) <<< (nI l &&& 31))))) hv hv80 (show (T 21 k).toNatClampNeg < v by omega) (show l < 10 by omega) (show p < 16 by omega)) myX4_addReader vyX4_addReader lm_RX5_345 (hp_day _ _ _ hv hv80 (show (T 21 k).toNatClampNeg < v by omega)) rfl rfl 0 0 ⟨Nat.le_of_ble_eq_true rfl, Nat.le_of_ble_eq_true rfl⟩ ⟨Nat.le_of_ble_eq_true rfl, Nat.le_of_ble_eq_true rfl, Nat.le_of_ble_eq_true rfl, Nat.le_of_ble_eq_true rfl⟩ rfl (am_lv_ref (hp_main _ _ _) (am_lv_ref (hp_mail _ _ _ hm hm80 (show k < m by omega)) (am_lv_int (am_lv_int am_lv_nil)))) (Nat.le_of_ble_eq_true rfl) dX5_putIntoDigest_19 [] rfl ?_
  refine am_go hF sgX5_putIntoDigest_22_a632f 24 [(0, .ref 0), (1, .ref (64 + k)), (2, .int (nI p)), (3, .int (nI l))] [.ref (64 + k), .ref (64 + k)] sgX5_putIntoDigest_22_a632fd rfl ?_
  refine am_getf hF (hp_mail (tAdd (st1 T 27 k ((T 27 k) ||| ((1 : Int32) <<< (nI l &&& 31)))) (T 21 k).toNatClampNeg l p) S o hm hm80 (show k < m by omega)) (T := TX1) (N := 11) rfl (inG 1 inG1) 8 (by decide) (List.mem_cons_of_mem _ lf_RX5_180) rfl (.int ((tAdd (st1 T 27 k ((T 27 k) ||| ((1 : Int32) <<< (nI l &&& 31)))) (T 21 k).toNatClampNeg l p) 26 k)) rfl dX5_putIntoDigest_24 ?_
  refine am_go hF sgX5_putIntoDigest_27_f8a59 28 [(0, .ref 0), (1, .ref (64 + k)), (2, .int (nI p)), (3, .int (nI l))] [.int (nI p), .int ((tAdd (st1 T 27 k ((T 27 k) ||| ((1 : Int32) <<< (nI l &&& 31)))) (T 21 k).toNatClampNeg l p) 26 k), .ref (64 + k)] sgX5_putIntoDigest_27_f8a59d rfl ?_
  refine am_dS hF hO [.int (nI p)] [.int ((tAdd (st1 T 27 k ((T 27 k) ||| ((1 : Int32) <<< (nI l &&& 31)))) (T 21 k).toNatClampNeg l p) 26 k), .ref (64 + k)] (c_bit) myX5_bit syX5_bit lm_RX5_115 rfl 0 0 ⟨Nat.le_of_ble_eq_true rfl, Nat.le_of_ble_eq_true rfl⟩ ⟨Nat.le_of_ble_eq_true rfl, Nat.le_of_ble_eq_true rfl, Nat.le_of_ble_eq_true rfl, Nat.le_of_ble_eq_true rfl⟩ rfl (am_lv_ref (hp_main _ _ _) (am_lv_ref (hp_mail _ _ _ hm hm80 (show k < m by omega)) (am_lv_int (am_lv_int (am_lv_int (am_lv_ref (hp_mail _ _ _ hm hm80 (show k < m by omega)) am_lv_nil)))))) (Nat.le_of_ble_eq_true rfl) dX5_putIntoDigest_28 [.int ((1 : Int32) <<< (nI p &&& 31)), .int ((tAdd (st1 T 27 k ((T 27 k) ||| ((1 : Int32) <<< (nI l &&& 31)))) (T 21 k).toNatClampNeg l p) 26 k), .ref (64 + k)] rfl ?_
  refine am_go hF sgX5_putIntoDigest_31_fceb6 32 [(0, .ref 0), (1, .ref (64 + k)), (2, .int (nI p)), (3, .int (nI l))] [.int (((tAdd (st1 T 27 k ((T 27 k) ||| ((1 : Int32) <<< (nI l &&& 31)))) (T 21 k).toNatClampNeg l p) 26 k) ||| ((1 : Int32) <<< (nI p &&& 31))), .ref (64 + k)] sgX5_putIntoDigest_31_fceb6d rfl ?_
  refine am_putf hF (hp_mail (tAdd (st1 T 27 k ((T 27 k) ||| ((1 : Int32) <<< (nI l &&& 31)))) (T 21 k).toNatClampNeg l p) S o hm hm80 (show k < m by omega)) (T := TX1) (N := 11) rfl (inG 1 inG1) tyX1 tyX1_ok nmX1 8 (by decide) (List.mem_cons_of_mem _ lf_RX5_180) rfl (Or.inl rfl) rfl rfl (Nat.le_of_ble_eq_true rfl) dX5_putIntoDigest_32 ?_
  refine am_eqX (hp (st1 (tAdd (st1 T 27 k ((T 27 k) ||| ((1 : Int32) <<< (nI l &&& 31)))) (T 21 k).toNatClampNeg l p) 26 k (((tAdd (st1 T 27 k ((T 27 k) ||| ((1 : Int32) <<< (nI l &&& 31)))) (T 21 k).toNatClampNeg l p) 26 k) ||| ((1 : Int32) <<< (nI p &&& 31)))) S o) (hp_s26 (T := (tAdd (st1 T 27 k ((T 27 k) ||| ((1 : Int32) <<< (nI l &&& 31)))) (T 21 k).toNatClampNeg l p)) hm hm80 (show k < m by omega) (((tAdd (st1 T 27 k ((T 27 k) ||| ((1 : Int32) <<< (nI l &&& 31)))) (T 21 k).toNatClampNeg l p) 26 k) ||| ((1 : Int32) <<< (nI p &&& 31)))) ?_
  exact am_vret hF hO hret dX5_putIntoDigest_35 ⟨rfl, rfl⟩
set_option maxRecDepth 100000 in
set_option maxHeartbeats 4000000 in
theorem c_bounce {G : am_S} {T S : am_T} {o : Nat → Int64} {n : Nat} (hn : T 0 0 = nI n) (hn10 : n ≤ 10) {p : Nat} (hp9 : p < 16) : am_D G yX5_bounce (.code yX5_bounce cX5_bounce 3 none :: am_G) { frames := 2, cells := 0, slots := 0, locals := 42 } (hp T S o) [.ref 0, .int (nI p)] (hp (tBnc T n p) S o) none := by
  refine am_of (by decide +kernel) (Nat.le_of_ble_eq_true rfl) ?_
  intro C hse hret hname hF hO
  subst hse
  refine am_go hF sgX5_bounce_0_34db8 1 [(0, .ref 0), (1, .int (nI p))] [.ref 0] sgX5_bounce_0_34db8d rfl ?_
  refine am_getf hF (hp_main T S o) (T := TX5) (N := 9) rfl (inG 5 inG5) 0 (by decide) (List.mem_cons_of_mem _ lf_RX5_11) rfl (.ref 1) rfl dX5_bounce_1 ?_
  refine am_go hF sgX5_bounce_4_840bf 5 [(0, .ref 0), (1, .int (nI p))] [.int (nI p), .ref 1] sgX5_bounce_4_840bfd rfl ?_
  refine cv_persons hF p rfl (show p < 16 by omega) dX5_bounce_5 ?_
  refine am_go hF sgX5_bounce_6_4b010 7 [(0, .ref 0), (1, .int (nI p))] [.ref (16 + p), .ref (16 + p)] sgX5_bounce_6_4b010d rfl ?_
  refine am_getf hF (hp_person T S o (show p < 16 by omega)) (T := TX3) (N := 5) rfl (inG 3 inG3) 2 (by decide) (List.mem_cons_of_mem _ lf_RX5_243) rfl (.int (T 7 p)) rfl dX5_bounce_7 ?_
  refine am_go hF sgX5_bounce_10_c7176 12 [(0, .ref 0), (1, .int (nI p))] [.int ((T 7 p) + 1), .ref (16 + p)] sgX5_bounce_10_c7176d rfl ?_
  refine am_putf hF (hp_person T S o (show p < 16 by omega)) (T := TX3) (N := 5) rfl (inG 3 inG3) tyX3 tyX3_ok nmX3 2 (by decide) (List.mem_cons_of_mem _ lf_RX5_243) rfl (Or.inl rfl) rfl rfl (Nat.le_of_ble_eq_true rfl) dX5_bounce_12 ?_
  refine am_eqX (hp (st1 T 7 p ((T 7 p) + 1)) S o) (hp_s7 (T := T) (show p < 16 by omega) ((T 7 p) + 1)) ?_
  refine am_go hF sgX5_bounce_15_34db8 16 [(0, .ref 0), (1, .int (nI p))] [.ref 0] sgX5_bounce_15_34db8d rfl ?_
  refine am_getf hF (hp_main (st1 T 7 p ((T 7 p) + 1)) S o) (T := TX5) (N := 9) rfl (inG 5 inG5) 0 (by decide) (List.mem_cons_of_mem _ lf_RX5_11) rfl (.ref 1) rfl dX5_bounce_16 ?_
  refine am_go hF sgX5_bounce_19_840bf 20 [(0, .ref 0), (1, .int (nI p))] [.int (nI p), .ref 1] sgX5_bounce_19_840bfd rfl ?_
  refine cv_persons hF p rfl (show p < 16 by omega) dX5_bounce_20 ?_
  refine am_getf hF (hp_person (st1 T 7 p ((T 7 p) + 1)) S o (show p < 16 by omega)) (T := TX3) (N := 5) rfl (inG 3 inG3) 2 (by decide) (List.mem_cons_of_mem _ lf_RX5_243) rfl (.int ((st1 T 7 p ((T 7 p) + 1)) 7 p)) rfl dX5_bounce_21 ?_
  refine am_top ((T 7 p) + 1) (st1_same T 7 p ((T 7 p) + 1)) ?_
  refine am_go hF sgX5_bounce_24_800cc 25 [(0, .ref 0), (1, .int (nI p))] [.int 3, .int ((T 7 p) + 1)] sgX5_bounce_24_800ccd rfl ?_
  refine am_icmpge hF 29 dX5_bounce_25 (by decide) (fun c1 => ?_) (fun c1 => ?_)
  · skip
    refine am_go hF sgX5_bounce_29_34db8 30 [(0, .ref 0), (1, .int (nI p))] [.ref 0] sgX5_bounce_29_34db8d rfl ?_
    refine am_getf hF (hp_main (st1 T 7 p ((T 7 p) + 1)) S o) (T := TX5) (N := 9) rfl (inG 5 inG5) 0 (by decide) (List.mem_cons_of_mem _ lf_RX5_11) rfl (.ref 1) rfl dX5_bounce_30 ?_
    refine am_go hF sgX5_bounce_33_840bf 34 [(0, .ref 0), (1, .int (nI p))] [.int (nI p), .ref 1] sgX5_bounce_33_840bfd rfl ?_
    refine cv_persons hF p rfl (show p < 16 by omega) dX5_bounce_34 ?_
    refine am_go hF sgX5_bounce_35_56c54 36 [(0, .ref 0), (1, .int (nI p))] [.int 0, .ref (16 + p)] sgX5_bounce_35_56c54d rfl ?_
    refine am_putf hF (hp_person (st1 T 7 p ((T 7 p) + 1)) S o (show p < 16 by omega)) (T := TX3) (N := 5) rfl (inG 3 inG3) tyX3 tyX3_ok nmX3 2 (by decide) (List.mem_cons_of_mem _ lf_RX5_243) rfl (Or.inl rfl) rfl rfl (Nat.le_of_ble_eq_true rfl) dX5_bounce_36 ?_
    refine am_eqX (hp (st1 (st1 T 7 p ((T 7 p) + 1)) 7 p 0) S o) (hp_s7 (T := (st1 T 7 p ((T 7 p) + 1))) (show p < 16 by omega) 0) ?_
    refine am_go hF sgX5_bounce_39_01fef 41 [(2, .int 0), (0, .ref 0), (1, .int (nI p))] [] sgX5_bounce_39_01fefd rfl ?_
    refine am_drop [1, 2, 0] [(0, .ref 0), (1, .int (nI p)), (2, .int 0)] rfl ?_
    have lp41 : ∀ (zz i : Nat) (T1 : am_T), i + zz = n → T1 = itN (tb1 p) (st1 (st1 T 7 p (T 7 p + 1)) 7 p 0) i → am_W C (hp T1 S o) 0 0 41 [(0, .ref 0), (1, .int (nI p)), (2, .int (nI i))] [] := by
      intro zz
      induction zz with
      | zero =>
        intro i T1 hi hT1
        have e9i : i = n := by omega
        have hn1 : T1 0 0 = nI n := by rw [hT1]; exact (congrFun (itN_f (F := tb1 p) 0 (fun k S => tb1_f (by decide) (by decide)) _ i) 0).trans hn
        refine am_go hF sgX5_bounce_41_14491 43 [(0, .ref 0), (1, .int (nI p)), (2, .int (nI i))] [.ref 0, .int (nI i)] sgX5_bounce_41_14491d rfl ?_
        refine am_getf hF (hp_main T1 S o) (T := TX5) (N := 9) rfl (inG 5 inG5) 3 (by decide) (List.mem_cons_of_mem _ lf_RX5_25) rfl (.int (T1 0 0)) rfl dX5_bounce_43 ?_
        refine am_top (nI n) hn1 ?_
        refine am_icmpge hF 79 dX5_bounce_46 (by decide) (fun _ => ?_) (fun h9 => False.elim (absurd (nc_ge (show n ≤ i by omega) (by omega) (by omega) rfl rfl) h9))
        exact am_vret hF hO hret dX5_bounce_79 ⟨by unfold tBnc; rw [if_neg (Int32.not_lt.mpr c1), hT1, e9i], rfl⟩
      | succ zz ih41 =>
        intro i T1 hi hT1
        have l9i : i < n := by omega
        have hn1 : T1 0 0 = nI n := by rw [hT1]; exact (congrFun (itN_f (F := tb1 p) 0 (fun k S => tb1_f (by decide) (by decide)) _ i) 0).trans hn
        refine am_go hF sgX5_bounce_41_14491 43 [(0, .ref 0), (1, .int (nI p)), (2, .int (nI i))] [.ref 0, .int (nI i)] sgX5_bounce_41_14491d rfl ?_
        refine am_getf hF (hp_main T1 S o) (T := TX5) (N := 9) rfl (inG 5 inG5) 3 (by decide) (List.mem_cons_of_mem _ lf_RX5_25) rfl (.int (T1 0 0)) rfl dX5_bounce_43 ?_
        refine am_top (nI n) hn1 ?_
        refine am_icmpge hF 79 dX5_bounce_46 (by decide) (fun h9 => False.elim (nc_lt_f (show i < n by omega) (by omega) (by omega) rfl rfl h9)) (fun _ => ?_)
        refine am_go hF sgX5_bounce_49_34db8 50 [(0, .ref 0), (1, .int (nI p)), (2, .int (nI i))] [.ref 0] sgX5_bounce_49_34db8d rfl ?_
        refine am_getf hF (hp_main T1 S o) (T := TX5) (N := 9) rfl (inG 5 inG5) 2 (by decide) (List.mem_cons_of_mem _ lf_RX5_21) rfl (.ref 3) rfl dX5_bounce_50 ?_
        refine am_go hF sgX5_bounce_53_f8a59 54 [(0, .ref 0), (1, .int (nI p)), (2, .int (nI i))] [.int (nI i), .ref 3] sgX5_bounce_53_f8a59d rfl ?_
        refine cv_lists hF hn1 hn10 i rfl (show i < n by omega) dX5_bounce_54 ?_
        refine am_go hF sgX5_bounce_55_840bf 56 [(0, .ref 0), (1, .int (nI p)), (2, .int (nI i))] [.int (nI p), .ref (48 + i)] sgX5_bounce_55_840bfd rfl ?_
        refine am_dV hF hO [.int (nI p)] [] (c_hasMember (T := T1) hn1 hn10 (show i < n by omega) (show p < 16 by omega)) myX2_hasMember vyX2_hasMember lm_RX5_71 (hp_list _ _ _ hn1 hn10 (show i < n by omega)) rfl rfl 0 0 ⟨Nat.le_of_ble_eq_true rfl, Nat.le_of_ble_eq_true rfl⟩ ⟨Nat.le_of_ble_eq_true rfl, Nat.le_of_ble_eq_true rfl, Nat.le_of_ble_eq_true rfl, Nat.le_of_ble_eq_true rfl⟩ rfl (am_lv_ref (hp_main _ _ _) (am_lv_int (am_lv_int am_lv_nil))) (Nat.le_of_ble_eq_true rfl) dX5_bounce_56 [.int (zb (bt (T1 11 i) p))] rfl ?_
        refine am_ifeq hF 73 dX5_bounce_59 (by decide) (fun c4 => ?_) (fun c4 => ?_)
        · skip
          replace c4 := zb_0.mp c4
          refine am_go hF sgX5_bounce_73_c656c 41 [(2, .int ((nI i) + 1)), (0, .ref 0), (1, .int (nI p))] [] sgX5_bounce_73_c656cd rfl ?_
          refine am_drop [1, 2, 0] [(0, .ref 0), (1, .int (nI p)), (2, .int ((nI i) + 1))] rfl ?_
          refine am_eqL [(0, .ref 0), (1, .int (nI p)), (2, .int (nI (i + 1)))] (by rw [nI_1]) ?_
          exact ih41 (i + 1) T1 (by omega) (by show _ = tb1 p i (itN (tb1 p) (st1 (st1 T 7 p (T 7 p + 1)) 7 p 0) i); rw [← hT1]; simp only [tb1, Bool.false_eq_true, not_false_eq_true, not_true_eq_false, and_self, and_true, true_and, and_false, false_and, true_or, or_true, or_false, false_or, or_self, c1, c4, ↓reduceIte])
        · skip
          replace c4 := zb_p.mp c4
          refine am_go hF sgX5_bounce_62_34db8 63 [(0, .ref 0), (1, .int (nI p)), (2, .int (nI i))] [.ref 0] sgX5_bounce_62_34db8d rfl ?_
          refine am_getf hF (hp_main T1 S o) (T := TX5) (N := 9) rfl (inG 5 inG5) 2 (by decide) (List.mem_cons_of_mem _ lf_RX5_21) rfl (.ref 3) rfl dX5_bounce_63 ?_
          refine am_go hF sgX5_bounce_66_f8a59 67 [(0, .ref 0), (1, .int (nI p)), (2, .int (nI i))] [.int (nI i), .ref 3] sgX5_bounce_66_f8a59d rfl ?_
          refine cv_lists hF hn1 hn10 i rfl (show i < n by omega) dX5_bounce_67 ?_
          refine am_go hF sgX5_bounce_68_d3633 70 [(0, .ref 0), (1, .int (nI p)), (2, .int (nI i))] [.int 1, .int (nI p), .ref (48 + i)] sgX5_bounce_68_d3633d rfl ?_
          refine am_dV hF hO [.int (nI p), .int 1] [] (c_putMember (T := T1) hn1 hn10 (show i < n by omega) (show p < 16 by omega)) myX2_putMember vyX2_putMember lm_RX5_77 (hp_list _ _ _ hn1 hn10 (show i < n by omega)) rfl rfl 0 0 ⟨Nat.le_of_ble_eq_true rfl, Nat.le_of_ble_eq_true rfl⟩ ⟨Nat.le_of_ble_eq_true rfl, Nat.le_of_ble_eq_true rfl, Nat.le_of_ble_eq_true rfl, Nat.le_of_ble_eq_true rfl⟩ rfl (am_lv_ref (hp_main _ _ _) (am_lv_int (am_lv_int am_lv_nil))) (Nat.le_of_ble_eq_true rfl) dX5_bounce_70 [] rfl ?_
          refine am_go hF sgX5_bounce_73_c656c 41 [(2, .int ((nI i) + 1)), (0, .ref 0), (1, .int (nI p))] [] sgX5_bounce_73_c656cd rfl ?_
          refine am_drop [1, 2, 0] [(0, .ref 0), (1, .int (nI p)), (2, .int ((nI i) + 1))] rfl ?_
          refine am_eqL [(0, .ref 0), (1, .int (nI p)), (2, .int (nI (i + 1)))] (by rw [nI_1]) ?_
          exact ih41 (i + 1) (tPut T1 i p 1) (by omega) (by show _ = tb1 p i (itN (tb1 p) (st1 (st1 T 7 p (T 7 p + 1)) 7 p 0) i); rw [← hT1]; simp only [tb1, Bool.false_eq_true, not_false_eq_true, not_true_eq_false, and_self, and_true, true_and, and_false, false_and, true_or, or_true, or_false, false_or, or_self, c1, c4, ↓reduceIte])
    exact lp41 n 0 (st1 (st1 T 7 p ((T 7 p) + 1)) 7 p 0) (by omega) rfl
  · skip
    exact am_vret hF hO hret dX5_bounce_28 ⟨by unfold tBnc; rw [if_pos (Int32.not_le.mp c1)], rfl⟩
set_option maxRecDepth 100000 in
set_option maxHeartbeats 4000000 in
theorem c_deliverTo {G : am_S} {T S : am_T} {o : Nat → Int64} {n m v : Nat} (hs : tSafe T n m v) {k : Nat} (hk : k < m) {p : Nat} {x : Int32} (hp9 : p < 16) : am_D G yX5_deliverTo (.code yX5_deliverTo cX5_deliverTo 5 none :: am_G) { frames := 3, cells := 0, slots := 0, locals := 66 } (hp T S o) [.ref 0, .ref (64 + k), .int (nI p), .int x] (hp (tTo T n k p x) S o) none := by
  refine am_of (by decide +kernel) (Nat.le_of_ble_eq_true rfl) ?_
  intro C hse hret hname hF hO
  subst hse
  obtain ⟨hn, hn10, hm, hm80, hv, hv80, hbx, hmm⟩ := hs
  obtain ⟨b, hb10, hb⟩ := hbx p hp9
  have hday : ∀ k, k < m → (T 21 k).toNatClampNeg < v := fun k hk => (hmm k hk).1
  refine am_go hF sgX5_deliverTo_0_57980 3 [(0, .ref 0), (1, .ref (64 + k)), (2, .int (nI p)), (3, .int x)] [.int (nI p), .int x, .ref 0] sgX5_deliverTo_0_57980d rfl ?_
  refine am_dV hF hO [.int x, .int (nI p)] [] (c_lowest (T := T) hn hn10 (show p < 16 by omega)) myX5_lowestWithMember vyX5_lowestWithMember lm_RX5_326 (hp_main _ _ _) rfl rfl 0 0 ⟨Nat.le_of_ble_eq_true rfl, Nat.le_of_ble_eq_true rfl⟩ ⟨Nat.le_of_ble_eq_true rfl, Nat.le_of_ble_eq_true rfl, Nat.le_of_ble_eq_true rfl, Nat.le_of_ble_eq_true rfl⟩ rfl (am_lv_ref (hp_main _ _ _) (am_lv_ref (hp_mail _ _ _ hm hm80 (show k < m by omega)) (am_lv_int (am_lv_int am_lv_nil)))) (Nat.le_of_ble_eq_true rfl) dX5_deliverTo_3 [.int (tLow T n x p)] rfl ?_
  refine am_go hF sgX5_deliverTo_6_0d3ab 11 [(4, .int (tLow T n x p)), (0, .ref 0), (1, .ref (64 + k)), (2, .int (nI p)), (3, .int x)] [.int (-1), .int (tLow T n x p)] sgX5_deliverTo_6_0d3abd rfl ?_
  refine am_icmpne hF 15 dX5_deliverTo_11 (by decide) (fun c1 => ?_) (fun c1 => ?_)
  · skip
    obtain ⟨q, hq9, hqe⟩ := tLow_in c1
    refine am_eqL [(4, .int (nI q)), (0, .ref 0), (1, .ref (64 + k)), (2, .int (nI p)), (3, .int x)] (by rw [hqe]) ?_
    refine am_go hF sgX5_deliverTo_15_57980 18 [(4, .int (nI q)), (0, .ref 0), (1, .ref (64 + k)), (2, .int (nI p)), (3, .int x)] [.int (nI p), .int x, .ref 0] sgX5_deliverTo_15_57980d rfl ?_
    refine am_dV hF hO [.int x, .int (nI p)] [] (c_modeAmong (T := T) hn hn10 (show p < 16 by omega)) myX5_modeAmong vyX5_modeAmong lm_RX5_146 (hp_main _ _ _) rfl rfl 0 0 ⟨Nat.le_of_ble_eq_true rfl, Nat.le_of_ble_eq_true rfl⟩ ⟨Nat.le_of_ble_eq_true rfl, Nat.le_of_ble_eq_true rfl, Nat.le_of_ble_eq_true rfl, Nat.le_of_ble_eq_true rfl⟩ rfl (am_lv_int (am_lv_ref (hp_main _ _ _) (am_lv_ref (hp_mail _ _ _ hm hm80 (show k < m by omega)) (am_lv_int (am_lv_int am_lv_nil))))) (Nat.le_of_ble_eq_true rfl) dX5_deliverTo_18 [.int (tMode T n x p)] rfl ?_
    refine am_go hF sgX5_deliverTo_21_4de0a 22 [(4, .int (nI q)), (0, .ref 0), (1, .ref (64 + k)), (2, .int (nI p)), (3, .int x)] [.int 1, .int (tMode T n x p)] sgX5_deliverTo_21_4de0ad rfl ?_
    refine am_icmpne hF 36 dX5_deliverTo_22 (by decide) (fun c2 => ?_) (fun c2 => ?_)
    · skip
      refine am_go hF sgX5_deliverTo_36_34db8 37 [(4, .int (nI q)), (0, .ref 0), (1, .ref (64 + k)), (2, .int (nI p)), (3, .int x)] [.ref 0] sgX5_deliverTo_36_34db8d rfl ?_
      refine am_getf hF (hp_main T S o) (T := TX5) (N := 9) rfl (inG 5 inG5) 0 (by decide) (List.mem_cons_of_mem _ lf_RX5_11) rfl (.ref 1) rfl dX5_deliverTo_37 ?_
      refine am_go hF sgX5_deliverTo_40_f8a59 41 [(4, .int (nI q)), (0, .ref 0), (1, .ref (64 + k)), (2, .int (nI p)), (3, .int x)] [.int (nI p), .ref 1] sgX5_deliverTo_40_f8a59d rfl ?_
      refine cv_persons hF p rfl (show p < 16 by omega) dX5_deliverTo_41 ?_
      refine am_dV hF hO [] [] (c_hasRoom (show p < 16 by omega)) myX3_hasRoom vyX3_hasRoom lm_RX5_332 (hp_person _ _ _ (show p < 16 by omega)) rfl rfl 0 0 ⟨Nat.le_of_ble_eq_true rfl, Nat.le_of_ble_eq_true rfl⟩ ⟨Nat.le_of_ble_eq_true rfl, Nat.le_of_ble_eq_true rfl, Nat.le_of_ble_eq_true rfl, Nat.le_of_ble_eq_true rfl⟩ rfl (am_lv_int (am_lv_ref (hp_main _ _ _) (am_lv_ref (hp_mail _ _ _ hm hm80 (show k < m by omega)) (am_lv_int (am_lv_int am_lv_nil))))) (Nat.le_of_ble_eq_true rfl) dX5_deliverTo_42 [.int (zb (decide (T 8 p < 10)))] rfl ?_
      refine am_ifeq hF 77 dX5_deliverTo_45 (by decide) (fun c3 => ?_) (fun c3 => ?_)
      · skip
        replace c3 := of_decide_eq_false (zb_0.mp c3)
        refine am_go hF sgX5_deliverTo_77_78e74 79 [(4, .int (nI q)), (0, .ref 0), (1, .ref (64 + k)), (2, .int (nI p)), (3, .int x)] [.int (nI p), .ref 0] sgX5_deliverTo_77_78e74d rfl ?_
        refine am_dV hF hO [.int (nI p)] [] (c_bounce (T := T) hn hn10 hp9) myX5_bounce vyX5_bounce lm_RX5_339 (hp_main _ _ _) rfl rfl 0 0 ⟨Nat.le_of_ble_eq_true rfl, Nat.le_of_ble_eq_true rfl⟩ ⟨Nat.le_of_ble_eq_true rfl, Nat.le_of_ble_eq_true rfl, Nat.le_of_ble_eq_true rfl, Nat.le_of_ble_eq_true rfl⟩ rfl (am_lv_int (am_lv_ref (hp_main _ _ _) (am_lv_ref (hp_mail _ _ _ hm hm80 (show k < m by omega)) (am_lv_int (am_lv_int am_lv_nil))))) (Nat.le_of_ble_eq_true rfl) dX5_deliverTo_79 [] rfl ?_
        exact am_vret hF hO hret dX5_deliverTo_82 ⟨by rw [tTo_bnc c1 c2 c3], rfl⟩
      · skip
        replace c3 := of_decide_eq_true (zb_p.mp c3)
        have hb9 : b < 10 := am_ltI (b := 10) (by omega) (by decide) (by have h9 := c3; rw [hb] at h9; exact h9)
        refine am_go hF sgX5_deliverTo_48_34db8 49 [(4, .int (nI q)), (0, .ref 0), (1, .ref (64 + k)), (2, .int (nI p)), (3, .int x)] [.ref 0] sgX5_deliverTo_48_34db8d rfl ?_
        refine am_getf hF (hp_main T S o) (T := TX5) (N := 9) rfl (inG 5 inG5) 0 (by decide) (List.mem_cons_of_mem _ lf_RX5_11) rfl (.ref 1) rfl dX5_deliverTo_49 ?_
        refine am_go hF sgX5_deliverTo_52_f8a59 53 [(4, .int (nI q)), (0, .ref 0), (1, .ref (64 + k)), (2, .int (nI p)), (3, .int x)] [.int (nI p), .ref 1] sgX5_deliverTo_52_f8a59d rfl ?_
        refine cv_persons hF p rfl (show p < 16 by omega) dX5_deliverTo_53 ?_
        refine am_go hF sgX5_deliverTo_54_a7701 55 [(4, .int (nI q)), (0, .ref 0), (1, .ref (64 + k)), (2, .int (nI p)), (3, .int x)] [.ref (64 + k), .ref (16 + p)] sgX5_deliverTo_54_a7701d rfl ?_
        refine am_getf hF (hp_mail T S o hm hm80 (show k < m by omega)) (T := TX1) (N := 11) rfl (inG 1 inG1) 0 (by decide) (List.mem_cons_of_mem _ lf_RX5_335) rfl (.int (T 18 k)) rfl dX5_deliverTo_55 ?_
        refine am_dV hF hO [.int (T 18 k)] [] (c_putIntoBox (T := T) hp9 hb hb9) myX3_putIntoBox vyX3_putIntoBox lm_RX5_336 (hp_person _ _ _ (show p < 16 by omega)) rfl rfl 0 0 ⟨Nat.le_of_ble_eq_true rfl, Nat.le_of_ble_eq_true rfl⟩ ⟨Nat.le_of_ble_eq_true rfl, Nat.le_of_ble_eq_true rfl, Nat.le_of_ble_eq_true rfl, Nat.le_of_ble_eq_true rfl⟩ rfl (am_lv_int (am_lv_ref (hp_main _ _ _) (am_lv_ref (hp_mail _ _ _ hm hm80 (show k < m by omega)) (am_lv_int (am_lv_int am_lv_nil))))) (Nat.le_of_ble_eq_true rfl) dX5_deliverTo_58 [] rfl ?_
        refine am_go hF sgX5_deliverTo_61_a632f 63 [(4, .int (nI q)), (0, .ref 0), (1, .ref (64 + k)), (2, .int (nI p)), (3, .int x)] [.ref (64 + k), .ref (64 + k)] sgX5_deliverTo_61_a632fd rfl ?_
        refine am_getf hF (hp_mail (st1 (st1 T 9 (10 * p + b) (T 18 k)) 8 p (nI b + 1)) S o hm hm80 (show k < m by omega)) (T := TX1) (N := 11) rfl (inG 1 inG1) 8 (by decide) (List.mem_cons_of_mem _ lf_RX5_180) rfl (.int (T 26 k)) rfl dX5_deliverTo_63 ?_
        refine am_go hF sgX5_deliverTo_66_f8a59 67 [(4, .int (nI q)), (0, .ref 0), (1, .ref (64 + k)), (2, .int (nI p)), (3, .int x)] [.int (nI p), .int (T 26 k), .ref (64 + k)] sgX5_deliverTo_66_f8a59d rfl ?_
        refine am_dS hF hO [.int (nI p)] [.int (T 26 k), .ref (64 + k)] (c_bit) myX5_bit syX5_bit lm_RX5_115 rfl 0 0 ⟨Nat.le_of_ble_eq_true rfl, Nat.le_of_ble_eq_true rfl⟩ ⟨Nat.le_of_ble_eq_true rfl, Nat.le_of_ble_eq_true rfl, Nat.le_of_ble_eq_true rfl, Nat.le_of_ble_eq_true rfl⟩ rfl (am_lv_int (am_lv_ref (hp_main _ _ _) (am_lv_ref (hp_mail _ _ _ hm hm80 (show k < m by omega)) (am_lv_int (am_lv_int (am_lv_int (am_lv_ref (hp_mail _ _ _ hm hm80 (show k < m by omega)) am_lv_nil))))))) (Nat.le_of_ble_eq_true rfl) dX5_deliverTo_67 [.int ((1 : Int32) <<< (nI p &&& 31)), .int (T 26 k), .ref (64 + k)] rfl ?_
        refine am_go hF sgX5_deliverTo_70_fceb6 71 [(4, .int (nI q)), (0, .ref 0), (1, .ref (64 + k)), (2, .int (nI p)), (3, .int x)] [.int ((T 26 k) ||| ((1 : Int32) <<< (nI p &&& 31))), .ref (64 + k)] sgX5_deliverTo_70_fceb6d rfl ?_
        refine am_putf hF (hp_mail (st1 (st1 T 9 (10 * p + b) (T 18 k)) 8 p (nI b + 1)) S o hm hm80 (show k < m by omega)) (T := TX1) (N := 11) rfl (inG 1 inG1) tyX1 tyX1_ok nmX1 8 (by decide) (List.mem_cons_of_mem _ lf_RX5_180) rfl (Or.inl rfl) rfl rfl (Nat.le_of_ble_eq_true rfl) dX5_deliverTo_71 ?_
        refine am_eqX (hp (st1 (st1 (st1 T 9 (10 * p + b) (T 18 k)) 8 p (nI b + 1)) 26 k ((T 26 k) ||| ((1 : Int32) <<< (nI p &&& 31)))) S o) (hp_s26 (T := (st1 (st1 T 9 (10 * p + b) (T 18 k)) 8 p (nI b + 1))) hm hm80 (show k < m by omega) ((T 26 k) ||| ((1 : Int32) <<< (nI p &&& 31)))) ?_
        refine am_go hF sgX5_deliverTo_74_5e31b 82 [(4, .int (nI q)), (0, .ref 0), (1, .ref (64 + k)), (2, .int (nI p)), (3, .int x)] [] sgX5_deliverTo_74_5e31bd rfl ?_
        exact am_vret hF hO hret dX5_deliverTo_82 ⟨by rw [tTo_box c1 c2 c3]; unfold tBox; rw [hb, nI_clamp (show b < 2 ^ 31 by omega)], rfl⟩
    · skip
      refine am_go hF sgX5_deliverTo_25_6cd2b 30 [(4, .int (nI q)), (0, .ref 0), (1, .ref (64 + k)), (2, .int (nI p)), (3, .int x)] [.int (nI q), .int (nI p), .ref (64 + k), .ref 0] sgX5_deliverTo_25_6cd2bd rfl ?_
      refine am_dV hF hO [.ref (64 + k), .int (nI p), .int (nI q)] [] (c_putIntoDigest (T := T) hm hm80 hv hv80 hday hk hp9 (show q < 10 by omega)) myX5_putIntoDigest vyX5_putIntoDigest lm_RX5_329 (hp_main _ _ _) rfl rfl 0 0 ⟨Nat.le_of_ble_eq_true rfl, Nat.le_of_ble_eq_true rfl⟩ ⟨Nat.le_of_ble_eq_true rfl, Nat.le_of_ble_eq_true rfl, Nat.le_of_ble_eq_true rfl, Nat.le_of_ble_eq_true rfl⟩ rfl (am_lv_int (am_lv_ref (hp_main _ _ _) (am_lv_ref (hp_mail _ _ _ hm hm80 (show k < m by omega)) (am_lv_int (am_lv_int am_lv_nil))))) (Nat.le_of_ble_eq_true rfl) dX5_deliverTo_30 [] rfl ?_
      refine am_go hF sgX5_deliverTo_33_2cb8d 82 [(4, .int (nI q)), (0, .ref 0), (1, .ref (64 + k)), (2, .int (nI p)), (3, .int x)] [] sgX5_deliverTo_33_2cb8dd rfl ?_
      exact am_vret hF hO hret dX5_deliverTo_82 ⟨by rw [tTo_dig hqe (by omega) c2], rfl⟩
  · skip
    exact am_vret hF hO hret dX5_deliverTo_14 ⟨by rw [tTo_none c1], rfl⟩
set_option maxRecDepth 100000 in
set_option maxHeartbeats 4000000 in
theorem c_deliver {G : am_S} {T S : am_T} {o : Nat → Int64} {n m v : Nat} (hs : tSafe T n m v) {k : Nat} (hk : k < m) : am_D G yX5_deliver (.code yX5_deliver cX5_deliver 4 none :: am_G) { frames := 4, cells := 0, slots := 0, locals := 90 } (hp T S o) [.ref 0, .ref (64 + k)] (hp (tDel T n k) S o) none := by
  refine am_of (by decide +kernel) (Nat.le_of_ble_eq_true rfl) ?_
  intro C hse hret hname hF hO
  subst hse
  have hs9 := hs
  obtain ⟨hn, hn10, hm, hm80, hv, hv80, hbx, hmm⟩ := hs
  obtain ⟨hd9, ⟨s, hs16, hs19⟩, l, hl, hl20⟩ := hmm k hk
  refine am_go hF sgX5_deliver_0_ff031 2 [(0, .ref 0), (1, .ref (64 + k))] [.int 0, .ref (64 + k)] sgX5_deliver_0_ff031d rfl ?_
  refine am_putf hF (hp_mail T S o hm hm80 (show k < m by omega)) (T := TX1) (N := 11) rfl (inG 1 inG1) tyX1 tyX1_ok nmX1 7 (by decide) (List.mem_cons_of_mem _ lf_RX5_183) rfl (Or.inl rfl) rfl rfl (Nat.le_of_ble_eq_true rfl) dX5_deliver_2 ?_
  refine am_eqX (hp (st1 T 25 k 0) S o) (hp_s25 (T := T) hm hm80 (show k < m by omega) 0) ?_
  refine am_go hF sgX5_deliver_5_de6e7 7 [(0, .ref 0), (1, .ref (64 + k))] [.ref (64 + k), .ref 0] sgX5_deliver_5_de6e7d rfl ?_
  refine am_getf hF (hp_mail (st1 T 25 k 0) S o hm hm80 (show k < m by omega)) (T := TX1) (N := 11) rfl (inG 1 inG1) 2 (by decide) (List.mem_cons_of_mem _ lf_RX5_319) rfl (.int (T 20 k)) rfl dX5_deliver_7 ?_
  refine am_top (nI l) hl20 ?_
  refine am_dV hF hO [.int (nI l)] [] (c_listsDown (T := (st1 T 25 k 0)) hn hn10 (show l < n by omega)) myX5_listsDown vyX5_listsDown lm_RX5_107 (hp_main _ _ _) rfl rfl 0 0 ⟨Nat.le_of_ble_eq_true rfl, Nat.le_of_ble_eq_true rfl⟩ ⟨Nat.le_of_ble_eq_true rfl, Nat.le_of_ble_eq_true rfl, Nat.le_of_ble_eq_true rfl, Nat.le_of_ble_eq_true rfl⟩ rfl (am_lv_ref (hp_main _ _ _) (am_lv_ref (hp_mail _ _ _ hm hm80 (show k < m by omega)) am_lv_nil)) (Nat.le_of_ble_eq_true rfl) dX5_deliver_10 [.int (tDown (st1 T 25 k 0) n l)] rfl ?_
  refine am_go hF sgX5_deliver_13_7e279 16 [(3, .int 0), (2, .int (tDown (st1 T 25 k 0) n l)), (0, .ref 0), (1, .ref (64 + k))] [] sgX5_deliver_13_7e279d rfl ?_
  refine am_drop [2, 3, 1, 0] [(0, .ref 0), (1, .ref (64 + k)), (2, .int (tDown (st1 T 25 k 0) n l)), (3, .int 0)] rfl ?_
  have lp16 : ∀ (zz i : Nat) (T1 : am_T), i + zz = 16 → T1 = itN (tdl n k (tDown (st1 T 25 k 0) n l)) (st1 T 25 k 0) i → am_W C (hp T1 S o) 0 0 16 [(0, .ref 0), (1, .ref (64 + k)), (2, .int (tDown (st1 T 25 k 0) n l)), (3, .int (nI i))] [] := by
    intro zz
    induction zz with
    | zero =>
      intro i T1 hi hT1
      have e9i : i = 16 := by omega
      have hs1 : tSafe T1 n m v := by rw [hT1]; exact tdl_it (tSafe_st hs9 (by decide)) i
      have hm1 : T1 1 0 = nI m := hs1.2.2.1
      refine am_go hF sgX5_deliver_16_b88ad 19 [(0, .ref 0), (1, .ref (64 + k)), (2, .int (tDown (st1 T 25 k 0) n l)), (3, .int (nI i))] [.int 16, .int (nI i)] sgX5_deliver_16_b88add rfl ?_
      refine am_icmpge hF 43 dX5_deliver_19 (by decide) (fun _ => ?_) (fun h9 => False.elim (absurd (nc_ge (show 16 ≤ i by omega) (by omega) (by omega) rfl rfl) h9))
      exact am_vret hF hO hret dX5_deliver_43 ⟨by unfold tDel; rw [hl20, nI_clamp (show l < 2 ^ 31 by omega), hT1, e9i], rfl⟩
    | succ zz ih16 =>
      intro i T1 hi hT1
      have l9i : i < 16 := by omega
      have hs1 : tSafe T1 n m v := by rw [hT1]; exact tdl_it (tSafe_st hs9 (by decide)) i
      have hm1 : T1 1 0 = nI m := hs1.2.2.1
      refine am_go hF sgX5_deliver_16_b88ad 19 [(0, .ref 0), (1, .ref (64 + k)), (2, .int (tDown (st1 T 25 k 0) n l)), (3, .int (nI i))] [.int 16, .int (nI i)] sgX5_deliver_16_b88add rfl ?_
      refine am_icmpge hF 43 dX5_deliver_19 (by decide) (fun h9 => False.elim (nc_lt_f (show i < 16 by omega) (by omega) (by omega) rfl rfl h9)) (fun _ => ?_)
      refine am_go hF sgX5_deliver_22_a358a 24 [(0, .ref 0), (1, .ref (64 + k)), (2, .int (tDown (st1 T 25 k 0) n l)), (3, .int (nI i))] [.ref (64 + k), .int (nI i)] sgX5_deliver_22_a358ad rfl ?_
      refine am_getf hF (hp_mail T1 S o hm1 hm80 (show k < m by omega)) (T := TX1) (N := 11) rfl (inG 1 inG1) 1 (by decide) (List.mem_cons_of_mem _ lf_RX5_309) rfl (.int (T1 19 k)) rfl dX5_deliver_24 ?_
      refine am_icmpeq hF 37 dX5_deliver_27 (by decide) (fun c3 => ?_) (fun c3 => ?_)
      · skip
        refine am_go hF sgX5_deliver_37_fc3b2 16 [(3, .int ((nI i) + 1)), (0, .ref 0), (1, .ref (64 + k)), (2, .int (tDown (st1 T 25 k 0) n l))] [] sgX5_deliver_37_fc3b2d rfl ?_
        refine am_drop [1, 2, 3, 0] [(0, .ref 0), (1, .ref (64 + k)), (2, .int (tDown (st1 T 25 k 0) n l)), (3, .int ((nI i) + 1))] rfl ?_
        refine am_eqL [(0, .ref 0), (1, .ref (64 + k)), (2, .int (tDown (st1 T 25 k 0) n l)), (3, .int (nI (i + 1)))] (by rw [nI_1]) ?_
        exact ih16 (i + 1) T1 (by omega) (by show _ = tdl n k (tDown (st1 T 25 k 0) n l) i (itN (tdl n k (tDown (st1 T 25 k 0) n l)) (st1 T 25 k 0) i); rw [← hT1]; simp only [tdl, Bool.false_eq_true, not_false_eq_true, not_true_eq_false, and_self, and_true, true_and, and_false, false_and, true_or, or_true, or_false, false_or, or_self, (eq_true c3), ↓reduceIte])
      · skip
        refine am_go hF sgX5_deliver_30_ffc44 34 [(0, .ref 0), (1, .ref (64 + k)), (2, .int (tDown (st1 T 25 k 0) n l)), (3, .int (nI i))] [.int (tDown (st1 T 25 k 0) n l), .int (nI i), .ref (64 + k), .ref 0] sgX5_deliver_30_ffc44d rfl ?_
        refine am_dV hF hO [.ref (64 + k), .int (nI i), .int (tDown (st1 T 25 k 0) n l)] [] (c_deliverTo (T := T1) hs1 hk (show i < 16 by omega)) myX5_deliverTo vyX5_deliverTo lm_RX5_322 (hp_main _ _ _) rfl rfl 0 0 ⟨Nat.le_of_ble_eq_true rfl, Nat.le_of_ble_eq_true rfl⟩ ⟨Nat.le_of_ble_eq_true rfl, Nat.le_of_ble_eq_true rfl, Nat.le_of_ble_eq_true rfl, Nat.le_of_ble_eq_true rfl⟩ rfl (am_lv_ref (hp_main _ _ _) (am_lv_ref (hp_mail _ _ _ hm1 hm80 (show k < m by omega)) (am_lv_int (am_lv_int am_lv_nil)))) (Nat.le_of_ble_eq_true rfl) dX5_deliver_34 [] rfl ?_
        refine am_go hF sgX5_deliver_37_fc3b2 16 [(3, .int ((nI i) + 1)), (0, .ref 0), (1, .ref (64 + k)), (2, .int (tDown (st1 T 25 k 0) n l))] [] sgX5_deliver_37_fc3b2d rfl ?_
        refine am_drop [1, 2, 3, 0] [(0, .ref 0), (1, .ref (64 + k)), (2, .int (tDown (st1 T 25 k 0) n l)), (3, .int ((nI i) + 1))] rfl ?_
        refine am_eqL [(0, .ref 0), (1, .ref (64 + k)), (2, .int (tDown (st1 T 25 k 0) n l)), (3, .int (nI (i + 1)))] (by rw [nI_1]) ?_
        exact ih16 (i + 1) (tTo T1 n k i (tDown (st1 T 25 k 0) n l)) (by omega) (by show _ = tdl n k (tDown (st1 T 25 k 0) n l) i (itN (tdl n k (tDown (st1 T 25 k 0) n l)) (st1 T 25 k 0) i); rw [← hT1]; simp only [tdl, Bool.false_eq_true, not_false_eq_true, not_true_eq_false, and_self, and_true, true_and, and_false, false_and, true_or, or_true, or_false, false_or, or_self, c3, ↓reduceIte])
  exact lp16 16 0 (st1 T 25 k 0) (by omega) rfl
set_option maxRecDepth 100000 in
set_option maxHeartbeats 4000000 in
theorem c_settle {G : am_S} {T S : am_T} {o : Nat → Int64} {v : Nat} (hv : T 2 0 = nI v) (hv80 : v ≤ 80) : am_D G yX5_settleEditions (.code yX5_settleEditions cX5_settleEditions 2 none :: am_G) { frames := 2, cells := 0, slots := 0, locals := 42 } (hp T S o) [.ref 0] (hp (tSettle T v) S o) none := by
  refine am_of (by decide +kernel) (Nat.le_of_ble_eq_true rfl) ?_
  intro C hse hret hname hF hO
  subst hse
  refine am_go hF sgX5_settleEditions_0_67c14 2 [(1, .int 0), (0, .ref 0)] [] sgX5_settleEditions_0_67c14d rfl ?_
  refine am_drop [1, 0] [(0, .ref 0), (1, .int 0)] rfl ?_
  have lp2 : ∀ (zz i : Nat) (T1 : am_T), i + zz = v → T1 = itN tss T i → am_W C (hp T1 S o) 0 0 2 [(0, .ref 0), (1, .int (nI i))] [] := by
    intro zz
    induction zz with
    | zero =>
      intro i T1 hi hT1
      have e9i : i = v := by omega
      have hv1 : T1 2 0 = nI v := by rw [hT1]; exact (congrFun (itN_f (F := tss) 2 (fun k S => tSet_f (by decide) (by decide)) _ i) 0).trans hv
      refine am_go hF sgX5_settleEditions_2_45dfc 4 [(0, .ref 0), (1, .int (nI i))] [.ref 0, .int (nI i)] sgX5_settleEditions_2_45dfcd rfl ?_
      refine am_getf hF (hp_main T1 S o) (T := TX5) (N := 9) rfl (inG 5 inG5) 7 (by decide) (List.mem_cons_of_mem _ lf_RX5_44) rfl (.int (T1 2 0)) rfl dX5_settleEditions_4 ?_
      refine am_top (nI v) hv1 ?_
      refine am_icmpge hF 25 dX5_settleEditions_7 (by decide) (fun _ => ?_) (fun h9 => False.elim (absurd (nc_ge (show v ≤ i by omega) (by omega) (by omega) rfl rfl) h9))
      exact am_vret hF hO hret dX5_settleEditions_25 ⟨by unfold tSettle; rw [hT1, e9i], rfl⟩
    | succ zz ih2 =>
      intro i T1 hi hT1
      have l9i : i < v := by omega
      have hv1 : T1 2 0 = nI v := by rw [hT1]; exact (congrFun (itN_f (F := tss) 2 (fun k S => tSet_f (by decide) (by decide)) _ i) 0).trans hv
      refine am_go hF sgX5_settleEditions_2_45dfc 4 [(0, .ref 0), (1, .int (nI i))] [.ref 0, .int (nI i)] sgX5_settleEditions_2_45dfcd rfl ?_
      refine am_getf hF (hp_main T1 S o) (T := TX5) (N := 9) rfl (inG 5 inG5) 7 (by decide) (List.mem_cons_of_mem _ lf_RX5_44) rfl (.int (T1 2 0)) rfl dX5_settleEditions_4 ?_
      refine am_top (nI v) hv1 ?_
      refine am_icmpge hF 25 dX5_settleEditions_7 (by decide) (fun h9 => False.elim (nc_lt_f (show i < v by omega) (by omega) (by omega) rfl rfl h9)) (fun _ => ?_)
      refine am_go hF sgX5_settleEditions_10_34db8 11 [(0, .ref 0), (1, .int (nI i))] [.ref 0] sgX5_settleEditions_10_34db8d rfl ?_
      refine am_getf hF (hp_main T1 S o) (T := TX5) (N := 9) rfl (inG 5 inG5) 6 (by decide) (List.mem_cons_of_mem _ lf_RX5_40) rfl (.ref 5) rfl dX5_settleEditions_11 ?_
      refine am_go hF sgX5_settleEditions_14_840bf 15 [(0, .ref 0), (1, .int (nI i))] [.int (nI i), .ref 5] sgX5_settleEditions_14_840bfd rfl ?_
      refine cv_days hF hv1 hv80 i rfl (show i < v by omega) dX5_settleEditions_15 ?_
      refine am_dV hF hO [] [] (c_settle1 (T := T1) hv1 hv80 (show i < v by omega)) myX4_settleEditions vyX4_settleEditions lm_RX5_366 (hp_day _ _ _ hv1 hv80 (show i < v by omega)) rfl rfl 0 0 ⟨Nat.le_of_ble_eq_true rfl, Nat.le_of_ble_eq_true rfl⟩ ⟨Nat.le_of_ble_eq_true rfl, Nat.le_of_ble_eq_true rfl, Nat.le_of_ble_eq_true rfl, Nat.le_of_ble_eq_true rfl⟩ rfl (am_lv_ref (hp_main _ _ _) (am_lv_int am_lv_nil)) (Nat.le_of_ble_eq_true rfl) dX5_settleEditions_16 [] rfl ?_
      refine am_go hF sgX5_settleEditions_19_a9d92 2 [(1, .int ((nI i) + 1)), (0, .ref 0)] [] sgX5_settleEditions_19_a9d92d rfl ?_
      refine am_drop [1, 0] [(0, .ref 0), (1, .int ((nI i) + 1))] rfl ?_
      refine am_eqL [(0, .ref 0), (1, .int (nI (i + 1)))] (by rw [nI_1]) ?_
      exact ih2 (i + 1) (tSet T1 i) (by omega) (by show _ = tss i (itN tss T i); rw [← hT1]; rfl)
  exact lp2 v 0 T (by omega) rfl
set_option maxRecDepth 100000 in
set_option maxHeartbeats 4000000 in
theorem c_clearSender {G : am_S} {T S : am_T} {o : Nat → Int64} {n m v : Nat} (hs : tSafe T n m v) {c : Nat} (hc9 : c < m) : am_D G yX5_clearSender (.code yX5_clearSender cX5_clearSender 4 none :: am_G) { frames := 5, cells := 0, slots := 0, locals := 113 } (hp T S o) [.ref 0, .ref (64 + c)] (hp (tClear T n m v c) S o) none := by
  refine am_of (by decide +kernel) (Nat.le_of_ble_eq_true rfl) ?_
  intro C hse hret hname hF hO
  subst hse
  have hs9 := hs
  obtain ⟨hn, hn10, hm, hm80, hv, hv80, hbx, hmm⟩ := hs
  obtain ⟨hd9, ⟨s, hs16, hs19⟩, -⟩ := hmm c hc9
  refine am_go hF sgX5_clearSender_0_34db8 1 [(0, .ref 0), (1, .ref (64 + c))] [.ref 0] sgX5_clearSender_0_34db8d rfl ?_
  refine am_getf hF (hp_main T S o) (T := TX5) (N := 9) rfl (inG 5 inG5) 0 (by decide) (List.mem_cons_of_mem _ lf_RX5_11) rfl (.ref 1) rfl dX5_clearSender_1 ?_
  refine am_go hF sgX5_clearSender_4_a7701 5 [(0, .ref 0), (1, .ref (64 + c))] [.ref (64 + c), .ref 1] sgX5_clearSender_4_a7701d rfl ?_
  refine am_getf hF (hp_mail T S o hm hm80 (show c < m by omega)) (T := TX1) (N := 11) rfl (inG 1 inG1) 1 (by decide) (List.mem_cons_of_mem _ lf_RX5_309) rfl (.int (T 19 c)) rfl dX5_clearSender_5 ?_
  refine am_top (nI s) hs19 ?_
  refine cv_persons hF s rfl (show s < 16 by omega) dX5_clearSender_8 ?_
  refine am_go hF sgX5_clearSender_9_af0f1 11 [(0, .ref 0), (1, .ref (64 + c))] [.int (-10), .ref (16 + s)] sgX5_clearSender_9_af0f1d rfl ?_
  refine am_putf hF (hp_person T S o (show s < 16 by omega)) (T := TX3) (N := 5) rfl (inG 3 inG3) tyX3 tyX3_ok nmX3 0 (by decide) (List.mem_cons_of_mem _ lf_RX5_240) rfl (Or.inl rfl) rfl rfl (Nat.le_of_ble_eq_true rfl) dX5_clearSender_11 ?_
  refine am_eqX (hp (st1 T 5 s (-10)) S o) (hp_s5 (T := T) (show s < 16 by omega) (-10)) ?_
  refine am_go hF sgX5_clearSender_14_01fef 16 [(2, .int 0), (0, .ref 0), (1, .ref (64 + c))] [] sgX5_clearSender_14_01fefd rfl ?_
  refine am_drop [1, 2, 0] [(0, .ref 0), (1, .ref (64 + c)), (2, .int 0)] rfl ?_
  have lp16 : ∀ (zz i : Nat) (T1 : am_T), i + zz = m → T1 = itN (tClr n c) (st1 T 5 s (-10)) i → am_W C (hp T1 S o) 0 0 16 [(0, .ref 0), (1, .ref (64 + c)), (2, .int (nI i))] [] := by
    intro zz
    induction zz with
    | zero =>
      intro i T1 hi hT1
      have e9i : i = m := by omega
      have hs1 : tSafe T1 n m v := by rw [hT1]; exact tClr_it (tSafe_st hs9 (by decide)) i
      have hm1 : T1 1 0 = nI m := hs1.2.2.1
      have hv1 : T1 2 0 = nI v := hs1.2.2.2.2.1
      refine am_go hF sgX5_clearSender_16_14491 18 [(0, .ref 0), (1, .ref (64 + c)), (2, .int (nI i))] [.ref 0, .int (nI i)] sgX5_clearSender_16_14491d rfl ?_
      refine am_getf hF (hp_main T1 S o) (T := TX5) (N := 9) rfl (inG 5 inG5) 5 (by decide) (List.mem_cons_of_mem _ lf_RX5_35) rfl (.int (T1 1 0)) rfl dX5_clearSender_18 ?_
      refine am_top (nI m) hm1 ?_
      refine am_icmpge hF 69 dX5_clearSender_21 (by decide) (fun _ => ?_) (fun h9 => False.elim (absurd (nc_ge (show m ≤ i by omega) (by omega) (by omega) rfl rfl) h9))
      refine am_go hF sgX5_clearSender_69_34db8 70 [(0, .ref 0), (1, .ref (64 + c)), (2, .int (nI i))] [.ref 0] sgX5_clearSender_69_34db8d rfl ?_
      refine am_dV hF hO [] [] (c_settle (T := T1) hv1 hv80) myX5_settleEditions vyX5_settleEditions lm_RX5_177 (hp_main _ _ _) rfl rfl 0 0 ⟨Nat.le_of_ble_eq_true rfl, Nat.le_of_ble_eq_true rfl⟩ ⟨Nat.le_of_ble_eq_true rfl, Nat.le_of_ble_eq_true rfl, Nat.le_of_ble_eq_true rfl, Nat.le_of_ble_eq_true rfl⟩ rfl (am_lv_ref (hp_main _ _ _) (am_lv_ref (hp_mail _ _ _ hm1 hm80 (show c < m by omega)) (am_lv_int am_lv_nil))) (Nat.le_of_ble_eq_true rfl) dX5_clearSender_70 [] rfl ?_
      exact am_vret hF hO hret dX5_clearSender_73 ⟨by unfold tClear; rw [hs19, nI_clamp (show s < 2 ^ 31 by omega), hT1, e9i], rfl⟩
    | succ zz ih16 =>
      intro i T1 hi hT1
      have l9i : i < m := by omega
      have hs1 : tSafe T1 n m v := by rw [hT1]; exact tClr_it (tSafe_st hs9 (by decide)) i
      have hm1 : T1 1 0 = nI m := hs1.2.2.1
      have hv1 : T1 2 0 = nI v := hs1.2.2.2.2.1
      refine am_go hF sgX5_clearSender_16_14491 18 [(0, .ref 0), (1, .ref (64 + c)), (2, .int (nI i))] [.ref 0, .int (nI i)] sgX5_clearSender_16_14491d rfl ?_
      refine am_getf hF (hp_main T1 S o) (T := TX5) (N := 9) rfl (inG 5 inG5) 5 (by decide) (List.mem_cons_of_mem _ lf_RX5_35) rfl (.int (T1 1 0)) rfl dX5_clearSender_18 ?_
      refine am_top (nI m) hm1 ?_
      refine am_icmpge hF 69 dX5_clearSender_21 (by decide) (fun h9 => False.elim (nc_lt_f (show i < m by omega) (by omega) (by omega) rfl rfl h9)) (fun _ => ?_)
      refine am_go hF sgX5_clearSender_24_34db8 25 [(0, .ref 0), (1, .ref (64 + c)), (2, .int (nI i))] [.ref 0] sgX5_clearSender_24_34db8d rfl ?_
      refine am_getf hF (hp_main T1 S o) (T := TX5) (N := 9) rfl (inG 5 inG5) 4 (by decide) (List.mem_cons_of_mem _ lf_RX5_31) rfl (.ref 4) rfl dX5_clearSender_25 ?_
      refine am_go hF sgX5_clearSender_28_f8a59 29 [(0, .ref 0), (1, .ref (64 + c)), (2, .int (nI i))] [.int (nI i), .ref 4] sgX5_clearSender_28_f8a59d rfl ?_
      refine cv_post hF hm1 hm80 i rfl (show i < m by omega) dX5_clearSender_29 ?_
      refine am_go hF sgX5_clearSender_30_52103 33 [(3, .ref (64 + i)), (0, .ref 0), (1, .ref (64 + c)), (2, .int (nI i))] [.ref (64 + c), .ref (64 + i)] sgX5_clearSender_30_52103d rfl ?_
      refine am_acmpeq hF (by rw [(hp_mail T1 S o hm1 hm80 (show i < m by omega))]; exact fun h => by cases h) (by rw [(hp_mail T1 S o hm1 hm80 (show c < m by omega))]; exact fun h => by cases h) 54 dX5_clearSender_33 (by decide) (fun c3 => ?_) (fun c3 => ?_)
      · skip
        refine am_go hF sgX5_clearSender_54_67016 55 [(3, .ref (64 + i)), (0, .ref 0), (1, .ref (64 + c)), (2, .int (nI i))] [.ref (64 + i)] sgX5_clearSender_54_67016d rfl ?_
        refine am_dV hF hO [] [] (c_closeAppeal (T := T1) hm1 hm80 (show i < m by omega)) myX1_closeAppeal vyX1_closeAppeal lm_RX5_357 (hp_mail _ _ _ hm1 hm80 (show i < m by omega)) rfl rfl 0 0 ⟨Nat.le_of_ble_eq_true rfl, Nat.le_of_ble_eq_true rfl⟩ ⟨Nat.le_of_ble_eq_true rfl, Nat.le_of_ble_eq_true rfl, Nat.le_of_ble_eq_true rfl, Nat.le_of_ble_eq_true rfl⟩ rfl (am_lv_ref (hp_mail _ _ _ hm1 hm80 (show i < m by omega)) (am_lv_ref (hp_main _ _ _) (am_lv_ref (hp_mail _ _ _ hm1 hm80 (show c < m by omega)) (am_lv_int am_lv_nil)))) (Nat.le_of_ble_eq_true rfl) dX5_clearSender_55 [] rfl ?_
        refine am_go hF sgX5_clearSender_58_1638c 60 [(3, .ref (64 + i)), (0, .ref 0), (1, .ref (64 + c)), (2, .int (nI i))] [.ref (64 + i), .ref 0] sgX5_clearSender_58_1638cd rfl ?_
        refine am_dV hF hO [.ref (64 + i)] [] (c_deliver (T := (tClose T1 i)) (tSafe_st (f := 32) hs1 (by decide)) (show i < m by omega)) myX5_deliver vyX5_deliver lm_RX5_170 (hp_main _ _ _) rfl rfl 0 0 ⟨Nat.le_of_ble_eq_true rfl, Nat.le_of_ble_eq_true rfl⟩ ⟨Nat.le_of_ble_eq_true rfl, Nat.le_of_ble_eq_true rfl, Nat.le_of_ble_eq_true rfl, Nat.le_of_ble_eq_true rfl⟩ rfl (am_lv_ref (hp_mail _ _ _ hm1 hm80 (show i < m by omega)) (am_lv_ref (hp_main _ _ _) (am_lv_ref (hp_mail _ _ _ hm1 hm80 (show c < m by omega)) (am_lv_int am_lv_nil)))) (Nat.le_of_ble_eq_true rfl) dX5_clearSender_60 [] rfl ?_
        refine am_go hF sgX5_clearSender_63_f51c7 16 [(2, .int ((nI i) + 1)), (3, .ref (64 + i)), (0, .ref 0), (1, .ref (64 + c))] [] sgX5_clearSender_63_f51c7d rfl ?_
        refine am_drop [2, 3, 0] [(0, .ref 0), (1, .ref (64 + c)), (2, .int ((nI i) + 1))] rfl ?_
        refine am_eqL [(0, .ref 0), (1, .ref (64 + c)), (2, .int (nI (i + 1)))] (by rw [nI_1]) ?_
        exact ih16 (i + 1) (tDel (tClose T1 i) n i) (by omega) (by show _ = tClr n c i (itN (tClr n c) (st1 T 5 s (-10)) i); rw [← hT1]; unfold tClr; rw [if_pos (Or.inl (by omega))])
      · skip
        refine am_go hF sgX5_clearSender_36_67016 37 [(3, .ref (64 + i)), (0, .ref 0), (1, .ref (64 + c)), (2, .int (nI i))] [.ref (64 + i)] sgX5_clearSender_36_67016d rfl ?_
        refine am_getf hF (hp_mail T1 S o hm1 hm80 (show i < m by omega)) (T := TX1) (N := 11) rfl (inG 1 inG1) 1 (by decide) (List.mem_cons_of_mem _ lf_RX5_309) rfl (.int (T1 19 i)) rfl dX5_clearSender_37 ?_
        refine am_go hF sgX5_clearSender_40_a7701 41 [(3, .ref (64 + i)), (0, .ref 0), (1, .ref (64 + c)), (2, .int (nI i))] [.ref (64 + c), .int (T1 19 i)] sgX5_clearSender_40_a7701d rfl ?_
        refine am_getf hF (hp_mail T1 S o hm1 hm80 (show c < m by omega)) (T := TX1) (N := 11) rfl (inG 1 inG1) 1 (by decide) (List.mem_cons_of_mem _ lf_RX5_309) rfl (.int (T1 19 c)) rfl dX5_clearSender_41 ?_
        refine am_icmpne hF 63 dX5_clearSender_44 (by decide) (fun c4 => ?_) (fun c4 => ?_)
        · skip
          refine am_go hF sgX5_clearSender_63_f51c7 16 [(2, .int ((nI i) + 1)), (3, .ref (64 + i)), (0, .ref 0), (1, .ref (64 + c))] [] sgX5_clearSender_63_f51c7d rfl ?_
          refine am_drop [2, 3, 0] [(0, .ref 0), (1, .ref (64 + c)), (2, .int ((nI i) + 1))] rfl ?_
          refine am_eqL [(0, .ref 0), (1, .ref (64 + c)), (2, .int (nI (i + 1)))] (by rw [nI_1]) ?_
          exact ih16 (i + 1) T1 (by omega) (by show _ = tClr n c i (itN (tClr n c) (st1 T 5 s (-10)) i); rw [← hT1]; unfold tClr; rw [if_neg (fun h => h.elim (fun h => by omega) (fun h => by first | exact c4 h.1 | exact c4 ⟨h.2.1, h.2.2⟩))])
        · skip
          refine am_go hF sgX5_clearSender_47_67016 48 [(3, .ref (64 + i)), (0, .ref 0), (1, .ref (64 + c)), (2, .int (nI i))] [.ref (64 + i)] sgX5_clearSender_47_67016d rfl ?_
          refine am_dV hF hO [] [] (c_isHeldForScore (T := T1) hm1 hm80 (show i < m by omega)) myX1_isHeldForScore vyX1_isHeldForScore lm_RX5_354 (hp_mail _ _ _ hm1 hm80 (show i < m by omega)) rfl rfl 0 0 ⟨Nat.le_of_ble_eq_true rfl, Nat.le_of_ble_eq_true rfl⟩ ⟨Nat.le_of_ble_eq_true rfl, Nat.le_of_ble_eq_true rfl, Nat.le_of_ble_eq_true rfl, Nat.le_of_ble_eq_true rfl⟩ rfl (am_lv_ref (hp_mail _ _ _ hm1 hm80 (show i < m by omega)) (am_lv_ref (hp_main _ _ _) (am_lv_ref (hp_mail _ _ _ hm1 hm80 (show c < m by omega)) (am_lv_int am_lv_nil)))) (Nat.le_of_ble_eq_true rfl) dX5_clearSender_48 [.int (zb (decide (T1 25 i = 1 ∧ T1 23 i = 2)))] rfl ?_
          refine am_ifeq hF 63 dX5_clearSender_51 (by decide) (fun c5 => ?_) (fun c5 => ?_)
          · skip
            replace c5 := of_decide_eq_false (zb_0.mp c5)
            refine am_go hF sgX5_clearSender_63_f51c7 16 [(2, .int ((nI i) + 1)), (3, .ref (64 + i)), (0, .ref 0), (1, .ref (64 + c))] [] sgX5_clearSender_63_f51c7d rfl ?_
            refine am_drop [2, 3, 0] [(0, .ref 0), (1, .ref (64 + c)), (2, .int ((nI i) + 1))] rfl ?_
            refine am_eqL [(0, .ref 0), (1, .ref (64 + c)), (2, .int (nI (i + 1)))] (by rw [nI_1]) ?_
            exact ih16 (i + 1) T1 (by omega) (by show _ = tClr n c i (itN (tClr n c) (st1 T 5 s (-10)) i); rw [← hT1]; unfold tClr; rw [if_neg (fun h => h.elim (fun h => by omega) (fun h => by first | exact c5 h.1 | exact c5 ⟨h.2.1, h.2.2⟩))])
          · skip
            replace c5 := of_decide_eq_true (zb_p.mp c5)
            refine am_go hF sgX5_clearSender_54_67016 55 [(3, .ref (64 + i)), (0, .ref 0), (1, .ref (64 + c)), (2, .int (nI i))] [.ref (64 + i)] sgX5_clearSender_54_67016d rfl ?_
            refine am_dV hF hO [] [] (c_closeAppeal (T := T1) hm1 hm80 (show i < m by omega)) myX1_closeAppeal vyX1_closeAppeal lm_RX5_357 (hp_mail _ _ _ hm1 hm80 (show i < m by omega)) rfl rfl 0 0 ⟨Nat.le_of_ble_eq_true rfl, Nat.le_of_ble_eq_true rfl⟩ ⟨Nat.le_of_ble_eq_true rfl, Nat.le_of_ble_eq_true rfl, Nat.le_of_ble_eq_true rfl, Nat.le_of_ble_eq_true rfl⟩ rfl (am_lv_ref (hp_mail _ _ _ hm1 hm80 (show i < m by omega)) (am_lv_ref (hp_main _ _ _) (am_lv_ref (hp_mail _ _ _ hm1 hm80 (show c < m by omega)) (am_lv_int am_lv_nil)))) (Nat.le_of_ble_eq_true rfl) dX5_clearSender_55 [] rfl ?_
            refine am_go hF sgX5_clearSender_58_1638c 60 [(3, .ref (64 + i)), (0, .ref 0), (1, .ref (64 + c)), (2, .int (nI i))] [.ref (64 + i), .ref 0] sgX5_clearSender_58_1638cd rfl ?_
            refine am_dV hF hO [.ref (64 + i)] [] (c_deliver (T := (tClose T1 i)) (tSafe_st (f := 32) hs1 (by decide)) (show i < m by omega)) myX5_deliver vyX5_deliver lm_RX5_170 (hp_main _ _ _) rfl rfl 0 0 ⟨Nat.le_of_ble_eq_true rfl, Nat.le_of_ble_eq_true rfl⟩ ⟨Nat.le_of_ble_eq_true rfl, Nat.le_of_ble_eq_true rfl, Nat.le_of_ble_eq_true rfl, Nat.le_of_ble_eq_true rfl⟩ rfl (am_lv_ref (hp_mail _ _ _ hm1 hm80 (show i < m by omega)) (am_lv_ref (hp_main _ _ _) (am_lv_ref (hp_mail _ _ _ hm1 hm80 (show c < m by omega)) (am_lv_int am_lv_nil)))) (Nat.le_of_ble_eq_true rfl) dX5_clearSender_60 [] rfl ?_
            refine am_go hF sgX5_clearSender_63_f51c7 16 [(2, .int ((nI i) + 1)), (3, .ref (64 + i)), (0, .ref 0), (1, .ref (64 + c))] [] sgX5_clearSender_63_f51c7d rfl ?_
            refine am_drop [2, 3, 0] [(0, .ref 0), (1, .ref (64 + c)), (2, .int ((nI i) + 1))] rfl ?_
            refine am_eqL [(0, .ref 0), (1, .ref (64 + c)), (2, .int (nI (i + 1)))] (by rw [nI_1]) ?_
            exact ih16 (i + 1) (tDel (tClose T1 i) n i) (by omega) (by show _ = tClr n c i (itN (tClr n c) (st1 T 5 s (-10)) i); rw [← hT1]; unfold tClr; rw [if_pos (Or.inr ⟨c4, c5.1, c5.2⟩)])
  exact lp16 m 0 (st1 T 5 s (-10)) (by omega) rfl
set_option maxRecDepth 100000 in
set_option maxHeartbeats 4000000 in
theorem c_condemn {G : am_S} {T S : am_T} {o : Nat → Int64} {n m v : Nat} (hs : tSafe T n m v) {c : Nat} (hc9 : c < m) : am_D G yX5_condemnByCourt (.code yX5_condemnByCourt cX5_condemnByCourt 3 none :: am_G) { frames := 1, cells := 0, slots := 0, locals := 21 } (hp T S o) [.ref 0, .ref (64 + c)] (hp (tCond T c) S o) none := by
  refine am_of (by decide +kernel) (Nat.le_of_ble_eq_true rfl) ?_
  intro C hse hret hname hF hO
  subst hse
  obtain ⟨hn, hn10, hm, hm80, hv, hv80, hbx, hmm⟩ := hs
  obtain ⟨hd9, ⟨s, hs16, hs19⟩, -⟩ := hmm c hc9
  refine am_go hF sgX5_condemnByCourt_0_e35ea 2 [(0, .ref 0), (1, .ref (64 + c))] [.int 3, .ref (64 + c)] sgX5_condemnByCourt_0_e35ead rfl ?_
  refine am_putf hF (hp_mail T S o hm hm80 (show c < m by omega)) (T := TX1) (N := 11) rfl (inG 1 inG1) tyX1 tyX1_ok nmX1 7 (by decide) (List.mem_cons_of_mem _ lf_RX5_183) rfl (Or.inl rfl) rfl rfl (Nat.le_of_ble_eq_true rfl) dX5_condemnByCourt_2 ?_
  refine am_eqX (hp (st1 T 25 c 3) S o) (hp_s25 (T := T) hm hm80 (show c < m by omega) 3) ?_
  refine am_go hF sgX5_condemnByCourt_5_a7701 6 [(0, .ref 0), (1, .ref (64 + c))] [.ref (64 + c)] sgX5_condemnByCourt_5_a7701d rfl ?_
  refine am_dV hF hO [] [] (c_closeAppeal (T := (st1 T 25 c 3)) hm hm80 (show c < m by omega)) myX1_closeAppeal vyX1_closeAppeal lm_RX5_357 (hp_mail _ _ _ hm hm80 (show c < m by omega)) rfl rfl 0 0 ⟨Nat.le_of_ble_eq_true rfl, Nat.le_of_ble_eq_true rfl⟩ ⟨Nat.le_of_ble_eq_true rfl, Nat.le_of_ble_eq_true rfl, Nat.le_of_ble_eq_true rfl, Nat.le_of_ble_eq_true rfl⟩ rfl (am_lv_ref (hp_main _ _ _) (am_lv_ref (hp_mail _ _ _ hm hm80 (show c < m by omega)) am_lv_nil)) (Nat.le_of_ble_eq_true rfl) dX5_condemnByCourt_6 [] rfl ?_
  refine am_go hF sgX5_condemnByCourt_9_34db8 10 [(0, .ref 0), (1, .ref (64 + c))] [.ref 0] sgX5_condemnByCourt_9_34db8d rfl ?_
  refine am_getf hF (hp_main (tClose (st1 T 25 c 3) c) S o) (T := TX5) (N := 9) rfl (inG 5 inG5) 0 (by decide) (List.mem_cons_of_mem _ lf_RX5_11) rfl (.ref 1) rfl dX5_condemnByCourt_10 ?_
  refine am_go hF sgX5_condemnByCourt_13_a7701 14 [(0, .ref 0), (1, .ref (64 + c))] [.ref (64 + c), .ref 1] sgX5_condemnByCourt_13_a7701d rfl ?_
  refine am_getf hF (hp_mail (tClose (st1 T 25 c 3) c) S o hm hm80 (show c < m by omega)) (T := TX1) (N := 11) rfl (inG 1 inG1) 1 (by decide) (List.mem_cons_of_mem _ lf_RX5_309) rfl (.int ((tClose (st1 T 25 c 3) c) 19 c)) rfl dX5_condemnByCourt_14 ?_
  refine am_top (nI s) hs19 ?_
  refine cv_persons hF s rfl (show s < 16 by omega) dX5_condemnByCourt_17 ?_
  refine am_go hF sgX5_condemnByCourt_18_f99e7 21 [(2, .ref (16 + s)), (0, .ref 0), (1, .ref (64 + c))] [.ref (16 + s), .ref (16 + s)] sgX5_condemnByCourt_18_f99e7d rfl ?_
  refine am_getf hF (hp_person (tClose (st1 T 25 c 3) c) S o (show s < 16 by omega)) (T := TX3) (N := 5) rfl (inG 3 inG3) 0 (by decide) (List.mem_cons_of_mem _ lf_RX5_240) rfl (.int ((tClose (st1 T 25 c 3) c) 5 s)) rfl dX5_condemnByCourt_21 ?_
  refine am_go hF sgX5_condemnByCourt_24_c266f 28 [(2, .ref (16 + s)), (0, .ref 0), (1, .ref (64 + c))] [.int 100, .int (((tClose (st1 T 25 c 3) c) 5 s) + 5), .ref (16 + s)] sgX5_condemnByCourt_24_c266fd rfl ?_
  refine am_mmin hF hO (List.mem_cons_of_mem _ lmin) (List.mem_cons_of_mem _ smin) (List.mem_cons_of_mem _ zmin) (List.mem_cons_of_mem _ omin) ⟨Nat.le_of_ble_eq_true rfl, Nat.le_of_ble_eq_true rfl, Nat.le_of_ble_eq_true rfl, Nat.le_of_ble_eq_true rfl⟩ dX5_condemnByCourt_28 ?_
  refine am_putf hF (hp_person (tClose (st1 T 25 c 3) c) S o (show s < 16 by omega)) (T := TX3) (N := 5) rfl (inG 3 inG3) tyX3 tyX3_ok nmX3 0 (by decide) (List.mem_cons_of_mem _ lf_RX5_240) rfl (Or.inl rfl) rfl rfl (Nat.le_of_ble_eq_true rfl) dX5_condemnByCourt_31 ?_
  refine am_eqX (hp (st1 (tClose (st1 T 25 c 3) c) 5 s (if 100 < (((tClose (st1 T 25 c 3) c) 5 s) + 5) then 100 else (((tClose (st1 T 25 c 3) c) 5 s) + 5))) S o) (hp_s5 (T := (tClose (st1 T 25 c 3) c)) (show s < 16 by omega) (if 100 < (((tClose (st1 T 25 c 3) c) 5 s) + 5) then 100 else (((tClose (st1 T 25 c 3) c) 5 s) + 5))) ?_
  exact am_vret hF hO hret dX5_condemnByCourt_34 ⟨by unfold tCond; rw [hs19, nI_clamp (show s < 2 ^ 31 by omega)]; rfl, rfl⟩
set_option maxRecDepth 100000 in
set_option maxHeartbeats 4000000 in
theorem c_lapseHolds {G : am_S} {T S : am_T} {o : Nat → Int64} {m : Nat} (hm : T 1 0 = nI m) (hm80 : m ≤ 80) : am_D G yX5_lapseHolds (.code yX5_lapseHolds cX5_lapseHolds 4 (some .int) :: am_G) { frames := 1, cells := 0, slots := 0, locals := 20 } (hp T S o) [.ref 0] (hp (tLapse T m).1 S o) (some (.int (tLapse T m).2)) := by
  refine am_of (by decide +kernel) (Nat.le_of_ble_eq_true rfl) ?_
  intro C hse hret hname hF hO
  subst hse
  refine am_go hF sgX5_lapseHolds_0_1ac35 4 [(2, .int 0), (1, .int 0), (0, .ref 0)] [] sgX5_lapseHolds_0_1ac35d rfl ?_
  refine am_drop [2, 1, 0] [(0, .ref 0), (1, .int 0), (2, .int 0)] rfl ?_
  have lp4 : ∀ (zz i : Nat) (a : Int32) (T1 : am_T), i + zz = m → a = (itN tlh (T, 0) i).2 → T1 = (itN tlh (T, 0) i).1 → am_W C (hp T1 S o) 0 0 4 [(0, .ref 0), (1, .int a), (2, .int (nI i))] [] := by
    intro zz
    induction zz with
    | zero =>
      intro i a T1 hi ha hT1
      have e9i : i = m := by omega
      have hm1 : T1 1 0 = nI m := by rw [hT1, tlh_if (by decide)]; exact hm
      refine am_go hF sgX5_lapseHolds_4_14491 6 [(0, .ref 0), (1, .int a), (2, .int (nI i))] [.ref 0, .int (nI i)] sgX5_lapseHolds_4_14491d rfl ?_
      refine am_getf hF (hp_main T1 S o) (T := TX5) (N := 9) rfl (inG 5 inG5) 5 (by decide) (List.mem_cons_of_mem _ lf_RX5_35) rfl (.int (T1 1 0)) rfl dX5_lapseHolds_6 ?_
      refine am_top (nI m) hm1 ?_
      refine am_icmpge hF 51 dX5_lapseHolds_9 (by decide) (fun _ => ?_) (fun h9 => False.elim (absurd (nc_ge (show m ≤ i by omega) (by omega) (by omega) rfl rfl) h9))
      refine am_go hF sgX5_lapseHolds_51_840bf 52 [(0, .ref 0), (1, .int a), (2, .int (nI i))] [.int a] sgX5_lapseHolds_51_840bfd rfl ?_
      exact am_iret hF hO hret rfl dX5_lapseHolds_52 ⟨by unfold tLapse; rw [hT1, e9i], by unfold tLapse; rw [ha, e9i]⟩
    | succ zz ih4 =>
      intro i a T1 hi ha hT1
      have l9i : i < m := by omega
      have hm1 : T1 1 0 = nI m := by rw [hT1, tlh_if (by decide)]; exact hm
      refine am_go hF sgX5_lapseHolds_4_14491 6 [(0, .ref 0), (1, .int a), (2, .int (nI i))] [.ref 0, .int (nI i)] sgX5_lapseHolds_4_14491d rfl ?_
      refine am_getf hF (hp_main T1 S o) (T := TX5) (N := 9) rfl (inG 5 inG5) 5 (by decide) (List.mem_cons_of_mem _ lf_RX5_35) rfl (.int (T1 1 0)) rfl dX5_lapseHolds_6 ?_
      refine am_top (nI m) hm1 ?_
      refine am_icmpge hF 51 dX5_lapseHolds_9 (by decide) (fun h9 => False.elim (nc_lt_f (show i < m by omega) (by omega) (by omega) rfl rfl h9)) (fun _ => ?_)
      refine am_go hF sgX5_lapseHolds_12_34db8 13 [(0, .ref 0), (1, .int a), (2, .int (nI i))] [.ref 0] sgX5_lapseHolds_12_34db8d rfl ?_
      refine am_getf hF (hp_main T1 S o) (T := TX5) (N := 9) rfl (inG 5 inG5) 4 (by decide) (List.mem_cons_of_mem _ lf_RX5_31) rfl (.ref 4) rfl dX5_lapseHolds_13 ?_
      refine am_go hF sgX5_lapseHolds_16_f8a59 17 [(0, .ref 0), (1, .int a), (2, .int (nI i))] [.int (nI i), .ref 4] sgX5_lapseHolds_16_f8a59d rfl ?_
      refine cv_post hF hm1 hm80 i rfl (show i < m by omega) dX5_lapseHolds_17 ?_
      refine am_go hF sgX5_lapseHolds_18_c6008 20 [(3, .ref (64 + i)), (0, .ref 0), (1, .int a), (2, .int (nI i))] [.ref (64 + i)] sgX5_lapseHolds_18_c6008d rfl ?_
      refine am_dV hF hO [] [] (c_canLapse (T := T1) hm1 hm80 (show i < m by omega)) myX1_canLapse vyX1_canLapse lm_RX5_233 (hp_mail _ _ _ hm1 hm80 (show i < m by omega)) rfl rfl 0 0 ⟨Nat.le_of_ble_eq_true rfl, Nat.le_of_ble_eq_true rfl⟩ ⟨Nat.le_of_ble_eq_true rfl, Nat.le_of_ble_eq_true rfl, Nat.le_of_ble_eq_true rfl, Nat.le_of_ble_eq_true rfl⟩ rfl (am_lv_ref (hp_mail _ _ _ hm1 hm80 (show i < m by omega)) (am_lv_ref (hp_main _ _ _) (am_lv_int (am_lv_int am_lv_nil)))) (Nat.le_of_ble_eq_true rfl) dX5_lapseHolds_20 [.int (zb (decide (T1 25 i = 1 ∧ ¬ T1 28 i = 1)))] rfl ?_
      refine am_ifeq hF 45 dX5_lapseHolds_23 (by decide) (fun c3 => ?_) (fun c3 => ?_)
      · skip
        replace c3 := of_decide_eq_false (zb_0.mp c3)
        refine am_go hF sgX5_lapseHolds_45_ece1c 4 [(2, .int ((nI i) + 1)), (3, .ref (64 + i)), (0, .ref 0), (1, .int a)] [] sgX5_lapseHolds_45_ece1cd rfl ?_
        have hz9 := tlh_0 (T := T) hT1 ha (fun h => c3 h.1)
        refine am_drop [2, 3, 0] [(0, .ref 0), (1, .int a), (2, .int ((nI i) + 1))] rfl ?_
        refine am_eqL [(0, .ref 0), (1, .int a), (2, .int (nI (i + 1)))] (by rw [nI_1]) ?_
        exact ih4 (i + 1) a T1 (by omega) hz9.2 hz9.1
      · skip
        replace c3 := of_decide_eq_true (zb_p.mp c3)
        refine am_go hF sgX5_lapseHolds_26_67016 27 [(3, .ref (64 + i)), (0, .ref 0), (1, .int a), (2, .int (nI i))] [.ref (64 + i)] sgX5_lapseHolds_26_67016d rfl ?_
        refine am_getf hF (hp_mail T1 S o hm1 hm80 (show i < m by omega)) (T := TX1) (N := 11) rfl (inG 1 inG1) 6 (by decide) (List.mem_cons_of_mem _ lf_RX5_237) rfl (.int (T1 24 i)) rfl dX5_lapseHolds_27 ?_
        refine am_go hF sgX5_lapseHolds_30_34db8 31 [(3, .ref (64 + i)), (0, .ref 0), (1, .int a), (2, .int (nI i))] [.ref 0, .int (T1 24 i)] sgX5_lapseHolds_30_34db8d rfl ?_
        refine am_getf hF (hp_main T1 S o) (T := TX5) (N := 9) rfl (inG 5 inG5) 8 (by decide) (List.mem_cons_of_mem _ lf_RX5_47) rfl (.int (T1 3 0)) rfl dX5_lapseHolds_31 ?_
        refine am_icmpgt hF 45 dX5_lapseHolds_34 (by decide) (fun c4 => ?_) (fun c4 => ?_)
        · skip
          refine am_go hF sgX5_lapseHolds_45_ece1c 4 [(2, .int ((nI i) + 1)), (3, .ref (64 + i)), (0, .ref 0), (1, .int a)] [] sgX5_lapseHolds_45_ece1cd rfl ?_
          have hz9 := tlh_0 (T := T) hT1 ha (fun h => Int32.not_le.mpr c4 h.2)
          refine am_drop [2, 3, 0] [(0, .ref 0), (1, .int a), (2, .int ((nI i) + 1))] rfl ?_
          refine am_eqL [(0, .ref 0), (1, .int a), (2, .int (nI (i + 1)))] (by rw [nI_1]) ?_
          exact ih4 (i + 1) a T1 (by omega) hz9.2 hz9.1
        · skip
          refine am_go hF sgX5_lapseHolds_37_881c1 39 [(3, .ref (64 + i)), (0, .ref 0), (1, .int a), (2, .int (nI i))] [.int 2, .ref (64 + i)] sgX5_lapseHolds_37_881c1d rfl ?_
          refine am_putf hF (hp_mail T1 S o hm1 hm80 (show i < m by omega)) (T := TX1) (N := 11) rfl (inG 1 inG1) tyX1 tyX1_ok nmX1 7 (by decide) (List.mem_cons_of_mem _ lf_RX5_183) rfl (Or.inl rfl) rfl rfl (Nat.le_of_ble_eq_true rfl) dX5_lapseHolds_39 ?_
          refine am_eqX (hp (st1 T1 25 i 2) S o) (hp_s25 (T := T1) hm1 hm80 (show i < m by omega) 2) ?_
          refine am_go hF sgX5_lapseHolds_42_13bfe 4 [(2, .int ((nI i) + 1)), (1, .int (a + 1)), (3, .ref (64 + i)), (0, .ref 0)] [] sgX5_lapseHolds_42_13bfed rfl ?_
          have hz9 := tlh_1 (T := T) hT1 ha ⟨c3, (Int32.not_lt.mp c4)⟩
          refine am_drop [3, 1, 0] [(0, .ref 0), (1, .int (a + 1)), (2, .int ((nI i) + 1))] rfl ?_
          refine am_eqL [(0, .ref 0), (1, .int (a + 1)), (2, .int (nI (i + 1)))] (by rw [nI_1]) ?_
          exact ih4 (i + 1) (a + 1) (st1 T1 25 i 2) (by omega) hz9.2 hz9.1
  exact lp4 m 0 0 T (by omega) rfl rfl
