/-! the class's loops that only read; Person.takeFirst; PostDay's loops -/
def td1 (T : am_T) (k : Nat) (s : Int32) : Int32 := if bt s k = true then s ||| T 13 k else s
def tDown (T : am_T) (n l : Nat) : Int32 := itN (fun _ s => itN (td1 T) s n) ((1 : Int32) <<< (nI l &&& 31)) n
def tu1 (T : am_T) (k : Nat) (s : Int32) : Int32 := if T 13 k &&& s = 0 then s else s ||| (1 : Int32) <<< (nI k &&& 31)
def tUp (T : am_T) (n l : Nat) : Int32 := itN (fun _ s => itN (tu1 T) s n) ((1 : Int32) <<< (nI l &&& 31)) n
def tm1 (T : am_T) (set : Int32) (k : Nat) (s : Int32) : Int32 := if bt set k = true then s ||| T 11 k else s
def tMem (T : am_T) (n : Nat) (set : Int32) : Int32 := itN (tm1 T set) 0 n
/-- the lowest that has it, or -1 -/
def tlo (P : Nat → Bool) (n : Nat) : Int32 := itD (fun k f => if P k = true then nI k else f) (-1) n
theorem tlo_gt {P : Nat → Bool} : ∀ {n : Nat} {a : Int32}, (∀ i, i < n → P i = false) → itD (fun k f => if P k = true then nI k else f) a n = a := by
  intro n
  induction n with
  | zero => intro a _; rfl
  | succ n ih =>
    intro a h
    show itD _ (if P n = true then nI n else a) n = a
    rw [h n (by omega), if_neg (by decide)]
    exact ih (fun i hi => h i (by omega))
theorem tlo_none {P : Nat → Bool} {n : Nat} (h : ∀ i, i < n → P i = false) : tlo P n = -1 := tlo_gt h
theorem tlo_some {P : Nat → Bool} {k : Nat} (hk : P k = true) (h : ∀ i, i < k → P i = false) : ∀ {n : Nat}, k < n → ∀ a, itD (fun k f => if P k = true then nI k else f) a n = nI k := by
  intro n
  induction n with
  | zero => intro hn; omega
  | succ n ih =>
    intro hn a
    show itD _ (if P n = true then nI n else a) n = nI k
    by_cases e : k = n
    · subst e
      rw [if_pos hk]
      exact tlo_gt h
    · exact ih (by omega) _
def tHas (T : am_T) (set : Int32) (p k : Nat) : Bool := bt set k && bt (T 11 k) p
def tDir (T : am_T) (set : Int32) (p k : Nat) : Bool := bt set k && bt (T 11 k) p && bt (T 12 k) p
def tLow (T : am_T) (n : Nat) (set : Int32) (p : Nat) : Int32 := tlo (tHas T set p) n
def tMode (T : am_T) (n : Nat) (set : Int32) (p : Nat) : Int32 := if tLow T n set p = -1 then -1 else if tlo (tDir T set p) n = -1 then 1 else 0
theorem nI_ne_m1 {k : Nat} (h : k < 2 ^ 31) : ¬ nI k = -1 := by
  intro e
  have := nI_pos h
  rw [e] at this
  exact this (by decide)
theorem tMode_dir {T : am_T} {n : Nat} {set : Int32} {p k : Nat} (hn : n ≤ 10) (hk : k < n) (h : tDir T set p k = true) (h0 : ∀ i, i < k → tDir T set p i = false) : tMode T n set p = 0 := by
  unfold tMode tLow
  have hd : tlo (tDir T set p) n = nI k := tlo_some h h0 hk _
  have hh : ¬ tlo (tHas T set p) n = -1 := by
    have hex : ∃ i, i < n ∧ tHas T set p i = true ∧ ∀ q, q < i → tHas T set p q = false := by
      have : ∃ i, i < n ∧ tHas T set p i = true := ⟨k, hk, by unfold tDir at h; unfold tHas; cases h1 : bt set k <;> simp_all⟩
      obtain ⟨i, hi, hi2⟩ := this
      induction i using Nat.strongRecOn with
      | ind i ih =>
        by_cases hq : ∃ q, q < i ∧ tHas T set p q = true
        · obtain ⟨q, hq1, hq2⟩ := hq
          exact ih q hq1 (by omega) hq2
        · exact ⟨i, hi, hi2, fun q hq1 => by
            cases hb : tHas T set p q with
            | false => rfl
            | true => exact absurd ⟨q, hq1, hb⟩ hq⟩
    obtain ⟨i, hi, hi2, hi3⟩ := hex
    rw [show tlo (tHas T set p) n = nI i from tlo_some hi2 hi3 hi _]
    exact nI_ne_m1 (by omega)
  rw [if_neg hh, hd, if_neg (nI_ne_m1 (by omega))]
def tma (T : am_T) (set : Int32) (p k : Nat) (a : Int32) : Int32 := if tHas T set p k = true then 1 else a
theorem tma_val {T : am_T} {set : Int32} {p : Nat} : ∀ n, n ≤ 10 → itN (tma T set p) (-1) n = if tLow T n set p = -1 then -1 else 1 := by
  intro n
  induction n with
  | zero => intro _; rfl
  | succ n ih =>
    intro hn
    show tma T set p n (itN (tma T set p) (-1) n) = _
    rw [ih (by omega)]
    unfold tma
    by_cases hx : ∃ i, i < n ∧ tHas T set p i = true ∧ ∀ q, q < i → tHas T set p q = false
    · obtain ⟨i, hi, hi2, hi3⟩ := hx
      have e1 : tLow T n set p = nI i := tlo_some hi2 hi3 hi _
      have e2 : tLow T (n + 1) set p = nI i := tlo_some hi2 hi3 (by omega) _
      rw [e1, e2, if_neg (nI_ne_m1 (by omega))]
      by_cases h : tHas T set p n = true
      · rw [if_pos h]
      · rw [if_neg h]
    · have hall : ∀ i, i < n → tHas T set p i = false := by
        intro i
        induction i using Nat.strongRecOn with
        | ind i ih2 =>
          intro hi
          cases hb : tHas T set p i with
          | false => rfl
          | true => exact absurd ⟨i, hi, hb, fun q hq => ih2 q hq (by omega)⟩ hx
      by_cases h : tHas T set p n = true
      · have e2 : tLow T (n + 1) set p = nI n := tlo_some h hall (by omega) _
        rw [if_pos h, e2, if_neg (nI_ne_m1 (by omega))]
      · have e1 : tLow T n set p = -1 := tlo_none hall
        have e2 : tLow T (n + 1) set p = -1 := tlo_none (fun i hi => by
          by_cases e : i = n
          · subst e; simpa using h
          · exact hall i (by omega))
        rw [if_neg h, e1, e2]
theorem tMode_no {T : am_T} {n : Nat} {set : Int32} {p : Nat} (hn : n ≤ 10) (h : ∀ i, i < n → tDir T set p i = false) : tMode T n set p = itN (tma T set p) (-1) n := by
  rw [tma_val n hn]
  unfold tMode
  rw [show tlo (tDir T set p) n = -1 from tlo_none h]
  rfl
def tst (T : am_T) (p k : Nat) (a : Int32) : Int32 := if T 19 k = nI p ∧ T 33 (T 21 k).toNatClampNeg = T 3 0 then a + 1 else a
def tSent (T : am_T) (m p : Nat) : Int32 := itN (tst T p) 0 m
def tAns (T : am_T) (m p : Nat) (x : Int32) : Bool := if x < 0 ∨ nI m ≤ x then false else decide (T 19 x.toNatClampNeg = nI p ∨ bt (T 26 x.toNatClampNeg) p = true)
def tsw (T : am_T) (words : Int32) (k : Nat) (s : Int32) : Int32 := if bt words k = true then s + T 4 k else s
def tScore (T : am_T) (m p : Nat) (words x : Int32) : Int32 := if tAns T m p x = true then itN (tsw T words) (T 5 p + tSent T m p) 20 - 3 else itN (tsw T words) (T 5 p + tSent T m p) 20
def tCause (T : am_T) (n p l : Nat) (pts : Int32) : Int32 := if bt (T 14 l) p = true then 0 else if ¬ T 17 l = 0 ∧ bt (tMem T n (tDown T n l)) p = false then 1 else if pts < T 15 l then -1 else 2
def tjc (T : am_T) (k : Nat) (s : Int32) : Int32 := s ||| (1 : Int32) <<< (T 10 k &&& 31)
def tCand (T : am_T) (n k l : Nat) : Int32 := itN (tjc T) 0 n &&& ((1 : Int32) <<< (T 19 k &&& 31) ^^^ (-1)) &&& ((1 : Int32) <<< (T 10 l &&& 31) ^^^ (-1))
def tlj (T : am_T) (set : Int32) (k : Nat) (b : Int32) : Int32 := if bt set k = true ∧ (b = -1 ∨ T 6 k < T 6 b.toNatClampNeg) then nI k else b
def tLeast (T : am_T) (set : Int32) : Int32 := itN (tlj T set) (-1) 16
def tcj (T : am_T) (cand : Int32) (c : Int32) : Int32 := if tLeast T (cand &&& (c ^^^ (-1))) = -1 then c else c ||| (1 : Int32) <<< (tLeast T (cand &&& (c ^^^ (-1))) &&& 31)
def tChoose (T : am_T) (cand : Int32) : Int32 := itN (fun _ c => tcj T cand c) 0 3
def sgX3_takeFirst_0_34db8 : List Instr := [.aload_n 0]
theorem sgX3_takeFirst_0_34db8d : am_dec cX3_takeFirst 0 sgX3_takeFirst_0_34db8 = true := by decide +kernel
theorem dX3_takeFirst_1 : decode cX3_takeFirst 1 = .ok (.getfield 25, 3) := by decide +kernel
theorem dX3_takeFirst_4 : decode cX3_takeFirst 4 = .ok (.ifCond .ne 5, 3) := by decide +kernel
def sgX3_takeFirst_7_5ff24 : List Instr := [.iconst (-1)]
theorem sgX3_takeFirst_7_5ff24d : am_dec cX3_takeFirst 7 sgX3_takeFirst_7_5ff24 = true := by decide +kernel
theorem dX3_takeFirst_8 : decode cX3_takeFirst 8 = .ok (.ireturn, 1) := by decide +kernel
def sgX3_takeFirst_9_34db8 : List Instr := [.aload_n 0]
theorem sgX3_takeFirst_9_34db8d : am_dec cX3_takeFirst 9 sgX3_takeFirst_9_34db8 = true := by decide +kernel
theorem dX3_takeFirst_10 : decode cX3_takeFirst 10 = .ok (.getfield 21, 3) := by decide +kernel
def sgX3_takeFirst_13_56c54 : List Instr := [.iconst 0]
theorem sgX3_takeFirst_13_56c54d : am_dec cX3_takeFirst 13 sgX3_takeFirst_13_56c54 = true := by decide +kernel
theorem dX3_takeFirst_14 : decode cX3_takeFirst 14 = .ok (.iaload, 1) := by decide +kernel
def sgX3_takeFirst_15_a263a : List Instr := [.istore_n 1, .aload_n 0, .dup]
theorem sgX3_takeFirst_15_a263ad : am_dec cX3_takeFirst 15 sgX3_takeFirst_15_a263a = true := by decide +kernel
theorem dX3_takeFirst_18 : decode cX3_takeFirst 18 = .ok (.getfield 25, 3) := by decide +kernel
def sgX3_takeFirst_21_d80e0 : List Instr := [.iconst 1, .isub]
theorem sgX3_takeFirst_21_d80e0d : am_dec cX3_takeFirst 21 sgX3_takeFirst_21_d80e0 = true := by decide +kernel
theorem dX3_takeFirst_23 : decode cX3_takeFirst 23 = .ok (.putfield 25, 3) := by decide +kernel
def sgX3_takeFirst_26_34db8 : List Instr := [.aload_n 0]
theorem sgX3_takeFirst_26_34db8d : am_dec cX3_takeFirst 26 sgX3_takeFirst_26_34db8 = true := by decide +kernel
theorem dX3_takeFirst_27 : decode cX3_takeFirst 27 = .ok (.getfield 21, 3) := by decide +kernel
def sgX3_takeFirst_30_db731 : List Instr := [.iconst 1, .aload_n 0]
theorem sgX3_takeFirst_30_db731d : am_dec cX3_takeFirst 30 sgX3_takeFirst_30_db731 = true := by decide +kernel
theorem dX3_takeFirst_32 : decode cX3_takeFirst 32 = .ok (.getfield 21, 3) := by decide +kernel
def sgX3_takeFirst_35_d145e : List Instr := [.iconst 0, .aload_n 0]
theorem sgX3_takeFirst_35_d145ed : am_dec cX3_takeFirst 35 sgX3_takeFirst_35_d145e = true := by decide +kernel
theorem dX3_takeFirst_37 : decode cX3_takeFirst 37 = .ok (.getfield 25, 3) := by decide +kernel
theorem dX3_takeFirst_40 : decode cX3_takeFirst 40 = .ok (.invokestatic 32, 3) := by decide +kernel
def sgX3_takeFirst_43_840bf : List Instr := [.iload_n 1]
theorem sgX3_takeFirst_43_840bfd : am_dec cX3_takeFirst 43 sgX3_takeFirst_43_840bf = true := by decide +kernel
theorem dX3_takeFirst_44 : decode cX3_takeFirst 44 = .ok (.ireturn, 1) := by decide +kernel
def sgX4_end_0_eadc8 : List Instr := [.aload_n 0, .iconst 1]
theorem sgX4_end_0_eadc8d : am_dec cX4_end 0 sgX4_end_0_eadc8 = true := by decide +kernel
theorem dX4_end_2 : decode cX4_end 2 = .ok (.putfield 22, 3) := by decide +kernel
def sgX4_end_5_67c14 : List Instr := [.iconst 0, .istore_n 1]
theorem sgX4_end_5_67c14d : am_dec cX4_end 5 sgX4_end_5_67c14 = true := by decide +kernel
def sgX4_end_7_015f5 : List Instr := [.iload_n 1, .bipush 10]
theorem sgX4_end_7_015f5d : am_dec cX4_end 7 sgX4_end_7_015f5 = true := by decide +kernel
theorem dX4_end_10 : decode cX4_end 10 = .ok (.if_icmp .ge 24, 3) := by decide +kernel
theorem dX4_end_34 : decode cX4_end 34 = .ok (.return_, 1) := by decide +kernel
def sgX4_end_13_8bcf7 : List Instr := [.aload_n 0, .iload_n 1]
theorem sgX4_end_13_8bcf7d : am_dec cX4_end 13 sgX4_end_13_8bcf7 = true := by decide +kernel
theorem dX4_end_15 : decode cX4_end 15 = .ok (.invokevirtual 33, 3) := by decide +kernel
theorem dX4_end_18 : decode cX4_end 18 = .ok (.ifCond .eq 10, 3) := by decide +kernel
def sgX4_end_28_4d3f8 : List Instr := [.iinc 1 1, .goto (-24)]
theorem sgX4_end_28_4d3f8d : am_dec cX4_end 28 sgX4_end_28_4d3f8 = true := by decide +kernel
def sgX4_end_21_34db8 : List Instr := [.aload_n 0]
theorem sgX4_end_21_34db8d : am_dec cX4_end 21 sgX4_end_21_34db8 = true := by decide +kernel
theorem dX4_end_22 : decode cX4_end 22 = .ok (.getfield 15, 3) := by decide +kernel
def sgX4_end_25_d3633 : List Instr := [.iload_n 1, .iconst 1]
theorem sgX4_end_25_d3633d : am_dec cX4_end 25 sgX4_end_25_d3633 = true := by decide +kernel
theorem dX4_end_27 : decode cX4_end 27 = .ok (.iastore, 1) := by decide +kernel
def sgX4_settleEditions_0_67c14 : List Instr := [.iconst 0, .istore_n 1]
theorem sgX4_settleEditions_0_67c14d : am_dec cX4_settleEditions 0 sgX4_settleEditions_0_67c14 = true := by decide +kernel
def sgX4_settleEditions_2_015f5 : List Instr := [.iload_n 1, .bipush 10]
theorem sgX4_settleEditions_2_015f5d : am_dec cX4_settleEditions 2 sgX4_settleEditions_2_015f5 = true := by decide +kernel
theorem dX4_settleEditions_5 : decode cX4_settleEditions 5 = .ok (.if_icmp .ge 30, 3) := by decide +kernel
def sgX4_settleEditions_35_9cf18 : List Instr := [.aload_n 0, .iconst 0]
theorem sgX4_settleEditions_35_9cf18d : am_dec cX4_settleEditions 35 sgX4_settleEditions_35_9cf18 = true := by decide +kernel
theorem dX4_settleEditions_37 : decode cX4_settleEditions 37 = .ok (.putfield 18, 3) := by decide +kernel
theorem dX4_settleEditions_40 : decode cX4_settleEditions 40 = .ok (.return_, 1) := by decide +kernel
def sgX4_settleEditions_8_34db8 : List Instr := [.aload_n 0]
theorem sgX4_settleEditions_8_34db8d : am_dec cX4_settleEditions 8 sgX4_settleEditions_8_34db8 = true := by decide +kernel
theorem dX4_settleEditions_9 : decode cX4_settleEditions 9 = .ok (.getfield 18, 3) := by decide +kernel
def sgX4_settleEditions_12_840bf : List Instr := [.iload_n 1]
theorem sgX4_settleEditions_12_840bfd : am_dec cX4_settleEditions 12 sgX4_settleEditions_12_840bf = true := by decide +kernel
theorem dX4_settleEditions_13 : decode cX4_settleEditions 13 = .ok (.invokestatic 37, 3) := by decide +kernel
theorem dX4_settleEditions_16 : decode cX4_settleEditions 16 = .ok (.ifCond .eq 13, 3) := by decide +kernel
def sgX4_settleEditions_29_c4b17 : List Instr := [.iinc 1 1, .goto (-30)]
theorem sgX4_settleEditions_29_c4b17d : am_dec cX4_settleEditions 29 sgX4_settleEditions_29_c4b17 = true := by decide +kernel
def sgX4_settleEditions_19_34db8 : List Instr := [.aload_n 0]
theorem sgX4_settleEditions_19_34db8d : am_dec cX4_settleEditions 19 sgX4_settleEditions_19_34db8 = true := by decide +kernel
theorem dX4_settleEditions_20 : decode cX4_settleEditions 20 = .ok (.getfield 15, 3) := by decide +kernel
def sgX4_settleEditions_23_563cd : List Instr := [.iload_n 1, .dup2]
theorem sgX4_settleEditions_23_563cdd : am_dec cX4_settleEditions 23 sgX4_settleEditions_23_563cd = true := by decide +kernel
theorem dX4_settleEditions_25 : decode cX4_settleEditions 25 = .ok (.iaload, 1) := by decide +kernel
def sgX4_settleEditions_26_c7176 : List Instr := [.iconst 1, .iadd]
theorem sgX4_settleEditions_26_c7176d : am_dec cX4_settleEditions 26 sgX4_settleEditions_26_c7176 = true := by decide +kernel
theorem dX4_settleEditions_28 : decode cX4_settleEditions 28 = .ok (.iastore, 1) := by decide +kernel
def sgX5_listsDown_0_840bf : List Instr := [.iload_n 1]
theorem sgX5_listsDown_0_840bfd : am_dec cX5_listsDown 0 sgX5_listsDown_0_840bf = true := by decide +kernel
theorem dX5_listsDown_1 : decode cX5_listsDown 1 = .ok (.invokestatic 115, 3) := by decide +kernel
def sgX5_listsDown_4_7e279 : List Instr := [.istore_n 2, .iconst 0, .istore_n 3]
theorem sgX5_listsDown_4_7e279d : am_dec cX5_listsDown 4 sgX5_listsDown_4_7e279 = true := by decide +kernel
def sgX5_listsDown_7_a1b5b : List Instr := [.iload_n 3, .aload_n 0]
theorem sgX5_listsDown_7_a1b5bd : am_dec cX5_listsDown 7 sgX5_listsDown_7_a1b5b = true := by decide +kernel
theorem dX5_listsDown_9 : decode cX5_listsDown 9 = .ok (.getfield 25, 3) := by decide +kernel
theorem dX5_listsDown_12 : decode cX5_listsDown 12 = .ok (.if_icmp .ge 49, 3) := by decide +kernel
def sgX5_listsDown_61_f8a59 : List Instr := [.iload_n 2]
theorem sgX5_listsDown_61_f8a59d : am_dec cX5_listsDown 61 sgX5_listsDown_61_f8a59 = true := by decide +kernel
theorem dX5_listsDown_62 : decode cX5_listsDown 62 = .ok (.ireturn, 1) := by decide +kernel
def sgX5_listsDown_15_b1161 : List Instr := [.iconst 0, .istore 4]
theorem sgX5_listsDown_15_b1161d : am_dec cX5_listsDown 15 sgX5_listsDown_15_b1161 = true := by decide +kernel
def sgX5_listsDown_18_49a24 : List Instr := [.iload 4, .aload_n 0]
theorem sgX5_listsDown_18_49a24d : am_dec cX5_listsDown 18 sgX5_listsDown_18_49a24 = true := by decide +kernel
theorem dX5_listsDown_21 : decode cX5_listsDown 21 = .ok (.getfield 25, 3) := by decide +kernel
theorem dX5_listsDown_24 : decode cX5_listsDown 24 = .ok (.if_icmp .ge 31, 3) := by decide +kernel
def sgX5_listsDown_55_efa23 : List Instr := [.iinc 3 1, .goto (-51)]
theorem sgX5_listsDown_55_efa23d : am_dec cX5_listsDown 55 sgX5_listsDown_55_efa23 = true := by decide +kernel
def sgX5_listsDown_27_62b07 : List Instr := [.iload_n 2, .iload 4]
theorem sgX5_listsDown_27_62b07d : am_dec cX5_listsDown 27 sgX5_listsDown_27_62b07 = true := by decide +kernel
theorem dX5_listsDown_30 : decode cX5_listsDown 30 = .ok (.invokestatic 103, 3) := by decide +kernel
theorem dX5_listsDown_33 : decode cX5_listsDown 33 = .ok (.ifCond .eq 16, 3) := by decide +kernel
def sgX5_listsDown_49_fb44b : List Instr := [.iinc 4 1, .goto (-34)]
theorem sgX5_listsDown_49_fb44bd : am_dec cX5_listsDown 49 sgX5_listsDown_49_fb44b = true := by decide +kernel
def sgX5_listsDown_36_14491 : List Instr := [.iload_n 2, .aload_n 0]
theorem sgX5_listsDown_36_14491d : am_dec cX5_listsDown 36 sgX5_listsDown_36_14491 = true := by decide +kernel
theorem dX5_listsDown_38 : decode cX5_listsDown 38 = .ok (.getfield 21, 3) := by decide +kernel
def sgX5_listsDown_41_c6742 : List Instr := [.iload 4]
theorem sgX5_listsDown_41_c6742d : am_dec cX5_listsDown 41 sgX5_listsDown_41_c6742 = true := by decide +kernel
theorem dX5_listsDown_43 : decode cX5_listsDown 43 = .ok (.aaload, 1) := by decide +kernel
theorem dX5_listsDown_44 : decode cX5_listsDown 44 = .ok (.getfield 100, 3) := by decide +kernel
def sgX5_listsDown_47_103dd : List Instr := [.ior, .istore_n 2, .iinc 4 1, .goto (-34)]
theorem sgX5_listsDown_47_103ddd : am_dec cX5_listsDown 47 sgX5_listsDown_47_103dd = true := by decide +kernel
def sgX5_listsUp_0_840bf : List Instr := [.iload_n 1]
theorem sgX5_listsUp_0_840bfd : am_dec cX5_listsUp 0 sgX5_listsUp_0_840bf = true := by decide +kernel
theorem dX5_listsUp_1 : decode cX5_listsUp 1 = .ok (.invokestatic 115, 3) := by decide +kernel
def sgX5_listsUp_4_7e279 : List Instr := [.istore_n 2, .iconst 0, .istore_n 3]
theorem sgX5_listsUp_4_7e279d : am_dec cX5_listsUp 4 sgX5_listsUp_4_7e279 = true := by decide +kernel
def sgX5_listsUp_7_a1b5b : List Instr := [.iload_n 3, .aload_n 0]
theorem sgX5_listsUp_7_a1b5bd : am_dec cX5_listsUp 7 sgX5_listsUp_7_a1b5b = true := by decide +kernel
theorem dX5_listsUp_9 : decode cX5_listsUp 9 = .ok (.getfield 25, 3) := by decide +kernel
theorem dX5_listsUp_12 : decode cX5_listsUp 12 = .ok (.if_icmp .ge 50, 3) := by decide +kernel
def sgX5_listsUp_62_f8a59 : List Instr := [.iload_n 2]
theorem sgX5_listsUp_62_f8a59d : am_dec cX5_listsUp 62 sgX5_listsUp_62_f8a59 = true := by decide +kernel
theorem dX5_listsUp_63 : decode cX5_listsUp 63 = .ok (.ireturn, 1) := by decide +kernel
def sgX5_listsUp_15_b1161 : List Instr := [.iconst 0, .istore 4]
theorem sgX5_listsUp_15_b1161d : am_dec cX5_listsUp 15 sgX5_listsUp_15_b1161 = true := by decide +kernel
def sgX5_listsUp_18_49a24 : List Instr := [.iload 4, .aload_n 0]
theorem sgX5_listsUp_18_49a24d : am_dec cX5_listsUp 18 sgX5_listsUp_18_49a24 = true := by decide +kernel
theorem dX5_listsUp_21 : decode cX5_listsUp 21 = .ok (.getfield 25, 3) := by decide +kernel
theorem dX5_listsUp_24 : decode cX5_listsUp 24 = .ok (.if_icmp .ge 32, 3) := by decide +kernel
def sgX5_listsUp_56_f1ec8 : List Instr := [.iinc 3 1, .goto (-52)]
theorem sgX5_listsUp_56_f1ec8d : am_dec cX5_listsUp 56 sgX5_listsUp_56_f1ec8 = true := by decide +kernel
def sgX5_listsUp_27_34db8 : List Instr := [.aload_n 0]
theorem sgX5_listsUp_27_34db8d : am_dec cX5_listsUp 27 sgX5_listsUp_27_34db8 = true := by decide +kernel
theorem dX5_listsUp_28 : decode cX5_listsUp 28 = .ok (.getfield 21, 3) := by decide +kernel
def sgX5_listsUp_31_c6742 : List Instr := [.iload 4]
theorem sgX5_listsUp_31_c6742d : am_dec cX5_listsUp 31 sgX5_listsUp_31_c6742 = true := by decide +kernel
theorem dX5_listsUp_33 : decode cX5_listsUp 33 = .ok (.aaload, 1) := by decide +kernel
theorem dX5_listsUp_34 : decode cX5_listsUp 34 = .ok (.getfield 100, 3) := by decide +kernel
def sgX5_listsUp_37_322ad : List Instr := [.iload_n 2, .iand]
theorem sgX5_listsUp_37_322add : am_dec cX5_listsUp 37 sgX5_listsUp_37_322ad = true := by decide +kernel
theorem dX5_listsUp_39 : decode cX5_listsUp 39 = .ok (.ifCond .eq 11, 3) := by decide +kernel
def sgX5_listsUp_50_b5132 : List Instr := [.iinc 4 1, .goto (-35)]
theorem sgX5_listsUp_50_b5132d : am_dec cX5_listsUp 50 sgX5_listsUp_50_b5132 = true := by decide +kernel
def sgX5_listsUp_42_62b07 : List Instr := [.iload_n 2, .iload 4]
theorem sgX5_listsUp_42_62b07d : am_dec cX5_listsUp 42 sgX5_listsUp_42_62b07 = true := by decide +kernel
theorem dX5_listsUp_45 : decode cX5_listsUp 45 = .ok (.invokestatic 115, 3) := by decide +kernel
def sgX5_listsUp_48_7b1dd : List Instr := [.ior, .istore_n 2, .iinc 4 1, .goto (-35)]
theorem sgX5_listsUp_48_7b1ddd : am_dec cX5_listsUp 48 sgX5_listsUp_48_7b1dd = true := by decide +kernel
def sgX5_membersOf_0_24699 : List Instr := [.iconst 0, .istore_n 2, .iconst 0, .istore_n 3]
theorem sgX5_membersOf_0_24699d : am_dec cX5_membersOf 0 sgX5_membersOf_0_24699 = true := by decide +kernel
def sgX5_membersOf_4_a1b5b : List Instr := [.iload_n 3, .aload_n 0]
theorem sgX5_membersOf_4_a1b5bd : am_dec cX5_membersOf 4 sgX5_membersOf_4_a1b5b = true := by decide +kernel
theorem dX5_membersOf_6 : decode cX5_membersOf 6 = .ok (.getfield 25, 3) := by decide +kernel
theorem dX5_membersOf_9 : decode cX5_membersOf 9 = .ok (.if_icmp .ge 29, 3) := by decide +kernel
def sgX5_membersOf_38_f8a59 : List Instr := [.iload_n 2]
theorem sgX5_membersOf_38_f8a59d : am_dec cX5_membersOf 38 sgX5_membersOf_38_f8a59 = true := by decide +kernel
theorem dX5_membersOf_39 : decode cX5_membersOf 39 = .ok (.ireturn, 1) := by decide +kernel
def sgX5_membersOf_12_20da6 : List Instr := [.iload_n 1, .iload_n 3]
theorem sgX5_membersOf_12_20da6d : am_dec cX5_membersOf 12 sgX5_membersOf_12_20da6 = true := by decide +kernel
theorem dX5_membersOf_14 : decode cX5_membersOf 14 = .ok (.invokestatic 103, 3) := by decide +kernel
theorem dX5_membersOf_17 : decode cX5_membersOf 17 = .ok (.ifCond .eq 15, 3) := by decide +kernel
def sgX5_membersOf_32_88814 : List Instr := [.iinc 3 1, .goto (-31)]
theorem sgX5_membersOf_32_88814d : am_dec cX5_membersOf 32 sgX5_membersOf_32_88814 = true := by decide +kernel
def sgX5_membersOf_20_14491 : List Instr := [.iload_n 2, .aload_n 0]
theorem sgX5_membersOf_20_14491d : am_dec cX5_membersOf 20 sgX5_membersOf_20_14491 = true := by decide +kernel
theorem dX5_membersOf_22 : decode cX5_membersOf 22 = .ok (.getfield 21, 3) := by decide +kernel
def sgX5_membersOf_25_13b50 : List Instr := [.iload_n 3]
theorem sgX5_membersOf_25_13b50d : am_dec cX5_membersOf 25 sgX5_membersOf_25_13b50 = true := by decide +kernel
theorem dX5_membersOf_26 : decode cX5_membersOf 26 = .ok (.aaload, 1) := by decide +kernel
theorem dX5_membersOf_27 : decode cX5_membersOf 27 = .ok (.getfield 81, 3) := by decide +kernel
def sgX5_membersOf_30_bc718 : List Instr := [.ior, .istore_n 2, .iinc 3 1, .goto (-31)]
theorem sgX5_membersOf_30_bc718d : am_dec cX5_membersOf 30 sgX5_membersOf_30_bc718 = true := by decide +kernel
def sgX5_modeAmong_0_2ec9e : List Instr := [.iconst (-1), .istore_n 3, .iconst 0, .istore 4]
theorem sgX5_modeAmong_0_2ec9ed : am_dec cX5_modeAmong 0 sgX5_modeAmong_0_2ec9e = true := by decide +kernel
def sgX5_modeAmong_5_49a24 : List Instr := [.iload 4, .aload_n 0]
theorem sgX5_modeAmong_5_49a24d : am_dec cX5_modeAmong 5 sgX5_modeAmong_5_49a24 = true := by decide +kernel
theorem dX5_modeAmong_8 : decode cX5_modeAmong 8 = .ok (.getfield 25, 3) := by decide +kernel
theorem dX5_modeAmong_11 : decode cX5_modeAmong 11 = .ok (.if_icmp .ge 50, 3) := by decide +kernel
def sgX5_modeAmong_61_13b50 : List Instr := [.iload_n 3]
theorem sgX5_modeAmong_61_13b50d : am_dec cX5_modeAmong 61 sgX5_modeAmong_61_13b50 = true := by decide +kernel
theorem dX5_modeAmong_62 : decode cX5_modeAmong 62 = .ok (.ireturn, 1) := by decide +kernel
def sgX5_modeAmong_14_f40ee : List Instr := [.iload_n 1, .iload 4]
theorem sgX5_modeAmong_14_f40eed : am_dec cX5_modeAmong 14 sgX5_modeAmong_14_f40ee = true := by decide +kernel
theorem dX5_modeAmong_17 : decode cX5_modeAmong 17 = .ok (.invokestatic 103, 3) := by decide +kernel
theorem dX5_modeAmong_20 : decode cX5_modeAmong 20 = .ok (.ifCond .eq 35, 3) := by decide +kernel
def sgX5_modeAmong_55_02725 : List Instr := [.iinc 4 1, .goto (-53)]
theorem sgX5_modeAmong_55_02725d : am_dec cX5_modeAmong 55 sgX5_modeAmong_55_02725 = true := by decide +kernel
def sgX5_modeAmong_23_34db8 : List Instr := [.aload_n 0]
theorem sgX5_modeAmong_23_34db8d : am_dec cX5_modeAmong 23 sgX5_modeAmong_23_34db8 = true := by decide +kernel
theorem dX5_modeAmong_24 : decode cX5_modeAmong 24 = .ok (.getfield 21, 3) := by decide +kernel
def sgX5_modeAmong_27_c6742 : List Instr := [.iload 4]
theorem sgX5_modeAmong_27_c6742d : am_dec cX5_modeAmong 27 sgX5_modeAmong_27_c6742 = true := by decide +kernel
theorem dX5_modeAmong_29 : decode cX5_modeAmong 29 = .ok (.aaload, 1) := by decide +kernel
def sgX5_modeAmong_30_f8a59 : List Instr := [.iload_n 2]
theorem sgX5_modeAmong_30_f8a59d : am_dec cX5_modeAmong 30 sgX5_modeAmong_30_f8a59 = true := by decide +kernel
theorem dX5_modeAmong_31 : decode cX5_modeAmong 31 = .ok (.invokevirtual 71, 3) := by decide +kernel
theorem dX5_modeAmong_34 : decode cX5_modeAmong 34 = .ok (.ifCond .eq 21, 3) := by decide +kernel
def sgX5_modeAmong_37_34db8 : List Instr := [.aload_n 0]
theorem sgX5_modeAmong_37_34db8d : am_dec cX5_modeAmong 37 sgX5_modeAmong_37_34db8 = true := by decide +kernel
theorem dX5_modeAmong_38 : decode cX5_modeAmong 38 = .ok (.getfield 21, 3) := by decide +kernel
def sgX5_modeAmong_41_c6742 : List Instr := [.iload 4]
theorem sgX5_modeAmong_41_c6742d : am_dec cX5_modeAmong 41 sgX5_modeAmong_41_c6742 = true := by decide +kernel
theorem dX5_modeAmong_43 : decode cX5_modeAmong 43 = .ok (.aaload, 1) := by decide +kernel
def sgX5_modeAmong_44_f8a59 : List Instr := [.iload_n 2]
theorem sgX5_modeAmong_44_f8a59d : am_dec cX5_modeAmong 44 sgX5_modeAmong_44_f8a59 = true := by decide +kernel
theorem dX5_modeAmong_45 : decode cX5_modeAmong 45 = .ok (.invokevirtual 94, 3) := by decide +kernel
theorem dX5_modeAmong_48 : decode cX5_modeAmong 48 = .ok (.ifCond .ne 5, 3) := by decide +kernel
def sgX5_modeAmong_53_c7993 : List Instr := [.iconst 1, .istore_n 3, .iinc 4 1, .goto (-53)]
theorem sgX5_modeAmong_53_c7993d : am_dec cX5_modeAmong 53 sgX5_modeAmong_53_c7993 = true := by decide +kernel
def sgX5_modeAmong_51_56c54 : List Instr := [.iconst 0]
theorem sgX5_modeAmong_51_56c54d : am_dec cX5_modeAmong 51 sgX5_modeAmong_51_56c54 = true := by decide +kernel
theorem dX5_modeAmong_52 : decode cX5_modeAmong 52 = .ok (.ireturn, 1) := by decide +kernel
def sgX5_lowestWithMember_0_307f3 : List Instr := [.iconst 0, .istore_n 3]
theorem sgX5_lowestWithMember_0_307f3d : am_dec cX5_lowestWithMember 0 sgX5_lowestWithMember_0_307f3 = true := by decide +kernel
def sgX5_lowestWithMember_2_a1b5b : List Instr := [.iload_n 3, .aload_n 0]
theorem sgX5_lowestWithMember_2_a1b5bd : am_dec cX5_lowestWithMember 2 sgX5_lowestWithMember_2_a1b5b = true := by decide +kernel
theorem dX5_lowestWithMember_4 : decode cX5_lowestWithMember 4 = .ok (.getfield 25, 3) := by decide +kernel
theorem dX5_lowestWithMember_7 : decode cX5_lowestWithMember 7 = .ok (.if_icmp .ge 32, 3) := by decide +kernel
def sgX5_lowestWithMember_39_5ff24 : List Instr := [.iconst (-1)]
theorem sgX5_lowestWithMember_39_5ff24d : am_dec cX5_lowestWithMember 39 sgX5_lowestWithMember_39_5ff24 = true := by decide +kernel
theorem dX5_lowestWithMember_40 : decode cX5_lowestWithMember 40 = .ok (.ireturn, 1) := by decide +kernel
def sgX5_lowestWithMember_10_20da6 : List Instr := [.iload_n 1, .iload_n 3]
theorem sgX5_lowestWithMember_10_20da6d : am_dec cX5_lowestWithMember 10 sgX5_lowestWithMember_10_20da6 = true := by decide +kernel
theorem dX5_lowestWithMember_12 : decode cX5_lowestWithMember 12 = .ok (.invokestatic 103, 3) := by decide +kernel
theorem dX5_lowestWithMember_15 : decode cX5_lowestWithMember 15 = .ok (.ifCond .eq 18, 3) := by decide +kernel
def sgX5_lowestWithMember_33_089e0 : List Instr := [.iinc 3 1, .goto (-34)]
theorem sgX5_lowestWithMember_33_089e0d : am_dec cX5_lowestWithMember 33 sgX5_lowestWithMember_33_089e0 = true := by decide +kernel
def sgX5_lowestWithMember_18_34db8 : List Instr := [.aload_n 0]
theorem sgX5_lowestWithMember_18_34db8d : am_dec cX5_lowestWithMember 18 sgX5_lowestWithMember_18_34db8 = true := by decide +kernel
theorem dX5_lowestWithMember_19 : decode cX5_lowestWithMember 19 = .ok (.getfield 21, 3) := by decide +kernel
def sgX5_lowestWithMember_22_13b50 : List Instr := [.iload_n 3]
theorem sgX5_lowestWithMember_22_13b50d : am_dec cX5_lowestWithMember 22 sgX5_lowestWithMember_22_13b50 = true := by decide +kernel
theorem dX5_lowestWithMember_23 : decode cX5_lowestWithMember 23 = .ok (.aaload, 1) := by decide +kernel
def sgX5_lowestWithMember_24_f8a59 : List Instr := [.iload_n 2]
theorem sgX5_lowestWithMember_24_f8a59d : am_dec cX5_lowestWithMember 24 sgX5_lowestWithMember_24_f8a59 = true := by decide +kernel
theorem dX5_lowestWithMember_25 : decode cX5_lowestWithMember 25 = .ok (.invokevirtual 71, 3) := by decide +kernel
theorem dX5_lowestWithMember_28 : decode cX5_lowestWithMember 28 = .ok (.ifCond .eq 5, 3) := by decide +kernel
def sgX5_lowestWithMember_31_13b50 : List Instr := [.iload_n 3]
theorem sgX5_lowestWithMember_31_13b50d : am_dec cX5_lowestWithMember 31 sgX5_lowestWithMember_31_13b50 = true := by decide +kernel
theorem dX5_lowestWithMember_32 : decode cX5_lowestWithMember 32 = .ok (.ireturn, 1) := by decide +kernel
def sgX5_sentToday_0_24699 : List Instr := [.iconst 0, .istore_n 2, .iconst 0, .istore_n 3]
theorem sgX5_sentToday_0_24699d : am_dec cX5_sentToday 0 sgX5_sentToday_0_24699 = true := by decide +kernel
def sgX5_sentToday_4_a1b5b : List Instr := [.iload_n 3, .aload_n 0]
theorem sgX5_sentToday_4_a1b5bd : am_dec cX5_sentToday 4 sgX5_sentToday_4_a1b5b = true := by decide +kernel
theorem dX5_sentToday_6 : decode cX5_sentToday 6 = .ok (.getfield 35, 3) := by decide +kernel
theorem dX5_sentToday_9 : decode cX5_sentToday 9 = .ok (.if_icmp .ge 44, 3) := by decide +kernel
def sgX5_sentToday_53_f8a59 : List Instr := [.iload_n 2]
theorem sgX5_sentToday_53_f8a59d : am_dec cX5_sentToday 53 sgX5_sentToday_53_f8a59 = true := by decide +kernel
theorem dX5_sentToday_54 : decode cX5_sentToday 54 = .ok (.ireturn, 1) := by decide +kernel
def sgX5_sentToday_12_34db8 : List Instr := [.aload_n 0]
theorem sgX5_sentToday_12_34db8d : am_dec cX5_sentToday 12 sgX5_sentToday_12_34db8 = true := by decide +kernel
theorem dX5_sentToday_13 : decode cX5_sentToday 13 = .ok (.getfield 31, 3) := by decide +kernel
def sgX5_sentToday_16_13b50 : List Instr := [.iload_n 3]
theorem sgX5_sentToday_16_13b50d : am_dec cX5_sentToday 16 sgX5_sentToday_16_13b50 = true := by decide +kernel
theorem dX5_sentToday_17 : decode cX5_sentToday 17 = .ok (.aaload, 1) := by decide +kernel
theorem dX5_sentToday_18 : decode cX5_sentToday 18 = .ok (.getfield 309, 3) := by decide +kernel
def sgX5_sentToday_21_840bf : List Instr := [.iload_n 1]
theorem sgX5_sentToday_21_840bfd : am_dec cX5_sentToday 21 sgX5_sentToday_21_840bf = true := by decide +kernel
theorem dX5_sentToday_22 : decode cX5_sentToday 22 = .ok (.if_icmp .ne 25, 3) := by decide +kernel
def sgX5_sentToday_47_078c3 : List Instr := [.iinc 3 1, .goto (-46)]
theorem sgX5_sentToday_47_078c3d : am_dec cX5_sentToday 47 sgX5_sentToday_47_078c3 = true := by decide +kernel
def sgX5_sentToday_25_34db8 : List Instr := [.aload_n 0]
theorem sgX5_sentToday_25_34db8d : am_dec cX5_sentToday 25 sgX5_sentToday_25_34db8 = true := by decide +kernel
theorem dX5_sentToday_26 : decode cX5_sentToday 26 = .ok (.getfield 31, 3) := by decide +kernel
def sgX5_sentToday_29_13b50 : List Instr := [.iload_n 3]
theorem sgX5_sentToday_29_13b50d : am_dec cX5_sentToday 29 sgX5_sentToday_29_13b50 = true := by decide +kernel
theorem dX5_sentToday_30 : decode cX5_sentToday 30 = .ok (.aaload, 1) := by decide +kernel
theorem dX5_sentToday_31 : decode cX5_sentToday 31 = .ok (.getfield 312, 3) := by decide +kernel
theorem dX5_sentToday_34 : decode cX5_sentToday 34 = .ok (.getfield 316, 3) := by decide +kernel
def sgX5_sentToday_37_34db8 : List Instr := [.aload_n 0]
theorem sgX5_sentToday_37_34db8d : am_dec cX5_sentToday 37 sgX5_sentToday_37_34db8 = true := by decide +kernel
theorem dX5_sentToday_38 : decode cX5_sentToday 38 = .ok (.getfield 47, 3) := by decide +kernel
theorem dX5_sentToday_41 : decode cX5_sentToday 41 = .ok (.if_icmp .ne 6, 3) := by decide +kernel
def sgX5_sentToday_44_80c4f : List Instr := [.iinc 2 1, .iinc 3 1, .goto (-46)]
theorem sgX5_sentToday_44_80c4fd : am_dec cX5_sentToday 44 sgX5_sentToday_44_80c4f = true := by decide +kernel
set_option maxRecDepth 100000 in
set_option maxHeartbeats 4000000 in
theorem c_takeFirst_0 {G : am_S} {T S : am_T} {o : Nat → Int64} {p : Nat} (hp9 : p < 16) (hb : T 8 p = nI 0) : am_D G yX3_takeFirst (.code yX3_takeFirst cX3_takeFirst 2 (some .int) :: am_G) { frames := 1, cells := 0, slots := 0, locals := 26 } (hp T S o) [.ref (16 + p)] (hp T S o) (some (.int (-1))) := by
  refine am_of (by decide +kernel) (Nat.le_of_ble_eq_true rfl) ?_
  intro C hse hret hname hF hO
  subst hse
  refine am_go hF sgX3_takeFirst_0_34db8 1 [(0, .ref (16 + p))] [.ref (16 + p)] sgX3_takeFirst_0_34db8d rfl ?_
  refine am_getf hF (hp_person T S o (show p < 16 by omega)) (T := TX3) (N := 5) rfl (inG 3 inG3) 4 (by decide) (List.mem_cons_of_mem _ lf_RX3_25) rfl (.int (T 8 p)) rfl dX3_takeFirst_1 ?_
  refine am_top (nI 0) hb ?_
  refine am_ifne hF 9 dX3_takeFirst_4 (by decide) (fun h9 => False.elim (nc_eq_f (show 0 = 0 by omega) (by omega) (by omega) rfl rfl h9)) (fun _ => ?_)
  refine am_go hF sgX3_takeFirst_7_5ff24 8 [(0, .ref (16 + p))] [.int (-1)] sgX3_takeFirst_7_5ff24d rfl ?_
  exact am_iret hF hO hret rfl dX3_takeFirst_8 ⟨rfl, rfl⟩
set_option maxRecDepth 100000 in
set_option maxHeartbeats 4000000 in
theorem c_takeFirst_1 {G : am_S} {T S : am_T} {o : Nat → Int64} {p : Nat} (hp9 : p < 16) {b : Nat} (hb : T 8 p = nI (b + 1)) (hb10 : b < 10) : am_D G yX3_takeFirst (.code yX3_takeFirst cX3_takeFirst 2 (some .int) :: am_G) { frames := 1, cells := 0, slots := 0, locals := 26 } (hp T S o) [.ref (16 + p)] (hp (tSh (st1 T 8 p ((nI (b + 1)) - 1)) p b) S o) (some (.int (T 9 (10 * p + 0)))) := by
  refine am_of (by decide +kernel) (Nat.le_of_ble_eq_true rfl) ?_
  intro C hse hret hname hF hO
  subst hse
  refine am_go hF sgX3_takeFirst_0_34db8 1 [(0, .ref (16 + p))] [.ref (16 + p)] sgX3_takeFirst_0_34db8d rfl ?_
  refine am_getf hF (hp_person T S o (show p < 16 by omega)) (T := TX3) (N := 5) rfl (inG 3 inG3) 4 (by decide) (List.mem_cons_of_mem _ lf_RX3_25) rfl (.int (T 8 p)) rfl dX3_takeFirst_1 ?_
  refine am_top (nI (b + 1)) hb ?_
  refine am_ifne hF 9 dX3_takeFirst_4 (by decide) (fun _ => ?_) (fun h9 => False.elim (absurd h9 (nc_ne (show b + 1 ≠ 0 by omega) (by omega) (by omega) rfl rfl)))
  refine am_go hF sgX3_takeFirst_9_34db8 10 [(0, .ref (16 + p))] [.ref (16 + p)] sgX3_takeFirst_9_34db8d rfl ?_
  refine am_getf hF (hp_person T S o (show p < 16 by omega)) (T := TX3) (N := 5) rfl (inG 3 inG3) 3 (by decide) (List.mem_cons_of_mem _ lf_RX3_21) rfl (.ref (32 + p)) rfl dX3_takeFirst_10 ?_
  refine am_go hF sgX3_takeFirst_13_56c54 14 [(0, .ref (16 + p))] [.int 0, .ref (32 + p)] sgX3_takeFirst_13_56c54d rfl ?_
  refine am_iald hF (hp_box T S o (show p < 16 by omega)) 0 rfl (show 0 < 10 by omega) (by decide) dX3_takeFirst_14 ?_
  refine am_top (T 9 (10 * p + 0)) (if_pos (show 0 < 10 by omega)) ?_
  refine am_go hF sgX3_takeFirst_15_a263a 18 [(1, .int (T 9 (10 * p + 0))), (0, .ref (16 + p))] [.ref (16 + p), .ref (16 + p)] sgX3_takeFirst_15_a263ad rfl ?_
  refine am_getf hF (hp_person T S o (show p < 16 by omega)) (T := TX3) (N := 5) rfl (inG 3 inG3) 4 (by decide) (List.mem_cons_of_mem _ lf_RX3_25) rfl (.int (T 8 p)) rfl dX3_takeFirst_18 ?_
  refine am_top (nI (b + 1)) hb ?_
  refine am_go hF sgX3_takeFirst_21_d80e0 23 [(1, .int (T 9 (10 * p + 0))), (0, .ref (16 + p))] [.int ((nI (b + 1)) - 1), .ref (16 + p)] sgX3_takeFirst_21_d80e0d rfl ?_
  refine am_putf hF (hp_person T S o (show p < 16 by omega)) (T := TX3) (N := 5) rfl (inG 3 inG3) tyX3 tyX3_ok nmX3 4 (by decide) (List.mem_cons_of_mem _ lf_RX3_25) rfl (Or.inl rfl) rfl rfl (Nat.le_of_ble_eq_true rfl) dX3_takeFirst_23 ?_
  refine am_eqX (hp (st1 T 8 p ((nI (b + 1)) - 1)) S o) (hp_s8 (T := T) (show p < 16 by omega) ((nI (b + 1)) - 1)) ?_
  refine am_go hF sgX3_takeFirst_26_34db8 27 [(1, .int (T 9 (10 * p + 0))), (0, .ref (16 + p))] [.ref (16 + p)] sgX3_takeFirst_26_34db8d rfl ?_
  refine am_getf hF (hp_person (st1 T 8 p ((nI (b + 1)) - 1)) S o (show p < 16 by omega)) (T := TX3) (N := 5) rfl (inG 3 inG3) 3 (by decide) (List.mem_cons_of_mem _ lf_RX3_21) rfl (.ref (32 + p)) rfl dX3_takeFirst_27 ?_
  refine am_go hF sgX3_takeFirst_30_db731 32 [(1, .int (T 9 (10 * p + 0))), (0, .ref (16 + p))] [.ref (16 + p), .int 1, .ref (32 + p)] sgX3_takeFirst_30_db731d rfl ?_
  refine am_getf hF (hp_person (st1 T 8 p ((nI (b + 1)) - 1)) S o (show p < 16 by omega)) (T := TX3) (N := 5) rfl (inG 3 inG3) 3 (by decide) (List.mem_cons_of_mem _ lf_RX3_21) rfl (.ref (32 + p)) rfl dX3_takeFirst_32 ?_
  refine am_go hF sgX3_takeFirst_35_d145e 37 [(1, .int (T 9 (10 * p + 0))), (0, .ref (16 + p))] [.ref (16 + p), .int 0, .ref (32 + p), .int 1, .ref (32 + p)] sgX3_takeFirst_35_d145ed rfl ?_
  refine am_getf hF (hp_person (st1 T 8 p ((nI (b + 1)) - 1)) S o (show p < 16 by omega)) (T := TX3) (N := 5) rfl (inG 3 inG3) 4 (by decide) (List.mem_cons_of_mem _ lf_RX3_25) rfl (.int ((st1 T 8 p ((nI (b + 1)) - 1)) 8 p)) rfl dX3_takeFirst_37 ?_
  refine am_top ((nI (b + 1)) - 1) (st1_same T 8 p ((nI (b + 1)) - 1)) ?_
  refine am_copyi hF hO (hp_box (st1 T 8 p ((nI (b + 1)) - 1)) S o (show p < 16 by omega)) (List.mem_cons_of_mem _ lm_ac) (List.mem_cons_of_mem _ nac) (List.mem_cons_of_mem _ sac) (List.mem_cons_of_mem _ lz_sys) 1 0 b rfl rfl (am_s1 rfl) (by omega) (by omega) (by decide) ⟨Nat.le_of_ble_eq_true rfl, Nat.le_of_ble_eq_true rfl⟩ dX3_takeFirst_40 ?_
  refine am_eqX (hp (tSh (st1 T 8 p ((nI (b + 1)) - 1)) p b) S o) (hp_sh (T := (st1 T 8 p ((nI (b + 1)) - 1))) (show p < 16 by omega) (show b + 1 ≤ 10 by omega)) ?_
  refine am_go hF sgX3_takeFirst_43_840bf 44 [(1, .int (T 9 (10 * p + 0))), (0, .ref (16 + p))] [.int (T 9 (10 * p + 0))] sgX3_takeFirst_43_840bfd rfl ?_
  exact am_iret hF hO hret rfl dX3_takeFirst_44 ⟨rfl, rfl⟩
set_option maxRecDepth 100000 in
set_option maxHeartbeats 4000000 in
theorem c_end {G : am_S} {T S : am_T} {o : Nat → Int64} {v j : Nat} (hv : T 2 0 = nI v) (hv80 : v ≤ 80) (hj : j < v) : am_D G yX4_end (.code yX4_end cX4_end 2 none :: am_G) { frames := 1, cells := 0, slots := 0, locals := 21 } (hp T S o) [.ref (224 + j)] (hp (tEnd T j) S o) none := by
  refine am_of (by decide +kernel) (Nat.le_of_ble_eq_true rfl) ?_
  intro C hse hret hname hF hO
  subst hse
  refine am_go hF sgX4_end_0_eadc8 2 [(0, .ref (224 + j))] [.int 1, .ref (224 + j)] sgX4_end_0_eadc8d rfl ?_
  refine am_putf hF (hp_day T S o hv hv80 (show j < v by omega)) (T := TX4) (N := 5) rfl (inG 4 inG4) tyX4 tyX4_ok nmX4 4 (by decide) (List.mem_cons_of_mem _ lf_RX4_22) rfl (Or.inl rfl) rfl rfl (Nat.le_of_ble_eq_true rfl) dX4_end_2 ?_
  refine am_eqX (hp (st1 T 37 j 1) S o) (hp_s37 (T := T) hv hv80 (show j < v by omega) 1) ?_
  refine am_go hF sgX4_end_5_67c14 7 [(1, .int 0), (0, .ref (224 + j))] [] sgX4_end_5_67c14d rfl ?_
  refine am_drop [1, 0] [(0, .ref (224 + j)), (1, .int 0)] rfl ?_
  have lp7 : ∀ (di i : Nat) (T1 : am_T), i + di = 10 → T1 = itN (ted j) (st1 T 37 j 1) i → am_W C (hp T1 S o) 0 0 7 [(0, .ref (224 + j)), (1, .int (nI i))] [] := by
    intro di
    induction di with
    | zero =>
      intro i T1 hi hT1
      have e9i : i = 10 := by omega
      have hv1 : T1 2 0 = nI v := by rw [hT1]; exact (congrFun (itN_f (F := ted j) 2 (fun k S => ted_f (by decide)) _ i) 0).trans hv
      refine am_go hF sgX4_end_7_015f5 10 [(0, .ref (224 + j)), (1, .int (nI i))] [.int 10, .int (nI i)] sgX4_end_7_015f5d rfl ?_
      refine am_icmpge hF 34 dX4_end_10 (by decide) (fun _ => ?_) (fun h9 => False.elim (absurd (nc_ge (show 10 ≤ i by omega) (by omega) (by omega) rfl rfl) h9))
      exact am_vret hF hO hret dX4_end_34 ⟨by rw [hT1, e9i]; rfl, rfl⟩
    | succ di ih7 =>
      intro i T1 hi hT1
      have l9i : i < 10 := by omega
      have hv1 : T1 2 0 = nI v := by rw [hT1]; exact (congrFun (itN_f (F := ted j) 2 (fun k S => ted_f (by decide)) _ i) 0).trans hv
      refine am_go hF sgX4_end_7_015f5 10 [(0, .ref (224 + j)), (1, .int (nI i))] [.int 10, .int (nI i)] sgX4_end_7_015f5d rfl ?_
      refine am_icmpge hF 34 dX4_end_10 (by decide) (fun h9 => False.elim (nc_lt_f (show i < 10 by omega) (by omega) (by omega) rfl rfl h9)) (fun _ => ?_)
      refine am_go hF sgX4_end_13_8bcf7 15 [(0, .ref (224 + j)), (1, .int (nI i))] [.int (nI i), .ref (224 + j)] sgX4_end_13_8bcf7d rfl ?_
      refine am_dV hF hO [.int (nI i)] [] (c_hasDigest (v := v) (j := j) (l := i) hv1 hv80 (show j < v by omega) (show i < 10 by omega)) myX4_hasDigest vyX4_hasDigest lm_RX4_33 (hp_day _ _ _ hv1 hv80 (show j < v by omega)) rfl rfl 0 0 ⟨Nat.le_of_ble_eq_true rfl, Nat.le_of_ble_eq_true rfl⟩ ⟨Nat.le_of_ble_eq_true rfl, Nat.le_of_ble_eq_true rfl, Nat.le_of_ble_eq_true rfl, Nat.le_of_ble_eq_true rfl⟩ rfl (am_lv_ref (hp_day _ _ _ hv1 hv80 (show j < v by omega)) (am_lv_int am_lv_nil)) (Nat.le_of_ble_eq_true rfl) dX4_end_15 [.int (zb (decide (¬ T1 34 (10 * j + i) = 0)))] rfl ?_
      refine am_ifeq hF 28 dX4_end_18 (by decide) (fun c3 => ?_) (fun c3 => ?_)
      · skip
        replace c3 := Decidable.not_not.mp (of_decide_eq_false (zb_0.mp c3))
        refine am_go hF sgX4_end_28_4d3f8 7 [(1, .int ((nI i) + 1)), (0, .ref (224 + j))] [] sgX4_end_28_4d3f8d rfl ?_
        refine am_drop [1, 0] [(0, .ref (224 + j)), (1, .int ((nI i) + 1))] rfl ?_
        refine am_eqL [(0, .ref (224 + j)), (1, .int (nI (i + 1)))] (by rw [nI_1]) ?_
        exact ih7 (i + 1) T1 (by omega) (by show _ = ted j i (itN (ted j) (st1 T 37 j 1) i); rw [← hT1]; simp only [ted, Bool.false_eq_true, not_false_eq_true, not_true_eq_false, and_self, and_true, true_and, and_false, false_and, true_or, or_true, or_false, false_or, or_self, (eq_true c3), ↓reduceIte])
      · skip
        replace c3 := of_decide_eq_true (zb_p.mp c3)
        refine am_go hF sgX4_end_21_34db8 22 [(0, .ref (224 + j)), (1, .int (nI i))] [.ref (224 + j)] sgX4_end_21_34db8d rfl ?_
        refine am_getf hF (hp_day T1 S o hv1 hv80 (show j < v by omega)) (T := TX4) (N := 5) rfl (inG 4 inG4) 2 (by decide) (List.mem_cons_of_mem _ lf_RX4_15) rfl (.ref (384 + j)) rfl dX4_end_22 ?_
        refine am_go hF sgX4_end_25_d3633 27 [(0, .ref (224 + j)), (1, .int (nI i))] [.int 1, .int (nI i), .ref (384 + j)] sgX4_end_25_d3633d rfl ?_
        refine am_iast hF (hp_ded T1 S o hv1 hv80 (show j < v by omega)) i rfl (show i < 10 by omega) (by decide) dX4_end_27 ?_
        refine am_eqX (hp (st1 T1 35 (10 * j + i) 1) S o) (hp_s35 (T := T1) hv1 hv80 (show j < v by omega) (j := i) (show i < 10 by omega) 1) ?_
        refine am_go hF sgX4_end_28_4d3f8 7 [(1, .int ((nI i) + 1)), (0, .ref (224 + j))] [] sgX4_end_28_4d3f8d rfl ?_
        refine am_drop [1, 0] [(0, .ref (224 + j)), (1, .int ((nI i) + 1))] rfl ?_
        refine am_eqL [(0, .ref (224 + j)), (1, .int (nI (i + 1)))] (by rw [nI_1]) ?_
        exact ih7 (i + 1) (st1 T1 35 (10 * j + i) 1) (by omega) (by show _ = ted j i (itN (ted j) (st1 T 37 j 1) i); rw [← hT1]; simp only [ted, Bool.false_eq_true, not_false_eq_true, not_true_eq_false, and_self, and_true, true_and, and_false, false_and, true_or, or_true, or_false, false_or, or_self, c3, ↓reduceIte])
  exact lp7 10 0 (st1 T 37 j 1) (by omega) rfl
set_option maxRecDepth 100000 in
set_option maxHeartbeats 4000000 in
theorem c_settle1 {G : am_S} {T S : am_T} {o : Nat → Int64} {v j : Nat} (hv : T 2 0 = nI v) (hv80 : v ≤ 80) (hj : j < v) : am_D G yX4_settleEditions (.code yX4_settleEditions cX4_settleEditions 2 none :: am_G) { frames := 1, cells := 0, slots := 0, locals := 21 } (hp T S o) [.ref (224 + j)] (hp (tSet T j) S o) none := by
  refine am_of (by decide +kernel) (Nat.le_of_ble_eq_true rfl) ?_
  intro C hse hret hname hF hO
  subst hse
  refine am_go hF sgX4_settleEditions_0_67c14 2 [(1, .int 0), (0, .ref (224 + j))] [] sgX4_settleEditions_0_67c14d rfl ?_
  refine am_drop [1, 0] [(0, .ref (224 + j)), (1, .int 0)] rfl ?_
  have lp2 : ∀ (di i : Nat) (T1 : am_T), i + di = 10 → T1 = itN (tse j) T i → am_W C (hp T1 S o) 0 0 2 [(0, .ref (224 + j)), (1, .int (nI i))] [] := by
    intro di
    induction di with
    | zero =>
      intro i T1 hi hT1
      have e9i : i = 10 := by omega
      have hv1 : T1 2 0 = nI v := by rw [hT1]; exact (congrFun (itN_f (F := tse j) 2 (fun k S => tse_f (by decide)) _ i) 0).trans hv
      refine am_go hF sgX4_settleEditions_2_015f5 5 [(0, .ref (224 + j)), (1, .int (nI i))] [.int 10, .int (nI i)] sgX4_settleEditions_2_015f5d rfl ?_
      refine am_icmpge hF 35 dX4_settleEditions_5 (by decide) (fun _ => ?_) (fun h9 => False.elim (absurd (nc_ge (show 10 ≤ i by omega) (by omega) (by omega) rfl rfl) h9))
      refine am_go hF sgX4_settleEditions_35_9cf18 37 [(0, .ref (224 + j)), (1, .int (nI i))] [.int 0, .ref (224 + j)] sgX4_settleEditions_35_9cf18d rfl ?_
      refine am_putf hF (hp_day T1 S o hv1 hv80 (show j < v by omega)) (T := TX4) (N := 5) rfl (inG 4 inG4) tyX4 tyX4_ok nmX4 3 (by decide) (List.mem_cons_of_mem _ lf_RX4_18) rfl (Or.inl rfl) rfl rfl (Nat.le_of_ble_eq_true rfl) dX4_settleEditions_37 ?_
      refine am_eqX (hp (st1 T1 36 j 0) S o) (hp_s36 (T := T1) hv1 hv80 (show j < v by omega) 0) ?_
      exact am_vret hF hO hret dX4_settleEditions_40 ⟨by rw [hT1, e9i]; rfl, rfl⟩
    | succ di ih2 =>
      intro i T1 hi hT1
      have l9i : i < 10 := by omega
      have hv1 : T1 2 0 = nI v := by rw [hT1]; exact (congrFun (itN_f (F := tse j) 2 (fun k S => tse_f (by decide)) _ i) 0).trans hv
      refine am_go hF sgX4_settleEditions_2_015f5 5 [(0, .ref (224 + j)), (1, .int (nI i))] [.int 10, .int (nI i)] sgX4_settleEditions_2_015f5d rfl ?_
      refine am_icmpge hF 35 dX4_settleEditions_5 (by decide) (fun h9 => False.elim (nc_lt_f (show i < 10 by omega) (by omega) (by omega) rfl rfl h9)) (fun _ => ?_)
      refine am_go hF sgX4_settleEditions_8_34db8 9 [(0, .ref (224 + j)), (1, .int (nI i))] [.ref (224 + j)] sgX4_settleEditions_8_34db8d rfl ?_
      refine am_getf hF (hp_day T1 S o hv1 hv80 (show j < v by omega)) (T := TX4) (N := 5) rfl (inG 4 inG4) 3 (by decide) (List.mem_cons_of_mem _ lf_RX4_18) rfl (.int (T1 36 j)) rfl dX4_settleEditions_9 ?_
      refine am_go hF sgX4_settleEditions_12_840bf 13 [(0, .ref (224 + j)), (1, .int (nI i))] [.int (nI i), .int (T1 36 j)] sgX4_settleEditions_12_840bfd rfl ?_
      refine am_dSN hF hO [.int (T1 36 j), .int (nI i)] [] (c_contains (show i < 32 by omega)) myX5_contains syX5_contains (by decide +kernel) rfl 0 0 ⟨Nat.le_of_ble_eq_true rfl, Nat.le_of_ble_eq_true rfl⟩ ⟨Nat.le_of_ble_eq_true rfl, Nat.le_of_ble_eq_true rfl, Nat.le_of_ble_eq_true rfl, Nat.le_of_ble_eq_true rfl⟩ rfl (am_lv_ref (hp_day _ _ _ hv1 hv80 (show j < v by omega)) (am_lv_int am_lv_nil)) (Nat.le_of_ble_eq_true rfl) dX4_settleEditions_13 [.int (zb (bt (T1 36 j) i))] rfl ?_
      refine am_ifeq hF 29 dX4_settleEditions_16 (by decide) (fun c3 => ?_) (fun c3 => ?_)
      · skip
        replace c3 := zb_0.mp c3
        refine am_go hF sgX4_settleEditions_29_c4b17 2 [(1, .int ((nI i) + 1)), (0, .ref (224 + j))] [] sgX4_settleEditions_29_c4b17d rfl ?_
        refine am_drop [1, 0] [(0, .ref (224 + j)), (1, .int ((nI i) + 1))] rfl ?_
        refine am_eqL [(0, .ref (224 + j)), (1, .int (nI (i + 1)))] (by rw [nI_1]) ?_
        exact ih2 (i + 1) T1 (by omega) (by show _ = tse j i (itN (tse j) T i); rw [← hT1]; simp only [tse, Bool.false_eq_true, not_false_eq_true, not_true_eq_false, and_self, and_true, true_and, and_false, false_and, true_or, or_true, or_false, false_or, or_self, c3, ↓reduceIte])
      · skip
        replace c3 := zb_p.mp c3
        refine am_go hF sgX4_settleEditions_19_34db8 20 [(0, .ref (224 + j)), (1, .int (nI i))] [.ref (224 + j)] sgX4_settleEditions_19_34db8d rfl ?_
        refine am_getf hF (hp_day T1 S o hv1 hv80 (show j < v by omega)) (T := TX4) (N := 5) rfl (inG 4 inG4) 2 (by decide) (List.mem_cons_of_mem _ lf_RX4_15) rfl (.ref (384 + j)) rfl dX4_settleEditions_20 ?_
        refine am_go hF sgX4_settleEditions_23_563cd 25 [(0, .ref (224 + j)), (1, .int (nI i))] [.int (nI i), .ref (384 + j), .int (nI i), .ref (384 + j)] sgX4_settleEditions_23_563cdd rfl ?_
        refine am_iald hF (hp_ded T1 S o hv1 hv80 (show j < v by omega)) i rfl (show i < 10 by omega) (by decide) dX4_settleEditions_25 ?_
        refine am_top (T1 35 (10 * j + i)) (if_pos (show i < 10 by omega)) ?_
        refine am_go hF sgX4_settleEditions_26_c7176 28 [(0, .ref (224 + j)), (1, .int (nI i))] [.int ((T1 35 (10 * j + i)) + 1), .int (nI i), .ref (384 + j)] sgX4_settleEditions_26_c7176d rfl ?_
        refine am_iast hF (hp_ded T1 S o hv1 hv80 (show j < v by omega)) i rfl (show i < 10 by omega) (by decide) dX4_settleEditions_28 ?_
        refine am_eqX (hp (st1 T1 35 (10 * j + i) ((T1 35 (10 * j + i)) + 1)) S o) (hp_s35 (T := T1) hv1 hv80 (show j < v by omega) (j := i) (show i < 10 by omega) ((T1 35 (10 * j + i)) + 1)) ?_
        refine am_go hF sgX4_settleEditions_29_c4b17 2 [(1, .int ((nI i) + 1)), (0, .ref (224 + j))] [] sgX4_settleEditions_29_c4b17d rfl ?_
        refine am_drop [1, 0] [(0, .ref (224 + j)), (1, .int ((nI i) + 1))] rfl ?_
        refine am_eqL [(0, .ref (224 + j)), (1, .int (nI (i + 1)))] (by rw [nI_1]) ?_
        exact ih2 (i + 1) (st1 T1 35 (10 * j + i) ((T1 35 (10 * j + i)) + 1)) (by omega) (by show _ = tse j i (itN (tse j) T i); rw [← hT1]; simp only [tse, Bool.false_eq_true, not_false_eq_true, not_true_eq_false, and_self, and_true, true_and, and_false, false_and, true_or, or_true, or_false, false_or, or_self, c3, ↓reduceIte])
  exact lp2 10 0 T (by omega) rfl
set_option maxRecDepth 100000 in
set_option maxHeartbeats 4000000 in
theorem c_listsDown {G : am_S} {T S : am_T} {o : Nat → Int64} {n : Nat} (hn : T 0 0 = nI n) (hn10 : n ≤ 10) {l : Nat} (hl : l < n) : am_D G yX5_listsDown (.code yX5_listsDown cX5_listsDown 5 (some .int) :: am_G) { frames := 1, cells := 0, slots := 0, locals := 21 } (hp T S o) [.ref 0, .int (nI l)] (hp T S o) (some (.int (tDown T n l))) := by
  refine am_of (by decide +kernel) (Nat.le_of_ble_eq_true rfl) ?_
  intro C hse hret hname hF hO
  subst hse
  refine am_go hF sgX5_listsDown_0_840bf 1 [(0, .ref 0), (1, .int (nI l))] [.int (nI l)] sgX5_listsDown_0_840bfd rfl ?_
  refine am_dS hF hO [.int (nI l)] [] (c_bit) myX5_bit syX5_bit lm_RX5_115 rfl 0 0 ⟨Nat.le_of_ble_eq_true rfl, Nat.le_of_ble_eq_true rfl⟩ ⟨Nat.le_of_ble_eq_true rfl, Nat.le_of_ble_eq_true rfl, Nat.le_of_ble_eq_true rfl, Nat.le_of_ble_eq_true rfl⟩ rfl (am_lv_ref (hp_main _ _ _) (am_lv_int am_lv_nil)) (Nat.le_of_ble_eq_true rfl) dX5_listsDown_1 [.int ((1 : Int32) <<< (nI l &&& 31))] rfl ?_
  refine am_go hF sgX5_listsDown_4_7e279 7 [(3, .int 0), (2, .int ((1 : Int32) <<< (nI l &&& 31))), (0, .ref 0), (1, .int (nI l))] [] sgX5_listsDown_4_7e279d rfl ?_
  refine am_drop [2, 3, 1, 0] [(0, .ref 0), (1, .int (nI l)), (2, .int ((1 : Int32) <<< (nI l &&& 31))), (3, .int 0)] rfl ?_
  have lp7 : ∀ (dr r : Nat) (a : Int32), r + dr = n → a = itN (fun _ s => itN (td1 T) s n) ((1 : Int32) <<< (nI l &&& 31)) r → am_W C (hp T S o) 0 0 7 [(0, .ref 0), (1, .int (nI l)), (2, .int a), (3, .int (nI r))] [] := by
    intro dr
    induction dr with
    | zero =>
      intro r a hr ha
      have e9r : r = n := by omega
      refine am_go hF sgX5_listsDown_7_a1b5b 9 [(0, .ref 0), (1, .int (nI l)), (2, .int a), (3, .int (nI r))] [.ref 0, .int (nI r)] sgX5_listsDown_7_a1b5bd rfl ?_
      refine am_getf hF (hp_main T S o) (T := TX5) (N := 9) rfl (inG 5 inG5) 3 (by decide) (List.mem_cons_of_mem _ lf_RX5_25) rfl (.int (T 0 0)) rfl dX5_listsDown_9 ?_
      refine am_top (nI n) hn ?_
      refine am_icmpge hF 61 dX5_listsDown_12 (by decide) (fun _ => ?_) (fun h9 => False.elim (absurd (nc_ge (show n ≤ r by omega) (by omega) (by omega) rfl rfl) h9))
      refine am_go hF sgX5_listsDown_61_f8a59 62 [(0, .ref 0), (1, .int (nI l)), (2, .int a), (3, .int (nI r))] [.int a] sgX5_listsDown_61_f8a59d rfl ?_
      exact am_iret hF hO hret rfl dX5_listsDown_62 ⟨rfl, (by first | (rw [ha, e9r]; done) | (rw [ha, e9r]; rfl))⟩
    | succ dr ih7 =>
      intro r a hr ha
      have l9r : r < n := by omega
      refine am_go hF sgX5_listsDown_7_a1b5b 9 [(0, .ref 0), (1, .int (nI l)), (2, .int a), (3, .int (nI r))] [.ref 0, .int (nI r)] sgX5_listsDown_7_a1b5bd rfl ?_
      refine am_getf hF (hp_main T S o) (T := TX5) (N := 9) rfl (inG 5 inG5) 3 (by decide) (List.mem_cons_of_mem _ lf_RX5_25) rfl (.int (T 0 0)) rfl dX5_listsDown_9 ?_
      refine am_top (nI n) hn ?_
      refine am_icmpge hF 61 dX5_listsDown_12 (by decide) (fun h9 => False.elim (nc_lt_f (show r < n by omega) (by omega) (by omega) rfl rfl h9)) (fun _ => ?_)
      refine am_go hF sgX5_listsDown_15_b1161 18 [(4, .int 0), (0, .ref 0), (1, .int (nI l)), (2, .int a), (3, .int (nI r))] [] sgX5_listsDown_15_b1161d rfl ?_
      refine am_drop [1, 2, 3, 4, 0] [(0, .ref 0), (1, .int (nI l)), (2, .int a), (3, .int (nI r)), (4, .int 0)] rfl ?_
      have lp18 : ∀ (dj j : Nat) (b : Int32), j + dj = n → b = itN (td1 T) a j → am_W C (hp T S o) 0 0 18 [(0, .ref 0), (1, .int (nI l)), (2, .int b), (3, .int (nI r)), (4, .int (nI j))] [] := by
        intro dj
        induction dj with
        | zero =>
          intro j b hj hb
          have e9j : j = n := by omega
          refine am_go hF sgX5_listsDown_18_49a24 21 [(0, .ref 0), (1, .int (nI l)), (2, .int b), (3, .int (nI r)), (4, .int (nI j))] [.ref 0, .int (nI j)] sgX5_listsDown_18_49a24d rfl ?_
          refine am_getf hF (hp_main T S o) (T := TX5) (N := 9) rfl (inG 5 inG5) 3 (by decide) (List.mem_cons_of_mem _ lf_RX5_25) rfl (.int (T 0 0)) rfl dX5_listsDown_21 ?_
          refine am_top (nI n) hn ?_
          refine am_icmpge hF 55 dX5_listsDown_24 (by decide) (fun _ => ?_) (fun h9 => False.elim (absurd (nc_ge (show n ≤ j by omega) (by omega) (by omega) rfl rfl) h9))
          refine am_go hF sgX5_listsDown_55_efa23 7 [(3, .int ((nI r) + 1)), (0, .ref 0), (1, .int (nI l)), (2, .int b), (4, .int (nI j))] [] sgX5_listsDown_55_efa23d rfl ?_
          refine am_drop [1, 2, 3, 0] [(0, .ref 0), (1, .int (nI l)), (2, .int b), (3, .int ((nI r) + 1))] rfl ?_
          refine am_eqL [(0, .ref 0), (1, .int (nI l)), (2, .int b), (3, .int (nI (r + 1)))] (by rw [nI_1]) ?_
          exact ih7 (r + 1) b (by omega) (by first | (rw [hb, e9j, ha]; done) | (rw [hb, e9j, ha]; rfl))
        | succ dj ih18 =>
          intro j b hj hb
          have l9j : j < n := by omega
          refine am_go hF sgX5_listsDown_18_49a24 21 [(0, .ref 0), (1, .int (nI l)), (2, .int b), (3, .int (nI r)), (4, .int (nI j))] [.ref 0, .int (nI j)] sgX5_listsDown_18_49a24d rfl ?_
          refine am_getf hF (hp_main T S o) (T := TX5) (N := 9) rfl (inG 5 inG5) 3 (by decide) (List.mem_cons_of_mem _ lf_RX5_25) rfl (.int (T 0 0)) rfl dX5_listsDown_21 ?_
          refine am_top (nI n) hn ?_
          refine am_icmpge hF 55 dX5_listsDown_24 (by decide) (fun h9 => False.elim (nc_lt_f (show j < n by omega) (by omega) (by omega) rfl rfl h9)) (fun _ => ?_)
          refine am_go hF sgX5_listsDown_27_62b07 30 [(0, .ref 0), (1, .int (nI l)), (2, .int b), (3, .int (nI r)), (4, .int (nI j))] [.int (nI j), .int b] sgX5_listsDown_27_62b07d rfl ?_
          refine am_dS hF hO [.int b, .int (nI j)] [] (c_contains (show j < 32 by omega)) myX5_contains syX5_contains lm_RX5_103 rfl 0 0 ⟨Nat.le_of_ble_eq_true rfl, Nat.le_of_ble_eq_true rfl⟩ ⟨Nat.le_of_ble_eq_true rfl, Nat.le_of_ble_eq_true rfl, Nat.le_of_ble_eq_true rfl, Nat.le_of_ble_eq_true rfl⟩ rfl (am_lv_ref (hp_main _ _ _) (am_lv_int (am_lv_int (am_lv_int (am_lv_int am_lv_nil))))) (Nat.le_of_ble_eq_true rfl) dX5_listsDown_30 [.int (zb (bt b j))] rfl ?_
          refine am_ifeq hF 49 dX5_listsDown_33 (by decide) (fun c5 => ?_) (fun c5 => ?_)
          · skip
            replace c5 := zb_0.mp c5
            refine am_go hF sgX5_listsDown_49_fb44b 18 [(4, .int ((nI j) + 1)), (0, .ref 0), (1, .int (nI l)), (2, .int b), (3, .int (nI r))] [] sgX5_listsDown_49_fb44bd rfl ?_
            refine am_drop [1, 2, 3, 4, 0] [(0, .ref 0), (1, .int (nI l)), (2, .int b), (3, .int (nI r)), (4, .int ((nI j) + 1))] rfl ?_
            refine am_eqL [(0, .ref 0), (1, .int (nI l)), (2, .int b), (3, .int (nI r)), (4, .int (nI (j + 1)))] (by rw [nI_1]) ?_
            exact ih18 (j + 1) b (by omega) (by show _ = td1 T j (itN (td1 T) a j); rw [← hb]; simp only [td1, Bool.false_eq_true, not_false_eq_true, not_true_eq_false, and_self, and_true, true_and, and_false, false_and, true_or, or_true, or_false, false_or, or_self, c5, ↓reduceIte])
          · skip
            replace c5 := zb_p.mp c5
            refine am_go hF sgX5_listsDown_36_14491 38 [(0, .ref 0), (1, .int (nI l)), (2, .int b), (3, .int (nI r)), (4, .int (nI j))] [.ref 0, .int b] sgX5_listsDown_36_14491d rfl ?_
            refine am_getf hF (hp_main T S o) (T := TX5) (N := 9) rfl (inG 5 inG5) 2 (by decide) (List.mem_cons_of_mem _ lf_RX5_21) rfl (.ref 3) rfl dX5_listsDown_38 ?_
            refine am_go hF sgX5_listsDown_41_c6742 43 [(0, .ref 0), (1, .int (nI l)), (2, .int b), (3, .int (nI r)), (4, .int (nI j))] [.int (nI j), .ref 3, .int b] sgX5_listsDown_41_c6742d rfl ?_
            refine cv_lists hF hn hn10 j rfl (show j < n by omega) dX5_listsDown_43 ?_
            refine am_getf hF (hp_list T S o hn hn10 (show j < n by omega)) (T := TX2) (N := 8) rfl (inG 2 inG2) 3 (by decide) (List.mem_cons_of_mem _ lf_RX5_100) rfl (.int (T 13 j)) rfl dX5_listsDown_44 ?_
            refine am_go hF sgX5_listsDown_47_103dd 18 [(4, .int ((nI j) + 1)), (2, .int (b ||| (T 13 j))), (0, .ref 0), (1, .int (nI l)), (3, .int (nI r))] [] sgX5_listsDown_47_103ddd rfl ?_
            refine am_drop [2, 3, 1, 4, 0] [(0, .ref 0), (1, .int (nI l)), (2, .int (b ||| (T 13 j))), (3, .int (nI r)), (4, .int ((nI j) + 1))] rfl ?_
            refine am_eqL [(0, .ref 0), (1, .int (nI l)), (2, .int (b ||| (T 13 j))), (3, .int (nI r)), (4, .int (nI (j + 1)))] (by rw [nI_1]) ?_
            exact ih18 (j + 1) (b ||| (T 13 j)) (by omega) (by show _ = td1 T j (itN (td1 T) a j); rw [← hb]; simp only [td1, Bool.false_eq_true, not_false_eq_true, not_true_eq_false, and_self, and_true, true_and, and_false, false_and, true_or, or_true, or_false, false_or, or_self, c5, ↓reduceIte])
      exact lp18 n 0 a (by omega) rfl
  exact lp7 n 0 ((1 : Int32) <<< (nI l &&& 31)) (by omega) rfl
set_option maxRecDepth 100000 in
set_option maxHeartbeats 4000000 in
theorem c_listsUp {G : am_S} {T S : am_T} {o : Nat → Int64} {n : Nat} (hn : T 0 0 = nI n) (hn10 : n ≤ 10) {l : Nat} (hl : l < n) : am_D G yX5_listsUp (.code yX5_listsUp cX5_listsUp 5 (some .int) :: am_G) { frames := 1, cells := 0, slots := 0, locals := 20 } (hp T S o) [.ref 0, .int (nI l)] (hp T S o) (some (.int (tUp T n l))) := by
  refine am_of (by decide +kernel) (Nat.le_of_ble_eq_true rfl) ?_
  intro C hse hret hname hF hO
  subst hse
  refine am_go hF sgX5_listsUp_0_840bf 1 [(0, .ref 0), (1, .int (nI l))] [.int (nI l)] sgX5_listsUp_0_840bfd rfl ?_
  refine am_dS hF hO [.int (nI l)] [] (c_bit) myX5_bit syX5_bit lm_RX5_115 rfl 0 0 ⟨Nat.le_of_ble_eq_true rfl, Nat.le_of_ble_eq_true rfl⟩ ⟨Nat.le_of_ble_eq_true rfl, Nat.le_of_ble_eq_true rfl, Nat.le_of_ble_eq_true rfl, Nat.le_of_ble_eq_true rfl⟩ rfl (am_lv_ref (hp_main _ _ _) (am_lv_int am_lv_nil)) (Nat.le_of_ble_eq_true rfl) dX5_listsUp_1 [.int ((1 : Int32) <<< (nI l &&& 31))] rfl ?_
  refine am_go hF sgX5_listsUp_4_7e279 7 [(3, .int 0), (2, .int ((1 : Int32) <<< (nI l &&& 31))), (0, .ref 0), (1, .int (nI l))] [] sgX5_listsUp_4_7e279d rfl ?_
  refine am_drop [2, 3, 1, 0] [(0, .ref 0), (1, .int (nI l)), (2, .int ((1 : Int32) <<< (nI l &&& 31))), (3, .int 0)] rfl ?_
  have lp7 : ∀ (dr r : Nat) (a : Int32), r + dr = n → a = itN (fun _ s => itN (tu1 T) s n) ((1 : Int32) <<< (nI l &&& 31)) r → am_W C (hp T S o) 0 0 7 [(0, .ref 0), (1, .int (nI l)), (2, .int a), (3, .int (nI r))] [] := by
    intro dr
    induction dr with
    | zero =>
      intro r a hr ha
      have e9r : r = n := by omega
      refine am_go hF sgX5_listsUp_7_a1b5b 9 [(0, .ref 0), (1, .int (nI l)), (2, .int a), (3, .int (nI r))] [.ref 0, .int (nI r)] sgX5_listsUp_7_a1b5bd rfl ?_
      refine am_getf hF (hp_main T S o) (T := TX5) (N := 9) rfl (inG 5 inG5) 3 (by decide) (List.mem_cons_of_mem _ lf_RX5_25) rfl (.int (T 0 0)) rfl dX5_listsUp_9 ?_
      refine am_top (nI n) hn ?_
      refine am_icmpge hF 62 dX5_listsUp_12 (by decide) (fun _ => ?_) (fun h9 => False.elim (absurd (nc_ge (show n ≤ r by omega) (by omega) (by omega) rfl rfl) h9))
      refine am_go hF sgX5_listsUp_62_f8a59 63 [(0, .ref 0), (1, .int (nI l)), (2, .int a), (3, .int (nI r))] [.int a] sgX5_listsUp_62_f8a59d rfl ?_
      exact am_iret hF hO hret rfl dX5_listsUp_63 ⟨rfl, (by first | (rw [ha, e9r]; done) | (rw [ha, e9r]; rfl))⟩
    | succ dr ih7 =>
      intro r a hr ha
      have l9r : r < n := by omega
      refine am_go hF sgX5_listsUp_7_a1b5b 9 [(0, .ref 0), (1, .int (nI l)), (2, .int a), (3, .int (nI r))] [.ref 0, .int (nI r)] sgX5_listsUp_7_a1b5bd rfl ?_
      refine am_getf hF (hp_main T S o) (T := TX5) (N := 9) rfl (inG 5 inG5) 3 (by decide) (List.mem_cons_of_mem _ lf_RX5_25) rfl (.int (T 0 0)) rfl dX5_listsUp_9 ?_
      refine am_top (nI n) hn ?_
      refine am_icmpge hF 62 dX5_listsUp_12 (by decide) (fun h9 => False.elim (nc_lt_f (show r < n by omega) (by omega) (by omega) rfl rfl h9)) (fun _ => ?_)
      refine am_go hF sgX5_listsUp_15_b1161 18 [(4, .int 0), (0, .ref 0), (1, .int (nI l)), (2, .int a), (3, .int (nI r))] [] sgX5_listsUp_15_b1161d rfl ?_
      refine am_drop [1, 2, 3, 4, 0] [(0, .ref 0), (1, .int (nI l)), (2, .int a), (3, .int (nI r)), (4, .int 0)] rfl ?_
      have lp18 : ∀ (dj j : Nat) (b : Int32), j + dj = n → b = itN (tu1 T) a j → am_W C (hp T S o) 0 0 18 [(0, .ref 0), (1, .int (nI l)), (2, .int b), (3, .int (nI r)), (4, .int (nI j))] [] := by
        intro dj
        induction dj with
        | zero =>
          intro j b hj hb
          have e9j : j = n := by omega
          refine am_go hF sgX5_listsUp_18_49a24 21 [(0, .ref 0), (1, .int (nI l)), (2, .int b), (3, .int (nI r)), (4, .int (nI j))] [.ref 0, .int (nI j)] sgX5_listsUp_18_49a24d rfl ?_
          refine am_getf hF (hp_main T S o) (T := TX5) (N := 9) rfl (inG 5 inG5) 3 (by decide) (List.mem_cons_of_mem _ lf_RX5_25) rfl (.int (T 0 0)) rfl dX5_listsUp_21 ?_
          refine am_top (nI n) hn ?_
          refine am_icmpge hF 56 dX5_listsUp_24 (by decide) (fun _ => ?_) (fun h9 => False.elim (absurd (nc_ge (show n ≤ j by omega) (by omega) (by omega) rfl rfl) h9))
          refine am_go hF sgX5_listsUp_56_f1ec8 7 [(3, .int ((nI r) + 1)), (0, .ref 0), (1, .int (nI l)), (2, .int b), (4, .int (nI j))] [] sgX5_listsUp_56_f1ec8d rfl ?_
          refine am_drop [1, 2, 3, 0] [(0, .ref 0), (1, .int (nI l)), (2, .int b), (3, .int ((nI r) + 1))] rfl ?_
          refine am_eqL [(0, .ref 0), (1, .int (nI l)), (2, .int b), (3, .int (nI (r + 1)))] (by rw [nI_1]) ?_
          exact ih7 (r + 1) b (by omega) (by first | (rw [hb, e9j, ha]; done) | (rw [hb, e9j, ha]; rfl))
        | succ dj ih18 =>
          intro j b hj hb
          have l9j : j < n := by omega
          refine am_go hF sgX5_listsUp_18_49a24 21 [(0, .ref 0), (1, .int (nI l)), (2, .int b), (3, .int (nI r)), (4, .int (nI j))] [.ref 0, .int (nI j)] sgX5_listsUp_18_49a24d rfl ?_
          refine am_getf hF (hp_main T S o) (T := TX5) (N := 9) rfl (inG 5 inG5) 3 (by decide) (List.mem_cons_of_mem _ lf_RX5_25) rfl (.int (T 0 0)) rfl dX5_listsUp_21 ?_
          refine am_top (nI n) hn ?_
          refine am_icmpge hF 56 dX5_listsUp_24 (by decide) (fun h9 => False.elim (nc_lt_f (show j < n by omega) (by omega) (by omega) rfl rfl h9)) (fun _ => ?_)
          refine am_go hF sgX5_listsUp_27_34db8 28 [(0, .ref 0), (1, .int (nI l)), (2, .int b), (3, .int (nI r)), (4, .int (nI j))] [.ref 0] sgX5_listsUp_27_34db8d rfl ?_
          refine am_getf hF (hp_main T S o) (T := TX5) (N := 9) rfl (inG 5 inG5) 2 (by decide) (List.mem_cons_of_mem _ lf_RX5_21) rfl (.ref 3) rfl dX5_listsUp_28 ?_
          refine am_go hF sgX5_listsUp_31_c6742 33 [(0, .ref 0), (1, .int (nI l)), (2, .int b), (3, .int (nI r)), (4, .int (nI j))] [.int (nI j), .ref 3] sgX5_listsUp_31_c6742d rfl ?_
          refine cv_lists hF hn hn10 j rfl (show j < n by omega) dX5_listsUp_33 ?_
          refine am_getf hF (hp_list T S o hn hn10 (show j < n by omega)) (T := TX2) (N := 8) rfl (inG 2 inG2) 3 (by decide) (List.mem_cons_of_mem _ lf_RX5_100) rfl (.int (T 13 j)) rfl dX5_listsUp_34 ?_
          refine am_go hF sgX5_listsUp_37_322ad 39 [(0, .ref 0), (1, .int (nI l)), (2, .int b), (3, .int (nI r)), (4, .int (nI j))] [.int ((T 13 j) &&& b)] sgX5_listsUp_37_322add rfl ?_
          refine am_ifeq hF 50 dX5_listsUp_39 (by decide) (fun c5 => ?_) (fun c5 => ?_)
          · skip
            refine am_go hF sgX5_listsUp_50_b5132 18 [(4, .int ((nI j) + 1)), (0, .ref 0), (1, .int (nI l)), (2, .int b), (3, .int (nI r))] [] sgX5_listsUp_50_b5132d rfl ?_
            refine am_drop [1, 2, 3, 4, 0] [(0, .ref 0), (1, .int (nI l)), (2, .int b), (3, .int (nI r)), (4, .int ((nI j) + 1))] rfl ?_
            refine am_eqL [(0, .ref 0), (1, .int (nI l)), (2, .int b), (3, .int (nI r)), (4, .int (nI (j + 1)))] (by rw [nI_1]) ?_
            exact ih18 (j + 1) b (by omega) (by show _ = tu1 T j (itN (tu1 T) a j); rw [← hb]; simp only [tu1, Bool.false_eq_true, not_false_eq_true, not_true_eq_false, and_self, and_true, true_and, and_false, false_and, true_or, or_true, or_false, false_or, or_self, (eq_true c5), ↓reduceIte])
          · skip
            refine am_go hF sgX5_listsUp_42_62b07 45 [(0, .ref 0), (1, .int (nI l)), (2, .int b), (3, .int (nI r)), (4, .int (nI j))] [.int (nI j), .int b] sgX5_listsUp_42_62b07d rfl ?_
            refine am_dS hF hO [.int (nI j)] [.int b] (c_bit) myX5_bit syX5_bit lm_RX5_115 rfl 0 0 ⟨Nat.le_of_ble_eq_true rfl, Nat.le_of_ble_eq_true rfl⟩ ⟨Nat.le_of_ble_eq_true rfl, Nat.le_of_ble_eq_true rfl, Nat.le_of_ble_eq_true rfl, Nat.le_of_ble_eq_true rfl⟩ rfl (am_lv_ref (hp_main _ _ _) (am_lv_int (am_lv_int (am_lv_int (am_lv_int (am_lv_int am_lv_nil)))))) (Nat.le_of_ble_eq_true rfl) dX5_listsUp_45 [.int ((1 : Int32) <<< (nI j &&& 31)), .int b] rfl ?_
            refine am_go hF sgX5_listsUp_48_7b1dd 18 [(4, .int ((nI j) + 1)), (2, .int (b ||| ((1 : Int32) <<< (nI j &&& 31)))), (0, .ref 0), (1, .int (nI l)), (3, .int (nI r))] [] sgX5_listsUp_48_7b1ddd rfl ?_
            refine am_drop [2, 3, 1, 4, 0] [(0, .ref 0), (1, .int (nI l)), (2, .int (b ||| ((1 : Int32) <<< (nI j &&& 31)))), (3, .int (nI r)), (4, .int ((nI j) + 1))] rfl ?_
            refine am_eqL [(0, .ref 0), (1, .int (nI l)), (2, .int (b ||| ((1 : Int32) <<< (nI j &&& 31)))), (3, .int (nI r)), (4, .int (nI (j + 1)))] (by rw [nI_1]) ?_
            exact ih18 (j + 1) (b ||| ((1 : Int32) <<< (nI j &&& 31))) (by omega) (by show _ = tu1 T j (itN (tu1 T) a j); rw [← hb]; simp only [tu1, Bool.false_eq_true, not_false_eq_true, not_true_eq_false, and_self, and_true, true_and, and_false, false_and, true_or, or_true, or_false, false_or, or_self, c5, ↓reduceIte])
      exact lp18 n 0 a (by omega) rfl
  exact lp7 n 0 ((1 : Int32) <<< (nI l &&& 31)) (by omega) rfl
set_option maxRecDepth 100000 in
set_option maxHeartbeats 4000000 in
theorem c_t_membersOf {G : am_S} {T S : am_T} {o : Nat → Int64} {n : Nat} (hn : T 0 0 = nI n) (hn10 : n ≤ 10) {x : Int32} : am_D G yX5_membersOf (.code yX5_membersOf cX5_membersOf 4 (some .int) :: am_G) { frames := 1, cells := 0, slots := 0, locals := 21 } (hp T S o) [.ref 0, .int x] (hp T S o) (some (.int (tMem T n x))) := by
  refine am_of (by decide +kernel) (Nat.le_of_ble_eq_true rfl) ?_
  intro C hse hret hname hF hO
  subst hse
  refine am_go hF sgX5_membersOf_0_24699 4 [(3, .int 0), (2, .int 0), (0, .ref 0), (1, .int x)] [] sgX5_membersOf_0_24699d rfl ?_
  refine am_drop [2, 3, 1, 0] [(0, .ref 0), (1, .int x), (2, .int 0), (3, .int 0)] rfl ?_
  have lp4 : ∀ (zz j : Nat) (a : Int32), j + zz = n → a = itN (tm1 T x) 0 j → am_W C (hp T S o) 0 0 4 [(0, .ref 0), (1, .int x), (2, .int a), (3, .int (nI j))] [] := by
    intro zz
    induction zz with
    | zero =>
      intro j a hj ha
      have e9j : j = n := by omega
      refine am_go hF sgX5_membersOf_4_a1b5b 6 [(0, .ref 0), (1, .int x), (2, .int a), (3, .int (nI j))] [.ref 0, .int (nI j)] sgX5_membersOf_4_a1b5bd rfl ?_
      refine am_getf hF (hp_main T S o) (T := TX5) (N := 9) rfl (inG 5 inG5) 3 (by decide) (List.mem_cons_of_mem _ lf_RX5_25) rfl (.int (T 0 0)) rfl dX5_membersOf_6 ?_
      refine am_top (nI n) hn ?_
      refine am_icmpge hF 38 dX5_membersOf_9 (by decide) (fun _ => ?_) (fun h9 => False.elim (absurd (nc_ge (show n ≤ j by omega) (by omega) (by omega) rfl rfl) h9))
      refine am_go hF sgX5_membersOf_38_f8a59 39 [(0, .ref 0), (1, .int x), (2, .int a), (3, .int (nI j))] [.int a] sgX5_membersOf_38_f8a59d rfl ?_
      exact am_iret hF hO hret rfl dX5_membersOf_39 ⟨rfl, (by first | (rw [ha, e9j]; done) | (rw [ha, e9j]; rfl))⟩
    | succ zz ih4 =>
      intro j a hj ha
      have l9j : j < n := by omega
      refine am_go hF sgX5_membersOf_4_a1b5b 6 [(0, .ref 0), (1, .int x), (2, .int a), (3, .int (nI j))] [.ref 0, .int (nI j)] sgX5_membersOf_4_a1b5bd rfl ?_
      refine am_getf hF (hp_main T S o) (T := TX5) (N := 9) rfl (inG 5 inG5) 3 (by decide) (List.mem_cons_of_mem _ lf_RX5_25) rfl (.int (T 0 0)) rfl dX5_membersOf_6 ?_
      refine am_top (nI n) hn ?_
      refine am_icmpge hF 38 dX5_membersOf_9 (by decide) (fun h9 => False.elim (nc_lt_f (show j < n by omega) (by omega) (by omega) rfl rfl h9)) (fun _ => ?_)
      refine am_go hF sgX5_membersOf_12_20da6 14 [(0, .ref 0), (1, .int x), (2, .int a), (3, .int (nI j))] [.int (nI j), .int x] sgX5_membersOf_12_20da6d rfl ?_
      refine am_dS hF hO [.int x, .int (nI j)] [] (c_contains (show j < 32 by omega)) myX5_contains syX5_contains lm_RX5_103 rfl 0 0 ⟨Nat.le_of_ble_eq_true rfl, Nat.le_of_ble_eq_true rfl⟩ ⟨Nat.le_of_ble_eq_true rfl, Nat.le_of_ble_eq_true rfl, Nat.le_of_ble_eq_true rfl, Nat.le_of_ble_eq_true rfl⟩ rfl (am_lv_ref (hp_main _ _ _) (am_lv_int (am_lv_int (am_lv_int am_lv_nil)))) (Nat.le_of_ble_eq_true rfl) dX5_membersOf_14 [.int (zb (bt x j))] rfl ?_
      refine am_ifeq hF 32 dX5_membersOf_17 (by decide) (fun c3 => ?_) (fun c3 => ?_)
      · skip
        replace c3 := zb_0.mp c3
        refine am_go hF sgX5_membersOf_32_88814 4 [(3, .int ((nI j) + 1)), (0, .ref 0), (1, .int x), (2, .int a)] [] sgX5_membersOf_32_88814d rfl ?_
        refine am_drop [1, 2, 3, 0] [(0, .ref 0), (1, .int x), (2, .int a), (3, .int ((nI j) + 1))] rfl ?_
        refine am_eqL [(0, .ref 0), (1, .int x), (2, .int a), (3, .int (nI (j + 1)))] (by rw [nI_1]) ?_
        exact ih4 (j + 1) a (by omega) (by show _ = tm1 T x j (itN (tm1 T x) 0 j); rw [← ha]; simp only [tm1, Bool.false_eq_true, not_false_eq_true, not_true_eq_false, and_self, and_true, true_and, and_false, false_and, true_or, or_true, or_false, false_or, or_self, c3, ↓reduceIte])
      · skip
        replace c3 := zb_p.mp c3
        refine am_go hF sgX5_membersOf_20_14491 22 [(0, .ref 0), (1, .int x), (2, .int a), (3, .int (nI j))] [.ref 0, .int a] sgX5_membersOf_20_14491d rfl ?_
        refine am_getf hF (hp_main T S o) (T := TX5) (N := 9) rfl (inG 5 inG5) 2 (by decide) (List.mem_cons_of_mem _ lf_RX5_21) rfl (.ref 3) rfl dX5_membersOf_22 ?_
        refine am_go hF sgX5_membersOf_25_13b50 26 [(0, .ref 0), (1, .int x), (2, .int a), (3, .int (nI j))] [.int (nI j), .ref 3, .int a] sgX5_membersOf_25_13b50d rfl ?_
        refine cv_lists hF hn hn10 j rfl (show j < n by omega) dX5_membersOf_26 ?_
        refine am_getf hF (hp_list T S o hn hn10 (show j < n by omega)) (T := TX2) (N := 8) rfl (inG 2 inG2) 1 (by decide) (List.mem_cons_of_mem _ lf_RX5_81) rfl (.int (T 11 j)) rfl dX5_membersOf_27 ?_
        refine am_go hF sgX5_membersOf_30_bc718 4 [(3, .int ((nI j) + 1)), (2, .int (a ||| (T 11 j))), (0, .ref 0), (1, .int x)] [] sgX5_membersOf_30_bc718d rfl ?_
        refine am_drop [2, 3, 1, 0] [(0, .ref 0), (1, .int x), (2, .int (a ||| (T 11 j))), (3, .int ((nI j) + 1))] rfl ?_
        refine am_eqL [(0, .ref 0), (1, .int x), (2, .int (a ||| (T 11 j))), (3, .int (nI (j + 1)))] (by rw [nI_1]) ?_
        exact ih4 (j + 1) (a ||| (T 11 j)) (by omega) (by show _ = tm1 T x j (itN (tm1 T x) 0 j); rw [← ha]; simp only [tm1, Bool.false_eq_true, not_false_eq_true, not_true_eq_false, and_self, and_true, true_and, and_false, false_and, true_or, or_true, or_false, false_or, or_self, c3, ↓reduceIte])
  exact lp4 n 0 0 (by omega) rfl
set_option maxRecDepth 100000 in
set_option maxHeartbeats 4000000 in
theorem c_modeAmong {G : am_S} {T S : am_T} {o : Nat → Int64} {n : Nat} (hn : T 0 0 = nI n) (hn10 : n ≤ 10) {x : Int32} {p : Nat} (hp9 : p < 16) : am_D G yX5_modeAmong (.code yX5_modeAmong cX5_modeAmong 5 (some .int) :: am_G) { frames := 2, cells := 0, slots := 0, locals := 42 } (hp T S o) [.ref 0, .int x, .int (nI p)] (hp T S o) (some (.int (tMode T n x p))) := by
  refine am_of (by decide +kernel) (Nat.le_of_ble_eq_true rfl) ?_
  intro C hse hret hname hF hO
  subst hse
  refine am_go hF sgX5_modeAmong_0_2ec9e 5 [(4, .int 0), (3, .int (-1)), (0, .ref 0), (1, .int x), (2, .int (nI p))] [] sgX5_modeAmong_0_2ec9ed rfl ?_
  refine am_drop [2, 3, 4, 1, 0] [(0, .ref 0), (1, .int x), (2, .int (nI p)), (3, .int (-1)), (4, .int 0)] rfl ?_
  have lp5 : ∀ (zz j : Nat) (a : Int32), j + zz = n → a = itN (tma T x p) (-1) j → (∀ i, i < j → tDir T x p i = false) → am_W C (hp T S o) 0 0 5 [(0, .ref 0), (1, .int x), (2, .int (nI p)), (3, .int a), (4, .int (nI j))] [] := by
    intro zz
    induction zz with
    | zero =>
      intro j a hj ha hq
      have e9j : j = n := by omega
      refine am_go hF sgX5_modeAmong_5_49a24 8 [(0, .ref 0), (1, .int x), (2, .int (nI p)), (3, .int a), (4, .int (nI j))] [.ref 0, .int (nI j)] sgX5_modeAmong_5_49a24d rfl ?_
      refine am_getf hF (hp_main T S o) (T := TX5) (N := 9) rfl (inG 5 inG5) 3 (by decide) (List.mem_cons_of_mem _ lf_RX5_25) rfl (.int (T 0 0)) rfl dX5_modeAmong_8 ?_
      refine am_top (nI n) hn ?_
      refine am_icmpge hF 61 dX5_modeAmong_11 (by decide) (fun _ => ?_) (fun h9 => False.elim (absurd (nc_ge (show n ≤ j by omega) (by omega) (by omega) rfl rfl) h9))
      refine am_go hF sgX5_modeAmong_61_13b50 62 [(0, .ref 0), (1, .int x), (2, .int (nI p)), (3, .int a), (4, .int (nI j))] [.int a] sgX5_modeAmong_61_13b50d rfl ?_
      exact am_iret hF hO hret rfl dX5_modeAmong_62 ⟨rfl, by rw [tMode_no hn10 (by rw [← e9j]; exact hq), ha, e9j]⟩
    | succ zz ih5 =>
      intro j a hj ha hq
      have l9j : j < n := by omega
      refine am_go hF sgX5_modeAmong_5_49a24 8 [(0, .ref 0), (1, .int x), (2, .int (nI p)), (3, .int a), (4, .int (nI j))] [.ref 0, .int (nI j)] sgX5_modeAmong_5_49a24d rfl ?_
      refine am_getf hF (hp_main T S o) (T := TX5) (N := 9) rfl (inG 5 inG5) 3 (by decide) (List.mem_cons_of_mem _ lf_RX5_25) rfl (.int (T 0 0)) rfl dX5_modeAmong_8 ?_
      refine am_top (nI n) hn ?_
      refine am_icmpge hF 61 dX5_modeAmong_11 (by decide) (fun h9 => False.elim (nc_lt_f (show j < n by omega) (by omega) (by omega) rfl rfl h9)) (fun _ => ?_)
      refine am_go hF sgX5_modeAmong_14_f40ee 17 [(0, .ref 0), (1, .int x), (2, .int (nI p)), (3, .int a), (4, .int (nI j))] [.int (nI j), .int x] sgX5_modeAmong_14_f40eed rfl ?_
      refine am_dS hF hO [.int x, .int (nI j)] [] (c_contains (show j < 32 by omega)) myX5_contains syX5_contains lm_RX5_103 rfl 0 0 ⟨Nat.le_of_ble_eq_true rfl, Nat.le_of_ble_eq_true rfl⟩ ⟨Nat.le_of_ble_eq_true rfl, Nat.le_of_ble_eq_true rfl, Nat.le_of_ble_eq_true rfl, Nat.le_of_ble_eq_true rfl⟩ rfl (am_lv_ref (hp_main _ _ _) (am_lv_int (am_lv_int (am_lv_int (am_lv_int am_lv_nil))))) (Nat.le_of_ble_eq_true rfl) dX5_modeAmong_17 [.int (zb (bt x j))] rfl ?_
      refine am_ifeq hF 55 dX5_modeAmong_20 (by decide) (fun c3 => ?_) (fun c3 => ?_)
      · skip
        replace c3 := zb_0.mp c3
        refine am_go hF sgX5_modeAmong_55_02725 5 [(4, .int ((nI j) + 1)), (0, .ref 0), (1, .int x), (2, .int (nI p)), (3, .int a)] [] sgX5_modeAmong_55_02725d rfl ?_
        refine am_drop [1, 2, 3, 4, 0] [(0, .ref 0), (1, .int x), (2, .int (nI p)), (3, .int a), (4, .int ((nI j) + 1))] rfl ?_
        refine am_eqL [(0, .ref 0), (1, .int x), (2, .int (nI p)), (3, .int a), (4, .int (nI (j + 1)))] (by rw [nI_1]) ?_
        exact ih5 (j + 1) a (by omega) (by show _ = tma T x p j (itN (tma T x p) (-1) j); rw [← ha]; simp only [tma, tHas, Bool.true_and, Bool.and_true, Bool.and_false, Bool.false_and, Bool.false_eq_true, not_false_eq_true, not_true_eq_false, and_self, and_true, true_and, and_false, false_and, true_or, or_true, or_false, false_or, or_self, c3, ↓reduceIte]) (fun i hi => by rcases Nat.lt_succ_iff_lt_or_eq.mp hi with h | h; exact hq i h; subst h; simp [tDir, c3])
      · skip
        replace c3 := zb_p.mp c3
        refine am_go hF sgX5_modeAmong_23_34db8 24 [(0, .ref 0), (1, .int x), (2, .int (nI p)), (3, .int a), (4, .int (nI j))] [.ref 0] sgX5_modeAmong_23_34db8d rfl ?_
        refine am_getf hF (hp_main T S o) (T := TX5) (N := 9) rfl (inG 5 inG5) 2 (by decide) (List.mem_cons_of_mem _ lf_RX5_21) rfl (.ref 3) rfl dX5_modeAmong_24 ?_
        refine am_go hF sgX5_modeAmong_27_c6742 29 [(0, .ref 0), (1, .int x), (2, .int (nI p)), (3, .int a), (4, .int (nI j))] [.int (nI j), .ref 3] sgX5_modeAmong_27_c6742d rfl ?_
        refine cv_lists hF hn hn10 j rfl (show j < n by omega) dX5_modeAmong_29 ?_
        refine am_go hF sgX5_modeAmong_30_f8a59 31 [(0, .ref 0), (1, .int x), (2, .int (nI p)), (3, .int a), (4, .int (nI j))] [.int (nI p), .ref (48 + j)] sgX5_modeAmong_30_f8a59d rfl ?_
        refine am_dV hF hO [.int (nI p)] [] (c_hasMember (T := T) hn hn10 (show j < n by omega) (show p < 16 by omega)) myX2_hasMember vyX2_hasMember lm_RX5_71 (hp_list _ _ _ hn hn10 (show j < n by omega)) rfl rfl 0 0 ⟨Nat.le_of_ble_eq_true rfl, Nat.le_of_ble_eq_true rfl⟩ ⟨Nat.le_of_ble_eq_true rfl, Nat.le_of_ble_eq_true rfl, Nat.le_of_ble_eq_true rfl, Nat.le_of_ble_eq_true rfl⟩ rfl (am_lv_ref (hp_main _ _ _) (am_lv_int (am_lv_int (am_lv_int (am_lv_int am_lv_nil))))) (Nat.le_of_ble_eq_true rfl) dX5_modeAmong_31 [.int (zb (bt (T 11 j) p))] rfl ?_
        refine am_ifeq hF 55 dX5_modeAmong_34 (by decide) (fun c4 => ?_) (fun c4 => ?_)
        · skip
          replace c4 := zb_0.mp c4
          refine am_go hF sgX5_modeAmong_55_02725 5 [(4, .int ((nI j) + 1)), (0, .ref 0), (1, .int x), (2, .int (nI p)), (3, .int a)] [] sgX5_modeAmong_55_02725d rfl ?_
          refine am_drop [1, 2, 3, 4, 0] [(0, .ref 0), (1, .int x), (2, .int (nI p)), (3, .int a), (4, .int ((nI j) + 1))] rfl ?_
          refine am_eqL [(0, .ref 0), (1, .int x), (2, .int (nI p)), (3, .int a), (4, .int (nI (j + 1)))] (by rw [nI_1]) ?_
          exact ih5 (j + 1) a (by omega) (by show _ = tma T x p j (itN (tma T x p) (-1) j); rw [← ha]; simp only [tma, tHas, Bool.true_and, Bool.and_true, Bool.and_false, Bool.false_and, Bool.false_eq_true, not_false_eq_true, not_true_eq_false, and_self, and_true, true_and, and_false, false_and, true_or, or_true, or_false, false_or, or_self, c3, c4, ↓reduceIte]) (fun i hi => by rcases Nat.lt_succ_iff_lt_or_eq.mp hi with h | h; exact hq i h; subst h; simp [tDir, c3, c4])
        · skip
          replace c4 := zb_p.mp c4
          refine am_go hF sgX5_modeAmong_37_34db8 38 [(0, .ref 0), (1, .int x), (2, .int (nI p)), (3, .int a), (4, .int (nI j))] [.ref 0] sgX5_modeAmong_37_34db8d rfl ?_
          refine am_getf hF (hp_main T S o) (T := TX5) (N := 9) rfl (inG 5 inG5) 2 (by decide) (List.mem_cons_of_mem _ lf_RX5_21) rfl (.ref 3) rfl dX5_modeAmong_38 ?_
          refine am_go hF sgX5_modeAmong_41_c6742 43 [(0, .ref 0), (1, .int x), (2, .int (nI p)), (3, .int a), (4, .int (nI j))] [.int (nI j), .ref 3] sgX5_modeAmong_41_c6742d rfl ?_
          refine cv_lists hF hn hn10 j rfl (show j < n by omega) dX5_modeAmong_43 ?_
          refine am_go hF sgX5_modeAmong_44_f8a59 45 [(0, .ref 0), (1, .int x), (2, .int (nI p)), (3, .int a), (4, .int (nI j))] [.int (nI p), .ref (48 + j)] sgX5_modeAmong_44_f8a59d rfl ?_
          refine am_dV hF hO [.int (nI p)] [] (c_memberMode (T := T) hn hn10 (show j < n by omega) (show p < 16 by omega)) myX2_memberMode vyX2_memberMode lm_RX5_94 (hp_list _ _ _ hn hn10 (show j < n by omega)) rfl rfl 0 0 ⟨Nat.le_of_ble_eq_true rfl, Nat.le_of_ble_eq_true rfl⟩ ⟨Nat.le_of_ble_eq_true rfl, Nat.le_of_ble_eq_true rfl, Nat.le_of_ble_eq_true rfl, Nat.le_of_ble_eq_true rfl⟩ rfl (am_lv_ref (hp_main _ _ _) (am_lv_int (am_lv_int (am_lv_int (am_lv_int am_lv_nil))))) (Nat.le_of_ble_eq_true rfl) dX5_modeAmong_45 [.int (zb (!bt (T 12 j) p))] rfl ?_
          refine am_ifne hF 53 dX5_modeAmong_48 (by decide) (fun c5 => ?_) (fun c5 => ?_)
          · skip
            replace c5 := zb_np.mp c5
            refine am_go hF sgX5_modeAmong_53_c7993 5 [(4, .int ((nI j) + 1)), (3, .int 1), (0, .ref 0), (1, .int x), (2, .int (nI p))] [] sgX5_modeAmong_53_c7993d rfl ?_
            refine am_drop [2, 3, 4, 1, 0] [(0, .ref 0), (1, .int x), (2, .int (nI p)), (3, .int 1), (4, .int ((nI j) + 1))] rfl ?_
            refine am_eqL [(0, .ref 0), (1, .int x), (2, .int (nI p)), (3, .int 1), (4, .int (nI (j + 1)))] (by rw [nI_1]) ?_
            exact ih5 (j + 1) 1 (by omega) (by show _ = tma T x p j (itN (tma T x p) (-1) j); rw [← ha]; simp only [tma, tHas, Bool.true_and, Bool.and_true, Bool.and_false, Bool.false_and, Bool.false_eq_true, not_false_eq_true, not_true_eq_false, and_self, and_true, true_and, and_false, false_and, true_or, or_true, or_false, false_or, or_self, c3, c4, c5, ↓reduceIte]) (fun i hi => by rcases Nat.lt_succ_iff_lt_or_eq.mp hi with h | h; exact hq i h; subst h; simp [tDir, c3, c4, c5])
          · skip
            replace c5 := zb_n0.mp c5
            refine am_go hF sgX5_modeAmong_51_56c54 52 [(0, .ref 0), (1, .int x), (2, .int (nI p)), (3, .int a), (4, .int (nI j))] [.int 0] sgX5_modeAmong_51_56c54d rfl ?_
            exact am_iret hF hO hret rfl dX5_modeAmong_52 ⟨rfl, by rw [tMode_dir hn10 l9j (by simp [tDir, c3, c4, c5]) hq]⟩
  exact lp5 n 0 (-1) (by omega) rfl (fun i hi => absurd hi (by omega))
set_option maxRecDepth 100000 in
set_option maxHeartbeats 4000000 in
theorem c_lowest {G : am_S} {T S : am_T} {o : Nat → Int64} {n : Nat} (hn : T 0 0 = nI n) (hn10 : n ≤ 10) {x : Int32} {p : Nat} (hp9 : p < 16) : am_D G yX5_lowestWithMember (.code yX5_lowestWithMember cX5_lowestWithMember 4 (some .int) :: am_G) { frames := 2, cells := 0, slots := 0, locals := 42 } (hp T S o) [.ref 0, .int x, .int (nI p)] (hp T S o) (some (.int (tLow T n x p))) := by
  refine am_of (by decide +kernel) (Nat.le_of_ble_eq_true rfl) ?_
  intro C hse hret hname hF hO
  subst hse
  refine am_go hF sgX5_lowestWithMember_0_307f3 2 [(3, .int 0), (0, .ref 0), (1, .int x), (2, .int (nI p))] [] sgX5_lowestWithMember_0_307f3d rfl ?_
  refine am_drop [1, 2, 3, 0] [(0, .ref 0), (1, .int x), (2, .int (nI p)), (3, .int 0)] rfl ?_
  have lp2 : ∀ (zz j : Nat), j + zz = n → (∀ i, i < j → tHas T x p i = false) → am_W C (hp T S o) 0 0 2 [(0, .ref 0), (1, .int x), (2, .int (nI p)), (3, .int (nI j))] [] := by
    intro zz
    induction zz with
    | zero =>
      intro j hj hq
      have e9j : j = n := by omega
      refine am_go hF sgX5_lowestWithMember_2_a1b5b 4 [(0, .ref 0), (1, .int x), (2, .int (nI p)), (3, .int (nI j))] [.ref 0, .int (nI j)] sgX5_lowestWithMember_2_a1b5bd rfl ?_
      refine am_getf hF (hp_main T S o) (T := TX5) (N := 9) rfl (inG 5 inG5) 3 (by decide) (List.mem_cons_of_mem _ lf_RX5_25) rfl (.int (T 0 0)) rfl dX5_lowestWithMember_4 ?_
      refine am_top (nI n) hn ?_
      refine am_icmpge hF 39 dX5_lowestWithMember_7 (by decide) (fun _ => ?_) (fun h9 => False.elim (absurd (nc_ge (show n ≤ j by omega) (by omega) (by omega) rfl rfl) h9))
      refine am_go hF sgX5_lowestWithMember_39_5ff24 40 [(0, .ref 0), (1, .int x), (2, .int (nI p)), (3, .int (nI j))] [.int (-1)] sgX5_lowestWithMember_39_5ff24d rfl ?_
      exact am_iret hF hO hret rfl dX5_lowestWithMember_40 ⟨rfl, by rw [show tLow T n x p = _ from tlo_none (by rw [← e9j]; exact hq)]⟩
    | succ zz ih2 =>
      intro j hj hq
      have l9j : j < n := by omega
      refine am_go hF sgX5_lowestWithMember_2_a1b5b 4 [(0, .ref 0), (1, .int x), (2, .int (nI p)), (3, .int (nI j))] [.ref 0, .int (nI j)] sgX5_lowestWithMember_2_a1b5bd rfl ?_
      refine am_getf hF (hp_main T S o) (T := TX5) (N := 9) rfl (inG 5 inG5) 3 (by decide) (List.mem_cons_of_mem _ lf_RX5_25) rfl (.int (T 0 0)) rfl dX5_lowestWithMember_4 ?_
      refine am_top (nI n) hn ?_
      refine am_icmpge hF 39 dX5_lowestWithMember_7 (by decide) (fun h9 => False.elim (nc_lt_f (show j < n by omega) (by omega) (by omega) rfl rfl h9)) (fun _ => ?_)
      refine am_go hF sgX5_lowestWithMember_10_20da6 12 [(0, .ref 0), (1, .int x), (2, .int (nI p)), (3, .int (nI j))] [.int (nI j), .int x] sgX5_lowestWithMember_10_20da6d rfl ?_
      refine am_dS hF hO [.int x, .int (nI j)] [] (c_contains (show j < 32 by omega)) myX5_contains syX5_contains lm_RX5_103 rfl 0 0 ⟨Nat.le_of_ble_eq_true rfl, Nat.le_of_ble_eq_true rfl⟩ ⟨Nat.le_of_ble_eq_true rfl, Nat.le_of_ble_eq_true rfl, Nat.le_of_ble_eq_true rfl, Nat.le_of_ble_eq_true rfl⟩ rfl (am_lv_ref (hp_main _ _ _) (am_lv_int (am_lv_int (am_lv_int am_lv_nil)))) (Nat.le_of_ble_eq_true rfl) dX5_lowestWithMember_12 [.int (zb (bt x j))] rfl ?_
      refine am_ifeq hF 33 dX5_lowestWithMember_15 (by decide) (fun c3 => ?_) (fun c3 => ?_)
      · skip
        replace c3 := zb_0.mp c3
        refine am_go hF sgX5_lowestWithMember_33_089e0 2 [(3, .int ((nI j) + 1)), (0, .ref 0), (1, .int x), (2, .int (nI p))] [] sgX5_lowestWithMember_33_089e0d rfl ?_
        refine am_drop [1, 2, 3, 0] [(0, .ref 0), (1, .int x), (2, .int (nI p)), (3, .int ((nI j) + 1))] rfl ?_
        refine am_eqL [(0, .ref 0), (1, .int x), (2, .int (nI p)), (3, .int (nI (j + 1)))] (by rw [nI_1]) ?_
        exact ih2 (j + 1) (by omega) (fun i hi => by rcases Nat.lt_succ_iff_lt_or_eq.mp hi with h | h; exact hq i h; subst h; simp [tHas, c3])
      · skip
        replace c3 := zb_p.mp c3
        refine am_go hF sgX5_lowestWithMember_18_34db8 19 [(0, .ref 0), (1, .int x), (2, .int (nI p)), (3, .int (nI j))] [.ref 0] sgX5_lowestWithMember_18_34db8d rfl ?_
        refine am_getf hF (hp_main T S o) (T := TX5) (N := 9) rfl (inG 5 inG5) 2 (by decide) (List.mem_cons_of_mem _ lf_RX5_21) rfl (.ref 3) rfl dX5_lowestWithMember_19 ?_
        refine am_go hF sgX5_lowestWithMember_22_13b50 23 [(0, .ref 0), (1, .int x), (2, .int (nI p)), (3, .int (nI j))] [.int (nI j), .ref 3] sgX5_lowestWithMember_22_13b50d rfl ?_
        refine cv_lists hF hn hn10 j rfl (show j < n by omega) dX5_lowestWithMember_23 ?_
        refine am_go hF sgX5_lowestWithMember_24_f8a59 25 [(0, .ref 0), (1, .int x), (2, .int (nI p)), (3, .int (nI j))] [.int (nI p), .ref (48 + j)] sgX5_lowestWithMember_24_f8a59d rfl ?_
        refine am_dV hF hO [.int (nI p)] [] (c_hasMember (T := T) hn hn10 (show j < n by omega) (show p < 16 by omega)) myX2_hasMember vyX2_hasMember lm_RX5_71 (hp_list _ _ _ hn hn10 (show j < n by omega)) rfl rfl 0 0 ⟨Nat.le_of_ble_eq_true rfl, Nat.le_of_ble_eq_true rfl⟩ ⟨Nat.le_of_ble_eq_true rfl, Nat.le_of_ble_eq_true rfl, Nat.le_of_ble_eq_true rfl, Nat.le_of_ble_eq_true rfl⟩ rfl (am_lv_ref (hp_main _ _ _) (am_lv_int (am_lv_int (am_lv_int am_lv_nil)))) (Nat.le_of_ble_eq_true rfl) dX5_lowestWithMember_25 [.int (zb (bt (T 11 j) p))] rfl ?_
        refine am_ifeq hF 33 dX5_lowestWithMember_28 (by decide) (fun c4 => ?_) (fun c4 => ?_)
        · skip
          replace c4 := zb_0.mp c4
          refine am_go hF sgX5_lowestWithMember_33_089e0 2 [(3, .int ((nI j) + 1)), (0, .ref 0), (1, .int x), (2, .int (nI p))] [] sgX5_lowestWithMember_33_089e0d rfl ?_
          refine am_drop [1, 2, 3, 0] [(0, .ref 0), (1, .int x), (2, .int (nI p)), (3, .int ((nI j) + 1))] rfl ?_
          refine am_eqL [(0, .ref 0), (1, .int x), (2, .int (nI p)), (3, .int (nI (j + 1)))] (by rw [nI_1]) ?_
          exact ih2 (j + 1) (by omega) (fun i hi => by rcases Nat.lt_succ_iff_lt_or_eq.mp hi with h | h; exact hq i h; subst h; simp [tHas, c3, c4])
        · skip
          replace c4 := zb_p.mp c4
          refine am_go hF sgX5_lowestWithMember_31_13b50 32 [(0, .ref 0), (1, .int x), (2, .int (nI p)), (3, .int (nI j))] [.int (nI j)] sgX5_lowestWithMember_31_13b50d rfl ?_
          exact am_iret hF hO hret rfl dX5_lowestWithMember_32 ⟨rfl, by rw [show tLow T n x p = _ from tlo_some (show tHas T x p j = true by simp [tHas, c3, c4]) hq l9j _]⟩
  exact lp2 n 0 (by omega) (fun i hi => absurd hi (by omega))
set_option maxRecDepth 100000 in
set_option maxHeartbeats 4000000 in
theorem c_sentToday {G : am_S} {T S : am_T} {o : Nat → Int64} {m : Nat} (hm : T 1 0 = nI m) (hm80 : m ≤ 80) {v : Nat} (hv : T 2 0 = nI v) (hv80 : v ≤ 80) (hday : ∀ k, k < m → (T 21 k).toNatClampNeg < v) {p : Nat} (hp9 : p < 16) : am_D G yX5_sentToday (.code yX5_sentToday cX5_sentToday 4 (some .int) :: am_G) { frames := 0, cells := 0, slots := 0, locals := 0 } (hp T S o) [.ref 0, .int (nI p)] (hp T S o) (some (.int (tSent T m p))) := by
  refine am_of (by decide +kernel) (Nat.le_of_ble_eq_true rfl) ?_
  intro C hse hret hname hF hO
  subst hse
  refine am_go hF sgX5_sentToday_0_24699 4 [(3, .int 0), (2, .int 0), (0, .ref 0), (1, .int (nI p))] [] sgX5_sentToday_0_24699d rfl ?_
  refine am_drop [2, 3, 1, 0] [(0, .ref 0), (1, .int (nI p)), (2, .int 0), (3, .int 0)] rfl ?_
  have lp4 : ∀ (zz j : Nat) (a : Int32), j + zz = m → a = itN (tst T p) 0 j → am_W C (hp T S o) 0 0 4 [(0, .ref 0), (1, .int (nI p)), (2, .int a), (3, .int (nI j))] [] := by
    intro zz
    induction zz with
    | zero =>
      intro j a hj ha
      have e9j : j = m := by omega
      skip
      refine am_go hF sgX5_sentToday_4_a1b5b 6 [(0, .ref 0), (1, .int (nI p)), (2, .int a), (3, .int (nI j))] [.ref 0, .int (nI j)] sgX5_sentToday_4_a1b5bd rfl ?_
      refine am_getf hF (hp_main T S o) (T := TX5) (N := 9) rfl (inG 5 inG5) 5 (by decide) (List.mem_cons_of_mem _ lf_RX5_35) rfl (.int (T 1 0)) rfl dX5_sentToday_6 ?_
      refine am_top (nI m) hm ?_
      refine am_icmpge hF 53 dX5_sentToday_9 (by decide) (fun _ => ?_) (fun h9 => False.elim (absurd (nc_ge (show m ≤ j by omega) (by omega) (by omega) rfl rfl) h9))
      refine am_go hF sgX5_sentToday_53_f8a59 54 [(0, .ref 0), (1, .int (nI p)), (2, .int a), (3, .int (nI j))] [.int a] sgX5_sentToday_53_f8a59d rfl ?_
      exact am_iret hF hO hret rfl dX5_sentToday_54 ⟨rfl, (by first | (rw [ha, e9j]; done) | (rw [ha, e9j]; rfl))⟩
    | succ zz ih4 =>
      intro j a hj ha
      have l9j : j < m := by omega
      have hd9 := hday j l9j
      refine am_go hF sgX5_sentToday_4_a1b5b 6 [(0, .ref 0), (1, .int (nI p)), (2, .int a), (3, .int (nI j))] [.ref 0, .int (nI j)] sgX5_sentToday_4_a1b5bd rfl ?_
      refine am_getf hF (hp_main T S o) (T := TX5) (N := 9) rfl (inG 5 inG5) 5 (by decide) (List.mem_cons_of_mem _ lf_RX5_35) rfl (.int (T 1 0)) rfl dX5_sentToday_6 ?_
      refine am_top (nI m) hm ?_
      refine am_icmpge hF 53 dX5_sentToday_9 (by decide) (fun h9 => False.elim (nc_lt_f (show j < m by omega) (by omega) (by omega) rfl rfl h9)) (fun _ => ?_)
      refine am_go hF sgX5_sentToday_12_34db8 13 [(0, .ref 0), (1, .int (nI p)), (2, .int a), (3, .int (nI j))] [.ref 0] sgX5_sentToday_12_34db8d rfl ?_
      refine am_getf hF (hp_main T S o) (T := TX5) (N := 9) rfl (inG 5 inG5) 4 (by decide) (List.mem_cons_of_mem _ lf_RX5_31) rfl (.ref 4) rfl dX5_sentToday_13 ?_
      refine am_go hF sgX5_sentToday_16_13b50 17 [(0, .ref 0), (1, .int (nI p)), (2, .int a), (3, .int (nI j))] [.int (nI j), .ref 4] sgX5_sentToday_16_13b50d rfl ?_
      refine cv_post hF hm hm80 j rfl (show j < m by omega) dX5_sentToday_17 ?_
      refine am_getf hF (hp_mail T S o hm hm80 (show j < m by omega)) (T := TX1) (N := 11) rfl (inG 1 inG1) 1 (by decide) (List.mem_cons_of_mem _ lf_RX5_309) rfl (.int (T 19 j)) rfl dX5_sentToday_18 ?_
      refine am_go hF sgX5_sentToday_21_840bf 22 [(0, .ref 0), (1, .int (nI p)), (2, .int a), (3, .int (nI j))] [.int (nI p), .int (T 19 j)] sgX5_sentToday_21_840bfd rfl ?_
      refine am_icmpne hF 47 dX5_sentToday_22 (by decide) (fun c3 => ?_) (fun c3 => ?_)
      · skip
        refine am_go hF sgX5_sentToday_47_078c3 4 [(3, .int ((nI j) + 1)), (0, .ref 0), (1, .int (nI p)), (2, .int a)] [] sgX5_sentToday_47_078c3d rfl ?_
        refine am_drop [1, 2, 3, 0] [(0, .ref 0), (1, .int (nI p)), (2, .int a), (3, .int ((nI j) + 1))] rfl ?_
        refine am_eqL [(0, .ref 0), (1, .int (nI p)), (2, .int a), (3, .int (nI (j + 1)))] (by rw [nI_1]) ?_
        exact ih4 (j + 1) a (by omega) (by show _ = tst T p j (itN (tst T p) 0 j); rw [← ha]; simp only [tst, Bool.false_eq_true, not_false_eq_true, not_true_eq_false, and_self, and_true, true_and, and_false, false_and, true_or, or_true, or_false, false_or, or_self, c3, ↓reduceIte])
      · skip
        refine am_go hF sgX5_sentToday_25_34db8 26 [(0, .ref 0), (1, .int (nI p)), (2, .int a), (3, .int (nI j))] [.ref 0] sgX5_sentToday_25_34db8d rfl ?_
        refine am_getf hF (hp_main T S o) (T := TX5) (N := 9) rfl (inG 5 inG5) 4 (by decide) (List.mem_cons_of_mem _ lf_RX5_31) rfl (.ref 4) rfl dX5_sentToday_26 ?_
        refine am_go hF sgX5_sentToday_29_13b50 30 [(0, .ref 0), (1, .int (nI p)), (2, .int a), (3, .int (nI j))] [.int (nI j), .ref 4] sgX5_sentToday_29_13b50d rfl ?_
        refine cv_post hF hm hm80 j rfl (show j < m by omega) dX5_sentToday_30 ?_
        refine am_getf hF (hp_mail T S o hm hm80 (show j < m by omega)) (T := TX1) (N := 11) rfl (inG 1 inG1) 3 (by decide) (List.mem_cons_of_mem _ lf_RX5_312) rfl (.ref (224 + ((T 21 j).toNatClampNeg))) rfl dX5_sentToday_31 ?_
        refine am_getf hF (hp_day T S o hv hv80 (show (T 21 j).toNatClampNeg < v by omega)) (T := TX4) (N := 5) rfl (inG 4 inG4) 0 (by decide) (List.mem_cons_of_mem _ lf_RX5_316) rfl (.int (T 33 ((T 21 j).toNatClampNeg))) rfl dX5_sentToday_34 ?_
        refine am_go hF sgX5_sentToday_37_34db8 38 [(0, .ref 0), (1, .int (nI p)), (2, .int a), (3, .int (nI j))] [.ref 0, .int (T 33 ((T 21 j).toNatClampNeg))] sgX5_sentToday_37_34db8d rfl ?_
        refine am_getf hF (hp_main T S o) (T := TX5) (N := 9) rfl (inG 5 inG5) 8 (by decide) (List.mem_cons_of_mem _ lf_RX5_47) rfl (.int (T 3 0)) rfl dX5_sentToday_38 ?_
        refine am_icmpne hF 47 dX5_sentToday_41 (by decide) (fun c4 => ?_) (fun c4 => ?_)
        · skip
          refine am_go hF sgX5_sentToday_47_078c3 4 [(3, .int ((nI j) + 1)), (0, .ref 0), (1, .int (nI p)), (2, .int a)] [] sgX5_sentToday_47_078c3d rfl ?_
          refine am_drop [1, 2, 3, 0] [(0, .ref 0), (1, .int (nI p)), (2, .int a), (3, .int ((nI j) + 1))] rfl ?_
          refine am_eqL [(0, .ref 0), (1, .int (nI p)), (2, .int a), (3, .int (nI (j + 1)))] (by rw [nI_1]) ?_
          exact ih4 (j + 1) a (by omega) (by show _ = tst T p j (itN (tst T p) 0 j); rw [← ha]; simp only [tst, Bool.false_eq_true, not_false_eq_true, not_true_eq_false, and_self, and_true, true_and, and_false, false_and, true_or, or_true, or_false, false_or, or_self, (eq_true c3), c4, ↓reduceIte])
        · skip
          refine am_go hF sgX5_sentToday_44_80c4f 4 [(3, .int ((nI j) + 1)), (2, .int (a + 1)), (0, .ref 0), (1, .int (nI p))] [] sgX5_sentToday_44_80c4fd rfl ?_
          refine am_drop [2, 3, 1, 0] [(0, .ref 0), (1, .int (nI p)), (2, .int (a + 1)), (3, .int ((nI j) + 1))] rfl ?_
          refine am_eqL [(0, .ref 0), (1, .int (nI p)), (2, .int (a + 1)), (3, .int (nI (j + 1)))] (by rw [nI_1]) ?_
          exact ih4 (j + 1) (a + 1) (by omega) (by show _ = tst T p j (itN (tst T p) 0 j); rw [← ha]; simp only [tst, Bool.false_eq_true, not_false_eq_true, not_true_eq_false, and_self, and_true, true_and, and_false, false_and, true_or, or_true, or_false, false_or, or_self, (eq_true c3), (eq_true c4), ↓reduceIte])
  exact lp4 m 0 0 (by omega) rfl
