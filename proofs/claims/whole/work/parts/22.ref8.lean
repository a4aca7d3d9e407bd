def rHeld (S : am_T) (m : Nat) : Int32 := itN (fun k a => a + (if S 24 k = 1 then 1 else 0)) 0 m
def rsh (p i : Nat) (S : am_T) : am_T := st1 S 8 (10 * p + i) (S 8 (10 * p + (i + 1)))
def rsz (S : am_T) (l d k : Nat) (a : Int32) : Int32 := a + (if S 20 k = nI d ∧ ¬ S 31 (10 * k + l) = 0 then 1 else 0)
def rSize (S : am_T) (m l d : Nat) : Int32 := itN (rsz S l d) 0 m
def rdg (S : am_T) (l d k : Nat) (x : Int32 × Int32) : Int32 × Int32 := if S 20 k = nI d ∧ ¬ S 31 (10 * k + l) = 0 then (x.1 + (-1), if x.1 = 0 then nI k else x.2) else x
def rDg (S : am_T) (m l d : Nat) (z : Int32) : Int32 × Int32 := itN (rdg S l d) (z, -1) m
theorem rdg_1 {S : am_T} {l d j : Nat} {z a b : Int32} (ha : a = (itN (rdg S l d) (z, -1) j).1) (hb : b = (itN (rdg S l d) (z, -1) j).2) (h : S 20 j = nI d ∧ ¬ S 31 (10 * j + l) = 0) :
    a + (-1) = (itN (rdg S l d) (z, -1) (j + 1)).1 ∧ (if a = 0 then nI j else b) = (itN (rdg S l d) (z, -1) (j + 1)).2 := by
  show _ = (rdg S l d j (itN (rdg S l d) (z, -1) j)).1 ∧ _ = (rdg S l d j (itN (rdg S l d) (z, -1) j)).2
  have e : itN (rdg S l d) (z, -1) j = (a, b) := by rw [ha, hb]
  rw [e]
  unfold rdg
  rw [if_pos h]
  exact ⟨rfl, rfl⟩
theorem rdg_0 {S : am_T} {l d j : Nat} {z a b : Int32} (ha : a = (itN (rdg S l d) (z, -1) j).1) (hb : b = (itN (rdg S l d) (z, -1) j).2) (h : ¬ (S 20 j = nI d ∧ ¬ S 31 (10 * j + l) = 0)) :
    a = (itN (rdg S l d) (z, -1) (j + 1)).1 ∧ b = (itN (rdg S l d) (z, -1) (j + 1)).2 := by
  show _ = (rdg S l d j (itN (rdg S l d) (z, -1) j)).1 ∧ _ = (rdg S l d j (itN (rdg S l d) (z, -1) j)).2
  have e : itN (rdg S l d) (z, -1) j = (a, b) := by rw [ha, hb]
  rw [e]
  unfold rdg
  rw [if_neg h]
  exact ⟨rfl, rfl⟩
theorem rNext_f {S : am_T} {n m t g : Nat} (h33 : g ≠ 33) (h1 : g ≠ 1) (h24 : g ≠ 24) : (rNext S n m t).1 g = S g := by
  unfold rNext
  rw [rn2_f g h24]
  show rNext0 S n t g = S g
  unfold rNext0
  rw [st1_f h1]
  exact itN_f (F := rn1 t) g (fun k S => st1_f h33) S n
theorem rNext_1 (S : am_T) (n m t : Nat) : (rNext S n m t).1 1 0 = nI (t + 1) := by
  unfold rNext
  rw [rn2_f 1 (by decide)]
  show rNext0 S n t 1 0 = _
  unfold rNext0
  rw [st1_same, nI_1]
def rpp (n m t i : Nat) (x : am_T × Int32) : am_T × Int32 := ((rNext x.1 n m (t + i)).1, x.2 + (rNext x.1 n m (t + i)).2)
def rDays (S : am_T) (n m t d : Nat) : am_T × Int32 := itN (rpp n m t) (S, 0) d
theorem rDays_f {S : am_T} {n m t g : Nat} (h33 : g ≠ 33) (h1 : g ≠ 1) (h24 : g ≠ 24) : ∀ j, (rDays S n m t j).1 g = S g := by
  intro j
  induction j with
  | zero => rfl
  | succ j ih => exact (rNext_f h33 h1 h24).trans ih
theorem rDays_1 {S : am_T} {n m t : Nat} (h : S 1 0 = nI t) : ∀ j, (rDays S n m t j).1 1 0 = nI (t + j) := by
  intro j
  cases j with
  | zero => exact h
  | succ j => exact rNext_1 _ _ _ _
theorem rpp_s {S : am_T} {n m t j : Nat} {S1 : am_T} {a : Int32} (hS : S1 = (rDays S n m t j).1) (ha : a = (rDays S n m t j).2) : (rNext S1 n m (t + j)).1 = (rDays S n m t (j + 1)).1 ∧ a + (rNext S1 n m (t + j)).2 = (rDays S n m t (j + 1)).2 := by
  show _ = (rpp n m t j (rDays S n m t j)).1 ∧ _ = (rpp n m t j (rDays S n m t j)).2
  have e : rDays S n m t j = (S1, a) := by rw [hS, ha]
  rw [e]
  exact ⟨rfl, rfl⟩
theorem nc_ge_f9 {a : Nat} (h : 1 ≤ a) (ha : a < 2 ^ 31) : ¬ nI a < 1 := fun e => nI_nlt h ha e
def sgX6_held__0_9cf18 : List Instr := [.aload_n 0, .iconst 0]
theorem sgX6_held__0_9cf18d : am_dec cX6_held_ 0 sgX6_held__0_9cf18 = true := by decide +kernel
theorem dX6_held__2 : decode cX6_held_ 2 = .ok (.putfield 104, 3) := by decide +kernel
def sgX6_held__5_1ac35 : List Instr := [.iconst 0, .istore_n 1, .iconst 0, .istore_n 2]
theorem sgX6_held__5_1ac35d : am_dec cX6_held_ 5 sgX6_held__5_1ac35 = true := by decide +kernel
def sgX6_held__9_14491 : List Instr := [.iload_n 2, .aload_n 0]
theorem sgX6_held__9_14491d : am_dec cX6_held_ 9 sgX6_held__9_14491 = true := by decide +kernel
theorem dX6_held__11 : decode cX6_held_ 11 = .ok (.getfield 115, 3) := by decide +kernel
theorem dX6_held__14 : decode cX6_held_ 14 = .ok (.if_icmp .ge 27, 3) := by decide +kernel
def sgX6_held__41_840bf : List Instr := [.iload_n 1]
theorem sgX6_held__41_840bfd : am_dec cX6_held_ 41 sgX6_held__41_840bf = true := by decide +kernel
theorem dX6_held__42 : decode cX6_held_ 42 = .ok (.ireturn, 1) := by decide +kernel
def sgX6_held__17_45dfc : List Instr := [.iload_n 1, .aload_n 0]
theorem sgX6_held__17_45dfcd : am_dec cX6_held_ 17 sgX6_held__17_45dfc = true := by decide +kernel
theorem dX6_held__19 : decode cX6_held_ 19 = .ok (.getfield 68, 3) := by decide +kernel
def sgX6_held__22_f8a59 : List Instr := [.iload_n 2]
theorem sgX6_held__22_f8a59d : am_dec cX6_held_ 22 sgX6_held__22_f8a59 = true := by decide +kernel
theorem dX6_held__23 : decode cX6_held_ 23 = .ok (.iaload, 1) := by decide +kernel
def sgX6_held__24_4de0a : List Instr := [.iconst 1]
theorem sgX6_held__24_4de0ad : am_dec cX6_held_ 24 sgX6_held__24_4de0a = true := by decide +kernel
theorem dX6_held__25 : decode cX6_held_ 25 = .ok (.if_icmp .ne 7, 3) := by decide +kernel
def sgX6_held__32_0353b : List Instr := [.iconst 0, .iadd, .istore_n 1, .iinc 2 1, .goto (-29)]
theorem sgX6_held__32_0353bd : am_dec cX6_held_ 32 sgX6_held__32_0353b = true := by decide +kernel
def sgX6_held__28_58cab : List Instr := [.iconst 1, .goto 4, .iadd, .istore_n 1, .iinc 2 1, .goto (-29)]
theorem sgX6_held__28_58cabd : am_dec cX6_held_ 28 sgX6_held__28_58cab = true := by decide +kernel
def sgX6_mailAt_0_8bcf7 : List Instr := [.aload_n 0, .iload_n 1]
theorem sgX6_mailAt_0_8bcf7d : am_dec cX6_mailAt 0 sgX6_mailAt_0_8bcf7 = true := by decide +kernel
theorem dX6_mailAt_2 : decode cX6_mailAt 2 = .ok (.invokestatic 118, 3) := by decide +kernel
theorem dX6_mailAt_5 : decode cX6_mailAt 5 = .ok (.ifCond .eq 34, 3) := by decide +kernel
def sgX6_mailAt_39_4de0a : List Instr := [.iconst 1]
theorem sgX6_mailAt_39_4de0ad : am_dec cX6_mailAt 39 sgX6_mailAt_39_4de0a = true := by decide +kernel
theorem dX6_mailAt_40 : decode cX6_mailAt 40 = .ok (.putfield 104, 3) := by decide +kernel
def sgX6_mailAt_43_34db8 : List Instr := [.aload_n 0]
theorem sgX6_mailAt_43_34db8d : am_dec cX6_mailAt 43 sgX6_mailAt_43_34db8 = true := by decide +kernel
theorem dX6_mailAt_44 : decode cX6_mailAt 44 = .ok (.getfield 104, 3) := by decide +kernel
theorem dX6_mailAt_47 : decode cX6_mailAt 47 = .ok (.ifCond .le 7, 3) := by decide +kernel
def sgX6_mailAt_50_d9a33 : List Instr := [.iconst 0, .goto 14]
theorem sgX6_mailAt_50_d9a33d : am_dec cX6_mailAt 50 sgX6_mailAt_50_d9a33 = true := by decide +kernel
theorem dX6_mailAt_65 : decode cX6_mailAt 65 = .ok (.ireturn, 1) := by decide +kernel
def sgX6_mailAt_8_a34ec : List Instr := [.iload_n 2, .iconst 0, .aload_n 0]
theorem sgX6_mailAt_8_a34ecd : am_dec cX6_mailAt 8 sgX6_mailAt_8_a34ec = true := by decide +kernel
theorem dX6_mailAt_11 : decode cX6_mailAt 11 = .ok (.getfield 22, 3) := by decide +kernel
def sgX6_mailAt_14_840bf : List Instr := [.iload_n 1]
theorem sgX6_mailAt_14_840bfd : am_dec cX6_mailAt 14 sgX6_mailAt_14_840bf = true := by decide +kernel
theorem dX6_mailAt_15 : decode cX6_mailAt 15 = .ok (.invokestatic 118, 3) := by decide +kernel
theorem dX6_mailAt_18 : decode cX6_mailAt 18 = .ok (.ifCond .eq 7, 3) := by decide +kernel
def sgX6_mailAt_21_7181f : List Instr := [.iload_n 1, .goto 4]
theorem sgX6_mailAt_21_7181fd : am_dec cX6_mailAt 21 sgX6_mailAt_21_7181f = true := by decide +kernel
theorem dX6_mailAt_26 : decode cX6_mailAt 26 = .ok (.iaload, 1) := by decide +kernel
def sgX6_mailAt_27_d80e0 : List Instr := [.iconst 1, .isub]
theorem sgX6_mailAt_27_d80e0d : am_dec cX6_mailAt 27 sgX6_mailAt_27_d80e0 = true := by decide +kernel
theorem dX6_mailAt_29 : decode cX6_mailAt 29 = .ok (.invokestatic 108, 3) := by decide +kernel
theorem dX6_mailAt_32 : decode cX6_mailAt 32 = .ok (.ifCond .eq 7, 3) := by decide +kernel
def sgX6_mailAt_35_1cbe9 : List Instr := [.iconst 0, .goto 4]
theorem sgX6_mailAt_35_1cbe9d : am_dec cX6_mailAt 35 sgX6_mailAt_35_1cbe9 = true := by decide +kernel
def sgX6_mailAt_54_34db8 : List Instr := [.aload_n 0]
theorem sgX6_mailAt_54_34db8d : am_dec cX6_mailAt 54 sgX6_mailAt_54_34db8 = true := by decide +kernel
theorem dX6_mailAt_55 : decode cX6_mailAt 55 = .ok (.getfield 25, 3) := by decide +kernel
def sgX6_mailAt_58_afa86 : List Instr := [.bipush 10, .iload_n 1, .imul, .iload_n 2, .iadd]
theorem sgX6_mailAt_58_afa86d : am_dec cX6_mailAt 58 sgX6_mailAt_58_afa86 = true := by decide +kernel
theorem dX6_mailAt_64 : decode cX6_mailAt 64 = .ok (.iaload, 1) := by decide +kernel
def sgX6_read_0_8bcf7 : List Instr := [.aload_n 0, .iload_n 1]
theorem sgX6_read_0_8bcf7d : am_dec cX6_read 0 sgX6_read_0_8bcf7 = true := by decide +kernel
theorem dX6_read_2 : decode cX6_read 2 = .ok (.invokestatic 118, 3) := by decide +kernel
theorem dX6_read_5 : decode cX6_read 5 = .ok (.ifCond .eq 7, 3) := by decide +kernel
def sgX6_read_12_4de0a : List Instr := [.iconst 1]
theorem sgX6_read_12_4de0ad : am_dec cX6_read 12 sgX6_read_12_4de0a = true := by decide +kernel
theorem dX6_read_13 : decode cX6_read 13 = .ok (.putfield 104, 3) := by decide +kernel
def sgX6_read_16_34db8 : List Instr := [.aload_n 0]
theorem sgX6_read_16_34db8d : am_dec cX6_read 16 sgX6_read_16_34db8 = true := by decide +kernel
theorem dX6_read_17 : decode cX6_read 17 = .ok (.getfield 104, 3) := by decide +kernel
theorem dX6_read_20 : decode cX6_read 20 = .ok (.ifCond .le 5, 3) := by decide +kernel
def sgX6_read_23_56c54 : List Instr := [.iconst 0]
theorem sgX6_read_23_56c54d : am_dec cX6_read 23 sgX6_read_23_56c54 = true := by decide +kernel
theorem dX6_read_24 : decode cX6_read 24 = .ok (.ireturn, 1) := by decide +kernel
def sgX6_read_8_1cbe9 : List Instr := [.iconst 0, .goto 4]
theorem sgX6_read_8_1cbe9d : am_dec cX6_read 8 sgX6_read_8_1cbe9 = true := by decide +kernel
def sgX6_read_25_34db8 : List Instr := [.aload_n 0]
theorem sgX6_read_25_34db8d : am_dec cX6_read 25 sgX6_read_25_34db8 = true := by decide +kernel
theorem dX6_read_26 : decode cX6_read 26 = .ok (.getfield 22, 3) := by decide +kernel
def sgX6_read_29_840bf : List Instr := [.iload_n 1]
theorem sgX6_read_29_840bfd : am_dec cX6_read 29 sgX6_read_29_840bf = true := by decide +kernel
theorem dX6_read_30 : decode cX6_read 30 = .ok (.iaload, 1) := by decide +kernel
theorem dX6_read_31 : decode cX6_read 31 = .ok (.ifCond .ne 5, 3) := by decide +kernel
def sgX6_read_34_5ff24 : List Instr := [.iconst (-1)]
theorem sgX6_read_34_5ff24d : am_dec cX6_read 34 sgX6_read_34_5ff24 = true := by decide +kernel
theorem dX6_read_35 : decode cX6_read 35 = .ok (.ireturn, 1) := by decide +kernel
def sgX6_read_36_34db8 : List Instr := [.aload_n 0]
theorem sgX6_read_36_34db8d : am_dec cX6_read 36 sgX6_read_36_34db8 = true := by decide +kernel
theorem dX6_read_37 : decode cX6_read 37 = .ok (.getfield 25, 3) := by decide +kernel
def sgX6_read_40_82e00 : List Instr := [.bipush 10, .iload_n 1, .imul]
theorem sgX6_read_40_82e00d : am_dec cX6_read 40 sgX6_read_40_82e00 = true := by decide +kernel
theorem dX6_read_44 : decode cX6_read 44 = .ok (.iaload, 1) := by decide +kernel
def sgX6_read_45_545e8 : List Instr := [.istore_n 2, .iconst 1, .istore_n 3]
theorem sgX6_read_45_545e8d : am_dec cX6_read 45 sgX6_read_45_545e8 = true := by decide +kernel
def sgX6_read_48_a1b5b : List Instr := [.iload_n 3, .aload_n 0]
theorem sgX6_read_48_a1b5bd : am_dec cX6_read 48 sgX6_read_48_a1b5b = true := by decide +kernel
theorem dX6_read_50 : decode cX6_read 50 = .ok (.getfield 22, 3) := by decide +kernel
def sgX6_read_53_840bf : List Instr := [.iload_n 1]
theorem sgX6_read_53_840bfd : am_dec cX6_read 53 sgX6_read_53_840bf = true := by decide +kernel
theorem dX6_read_54 : decode cX6_read 54 = .ok (.iaload, 1) := by decide +kernel
theorem dX6_read_55 : decode cX6_read 55 = .ok (.if_icmp .ge 33, 3) := by decide +kernel
def sgX6_read_88_34db8 : List Instr := [.aload_n 0]
theorem sgX6_read_88_34db8d : am_dec cX6_read 88 sgX6_read_88_34db8 = true := by decide +kernel
theorem dX6_read_89 : decode cX6_read 89 = .ok (.getfield 22, 3) := by decide +kernel
def sgX6_read_92_563cd : List Instr := [.iload_n 1, .dup2]
theorem sgX6_read_92_563cdd : am_dec cX6_read 92 sgX6_read_92_563cd = true := by decide +kernel
theorem dX6_read_94 : decode cX6_read 94 = .ok (.iaload, 1) := by decide +kernel
def sgX6_read_95_d80e0 : List Instr := [.iconst 1, .isub]
theorem sgX6_read_95_d80e0d : am_dec cX6_read 95 sgX6_read_95_d80e0 = true := by decide +kernel
theorem dX6_read_97 : decode cX6_read 97 = .ok (.iastore, 1) := by decide +kernel
def sgX6_read_98_f8a59 : List Instr := [.iload_n 2]
theorem sgX6_read_98_f8a59d : am_dec cX6_read 98 sgX6_read_98_f8a59 = true := by decide +kernel
theorem dX6_read_99 : decode cX6_read 99 = .ok (.ireturn, 1) := by decide +kernel
def sgX6_read_58_34db8 : List Instr := [.aload_n 0]
theorem sgX6_read_58_34db8d : am_dec cX6_read 58 sgX6_read_58_34db8 = true := by decide +kernel
theorem dX6_read_59 : decode cX6_read 59 = .ok (.getfield 25, 3) := by decide +kernel
def sgX6_read_62_ca023 : List Instr := [.bipush 10, .iload_n 1, .imul, .iload_n 3, .iadd, .iconst 1, .isub]
theorem sgX6_read_62_ca023d : am_dec cX6_read 62 sgX6_read_62_ca023 = true := by decide +kernel
def sgX6_read_70_34db8 : List Instr := [.aload_n 0]
theorem sgX6_read_70_34db8d : am_dec cX6_read 70 sgX6_read_70_34db8 = true := by decide +kernel
theorem dX6_read_71 : decode cX6_read 71 = .ok (.getfield 25, 3) := by decide +kernel
def sgX6_read_74_ee1b8 : List Instr := [.bipush 10, .iload_n 1, .imul, .iload_n 3, .iadd]
theorem sgX6_read_74_ee1b8d : am_dec cX6_read 74 sgX6_read_74_ee1b8 = true := by decide +kernel
theorem dX6_read_80 : decode cX6_read 80 = .ok (.iaload, 1) := by decide +kernel
theorem dX6_read_81 : decode cX6_read 81 = .ok (.iastore, 1) := by decide +kernel
def sgX6_read_82_8e6d0 : List Instr := [.iinc 3 1, .goto (-37)]
theorem sgX6_read_82_8e6d0d : am_dec cX6_read 82 sgX6_read_82_8e6d0 = true := by decide +kernel
def sgX6_digestThrown_0_8bcf7 : List Instr := [.aload_n 0, .iload_n 1]
theorem sgX6_digestThrown_0_8bcf7d : am_dec cX6_digestThrown 0 sgX6_digestThrown_0_8bcf7 = true := by decide +kernel
theorem dX6_digestThrown_2 : decode cX6_digestThrown 2 = .ok (.invokevirtual 122, 3) := by decide +kernel
theorem dX6_digestThrown_5 : decode cX6_digestThrown 5 = .ok (.ifCond .ne 5, 3) := by decide +kernel
def sgX6_digestThrown_8_4de0a : List Instr := [.iconst 1]
theorem sgX6_digestThrown_8_4de0ad : am_dec cX6_digestThrown 8 sgX6_digestThrown_8_4de0a = true := by decide +kernel
theorem dX6_digestThrown_9 : decode cX6_digestThrown 9 = .ok (.ireturn, 1) := by decide +kernel
def sgX6_digestThrown_10_a34ec : List Instr := [.iload_n 2, .iconst 0, .aload_n 0]
theorem sgX6_digestThrown_10_a34ecd : am_dec cX6_digestThrown 10 sgX6_digestThrown_10_a34ec = true := by decide +kernel
theorem dX6_digestThrown_13 : decode cX6_digestThrown 13 = .ok (.getfield 147, 3) := by decide +kernel
theorem dX6_digestThrown_16 : decode cX6_digestThrown 16 = .ok (.invokestatic 108, 3) := by decide +kernel
theorem dX6_digestThrown_19 : decode cX6_digestThrown 19 = .ok (.ifCond .eq 7, 3) := by decide +kernel
def sgX6_digestThrown_26_d5620 : List Instr := [.iconst 2]
theorem sgX6_digestThrown_26_d5620d : am_dec cX6_digestThrown 26 sgX6_digestThrown_26_d5620 = true := by decide +kernel
theorem dX6_digestThrown_27 : decode cX6_digestThrown 27 = .ok (.ireturn, 1) := by decide +kernel
def sgX6_digestThrown_22_1cbe9 : List Instr := [.iconst 0, .goto 4]
theorem sgX6_digestThrown_22_1cbe9d : am_dec cX6_digestThrown 22 sgX6_digestThrown_22_1cbe9 = true := by decide +kernel
def sgX6_size_0_06978 : List Instr := [.aload_n 0, .aload_n 0, .iload_n 1, .iload_n 2]
theorem sgX6_size_0_06978d : am_dec cX6_size 0 sgX6_size_0_06978 = true := by decide +kernel
theorem dX6_size_4 : decode cX6_size 4 = .ok (.invokevirtual 190, 3) := by decide +kernel
theorem dX6_size_7 : decode cX6_size 7 = .ok (.putfield 104, 3) := by decide +kernel
def sgX6_size_10_f7521 : List Instr := [.iconst 0, .istore_n 3, .iconst 0, .istore 4, .iload 4, .aload_n 0]
theorem sgX6_size_10_f7521d : am_dec cX6_size 10 sgX6_size_10_f7521 = true := by decide +kernel
theorem dX6_size_18 : decode cX6_size 18 = .ok (.getfield 115, 3) := by decide +kernel
theorem dX6_size_21 : decode cX6_size 21 = .ok (.if_icmp .ge 50, 3) := by decide +kernel
def sgX6_size_71_13b50 : List Instr := [.iload_n 3]
theorem sgX6_size_71_13b50d : am_dec cX6_size 71 sgX6_size_71_13b50 = true := by decide +kernel
theorem dX6_size_72 : decode cX6_size 72 = .ok (.ireturn, 1) := by decide +kernel
def sgX6_size_24_34db8 : List Instr := [.aload_n 0]
theorem sgX6_size_24_34db8d : am_dec cX6_size 24 sgX6_size_24_34db8 = true := by decide +kernel
theorem dX6_size_25 : decode cX6_size 25 = .ok (.getfield 104, 3) := by decide +kernel
theorem dX6_size_28 : decode cX6_size 28 = .ok (.ifCond .ne 43, 3) := by decide +kernel
def sgX6_digest_0_06978 : List Instr := [.aload_n 0, .aload_n 0, .iload_n 1, .iload_n 2]
theorem sgX6_digest_0_06978d : am_dec cX6_digest 0 sgX6_digest_0_06978 = true := by decide +kernel
theorem dX6_digest_4 : decode cX6_digest 4 = .ok (.invokevirtual 190, 3) := by decide +kernel
theorem dX6_digest_7 : decode cX6_digest 7 = .ok (.putfield 104, 3) := by decide +kernel
def sgX6_digest_10_bc1cb : List Instr := [.iload_n 3, .istore 4, .iconst (-1), .istore 5, .iconst 0, .istore 6, .iload 6, .aload_n 0]
theorem sgX6_digest_10_bc1cbd : am_dec cX6_digest 10 sgX6_digest_10_bc1cb = true := by decide +kernel
theorem dX6_digest_22 : decode cX6_digest 22 = .ok (.getfield 115, 3) := by decide +kernel
theorem dX6_digest_25 : decode cX6_digest 25 = .ok (.if_icmp .ge 59, 3) := by decide +kernel
def sgX6_digest_84_c81f7 : List Instr := [.aload_n 0, .aload_n 0]
theorem sgX6_digest_84_c81f7d : am_dec cX6_digest 84 sgX6_digest_84_c81f7 = true := by decide +kernel
theorem dX6_digest_86 : decode cX6_digest 86 = .ok (.getfield 104, 3) := by decide +kernel
theorem dX6_digest_89 : decode cX6_digest 89 = .ok (.ifCond .le 10, 3) := by decide +kernel
def sgX6_digest_92_34db8 : List Instr := [.aload_n 0]
theorem sgX6_digest_92_34db8d : am_dec cX6_digest 92 sgX6_digest_92_34db8 = true := by decide +kernel
theorem dX6_digest_93 : decode cX6_digest 93 = .ok (.getfield 104, 3) := by decide +kernel
def sgX6_digest_96_22808 : List Instr := [.goto 14]
theorem sgX6_digest_96_22808d : am_dec cX6_digest 96 sgX6_digest_96_22808 = true := by decide +kernel
theorem dX6_digest_110 : decode cX6_digest 110 = .ok (.putfield 104, 3) := by decide +kernel
def sgX6_digest_113_34db8 : List Instr := [.aload_n 0]
theorem sgX6_digest_113_34db8d : am_dec cX6_digest 113 sgX6_digest_113_34db8 = true := by decide +kernel
theorem dX6_digest_114 : decode cX6_digest 114 = .ok (.getfield 104, 3) := by decide +kernel
theorem dX6_digest_117 : decode cX6_digest 117 = .ok (.ifCond .le 7, 3) := by decide +kernel
def sgX6_digest_120_978aa : List Instr := [.iconst 0, .goto 5]
theorem sgX6_digest_120_978aad : am_dec cX6_digest 120 sgX6_digest_120_978aa = true := by decide +kernel
theorem dX6_digest_126 : decode cX6_digest 126 = .ok (.ireturn, 1) := by decide +kernel
def sgX6_digest_28_34db8 : List Instr := [.aload_n 0]
theorem sgX6_digest_28_34db8d : am_dec cX6_digest 28 sgX6_digest_28_34db8 = true := by decide +kernel
theorem dX6_digest_29 : decode cX6_digest 29 = .ok (.getfield 104, 3) := by decide +kernel
theorem dX6_digest_32 : decode cX6_digest 32 = .ok (.ifCond .ne 52, 3) := by decide +kernel
def sgX6_edition_0_06978 : List Instr := [.aload_n 0, .aload_n 0, .iload_n 1, .iload_n 2]
theorem sgX6_edition_0_06978d : am_dec cX6_edition 0 sgX6_edition_0_06978 = true := by decide +kernel
theorem dX6_edition_4 : decode cX6_edition 4 = .ok (.invokevirtual 190, 3) := by decide +kernel
theorem dX6_edition_7 : decode cX6_edition 7 = .ok (.putfield 104, 3) := by decide +kernel
def sgX6_edition_10_34db8 : List Instr := [.aload_n 0]
theorem sgX6_edition_10_34db8d : am_dec cX6_edition 10 sgX6_edition_10_34db8 = true := by decide +kernel
theorem dX6_edition_11 : decode cX6_edition 11 = .ok (.getfield 104, 3) := by decide +kernel
theorem dX6_edition_14 : decode cX6_edition 14 = .ok (.ifCond .le 5, 3) := by decide +kernel
def sgX6_edition_17_56c54 : List Instr := [.iconst 0]
theorem sgX6_edition_17_56c54d : am_dec cX6_edition 17 sgX6_edition_17_56c54 = true := by decide +kernel
theorem dX6_edition_18 : decode cX6_edition 18 = .ok (.ireturn, 1) := by decide +kernel
def sgX6_readers_0_06978 : List Instr := [.aload_n 0, .aload_n 0, .iload_n 1, .iload_n 2]
theorem sgX6_readers_0_06978d : am_dec cX6_readers 0 sgX6_readers_0_06978 = true := by decide +kernel
theorem dX6_readers_4 : decode cX6_readers 4 = .ok (.invokevirtual 190, 3) := by decide +kernel
theorem dX6_readers_7 : decode cX6_readers 7 = .ok (.putfield 104, 3) := by decide +kernel
def sgX6_readers_10_34db8 : List Instr := [.aload_n 0]
theorem sgX6_readers_10_34db8d : am_dec cX6_readers 10 sgX6_readers_10_34db8 = true := by decide +kernel
theorem dX6_readers_11 : decode cX6_readers 11 = .ok (.getfield 104, 3) := by decide +kernel
theorem dX6_readers_14 : decode cX6_readers 14 = .ok (.ifCond .le 7, 3) := by decide +kernel
def sgX6_readers_17_c9efa : List Instr := [.iconst 0, .goto 15]
theorem sgX6_readers_17_c9efad : am_dec cX6_readers 17 sgX6_readers_17_c9efa = true := by decide +kernel
theorem dX6_readers_33 : decode cX6_readers 33 = .ok (.ireturn, 1) := by decide +kernel
def sgX6_size_10_1e911 : List Instr := [.iconst 0, .istore_n 3, .iconst 0, .istore 4]
theorem sgX6_size_10_1e911d : am_dec cX6_size 10 sgX6_size_10_1e911 = true := by decide +kernel
def sgX6_size_15_49a24 : List Instr := [.iload 4, .aload_n 0]
theorem sgX6_size_15_49a24d : am_dec cX6_size 15 sgX6_size_15_49a24 = true := by decide +kernel
def sgX6_size_31_a1b5b : List Instr := [.iload_n 3, .aload_n 0]
theorem sgX6_size_31_a1b5bd : am_dec cX6_size 31 sgX6_size_31_a1b5b = true := by decide +kernel
theorem dX6_size_33 : decode cX6_size 33 = .ok (.getfield 56, 3) := by decide +kernel
def sgX6_size_36_c6742 : List Instr := [.iload 4]
theorem sgX6_size_36_c6742d : am_dec cX6_size 36 sgX6_size_36_c6742 = true := by decide +kernel
theorem dX6_size_38 : decode cX6_size 38 = .ok (.iaload, 1) := by decide +kernel
def sgX6_size_39_f8a59 : List Instr := [.iload_n 2]
theorem sgX6_size_39_f8a59d : am_dec cX6_size 39 sgX6_size_39_f8a59 = true := by decide +kernel
theorem dX6_size_40 : decode cX6_size 40 = .ok (.if_icmp .ne 22, 3) := by decide +kernel
def sgX6_size_62_8e839 : List Instr := [.iconst 0, .iadd, .istore_n 3, .iinc 4 1, .goto (-53)]
theorem sgX6_size_62_8e839d : am_dec cX6_size 62 sgX6_size_62_8e839 = true := by decide +kernel
def sgX6_size_43_34db8 : List Instr := [.aload_n 0]
theorem sgX6_size_43_34db8d : am_dec cX6_size 43 sgX6_size_43_34db8 = true := by decide +kernel
theorem dX6_size_44 : decode cX6_size 44 = .ok (.getfield 89, 3) := by decide +kernel
def sgX6_size_47_30167 : List Instr := [.bipush 10, .iload 4, .imul, .iload_n 1, .iadd]
theorem sgX6_size_47_30167d : am_dec cX6_size 47 sgX6_size_47_30167 = true := by decide +kernel
theorem dX6_size_54 : decode cX6_size 54 = .ok (.baload, 1) := by decide +kernel
theorem dX6_size_55 : decode cX6_size 55 = .ok (.ifCond .eq 7, 3) := by decide +kernel
def sgX6_size_58_ec8c0 : List Instr := [.iconst 1, .goto 4, .iadd, .istore_n 3, .iinc 4 1, .goto (-53)]
theorem sgX6_size_58_ec8c0d : am_dec cX6_size 58 sgX6_size_58_ec8c0 = true := by decide +kernel
def sgX6_digest_10_58af4 : List Instr := [.iload_n 3, .istore 4, .iconst (-1), .istore 5, .iconst 0, .istore 6]
theorem sgX6_digest_10_58af4d : am_dec cX6_digest 10 sgX6_digest_10_58af4 = true := by decide +kernel
def sgX6_digest_19_db841 : List Instr := [.iload 6, .aload_n 0]
theorem sgX6_digest_19_db841d : am_dec cX6_digest 19 sgX6_digest_19_db841 = true := by decide +kernel
def sgX6_digest_99_c2ad5 : List Instr := [.iload 5, .iconst (-1)]
theorem sgX6_digest_99_c2ad5d : am_dec cX6_digest 99 sgX6_digest_99_c2ad5 = true := by decide +kernel
theorem dX6_digest_102 : decode cX6_digest 102 = .ok (.if_icmp .ne 7, 3) := by decide +kernel
def sgX6_digest_109_56c54 : List Instr := [.iconst 0]
theorem sgX6_digest_109_56c54d : am_dec cX6_digest 109 sgX6_digest_109_56c54 = true := by decide +kernel
def sgX6_digest_124_9df92 : List Instr := [.iload 5]
theorem sgX6_digest_124_9df92d : am_dec cX6_digest 124 sgX6_digest_124_9df92 = true := by decide +kernel
def sgX6_digest_105_5c8a0 : List Instr := [.iconst 3, .goto 4]
theorem sgX6_digest_105_5c8a0d : am_dec cX6_digest 105 sgX6_digest_105_5c8a0 = true := by decide +kernel
def sgX6_digest_35_34db8 : List Instr := [.aload_n 0]
theorem sgX6_digest_35_34db8d : am_dec cX6_digest 35 sgX6_digest_35_34db8 = true := by decide +kernel
theorem dX6_digest_36 : decode cX6_digest 36 = .ok (.getfield 56, 3) := by decide +kernel
def sgX6_digest_39_4d8be : List Instr := [.iload 6]
theorem sgX6_digest_39_4d8bed : am_dec cX6_digest 39 sgX6_digest_39_4d8be = true := by decide +kernel
theorem dX6_digest_41 : decode cX6_digest 41 = .ok (.iaload, 1) := by decide +kernel
def sgX6_digest_42_f8a59 : List Instr := [.iload_n 2]
theorem sgX6_digest_42_f8a59d : am_dec cX6_digest 42 sgX6_digest_42_f8a59 = true := by decide +kernel
theorem dX6_digest_43 : decode cX6_digest 43 = .ok (.if_icmp .ne 35, 3) := by decide +kernel
def sgX6_digest_78_5a45c : List Instr := [.iinc 6 1, .goto (-62)]
theorem sgX6_digest_78_5a45cd : am_dec cX6_digest 78 sgX6_digest_78_5a45c = true := by decide +kernel
def sgX6_digest_46_34db8 : List Instr := [.aload_n 0]
theorem sgX6_digest_46_34db8d : am_dec cX6_digest 46 sgX6_digest_46_34db8 = true := by decide +kernel
theorem dX6_digest_47 : decode cX6_digest 47 = .ok (.getfield 89, 3) := by decide +kernel
def sgX6_digest_50_56f10 : List Instr := [.bipush 10, .iload 6, .imul, .iload_n 1, .iadd]
theorem sgX6_digest_50_56f10d : am_dec cX6_digest 50 sgX6_digest_50_56f10 = true := by decide +kernel
theorem dX6_digest_57 : decode cX6_digest 57 = .ok (.baload, 1) := by decide +kernel
theorem dX6_digest_58 : decode cX6_digest 58 = .ok (.ifCond .eq 20, 3) := by decide +kernel
def sgX6_digest_61_c6742 : List Instr := [.iload 4]
theorem sgX6_digest_61_c6742d : am_dec cX6_digest 61 sgX6_digest_61_c6742 = true := by decide +kernel
theorem dX6_digest_63 : decode cX6_digest 63 = .ok (.ifCond .ne 8, 3) := by decide +kernel
def sgX6_digest_71_6da85 : List Instr := [.iload 5, .istore 5, .iinc 4 (-1), .iinc 6 1, .goto (-62)]
theorem sgX6_digest_71_6da85d : am_dec cX6_digest 71 sgX6_digest_71_6da85 = true := by decide +kernel
def sgX6_digest_66_9ab40 : List Instr := [.iload 6, .goto 5, .istore 5, .iinc 4 (-1), .iinc 6 1, .goto (-62)]
theorem sgX6_digest_66_9ab40d : am_dec cX6_digest 66 sgX6_digest_66_9ab40 = true := by decide +kernel
def sgX6_edition_19_34db8 : List Instr := [.aload_n 0]
theorem sgX6_edition_19_34db8d : am_dec cX6_edition 19 sgX6_edition_19_34db8 = true := by decide +kernel
theorem dX6_edition_20 : decode cX6_edition 20 = .ok (.getfield 92, 3) := by decide +kernel
def sgX6_edition_23_fd6a9 : List Instr := [.sipush 401, .iload_n 1, .imul, .iload_n 2, .iadd]
theorem sgX6_edition_23_fd6a9d : am_dec cX6_edition 23 sgX6_edition_23_fd6a9 = true := by decide +kernel
theorem dX6_edition_30 : decode cX6_edition 30 = .ok (.baload, 1) := by decide +kernel
theorem dX6_edition_31 : decode cX6_edition 31 = .ok (.ifCond .eq 18, 3) := by decide +kernel
def sgX6_edition_49_5ff24 : List Instr := [.iconst (-1)]
theorem sgX6_edition_49_5ff24d : am_dec cX6_edition 49 sgX6_edition_49_5ff24 = true := by decide +kernel
theorem dX6_edition_50 : decode cX6_edition 50 = .ok (.ireturn, 1) := by decide +kernel
def sgX6_edition_34_34db8 : List Instr := [.aload_n 0]
theorem sgX6_edition_34_34db8d : am_dec cX6_edition 34 sgX6_edition_34_34db8 = true := by decide +kernel
theorem dX6_edition_35 : decode cX6_edition 35 = .ok (.getfield 95, 3) := by decide +kernel
def sgX6_edition_38_fd6a9 : List Instr := [.sipush 401, .iload_n 1, .imul, .iload_n 2, .iadd]
theorem sgX6_edition_38_fd6a9d : am_dec cX6_edition 38 sgX6_edition_38_fd6a9 = true := by decide +kernel
theorem dX6_edition_45 : decode cX6_edition 45 = .ok (.iaload, 1) := by decide +kernel
def sgX6_edition_46_c4397 : List Instr := [.goto 4]
theorem sgX6_edition_46_c4397d : am_dec cX6_edition 46 sgX6_edition_46_c4397 = true := by decide +kernel
def sgX6_readers_21_34db8 : List Instr := [.aload_n 0]
theorem sgX6_readers_21_34db8d : am_dec cX6_readers 21 sgX6_readers_21_34db8 = true := by decide +kernel
theorem dX6_readers_22 : decode cX6_readers 22 = .ok (.getfield 98, 3) := by decide +kernel
def sgX6_readers_25_fd6a9 : List Instr := [.sipush 401, .iload_n 1, .imul, .iload_n 2, .iadd]
theorem sgX6_readers_25_fd6a9d : am_dec cX6_readers 25 sgX6_readers_25_fd6a9 = true := by decide +kernel
theorem dX6_readers_32 : decode cX6_readers 32 = .ok (.iaload, 1) := by decide +kernel
def sgX6_pass_0_213b3 : List Instr := [.aload_n 0, .iload_n 1, .iconst 1, .bipush 50]
theorem sgX6_pass_0_213b3d : am_dec cX6_pass 0 sgX6_pass_0_213b3 = true := by decide +kernel
theorem dX6_pass_5 : decode cX6_pass 5 = .ok (.invokestatic 108, 3) := by decide +kernel
theorem dX6_pass_8 : decode cX6_pass 8 = .ok (.ifCond .ne 7, 3) := by decide +kernel
def sgX6_pass_11_446db : List Instr := [.iconst 1, .goto 20]
theorem sgX6_pass_11_446dbd : am_dec cX6_pass 11 sgX6_pass_11_446db = true := by decide +kernel
theorem dX6_pass_32 : decode cX6_pass 32 = .ok (.putfield 104, 3) := by decide +kernel
def sgX6_pass_35_35c03 : List Instr := [.iconst 0, .istore_n 2, .iconst 0, .istore_n 3, .iload_n 3, .iload_n 1]
theorem sgX6_pass_35_35c03d : am_dec cX6_pass 35 sgX6_pass_35_35c03 = true := by decide +kernel
theorem dX6_pass_41 : decode cX6_pass 41 = .ok (.if_icmp .ge 23, 3) := by decide +kernel
def sgX6_pass_64_f8a59 : List Instr := [.iload_n 2]
theorem sgX6_pass_64_f8a59d : am_dec cX6_pass 64 sgX6_pass_64_f8a59 = true := by decide +kernel
theorem dX6_pass_65 : decode cX6_pass 65 = .ok (.ireturn, 1) := by decide +kernel
def sgX6_pass_44_34db8 : List Instr := [.aload_n 0]
theorem sgX6_pass_44_34db8d : am_dec cX6_pass 44 sgX6_pass_44_34db8 = true := by decide +kernel
theorem dX6_pass_45 : decode cX6_pass 45 = .ok (.getfield 104, 3) := by decide +kernel
theorem dX6_pass_48 : decode cX6_pass 48 = .ok (.ifCond .ne 16, 3) := by decide +kernel
def sgX6_pass_15_34db8 : List Instr := [.aload_n 0]
theorem sgX6_pass_15_34db8d : am_dec cX6_pass 15 sgX6_pass_15_34db8 = true := by decide +kernel
theorem dX6_pass_16 : decode cX6_pass 16 = .ok (.getfield 147, 3) := by decide +kernel
def sgX6_pass_19_752a0 : List Instr := [.iload_n 1, .iadd, .sipush 401]
theorem sgX6_pass_19_752a0d : am_dec cX6_pass 19 sgX6_pass_19_752a0 = true := by decide +kernel
theorem dX6_pass_24 : decode cX6_pass 24 = .ok (.if_icmp .lt 7, 3) := by decide +kernel
def sgX6_pass_27_abe91 : List Instr := [.iconst 2, .goto 4]
theorem sgX6_pass_27_abe91d : am_dec cX6_pass 27 sgX6_pass_27_abe91 = true := by decide +kernel
def sgX6_pass_31_56c54 : List Instr := [.iconst 0]
theorem sgX6_pass_31_56c54d : am_dec cX6_pass 31 sgX6_pass_31_56c54 = true := by decide +kernel
def sgX6_pass_35_24699 : List Instr := [.iconst 0, .istore_n 2, .iconst 0, .istore_n 3]
theorem sgX6_pass_35_24699d : am_dec cX6_pass 35 sgX6_pass_35_24699 = true := by decide +kernel
def sgX6_pass_39_cb7d8 : List Instr := [.iload_n 3, .iload_n 1]
theorem sgX6_pass_39_cb7d8d : am_dec cX6_pass 39 sgX6_pass_39_cb7d8 = true := by decide +kernel
def sgX6_pass_51_14491 : List Instr := [.iload_n 2, .aload_n 0]
theorem sgX6_pass_51_14491d : am_dec cX6_pass 51 sgX6_pass_51_14491 = true := by decide +kernel
theorem dX6_pass_53 : decode cX6_pass 53 = .ok (.invokevirtual 193, 3) := by decide +kernel
def sgX6_pass_56_110d5 : List Instr := [.iadd, .istore_n 2, .iinc 3 1, .goto (-22)]
theorem sgX6_pass_56_110d5d : am_dec cX6_pass 56 sgX6_pass_56_110d5 = true := by decide +kernel
set_option maxRecDepth 100000 in
set_option maxHeartbeats 4000000 in
theorem c_r_heldn {G : am_S} {T S : am_T} {o : Nat → Int64} {m : Nat} (hm : S 17 0 = nI m) (hm80 : m ≤ 80) : am_D G yX6_held_ (.code yX6_held_ cX6_held_ 3 (some .int) :: am_G) { frames := 0, cells := 0, slots := 0, locals := 0 } (hp T S o) [.ref 465] (hp T (st1 S 0 0 0) o) (some (.int (rHeld S m))) := by
  refine am_of (by decide +kernel) (Nat.le_of_ble_eq_true rfl) ?_
  intro C hse hret hname hF hO
  subst hse
  refine am_go hF sgX6_held__0_9cf18 2 [(0, .ref 465)] [.int 0, .ref 465] sgX6_held__0_9cf18d rfl ?_
  refine sv_put hF 0 (by decide) rfl rfl rfl lf_RX6_104 dX6_held__2 ?_
  refine am_go hF sgX6_held__5_1ac35 9 [(2, .int 0), (1, .int 0), (0, .ref 465)] [] sgX6_held__5_1ac35d rfl ?_
  refine am_drop [2, 1, 0] [(0, .ref 465), (1, .int 0), (2, .int 0)] rfl ?_
  have lp9 : ∀ (zz j : Nat) (a : Int32), j + zz = m → a = itN (fun k a => a + (if S 24 k = 1 then 1 else 0)) 0 j → am_W C (hp T (st1 S 0 0 0) o) 0 0 9 [(0, .ref 465), (1, .int a), (2, .int (nI j))] [] := by
    intro zz
    induction zz with
    | zero =>
      intro j a hj ha
      have e9j : j = m := by omega
      refine am_go hF sgX6_held__9_14491 11 [(0, .ref 465), (1, .int a), (2, .int (nI j))] [.ref 465, .int (nI j)] sgX6_held__9_14491d rfl ?_
      refine sv_get hF 17 (by decide) rfl lf_RX6_115 (.int (S 17 0)) rfl dX6_held__11 ?_
      refine am_top (nI m) hm ?_
      refine am_icmpge hF 41 dX6_held__14 (by decide) (fun _ => ?_) (fun h9 => False.elim (absurd (nc_ge (show m ≤ j by omega) (by omega) (by omega) rfl rfl) h9))
      refine am_go hF sgX6_held__41_840bf 42 [(0, .ref 465), (1, .int a), (2, .int (nI j))] [.int a] sgX6_held__41_840bfd rfl ?_
      exact am_iret hF hO hret rfl dX6_held__42 ⟨rfl, (by first | (rw [ha, e9j]; done) | (rw [ha, e9j]; rfl))⟩
    | succ zz ih9 =>
      intro j a hj ha
      have l9j : j < m := by omega
      refine am_go hF sgX6_held__9_14491 11 [(0, .ref 465), (1, .int a), (2, .int (nI j))] [.ref 465, .int (nI j)] sgX6_held__9_14491d rfl ?_
      refine sv_get hF 17 (by decide) rfl lf_RX6_115 (.int (S 17 0)) rfl dX6_held__11 ?_
      refine am_top (nI m) hm ?_
      refine am_icmpge hF 41 dX6_held__14 (by decide) (fun h9 => False.elim (nc_lt_f (show j < m by omega) (by omega) (by omega) rfl rfl h9)) (fun _ => ?_)
      refine am_go hF sgX6_held__17_45dfc 19 [(0, .ref 465), (1, .int a), (2, .int (nI j))] [.ref 465, .int a] sgX6_held__17_45dfcd rfl ?_
      refine sv_get hF 24 (by decide) rfl lf_RX6_68 (.ref 524) rfl dX6_held__19 ?_
      refine am_go hF sgX6_held__22_f8a59 23 [(0, .ref 465), (1, .int a), (2, .int (nI j))] [.int (nI j), .ref 524, .int a] sgX6_held__22_f8a59d rfl ?_
      refine sv_iald hF 24 (by decide) ⟨rfl, rfl, by decide⟩ j rfl (show j < 80 by omega) dX6_held__23 ?_
      refine am_top (S 24 j) rfl ?_
      refine am_go hF sgX6_held__24_4de0a 25 [(0, .ref 465), (1, .int a), (2, .int (nI j))] [.int 1, .int (S 24 j), .int a] sgX6_held__24_4de0ad rfl ?_
      refine am_icmpne hF 32 dX6_held__25 (by decide) (fun c3 => ?_) (fun c3 => ?_)
      · skip
        refine am_go hF sgX6_held__32_0353b 9 [(2, .int ((nI j) + 1)), (1, .int (a + 0)), (0, .ref 465)] [] sgX6_held__32_0353bd rfl ?_
        refine am_drop [2, 1, 0] [(0, .ref 465), (1, .int (a + 0)), (2, .int ((nI j) + 1))] rfl ?_
        refine am_eqL [(0, .ref 465), (1, .int (a + 0)), (2, .int (nI (j + 1)))] (by rw [nI_1]) ?_
        exact ih9 (j + 1) (a + 0) (by omega) (by show _ = (itN (fun k a => a + (if S 24 k = 1 then 1 else 0)) 0 j) + (if S 24 j = 1 then 1 else 0); rw [← ha]; simp only [c3, ↓reduceIte])
      · skip
        refine am_go hF sgX6_held__28_58cab 9 [(2, .int ((nI j) + 1)), (1, .int (a + 1)), (0, .ref 465)] [] sgX6_held__28_58cabd rfl ?_
        refine am_drop [2, 1, 0] [(0, .ref 465), (1, .int (a + 1)), (2, .int ((nI j) + 1))] rfl ?_
        refine am_eqL [(0, .ref 465), (1, .int (a + 1)), (2, .int (nI (j + 1)))] (by rw [nI_1]) ?_
        exact ih9 (j + 1) (a + 1) (by omega) (by show _ = (itN (fun k a => a + (if S 24 k = 1 then 1 else 0)) 0 j) + (if S 24 j = 1 then 1 else 0); rw [← ha]; simp only [(eq_true c3), ↓reduceIte])
  exact lp9 m 0 0 (by omega) rfl
set_option maxRecDepth 100000 in
set_option maxHeartbeats 4000000 in
theorem c_r_mailAt_1 {G : am_S} {T S : am_T} {o : Nat → Int64} {x y : Int32} (hx : x < 0 ∨ nI 16 ≤ x) : am_D G yX6_mailAt (.code yX6_mailAt cX6_mailAt 3 (some .int) :: am_G) { frames := 2, cells := 0, slots := 0, locals := 42 } (hp T S o) [.ref 465, .int x, .int y] (hp T (st1 S 0 0 1) o) (some (.int 0)) := by
  refine am_of (by decide +kernel) (Nat.le_of_ble_eq_true rfl) ?_
  intro C hse hret hname hF hO
  subst hse
  refine am_go hF sgX6_mailAt_0_8bcf7 2 [(0, .ref 465), (1, .int x), (2, .int y)] [.int x, .ref 465] sgX6_mailAt_0_8bcf7d rfl ?_
  refine am_dS hF hO [.int x] [.ref 465] (c_isPerson_f hx) myX6_isPerson syX6_isPerson lm_RX6_118 rfl 0 0 ⟨Nat.le_of_ble_eq_true rfl, Nat.le_of_ble_eq_true rfl⟩ ⟨Nat.le_of_ble_eq_true rfl, Nat.le_of_ble_eq_true rfl, Nat.le_of_ble_eq_true rfl, Nat.le_of_ble_eq_true rfl⟩ rfl (am_lv_ref (hp_m _ _ _) (am_lv_int (am_lv_int (am_lv_ref (hp_m _ _ _) am_lv_nil)))) (Nat.le_of_ble_eq_true rfl) dX6_mailAt_2 [.int 0, .ref 465] rfl ?_
  refine am_ifeq hF 39 dX6_mailAt_5 (by decide) (fun _ => ?_) (fun h9 => False.elim ((by revert h9; decide)))
  refine am_go hF sgX6_mailAt_39_4de0a 40 [(0, .ref 465), (1, .int x), (2, .int y)] [.int 1, .ref 465] sgX6_mailAt_39_4de0ad rfl ?_
  refine sv_put hF 0 (by decide) rfl rfl rfl lf_RX6_104 dX6_mailAt_40 ?_
  refine am_go hF sgX6_mailAt_43_34db8 44 [(0, .ref 465), (1, .int x), (2, .int y)] [.ref 465] sgX6_mailAt_43_34db8d rfl ?_
  refine sv_get hF 0 (by decide) rfl lf_RX6_104 (.int 1) rfl dX6_mailAt_44 ?_
  refine am_ifle hF 54 dX6_mailAt_47 (by decide) (fun h9 => False.elim ((by revert h9; decide))) (fun _ => ?_)
  refine am_go hF sgX6_mailAt_50_d9a33 65 [(0, .ref 465), (1, .int x), (2, .int y)] [.int 0] sgX6_mailAt_50_d9a33d rfl ?_
  exact am_iret hF hO hret rfl dX6_mailAt_65 ⟨rfl, rfl⟩
set_option maxRecDepth 100000 in
set_option maxHeartbeats 4000000 in
theorem c_r_mailAt_2 {G : am_S} {T S : am_T} {o : Nat → Int64} {p : Nat} (hp9 : p < 16) {b : Nat} (hb : S 7 p = nI b) (hb10 : b ≤ 10) {y : Int32} (hy : y < 0 ∨ nI b ≤ y) : am_D G yX6_mailAt (.code yX6_mailAt cX6_mailAt 3 (some .int) :: am_G) { frames := 2, cells := 0, slots := 0, locals := 42 } (hp T S o) [.ref 465, .int (nI p), .int y] (hp T (st1 S 0 0 1) o) (some (.int 0)) := by
  refine am_of (by decide +kernel) (Nat.le_of_ble_eq_true rfl) ?_
  intro C hse hret hname hF hO
  subst hse
  refine am_go hF sgX6_mailAt_0_8bcf7 2 [(0, .ref 465), (1, .int (nI p)), (2, .int y)] [.int (nI p), .ref 465] sgX6_mailAt_0_8bcf7d rfl ?_
  refine am_dS hF hO [.int (nI p)] [.ref 465] (c_isPerson_t (show p < 16 by omega) rfl) myX6_isPerson syX6_isPerson lm_RX6_118 rfl 0 0 ⟨Nat.le_of_ble_eq_true rfl, Nat.le_of_ble_eq_true rfl⟩ ⟨Nat.le_of_ble_eq_true rfl, Nat.le_of_ble_eq_true rfl, Nat.le_of_ble_eq_true rfl, Nat.le_of_ble_eq_true rfl⟩ rfl (am_lv_ref (hp_m _ _ _) (am_lv_int (am_lv_int (am_lv_ref (hp_m _ _ _) am_lv_nil)))) (Nat.le_of_ble_eq_true rfl) dX6_mailAt_2 [.int 1, .ref 465] rfl ?_
  refine am_ifeq hF 39 dX6_mailAt_5 (by decide) (fun h9 => False.elim ((by revert h9; decide))) (fun _ => ?_)
  refine am_go hF sgX6_mailAt_8_a34ec 11 [(0, .ref 465), (1, .int (nI p)), (2, .int y)] [.ref 465, .int 0, .int y, .ref 465] sgX6_mailAt_8_a34ecd rfl ?_
  refine sv_get hF 7 (by decide) rfl lf_RX6_22 (.ref 507) rfl dX6_mailAt_11 ?_
  refine am_go hF sgX6_mailAt_14_840bf 15 [(0, .ref 465), (1, .int (nI p)), (2, .int y)] [.int (nI p), .ref 507, .int 0, .int y, .ref 465] sgX6_mailAt_14_840bfd rfl ?_
  refine am_dS hF hO [.int (nI p)] [.ref 507, .int 0, .int y, .ref 465] (c_isPerson_t (show p < 16 by omega) rfl) myX6_isPerson syX6_isPerson lm_RX6_118 rfl 0 0 ⟨Nat.le_of_ble_eq_true rfl, Nat.le_of_ble_eq_true rfl⟩ ⟨Nat.le_of_ble_eq_true rfl, Nat.le_of_ble_eq_true rfl, Nat.le_of_ble_eq_true rfl, Nat.le_of_ble_eq_true rfl⟩ rfl (am_lv_ref (hp_m _ _ _) (am_lv_int (am_lv_int (am_lv_ref (hp_a _ _ _ (f := 7) (by decide) rfl) (am_lv_int (am_lv_int (am_lv_ref (hp_m _ _ _) am_lv_nil))))))) (Nat.le_of_ble_eq_true rfl) dX6_mailAt_15 [.int 1, .ref 507, .int 0, .int y, .ref 465] rfl ?_
  refine am_ifeq hF 25 dX6_mailAt_18 (by decide) (fun h9 => False.elim ((by revert h9; decide))) (fun _ => ?_)
  refine am_go hF sgX6_mailAt_21_7181f 26 [(0, .ref 465), (1, .int (nI p)), (2, .int y)] [.int (nI p), .ref 507, .int 0, .int y, .ref 465] sgX6_mailAt_21_7181fd rfl ?_
  refine sv_iald hF 7 (by decide) ⟨rfl, rfl, by decide⟩ p rfl (show p < 16 by omega) dX6_mailAt_26 ?_
  refine am_top (nI b) hb ?_
  refine am_go hF sgX6_mailAt_27_d80e0 29 [(0, .ref 465), (1, .int (nI p)), (2, .int y)] [.int ((nI b) - 1), .int 0, .int y, .ref 465] sgX6_mailAt_27_d80e0d rfl ?_
  refine am_dS hF hO [.int y, .int 0, .int ((nI b) - 1)] [.ref 465] (c_isIn ) myX6_isIn syX6_isIn lm_RX6_108 rfl 0 0 ⟨Nat.le_of_ble_eq_true rfl, Nat.le_of_ble_eq_true rfl⟩ ⟨Nat.le_of_ble_eq_true rfl, Nat.le_of_ble_eq_true rfl, Nat.le_of_ble_eq_true rfl, Nat.le_of_ble_eq_true rfl⟩ rfl (am_lv_ref (hp_m _ _ _) (am_lv_int (am_lv_int (am_lv_ref (hp_m _ _ _) am_lv_nil)))) (Nat.le_of_ble_eq_true rfl) dX6_mailAt_29 [.int (if y < 0 then 0 else if (nI b) - 1 < y then 0 else 1), .ref 465] rfl ?_
  refine am_top 0 (ix_out (by omega) hy) ?_
  refine am_ifeq hF 39 dX6_mailAt_32 (by decide) (fun _ => ?_) (fun h9 => False.elim ((by revert h9; decide)))
  refine am_go hF sgX6_mailAt_39_4de0a 40 [(0, .ref 465), (1, .int (nI p)), (2, .int y)] [.int 1, .ref 465] sgX6_mailAt_39_4de0ad rfl ?_
  refine sv_put hF 0 (by decide) rfl rfl rfl lf_RX6_104 dX6_mailAt_40 ?_
  refine am_go hF sgX6_mailAt_43_34db8 44 [(0, .ref 465), (1, .int (nI p)), (2, .int y)] [.ref 465] sgX6_mailAt_43_34db8d rfl ?_
  refine sv_get hF 0 (by decide) rfl lf_RX6_104 (.int 1) rfl dX6_mailAt_44 ?_
  refine am_ifle hF 54 dX6_mailAt_47 (by decide) (fun h9 => False.elim ((by revert h9; decide))) (fun _ => ?_)
  refine am_go hF sgX6_mailAt_50_d9a33 65 [(0, .ref 465), (1, .int (nI p)), (2, .int y)] [.int 0] sgX6_mailAt_50_d9a33d rfl ?_
  exact am_iret hF hO hret rfl dX6_mailAt_65 ⟨rfl, rfl⟩
set_option maxRecDepth 100000 in
set_option maxHeartbeats 4000000 in
theorem c_r_mailAt_3 {G : am_S} {T S : am_T} {o : Nat → Int64} {p : Nat} (hp9 : p < 16) {b : Nat} (hb : S 7 p = nI b) (hb10 : b ≤ 10) {c : Nat} (hc : c < b) : am_D G yX6_mailAt (.code yX6_mailAt cX6_mailAt 3 (some .int) :: am_G) { frames := 2, cells := 0, slots := 0, locals := 42 } (hp T S o) [.ref 465, .int (nI p), .int (nI c)] (hp T (st1 S 0 0 0) o) (some (.int (S 8 ((10 * p) + c)))) := by
  refine am_of (by decide +kernel) (Nat.le_of_ble_eq_true rfl) ?_
  intro C hse hret hname hF hO
  subst hse
  refine am_go hF sgX6_mailAt_0_8bcf7 2 [(0, .ref 465), (1, .int (nI p)), (2, .int (nI c))] [.int (nI p), .ref 465] sgX6_mailAt_0_8bcf7d rfl ?_
  refine am_dS hF hO [.int (nI p)] [.ref 465] (c_isPerson_t (show p < 16 by omega) rfl) myX6_isPerson syX6_isPerson lm_RX6_118 rfl 0 0 ⟨Nat.le_of_ble_eq_true rfl, Nat.le_of_ble_eq_true rfl⟩ ⟨Nat.le_of_ble_eq_true rfl, Nat.le_of_ble_eq_true rfl, Nat.le_of_ble_eq_true rfl, Nat.le_of_ble_eq_true rfl⟩ rfl (am_lv_ref (hp_m _ _ _) (am_lv_int (am_lv_int (am_lv_ref (hp_m _ _ _) am_lv_nil)))) (Nat.le_of_ble_eq_true rfl) dX6_mailAt_2 [.int 1, .ref 465] rfl ?_
  refine am_ifeq hF 39 dX6_mailAt_5 (by decide) (fun h9 => False.elim ((by revert h9; decide))) (fun _ => ?_)
  refine am_go hF sgX6_mailAt_8_a34ec 11 [(0, .ref 465), (1, .int (nI p)), (2, .int (nI c))] [.ref 465, .int 0, .int (nI c), .ref 465] sgX6_mailAt_8_a34ecd rfl ?_
  refine sv_get hF 7 (by decide) rfl lf_RX6_22 (.ref 507) rfl dX6_mailAt_11 ?_
  refine am_go hF sgX6_mailAt_14_840bf 15 [(0, .ref 465), (1, .int (nI p)), (2, .int (nI c))] [.int (nI p), .ref 507, .int 0, .int (nI c), .ref 465] sgX6_mailAt_14_840bfd rfl ?_
  refine am_dS hF hO [.int (nI p)] [.ref 507, .int 0, .int (nI c), .ref 465] (c_isPerson_t (show p < 16 by omega) rfl) myX6_isPerson syX6_isPerson lm_RX6_118 rfl 0 0 ⟨Nat.le_of_ble_eq_true rfl, Nat.le_of_ble_eq_true rfl⟩ ⟨Nat.le_of_ble_eq_true rfl, Nat.le_of_ble_eq_true rfl, Nat.le_of_ble_eq_true rfl, Nat.le_of_ble_eq_true rfl⟩ rfl (am_lv_ref (hp_m _ _ _) (am_lv_int (am_lv_int (am_lv_ref (hp_a _ _ _ (f := 7) (by decide) rfl) (am_lv_int (am_lv_int (am_lv_ref (hp_m _ _ _) am_lv_nil))))))) (Nat.le_of_ble_eq_true rfl) dX6_mailAt_15 [.int 1, .ref 507, .int 0, .int (nI c), .ref 465] rfl ?_
  refine am_ifeq hF 25 dX6_mailAt_18 (by decide) (fun h9 => False.elim ((by revert h9; decide))) (fun _ => ?_)
  refine am_go hF sgX6_mailAt_21_7181f 26 [(0, .ref 465), (1, .int (nI p)), (2, .int (nI c))] [.int (nI p), .ref 507, .int 0, .int (nI c), .ref 465] sgX6_mailAt_21_7181fd rfl ?_
  refine sv_iald hF 7 (by decide) ⟨rfl, rfl, by decide⟩ p rfl (show p < 16 by omega) dX6_mailAt_26 ?_
  refine am_top (nI b) hb ?_
  refine am_go hF sgX6_mailAt_27_d80e0 29 [(0, .ref 465), (1, .int (nI p)), (2, .int (nI c))] [.int ((nI b) - 1), .int 0, .int (nI c), .ref 465] sgX6_mailAt_27_d80e0d rfl ?_
  refine am_dS hF hO [.int (nI c), .int 0, .int ((nI b) - 1)] [.ref 465] (c_isIn ) myX6_isIn syX6_isIn lm_RX6_108 rfl 0 0 ⟨Nat.le_of_ble_eq_true rfl, Nat.le_of_ble_eq_true rfl⟩ ⟨Nat.le_of_ble_eq_true rfl, Nat.le_of_ble_eq_true rfl, Nat.le_of_ble_eq_true rfl, Nat.le_of_ble_eq_true rfl⟩ rfl (am_lv_ref (hp_m _ _ _) (am_lv_int (am_lv_int (am_lv_ref (hp_m _ _ _) am_lv_nil)))) (Nat.le_of_ble_eq_true rfl) dX6_mailAt_29 [.int (if nI c < 0 then 0 else if (nI b) - 1 < nI c then 0 else 1), .ref 465] rfl ?_
  refine am_top 1 (ix_in (by omega) hc rfl) ?_
  refine am_ifeq hF 39 dX6_mailAt_32 (by decide) (fun h9 => False.elim ((by revert h9; decide))) (fun _ => ?_)
  refine am_go hF sgX6_mailAt_35_1cbe9 40 [(0, .ref 465), (1, .int (nI p)), (2, .int (nI c))] [.int 0, .ref 465] sgX6_mailAt_35_1cbe9d rfl ?_
  refine sv_put hF 0 (by decide) rfl rfl rfl lf_RX6_104 dX6_mailAt_40 ?_
  refine am_go hF sgX6_mailAt_43_34db8 44 [(0, .ref 465), (1, .int (nI p)), (2, .int (nI c))] [.ref 465] sgX6_mailAt_43_34db8d rfl ?_
  refine sv_get hF 0 (by decide) rfl lf_RX6_104 (.int 0) rfl dX6_mailAt_44 ?_
  refine am_ifle hF 54 dX6_mailAt_47 (by decide) (fun _ => ?_) (fun h9 => False.elim ((by revert h9; decide)))
  refine am_go hF sgX6_mailAt_54_34db8 55 [(0, .ref 465), (1, .int (nI p)), (2, .int (nI c))] [.ref 465] sgX6_mailAt_54_34db8d rfl ?_
  refine sv_get hF 8 (by decide) rfl lf_RX6_25 (.ref 508) rfl dX6_mailAt_55 ?_
  refine am_go hF sgX6_mailAt_58_afa86 64 [(0, .ref 465), (1, .int (nI p)), (2, .int (nI c))] [.int ((10 * (nI p)) + (nI c)), .ref 508] sgX6_mailAt_58_afa86d rfl ?_
  refine sv_iald hF 8 (by decide) ⟨rfl, rfl, by decide⟩ ((10 * p) + c) (am_ad (am_mu rfl rfl) rfl) (show (10 * p) + c < 160 by omega) dX6_mailAt_64 ?_
  refine am_top (S 8 ((10 * p) + c)) rfl ?_
  exact am_iret hF hO hret rfl dX6_mailAt_65 ⟨rfl, rfl⟩
set_option maxRecDepth 100000 in
set_option maxHeartbeats 4000000 in
theorem c_r_read_1 {G : am_S} {T S : am_T} {o : Nat → Int64} {x : Int32} (hx : x < 0 ∨ nI 16 ≤ x) : am_D G yX6_read (.code yX6_read cX6_read 4 (some .int) :: am_G) { frames := 2, cells := 0, slots := 0, locals := 42 } (hp T S o) [.ref 465, .int x] (hp T (st1 S 0 0 1) o) (some (.int 0)) := by
  refine am_of (by decide +kernel) (Nat.le_of_ble_eq_true rfl) ?_
  intro C hse hret hname hF hO
  subst hse
  refine am_go hF sgX6_read_0_8bcf7 2 [(0, .ref 465), (1, .int x)] [.int x, .ref 465] sgX6_read_0_8bcf7d rfl ?_
  refine am_dS hF hO [.int x] [.ref 465] (c_isPerson_f hx) myX6_isPerson syX6_isPerson lm_RX6_118 rfl 0 0 ⟨Nat.le_of_ble_eq_true rfl, Nat.le_of_ble_eq_true rfl⟩ ⟨Nat.le_of_ble_eq_true rfl, Nat.le_of_ble_eq_true rfl, Nat.le_of_ble_eq_true rfl, Nat.le_of_ble_eq_true rfl⟩ rfl (am_lv_ref (hp_m _ _ _) (am_lv_int (am_lv_ref (hp_m _ _ _) am_lv_nil))) (Nat.le_of_ble_eq_true rfl) dX6_read_2 [.int 0, .ref 465] rfl ?_
  refine am_ifeq hF 12 dX6_read_5 (by decide) (fun _ => ?_) (fun h9 => False.elim ((by revert h9; decide)))
  refine am_go hF sgX6_read_12_4de0a 13 [(0, .ref 465), (1, .int x)] [.int 1, .ref 465] sgX6_read_12_4de0ad rfl ?_
  refine sv_put hF 0 (by decide) rfl rfl rfl lf_RX6_104 dX6_read_13 ?_
  refine am_go hF sgX6_read_16_34db8 17 [(0, .ref 465), (1, .int x)] [.ref 465] sgX6_read_16_34db8d rfl ?_
  refine sv_get hF 0 (by decide) rfl lf_RX6_104 (.int 1) rfl dX6_read_17 ?_
  refine am_ifle hF 25 dX6_read_20 (by decide) (fun h9 => False.elim ((by revert h9; decide))) (fun _ => ?_)
  refine am_go hF sgX6_read_23_56c54 24 [(0, .ref 465), (1, .int x)] [.int 0] sgX6_read_23_56c54d rfl ?_
  exact am_iret hF hO hret rfl dX6_read_24 ⟨rfl, rfl⟩
set_option maxRecDepth 100000 in
set_option maxHeartbeats 4000000 in
theorem c_r_read_2 {G : am_S} {T S : am_T} {o : Nat → Int64} {p : Nat} (hp9 : p < 16) (hb : S 7 p = nI 0) : am_D G yX6_read (.code yX6_read cX6_read 4 (some .int) :: am_G) { frames := 2, cells := 0, slots := 0, locals := 42 } (hp T S o) [.ref 465, .int (nI p)] (hp T (st1 S 0 0 0) o) (some (.int (-1))) := by
  refine am_of (by decide +kernel) (Nat.le_of_ble_eq_true rfl) ?_
  intro C hse hret hname hF hO
  subst hse
  refine am_go hF sgX6_read_0_8bcf7 2 [(0, .ref 465), (1, .int (nI p))] [.int (nI p), .ref 465] sgX6_read_0_8bcf7d rfl ?_
  refine am_dS hF hO [.int (nI p)] [.ref 465] (c_isPerson_t (show p < 16 by omega) rfl) myX6_isPerson syX6_isPerson lm_RX6_118 rfl 0 0 ⟨Nat.le_of_ble_eq_true rfl, Nat.le_of_ble_eq_true rfl⟩ ⟨Nat.le_of_ble_eq_true rfl, Nat.le_of_ble_eq_true rfl, Nat.le_of_ble_eq_true rfl, Nat.le_of_ble_eq_true rfl⟩ rfl (am_lv_ref (hp_m _ _ _) (am_lv_int (am_lv_ref (hp_m _ _ _) am_lv_nil))) (Nat.le_of_ble_eq_true rfl) dX6_read_2 [.int 1, .ref 465] rfl ?_
  refine am_ifeq hF 12 dX6_read_5 (by decide) (fun h9 => False.elim ((by revert h9; decide))) (fun _ => ?_)
  refine am_go hF sgX6_read_8_1cbe9 13 [(0, .ref 465), (1, .int (nI p))] [.int 0, .ref 465] sgX6_read_8_1cbe9d rfl ?_
  refine sv_put hF 0 (by decide) rfl rfl rfl lf_RX6_104 dX6_read_13 ?_
  refine am_go hF sgX6_read_16_34db8 17 [(0, .ref 465), (1, .int (nI p))] [.ref 465] sgX6_read_16_34db8d rfl ?_
  refine sv_get hF 0 (by decide) rfl lf_RX6_104 (.int 0) rfl dX6_read_17 ?_
  refine am_ifle hF 25 dX6_read_20 (by decide) (fun _ => ?_) (fun h9 => False.elim ((by revert h9; decide)))
  refine am_go hF sgX6_read_25_34db8 26 [(0, .ref 465), (1, .int (nI p))] [.ref 465] sgX6_read_25_34db8d rfl ?_
  refine sv_get hF 7 (by decide) rfl lf_RX6_22 (.ref 507) rfl dX6_read_26 ?_
  refine am_go hF sgX6_read_29_840bf 30 [(0, .ref 465), (1, .int (nI p))] [.int (nI p), .ref 507] sgX6_read_29_840bfd rfl ?_
  refine sv_iald hF 7 (by decide) ⟨rfl, rfl, by decide⟩ p rfl (show p < 16 by omega) dX6_read_30 ?_
  refine am_top (nI 0) hb ?_
  refine am_ifne hF 36 dX6_read_31 (by decide) (fun h9 => False.elim (nc_eq_f (show 0 = 0 by omega) (by omega) (by omega) rfl rfl h9)) (fun _ => ?_)
  refine am_go hF sgX6_read_34_5ff24 35 [(0, .ref 465), (1, .int (nI p))] [.int (-1)] sgX6_read_34_5ff24d rfl ?_
  exact am_iret hF hO hret rfl dX6_read_35 ⟨rfl, rfl⟩
set_option maxRecDepth 100000 in
set_option maxHeartbeats 4000000 in
theorem c_r_read_3 {G : am_S} {T S : am_T} {o : Nat → Int64} {p : Nat} (hp9 : p < 16) {b : Nat} (hb : S 7 p = nI b) (hb10 : b ≤ 10) (hb0 : 0 < b) : am_D G yX6_read (.code yX6_read cX6_read 4 (some .int) :: am_G) { frames := 2, cells := 0, slots := 0, locals := 42 } (hp T S o) [.ref 465, .int (nI p)] (hp T (st1 (itN (rsh p) (st1 S 0 0 0) (b - 1)) 7 p (nI b - 1)) o) (some (.int (S 8 (10 * p)))) := by
  refine am_of (by decide +kernel) (Nat.le_of_ble_eq_true rfl) ?_
  intro C hse hret hname hF hO
  subst hse
  refine am_go hF sgX6_read_0_8bcf7 2 [(0, .ref 465), (1, .int (nI p))] [.int (nI p), .ref 465] sgX6_read_0_8bcf7d rfl ?_
  refine am_dS hF hO [.int (nI p)] [.ref 465] (c_isPerson_t (show p < 16 by omega) rfl) myX6_isPerson syX6_isPerson lm_RX6_118 rfl 0 0 ⟨Nat.le_of_ble_eq_true rfl, Nat.le_of_ble_eq_true rfl⟩ ⟨Nat.le_of_ble_eq_true rfl, Nat.le_of_ble_eq_true rfl, Nat.le_of_ble_eq_true rfl, Nat.le_of_ble_eq_true rfl⟩ rfl (am_lv_ref (hp_m _ _ _) (am_lv_int (am_lv_ref (hp_m _ _ _) am_lv_nil))) (Nat.le_of_ble_eq_true rfl) dX6_read_2 [.int 1, .ref 465] rfl ?_
  refine am_ifeq hF 12 dX6_read_5 (by decide) (fun h9 => False.elim ((by revert h9; decide))) (fun _ => ?_)
  refine am_go hF sgX6_read_8_1cbe9 13 [(0, .ref 465), (1, .int (nI p))] [.int 0, .ref 465] sgX6_read_8_1cbe9d rfl ?_
  refine sv_put hF 0 (by decide) rfl rfl rfl lf_RX6_104 dX6_read_13 ?_
  refine am_go hF sgX6_read_16_34db8 17 [(0, .ref 465), (1, .int (nI p))] [.ref 465] sgX6_read_16_34db8d rfl ?_
  refine sv_get hF 0 (by decide) rfl lf_RX6_104 (.int 0) rfl dX6_read_17 ?_
  refine am_ifle hF 25 dX6_read_20 (by decide) (fun _ => ?_) (fun h9 => False.elim ((by revert h9; decide)))
  refine am_go hF sgX6_read_25_34db8 26 [(0, .ref 465), (1, .int (nI p))] [.ref 465] sgX6_read_25_34db8d rfl ?_
  refine sv_get hF 7 (by decide) rfl lf_RX6_22 (.ref 507) rfl dX6_read_26 ?_
  refine am_go hF sgX6_read_29_840bf 30 [(0, .ref 465), (1, .int (nI p))] [.int (nI p), .ref 507] sgX6_read_29_840bfd rfl ?_
  refine sv_iald hF 7 (by decide) ⟨rfl, rfl, by decide⟩ p rfl (show p < 16 by omega) dX6_read_30 ?_
  refine am_top (nI b) hb ?_
  refine am_ifne hF 36 dX6_read_31 (by decide) (fun _ => ?_) (fun h9 => False.elim (absurd h9 (nc_ne (show b ≠ 0 by omega) (by omega) (by omega) rfl rfl)))
  refine am_go hF sgX6_read_36_34db8 37 [(0, .ref 465), (1, .int (nI p))] [.ref 465] sgX6_read_36_34db8d rfl ?_
  refine sv_get hF 8 (by decide) rfl lf_RX6_25 (.ref 508) rfl dX6_read_37 ?_
  refine am_go hF sgX6_read_40_82e00 44 [(0, .ref 465), (1, .int (nI p))] [.int (10 * (nI p)), .ref 508] sgX6_read_40_82e00d rfl ?_
  refine sv_iald hF 8 (by decide) ⟨rfl, rfl, by decide⟩ (10 * p) (am_mu rfl rfl) (show 10 * p < 160 by omega) dX6_read_44 ?_
  refine am_top (S 8 (10 * p)) rfl ?_
  refine am_go hF sgX6_read_45_545e8 48 [(3, .int 1), (2, .int (S 8 (10 * p))), (0, .ref 465), (1, .int (nI p))] [] sgX6_read_45_545e8d rfl ?_
  refine am_drop [2, 3, 1, 0] [(0, .ref 465), (1, .int (nI p)), (2, .int (S 8 (10 * p))), (3, .int 1)] rfl ?_
  have lp48 : ∀ (zz i : Nat) (S1 : am_T), i + zz = (b - 1) → S1 = itN (rsh p) (st1 S 0 0 0) i → am_W C (hp T S1 o) 0 0 48 [(0, .ref 465), (1, .int (nI p)), (2, .int (S 8 (10 * p))), (3, .int (nI (i + 1)))] [] := by
    intro zz
    induction zz with
    | zero =>
      intro i S1 hi hS1
      have e9i : i = (b - 1) := by omega
      have hb1 : S1 7 p = nI b := by rw [hS1]; exact (congrFun (itN_f (F := rsh p) 7 (fun k S => st1_f (show 7 ≠ 8 by decide)) _ i) p).trans hb
      refine am_go hF sgX6_read_48_a1b5b 50 [(0, .ref 465), (1, .int (nI p)), (2, .int (S 8 (10 * p))), (3, .int (nI (i + 1)))] [.ref 465, .int (nI (i + 1))] sgX6_read_48_a1b5bd rfl ?_
      refine sv_get hF 7 (by decide) rfl lf_RX6_22 (.ref 507) rfl dX6_read_50 ?_
      refine am_go hF sgX6_read_53_840bf 54 [(0, .ref 465), (1, .int (nI p)), (2, .int (S 8 (10 * p))), (3, .int (nI (i + 1)))] [.int (nI p), .ref 507, .int (nI (i + 1))] sgX6_read_53_840bfd rfl ?_
      refine sv_iald hF 7 (by decide) ⟨rfl, rfl, by decide⟩ p rfl (show p < 16 by omega) dX6_read_54 ?_
      refine am_top (nI b) hb1 ?_
      refine am_icmpge hF 88 dX6_read_55 (by decide) (fun _ => ?_) (fun h9 => False.elim (absurd (nc_ge (show b ≤ i + 1 by omega) (by omega) (by omega) rfl rfl) h9))
      refine am_go hF sgX6_read_88_34db8 89 [(0, .ref 465), (1, .int (nI p)), (2, .int (S 8 (10 * p))), (3, .int (nI (i + 1)))] [.ref 465] sgX6_read_88_34db8d rfl ?_
      refine sv_get hF 7 (by decide) rfl lf_RX6_22 (.ref 507) rfl dX6_read_89 ?_
      refine am_go hF sgX6_read_92_563cd 94 [(0, .ref 465), (1, .int (nI p)), (2, .int (S 8 (10 * p))), (3, .int (nI (i + 1)))] [.int (nI p), .ref 507, .int (nI p), .ref 507] sgX6_read_92_563cdd rfl ?_
      refine sv_iald hF 7 (by decide) ⟨rfl, rfl, by decide⟩ p rfl (show p < 16 by omega) dX6_read_94 ?_
      refine am_top (nI b) hb1 ?_
      refine am_go hF sgX6_read_95_d80e0 97 [(0, .ref 465), (1, .int (nI p)), (2, .int (S 8 (10 * p))), (3, .int (nI (i + 1)))] [.int ((nI b) - 1), .int (nI p), .ref 507] sgX6_read_95_d80e0d rfl ?_
      refine sv_iast hF 7 (by decide) ⟨rfl, rfl, by decide⟩ p rfl (show p < 16 by omega) dX6_read_97 ?_
      refine am_go hF sgX6_read_98_f8a59 99 [(0, .ref 465), (1, .int (nI p)), (2, .int (S 8 (10 * p))), (3, .int (nI (i + 1)))] [.int (S 8 (10 * p))] sgX6_read_98_f8a59d rfl ?_
      exact am_iret hF hO hret rfl dX6_read_99 ⟨by rw [hS1, e9i], rfl⟩
    | succ zz ih48 =>
      intro i S1 hi hS1
      have l9i : i < (b - 1) := by omega
      have hb1 : S1 7 p = nI b := by rw [hS1]; exact (congrFun (itN_f (F := rsh p) 7 (fun k S => st1_f (show 7 ≠ 8 by decide)) _ i) p).trans hb
      refine am_go hF sgX6_read_48_a1b5b 50 [(0, .ref 465), (1, .int (nI p)), (2, .int (S 8 (10 * p))), (3, .int (nI (i + 1)))] [.ref 465, .int (nI (i + 1))] sgX6_read_48_a1b5bd rfl ?_
      refine sv_get hF 7 (by decide) rfl lf_RX6_22 (.ref 507) rfl dX6_read_50 ?_
      refine am_go hF sgX6_read_53_840bf 54 [(0, .ref 465), (1, .int (nI p)), (2, .int (S 8 (10 * p))), (3, .int (nI (i + 1)))] [.int (nI p), .ref 507, .int (nI (i + 1))] sgX6_read_53_840bfd rfl ?_
      refine sv_iald hF 7 (by decide) ⟨rfl, rfl, by decide⟩ p rfl (show p < 16 by omega) dX6_read_54 ?_
      refine am_top (nI b) hb1 ?_
      refine am_icmpge hF 88 dX6_read_55 (by decide) (fun h9 => False.elim (nc_lt_f (show i + 1 < b by omega) (by omega) (by omega) rfl rfl h9)) (fun _ => ?_)
      refine am_go hF sgX6_read_58_34db8 59 [(0, .ref 465), (1, .int (nI p)), (2, .int (S 8 (10 * p))), (3, .int (nI (i + 1)))] [.ref 465] sgX6_read_58_34db8d rfl ?_
      refine sv_get hF 8 (by decide) rfl lf_RX6_25 (.ref 508) rfl dX6_read_59 ?_
      refine am_go hF sgX6_read_62_ca023 70 [(0, .ref 465), (1, .int (nI p)), (2, .int (S 8 (10 * p))), (3, .int (nI (i + 1)))] [.int (((10 * (nI p)) + (nI (i + 1))) - 1), .ref 508] sgX6_read_62_ca023d rfl ?_
      refine am_eqS [.int (nI (10 * p + i)), .ref 508] (by rw [show (10 * nI p + nI (i + 1) : Int32) - 1 = nI (10 * p + i) from am_s1 (a := 10 * p + i) (am_ad (a := 10 * p) (b := i + 1) (am_mu rfl rfl) rfl)]) ?_
      refine am_go hF sgX6_read_70_34db8 71 [(0, .ref 465), (1, .int (nI p)), (2, .int (S 8 (10 * p))), (3, .int (nI (i + 1)))] [.ref 465, .int (nI (10 * p + i)), .ref 508] sgX6_read_70_34db8d rfl ?_
      refine sv_get hF 8 (by decide) rfl lf_RX6_25 (.ref 508) rfl dX6_read_71 ?_
      refine am_go hF sgX6_read_74_ee1b8 80 [(0, .ref 465), (1, .int (nI p)), (2, .int (S 8 (10 * p))), (3, .int (nI (i + 1)))] [.int ((10 * (nI p)) + (nI (i + 1))), .ref 508, .int (nI (10 * p + i)), .ref 508] sgX6_read_74_ee1b8d rfl ?_
      refine sv_iald hF 8 (by decide) ⟨rfl, rfl, by decide⟩ ((10 * p) + (i + 1)) (am_ad (am_mu rfl rfl) rfl) (show (10 * p) + (i + 1) < 160 by omega) dX6_read_80 ?_
      refine sv_iast hF 8 (by decide) ⟨rfl, rfl, by decide⟩ (10 * p + i) rfl (show 10 * p + i < 160 by omega) dX6_read_81 ?_
      refine am_go hF sgX6_read_82_8e6d0 48 [(3, .int ((nI (i + 1)) + 1)), (0, .ref 465), (1, .int (nI p)), (2, .int (S 8 (10 * p)))] [] sgX6_read_82_8e6d0d rfl ?_
      refine am_drop [1, 2, 3, 0] [(0, .ref 465), (1, .int (nI p)), (2, .int (S 8 (10 * p))), (3, .int ((nI (i + 1)) + 1))] rfl ?_
      refine am_eqL [(0, .ref 465), (1, .int (nI p)), (2, .int (S 8 (10 * p))), (3, .int (nI (i + 1 + 1)))] (by rw [nI_1]) ?_
      exact ih48 (i + 1) (st1 S1 8 (10 * p + i) (S1 8 ((10 * p) + (i + 1)))) (by omega) (by show _ = rsh p i (itN (rsh p) (st1 S 0 0 0) i); rw [← hS1]; rfl)
  exact lp48 ((b - 1)) 0 (st1 S 0 0 0) (by omega) rfl
set_option maxRecDepth 100000 in
set_option maxHeartbeats 4000000 in
theorem c_dt_1 {G : am_S} {T S : am_T} {o : Nat → Int64} {n : Nat} (hn : S 9 0 = nI n) (hn10 : n ≤ 10) {x : Int32} (hx : x < 0 ∨ nI n ≤ x) {y : Int32} : am_D G yX6_digestThrown (.code yX6_digestThrown cX6_digestThrown 3 (some .int) :: am_G) { frames := 2, cells := 0, slots := 0, locals := 43 } (hp T S o) [.ref 465, .int x, .int y] (hp T S o) (some (.int 1)) := by
  refine am_of (by decide +kernel) (Nat.le_of_ble_eq_true rfl) ?_
  intro C hse hret hname hF hO
  subst hse
  refine am_go hF sgX6_digestThrown_0_8bcf7 2 [(0, .ref 465), (1, .int x), (2, .int y)] [.int x, .ref 465] sgX6_digestThrown_0_8bcf7d rfl ?_
  refine am_dV hF hO [.int x] [] (c_isList_f (S := S) hn hn10 hx) myX6_isList vyX6_isList lm_RX6_122 (hp_m _ _ _) rfl rfl 0 0 ⟨Nat.le_of_ble_eq_true rfl, Nat.le_of_ble_eq_true rfl⟩ ⟨Nat.le_of_ble_eq_true rfl, Nat.le_of_ble_eq_true rfl, Nat.le_of_ble_eq_true rfl, Nat.le_of_ble_eq_true rfl⟩ rfl (am_lv_ref (hp_m _ _ _) (am_lv_int (am_lv_int am_lv_nil))) (Nat.le_of_ble_eq_true rfl) dX6_digestThrown_2 [.int 0] rfl ?_
  refine am_ifne hF 10 dX6_digestThrown_5 (by decide) (fun h9 => False.elim ((by revert h9; decide))) (fun _ => ?_)
  refine am_go hF sgX6_digestThrown_8_4de0a 9 [(0, .ref 465), (1, .int x), (2, .int y)] [.int 1] sgX6_digestThrown_8_4de0ad rfl ?_
  exact am_iret hF hO hret rfl dX6_digestThrown_9 ⟨rfl, rfl⟩
set_option maxRecDepth 100000 in
set_option maxHeartbeats 4000000 in
theorem c_dt_2 {G : am_S} {T S : am_T} {o : Nat → Int64} {n : Nat} (hn : S 9 0 = nI n) (hn10 : n ≤ 10) {t : Nat} (ht : S 1 0 = nI t) (ht4 : t ≤ 400) {l : Nat} (hl : l < n) {y : Int32} (hy : y < 0 ∨ nI t < y) : am_D G yX6_digestThrown (.code yX6_digestThrown cX6_digestThrown 3 (some .int) :: am_G) { frames := 2, cells := 0, slots := 0, locals := 43 } (hp T S o) [.ref 465, .int (nI l), .int y] (hp T S o) (some (.int 2)) := by
  refine am_of (by decide +kernel) (Nat.le_of_ble_eq_true rfl) ?_
  intro C hse hret hname hF hO
  subst hse
  refine am_go hF sgX6_digestThrown_0_8bcf7 2 [(0, .ref 465), (1, .int (nI l)), (2, .int y)] [.int (nI l), .ref 465] sgX6_digestThrown_0_8bcf7d rfl ?_
  refine am_dV hF hO [.int (nI l)] [] (c_isList_t (S := S) hn hn10 (show l < n by omega) rfl) myX6_isList vyX6_isList lm_RX6_122 (hp_m _ _ _) rfl rfl 0 0 ⟨Nat.le_of_ble_eq_true rfl, Nat.le_of_ble_eq_true rfl⟩ ⟨Nat.le_of_ble_eq_true rfl, Nat.le_of_ble_eq_true rfl, Nat.le_of_ble_eq_true rfl, Nat.le_of_ble_eq_true rfl⟩ rfl (am_lv_ref (hp_m _ _ _) (am_lv_int (am_lv_int am_lv_nil))) (Nat.le_of_ble_eq_true rfl) dX6_digestThrown_2 [.int 1] rfl ?_
  refine am_ifne hF 10 dX6_digestThrown_5 (by decide) (fun _ => ?_) (fun h9 => False.elim ((by revert h9; decide)))
  refine am_go hF sgX6_digestThrown_10_a34ec 13 [(0, .ref 465), (1, .int (nI l)), (2, .int y)] [.ref 465, .int 0, .int y] sgX6_digestThrown_10_a34ecd rfl ?_
  refine sv_get hF 1 (by decide) rfl lf_RX6_147 (.int (S 1 0)) rfl dX6_digestThrown_13 ?_
  refine am_top (nI t) ht ?_
  refine am_dS hF hO [.int y, .int 0, .int (nI t)] [] (c_isIn_f hy) myX6_isIn syX6_isIn lm_RX6_108 rfl 0 0 ⟨Nat.le_of_ble_eq_true rfl, Nat.le_of_ble_eq_true rfl⟩ ⟨Nat.le_of_ble_eq_true rfl, Nat.le_of_ble_eq_true rfl, Nat.le_of_ble_eq_true rfl, Nat.le_of_ble_eq_true rfl⟩ rfl (am_lv_ref (hp_m _ _ _) (am_lv_int (am_lv_int am_lv_nil))) (Nat.le_of_ble_eq_true rfl) dX6_digestThrown_16 [.int 0] rfl ?_
  refine am_ifeq hF 26 dX6_digestThrown_19 (by decide) (fun _ => ?_) (fun h9 => False.elim ((by revert h9; decide)))
  refine am_go hF sgX6_digestThrown_26_d5620 27 [(0, .ref 465), (1, .int (nI l)), (2, .int y)] [.int 2] sgX6_digestThrown_26_d5620d rfl ?_
  exact am_iret hF hO hret rfl dX6_digestThrown_27 ⟨rfl, rfl⟩
set_option maxRecDepth 100000 in
set_option maxHeartbeats 4000000 in
theorem c_dt_3 {G : am_S} {T S : am_T} {o : Nat → Int64} {n : Nat} (hn : S 9 0 = nI n) (hn10 : n ≤ 10) {t : Nat} (ht : S 1 0 = nI t) (ht4 : t ≤ 400) {l : Nat} (hl : l < n) {d : Nat} (hd : d ≤ t) : am_D G yX6_digestThrown (.code yX6_digestThrown cX6_digestThrown 3 (some .int) :: am_G) { frames := 2, cells := 0, slots := 0, locals := 43 } (hp T S o) [.ref 465, .int (nI l), .int (nI d)] (hp T S o) (some (.int 0)) := by
  refine am_of (by decide +kernel) (Nat.le_of_ble_eq_true rfl) ?_
  intro C hse hret hname hF hO
  subst hse
  refine am_go hF sgX6_digestThrown_0_8bcf7 2 [(0, .ref 465), (1, .int (nI l)), (2, .int (nI d))] [.int (nI l), .ref 465] sgX6_digestThrown_0_8bcf7d rfl ?_
  refine am_dV hF hO [.int (nI l)] [] (c_isList_t (S := S) hn hn10 (show l < n by omega) rfl) myX6_isList vyX6_isList lm_RX6_122 (hp_m _ _ _) rfl rfl 0 0 ⟨Nat.le_of_ble_eq_true rfl, Nat.le_of_ble_eq_true rfl⟩ ⟨Nat.le_of_ble_eq_true rfl, Nat.le_of_ble_eq_true rfl, Nat.le_of_ble_eq_true rfl, Nat.le_of_ble_eq_true rfl⟩ rfl (am_lv_ref (hp_m _ _ _) (am_lv_int (am_lv_int am_lv_nil))) (Nat.le_of_ble_eq_true rfl) dX6_digestThrown_2 [.int 1] rfl ?_
  refine am_ifne hF 10 dX6_digestThrown_5 (by decide) (fun _ => ?_) (fun h9 => False.elim ((by revert h9; decide)))
  refine am_go hF sgX6_digestThrown_10_a34ec 13 [(0, .ref 465), (1, .int (nI l)), (2, .int (nI d))] [.ref 465, .int 0, .int (nI d)] sgX6_digestThrown_10_a34ecd rfl ?_
  refine sv_get hF 1 (by decide) rfl lf_RX6_147 (.int (S 1 0)) rfl dX6_digestThrown_13 ?_
  refine am_top (nI t) ht ?_
  refine am_dS hF hO [.int (nI d), .int 0, .int (nI t)] [] (c_isIn_t (ii_0 rfl (by omega) rfl) (ii_1 rfl (by omega) (by omega) rfl)) myX6_isIn syX6_isIn lm_RX6_108 rfl 0 0 ⟨Nat.le_of_ble_eq_true rfl, Nat.le_of_ble_eq_true rfl⟩ ⟨Nat.le_of_ble_eq_true rfl, Nat.le_of_ble_eq_true rfl, Nat.le_of_ble_eq_true rfl, Nat.le_of_ble_eq_true rfl⟩ rfl (am_lv_ref (hp_m _ _ _) (am_lv_int (am_lv_int am_lv_nil))) (Nat.le_of_ble_eq_true rfl) dX6_digestThrown_16 [.int 1] rfl ?_
  refine am_ifeq hF 26 dX6_digestThrown_19 (by decide) (fun h9 => False.elim ((by revert h9; decide))) (fun _ => ?_)
  refine am_go hF sgX6_digestThrown_22_1cbe9 27 [(0, .ref 465), (1, .int (nI l)), (2, .int (nI d))] [.int 0] sgX6_digestThrown_22_1cbe9d rfl ?_
  exact am_iret hF hO hret rfl dX6_digestThrown_27 ⟨rfl, rfl⟩
set_option maxRecDepth 100000 in
set_option maxHeartbeats 4000000 in
theorem c_r_size_1 {G : am_S} {T S : am_T} {o : Nat → Int64} {n : Nat} (hn : S 9 0 = nI n) (hn10 : n ≤ 10) {m : Nat} (hm : S 17 0 = nI m) (hm80 : m ≤ 80) {x : Int32} (hx : x < 0 ∨ nI n ≤ x) {y : Int32} : am_D G yX6_size (.code yX6_size cX6_size 5 (some .int) :: am_G) { frames := 3, cells := 0, slots := 0, locals := 65 } (hp T S o) [.ref 465, .int x, .int y] (hp T (st1 S 0 0 1) o) (some (.int 0)) := by
  refine am_of (by decide +kernel) (Nat.le_of_ble_eq_true rfl) ?_
  intro C hse hret hname hF hO
  subst hse
  refine am_go hF sgX6_size_0_06978 4 [(0, .ref 465), (1, .int x), (2, .int y)] [.int y, .int x, .ref 465, .ref 465] sgX6_size_0_06978d rfl ?_
  refine am_dV hF hO [.int x, .int y] [.ref 465] (c_dt_1 (S := S) hn hn10 hx) myX6_digestThrown vyX6_digestThrown lm_RX6_190 (hp_m _ _ _) rfl rfl 0 0 ⟨Nat.le_of_ble_eq_true rfl, Nat.le_of_ble_eq_true rfl⟩ ⟨Nat.le_of_ble_eq_true rfl, Nat.le_of_ble_eq_true rfl, Nat.le_of_ble_eq_true rfl, Nat.le_of_ble_eq_true rfl⟩ rfl (am_lv_ref (hp_m _ _ _) (am_lv_int (am_lv_int (am_lv_ref (hp_m _ _ _) am_lv_nil)))) (Nat.le_of_ble_eq_true rfl) dX6_size_4 [.int 1, .ref 465] rfl ?_
  refine sv_put hF 0 (by decide) rfl rfl rfl lf_RX6_104 dX6_size_7 ?_
  refine am_go hF sgX6_size_10_f7521 18 [(4, .int 0), (3, .int 0), (0, .ref 465), (1, .int x), (2, .int y)] [.ref 465, .int 0] sgX6_size_10_f7521d rfl ?_
  refine sv_get hF 17 (by decide) rfl lf_RX6_115 (.int (S 17 0)) rfl dX6_size_18 ?_
  refine am_top (nI m) hm ?_
  refine am_icmpge hF 71 dX6_size_21 (by decide) (fun c1 => ?_) (fun c1 => ?_)
  · skip
    refine am_go hF sgX6_size_71_13b50 72 [(4, .int 0), (3, .int 0), (0, .ref 465), (1, .int x), (2, .int y)] [.int 0] sgX6_size_71_13b50d rfl ?_
    exact am_iret hF hO hret rfl dX6_size_72 ⟨rfl, rfl⟩
  · skip
    refine am_go hF sgX6_size_24_34db8 25 [(4, .int 0), (3, .int 0), (0, .ref 465), (1, .int x), (2, .int y)] [.ref 465] sgX6_size_24_34db8d rfl ?_
    refine sv_get hF 0 (by decide) rfl lf_RX6_104 (.int 1) rfl dX6_size_25 ?_
    refine am_ifne hF 71 dX6_size_28 (by decide) (fun _ => ?_) (fun h9 => False.elim ((by revert h9; decide)))
    refine am_go hF sgX6_size_71_13b50 72 [(4, .int 0), (3, .int 0), (0, .ref 465), (1, .int x), (2, .int y)] [.int 0] sgX6_size_71_13b50d rfl ?_
    exact am_iret hF hO hret rfl dX6_size_72 ⟨rfl, rfl⟩
set_option maxRecDepth 100000 in
set_option maxHeartbeats 4000000 in
theorem c_r_size_2 {G : am_S} {T S : am_T} {o : Nat → Int64} {n : Nat} (hn : S 9 0 = nI n) (hn10 : n ≤ 10) {m : Nat} (hm : S 17 0 = nI m) (hm80 : m ≤ 80) {t : Nat} (ht : S 1 0 = nI t) (ht4 : t ≤ 400) {l : Nat} (hl : l < n) {y : Int32} (hy : y < 0 ∨ nI t < y) : am_D G yX6_size (.code yX6_size cX6_size 5 (some .int) :: am_G) { frames := 3, cells := 0, slots := 0, locals := 65 } (hp T S o) [.ref 465, .int (nI l), .int y] (hp T (st1 S 0 0 2) o) (some (.int 0)) := by
  refine am_of (by decide +kernel) (Nat.le_of_ble_eq_true rfl) ?_
  intro C hse hret hname hF hO
  subst hse
  refine am_go hF sgX6_size_0_06978 4 [(0, .ref 465), (1, .int (nI l)), (2, .int y)] [.int y, .int (nI l), .ref 465, .ref 465] sgX6_size_0_06978d rfl ?_
  refine am_dV hF hO [.int (nI l), .int y] [.ref 465] (c_dt_2 (S := S) hn hn10 ht ht4 hl hy) myX6_digestThrown vyX6_digestThrown lm_RX6_190 (hp_m _ _ _) rfl rfl 0 0 ⟨Nat.le_of_ble_eq_true rfl, Nat.le_of_ble_eq_true rfl⟩ ⟨Nat.le_of_ble_eq_true rfl, Nat.le_of_ble_eq_true rfl, Nat.le_of_ble_eq_true rfl, Nat.le_of_ble_eq_true rfl⟩ rfl (am_lv_ref (hp_m _ _ _) (am_lv_int (am_lv_int (am_lv_ref (hp_m _ _ _) am_lv_nil)))) (Nat.le_of_ble_eq_true rfl) dX6_size_4 [.int 2, .ref 465] rfl ?_
  refine sv_put hF 0 (by decide) rfl rfl rfl lf_RX6_104 dX6_size_7 ?_
  refine am_go hF sgX6_size_10_f7521 18 [(4, .int 0), (3, .int 0), (0, .ref 465), (1, .int (nI l)), (2, .int y)] [.ref 465, .int 0] sgX6_size_10_f7521d rfl ?_
  refine sv_get hF 17 (by decide) rfl lf_RX6_115 (.int (S 17 0)) rfl dX6_size_18 ?_
  refine am_top (nI m) hm ?_
  refine am_icmpge hF 71 dX6_size_21 (by decide) (fun c1 => ?_) (fun c1 => ?_)
  · skip
    refine am_go hF sgX6_size_71_13b50 72 [(4, .int 0), (3, .int 0), (0, .ref 465), (1, .int (nI l)), (2, .int y)] [.int 0] sgX6_size_71_13b50d rfl ?_
    exact am_iret hF hO hret rfl dX6_size_72 ⟨rfl, rfl⟩
  · skip
    refine am_go hF sgX6_size_24_34db8 25 [(4, .int 0), (3, .int 0), (0, .ref 465), (1, .int (nI l)), (2, .int y)] [.ref 465] sgX6_size_24_34db8d rfl ?_
    refine sv_get hF 0 (by decide) rfl lf_RX6_104 (.int 2) rfl dX6_size_25 ?_
    refine am_ifne hF 71 dX6_size_28 (by decide) (fun _ => ?_) (fun h9 => False.elim ((by revert h9; decide)))
    refine am_go hF sgX6_size_71_13b50 72 [(4, .int 0), (3, .int 0), (0, .ref 465), (1, .int (nI l)), (2, .int y)] [.int 0] sgX6_size_71_13b50d rfl ?_
    exact am_iret hF hO hret rfl dX6_size_72 ⟨rfl, rfl⟩
set_option maxRecDepth 100000 in
set_option maxHeartbeats 4000000 in
theorem c_r_digest_1 {G : am_S} {T S : am_T} {o : Nat → Int64} {n : Nat} (hn : S 9 0 = nI n) (hn10 : n ≤ 10) {m : Nat} (hm : S 17 0 = nI m) (hm80 : m ≤ 80) {x : Int32} (hx : x < 0 ∨ nI n ≤ x) {y : Int32} {z : Int32} : am_D G yX6_digest (.code yX6_digest cX6_digest 7 (some .int) :: am_G) { frames := 3, cells := 0, slots := 0, locals := 65 } (hp T S o) [.ref 465, .int x, .int y, .int z] (hp T (st1 (st1 S 0 0 1) 0 0 1) o) (some (.int 0)) := by
  refine am_of (by decide +kernel) (Nat.le_of_ble_eq_true rfl) ?_
  intro C hse hret hname hF hO
  subst hse
  refine am_go hF sgX6_digest_0_06978 4 [(0, .ref 465), (1, .int x), (2, .int y), (3, .int z)] [.int y, .int x, .ref 465, .ref 465] sgX6_digest_0_06978d rfl ?_
  refine am_dV hF hO [.int x, .int y] [.ref 465] (c_dt_1 (S := S) hn hn10 hx) myX6_digestThrown vyX6_digestThrown lm_RX6_190 (hp_m _ _ _) rfl rfl 0 0 ⟨Nat.le_of_ble_eq_true rfl, Nat.le_of_ble_eq_true rfl⟩ ⟨Nat.le_of_ble_eq_true rfl, Nat.le_of_ble_eq_true rfl, Nat.le_of_ble_eq_true rfl, Nat.le_of_ble_eq_true rfl⟩ rfl (am_lv_ref (hp_m _ _ _) (am_lv_int (am_lv_int (am_lv_int (am_lv_ref (hp_m _ _ _) am_lv_nil))))) (Nat.le_of_ble_eq_true rfl) dX6_digest_4 [.int 1, .ref 465] rfl ?_
  refine sv_put hF 0 (by decide) rfl rfl rfl lf_RX6_104 dX6_digest_7 ?_
  refine am_go hF sgX6_digest_10_bc1cb 22 [(6, .int 0), (5, .int (-1)), (4, .int z), (0, .ref 465), (1, .int x), (2, .int y), (3, .int z)] [.ref 465, .int 0] sgX6_digest_10_bc1cbd rfl ?_
  refine sv_get hF 17 (by decide) rfl lf_RX6_115 (.int (S 17 0)) rfl dX6_digest_22 ?_
  refine am_top (nI m) hm ?_
  refine am_icmpge hF 84 dX6_digest_25 (by decide) (fun c1 => ?_) (fun c1 => ?_)
  · skip
    refine am_go hF sgX6_digest_84_c81f7 86 [(6, .int 0), (5, .int (-1)), (4, .int z), (0, .ref 465), (1, .int x), (2, .int y), (3, .int z)] [.ref 465, .ref 465] sgX6_digest_84_c81f7d rfl ?_
    refine sv_get hF 0 (by decide) rfl lf_RX6_104 (.int 1) rfl dX6_digest_86 ?_
    refine am_ifle hF 99 dX6_digest_89 (by decide) (fun h9 => False.elim ((by revert h9; decide))) (fun _ => ?_)
    refine am_go hF sgX6_digest_92_34db8 93 [(6, .int 0), (5, .int (-1)), (4, .int z), (0, .ref 465), (1, .int x), (2, .int y), (3, .int z)] [.ref 465, .ref 465] sgX6_digest_92_34db8d rfl ?_
    refine sv_get hF 0 (by decide) rfl lf_RX6_104 (.int 1) rfl dX6_digest_93 ?_
    refine am_go hF sgX6_digest_96_22808 110 [(6, .int 0), (5, .int (-1)), (4, .int z), (0, .ref 465), (1, .int x), (2, .int y), (3, .int z)] [.int 1, .ref 465] sgX6_digest_96_22808d rfl ?_
    refine sv_put hF 0 (by decide) rfl rfl rfl lf_RX6_104 dX6_digest_110 ?_
    refine am_go hF sgX6_digest_113_34db8 114 [(6, .int 0), (5, .int (-1)), (4, .int z), (0, .ref 465), (1, .int x), (2, .int y), (3, .int z)] [.ref 465] sgX6_digest_113_34db8d rfl ?_
    refine sv_get hF 0 (by decide) rfl lf_RX6_104 (.int 1) rfl dX6_digest_114 ?_
    refine am_ifle hF 124 dX6_digest_117 (by decide) (fun h9 => False.elim ((by revert h9; decide))) (fun _ => ?_)
    refine am_go hF sgX6_digest_120_978aa 126 [(6, .int 0), (5, .int (-1)), (4, .int z), (0, .ref 465), (1, .int x), (2, .int y), (3, .int z)] [.int 0] sgX6_digest_120_978aad rfl ?_
    exact am_iret hF hO hret rfl dX6_digest_126 ⟨rfl, rfl⟩
  · skip
    refine am_go hF sgX6_digest_28_34db8 29 [(6, .int 0), (5, .int (-1)), (4, .int z), (0, .ref 465), (1, .int x), (2, .int y), (3, .int z)] [.ref 465] sgX6_digest_28_34db8d rfl ?_
    refine sv_get hF 0 (by decide) rfl lf_RX6_104 (.int 1) rfl dX6_digest_29 ?_
    refine am_ifne hF 84 dX6_digest_32 (by decide) (fun _ => ?_) (fun h9 => False.elim ((by revert h9; decide)))
    refine am_go hF sgX6_digest_84_c81f7 86 [(6, .int 0), (5, .int (-1)), (4, .int z), (0, .ref 465), (1, .int x), (2, .int y), (3, .int z)] [.ref 465, .ref 465] sgX6_digest_84_c81f7d rfl ?_
    refine sv_get hF 0 (by decide) rfl lf_RX6_104 (.int 1) rfl dX6_digest_86 ?_
    refine am_ifle hF 99 dX6_digest_89 (by decide) (fun h9 => False.elim ((by revert h9; decide))) (fun _ => ?_)
    refine am_go hF sgX6_digest_92_34db8 93 [(6, .int 0), (5, .int (-1)), (4, .int z), (0, .ref 465), (1, .int x), (2, .int y), (3, .int z)] [.ref 465, .ref 465] sgX6_digest_92_34db8d rfl ?_
    refine sv_get hF 0 (by decide) rfl lf_RX6_104 (.int 1) rfl dX6_digest_93 ?_
    refine am_go hF sgX6_digest_96_22808 110 [(6, .int 0), (5, .int (-1)), (4, .int z), (0, .ref 465), (1, .int x), (2, .int y), (3, .int z)] [.int 1, .ref 465] sgX6_digest_96_22808d rfl ?_
    refine sv_put hF 0 (by decide) rfl rfl rfl lf_RX6_104 dX6_digest_110 ?_
    refine am_go hF sgX6_digest_113_34db8 114 [(6, .int 0), (5, .int (-1)), (4, .int z), (0, .ref 465), (1, .int x), (2, .int y), (3, .int z)] [.ref 465] sgX6_digest_113_34db8d rfl ?_
    refine sv_get hF 0 (by decide) rfl lf_RX6_104 (.int 1) rfl dX6_digest_114 ?_
    refine am_ifle hF 124 dX6_digest_117 (by decide) (fun h9 => False.elim ((by revert h9; decide))) (fun _ => ?_)
    refine am_go hF sgX6_digest_120_978aa 126 [(6, .int 0), (5, .int (-1)), (4, .int z), (0, .ref 465), (1, .int x), (2, .int y), (3, .int z)] [.int 0] sgX6_digest_120_978aad rfl ?_
    exact am_iret hF hO hret rfl dX6_digest_126 ⟨rfl, rfl⟩
set_option maxRecDepth 100000 in
set_option maxHeartbeats 4000000 in
theorem c_r_digest_2 {G : am_S} {T S : am_T} {o : Nat → Int64} {n : Nat} (hn : S 9 0 = nI n) (hn10 : n ≤ 10) {m : Nat} (hm : S 17 0 = nI m) (hm80 : m ≤ 80) {t : Nat} (ht : S 1 0 = nI t) (ht4 : t ≤ 400) {l : Nat} (hl : l < n) {y : Int32} (hy : y < 0 ∨ nI t < y) {z : Int32} : am_D G yX6_digest (.code yX6_digest cX6_digest 7 (some .int) :: am_G) { frames := 3, cells := 0, slots := 0, locals := 65 } (hp T S o) [.ref 465, .int (nI l), .int y, .int z] (hp T (st1 (st1 S 0 0 2) 0 0 2) o) (some (.int 0)) := by
  refine am_of (by decide +kernel) (Nat.le_of_ble_eq_true rfl) ?_
  intro C hse hret hname hF hO
  subst hse
  refine am_go hF sgX6_digest_0_06978 4 [(0, .ref 465), (1, .int (nI l)), (2, .int y), (3, .int z)] [.int y, .int (nI l), .ref 465, .ref 465] sgX6_digest_0_06978d rfl ?_
  refine am_dV hF hO [.int (nI l), .int y] [.ref 465] (c_dt_2 (S := S) hn hn10 ht ht4 hl hy) myX6_digestThrown vyX6_digestThrown lm_RX6_190 (hp_m _ _ _) rfl rfl 0 0 ⟨Nat.le_of_ble_eq_true rfl, Nat.le_of_ble_eq_true rfl⟩ ⟨Nat.le_of_ble_eq_true rfl, Nat.le_of_ble_eq_true rfl, Nat.le_of_ble_eq_true rfl, Nat.le_of_ble_eq_true rfl⟩ rfl (am_lv_ref (hp_m _ _ _) (am_lv_int (am_lv_int (am_lv_int (am_lv_ref (hp_m _ _ _) am_lv_nil))))) (Nat.le_of_ble_eq_true rfl) dX6_digest_4 [.int 2, .ref 465] rfl ?_
  refine sv_put hF 0 (by decide) rfl rfl rfl lf_RX6_104 dX6_digest_7 ?_
  refine am_go hF sgX6_digest_10_bc1cb 22 [(6, .int 0), (5, .int (-1)), (4, .int z), (0, .ref 465), (1, .int (nI l)), (2, .int y), (3, .int z)] [.ref 465, .int 0] sgX6_digest_10_bc1cbd rfl ?_
  refine sv_get hF 17 (by decide) rfl lf_RX6_115 (.int (S 17 0)) rfl dX6_digest_22 ?_
  refine am_top (nI m) hm ?_
  refine am_icmpge hF 84 dX6_digest_25 (by decide) (fun c1 => ?_) (fun c1 => ?_)
  · skip
    refine am_go hF sgX6_digest_84_c81f7 86 [(6, .int 0), (5, .int (-1)), (4, .int z), (0, .ref 465), (1, .int (nI l)), (2, .int y), (3, .int z)] [.ref 465, .ref 465] sgX6_digest_84_c81f7d rfl ?_
    refine sv_get hF 0 (by decide) rfl lf_RX6_104 (.int 2) rfl dX6_digest_86 ?_
    refine am_ifle hF 99 dX6_digest_89 (by decide) (fun h9 => False.elim ((by revert h9; decide))) (fun _ => ?_)
    refine am_go hF sgX6_digest_92_34db8 93 [(6, .int 0), (5, .int (-1)), (4, .int z), (0, .ref 465), (1, .int (nI l)), (2, .int y), (3, .int z)] [.ref 465, .ref 465] sgX6_digest_92_34db8d rfl ?_
    refine sv_get hF 0 (by decide) rfl lf_RX6_104 (.int 2) rfl dX6_digest_93 ?_
    refine am_go hF sgX6_digest_96_22808 110 [(6, .int 0), (5, .int (-1)), (4, .int z), (0, .ref 465), (1, .int (nI l)), (2, .int y), (3, .int z)] [.int 2, .ref 465] sgX6_digest_96_22808d rfl ?_
    refine sv_put hF 0 (by decide) rfl rfl rfl lf_RX6_104 dX6_digest_110 ?_
    refine am_go hF sgX6_digest_113_34db8 114 [(6, .int 0), (5, .int (-1)), (4, .int z), (0, .ref 465), (1, .int (nI l)), (2, .int y), (3, .int z)] [.ref 465] sgX6_digest_113_34db8d rfl ?_
    refine sv_get hF 0 (by decide) rfl lf_RX6_104 (.int 2) rfl dX6_digest_114 ?_
    refine am_ifle hF 124 dX6_digest_117 (by decide) (fun h9 => False.elim ((by revert h9; decide))) (fun _ => ?_)
    refine am_go hF sgX6_digest_120_978aa 126 [(6, .int 0), (5, .int (-1)), (4, .int z), (0, .ref 465), (1, .int (nI l)), (2, .int y), (3, .int z)] [.int 0] sgX6_digest_120_978aad rfl ?_
    exact am_iret hF hO hret rfl dX6_digest_126 ⟨rfl, rfl⟩
  · skip
    refine am_go hF sgX6_digest_28_34db8 29 [(6, .int 0), (5, .int (-1)), (4, .int z), (0, .ref 465), (1, .int (nI l)), (2, .int y), (3, .int z)] [.ref 465] sgX6_digest_28_34db8d rfl ?_
    refine sv_get hF 0 (by decide) rfl lf_RX6_104 (.int 2) rfl dX6_digest_29 ?_
    refine am_ifne hF 84 dX6_digest_32 (by decide) (fun _ => ?_) (fun h9 => False.elim ((by revert h9; decide)))
    refine am_go hF sgX6_digest_84_c81f7 86 [(6, .int 0), (5, .int (-1)), (4, .int z), (0, .ref 465), (1, .int (nI l)), (2, .int y), (3, .int z)] [.ref 465, .ref 465] sgX6_digest_84_c81f7d rfl ?_
    refine sv_get hF 0 (by decide) rfl lf_RX6_104 (.int 2) rfl dX6_digest_86 ?_
    refine am_ifle hF 99 dX6_digest_89 (by decide) (fun h9 => False.elim ((by revert h9; decide))) (fun _ => ?_)
    refine am_go hF sgX6_digest_92_34db8 93 [(6, .int 0), (5, .int (-1)), (4, .int z), (0, .ref 465), (1, .int (nI l)), (2, .int y), (3, .int z)] [.ref 465, .ref 465] sgX6_digest_92_34db8d rfl ?_
    refine sv_get hF 0 (by decide) rfl lf_RX6_104 (.int 2) rfl dX6_digest_93 ?_
    refine am_go hF sgX6_digest_96_22808 110 [(6, .int 0), (5, .int (-1)), (4, .int z), (0, .ref 465), (1, .int (nI l)), (2, .int y), (3, .int z)] [.int 2, .ref 465] sgX6_digest_96_22808d rfl ?_
    refine sv_put hF 0 (by decide) rfl rfl rfl lf_RX6_104 dX6_digest_110 ?_
    refine am_go hF sgX6_digest_113_34db8 114 [(6, .int 0), (5, .int (-1)), (4, .int z), (0, .ref 465), (1, .int (nI l)), (2, .int y), (3, .int z)] [.ref 465] sgX6_digest_113_34db8d rfl ?_
    refine sv_get hF 0 (by decide) rfl lf_RX6_104 (.int 2) rfl dX6_digest_114 ?_
    refine am_ifle hF 124 dX6_digest_117 (by decide) (fun h9 => False.elim ((by revert h9; decide))) (fun _ => ?_)
    refine am_go hF sgX6_digest_120_978aa 126 [(6, .int 0), (5, .int (-1)), (4, .int z), (0, .ref 465), (1, .int (nI l)), (2, .int y), (3, .int z)] [.int 0] sgX6_digest_120_978aad rfl ?_
    exact am_iret hF hO hret rfl dX6_digest_126 ⟨rfl, rfl⟩
set_option maxRecDepth 100000 in
set_option maxHeartbeats 4000000 in
theorem c_r_edition_1 {G : am_S} {T S : am_T} {o : Nat → Int64} {n : Nat} (hn : S 9 0 = nI n) (hn10 : n ≤ 10) {x : Int32} (hx : x < 0 ∨ nI n ≤ x) {y : Int32} : am_D G yX6_edition (.code yX6_edition cX6_edition 3 (some .int) :: am_G) { frames := 3, cells := 0, slots := 0, locals := 65 } (hp T S o) [.ref 465, .int x, .int y] (hp T (st1 S 0 0 1) o) (some (.int 0)) := by
  refine am_of (by decide +kernel) (Nat.le_of_ble_eq_true rfl) ?_
  intro C hse hret hname hF hO
  subst hse
  refine am_go hF sgX6_edition_0_06978 4 [(0, .ref 465), (1, .int x), (2, .int y)] [.int y, .int x, .ref 465, .ref 465] sgX6_edition_0_06978d rfl ?_
  refine am_dV hF hO [.int x, .int y] [.ref 465] (c_dt_1 (S := S) hn hn10 hx) myX6_digestThrown vyX6_digestThrown lm_RX6_190 (hp_m _ _ _) rfl rfl 0 0 ⟨Nat.le_of_ble_eq_true rfl, Nat.le_of_ble_eq_true rfl⟩ ⟨Nat.le_of_ble_eq_true rfl, Nat.le_of_ble_eq_true rfl, Nat.le_of_ble_eq_true rfl, Nat.le_of_ble_eq_true rfl⟩ rfl (am_lv_ref (hp_m _ _ _) (am_lv_int (am_lv_int (am_lv_ref (hp_m _ _ _) am_lv_nil)))) (Nat.le_of_ble_eq_true rfl) dX6_edition_4 [.int 1, .ref 465] rfl ?_
  refine sv_put hF 0 (by decide) rfl rfl rfl lf_RX6_104 dX6_edition_7 ?_
  refine am_go hF sgX6_edition_10_34db8 11 [(0, .ref 465), (1, .int x), (2, .int y)] [.ref 465] sgX6_edition_10_34db8d rfl ?_
  refine sv_get hF 0 (by decide) rfl lf_RX6_104 (.int 1) rfl dX6_edition_11 ?_
  refine am_ifle hF 19 dX6_edition_14 (by decide) (fun h9 => False.elim ((by revert h9; decide))) (fun _ => ?_)
  refine am_go hF sgX6_edition_17_56c54 18 [(0, .ref 465), (1, .int x), (2, .int y)] [.int 0] sgX6_edition_17_56c54d rfl ?_
  exact am_iret hF hO hret rfl dX6_edition_18 ⟨rfl, rfl⟩
set_option maxRecDepth 100000 in
set_option maxHeartbeats 4000000 in
theorem c_r_edition_2 {G : am_S} {T S : am_T} {o : Nat → Int64} {n : Nat} (hn : S 9 0 = nI n) (hn10 : n ≤ 10) {t : Nat} (ht : S 1 0 = nI t) (ht4 : t ≤ 400) {l : Nat} (hl : l < n) {y : Int32} (hy : y < 0 ∨ nI t < y) : am_D G yX6_edition (.code yX6_edition cX6_edition 3 (some .int) :: am_G) { frames := 3, cells := 0, slots := 0, locals := 65 } (hp T S o) [.ref 465, .int (nI l), .int y] (hp T (st1 S 0 0 2) o) (some (.int 0)) := by
  refine am_of (by decide +kernel) (Nat.le_of_ble_eq_true rfl) ?_
  intro C hse hret hname hF hO
  subst hse
  refine am_go hF sgX6_edition_0_06978 4 [(0, .ref 465), (1, .int (nI l)), (2, .int y)] [.int y, .int (nI l), .ref 465, .ref 465] sgX6_edition_0_06978d rfl ?_
  refine am_dV hF hO [.int (nI l), .int y] [.ref 465] (c_dt_2 (S := S) hn hn10 ht ht4 hl hy) myX6_digestThrown vyX6_digestThrown lm_RX6_190 (hp_m _ _ _) rfl rfl 0 0 ⟨Nat.le_of_ble_eq_true rfl, Nat.le_of_ble_eq_true rfl⟩ ⟨Nat.le_of_ble_eq_true rfl, Nat.le_of_ble_eq_true rfl, Nat.le_of_ble_eq_true rfl, Nat.le_of_ble_eq_true rfl⟩ rfl (am_lv_ref (hp_m _ _ _) (am_lv_int (am_lv_int (am_lv_ref (hp_m _ _ _) am_lv_nil)))) (Nat.le_of_ble_eq_true rfl) dX6_edition_4 [.int 2, .ref 465] rfl ?_
  refine sv_put hF 0 (by decide) rfl rfl rfl lf_RX6_104 dX6_edition_7 ?_
  refine am_go hF sgX6_edition_10_34db8 11 [(0, .ref 465), (1, .int (nI l)), (2, .int y)] [.ref 465] sgX6_edition_10_34db8d rfl ?_
  refine sv_get hF 0 (by decide) rfl lf_RX6_104 (.int 2) rfl dX6_edition_11 ?_
  refine am_ifle hF 19 dX6_edition_14 (by decide) (fun h9 => False.elim ((by revert h9; decide))) (fun _ => ?_)
  refine am_go hF sgX6_edition_17_56c54 18 [(0, .ref 465), (1, .int (nI l)), (2, .int y)] [.int 0] sgX6_edition_17_56c54d rfl ?_
  exact am_iret hF hO hret rfl dX6_edition_18 ⟨rfl, rfl⟩
set_option maxRecDepth 100000 in
set_option maxHeartbeats 4000000 in
theorem c_r_readers_1 {G : am_S} {T S : am_T} {o : Nat → Int64} {n : Nat} (hn : S 9 0 = nI n) (hn10 : n ≤ 10) {x : Int32} (hx : x < 0 ∨ nI n ≤ x) {y : Int32} : am_D G yX6_readers (.code yX6_readers cX6_readers 3 (some .int) :: am_G) { frames := 3, cells := 0, slots := 0, locals := 65 } (hp T S o) [.ref 465, .int x, .int y] (hp T (st1 S 0 0 1) o) (some (.int 0)) := by
  refine am_of (by decide +kernel) (Nat.le_of_ble_eq_true rfl) ?_
  intro C hse hret hname hF hO
  subst hse
  refine am_go hF sgX6_readers_0_06978 4 [(0, .ref 465), (1, .int x), (2, .int y)] [.int y, .int x, .ref 465, .ref 465] sgX6_readers_0_06978d rfl ?_
  refine am_dV hF hO [.int x, .int y] [.ref 465] (c_dt_1 (S := S) hn hn10 hx) myX6_digestThrown vyX6_digestThrown lm_RX6_190 (hp_m _ _ _) rfl rfl 0 0 ⟨Nat.le_of_ble_eq_true rfl, Nat.le_of_ble_eq_true rfl⟩ ⟨Nat.le_of_ble_eq_true rfl, Nat.le_of_ble_eq_true rfl, Nat.le_of_ble_eq_true rfl, Nat.le_of_ble_eq_true rfl⟩ rfl (am_lv_ref (hp_m _ _ _) (am_lv_int (am_lv_int (am_lv_ref (hp_m _ _ _) am_lv_nil)))) (Nat.le_of_ble_eq_true rfl) dX6_readers_4 [.int 1, .ref 465] rfl ?_
  refine sv_put hF 0 (by decide) rfl rfl rfl lf_RX6_104 dX6_readers_7 ?_
  refine am_go hF sgX6_readers_10_34db8 11 [(0, .ref 465), (1, .int x), (2, .int y)] [.ref 465] sgX6_readers_10_34db8d rfl ?_
  refine sv_get hF 0 (by decide) rfl lf_RX6_104 (.int 1) rfl dX6_readers_11 ?_
  refine am_ifle hF 21 dX6_readers_14 (by decide) (fun h9 => False.elim ((by revert h9; decide))) (fun _ => ?_)
  refine am_go hF sgX6_readers_17_c9efa 33 [(0, .ref 465), (1, .int x), (2, .int y)] [.int 0] sgX6_readers_17_c9efad rfl ?_
  exact am_iret hF hO hret rfl dX6_readers_33 ⟨rfl, rfl⟩
set_option maxRecDepth 100000 in
set_option maxHeartbeats 4000000 in
theorem c_r_readers_2 {G : am_S} {T S : am_T} {o : Nat → Int64} {n : Nat} (hn : S 9 0 = nI n) (hn10 : n ≤ 10) {t : Nat} (ht : S 1 0 = nI t) (ht4 : t ≤ 400) {l : Nat} (hl : l < n) {y : Int32} (hy : y < 0 ∨ nI t < y) : am_D G yX6_readers (.code yX6_readers cX6_readers 3 (some .int) :: am_G) { frames := 3, cells := 0, slots := 0, locals := 65 } (hp T S o) [.ref 465, .int (nI l), .int y] (hp T (st1 S 0 0 2) o) (some (.int 0)) := by
  refine am_of (by decide +kernel) (Nat.le_of_ble_eq_true rfl) ?_
  intro C hse hret hname hF hO
  subst hse
  refine am_go hF sgX6_readers_0_06978 4 [(0, .ref 465), (1, .int (nI l)), (2, .int y)] [.int y, .int (nI l), .ref 465, .ref 465] sgX6_readers_0_06978d rfl ?_
  refine am_dV hF hO [.int (nI l), .int y] [.ref 465] (c_dt_2 (S := S) hn hn10 ht ht4 hl hy) myX6_digestThrown vyX6_digestThrown lm_RX6_190 (hp_m _ _ _) rfl rfl 0 0 ⟨Nat.le_of_ble_eq_true rfl, Nat.le_of_ble_eq_true rfl⟩ ⟨Nat.le_of_ble_eq_true rfl, Nat.le_of_ble_eq_true rfl, Nat.le_of_ble_eq_true rfl, Nat.le_of_ble_eq_true rfl⟩ rfl (am_lv_ref (hp_m _ _ _) (am_lv_int (am_lv_int (am_lv_ref (hp_m _ _ _) am_lv_nil)))) (Nat.le_of_ble_eq_true rfl) dX6_readers_4 [.int 2, .ref 465] rfl ?_
  refine sv_put hF 0 (by decide) rfl rfl rfl lf_RX6_104 dX6_readers_7 ?_
  refine am_go hF sgX6_readers_10_34db8 11 [(0, .ref 465), (1, .int (nI l)), (2, .int y)] [.ref 465] sgX6_readers_10_34db8d rfl ?_
  refine sv_get hF 0 (by decide) rfl lf_RX6_104 (.int 2) rfl dX6_readers_11 ?_
  refine am_ifle hF 21 dX6_readers_14 (by decide) (fun h9 => False.elim ((by revert h9; decide))) (fun _ => ?_)
  refine am_go hF sgX6_readers_17_c9efa 33 [(0, .ref 465), (1, .int (nI l)), (2, .int y)] [.int 0] sgX6_readers_17_c9efad rfl ?_
  exact am_iret hF hO hret rfl dX6_readers_33 ⟨rfl, rfl⟩
set_option maxRecDepth 100000 in
set_option maxHeartbeats 4000000 in
theorem c_r_size_3 {G : am_S} {T S : am_T} {o : Nat → Int64} {n : Nat} (hn : S 9 0 = nI n) (hn10 : n ≤ 10) {m : Nat} (hm : S 17 0 = nI m) (hm80 : m ≤ 80) {t : Nat} (ht : S 1 0 = nI t) (ht4 : t ≤ 400) {l : Nat} (hl : l < n) {d : Nat} (hd : d ≤ t) : am_D G yX6_size (.code yX6_size cX6_size 5 (some .int) :: am_G) { frames := 3, cells := 0, slots := 0, locals := 65 } (hp T S o) [.ref 465, .int (nI l), .int (nI d)] (hp T (st1 S 0 0 0) o) (some (.int (rSize S m l d))) := by
  refine am_of (by decide +kernel) (Nat.le_of_ble_eq_true rfl) ?_
  intro C hse hret hname hF hO
  subst hse
  refine am_go hF sgX6_size_0_06978 4 [(0, .ref 465), (1, .int (nI l)), (2, .int (nI d))] [.int (nI d), .int (nI l), .ref 465, .ref 465] sgX6_size_0_06978d rfl ?_
  refine am_dV hF hO [.int (nI l), .int (nI d)] [.ref 465] (c_dt_3 (S := S) hn hn10 ht ht4 hl hd) myX6_digestThrown vyX6_digestThrown lm_RX6_190 (hp_m _ _ _) rfl rfl 0 0 ⟨Nat.le_of_ble_eq_true rfl, Nat.le_of_ble_eq_true rfl⟩ ⟨Nat.le_of_ble_eq_true rfl, Nat.le_of_ble_eq_true rfl, Nat.le_of_ble_eq_true rfl, Nat.le_of_ble_eq_true rfl⟩ rfl (am_lv_ref (hp_m _ _ _) (am_lv_int (am_lv_int (am_lv_ref (hp_m _ _ _) am_lv_nil)))) (Nat.le_of_ble_eq_true rfl) dX6_size_4 [.int 0, .ref 465] rfl ?_
  refine sv_put hF 0 (by decide) rfl rfl rfl lf_RX6_104 dX6_size_7 ?_
  refine am_go hF sgX6_size_10_1e911 15 [(4, .int 0), (3, .int 0), (0, .ref 465), (1, .int (nI l)), (2, .int (nI d))] [] sgX6_size_10_1e911d rfl ?_
  refine am_drop [2, 3, 4, 1, 0] [(0, .ref 465), (1, .int (nI l)), (2, .int (nI d)), (3, .int 0), (4, .int 0)] rfl ?_
  have lp15 : ∀ (zz j : Nat) (a : Int32), j + zz = m → a = itN (rsz S l d) 0 j → am_W C (hp T (st1 S 0 0 0) o) 0 0 15 [(0, .ref 465), (1, .int (nI l)), (2, .int (nI d)), (3, .int a), (4, .int (nI j))] [] := by
    intro zz
    induction zz with
    | zero =>
      intro j a hj ha
      have e9j : j = m := by omega
      refine am_go hF sgX6_size_15_49a24 18 [(0, .ref 465), (1, .int (nI l)), (2, .int (nI d)), (3, .int a), (4, .int (nI j))] [.ref 465, .int (nI j)] sgX6_size_15_49a24d rfl ?_
      refine sv_get hF 17 (by decide) rfl lf_RX6_115 (.int (S 17 0)) rfl dX6_size_18 ?_
      refine am_top (nI m) hm ?_
      refine am_icmpge hF 71 dX6_size_21 (by decide) (fun _ => ?_) (fun h9 => False.elim (absurd (nc_ge (show m ≤ j by omega) (by omega) (by omega) rfl rfl) h9))
      refine am_go hF sgX6_size_71_13b50 72 [(0, .ref 465), (1, .int (nI l)), (2, .int (nI d)), (3, .int a), (4, .int (nI j))] [.int a] sgX6_size_71_13b50d rfl ?_
      exact am_iret hF hO hret rfl dX6_size_72 ⟨rfl, (by first | (rw [ha, e9j]; done) | (rw [ha, e9j]; rfl))⟩
    | succ zz ih15 =>
      intro j a hj ha
      have l9j : j < m := by omega
      refine am_go hF sgX6_size_15_49a24 18 [(0, .ref 465), (1, .int (nI l)), (2, .int (nI d)), (3, .int a), (4, .int (nI j))] [.ref 465, .int (nI j)] sgX6_size_15_49a24d rfl ?_
      refine sv_get hF 17 (by decide) rfl lf_RX6_115 (.int (S 17 0)) rfl dX6_size_18 ?_
      refine am_top (nI m) hm ?_
      refine am_icmpge hF 71 dX6_size_21 (by decide) (fun h9 => False.elim (nc_lt_f (show j < m by omega) (by omega) (by omega) rfl rfl h9)) (fun _ => ?_)
      refine am_go hF sgX6_size_24_34db8 25 [(0, .ref 465), (1, .int (nI l)), (2, .int (nI d)), (3, .int a), (4, .int (nI j))] [.ref 465] sgX6_size_24_34db8d rfl ?_
      refine sv_get hF 0 (by decide) rfl lf_RX6_104 (.int 0) rfl dX6_size_25 ?_
      refine am_ifne hF 71 dX6_size_28 (by decide) (fun h9 => False.elim ((by revert h9; decide))) (fun _ => ?_)
      refine am_go hF sgX6_size_31_a1b5b 33 [(0, .ref 465), (1, .int (nI l)), (2, .int (nI d)), (3, .int a), (4, .int (nI j))] [.ref 465, .int a] sgX6_size_31_a1b5bd rfl ?_
      refine sv_get hF 20 (by decide) rfl lf_RX6_56 (.ref 520) rfl dX6_size_33 ?_
      refine am_go hF sgX6_size_36_c6742 38 [(0, .ref 465), (1, .int (nI l)), (2, .int (nI d)), (3, .int a), (4, .int (nI j))] [.int (nI j), .ref 520, .int a] sgX6_size_36_c6742d rfl ?_
      refine sv_iald hF 20 (by decide) ⟨rfl, rfl, by decide⟩ j rfl (show j < 80 by omega) dX6_size_38 ?_
      refine am_top (S 20 j) rfl ?_
      refine am_go hF sgX6_size_39_f8a59 40 [(0, .ref 465), (1, .int (nI l)), (2, .int (nI d)), (3, .int a), (4, .int (nI j))] [.int (nI d), .int (S 20 j), .int a] sgX6_size_39_f8a59d rfl ?_
      refine am_icmpne hF 62 dX6_size_40 (by decide) (fun c4 => ?_) (fun c4 => ?_)
      · skip
        refine am_go hF sgX6_size_62_8e839 15 [(4, .int ((nI j) + 1)), (3, .int (a + 0)), (0, .ref 465), (1, .int (nI l)), (2, .int (nI d))] [] sgX6_size_62_8e839d rfl ?_
        refine am_drop [2, 3, 4, 1, 0] [(0, .ref 465), (1, .int (nI l)), (2, .int (nI d)), (3, .int (a + 0)), (4, .int ((nI j) + 1))] rfl ?_
        refine am_eqL [(0, .ref 465), (1, .int (nI l)), (2, .int (nI d)), (3, .int (a + 0)), (4, .int (nI (j + 1)))] (by rw [nI_1]) ?_
        exact ih15 (j + 1) (a + 0) (by omega) (by show _ = rsz S l d j (itN (rsz S l d) 0 j); rw [← ha]; simp only [rsz, c4, not_false_eq_true, not_true_eq_false, and_self, and_true, true_and, and_false, false_and, true_or, or_true, or_false, false_or, or_self, ↓reduceIte])
      · skip
        refine am_go hF sgX6_size_43_34db8 44 [(0, .ref 465), (1, .int (nI l)), (2, .int (nI d)), (3, .int a), (4, .int (nI j))] [.ref 465, .int a] sgX6_size_43_34db8d rfl ?_
        refine sv_get hF 31 (by decide) rfl lf_RX6_89 (.ref 531) rfl dX6_size_44 ?_
        refine am_go hF sgX6_size_47_30167 54 [(0, .ref 465), (1, .int (nI l)), (2, .int (nI d)), (3, .int a), (4, .int (nI j))] [.int ((10 * (nI j)) + (nI l)), .ref 531, .int a] sgX6_size_47_30167d rfl ?_
        refine sv_zald hF 31 (by decide) ⟨rfl, rfl, by decide⟩ ((10 * j) + l) (am_ad (am_mu rfl rfl) rfl) (show (10 * j) + l < 800 by omega) dX6_size_54 ?_
        refine am_top (S 31 ((10 * j) + l)) rfl ?_
        refine am_ifeq hF 62 dX6_size_55 (by decide) (fun c5 => ?_) (fun c5 => ?_)
        · skip
          refine am_go hF sgX6_size_62_8e839 15 [(4, .int ((nI j) + 1)), (3, .int (a + 0)), (0, .ref 465), (1, .int (nI l)), (2, .int (nI d))] [] sgX6_size_62_8e839d rfl ?_
          refine am_drop [2, 3, 4, 1, 0] [(0, .ref 465), (1, .int (nI l)), (2, .int (nI d)), (3, .int (a + 0)), (4, .int ((nI j) + 1))] rfl ?_
          refine am_eqL [(0, .ref 465), (1, .int (nI l)), (2, .int (nI d)), (3, .int (a + 0)), (4, .int (nI (j + 1)))] (by rw [nI_1]) ?_
          exact ih15 (j + 1) (a + 0) (by omega) (by show _ = rsz S l d j (itN (rsz S l d) 0 j); rw [← ha]; simp only [rsz, (eq_true c4), (eq_true c5), not_false_eq_true, not_true_eq_false, and_self, and_true, true_and, and_false, false_and, true_or, or_true, or_false, false_or, or_self, ↓reduceIte])
        · skip
          refine am_go hF sgX6_size_58_ec8c0 15 [(4, .int ((nI j) + 1)), (3, .int (a + 1)), (0, .ref 465), (1, .int (nI l)), (2, .int (nI d))] [] sgX6_size_58_ec8c0d rfl ?_
          refine am_drop [2, 3, 4, 1, 0] [(0, .ref 465), (1, .int (nI l)), (2, .int (nI d)), (3, .int (a + 1)), (4, .int ((nI j) + 1))] rfl ?_
          refine am_eqL [(0, .ref 465), (1, .int (nI l)), (2, .int (nI d)), (3, .int (a + 1)), (4, .int (nI (j + 1)))] (by rw [nI_1]) ?_
          exact ih15 (j + 1) (a + 1) (by omega) (by show _ = rsz S l d j (itN (rsz S l d) 0 j); rw [← ha]; simp only [rsz, (eq_true c4), c5, not_false_eq_true, not_true_eq_false, and_self, and_true, true_and, and_false, false_and, true_or, or_true, or_false, false_or, or_self, ↓reduceIte])
  exact lp15 m 0 0 (by omega) rfl
set_option maxRecDepth 100000 in
set_option maxHeartbeats 4000000 in
theorem c_r_digest_3 {G : am_S} {T S : am_T} {o : Nat → Int64} {n : Nat} (hn : S 9 0 = nI n) (hn10 : n ≤ 10) {m : Nat} (hm : S 17 0 = nI m) (hm80 : m ≤ 80) {t : Nat} (ht : S 1 0 = nI t) (ht4 : t ≤ 400) {l : Nat} (hl : l < n) {d : Nat} (hd : d ≤ t) {z : Int32} : am_D G yX6_digest (.code yX6_digest cX6_digest 7 (some .int) :: am_G) { frames := 3, cells := 0, slots := 0, locals := 65 } (hp T S o) [.ref 465, .int (nI l), .int (nI d), .int z] (hp T (if (rDg S m l d z).2 = -1 then st1 (st1 S 0 0 0) 0 0 3 else st1 (st1 S 0 0 0) 0 0 0) o) (some (.int (if (rDg S m l d z).2 = -1 then 0 else (rDg S m l d z).2))) := by
  refine am_of (by decide +kernel) (Nat.le_of_ble_eq_true rfl) ?_
  intro C hse hret hname hF hO
  subst hse
  refine am_go hF sgX6_digest_0_06978 4 [(0, .ref 465), (1, .int (nI l)), (2, .int (nI d)), (3, .int z)] [.int (nI d), .int (nI l), .ref 465, .ref 465] sgX6_digest_0_06978d rfl ?_
  refine am_dV hF hO [.int (nI l), .int (nI d)] [.ref 465] (c_dt_3 (S := S) hn hn10 ht ht4 hl hd) myX6_digestThrown vyX6_digestThrown lm_RX6_190 (hp_m _ _ _) rfl rfl 0 0 ⟨Nat.le_of_ble_eq_true rfl, Nat.le_of_ble_eq_true rfl⟩ ⟨Nat.le_of_ble_eq_true rfl, Nat.le_of_ble_eq_true rfl, Nat.le_of_ble_eq_true rfl, Nat.le_of_ble_eq_true rfl⟩ rfl (am_lv_ref (hp_m _ _ _) (am_lv_int (am_lv_int (am_lv_int (am_lv_ref (hp_m _ _ _) am_lv_nil))))) (Nat.le_of_ble_eq_true rfl) dX6_digest_4 [.int 0, .ref 465] rfl ?_
  refine sv_put hF 0 (by decide) rfl rfl rfl lf_RX6_104 dX6_digest_7 ?_
  refine am_go hF sgX6_digest_10_58af4 19 [(6, .int 0), (5, .int (-1)), (4, .int z), (0, .ref 465), (1, .int (nI l)), (2, .int (nI d)), (3, .int z)] [] sgX6_digest_10_58af4d rfl ?_
  refine am_drop [3, 4, 5, 6, 2, 1, 0] [(0, .ref 465), (1, .int (nI l)), (2, .int (nI d)), (3, .int z), (4, .int z), (5, .int (-1)), (6, .int 0)] rfl ?_
  have lp19 : ∀ (zz j : Nat) (a : Int32) (b : Int32), j + zz = m → a = (itN (rdg S l d) (z, -1) j).1 → b = (itN (rdg S l d) (z, -1) j).2 → am_W C (hp T (st1 S 0 0 0) o) 0 0 19 [(0, .ref 465), (1, .int (nI l)), (2, .int (nI d)), (3, .int z), (4, .int a), (5, .int b), (6, .int (nI j))] [] := by
    intro zz
    induction zz with
    | zero =>
      intro j a b hj ha hb
      have e9j : j = m := by omega
      refine am_go hF sgX6_digest_19_db841 22 [(0, .ref 465), (1, .int (nI l)), (2, .int (nI d)), (3, .int z), (4, .int a), (5, .int b), (6, .int (nI j))] [.ref 465, .int (nI j)] sgX6_digest_19_db841d rfl ?_
      refine sv_get hF 17 (by decide) rfl lf_RX6_115 (.int (S 17 0)) rfl dX6_digest_22 ?_
      refine am_top (nI m) hm ?_
      refine am_icmpge hF 84 dX6_digest_25 (by decide) (fun _ => ?_) (fun h9 => False.elim (absurd (nc_ge (show m ≤ j by omega) (by omega) (by omega) rfl rfl) h9))
      have hbf : b = (rDg S m l d z).2 := by rw [hb, e9j]; rfl
      refine am_go hF sgX6_digest_84_c81f7 86 [(0, .ref 465), (1, .int (nI l)), (2, .int (nI d)), (3, .int z), (4, .int a), (5, .int b), (6, .int (nI j))] [.ref 465, .ref 465] sgX6_digest_84_c81f7d rfl ?_
      refine sv_get hF 0 (by decide) rfl lf_RX6_104 (.int 0) rfl dX6_digest_86 ?_
      refine am_ifle hF 99 dX6_digest_89 (by decide) (fun _ => ?_) (fun h9 => False.elim ((by revert h9; decide)))
      refine am_go hF sgX6_digest_99_c2ad5 102 [(0, .ref 465), (1, .int (nI l)), (2, .int (nI d)), (3, .int z), (4, .int a), (5, .int b), (6, .int (nI j))] [.int (-1), .int b, .ref 465] sgX6_digest_99_c2ad5d rfl ?_
      refine am_icmpne hF 109 dX6_digest_102 (by decide) (fun c3 => ?_) (fun c3 => ?_)
      · skip
        refine am_go hF sgX6_digest_109_56c54 110 [(0, .ref 465), (1, .int (nI l)), (2, .int (nI d)), (3, .int z), (4, .int a), (5, .int b), (6, .int (nI j))] [.int 0, .ref 465] sgX6_digest_109_56c54d rfl ?_
        refine sv_put hF 0 (by decide) rfl rfl rfl lf_RX6_104 dX6_digest_110 ?_
        refine am_go hF sgX6_digest_113_34db8 114 [(0, .ref 465), (1, .int (nI l)), (2, .int (nI d)), (3, .int z), (4, .int a), (5, .int b), (6, .int (nI j))] [.ref 465] sgX6_digest_113_34db8d rfl ?_
        refine sv_get hF 0 (by decide) rfl lf_RX6_104 (.int 0) rfl dX6_digest_114 ?_
        refine am_ifle hF 124 dX6_digest_117 (by decide) (fun _ => ?_) (fun h9 => False.elim ((by revert h9; decide)))
        refine am_go hF sgX6_digest_124_9df92 126 [(0, .ref 465), (1, .int (nI l)), (2, .int (nI d)), (3, .int z), (4, .int a), (5, .int b), (6, .int (nI j))] [.int b] sgX6_digest_124_9df92d rfl ?_
        exact am_iret hF hO hret rfl dX6_digest_126 ⟨by rw [← hbf]; simp only [c3, ↓reduceIte], by rw [← hbf]; simp only [c3, ↓reduceIte]⟩
      · skip
        refine am_go hF sgX6_digest_105_5c8a0 110 [(0, .ref 465), (1, .int (nI l)), (2, .int (nI d)), (3, .int z), (4, .int a), (5, .int b), (6, .int (nI j))] [.int 3, .ref 465] sgX6_digest_105_5c8a0d rfl ?_
        refine sv_put hF 0 (by decide) rfl rfl rfl lf_RX6_104 dX6_digest_110 ?_
        refine am_go hF sgX6_digest_113_34db8 114 [(0, .ref 465), (1, .int (nI l)), (2, .int (nI d)), (3, .int z), (4, .int a), (5, .int b), (6, .int (nI j))] [.ref 465] sgX6_digest_113_34db8d rfl ?_
        refine sv_get hF 0 (by decide) rfl lf_RX6_104 (.int 3) rfl dX6_digest_114 ?_
        refine am_ifle hF 124 dX6_digest_117 (by decide) (fun h9 => False.elim ((by revert h9; decide))) (fun _ => ?_)
        refine am_go hF sgX6_digest_120_978aa 126 [(0, .ref 465), (1, .int (nI l)), (2, .int (nI d)), (3, .int z), (4, .int a), (5, .int b), (6, .int (nI j))] [.int 0] sgX6_digest_120_978aad rfl ?_
        exact am_iret hF hO hret rfl dX6_digest_126 ⟨by rw [← hbf]; simp only [(eq_true c3), ↓reduceIte], by rw [← hbf]; simp only [(eq_true c3), ↓reduceIte]⟩
    | succ zz ih19 =>
      intro j a b hj ha hb
      have l9j : j < m := by omega
      refine am_go hF sgX6_digest_19_db841 22 [(0, .ref 465), (1, .int (nI l)), (2, .int (nI d)), (3, .int z), (4, .int a), (5, .int b), (6, .int (nI j))] [.ref 465, .int (nI j)] sgX6_digest_19_db841d rfl ?_
      refine sv_get hF 17 (by decide) rfl lf_RX6_115 (.int (S 17 0)) rfl dX6_digest_22 ?_
      refine am_top (nI m) hm ?_
      refine am_icmpge hF 84 dX6_digest_25 (by decide) (fun h9 => False.elim (nc_lt_f (show j < m by omega) (by omega) (by omega) rfl rfl h9)) (fun _ => ?_)
      refine am_go hF sgX6_digest_28_34db8 29 [(0, .ref 465), (1, .int (nI l)), (2, .int (nI d)), (3, .int z), (4, .int a), (5, .int b), (6, .int (nI j))] [.ref 465] sgX6_digest_28_34db8d rfl ?_
      refine sv_get hF 0 (by decide) rfl lf_RX6_104 (.int 0) rfl dX6_digest_29 ?_
      refine am_ifne hF 84 dX6_digest_32 (by decide) (fun h9 => False.elim ((by revert h9; decide))) (fun _ => ?_)
      refine am_go hF sgX6_digest_35_34db8 36 [(0, .ref 465), (1, .int (nI l)), (2, .int (nI d)), (3, .int z), (4, .int a), (5, .int b), (6, .int (nI j))] [.ref 465] sgX6_digest_35_34db8d rfl ?_
      refine sv_get hF 20 (by decide) rfl lf_RX6_56 (.ref 520) rfl dX6_digest_36 ?_
      refine am_go hF sgX6_digest_39_4d8be 41 [(0, .ref 465), (1, .int (nI l)), (2, .int (nI d)), (3, .int z), (4, .int a), (5, .int b), (6, .int (nI j))] [.int (nI j), .ref 520] sgX6_digest_39_4d8bed rfl ?_
      refine sv_iald hF 20 (by decide) ⟨rfl, rfl, by decide⟩ j rfl (show j < 80 by omega) dX6_digest_41 ?_
      refine am_top (S 20 j) rfl ?_
      refine am_go hF sgX6_digest_42_f8a59 43 [(0, .ref 465), (1, .int (nI l)), (2, .int (nI d)), (3, .int z), (4, .int a), (5, .int b), (6, .int (nI j))] [.int (nI d), .int (S 20 j)] sgX6_digest_42_f8a59d rfl ?_
      refine am_icmpne hF 78 dX6_digest_43 (by decide) (fun c8 => ?_) (fun c8 => ?_)
      · skip
        refine am_go hF sgX6_digest_78_5a45c 19 [(6, .int ((nI j) + 1)), (0, .ref 465), (1, .int (nI l)), (2, .int (nI d)), (3, .int z), (4, .int a), (5, .int b)] [] sgX6_digest_78_5a45cd rfl ?_
        have hz9 := rdg_0 ha hb (fun h => absurd h.1 c8)
        refine am_drop [1, 2, 3, 4, 5, 6, 0] [(0, .ref 465), (1, .int (nI l)), (2, .int (nI d)), (3, .int z), (4, .int a), (5, .int b), (6, .int ((nI j) + 1))] rfl ?_
        refine am_eqL [(0, .ref 465), (1, .int (nI l)), (2, .int (nI d)), (3, .int z), (4, .int a), (5, .int b), (6, .int (nI (j + 1)))] (by rw [nI_1]) ?_
        exact ih19 (j + 1) a b (by omega) hz9.1 hz9.2
      · skip
        refine am_go hF sgX6_digest_46_34db8 47 [(0, .ref 465), (1, .int (nI l)), (2, .int (nI d)), (3, .int z), (4, .int a), (5, .int b), (6, .int (nI j))] [.ref 465] sgX6_digest_46_34db8d rfl ?_
        refine sv_get hF 31 (by decide) rfl lf_RX6_89 (.ref 531) rfl dX6_digest_47 ?_
        refine am_go hF sgX6_digest_50_56f10 57 [(0, .ref 465), (1, .int (nI l)), (2, .int (nI d)), (3, .int z), (4, .int a), (5, .int b), (6, .int (nI j))] [.int ((10 * (nI j)) + (nI l)), .ref 531] sgX6_digest_50_56f10d rfl ?_
        refine sv_zald hF 31 (by decide) ⟨rfl, rfl, by decide⟩ ((10 * j) + l) (am_ad (am_mu rfl rfl) rfl) (show (10 * j) + l < 800 by omega) dX6_digest_57 ?_
        refine am_top (S 31 ((10 * j) + l)) rfl ?_
        refine am_ifeq hF 78 dX6_digest_58 (by decide) (fun c9 => ?_) (fun c9 => ?_)
        · skip
          refine am_go hF sgX6_digest_78_5a45c 19 [(6, .int ((nI j) + 1)), (0, .ref 465), (1, .int (nI l)), (2, .int (nI d)), (3, .int z), (4, .int a), (5, .int b)] [] sgX6_digest_78_5a45cd rfl ?_
          have hz9 := rdg_0 ha hb (fun h => absurd c9 h.2)
          refine am_drop [1, 2, 3, 4, 5, 6, 0] [(0, .ref 465), (1, .int (nI l)), (2, .int (nI d)), (3, .int z), (4, .int a), (5, .int b), (6, .int ((nI j) + 1))] rfl ?_
          refine am_eqL [(0, .ref 465), (1, .int (nI l)), (2, .int (nI d)), (3, .int z), (4, .int a), (5, .int b), (6, .int (nI (j + 1)))] (by rw [nI_1]) ?_
          exact ih19 (j + 1) a b (by omega) hz9.1 hz9.2
        · skip
          refine am_go hF sgX6_digest_61_c6742 63 [(0, .ref 465), (1, .int (nI l)), (2, .int (nI d)), (3, .int z), (4, .int a), (5, .int b), (6, .int (nI j))] [.int a] sgX6_digest_61_c6742d rfl ?_
          refine am_ifne hF 71 dX6_digest_63 (by decide) (fun c10 => ?_) (fun c10 => ?_)
          · skip
            refine am_go hF sgX6_digest_71_6da85 19 [(6, .int ((nI j) + 1)), (4, .int (a + (-1))), (5, .int b), (0, .ref 465), (1, .int (nI l)), (2, .int (nI d)), (3, .int z)] [] sgX6_digest_71_6da85d rfl ?_
            have hz9 := rdg_1 ha hb ⟨c8, c9⟩
            simp only [c10, ↓reduceIte] at hz9
            refine am_drop [3, 4, 5, 6, 1, 2, 0] [(0, .ref 465), (1, .int (nI l)), (2, .int (nI d)), (3, .int z), (4, .int (a + (-1))), (5, .int b), (6, .int ((nI j) + 1))] rfl ?_
            refine am_eqL [(0, .ref 465), (1, .int (nI l)), (2, .int (nI d)), (3, .int z), (4, .int (a + (-1))), (5, .int b), (6, .int (nI (j + 1)))] (by rw [nI_1]) ?_
            exact ih19 (j + 1) (a + (-1)) b (by omega) hz9.1 hz9.2
          · skip
            refine am_go hF sgX6_digest_66_9ab40 19 [(6, .int ((nI j) + 1)), (4, .int (a + (-1))), (5, .int (nI j)), (0, .ref 465), (1, .int (nI l)), (2, .int (nI d)), (3, .int z)] [] sgX6_digest_66_9ab40d rfl ?_
            have hz9 := rdg_1 ha hb ⟨c8, c9⟩
            simp only [(eq_true c10), ↓reduceIte] at hz9
            refine am_drop [3, 4, 5, 6, 1, 2, 0] [(0, .ref 465), (1, .int (nI l)), (2, .int (nI d)), (3, .int z), (4, .int (a + (-1))), (5, .int (nI j)), (6, .int ((nI j) + 1))] rfl ?_
            refine am_eqL [(0, .ref 465), (1, .int (nI l)), (2, .int (nI d)), (3, .int z), (4, .int (a + (-1))), (5, .int (nI j)), (6, .int (nI (j + 1)))] (by rw [nI_1]) ?_
            exact ih19 (j + 1) (a + (-1)) (nI j) (by omega) hz9.1 hz9.2
  exact lp19 m 0 z (-1) (by omega) rfl rfl
set_option maxRecDepth 100000 in
set_option maxHeartbeats 4000000 in
theorem c_r_edition_3 {G : am_S} {T S : am_T} {o : Nat → Int64} {n : Nat} (hn : S 9 0 = nI n) (hn10 : n ≤ 10) {t : Nat} (ht : S 1 0 = nI t) (ht4 : t ≤ 400) {l : Nat} (hl : l < n) {d : Nat} (hd : d ≤ t) : am_D G yX6_edition (.code yX6_edition cX6_edition 3 (some .int) :: am_G) { frames := 3, cells := 0, slots := 0, locals := 65 } (hp T S o) [.ref 465, .int (nI l), .int (nI d)] (hp T (st1 S 0 0 0) o) (some (.int (if S 32 (401 * l + d) = 0 then -1 else S 33 (401 * l + d)))) := by
  refine am_of (by decide +kernel) (Nat.le_of_ble_eq_true rfl) ?_
  intro C hse hret hname hF hO
  subst hse
  refine am_go hF sgX6_edition_0_06978 4 [(0, .ref 465), (1, .int (nI l)), (2, .int (nI d))] [.int (nI d), .int (nI l), .ref 465, .ref 465] sgX6_edition_0_06978d rfl ?_
  refine am_dV hF hO [.int (nI l), .int (nI d)] [.ref 465] (c_dt_3 (S := S) hn hn10 ht ht4 hl hd) myX6_digestThrown vyX6_digestThrown lm_RX6_190 (hp_m _ _ _) rfl rfl 0 0 ⟨Nat.le_of_ble_eq_true rfl, Nat.le_of_ble_eq_true rfl⟩ ⟨Nat.le_of_ble_eq_true rfl, Nat.le_of_ble_eq_true rfl, Nat.le_of_ble_eq_true rfl, Nat.le_of_ble_eq_true rfl⟩ rfl (am_lv_ref (hp_m _ _ _) (am_lv_int (am_lv_int (am_lv_ref (hp_m _ _ _) am_lv_nil)))) (Nat.le_of_ble_eq_true rfl) dX6_edition_4 [.int 0, .ref 465] rfl ?_
  refine sv_put hF 0 (by decide) rfl rfl rfl lf_RX6_104 dX6_edition_7 ?_
  refine am_go hF sgX6_edition_10_34db8 11 [(0, .ref 465), (1, .int (nI l)), (2, .int (nI d))] [.ref 465] sgX6_edition_10_34db8d rfl ?_
  refine sv_get hF 0 (by decide) rfl lf_RX6_104 (.int 0) rfl dX6_edition_11 ?_
  refine am_ifle hF 19 dX6_edition_14 (by decide) (fun _ => ?_) (fun h9 => False.elim ((by revert h9; decide)))
  refine am_go hF sgX6_edition_19_34db8 20 [(0, .ref 465), (1, .int (nI l)), (2, .int (nI d))] [.ref 465] sgX6_edition_19_34db8d rfl ?_
  refine sv_get hF 32 (by decide) rfl lf_RX6_92 (.ref 532) rfl dX6_edition_20 ?_
  refine am_go hF sgX6_edition_23_fd6a9 30 [(0, .ref 465), (1, .int (nI l)), (2, .int (nI d))] [.int ((401 * (nI l)) + (nI d)), .ref 532] sgX6_edition_23_fd6a9d rfl ?_
  refine sv_zald hF 32 (by decide) ⟨rfl, rfl, by decide⟩ ((401 * l) + d) (am_ad (am_mu rfl rfl) rfl) (show (401 * l) + d < 4010 by omega) dX6_edition_30 ?_
  refine am_top (S 32 ((401 * l) + d)) rfl ?_
  refine am_ifeq hF 49 dX6_edition_31 (by decide) (fun c2 => ?_) (fun c2 => ?_)
  · skip
    refine am_go hF sgX6_edition_49_5ff24 50 [(0, .ref 465), (1, .int (nI l)), (2, .int (nI d))] [.int (-1)] sgX6_edition_49_5ff24d rfl ?_
    exact am_iret hF hO hret rfl dX6_edition_50 ⟨rfl, by simp only [(eq_true c2), ↓reduceIte]⟩
  · skip
    refine am_go hF sgX6_edition_34_34db8 35 [(0, .ref 465), (1, .int (nI l)), (2, .int (nI d))] [.ref 465] sgX6_edition_34_34db8d rfl ?_
    refine sv_get hF 33 (by decide) rfl lf_RX6_95 (.ref 533) rfl dX6_edition_35 ?_
    refine am_go hF sgX6_edition_38_fd6a9 45 [(0, .ref 465), (1, .int (nI l)), (2, .int (nI d))] [.int ((401 * (nI l)) + (nI d)), .ref 533] sgX6_edition_38_fd6a9d rfl ?_
    refine sv_iald hF 33 (by decide) ⟨rfl, rfl, by decide⟩ ((401 * l) + d) (am_ad (am_mu rfl rfl) rfl) (show (401 * l) + d < 4010 by omega) dX6_edition_45 ?_
    refine am_top (S 33 ((401 * l) + d)) rfl ?_
    refine am_go hF sgX6_edition_46_c4397 50 [(0, .ref 465), (1, .int (nI l)), (2, .int (nI d))] [.int (S 33 ((401 * l) + d))] sgX6_edition_46_c4397d rfl ?_
    exact am_iret hF hO hret rfl dX6_edition_50 ⟨rfl, by simp only [c2, ↓reduceIte]⟩
set_option maxRecDepth 100000 in
set_option maxHeartbeats 4000000 in
theorem c_r_readers_3 {G : am_S} {T S : am_T} {o : Nat → Int64} {n : Nat} (hn : S 9 0 = nI n) (hn10 : n ≤ 10) {t : Nat} (ht : S 1 0 = nI t) (ht4 : t ≤ 400) {l : Nat} (hl : l < n) {d : Nat} (hd : d ≤ t) : am_D G yX6_readers (.code yX6_readers cX6_readers 3 (some .int) :: am_G) { frames := 3, cells := 0, slots := 0, locals := 65 } (hp T S o) [.ref 465, .int (nI l), .int (nI d)] (hp T (st1 S 0 0 0) o) (some (.int (S 34 ((401 * l) + d)))) := by
  refine am_of (by decide +kernel) (Nat.le_of_ble_eq_true rfl) ?_
  intro C hse hret hname hF hO
  subst hse
  refine am_go hF sgX6_readers_0_06978 4 [(0, .ref 465), (1, .int (nI l)), (2, .int (nI d))] [.int (nI d), .int (nI l), .ref 465, .ref 465] sgX6_readers_0_06978d rfl ?_
  refine am_dV hF hO [.int (nI l), .int (nI d)] [.ref 465] (c_dt_3 (S := S) hn hn10 ht ht4 hl hd) myX6_digestThrown vyX6_digestThrown lm_RX6_190 (hp_m _ _ _) rfl rfl 0 0 ⟨Nat.le_of_ble_eq_true rfl, Nat.le_of_ble_eq_true rfl⟩ ⟨Nat.le_of_ble_eq_true rfl, Nat.le_of_ble_eq_true rfl, Nat.le_of_ble_eq_true rfl, Nat.le_of_ble_eq_true rfl⟩ rfl (am_lv_ref (hp_m _ _ _) (am_lv_int (am_lv_int (am_lv_ref (hp_m _ _ _) am_lv_nil)))) (Nat.le_of_ble_eq_true rfl) dX6_readers_4 [.int 0, .ref 465] rfl ?_
  refine sv_put hF 0 (by decide) rfl rfl rfl lf_RX6_104 dX6_readers_7 ?_
  refine am_go hF sgX6_readers_10_34db8 11 [(0, .ref 465), (1, .int (nI l)), (2, .int (nI d))] [.ref 465] sgX6_readers_10_34db8d rfl ?_
  refine sv_get hF 0 (by decide) rfl lf_RX6_104 (.int 0) rfl dX6_readers_11 ?_
  refine am_ifle hF 21 dX6_readers_14 (by decide) (fun _ => ?_) (fun h9 => False.elim ((by revert h9; decide)))
  refine am_go hF sgX6_readers_21_34db8 22 [(0, .ref 465), (1, .int (nI l)), (2, .int (nI d))] [.ref 465] sgX6_readers_21_34db8d rfl ?_
  refine sv_get hF 34 (by decide) rfl lf_RX6_98 (.ref 534) rfl dX6_readers_22 ?_
  refine am_go hF sgX6_readers_25_fd6a9 32 [(0, .ref 465), (1, .int (nI l)), (2, .int (nI d))] [.int ((401 * (nI l)) + (nI d)), .ref 534] sgX6_readers_25_fd6a9d rfl ?_
  refine sv_iald hF 34 (by decide) ⟨rfl, rfl, by decide⟩ ((401 * l) + d) (am_ad (am_mu rfl rfl) rfl) (show (401 * l) + d < 4010 by omega) dX6_readers_32 ?_
  refine am_top (S 34 ((401 * l) + d)) rfl ?_
  exact am_iret hF hO hret rfl dX6_readers_33 ⟨rfl, rfl⟩
set_option maxRecDepth 100000 in
set_option maxHeartbeats 4000000 in
theorem c_r_pass_1 {G : am_S} {T S : am_T} {o : Nat → Int64} {x : Int32} (hx : x < 1 ∨ 50 < x) : am_D G yX6_pass (.code yX6_pass cX6_pass 4 (some .int) :: am_G) { frames := 1, cells := 0, slots := 0, locals := 22 } (hp T S o) [.ref 465, .int x] (hp T (st1 S 0 0 1) o) (some (.int 0)) := by
  refine am_of (by decide +kernel) (Nat.le_of_ble_eq_true rfl) ?_
  intro C hse hret hname hF hO
  subst hse
  refine am_go hF sgX6_pass_0_213b3 5 [(0, .ref 465), (1, .int x)] [.int 50, .int 1, .int x, .ref 465] sgX6_pass_0_213b3d rfl ?_
  refine am_dS hF hO [.int x, .int 1, .int 50] [.ref 465] (c_isIn_f hx) myX6_isIn syX6_isIn lm_RX6_108 rfl 0 0 ⟨Nat.le_of_ble_eq_true rfl, Nat.le_of_ble_eq_true rfl⟩ ⟨Nat.le_of_ble_eq_true rfl, Nat.le_of_ble_eq_true rfl, Nat.le_of_ble_eq_true rfl, Nat.le_of_ble_eq_true rfl⟩ rfl (am_lv_ref (hp_m _ _ _) (am_lv_int (am_lv_ref (hp_m _ _ _) am_lv_nil))) (Nat.le_of_ble_eq_true rfl) dX6_pass_5 [.int 0, .ref 465] rfl ?_
  refine am_ifne hF 15 dX6_pass_8 (by decide) (fun h9 => False.elim ((by revert h9; decide))) (fun _ => ?_)
  refine am_go hF sgX6_pass_11_446db 32 [(0, .ref 465), (1, .int x)] [.int 1, .ref 465] sgX6_pass_11_446dbd rfl ?_
  refine sv_put hF 0 (by decide) rfl rfl rfl lf_RX6_104 dX6_pass_32 ?_
  refine am_go hF sgX6_pass_35_35c03 41 [(3, .int 0), (2, .int 0), (0, .ref 465), (1, .int x)] [.int x, .int 0] sgX6_pass_35_35c03d rfl ?_
  refine am_icmpge hF 64 dX6_pass_41 (by decide) (fun c2 => ?_) (fun c2 => ?_)
  · skip
    refine am_go hF sgX6_pass_64_f8a59 65 [(3, .int 0), (2, .int 0), (0, .ref 465), (1, .int x)] [.int 0] sgX6_pass_64_f8a59d rfl ?_
    exact am_iret hF hO hret rfl dX6_pass_65 ⟨rfl, rfl⟩
  · skip
    refine am_go hF sgX6_pass_44_34db8 45 [(3, .int 0), (2, .int 0), (0, .ref 465), (1, .int x)] [.ref 465] sgX6_pass_44_34db8d rfl ?_
    refine sv_get hF 0 (by decide) rfl lf_RX6_104 (.int 1) rfl dX6_pass_45 ?_
    refine am_ifne hF 64 dX6_pass_48 (by decide) (fun _ => ?_) (fun h9 => False.elim ((by revert h9; decide)))
    refine am_go hF sgX6_pass_64_f8a59 65 [(3, .int 0), (2, .int 0), (0, .ref 465), (1, .int x)] [.int 0] sgX6_pass_64_f8a59d rfl ?_
    exact am_iret hF hO hret rfl dX6_pass_65 ⟨rfl, rfl⟩
set_option maxRecDepth 100000 in
set_option maxHeartbeats 4000000 in
theorem c_r_pass_2 {G : am_S} {T S : am_T} {o : Nat → Int64} {t : Nat} (ht : S 1 0 = nI t) (ht4 : t ≤ 400) {d : Nat} (hd1 : 1 ≤ d) (hd50 : d ≤ 50) (hov : 400 < t + d) : am_D G yX6_pass (.code yX6_pass cX6_pass 4 (some .int) :: am_G) { frames := 1, cells := 0, slots := 0, locals := 22 } (hp T S o) [.ref 465, .int (nI d)] (hp T (st1 S 0 0 2) o) (some (.int 0)) := by
  refine am_of (by decide +kernel) (Nat.le_of_ble_eq_true rfl) ?_
  intro C hse hret hname hF hO
  subst hse
  refine am_go hF sgX6_pass_0_213b3 5 [(0, .ref 465), (1, .int (nI d))] [.int 50, .int 1, .int (nI d), .ref 465] sgX6_pass_0_213b3d rfl ?_
  refine am_dS hF hO [.int (nI d), .int 1, .int 50] [.ref 465] (c_isIn_t (nc_ge_f9 (show 1 ≤ d by omega) (by omega)) (ii_1 (m := 50) rfl (by omega) (by decide) rfl)) myX6_isIn syX6_isIn lm_RX6_108 rfl 0 0 ⟨Nat.le_of_ble_eq_true rfl, Nat.le_of_ble_eq_true rfl⟩ ⟨Nat.le_of_ble_eq_true rfl, Nat.le_of_ble_eq_true rfl, Nat.le_of_ble_eq_true rfl, Nat.le_of_ble_eq_true rfl⟩ rfl (am_lv_ref (hp_m _ _ _) (am_lv_int (am_lv_ref (hp_m _ _ _) am_lv_nil))) (Nat.le_of_ble_eq_true rfl) dX6_pass_5 [.int 1, .ref 465] rfl ?_
  refine am_ifne hF 15 dX6_pass_8 (by decide) (fun _ => ?_) (fun h9 => False.elim ((by revert h9; decide)))
  refine am_go hF sgX6_pass_15_34db8 16 [(0, .ref 465), (1, .int (nI d))] [.ref 465, .ref 465] sgX6_pass_15_34db8d rfl ?_
  refine sv_get hF 1 (by decide) rfl lf_RX6_147 (.int (S 1 0)) rfl dX6_pass_16 ?_
  refine am_top (nI t) ht ?_
  refine am_go hF sgX6_pass_19_752a0 24 [(0, .ref 465), (1, .int (nI d))] [.int 401, .int ((nI t) + (nI d)), .ref 465] sgX6_pass_19_752a0d rfl ?_
  refine am_icmplt hF 31 dX6_pass_24 (by decide) (fun h9 => False.elim (nc_ge_f (show 401 ≤ t + d by omega) (by omega) (by omega) (am_ad rfl rfl) rfl h9)) (fun _ => ?_)
  refine am_go hF sgX6_pass_27_abe91 32 [(0, .ref 465), (1, .int (nI d))] [.int 2, .ref 465] sgX6_pass_27_abe91d rfl ?_
  refine sv_put hF 0 (by decide) rfl rfl rfl lf_RX6_104 dX6_pass_32 ?_
  refine am_go hF sgX6_pass_35_35c03 41 [(3, .int 0), (2, .int 0), (0, .ref 465), (1, .int (nI d))] [.int (nI d), .int 0] sgX6_pass_35_35c03d rfl ?_
  refine am_icmpge hF 64 dX6_pass_41 (by decide) (fun c3 => ?_) (fun c3 => ?_)
  · skip
    refine am_go hF sgX6_pass_64_f8a59 65 [(3, .int 0), (2, .int 0), (0, .ref 465), (1, .int (nI d))] [.int 0] sgX6_pass_64_f8a59d rfl ?_
    exact am_iret hF hO hret rfl dX6_pass_65 ⟨rfl, rfl⟩
  · skip
    refine am_go hF sgX6_pass_44_34db8 45 [(3, .int 0), (2, .int 0), (0, .ref 465), (1, .int (nI d))] [.ref 465] sgX6_pass_44_34db8d rfl ?_
    refine sv_get hF 0 (by decide) rfl lf_RX6_104 (.int 2) rfl dX6_pass_45 ?_
    refine am_ifne hF 64 dX6_pass_48 (by decide) (fun _ => ?_) (fun h9 => False.elim ((by revert h9; decide)))
    refine am_go hF sgX6_pass_64_f8a59 65 [(3, .int 0), (2, .int 0), (0, .ref 465), (1, .int (nI d))] [.int 0] sgX6_pass_64_f8a59d rfl ?_
    exact am_iret hF hO hret rfl dX6_pass_65 ⟨rfl, rfl⟩
set_option maxRecDepth 100000 in
set_option maxHeartbeats 4000000 in
theorem c_r_pass_3 {G : am_S} {T S : am_T} {o : Nat → Int64} {n : Nat} (hn : S 9 0 = nI n) (hn10 : n ≤ 10) {m : Nat} (hm : S 17 0 = nI m) (hm80 : m ≤ 80) {t : Nat} (ht : S 1 0 = nI t) (ht4 : t ≤ 400) {d : Nat} (hd1 : 1 ≤ d) (hd50 : d ≤ 50) (hov : t + d ≤ 400) : am_D G yX6_pass (.code yX6_pass cX6_pass 4 (some .int) :: am_G) { frames := 1, cells := 0, slots := 0, locals := 22 } (hp T S o) [.ref 465, .int (nI d)] (hp T ((rDays (st1 S 0 0 0) n m t d).1) o) (some (.int ((rDays (st1 S 0 0 0) n m t d).2))) := by
  refine am_of (by decide +kernel) (Nat.le_of_ble_eq_true rfl) ?_
  intro C hse hret hname hF hO
  subst hse
  refine am_go hF sgX6_pass_0_213b3 5 [(0, .ref 465), (1, .int (nI d))] [.int 50, .int 1, .int (nI d), .ref 465] sgX6_pass_0_213b3d rfl ?_
  refine am_dS hF hO [.int (nI d), .int 1, .int 50] [.ref 465] (c_isIn_t (nc_ge_f9 (show 1 ≤ d by omega) (by omega)) (ii_1 (m := 50) rfl (by omega) (by decide) rfl)) myX6_isIn syX6_isIn lm_RX6_108 rfl 0 0 ⟨Nat.le_of_ble_eq_true rfl, Nat.le_of_ble_eq_true rfl⟩ ⟨Nat.le_of_ble_eq_true rfl, Nat.le_of_ble_eq_true rfl, Nat.le_of_ble_eq_true rfl, Nat.le_of_ble_eq_true rfl⟩ rfl (am_lv_ref (hp_m _ _ _) (am_lv_int (am_lv_ref (hp_m _ _ _) am_lv_nil))) (Nat.le_of_ble_eq_true rfl) dX6_pass_5 [.int 1, .ref 465] rfl ?_
  refine am_ifne hF 15 dX6_pass_8 (by decide) (fun _ => ?_) (fun h9 => False.elim ((by revert h9; decide)))
  refine am_go hF sgX6_pass_15_34db8 16 [(0, .ref 465), (1, .int (nI d))] [.ref 465, .ref 465] sgX6_pass_15_34db8d rfl ?_
  refine sv_get hF 1 (by decide) rfl lf_RX6_147 (.int (S 1 0)) rfl dX6_pass_16 ?_
  refine am_top (nI t) ht ?_
  refine am_go hF sgX6_pass_19_752a0 24 [(0, .ref 465), (1, .int (nI d))] [.int 401, .int ((nI t) + (nI d)), .ref 465] sgX6_pass_19_752a0d rfl ?_
  refine am_icmplt hF 31 dX6_pass_24 (by decide) (fun _ => ?_) (fun h9 => False.elim (absurd (nc_lt (show t + d < 401 by omega) (by omega) (by omega) (am_ad rfl rfl) rfl) h9))
  refine am_go hF sgX6_pass_31_56c54 32 [(0, .ref 465), (1, .int (nI d))] [.int 0, .ref 465] sgX6_pass_31_56c54d rfl ?_
  refine sv_put hF 0 (by decide) rfl rfl rfl lf_RX6_104 dX6_pass_32 ?_
  refine am_go hF sgX6_pass_35_24699 39 [(3, .int 0), (2, .int 0), (0, .ref 465), (1, .int (nI d))] [] sgX6_pass_35_24699d rfl ?_
  refine am_drop [2, 3, 1, 0] [(0, .ref 465), (1, .int (nI d)), (2, .int 0), (3, .int 0)] rfl ?_
  have lp39 : ∀ (zz j : Nat) (a : Int32) (S1 : am_T), j + zz = d → a = (rDays (st1 S 0 0 0) n m t j).2 → S1 = (rDays (st1 S 0 0 0) n m t j).1 → am_W C (hp T S1 o) 0 0 39 [(0, .ref 465), (1, .int (nI d)), (2, .int a), (3, .int (nI j))] [] := by
    intro zz
    induction zz with
    | zero =>
      intro j a S1 hj ha hS1
      have e9j : j = d := by omega
      have hn1 : S1 9 0 = nI n := by rw [hS1]; exact (congrFun (rDays_f (by decide) (by decide) (by decide) j) 0).trans hn
      have hm1 : S1 17 0 = nI m := by rw [hS1]; exact (congrFun (rDays_f (by decide) (by decide) (by decide) j) 0).trans hm
      have ht1 : S1 1 0 = nI (t + j) := by rw [hS1]; exact rDays_1 (S := st1 S 0 0 0) ht j
      have h00 : S1 0 0 = 0 := by rw [hS1]; exact (congrFun (rDays_f (by decide) (by decide) (by decide) j) 0).trans rfl
      refine am_go hF sgX6_pass_39_cb7d8 41 [(0, .ref 465), (1, .int (nI d)), (2, .int a), (3, .int (nI j))] [.int (nI d), .int (nI j)] sgX6_pass_39_cb7d8d rfl ?_
      refine am_icmpge hF 64 dX6_pass_41 (by decide) (fun _ => ?_) (fun h9 => False.elim (absurd (nc_ge (show d ≤ j by omega) (by omega) (by omega) rfl rfl) h9))
      refine am_go hF sgX6_pass_64_f8a59 65 [(0, .ref 465), (1, .int (nI d)), (2, .int a), (3, .int (nI j))] [.int a] sgX6_pass_64_f8a59d rfl ?_
      exact am_iret hF hO hret rfl dX6_pass_65 ⟨by rw [hS1, e9j], by rw [ha, e9j]⟩
    | succ zz ih39 =>
      intro j a S1 hj ha hS1
      have l9j : j < d := by omega
      have hn1 : S1 9 0 = nI n := by rw [hS1]; exact (congrFun (rDays_f (by decide) (by decide) (by decide) j) 0).trans hn
      have hm1 : S1 17 0 = nI m := by rw [hS1]; exact (congrFun (rDays_f (by decide) (by decide) (by decide) j) 0).trans hm
      have ht1 : S1 1 0 = nI (t + j) := by rw [hS1]; exact rDays_1 (S := st1 S 0 0 0) ht j
      have h00 : S1 0 0 = 0 := by rw [hS1]; exact (congrFun (rDays_f (by decide) (by decide) (by decide) j) 0).trans rfl
      refine am_go hF sgX6_pass_39_cb7d8 41 [(0, .ref 465), (1, .int (nI d)), (2, .int a), (3, .int (nI j))] [.int (nI d), .int (nI j)] sgX6_pass_39_cb7d8d rfl ?_
      refine am_icmpge hF 64 dX6_pass_41 (by decide) (fun h9 => False.elim (nc_lt_f (show j < d by omega) (by omega) (by omega) rfl rfl h9)) (fun _ => ?_)
      refine am_go hF sgX6_pass_44_34db8 45 [(0, .ref 465), (1, .int (nI d)), (2, .int a), (3, .int (nI j))] [.ref 465] sgX6_pass_44_34db8d rfl ?_
      refine sv_get hF 0 (by decide) rfl lf_RX6_104 (.int (S1 0 0)) rfl dX6_pass_45 ?_
      refine am_ifne hF 64 dX6_pass_48 (by decide) (fun h9 => False.elim (absurd h00 h9)) (fun _ => ?_)
      refine am_go hF sgX6_pass_51_14491 53 [(0, .ref 465), (1, .int (nI d)), (2, .int a), (3, .int (nI j))] [.ref 465, .int a] sgX6_pass_51_14491d rfl ?_
      refine am_dV hF hO [] [.int a] (c_nextDay (S := S1) (n := n) (m := m) (t := t + j) hn1 hn10 hm1 hm80 ht1 (by omega)) myX6_nextDay vyX6_nextDay lm_RX6_193 (hp_m _ _ _) rfl rfl 0 0 ⟨Nat.le_of_ble_eq_true rfl, Nat.le_of_ble_eq_true rfl⟩ ⟨Nat.le_of_ble_eq_true rfl, Nat.le_of_ble_eq_true rfl, Nat.le_of_ble_eq_true rfl, Nat.le_of_ble_eq_true rfl⟩ rfl (am_lv_ref (hp_m _ _ _) (am_lv_int (am_lv_int (am_lv_int (am_lv_int am_lv_nil))))) (Nat.le_of_ble_eq_true rfl) dX6_pass_53 [.int ((rNext S1 n m (t + j)).2), .int a] rfl ?_
      refine am_go hF sgX6_pass_56_110d5 39 [(3, .int ((nI j) + 1)), (2, .int (a + ((rNext S1 n m (t + j)).2))), (0, .ref 465), (1, .int (nI d))] [] sgX6_pass_56_110d5d rfl ?_
      have hz9 := rpp_s hS1 ha
      refine am_drop [2, 3, 1, 0] [(0, .ref 465), (1, .int (nI d)), (2, .int (a + ((rNext S1 n m (t + j)).2))), (3, .int ((nI j) + 1))] rfl ?_
      refine am_eqL [(0, .ref 465), (1, .int (nI d)), (2, .int (a + ((rNext S1 n m (t + j)).2))), (3, .int (nI (j + 1)))] (by rw [nI_1]) ?_
      exact ih39 (j + 1) (a + ((rNext S1 n m (t + j)).2)) (rNext S1 n m (t + j)).1 (by omega) hz9.2 hz9.1
  exact lp39 d 0 0 (st1 S 0 0 0) (by omega) rfl rfl
