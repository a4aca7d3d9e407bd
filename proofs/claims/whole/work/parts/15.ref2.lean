/-- the same from above -/
def itD {α : Type} (f : Nat → α → α) (a : α) : Nat → α
  | 0 => a
  | n + 1 => itD f (f n a) n
theorem am_pm1 (x : Int32) : x + (-1) = x - 1 := by rw [Int32.sub_eq_add_neg]
theorem itN_f {F : Nat → am_T → am_T} (g : Nat) (hF : ∀ k S, F k S g = S g) (S : am_T) : ∀ j, itN F S j g = S g
  | 0 => rfl
  | j + 1 => (hF j _).trans (itN_f g hF S j)
def rCnt (S : am_T) (l : Nat) : Int32 := itN (fun k a => a + (if S 16 (16 * l + k) = -1 then 0 else 1)) 0 16
def rmb (S : am_T) (set : Int32) (p : Nat) (how : Int32) (k : Nat) (f : Int32) : Int32 := if set >>> (nI k &&& 31) &&& 1 = 1 ∧ ¬ S 16 (16 * k + p) = -1 ∧ (how = -1 ∨ S 16 (16 * k + p) = how) then nI k else f
def rMB (S : am_T) (n l p : Nat) (how : Int32) : Int32 := itD (rmb S (rWin S n l) p how) (-1) n
def rre (S : am_T) (n l : Nat) (k : Nat) (s : Int32) : Int32 := s ||| (if rMB S n l k (-1) = -1 then 0 else (1 : Int32) <<< (nI k &&& 31))
def rRe (S : am_T) (n l : Nat) : Int32 := itN (rre S n l) 0 16
def rMode (S : am_T) (n l p : Nat) : Int32 := if rMB S n l p (-1) = -1 then -1 else if rMB S n l p 0 = -1 then 1 else 0
def rone (p : Nat) (k : Nat) (S : am_T) : am_T := st1 S 16 (16 * k + p) (if S 16 (16 * k + p) = -1 then -1 else 1)
def rOne (S : am_T) (n p : Nat) : am_T := if S 6 p + 1 = 3 then itN (rone p) (st1 (st1 S 6 p (S 6 p + 1)) 6 p 0) n else st1 S 6 p (S 6 p + 1)
def rBox (S : am_T) (n k p b : Nat) : am_T := if nI b = 10 then rOne S n p else st1 (st1 (st1 S 8 (10 * p + b) (nI k)) 7 p (nI b + 1)) 25 k (S 25 k ||| (1 : Int32) <<< (nI p &&& 31))
def rDi3 (S : am_T) (k l p d : Nat) : am_T := st1 (st1 (st1 S 32 (401 * l + d) 1) 34 (401 * l + d) (S 34 (401 * l + d) ||| (1 : Int32) <<< (nI p &&& 31))) 25 k (S 25 k ||| (1 : Int32) <<< (nI p &&& 31))
def rDig (S : am_T) (k l p d : Nat) : am_T := st1 (if S 31 (10 * k + l) = 0 ∧ ¬ S 1 0 ≤ nI d ∧ ¬ S 35 (401 * l + d) = S 2 0 then st1 (st1 (rDi3 S k l p d) 33 (401 * l + d) (S 33 (401 * l + d) + 1)) 35 (401 * l + d) (S 2 0) else rDi3 S k l p d) 31 (10 * k + l) 1
def rsw (S : am_T) (words : Int32) (k : Nat) (s : Int32) : Int32 := s + (if words >>> (nI k &&& 31) &&& 1 = 1 then S 3 k else 0)
def rsm (S : am_T) (p : Nat) (k : Nat) (s : Int32) : Int32 := s + (if S 18 k = nI p ∧ S 20 k = S 1 0 then 1 else 0)
def rSum (S : am_T) (m p : Nat) (words : Int32) : Int32 := itN (rsm S p) (itN (rsw S words) (S 4 p) 20) m
def rCause (S : am_T) (n p l : Nat) (pts : Int32) : Int32 := if S 14 l >>> (nI p &&& 31) &&& 1 = 1 then 0 else if ¬ S 13 l = 0 ∧ rRe S n l >>> (nI p &&& 31) &&& 1 = 0 then 1 else if pts < S 11 l then -1 else 2
def rcj (S : am_T) (p : Nat) (k : Nat) (s : Int32) : Int32 := if s = 0 ∧ ¬ S 10 k = nI p then 0 else 1
def rCan (S : am_T) (n k p l : Nat) : Int32 := if ¬ itN (rcj S p) 0 n = 0 ∧ ¬ nI p = S 18 k ∧ ¬ nI p = S 10 l then 1 else 0
theorem ix_out {x : Int32} {n : Nat} (hn : n < 2 ^ 31) (h : x < 0 ∨ nI n ≤ x) : (if x < 0 then (0 : Int32) else if nI n - 1 < x then 0 else 1) = 0 := by
  rcases h with h | h
  · rw [if_pos h]
  · by_cases h0 : x < 0
    · rw [if_pos h0]
    · rw [if_neg h0]
      obtain ⟨j, hj, rfl⟩ := nI_of h0
      have hnj : n ≤ j := (nI_leI hn hj).mp h
      cases n with
      | zero => rw [if_pos]; exact Int32.lt_of_lt_of_le (show nI 0 - 1 < 0 by decide) (nI_pos' hj)
      | succ n => rw [nI_pred, if_pos (nI_lt (by omega) hj)]
theorem ix_in {x : Int32} {n j : Nat} (hn : n < 2 ^ 31) (hj : j < n) (hx : x = nI j) : (if x < 0 then (0 : Int32) else if nI n - 1 < x then 0 else 1) = 1 := by
  subst hx
  rw [if_neg (nI_pos (by omega))]
  cases n with
  | zero => omega
  | succ n => rw [nI_pred, if_neg (nI_nlt (by omega) (by omega))]
def sgX6_isPerson_0_63447 : List Instr := [.iload_n 0, .iconst 0, .bipush 15]
theorem sgX6_isPerson_0_63447d : am_dec cX6_isPerson 0 sgX6_isPerson_0_63447 = true := by decide +kernel
theorem dX6_isPerson_4 : decode cX6_isPerson 4 = .ok (.invokestatic 108, 3) := by decide +kernel
theorem dX6_isPerson_7 : decode cX6_isPerson 7 = .ok (.ireturn, 1) := by decide +kernel
def sgX6_isList_0_fca3e : List Instr := [.iload_n 1, .iconst 0, .aload_n 0]
theorem sgX6_isList_0_fca3ed : am_dec cX6_isList 0 sgX6_isList_0_fca3e = true := by decide +kernel
theorem dX6_isList_3 : decode cX6_isList 3 = .ok (.getfield 112, 3) := by decide +kernel
def sgX6_isList_6_d80e0 : List Instr := [.iconst 1, .isub]
theorem sgX6_isList_6_d80e0d : am_dec cX6_isList 6 sgX6_isList_6_d80e0 = true := by decide +kernel
theorem dX6_isList_8 : decode cX6_isList 8 = .ok (.invokestatic 108, 3) := by decide +kernel
theorem dX6_isList_11 : decode cX6_isList 11 = .ok (.ireturn, 1) := by decide +kernel
def sgX6_isMail_0_fca3e : List Instr := [.iload_n 1, .iconst 0, .aload_n 0]
theorem sgX6_isMail_0_fca3ed : am_dec cX6_isMail 0 sgX6_isMail_0_fca3e = true := by decide +kernel
theorem dX6_isMail_3 : decode cX6_isMail 3 = .ok (.getfield 115, 3) := by decide +kernel
def sgX6_isMail_6_d80e0 : List Instr := [.iconst 1, .isub]
theorem sgX6_isMail_6_d80e0d : am_dec cX6_isMail 6 sgX6_isMail_6_d80e0 = true := by decide +kernel
theorem dX6_isMail_8 : decode cX6_isMail 8 = .ok (.invokestatic 108, 3) := by decide +kernel
theorem dX6_isMail_11 : decode cX6_isMail 11 = .ok (.ireturn, 1) := by decide +kernel
def sgX6_membersOf_0_24699 : List Instr := [.iconst 0, .istore_n 2, .iconst 0, .istore_n 3]
theorem sgX6_membersOf_0_24699d : am_dec cX6_membersOf 0 sgX6_membersOf_0_24699 = true := by decide +kernel
def sgX6_membersOf_4_b88ad : List Instr := [.iload_n 3, .bipush 16]
theorem sgX6_membersOf_4_b88add : am_dec cX6_membersOf 4 sgX6_membersOf_4_b88ad = true := by decide +kernel
theorem dX6_membersOf_7 : decode cX6_membersOf 7 = .ok (.if_icmp .ge 32, 3) := by decide +kernel
def sgX6_membersOf_39_f8a59 : List Instr := [.iload_n 2]
theorem sgX6_membersOf_39_f8a59d : am_dec cX6_membersOf 39 sgX6_membersOf_39_f8a59 = true := by decide +kernel
theorem dX6_membersOf_40 : decode cX6_membersOf 40 = .ok (.ireturn, 1) := by decide +kernel
def sgX6_membersOf_10_14491 : List Instr := [.iload_n 2, .aload_n 0]
theorem sgX6_membersOf_10_14491d : am_dec cX6_membersOf 10 sgX6_membersOf_10_14491 = true := by decide +kernel
theorem dX6_membersOf_12 : decode cX6_membersOf 12 = .ok (.getfield 47, 3) := by decide +kernel
def sgX6_membersOf_15_0ce03 : List Instr := [.bipush 16, .iload_n 1, .imul, .iload_n 3, .iadd]
theorem sgX6_membersOf_15_0ce03d : am_dec cX6_membersOf 15 sgX6_membersOf_15_0ce03 = true := by decide +kernel
theorem dX6_membersOf_21 : decode cX6_membersOf 21 = .ok (.iaload, 1) := by decide +kernel
def sgX6_membersOf_22_5ff24 : List Instr := [.iconst (-1)]
theorem sgX6_membersOf_22_5ff24d : am_dec cX6_membersOf 22 sgX6_membersOf_22_5ff24 = true := by decide +kernel
theorem dX6_membersOf_23 : decode cX6_membersOf 23 = .ok (.if_icmp .ne 7, 3) := by decide +kernel
def sgX6_membersOf_30_71cb3 : List Instr := [.iconst 1, .iadd, .istore_n 2, .iinc 3 1, .goto (-32)]
theorem sgX6_membersOf_30_71cb3d : am_dec cX6_membersOf 30 sgX6_membersOf_30_71cb3 = true := by decide +kernel
def sgX6_membersOf_26_32ba1 : List Instr := [.iconst 0, .goto 4, .iadd, .istore_n 2, .iinc 3 1, .goto (-32)]
theorem sgX6_membersOf_26_32ba1d : am_dec cX6_membersOf 26 sgX6_membersOf_26_32ba1 = true := by decide +kernel
def sgX6_memberBy_0_8bcf7 : List Instr := [.aload_n 0, .iload_n 1]
theorem sgX6_memberBy_0_8bcf7d : am_dec cX6_memberBy 0 sgX6_memberBy_0_8bcf7 = true := by decide +kernel
theorem dX6_memberBy_2 : decode cX6_memberBy 2 = .ok (.invokevirtual 129, 3) := by decide +kernel
def sgX6_memberBy_5_b6147 : List Instr := [.istore 4, .iconst (-1), .istore 5, .aload_n 0]
theorem sgX6_memberBy_5_b6147d : am_dec cX6_memberBy 5 sgX6_memberBy_5_b6147 = true := by decide +kernel
theorem dX6_memberBy_11 : decode cX6_memberBy 11 = .ok (.getfield 112, 3) := by decide +kernel
def sgX6_memberBy_14_0e5e8 : List Instr := [.iconst 1, .isub, .istore 6]
theorem sgX6_memberBy_14_0e5e8d : am_dec cX6_memberBy 14 sgX6_memberBy_14_0e5e8 = true := by decide +kernel
def sgX6_memberBy_18_4d8be : List Instr := [.iload 6]
theorem sgX6_memberBy_18_4d8bed : am_dec cX6_memberBy 18 sgX6_memberBy_18_4d8be = true := by decide +kernel
theorem dX6_memberBy_20 : decode cX6_memberBy 20 = .ok (.ifCond .lt 72, 3) := by decide +kernel
def sgX6_memberBy_92_9df92 : List Instr := [.iload 5]
theorem sgX6_memberBy_92_9df92d : am_dec cX6_memberBy 92 sgX6_memberBy_92_9df92 = true := by decide +kernel
theorem dX6_memberBy_94 : decode cX6_memberBy 94 = .ok (.ireturn, 1) := by decide +kernel
def sgX6_memberBy_23_34db8 : List Instr := [.aload_n 0]
theorem sgX6_memberBy_23_34db8d : am_dec cX6_memberBy 23 sgX6_memberBy_23_34db8 = true := by decide +kernel
theorem dX6_memberBy_24 : decode cX6_memberBy 24 = .ok (.getfield 47, 3) := by decide +kernel
def sgX6_memberBy_27_d2658 : List Instr := [.bipush 16, .iload 6, .imul, .iload_n 2, .iadd]
theorem sgX6_memberBy_27_d2658d : am_dec cX6_memberBy 27 sgX6_memberBy_27_d2658 = true := by decide +kernel
theorem dX6_memberBy_34 : decode cX6_memberBy 34 = .ok (.iaload, 1) := by decide +kernel
def sgX6_memberBy_35_3651f : List Instr := [.istore 7, .iload 4, .iload 6, .ishr, .iconst 1, .iand, .iconst 1]
theorem sgX6_memberBy_35_3651fd : am_dec cX6_memberBy 35 sgX6_memberBy_35_3651f = true := by decide +kernel
theorem dX6_memberBy_45 : decode cX6_memberBy 45 = .ok (.if_icmp .ne 24, 3) := by decide +kernel
def sgX6_memberBy_69_40c11 : List Instr := [.iconst 0, .istore 8, .iload 8]
theorem sgX6_memberBy_69_40c11d : am_dec cX6_memberBy 69 sgX6_memberBy_69_40c11 = true := by decide +kernel
theorem dX6_memberBy_74 : decode cX6_memberBy 74 = .ok (.ifCond .eq 8, 3) := by decide +kernel
def sgX6_memberBy_82_660ba : List Instr := [.iload 5, .istore 5, .iinc 6 (-1), .goto (-71)]
theorem sgX6_memberBy_82_660bad : am_dec cX6_memberBy 82 sgX6_memberBy_82_660ba = true := by decide +kernel
def sgX6_memberBy_48_06b1a : List Instr := [.iload 7, .iconst (-1)]
theorem sgX6_memberBy_48_06b1ad : am_dec cX6_memberBy 48 sgX6_memberBy_48_06b1a = true := by decide +kernel
theorem dX6_memberBy_51 : decode cX6_memberBy 51 = .ok (.if_icmp .eq 18, 3) := by decide +kernel
def sgX6_memberBy_54_8324a : List Instr := [.iload_n 3, .iconst (-1)]
theorem sgX6_memberBy_54_8324ad : am_dec cX6_memberBy 54 sgX6_memberBy_54_8324a = true := by decide +kernel
theorem dX6_memberBy_56 : decode cX6_memberBy 56 = .ok (.if_icmp .eq 9, 3) := by decide +kernel
def sgX6_memberBy_65_ef18d : List Instr := [.iconst 1, .goto 4, .istore 8, .iload 8]
theorem sgX6_memberBy_65_ef18dd : am_dec cX6_memberBy 65 sgX6_memberBy_65_ef18d = true := by decide +kernel
def sgX6_memberBy_77_74c9a : List Instr := [.iload 6, .goto 5, .istore 5, .iinc 6 (-1), .goto (-71)]
theorem sgX6_memberBy_77_74c9ad : am_dec cX6_memberBy 77 sgX6_memberBy_77_74c9a = true := by decide +kernel
def sgX6_memberBy_59_4501e : List Instr := [.iload 7, .iload_n 3]
theorem sgX6_memberBy_59_4501ed : am_dec cX6_memberBy 59 sgX6_memberBy_59_4501e = true := by decide +kernel
theorem dX6_memberBy_62 : decode cX6_memberBy 62 = .ok (.if_icmp .ne 7, 3) := by decide +kernel
def sgX6_reachesOf_0_24699 : List Instr := [.iconst 0, .istore_n 2, .iconst 0, .istore_n 3]
theorem sgX6_reachesOf_0_24699d : am_dec cX6_reachesOf 0 sgX6_reachesOf_0_24699 = true := by decide +kernel
def sgX6_reachesOf_4_b88ad : List Instr := [.iload_n 3, .bipush 16]
theorem sgX6_reachesOf_4_b88add : am_dec cX6_reachesOf 4 sgX6_reachesOf_4_b88ad = true := by decide +kernel
theorem dX6_reachesOf_7 : decode cX6_reachesOf 7 = .ok (.if_icmp .ge 30, 3) := by decide +kernel
def sgX6_reachesOf_37_f8a59 : List Instr := [.iload_n 2]
theorem sgX6_reachesOf_37_f8a59d : am_dec cX6_reachesOf 37 sgX6_reachesOf_37_f8a59 = true := by decide +kernel
theorem dX6_reachesOf_38 : decode cX6_reachesOf 38 = .ok (.ireturn, 1) := by decide +kernel
def sgX6_reachesOf_10_f708f : List Instr := [.iload_n 2, .aload_n 0, .iload_n 1, .iload_n 3, .iconst (-1)]
theorem sgX6_reachesOf_10_f708fd : am_dec cX6_reachesOf 10 sgX6_reachesOf_10_f708f = true := by decide +kernel
theorem dX6_reachesOf_15 : decode cX6_reachesOf 15 = .ok (.invokevirtual 132, 3) := by decide +kernel
def sgX6_reachesOf_18_5ff24 : List Instr := [.iconst (-1)]
theorem sgX6_reachesOf_18_5ff24d : am_dec cX6_reachesOf 18 sgX6_reachesOf_18_5ff24 = true := by decide +kernel
theorem dX6_reachesOf_19 : decode cX6_reachesOf 19 = .ok (.if_icmp .ne 7, 3) := by decide +kernel
def sgX6_reachesOf_26_8d1e4 : List Instr := [.iconst 1, .iload_n 3, .ishl, .ior, .istore_n 2, .iinc 3 1, .goto (-30)]
theorem sgX6_reachesOf_26_8d1e4d : am_dec cX6_reachesOf 26 sgX6_reachesOf_26_8d1e4 = true := by decide +kernel
def sgX6_reachesOf_22_468b6 : List Instr := [.iconst 0, .goto 6, .ior, .istore_n 2, .iinc 3 1, .goto (-30)]
theorem sgX6_reachesOf_22_468b6d : am_dec cX6_reachesOf 22 sgX6_reachesOf_22_468b6 = true := by decide +kernel
def sgX6_modeFor_0_58030 : List Instr := [.aload_n 0, .iload_n 1, .iload_n 2, .iconst (-1)]
theorem sgX6_modeFor_0_58030d : am_dec cX6_modeFor 0 sgX6_modeFor_0_58030 = true := by decide +kernel
theorem dX6_modeFor_4 : decode cX6_modeFor 4 = .ok (.invokevirtual 132, 3) := by decide +kernel
def sgX6_modeFor_7_5ff24 : List Instr := [.iconst (-1)]
theorem sgX6_modeFor_7_5ff24d : am_dec cX6_modeFor 7 sgX6_modeFor_7_5ff24 = true := by decide +kernel
theorem dX6_modeFor_8 : decode cX6_modeFor 8 = .ok (.if_icmp .ne 5, 3) := by decide +kernel
def sgX6_modeFor_13_07487 : List Instr := [.aload_n 0, .iload_n 1, .iload_n 2, .iconst 0]
theorem sgX6_modeFor_13_07487d : am_dec cX6_modeFor 13 sgX6_modeFor_13_07487 = true := by decide +kernel
theorem dX6_modeFor_17 : decode cX6_modeFor 17 = .ok (.invokevirtual 132, 3) := by decide +kernel
def sgX6_modeFor_20_5ff24 : List Instr := [.iconst (-1)]
theorem sgX6_modeFor_20_5ff24d : am_dec cX6_modeFor 20 sgX6_modeFor_20_5ff24 = true := by decide +kernel
theorem dX6_modeFor_21 : decode cX6_modeFor 21 = .ok (.if_icmp .ne 7, 3) := by decide +kernel
def sgX6_modeFor_28_56c54 : List Instr := [.iconst 0]
theorem sgX6_modeFor_28_56c54d : am_dec cX6_modeFor 28 sgX6_modeFor_28_56c54 = true := by decide +kernel
theorem dX6_modeFor_29 : decode cX6_modeFor 29 = .ok (.ireturn, 1) := by decide +kernel
def sgX6_modeFor_24_1c64c : List Instr := [.iconst 1, .goto 4]
theorem sgX6_modeFor_24_1c64cd : am_dec cX6_modeFor 24 sgX6_modeFor_24_1c64c = true := by decide +kernel
def sgX6_modeFor_11_5ff24 : List Instr := [.iconst (-1)]
theorem sgX6_modeFor_11_5ff24d : am_dec cX6_modeFor 11 sgX6_modeFor_11_5ff24 = true := by decide +kernel
theorem dX6_modeFor_12 : decode cX6_modeFor 12 = .ok (.ireturn, 1) := by decide +kernel
def sgX6_oneMore_0_34db8 : List Instr := [.aload_n 0]
theorem sgX6_oneMore_0_34db8d : am_dec cX6_oneMore 0 sgX6_oneMore_0_34db8 = true := by decide +kernel
theorem dX6_oneMore_1 : decode cX6_oneMore 1 = .ok (.getfield 19, 3) := by decide +kernel
def sgX6_oneMore_4_563cd : List Instr := [.iload_n 1, .dup2]
theorem sgX6_oneMore_4_563cdd : am_dec cX6_oneMore 4 sgX6_oneMore_4_563cd = true := by decide +kernel
theorem dX6_oneMore_6 : decode cX6_oneMore 6 = .ok (.iaload, 1) := by decide +kernel
def sgX6_oneMore_7_c7176 : List Instr := [.iconst 1, .iadd]
theorem sgX6_oneMore_7_c7176d : am_dec cX6_oneMore 7 sgX6_oneMore_7_c7176 = true := by decide +kernel
theorem dX6_oneMore_9 : decode cX6_oneMore 9 = .ok (.iastore, 1) := by decide +kernel
def sgX6_oneMore_10_34db8 : List Instr := [.aload_n 0]
theorem sgX6_oneMore_10_34db8d : am_dec cX6_oneMore 10 sgX6_oneMore_10_34db8 = true := by decide +kernel
theorem dX6_oneMore_11 : decode cX6_oneMore 11 = .ok (.getfield 19, 3) := by decide +kernel
def sgX6_oneMore_14_840bf : List Instr := [.iload_n 1]
theorem sgX6_oneMore_14_840bfd : am_dec cX6_oneMore 14 sgX6_oneMore_14_840bf = true := by decide +kernel
theorem dX6_oneMore_15 : decode cX6_oneMore 15 = .ok (.iaload, 1) := by decide +kernel
def sgX6_oneMore_16_800cc : List Instr := [.iconst 3]
theorem sgX6_oneMore_16_800ccd : am_dec cX6_oneMore 16 sgX6_oneMore_16_800cc = true := by decide +kernel
theorem dX6_oneMore_17 : decode cX6_oneMore 17 = .ok (.if_icmp .ne 54, 3) := by decide +kernel
theorem dX6_oneMore_71 : decode cX6_oneMore 71 = .ok (.return_, 1) := by decide +kernel
def sgX6_oneMore_20_34db8 : List Instr := [.aload_n 0]
theorem sgX6_oneMore_20_34db8d : am_dec cX6_oneMore 20 sgX6_oneMore_20_34db8 = true := by decide +kernel
theorem dX6_oneMore_21 : decode cX6_oneMore 21 = .ok (.getfield 19, 3) := by decide +kernel
def sgX6_oneMore_24_cd6b4 : List Instr := [.iload_n 1, .iconst 0]
theorem sgX6_oneMore_24_cd6b4d : am_dec cX6_oneMore 24 sgX6_oneMore_24_cd6b4 = true := by decide +kernel
theorem dX6_oneMore_26 : decode cX6_oneMore 26 = .ok (.iastore, 1) := by decide +kernel
def sgX6_oneMore_27_01fef : List Instr := [.iconst 0, .istore_n 2]
theorem sgX6_oneMore_27_01fefd : am_dec cX6_oneMore 27 sgX6_oneMore_27_01fef = true := by decide +kernel
def sgX6_oneMore_29_14491 : List Instr := [.iload_n 2, .aload_n 0]
theorem sgX6_oneMore_29_14491d : am_dec cX6_oneMore 29 sgX6_oneMore_29_14491 = true := by decide +kernel
theorem dX6_oneMore_31 : decode cX6_oneMore 31 = .ok (.getfield 112, 3) := by decide +kernel
theorem dX6_oneMore_34 : decode cX6_oneMore 34 = .ok (.if_icmp .ge 37, 3) := by decide +kernel
def sgX6_oneMore_37_6c3f3 : List Instr := [.bipush 16, .iload_n 2, .imul, .iload_n 1, .iadd, .istore_n 3, .aload_n 0]
theorem sgX6_oneMore_37_6c3f3d : am_dec cX6_oneMore 37 sgX6_oneMore_37_6c3f3 = true := by decide +kernel
theorem dX6_oneMore_45 : decode cX6_oneMore 45 = .ok (.getfield 47, 3) := by decide +kernel
def sgX6_oneMore_48_a1b5b : List Instr := [.iload_n 3, .aload_n 0]
theorem sgX6_oneMore_48_a1b5bd : am_dec cX6_oneMore 48 sgX6_oneMore_48_a1b5b = true := by decide +kernel
theorem dX6_oneMore_50 : decode cX6_oneMore 50 = .ok (.getfield 47, 3) := by decide +kernel
def sgX6_oneMore_53_13b50 : List Instr := [.iload_n 3]
theorem sgX6_oneMore_53_13b50d : am_dec cX6_oneMore 53 sgX6_oneMore_53_13b50 = true := by decide +kernel
theorem dX6_oneMore_54 : decode cX6_oneMore 54 = .ok (.iaload, 1) := by decide +kernel
def sgX6_oneMore_55_5ff24 : List Instr := [.iconst (-1)]
theorem sgX6_oneMore_55_5ff24d : am_dec cX6_oneMore 55 sgX6_oneMore_55_5ff24 = true := by decide +kernel
theorem dX6_oneMore_56 : decode cX6_oneMore 56 = .ok (.if_icmp .ne 7, 3) := by decide +kernel
def sgX6_oneMore_63_4de0a : List Instr := [.iconst 1]
theorem sgX6_oneMore_63_4de0ad : am_dec cX6_oneMore 63 sgX6_oneMore_63_4de0a = true := by decide +kernel
theorem dX6_oneMore_64 : decode cX6_oneMore 64 = .ok (.iastore, 1) := by decide +kernel
def sgX6_oneMore_65_92559 : List Instr := [.iinc 2 1, .goto (-39)]
theorem sgX6_oneMore_65_92559d : am_dec cX6_oneMore 65 sgX6_oneMore_65_92559 = true := by decide +kernel
def sgX6_oneMore_59_06683 : List Instr := [.iconst (-1), .goto 4]
theorem sgX6_oneMore_59_06683d : am_dec cX6_oneMore 59 sgX6_oneMore_59_06683 = true := by decide +kernel
def sgX6_comesToBox_0_34db8 : List Instr := [.aload_n 0]
theorem sgX6_comesToBox_0_34db8d : am_dec cX6_comesToBox 0 sgX6_comesToBox_0_34db8 = true := by decide +kernel
theorem dX6_comesToBox_1 : decode cX6_comesToBox 1 = .ok (.getfield 22, 3) := by decide +kernel
def sgX6_comesToBox_4_f8a59 : List Instr := [.iload_n 2]
theorem sgX6_comesToBox_4_f8a59d : am_dec cX6_comesToBox 4 sgX6_comesToBox_4_f8a59 = true := by decide +kernel
theorem dX6_comesToBox_5 : decode cX6_comesToBox 5 = .ok (.iaload, 1) := by decide +kernel
def sgX6_comesToBox_6_ee951 : List Instr := [.bipush 10]
theorem sgX6_comesToBox_6_ee951d : am_dec cX6_comesToBox 6 sgX6_comesToBox_6_ee951 = true := by decide +kernel
theorem dX6_comesToBox_8 : decode cX6_comesToBox 8 = .ok (.if_icmp .ne 11, 3) := by decide +kernel
def sgX6_comesToBox_19_34db8 : List Instr := [.aload_n 0]
theorem sgX6_comesToBox_19_34db8d : am_dec cX6_comesToBox 19 sgX6_comesToBox_19_34db8 = true := by decide +kernel
theorem dX6_comesToBox_20 : decode cX6_comesToBox 20 = .ok (.getfield 25, 3) := by decide +kernel
def sgX6_comesToBox_23_56481 : List Instr := [.bipush 10, .iload_n 2, .imul, .aload_n 0]
theorem sgX6_comesToBox_23_56481d : am_dec cX6_comesToBox 23 sgX6_comesToBox_23_56481 = true := by decide +kernel
theorem dX6_comesToBox_28 : decode cX6_comesToBox 28 = .ok (.getfield 22, 3) := by decide +kernel
def sgX6_comesToBox_31_f8a59 : List Instr := [.iload_n 2]
theorem sgX6_comesToBox_31_f8a59d : am_dec cX6_comesToBox 31 sgX6_comesToBox_31_f8a59 = true := by decide +kernel
theorem dX6_comesToBox_32 : decode cX6_comesToBox 32 = .ok (.iaload, 1) := by decide +kernel
def sgX6_comesToBox_33_ebc32 : List Instr := [.iadd, .iload_n 1]
theorem sgX6_comesToBox_33_ebc32d : am_dec cX6_comesToBox 33 sgX6_comesToBox_33_ebc32 = true := by decide +kernel
theorem dX6_comesToBox_35 : decode cX6_comesToBox 35 = .ok (.iastore, 1) := by decide +kernel
def sgX6_comesToBox_36_34db8 : List Instr := [.aload_n 0]
theorem sgX6_comesToBox_36_34db8d : am_dec cX6_comesToBox 36 sgX6_comesToBox_36_34db8 = true := by decide +kernel
theorem dX6_comesToBox_37 : decode cX6_comesToBox 37 = .ok (.getfield 22, 3) := by decide +kernel
def sgX6_comesToBox_40_9241e : List Instr := [.iload_n 2, .dup2]
theorem sgX6_comesToBox_40_9241ed : am_dec cX6_comesToBox 40 sgX6_comesToBox_40_9241e = true := by decide +kernel
theorem dX6_comesToBox_42 : decode cX6_comesToBox 42 = .ok (.iaload, 1) := by decide +kernel
def sgX6_comesToBox_43_c7176 : List Instr := [.iconst 1, .iadd]
theorem sgX6_comesToBox_43_c7176d : am_dec cX6_comesToBox 43 sgX6_comesToBox_43_c7176 = true := by decide +kernel
theorem dX6_comesToBox_45 : decode cX6_comesToBox 45 = .ok (.iastore, 1) := by decide +kernel
def sgX6_comesToBox_46_34db8 : List Instr := [.aload_n 0]
theorem sgX6_comesToBox_46_34db8d : am_dec cX6_comesToBox 46 sgX6_comesToBox_46_34db8 = true := by decide +kernel
theorem dX6_comesToBox_47 : decode cX6_comesToBox 47 = .ok (.getfield 71, 3) := by decide +kernel
def sgX6_comesToBox_50_563cd : List Instr := [.iload_n 1, .dup2]
theorem sgX6_comesToBox_50_563cdd : am_dec cX6_comesToBox 50 sgX6_comesToBox_50_563cd = true := by decide +kernel
theorem dX6_comesToBox_52 : decode cX6_comesToBox 52 = .ok (.iaload, 1) := by decide +kernel
def sgX6_comesToBox_53_76418 : List Instr := [.iconst 1, .iload_n 2, .ishl, .ior]
theorem sgX6_comesToBox_53_76418d : am_dec cX6_comesToBox 53 sgX6_comesToBox_53_76418 = true := by decide +kernel
theorem dX6_comesToBox_57 : decode cX6_comesToBox 57 = .ok (.iastore, 1) := by decide +kernel
theorem dX6_comesToBox_58 : decode cX6_comesToBox 58 = .ok (.return_, 1) := by decide +kernel
def sgX6_comesToBox_11_78e74 : List Instr := [.aload_n 0, .iload_n 2]
theorem sgX6_comesToBox_11_78e74d : am_dec cX6_comesToBox 11 sgX6_comesToBox_11_78e74 = true := by decide +kernel
theorem dX6_comesToBox_13 : decode cX6_comesToBox 13 = .ok (.invokevirtual 143, 3) := by decide +kernel
def sgX6_comesToBox_16_933e7 : List Instr := [.goto 42]
theorem sgX6_comesToBox_16_933e7d : am_dec cX6_comesToBox 16 sgX6_comesToBox_16_933e7 = true := by decide +kernel
def sgX6_comesToDigest_0_2baf6 : List Instr := [.sipush 401, .iload_n 2, .imul, .aload_n 0]
theorem sgX6_comesToDigest_0_2baf6d : am_dec cX6_comesToDigest 0 sgX6_comesToDigest_0_2baf6 = true := by decide +kernel
theorem dX6_comesToDigest_6 : decode cX6_comesToDigest 6 = .ok (.getfield 56, 3) := by decide +kernel
def sgX6_comesToDigest_9_840bf : List Instr := [.iload_n 1]
theorem sgX6_comesToDigest_9_840bfd : am_dec cX6_comesToDigest 9 sgX6_comesToDigest_9_840bf = true := by decide +kernel
theorem dX6_comesToDigest_10 : decode cX6_comesToDigest 10 = .ok (.iaload, 1) := by decide +kernel
def sgX6_comesToDigest_11_4dc44 : List Instr := [.iadd, .istore 4, .aload_n 0]
theorem sgX6_comesToDigest_11_4dc44d : am_dec cX6_comesToDigest 11 sgX6_comesToDigest_11_4dc44 = true := by decide +kernel
theorem dX6_comesToDigest_15 : decode cX6_comesToDigest 15 = .ok (.getfield 92, 3) := by decide +kernel
def sgX6_comesToDigest_18_40916 : List Instr := [.iload 4, .iconst 1]
theorem sgX6_comesToDigest_18_40916d : am_dec cX6_comesToDigest 18 sgX6_comesToDigest_18_40916 = true := by decide +kernel
theorem dX6_comesToDigest_21 : decode cX6_comesToDigest 21 = .ok (.bastore, 1) := by decide +kernel
def sgX6_comesToDigest_22_34db8 : List Instr := [.aload_n 0]
theorem sgX6_comesToDigest_22_34db8d : am_dec cX6_comesToDigest 22 sgX6_comesToDigest_22_34db8 = true := by decide +kernel
theorem dX6_comesToDigest_23 : decode cX6_comesToDigest 23 = .ok (.getfield 98, 3) := by decide +kernel
def sgX6_comesToDigest_26_01ce9 : List Instr := [.iload 4, .dup2]
theorem sgX6_comesToDigest_26_01ce9d : am_dec cX6_comesToDigest 26 sgX6_comesToDigest_26_01ce9 = true := by decide +kernel
theorem dX6_comesToDigest_29 : decode cX6_comesToDigest 29 = .ok (.iaload, 1) := by decide +kernel
def sgX6_comesToDigest_30_4473e : List Instr := [.iconst 1, .iload_n 3, .ishl, .ior]
theorem sgX6_comesToDigest_30_4473ed : am_dec cX6_comesToDigest 30 sgX6_comesToDigest_30_4473e = true := by decide +kernel
theorem dX6_comesToDigest_34 : decode cX6_comesToDigest 34 = .ok (.iastore, 1) := by decide +kernel
def sgX6_comesToDigest_35_34db8 : List Instr := [.aload_n 0]
theorem sgX6_comesToDigest_35_34db8d : am_dec cX6_comesToDigest 35 sgX6_comesToDigest_35_34db8 = true := by decide +kernel
theorem dX6_comesToDigest_36 : decode cX6_comesToDigest 36 = .ok (.getfield 71, 3) := by decide +kernel
def sgX6_comesToDigest_39_563cd : List Instr := [.iload_n 1, .dup2]
theorem sgX6_comesToDigest_39_563cdd : am_dec cX6_comesToDigest 39 sgX6_comesToDigest_39_563cd = true := by decide +kernel
theorem dX6_comesToDigest_41 : decode cX6_comesToDigest 41 = .ok (.iaload, 1) := by decide +kernel
def sgX6_comesToDigest_42_4473e : List Instr := [.iconst 1, .iload_n 3, .ishl, .ior]
theorem sgX6_comesToDigest_42_4473ed : am_dec cX6_comesToDigest 42 sgX6_comesToDigest_42_4473e = true := by decide +kernel
theorem dX6_comesToDigest_46 : decode cX6_comesToDigest 46 = .ok (.iastore, 1) := by decide +kernel
def sgX6_comesToDigest_47_34db8 : List Instr := [.aload_n 0]
theorem sgX6_comesToDigest_47_34db8d : am_dec cX6_comesToDigest 47 sgX6_comesToDigest_47_34db8 = true := by decide +kernel
theorem dX6_comesToDigest_48 : decode cX6_comesToDigest 48 = .ok (.getfield 89, 3) := by decide +kernel
def sgX6_comesToDigest_51_afa86 : List Instr := [.bipush 10, .iload_n 1, .imul, .iload_n 2, .iadd]
theorem sgX6_comesToDigest_51_afa86d : am_dec cX6_comesToDigest 51 sgX6_comesToDigest_51_afa86 = true := by decide +kernel
theorem dX6_comesToDigest_57 : decode cX6_comesToDigest 57 = .ok (.baload, 1) := by decide +kernel
theorem dX6_comesToDigest_58 : decode cX6_comesToDigest 58 = .ok (.ifCond .ne 52, 3) := by decide +kernel
def sgX6_comesToDigest_110_34db8 : List Instr := [.aload_n 0]
theorem sgX6_comesToDigest_110_34db8d : am_dec cX6_comesToDigest 110 sgX6_comesToDigest_110_34db8 = true := by decide +kernel
theorem dX6_comesToDigest_111 : decode cX6_comesToDigest 111 = .ok (.getfield 89, 3) := by decide +kernel
def sgX6_comesToDigest_114_e8b24 : List Instr := [.bipush 10, .iload_n 1, .imul, .iload_n 2, .iadd, .iconst 1]
theorem sgX6_comesToDigest_114_e8b24d : am_dec cX6_comesToDigest 114 sgX6_comesToDigest_114_e8b24 = true := by decide +kernel
theorem dX6_comesToDigest_121 : decode cX6_comesToDigest 121 = .ok (.bastore, 1) := by decide +kernel
theorem dX6_comesToDigest_122 : decode cX6_comesToDigest 122 = .ok (.return_, 1) := by decide +kernel
def sgX6_comesToDigest_61_34db8 : List Instr := [.aload_n 0]
theorem sgX6_comesToDigest_61_34db8d : am_dec cX6_comesToDigest 61 sgX6_comesToDigest_61_34db8 = true := by decide +kernel
theorem dX6_comesToDigest_62 : decode cX6_comesToDigest 62 = .ok (.getfield 56, 3) := by decide +kernel
def sgX6_comesToDigest_65_840bf : List Instr := [.iload_n 1]
theorem sgX6_comesToDigest_65_840bfd : am_dec cX6_comesToDigest 65 sgX6_comesToDigest_65_840bf = true := by decide +kernel
theorem dX6_comesToDigest_66 : decode cX6_comesToDigest 66 = .ok (.iaload, 1) := by decide +kernel
def sgX6_comesToDigest_67_34db8 : List Instr := [.aload_n 0]
theorem sgX6_comesToDigest_67_34db8d : am_dec cX6_comesToDigest 67 sgX6_comesToDigest_67_34db8 = true := by decide +kernel
theorem dX6_comesToDigest_68 : decode cX6_comesToDigest 68 = .ok (.getfield 147, 3) := by decide +kernel
theorem dX6_comesToDigest_71 : decode cX6_comesToDigest 71 = .ok (.if_icmp .ge 39, 3) := by decide +kernel
def sgX6_comesToDigest_74_34db8 : List Instr := [.aload_n 0]
theorem sgX6_comesToDigest_74_34db8d : am_dec cX6_comesToDigest 74 sgX6_comesToDigest_74_34db8 = true := by decide +kernel
theorem dX6_comesToDigest_75 : decode cX6_comesToDigest 75 = .ok (.getfield 101, 3) := by decide +kernel
def sgX6_comesToDigest_78_c6742 : List Instr := [.iload 4]
theorem sgX6_comesToDigest_78_c6742d : am_dec cX6_comesToDigest 78 sgX6_comesToDigest_78_c6742 = true := by decide +kernel
theorem dX6_comesToDigest_80 : decode cX6_comesToDigest 80 = .ok (.iaload, 1) := by decide +kernel
def sgX6_comesToDigest_81_34db8 : List Instr := [.aload_n 0]
theorem sgX6_comesToDigest_81_34db8d : am_dec cX6_comesToDigest 81 sgX6_comesToDigest_81_34db8 = true := by decide +kernel
theorem dX6_comesToDigest_82 : decode cX6_comesToDigest 82 = .ok (.getfield 150, 3) := by decide +kernel
theorem dX6_comesToDigest_85 : decode cX6_comesToDigest 85 = .ok (.if_icmp .eq 25, 3) := by decide +kernel
def sgX6_comesToDigest_88_34db8 : List Instr := [.aload_n 0]
theorem sgX6_comesToDigest_88_34db8d : am_dec cX6_comesToDigest 88 sgX6_comesToDigest_88_34db8 = true := by decide +kernel
theorem dX6_comesToDigest_89 : decode cX6_comesToDigest 89 = .ok (.getfield 95, 3) := by decide +kernel
def sgX6_comesToDigest_92_01ce9 : List Instr := [.iload 4, .dup2]
theorem sgX6_comesToDigest_92_01ce9d : am_dec cX6_comesToDigest 92 sgX6_comesToDigest_92_01ce9 = true := by decide +kernel
theorem dX6_comesToDigest_95 : decode cX6_comesToDigest 95 = .ok (.iaload, 1) := by decide +kernel
def sgX6_comesToDigest_96_c7176 : List Instr := [.iconst 1, .iadd]
theorem sgX6_comesToDigest_96_c7176d : am_dec cX6_comesToDigest 96 sgX6_comesToDigest_96_c7176 = true := by decide +kernel
theorem dX6_comesToDigest_98 : decode cX6_comesToDigest 98 = .ok (.iastore, 1) := by decide +kernel
def sgX6_comesToDigest_99_34db8 : List Instr := [.aload_n 0]
theorem sgX6_comesToDigest_99_34db8d : am_dec cX6_comesToDigest 99 sgX6_comesToDigest_99_34db8 = true := by decide +kernel
theorem dX6_comesToDigest_100 : decode cX6_comesToDigest 100 = .ok (.getfield 101, 3) := by decide +kernel
def sgX6_comesToDigest_103_49a24 : List Instr := [.iload 4, .aload_n 0]
theorem sgX6_comesToDigest_103_49a24d : am_dec cX6_comesToDigest 103 sgX6_comesToDigest_103_49a24 = true := by decide +kernel
theorem dX6_comesToDigest_106 : decode cX6_comesToDigest 106 = .ok (.getfield 150, 3) := by decide +kernel
theorem dX6_comesToDigest_109 : decode cX6_comesToDigest 109 = .ok (.iastore, 1) := by decide +kernel
def sgX6_scoreOf_0_34db8 : List Instr := [.aload_n 0]
theorem sgX6_scoreOf_0_34db8d : am_dec cX6_scoreOf 0 sgX6_scoreOf_0_34db8 = true := by decide +kernel
theorem dX6_scoreOf_1 : decode cX6_scoreOf 1 = .ok (.getfield 13, 3) := by decide +kernel
def sgX6_scoreOf_4_840bf : List Instr := [.iload_n 1]
theorem sgX6_scoreOf_4_840bfd : am_dec cX6_scoreOf 4 sgX6_scoreOf_4_840bf = true := by decide +kernel
theorem dX6_scoreOf_5 : decode cX6_scoreOf 5 = .ok (.iaload, 1) := by decide +kernel
def sgX6_scoreOf_6_06618 : List Instr := [.istore 4, .iconst 0, .istore 5]
theorem sgX6_scoreOf_6_06618d : am_dec cX6_scoreOf 6 sgX6_scoreOf_6_06618 = true := by decide +kernel
def sgX6_scoreOf_11_ea47b : List Instr := [.iload 5, .bipush 20]
theorem sgX6_scoreOf_11_ea47bd : am_dec cX6_scoreOf 11 sgX6_scoreOf_11_ea47b = true := by decide +kernel
theorem dX6_scoreOf_15 : decode cX6_scoreOf 15 = .ok (.if_icmp .ge 35, 3) := by decide +kernel
def sgX6_scoreOf_50_d9665 : List Instr := [.iconst 0, .istore 5]
theorem sgX6_scoreOf_50_d9665d : am_dec cX6_scoreOf 50 sgX6_scoreOf_50_d9665 = true := by decide +kernel
def sgX6_scoreOf_53_e57aa : List Instr := [.iload 5, .aload_n 0]
theorem sgX6_scoreOf_53_e57aad : am_dec cX6_scoreOf 53 sgX6_scoreOf_53_e57aa = true := by decide +kernel
theorem dX6_scoreOf_56 : decode cX6_scoreOf 56 = .ok (.getfield 115, 3) := by decide +kernel
theorem dX6_scoreOf_59 : decode cX6_scoreOf 59 = .ok (.if_icmp .ge 44, 3) := by decide +kernel
def sgX6_scoreOf_103_8324a : List Instr := [.iload_n 3, .iconst (-1)]
theorem sgX6_scoreOf_103_8324ad : am_dec cX6_scoreOf 103 sgX6_scoreOf_103_8324a = true := by decide +kernel
theorem dX6_scoreOf_105 : decode cX6_scoreOf 105 = .ok (.if_icmp .eq 49, 3) := by decide +kernel
def sgX6_scoreOf_154_93f95 : List Instr := [.iconst 0, .istore 5, .iload 4, .iload 5]
theorem sgX6_scoreOf_154_93f95d : am_dec cX6_scoreOf 154 sgX6_scoreOf_154_93f95 = true := by decide +kernel
theorem dX6_scoreOf_161 : decode cX6_scoreOf 161 = .ok (.ifCond .eq 7, 3) := by decide +kernel
def sgX6_scoreOf_168_7f98f : List Instr := [.iconst 0, .isub]
theorem sgX6_scoreOf_168_7f98fd : am_dec cX6_scoreOf 168 sgX6_scoreOf_168_7f98f = true := by decide +kernel
theorem dX6_scoreOf_170 : decode cX6_scoreOf 170 = .ok (.ireturn, 1) := by decide +kernel
def sgX6_scoreOf_62_49a24 : List Instr := [.iload 4, .aload_n 0]
theorem sgX6_scoreOf_62_49a24d : am_dec cX6_scoreOf 62 sgX6_scoreOf_62_49a24 = true := by decide +kernel
theorem dX6_scoreOf_65 : decode cX6_scoreOf 65 = .ok (.getfield 50, 3) := by decide +kernel
def sgX6_scoreOf_68_9df92 : List Instr := [.iload 5]
theorem sgX6_scoreOf_68_9df92d : am_dec cX6_scoreOf 68 sgX6_scoreOf_68_9df92 = true := by decide +kernel
theorem dX6_scoreOf_70 : decode cX6_scoreOf 70 = .ok (.iaload, 1) := by decide +kernel
def sgX6_scoreOf_71_840bf : List Instr := [.iload_n 1]
theorem sgX6_scoreOf_71_840bfd : am_dec cX6_scoreOf 71 sgX6_scoreOf_71_840bf = true := by decide +kernel
theorem dX6_scoreOf_72 : decode cX6_scoreOf 72 = .ok (.if_icmp .ne 21, 3) := by decide +kernel
def sgX6_scoreOf_93_db923 : List Instr := [.iconst 0, .iadd, .istore 4, .iinc 5 1, .goto (-47)]
theorem sgX6_scoreOf_93_db923d : am_dec cX6_scoreOf 93 sgX6_scoreOf_93_db923 = true := by decide +kernel
def sgX6_scoreOf_75_34db8 : List Instr := [.aload_n 0]
theorem sgX6_scoreOf_75_34db8d : am_dec cX6_scoreOf 75 sgX6_scoreOf_75_34db8 = true := by decide +kernel
theorem dX6_scoreOf_76 : decode cX6_scoreOf 76 = .ok (.getfield 56, 3) := by decide +kernel
def sgX6_scoreOf_79_9df92 : List Instr := [.iload 5]
theorem sgX6_scoreOf_79_9df92d : am_dec cX6_scoreOf 79 sgX6_scoreOf_79_9df92 = true := by decide +kernel
theorem dX6_scoreOf_81 : decode cX6_scoreOf 81 = .ok (.iaload, 1) := by decide +kernel
def sgX6_scoreOf_82_34db8 : List Instr := [.aload_n 0]
theorem sgX6_scoreOf_82_34db8d : am_dec cX6_scoreOf 82 sgX6_scoreOf_82_34db8 = true := by decide +kernel
theorem dX6_scoreOf_83 : decode cX6_scoreOf 83 = .ok (.getfield 147, 3) := by decide +kernel
theorem dX6_scoreOf_86 : decode cX6_scoreOf 86 = .ok (.if_icmp .ne 7, 3) := by decide +kernel
def sgX6_scoreOf_89_f2611 : List Instr := [.iconst 1, .goto 4, .iadd, .istore 4, .iinc 5 1, .goto (-47)]
theorem sgX6_scoreOf_89_f2611d : am_dec cX6_scoreOf 89 sgX6_scoreOf_89_f2611 = true := by decide +kernel
def sgX6_scoreOf_18_0ca7e : List Instr := [.iload 4, .iload_n 2, .iload 5, .ishr, .iconst 1, .iand, .iconst 1]
theorem sgX6_scoreOf_18_0ca7ed : am_dec cX6_scoreOf 18 sgX6_scoreOf_18_0ca7e = true := by decide +kernel
theorem dX6_scoreOf_27 : decode cX6_scoreOf 27 = .ok (.if_icmp .ne 13, 3) := by decide +kernel
def sgX6_scoreOf_40_e2933 : List Instr := [.iconst 0, .iadd, .istore 4, .iinc 5 1, .goto (-36)]
theorem sgX6_scoreOf_40_e2933d : am_dec cX6_scoreOf 40 sgX6_scoreOf_40_e2933 = true := by decide +kernel
def sgX6_scoreOf_30_34db8 : List Instr := [.aload_n 0]
theorem sgX6_scoreOf_30_34db8d : am_dec cX6_scoreOf 30 sgX6_scoreOf_30_34db8 = true := by decide +kernel
theorem dX6_scoreOf_31 : decode cX6_scoreOf 31 = .ok (.getfield 7, 3) := by decide +kernel
def sgX6_scoreOf_34_9df92 : List Instr := [.iload 5]
theorem sgX6_scoreOf_34_9df92d : am_dec cX6_scoreOf 34 sgX6_scoreOf_34_9df92 = true := by decide +kernel
theorem dX6_scoreOf_36 : decode cX6_scoreOf 36 = .ok (.iaload, 1) := by decide +kernel
def sgX6_scoreOf_37_85052 : List Instr := [.goto 4, .iadd, .istore 4, .iinc 5 1, .goto (-36)]
theorem sgX6_scoreOf_37_85052d : am_dec cX6_scoreOf 37 sgX6_scoreOf_37_85052 = true := by decide +kernel
def sgX6_scoreOf_108_34db8 : List Instr := [.aload_n 0]
theorem sgX6_scoreOf_108_34db8d : am_dec cX6_scoreOf 108 sgX6_scoreOf_108_34db8 = true := by decide +kernel
theorem dX6_scoreOf_109 : decode cX6_scoreOf 109 = .ok (.getfield 50, 3) := by decide +kernel
def sgX6_scoreOf_112_8324a : List Instr := [.iload_n 3, .iconst (-1)]
theorem sgX6_scoreOf_112_8324ad : am_dec cX6_scoreOf 112 sgX6_scoreOf_112_8324a = true := by decide +kernel
theorem dX6_scoreOf_114 : decode cX6_scoreOf 114 = .ok (.if_icmp .ne 7, 3) := by decide +kernel
def sgX6_scoreOf_121_13b50 : List Instr := [.iload_n 3]
theorem sgX6_scoreOf_121_13b50d : am_dec cX6_scoreOf 121 sgX6_scoreOf_121_13b50 = true := by decide +kernel
theorem dX6_scoreOf_122 : decode cX6_scoreOf 122 = .ok (.iaload, 1) := by decide +kernel
def sgX6_scoreOf_123_840bf : List Instr := [.iload_n 1]
theorem sgX6_scoreOf_123_840bfd : am_dec cX6_scoreOf 123 sgX6_scoreOf_123_840bf = true := by decide +kernel
theorem dX6_scoreOf_124 : decode cX6_scoreOf 124 = .ok (.if_icmp .eq 26, 3) := by decide +kernel
def sgX6_scoreOf_150_1f015 : List Instr := [.iconst 1, .goto 4, .istore 5, .iload 4, .iload 5]
theorem sgX6_scoreOf_150_1f015d : am_dec cX6_scoreOf 150 sgX6_scoreOf_150_1f015 = true := by decide +kernel
def sgX6_scoreOf_164_b5ffe : List Instr := [.iconst 3, .goto 4, .isub]
theorem sgX6_scoreOf_164_b5ffed : am_dec cX6_scoreOf 164 sgX6_scoreOf_164_b5ffe = true := by decide +kernel
def sgX6_scoreOf_127_34db8 : List Instr := [.aload_n 0]
theorem sgX6_scoreOf_127_34db8d : am_dec cX6_scoreOf 127 sgX6_scoreOf_127_34db8 = true := by decide +kernel
theorem dX6_scoreOf_128 : decode cX6_scoreOf 128 = .ok (.getfield 71, 3) := by decide +kernel
def sgX6_scoreOf_131_8324a : List Instr := [.iload_n 3, .iconst (-1)]
theorem sgX6_scoreOf_131_8324ad : am_dec cX6_scoreOf 131 sgX6_scoreOf_131_8324a = true := by decide +kernel
theorem dX6_scoreOf_133 : decode cX6_scoreOf 133 = .ok (.if_icmp .ne 7, 3) := by decide +kernel
def sgX6_scoreOf_140_13b50 : List Instr := [.iload_n 3]
theorem sgX6_scoreOf_140_13b50d : am_dec cX6_scoreOf 140 sgX6_scoreOf_140_13b50 = true := by decide +kernel
theorem dX6_scoreOf_141 : decode cX6_scoreOf 141 = .ok (.iaload, 1) := by decide +kernel
def sgX6_scoreOf_142_43adf : List Instr := [.iload_n 1, .ishr, .iconst 1, .iand, .iconst 1]
theorem sgX6_scoreOf_142_43adfd : am_dec cX6_scoreOf 142 sgX6_scoreOf_142_43adf = true := by decide +kernel
theorem dX6_scoreOf_147 : decode cX6_scoreOf 147 = .ok (.if_icmp .ne 7, 3) := by decide +kernel
def sgX6_causeOf_0_34db8 : List Instr := [.aload_n 0]
theorem sgX6_causeOf_0_34db8d : am_dec cX6_causeOf 0 sgX6_causeOf_0_34db8 = true := by decide +kernel
theorem dX6_causeOf_1 : decode cX6_causeOf 1 = .ok (.getfield 41, 3) := by decide +kernel
def sgX6_causeOf_4_f8a59 : List Instr := [.iload_n 2]
theorem sgX6_causeOf_4_f8a59d : am_dec cX6_causeOf 4 sgX6_causeOf_4_f8a59 = true := by decide +kernel
theorem dX6_causeOf_5 : decode cX6_causeOf 5 = .ok (.iaload, 1) := by decide +kernel
def sgX6_causeOf_6_43adf : List Instr := [.iload_n 1, .ishr, .iconst 1, .iand, .iconst 1]
theorem sgX6_causeOf_6_43adfd : am_dec cX6_causeOf 6 sgX6_causeOf_6_43adf = true := by decide +kernel
theorem dX6_causeOf_11 : decode cX6_causeOf 11 = .ok (.if_icmp .ne 5, 3) := by decide +kernel
def sgX6_causeOf_16_34db8 : List Instr := [.aload_n 0]
theorem sgX6_causeOf_16_34db8d : am_dec cX6_causeOf 16 sgX6_causeOf_16_34db8 = true := by decide +kernel
theorem dX6_causeOf_17 : decode cX6_causeOf 17 = .ok (.getfield 37, 3) := by decide +kernel
def sgX6_causeOf_20_f8a59 : List Instr := [.iload_n 2]
theorem sgX6_causeOf_20_f8a59d : am_dec cX6_causeOf 20 sgX6_causeOf_20_f8a59 = true := by decide +kernel
theorem dX6_causeOf_21 : decode cX6_causeOf 21 = .ok (.baload, 1) := by decide +kernel
theorem dX6_causeOf_22 : decode cX6_causeOf 22 = .ok (.ifCond .eq 17, 3) := by decide +kernel
def sgX6_causeOf_39_a1b5b : List Instr := [.iload_n 3, .aload_n 0]
theorem sgX6_causeOf_39_a1b5bd : am_dec cX6_causeOf 39 sgX6_causeOf_39_a1b5b = true := by decide +kernel
theorem dX6_causeOf_41 : decode cX6_causeOf 41 = .ok (.getfield 31, 3) := by decide +kernel
def sgX6_causeOf_44_f8a59 : List Instr := [.iload_n 2]
theorem sgX6_causeOf_44_f8a59d : am_dec cX6_causeOf 44 sgX6_causeOf_44_f8a59 = true := by decide +kernel
theorem dX6_causeOf_45 : decode cX6_causeOf 45 = .ok (.iaload, 1) := by decide +kernel
theorem dX6_causeOf_46 : decode cX6_causeOf 46 = .ok (.if_icmp .lt 7, 3) := by decide +kernel
def sgX6_causeOf_53_5ff24 : List Instr := [.iconst (-1)]
theorem sgX6_causeOf_53_5ff24d : am_dec cX6_causeOf 53 sgX6_causeOf_53_5ff24 = true := by decide +kernel
theorem dX6_causeOf_54 : decode cX6_causeOf 54 = .ok (.ireturn, 1) := by decide +kernel
def sgX6_causeOf_49_abe91 : List Instr := [.iconst 2, .goto 4]
theorem sgX6_causeOf_49_abe91d : am_dec cX6_causeOf 49 sgX6_causeOf_49_abe91 = true := by decide +kernel
def sgX6_causeOf_25_78e74 : List Instr := [.aload_n 0, .iload_n 2]
theorem sgX6_causeOf_25_78e74d : am_dec cX6_causeOf 25 sgX6_causeOf_25_78e74 = true := by decide +kernel
theorem dX6_causeOf_27 : decode cX6_causeOf 27 = .ok (.invokevirtual 136, 3) := by decide +kernel
def sgX6_causeOf_30_59d23 : List Instr := [.iload_n 1, .ishr, .iconst 1, .iand]
theorem sgX6_causeOf_30_59d23d : am_dec cX6_causeOf 30 sgX6_causeOf_30_59d23 = true := by decide +kernel
theorem dX6_causeOf_34 : decode cX6_causeOf 34 = .ok (.ifCond .ne 5, 3) := by decide +kernel
def sgX6_causeOf_37_4de0a : List Instr := [.iconst 1]
theorem sgX6_causeOf_37_4de0ad : am_dec cX6_causeOf 37 sgX6_causeOf_37_4de0a = true := by decide +kernel
theorem dX6_causeOf_38 : decode cX6_causeOf 38 = .ok (.ireturn, 1) := by decide +kernel
def sgX6_causeOf_14_56c54 : List Instr := [.iconst 0]
theorem sgX6_causeOf_14_56c54d : am_dec cX6_causeOf 14 sgX6_causeOf_14_56c54 = true := by decide +kernel
theorem dX6_causeOf_15 : decode cX6_causeOf 15 = .ok (.ireturn, 1) := by decide +kernel
def sgX6_canJudge_0_1e911 : List Instr := [.iconst 0, .istore_n 3, .iconst 0, .istore 4]
theorem sgX6_canJudge_0_1e911d : am_dec cX6_canJudge 0 sgX6_canJudge_0_1e911 = true := by decide +kernel
def sgX6_canJudge_5_49a24 : List Instr := [.iload 4, .aload_n 0]
theorem sgX6_canJudge_5_49a24d : am_dec cX6_canJudge 5 sgX6_canJudge_5_49a24 = true := by decide +kernel
theorem dX6_canJudge_8 : decode cX6_canJudge 8 = .ok (.getfield 112, 3) := by decide +kernel
theorem dX6_canJudge_11 : decode cX6_canJudge 11 = .ok (.if_icmp .ge 30, 3) := by decide +kernel
def sgX6_canJudge_41_13b50 : List Instr := [.iload_n 3]
theorem sgX6_canJudge_41_13b50d : am_dec cX6_canJudge 41 sgX6_canJudge_41_13b50 = true := by decide +kernel
theorem dX6_canJudge_42 : decode cX6_canJudge 42 = .ok (.ifCond .eq 32, 3) := by decide +kernel
def sgX6_canJudge_74_56c54 : List Instr := [.iconst 0]
theorem sgX6_canJudge_74_56c54d : am_dec cX6_canJudge 74 sgX6_canJudge_74_56c54 = true := by decide +kernel
theorem dX6_canJudge_75 : decode cX6_canJudge 75 = .ok (.ireturn, 1) := by decide +kernel
def sgX6_canJudge_45_14491 : List Instr := [.iload_n 2, .aload_n 0]
theorem sgX6_canJudge_45_14491d : am_dec cX6_canJudge 45 sgX6_canJudge_45_14491 = true := by decide +kernel
theorem dX6_canJudge_47 : decode cX6_canJudge 47 = .ok (.getfield 50, 3) := by decide +kernel
def sgX6_canJudge_50_840bf : List Instr := [.iload_n 1]
theorem sgX6_canJudge_50_840bfd : am_dec cX6_canJudge 50 sgX6_canJudge_50_840bf = true := by decide +kernel
theorem dX6_canJudge_51 : decode cX6_canJudge 51 = .ok (.iaload, 1) := by decide +kernel
theorem dX6_canJudge_52 : decode cX6_canJudge 52 = .ok (.if_icmp .eq 22, 3) := by decide +kernel
def sgX6_canJudge_55_14491 : List Instr := [.iload_n 2, .aload_n 0]
theorem sgX6_canJudge_55_14491d : am_dec cX6_canJudge 55 sgX6_canJudge_55_14491 = true := by decide +kernel
theorem dX6_canJudge_57 : decode cX6_canJudge 57 = .ok (.getfield 28, 3) := by decide +kernel
def sgX6_canJudge_60_34db8 : List Instr := [.aload_n 0]
theorem sgX6_canJudge_60_34db8d : am_dec cX6_canJudge 60 sgX6_canJudge_60_34db8 = true := by decide +kernel
theorem dX6_canJudge_61 : decode cX6_canJudge 61 = .ok (.getfield 53, 3) := by decide +kernel
def sgX6_canJudge_64_840bf : List Instr := [.iload_n 1]
theorem sgX6_canJudge_64_840bfd : am_dec cX6_canJudge 64 sgX6_canJudge_64_840bf = true := by decide +kernel
theorem dX6_canJudge_65 : decode cX6_canJudge 65 = .ok (.iaload, 1) := by decide +kernel
theorem dX6_canJudge_66 : decode cX6_canJudge 66 = .ok (.iaload, 1) := by decide +kernel
theorem dX6_canJudge_67 : decode cX6_canJudge 67 = .ok (.if_icmp .eq 7, 3) := by decide +kernel
def sgX6_canJudge_70_1c64c : List Instr := [.iconst 1, .goto 4]
theorem sgX6_canJudge_70_1c64cd : am_dec cX6_canJudge 70 sgX6_canJudge_70_1c64c = true := by decide +kernel
def sgX6_canJudge_14_13b50 : List Instr := [.iload_n 3]
theorem sgX6_canJudge_14_13b50d : am_dec cX6_canJudge 14 sgX6_canJudge_14_13b50 = true := by decide +kernel
theorem dX6_canJudge_15 : decode cX6_canJudge 15 = .ok (.ifCond .ne 14, 3) := by decide +kernel
def sgX6_canJudge_29_2a01b : List Instr := [.iconst 1, .goto 4, .istore_n 3, .iinc 4 1, .goto (-33)]
theorem sgX6_canJudge_29_2a01bd : am_dec cX6_canJudge 29 sgX6_canJudge_29_2a01b = true := by decide +kernel
def sgX6_canJudge_18_34db8 : List Instr := [.aload_n 0]
theorem sgX6_canJudge_18_34db8d : am_dec cX6_canJudge 18 sgX6_canJudge_18_34db8 = true := by decide +kernel
theorem dX6_canJudge_19 : decode cX6_canJudge 19 = .ok (.getfield 28, 3) := by decide +kernel
def sgX6_canJudge_22_c6742 : List Instr := [.iload 4]
theorem sgX6_canJudge_22_c6742d : am_dec cX6_canJudge 22 sgX6_canJudge_22_c6742 = true := by decide +kernel
theorem dX6_canJudge_24 : decode cX6_canJudge 24 = .ok (.iaload, 1) := by decide +kernel
def sgX6_canJudge_25_f8a59 : List Instr := [.iload_n 2]
theorem sgX6_canJudge_25_f8a59d : am_dec cX6_canJudge 25 sgX6_canJudge_25_f8a59 = true := by decide +kernel
theorem dX6_canJudge_26 : decode cX6_canJudge 26 = .ok (.if_icmp .ne 7, 3) := by decide +kernel
def sgX6_canJudge_33_e1e62 : List Instr := [.iconst 0, .istore_n 3, .iinc 4 1, .goto (-33)]
theorem sgX6_canJudge_33_e1e62d : am_dec cX6_canJudge 33 sgX6_canJudge_33_e1e62 = true := by decide +kernel
theorem pk_nm1 {a : Nat} (h : a < 2 ^ 31) : ¬ nI a = -1 := fun e => nI_pos h (by rw [e]; decide)
set_option maxRecDepth 100000 in
set_option maxHeartbeats 4000000 in
theorem c_isPerson_t {G : am_S} {X : am_H} {x : Int32} {p : Nat} (hp9 : p < 16) (hx : x = nI p) : am_D G yX6_isPerson (.code yX6_isPerson cX6_isPerson 1 (some .boolean) :: am_G) { frames := 1, cells := 0, slots := 0, locals := 22 } X [.int x] X (some (.int 1)) := by
  refine am_of (by decide +kernel) (Nat.le_of_ble_eq_true rfl) ?_
  intro C hse hret hname hF hO
  subst hse
  refine am_go hF sgX6_isPerson_0_63447 4 [(0, .int x)] [.int 15, .int 0, .int x] sgX6_isPerson_0_63447d rfl ?_
  refine am_dS hF hO [.int x, .int 0, .int 15] [] (c_isIn) myX6_isIn syX6_isIn lm_RX6_108 rfl 0 0 ⟨Nat.le_of_ble_eq_true rfl, Nat.le_of_ble_eq_true rfl⟩ ⟨Nat.le_of_ble_eq_true rfl, Nat.le_of_ble_eq_true rfl, Nat.le_of_ble_eq_true rfl, Nat.le_of_ble_eq_true rfl⟩ rfl (am_lv_int am_lv_nil) (Nat.le_of_ble_eq_true rfl) dX6_isPerson_4 [.int (if x < 0 then 0 else if 15 < x then 0 else 1)] rfl ?_
  refine am_top 1 (ix_in (n := 16) (by decide) hp9 hx) ?_
  exact am_iret hF hO hret rfl dX6_isPerson_7 ⟨rfl, rfl⟩
set_option maxRecDepth 100000 in
set_option maxHeartbeats 4000000 in
theorem c_isPerson_f {G : am_S} {X : am_H} {x : Int32} (hx : x < 0 ∨ nI 16 ≤ x) : am_D G yX6_isPerson (.code yX6_isPerson cX6_isPerson 1 (some .boolean) :: am_G) { frames := 1, cells := 0, slots := 0, locals := 22 } X [.int x] X (some (.int 0)) := by
  refine am_of (by decide +kernel) (Nat.le_of_ble_eq_true rfl) ?_
  intro C hse hret hname hF hO
  subst hse
  refine am_go hF sgX6_isPerson_0_63447 4 [(0, .int x)] [.int 15, .int 0, .int x] sgX6_isPerson_0_63447d rfl ?_
  refine am_dS hF hO [.int x, .int 0, .int 15] [] (c_isIn) myX6_isIn syX6_isIn lm_RX6_108 rfl 0 0 ⟨Nat.le_of_ble_eq_true rfl, Nat.le_of_ble_eq_true rfl⟩ ⟨Nat.le_of_ble_eq_true rfl, Nat.le_of_ble_eq_true rfl, Nat.le_of_ble_eq_true rfl, Nat.le_of_ble_eq_true rfl⟩ rfl (am_lv_int am_lv_nil) (Nat.le_of_ble_eq_true rfl) dX6_isPerson_4 [.int (if x < 0 then 0 else if 15 < x then 0 else 1)] rfl ?_
  refine am_top 0 (ix_out (n := 16) (by decide) hx) ?_
  exact am_iret hF hO hret rfl dX6_isPerson_7 ⟨rfl, rfl⟩
set_option maxRecDepth 100000 in
set_option maxHeartbeats 4000000 in
theorem c_isList_t {G : am_S} {T S : am_T} {o : Nat → Int64} {n : Nat} (hn : S 9 0 = nI n) (hn10 : n ≤ 10) {x : Int32} {j : Nat} (hj : j < n) (hx : x = nI j) : am_D G yX6_isList (.code yX6_isList cX6_isList 2 (some .boolean) :: am_G) { frames := 1, cells := 0, slots := 0, locals := 22 } (hp T S o) [.ref 465, .int x] (hp T S o) (some (.int 1)) := by
  refine am_of (by decide +kernel) (Nat.le_of_ble_eq_true rfl) ?_
  intro C hse hret hname hF hO
  subst hse
  refine am_go hF sgX6_isList_0_fca3e 3 [(0, .ref 465), (1, .int x)] [.ref 465, .int 0, .int x] sgX6_isList_0_fca3ed rfl ?_
  refine sv_get hF 9 (by decide) rfl lf_RX6_112 (.int (S 9 0)) rfl dX6_isList_3 ?_
  refine am_top (nI n) hn ?_
  refine am_go hF sgX6_isList_6_d80e0 8 [(0, .ref 465), (1, .int x)] [.int ((nI n) - 1), .int 0, .int x] sgX6_isList_6_d80e0d rfl ?_
  refine am_dS hF hO [.int x, .int 0, .int ((nI n) - 1)] [] (c_isIn) myX6_isIn syX6_isIn lm_RX6_108 rfl 0 0 ⟨Nat.le_of_ble_eq_true rfl, Nat.le_of_ble_eq_true rfl⟩ ⟨Nat.le_of_ble_eq_true rfl, Nat.le_of_ble_eq_true rfl, Nat.le_of_ble_eq_true rfl, Nat.le_of_ble_eq_true rfl⟩ rfl (am_lv_ref (hp_m _ _ _) (am_lv_int am_lv_nil)) (Nat.le_of_ble_eq_true rfl) dX6_isList_8 [.int (if x < 0 then 0 else if (nI n) - 1 < x then 0 else 1)] rfl ?_
  refine am_top 1 (ix_in (by omega) hj hx) ?_
  exact am_iret hF hO hret rfl dX6_isList_11 ⟨rfl, rfl⟩
set_option maxRecDepth 100000 in
set_option maxHeartbeats 4000000 in
theorem c_isList_f {G : am_S} {T S : am_T} {o : Nat → Int64} {n : Nat} (hn : S 9 0 = nI n) (hn10 : n ≤ 10) {x : Int32} (hx : x < 0 ∨ nI n ≤ x) : am_D G yX6_isList (.code yX6_isList cX6_isList 2 (some .boolean) :: am_G) { frames := 1, cells := 0, slots := 0, locals := 22 } (hp T S o) [.ref 465, .int x] (hp T S o) (some (.int 0)) := by
  refine am_of (by decide +kernel) (Nat.le_of_ble_eq_true rfl) ?_
  intro C hse hret hname hF hO
  subst hse
  refine am_go hF sgX6_isList_0_fca3e 3 [(0, .ref 465), (1, .int x)] [.ref 465, .int 0, .int x] sgX6_isList_0_fca3ed rfl ?_
  refine sv_get hF 9 (by decide) rfl lf_RX6_112 (.int (S 9 0)) rfl dX6_isList_3 ?_
  refine am_top (nI n) hn ?_
  refine am_go hF sgX6_isList_6_d80e0 8 [(0, .ref 465), (1, .int x)] [.int ((nI n) - 1), .int 0, .int x] sgX6_isList_6_d80e0d rfl ?_
  refine am_dS hF hO [.int x, .int 0, .int ((nI n) - 1)] [] (c_isIn) myX6_isIn syX6_isIn lm_RX6_108 rfl 0 0 ⟨Nat.le_of_ble_eq_true rfl, Nat.le_of_ble_eq_true rfl⟩ ⟨Nat.le_of_ble_eq_true rfl, Nat.le_of_ble_eq_true rfl, Nat.le_of_ble_eq_true rfl, Nat.le_of_ble_eq_true rfl⟩ rfl (am_lv_ref (hp_m _ _ _) (am_lv_int am_lv_nil)) (Nat.le_of_ble_eq_true rfl) dX6_isList_8 [.int (if x < 0 then 0 else if (nI n) - 1 < x then 0 else 1)] rfl ?_
  refine am_top 0 (ix_out (by omega) hx) ?_
  exact am_iret hF hO hret rfl dX6_isList_11 ⟨rfl, rfl⟩
set_option maxRecDepth 100000 in
set_option maxHeartbeats 4000000 in
theorem c_isMail_t {G : am_S} {T S : am_T} {o : Nat → Int64} {m : Nat} (hn : S 17 0 = nI m) (hn10 : m ≤ 80) {x : Int32} {j : Nat} (hj : j < m) (hx : x = nI j) : am_D G yX6_isMail (.code yX6_isMail cX6_isMail 2 (some .boolean) :: am_G) { frames := 1, cells := 0, slots := 0, locals := 22 } (hp T S o) [.ref 465, .int x] (hp T S o) (some (.int 1)) := by
  refine am_of (by decide +kernel) (Nat.le_of_ble_eq_true rfl) ?_
  intro C hse hret hname hF hO
  subst hse
  refine am_go hF sgX6_isMail_0_fca3e 3 [(0, .ref 465), (1, .int x)] [.ref 465, .int 0, .int x] sgX6_isMail_0_fca3ed rfl ?_
  refine sv_get hF 17 (by decide) rfl lf_RX6_115 (.int (S 17 0)) rfl dX6_isMail_3 ?_
  refine am_top (nI m) hn ?_
  refine am_go hF sgX6_isMail_6_d80e0 8 [(0, .ref 465), (1, .int x)] [.int ((nI m) - 1), .int 0, .int x] sgX6_isMail_6_d80e0d rfl ?_
  refine am_dS hF hO [.int x, .int 0, .int ((nI m) - 1)] [] (c_isIn) myX6_isIn syX6_isIn lm_RX6_108 rfl 0 0 ⟨Nat.le_of_ble_eq_true rfl, Nat.le_of_ble_eq_true rfl⟩ ⟨Nat.le_of_ble_eq_true rfl, Nat.le_of_ble_eq_true rfl, Nat.le_of_ble_eq_true rfl, Nat.le_of_ble_eq_true rfl⟩ rfl (am_lv_ref (hp_m _ _ _) (am_lv_int am_lv_nil)) (Nat.le_of_ble_eq_true rfl) dX6_isMail_8 [.int (if x < 0 then 0 else if (nI m) - 1 < x then 0 else 1)] rfl ?_
  refine am_top 1 (ix_in (by omega) hj hx) ?_
  exact am_iret hF hO hret rfl dX6_isMail_11 ⟨rfl, rfl⟩
set_option maxRecDepth 100000 in
set_option maxHeartbeats 4000000 in
theorem c_isMail_f {G : am_S} {T S : am_T} {o : Nat → Int64} {m : Nat} (hn : S 17 0 = nI m) (hn10 : m ≤ 80) {x : Int32} (hx : x < 0 ∨ nI m ≤ x) : am_D G yX6_isMail (.code yX6_isMail cX6_isMail 2 (some .boolean) :: am_G) { frames := 1, cells := 0, slots := 0, locals := 22 } (hp T S o) [.ref 465, .int x] (hp T S o) (some (.int 0)) := by
  refine am_of (by decide +kernel) (Nat.le_of_ble_eq_true rfl) ?_
  intro C hse hret hname hF hO
  subst hse
  refine am_go hF sgX6_isMail_0_fca3e 3 [(0, .ref 465), (1, .int x)] [.ref 465, .int 0, .int x] sgX6_isMail_0_fca3ed rfl ?_
  refine sv_get hF 17 (by decide) rfl lf_RX6_115 (.int (S 17 0)) rfl dX6_isMail_3 ?_
  refine am_top (nI m) hn ?_
  refine am_go hF sgX6_isMail_6_d80e0 8 [(0, .ref 465), (1, .int x)] [.int ((nI m) - 1), .int 0, .int x] sgX6_isMail_6_d80e0d rfl ?_
  refine am_dS hF hO [.int x, .int 0, .int ((nI m) - 1)] [] (c_isIn) myX6_isIn syX6_isIn lm_RX6_108 rfl 0 0 ⟨Nat.le_of_ble_eq_true rfl, Nat.le_of_ble_eq_true rfl⟩ ⟨Nat.le_of_ble_eq_true rfl, Nat.le_of_ble_eq_true rfl, Nat.le_of_ble_eq_true rfl, Nat.le_of_ble_eq_true rfl⟩ rfl (am_lv_ref (hp_m _ _ _) (am_lv_int am_lv_nil)) (Nat.le_of_ble_eq_true rfl) dX6_isMail_8 [.int (if x < 0 then 0 else if (nI m) - 1 < x then 0 else 1)] rfl ?_
  refine am_top 0 (ix_out (by omega) hx) ?_
  exact am_iret hF hO hret rfl dX6_isMail_11 ⟨rfl, rfl⟩
set_option maxRecDepth 100000 in
set_option maxHeartbeats 4000000 in
theorem c_membersOf {G : am_S} {T S : am_T} {o : Nat → Int64} {l : Nat} (hl : l < 10) : am_D G yX6_membersOf (.code yX6_membersOf cX6_membersOf 4 (some .int) :: am_G) { frames := 0, cells := 0, slots := 0, locals := 0 } (hp T S o) [.ref 465, .int (nI l)] (hp T S o) (some (.int (rCnt S l))) := by
  refine am_of (by decide +kernel) (Nat.le_of_ble_eq_true rfl) ?_
  intro C hse hret hname hF hO
  subst hse
  refine am_go hF sgX6_membersOf_0_24699 4 [(3, .int 0), (2, .int 0), (0, .ref 465), (1, .int (nI l))] [] sgX6_membersOf_0_24699d rfl ?_
  refine am_drop [2, 3, 1, 0] [(0, .ref 465), (1, .int (nI l)), (2, .int 0), (3, .int 0)] rfl ?_
  have lp4 : ∀ (d j : Nat) (a : Int32), j + d = 16 → a = itN (fun k a => a + (if S 16 (16 * l + k) = -1 then 0 else 1)) 0 j → am_W C (hp T S o) 0 0 4 [(0, .ref 465), (1, .int (nI l)), (2, .int a), (3, .int (nI j))] [] := by
    intro d
    induction d with
    | zero =>
      intro j a hj ha
      have e9j : j = 16 := by omega
      refine am_go hF sgX6_membersOf_4_b88ad 7 [(0, .ref 465), (1, .int (nI l)), (2, .int a), (3, .int (nI j))] [.int 16, .int (nI j)] sgX6_membersOf_4_b88add rfl ?_
      refine am_icmpge hF 39 dX6_membersOf_7 (by decide) (fun _ => ?_) (fun h9 => False.elim (absurd (nc_ge (show 16 ≤ j by omega) (by omega) (by omega) rfl rfl) h9))
      refine am_go hF sgX6_membersOf_39_f8a59 40 [(0, .ref 465), (1, .int (nI l)), (2, .int a), (3, .int (nI j))] [.int a] sgX6_membersOf_39_f8a59d rfl ?_
      exact am_iret hF hO hret rfl dX6_membersOf_40 ⟨rfl, (by first | (rw [ha, e9j]; done) | (rw [ha, e9j]; rfl))⟩
    | succ d ih4 =>
      intro j a hj ha
      have l9j : j < 16 := by omega
      refine am_go hF sgX6_membersOf_4_b88ad 7 [(0, .ref 465), (1, .int (nI l)), (2, .int a), (3, .int (nI j))] [.int 16, .int (nI j)] sgX6_membersOf_4_b88add rfl ?_
      refine am_icmpge hF 39 dX6_membersOf_7 (by decide) (fun h9 => False.elim (nc_lt_f (show j < 16 by omega) (by omega) (by omega) rfl rfl h9)) (fun _ => ?_)
      refine am_go hF sgX6_membersOf_10_14491 12 [(0, .ref 465), (1, .int (nI l)), (2, .int a), (3, .int (nI j))] [.ref 465, .int a] sgX6_membersOf_10_14491d rfl ?_
      refine sv_get hF 16 (by decide) rfl lf_RX6_47 (.ref 516) rfl dX6_membersOf_12 ?_
      refine am_go hF sgX6_membersOf_15_0ce03 21 [(0, .ref 465), (1, .int (nI l)), (2, .int a), (3, .int (nI j))] [.int ((16 * (nI l)) + (nI j)), .ref 516, .int a] sgX6_membersOf_15_0ce03d rfl ?_
      refine sv_iald hF 16 (by decide) ⟨rfl, rfl, by decide⟩ ((16 * l) + j) (am_ad (am_mu rfl rfl) rfl) (show (16 * l) + j < 160 by omega) dX6_membersOf_21 ?_
      refine am_go hF sgX6_membersOf_22_5ff24 23 [(0, .ref 465), (1, .int (nI l)), (2, .int a), (3, .int (nI j))] [.int (-1), .int (S 16 ((16 * l) + j)), .int a] sgX6_membersOf_22_5ff24d rfl ?_
      refine am_icmpne hF 30 dX6_membersOf_23 (by decide) (fun c3 => ?_) (fun c3 => ?_)
      · skip
        refine am_go hF sgX6_membersOf_30_71cb3 4 [(3, .int ((nI j) + 1)), (2, .int (a + 1)), (0, .ref 465), (1, .int (nI l))] [] sgX6_membersOf_30_71cb3d rfl ?_
        refine am_drop [2, 3, 1, 0] [(0, .ref 465), (1, .int (nI l)), (2, .int (a + 1)), (3, .int ((nI j) + 1))] rfl ?_
        refine am_eqL [(0, .ref 465), (1, .int (nI l)), (2, .int (a + 1)), (3, .int (nI (j + 1)))] (by rw [nI_1]) ?_
        exact ih4 (j + 1) (a + 1) (by omega) (by show _ = (itN (fun k a => a + (if S 16 (16 * l + k) = -1 then 0 else 1)) 0 j) + (if S 16 (16 * l + j) = -1 then 0 else 1); rw [← ha]; simp only [c3, ↓reduceIte])
      · skip
        refine am_go hF sgX6_membersOf_26_32ba1 4 [(3, .int ((nI j) + 1)), (2, .int (a + 0)), (0, .ref 465), (1, .int (nI l))] [] sgX6_membersOf_26_32ba1d rfl ?_
        refine am_drop [2, 3, 1, 0] [(0, .ref 465), (1, .int (nI l)), (2, .int (a + 0)), (3, .int ((nI j) + 1))] rfl ?_
        refine am_eqL [(0, .ref 465), (1, .int (nI l)), (2, .int (a + 0)), (3, .int (nI (j + 1)))] (by rw [nI_1]) ?_
        exact ih4 (j + 1) (a + 0) (by omega) (by show _ = (itN (fun k a => a + (if S 16 (16 * l + k) = -1 then 0 else 1)) 0 j) + (if S 16 (16 * l + j) = -1 then 0 else 1); rw [← ha]; simp only [(eq_true c3), ↓reduceIte])
  exact lp4 16 0 0 (by omega) rfl
set_option maxRecDepth 100000 in
set_option maxHeartbeats 4000000 in
theorem c_memberBy {G : am_S} {T S : am_T} {o : Nat → Int64} {n : Nat} (hn : S 9 0 = nI n) (hn10 : n ≤ 10) {l p : Nat} (hl : l < n) (hp9 : p < 16) : am_D G yX6_memberBy (.code yX6_memberBy cX6_memberBy 9 (some .int) :: am_G) { frames := 1, cells := 0, slots := 0, locals := 24 } (hp T S o) [.ref 465, .int (nI l), .int (nI p), .int (-1)] (hp T S o) (some (.int (rMB S n l p (-1)))) := by
  refine am_of (by decide +kernel) (Nat.le_of_ble_eq_true rfl) ?_
  intro C hse hret hname hF hO
  subst hse
  refine am_go hF sgX6_memberBy_0_8bcf7 2 [(0, .ref 465), (1, .int (nI l)), (2, .int (nI p)), (3, .int (-1))] [.int (nI l), .ref 465] sgX6_memberBy_0_8bcf7d rfl ?_
  refine am_dV hF hO [.int (nI l)] [] (c_within (n := n) hn (by omega) (by omega)) myX6_within vyX6_within lm_RX6_129 (hp_m _ _ _) rfl rfl 0 0 ⟨Nat.le_of_ble_eq_true rfl, Nat.le_of_ble_eq_true rfl⟩ ⟨Nat.le_of_ble_eq_true rfl, Nat.le_of_ble_eq_true rfl, Nat.le_of_ble_eq_true rfl, Nat.le_of_ble_eq_true rfl⟩ rfl (am_lv_ref (hp_m _ _ _) (am_lv_int (am_lv_int (am_lv_int am_lv_nil)))) (Nat.le_of_ble_eq_true rfl) dX6_memberBy_2 [.int (rWin S n l)] rfl ?_
  refine am_go hF sgX6_memberBy_5_b6147 11 [(5, .int (-1)), (4, .int (rWin S n l)), (0, .ref 465), (1, .int (nI l)), (2, .int (nI p)), (3, .int (-1))] [.ref 465] sgX6_memberBy_5_b6147d rfl ?_
  refine sv_get hF 9 (by decide) rfl lf_RX6_112 (.int (S 9 0)) rfl dX6_memberBy_11 ?_
  refine am_top (nI n) hn ?_
  refine am_go hF sgX6_memberBy_14_0e5e8 18 [(6, .int ((nI n) - 1)), (5, .int (-1)), (4, .int (rWin S n l)), (0, .ref 465), (1, .int (nI l)), (2, .int (nI p)), (3, .int (-1))] [] sgX6_memberBy_14_0e5e8d rfl ?_
  refine am_drop [3, 4, 5, 6, 2, 1, 0] [(0, .ref 465), (1, .int (nI l)), (2, .int (nI p)), (3, .int (-1)), (4, .int (rWin S n l)), (5, .int (-1)), (6, .int ((nI n) - 1))] rfl ?_
  refine am_eqL [(0, .ref 465), (1, .int (nI l)), (2, .int (nI p)), (3, .int (-1)), (4, .int (rWin S n l)), (5, .int (-1)), (6, .int (nI n - 1))] rfl ?_
  have lp18 : ∀ (r : Nat) (f : Int32), r ≤ n → itD (rmb S (rWin S n l) p (-1)) f r = itD (rmb S (rWin S n l) p (-1)) (-1) n → am_W C (hp T S o) 0 0 18 [(0, .ref 465), (1, .int (nI l)), (2, .int (nI p)), (3, .int (-1)), (4, .int (rWin S n l)), (5, .int f), (6, .int (nI r - 1))] [] := by
    intro r
    induction r with
    | zero =>
      intro f hr hf
      refine am_eqL [(0, .ref 465), (1, .int (nI l)), (2, .int (nI p)), (3, .int (-1)), (4, .int (rWin S n l)), (5, .int f), (6, .int (-1))] rfl ?_
      refine am_go hF sgX6_memberBy_18_4d8be 20 [(0, .ref 465), (1, .int (nI l)), (2, .int (nI p)), (3, .int (-1)), (4, .int (rWin S n l)), (5, .int f), (6, .int (-1))] [.int (-1)] sgX6_memberBy_18_4d8bed rfl ?_
      refine am_iflt hF 92 dX6_memberBy_20 (by decide) (fun _ => ?_) (fun h9 => False.elim ((by revert h9; decide)))
      refine am_go hF sgX6_memberBy_92_9df92 94 [(0, .ref 465), (1, .int (nI l)), (2, .int (nI p)), (3, .int (-1)), (4, .int (rWin S n l)), (5, .int f), (6, .int (-1))] [.int f] sgX6_memberBy_92_9df92d rfl ?_
      exact am_iret hF hO hret rfl dX6_memberBy_94 ⟨rfl, by rw [show f = rMB S n l p (-1) from hf]⟩
    | succ r ih18 =>
      intro f hr hf
      refine am_eqL [(0, .ref 465), (1, .int (nI l)), (2, .int (nI p)), (3, .int (-1)), (4, .int (rWin S n l)), (5, .int f), (6, .int (nI r))] (by rw [nI_pred]) ?_
      refine am_go hF sgX6_memberBy_18_4d8be 20 [(0, .ref 465), (1, .int (nI l)), (2, .int (nI p)), (3, .int (-1)), (4, .int (rWin S n l)), (5, .int f), (6, .int (nI r))] [.int (nI r)] sgX6_memberBy_18_4d8bed rfl ?_
      refine am_iflt hF 92 dX6_memberBy_20 (by decide) (fun h9 => False.elim (nc_ge_f (show 0 ≤ r by omega) (by omega) (by omega) rfl rfl h9)) (fun _ => ?_)
      refine am_go hF sgX6_memberBy_23_34db8 24 [(0, .ref 465), (1, .int (nI l)), (2, .int (nI p)), (3, .int (-1)), (4, .int (rWin S n l)), (5, .int f), (6, .int (nI r))] [.ref 465] sgX6_memberBy_23_34db8d rfl ?_
      refine sv_get hF 16 (by decide) rfl lf_RX6_47 (.ref 516) rfl dX6_memberBy_24 ?_
      refine am_go hF sgX6_memberBy_27_d2658 34 [(0, .ref 465), (1, .int (nI l)), (2, .int (nI p)), (3, .int (-1)), (4, .int (rWin S n l)), (5, .int f), (6, .int (nI r))] [.int ((16 * (nI r)) + (nI p)), .ref 516] sgX6_memberBy_27_d2658d rfl ?_
      refine sv_iald hF 16 (by decide) ⟨rfl, rfl, by decide⟩ ((16 * r) + p) (am_ad (am_mu rfl rfl) rfl) (show (16 * r) + p < 160 by omega) dX6_memberBy_34 ?_
      refine am_go hF sgX6_memberBy_35_3651f 45 [(7, .int (S 16 ((16 * r) + p))), (0, .ref 465), (1, .int (nI l)), (2, .int (nI p)), (3, .int (-1)), (4, .int (rWin S n l)), (5, .int f), (6, .int (nI r))] [.int 1, .int (((rWin S n l) >>> ((nI r) &&& 31)) &&& 1)] sgX6_memberBy_35_3651fd rfl ?_
      refine am_icmpne hF 69 dX6_memberBy_45 (by decide) (fun c3 => ?_) (fun c3 => ?_)
      · skip
        refine am_go hF sgX6_memberBy_69_40c11 74 [(8, .int 0), (7, .int (S 16 ((16 * r) + p))), (0, .ref 465), (1, .int (nI l)), (2, .int (nI p)), (3, .int (-1)), (4, .int (rWin S n l)), (5, .int f), (6, .int (nI r))] [.int 0] sgX6_memberBy_69_40c11d rfl ?_
        refine am_ifeq hF 82 dX6_memberBy_74 (by decide) (fun _ => ?_) (fun h9 => False.elim ((by revert h9; decide)))
        refine am_go hF sgX6_memberBy_82_660ba 18 [(6, .int ((nI r) + (-1))), (5, .int f), (8, .int 0), (7, .int (S 16 ((16 * r) + p))), (0, .ref 465), (1, .int (nI l)), (2, .int (nI p)), (3, .int (-1)), (4, .int (rWin S n l))] [] sgX6_memberBy_82_660bad rfl ?_
        refine am_drop [4, 5, 6, 7, 8, 1, 0] [(0, .ref 465), (1, .int (nI l)), (2, .int (nI p)), (3, .int (-1)), (4, .int (rWin S n l)), (5, .int f), (6, .int ((nI r) + (-1)))] rfl ?_
        refine am_eqL [(0, .ref 465), (1, .int (nI l)), (2, .int (nI p)), (3, .int (-1)), (4, .int (rWin S n l)), (5, .int f), (6, .int (nI r - 1))] (by rw [am_pm1]) ?_
        exact ih18 f (by omega) (by rw [← hf]; show itD (rmb S (rWin S n l) p (-1)) _ r = itD (rmb S (rWin S n l) p (-1)) (rmb S (rWin S n l) p (-1) r f) r; congr 1; simp only [rmb, c3, ↓reduceIte, not_false_eq_true, not_true_eq_false, and_self, and_true, true_and, and_false, false_and, true_or, or_true, or_false, false_or])
      · skip
        refine am_go hF sgX6_memberBy_48_06b1a 51 [(7, .int (S 16 ((16 * r) + p))), (0, .ref 465), (1, .int (nI l)), (2, .int (nI p)), (3, .int (-1)), (4, .int (rWin S n l)), (5, .int f), (6, .int (nI r))] [.int (-1), .int (S 16 ((16 * r) + p))] sgX6_memberBy_48_06b1ad rfl ?_
        refine am_icmpeq hF 69 dX6_memberBy_51 (by decide) (fun c5 => ?_) (fun c5 => ?_)
        · skip
          refine am_go hF sgX6_memberBy_69_40c11 74 [(8, .int 0), (7, .int (S 16 ((16 * r) + p))), (0, .ref 465), (1, .int (nI l)), (2, .int (nI p)), (3, .int (-1)), (4, .int (rWin S n l)), (5, .int f), (6, .int (nI r))] [.int 0] sgX6_memberBy_69_40c11d rfl ?_
          refine am_ifeq hF 82 dX6_memberBy_74 (by decide) (fun _ => ?_) (fun h9 => False.elim ((by revert h9; decide)))
          refine am_go hF sgX6_memberBy_82_660ba 18 [(6, .int ((nI r) + (-1))), (5, .int f), (8, .int 0), (7, .int (S 16 ((16 * r) + p))), (0, .ref 465), (1, .int (nI l)), (2, .int (nI p)), (3, .int (-1)), (4, .int (rWin S n l))] [] sgX6_memberBy_82_660bad rfl ?_
          refine am_drop [4, 5, 6, 7, 8, 1, 0] [(0, .ref 465), (1, .int (nI l)), (2, .int (nI p)), (3, .int (-1)), (4, .int (rWin S n l)), (5, .int f), (6, .int ((nI r) + (-1)))] rfl ?_
          refine am_eqL [(0, .ref 465), (1, .int (nI l)), (2, .int (nI p)), (3, .int (-1)), (4, .int (rWin S n l)), (5, .int f), (6, .int (nI r - 1))] (by rw [am_pm1]) ?_
          exact ih18 f (by omega) (by rw [← hf]; show itD (rmb S (rWin S n l) p (-1)) _ r = itD (rmb S (rWin S n l) p (-1)) (rmb S (rWin S n l) p (-1) r f) r; congr 1; simp only [rmb, (eq_true c3), (eq_true c5), ↓reduceIte, not_false_eq_true, not_true_eq_false, and_self, and_true, true_and, and_false, false_and, true_or, or_true, or_false, false_or])
        · skip
          refine am_go hF sgX6_memberBy_54_8324a 56 [(7, .int (S 16 ((16 * r) + p))), (0, .ref 465), (1, .int (nI l)), (2, .int (nI p)), (3, .int (-1)), (4, .int (rWin S n l)), (5, .int f), (6, .int (nI r))] [.int (-1), .int (-1)] sgX6_memberBy_54_8324ad rfl ?_
          refine am_icmpeq hF 65 dX6_memberBy_56 (by decide) (fun _ => ?_) (fun h9 => False.elim ((by revert h9; decide)))
          refine am_go hF sgX6_memberBy_65_ef18d 74 [(8, .int 1), (7, .int (S 16 ((16 * r) + p))), (0, .ref 465), (1, .int (nI l)), (2, .int (nI p)), (3, .int (-1)), (4, .int (rWin S n l)), (5, .int f), (6, .int (nI r))] [.int 1] sgX6_memberBy_65_ef18dd rfl ?_
          refine am_ifeq hF 82 dX6_memberBy_74 (by decide) (fun h9 => False.elim ((by revert h9; decide))) (fun _ => ?_)
          refine am_go hF sgX6_memberBy_77_74c9a 18 [(6, .int ((nI r) + (-1))), (5, .int (nI r)), (8, .int 1), (7, .int (S 16 ((16 * r) + p))), (0, .ref 465), (1, .int (nI l)), (2, .int (nI p)), (3, .int (-1)), (4, .int (rWin S n l))] [] sgX6_memberBy_77_74c9ad rfl ?_
          refine am_drop [4, 5, 6, 7, 8, 1, 0] [(0, .ref 465), (1, .int (nI l)), (2, .int (nI p)), (3, .int (-1)), (4, .int (rWin S n l)), (5, .int (nI r)), (6, .int ((nI r) + (-1)))] rfl ?_
          refine am_eqL [(0, .ref 465), (1, .int (nI l)), (2, .int (nI p)), (3, .int (-1)), (4, .int (rWin S n l)), (5, .int (nI r)), (6, .int (nI r - 1))] (by rw [am_pm1]) ?_
          exact ih18 (nI r) (by omega) (by rw [← hf]; show itD (rmb S (rWin S n l) p (-1)) _ r = itD (rmb S (rWin S n l) p (-1)) (rmb S (rWin S n l) p (-1) r f) r; congr 1; simp only [rmb, (eq_true c3), c5, ↓reduceIte, not_false_eq_true, not_true_eq_false, and_self, and_true, true_and, and_false, false_and, true_or, or_true, or_false, false_or])
  exact lp18 n (-1) (Nat.le_refl _) rfl
set_option maxRecDepth 100000 in
set_option maxHeartbeats 4000000 in
theorem c_memberBy0 {G : am_S} {T S : am_T} {o : Nat → Int64} {n : Nat} (hn : S 9 0 = nI n) (hn10 : n ≤ 10) {l p : Nat} (hl : l < n) (hp9 : p < 16) : am_D G yX6_memberBy (.code yX6_memberBy cX6_memberBy 9 (some .int) :: am_G) { frames := 1, cells := 0, slots := 0, locals := 24 } (hp T S o) [.ref 465, .int (nI l), .int (nI p), .int 0] (hp T S o) (some (.int (rMB S n l p (0)))) := by
  refine am_of (by decide +kernel) (Nat.le_of_ble_eq_true rfl) ?_
  intro C hse hret hname hF hO
  subst hse
  refine am_go hF sgX6_memberBy_0_8bcf7 2 [(0, .ref 465), (1, .int (nI l)), (2, .int (nI p)), (3, .int 0)] [.int (nI l), .ref 465] sgX6_memberBy_0_8bcf7d rfl ?_
  refine am_dV hF hO [.int (nI l)] [] (c_within (n := n) hn (by omega) (by omega)) myX6_within vyX6_within lm_RX6_129 (hp_m _ _ _) rfl rfl 0 0 ⟨Nat.le_of_ble_eq_true rfl, Nat.le_of_ble_eq_true rfl⟩ ⟨Nat.le_of_ble_eq_true rfl, Nat.le_of_ble_eq_true rfl, Nat.le_of_ble_eq_true rfl, Nat.le_of_ble_eq_true rfl⟩ rfl (am_lv_ref (hp_m _ _ _) (am_lv_int (am_lv_int (am_lv_int am_lv_nil)))) (Nat.le_of_ble_eq_true rfl) dX6_memberBy_2 [.int (rWin S n l)] rfl ?_
  refine am_go hF sgX6_memberBy_5_b6147 11 [(5, .int (-1)), (4, .int (rWin S n l)), (0, .ref 465), (1, .int (nI l)), (2, .int (nI p)), (3, .int 0)] [.ref 465] sgX6_memberBy_5_b6147d rfl ?_
  refine sv_get hF 9 (by decide) rfl lf_RX6_112 (.int (S 9 0)) rfl dX6_memberBy_11 ?_
  refine am_top (nI n) hn ?_
  refine am_go hF sgX6_memberBy_14_0e5e8 18 [(6, .int ((nI n) - 1)), (5, .int (-1)), (4, .int (rWin S n l)), (0, .ref 465), (1, .int (nI l)), (2, .int (nI p)), (3, .int 0)] [] sgX6_memberBy_14_0e5e8d rfl ?_
  refine am_drop [3, 4, 5, 6, 2, 1, 0] [(0, .ref 465), (1, .int (nI l)), (2, .int (nI p)), (3, .int 0), (4, .int (rWin S n l)), (5, .int (-1)), (6, .int ((nI n) - 1))] rfl ?_
  refine am_eqL [(0, .ref 465), (1, .int (nI l)), (2, .int (nI p)), (3, .int 0), (4, .int (rWin S n l)), (5, .int (-1)), (6, .int (nI n - 1))] rfl ?_
  have lp18 : ∀ (r : Nat) (f : Int32), r ≤ n → itD (rmb S (rWin S n l) p (0)) f r = itD (rmb S (rWin S n l) p (0)) (-1) n → am_W C (hp T S o) 0 0 18 [(0, .ref 465), (1, .int (nI l)), (2, .int (nI p)), (3, .int 0), (4, .int (rWin S n l)), (5, .int f), (6, .int (nI r - 1))] [] := by
    intro r
    induction r with
    | zero =>
      intro f hr hf
      refine am_eqL [(0, .ref 465), (1, .int (nI l)), (2, .int (nI p)), (3, .int 0), (4, .int (rWin S n l)), (5, .int f), (6, .int (-1))] rfl ?_
      refine am_go hF sgX6_memberBy_18_4d8be 20 [(0, .ref 465), (1, .int (nI l)), (2, .int (nI p)), (3, .int 0), (4, .int (rWin S n l)), (5, .int f), (6, .int (-1))] [.int (-1)] sgX6_memberBy_18_4d8bed rfl ?_
      refine am_iflt hF 92 dX6_memberBy_20 (by decide) (fun _ => ?_) (fun h9 => False.elim ((by revert h9; decide)))
      refine am_go hF sgX6_memberBy_92_9df92 94 [(0, .ref 465), (1, .int (nI l)), (2, .int (nI p)), (3, .int 0), (4, .int (rWin S n l)), (5, .int f), (6, .int (-1))] [.int f] sgX6_memberBy_92_9df92d rfl ?_
      exact am_iret hF hO hret rfl dX6_memberBy_94 ⟨rfl, by rw [show f = rMB S n l p (0) from hf]⟩
    | succ r ih18 =>
      intro f hr hf
      refine am_eqL [(0, .ref 465), (1, .int (nI l)), (2, .int (nI p)), (3, .int 0), (4, .int (rWin S n l)), (5, .int f), (6, .int (nI r))] (by rw [nI_pred]) ?_
      refine am_go hF sgX6_memberBy_18_4d8be 20 [(0, .ref 465), (1, .int (nI l)), (2, .int (nI p)), (3, .int 0), (4, .int (rWin S n l)), (5, .int f), (6, .int (nI r))] [.int (nI r)] sgX6_memberBy_18_4d8bed rfl ?_
      refine am_iflt hF 92 dX6_memberBy_20 (by decide) (fun h9 => False.elim (nc_ge_f (show 0 ≤ r by omega) (by omega) (by omega) rfl rfl h9)) (fun _ => ?_)
      refine am_go hF sgX6_memberBy_23_34db8 24 [(0, .ref 465), (1, .int (nI l)), (2, .int (nI p)), (3, .int 0), (4, .int (rWin S n l)), (5, .int f), (6, .int (nI r))] [.ref 465] sgX6_memberBy_23_34db8d rfl ?_
      refine sv_get hF 16 (by decide) rfl lf_RX6_47 (.ref 516) rfl dX6_memberBy_24 ?_
      refine am_go hF sgX6_memberBy_27_d2658 34 [(0, .ref 465), (1, .int (nI l)), (2, .int (nI p)), (3, .int 0), (4, .int (rWin S n l)), (5, .int f), (6, .int (nI r))] [.int ((16 * (nI r)) + (nI p)), .ref 516] sgX6_memberBy_27_d2658d rfl ?_
      refine sv_iald hF 16 (by decide) ⟨rfl, rfl, by decide⟩ ((16 * r) + p) (am_ad (am_mu rfl rfl) rfl) (show (16 * r) + p < 160 by omega) dX6_memberBy_34 ?_
      refine am_go hF sgX6_memberBy_35_3651f 45 [(7, .int (S 16 ((16 * r) + p))), (0, .ref 465), (1, .int (nI l)), (2, .int (nI p)), (3, .int 0), (4, .int (rWin S n l)), (5, .int f), (6, .int (nI r))] [.int 1, .int (((rWin S n l) >>> ((nI r) &&& 31)) &&& 1)] sgX6_memberBy_35_3651fd rfl ?_
      refine am_icmpne hF 69 dX6_memberBy_45 (by decide) (fun c3 => ?_) (fun c3 => ?_)
      · skip
        refine am_go hF sgX6_memberBy_69_40c11 74 [(8, .int 0), (7, .int (S 16 ((16 * r) + p))), (0, .ref 465), (1, .int (nI l)), (2, .int (nI p)), (3, .int 0), (4, .int (rWin S n l)), (5, .int f), (6, .int (nI r))] [.int 0] sgX6_memberBy_69_40c11d rfl ?_
        refine am_ifeq hF 82 dX6_memberBy_74 (by decide) (fun _ => ?_) (fun h9 => False.elim ((by revert h9; decide)))
        refine am_go hF sgX6_memberBy_82_660ba 18 [(6, .int ((nI r) + (-1))), (5, .int f), (8, .int 0), (7, .int (S 16 ((16 * r) + p))), (0, .ref 465), (1, .int (nI l)), (2, .int (nI p)), (3, .int 0), (4, .int (rWin S n l))] [] sgX6_memberBy_82_660bad rfl ?_
        refine am_drop [4, 5, 6, 7, 8, 1, 0] [(0, .ref 465), (1, .int (nI l)), (2, .int (nI p)), (3, .int 0), (4, .int (rWin S n l)), (5, .int f), (6, .int ((nI r) + (-1)))] rfl ?_
        refine am_eqL [(0, .ref 465), (1, .int (nI l)), (2, .int (nI p)), (3, .int 0), (4, .int (rWin S n l)), (5, .int f), (6, .int (nI r - 1))] (by rw [am_pm1]) ?_
        exact ih18 f (by omega) (by rw [← hf]; show itD (rmb S (rWin S n l) p (0)) _ r = itD (rmb S (rWin S n l) p (0)) (rmb S (rWin S n l) p (0) r f) r; congr 1; simp only [rmb, c3, ↓reduceIte, not_false_eq_true, not_true_eq_false, and_self, and_true, true_and, and_false, false_and, true_or, or_true, or_false, false_or, (by decide : ¬ (0 : Int32) = -1)])
      · skip
        refine am_go hF sgX6_memberBy_48_06b1a 51 [(7, .int (S 16 ((16 * r) + p))), (0, .ref 465), (1, .int (nI l)), (2, .int (nI p)), (3, .int 0), (4, .int (rWin S n l)), (5, .int f), (6, .int (nI r))] [.int (-1), .int (S 16 ((16 * r) + p))] sgX6_memberBy_48_06b1ad rfl ?_
        refine am_icmpeq hF 69 dX6_memberBy_51 (by decide) (fun c5 => ?_) (fun c5 => ?_)
        · skip
          refine am_go hF sgX6_memberBy_69_40c11 74 [(8, .int 0), (7, .int (S 16 ((16 * r) + p))), (0, .ref 465), (1, .int (nI l)), (2, .int (nI p)), (3, .int 0), (4, .int (rWin S n l)), (5, .int f), (6, .int (nI r))] [.int 0] sgX6_memberBy_69_40c11d rfl ?_
          refine am_ifeq hF 82 dX6_memberBy_74 (by decide) (fun _ => ?_) (fun h9 => False.elim ((by revert h9; decide)))
          refine am_go hF sgX6_memberBy_82_660ba 18 [(6, .int ((nI r) + (-1))), (5, .int f), (8, .int 0), (7, .int (S 16 ((16 * r) + p))), (0, .ref 465), (1, .int (nI l)), (2, .int (nI p)), (3, .int 0), (4, .int (rWin S n l))] [] sgX6_memberBy_82_660bad rfl ?_
          refine am_drop [4, 5, 6, 7, 8, 1, 0] [(0, .ref 465), (1, .int (nI l)), (2, .int (nI p)), (3, .int 0), (4, .int (rWin S n l)), (5, .int f), (6, .int ((nI r) + (-1)))] rfl ?_
          refine am_eqL [(0, .ref 465), (1, .int (nI l)), (2, .int (nI p)), (3, .int 0), (4, .int (rWin S n l)), (5, .int f), (6, .int (nI r - 1))] (by rw [am_pm1]) ?_
          exact ih18 f (by omega) (by rw [← hf]; show itD (rmb S (rWin S n l) p (0)) _ r = itD (rmb S (rWin S n l) p (0)) (rmb S (rWin S n l) p (0) r f) r; congr 1; simp only [rmb, (eq_true c3), (eq_true c5), ↓reduceIte, not_false_eq_true, not_true_eq_false, and_self, and_true, true_and, and_false, false_and, true_or, or_true, or_false, false_or, (by decide : ¬ (0 : Int32) = -1)])
        · skip
          refine am_go hF sgX6_memberBy_54_8324a 56 [(7, .int (S 16 ((16 * r) + p))), (0, .ref 465), (1, .int (nI l)), (2, .int (nI p)), (3, .int 0), (4, .int (rWin S n l)), (5, .int f), (6, .int (nI r))] [.int (-1), .int 0] sgX6_memberBy_54_8324ad rfl ?_
          refine am_icmpeq hF 65 dX6_memberBy_56 (by decide) (fun h9 => False.elim ((by revert h9; decide))) (fun _ => ?_)
          refine am_go hF sgX6_memberBy_59_4501e 62 [(7, .int (S 16 ((16 * r) + p))), (0, .ref 465), (1, .int (nI l)), (2, .int (nI p)), (3, .int 0), (4, .int (rWin S n l)), (5, .int f), (6, .int (nI r))] [.int 0, .int (S 16 ((16 * r) + p))] sgX6_memberBy_59_4501ed rfl ?_
          refine am_icmpne hF 69 dX6_memberBy_62 (by decide) (fun c8 => ?_) (fun c8 => ?_)
          · skip
            refine am_go hF sgX6_memberBy_69_40c11 74 [(8, .int 0), (7, .int (S 16 ((16 * r) + p))), (0, .ref 465), (1, .int (nI l)), (2, .int (nI p)), (3, .int 0), (4, .int (rWin S n l)), (5, .int f), (6, .int (nI r))] [.int 0] sgX6_memberBy_69_40c11d rfl ?_
            refine am_ifeq hF 82 dX6_memberBy_74 (by decide) (fun _ => ?_) (fun h9 => False.elim ((by revert h9; decide)))
            refine am_go hF sgX6_memberBy_82_660ba 18 [(6, .int ((nI r) + (-1))), (5, .int f), (8, .int 0), (7, .int (S 16 ((16 * r) + p))), (0, .ref 465), (1, .int (nI l)), (2, .int (nI p)), (3, .int 0), (4, .int (rWin S n l))] [] sgX6_memberBy_82_660bad rfl ?_
            refine am_drop [4, 5, 6, 7, 8, 1, 0] [(0, .ref 465), (1, .int (nI l)), (2, .int (nI p)), (3, .int 0), (4, .int (rWin S n l)), (5, .int f), (6, .int ((nI r) + (-1)))] rfl ?_
            refine am_eqL [(0, .ref 465), (1, .int (nI l)), (2, .int (nI p)), (3, .int 0), (4, .int (rWin S n l)), (5, .int f), (6, .int (nI r - 1))] (by rw [am_pm1]) ?_
            exact ih18 f (by omega) (by rw [← hf]; show itD (rmb S (rWin S n l) p (0)) _ r = itD (rmb S (rWin S n l) p (0)) (rmb S (rWin S n l) p (0) r f) r; congr 1; simp only [rmb, (eq_true c3), c5, c8, ↓reduceIte, not_false_eq_true, not_true_eq_false, and_self, and_true, true_and, and_false, false_and, true_or, or_true, or_false, false_or, (by decide : ¬ (0 : Int32) = -1)])
          · skip
            refine am_go hF sgX6_memberBy_65_ef18d 74 [(8, .int 1), (7, .int (S 16 ((16 * r) + p))), (0, .ref 465), (1, .int (nI l)), (2, .int (nI p)), (3, .int 0), (4, .int (rWin S n l)), (5, .int f), (6, .int (nI r))] [.int 1] sgX6_memberBy_65_ef18dd rfl ?_
            refine am_ifeq hF 82 dX6_memberBy_74 (by decide) (fun h9 => False.elim ((by revert h9; decide))) (fun _ => ?_)
            refine am_go hF sgX6_memberBy_77_74c9a 18 [(6, .int ((nI r) + (-1))), (5, .int (nI r)), (8, .int 1), (7, .int (S 16 ((16 * r) + p))), (0, .ref 465), (1, .int (nI l)), (2, .int (nI p)), (3, .int 0), (4, .int (rWin S n l))] [] sgX6_memberBy_77_74c9ad rfl ?_
            refine am_drop [4, 5, 6, 7, 8, 1, 0] [(0, .ref 465), (1, .int (nI l)), (2, .int (nI p)), (3, .int 0), (4, .int (rWin S n l)), (5, .int (nI r)), (6, .int ((nI r) + (-1)))] rfl ?_
            refine am_eqL [(0, .ref 465), (1, .int (nI l)), (2, .int (nI p)), (3, .int 0), (4, .int (rWin S n l)), (5, .int (nI r)), (6, .int (nI r - 1))] (by rw [am_pm1]) ?_
            exact ih18 (nI r) (by omega) (by rw [← hf]; show itD (rmb S (rWin S n l) p (0)) _ r = itD (rmb S (rWin S n l) p (0)) (rmb S (rWin S n l) p (0) r f) r; congr 1; simp only [rmb, (eq_true c3), c5, (eq_true c8), ↓reduceIte, not_false_eq_true, not_true_eq_false, and_self, and_true, true_and, and_false, false_and, true_or, or_true, or_false, false_or, (by decide : ¬ (0 : Int32) = -1)])
  exact lp18 n (-1) (Nat.le_refl _) rfl
set_option maxRecDepth 100000 in
set_option maxHeartbeats 4000000 in
theorem c_reachesOf {G : am_S} {T S : am_T} {o : Nat → Int64} {n : Nat} (hn : S 9 0 = nI n) (hn10 : n ≤ 10) {l : Nat} (hl : l < n) : am_D G yX6_reachesOf (.code yX6_reachesOf cX6_reachesOf 4 (some .int) :: am_G) { frames := 2, cells := 0, slots := 0, locals := 52 } (hp T S o) [.ref 465, .int (nI l)] (hp T S o) (some (.int (rRe S n l))) := by
  refine am_of (by decide +kernel) (Nat.le_of_ble_eq_true rfl) ?_
  intro C hse hret hname hF hO
  subst hse
  refine am_go hF sgX6_reachesOf_0_24699 4 [(3, .int 0), (2, .int 0), (0, .ref 465), (1, .int (nI l))] [] sgX6_reachesOf_0_24699d rfl ?_
  refine am_drop [2, 3, 1, 0] [(0, .ref 465), (1, .int (nI l)), (2, .int 0), (3, .int 0)] rfl ?_
  have lp4 : ∀ (d j : Nat) (a : Int32), j + d = 16 → a = itN (rre S n l) 0 j → am_W C (hp T S o) 0 0 4 [(0, .ref 465), (1, .int (nI l)), (2, .int a), (3, .int (nI j))] [] := by
    intro d
    induction d with
    | zero =>
      intro j a hj ha
      have e9j : j = 16 := by omega
      refine am_go hF sgX6_reachesOf_4_b88ad 7 [(0, .ref 465), (1, .int (nI l)), (2, .int a), (3, .int (nI j))] [.int 16, .int (nI j)] sgX6_reachesOf_4_b88add rfl ?_
      refine am_icmpge hF 37 dX6_reachesOf_7 (by decide) (fun _ => ?_) (fun h9 => False.elim (absurd (nc_ge (show 16 ≤ j by omega) (by omega) (by omega) rfl rfl) h9))
      refine am_go hF sgX6_reachesOf_37_f8a59 38 [(0, .ref 465), (1, .int (nI l)), (2, .int a), (3, .int (nI j))] [.int a] sgX6_reachesOf_37_f8a59d rfl ?_
      exact am_iret hF hO hret rfl dX6_reachesOf_38 ⟨rfl, (by first | (rw [ha, e9j]; done) | (rw [ha, e9j]; rfl))⟩
    | succ d ih4 =>
      intro j a hj ha
      have l9j : j < 16 := by omega
      refine am_go hF sgX6_reachesOf_4_b88ad 7 [(0, .ref 465), (1, .int (nI l)), (2, .int a), (3, .int (nI j))] [.int 16, .int (nI j)] sgX6_reachesOf_4_b88add rfl ?_
      refine am_icmpge hF 37 dX6_reachesOf_7 (by decide) (fun h9 => False.elim (nc_lt_f (show j < 16 by omega) (by omega) (by omega) rfl rfl h9)) (fun _ => ?_)
      refine am_go hF sgX6_reachesOf_10_f708f 15 [(0, .ref 465), (1, .int (nI l)), (2, .int a), (3, .int (nI j))] [.int (-1), .int (nI j), .int (nI l), .ref 465, .int a] sgX6_reachesOf_10_f708fd rfl ?_
      refine am_dV hF hO [.int (nI l), .int (nI j), .int (-1)] [.int a] (c_memberBy hn (by omega) (by omega) (by omega)) myX6_memberBy vyX6_memberBy lm_RX6_132 (hp_m _ _ _) rfl rfl 0 0 ⟨Nat.le_of_ble_eq_true rfl, Nat.le_of_ble_eq_true rfl⟩ ⟨Nat.le_of_ble_eq_true rfl, Nat.le_of_ble_eq_true rfl, Nat.le_of_ble_eq_true rfl, Nat.le_of_ble_eq_true rfl⟩ rfl (am_lv_ref (hp_m _ _ _) (am_lv_int (am_lv_int (am_lv_int (am_lv_int am_lv_nil))))) (Nat.le_of_ble_eq_true rfl) dX6_reachesOf_15 [.int (rMB S n l j (-1)), .int a] rfl ?_
      refine am_go hF sgX6_reachesOf_18_5ff24 19 [(0, .ref 465), (1, .int (nI l)), (2, .int a), (3, .int (nI j))] [.int (-1), .int (rMB S n l j (-1)), .int a] sgX6_reachesOf_18_5ff24d rfl ?_
      refine am_icmpne hF 26 dX6_reachesOf_19 (by decide) (fun c3 => ?_) (fun c3 => ?_)
      · skip
        refine am_go hF sgX6_reachesOf_26_8d1e4 4 [(3, .int ((nI j) + 1)), (2, .int (a ||| (1 <<< ((nI j) &&& 31)))), (0, .ref 465), (1, .int (nI l))] [] sgX6_reachesOf_26_8d1e4d rfl ?_
        refine am_drop [2, 3, 1, 0] [(0, .ref 465), (1, .int (nI l)), (2, .int (a ||| (1 <<< ((nI j) &&& 31)))), (3, .int ((nI j) + 1))] rfl ?_
        refine am_eqL [(0, .ref 465), (1, .int (nI l)), (2, .int (a ||| (1 <<< ((nI j) &&& 31)))), (3, .int (nI (j + 1)))] (by rw [nI_1]) ?_
        exact ih4 (j + 1) (a ||| (1 <<< ((nI j) &&& 31))) (by omega) (by show _ = rre S n l j (itN (rre S n l) 0 j); rw [← ha]; simp only [rre, c3, ↓reduceIte])
      · skip
        refine am_go hF sgX6_reachesOf_22_468b6 4 [(3, .int ((nI j) + 1)), (2, .int (a ||| 0)), (0, .ref 465), (1, .int (nI l))] [] sgX6_reachesOf_22_468b6d rfl ?_
        refine am_drop [2, 3, 1, 0] [(0, .ref 465), (1, .int (nI l)), (2, .int (a ||| 0)), (3, .int ((nI j) + 1))] rfl ?_
        refine am_eqL [(0, .ref 465), (1, .int (nI l)), (2, .int (a ||| 0)), (3, .int (nI (j + 1)))] (by rw [nI_1]) ?_
        exact ih4 (j + 1) (a ||| 0) (by omega) (by show _ = rre S n l j (itN (rre S n l) 0 j); rw [← ha]; simp only [rre, (eq_true c3), ↓reduceIte])
  exact lp4 16 0 0 (by omega) rfl
set_option maxRecDepth 100000 in
set_option maxHeartbeats 4000000 in
theorem c_modeFor {G : am_S} {T S : am_T} {o : Nat → Int64} {n : Nat} (hn : S 9 0 = nI n) (hn10 : n ≤ 10) {l p : Nat} (hl : l < n) (hp9 : p < 16) : am_D G yX6_modeFor (.code yX6_modeFor cX6_modeFor 3 (some .int) :: am_G) { frames := 2, cells := 0, slots := 0, locals := 52 } (hp T S o) [.ref 465, .int (nI l), .int (nI p)] (hp T S o) (some (.int (rMode S n l p))) := by
  refine am_of (by decide +kernel) (Nat.le_of_ble_eq_true rfl) ?_
  intro C hse hret hname hF hO
  subst hse
  refine am_go hF sgX6_modeFor_0_58030 4 [(0, .ref 465), (1, .int (nI l)), (2, .int (nI p))] [.int (-1), .int (nI p), .int (nI l), .ref 465] sgX6_modeFor_0_58030d rfl ?_
  refine am_dV hF hO [.int (nI l), .int (nI p), .int (-1)] [] (c_memberBy hn (by omega) (by omega) (by omega)) myX6_memberBy vyX6_memberBy lm_RX6_132 (hp_m _ _ _) rfl rfl 0 0 ⟨Nat.le_of_ble_eq_true rfl, Nat.le_of_ble_eq_true rfl⟩ ⟨Nat.le_of_ble_eq_true rfl, Nat.le_of_ble_eq_true rfl, Nat.le_of_ble_eq_true rfl, Nat.le_of_ble_eq_true rfl⟩ rfl (am_lv_ref (hp_m _ _ _) (am_lv_int (am_lv_int am_lv_nil))) (Nat.le_of_ble_eq_true rfl) dX6_modeFor_4 [.int (rMB S n l p (-1))] rfl ?_
  refine am_go hF sgX6_modeFor_7_5ff24 8 [(0, .ref 465), (1, .int (nI l)), (2, .int (nI p))] [.int (-1), .int (rMB S n l p (-1))] sgX6_modeFor_7_5ff24d rfl ?_
  refine am_icmpne hF 13 dX6_modeFor_8 (by decide) (fun c1 => ?_) (fun c1 => ?_)
  · skip
    refine am_go hF sgX6_modeFor_13_07487 17 [(0, .ref 465), (1, .int (nI l)), (2, .int (nI p))] [.int 0, .int (nI p), .int (nI l), .ref 465] sgX6_modeFor_13_07487d rfl ?_
    refine am_dV hF hO [.int (nI l), .int (nI p), .int 0] [] (c_memberBy0 hn (by omega) (by omega) (by omega)) myX6_memberBy vyX6_memberBy lm_RX6_132 (hp_m _ _ _) rfl rfl 0 0 ⟨Nat.le_of_ble_eq_true rfl, Nat.le_of_ble_eq_true rfl⟩ ⟨Nat.le_of_ble_eq_true rfl, Nat.le_of_ble_eq_true rfl, Nat.le_of_ble_eq_true rfl, Nat.le_of_ble_eq_true rfl⟩ rfl (am_lv_ref (hp_m _ _ _) (am_lv_int (am_lv_int am_lv_nil))) (Nat.le_of_ble_eq_true rfl) dX6_modeFor_17 [.int (rMB S n l p (0))] rfl ?_
    refine am_go hF sgX6_modeFor_20_5ff24 21 [(0, .ref 465), (1, .int (nI l)), (2, .int (nI p))] [.int (-1), .int (rMB S n l p (0))] sgX6_modeFor_20_5ff24d rfl ?_
    refine am_icmpne hF 28 dX6_modeFor_21 (by decide) (fun c2 => ?_) (fun c2 => ?_)
    · skip
      refine am_go hF sgX6_modeFor_28_56c54 29 [(0, .ref 465), (1, .int (nI l)), (2, .int (nI p))] [.int 0] sgX6_modeFor_28_56c54d rfl ?_
      exact am_iret hF hO hret rfl dX6_modeFor_29 ⟨rfl, by simp only [rMode, c1, c2, ↓reduceIte]⟩
    · skip
      refine am_go hF sgX6_modeFor_24_1c64c 29 [(0, .ref 465), (1, .int (nI l)), (2, .int (nI p))] [.int 1] sgX6_modeFor_24_1c64cd rfl ?_
      exact am_iret hF hO hret rfl dX6_modeFor_29 ⟨rfl, by simp only [rMode, c1, (eq_true c2), ↓reduceIte]⟩
  · skip
    refine am_go hF sgX6_modeFor_11_5ff24 12 [(0, .ref 465), (1, .int (nI l)), (2, .int (nI p))] [.int (-1)] sgX6_modeFor_11_5ff24d rfl ?_
    exact am_iret hF hO hret rfl dX6_modeFor_12 ⟨rfl, by simp only [rMode, (eq_true c1), ↓reduceIte]⟩
set_option maxRecDepth 100000 in
set_option maxHeartbeats 4000000 in
theorem c_oneMore {G : am_S} {T S : am_T} {o : Nat → Int64} {n : Nat} (hn : S 9 0 = nI n) (hn10 : n ≤ 10) {p : Nat} (hp9 : p < 16) : am_D G yX6_oneMore (.code yX6_oneMore cX6_oneMore 4 none :: am_G) { frames := 0, cells := 0, slots := 0, locals := 0 } (hp T S o) [.ref 465, .int (nI p)] (hp T (rOne S n p) o) none := by
  refine am_of (by decide +kernel) (Nat.le_of_ble_eq_true rfl) ?_
  intro C hse hret hname hF hO
  subst hse
  refine am_go hF sgX6_oneMore_0_34db8 1 [(0, .ref 465), (1, .int (nI p))] [.ref 465] sgX6_oneMore_0_34db8d rfl ?_
  refine sv_get hF 6 (by decide) rfl lf_RX6_19 (.ref 506) rfl dX6_oneMore_1 ?_
  refine am_go hF sgX6_oneMore_4_563cd 6 [(0, .ref 465), (1, .int (nI p))] [.int (nI p), .ref 506, .int (nI p), .ref 506] sgX6_oneMore_4_563cdd rfl ?_
  refine sv_iald hF 6 (by decide) ⟨rfl, rfl, by decide⟩ p rfl (show p < 16 by omega) dX6_oneMore_6 ?_
  refine am_go hF sgX6_oneMore_7_c7176 9 [(0, .ref 465), (1, .int (nI p))] [.int ((S 6 p) + 1), .int (nI p), .ref 506] sgX6_oneMore_7_c7176d rfl ?_
  refine sv_iast hF 6 (by decide) ⟨rfl, rfl, by decide⟩ p rfl (show p < 16 by omega) dX6_oneMore_9 ?_
  refine am_go hF sgX6_oneMore_10_34db8 11 [(0, .ref 465), (1, .int (nI p))] [.ref 465] sgX6_oneMore_10_34db8d rfl ?_
  refine sv_get hF 6 (by decide) rfl lf_RX6_19 (.ref 506) rfl dX6_oneMore_11 ?_
  refine am_go hF sgX6_oneMore_14_840bf 15 [(0, .ref 465), (1, .int (nI p))] [.int (nI p), .ref 506] sgX6_oneMore_14_840bfd rfl ?_
  refine sv_iald hF 6 (by decide) ⟨rfl, rfl, by decide⟩ p rfl (show p < 16 by omega) dX6_oneMore_15 ?_
  refine am_top ((S 6 p) + 1) (st1_same _ _ _ _) ?_
  refine am_go hF sgX6_oneMore_16_800cc 17 [(0, .ref 465), (1, .int (nI p))] [.int 3, .int ((S 6 p) + 1)] sgX6_oneMore_16_800ccd rfl ?_
  refine am_icmpne hF 71 dX6_oneMore_17 (by decide) (fun c1 => ?_) (fun c1 => ?_)
  · skip
    exact am_vret hF hO hret dX6_oneMore_71 ⟨by unfold rOne; simp only [c1, ↓reduceIte], rfl⟩
  · skip
    refine am_go hF sgX6_oneMore_20_34db8 21 [(0, .ref 465), (1, .int (nI p))] [.ref 465] sgX6_oneMore_20_34db8d rfl ?_
    refine sv_get hF 6 (by decide) rfl lf_RX6_19 (.ref 506) rfl dX6_oneMore_21 ?_
    refine am_go hF sgX6_oneMore_24_cd6b4 26 [(0, .ref 465), (1, .int (nI p))] [.int 0, .int (nI p), .ref 506] sgX6_oneMore_24_cd6b4d rfl ?_
    refine sv_iast hF 6 (by decide) ⟨rfl, rfl, by decide⟩ p rfl (show p < 16 by omega) dX6_oneMore_26 ?_
    refine am_go hF sgX6_oneMore_27_01fef 29 [(2, .int 0), (0, .ref 465), (1, .int (nI p))] [] sgX6_oneMore_27_01fefd rfl ?_
    refine am_drop [1, 2, 0] [(0, .ref 465), (1, .int (nI p)), (2, .int 0)] rfl ?_
    have lp29 : ∀ (d j : Nat) (S1 : am_T), j + d = n → S1 = itN (rone p) (st1 (st1 S 6 p (S 6 p + 1)) 6 p 0) j → am_W C (hp T S1 o) 0 0 29 [(0, .ref 465), (1, .int (nI p)), (2, .int (nI j))] [] := by
      intro d
      induction d with
      | zero =>
        intro j S1 hj hS1
        have e9j : j = n := by omega
        have hn1 : S1 9 0 = nI n := by rw [hS1]; exact (congrFun (itN_f (F := rone p) 9 (fun k S => st1_f (show 9 ≠ 16 by decide)) _ j) 0).trans hn
        refine am_go hF sgX6_oneMore_29_14491 31 [(0, .ref 465), (1, .int (nI p)), (2, .int (nI j))] [.ref 465, .int (nI j)] sgX6_oneMore_29_14491d rfl ?_
        refine sv_get hF 9 (by decide) rfl lf_RX6_112 (.int (S1 9 0)) rfl dX6_oneMore_31 ?_
        refine am_top (nI n) hn1 ?_
        refine am_icmpge hF 71 dX6_oneMore_34 (by decide) (fun _ => ?_) (fun h9 => False.elim (absurd (nc_ge (show n ≤ j by omega) (by omega) (by omega) rfl rfl) h9))
        exact am_vret hF hO hret dX6_oneMore_71 ⟨by unfold rOne; simp only [(eq_true c1), ↓reduceIte]; rw [hS1, e9j], rfl⟩
      | succ d ih29 =>
        intro j S1 hj hS1
        have l9j : j < n := by omega
        have hn1 : S1 9 0 = nI n := by rw [hS1]; exact (congrFun (itN_f (F := rone p) 9 (fun k S => st1_f (show 9 ≠ 16 by decide)) _ j) 0).trans hn
        refine am_go hF sgX6_oneMore_29_14491 31 [(0, .ref 465), (1, .int (nI p)), (2, .int (nI j))] [.ref 465, .int (nI j)] sgX6_oneMore_29_14491d rfl ?_
        refine sv_get hF 9 (by decide) rfl lf_RX6_112 (.int (S1 9 0)) rfl dX6_oneMore_31 ?_
        refine am_top (nI n) hn1 ?_
        refine am_icmpge hF 71 dX6_oneMore_34 (by decide) (fun h9 => False.elim (nc_lt_f (show j < n by omega) (by omega) (by omega) rfl rfl h9)) (fun _ => ?_)
        refine am_go hF sgX6_oneMore_37_6c3f3 45 [(3, .int ((16 * (nI j)) + (nI p))), (0, .ref 465), (1, .int (nI p)), (2, .int (nI j))] [.ref 465] sgX6_oneMore_37_6c3f3d rfl ?_
        refine sv_get hF 16 (by decide) rfl lf_RX6_47 (.ref 516) rfl dX6_oneMore_45 ?_
        refine am_go hF sgX6_oneMore_48_a1b5b 50 [(3, .int ((16 * (nI j)) + (nI p))), (0, .ref 465), (1, .int (nI p)), (2, .int (nI j))] [.ref 465, .int ((16 * (nI j)) + (nI p)), .ref 516] sgX6_oneMore_48_a1b5bd rfl ?_
        refine sv_get hF 16 (by decide) rfl lf_RX6_47 (.ref 516) rfl dX6_oneMore_50 ?_
        refine am_go hF sgX6_oneMore_53_13b50 54 [(3, .int ((16 * (nI j)) + (nI p))), (0, .ref 465), (1, .int (nI p)), (2, .int (nI j))] [.int ((16 * (nI j)) + (nI p)), .ref 516, .int ((16 * (nI j)) + (nI p)), .ref 516] sgX6_oneMore_53_13b50d rfl ?_
        refine sv_iald hF 16 (by decide) ⟨rfl, rfl, by decide⟩ ((16 * j) + p) (am_ad (am_mu rfl rfl) rfl) (show (16 * j) + p < 160 by omega) dX6_oneMore_54 ?_
        refine am_go hF sgX6_oneMore_55_5ff24 56 [(3, .int ((16 * (nI j)) + (nI p))), (0, .ref 465), (1, .int (nI p)), (2, .int (nI j))] [.int (-1), .int (S1 16 ((16 * j) + p)), .int ((16 * (nI j)) + (nI p)), .ref 516] sgX6_oneMore_55_5ff24d rfl ?_
        refine am_icmpne hF 63 dX6_oneMore_56 (by decide) (fun c4 => ?_) (fun c4 => ?_)
        · skip
          refine am_go hF sgX6_oneMore_63_4de0a 64 [(3, .int ((16 * (nI j)) + (nI p))), (0, .ref 465), (1, .int (nI p)), (2, .int (nI j))] [.int 1, .int ((16 * (nI j)) + (nI p)), .ref 516] sgX6_oneMore_63_4de0ad rfl ?_
          refine sv_iast hF 16 (by decide) ⟨rfl, rfl, by decide⟩ ((16 * j) + p) (am_ad (am_mu rfl rfl) rfl) (show (16 * j) + p < 160 by omega) dX6_oneMore_64 ?_
          refine am_go hF sgX6_oneMore_65_92559 29 [(2, .int ((nI j) + 1)), (3, .int ((16 * (nI j)) + (nI p))), (0, .ref 465), (1, .int (nI p))] [] sgX6_oneMore_65_92559d rfl ?_
          refine am_drop [2, 3, 0] [(0, .ref 465), (1, .int (nI p)), (2, .int ((nI j) + 1))] rfl ?_
          refine am_eqL [(0, .ref 465), (1, .int (nI p)), (2, .int (nI (j + 1)))] (by rw [nI_1]) ?_
          exact ih29 (j + 1) (st1 S1 16 ((16 * j) + p) 1) (by omega) (by show _ = rone p j (itN (rone p) (st1 (st1 S 6 p (S 6 p + 1)) 6 p 0) j); rw [← hS1]; simp only [rone, c4, ↓reduceIte])
        · skip
          refine am_go hF sgX6_oneMore_59_06683 64 [(3, .int ((16 * (nI j)) + (nI p))), (0, .ref 465), (1, .int (nI p)), (2, .int (nI j))] [.int (-1), .int ((16 * (nI j)) + (nI p)), .ref 516] sgX6_oneMore_59_06683d rfl ?_
          refine sv_iast hF 16 (by decide) ⟨rfl, rfl, by decide⟩ ((16 * j) + p) (am_ad (am_mu rfl rfl) rfl) (show (16 * j) + p < 160 by omega) dX6_oneMore_64 ?_
          refine am_go hF sgX6_oneMore_65_92559 29 [(2, .int ((nI j) + 1)), (3, .int ((16 * (nI j)) + (nI p))), (0, .ref 465), (1, .int (nI p))] [] sgX6_oneMore_65_92559d rfl ?_
          refine am_drop [2, 3, 0] [(0, .ref 465), (1, .int (nI p)), (2, .int ((nI j) + 1))] rfl ?_
          refine am_eqL [(0, .ref 465), (1, .int (nI p)), (2, .int (nI (j + 1)))] (by rw [nI_1]) ?_
          exact ih29 (j + 1) (st1 S1 16 ((16 * j) + p) (-1)) (by omega) (by show _ = rone p j (itN (rone p) (st1 (st1 S 6 p (S 6 p + 1)) 6 p 0) j); rw [← hS1]; simp only [rone, (eq_true c4), ↓reduceIte])
    exact lp29 n 0 (st1 (st1 S 6 p ((S 6 p) + 1)) 6 p 0) (by omega) rfl
set_option maxRecDepth 100000 in
set_option maxHeartbeats 4000000 in
theorem c_comesToBox {G : am_S} {T S : am_T} {o : Nat → Int64} {n : Nat} (hn : S 9 0 = nI n) (hn10 : n ≤ 10) {k p b : Nat} (hk : k < 80) (hp9 : p < 16) (hb : S 7 p = nI b) (hb10 : b ≤ 10) : am_D G yX6_comesToBox (.code yX6_comesToBox cX6_comesToBox 3 none :: am_G) { frames := 1, cells := 0, slots := 0, locals := 23 } (hp T S o) [.ref 465, .int (nI k), .int (nI p)] (hp T (rBox S n k p b) o) none := by
  refine am_of (by decide +kernel) (Nat.le_of_ble_eq_true rfl) ?_
  intro C hse hret hname hF hO
  subst hse
  refine am_go hF sgX6_comesToBox_0_34db8 1 [(0, .ref 465), (1, .int (nI k)), (2, .int (nI p))] [.ref 465] sgX6_comesToBox_0_34db8d rfl ?_
  refine sv_get hF 7 (by decide) rfl lf_RX6_22 (.ref 507) rfl dX6_comesToBox_1 ?_
  refine am_go hF sgX6_comesToBox_4_f8a59 5 [(0, .ref 465), (1, .int (nI k)), (2, .int (nI p))] [.int (nI p), .ref 507] sgX6_comesToBox_4_f8a59d rfl ?_
  refine sv_iald hF 7 (by decide) ⟨rfl, rfl, by decide⟩ p rfl (show p < 16 by omega) dX6_comesToBox_5 ?_
  refine am_top (nI b) hb ?_
  refine am_go hF sgX6_comesToBox_6_ee951 8 [(0, .ref 465), (1, .int (nI k)), (2, .int (nI p))] [.int 10, .int (nI b)] sgX6_comesToBox_6_ee951d rfl ?_
  refine am_icmpne hF 19 dX6_comesToBox_8 (by decide) (fun c1 => ?_) (fun c1 => ?_)
  · skip
    have hb9 : b ≠ 10 := fun e => c1 (by rw [e]; rfl)
    refine am_go hF sgX6_comesToBox_19_34db8 20 [(0, .ref 465), (1, .int (nI k)), (2, .int (nI p))] [.ref 465] sgX6_comesToBox_19_34db8d rfl ?_
    refine sv_get hF 8 (by decide) rfl lf_RX6_25 (.ref 508) rfl dX6_comesToBox_20 ?_
    refine am_go hF sgX6_comesToBox_23_56481 28 [(0, .ref 465), (1, .int (nI k)), (2, .int (nI p))] [.ref 465, .int (10 * (nI p)), .ref 508] sgX6_comesToBox_23_56481d rfl ?_
    refine sv_get hF 7 (by decide) rfl lf_RX6_22 (.ref 507) rfl dX6_comesToBox_28 ?_
    refine am_go hF sgX6_comesToBox_31_f8a59 32 [(0, .ref 465), (1, .int (nI k)), (2, .int (nI p))] [.int (nI p), .ref 507, .int (10 * (nI p)), .ref 508] sgX6_comesToBox_31_f8a59d rfl ?_
    refine sv_iald hF 7 (by decide) ⟨rfl, rfl, by decide⟩ p rfl (show p < 16 by omega) dX6_comesToBox_32 ?_
    refine am_top (nI b) hb ?_
    refine am_go hF sgX6_comesToBox_33_ebc32 35 [(0, .ref 465), (1, .int (nI k)), (2, .int (nI p))] [.int (nI k), .int ((10 * (nI p)) + (nI b)), .ref 508] sgX6_comesToBox_33_ebc32d rfl ?_
    refine sv_iast hF 8 (by decide) ⟨rfl, rfl, by decide⟩ ((10 * p) + b) (am_ad (am_mu rfl rfl) rfl) (show (10 * p) + b < 160 by omega) dX6_comesToBox_35 ?_
    refine am_go hF sgX6_comesToBox_36_34db8 37 [(0, .ref 465), (1, .int (nI k)), (2, .int (nI p))] [.ref 465] sgX6_comesToBox_36_34db8d rfl ?_
    refine sv_get hF 7 (by decide) rfl lf_RX6_22 (.ref 507) rfl dX6_comesToBox_37 ?_
    refine am_go hF sgX6_comesToBox_40_9241e 42 [(0, .ref 465), (1, .int (nI k)), (2, .int (nI p))] [.int (nI p), .ref 507, .int (nI p), .ref 507] sgX6_comesToBox_40_9241ed rfl ?_
    refine sv_iald hF 7 (by decide) ⟨rfl, rfl, by decide⟩ p rfl (show p < 16 by omega) dX6_comesToBox_42 ?_
    refine am_top (nI b) hb ?_
    refine am_go hF sgX6_comesToBox_43_c7176 45 [(0, .ref 465), (1, .int (nI k)), (2, .int (nI p))] [.int ((nI b) + 1), .int (nI p), .ref 507] sgX6_comesToBox_43_c7176d rfl ?_
    refine sv_iast hF 7 (by decide) ⟨rfl, rfl, by decide⟩ p rfl (show p < 16 by omega) dX6_comesToBox_45 ?_
    refine am_go hF sgX6_comesToBox_46_34db8 47 [(0, .ref 465), (1, .int (nI k)), (2, .int (nI p))] [.ref 465] sgX6_comesToBox_46_34db8d rfl ?_
    refine sv_get hF 25 (by decide) rfl lf_RX6_71 (.ref 525) rfl dX6_comesToBox_47 ?_
    refine am_go hF sgX6_comesToBox_50_563cd 52 [(0, .ref 465), (1, .int (nI k)), (2, .int (nI p))] [.int (nI k), .ref 525, .int (nI k), .ref 525] sgX6_comesToBox_50_563cdd rfl ?_
    refine sv_iald hF 25 (by decide) ⟨rfl, rfl, by decide⟩ k rfl (show k < 80 by omega) dX6_comesToBox_52 ?_
    refine am_top (S 25 k) rfl ?_
    refine am_go hF sgX6_comesToBox_53_76418 57 [(0, .ref 465), (1, .int (nI k)), (2, .int (nI p))] [.int ((S 25 k) ||| (1 <<< ((nI p) &&& 31))), .int (nI k), .ref 525] sgX6_comesToBox_53_76418d rfl ?_
    refine sv_iast hF 25 (by decide) ⟨rfl, rfl, by decide⟩ k rfl (show k < 80 by omega) dX6_comesToBox_57 ?_
    exact am_vret hF hO hret dX6_comesToBox_58 ⟨by simp only [rBox, c1, ↓reduceIte], rfl⟩
  · skip
    refine am_go hF sgX6_comesToBox_11_78e74 13 [(0, .ref 465), (1, .int (nI k)), (2, .int (nI p))] [.int (nI p), .ref 465] sgX6_comesToBox_11_78e74d rfl ?_
    refine am_dV hF hO [.int (nI p)] [] (c_oneMore hn hn10 (by omega)) myX6_oneMore vyX6_oneMore lm_RX6_143 (hp_m _ _ _) rfl rfl 0 0 ⟨Nat.le_of_ble_eq_true rfl, Nat.le_of_ble_eq_true rfl⟩ ⟨Nat.le_of_ble_eq_true rfl, Nat.le_of_ble_eq_true rfl, Nat.le_of_ble_eq_true rfl, Nat.le_of_ble_eq_true rfl⟩ rfl (am_lv_ref (hp_m _ _ _) (am_lv_int (am_lv_int am_lv_nil))) (Nat.le_of_ble_eq_true rfl) dX6_comesToBox_13 [] rfl ?_
    refine am_go hF sgX6_comesToBox_16_933e7 58 [(0, .ref 465), (1, .int (nI k)), (2, .int (nI p))] [] sgX6_comesToBox_16_933e7d rfl ?_
    exact am_vret hF hO hret dX6_comesToBox_58 ⟨by simp only [rBox, (eq_true c1), ↓reduceIte], rfl⟩
set_option maxRecDepth 100000 in
set_option maxHeartbeats 4000000 in
theorem c_comesToDigest {G : am_S} {T S : am_T} {o : Nat → Int64} {k l p d : Nat} (hk : k < 80) (hl : l < 10) (hp9 : p < 16) (hd : S 20 k = nI d) (hd4 : d ≤ 400) : am_D G yX6_comesToDigest (.code yX6_comesToDigest cX6_comesToDigest 5 none :: am_G) { frames := 0, cells := 0, slots := 0, locals := 0 } (hp T S o) [.ref 465, .int (nI k), .int (nI l), .int (nI p)] (hp T (rDig S k l p d) o) none := by
  refine am_of (by decide +kernel) (Nat.le_of_ble_eq_true rfl) ?_
  intro C hse hret hname hF hO
  subst hse
  refine am_go hF sgX6_comesToDigest_0_2baf6 6 [(0, .ref 465), (1, .int (nI k)), (2, .int (nI l)), (3, .int (nI p))] [.ref 465, .int (401 * (nI l))] sgX6_comesToDigest_0_2baf6d rfl ?_
  refine sv_get hF 20 (by decide) rfl lf_RX6_56 (.ref 520) rfl dX6_comesToDigest_6 ?_
  refine am_go hF sgX6_comesToDigest_9_840bf 10 [(0, .ref 465), (1, .int (nI k)), (2, .int (nI l)), (3, .int (nI p))] [.int (nI k), .ref 520, .int (401 * (nI l))] sgX6_comesToDigest_9_840bfd rfl ?_
  refine sv_iald hF 20 (by decide) ⟨rfl, rfl, by decide⟩ k rfl (show k < 80 by omega) dX6_comesToDigest_10 ?_
  refine am_top (nI d) hd ?_
  refine am_go hF sgX6_comesToDigest_11_4dc44 15 [(4, .int ((401 * (nI l)) + (nI d))), (0, .ref 465), (1, .int (nI k)), (2, .int (nI l)), (3, .int (nI p))] [.ref 465] sgX6_comesToDigest_11_4dc44d rfl ?_
  refine sv_get hF 32 (by decide) rfl lf_RX6_92 (.ref 532) rfl dX6_comesToDigest_15 ?_
  refine am_go hF sgX6_comesToDigest_18_40916 21 [(4, .int ((401 * (nI l)) + (nI d))), (0, .ref 465), (1, .int (nI k)), (2, .int (nI l)), (3, .int (nI p))] [.int 1, .int ((401 * (nI l)) + (nI d)), .ref 532] sgX6_comesToDigest_18_40916d rfl ?_
  refine sv_zast hF 32 (by decide) ⟨rfl, rfl, by decide⟩ ((401 * l) + d) (am_ad (am_mu rfl rfl) rfl) (show (401 * l) + d < 4010 by omega) rfl dX6_comesToDigest_21 ?_
  refine am_go hF sgX6_comesToDigest_22_34db8 23 [(4, .int ((401 * (nI l)) + (nI d))), (0, .ref 465), (1, .int (nI k)), (2, .int (nI l)), (3, .int (nI p))] [.ref 465] sgX6_comesToDigest_22_34db8d rfl ?_
  refine sv_get hF 34 (by decide) rfl lf_RX6_98 (.ref 534) rfl dX6_comesToDigest_23 ?_
  refine am_go hF sgX6_comesToDigest_26_01ce9 29 [(4, .int ((401 * (nI l)) + (nI d))), (0, .ref 465), (1, .int (nI k)), (2, .int (nI l)), (3, .int (nI p))] [.int ((401 * (nI l)) + (nI d)), .ref 534, .int ((401 * (nI l)) + (nI d)), .ref 534] sgX6_comesToDigest_26_01ce9d rfl ?_
  refine sv_iald hF 34 (by decide) ⟨rfl, rfl, by decide⟩ ((401 * l) + d) (am_ad (am_mu rfl rfl) rfl) (show (401 * l) + d < 4010 by omega) dX6_comesToDigest_29 ?_
  refine am_top (S 34 ((401 * l) + d)) rfl ?_
  refine am_go hF sgX6_comesToDigest_30_4473e 34 [(4, .int ((401 * (nI l)) + (nI d))), (0, .ref 465), (1, .int (nI k)), (2, .int (nI l)), (3, .int (nI p))] [.int ((S 34 ((401 * l) + d)) ||| (1 <<< ((nI p) &&& 31))), .int ((401 * (nI l)) + (nI d)), .ref 534] sgX6_comesToDigest_30_4473ed rfl ?_
  refine sv_iast hF 34 (by decide) ⟨rfl, rfl, by decide⟩ ((401 * l) + d) (am_ad (am_mu rfl rfl) rfl) (show (401 * l) + d < 4010 by omega) dX6_comesToDigest_34 ?_
  refine am_go hF sgX6_comesToDigest_35_34db8 36 [(4, .int ((401 * (nI l)) + (nI d))), (0, .ref 465), (1, .int (nI k)), (2, .int (nI l)), (3, .int (nI p))] [.ref 465] sgX6_comesToDigest_35_34db8d rfl ?_
  refine sv_get hF 25 (by decide) rfl lf_RX6_71 (.ref 525) rfl dX6_comesToDigest_36 ?_
  refine am_go hF sgX6_comesToDigest_39_563cd 41 [(4, .int ((401 * (nI l)) + (nI d))), (0, .ref 465), (1, .int (nI k)), (2, .int (nI l)), (3, .int (nI p))] [.int (nI k), .ref 525, .int (nI k), .ref 525] sgX6_comesToDigest_39_563cdd rfl ?_
  refine sv_iald hF 25 (by decide) ⟨rfl, rfl, by decide⟩ k rfl (show k < 80 by omega) dX6_comesToDigest_41 ?_
  refine am_top (S 25 k) rfl ?_
  refine am_go hF sgX6_comesToDigest_42_4473e 46 [(4, .int ((401 * (nI l)) + (nI d))), (0, .ref 465), (1, .int (nI k)), (2, .int (nI l)), (3, .int (nI p))] [.int ((S 25 k) ||| (1 <<< ((nI p) &&& 31))), .int (nI k), .ref 525] sgX6_comesToDigest_42_4473ed rfl ?_
  refine sv_iast hF 25 (by decide) ⟨rfl, rfl, by decide⟩ k rfl (show k < 80 by omega) dX6_comesToDigest_46 ?_
  refine am_go hF sgX6_comesToDigest_47_34db8 48 [(4, .int ((401 * (nI l)) + (nI d))), (0, .ref 465), (1, .int (nI k)), (2, .int (nI l)), (3, .int (nI p))] [.ref 465] sgX6_comesToDigest_47_34db8d rfl ?_
  refine sv_get hF 31 (by decide) rfl lf_RX6_89 (.ref 531) rfl dX6_comesToDigest_48 ?_
  refine am_go hF sgX6_comesToDigest_51_afa86 57 [(4, .int ((401 * (nI l)) + (nI d))), (0, .ref 465), (1, .int (nI k)), (2, .int (nI l)), (3, .int (nI p))] [.int ((10 * (nI k)) + (nI l)), .ref 531] sgX6_comesToDigest_51_afa86d rfl ?_
  refine sv_zald hF 31 (by decide) ⟨rfl, rfl, by decide⟩ ((10 * k) + l) (am_ad (am_mu rfl rfl) rfl) (show (10 * k) + l < 800 by omega) dX6_comesToDigest_57 ?_
  refine am_top (S 31 ((10 * k) + l)) rfl ?_
  refine am_ifne hF 110 dX6_comesToDigest_58 (by decide) (fun c1 => ?_) (fun c1 => ?_)
  · skip
    refine am_go hF sgX6_comesToDigest_110_34db8 111 [(4, .int ((401 * (nI l)) + (nI d))), (0, .ref 465), (1, .int (nI k)), (2, .int (nI l)), (3, .int (nI p))] [.ref 465] sgX6_comesToDigest_110_34db8d rfl ?_
    refine sv_get hF 31 (by decide) rfl lf_RX6_89 (.ref 531) rfl dX6_comesToDigest_111 ?_
    refine am_go hF sgX6_comesToDigest_114_e8b24 121 [(4, .int ((401 * (nI l)) + (nI d))), (0, .ref 465), (1, .int (nI k)), (2, .int (nI l)), (3, .int (nI p))] [.int 1, .int ((10 * (nI k)) + (nI l)), .ref 531] sgX6_comesToDigest_114_e8b24d rfl ?_
    refine sv_zast hF 31 (by decide) ⟨rfl, rfl, by decide⟩ ((10 * k) + l) (am_ad (am_mu rfl rfl) rfl) (show (10 * k) + l < 800 by omega) rfl dX6_comesToDigest_121 ?_
    exact am_vret hF hO hret dX6_comesToDigest_122 ⟨by simp only [rDig, not_false_eq_true, not_true_eq_false, and_self, and_true, true_and, and_false, false_and, rDi3, c1, ↓reduceIte], rfl⟩
  · skip
    refine am_go hF sgX6_comesToDigest_61_34db8 62 [(4, .int ((401 * (nI l)) + (nI d))), (0, .ref 465), (1, .int (nI k)), (2, .int (nI l)), (3, .int (nI p))] [.ref 465] sgX6_comesToDigest_61_34db8d rfl ?_
    refine sv_get hF 20 (by decide) rfl lf_RX6_56 (.ref 520) rfl dX6_comesToDigest_62 ?_
    refine am_go hF sgX6_comesToDigest_65_840bf 66 [(4, .int ((401 * (nI l)) + (nI d))), (0, .ref 465), (1, .int (nI k)), (2, .int (nI l)), (3, .int (nI p))] [.int (nI k), .ref 520] sgX6_comesToDigest_65_840bfd rfl ?_
    refine sv_iald hF 20 (by decide) ⟨rfl, rfl, by decide⟩ k rfl (show k < 80 by omega) dX6_comesToDigest_66 ?_
    refine am_top (nI d) hd ?_
    refine am_go hF sgX6_comesToDigest_67_34db8 68 [(4, .int ((401 * (nI l)) + (nI d))), (0, .ref 465), (1, .int (nI k)), (2, .int (nI l)), (3, .int (nI p))] [.ref 465, .int (nI d)] sgX6_comesToDigest_67_34db8d rfl ?_
    refine sv_get hF 1 (by decide) rfl lf_RX6_147 (.int (S 1 0)) rfl dX6_comesToDigest_68 ?_
    refine am_icmpge hF 110 dX6_comesToDigest_71 (by decide) (fun c2 => ?_) (fun c2 => ?_)
    · skip
      refine am_go hF sgX6_comesToDigest_110_34db8 111 [(4, .int ((401 * (nI l)) + (nI d))), (0, .ref 465), (1, .int (nI k)), (2, .int (nI l)), (3, .int (nI p))] [.ref 465] sgX6_comesToDigest_110_34db8d rfl ?_
      refine sv_get hF 31 (by decide) rfl lf_RX6_89 (.ref 531) rfl dX6_comesToDigest_111 ?_
      refine am_go hF sgX6_comesToDigest_114_e8b24 121 [(4, .int ((401 * (nI l)) + (nI d))), (0, .ref 465), (1, .int (nI k)), (2, .int (nI l)), (3, .int (nI p))] [.int 1, .int ((10 * (nI k)) + (nI l)), .ref 531] sgX6_comesToDigest_114_e8b24d rfl ?_
      refine sv_zast hF 31 (by decide) ⟨rfl, rfl, by decide⟩ ((10 * k) + l) (am_ad (am_mu rfl rfl) rfl) (show (10 * k) + l < 800 by omega) rfl dX6_comesToDigest_121 ?_
      exact am_vret hF hO hret dX6_comesToDigest_122 ⟨by simp only [rDig, not_false_eq_true, not_true_eq_false, and_self, and_true, true_and, and_false, false_and, rDi3, (eq_true c1), c2, ↓reduceIte], rfl⟩
    · skip
      refine am_go hF sgX6_comesToDigest_74_34db8 75 [(4, .int ((401 * (nI l)) + (nI d))), (0, .ref 465), (1, .int (nI k)), (2, .int (nI l)), (3, .int (nI p))] [.ref 465] sgX6_comesToDigest_74_34db8d rfl ?_
      refine sv_get hF 35 (by decide) rfl lf_RX6_101 (.ref 535) rfl dX6_comesToDigest_75 ?_
      refine am_go hF sgX6_comesToDigest_78_c6742 80 [(4, .int ((401 * (nI l)) + (nI d))), (0, .ref 465), (1, .int (nI k)), (2, .int (nI l)), (3, .int (nI p))] [.int ((401 * (nI l)) + (nI d)), .ref 535] sgX6_comesToDigest_78_c6742d rfl ?_
      refine sv_iald hF 35 (by decide) ⟨rfl, rfl, by decide⟩ ((401 * l) + d) (am_ad (am_mu rfl rfl) rfl) (show (401 * l) + d < 4010 by omega) dX6_comesToDigest_80 ?_
      refine am_top (S 35 ((401 * l) + d)) rfl ?_
      refine am_go hF sgX6_comesToDigest_81_34db8 82 [(4, .int ((401 * (nI l)) + (nI d))), (0, .ref 465), (1, .int (nI k)), (2, .int (nI l)), (3, .int (nI p))] [.ref 465, .int (S 35 ((401 * l) + d))] sgX6_comesToDigest_81_34db8d rfl ?_
      refine sv_get hF 2 (by decide) rfl lf_RX6_150 (.int (S 2 0)) rfl dX6_comesToDigest_82 ?_
      refine am_icmpeq hF 110 dX6_comesToDigest_85 (by decide) (fun c3 => ?_) (fun c3 => ?_)
      · skip
        refine am_go hF sgX6_comesToDigest_110_34db8 111 [(4, .int ((401 * (nI l)) + (nI d))), (0, .ref 465), (1, .int (nI k)), (2, .int (nI l)), (3, .int (nI p))] [.ref 465] sgX6_comesToDigest_110_34db8d rfl ?_
        refine sv_get hF 31 (by decide) rfl lf_RX6_89 (.ref 531) rfl dX6_comesToDigest_111 ?_
        refine am_go hF sgX6_comesToDigest_114_e8b24 121 [(4, .int ((401 * (nI l)) + (nI d))), (0, .ref 465), (1, .int (nI k)), (2, .int (nI l)), (3, .int (nI p))] [.int 1, .int ((10 * (nI k)) + (nI l)), .ref 531] sgX6_comesToDigest_114_e8b24d rfl ?_
        refine sv_zast hF 31 (by decide) ⟨rfl, rfl, by decide⟩ ((10 * k) + l) (am_ad (am_mu rfl rfl) rfl) (show (10 * k) + l < 800 by omega) rfl dX6_comesToDigest_121 ?_
        exact am_vret hF hO hret dX6_comesToDigest_122 ⟨by simp only [rDig, not_false_eq_true, not_true_eq_false, and_self, and_true, true_and, and_false, false_and, rDi3, (eq_true c1), c2, (eq_true c3), ↓reduceIte], rfl⟩
      · skip
        refine am_go hF sgX6_comesToDigest_88_34db8 89 [(4, .int ((401 * (nI l)) + (nI d))), (0, .ref 465), (1, .int (nI k)), (2, .int (nI l)), (3, .int (nI p))] [.ref 465] sgX6_comesToDigest_88_34db8d rfl ?_
        refine sv_get hF 33 (by decide) rfl lf_RX6_95 (.ref 533) rfl dX6_comesToDigest_89 ?_
        refine am_go hF sgX6_comesToDigest_92_01ce9 95 [(4, .int ((401 * (nI l)) + (nI d))), (0, .ref 465), (1, .int (nI k)), (2, .int (nI l)), (3, .int (nI p))] [.int ((401 * (nI l)) + (nI d)), .ref 533, .int ((401 * (nI l)) + (nI d)), .ref 533] sgX6_comesToDigest_92_01ce9d rfl ?_
        refine sv_iald hF 33 (by decide) ⟨rfl, rfl, by decide⟩ ((401 * l) + d) (am_ad (am_mu rfl rfl) rfl) (show (401 * l) + d < 4010 by omega) dX6_comesToDigest_95 ?_
        refine am_top (S 33 ((401 * l) + d)) rfl ?_
        refine am_go hF sgX6_comesToDigest_96_c7176 98 [(4, .int ((401 * (nI l)) + (nI d))), (0, .ref 465), (1, .int (nI k)), (2, .int (nI l)), (3, .int (nI p))] [.int ((S 33 ((401 * l) + d)) + 1), .int ((401 * (nI l)) + (nI d)), .ref 533] sgX6_comesToDigest_96_c7176d rfl ?_
        refine sv_iast hF 33 (by decide) ⟨rfl, rfl, by decide⟩ ((401 * l) + d) (am_ad (am_mu rfl rfl) rfl) (show (401 * l) + d < 4010 by omega) dX6_comesToDigest_98 ?_
        refine am_go hF sgX6_comesToDigest_99_34db8 100 [(4, .int ((401 * (nI l)) + (nI d))), (0, .ref 465), (1, .int (nI k)), (2, .int (nI l)), (3, .int (nI p))] [.ref 465] sgX6_comesToDigest_99_34db8d rfl ?_
        refine sv_get hF 35 (by decide) rfl lf_RX6_101 (.ref 535) rfl dX6_comesToDigest_100 ?_
        refine am_go hF sgX6_comesToDigest_103_49a24 106 [(4, .int ((401 * (nI l)) + (nI d))), (0, .ref 465), (1, .int (nI k)), (2, .int (nI l)), (3, .int (nI p))] [.ref 465, .int ((401 * (nI l)) + (nI d)), .ref 535] sgX6_comesToDigest_103_49a24d rfl ?_
        refine sv_get hF 2 (by decide) rfl lf_RX6_150 (.int (S 2 0)) rfl dX6_comesToDigest_106 ?_
        refine sv_iast hF 35 (by decide) ⟨rfl, rfl, by decide⟩ ((401 * l) + d) (am_ad (am_mu rfl rfl) rfl) (show (401 * l) + d < 4010 by omega) dX6_comesToDigest_109 ?_
        refine am_go hF sgX6_comesToDigest_110_34db8 111 [(4, .int ((401 * (nI l)) + (nI d))), (0, .ref 465), (1, .int (nI k)), (2, .int (nI l)), (3, .int (nI p))] [.ref 465] sgX6_comesToDigest_110_34db8d rfl ?_
        refine sv_get hF 31 (by decide) rfl lf_RX6_89 (.ref 531) rfl dX6_comesToDigest_111 ?_
        refine am_go hF sgX6_comesToDigest_114_e8b24 121 [(4, .int ((401 * (nI l)) + (nI d))), (0, .ref 465), (1, .int (nI k)), (2, .int (nI l)), (3, .int (nI p))] [.int 1, .int ((10 * (nI k)) + (nI l)), .ref 531] sgX6_comesToDigest_114_e8b24d rfl ?_
        refine sv_zast hF 31 (by decide) ⟨rfl, rfl, by decide⟩ ((10 * k) + l) (am_ad (am_mu rfl rfl) rfl) (show (10 * k) + l < 800 by omega) rfl dX6_comesToDigest_121 ?_
        exact am_vret hF hO hret dX6_comesToDigest_122 ⟨by simp only [rDig, not_false_eq_true, not_true_eq_false, and_self, and_true, true_and, and_false, false_and, rDi3, (eq_true c1), c2, c3, ↓reduceIte], rfl⟩
set_option maxRecDepth 100000 in
set_option maxHeartbeats 4000000 in
theorem c_scoreOf_n {G : am_S} {T S : am_T} {o : Nat → Int64} {m p : Nat} {words : Int32} (hm : S 17 0 = nI m) (hm80 : m ≤ 80) (hp9 : p < 16) : am_D G yX6_scoreOf (.code yX6_scoreOf cX6_scoreOf 6 (some .int) :: am_G) { frames := 0, cells := 0, slots := 0, locals := 0 } (hp T S o) [.ref 465, .int (nI p), .int words, .int (-1)] (hp T S o) (some (.int (rSum S m p words))) := by
  refine am_of (by decide +kernel) (Nat.le_of_ble_eq_true rfl) ?_
  intro C hse hret hname hF hO
  subst hse
  refine am_go hF sgX6_scoreOf_0_34db8 1 [(0, .ref 465), (1, .int (nI p)), (2, .int words), (3, .int (-1))] [.ref 465] sgX6_scoreOf_0_34db8d rfl ?_
  refine sv_get hF 4 (by decide) rfl lf_RX6_13 (.ref 504) rfl dX6_scoreOf_1 ?_
  refine am_go hF sgX6_scoreOf_4_840bf 5 [(0, .ref 465), (1, .int (nI p)), (2, .int words), (3, .int (-1))] [.int (nI p), .ref 504] sgX6_scoreOf_4_840bfd rfl ?_
  refine sv_iald hF 4 (by decide) ⟨rfl, rfl, by decide⟩ p rfl (show p < 16 by omega) dX6_scoreOf_5 ?_
  refine am_go hF sgX6_scoreOf_6_06618 11 [(5, .int 0), (4, .int (S 4 p)), (0, .ref 465), (1, .int (nI p)), (2, .int words), (3, .int (-1))] [] sgX6_scoreOf_6_06618d rfl ?_
  refine am_drop [2, 3, 4, 5, 1, 0] [(0, .ref 465), (1, .int (nI p)), (2, .int words), (3, .int (-1)), (4, .int (S 4 p)), (5, .int 0)] rfl ?_
  have lp11 : ∀ (dj j : Nat) (s : Int32), j + dj = 20 → s = itN (rsw S words) (S 4 p) j → am_W C (hp T S o) 0 0 11 [(0, .ref 465), (1, .int (nI p)), (2, .int words), (3, .int (-1)), (4, .int s), (5, .int (nI j))] [] := by
    intro dj
    induction dj with
    | zero =>
      intro j s hj hs
      have e9j : j = 20 := by omega
      refine am_go hF sgX6_scoreOf_11_ea47b 15 [(0, .ref 465), (1, .int (nI p)), (2, .int words), (3, .int (-1)), (4, .int s), (5, .int (nI j))] [.int 20, .int (nI j)] sgX6_scoreOf_11_ea47bd rfl ?_
      refine am_icmpge hF 50 dX6_scoreOf_15 (by decide) (fun _ => ?_) (fun h9 => False.elim (absurd (nc_ge (show 20 ≤ j by omega) (by omega) (by omega) rfl rfl) h9))
      refine am_go hF sgX6_scoreOf_50_d9665 53 [(5, .int 0), (0, .ref 465), (1, .int (nI p)), (2, .int words), (3, .int (-1)), (4, .int s)] [] sgX6_scoreOf_50_d9665d rfl ?_
      refine am_drop [1, 2, 3, 4, 5, 0] [(0, .ref 465), (1, .int (nI p)), (2, .int words), (3, .int (-1)), (4, .int s), (5, .int 0)] rfl ?_
      have lp53 : ∀ (di i : Nat) (s2 : Int32), i + di = m → s2 = itN (rsm S p) s i → am_W C (hp T S o) 0 0 53 [(0, .ref 465), (1, .int (nI p)), (2, .int words), (3, .int (-1)), (4, .int s2), (5, .int (nI i))] [] := by
        intro di
        induction di with
        | zero =>
          intro i s2 hi hs2
          have e9i : i = m := by omega
          refine am_go hF sgX6_scoreOf_53_e57aa 56 [(0, .ref 465), (1, .int (nI p)), (2, .int words), (3, .int (-1)), (4, .int s2), (5, .int (nI i))] [.ref 465, .int (nI i)] sgX6_scoreOf_53_e57aad rfl ?_
          refine sv_get hF 17 (by decide) rfl lf_RX6_115 (.int (S 17 0)) rfl dX6_scoreOf_56 ?_
          refine am_top (nI m) hm ?_
          refine am_icmpge hF 103 dX6_scoreOf_59 (by decide) (fun _ => ?_) (fun h9 => False.elim (absurd (nc_ge (show m ≤ i by omega) (by omega) (by omega) rfl rfl) h9))
          refine am_go hF sgX6_scoreOf_103_8324a 105 [(0, .ref 465), (1, .int (nI p)), (2, .int words), (3, .int (-1)), (4, .int s2), (5, .int (nI i))] [.int (-1), .int (-1)] sgX6_scoreOf_103_8324ad rfl ?_
          refine am_icmpeq hF 154 dX6_scoreOf_105 (by decide) (fun _ => ?_) (fun h9 => False.elim ((by revert h9; decide)))
          refine am_go hF sgX6_scoreOf_154_93f95 161 [(5, .int 0), (0, .ref 465), (1, .int (nI p)), (2, .int words), (3, .int (-1)), (4, .int s2)] [.int 0, .int s2] sgX6_scoreOf_154_93f95d rfl ?_
          refine am_ifeq hF 168 dX6_scoreOf_161 (by decide) (fun _ => ?_) (fun h9 => False.elim ((by revert h9; decide)))
          refine am_go hF sgX6_scoreOf_168_7f98f 170 [(5, .int 0), (0, .ref 465), (1, .int (nI p)), (2, .int words), (3, .int (-1)), (4, .int s2)] [.int (s2 - 0)] sgX6_scoreOf_168_7f98fd rfl ?_
          exact am_iret hF hO hret rfl dX6_scoreOf_170 ⟨rfl, by rw [show s2 = rSum S m p words by rw [hs2, e9i, hs, e9j]; rfl]; simp only [true_or, or_true, or_false, false_or, or_self, ↓reduceIte, Int32.sub_zero]⟩
        | succ di ih53 =>
          intro i s2 hi hs2
          have l9i : i < m := by omega
          refine am_go hF sgX6_scoreOf_53_e57aa 56 [(0, .ref 465), (1, .int (nI p)), (2, .int words), (3, .int (-1)), (4, .int s2), (5, .int (nI i))] [.ref 465, .int (nI i)] sgX6_scoreOf_53_e57aad rfl ?_
          refine sv_get hF 17 (by decide) rfl lf_RX6_115 (.int (S 17 0)) rfl dX6_scoreOf_56 ?_
          refine am_top (nI m) hm ?_
          refine am_icmpge hF 103 dX6_scoreOf_59 (by decide) (fun h9 => False.elim (nc_lt_f (show i < m by omega) (by omega) (by omega) rfl rfl h9)) (fun _ => ?_)
          refine am_go hF sgX6_scoreOf_62_49a24 65 [(0, .ref 465), (1, .int (nI p)), (2, .int words), (3, .int (-1)), (4, .int s2), (5, .int (nI i))] [.ref 465, .int s2] sgX6_scoreOf_62_49a24d rfl ?_
          refine sv_get hF 18 (by decide) rfl lf_RX6_50 (.ref 518) rfl dX6_scoreOf_65 ?_
          refine am_go hF sgX6_scoreOf_68_9df92 70 [(0, .ref 465), (1, .int (nI p)), (2, .int words), (3, .int (-1)), (4, .int s2), (5, .int (nI i))] [.int (nI i), .ref 518, .int s2] sgX6_scoreOf_68_9df92d rfl ?_
          refine sv_iald hF 18 (by decide) ⟨rfl, rfl, by decide⟩ i rfl (show i < 80 by omega) dX6_scoreOf_70 ?_
          refine am_go hF sgX6_scoreOf_71_840bf 72 [(0, .ref 465), (1, .int (nI p)), (2, .int words), (3, .int (-1)), (4, .int s2), (5, .int (nI i))] [.int (nI p), .int (S 18 i), .int s2] sgX6_scoreOf_71_840bfd rfl ?_
          refine am_icmpne hF 93 dX6_scoreOf_72 (by decide) (fun c6 => ?_) (fun c6 => ?_)
          · skip
            refine am_go hF sgX6_scoreOf_93_db923 53 [(5, .int ((nI i) + 1)), (4, .int (s2 + 0)), (0, .ref 465), (1, .int (nI p)), (2, .int words), (3, .int (-1))] [] sgX6_scoreOf_93_db923d rfl ?_
            refine am_drop [2, 3, 4, 5, 1, 0] [(0, .ref 465), (1, .int (nI p)), (2, .int words), (3, .int (-1)), (4, .int (s2 + 0)), (5, .int ((nI i) + 1))] rfl ?_
            refine am_eqL [(0, .ref 465), (1, .int (nI p)), (2, .int words), (3, .int (-1)), (4, .int (s2 + 0)), (5, .int (nI (i + 1)))] (by rw [nI_1]) ?_
            exact ih53 (i + 1) (s2 + 0) (by omega) (by show _ = rsm S p i (itN (rsm S p) s i); rw [← hs2]; simp only [rsm, c6, ↓reduceIte, not_false_eq_true, and_self, and_true, true_and, and_false, false_and])
          · skip
            refine am_go hF sgX6_scoreOf_75_34db8 76 [(0, .ref 465), (1, .int (nI p)), (2, .int words), (3, .int (-1)), (4, .int s2), (5, .int (nI i))] [.ref 465, .int s2] sgX6_scoreOf_75_34db8d rfl ?_
            refine sv_get hF 20 (by decide) rfl lf_RX6_56 (.ref 520) rfl dX6_scoreOf_76 ?_
            refine am_go hF sgX6_scoreOf_79_9df92 81 [(0, .ref 465), (1, .int (nI p)), (2, .int words), (3, .int (-1)), (4, .int s2), (5, .int (nI i))] [.int (nI i), .ref 520, .int s2] sgX6_scoreOf_79_9df92d rfl ?_
            refine sv_iald hF 20 (by decide) ⟨rfl, rfl, by decide⟩ i rfl (show i < 80 by omega) dX6_scoreOf_81 ?_
            refine am_go hF sgX6_scoreOf_82_34db8 83 [(0, .ref 465), (1, .int (nI p)), (2, .int words), (3, .int (-1)), (4, .int s2), (5, .int (nI i))] [.ref 465, .int (S 20 i), .int s2] sgX6_scoreOf_82_34db8d rfl ?_
            refine sv_get hF 1 (by decide) rfl lf_RX6_147 (.int (S 1 0)) rfl dX6_scoreOf_83 ?_
            refine am_icmpne hF 93 dX6_scoreOf_86 (by decide) (fun c7 => ?_) (fun c7 => ?_)
            · skip
              refine am_go hF sgX6_scoreOf_93_db923 53 [(5, .int ((nI i) + 1)), (4, .int (s2 + 0)), (0, .ref 465), (1, .int (nI p)), (2, .int words), (3, .int (-1))] [] sgX6_scoreOf_93_db923d rfl ?_
              refine am_drop [2, 3, 4, 5, 1, 0] [(0, .ref 465), (1, .int (nI p)), (2, .int words), (3, .int (-1)), (4, .int (s2 + 0)), (5, .int ((nI i) + 1))] rfl ?_
              refine am_eqL [(0, .ref 465), (1, .int (nI p)), (2, .int words), (3, .int (-1)), (4, .int (s2 + 0)), (5, .int (nI (i + 1)))] (by rw [nI_1]) ?_
              exact ih53 (i + 1) (s2 + 0) (by omega) (by show _ = rsm S p i (itN (rsm S p) s i); rw [← hs2]; simp only [rsm, (eq_true c6), c7, ↓reduceIte, not_false_eq_true, and_self, and_true, true_and, and_false, false_and])
            · skip
              refine am_go hF sgX6_scoreOf_89_f2611 53 [(5, .int ((nI i) + 1)), (4, .int (s2 + 1)), (0, .ref 465), (1, .int (nI p)), (2, .int words), (3, .int (-1))] [] sgX6_scoreOf_89_f2611d rfl ?_
              refine am_drop [2, 3, 4, 5, 1, 0] [(0, .ref 465), (1, .int (nI p)), (2, .int words), (3, .int (-1)), (4, .int (s2 + 1)), (5, .int ((nI i) + 1))] rfl ?_
              refine am_eqL [(0, .ref 465), (1, .int (nI p)), (2, .int words), (3, .int (-1)), (4, .int (s2 + 1)), (5, .int (nI (i + 1)))] (by rw [nI_1]) ?_
              exact ih53 (i + 1) (s2 + 1) (by omega) (by show _ = rsm S p i (itN (rsm S p) s i); rw [← hs2]; simp only [rsm, (eq_true c6), (eq_true c7), ↓reduceIte, not_false_eq_true, and_self, and_true, true_and, and_false, false_and])
      exact lp53 m 0 s (by omega) rfl
    | succ dj ih11 =>
      intro j s hj hs
      have l9j : j < 20 := by omega
      refine am_go hF sgX6_scoreOf_11_ea47b 15 [(0, .ref 465), (1, .int (nI p)), (2, .int words), (3, .int (-1)), (4, .int s), (5, .int (nI j))] [.int 20, .int (nI j)] sgX6_scoreOf_11_ea47bd rfl ?_
      refine am_icmpge hF 50 dX6_scoreOf_15 (by decide) (fun h9 => False.elim (nc_lt_f (show j < 20 by omega) (by omega) (by omega) rfl rfl h9)) (fun _ => ?_)
      refine am_go hF sgX6_scoreOf_18_0ca7e 27 [(0, .ref 465), (1, .int (nI p)), (2, .int words), (3, .int (-1)), (4, .int s), (5, .int (nI j))] [.int 1, .int ((words >>> ((nI j) &&& 31)) &&& 1), .int s] sgX6_scoreOf_18_0ca7ed rfl ?_
      refine am_icmpne hF 40 dX6_scoreOf_27 (by decide) (fun c9 => ?_) (fun c9 => ?_)
      · skip
        refine am_go hF sgX6_scoreOf_40_e2933 11 [(5, .int ((nI j) + 1)), (4, .int (s + 0)), (0, .ref 465), (1, .int (nI p)), (2, .int words), (3, .int (-1))] [] sgX6_scoreOf_40_e2933d rfl ?_
        refine am_drop [2, 3, 4, 5, 1, 0] [(0, .ref 465), (1, .int (nI p)), (2, .int words), (3, .int (-1)), (4, .int (s + 0)), (5, .int ((nI j) + 1))] rfl ?_
        refine am_eqL [(0, .ref 465), (1, .int (nI p)), (2, .int words), (3, .int (-1)), (4, .int (s + 0)), (5, .int (nI (j + 1)))] (by rw [nI_1]) ?_
        exact ih11 (j + 1) (s + 0) (by omega) (by show _ = rsw S words j (itN (rsw S words) (S 4 p) j); rw [← hs]; simp only [rsw, c9, ↓reduceIte])
      · skip
        refine am_go hF sgX6_scoreOf_30_34db8 31 [(0, .ref 465), (1, .int (nI p)), (2, .int words), (3, .int (-1)), (4, .int s), (5, .int (nI j))] [.ref 465, .int s] sgX6_scoreOf_30_34db8d rfl ?_
        refine sv_get hF 3 (by decide) rfl lf_RX6_7 (.ref 503) rfl dX6_scoreOf_31 ?_
        refine am_go hF sgX6_scoreOf_34_9df92 36 [(0, .ref 465), (1, .int (nI p)), (2, .int words), (3, .int (-1)), (4, .int s), (5, .int (nI j))] [.int (nI j), .ref 503, .int s] sgX6_scoreOf_34_9df92d rfl ?_
        refine sv_iald hF 3 (by decide) ⟨rfl, rfl, by decide⟩ j rfl (show j < 20 by omega) dX6_scoreOf_36 ?_
        refine am_go hF sgX6_scoreOf_37_85052 11 [(5, .int ((nI j) + 1)), (4, .int (s + (S 3 j))), (0, .ref 465), (1, .int (nI p)), (2, .int words), (3, .int (-1))] [] sgX6_scoreOf_37_85052d rfl ?_
        refine am_drop [2, 3, 4, 5, 1, 0] [(0, .ref 465), (1, .int (nI p)), (2, .int words), (3, .int (-1)), (4, .int (s + (S 3 j))), (5, .int ((nI j) + 1))] rfl ?_
        refine am_eqL [(0, .ref 465), (1, .int (nI p)), (2, .int words), (3, .int (-1)), (4, .int (s + (S 3 j))), (5, .int (nI (j + 1)))] (by rw [nI_1]) ?_
        exact ih11 (j + 1) (s + (S 3 j)) (by omega) (by show _ = rsw S words j (itN (rsw S words) (S 4 p) j); rw [← hs]; simp only [rsw, (eq_true c9), ↓reduceIte])
  exact lp11 20 0 (S 4 p) (by omega) rfl
set_option maxRecDepth 100000 in
set_option maxHeartbeats 4000000 in
theorem c_scoreOf_a {G : am_S} {T S : am_T} {o : Nat → Int64} {m p : Nat} {words : Int32} (hm : S 17 0 = nI m) (hm80 : m ≤ 80) (hp9 : p < 16) {a : Nat} (ha9 : a < m) : am_D G yX6_scoreOf (.code yX6_scoreOf cX6_scoreOf 6 (some .int) :: am_G) { frames := 0, cells := 0, slots := 0, locals := 0 } (hp T S o) [.ref 465, .int (nI p), .int words, .int (nI a)] (hp T S o) (some (.int (if S 18 a = nI p ∨ S 25 a >>> (nI p &&& 31) &&& 1 = 1 then rSum S m p words - 3 else rSum S m p words))) := by
  refine am_of (by decide +kernel) (Nat.le_of_ble_eq_true rfl) ?_
  intro C hse hret hname hF hO
  subst hse
  refine am_go hF sgX6_scoreOf_0_34db8 1 [(0, .ref 465), (1, .int (nI p)), (2, .int words), (3, .int (nI a))] [.ref 465] sgX6_scoreOf_0_34db8d rfl ?_
  refine sv_get hF 4 (by decide) rfl lf_RX6_13 (.ref 504) rfl dX6_scoreOf_1 ?_
  refine am_go hF sgX6_scoreOf_4_840bf 5 [(0, .ref 465), (1, .int (nI p)), (2, .int words), (3, .int (nI a))] [.int (nI p), .ref 504] sgX6_scoreOf_4_840bfd rfl ?_
  refine sv_iald hF 4 (by decide) ⟨rfl, rfl, by decide⟩ p rfl (show p < 16 by omega) dX6_scoreOf_5 ?_
  refine am_go hF sgX6_scoreOf_6_06618 11 [(5, .int 0), (4, .int (S 4 p)), (0, .ref 465), (1, .int (nI p)), (2, .int words), (3, .int (nI a))] [] sgX6_scoreOf_6_06618d rfl ?_
  refine am_drop [2, 3, 4, 5, 1, 0] [(0, .ref 465), (1, .int (nI p)), (2, .int words), (3, .int (nI a)), (4, .int (S 4 p)), (5, .int 0)] rfl ?_
  have lp11 : ∀ (dj j : Nat) (s : Int32), j + dj = 20 → s = itN (rsw S words) (S 4 p) j → am_W C (hp T S o) 0 0 11 [(0, .ref 465), (1, .int (nI p)), (2, .int words), (3, .int (nI a)), (4, .int s), (5, .int (nI j))] [] := by
    intro dj
    induction dj with
    | zero =>
      intro j s hj hs
      have e9j : j = 20 := by omega
      refine am_go hF sgX6_scoreOf_11_ea47b 15 [(0, .ref 465), (1, .int (nI p)), (2, .int words), (3, .int (nI a)), (4, .int s), (5, .int (nI j))] [.int 20, .int (nI j)] sgX6_scoreOf_11_ea47bd rfl ?_
      refine am_icmpge hF 50 dX6_scoreOf_15 (by decide) (fun _ => ?_) (fun h9 => False.elim (absurd (nc_ge (show 20 ≤ j by omega) (by omega) (by omega) rfl rfl) h9))
      refine am_go hF sgX6_scoreOf_50_d9665 53 [(5, .int 0), (0, .ref 465), (1, .int (nI p)), (2, .int words), (3, .int (nI a)), (4, .int s)] [] sgX6_scoreOf_50_d9665d rfl ?_
      refine am_drop [1, 2, 3, 4, 5, 0] [(0, .ref 465), (1, .int (nI p)), (2, .int words), (3, .int (nI a)), (4, .int s), (5, .int 0)] rfl ?_
      have lp53 : ∀ (di i : Nat) (s2 : Int32), i + di = m → s2 = itN (rsm S p) s i → am_W C (hp T S o) 0 0 53 [(0, .ref 465), (1, .int (nI p)), (2, .int words), (3, .int (nI a)), (4, .int s2), (5, .int (nI i))] [] := by
        intro di
        induction di with
        | zero =>
          intro i s2 hi hs2
          have e9i : i = m := by omega
          refine am_go hF sgX6_scoreOf_53_e57aa 56 [(0, .ref 465), (1, .int (nI p)), (2, .int words), (3, .int (nI a)), (4, .int s2), (5, .int (nI i))] [.ref 465, .int (nI i)] sgX6_scoreOf_53_e57aad rfl ?_
          refine sv_get hF 17 (by decide) rfl lf_RX6_115 (.int (S 17 0)) rfl dX6_scoreOf_56 ?_
          refine am_top (nI m) hm ?_
          refine am_icmpge hF 103 dX6_scoreOf_59 (by decide) (fun _ => ?_) (fun h9 => False.elim (absurd (nc_ge (show m ≤ i by omega) (by omega) (by omega) rfl rfl) h9))
          refine am_go hF sgX6_scoreOf_103_8324a 105 [(0, .ref 465), (1, .int (nI p)), (2, .int words), (3, .int (nI a)), (4, .int s2), (5, .int (nI i))] [.int (-1), .int (nI a)] sgX6_scoreOf_103_8324ad rfl ?_
          refine am_icmpeq hF 154 dX6_scoreOf_105 (by decide) (fun h9 => False.elim (absurd h9 (pk_nm1 (by omega)))) (fun _ => ?_)
          refine am_go hF sgX6_scoreOf_108_34db8 109 [(0, .ref 465), (1, .int (nI p)), (2, .int words), (3, .int (nI a)), (4, .int s2), (5, .int (nI i))] [.ref 465] sgX6_scoreOf_108_34db8d rfl ?_
          refine sv_get hF 18 (by decide) rfl lf_RX6_50 (.ref 518) rfl dX6_scoreOf_109 ?_
          refine am_go hF sgX6_scoreOf_112_8324a 114 [(0, .ref 465), (1, .int (nI p)), (2, .int words), (3, .int (nI a)), (4, .int s2), (5, .int (nI i))] [.int (-1), .int (nI a), .ref 518] sgX6_scoreOf_112_8324ad rfl ?_
          refine am_icmpne hF 121 dX6_scoreOf_114 (by decide) (fun _ => ?_) (fun h9 => False.elim (absurd h9 (pk_nm1 (by omega))))
          refine am_go hF sgX6_scoreOf_121_13b50 122 [(0, .ref 465), (1, .int (nI p)), (2, .int words), (3, .int (nI a)), (4, .int s2), (5, .int (nI i))] [.int (nI a), .ref 518] sgX6_scoreOf_121_13b50d rfl ?_
          refine sv_iald hF 18 (by decide) ⟨rfl, rfl, by decide⟩ a rfl (show a < 80 by omega) dX6_scoreOf_122 ?_
          refine am_go hF sgX6_scoreOf_123_840bf 124 [(0, .ref 465), (1, .int (nI p)), (2, .int words), (3, .int (nI a)), (4, .int s2), (5, .int (nI i))] [.int (nI p), .int (S 18 a)] sgX6_scoreOf_123_840bfd rfl ?_
          refine am_icmpeq hF 150 dX6_scoreOf_124 (by decide) (fun c5 => ?_) (fun c5 => ?_)
          · skip
            refine am_go hF sgX6_scoreOf_150_1f015 161 [(5, .int 1), (0, .ref 465), (1, .int (nI p)), (2, .int words), (3, .int (nI a)), (4, .int s2)] [.int 1, .int s2] sgX6_scoreOf_150_1f015d rfl ?_
            refine am_ifeq hF 168 dX6_scoreOf_161 (by decide) (fun h9 => False.elim ((by revert h9; decide))) (fun _ => ?_)
            refine am_go hF sgX6_scoreOf_164_b5ffe 170 [(5, .int 1), (0, .ref 465), (1, .int (nI p)), (2, .int words), (3, .int (nI a)), (4, .int s2)] [.int (s2 - 3)] sgX6_scoreOf_164_b5ffed rfl ?_
            exact am_iret hF hO hret rfl dX6_scoreOf_170 ⟨rfl, by rw [show s2 = rSum S m p words by rw [hs2, e9i, hs, e9j]; rfl]; simp only [(eq_true c5), true_or, or_true, or_false, false_or, or_self, ↓reduceIte, Int32.sub_zero]⟩
          · skip
            refine am_go hF sgX6_scoreOf_127_34db8 128 [(0, .ref 465), (1, .int (nI p)), (2, .int words), (3, .int (nI a)), (4, .int s2), (5, .int (nI i))] [.ref 465] sgX6_scoreOf_127_34db8d rfl ?_
            refine sv_get hF 25 (by decide) rfl lf_RX6_71 (.ref 525) rfl dX6_scoreOf_128 ?_
            refine am_go hF sgX6_scoreOf_131_8324a 133 [(0, .ref 465), (1, .int (nI p)), (2, .int words), (3, .int (nI a)), (4, .int s2), (5, .int (nI i))] [.int (-1), .int (nI a), .ref 525] sgX6_scoreOf_131_8324ad rfl ?_
            refine am_icmpne hF 140 dX6_scoreOf_133 (by decide) (fun _ => ?_) (fun h9 => False.elim (absurd h9 (pk_nm1 (by omega))))
            refine am_go hF sgX6_scoreOf_140_13b50 141 [(0, .ref 465), (1, .int (nI p)), (2, .int words), (3, .int (nI a)), (4, .int s2), (5, .int (nI i))] [.int (nI a), .ref 525] sgX6_scoreOf_140_13b50d rfl ?_
            refine sv_iald hF 25 (by decide) ⟨rfl, rfl, by decide⟩ a rfl (show a < 80 by omega) dX6_scoreOf_141 ?_
            refine am_go hF sgX6_scoreOf_142_43adf 147 [(0, .ref 465), (1, .int (nI p)), (2, .int words), (3, .int (nI a)), (4, .int s2), (5, .int (nI i))] [.int 1, .int (((S 25 a) >>> ((nI p) &&& 31)) &&& 1)] sgX6_scoreOf_142_43adfd rfl ?_
            refine am_icmpne hF 154 dX6_scoreOf_147 (by decide) (fun c8 => ?_) (fun c8 => ?_)
            · skip
              refine am_go hF sgX6_scoreOf_154_93f95 161 [(5, .int 0), (0, .ref 465), (1, .int (nI p)), (2, .int words), (3, .int (nI a)), (4, .int s2)] [.int 0, .int s2] sgX6_scoreOf_154_93f95d rfl ?_
              refine am_ifeq hF 168 dX6_scoreOf_161 (by decide) (fun _ => ?_) (fun h9 => False.elim ((by revert h9; decide)))
              refine am_go hF sgX6_scoreOf_168_7f98f 170 [(5, .int 0), (0, .ref 465), (1, .int (nI p)), (2, .int words), (3, .int (nI a)), (4, .int s2)] [.int (s2 - 0)] sgX6_scoreOf_168_7f98fd rfl ?_
              exact am_iret hF hO hret rfl dX6_scoreOf_170 ⟨rfl, by rw [show s2 = rSum S m p words by rw [hs2, e9i, hs, e9j]; rfl]; simp only [c5, c8, true_or, or_true, or_false, false_or, or_self, ↓reduceIte, Int32.sub_zero]⟩
            · skip
              refine am_go hF sgX6_scoreOf_150_1f015 161 [(5, .int 1), (0, .ref 465), (1, .int (nI p)), (2, .int words), (3, .int (nI a)), (4, .int s2)] [.int 1, .int s2] sgX6_scoreOf_150_1f015d rfl ?_
              refine am_ifeq hF 168 dX6_scoreOf_161 (by decide) (fun h9 => False.elim ((by revert h9; decide))) (fun _ => ?_)
              refine am_go hF sgX6_scoreOf_164_b5ffe 170 [(5, .int 1), (0, .ref 465), (1, .int (nI p)), (2, .int words), (3, .int (nI a)), (4, .int s2)] [.int (s2 - 3)] sgX6_scoreOf_164_b5ffed rfl ?_
              exact am_iret hF hO hret rfl dX6_scoreOf_170 ⟨rfl, by rw [show s2 = rSum S m p words by rw [hs2, e9i, hs, e9j]; rfl]; simp only [c5, (eq_true c8), true_or, or_true, or_false, false_or, or_self, ↓reduceIte, Int32.sub_zero]⟩
        | succ di ih53 =>
          intro i s2 hi hs2
          have l9i : i < m := by omega
          refine am_go hF sgX6_scoreOf_53_e57aa 56 [(0, .ref 465), (1, .int (nI p)), (2, .int words), (3, .int (nI a)), (4, .int s2), (5, .int (nI i))] [.ref 465, .int (nI i)] sgX6_scoreOf_53_e57aad rfl ?_
          refine sv_get hF 17 (by decide) rfl lf_RX6_115 (.int (S 17 0)) rfl dX6_scoreOf_56 ?_
          refine am_top (nI m) hm ?_
          refine am_icmpge hF 103 dX6_scoreOf_59 (by decide) (fun h9 => False.elim (nc_lt_f (show i < m by omega) (by omega) (by omega) rfl rfl h9)) (fun _ => ?_)
          refine am_go hF sgX6_scoreOf_62_49a24 65 [(0, .ref 465), (1, .int (nI p)), (2, .int words), (3, .int (nI a)), (4, .int s2), (5, .int (nI i))] [.ref 465, .int s2] sgX6_scoreOf_62_49a24d rfl ?_
          refine sv_get hF 18 (by decide) rfl lf_RX6_50 (.ref 518) rfl dX6_scoreOf_65 ?_
          refine am_go hF sgX6_scoreOf_68_9df92 70 [(0, .ref 465), (1, .int (nI p)), (2, .int words), (3, .int (nI a)), (4, .int s2), (5, .int (nI i))] [.int (nI i), .ref 518, .int s2] sgX6_scoreOf_68_9df92d rfl ?_
          refine sv_iald hF 18 (by decide) ⟨rfl, rfl, by decide⟩ i rfl (show i < 80 by omega) dX6_scoreOf_70 ?_
          refine am_go hF sgX6_scoreOf_71_840bf 72 [(0, .ref 465), (1, .int (nI p)), (2, .int words), (3, .int (nI a)), (4, .int s2), (5, .int (nI i))] [.int (nI p), .int (S 18 i), .int s2] sgX6_scoreOf_71_840bfd rfl ?_
          refine am_icmpne hF 93 dX6_scoreOf_72 (by decide) (fun c12 => ?_) (fun c12 => ?_)
          · skip
            refine am_go hF sgX6_scoreOf_93_db923 53 [(5, .int ((nI i) + 1)), (4, .int (s2 + 0)), (0, .ref 465), (1, .int (nI p)), (2, .int words), (3, .int (nI a))] [] sgX6_scoreOf_93_db923d rfl ?_
            refine am_drop [2, 3, 4, 5, 1, 0] [(0, .ref 465), (1, .int (nI p)), (2, .int words), (3, .int (nI a)), (4, .int (s2 + 0)), (5, .int ((nI i) + 1))] rfl ?_
            refine am_eqL [(0, .ref 465), (1, .int (nI p)), (2, .int words), (3, .int (nI a)), (4, .int (s2 + 0)), (5, .int (nI (i + 1)))] (by rw [nI_1]) ?_
            exact ih53 (i + 1) (s2 + 0) (by omega) (by show _ = rsm S p i (itN (rsm S p) s i); rw [← hs2]; simp only [rsm, c12, ↓reduceIte, not_false_eq_true, and_self, and_true, true_and, and_false, false_and])
          · skip
            refine am_go hF sgX6_scoreOf_75_34db8 76 [(0, .ref 465), (1, .int (nI p)), (2, .int words), (3, .int (nI a)), (4, .int s2), (5, .int (nI i))] [.ref 465, .int s2] sgX6_scoreOf_75_34db8d rfl ?_
            refine sv_get hF 20 (by decide) rfl lf_RX6_56 (.ref 520) rfl dX6_scoreOf_76 ?_
            refine am_go hF sgX6_scoreOf_79_9df92 81 [(0, .ref 465), (1, .int (nI p)), (2, .int words), (3, .int (nI a)), (4, .int s2), (5, .int (nI i))] [.int (nI i), .ref 520, .int s2] sgX6_scoreOf_79_9df92d rfl ?_
            refine sv_iald hF 20 (by decide) ⟨rfl, rfl, by decide⟩ i rfl (show i < 80 by omega) dX6_scoreOf_81 ?_
            refine am_go hF sgX6_scoreOf_82_34db8 83 [(0, .ref 465), (1, .int (nI p)), (2, .int words), (3, .int (nI a)), (4, .int s2), (5, .int (nI i))] [.ref 465, .int (S 20 i), .int s2] sgX6_scoreOf_82_34db8d rfl ?_
            refine sv_get hF 1 (by decide) rfl lf_RX6_147 (.int (S 1 0)) rfl dX6_scoreOf_83 ?_
            refine am_icmpne hF 93 dX6_scoreOf_86 (by decide) (fun c13 => ?_) (fun c13 => ?_)
            · skip
              refine am_go hF sgX6_scoreOf_93_db923 53 [(5, .int ((nI i) + 1)), (4, .int (s2 + 0)), (0, .ref 465), (1, .int (nI p)), (2, .int words), (3, .int (nI a))] [] sgX6_scoreOf_93_db923d rfl ?_
              refine am_drop [2, 3, 4, 5, 1, 0] [(0, .ref 465), (1, .int (nI p)), (2, .int words), (3, .int (nI a)), (4, .int (s2 + 0)), (5, .int ((nI i) + 1))] rfl ?_
              refine am_eqL [(0, .ref 465), (1, .int (nI p)), (2, .int words), (3, .int (nI a)), (4, .int (s2 + 0)), (5, .int (nI (i + 1)))] (by rw [nI_1]) ?_
              exact ih53 (i + 1) (s2 + 0) (by omega) (by show _ = rsm S p i (itN (rsm S p) s i); rw [← hs2]; simp only [rsm, (eq_true c12), c13, ↓reduceIte, not_false_eq_true, and_self, and_true, true_and, and_false, false_and])
            · skip
              refine am_go hF sgX6_scoreOf_89_f2611 53 [(5, .int ((nI i) + 1)), (4, .int (s2 + 1)), (0, .ref 465), (1, .int (nI p)), (2, .int words), (3, .int (nI a))] [] sgX6_scoreOf_89_f2611d rfl ?_
              refine am_drop [2, 3, 4, 5, 1, 0] [(0, .ref 465), (1, .int (nI p)), (2, .int words), (3, .int (nI a)), (4, .int (s2 + 1)), (5, .int ((nI i) + 1))] rfl ?_
              refine am_eqL [(0, .ref 465), (1, .int (nI p)), (2, .int words), (3, .int (nI a)), (4, .int (s2 + 1)), (5, .int (nI (i + 1)))] (by rw [nI_1]) ?_
              exact ih53 (i + 1) (s2 + 1) (by omega) (by show _ = rsm S p i (itN (rsm S p) s i); rw [← hs2]; simp only [rsm, (eq_true c12), (eq_true c13), ↓reduceIte, not_false_eq_true, and_self, and_true, true_and, and_false, false_and])
      exact lp53 m 0 s (by omega) rfl
    | succ dj ih11 =>
      intro j s hj hs
      have l9j : j < 20 := by omega
      refine am_go hF sgX6_scoreOf_11_ea47b 15 [(0, .ref 465), (1, .int (nI p)), (2, .int words), (3, .int (nI a)), (4, .int s), (5, .int (nI j))] [.int 20, .int (nI j)] sgX6_scoreOf_11_ea47bd rfl ?_
      refine am_icmpge hF 50 dX6_scoreOf_15 (by decide) (fun h9 => False.elim (nc_lt_f (show j < 20 by omega) (by omega) (by omega) rfl rfl h9)) (fun _ => ?_)
      refine am_go hF sgX6_scoreOf_18_0ca7e 27 [(0, .ref 465), (1, .int (nI p)), (2, .int words), (3, .int (nI a)), (4, .int s), (5, .int (nI j))] [.int 1, .int ((words >>> ((nI j) &&& 31)) &&& 1), .int s] sgX6_scoreOf_18_0ca7ed rfl ?_
      refine am_icmpne hF 40 dX6_scoreOf_27 (by decide) (fun c15 => ?_) (fun c15 => ?_)
      · skip
        refine am_go hF sgX6_scoreOf_40_e2933 11 [(5, .int ((nI j) + 1)), (4, .int (s + 0)), (0, .ref 465), (1, .int (nI p)), (2, .int words), (3, .int (nI a))] [] sgX6_scoreOf_40_e2933d rfl ?_
        refine am_drop [2, 3, 4, 5, 1, 0] [(0, .ref 465), (1, .int (nI p)), (2, .int words), (3, .int (nI a)), (4, .int (s + 0)), (5, .int ((nI j) + 1))] rfl ?_
        refine am_eqL [(0, .ref 465), (1, .int (nI p)), (2, .int words), (3, .int (nI a)), (4, .int (s + 0)), (5, .int (nI (j + 1)))] (by rw [nI_1]) ?_
        exact ih11 (j + 1) (s + 0) (by omega) (by show _ = rsw S words j (itN (rsw S words) (S 4 p) j); rw [← hs]; simp only [rsw, c15, ↓reduceIte])
      · skip
        refine am_go hF sgX6_scoreOf_30_34db8 31 [(0, .ref 465), (1, .int (nI p)), (2, .int words), (3, .int (nI a)), (4, .int s), (5, .int (nI j))] [.ref 465, .int s] sgX6_scoreOf_30_34db8d rfl ?_
        refine sv_get hF 3 (by decide) rfl lf_RX6_7 (.ref 503) rfl dX6_scoreOf_31 ?_
        refine am_go hF sgX6_scoreOf_34_9df92 36 [(0, .ref 465), (1, .int (nI p)), (2, .int words), (3, .int (nI a)), (4, .int s), (5, .int (nI j))] [.int (nI j), .ref 503, .int s] sgX6_scoreOf_34_9df92d rfl ?_
        refine sv_iald hF 3 (by decide) ⟨rfl, rfl, by decide⟩ j rfl (show j < 20 by omega) dX6_scoreOf_36 ?_
        refine am_go hF sgX6_scoreOf_37_85052 11 [(5, .int ((nI j) + 1)), (4, .int (s + (S 3 j))), (0, .ref 465), (1, .int (nI p)), (2, .int words), (3, .int (nI a))] [] sgX6_scoreOf_37_85052d rfl ?_
        refine am_drop [2, 3, 4, 5, 1, 0] [(0, .ref 465), (1, .int (nI p)), (2, .int words), (3, .int (nI a)), (4, .int (s + (S 3 j))), (5, .int ((nI j) + 1))] rfl ?_
        refine am_eqL [(0, .ref 465), (1, .int (nI p)), (2, .int words), (3, .int (nI a)), (4, .int (s + (S 3 j))), (5, .int (nI (j + 1)))] (by rw [nI_1]) ?_
        exact ih11 (j + 1) (s + (S 3 j)) (by omega) (by show _ = rsw S words j (itN (rsw S words) (S 4 p) j); rw [← hs]; simp only [rsw, (eq_true c15), ↓reduceIte])
  exact lp11 20 0 (S 4 p) (by omega) rfl
set_option maxRecDepth 100000 in
set_option maxHeartbeats 4000000 in
theorem c_causeOf {G : am_S} {T S : am_T} {o : Nat → Int64} {n : Nat} (hn : S 9 0 = nI n) (hn10 : n ≤ 10) {l p : Nat} {pts : Int32} (hl : l < n) (hp9 : p < 16) : am_D G yX6_causeOf (.code yX6_causeOf cX6_causeOf 4 (some .int) :: am_G) { frames := 3, cells := 0, slots := 0, locals := 75 } (hp T S o) [.ref 465, .int (nI p), .int (nI l), .int pts] (hp T S o) (some (.int (rCause S n p l pts))) := by
  refine am_of (by decide +kernel) (Nat.le_of_ble_eq_true rfl) ?_
  intro C hse hret hname hF hO
  subst hse
  refine am_go hF sgX6_causeOf_0_34db8 1 [(0, .ref 465), (1, .int (nI p)), (2, .int (nI l)), (3, .int pts)] [.ref 465] sgX6_causeOf_0_34db8d rfl ?_
  refine sv_get hF 14 (by decide) rfl lf_RX6_41 (.ref 514) rfl dX6_causeOf_1 ?_
  refine am_go hF sgX6_causeOf_4_f8a59 5 [(0, .ref 465), (1, .int (nI p)), (2, .int (nI l)), (3, .int pts)] [.int (nI l), .ref 514] sgX6_causeOf_4_f8a59d rfl ?_
  refine sv_iald hF 14 (by decide) ⟨rfl, rfl, by decide⟩ l rfl (show l < 10 by omega) dX6_causeOf_5 ?_
  refine am_go hF sgX6_causeOf_6_43adf 11 [(0, .ref 465), (1, .int (nI p)), (2, .int (nI l)), (3, .int pts)] [.int 1, .int (((S 14 l) >>> ((nI p) &&& 31)) &&& 1)] sgX6_causeOf_6_43adfd rfl ?_
  refine am_icmpne hF 16 dX6_causeOf_11 (by decide) (fun c1 => ?_) (fun c1 => ?_)
  · skip
    refine am_go hF sgX6_causeOf_16_34db8 17 [(0, .ref 465), (1, .int (nI p)), (2, .int (nI l)), (3, .int pts)] [.ref 465] sgX6_causeOf_16_34db8d rfl ?_
    refine sv_get hF 13 (by decide) rfl lf_RX6_37 (.ref 513) rfl dX6_causeOf_17 ?_
    refine am_go hF sgX6_causeOf_20_f8a59 21 [(0, .ref 465), (1, .int (nI p)), (2, .int (nI l)), (3, .int pts)] [.int (nI l), .ref 513] sgX6_causeOf_20_f8a59d rfl ?_
    refine sv_zald hF 13 (by decide) ⟨rfl, rfl, by decide⟩ l rfl (show l < 10 by omega) dX6_causeOf_21 ?_
    refine am_ifeq hF 39 dX6_causeOf_22 (by decide) (fun c2 => ?_) (fun c2 => ?_)
    · skip
      refine am_go hF sgX6_causeOf_39_a1b5b 41 [(0, .ref 465), (1, .int (nI p)), (2, .int (nI l)), (3, .int pts)] [.ref 465, .int pts] sgX6_causeOf_39_a1b5bd rfl ?_
      refine sv_get hF 11 (by decide) rfl lf_RX6_31 (.ref 511) rfl dX6_causeOf_41 ?_
      refine am_go hF sgX6_causeOf_44_f8a59 45 [(0, .ref 465), (1, .int (nI p)), (2, .int (nI l)), (3, .int pts)] [.int (nI l), .ref 511, .int pts] sgX6_causeOf_44_f8a59d rfl ?_
      refine sv_iald hF 11 (by decide) ⟨rfl, rfl, by decide⟩ l rfl (show l < 10 by omega) dX6_causeOf_45 ?_
      refine am_icmplt hF 53 dX6_causeOf_46 (by decide) (fun c3 => ?_) (fun c3 => ?_)
      · skip
        refine am_go hF sgX6_causeOf_53_5ff24 54 [(0, .ref 465), (1, .int (nI p)), (2, .int (nI l)), (3, .int pts)] [.int (-1)] sgX6_causeOf_53_5ff24d rfl ?_
        exact am_iret hF hO hret rfl dX6_causeOf_54 ⟨rfl, by simp only [rCause, not_false_eq_true, not_true_eq_false, and_self, and_true, true_and, and_false, false_and, c1, (eq_true c2), c3, ↓reduceIte]⟩
      · skip
        refine am_go hF sgX6_causeOf_49_abe91 54 [(0, .ref 465), (1, .int (nI p)), (2, .int (nI l)), (3, .int pts)] [.int 2] sgX6_causeOf_49_abe91d rfl ?_
        exact am_iret hF hO hret rfl dX6_causeOf_54 ⟨rfl, by simp only [rCause, not_false_eq_true, not_true_eq_false, and_self, and_true, true_and, and_false, false_and, c1, (eq_true c2), c3, ↓reduceIte]⟩
    · skip
      refine am_go hF sgX6_causeOf_25_78e74 27 [(0, .ref 465), (1, .int (nI p)), (2, .int (nI l)), (3, .int pts)] [.int (nI l), .ref 465] sgX6_causeOf_25_78e74d rfl ?_
      refine am_dV hF hO [.int (nI l)] [] (c_reachesOf hn (by omega) (by omega)) myX6_reachesOf vyX6_reachesOf lm_RX6_136 (hp_m _ _ _) rfl rfl 0 0 ⟨Nat.le_of_ble_eq_true rfl, Nat.le_of_ble_eq_true rfl⟩ ⟨Nat.le_of_ble_eq_true rfl, Nat.le_of_ble_eq_true rfl, Nat.le_of_ble_eq_true rfl, Nat.le_of_ble_eq_true rfl⟩ rfl (am_lv_ref (hp_m _ _ _) (am_lv_int (am_lv_int (am_lv_int am_lv_nil)))) (Nat.le_of_ble_eq_true rfl) dX6_causeOf_27 [.int (rRe S n l)] rfl ?_
      refine am_go hF sgX6_causeOf_30_59d23 34 [(0, .ref 465), (1, .int (nI p)), (2, .int (nI l)), (3, .int pts)] [.int (((rRe S n l) >>> ((nI p) &&& 31)) &&& 1)] sgX6_causeOf_30_59d23d rfl ?_
      refine am_ifne hF 39 dX6_causeOf_34 (by decide) (fun c4 => ?_) (fun c4 => ?_)
      · skip
        refine am_go hF sgX6_causeOf_39_a1b5b 41 [(0, .ref 465), (1, .int (nI p)), (2, .int (nI l)), (3, .int pts)] [.ref 465, .int pts] sgX6_causeOf_39_a1b5bd rfl ?_
        refine sv_get hF 11 (by decide) rfl lf_RX6_31 (.ref 511) rfl dX6_causeOf_41 ?_
        refine am_go hF sgX6_causeOf_44_f8a59 45 [(0, .ref 465), (1, .int (nI p)), (2, .int (nI l)), (3, .int pts)] [.int (nI l), .ref 511, .int pts] sgX6_causeOf_44_f8a59d rfl ?_
        refine sv_iald hF 11 (by decide) ⟨rfl, rfl, by decide⟩ l rfl (show l < 10 by omega) dX6_causeOf_45 ?_
        refine am_icmplt hF 53 dX6_causeOf_46 (by decide) (fun c5 => ?_) (fun c5 => ?_)
        · skip
          refine am_go hF sgX6_causeOf_53_5ff24 54 [(0, .ref 465), (1, .int (nI p)), (2, .int (nI l)), (3, .int pts)] [.int (-1)] sgX6_causeOf_53_5ff24d rfl ?_
          exact am_iret hF hO hret rfl dX6_causeOf_54 ⟨rfl, by simp only [rCause, not_false_eq_true, not_true_eq_false, and_self, and_true, true_and, and_false, false_and, c1, c2, c4, c5, ↓reduceIte]⟩
        · skip
          refine am_go hF sgX6_causeOf_49_abe91 54 [(0, .ref 465), (1, .int (nI p)), (2, .int (nI l)), (3, .int pts)] [.int 2] sgX6_causeOf_49_abe91d rfl ?_
          exact am_iret hF hO hret rfl dX6_causeOf_54 ⟨rfl, by simp only [rCause, not_false_eq_true, not_true_eq_false, and_self, and_true, true_and, and_false, false_and, c1, c2, c4, c5, ↓reduceIte]⟩
      · skip
        refine am_go hF sgX6_causeOf_37_4de0a 38 [(0, .ref 465), (1, .int (nI p)), (2, .int (nI l)), (3, .int pts)] [.int 1] sgX6_causeOf_37_4de0ad rfl ?_
        exact am_iret hF hO hret rfl dX6_causeOf_38 ⟨rfl, by simp only [rCause, not_false_eq_true, not_true_eq_false, and_self, and_true, true_and, and_false, false_and, c1, c2, (eq_true c4), ↓reduceIte]⟩
  · skip
    refine am_go hF sgX6_causeOf_14_56c54 15 [(0, .ref 465), (1, .int (nI p)), (2, .int (nI l)), (3, .int pts)] [.int 0] sgX6_causeOf_14_56c54d rfl ?_
    exact am_iret hF hO hret rfl dX6_causeOf_15 ⟨rfl, by simp only [rCause, not_false_eq_true, not_true_eq_false, and_self, and_true, true_and, and_false, false_and, (eq_true c1), ↓reduceIte]⟩
set_option maxRecDepth 100000 in
set_option maxHeartbeats 4000000 in
theorem c_canJudge {G : am_S} {T S : am_T} {o : Nat → Int64} {n : Nat} (hn : S 9 0 = nI n) (hn10 : n ≤ 10) {k p l : Nat} (hk : k < 80) (hp9 : p < 16) (hkl : S 19 k = nI l) (hl : l < n) : am_D G yX6_canJudge (.code yX6_canJudge cX6_canJudge 5 (some .boolean) :: am_G) { frames := 0, cells := 0, slots := 0, locals := 0 } (hp T S o) [.ref 465, .int (nI k), .int (nI p)] (hp T S o) (some (.int (rCan S n k p l))) := by
  refine am_of (by decide +kernel) (Nat.le_of_ble_eq_true rfl) ?_
  intro C hse hret hname hF hO
  subst hse
  refine am_go hF sgX6_canJudge_0_1e911 5 [(4, .int 0), (3, .int 0), (0, .ref 465), (1, .int (nI k)), (2, .int (nI p))] [] sgX6_canJudge_0_1e911d rfl ?_
  refine am_drop [2, 3, 4, 1, 0] [(0, .ref 465), (1, .int (nI k)), (2, .int (nI p)), (3, .int 0), (4, .int 0)] rfl ?_
  have lp5 : ∀ (d j : Nat) (s : Int32), j + d = n → s = itN (rcj S p) 0 j → am_W C (hp T S o) 0 0 5 [(0, .ref 465), (1, .int (nI k)), (2, .int (nI p)), (3, .int s), (4, .int (nI j))] [] := by
    intro d
    induction d with
    | zero =>
      intro j s hj hs
      have e9j : j = n := by omega
      refine am_go hF sgX6_canJudge_5_49a24 8 [(0, .ref 465), (1, .int (nI k)), (2, .int (nI p)), (3, .int s), (4, .int (nI j))] [.ref 465, .int (nI j)] sgX6_canJudge_5_49a24d rfl ?_
      refine sv_get hF 9 (by decide) rfl lf_RX6_112 (.int (S 9 0)) rfl dX6_canJudge_8 ?_
      refine am_top (nI n) hn ?_
      refine am_icmpge hF 41 dX6_canJudge_11 (by decide) (fun _ => ?_) (fun h9 => False.elim (absurd (nc_ge (show n ≤ j by omega) (by omega) (by omega) rfl rfl) h9))
      refine am_go hF sgX6_canJudge_41_13b50 42 [(0, .ref 465), (1, .int (nI k)), (2, .int (nI p)), (3, .int s), (4, .int (nI j))] [.int s] sgX6_canJudge_41_13b50d rfl ?_
      refine am_ifeq hF 74 dX6_canJudge_42 (by decide) (fun c2 => ?_) (fun c2 => ?_)
      · skip
        refine am_go hF sgX6_canJudge_74_56c54 75 [(0, .ref 465), (1, .int (nI k)), (2, .int (nI p)), (3, .int s), (4, .int (nI j))] [.int 0] sgX6_canJudge_74_56c54d rfl ?_
        exact am_iret hF hO hret rfl dX6_canJudge_75 ⟨rfl, by unfold rCan; rw [← e9j, ← hs]; simp only [(eq_true c2), not_false_eq_true, not_true_eq_false, and_self, and_true, true_and, and_false, false_and, ↓reduceIte]⟩
      · skip
        refine am_go hF sgX6_canJudge_45_14491 47 [(0, .ref 465), (1, .int (nI k)), (2, .int (nI p)), (3, .int s), (4, .int (nI j))] [.ref 465, .int (nI p)] sgX6_canJudge_45_14491d rfl ?_
        refine sv_get hF 18 (by decide) rfl lf_RX6_50 (.ref 518) rfl dX6_canJudge_47 ?_
        refine am_go hF sgX6_canJudge_50_840bf 51 [(0, .ref 465), (1, .int (nI k)), (2, .int (nI p)), (3, .int s), (4, .int (nI j))] [.int (nI k), .ref 518, .int (nI p)] sgX6_canJudge_50_840bfd rfl ?_
        refine sv_iald hF 18 (by decide) ⟨rfl, rfl, by decide⟩ k rfl (show k < 80 by omega) dX6_canJudge_51 ?_
        refine am_icmpeq hF 74 dX6_canJudge_52 (by decide) (fun c3 => ?_) (fun c3 => ?_)
        · skip
          refine am_go hF sgX6_canJudge_74_56c54 75 [(0, .ref 465), (1, .int (nI k)), (2, .int (nI p)), (3, .int s), (4, .int (nI j))] [.int 0] sgX6_canJudge_74_56c54d rfl ?_
          exact am_iret hF hO hret rfl dX6_canJudge_75 ⟨rfl, by unfold rCan; rw [← e9j, ← hs]; simp only [c2, (eq_true c3), not_false_eq_true, not_true_eq_false, and_self, and_true, true_and, and_false, false_and, ↓reduceIte]⟩
        · skip
          refine am_go hF sgX6_canJudge_55_14491 57 [(0, .ref 465), (1, .int (nI k)), (2, .int (nI p)), (3, .int s), (4, .int (nI j))] [.ref 465, .int (nI p)] sgX6_canJudge_55_14491d rfl ?_
          refine sv_get hF 10 (by decide) rfl lf_RX6_28 (.ref 510) rfl dX6_canJudge_57 ?_
          refine am_go hF sgX6_canJudge_60_34db8 61 [(0, .ref 465), (1, .int (nI k)), (2, .int (nI p)), (3, .int s), (4, .int (nI j))] [.ref 465, .ref 510, .int (nI p)] sgX6_canJudge_60_34db8d rfl ?_
          refine sv_get hF 19 (by decide) rfl lf_RX6_53 (.ref 519) rfl dX6_canJudge_61 ?_
          refine am_go hF sgX6_canJudge_64_840bf 65 [(0, .ref 465), (1, .int (nI k)), (2, .int (nI p)), (3, .int s), (4, .int (nI j))] [.int (nI k), .ref 519, .ref 510, .int (nI p)] sgX6_canJudge_64_840bfd rfl ?_
          refine sv_iald hF 19 (by decide) ⟨rfl, rfl, by decide⟩ k rfl (show k < 80 by omega) dX6_canJudge_65 ?_
          refine am_top (nI l) hkl ?_
          refine sv_iald hF 10 (by decide) ⟨rfl, rfl, by decide⟩ l rfl (show l < 10 by omega) dX6_canJudge_66 ?_
          refine am_icmpeq hF 74 dX6_canJudge_67 (by decide) (fun c4 => ?_) (fun c4 => ?_)
          · skip
            refine am_go hF sgX6_canJudge_74_56c54 75 [(0, .ref 465), (1, .int (nI k)), (2, .int (nI p)), (3, .int s), (4, .int (nI j))] [.int 0] sgX6_canJudge_74_56c54d rfl ?_
            exact am_iret hF hO hret rfl dX6_canJudge_75 ⟨rfl, by unfold rCan; rw [← e9j, ← hs]; simp only [c2, c3, (eq_true c4), not_false_eq_true, not_true_eq_false, and_self, and_true, true_and, and_false, false_and, ↓reduceIte]⟩
          · skip
            refine am_go hF sgX6_canJudge_70_1c64c 75 [(0, .ref 465), (1, .int (nI k)), (2, .int (nI p)), (3, .int s), (4, .int (nI j))] [.int 1] sgX6_canJudge_70_1c64cd rfl ?_
            exact am_iret hF hO hret rfl dX6_canJudge_75 ⟨rfl, by unfold rCan; rw [← e9j, ← hs]; simp only [c2, c3, c4, not_false_eq_true, not_true_eq_false, and_self, and_true, true_and, and_false, false_and, ↓reduceIte]⟩
    | succ d ih5 =>
      intro j s hj hs
      have l9j : j < n := by omega
      refine am_go hF sgX6_canJudge_5_49a24 8 [(0, .ref 465), (1, .int (nI k)), (2, .int (nI p)), (3, .int s), (4, .int (nI j))] [.ref 465, .int (nI j)] sgX6_canJudge_5_49a24d rfl ?_
      refine sv_get hF 9 (by decide) rfl lf_RX6_112 (.int (S 9 0)) rfl dX6_canJudge_8 ?_
      refine am_top (nI n) hn ?_
      refine am_icmpge hF 41 dX6_canJudge_11 (by decide) (fun h9 => False.elim (nc_lt_f (show j < n by omega) (by omega) (by omega) rfl rfl h9)) (fun _ => ?_)
      refine am_go hF sgX6_canJudge_14_13b50 15 [(0, .ref 465), (1, .int (nI k)), (2, .int (nI p)), (3, .int s), (4, .int (nI j))] [.int s] sgX6_canJudge_14_13b50d rfl ?_
      refine am_ifne hF 29 dX6_canJudge_15 (by decide) (fun c6 => ?_) (fun c6 => ?_)
      · skip
        refine am_go hF sgX6_canJudge_29_2a01b 5 [(4, .int ((nI j) + 1)), (3, .int 1), (0, .ref 465), (1, .int (nI k)), (2, .int (nI p))] [] sgX6_canJudge_29_2a01bd rfl ?_
        refine am_drop [2, 3, 4, 1, 0] [(0, .ref 465), (1, .int (nI k)), (2, .int (nI p)), (3, .int 1), (4, .int ((nI j) + 1))] rfl ?_
        refine am_eqL [(0, .ref 465), (1, .int (nI k)), (2, .int (nI p)), (3, .int 1), (4, .int (nI (j + 1)))] (by rw [nI_1]) ?_
        exact ih5 (j + 1) 1 (by omega) (by show _ = rcj S p j (itN (rcj S p) 0 j); rw [← hs]; simp only [rcj, c6, ↓reduceIte, not_false_eq_true, not_true_eq_false, and_self, and_true, true_and, and_false, false_and])
      · skip
        refine am_go hF sgX6_canJudge_18_34db8 19 [(0, .ref 465), (1, .int (nI k)), (2, .int (nI p)), (3, .int s), (4, .int (nI j))] [.ref 465] sgX6_canJudge_18_34db8d rfl ?_
        refine sv_get hF 10 (by decide) rfl lf_RX6_28 (.ref 510) rfl dX6_canJudge_19 ?_
        refine am_go hF sgX6_canJudge_22_c6742 24 [(0, .ref 465), (1, .int (nI k)), (2, .int (nI p)), (3, .int s), (4, .int (nI j))] [.int (nI j), .ref 510] sgX6_canJudge_22_c6742d rfl ?_
        refine sv_iald hF 10 (by decide) ⟨rfl, rfl, by decide⟩ j rfl (show j < 10 by omega) dX6_canJudge_24 ?_
        refine am_go hF sgX6_canJudge_25_f8a59 26 [(0, .ref 465), (1, .int (nI k)), (2, .int (nI p)), (3, .int s), (4, .int (nI j))] [.int (nI p), .int (S 10 j)] sgX6_canJudge_25_f8a59d rfl ?_
        refine am_icmpne hF 33 dX6_canJudge_26 (by decide) (fun c7 => ?_) (fun c7 => ?_)
        · skip
          refine am_go hF sgX6_canJudge_33_e1e62 5 [(4, .int ((nI j) + 1)), (3, .int 0), (0, .ref 465), (1, .int (nI k)), (2, .int (nI p))] [] sgX6_canJudge_33_e1e62d rfl ?_
          refine am_drop [2, 3, 4, 1, 0] [(0, .ref 465), (1, .int (nI k)), (2, .int (nI p)), (3, .int 0), (4, .int ((nI j) + 1))] rfl ?_
          refine am_eqL [(0, .ref 465), (1, .int (nI k)), (2, .int (nI p)), (3, .int 0), (4, .int (nI (j + 1)))] (by rw [nI_1]) ?_
          exact ih5 (j + 1) 0 (by omega) (by show _ = rcj S p j (itN (rcj S p) 0 j); rw [← hs]; simp only [rcj, (eq_true c6), c7, ↓reduceIte, not_false_eq_true, not_true_eq_false, and_self, and_true, true_and, and_false, false_and])
        · skip
          refine am_go hF sgX6_canJudge_29_2a01b 5 [(4, .int ((nI j) + 1)), (3, .int 1), (0, .ref 465), (1, .int (nI k)), (2, .int (nI p))] [] sgX6_canJudge_29_2a01bd rfl ?_
          refine am_drop [2, 3, 4, 1, 0] [(0, .ref 465), (1, .int (nI k)), (2, .int (nI p)), (3, .int 1), (4, .int ((nI j) + 1))] rfl ?_
          refine am_eqL [(0, .ref 465), (1, .int (nI k)), (2, .int (nI p)), (3, .int 1), (4, .int (nI (j + 1)))] (by rw [nI_1]) ?_
          exact ih5 (j + 1) 1 (by omega) (by show _ = rcj S p j (itN (rcj S p) 0 j); rw [← hs]; simp only [rcj, (eq_true c6), (eq_true c7), ↓reduceIte, not_false_eq_true, not_true_eq_false, and_self, and_true, true_and, and_false, false_and])
  exact lp5 n 0 0 (by omega) rfl
