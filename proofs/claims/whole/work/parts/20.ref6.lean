theorem ii_0 {n : Nat} {x lo : Int32} (h : x = nI n) (hn : n < 2 ^ 31) (hl : lo = 0) : ¬ x < lo := by rw [h, hl]; exact nI_pos hn
theorem ii_1 {n m : Nat} {x hi : Int32} (h : x = nI n) (hn : n ≤ m) (hm : m < 2 ^ 31) (hh : hi = nI m) : ¬ hi < x := by rw [h, hh]; exact nI_nlt hn hm
theorem ii_f {x : Int32} {m : Nat} (h : x < 0 ∨ nI (m + 1) ≤ x) (hm : m + 1 < 2 ^ 31) {hi : Int32} (hh : hi = nI m) : x < 0 ∨ hi < x := by
  rcases h with h | h
  · exact Or.inl h
  · refine Or.inr (Int32.lt_of_lt_of_le ?_ h)
    rw [hh]
    exact nI_lt (by omega) hm
theorem b1_nar (b : Bool) : narrow .boolean (.int (if b = true then 1 else 0)) = .int (if b = true then 1 else 0) := by cases b <;> rfl
def sgX6_list_0_8bcf7 : List Instr := [.aload_n 0, .iload_n 1]
theorem sgX6_list_0_8bcf7d : am_dec cX6_list 0 sgX6_list_0_8bcf7 = true := by decide +kernel
theorem dX6_list_2 : decode cX6_list 2 = .ok (.invokestatic 118, 3) := by decide +kernel
theorem dX6_list_5 : decode cX6_list 5 = .ok (.ifCond .ne 7, 3) := by decide +kernel
def sgX6_list_8_102f3 : List Instr := [.iconst 1, .goto 17]
theorem sgX6_list_8_102f3d : am_dec cX6_list 8 sgX6_list_8_102f3 = true := by decide +kernel
theorem dX6_list_26 : decode cX6_list 26 = .ok (.putfield 104, 3) := by decide +kernel
def sgX6_list_29_34db8 : List Instr := [.aload_n 0]
theorem sgX6_list_29_34db8d : am_dec cX6_list 29 sgX6_list_29_34db8 = true := by decide +kernel
theorem dX6_list_30 : decode cX6_list 30 = .ok (.getfield 104, 3) := by decide +kernel
theorem dX6_list_33 : decode cX6_list 33 = .ok (.ifCond .le 5, 3) := by decide +kernel
def sgX6_list_36_56c54 : List Instr := [.iconst 0]
theorem sgX6_list_36_56c54d : am_dec cX6_list 36 sgX6_list_36_56c54 = true := by decide +kernel
theorem dX6_list_37 : decode cX6_list 37 = .ok (.ireturn, 1) := by decide +kernel
def sgX6_list_12_34db8 : List Instr := [.aload_n 0]
theorem sgX6_list_12_34db8d : am_dec cX6_list 12 sgX6_list_12_34db8 = true := by decide +kernel
theorem dX6_list_13 : decode cX6_list 13 = .ok (.getfield 112, 3) := by decide +kernel
def sgX6_list_16_ee951 : List Instr := [.bipush 10]
theorem sgX6_list_16_ee951d : am_dec cX6_list 16 sgX6_list_16_ee951 = true := by decide +kernel
theorem dX6_list_18 : decode cX6_list 18 = .ok (.if_icmp .ne 7, 3) := by decide +kernel
def sgX6_list_21_abe91 : List Instr := [.iconst 2, .goto 4]
theorem sgX6_list_21_abe91d : am_dec cX6_list 21 sgX6_list_21_abe91 = true := by decide +kernel
def sgX6_list_25_56c54 : List Instr := [.iconst 0]
theorem sgX6_list_25_56c54d : am_dec cX6_list 25 sgX6_list_25_56c54 = true := by decide +kernel
def sgX6_list_38_34db8 : List Instr := [.aload_n 0]
theorem sgX6_list_38_34db8d : am_dec cX6_list 38 sgX6_list_38_34db8 = true := by decide +kernel
theorem dX6_list_39 : decode cX6_list 39 = .ok (.getfield 28, 3) := by decide +kernel
def sgX6_list_42_34db8 : List Instr := [.aload_n 0]
theorem sgX6_list_42_34db8d : am_dec cX6_list 42 sgX6_list_42_34db8 = true := by decide +kernel
theorem dX6_list_43 : decode cX6_list 43 = .ok (.getfield 112, 3) := by decide +kernel
def sgX6_list_46_840bf : List Instr := [.iload_n 1]
theorem sgX6_list_46_840bfd : am_dec cX6_list 46 sgX6_list_46_840bf = true := by decide +kernel
theorem dX6_list_47 : decode cX6_list 47 = .ok (.iastore, 1) := by decide +kernel
def sgX6_list_48_34db8 : List Instr := [.aload_n 0]
theorem sgX6_list_48_34db8d : am_dec cX6_list 48 sgX6_list_48_34db8 = true := by decide +kernel
theorem dX6_list_49 : decode cX6_list 49 = .ok (.getfield 31, 3) := by decide +kernel
def sgX6_list_52_34db8 : List Instr := [.aload_n 0]
theorem sgX6_list_52_34db8d : am_dec cX6_list 52 sgX6_list_52_34db8 = true := by decide +kernel
theorem dX6_list_53 : decode cX6_list 53 = .ok (.getfield 112, 3) := by decide +kernel
def sgX6_list_56_ee951 : List Instr := [.bipush 10]
theorem sgX6_list_56_ee951d : am_dec cX6_list 56 sgX6_list_56_ee951 = true := by decide +kernel
theorem dX6_list_58 : decode cX6_list 58 = .ok (.iastore, 1) := by decide +kernel
def sgX6_list_59_34db8 : List Instr := [.aload_n 0]
theorem sgX6_list_59_34db8d : am_dec cX6_list 59 sgX6_list_59_34db8 = true := by decide +kernel
theorem dX6_list_60 : decode cX6_list 60 = .ok (.getfield 34, 3) := by decide +kernel
def sgX6_list_63_34db8 : List Instr := [.aload_n 0]
theorem sgX6_list_63_34db8d : am_dec cX6_list 63 sgX6_list_63_34db8 = true := by decide +kernel
theorem dX6_list_64 : decode cX6_list 64 = .ok (.getfield 112, 3) := by decide +kernel
def sgX6_list_67_3252e : List Instr := [.bipush 7]
theorem sgX6_list_67_3252ed : am_dec cX6_list 67 sgX6_list_67_3252e = true := by decide +kernel
theorem dX6_list_69 : decode cX6_list 69 = .ok (.iastore, 1) := by decide +kernel
def sgX6_list_70_01fef : List Instr := [.iconst 0, .istore_n 2]
theorem sgX6_list_70_01fefd : am_dec cX6_list 70 sgX6_list_70_01fef = true := by decide +kernel
def sgX6_list_72_32dd9 : List Instr := [.iload_n 2, .bipush 16]
theorem sgX6_list_72_32dd9d : am_dec cX6_list 72 sgX6_list_72_32dd9 = true := by decide +kernel
theorem dX6_list_75 : decode cX6_list 75 = .ok (.if_icmp .ge 24, 3) := by decide +kernel
def sgX6_list_99_da752 : List Instr := [.aload_n 0, .dup]
theorem sgX6_list_99_da752d : am_dec cX6_list 99 sgX6_list_99_da752 = true := by decide +kernel
theorem dX6_list_101 : decode cX6_list 101 = .ok (.getfield 112, 3) := by decide +kernel
def sgX6_list_104_c7176 : List Instr := [.iconst 1, .iadd]
theorem sgX6_list_104_c7176d : am_dec cX6_list 104 sgX6_list_104_c7176 = true := by decide +kernel
theorem dX6_list_106 : decode cX6_list 106 = .ok (.putfield 112, 3) := by decide +kernel
def sgX6_list_109_34db8 : List Instr := [.aload_n 0]
theorem sgX6_list_109_34db8d : am_dec cX6_list 109 sgX6_list_109_34db8 = true := by decide +kernel
theorem dX6_list_110 : decode cX6_list 110 = .ok (.getfield 112, 3) := by decide +kernel
def sgX6_list_113_d80e0 : List Instr := [.iconst 1, .isub]
theorem sgX6_list_113_d80e0d : am_dec cX6_list 113 sgX6_list_113_d80e0 = true := by decide +kernel
theorem dX6_list_115 : decode cX6_list 115 = .ok (.ireturn, 1) := by decide +kernel
def sgX6_list_78_34db8 : List Instr := [.aload_n 0]
theorem sgX6_list_78_34db8d : am_dec cX6_list 78 sgX6_list_78_34db8 = true := by decide +kernel
theorem dX6_list_79 : decode cX6_list 79 = .ok (.getfield 47, 3) := by decide +kernel
def sgX6_list_82_55b4e : List Instr := [.bipush 16, .aload_n 0]
theorem sgX6_list_82_55b4ed : am_dec cX6_list 82 sgX6_list_82_55b4e = true := by decide +kernel
theorem dX6_list_85 : decode cX6_list 85 = .ok (.getfield 112, 3) := by decide +kernel
def sgX6_list_88_c1fe6 : List Instr := [.imul, .iload_n 2, .iadd, .iconst (-1)]
theorem sgX6_list_88_c1fe6d : am_dec cX6_list 88 sgX6_list_88_c1fe6 = true := by decide +kernel
theorem dX6_list_92 : decode cX6_list 92 = .ok (.iastore, 1) := by decide +kernel
def sgX6_list_93_5d3eb : List Instr := [.iinc 2 1, .goto (-24)]
theorem sgX6_list_93_5d3ebd : am_dec cX6_list 93 sgX6_list_93_5d3eb = true := by decide +kernel
def sgX6_join_0_6b3ba : List Instr := [.aload_n 0, .aload_n 0, .iload_n 1]
theorem sgX6_join_0_6b3bad : am_dec cX6_join 0 sgX6_join_0_6b3ba = true := by decide +kernel
theorem dX6_join_3 : decode cX6_join 3 = .ok (.invokevirtual 122, 3) := by decide +kernel
theorem dX6_join_6 : decode cX6_join 6 = .ok (.ifCond .eq 10, 3) := by decide +kernel
def sgX6_join_16_102f3 : List Instr := [.iconst 1, .goto 17]
theorem sgX6_join_16_102f3d : am_dec cX6_join 16 sgX6_join_16_102f3 = true := by decide +kernel
theorem dX6_join_34 : decode cX6_join 34 = .ok (.putfield 104, 3) := by decide +kernel
def sgX6_join_37_34db8 : List Instr := [.aload_n 0]
theorem sgX6_join_37_34db8d : am_dec cX6_join 37 sgX6_join_37_34db8 = true := by decide +kernel
theorem dX6_join_38 : decode cX6_join 38 = .ok (.getfield 104, 3) := by decide +kernel
theorem dX6_join_41 : decode cX6_join 41 = .ok (.ifCond .le 5, 3) := by decide +kernel
def sgX6_join_44_56c54 : List Instr := [.iconst 0]
theorem sgX6_join_44_56c54d : am_dec cX6_join 44 sgX6_join_44_56c54 = true := by decide +kernel
theorem dX6_join_45 : decode cX6_join 45 = .ok (.ireturn, 1) := by decide +kernel
def sgX6_join_9_f8a59 : List Instr := [.iload_n 2]
theorem sgX6_join_9_f8a59d : am_dec cX6_join 9 sgX6_join_9_f8a59 = true := by decide +kernel
theorem dX6_join_10 : decode cX6_join 10 = .ok (.invokestatic 118, 3) := by decide +kernel
theorem dX6_join_13 : decode cX6_join 13 = .ok (.ifCond .ne 7, 3) := by decide +kernel
def sgX6_join_20_1d545 : List Instr := [.iload_n 3, .iconst 0, .iconst 1]
theorem sgX6_join_20_1d545d : am_dec cX6_join 20 sgX6_join_20_1d545 = true := by decide +kernel
theorem dX6_join_23 : decode cX6_join 23 = .ok (.invokestatic 108, 3) := by decide +kernel
theorem dX6_join_26 : decode cX6_join 26 = .ok (.ifCond .eq 7, 3) := by decide +kernel
def sgX6_join_33_d5620 : List Instr := [.iconst 2]
theorem sgX6_join_33_d5620d : am_dec cX6_join 33 sgX6_join_33_d5620 = true := by decide +kernel
def sgX6_join_29_1cbe9 : List Instr := [.iconst 0, .goto 4]
theorem sgX6_join_29_1cbe9d : am_dec cX6_join 29 sgX6_join_29_1cbe9 = true := by decide +kernel
def sgX6_join_46_c81f7 : List Instr := [.aload_n 0, .aload_n 0]
theorem sgX6_join_46_c81f7d : am_dec cX6_join 46 sgX6_join_46_c81f7 = true := by decide +kernel
theorem dX6_join_48 : decode cX6_join 48 = .ok (.getfield 47, 3) := by decide +kernel
def sgX6_join_51_b6bf4 : List Instr := [.bipush 16, .iload_n 1, .imul, .iload_n 2, .iadd]
theorem sgX6_join_51_b6bf4d : am_dec cX6_join 51 sgX6_join_51_b6bf4 = true := by decide +kernel
theorem dX6_join_57 : decode cX6_join 57 = .ok (.iaload, 1) := by decide +kernel
def sgX6_join_58_5ff24 : List Instr := [.iconst (-1)]
theorem sgX6_join_58_5ff24d : am_dec cX6_join 58 sgX6_join_58_5ff24 = true := by decide +kernel
theorem dX6_join_59 : decode cX6_join 59 = .ok (.if_icmp .ne 7, 3) := by decide +kernel
def sgX6_join_66_800cc : List Instr := [.iconst 3]
theorem sgX6_join_66_800ccd : am_dec cX6_join 66 sgX6_join_66_800cc = true := by decide +kernel
theorem dX6_join_67 : decode cX6_join 67 = .ok (.putfield 104, 3) := by decide +kernel
def sgX6_join_70_34db8 : List Instr := [.aload_n 0]
theorem sgX6_join_70_34db8d : am_dec cX6_join 70 sgX6_join_70_34db8 = true := by decide +kernel
theorem dX6_join_71 : decode cX6_join 71 = .ok (.getfield 104, 3) := by decide +kernel
theorem dX6_join_74 : decode cX6_join 74 = .ok (.ifCond .le 5, 3) := by decide +kernel
def sgX6_join_77_56c54 : List Instr := [.iconst 0]
theorem sgX6_join_77_56c54d : am_dec cX6_join 77 sgX6_join_77_56c54 = true := by decide +kernel
theorem dX6_join_78 : decode cX6_join 78 = .ok (.ireturn, 1) := by decide +kernel
def sgX6_join_62_1cbe9 : List Instr := [.iconst 0, .goto 4]
theorem sgX6_join_62_1cbe9d : am_dec cX6_join 62 sgX6_join_62_1cbe9 = true := by decide +kernel
def sgX6_join_79_34db8 : List Instr := [.aload_n 0]
theorem sgX6_join_79_34db8d : am_dec cX6_join 79 sgX6_join_79_34db8 = true := by decide +kernel
theorem dX6_join_80 : decode cX6_join 80 = .ok (.getfield 47, 3) := by decide +kernel
def sgX6_join_83_e725d : List Instr := [.bipush 16, .iload_n 1, .imul, .iload_n 2, .iadd, .iload_n 3]
theorem sgX6_join_83_e725dd : am_dec cX6_join 83 sgX6_join_83_e725d = true := by decide +kernel
theorem dX6_join_90 : decode cX6_join 90 = .ok (.iastore, 1) := by decide +kernel
def sgX6_join_91_8bcf7 : List Instr := [.aload_n 0, .iload_n 1]
theorem sgX6_join_91_8bcf7d : am_dec cX6_join 91 sgX6_join_91_8bcf7 = true := by decide +kernel
theorem dX6_join_93 : decode cX6_join 93 = .ok (.invokevirtual 125, 3) := by decide +kernel
theorem dX6_join_96 : decode cX6_join 96 = .ok (.ireturn, 1) := by decide +kernel
def sgX6_mode_0_6b3ba : List Instr := [.aload_n 0, .aload_n 0, .iload_n 1]
theorem sgX6_mode_0_6b3bad : am_dec cX6_mode 0 sgX6_mode_0_6b3ba = true := by decide +kernel
theorem dX6_mode_3 : decode cX6_mode 3 = .ok (.invokevirtual 122, 3) := by decide +kernel
theorem dX6_mode_6 : decode cX6_mode 6 = .ok (.ifCond .eq 10, 3) := by decide +kernel
def sgX6_mode_16_102f3 : List Instr := [.iconst 1, .goto 17]
theorem sgX6_mode_16_102f3d : am_dec cX6_mode 16 sgX6_mode_16_102f3 = true := by decide +kernel
theorem dX6_mode_34 : decode cX6_mode 34 = .ok (.putfield 104, 3) := by decide +kernel
def sgX6_mode_37_34db8 : List Instr := [.aload_n 0]
theorem sgX6_mode_37_34db8d : am_dec cX6_mode 37 sgX6_mode_37_34db8 = true := by decide +kernel
theorem dX6_mode_38 : decode cX6_mode 38 = .ok (.getfield 104, 3) := by decide +kernel
theorem dX6_mode_41 : decode cX6_mode 41 = .ok (.ifCond .le 5, 3) := by decide +kernel
def sgX6_mode_44_56c54 : List Instr := [.iconst 0]
theorem sgX6_mode_44_56c54d : am_dec cX6_mode 44 sgX6_mode_44_56c54 = true := by decide +kernel
theorem dX6_mode_45 : decode cX6_mode 45 = .ok (.ireturn, 1) := by decide +kernel
def sgX6_mode_9_f8a59 : List Instr := [.iload_n 2]
theorem sgX6_mode_9_f8a59d : am_dec cX6_mode 9 sgX6_mode_9_f8a59 = true := by decide +kernel
theorem dX6_mode_10 : decode cX6_mode 10 = .ok (.invokestatic 118, 3) := by decide +kernel
theorem dX6_mode_13 : decode cX6_mode 13 = .ok (.ifCond .ne 7, 3) := by decide +kernel
def sgX6_mode_20_1d545 : List Instr := [.iload_n 3, .iconst 0, .iconst 1]
theorem sgX6_mode_20_1d545d : am_dec cX6_mode 20 sgX6_mode_20_1d545 = true := by decide +kernel
theorem dX6_mode_23 : decode cX6_mode 23 = .ok (.invokestatic 108, 3) := by decide +kernel
theorem dX6_mode_26 : decode cX6_mode 26 = .ok (.ifCond .eq 7, 3) := by decide +kernel
def sgX6_mode_33_d5620 : List Instr := [.iconst 2]
theorem sgX6_mode_33_d5620d : am_dec cX6_mode 33 sgX6_mode_33_d5620 = true := by decide +kernel
def sgX6_mode_29_1cbe9 : List Instr := [.iconst 0, .goto 4]
theorem sgX6_mode_29_1cbe9d : am_dec cX6_mode 29 sgX6_mode_29_1cbe9 = true := by decide +kernel
def sgX6_mode_46_34db8 : List Instr := [.aload_n 0]
theorem sgX6_mode_46_34db8d : am_dec cX6_mode 46 sgX6_mode_46_34db8 = true := by decide +kernel
theorem dX6_mode_47 : decode cX6_mode 47 = .ok (.getfield 47, 3) := by decide +kernel
def sgX6_mode_50_b6bf4 : List Instr := [.bipush 16, .iload_n 1, .imul, .iload_n 2, .iadd]
theorem sgX6_mode_50_b6bf4d : am_dec cX6_mode 50 sgX6_mode_50_b6bf4 = true := by decide +kernel
theorem dX6_mode_56 : decode cX6_mode 56 = .ok (.iaload, 1) := by decide +kernel
def sgX6_mode_57_71957 : List Instr := [.istore 4, .aload_n 0, .iload 4, .iconst (-1)]
theorem sgX6_mode_57_71957d : am_dec cX6_mode 57 sgX6_mode_57_71957 = true := by decide +kernel
theorem dX6_mode_63 : decode cX6_mode 63 = .ok (.if_icmp .ne 7, 3) := by decide +kernel
def sgX6_mode_66_5c8a0 : List Instr := [.iconst 3, .goto 4]
theorem sgX6_mode_66_5c8a0d : am_dec cX6_mode 66 sgX6_mode_66_5c8a0 = true := by decide +kernel
theorem dX6_mode_71 : decode cX6_mode 71 = .ok (.putfield 104, 3) := by decide +kernel
def sgX6_mode_74_34db8 : List Instr := [.aload_n 0]
theorem sgX6_mode_74_34db8d : am_dec cX6_mode 74 sgX6_mode_74_34db8 = true := by decide +kernel
theorem dX6_mode_75 : decode cX6_mode 75 = .ok (.getfield 104, 3) := by decide +kernel
theorem dX6_mode_78 : decode cX6_mode 78 = .ok (.ifCond .le 5, 3) := by decide +kernel
def sgX6_mode_81_56c54 : List Instr := [.iconst 0]
theorem sgX6_mode_81_56c54d : am_dec cX6_mode 81 sgX6_mode_81_56c54 = true := by decide +kernel
theorem dX6_mode_82 : decode cX6_mode 82 = .ok (.ireturn, 1) := by decide +kernel
def sgX6_mode_70_56c54 : List Instr := [.iconst 0]
theorem sgX6_mode_70_56c54d : am_dec cX6_mode 70 sgX6_mode_70_56c54 = true := by decide +kernel
def sgX6_mode_83_34db8 : List Instr := [.aload_n 0]
theorem sgX6_mode_83_34db8d : am_dec cX6_mode 83 sgX6_mode_83_34db8 = true := by decide +kernel
theorem dX6_mode_84 : decode cX6_mode 84 = .ok (.getfield 47, 3) := by decide +kernel
def sgX6_mode_87_e725d : List Instr := [.bipush 16, .iload_n 1, .imul, .iload_n 2, .iadd, .iload_n 3]
theorem sgX6_mode_87_e725dd : am_dec cX6_mode 87 sgX6_mode_87_e725d = true := by decide +kernel
theorem dX6_mode_94 : decode cX6_mode 94 = .ok (.iastore, 1) := by decide +kernel
def sgX6_mode_95_c6742 : List Instr := [.iload 4]
theorem sgX6_mode_95_c6742d : am_dec cX6_mode 95 sgX6_mode_95_c6742 = true := by decide +kernel
theorem dX6_mode_97 : decode cX6_mode 97 = .ok (.ireturn, 1) := by decide +kernel
def sgX6_leave_0_6b3ba : List Instr := [.aload_n 0, .aload_n 0, .iload_n 1]
theorem sgX6_leave_0_6b3bad : am_dec cX6_leave 0 sgX6_leave_0_6b3ba = true := by decide +kernel
theorem dX6_leave_3 : decode cX6_leave 3 = .ok (.invokevirtual 122, 3) := by decide +kernel
theorem dX6_leave_6 : decode cX6_leave 6 = .ok (.ifCond .eq 14, 3) := by decide +kernel
def sgX6_leave_20_4de0a : List Instr := [.iconst 1]
theorem sgX6_leave_20_4de0ad : am_dec cX6_leave 20 sgX6_leave_20_4de0a = true := by decide +kernel
theorem dX6_leave_21 : decode cX6_leave 21 = .ok (.putfield 104, 3) := by decide +kernel
def sgX6_leave_24_34db8 : List Instr := [.aload_n 0]
theorem sgX6_leave_24_34db8d : am_dec cX6_leave 24 sgX6_leave_24_34db8 = true := by decide +kernel
theorem dX6_leave_25 : decode cX6_leave 25 = .ok (.getfield 104, 3) := by decide +kernel
theorem dX6_leave_28 : decode cX6_leave 28 = .ok (.ifCond .le 5, 3) := by decide +kernel
def sgX6_leave_31_56c54 : List Instr := [.iconst 0]
theorem sgX6_leave_31_56c54d : am_dec cX6_leave 31 sgX6_leave_31_56c54 = true := by decide +kernel
theorem dX6_leave_32 : decode cX6_leave 32 = .ok (.ireturn, 1) := by decide +kernel
def sgX6_leave_9_f8a59 : List Instr := [.iload_n 2]
theorem sgX6_leave_9_f8a59d : am_dec cX6_leave 9 sgX6_leave_9_f8a59 = true := by decide +kernel
theorem dX6_leave_10 : decode cX6_leave 10 = .ok (.invokestatic 118, 3) := by decide +kernel
theorem dX6_leave_13 : decode cX6_leave 13 = .ok (.ifCond .eq 7, 3) := by decide +kernel
def sgX6_leave_16_1cbe9 : List Instr := [.iconst 0, .goto 4]
theorem sgX6_leave_16_1cbe9d : am_dec cX6_leave 16 sgX6_leave_16_1cbe9 = true := by decide +kernel
def sgX6_leave_33_34db8 : List Instr := [.aload_n 0]
theorem sgX6_leave_33_34db8d : am_dec cX6_leave 33 sgX6_leave_33_34db8 = true := by decide +kernel
theorem dX6_leave_34 : decode cX6_leave 34 = .ok (.getfield 47, 3) := by decide +kernel
def sgX6_leave_37_b6bf4 : List Instr := [.bipush 16, .iload_n 1, .imul, .iload_n 2, .iadd]
theorem sgX6_leave_37_b6bf4d : am_dec cX6_leave 37 sgX6_leave_37_b6bf4 = true := by decide +kernel
theorem dX6_leave_43 : decode cX6_leave 43 = .ok (.iaload, 1) := by decide +kernel
def sgX6_leave_44_8d6bf : List Instr := [.istore_n 3, .aload_n 0, .iload_n 3, .iconst (-1)]
theorem sgX6_leave_44_8d6bfd : am_dec cX6_leave 44 sgX6_leave_44_8d6bf = true := by decide +kernel
theorem dX6_leave_48 : decode cX6_leave 48 = .ok (.if_icmp .ne 7, 3) := by decide +kernel
def sgX6_leave_51_abe91 : List Instr := [.iconst 2, .goto 4]
theorem sgX6_leave_51_abe91d : am_dec cX6_leave 51 sgX6_leave_51_abe91 = true := by decide +kernel
theorem dX6_leave_56 : decode cX6_leave 56 = .ok (.putfield 104, 3) := by decide +kernel
def sgX6_leave_59_34db8 : List Instr := [.aload_n 0]
theorem sgX6_leave_59_34db8d : am_dec cX6_leave 59 sgX6_leave_59_34db8 = true := by decide +kernel
theorem dX6_leave_60 : decode cX6_leave 60 = .ok (.getfield 47, 3) := by decide +kernel
def sgX6_leave_63_8a281 : List Instr := [.bipush 16, .iload_n 1, .imul, .iload_n 2, .iadd, .iconst (-1)]
theorem sgX6_leave_63_8a281d : am_dec cX6_leave 63 sgX6_leave_63_8a281 = true := by decide +kernel
theorem dX6_leave_70 : decode cX6_leave 70 = .ok (.iastore, 1) := by decide +kernel
def sgX6_leave_71_34db8 : List Instr := [.aload_n 0]
theorem sgX6_leave_71_34db8d : am_dec cX6_leave 71 sgX6_leave_71_34db8 = true := by decide +kernel
theorem dX6_leave_72 : decode cX6_leave 72 = .ok (.getfield 104, 3) := by decide +kernel
theorem dX6_leave_75 : decode cX6_leave 75 = .ok (.ifCond .le 7, 3) := by decide +kernel
def sgX6_leave_78_1cbe9 : List Instr := [.iconst 0, .goto 4]
theorem sgX6_leave_78_1cbe9d : am_dec cX6_leave 78 sgX6_leave_78_1cbe9 = true := by decide +kernel
theorem dX6_leave_83 : decode cX6_leave 83 = .ok (.ireturn, 1) := by decide +kernel
def sgX6_leave_55_56c54 : List Instr := [.iconst 0]
theorem sgX6_leave_55_56c54d : am_dec cX6_leave 55 sgX6_leave_55_56c54 = true := by decide +kernel
def sgX6_leave_82_13b50 : List Instr := [.iload_n 3]
theorem sgX6_leave_82_13b50d : am_dec cX6_leave 82 sgX6_leave_82_13b50 = true := by decide +kernel
def sgX6_nest_0_6b3ba : List Instr := [.aload_n 0, .aload_n 0, .iload_n 1]
theorem sgX6_nest_0_6b3bad : am_dec cX6_nest 0 sgX6_nest_0_6b3ba = true := by decide +kernel
theorem dX6_nest_3 : decode cX6_nest 3 = .ok (.invokevirtual 122, 3) := by decide +kernel
theorem dX6_nest_6 : decode cX6_nest 6 = .ok (.ifCond .eq 15, 3) := by decide +kernel
def sgX6_nest_21_4de0a : List Instr := [.iconst 1]
theorem sgX6_nest_21_4de0ad : am_dec cX6_nest 21 sgX6_nest_21_4de0a = true := by decide +kernel
theorem dX6_nest_22 : decode cX6_nest 22 = .ok (.putfield 104, 3) := by decide +kernel
def sgX6_nest_25_34db8 : List Instr := [.aload_n 0]
theorem sgX6_nest_25_34db8d : am_dec cX6_nest 25 sgX6_nest_25_34db8 = true := by decide +kernel
theorem dX6_nest_26 : decode cX6_nest 26 = .ok (.getfield 104, 3) := by decide +kernel
theorem dX6_nest_29 : decode cX6_nest 29 = .ok (.ifCond .le 5, 3) := by decide +kernel
def sgX6_nest_32_56c54 : List Instr := [.iconst 0]
theorem sgX6_nest_32_56c54d : am_dec cX6_nest 32 sgX6_nest_32_56c54 = true := by decide +kernel
theorem dX6_nest_33 : decode cX6_nest 33 = .ok (.ireturn, 1) := by decide +kernel
def sgX6_nest_9_78e74 : List Instr := [.aload_n 0, .iload_n 2]
theorem sgX6_nest_9_78e74d : am_dec cX6_nest 9 sgX6_nest_9_78e74 = true := by decide +kernel
theorem dX6_nest_11 : decode cX6_nest 11 = .ok (.invokevirtual 122, 3) := by decide +kernel
theorem dX6_nest_14 : decode cX6_nest 14 = .ok (.ifCond .eq 7, 3) := by decide +kernel
def sgX6_nest_17_1cbe9 : List Instr := [.iconst 0, .goto 4]
theorem sgX6_nest_17_1cbe9d : am_dec cX6_nest 17 sgX6_nest_17_1cbe9 = true := by decide +kernel
def sgX6_nest_34_34db8 : List Instr := [.aload_n 0]
theorem sgX6_nest_34_34db8d : am_dec cX6_nest 34 sgX6_nest_34_34db8 = true := by decide +kernel
theorem dX6_nest_35 : decode cX6_nest 35 = .ok (.getfield 44, 3) := by decide +kernel
def sgX6_nest_38_840bf : List Instr := [.iload_n 1]
theorem sgX6_nest_38_840bfd : am_dec cX6_nest 38 sgX6_nest_38_840bf = true := by decide +kernel
theorem dX6_nest_39 : decode cX6_nest 39 = .ok (.iaload, 1) := by decide +kernel
def sgX6_nest_40_89201 : List Instr := [.iload_n 2, .ishr, .iconst 1, .iand, .iconst 1]
theorem sgX6_nest_40_89201d : am_dec cX6_nest 40 sgX6_nest_40_89201 = true := by decide +kernel
theorem dX6_nest_45 : decode cX6_nest 45 = .ok (.if_icmp .ne 7, 3) := by decide +kernel
def sgX6_nest_52_05adf : List Instr := [.iconst 0, .istore_n 3, .aload_n 0, .iload_n 3]
theorem sgX6_nest_52_05adfd : am_dec cX6_nest 52 sgX6_nest_52_05adf = true := by decide +kernel
theorem dX6_nest_56 : decode cX6_nest 56 = .ok (.ifCond .ne 20, 3) := by decide +kernel
def sgX6_nest_59_78e74 : List Instr := [.aload_n 0, .iload_n 2]
theorem sgX6_nest_59_78e74d : am_dec cX6_nest 59 sgX6_nest_59_78e74 = true := by decide +kernel
theorem dX6_nest_61 : decode cX6_nest 61 = .ok (.invokevirtual 129, 3) := by decide +kernel
def sgX6_nest_64_43adf : List Instr := [.iload_n 1, .ishr, .iconst 1, .iand, .iconst 1]
theorem sgX6_nest_64_43adfd : am_dec cX6_nest 64 sgX6_nest_64_43adf = true := by decide +kernel
theorem dX6_nest_69 : decode cX6_nest 69 = .ok (.if_icmp .ne 7, 3) := by decide +kernel
def sgX6_nest_72_abe91 : List Instr := [.iconst 2, .goto 4]
theorem sgX6_nest_72_abe91d : am_dec cX6_nest 72 sgX6_nest_72_abe91 = true := by decide +kernel
theorem dX6_nest_77 : decode cX6_nest 77 = .ok (.putfield 104, 3) := by decide +kernel
def sgX6_nest_80_34db8 : List Instr := [.aload_n 0]
theorem sgX6_nest_80_34db8d : am_dec cX6_nest 80 sgX6_nest_80_34db8 = true := by decide +kernel
theorem dX6_nest_81 : decode cX6_nest 81 = .ok (.getfield 104, 3) := by decide +kernel
theorem dX6_nest_84 : decode cX6_nest 84 = .ok (.ifCond .le 5, 3) := by decide +kernel
def sgX6_nest_87_56c54 : List Instr := [.iconst 0]
theorem sgX6_nest_87_56c54d : am_dec cX6_nest 87 sgX6_nest_87_56c54 = true := by decide +kernel
theorem dX6_nest_88 : decode cX6_nest 88 = .ok (.ireturn, 1) := by decide +kernel
def sgX6_nest_76_56c54 : List Instr := [.iconst 0]
theorem sgX6_nest_76_56c54d : am_dec cX6_nest 76 sgX6_nest_76_56c54 = true := by decide +kernel
def sgX6_nest_89_34db8 : List Instr := [.aload_n 0]
theorem sgX6_nest_89_34db8d : am_dec cX6_nest 89 sgX6_nest_89_34db8 = true := by decide +kernel
theorem dX6_nest_90 : decode cX6_nest 90 = .ok (.getfield 44, 3) := by decide +kernel
def sgX6_nest_93_563cd : List Instr := [.iload_n 1, .dup2]
theorem sgX6_nest_93_563cdd : am_dec cX6_nest 93 sgX6_nest_93_563cd = true := by decide +kernel
theorem dX6_nest_95 : decode cX6_nest 95 = .ok (.iaload, 1) := by decide +kernel
def sgX6_nest_96_0d86e : List Instr := [.iconst 1, .iload_n 2, .ishl, .ixor]
theorem sgX6_nest_96_0d86ed : am_dec cX6_nest 96 sgX6_nest_96_0d86e = true := by decide +kernel
theorem dX6_nest_100 : decode cX6_nest 100 = .ok (.iastore, 1) := by decide +kernel
def sgX6_nest_101_13b50 : List Instr := [.iload_n 3]
theorem sgX6_nest_101_13b50d : am_dec cX6_nest 101 sgX6_nest_101_13b50 = true := by decide +kernel
theorem dX6_nest_102 : decode cX6_nest 102 = .ok (.ifCond .ne 7, 3) := by decide +kernel
def sgX6_nest_105_1c64c : List Instr := [.iconst 1, .goto 4]
theorem sgX6_nest_105_1c64cd : am_dec cX6_nest 105 sgX6_nest_105_1c64c = true := by decide +kernel
theorem dX6_nest_110 : decode cX6_nest 110 = .ok (.ireturn, 1) := by decide +kernel
def sgX6_nest_48_63fa2 : List Instr := [.iconst 1, .goto 4, .istore_n 3, .aload_n 0, .iload_n 3]
theorem sgX6_nest_48_63fa2d : am_dec cX6_nest 48 sgX6_nest_48_63fa2 = true := by decide +kernel
def sgX6_nest_109_56c54 : List Instr := [.iconst 0]
theorem sgX6_nest_109_56c54d : am_dec cX6_nest 109 sgX6_nest_109_56c54 = true := by decide +kernel
def sgX6_rules_0_6b3ba : List Instr := [.aload_n 0, .aload_n 0, .iload_n 1]
theorem sgX6_rules_0_6b3bad : am_dec cX6_rules 0 sgX6_rules_0_6b3ba = true := by decide +kernel
theorem dX6_rules_3 : decode cX6_rules 3 = .ok (.invokevirtual 122, 3) := by decide +kernel
theorem dX6_rules_6 : decode cX6_rules 6 = .ok (.ifCond .ne 7, 3) := by decide +kernel
def sgX6_rules_9_b69fd : List Instr := [.iconst 1, .goto 29]
theorem sgX6_rules_9_b69fdd : am_dec cX6_rules 9 sgX6_rules_9_b69fd = true := by decide +kernel
theorem dX6_rules_39 : decode cX6_rules 39 = .ok (.putfield 104, 3) := by decide +kernel
def sgX6_rules_42_34db8 : List Instr := [.aload_n 0]
theorem sgX6_rules_42_34db8d : am_dec cX6_rules 42 sgX6_rules_42_34db8 = true := by decide +kernel
theorem dX6_rules_43 : decode cX6_rules 43 = .ok (.getfield 104, 3) := by decide +kernel
theorem dX6_rules_46 : decode cX6_rules 46 = .ok (.ifCond .le 5, 3) := by decide +kernel
def sgX6_rules_49_56c54 : List Instr := [.iconst 0]
theorem sgX6_rules_49_56c54d : am_dec cX6_rules 49 sgX6_rules_49_56c54 = true := by decide +kernel
theorem dX6_rules_50 : decode cX6_rules 50 = .ok (.ireturn, 1) := by decide +kernel
def sgX6_rules_13_bd672 : List Instr := [.iload_n 2, .iconst 1, .sipush 200]
theorem sgX6_rules_13_bd672d : am_dec cX6_rules 13 sgX6_rules_13_bd672 = true := by decide +kernel
theorem dX6_rules_18 : decode cX6_rules 18 = .ok (.invokestatic 108, 3) := by decide +kernel
theorem dX6_rules_21 : decode cX6_rules 21 = .ok (.ifCond .eq 17, 3) := by decide +kernel
def sgX6_rules_38_d5620 : List Instr := [.iconst 2]
theorem sgX6_rules_38_d5620d : am_dec cX6_rules 38 sgX6_rules_38_d5620 = true := by decide +kernel
def sgX6_rules_24_13ba5 : List Instr := [.iload_n 3, .iconst 1, .bipush 30]
theorem sgX6_rules_24_13ba5d : am_dec cX6_rules 24 sgX6_rules_24_13ba5 = true := by decide +kernel
theorem dX6_rules_28 : decode cX6_rules 28 = .ok (.invokestatic 108, 3) := by decide +kernel
theorem dX6_rules_31 : decode cX6_rules 31 = .ok (.ifCond .eq 7, 3) := by decide +kernel
def sgX6_rules_34_1cbe9 : List Instr := [.iconst 0, .goto 4]
theorem sgX6_rules_34_1cbe9d : am_dec cX6_rules 34 sgX6_rules_34_1cbe9 = true := by decide +kernel
def sgX6_rules_51_34db8 : List Instr := [.aload_n 0]
theorem sgX6_rules_51_34db8d : am_dec cX6_rules 51 sgX6_rules_51_34db8 = true := by decide +kernel
theorem dX6_rules_52 : decode cX6_rules 52 = .ok (.getfield 31, 3) := by decide +kernel
def sgX6_rules_55_840bf : List Instr := [.iload_n 1]
theorem sgX6_rules_55_840bfd : am_dec cX6_rules 55 sgX6_rules_55_840bf = true := by decide +kernel
theorem dX6_rules_56 : decode cX6_rules 56 = .ok (.iaload, 1) := by decide +kernel
def sgX6_rules_57_edbce : List Instr := [.istore 5, .aload_n 0]
theorem sgX6_rules_57_edbced : am_dec cX6_rules 57 sgX6_rules_57_edbce = true := by decide +kernel
theorem dX6_rules_60 : decode cX6_rules 60 = .ok (.getfield 31, 3) := by decide +kernel
def sgX6_rules_63_5601b : List Instr := [.iload_n 1, .iload_n 2]
theorem sgX6_rules_63_5601bd : am_dec cX6_rules 63 sgX6_rules_63_5601b = true := by decide +kernel
theorem dX6_rules_65 : decode cX6_rules 65 = .ok (.iastore, 1) := by decide +kernel
def sgX6_rules_66_34db8 : List Instr := [.aload_n 0]
theorem sgX6_rules_66_34db8d : am_dec cX6_rules 66 sgX6_rules_66_34db8 = true := by decide +kernel
theorem dX6_rules_67 : decode cX6_rules 67 = .ok (.getfield 34, 3) := by decide +kernel
def sgX6_rules_70_20da6 : List Instr := [.iload_n 1, .iload_n 3]
theorem sgX6_rules_70_20da6d : am_dec cX6_rules 70 sgX6_rules_70_20da6 = true := by decide +kernel
theorem dX6_rules_72 : decode cX6_rules 72 = .ok (.iastore, 1) := by decide +kernel
def sgX6_rules_73_34db8 : List Instr := [.aload_n 0]
theorem sgX6_rules_73_34db8d : am_dec cX6_rules 73 sgX6_rules_73_34db8 = true := by decide +kernel
theorem dX6_rules_74 : decode cX6_rules 74 = .ok (.getfield 37, 3) := by decide +kernel
def sgX6_rules_77_f40ee : List Instr := [.iload_n 1, .iload 4]
theorem sgX6_rules_77_f40eed : am_dec cX6_rules 77 sgX6_rules_77_f40ee = true := by decide +kernel
theorem dX6_rules_80 : decode cX6_rules 80 = .ok (.bastore, 1) := by decide +kernel
def sgX6_rules_81_9df92 : List Instr := [.iload 5]
theorem sgX6_rules_81_9df92d : am_dec cX6_rules 81 sgX6_rules_81_9df92 = true := by decide +kernel
theorem dX6_rules_83 : decode cX6_rules 83 = .ok (.ireturn, 1) := by decide +kernel
def sgX6_bar_0_6b3ba : List Instr := [.aload_n 0, .aload_n 0, .iload_n 1]
theorem sgX6_bar_0_6b3bad : am_dec cX6_bar 0 sgX6_bar_0_6b3ba = true := by decide +kernel
theorem dX6_bar_3 : decode cX6_bar 3 = .ok (.invokevirtual 122, 3) := by decide +kernel
theorem dX6_bar_6 : decode cX6_bar 6 = .ok (.ifCond .eq 14, 3) := by decide +kernel
def sgX6_bar_20_4de0a : List Instr := [.iconst 1]
theorem sgX6_bar_20_4de0ad : am_dec cX6_bar 20 sgX6_bar_20_4de0a = true := by decide +kernel
theorem dX6_bar_21 : decode cX6_bar 21 = .ok (.putfield 104, 3) := by decide +kernel
def sgX6_bar_24_34db8 : List Instr := [.aload_n 0]
theorem sgX6_bar_24_34db8d : am_dec cX6_bar 24 sgX6_bar_24_34db8 = true := by decide +kernel
theorem dX6_bar_25 : decode cX6_bar 25 = .ok (.getfield 104, 3) := by decide +kernel
theorem dX6_bar_28 : decode cX6_bar 28 = .ok (.ifCond .le 5, 3) := by decide +kernel
def sgX6_bar_31_56c54 : List Instr := [.iconst 0]
theorem sgX6_bar_31_56c54d : am_dec cX6_bar 31 sgX6_bar_31_56c54 = true := by decide +kernel
theorem dX6_bar_32 : decode cX6_bar 32 = .ok (.ireturn, 1) := by decide +kernel
def sgX6_bar_9_f8a59 : List Instr := [.iload_n 2]
theorem sgX6_bar_9_f8a59d : am_dec cX6_bar 9 sgX6_bar_9_f8a59 = true := by decide +kernel
theorem dX6_bar_10 : decode cX6_bar 10 = .ok (.invokestatic 118, 3) := by decide +kernel
theorem dX6_bar_13 : decode cX6_bar 13 = .ok (.ifCond .eq 7, 3) := by decide +kernel
def sgX6_bar_16_1cbe9 : List Instr := [.iconst 0, .goto 4]
theorem sgX6_bar_16_1cbe9d : am_dec cX6_bar 16 sgX6_bar_16_1cbe9 = true := by decide +kernel
def sgX6_bar_33_34db8 : List Instr := [.aload_n 0]
theorem sgX6_bar_33_34db8d : am_dec cX6_bar 33 sgX6_bar_33_34db8 = true := by decide +kernel
theorem dX6_bar_34 : decode cX6_bar 34 = .ok (.getfield 41, 3) := by decide +kernel
def sgX6_bar_37_563cd : List Instr := [.iload_n 1, .dup2]
theorem sgX6_bar_37_563cdd : am_dec cX6_bar 37 sgX6_bar_37_563cd = true := by decide +kernel
theorem dX6_bar_39 : decode cX6_bar 39 = .ok (.iaload, 1) := by decide +kernel
def sgX6_bar_40_0d86e : List Instr := [.iconst 1, .iload_n 2, .ishl, .ixor]
theorem sgX6_bar_40_0d86ed : am_dec cX6_bar 40 sgX6_bar_40_0d86e = true := by decide +kernel
theorem dX6_bar_44 : decode cX6_bar 44 = .ok (.iastore, 1) := by decide +kernel
def sgX6_bar_45_34db8 : List Instr := [.aload_n 0]
theorem sgX6_bar_45_34db8d : am_dec cX6_bar 45 sgX6_bar_45_34db8 = true := by decide +kernel
theorem dX6_bar_46 : decode cX6_bar 46 = .ok (.getfield 41, 3) := by decide +kernel
def sgX6_bar_49_840bf : List Instr := [.iload_n 1]
theorem sgX6_bar_49_840bfd : am_dec cX6_bar 49 sgX6_bar_49_840bf = true := by decide +kernel
theorem dX6_bar_50 : decode cX6_bar 50 = .ok (.iaload, 1) := by decide +kernel
def sgX6_bar_51_89201 : List Instr := [.iload_n 2, .ishr, .iconst 1, .iand, .iconst 1]
theorem sgX6_bar_51_89201d : am_dec cX6_bar 51 sgX6_bar_51_89201 = true := by decide +kernel
theorem dX6_bar_56 : decode cX6_bar 56 = .ok (.if_icmp .ne 7, 3) := by decide +kernel
def sgX6_bar_59_1c64c : List Instr := [.iconst 1, .goto 4]
theorem sgX6_bar_59_1c64cd : am_dec cX6_bar 59 sgX6_bar_59_1c64c = true := by decide +kernel
theorem dX6_bar_64 : decode cX6_bar 64 = .ok (.ireturn, 1) := by decide +kernel
def sgX6_bar_63_56c54 : List Instr := [.iconst 0]
theorem sgX6_bar_63_56c54d : am_dec cX6_bar 63 sgX6_bar_63_56c54 = true := by decide +kernel
def sgX6_word_0_6e259 : List Instr := [.aload_n 0, .iload_n 1, .iconst 0, .bipush 19]
theorem sgX6_word_0_6e259d : am_dec cX6_word 0 sgX6_word_0_6e259 = true := by decide +kernel
theorem dX6_word_5 : decode cX6_word 5 = .ok (.invokestatic 108, 3) := by decide +kernel
theorem dX6_word_8 : decode cX6_word 8 = .ok (.ifCond .ne 7, 3) := by decide +kernel
def sgX6_word_11_0ea85 : List Instr := [.iconst 1, .goto 19]
theorem sgX6_word_11_0ea85d : am_dec cX6_word 11 sgX6_word_11_0ea85 = true := by decide +kernel
theorem dX6_word_31 : decode cX6_word 31 = .ok (.putfield 104, 3) := by decide +kernel
def sgX6_word_34_34db8 : List Instr := [.aload_n 0]
theorem sgX6_word_34_34db8d : am_dec cX6_word 34 sgX6_word_34_34db8 = true := by decide +kernel
theorem dX6_word_35 : decode cX6_word 35 = .ok (.getfield 104, 3) := by decide +kernel
theorem dX6_word_38 : decode cX6_word 38 = .ok (.ifCond .le 5, 3) := by decide +kernel
def sgX6_word_41_56c54 : List Instr := [.iconst 0]
theorem sgX6_word_41_56c54d : am_dec cX6_word 41 sgX6_word_41_56c54 = true := by decide +kernel
theorem dX6_word_42 : decode cX6_word 42 = .ok (.ireturn, 1) := by decide +kernel
def sgX6_word_15_f8e78 : List Instr := [.iload_n 2, .bipush (-20), .bipush 50]
theorem sgX6_word_15_f8e78d : am_dec cX6_word 15 sgX6_word_15_f8e78 = true := by decide +kernel
theorem dX6_word_20 : decode cX6_word 20 = .ok (.invokestatic 108, 3) := by decide +kernel
theorem dX6_word_23 : decode cX6_word 23 = .ok (.ifCond .eq 7, 3) := by decide +kernel
def sgX6_word_30_d5620 : List Instr := [.iconst 2]
theorem sgX6_word_30_d5620d : am_dec cX6_word 30 sgX6_word_30_d5620 = true := by decide +kernel
def sgX6_word_26_1cbe9 : List Instr := [.iconst 0, .goto 4]
theorem sgX6_word_26_1cbe9d : am_dec cX6_word 26 sgX6_word_26_1cbe9 = true := by decide +kernel
def sgX6_word_43_34db8 : List Instr := [.aload_n 0]
theorem sgX6_word_43_34db8d : am_dec cX6_word 43 sgX6_word_43_34db8 = true := by decide +kernel
theorem dX6_word_44 : decode cX6_word 44 = .ok (.getfield 7, 3) := by decide +kernel
def sgX6_word_47_840bf : List Instr := [.iload_n 1]
theorem sgX6_word_47_840bfd : am_dec cX6_word 47 sgX6_word_47_840bf = true := by decide +kernel
theorem dX6_word_48 : decode cX6_word 48 = .ok (.iaload, 1) := by decide +kernel
def sgX6_word_49_a034f : List Instr := [.istore_n 3, .aload_n 0]
theorem sgX6_word_49_a034fd : am_dec cX6_word 49 sgX6_word_49_a034f = true := by decide +kernel
theorem dX6_word_51 : decode cX6_word 51 = .ok (.getfield 7, 3) := by decide +kernel
def sgX6_word_54_5601b : List Instr := [.iload_n 1, .iload_n 2]
theorem sgX6_word_54_5601bd : am_dec cX6_word 54 sgX6_word_54_5601b = true := by decide +kernel
theorem dX6_word_56 : decode cX6_word 56 = .ok (.iastore, 1) := by decide +kernel
def sgX6_word_57_13b50 : List Instr := [.iload_n 3]
theorem sgX6_word_57_13b50d : am_dec cX6_word 57 sgX6_word_57_13b50 = true := by decide +kernel
theorem dX6_word_58 : decode cX6_word 58 = .ok (.ireturn, 1) := by decide +kernel
def sgX6_reaches_0_6b3ba : List Instr := [.aload_n 0, .aload_n 0, .iload_n 1]
theorem sgX6_reaches_0_6b3bad : am_dec cX6_reaches 0 sgX6_reaches_0_6b3ba = true := by decide +kernel
theorem dX6_reaches_3 : decode cX6_reaches 3 = .ok (.invokevirtual 122, 3) := by decide +kernel
theorem dX6_reaches_6 : decode cX6_reaches 6 = .ok (.ifCond .eq 7, 3) := by decide +kernel
def sgX6_reaches_13_4de0a : List Instr := [.iconst 1]
theorem sgX6_reaches_13_4de0ad : am_dec cX6_reaches 13 sgX6_reaches_13_4de0a = true := by decide +kernel
theorem dX6_reaches_14 : decode cX6_reaches 14 = .ok (.putfield 104, 3) := by decide +kernel
def sgX6_reaches_17_34db8 : List Instr := [.aload_n 0]
theorem sgX6_reaches_17_34db8d : am_dec cX6_reaches 17 sgX6_reaches_17_34db8 = true := by decide +kernel
theorem dX6_reaches_18 : decode cX6_reaches 18 = .ok (.getfield 104, 3) := by decide +kernel
theorem dX6_reaches_21 : decode cX6_reaches 21 = .ok (.ifCond .le 7, 3) := by decide +kernel
def sgX6_reaches_24_0d2e2 : List Instr := [.iconst 0, .goto 8]
theorem sgX6_reaches_24_0d2e2d : am_dec cX6_reaches 24 sgX6_reaches_24_0d2e2 = true := by decide +kernel
theorem dX6_reaches_33 : decode cX6_reaches 33 = .ok (.ireturn, 1) := by decide +kernel
def sgX6_reaches_9_1cbe9 : List Instr := [.iconst 0, .goto 4]
theorem sgX6_reaches_9_1cbe9d : am_dec cX6_reaches 9 sgX6_reaches_9_1cbe9 = true := by decide +kernel
def sgX6_reaches_28_8bcf7 : List Instr := [.aload_n 0, .iload_n 1]
theorem sgX6_reaches_28_8bcf7d : am_dec cX6_reaches 28 sgX6_reaches_28_8bcf7 = true := by decide +kernel
theorem dX6_reaches_30 : decode cX6_reaches 30 = .ok (.invokevirtual 136, 3) := by decide +kernel
def sgX6_reachesByMembers_0_6b3ba : List Instr := [.aload_n 0, .aload_n 0, .iload_n 1]
theorem sgX6_reachesByMembers_0_6b3bad : am_dec cX6_reachesByMembers 0 sgX6_reachesByMembers_0_6b3ba = true := by decide +kernel
theorem dX6_reachesByMembers_3 : decode cX6_reachesByMembers 3 = .ok (.invokevirtual 122, 3) := by decide +kernel
theorem dX6_reachesByMembers_6 : decode cX6_reachesByMembers 6 = .ok (.ifCond .eq 7, 3) := by decide +kernel
def sgX6_reachesByMembers_13_4de0a : List Instr := [.iconst 1]
theorem sgX6_reachesByMembers_13_4de0ad : am_dec cX6_reachesByMembers 13 sgX6_reachesByMembers_13_4de0a = true := by decide +kernel
theorem dX6_reachesByMembers_14 : decode cX6_reachesByMembers 14 = .ok (.putfield 104, 3) := by decide +kernel
def sgX6_reachesByMembers_17_34db8 : List Instr := [.aload_n 0]
theorem sgX6_reachesByMembers_17_34db8d : am_dec cX6_reachesByMembers 17 sgX6_reachesByMembers_17_34db8 = true := by decide +kernel
theorem dX6_reachesByMembers_18 : decode cX6_reachesByMembers 18 = .ok (.getfield 104, 3) := by decide +kernel
theorem dX6_reachesByMembers_21 : decode cX6_reachesByMembers 21 = .ok (.ifCond .le 7, 3) := by decide +kernel
def sgX6_reachesByMembers_24_0d2e2 : List Instr := [.iconst 0, .goto 8]
theorem sgX6_reachesByMembers_24_0d2e2d : am_dec cX6_reachesByMembers 24 sgX6_reachesByMembers_24_0d2e2 = true := by decide +kernel
theorem dX6_reachesByMembers_33 : decode cX6_reachesByMembers 33 = .ok (.ireturn, 1) := by decide +kernel
def sgX6_reachesByMembers_9_1cbe9 : List Instr := [.iconst 0, .goto 4]
theorem sgX6_reachesByMembers_9_1cbe9d : am_dec cX6_reachesByMembers 9 sgX6_reachesByMembers_9_1cbe9 = true := by decide +kernel
def sgX6_reachesByMembers_28_8bcf7 : List Instr := [.aload_n 0, .iload_n 1]
theorem sgX6_reachesByMembers_28_8bcf7d : am_dec cX6_reachesByMembers 28 sgX6_reachesByMembers_28_8bcf7 = true := by decide +kernel
theorem dX6_reachesByMembers_30 : decode cX6_reachesByMembers 30 = .ok (.invokevirtual 136, 3) := by decide +kernel
def sgX6_modeOf_0_6b3ba : List Instr := [.aload_n 0, .aload_n 0, .iload_n 1]
theorem sgX6_modeOf_0_6b3bad : am_dec cX6_modeOf 0 sgX6_modeOf_0_6b3ba = true := by decide +kernel
theorem dX6_modeOf_3 : decode cX6_modeOf 3 = .ok (.invokevirtual 122, 3) := by decide +kernel
theorem dX6_modeOf_6 : decode cX6_modeOf 6 = .ok (.ifCond .eq 14, 3) := by decide +kernel
def sgX6_modeOf_20_4de0a : List Instr := [.iconst 1]
theorem sgX6_modeOf_20_4de0ad : am_dec cX6_modeOf 20 sgX6_modeOf_20_4de0a = true := by decide +kernel
theorem dX6_modeOf_21 : decode cX6_modeOf 21 = .ok (.putfield 104, 3) := by decide +kernel
def sgX6_modeOf_24_34db8 : List Instr := [.aload_n 0]
theorem sgX6_modeOf_24_34db8d : am_dec cX6_modeOf 24 sgX6_modeOf_24_34db8 = true := by decide +kernel
theorem dX6_modeOf_25 : decode cX6_modeOf 25 = .ok (.getfield 104, 3) := by decide +kernel
theorem dX6_modeOf_28 : decode cX6_modeOf 28 = .ok (.ifCond .le 7, 3) := by decide +kernel
def sgX6_modeOf_31_077ad : List Instr := [.iconst 0, .goto 9]
theorem sgX6_modeOf_31_077add : am_dec cX6_modeOf 31 sgX6_modeOf_31_077ad = true := by decide +kernel
theorem dX6_modeOf_41 : decode cX6_modeOf 41 = .ok (.ireturn, 1) := by decide +kernel
def sgX6_modeOf_9_f8a59 : List Instr := [.iload_n 2]
theorem sgX6_modeOf_9_f8a59d : am_dec cX6_modeOf 9 sgX6_modeOf_9_f8a59 = true := by decide +kernel
theorem dX6_modeOf_10 : decode cX6_modeOf 10 = .ok (.invokestatic 118, 3) := by decide +kernel
theorem dX6_modeOf_13 : decode cX6_modeOf 13 = .ok (.ifCond .eq 7, 3) := by decide +kernel
def sgX6_modeOf_16_1cbe9 : List Instr := [.iconst 0, .goto 4]
theorem sgX6_modeOf_16_1cbe9d : am_dec cX6_modeOf 16 sgX6_modeOf_16_1cbe9 = true := by decide +kernel
def sgX6_modeOf_35_8dee2 : List Instr := [.aload_n 0, .iload_n 1, .iload_n 2]
theorem sgX6_modeOf_35_8dee2d : am_dec cX6_modeOf 35 sgX6_modeOf_35_8dee2 = true := by decide +kernel
theorem dX6_modeOf_38 : decode cX6_modeOf 38 = .ok (.invokevirtual 139, 3) := by decide +kernel
set_option maxRecDepth 100000 in
set_option maxHeartbeats 4000000 in
theorem c_r_list_1 {G : am_S} {T S : am_T} {o : Nat → Int64} {x : Int32} (hx : x < 0 ∨ nI 16 ≤ x) : am_D G yX6_list (.code yX6_list cX6_list 3 (some .int) :: am_G) { frames := 2, cells := 0, slots := 0, locals := 42 } (hp T S o) [.ref 465, .int x] (hp T (st1 S 0 0 1) o) (some (.int 0)) := by
  refine am_of (by decide +kernel) (Nat.le_of_ble_eq_true rfl) ?_
  intro C hse hret hname hF hO
  subst hse
  refine am_go hF sgX6_list_0_8bcf7 2 [(0, .ref 465), (1, .int x)] [.int x, .ref 465] sgX6_list_0_8bcf7d rfl ?_
  refine am_dS hF hO [.int x] [.ref 465] (c_isPerson_f hx) myX6_isPerson syX6_isPerson lm_RX6_118 rfl 0 0 ⟨Nat.le_of_ble_eq_true rfl, Nat.le_of_ble_eq_true rfl⟩ ⟨Nat.le_of_ble_eq_true rfl, Nat.le_of_ble_eq_true rfl, Nat.le_of_ble_eq_true rfl, Nat.le_of_ble_eq_true rfl⟩ rfl (am_lv_ref (hp_m _ _ _) (am_lv_int (am_lv_ref (hp_m _ _ _) am_lv_nil))) (Nat.le_of_ble_eq_true rfl) dX6_list_2 [.int 0, .ref 465] rfl ?_
  refine am_ifne hF 12 dX6_list_5 (by decide) (fun h9 => False.elim ((by revert h9; decide))) (fun _ => ?_)
  refine am_go hF sgX6_list_8_102f3 26 [(0, .ref 465), (1, .int x)] [.int 1, .ref 465] sgX6_list_8_102f3d rfl ?_
  refine sv_put hF 0 (by decide) rfl rfl rfl lf_RX6_104 dX6_list_26 ?_
  refine am_go hF sgX6_list_29_34db8 30 [(0, .ref 465), (1, .int x)] [.ref 465] sgX6_list_29_34db8d rfl ?_
  refine sv_get hF 0 (by decide) rfl lf_RX6_104 (.int 1) rfl dX6_list_30 ?_
  refine am_ifle hF 38 dX6_list_33 (by decide) (fun h9 => False.elim ((by revert h9; decide))) (fun _ => ?_)
  refine am_go hF sgX6_list_36_56c54 37 [(0, .ref 465), (1, .int x)] [.int 0] sgX6_list_36_56c54d rfl ?_
  exact am_iret hF hO hret rfl dX6_list_37 ⟨rfl, rfl⟩
set_option maxRecDepth 100000 in
set_option maxHeartbeats 4000000 in
theorem c_r_list_2 {G : am_S} {T S : am_T} {o : Nat → Int64} {n : Nat} (hn : S 9 0 = nI n) (hn10 : n ≤ 10) {p : Nat} (hp9 : p < 16) (h10 : n = 10) : am_D G yX6_list (.code yX6_list cX6_list 3 (some .int) :: am_G) { frames := 2, cells := 0, slots := 0, locals := 42 } (hp T S o) [.ref 465, .int (nI p)] (hp T (st1 S 0 0 2) o) (some (.int 0)) := by
  refine am_of (by decide +kernel) (Nat.le_of_ble_eq_true rfl) ?_
  intro C hse hret hname hF hO
  subst hse
  refine am_go hF sgX6_list_0_8bcf7 2 [(0, .ref 465), (1, .int (nI p))] [.int (nI p), .ref 465] sgX6_list_0_8bcf7d rfl ?_
  refine am_dS hF hO [.int (nI p)] [.ref 465] (c_isPerson_t (show p < 16 by omega) rfl) myX6_isPerson syX6_isPerson lm_RX6_118 rfl 0 0 ⟨Nat.le_of_ble_eq_true rfl, Nat.le_of_ble_eq_true rfl⟩ ⟨Nat.le_of_ble_eq_true rfl, Nat.le_of_ble_eq_true rfl, Nat.le_of_ble_eq_true rfl, Nat.le_of_ble_eq_true rfl⟩ rfl (am_lv_ref (hp_m _ _ _) (am_lv_int (am_lv_ref (hp_m _ _ _) am_lv_nil))) (Nat.le_of_ble_eq_true rfl) dX6_list_2 [.int 1, .ref 465] rfl ?_
  refine am_ifne hF 12 dX6_list_5 (by decide) (fun _ => ?_) (fun h9 => False.elim ((by revert h9; decide)))
  refine am_go hF sgX6_list_12_34db8 13 [(0, .ref 465), (1, .int (nI p))] [.ref 465, .ref 465] sgX6_list_12_34db8d rfl ?_
  refine sv_get hF 9 (by decide) rfl lf_RX6_112 (.int (S 9 0)) rfl dX6_list_13 ?_
  refine am_top (nI n) hn ?_
  refine am_go hF sgX6_list_16_ee951 18 [(0, .ref 465), (1, .int (nI p))] [.int 10, .int (nI n), .ref 465] sgX6_list_16_ee951d rfl ?_
  refine am_icmpne hF 25 dX6_list_18 (by decide) (fun h9 => False.elim (nc_eq_f (show n = 10 by omega) (by omega) (by omega) rfl rfl h9)) (fun _ => ?_)
  refine am_go hF sgX6_list_21_abe91 26 [(0, .ref 465), (1, .int (nI p))] [.int 2, .ref 465] sgX6_list_21_abe91d rfl ?_
  refine sv_put hF 0 (by decide) rfl rfl rfl lf_RX6_104 dX6_list_26 ?_
  refine am_go hF sgX6_list_29_34db8 30 [(0, .ref 465), (1, .int (nI p))] [.ref 465] sgX6_list_29_34db8d rfl ?_
  refine sv_get hF 0 (by decide) rfl lf_RX6_104 (.int 2) rfl dX6_list_30 ?_
  refine am_ifle hF 38 dX6_list_33 (by decide) (fun h9 => False.elim ((by revert h9; decide))) (fun _ => ?_)
  refine am_go hF sgX6_list_36_56c54 37 [(0, .ref 465), (1, .int (nI p))] [.int 0] sgX6_list_36_56c54d rfl ?_
  exact am_iret hF hO hret rfl dX6_list_37 ⟨rfl, rfl⟩
set_option maxRecDepth 100000 in
set_option maxHeartbeats 4000000 in
theorem c_r_list_3 {G : am_S} {T S : am_T} {o : Nat → Int64} {n : Nat} (hn : S 9 0 = nI n) (hn10 : n ≤ 10) {p : Nat} (hp9 : p < 16) (h10 : n < 10) : am_D G yX6_list (.code yX6_list cX6_list 3 (some .int) :: am_G) { frames := 2, cells := 0, slots := 0, locals := 42 } (hp T S o) [.ref 465, .int (nI p)] (hp T (st1 (itN (fun k S1 => st1 S1 16 (16 * n + k) (-1)) (st1 (st1 (st1 (st1 S 0 0 0) 10 n (nI p)) 11 n 10) 12 n 7) 16) 9 0 (nI n + 1)) o) (some (.int (nI n))) := by
  refine am_of (by decide +kernel) (Nat.le_of_ble_eq_true rfl) ?_
  intro C hse hret hname hF hO
  subst hse
  refine am_go hF sgX6_list_0_8bcf7 2 [(0, .ref 465), (1, .int (nI p))] [.int (nI p), .ref 465] sgX6_list_0_8bcf7d rfl ?_
  refine am_dS hF hO [.int (nI p)] [.ref 465] (c_isPerson_t (show p < 16 by omega) rfl) myX6_isPerson syX6_isPerson lm_RX6_118 rfl 0 0 ⟨Nat.le_of_ble_eq_true rfl, Nat.le_of_ble_eq_true rfl⟩ ⟨Nat.le_of_ble_eq_true rfl, Nat.le_of_ble_eq_true rfl, Nat.le_of_ble_eq_true rfl, Nat.le_of_ble_eq_true rfl⟩ rfl (am_lv_ref (hp_m _ _ _) (am_lv_int (am_lv_ref (hp_m _ _ _) am_lv_nil))) (Nat.le_of_ble_eq_true rfl) dX6_list_2 [.int 1, .ref 465] rfl ?_
  refine am_ifne hF 12 dX6_list_5 (by decide) (fun _ => ?_) (fun h9 => False.elim ((by revert h9; decide)))
  refine am_go hF sgX6_list_12_34db8 13 [(0, .ref 465), (1, .int (nI p))] [.ref 465, .ref 465] sgX6_list_12_34db8d rfl ?_
  refine sv_get hF 9 (by decide) rfl lf_RX6_112 (.int (S 9 0)) rfl dX6_list_13 ?_
  refine am_top (nI n) hn ?_
  refine am_go hF sgX6_list_16_ee951 18 [(0, .ref 465), (1, .int (nI p))] [.int 10, .int (nI n), .ref 465] sgX6_list_16_ee951d rfl ?_
  refine am_icmpne hF 25 dX6_list_18 (by decide) (fun _ => ?_) (fun h9 => False.elim (absurd h9 (nc_ne (show n ≠ 10 by omega) (by omega) (by omega) rfl rfl)))
  refine am_go hF sgX6_list_25_56c54 26 [(0, .ref 465), (1, .int (nI p))] [.int 0, .ref 465] sgX6_list_25_56c54d rfl ?_
  refine sv_put hF 0 (by decide) rfl rfl rfl lf_RX6_104 dX6_list_26 ?_
  refine am_go hF sgX6_list_29_34db8 30 [(0, .ref 465), (1, .int (nI p))] [.ref 465] sgX6_list_29_34db8d rfl ?_
  refine sv_get hF 0 (by decide) rfl lf_RX6_104 (.int 0) rfl dX6_list_30 ?_
  refine am_ifle hF 38 dX6_list_33 (by decide) (fun _ => ?_) (fun h9 => False.elim ((by revert h9; decide)))
  refine am_go hF sgX6_list_38_34db8 39 [(0, .ref 465), (1, .int (nI p))] [.ref 465] sgX6_list_38_34db8d rfl ?_
  refine sv_get hF 10 (by decide) rfl lf_RX6_28 (.ref 510) rfl dX6_list_39 ?_
  refine am_go hF sgX6_list_42_34db8 43 [(0, .ref 465), (1, .int (nI p))] [.ref 465, .ref 510] sgX6_list_42_34db8d rfl ?_
  refine sv_get hF 9 (by decide) rfl lf_RX6_112 (.int (S 9 0)) rfl dX6_list_43 ?_
  refine am_top (nI n) hn ?_
  refine am_go hF sgX6_list_46_840bf 47 [(0, .ref 465), (1, .int (nI p))] [.int (nI p), .int (nI n), .ref 510] sgX6_list_46_840bfd rfl ?_
  refine sv_iast hF 10 (by decide) ⟨rfl, rfl, by decide⟩ n rfl (show n < 10 by omega) dX6_list_47 ?_
  refine am_go hF sgX6_list_48_34db8 49 [(0, .ref 465), (1, .int (nI p))] [.ref 465] sgX6_list_48_34db8d rfl ?_
  refine sv_get hF 11 (by decide) rfl lf_RX6_31 (.ref 511) rfl dX6_list_49 ?_
  refine am_go hF sgX6_list_52_34db8 53 [(0, .ref 465), (1, .int (nI p))] [.ref 465, .ref 511] sgX6_list_52_34db8d rfl ?_
  refine sv_get hF 9 (by decide) rfl lf_RX6_112 (.int (S 9 0)) rfl dX6_list_53 ?_
  refine am_top (nI n) hn ?_
  refine am_go hF sgX6_list_56_ee951 58 [(0, .ref 465), (1, .int (nI p))] [.int 10, .int (nI n), .ref 511] sgX6_list_56_ee951d rfl ?_
  refine sv_iast hF 11 (by decide) ⟨rfl, rfl, by decide⟩ n rfl (show n < 10 by omega) dX6_list_58 ?_
  refine am_go hF sgX6_list_59_34db8 60 [(0, .ref 465), (1, .int (nI p))] [.ref 465] sgX6_list_59_34db8d rfl ?_
  refine sv_get hF 12 (by decide) rfl lf_RX6_34 (.ref 512) rfl dX6_list_60 ?_
  refine am_go hF sgX6_list_63_34db8 64 [(0, .ref 465), (1, .int (nI p))] [.ref 465, .ref 512] sgX6_list_63_34db8d rfl ?_
  refine sv_get hF 9 (by decide) rfl lf_RX6_112 (.int (S 9 0)) rfl dX6_list_64 ?_
  refine am_top (nI n) hn ?_
  refine am_go hF sgX6_list_67_3252e 69 [(0, .ref 465), (1, .int (nI p))] [.int 7, .int (nI n), .ref 512] sgX6_list_67_3252ed rfl ?_
  refine sv_iast hF 12 (by decide) ⟨rfl, rfl, by decide⟩ n rfl (show n < 10 by omega) dX6_list_69 ?_
  refine am_go hF sgX6_list_70_01fef 72 [(2, .int 0), (0, .ref 465), (1, .int (nI p))] [] sgX6_list_70_01fefd rfl ?_
  refine am_drop [1, 2, 0] [(0, .ref 465), (1, .int (nI p)), (2, .int 0)] rfl ?_
  have lp72 : ∀ (zz j : Nat) (S1 : am_T), j + zz = 16 → S1 = itN (fun k S1 => st1 S1 16 (16 * n + k) (-1)) (st1 (st1 (st1 (st1 S 0 0 0) 10 n (nI p)) 11 n 10) 12 n 7) j → am_W C (hp T S1 o) 0 0 72 [(0, .ref 465), (1, .int (nI p)), (2, .int (nI j))] [] := by
    intro zz
    induction zz with
    | zero =>
      intro j S1 hj hS1
      have e9j : j = 16 := by omega
      have hn1 : S1 9 0 = nI n := by rw [hS1]; exact (congrFun (itN_f (F := fun k S1 => st1 S1 16 (16 * n + k) (-1)) 9 (fun k S => st1_f (show 9 ≠ 16 by decide)) _ j) 0).trans hn
      refine am_go hF sgX6_list_72_32dd9 75 [(0, .ref 465), (1, .int (nI p)), (2, .int (nI j))] [.int 16, .int (nI j)] sgX6_list_72_32dd9d rfl ?_
      refine am_icmpge hF 99 dX6_list_75 (by decide) (fun _ => ?_) (fun h9 => False.elim (absurd (nc_ge (show 16 ≤ j by omega) (by omega) (by omega) rfl rfl) h9))
      refine am_go hF sgX6_list_99_da752 101 [(0, .ref 465), (1, .int (nI p)), (2, .int (nI j))] [.ref 465, .ref 465] sgX6_list_99_da752d rfl ?_
      refine sv_get hF 9 (by decide) rfl lf_RX6_112 (.int (S1 9 0)) rfl dX6_list_101 ?_
      refine am_top (nI n) hn1 ?_
      refine am_go hF sgX6_list_104_c7176 106 [(0, .ref 465), (1, .int (nI p)), (2, .int (nI j))] [.int ((nI n) + 1), .ref 465] sgX6_list_104_c7176d rfl ?_
      refine sv_put hF 9 (by decide) rfl rfl rfl lf_RX6_112 dX6_list_106 ?_
      refine am_go hF sgX6_list_109_34db8 110 [(0, .ref 465), (1, .int (nI p)), (2, .int (nI j))] [.ref 465] sgX6_list_109_34db8d rfl ?_
      refine sv_get hF 9 (by decide) rfl lf_RX6_112 (.int ((nI n) + 1)) rfl dX6_list_110 ?_
      refine am_go hF sgX6_list_113_d80e0 115 [(0, .ref 465), (1, .int (nI p)), (2, .int (nI j))] [.int (((nI n) + 1) - 1)] sgX6_list_113_d80e0d rfl ?_
      refine am_top (nI n) (by rw [nI_1, nI_pred]) ?_
      exact am_iret hF hO hret rfl dX6_list_115 ⟨by rw [hS1, e9j], rfl⟩
    | succ zz ih72 =>
      intro j S1 hj hS1
      have l9j : j < 16 := by omega
      have hn1 : S1 9 0 = nI n := by rw [hS1]; exact (congrFun (itN_f (F := fun k S1 => st1 S1 16 (16 * n + k) (-1)) 9 (fun k S => st1_f (show 9 ≠ 16 by decide)) _ j) 0).trans hn
      refine am_go hF sgX6_list_72_32dd9 75 [(0, .ref 465), (1, .int (nI p)), (2, .int (nI j))] [.int 16, .int (nI j)] sgX6_list_72_32dd9d rfl ?_
      refine am_icmpge hF 99 dX6_list_75 (by decide) (fun h9 => False.elim (nc_lt_f (show j < 16 by omega) (by omega) (by omega) rfl rfl h9)) (fun _ => ?_)
      refine am_go hF sgX6_list_78_34db8 79 [(0, .ref 465), (1, .int (nI p)), (2, .int (nI j))] [.ref 465] sgX6_list_78_34db8d rfl ?_
      refine sv_get hF 16 (by decide) rfl lf_RX6_47 (.ref 516) rfl dX6_list_79 ?_
      refine am_go hF sgX6_list_82_55b4e 85 [(0, .ref 465), (1, .int (nI p)), (2, .int (nI j))] [.ref 465, .int 16, .ref 516] sgX6_list_82_55b4ed rfl ?_
      refine sv_get hF 9 (by decide) rfl lf_RX6_112 (.int (S1 9 0)) rfl dX6_list_85 ?_
      refine am_top (nI n) hn1 ?_
      refine am_go hF sgX6_list_88_c1fe6 92 [(0, .ref 465), (1, .int (nI p)), (2, .int (nI j))] [.int (-1), .int ((16 * (nI n)) + (nI j)), .ref 516] sgX6_list_88_c1fe6d rfl ?_
      refine sv_iast hF 16 (by decide) ⟨rfl, rfl, by decide⟩ ((16 * n) + j) (am_ad (am_mu rfl rfl) rfl) (show (16 * n) + j < 160 by omega) dX6_list_92 ?_
      refine am_go hF sgX6_list_93_5d3eb 72 [(2, .int ((nI j) + 1)), (0, .ref 465), (1, .int (nI p))] [] sgX6_list_93_5d3ebd rfl ?_
      refine am_drop [1, 2, 0] [(0, .ref 465), (1, .int (nI p)), (2, .int ((nI j) + 1))] rfl ?_
      refine am_eqL [(0, .ref 465), (1, .int (nI p)), (2, .int (nI (j + 1)))] (by rw [nI_1]) ?_
      exact ih72 (j + 1) (st1 S1 16 ((16 * n) + j) (-1)) (by omega) (by show _ = st1 (itN (fun k S1 => st1 S1 16 (16 * n + k) (-1)) (st1 (st1 (st1 (st1 S 0 0 0) 10 n (nI p)) 11 n 10) 12 n 7) j) 16 (16 * n + j) (-1); rw [← hS1])
  exact lp72 16 0 (st1 (st1 (st1 (st1 S 0 0 0) 10 n (nI p)) 11 n 10) 12 n 7) (by omega) rfl
set_option maxRecDepth 100000 in
set_option maxHeartbeats 4000000 in
theorem c_r_join_1 {G : am_S} {T S : am_T} {o : Nat → Int64} {n : Nat} (hn : S 9 0 = nI n) (hn10 : n ≤ 10) {x : Int32} (hx : x < 0 ∨ nI n ≤ x) {y z : Int32} : am_D G yX6_join (.code yX6_join cX6_join 4 (some .int) :: am_G) { frames := 2, cells := 0, slots := 0, locals := 43 } (hp T S o) [.ref 465, .int x, .int y, .int z] (hp T (st1 S 0 0 1) o) (some (.int 0)) := by
  refine am_of (by decide +kernel) (Nat.le_of_ble_eq_true rfl) ?_
  intro C hse hret hname hF hO
  subst hse
  refine am_go hF sgX6_join_0_6b3ba 3 [(0, .ref 465), (1, .int x), (2, .int y), (3, .int z)] [.int x, .ref 465, .ref 465] sgX6_join_0_6b3bad rfl ?_
  refine am_dV hF hO [.int x] [.ref 465] (c_isList_f (S := S) hn hn10 hx) myX6_isList vyX6_isList lm_RX6_122 (hp_m _ _ _) rfl rfl 0 0 ⟨Nat.le_of_ble_eq_true rfl, Nat.le_of_ble_eq_true rfl⟩ ⟨Nat.le_of_ble_eq_true rfl, Nat.le_of_ble_eq_true rfl, Nat.le_of_ble_eq_true rfl, Nat.le_of_ble_eq_true rfl⟩ rfl (am_lv_ref (hp_m _ _ _) (am_lv_int (am_lv_int (am_lv_int (am_lv_ref (hp_m _ _ _) am_lv_nil))))) (Nat.le_of_ble_eq_true rfl) dX6_join_3 [.int 0, .ref 465] rfl ?_
  refine am_ifeq hF 16 dX6_join_6 (by decide) (fun _ => ?_) (fun h9 => False.elim ((by revert h9; decide)))
  refine am_go hF sgX6_join_16_102f3 34 [(0, .ref 465), (1, .int x), (2, .int y), (3, .int z)] [.int 1, .ref 465] sgX6_join_16_102f3d rfl ?_
  refine sv_put hF 0 (by decide) rfl rfl rfl lf_RX6_104 dX6_join_34 ?_
  refine am_go hF sgX6_join_37_34db8 38 [(0, .ref 465), (1, .int x), (2, .int y), (3, .int z)] [.ref 465] sgX6_join_37_34db8d rfl ?_
  refine sv_get hF 0 (by decide) rfl lf_RX6_104 (.int 1) rfl dX6_join_38 ?_
  refine am_ifle hF 46 dX6_join_41 (by decide) (fun h9 => False.elim ((by revert h9; decide))) (fun _ => ?_)
  refine am_go hF sgX6_join_44_56c54 45 [(0, .ref 465), (1, .int x), (2, .int y), (3, .int z)] [.int 0] sgX6_join_44_56c54d rfl ?_
  exact am_iret hF hO hret rfl dX6_join_45 ⟨rfl, rfl⟩
set_option maxRecDepth 100000 in
set_option maxHeartbeats 4000000 in
theorem c_r_join_2 {G : am_S} {T S : am_T} {o : Nat → Int64} {n : Nat} (hn : S 9 0 = nI n) (hn10 : n ≤ 10) {l : Nat} (hl : l < n) {y : Int32} (hy : y < 0 ∨ nI 16 ≤ y) {z : Int32} : am_D G yX6_join (.code yX6_join cX6_join 4 (some .int) :: am_G) { frames := 2, cells := 0, slots := 0, locals := 43 } (hp T S o) [.ref 465, .int (nI l), .int y, .int z] (hp T (st1 S 0 0 1) o) (some (.int 0)) := by
  refine am_of (by decide +kernel) (Nat.le_of_ble_eq_true rfl) ?_
  intro C hse hret hname hF hO
  subst hse
  refine am_go hF sgX6_join_0_6b3ba 3 [(0, .ref 465), (1, .int (nI l)), (2, .int y), (3, .int z)] [.int (nI l), .ref 465, .ref 465] sgX6_join_0_6b3bad rfl ?_
  refine am_dV hF hO [.int (nI l)] [.ref 465] (c_isList_t (S := S) hn hn10 (show l < n by omega) rfl) myX6_isList vyX6_isList lm_RX6_122 (hp_m _ _ _) rfl rfl 0 0 ⟨Nat.le_of_ble_eq_true rfl, Nat.le_of_ble_eq_true rfl⟩ ⟨Nat.le_of_ble_eq_true rfl, Nat.le_of_ble_eq_true rfl, Nat.le_of_ble_eq_true rfl, Nat.le_of_ble_eq_true rfl⟩ rfl (am_lv_ref (hp_m _ _ _) (am_lv_int (am_lv_int (am_lv_int (am_lv_ref (hp_m _ _ _) am_lv_nil))))) (Nat.le_of_ble_eq_true rfl) dX6_join_3 [.int 1, .ref 465] rfl ?_
  refine am_ifeq hF 16 dX6_join_6 (by decide) (fun h9 => False.elim ((by revert h9; decide))) (fun _ => ?_)
  refine am_go hF sgX6_join_9_f8a59 10 [(0, .ref 465), (1, .int (nI l)), (2, .int y), (3, .int z)] [.int y, .ref 465] sgX6_join_9_f8a59d rfl ?_
  refine am_dS hF hO [.int y] [.ref 465] (c_isPerson_f hy) myX6_isPerson syX6_isPerson lm_RX6_118 rfl 0 0 ⟨Nat.le_of_ble_eq_true rfl, Nat.le_of_ble_eq_true rfl⟩ ⟨Nat.le_of_ble_eq_true rfl, Nat.le_of_ble_eq_true rfl, Nat.le_of_ble_eq_true rfl, Nat.le_of_ble_eq_true rfl⟩ rfl (am_lv_ref (hp_m _ _ _) (am_lv_int (am_lv_int (am_lv_int (am_lv_ref (hp_m _ _ _) am_lv_nil))))) (Nat.le_of_ble_eq_true rfl) dX6_join_10 [.int 0, .ref 465] rfl ?_
  refine am_ifne hF 20 dX6_join_13 (by decide) (fun h9 => False.elim ((by revert h9; decide))) (fun _ => ?_)
  refine am_go hF sgX6_join_16_102f3 34 [(0, .ref 465), (1, .int (nI l)), (2, .int y), (3, .int z)] [.int 1, .ref 465] sgX6_join_16_102f3d rfl ?_
  refine sv_put hF 0 (by decide) rfl rfl rfl lf_RX6_104 dX6_join_34 ?_
  refine am_go hF sgX6_join_37_34db8 38 [(0, .ref 465), (1, .int (nI l)), (2, .int y), (3, .int z)] [.ref 465] sgX6_join_37_34db8d rfl ?_
  refine sv_get hF 0 (by decide) rfl lf_RX6_104 (.int 1) rfl dX6_join_38 ?_
  refine am_ifle hF 46 dX6_join_41 (by decide) (fun h9 => False.elim ((by revert h9; decide))) (fun _ => ?_)
  refine am_go hF sgX6_join_44_56c54 45 [(0, .ref 465), (1, .int (nI l)), (2, .int y), (3, .int z)] [.int 0] sgX6_join_44_56c54d rfl ?_
  exact am_iret hF hO hret rfl dX6_join_45 ⟨rfl, rfl⟩
set_option maxRecDepth 100000 in
set_option maxHeartbeats 4000000 in
theorem c_r_join_3 {G : am_S} {T S : am_T} {o : Nat → Int64} {n : Nat} (hn : S 9 0 = nI n) (hn10 : n ≤ 10) {l : Nat} (hl : l < n) {p : Nat} (hp9 : p < 16) {z : Int32} (hz : z < 0 ∨ nI 2 ≤ z) : am_D G yX6_join (.code yX6_join cX6_join 4 (some .int) :: am_G) { frames := 2, cells := 0, slots := 0, locals := 43 } (hp T S o) [.ref 465, .int (nI l), .int (nI p), .int z] (hp T (st1 S 0 0 2) o) (some (.int 0)) := by
  refine am_of (by decide +kernel) (Nat.le_of_ble_eq_true rfl) ?_
  intro C hse hret hname hF hO
  subst hse
  refine am_go hF sgX6_join_0_6b3ba 3 [(0, .ref 465), (1, .int (nI l)), (2, .int (nI p)), (3, .int z)] [.int (nI l), .ref 465, .ref 465] sgX6_join_0_6b3bad rfl ?_
  refine am_dV hF hO [.int (nI l)] [.ref 465] (c_isList_t (S := S) hn hn10 (show l < n by omega) rfl) myX6_isList vyX6_isList lm_RX6_122 (hp_m _ _ _) rfl rfl 0 0 ⟨Nat.le_of_ble_eq_true rfl, Nat.le_of_ble_eq_true rfl⟩ ⟨Nat.le_of_ble_eq_true rfl, Nat.le_of_ble_eq_true rfl, Nat.le_of_ble_eq_true rfl, Nat.le_of_ble_eq_true rfl⟩ rfl (am_lv_ref (hp_m _ _ _) (am_lv_int (am_lv_int (am_lv_int (am_lv_ref (hp_m _ _ _) am_lv_nil))))) (Nat.le_of_ble_eq_true rfl) dX6_join_3 [.int 1, .ref 465] rfl ?_
  refine am_ifeq hF 16 dX6_join_6 (by decide) (fun h9 => False.elim ((by revert h9; decide))) (fun _ => ?_)
  refine am_go hF sgX6_join_9_f8a59 10 [(0, .ref 465), (1, .int (nI l)), (2, .int (nI p)), (3, .int z)] [.int (nI p), .ref 465] sgX6_join_9_f8a59d rfl ?_
  refine am_dS hF hO [.int (nI p)] [.ref 465] (c_isPerson_t (show p < 16 by omega) rfl) myX6_isPerson syX6_isPerson lm_RX6_118 rfl 0 0 ⟨Nat.le_of_ble_eq_true rfl, Nat.le_of_ble_eq_true rfl⟩ ⟨Nat.le_of_ble_eq_true rfl, Nat.le_of_ble_eq_true rfl, Nat.le_of_ble_eq_true rfl, Nat.le_of_ble_eq_true rfl⟩ rfl (am_lv_ref (hp_m _ _ _) (am_lv_int (am_lv_int (am_lv_int (am_lv_ref (hp_m _ _ _) am_lv_nil))))) (Nat.le_of_ble_eq_true rfl) dX6_join_10 [.int 1, .ref 465] rfl ?_
  refine am_ifne hF 20 dX6_join_13 (by decide) (fun _ => ?_) (fun h9 => False.elim ((by revert h9; decide)))
  refine am_go hF sgX6_join_20_1d545 23 [(0, .ref 465), (1, .int (nI l)), (2, .int (nI p)), (3, .int z)] [.int 1, .int 0, .int z, .ref 465] sgX6_join_20_1d545d rfl ?_
  refine am_dS hF hO [.int z, .int 0, .int 1] [.ref 465] (c_isIn_f (ii_f (m := 1) hz (by decide) rfl)) myX6_isIn syX6_isIn lm_RX6_108 rfl 0 0 ⟨Nat.le_of_ble_eq_true rfl, Nat.le_of_ble_eq_true rfl⟩ ⟨Nat.le_of_ble_eq_true rfl, Nat.le_of_ble_eq_true rfl, Nat.le_of_ble_eq_true rfl, Nat.le_of_ble_eq_true rfl⟩ rfl (am_lv_ref (hp_m _ _ _) (am_lv_int (am_lv_int (am_lv_int (am_lv_ref (hp_m _ _ _) am_lv_nil))))) (Nat.le_of_ble_eq_true rfl) dX6_join_23 [.int 0, .ref 465] rfl ?_
  refine am_ifeq hF 33 dX6_join_26 (by decide) (fun _ => ?_) (fun h9 => False.elim ((by revert h9; decide)))
  refine am_go hF sgX6_join_33_d5620 34 [(0, .ref 465), (1, .int (nI l)), (2, .int (nI p)), (3, .int z)] [.int 2, .ref 465] sgX6_join_33_d5620d rfl ?_
  refine sv_put hF 0 (by decide) rfl rfl rfl lf_RX6_104 dX6_join_34 ?_
  refine am_go hF sgX6_join_37_34db8 38 [(0, .ref 465), (1, .int (nI l)), (2, .int (nI p)), (3, .int z)] [.ref 465] sgX6_join_37_34db8d rfl ?_
  refine sv_get hF 0 (by decide) rfl lf_RX6_104 (.int 2) rfl dX6_join_38 ?_
  refine am_ifle hF 46 dX6_join_41 (by decide) (fun h9 => False.elim ((by revert h9; decide))) (fun _ => ?_)
  refine am_go hF sgX6_join_44_56c54 45 [(0, .ref 465), (1, .int (nI l)), (2, .int (nI p)), (3, .int z)] [.int 0] sgX6_join_44_56c54d rfl ?_
  exact am_iret hF hO hret rfl dX6_join_45 ⟨rfl, rfl⟩
set_option maxRecDepth 100000 in
set_option maxHeartbeats 4000000 in
theorem c_r_join_4 {G : am_S} {T S : am_T} {o : Nat → Int64} {n : Nat} (hn : S 9 0 = nI n) (hn10 : n ≤ 10) {l : Nat} (hl : l < n) {p : Nat} (hp9 : p < 16) {h : Nat} (hh : h < 2) (hmem : ¬ S 16 (16 * l + p) = -1) : am_D G yX6_join (.code yX6_join cX6_join 4 (some .int) :: am_G) { frames := 2, cells := 0, slots := 0, locals := 43 } (hp T S o) [.ref 465, .int (nI l), .int (nI p), .int (nI h)] (hp T (st1 (st1 S 0 0 0) 0 0 3) o) (some (.int 0)) := by
  refine am_of (by decide +kernel) (Nat.le_of_ble_eq_true rfl) ?_
  intro C hse hret hname hF hO
  subst hse
  refine am_go hF sgX6_join_0_6b3ba 3 [(0, .ref 465), (1, .int (nI l)), (2, .int (nI p)), (3, .int (nI h))] [.int (nI l), .ref 465, .ref 465] sgX6_join_0_6b3bad rfl ?_
  refine am_dV hF hO [.int (nI l)] [.ref 465] (c_isList_t (S := S) hn hn10 (show l < n by omega) rfl) myX6_isList vyX6_isList lm_RX6_122 (hp_m _ _ _) rfl rfl 0 0 ⟨Nat.le_of_ble_eq_true rfl, Nat.le_of_ble_eq_true rfl⟩ ⟨Nat.le_of_ble_eq_true rfl, Nat.le_of_ble_eq_true rfl, Nat.le_of_ble_eq_true rfl, Nat.le_of_ble_eq_true rfl⟩ rfl (am_lv_ref (hp_m _ _ _) (am_lv_int (am_lv_int (am_lv_int (am_lv_ref (hp_m _ _ _) am_lv_nil))))) (Nat.le_of_ble_eq_true rfl) dX6_join_3 [.int 1, .ref 465] rfl ?_
  refine am_ifeq hF 16 dX6_join_6 (by decide) (fun h9 => False.elim ((by revert h9; decide))) (fun _ => ?_)
  refine am_go hF sgX6_join_9_f8a59 10 [(0, .ref 465), (1, .int (nI l)), (2, .int (nI p)), (3, .int (nI h))] [.int (nI p), .ref 465] sgX6_join_9_f8a59d rfl ?_
  refine am_dS hF hO [.int (nI p)] [.ref 465] (c_isPerson_t (show p < 16 by omega) rfl) myX6_isPerson syX6_isPerson lm_RX6_118 rfl 0 0 ⟨Nat.le_of_ble_eq_true rfl, Nat.le_of_ble_eq_true rfl⟩ ⟨Nat.le_of_ble_eq_true rfl, Nat.le_of_ble_eq_true rfl, Nat.le_of_ble_eq_true rfl, Nat.le_of_ble_eq_true rfl⟩ rfl (am_lv_ref (hp_m _ _ _) (am_lv_int (am_lv_int (am_lv_int (am_lv_ref (hp_m _ _ _) am_lv_nil))))) (Nat.le_of_ble_eq_true rfl) dX6_join_10 [.int 1, .ref 465] rfl ?_
  refine am_ifne hF 20 dX6_join_13 (by decide) (fun _ => ?_) (fun h9 => False.elim ((by revert h9; decide)))
  refine am_go hF sgX6_join_20_1d545 23 [(0, .ref 465), (1, .int (nI l)), (2, .int (nI p)), (3, .int (nI h))] [.int 1, .int 0, .int (nI h), .ref 465] sgX6_join_20_1d545d rfl ?_
  refine am_dS hF hO [.int (nI h), .int 0, .int 1] [.ref 465] (c_isIn_t (ii_0 rfl (by omega) rfl) (ii_1 (m := 1) rfl (by omega) (by decide) rfl)) myX6_isIn syX6_isIn lm_RX6_108 rfl 0 0 ⟨Nat.le_of_ble_eq_true rfl, Nat.le_of_ble_eq_true rfl⟩ ⟨Nat.le_of_ble_eq_true rfl, Nat.le_of_ble_eq_true rfl, Nat.le_of_ble_eq_true rfl, Nat.le_of_ble_eq_true rfl⟩ rfl (am_lv_ref (hp_m _ _ _) (am_lv_int (am_lv_int (am_lv_int (am_lv_ref (hp_m _ _ _) am_lv_nil))))) (Nat.le_of_ble_eq_true rfl) dX6_join_23 [.int 1, .ref 465] rfl ?_
  refine am_ifeq hF 33 dX6_join_26 (by decide) (fun h9 => False.elim ((by revert h9; decide))) (fun _ => ?_)
  refine am_go hF sgX6_join_29_1cbe9 34 [(0, .ref 465), (1, .int (nI l)), (2, .int (nI p)), (3, .int (nI h))] [.int 0, .ref 465] sgX6_join_29_1cbe9d rfl ?_
  refine sv_put hF 0 (by decide) rfl rfl rfl lf_RX6_104 dX6_join_34 ?_
  refine am_go hF sgX6_join_37_34db8 38 [(0, .ref 465), (1, .int (nI l)), (2, .int (nI p)), (3, .int (nI h))] [.ref 465] sgX6_join_37_34db8d rfl ?_
  refine sv_get hF 0 (by decide) rfl lf_RX6_104 (.int 0) rfl dX6_join_38 ?_
  refine am_ifle hF 46 dX6_join_41 (by decide) (fun _ => ?_) (fun h9 => False.elim ((by revert h9; decide)))
  refine am_go hF sgX6_join_46_c81f7 48 [(0, .ref 465), (1, .int (nI l)), (2, .int (nI p)), (3, .int (nI h))] [.ref 465, .ref 465] sgX6_join_46_c81f7d rfl ?_
  refine sv_get hF 16 (by decide) rfl lf_RX6_47 (.ref 516) rfl dX6_join_48 ?_
  refine am_go hF sgX6_join_51_b6bf4 57 [(0, .ref 465), (1, .int (nI l)), (2, .int (nI p)), (3, .int (nI h))] [.int ((16 * (nI l)) + (nI p)), .ref 516, .ref 465] sgX6_join_51_b6bf4d rfl ?_
  refine sv_iald hF 16 (by decide) ⟨rfl, rfl, by decide⟩ ((16 * l) + p) (am_ad (am_mu rfl rfl) rfl) (show (16 * l) + p < 160 by omega) dX6_join_57 ?_
  refine am_top (S 16 ((16 * l) + p)) rfl ?_
  refine am_go hF sgX6_join_58_5ff24 59 [(0, .ref 465), (1, .int (nI l)), (2, .int (nI p)), (3, .int (nI h))] [.int (-1), .int (S 16 ((16 * l) + p)), .ref 465] sgX6_join_58_5ff24d rfl ?_
  refine am_icmpne hF 66 dX6_join_59 (by decide) (fun _ => ?_) (fun h9 => False.elim (absurd h9 hmem))
  refine am_go hF sgX6_join_66_800cc 67 [(0, .ref 465), (1, .int (nI l)), (2, .int (nI p)), (3, .int (nI h))] [.int 3, .ref 465] sgX6_join_66_800ccd rfl ?_
  refine sv_put hF 0 (by decide) rfl rfl rfl lf_RX6_104 dX6_join_67 ?_
  refine am_go hF sgX6_join_70_34db8 71 [(0, .ref 465), (1, .int (nI l)), (2, .int (nI p)), (3, .int (nI h))] [.ref 465] sgX6_join_70_34db8d rfl ?_
  refine sv_get hF 0 (by decide) rfl lf_RX6_104 (.int 3) rfl dX6_join_71 ?_
  refine am_ifle hF 79 dX6_join_74 (by decide) (fun h9 => False.elim ((by revert h9; decide))) (fun _ => ?_)
  refine am_go hF sgX6_join_77_56c54 78 [(0, .ref 465), (1, .int (nI l)), (2, .int (nI p)), (3, .int (nI h))] [.int 0] sgX6_join_77_56c54d rfl ?_
  exact am_iret hF hO hret rfl dX6_join_78 ⟨rfl, rfl⟩
set_option maxRecDepth 100000 in
set_option maxHeartbeats 4000000 in
theorem c_r_join_5 {G : am_S} {T S : am_T} {o : Nat → Int64} {n : Nat} (hn : S 9 0 = nI n) (hn10 : n ≤ 10) {l : Nat} (hl : l < n) {p : Nat} (hp9 : p < 16) {h : Nat} (hh : h < 2) (hmem : S 16 (16 * l + p) = -1) : am_D G yX6_join (.code yX6_join cX6_join 4 (some .int) :: am_G) { frames := 2, cells := 0, slots := 0, locals := 43 } (hp T S o) [.ref 465, .int (nI l), .int (nI p), .int (nI h)] (hp T (st1 (st1 (st1 S 0 0 0) 0 0 0) 16 ((16 * l) + p) (nI h)) o) (some (.int (rCnt (st1 (st1 (st1 S 0 0 0) 0 0 0) 16 ((16 * l) + p) (nI h)) l))) := by
  refine am_of (by decide +kernel) (Nat.le_of_ble_eq_true rfl) ?_
  intro C hse hret hname hF hO
  subst hse
  refine am_go hF sgX6_join_0_6b3ba 3 [(0, .ref 465), (1, .int (nI l)), (2, .int (nI p)), (3, .int (nI h))] [.int (nI l), .ref 465, .ref 465] sgX6_join_0_6b3bad rfl ?_
  refine am_dV hF hO [.int (nI l)] [.ref 465] (c_isList_t (S := S) hn hn10 (show l < n by omega) rfl) myX6_isList vyX6_isList lm_RX6_122 (hp_m _ _ _) rfl rfl 0 0 ⟨Nat.le_of_ble_eq_true rfl, Nat.le_of_ble_eq_true rfl⟩ ⟨Nat.le_of_ble_eq_true rfl, Nat.le_of_ble_eq_true rfl, Nat.le_of_ble_eq_true rfl, Nat.le_of_ble_eq_true rfl⟩ rfl (am_lv_ref (hp_m _ _ _) (am_lv_int (am_lv_int (am_lv_int (am_lv_ref (hp_m _ _ _) am_lv_nil))))) (Nat.le_of_ble_eq_true rfl) dX6_join_3 [.int 1, .ref 465] rfl ?_
  refine am_ifeq hF 16 dX6_join_6 (by decide) (fun h9 => False.elim ((by revert h9; decide))) (fun _ => ?_)
  refine am_go hF sgX6_join_9_f8a59 10 [(0, .ref 465), (1, .int (nI l)), (2, .int (nI p)), (3, .int (nI h))] [.int (nI p), .ref 465] sgX6_join_9_f8a59d rfl ?_
  refine am_dS hF hO [.int (nI p)] [.ref 465] (c_isPerson_t (show p < 16 by omega) rfl) myX6_isPerson syX6_isPerson lm_RX6_118 rfl 0 0 ⟨Nat.le_of_ble_eq_true rfl, Nat.le_of_ble_eq_true rfl⟩ ⟨Nat.le_of_ble_eq_true rfl, Nat.le_of_ble_eq_true rfl, Nat.le_of_ble_eq_true rfl, Nat.le_of_ble_eq_true rfl⟩ rfl (am_lv_ref (hp_m _ _ _) (am_lv_int (am_lv_int (am_lv_int (am_lv_ref (hp_m _ _ _) am_lv_nil))))) (Nat.le_of_ble_eq_true rfl) dX6_join_10 [.int 1, .ref 465] rfl ?_
  refine am_ifne hF 20 dX6_join_13 (by decide) (fun _ => ?_) (fun h9 => False.elim ((by revert h9; decide)))
  refine am_go hF sgX6_join_20_1d545 23 [(0, .ref 465), (1, .int (nI l)), (2, .int (nI p)), (3, .int (nI h))] [.int 1, .int 0, .int (nI h), .ref 465] sgX6_join_20_1d545d rfl ?_
  refine am_dS hF hO [.int (nI h), .int 0, .int 1] [.ref 465] (c_isIn_t (ii_0 rfl (by omega) rfl) (ii_1 (m := 1) rfl (by omega) (by decide) rfl)) myX6_isIn syX6_isIn lm_RX6_108 rfl 0 0 ⟨Nat.le_of_ble_eq_true rfl, Nat.le_of_ble_eq_true rfl⟩ ⟨Nat.le_of_ble_eq_true rfl, Nat.le_of_ble_eq_true rfl, Nat.le_of_ble_eq_true rfl, Nat.le_of_ble_eq_true rfl⟩ rfl (am_lv_ref (hp_m _ _ _) (am_lv_int (am_lv_int (am_lv_int (am_lv_ref (hp_m _ _ _) am_lv_nil))))) (Nat.le_of_ble_eq_true rfl) dX6_join_23 [.int 1, .ref 465] rfl ?_
  refine am_ifeq hF 33 dX6_join_26 (by decide) (fun h9 => False.elim ((by revert h9; decide))) (fun _ => ?_)
  refine am_go hF sgX6_join_29_1cbe9 34 [(0, .ref 465), (1, .int (nI l)), (2, .int (nI p)), (3, .int (nI h))] [.int 0, .ref 465] sgX6_join_29_1cbe9d rfl ?_
  refine sv_put hF 0 (by decide) rfl rfl rfl lf_RX6_104 dX6_join_34 ?_
  refine am_go hF sgX6_join_37_34db8 38 [(0, .ref 465), (1, .int (nI l)), (2, .int (nI p)), (3, .int (nI h))] [.ref 465] sgX6_join_37_34db8d rfl ?_
  refine sv_get hF 0 (by decide) rfl lf_RX6_104 (.int 0) rfl dX6_join_38 ?_
  refine am_ifle hF 46 dX6_join_41 (by decide) (fun _ => ?_) (fun h9 => False.elim ((by revert h9; decide)))
  refine am_go hF sgX6_join_46_c81f7 48 [(0, .ref 465), (1, .int (nI l)), (2, .int (nI p)), (3, .int (nI h))] [.ref 465, .ref 465] sgX6_join_46_c81f7d rfl ?_
  refine sv_get hF 16 (by decide) rfl lf_RX6_47 (.ref 516) rfl dX6_join_48 ?_
  refine am_go hF sgX6_join_51_b6bf4 57 [(0, .ref 465), (1, .int (nI l)), (2, .int (nI p)), (3, .int (nI h))] [.int ((16 * (nI l)) + (nI p)), .ref 516, .ref 465] sgX6_join_51_b6bf4d rfl ?_
  refine sv_iald hF 16 (by decide) ⟨rfl, rfl, by decide⟩ ((16 * l) + p) (am_ad (am_mu rfl rfl) rfl) (show (16 * l) + p < 160 by omega) dX6_join_57 ?_
  refine am_top (S 16 ((16 * l) + p)) rfl ?_
  refine am_go hF sgX6_join_58_5ff24 59 [(0, .ref 465), (1, .int (nI l)), (2, .int (nI p)), (3, .int (nI h))] [.int (-1), .int (S 16 ((16 * l) + p)), .ref 465] sgX6_join_58_5ff24d rfl ?_
  refine am_icmpne hF 66 dX6_join_59 (by decide) (fun h9 => False.elim (absurd hmem h9)) (fun _ => ?_)
  refine am_go hF sgX6_join_62_1cbe9 67 [(0, .ref 465), (1, .int (nI l)), (2, .int (nI p)), (3, .int (nI h))] [.int 0, .ref 465] sgX6_join_62_1cbe9d rfl ?_
  refine sv_put hF 0 (by decide) rfl rfl rfl lf_RX6_104 dX6_join_67 ?_
  refine am_go hF sgX6_join_70_34db8 71 [(0, .ref 465), (1, .int (nI l)), (2, .int (nI p)), (3, .int (nI h))] [.ref 465] sgX6_join_70_34db8d rfl ?_
  refine sv_get hF 0 (by decide) rfl lf_RX6_104 (.int 0) rfl dX6_join_71 ?_
  refine am_ifle hF 79 dX6_join_74 (by decide) (fun _ => ?_) (fun h9 => False.elim ((by revert h9; decide)))
  refine am_go hF sgX6_join_79_34db8 80 [(0, .ref 465), (1, .int (nI l)), (2, .int (nI p)), (3, .int (nI h))] [.ref 465] sgX6_join_79_34db8d rfl ?_
  refine sv_get hF 16 (by decide) rfl lf_RX6_47 (.ref 516) rfl dX6_join_80 ?_
  refine am_go hF sgX6_join_83_e725d 90 [(0, .ref 465), (1, .int (nI l)), (2, .int (nI p)), (3, .int (nI h))] [.int (nI h), .int ((16 * (nI l)) + (nI p)), .ref 516] sgX6_join_83_e725dd rfl ?_
  refine sv_iast hF 16 (by decide) ⟨rfl, rfl, by decide⟩ ((16 * l) + p) (am_ad (am_mu rfl rfl) rfl) (show (16 * l) + p < 160 by omega) dX6_join_90 ?_
  refine am_go hF sgX6_join_91_8bcf7 93 [(0, .ref 465), (1, .int (nI l)), (2, .int (nI p)), (3, .int (nI h))] [.int (nI l), .ref 465] sgX6_join_91_8bcf7d rfl ?_
  refine am_dV hF hO [.int (nI l)] [] (c_membersOf (S := (st1 (st1 (st1 S 0 0 0) 0 0 0) 16 ((16 * l) + p) (nI h))) (show l < 10 by omega)) myX6_membersOf vyX6_membersOf lm_RX6_125 (hp_m _ _ _) rfl rfl 0 0 ⟨Nat.le_of_ble_eq_true rfl, Nat.le_of_ble_eq_true rfl⟩ ⟨Nat.le_of_ble_eq_true rfl, Nat.le_of_ble_eq_true rfl, Nat.le_of_ble_eq_true rfl, Nat.le_of_ble_eq_true rfl⟩ rfl (am_lv_ref (hp_m _ _ _) (am_lv_int (am_lv_int (am_lv_int am_lv_nil)))) (Nat.le_of_ble_eq_true rfl) dX6_join_93 [.int (rCnt (st1 (st1 (st1 S 0 0 0) 0 0 0) 16 ((16 * l) + p) (nI h)) l)] rfl ?_
  exact am_iret hF hO hret rfl dX6_join_96 ⟨rfl, rfl⟩
set_option maxRecDepth 100000 in
set_option maxHeartbeats 4000000 in
theorem c_r_mode_1 {G : am_S} {T S : am_T} {o : Nat → Int64} {n : Nat} (hn : S 9 0 = nI n) (hn10 : n ≤ 10) {x : Int32} (hx : x < 0 ∨ nI n ≤ x) {y z : Int32} : am_D G yX6_mode (.code yX6_mode cX6_mode 5 (some .int) :: am_G) { frames := 2, cells := 0, slots := 0, locals := 43 } (hp T S o) [.ref 465, .int x, .int y, .int z] (hp T (st1 S 0 0 1) o) (some (.int 0)) := by
  refine am_of (by decide +kernel) (Nat.le_of_ble_eq_true rfl) ?_
  intro C hse hret hname hF hO
  subst hse
  refine am_go hF sgX6_mode_0_6b3ba 3 [(0, .ref 465), (1, .int x), (2, .int y), (3, .int z)] [.int x, .ref 465, .ref 465] sgX6_mode_0_6b3bad rfl ?_
  refine am_dV hF hO [.int x] [.ref 465] (c_isList_f (S := S) hn hn10 hx) myX6_isList vyX6_isList lm_RX6_122 (hp_m _ _ _) rfl rfl 0 0 ⟨Nat.le_of_ble_eq_true rfl, Nat.le_of_ble_eq_true rfl⟩ ⟨Nat.le_of_ble_eq_true rfl, Nat.le_of_ble_eq_true rfl, Nat.le_of_ble_eq_true rfl, Nat.le_of_ble_eq_true rfl⟩ rfl (am_lv_ref (hp_m _ _ _) (am_lv_int (am_lv_int (am_lv_int (am_lv_ref (hp_m _ _ _) am_lv_nil))))) (Nat.le_of_ble_eq_true rfl) dX6_mode_3 [.int 0, .ref 465] rfl ?_
  refine am_ifeq hF 16 dX6_mode_6 (by decide) (fun _ => ?_) (fun h9 => False.elim ((by revert h9; decide)))
  refine am_go hF sgX6_mode_16_102f3 34 [(0, .ref 465), (1, .int x), (2, .int y), (3, .int z)] [.int 1, .ref 465] sgX6_mode_16_102f3d rfl ?_
  refine sv_put hF 0 (by decide) rfl rfl rfl lf_RX6_104 dX6_mode_34 ?_
  refine am_go hF sgX6_mode_37_34db8 38 [(0, .ref 465), (1, .int x), (2, .int y), (3, .int z)] [.ref 465] sgX6_mode_37_34db8d rfl ?_
  refine sv_get hF 0 (by decide) rfl lf_RX6_104 (.int 1) rfl dX6_mode_38 ?_
  refine am_ifle hF 46 dX6_mode_41 (by decide) (fun h9 => False.elim ((by revert h9; decide))) (fun _ => ?_)
  refine am_go hF sgX6_mode_44_56c54 45 [(0, .ref 465), (1, .int x), (2, .int y), (3, .int z)] [.int 0] sgX6_mode_44_56c54d rfl ?_
  exact am_iret hF hO hret rfl dX6_mode_45 ⟨rfl, rfl⟩
set_option maxRecDepth 100000 in
set_option maxHeartbeats 4000000 in
theorem c_r_mode_2 {G : am_S} {T S : am_T} {o : Nat → Int64} {n : Nat} (hn : S 9 0 = nI n) (hn10 : n ≤ 10) {l : Nat} (hl : l < n) {y : Int32} (hy : y < 0 ∨ nI 16 ≤ y) {z : Int32} : am_D G yX6_mode (.code yX6_mode cX6_mode 5 (some .int) :: am_G) { frames := 2, cells := 0, slots := 0, locals := 43 } (hp T S o) [.ref 465, .int (nI l), .int y, .int z] (hp T (st1 S 0 0 1) o) (some (.int 0)) := by
  refine am_of (by decide +kernel) (Nat.le_of_ble_eq_true rfl) ?_
  intro C hse hret hname hF hO
  subst hse
  refine am_go hF sgX6_mode_0_6b3ba 3 [(0, .ref 465), (1, .int (nI l)), (2, .int y), (3, .int z)] [.int (nI l), .ref 465, .ref 465] sgX6_mode_0_6b3bad rfl ?_
  refine am_dV hF hO [.int (nI l)] [.ref 465] (c_isList_t (S := S) hn hn10 (show l < n by omega) rfl) myX6_isList vyX6_isList lm_RX6_122 (hp_m _ _ _) rfl rfl 0 0 ⟨Nat.le_of_ble_eq_true rfl, Nat.le_of_ble_eq_true rfl⟩ ⟨Nat.le_of_ble_eq_true rfl, Nat.le_of_ble_eq_true rfl, Nat.le_of_ble_eq_true rfl, Nat.le_of_ble_eq_true rfl⟩ rfl (am_lv_ref (hp_m _ _ _) (am_lv_int (am_lv_int (am_lv_int (am_lv_ref (hp_m _ _ _) am_lv_nil))))) (Nat.le_of_ble_eq_true rfl) dX6_mode_3 [.int 1, .ref 465] rfl ?_
  refine am_ifeq hF 16 dX6_mode_6 (by decide) (fun h9 => False.elim ((by revert h9; decide))) (fun _ => ?_)
  refine am_go hF sgX6_mode_9_f8a59 10 [(0, .ref 465), (1, .int (nI l)), (2, .int y), (3, .int z)] [.int y, .ref 465] sgX6_mode_9_f8a59d rfl ?_
  refine am_dS hF hO [.int y] [.ref 465] (c_isPerson_f hy) myX6_isPerson syX6_isPerson lm_RX6_118 rfl 0 0 ⟨Nat.le_of_ble_eq_true rfl, Nat.le_of_ble_eq_true rfl⟩ ⟨Nat.le_of_ble_eq_true rfl, Nat.le_of_ble_eq_true rfl, Nat.le_of_ble_eq_true rfl, Nat.le_of_ble_eq_true rfl⟩ rfl (am_lv_ref (hp_m _ _ _) (am_lv_int (am_lv_int (am_lv_int (am_lv_ref (hp_m _ _ _) am_lv_nil))))) (Nat.le_of_ble_eq_true rfl) dX6_mode_10 [.int 0, .ref 465] rfl ?_
  refine am_ifne hF 20 dX6_mode_13 (by decide) (fun h9 => False.elim ((by revert h9; decide))) (fun _ => ?_)
  refine am_go hF sgX6_mode_16_102f3 34 [(0, .ref 465), (1, .int (nI l)), (2, .int y), (3, .int z)] [.int 1, .ref 465] sgX6_mode_16_102f3d rfl ?_
  refine sv_put hF 0 (by decide) rfl rfl rfl lf_RX6_104 dX6_mode_34 ?_
  refine am_go hF sgX6_mode_37_34db8 38 [(0, .ref 465), (1, .int (nI l)), (2, .int y), (3, .int z)] [.ref 465] sgX6_mode_37_34db8d rfl ?_
  refine sv_get hF 0 (by decide) rfl lf_RX6_104 (.int 1) rfl dX6_mode_38 ?_
  refine am_ifle hF 46 dX6_mode_41 (by decide) (fun h9 => False.elim ((by revert h9; decide))) (fun _ => ?_)
  refine am_go hF sgX6_mode_44_56c54 45 [(0, .ref 465), (1, .int (nI l)), (2, .int y), (3, .int z)] [.int 0] sgX6_mode_44_56c54d rfl ?_
  exact am_iret hF hO hret rfl dX6_mode_45 ⟨rfl, rfl⟩
set_option maxRecDepth 100000 in
set_option maxHeartbeats 4000000 in
theorem c_r_mode_3 {G : am_S} {T S : am_T} {o : Nat → Int64} {n : Nat} (hn : S 9 0 = nI n) (hn10 : n ≤ 10) {l : Nat} (hl : l < n) {p : Nat} (hp9 : p < 16) {z : Int32} (hz : z < 0 ∨ nI 2 ≤ z) : am_D G yX6_mode (.code yX6_mode cX6_mode 5 (some .int) :: am_G) { frames := 2, cells := 0, slots := 0, locals := 43 } (hp T S o) [.ref 465, .int (nI l), .int (nI p), .int z] (hp T (st1 S 0 0 2) o) (some (.int 0)) := by
  refine am_of (by decide +kernel) (Nat.le_of_ble_eq_true rfl) ?_
  intro C hse hret hname hF hO
  subst hse
  refine am_go hF sgX6_mode_0_6b3ba 3 [(0, .ref 465), (1, .int (nI l)), (2, .int (nI p)), (3, .int z)] [.int (nI l), .ref 465, .ref 465] sgX6_mode_0_6b3bad rfl ?_
  refine am_dV hF hO [.int (nI l)] [.ref 465] (c_isList_t (S := S) hn hn10 (show l < n by omega) rfl) myX6_isList vyX6_isList lm_RX6_122 (hp_m _ _ _) rfl rfl 0 0 ⟨Nat.le_of_ble_eq_true rfl, Nat.le_of_ble_eq_true rfl⟩ ⟨Nat.le_of_ble_eq_true rfl, Nat.le_of_ble_eq_true rfl, Nat.le_of_ble_eq_true rfl, Nat.le_of_ble_eq_true rfl⟩ rfl (am_lv_ref (hp_m _ _ _) (am_lv_int (am_lv_int (am_lv_int (am_lv_ref (hp_m _ _ _) am_lv_nil))))) (Nat.le_of_ble_eq_true rfl) dX6_mode_3 [.int 1, .ref 465] rfl ?_
  refine am_ifeq hF 16 dX6_mode_6 (by decide) (fun h9 => False.elim ((by revert h9; decide))) (fun _ => ?_)
  refine am_go hF sgX6_mode_9_f8a59 10 [(0, .ref 465), (1, .int (nI l)), (2, .int (nI p)), (3, .int z)] [.int (nI p), .ref 465] sgX6_mode_9_f8a59d rfl ?_
  refine am_dS hF hO [.int (nI p)] [.ref 465] (c_isPerson_t (show p < 16 by omega) rfl) myX6_isPerson syX6_isPerson lm_RX6_118 rfl 0 0 ⟨Nat.le_of_ble_eq_true rfl, Nat.le_of_ble_eq_true rfl⟩ ⟨Nat.le_of_ble_eq_true rfl, Nat.le_of_ble_eq_true rfl, Nat.le_of_ble_eq_true rfl, Nat.le_of_ble_eq_true rfl⟩ rfl (am_lv_ref (hp_m _ _ _) (am_lv_int (am_lv_int (am_lv_int (am_lv_ref (hp_m _ _ _) am_lv_nil))))) (Nat.le_of_ble_eq_true rfl) dX6_mode_10 [.int 1, .ref 465] rfl ?_
  refine am_ifne hF 20 dX6_mode_13 (by decide) (fun _ => ?_) (fun h9 => False.elim ((by revert h9; decide)))
  refine am_go hF sgX6_mode_20_1d545 23 [(0, .ref 465), (1, .int (nI l)), (2, .int (nI p)), (3, .int z)] [.int 1, .int 0, .int z, .ref 465] sgX6_mode_20_1d545d rfl ?_
  refine am_dS hF hO [.int z, .int 0, .int 1] [.ref 465] (c_isIn_f (ii_f (m := 1) hz (by decide) rfl)) myX6_isIn syX6_isIn lm_RX6_108 rfl 0 0 ⟨Nat.le_of_ble_eq_true rfl, Nat.le_of_ble_eq_true rfl⟩ ⟨Nat.le_of_ble_eq_true rfl, Nat.le_of_ble_eq_true rfl, Nat.le_of_ble_eq_true rfl, Nat.le_of_ble_eq_true rfl⟩ rfl (am_lv_ref (hp_m _ _ _) (am_lv_int (am_lv_int (am_lv_int (am_lv_ref (hp_m _ _ _) am_lv_nil))))) (Nat.le_of_ble_eq_true rfl) dX6_mode_23 [.int 0, .ref 465] rfl ?_
  refine am_ifeq hF 33 dX6_mode_26 (by decide) (fun _ => ?_) (fun h9 => False.elim ((by revert h9; decide)))
  refine am_go hF sgX6_mode_33_d5620 34 [(0, .ref 465), (1, .int (nI l)), (2, .int (nI p)), (3, .int z)] [.int 2, .ref 465] sgX6_mode_33_d5620d rfl ?_
  refine sv_put hF 0 (by decide) rfl rfl rfl lf_RX6_104 dX6_mode_34 ?_
  refine am_go hF sgX6_mode_37_34db8 38 [(0, .ref 465), (1, .int (nI l)), (2, .int (nI p)), (3, .int z)] [.ref 465] sgX6_mode_37_34db8d rfl ?_
  refine sv_get hF 0 (by decide) rfl lf_RX6_104 (.int 2) rfl dX6_mode_38 ?_
  refine am_ifle hF 46 dX6_mode_41 (by decide) (fun h9 => False.elim ((by revert h9; decide))) (fun _ => ?_)
  refine am_go hF sgX6_mode_44_56c54 45 [(0, .ref 465), (1, .int (nI l)), (2, .int (nI p)), (3, .int z)] [.int 0] sgX6_mode_44_56c54d rfl ?_
  exact am_iret hF hO hret rfl dX6_mode_45 ⟨rfl, rfl⟩
set_option maxRecDepth 100000 in
set_option maxHeartbeats 4000000 in
theorem c_r_mode_4 {G : am_S} {T S : am_T} {o : Nat → Int64} {n : Nat} (hn : S 9 0 = nI n) (hn10 : n ≤ 10) {l : Nat} (hl : l < n) {p : Nat} (hp9 : p < 16) {h : Nat} (hh : h < 2) (hmem : S 16 (16 * l + p) = -1) : am_D G yX6_mode (.code yX6_mode cX6_mode 5 (some .int) :: am_G) { frames := 2, cells := 0, slots := 0, locals := 43 } (hp T S o) [.ref 465, .int (nI l), .int (nI p), .int (nI h)] (hp T (st1 (st1 S 0 0 0) 0 0 3) o) (some (.int 0)) := by
  refine am_of (by decide +kernel) (Nat.le_of_ble_eq_true rfl) ?_
  intro C hse hret hname hF hO
  subst hse
  refine am_go hF sgX6_mode_0_6b3ba 3 [(0, .ref 465), (1, .int (nI l)), (2, .int (nI p)), (3, .int (nI h))] [.int (nI l), .ref 465, .ref 465] sgX6_mode_0_6b3bad rfl ?_
  refine am_dV hF hO [.int (nI l)] [.ref 465] (c_isList_t (S := S) hn hn10 (show l < n by omega) rfl) myX6_isList vyX6_isList lm_RX6_122 (hp_m _ _ _) rfl rfl 0 0 ⟨Nat.le_of_ble_eq_true rfl, Nat.le_of_ble_eq_true rfl⟩ ⟨Nat.le_of_ble_eq_true rfl, Nat.le_of_ble_eq_true rfl, Nat.le_of_ble_eq_true rfl, Nat.le_of_ble_eq_true rfl⟩ rfl (am_lv_ref (hp_m _ _ _) (am_lv_int (am_lv_int (am_lv_int (am_lv_ref (hp_m _ _ _) am_lv_nil))))) (Nat.le_of_ble_eq_true rfl) dX6_mode_3 [.int 1, .ref 465] rfl ?_
  refine am_ifeq hF 16 dX6_mode_6 (by decide) (fun h9 => False.elim ((by revert h9; decide))) (fun _ => ?_)
  refine am_go hF sgX6_mode_9_f8a59 10 [(0, .ref 465), (1, .int (nI l)), (2, .int (nI p)), (3, .int (nI h))] [.int (nI p), .ref 465] sgX6_mode_9_f8a59d rfl ?_
  refine am_dS hF hO [.int (nI p)] [.ref 465] (c_isPerson_t (show p < 16 by omega) rfl) myX6_isPerson syX6_isPerson lm_RX6_118 rfl 0 0 ⟨Nat.le_of_ble_eq_true rfl, Nat.le_of_ble_eq_true rfl⟩ ⟨Nat.le_of_ble_eq_true rfl, Nat.le_of_ble_eq_true rfl, Nat.le_of_ble_eq_true rfl, Nat.le_of_ble_eq_true rfl⟩ rfl (am_lv_ref (hp_m _ _ _) (am_lv_int (am_lv_int (am_lv_int (am_lv_ref (hp_m _ _ _) am_lv_nil))))) (Nat.le_of_ble_eq_true rfl) dX6_mode_10 [.int 1, .ref 465] rfl ?_
  refine am_ifne hF 20 dX6_mode_13 (by decide) (fun _ => ?_) (fun h9 => False.elim ((by revert h9; decide)))
  refine am_go hF sgX6_mode_20_1d545 23 [(0, .ref 465), (1, .int (nI l)), (2, .int (nI p)), (3, .int (nI h))] [.int 1, .int 0, .int (nI h), .ref 465] sgX6_mode_20_1d545d rfl ?_
  refine am_dS hF hO [.int (nI h), .int 0, .int 1] [.ref 465] (c_isIn_t (ii_0 rfl (by omega) rfl) (ii_1 (m := 1) rfl (by omega) (by decide) rfl)) myX6_isIn syX6_isIn lm_RX6_108 rfl 0 0 ⟨Nat.le_of_ble_eq_true rfl, Nat.le_of_ble_eq_true rfl⟩ ⟨Nat.le_of_ble_eq_true rfl, Nat.le_of_ble_eq_true rfl, Nat.le_of_ble_eq_true rfl, Nat.le_of_ble_eq_true rfl⟩ rfl (am_lv_ref (hp_m _ _ _) (am_lv_int (am_lv_int (am_lv_int (am_lv_ref (hp_m _ _ _) am_lv_nil))))) (Nat.le_of_ble_eq_true rfl) dX6_mode_23 [.int 1, .ref 465] rfl ?_
  refine am_ifeq hF 33 dX6_mode_26 (by decide) (fun h9 => False.elim ((by revert h9; decide))) (fun _ => ?_)
  refine am_go hF sgX6_mode_29_1cbe9 34 [(0, .ref 465), (1, .int (nI l)), (2, .int (nI p)), (3, .int (nI h))] [.int 0, .ref 465] sgX6_mode_29_1cbe9d rfl ?_
  refine sv_put hF 0 (by decide) rfl rfl rfl lf_RX6_104 dX6_mode_34 ?_
  refine am_go hF sgX6_mode_37_34db8 38 [(0, .ref 465), (1, .int (nI l)), (2, .int (nI p)), (3, .int (nI h))] [.ref 465] sgX6_mode_37_34db8d rfl ?_
  refine sv_get hF 0 (by decide) rfl lf_RX6_104 (.int 0) rfl dX6_mode_38 ?_
  refine am_ifle hF 46 dX6_mode_41 (by decide) (fun _ => ?_) (fun h9 => False.elim ((by revert h9; decide)))
  refine am_go hF sgX6_mode_46_34db8 47 [(0, .ref 465), (1, .int (nI l)), (2, .int (nI p)), (3, .int (nI h))] [.ref 465] sgX6_mode_46_34db8d rfl ?_
  refine sv_get hF 16 (by decide) rfl lf_RX6_47 (.ref 516) rfl dX6_mode_47 ?_
  refine am_go hF sgX6_mode_50_b6bf4 56 [(0, .ref 465), (1, .int (nI l)), (2, .int (nI p)), (3, .int (nI h))] [.int ((16 * (nI l)) + (nI p)), .ref 516] sgX6_mode_50_b6bf4d rfl ?_
  refine sv_iald hF 16 (by decide) ⟨rfl, rfl, by decide⟩ ((16 * l) + p) (am_ad (am_mu rfl rfl) rfl) (show (16 * l) + p < 160 by omega) dX6_mode_56 ?_
  refine am_top (S 16 ((16 * l) + p)) rfl ?_
  refine am_go hF sgX6_mode_57_71957 63 [(4, .int (S 16 ((16 * l) + p))), (0, .ref 465), (1, .int (nI l)), (2, .int (nI p)), (3, .int (nI h))] [.int (-1), .int (S 16 ((16 * l) + p)), .ref 465] sgX6_mode_57_71957d rfl ?_
  refine am_icmpne hF 70 dX6_mode_63 (by decide) (fun h9 => False.elim (absurd hmem h9)) (fun _ => ?_)
  refine am_go hF sgX6_mode_66_5c8a0 71 [(4, .int (S 16 ((16 * l) + p))), (0, .ref 465), (1, .int (nI l)), (2, .int (nI p)), (3, .int (nI h))] [.int 3, .ref 465] sgX6_mode_66_5c8a0d rfl ?_
  refine sv_put hF 0 (by decide) rfl rfl rfl lf_RX6_104 dX6_mode_71 ?_
  refine am_go hF sgX6_mode_74_34db8 75 [(4, .int (S 16 ((16 * l) + p))), (0, .ref 465), (1, .int (nI l)), (2, .int (nI p)), (3, .int (nI h))] [.ref 465] sgX6_mode_74_34db8d rfl ?_
  refine sv_get hF 0 (by decide) rfl lf_RX6_104 (.int 3) rfl dX6_mode_75 ?_
  refine am_ifle hF 83 dX6_mode_78 (by decide) (fun h9 => False.elim ((by revert h9; decide))) (fun _ => ?_)
  refine am_go hF sgX6_mode_81_56c54 82 [(4, .int (S 16 ((16 * l) + p))), (0, .ref 465), (1, .int (nI l)), (2, .int (nI p)), (3, .int (nI h))] [.int 0] sgX6_mode_81_56c54d rfl ?_
  exact am_iret hF hO hret rfl dX6_mode_82 ⟨rfl, rfl⟩
set_option maxRecDepth 100000 in
set_option maxHeartbeats 4000000 in
theorem c_r_mode_5 {G : am_S} {T S : am_T} {o : Nat → Int64} {n : Nat} (hn : S 9 0 = nI n) (hn10 : n ≤ 10) {l : Nat} (hl : l < n) {p : Nat} (hp9 : p < 16) {h : Nat} (hh : h < 2) (hmem : ¬ S 16 (16 * l + p) = -1) : am_D G yX6_mode (.code yX6_mode cX6_mode 5 (some .int) :: am_G) { frames := 2, cells := 0, slots := 0, locals := 43 } (hp T S o) [.ref 465, .int (nI l), .int (nI p), .int (nI h)] (hp T (st1 (st1 (st1 S 0 0 0) 0 0 0) 16 ((16 * l) + p) (nI h)) o) (some (.int (S 16 ((16 * l) + p)))) := by
  refine am_of (by decide +kernel) (Nat.le_of_ble_eq_true rfl) ?_
  intro C hse hret hname hF hO
  subst hse
  refine am_go hF sgX6_mode_0_6b3ba 3 [(0, .ref 465), (1, .int (nI l)), (2, .int (nI p)), (3, .int (nI h))] [.int (nI l), .ref 465, .ref 465] sgX6_mode_0_6b3bad rfl ?_
  refine am_dV hF hO [.int (nI l)] [.ref 465] (c_isList_t (S := S) hn hn10 (show l < n by omega) rfl) myX6_isList vyX6_isList lm_RX6_122 (hp_m _ _ _) rfl rfl 0 0 ⟨Nat.le_of_ble_eq_true rfl, Nat.le_of_ble_eq_true rfl⟩ ⟨Nat.le_of_ble_eq_true rfl, Nat.le_of_ble_eq_true rfl, Nat.le_of_ble_eq_true rfl, Nat.le_of_ble_eq_true rfl⟩ rfl (am_lv_ref (hp_m _ _ _) (am_lv_int (am_lv_int (am_lv_int (am_lv_ref (hp_m _ _ _) am_lv_nil))))) (Nat.le_of_ble_eq_true rfl) dX6_mode_3 [.int 1, .ref 465] rfl ?_
  refine am_ifeq hF 16 dX6_mode_6 (by decide) (fun h9 => False.elim ((by revert h9; decide))) (fun _ => ?_)
  refine am_go hF sgX6_mode_9_f8a59 10 [(0, .ref 465), (1, .int (nI l)), (2, .int (nI p)), (3, .int (nI h))] [.int (nI p), .ref 465] sgX6_mode_9_f8a59d rfl ?_
  refine am_dS hF hO [.int (nI p)] [.ref 465] (c_isPerson_t (show p < 16 by omega) rfl) myX6_isPerson syX6_isPerson lm_RX6_118 rfl 0 0 ⟨Nat.le_of_ble_eq_true rfl, Nat.le_of_ble_eq_true rfl⟩ ⟨Nat.le_of_ble_eq_true rfl, Nat.le_of_ble_eq_true rfl, Nat.le_of_ble_eq_true rfl, Nat.le_of_ble_eq_true rfl⟩ rfl (am_lv_ref (hp_m _ _ _) (am_lv_int (am_lv_int (am_lv_int (am_lv_ref (hp_m _ _ _) am_lv_nil))))) (Nat.le_of_ble_eq_true rfl) dX6_mode_10 [.int 1, .ref 465] rfl ?_
  refine am_ifne hF 20 dX6_mode_13 (by decide) (fun _ => ?_) (fun h9 => False.elim ((by revert h9; decide)))
  refine am_go hF sgX6_mode_20_1d545 23 [(0, .ref 465), (1, .int (nI l)), (2, .int (nI p)), (3, .int (nI h))] [.int 1, .int 0, .int (nI h), .ref 465] sgX6_mode_20_1d545d rfl ?_
  refine am_dS hF hO [.int (nI h), .int 0, .int 1] [.ref 465] (c_isIn_t (ii_0 rfl (by omega) rfl) (ii_1 (m := 1) rfl (by omega) (by decide) rfl)) myX6_isIn syX6_isIn lm_RX6_108 rfl 0 0 ⟨Nat.le_of_ble_eq_true rfl, Nat.le_of_ble_eq_true rfl⟩ ⟨Nat.le_of_ble_eq_true rfl, Nat.le_of_ble_eq_true rfl, Nat.le_of_ble_eq_true rfl, Nat.le_of_ble_eq_true rfl⟩ rfl (am_lv_ref (hp_m _ _ _) (am_lv_int (am_lv_int (am_lv_int (am_lv_ref (hp_m _ _ _) am_lv_nil))))) (Nat.le_of_ble_eq_true rfl) dX6_mode_23 [.int 1, .ref 465] rfl ?_
  refine am_ifeq hF 33 dX6_mode_26 (by decide) (fun h9 => False.elim ((by revert h9; decide))) (fun _ => ?_)
  refine am_go hF sgX6_mode_29_1cbe9 34 [(0, .ref 465), (1, .int (nI l)), (2, .int (nI p)), (3, .int (nI h))] [.int 0, .ref 465] sgX6_mode_29_1cbe9d rfl ?_
  refine sv_put hF 0 (by decide) rfl rfl rfl lf_RX6_104 dX6_mode_34 ?_
  refine am_go hF sgX6_mode_37_34db8 38 [(0, .ref 465), (1, .int (nI l)), (2, .int (nI p)), (3, .int (nI h))] [.ref 465] sgX6_mode_37_34db8d rfl ?_
  refine sv_get hF 0 (by decide) rfl lf_RX6_104 (.int 0) rfl dX6_mode_38 ?_
  refine am_ifle hF 46 dX6_mode_41 (by decide) (fun _ => ?_) (fun h9 => False.elim ((by revert h9; decide)))
  refine am_go hF sgX6_mode_46_34db8 47 [(0, .ref 465), (1, .int (nI l)), (2, .int (nI p)), (3, .int (nI h))] [.ref 465] sgX6_mode_46_34db8d rfl ?_
  refine sv_get hF 16 (by decide) rfl lf_RX6_47 (.ref 516) rfl dX6_mode_47 ?_
  refine am_go hF sgX6_mode_50_b6bf4 56 [(0, .ref 465), (1, .int (nI l)), (2, .int (nI p)), (3, .int (nI h))] [.int ((16 * (nI l)) + (nI p)), .ref 516] sgX6_mode_50_b6bf4d rfl ?_
  refine sv_iald hF 16 (by decide) ⟨rfl, rfl, by decide⟩ ((16 * l) + p) (am_ad (am_mu rfl rfl) rfl) (show (16 * l) + p < 160 by omega) dX6_mode_56 ?_
  refine am_top (S 16 ((16 * l) + p)) rfl ?_
  refine am_go hF sgX6_mode_57_71957 63 [(4, .int (S 16 ((16 * l) + p))), (0, .ref 465), (1, .int (nI l)), (2, .int (nI p)), (3, .int (nI h))] [.int (-1), .int (S 16 ((16 * l) + p)), .ref 465] sgX6_mode_57_71957d rfl ?_
  refine am_icmpne hF 70 dX6_mode_63 (by decide) (fun _ => ?_) (fun h9 => False.elim (absurd h9 hmem))
  refine am_go hF sgX6_mode_70_56c54 71 [(4, .int (S 16 ((16 * l) + p))), (0, .ref 465), (1, .int (nI l)), (2, .int (nI p)), (3, .int (nI h))] [.int 0, .ref 465] sgX6_mode_70_56c54d rfl ?_
  refine sv_put hF 0 (by decide) rfl rfl rfl lf_RX6_104 dX6_mode_71 ?_
  refine am_go hF sgX6_mode_74_34db8 75 [(4, .int (S 16 ((16 * l) + p))), (0, .ref 465), (1, .int (nI l)), (2, .int (nI p)), (3, .int (nI h))] [.ref 465] sgX6_mode_74_34db8d rfl ?_
  refine sv_get hF 0 (by decide) rfl lf_RX6_104 (.int 0) rfl dX6_mode_75 ?_
  refine am_ifle hF 83 dX6_mode_78 (by decide) (fun _ => ?_) (fun h9 => False.elim ((by revert h9; decide)))
  refine am_go hF sgX6_mode_83_34db8 84 [(4, .int (S 16 ((16 * l) + p))), (0, .ref 465), (1, .int (nI l)), (2, .int (nI p)), (3, .int (nI h))] [.ref 465] sgX6_mode_83_34db8d rfl ?_
  refine sv_get hF 16 (by decide) rfl lf_RX6_47 (.ref 516) rfl dX6_mode_84 ?_
  refine am_go hF sgX6_mode_87_e725d 94 [(4, .int (S 16 ((16 * l) + p))), (0, .ref 465), (1, .int (nI l)), (2, .int (nI p)), (3, .int (nI h))] [.int (nI h), .int ((16 * (nI l)) + (nI p)), .ref 516] sgX6_mode_87_e725dd rfl ?_
  refine sv_iast hF 16 (by decide) ⟨rfl, rfl, by decide⟩ ((16 * l) + p) (am_ad (am_mu rfl rfl) rfl) (show (16 * l) + p < 160 by omega) dX6_mode_94 ?_
  refine am_go hF sgX6_mode_95_c6742 97 [(4, .int (S 16 ((16 * l) + p))), (0, .ref 465), (1, .int (nI l)), (2, .int (nI p)), (3, .int (nI h))] [.int (S 16 ((16 * l) + p))] sgX6_mode_95_c6742d rfl ?_
  exact am_iret hF hO hret rfl dX6_mode_97 ⟨rfl, rfl⟩
set_option maxRecDepth 100000 in
set_option maxHeartbeats 4000000 in
theorem c_r_leave_1 {G : am_S} {T S : am_T} {o : Nat → Int64} {n : Nat} (hn : S 9 0 = nI n) (hn10 : n ≤ 10) {x : Int32} (hx : x < 0 ∨ nI n ≤ x) {y : Int32} : am_D G yX6_leave (.code yX6_leave cX6_leave 4 (some .int) :: am_G) { frames := 2, cells := 0, slots := 0, locals := 43 } (hp T S o) [.ref 465, .int x, .int y] (hp T (st1 S 0 0 1) o) (some (.int 0)) := by
  refine am_of (by decide +kernel) (Nat.le_of_ble_eq_true rfl) ?_
  intro C hse hret hname hF hO
  subst hse
  refine am_go hF sgX6_leave_0_6b3ba 3 [(0, .ref 465), (1, .int x), (2, .int y)] [.int x, .ref 465, .ref 465] sgX6_leave_0_6b3bad rfl ?_
  refine am_dV hF hO [.int x] [.ref 465] (c_isList_f (S := S) hn hn10 hx) myX6_isList vyX6_isList lm_RX6_122 (hp_m _ _ _) rfl rfl 0 0 ⟨Nat.le_of_ble_eq_true rfl, Nat.le_of_ble_eq_true rfl⟩ ⟨Nat.le_of_ble_eq_true rfl, Nat.le_of_ble_eq_true rfl, Nat.le_of_ble_eq_true rfl, Nat.le_of_ble_eq_true rfl⟩ rfl (am_lv_ref (hp_m _ _ _) (am_lv_int (am_lv_int (am_lv_ref (hp_m _ _ _) am_lv_nil)))) (Nat.le_of_ble_eq_true rfl) dX6_leave_3 [.int 0, .ref 465] rfl ?_
  refine am_ifeq hF 20 dX6_leave_6 (by decide) (fun _ => ?_) (fun h9 => False.elim ((by revert h9; decide)))
  refine am_go hF sgX6_leave_20_4de0a 21 [(0, .ref 465), (1, .int x), (2, .int y)] [.int 1, .ref 465] sgX6_leave_20_4de0ad rfl ?_
  refine sv_put hF 0 (by decide) rfl rfl rfl lf_RX6_104 dX6_leave_21 ?_
  refine am_go hF sgX6_leave_24_34db8 25 [(0, .ref 465), (1, .int x), (2, .int y)] [.ref 465] sgX6_leave_24_34db8d rfl ?_
  refine sv_get hF 0 (by decide) rfl lf_RX6_104 (.int 1) rfl dX6_leave_25 ?_
  refine am_ifle hF 33 dX6_leave_28 (by decide) (fun h9 => False.elim ((by revert h9; decide))) (fun _ => ?_)
  refine am_go hF sgX6_leave_31_56c54 32 [(0, .ref 465), (1, .int x), (2, .int y)] [.int 0] sgX6_leave_31_56c54d rfl ?_
  exact am_iret hF hO hret rfl dX6_leave_32 ⟨rfl, rfl⟩
set_option maxRecDepth 100000 in
set_option maxHeartbeats 4000000 in
theorem c_r_leave_2 {G : am_S} {T S : am_T} {o : Nat → Int64} {n : Nat} (hn : S 9 0 = nI n) (hn10 : n ≤ 10) {l : Nat} (hl : l < n) {y : Int32} (hy : y < 0 ∨ nI 16 ≤ y) : am_D G yX6_leave (.code yX6_leave cX6_leave 4 (some .int) :: am_G) { frames := 2, cells := 0, slots := 0, locals := 43 } (hp T S o) [.ref 465, .int (nI l), .int y] (hp T (st1 S 0 0 1) o) (some (.int 0)) := by
  refine am_of (by decide +kernel) (Nat.le_of_ble_eq_true rfl) ?_
  intro C hse hret hname hF hO
  subst hse
  refine am_go hF sgX6_leave_0_6b3ba 3 [(0, .ref 465), (1, .int (nI l)), (2, .int y)] [.int (nI l), .ref 465, .ref 465] sgX6_leave_0_6b3bad rfl ?_
  refine am_dV hF hO [.int (nI l)] [.ref 465] (c_isList_t (S := S) hn hn10 (show l < n by omega) rfl) myX6_isList vyX6_isList lm_RX6_122 (hp_m _ _ _) rfl rfl 0 0 ⟨Nat.le_of_ble_eq_true rfl, Nat.le_of_ble_eq_true rfl⟩ ⟨Nat.le_of_ble_eq_true rfl, Nat.le_of_ble_eq_true rfl, Nat.le_of_ble_eq_true rfl, Nat.le_of_ble_eq_true rfl⟩ rfl (am_lv_ref (hp_m _ _ _) (am_lv_int (am_lv_int (am_lv_ref (hp_m _ _ _) am_lv_nil)))) (Nat.le_of_ble_eq_true rfl) dX6_leave_3 [.int 1, .ref 465] rfl ?_
  refine am_ifeq hF 20 dX6_leave_6 (by decide) (fun h9 => False.elim ((by revert h9; decide))) (fun _ => ?_)
  refine am_go hF sgX6_leave_9_f8a59 10 [(0, .ref 465), (1, .int (nI l)), (2, .int y)] [.int y, .ref 465] sgX6_leave_9_f8a59d rfl ?_
  refine am_dS hF hO [.int y] [.ref 465] (c_isPerson_f hy) myX6_isPerson syX6_isPerson lm_RX6_118 rfl 0 0 ⟨Nat.le_of_ble_eq_true rfl, Nat.le_of_ble_eq_true rfl⟩ ⟨Nat.le_of_ble_eq_true rfl, Nat.le_of_ble_eq_true rfl, Nat.le_of_ble_eq_true rfl, Nat.le_of_ble_eq_true rfl⟩ rfl (am_lv_ref (hp_m _ _ _) (am_lv_int (am_lv_int (am_lv_ref (hp_m _ _ _) am_lv_nil)))) (Nat.le_of_ble_eq_true rfl) dX6_leave_10 [.int 0, .ref 465] rfl ?_
  refine am_ifeq hF 20 dX6_leave_13 (by decide) (fun _ => ?_) (fun h9 => False.elim ((by revert h9; decide)))
  refine am_go hF sgX6_leave_20_4de0a 21 [(0, .ref 465), (1, .int (nI l)), (2, .int y)] [.int 1, .ref 465] sgX6_leave_20_4de0ad rfl ?_
  refine sv_put hF 0 (by decide) rfl rfl rfl lf_RX6_104 dX6_leave_21 ?_
  refine am_go hF sgX6_leave_24_34db8 25 [(0, .ref 465), (1, .int (nI l)), (2, .int y)] [.ref 465] sgX6_leave_24_34db8d rfl ?_
  refine sv_get hF 0 (by decide) rfl lf_RX6_104 (.int 1) rfl dX6_leave_25 ?_
  refine am_ifle hF 33 dX6_leave_28 (by decide) (fun h9 => False.elim ((by revert h9; decide))) (fun _ => ?_)
  refine am_go hF sgX6_leave_31_56c54 32 [(0, .ref 465), (1, .int (nI l)), (2, .int y)] [.int 0] sgX6_leave_31_56c54d rfl ?_
  exact am_iret hF hO hret rfl dX6_leave_32 ⟨rfl, rfl⟩
set_option maxRecDepth 100000 in
set_option maxHeartbeats 4000000 in
theorem c_r_leave_3 {G : am_S} {T S : am_T} {o : Nat → Int64} {n : Nat} (hn : S 9 0 = nI n) (hn10 : n ≤ 10) {l : Nat} (hl : l < n) {p : Nat} (hp9 : p < 16) (hmem : S 16 (16 * l + p) = -1) : am_D G yX6_leave (.code yX6_leave cX6_leave 4 (some .int) :: am_G) { frames := 2, cells := 0, slots := 0, locals := 43 } (hp T S o) [.ref 465, .int (nI l), .int (nI p)] (hp T (st1 (st1 (st1 S 0 0 0) 0 0 2) 16 ((16 * l) + p) (-1)) o) (some (.int 0)) := by
  refine am_of (by decide +kernel) (Nat.le_of_ble_eq_true rfl) ?_
  intro C hse hret hname hF hO
  subst hse
  refine am_go hF sgX6_leave_0_6b3ba 3 [(0, .ref 465), (1, .int (nI l)), (2, .int (nI p))] [.int (nI l), .ref 465, .ref 465] sgX6_leave_0_6b3bad rfl ?_
  refine am_dV hF hO [.int (nI l)] [.ref 465] (c_isList_t (S := S) hn hn10 (show l < n by omega) rfl) myX6_isList vyX6_isList lm_RX6_122 (hp_m _ _ _) rfl rfl 0 0 ⟨Nat.le_of_ble_eq_true rfl, Nat.le_of_ble_eq_true rfl⟩ ⟨Nat.le_of_ble_eq_true rfl, Nat.le_of_ble_eq_true rfl, Nat.le_of_ble_eq_true rfl, Nat.le_of_ble_eq_true rfl⟩ rfl (am_lv_ref (hp_m _ _ _) (am_lv_int (am_lv_int (am_lv_ref (hp_m _ _ _) am_lv_nil)))) (Nat.le_of_ble_eq_true rfl) dX6_leave_3 [.int 1, .ref 465] rfl ?_
  refine am_ifeq hF 20 dX6_leave_6 (by decide) (fun h9 => False.elim ((by revert h9; decide))) (fun _ => ?_)
  refine am_go hF sgX6_leave_9_f8a59 10 [(0, .ref 465), (1, .int (nI l)), (2, .int (nI p))] [.int (nI p), .ref 465] sgX6_leave_9_f8a59d rfl ?_
  refine am_dS hF hO [.int (nI p)] [.ref 465] (c_isPerson_t (show p < 16 by omega) rfl) myX6_isPerson syX6_isPerson lm_RX6_118 rfl 0 0 ⟨Nat.le_of_ble_eq_true rfl, Nat.le_of_ble_eq_true rfl⟩ ⟨Nat.le_of_ble_eq_true rfl, Nat.le_of_ble_eq_true rfl, Nat.le_of_ble_eq_true rfl, Nat.le_of_ble_eq_true rfl⟩ rfl (am_lv_ref (hp_m _ _ _) (am_lv_int (am_lv_int (am_lv_ref (hp_m _ _ _) am_lv_nil)))) (Nat.le_of_ble_eq_true rfl) dX6_leave_10 [.int 1, .ref 465] rfl ?_
  refine am_ifeq hF 20 dX6_leave_13 (by decide) (fun h9 => False.elim ((by revert h9; decide))) (fun _ => ?_)
  refine am_go hF sgX6_leave_16_1cbe9 21 [(0, .ref 465), (1, .int (nI l)), (2, .int (nI p))] [.int 0, .ref 465] sgX6_leave_16_1cbe9d rfl ?_
  refine sv_put hF 0 (by decide) rfl rfl rfl lf_RX6_104 dX6_leave_21 ?_
  refine am_go hF sgX6_leave_24_34db8 25 [(0, .ref 465), (1, .int (nI l)), (2, .int (nI p))] [.ref 465] sgX6_leave_24_34db8d rfl ?_
  refine sv_get hF 0 (by decide) rfl lf_RX6_104 (.int 0) rfl dX6_leave_25 ?_
  refine am_ifle hF 33 dX6_leave_28 (by decide) (fun _ => ?_) (fun h9 => False.elim ((by revert h9; decide)))
  refine am_go hF sgX6_leave_33_34db8 34 [(0, .ref 465), (1, .int (nI l)), (2, .int (nI p))] [.ref 465] sgX6_leave_33_34db8d rfl ?_
  refine sv_get hF 16 (by decide) rfl lf_RX6_47 (.ref 516) rfl dX6_leave_34 ?_
  refine am_go hF sgX6_leave_37_b6bf4 43 [(0, .ref 465), (1, .int (nI l)), (2, .int (nI p))] [.int ((16 * (nI l)) + (nI p)), .ref 516] sgX6_leave_37_b6bf4d rfl ?_
  refine sv_iald hF 16 (by decide) ⟨rfl, rfl, by decide⟩ ((16 * l) + p) (am_ad (am_mu rfl rfl) rfl) (show (16 * l) + p < 160 by omega) dX6_leave_43 ?_
  refine am_top (S 16 ((16 * l) + p)) rfl ?_
  refine am_go hF sgX6_leave_44_8d6bf 48 [(3, .int (S 16 ((16 * l) + p))), (0, .ref 465), (1, .int (nI l)), (2, .int (nI p))] [.int (-1), .int (S 16 ((16 * l) + p)), .ref 465] sgX6_leave_44_8d6bfd rfl ?_
  refine am_icmpne hF 55 dX6_leave_48 (by decide) (fun h9 => False.elim (absurd hmem h9)) (fun _ => ?_)
  refine am_go hF sgX6_leave_51_abe91 56 [(3, .int (S 16 ((16 * l) + p))), (0, .ref 465), (1, .int (nI l)), (2, .int (nI p))] [.int 2, .ref 465] sgX6_leave_51_abe91d rfl ?_
  refine sv_put hF 0 (by decide) rfl rfl rfl lf_RX6_104 dX6_leave_56 ?_
  refine am_go hF sgX6_leave_59_34db8 60 [(3, .int (S 16 ((16 * l) + p))), (0, .ref 465), (1, .int (nI l)), (2, .int (nI p))] [.ref 465] sgX6_leave_59_34db8d rfl ?_
  refine sv_get hF 16 (by decide) rfl lf_RX6_47 (.ref 516) rfl dX6_leave_60 ?_
  refine am_go hF sgX6_leave_63_8a281 70 [(3, .int (S 16 ((16 * l) + p))), (0, .ref 465), (1, .int (nI l)), (2, .int (nI p))] [.int (-1), .int ((16 * (nI l)) + (nI p)), .ref 516] sgX6_leave_63_8a281d rfl ?_
  refine sv_iast hF 16 (by decide) ⟨rfl, rfl, by decide⟩ ((16 * l) + p) (am_ad (am_mu rfl rfl) rfl) (show (16 * l) + p < 160 by omega) dX6_leave_70 ?_
  refine am_go hF sgX6_leave_71_34db8 72 [(3, .int (S 16 ((16 * l) + p))), (0, .ref 465), (1, .int (nI l)), (2, .int (nI p))] [.ref 465] sgX6_leave_71_34db8d rfl ?_
  refine sv_get hF 0 (by decide) rfl lf_RX6_104 (.int 2) rfl dX6_leave_72 ?_
  refine am_ifle hF 82 dX6_leave_75 (by decide) (fun h9 => False.elim ((by revert h9; decide))) (fun _ => ?_)
  refine am_go hF sgX6_leave_78_1cbe9 83 [(3, .int (S 16 ((16 * l) + p))), (0, .ref 465), (1, .int (nI l)), (2, .int (nI p))] [.int 0] sgX6_leave_78_1cbe9d rfl ?_
  exact am_iret hF hO hret rfl dX6_leave_83 ⟨rfl, rfl⟩
set_option maxRecDepth 100000 in
set_option maxHeartbeats 4000000 in
theorem c_r_leave_4 {G : am_S} {T S : am_T} {o : Nat → Int64} {n : Nat} (hn : S 9 0 = nI n) (hn10 : n ≤ 10) {l : Nat} (hl : l < n) {p : Nat} (hp9 : p < 16) (hmem : ¬ S 16 (16 * l + p) = -1) : am_D G yX6_leave (.code yX6_leave cX6_leave 4 (some .int) :: am_G) { frames := 2, cells := 0, slots := 0, locals := 43 } (hp T S o) [.ref 465, .int (nI l), .int (nI p)] (hp T (st1 (st1 (st1 S 0 0 0) 0 0 0) 16 ((16 * l) + p) (-1)) o) (some (.int (S 16 ((16 * l) + p)))) := by
  refine am_of (by decide +kernel) (Nat.le_of_ble_eq_true rfl) ?_
  intro C hse hret hname hF hO
  subst hse
  refine am_go hF sgX6_leave_0_6b3ba 3 [(0, .ref 465), (1, .int (nI l)), (2, .int (nI p))] [.int (nI l), .ref 465, .ref 465] sgX6_leave_0_6b3bad rfl ?_
  refine am_dV hF hO [.int (nI l)] [.ref 465] (c_isList_t (S := S) hn hn10 (show l < n by omega) rfl) myX6_isList vyX6_isList lm_RX6_122 (hp_m _ _ _) rfl rfl 0 0 ⟨Nat.le_of_ble_eq_true rfl, Nat.le_of_ble_eq_true rfl⟩ ⟨Nat.le_of_ble_eq_true rfl, Nat.le_of_ble_eq_true rfl, Nat.le_of_ble_eq_true rfl, Nat.le_of_ble_eq_true rfl⟩ rfl (am_lv_ref (hp_m _ _ _) (am_lv_int (am_lv_int (am_lv_ref (hp_m _ _ _) am_lv_nil)))) (Nat.le_of_ble_eq_true rfl) dX6_leave_3 [.int 1, .ref 465] rfl ?_
  refine am_ifeq hF 20 dX6_leave_6 (by decide) (fun h9 => False.elim ((by revert h9; decide))) (fun _ => ?_)
  refine am_go hF sgX6_leave_9_f8a59 10 [(0, .ref 465), (1, .int (nI l)), (2, .int (nI p))] [.int (nI p), .ref 465] sgX6_leave_9_f8a59d rfl ?_
  refine am_dS hF hO [.int (nI p)] [.ref 465] (c_isPerson_t (show p < 16 by omega) rfl) myX6_isPerson syX6_isPerson lm_RX6_118 rfl 0 0 ⟨Nat.le_of_ble_eq_true rfl, Nat.le_of_ble_eq_true rfl⟩ ⟨Nat.le_of_ble_eq_true rfl, Nat.le_of_ble_eq_true rfl, Nat.le_of_ble_eq_true rfl, Nat.le_of_ble_eq_true rfl⟩ rfl (am_lv_ref (hp_m _ _ _) (am_lv_int (am_lv_int (am_lv_ref (hp_m _ _ _) am_lv_nil)))) (Nat.le_of_ble_eq_true rfl) dX6_leave_10 [.int 1, .ref 465] rfl ?_
  refine am_ifeq hF 20 dX6_leave_13 (by decide) (fun h9 => False.elim ((by revert h9; decide))) (fun _ => ?_)
  refine am_go hF sgX6_leave_16_1cbe9 21 [(0, .ref 465), (1, .int (nI l)), (2, .int (nI p))] [.int 0, .ref 465] sgX6_leave_16_1cbe9d rfl ?_
  refine sv_put hF 0 (by decide) rfl rfl rfl lf_RX6_104 dX6_leave_21 ?_
  refine am_go hF sgX6_leave_24_34db8 25 [(0, .ref 465), (1, .int (nI l)), (2, .int (nI p))] [.ref 465] sgX6_leave_24_34db8d rfl ?_
  refine sv_get hF 0 (by decide) rfl lf_RX6_104 (.int 0) rfl dX6_leave_25 ?_
  refine am_ifle hF 33 dX6_leave_28 (by decide) (fun _ => ?_) (fun h9 => False.elim ((by revert h9; decide)))
  refine am_go hF sgX6_leave_33_34db8 34 [(0, .ref 465), (1, .int (nI l)), (2, .int (nI p))] [.ref 465] sgX6_leave_33_34db8d rfl ?_
  refine sv_get hF 16 (by decide) rfl lf_RX6_47 (.ref 516) rfl dX6_leave_34 ?_
  refine am_go hF sgX6_leave_37_b6bf4 43 [(0, .ref 465), (1, .int (nI l)), (2, .int (nI p))] [.int ((16 * (nI l)) + (nI p)), .ref 516] sgX6_leave_37_b6bf4d rfl ?_
  refine sv_iald hF 16 (by decide) ⟨rfl, rfl, by decide⟩ ((16 * l) + p) (am_ad (am_mu rfl rfl) rfl) (show (16 * l) + p < 160 by omega) dX6_leave_43 ?_
  refine am_top (S 16 ((16 * l) + p)) rfl ?_
  refine am_go hF sgX6_leave_44_8d6bf 48 [(3, .int (S 16 ((16 * l) + p))), (0, .ref 465), (1, .int (nI l)), (2, .int (nI p))] [.int (-1), .int (S 16 ((16 * l) + p)), .ref 465] sgX6_leave_44_8d6bfd rfl ?_
  refine am_icmpne hF 55 dX6_leave_48 (by decide) (fun _ => ?_) (fun h9 => False.elim (absurd h9 hmem))
  refine am_go hF sgX6_leave_55_56c54 56 [(3, .int (S 16 ((16 * l) + p))), (0, .ref 465), (1, .int (nI l)), (2, .int (nI p))] [.int 0, .ref 465] sgX6_leave_55_56c54d rfl ?_
  refine sv_put hF 0 (by decide) rfl rfl rfl lf_RX6_104 dX6_leave_56 ?_
  refine am_go hF sgX6_leave_59_34db8 60 [(3, .int (S 16 ((16 * l) + p))), (0, .ref 465), (1, .int (nI l)), (2, .int (nI p))] [.ref 465] sgX6_leave_59_34db8d rfl ?_
  refine sv_get hF 16 (by decide) rfl lf_RX6_47 (.ref 516) rfl dX6_leave_60 ?_
  refine am_go hF sgX6_leave_63_8a281 70 [(3, .int (S 16 ((16 * l) + p))), (0, .ref 465), (1, .int (nI l)), (2, .int (nI p))] [.int (-1), .int ((16 * (nI l)) + (nI p)), .ref 516] sgX6_leave_63_8a281d rfl ?_
  refine sv_iast hF 16 (by decide) ⟨rfl, rfl, by decide⟩ ((16 * l) + p) (am_ad (am_mu rfl rfl) rfl) (show (16 * l) + p < 160 by omega) dX6_leave_70 ?_
  refine am_go hF sgX6_leave_71_34db8 72 [(3, .int (S 16 ((16 * l) + p))), (0, .ref 465), (1, .int (nI l)), (2, .int (nI p))] [.ref 465] sgX6_leave_71_34db8d rfl ?_
  refine sv_get hF 0 (by decide) rfl lf_RX6_104 (.int 0) rfl dX6_leave_72 ?_
  refine am_ifle hF 82 dX6_leave_75 (by decide) (fun _ => ?_) (fun h9 => False.elim ((by revert h9; decide)))
  refine am_go hF sgX6_leave_82_13b50 83 [(3, .int (S 16 ((16 * l) + p))), (0, .ref 465), (1, .int (nI l)), (2, .int (nI p))] [.int (S 16 ((16 * l) + p))] sgX6_leave_82_13b50d rfl ?_
  exact am_iret hF hO hret rfl dX6_leave_83 ⟨rfl, rfl⟩
set_option maxRecDepth 100000 in
set_option maxHeartbeats 4000000 in
theorem c_r_nest_1 {G : am_S} {T S : am_T} {o : Nat → Int64} {n : Nat} (hn : S 9 0 = nI n) (hn10 : n ≤ 10) {x : Int32} (hx : x < 0 ∨ nI n ≤ x) {y : Int32} : am_D G yX6_nest (.code yX6_nest cX6_nest 4 (some .boolean) :: am_G) { frames := 2, cells := 0, slots := 0, locals := 43 } (hp T S o) [.ref 465, .int x, .int y] (hp T (st1 S 0 0 1) o) (some (.int 0)) := by
  refine am_of (by decide +kernel) (Nat.le_of_ble_eq_true rfl) ?_
  intro C hse hret hname hF hO
  subst hse
  refine am_go hF sgX6_nest_0_6b3ba 3 [(0, .ref 465), (1, .int x), (2, .int y)] [.int x, .ref 465, .ref 465] sgX6_nest_0_6b3bad rfl ?_
  refine am_dV hF hO [.int x] [.ref 465] (c_isList_f (S := S) hn hn10 hx) myX6_isList vyX6_isList lm_RX6_122 (hp_m _ _ _) rfl rfl 0 0 ⟨Nat.le_of_ble_eq_true rfl, Nat.le_of_ble_eq_true rfl⟩ ⟨Nat.le_of_ble_eq_true rfl, Nat.le_of_ble_eq_true rfl, Nat.le_of_ble_eq_true rfl, Nat.le_of_ble_eq_true rfl⟩ rfl (am_lv_ref (hp_m _ _ _) (am_lv_int (am_lv_int (am_lv_ref (hp_m _ _ _) am_lv_nil)))) (Nat.le_of_ble_eq_true rfl) dX6_nest_3 [.int 0, .ref 465] rfl ?_
  refine am_ifeq hF 21 dX6_nest_6 (by decide) (fun _ => ?_) (fun h9 => False.elim ((by revert h9; decide)))
  refine am_go hF sgX6_nest_21_4de0a 22 [(0, .ref 465), (1, .int x), (2, .int y)] [.int 1, .ref 465] sgX6_nest_21_4de0ad rfl ?_
  refine sv_put hF 0 (by decide) rfl rfl rfl lf_RX6_104 dX6_nest_22 ?_
  refine am_go hF sgX6_nest_25_34db8 26 [(0, .ref 465), (1, .int x), (2, .int y)] [.ref 465] sgX6_nest_25_34db8d rfl ?_
  refine sv_get hF 0 (by decide) rfl lf_RX6_104 (.int 1) rfl dX6_nest_26 ?_
  refine am_ifle hF 34 dX6_nest_29 (by decide) (fun h9 => False.elim ((by revert h9; decide))) (fun _ => ?_)
  refine am_go hF sgX6_nest_32_56c54 33 [(0, .ref 465), (1, .int x), (2, .int y)] [.int 0] sgX6_nest_32_56c54d rfl ?_
  exact am_iret hF hO hret rfl dX6_nest_33 ⟨rfl, rfl⟩
set_option maxRecDepth 100000 in
set_option maxHeartbeats 4000000 in
theorem c_r_nest_2 {G : am_S} {T S : am_T} {o : Nat → Int64} {n : Nat} (hn : S 9 0 = nI n) (hn10 : n ≤ 10) {l : Nat} (hl : l < n) {y : Int32} (hy : y < 0 ∨ nI n ≤ y) : am_D G yX6_nest (.code yX6_nest cX6_nest 4 (some .boolean) :: am_G) { frames := 2, cells := 0, slots := 0, locals := 43 } (hp T S o) [.ref 465, .int (nI l), .int y] (hp T (st1 S 0 0 1) o) (some (.int 0)) := by
  refine am_of (by decide +kernel) (Nat.le_of_ble_eq_true rfl) ?_
  intro C hse hret hname hF hO
  subst hse
  refine am_go hF sgX6_nest_0_6b3ba 3 [(0, .ref 465), (1, .int (nI l)), (2, .int y)] [.int (nI l), .ref 465, .ref 465] sgX6_nest_0_6b3bad rfl ?_
  refine am_dV hF hO [.int (nI l)] [.ref 465] (c_isList_t (S := S) hn hn10 (show l < n by omega) rfl) myX6_isList vyX6_isList lm_RX6_122 (hp_m _ _ _) rfl rfl 0 0 ⟨Nat.le_of_ble_eq_true rfl, Nat.le_of_ble_eq_true rfl⟩ ⟨Nat.le_of_ble_eq_true rfl, Nat.le_of_ble_eq_true rfl, Nat.le_of_ble_eq_true rfl, Nat.le_of_ble_eq_true rfl⟩ rfl (am_lv_ref (hp_m _ _ _) (am_lv_int (am_lv_int (am_lv_ref (hp_m _ _ _) am_lv_nil)))) (Nat.le_of_ble_eq_true rfl) dX6_nest_3 [.int 1, .ref 465] rfl ?_
  refine am_ifeq hF 21 dX6_nest_6 (by decide) (fun h9 => False.elim ((by revert h9; decide))) (fun _ => ?_)
  refine am_go hF sgX6_nest_9_78e74 11 [(0, .ref 465), (1, .int (nI l)), (2, .int y)] [.int y, .ref 465, .ref 465] sgX6_nest_9_78e74d rfl ?_
  refine am_dV hF hO [.int y] [.ref 465] (c_isList_f (S := S) hn hn10 hy) myX6_isList vyX6_isList lm_RX6_122 (hp_m _ _ _) rfl rfl 0 0 ⟨Nat.le_of_ble_eq_true rfl, Nat.le_of_ble_eq_true rfl⟩ ⟨Nat.le_of_ble_eq_true rfl, Nat.le_of_ble_eq_true rfl, Nat.le_of_ble_eq_true rfl, Nat.le_of_ble_eq_true rfl⟩ rfl (am_lv_ref (hp_m _ _ _) (am_lv_int (am_lv_int (am_lv_ref (hp_m _ _ _) am_lv_nil)))) (Nat.le_of_ble_eq_true rfl) dX6_nest_11 [.int 0, .ref 465] rfl ?_
  refine am_ifeq hF 21 dX6_nest_14 (by decide) (fun _ => ?_) (fun h9 => False.elim ((by revert h9; decide)))
  refine am_go hF sgX6_nest_21_4de0a 22 [(0, .ref 465), (1, .int (nI l)), (2, .int y)] [.int 1, .ref 465] sgX6_nest_21_4de0ad rfl ?_
  refine sv_put hF 0 (by decide) rfl rfl rfl lf_RX6_104 dX6_nest_22 ?_
  refine am_go hF sgX6_nest_25_34db8 26 [(0, .ref 465), (1, .int (nI l)), (2, .int y)] [.ref 465] sgX6_nest_25_34db8d rfl ?_
  refine sv_get hF 0 (by decide) rfl lf_RX6_104 (.int 1) rfl dX6_nest_26 ?_
  refine am_ifle hF 34 dX6_nest_29 (by decide) (fun h9 => False.elim ((by revert h9; decide))) (fun _ => ?_)
  refine am_go hF sgX6_nest_32_56c54 33 [(0, .ref 465), (1, .int (nI l)), (2, .int y)] [.int 0] sgX6_nest_32_56c54d rfl ?_
  exact am_iret hF hO hret rfl dX6_nest_33 ⟨rfl, rfl⟩
set_option maxRecDepth 100000 in
set_option maxHeartbeats 4000000 in
theorem c_r_nest_3 {G : am_S} {T S : am_T} {o : Nat → Int64} {n : Nat} (hn : S 9 0 = nI n) (hn10 : n ≤ 10) {l : Nat} (hl : l < n) {q : Nat} (hq : q < n) (hi : ¬ S 15 l >>> (nI q &&& 31) &&& 1 = 1) (hw : rWin (st1 S 0 0 0) n q >>> (nI l &&& 31) &&& 1 = 1) : am_D G yX6_nest (.code yX6_nest cX6_nest 4 (some .boolean) :: am_G) { frames := 2, cells := 0, slots := 0, locals := 43 } (hp T S o) [.ref 465, .int (nI l), .int (nI q)] (hp T (st1 (st1 S 0 0 0) 0 0 2) o) (some (.int 0)) := by
  refine am_of (by decide +kernel) (Nat.le_of_ble_eq_true rfl) ?_
  intro C hse hret hname hF hO
  subst hse
  refine am_go hF sgX6_nest_0_6b3ba 3 [(0, .ref 465), (1, .int (nI l)), (2, .int (nI q))] [.int (nI l), .ref 465, .ref 465] sgX6_nest_0_6b3bad rfl ?_
  refine am_dV hF hO [.int (nI l)] [.ref 465] (c_isList_t (S := S) hn hn10 (show l < n by omega) rfl) myX6_isList vyX6_isList lm_RX6_122 (hp_m _ _ _) rfl rfl 0 0 ⟨Nat.le_of_ble_eq_true rfl, Nat.le_of_ble_eq_true rfl⟩ ⟨Nat.le_of_ble_eq_true rfl, Nat.le_of_ble_eq_true rfl, Nat.le_of_ble_eq_true rfl, Nat.le_of_ble_eq_true rfl⟩ rfl (am_lv_ref (hp_m _ _ _) (am_lv_int (am_lv_int (am_lv_ref (hp_m _ _ _) am_lv_nil)))) (Nat.le_of_ble_eq_true rfl) dX6_nest_3 [.int 1, .ref 465] rfl ?_
  refine am_ifeq hF 21 dX6_nest_6 (by decide) (fun h9 => False.elim ((by revert h9; decide))) (fun _ => ?_)
  refine am_go hF sgX6_nest_9_78e74 11 [(0, .ref 465), (1, .int (nI l)), (2, .int (nI q))] [.int (nI q), .ref 465, .ref 465] sgX6_nest_9_78e74d rfl ?_
  refine am_dV hF hO [.int (nI q)] [.ref 465] (c_isList_t (S := S) hn hn10 (show q < n by omega) rfl) myX6_isList vyX6_isList lm_RX6_122 (hp_m _ _ _) rfl rfl 0 0 ⟨Nat.le_of_ble_eq_true rfl, Nat.le_of_ble_eq_true rfl⟩ ⟨Nat.le_of_ble_eq_true rfl, Nat.le_of_ble_eq_true rfl, Nat.le_of_ble_eq_true rfl, Nat.le_of_ble_eq_true rfl⟩ rfl (am_lv_ref (hp_m _ _ _) (am_lv_int (am_lv_int (am_lv_ref (hp_m _ _ _) am_lv_nil)))) (Nat.le_of_ble_eq_true rfl) dX6_nest_11 [.int 1, .ref 465] rfl ?_
  refine am_ifeq hF 21 dX6_nest_14 (by decide) (fun h9 => False.elim ((by revert h9; decide))) (fun _ => ?_)
  refine am_go hF sgX6_nest_17_1cbe9 22 [(0, .ref 465), (1, .int (nI l)), (2, .int (nI q))] [.int 0, .ref 465] sgX6_nest_17_1cbe9d rfl ?_
  refine sv_put hF 0 (by decide) rfl rfl rfl lf_RX6_104 dX6_nest_22 ?_
  refine am_go hF sgX6_nest_25_34db8 26 [(0, .ref 465), (1, .int (nI l)), (2, .int (nI q))] [.ref 465] sgX6_nest_25_34db8d rfl ?_
  refine sv_get hF 0 (by decide) rfl lf_RX6_104 (.int 0) rfl dX6_nest_26 ?_
  refine am_ifle hF 34 dX6_nest_29 (by decide) (fun _ => ?_) (fun h9 => False.elim ((by revert h9; decide)))
  refine am_go hF sgX6_nest_34_34db8 35 [(0, .ref 465), (1, .int (nI l)), (2, .int (nI q))] [.ref 465] sgX6_nest_34_34db8d rfl ?_
  refine sv_get hF 15 (by decide) rfl lf_RX6_44 (.ref 515) rfl dX6_nest_35 ?_
  refine am_go hF sgX6_nest_38_840bf 39 [(0, .ref 465), (1, .int (nI l)), (2, .int (nI q))] [.int (nI l), .ref 515] sgX6_nest_38_840bfd rfl ?_
  refine sv_iald hF 15 (by decide) ⟨rfl, rfl, by decide⟩ l rfl (show l < 10 by omega) dX6_nest_39 ?_
  refine am_top (S 15 l) rfl ?_
  refine am_go hF sgX6_nest_40_89201 45 [(0, .ref 465), (1, .int (nI l)), (2, .int (nI q))] [.int 1, .int (((S 15 l) >>> ((nI q) &&& 31)) &&& 1)] sgX6_nest_40_89201d rfl ?_
  refine am_icmpne hF 52 dX6_nest_45 (by decide) (fun _ => ?_) (fun h9 => False.elim (absurd h9 hi))
  refine am_go hF sgX6_nest_52_05adf 56 [(3, .int 0), (0, .ref 465), (1, .int (nI l)), (2, .int (nI q))] [.int 0, .ref 465] sgX6_nest_52_05adfd rfl ?_
  refine am_ifne hF 76 dX6_nest_56 (by decide) (fun h9 => False.elim ((by revert h9; decide))) (fun _ => ?_)
  refine am_go hF sgX6_nest_59_78e74 61 [(3, .int 0), (0, .ref 465), (1, .int (nI l)), (2, .int (nI q))] [.int (nI q), .ref 465, .ref 465] sgX6_nest_59_78e74d rfl ?_
  refine am_dV hF hO [.int (nI q)] [.ref 465] (c_within (S := (st1 S 0 0 0)) (n := n) hn hn10 (by omega)) myX6_within vyX6_within lm_RX6_129 (hp_m _ _ _) rfl rfl 0 0 ⟨Nat.le_of_ble_eq_true rfl, Nat.le_of_ble_eq_true rfl⟩ ⟨Nat.le_of_ble_eq_true rfl, Nat.le_of_ble_eq_true rfl, Nat.le_of_ble_eq_true rfl, Nat.le_of_ble_eq_true rfl⟩ rfl (am_lv_int (am_lv_ref (hp_m _ _ _) (am_lv_int (am_lv_int (am_lv_ref (hp_m _ _ _) am_lv_nil))))) (Nat.le_of_ble_eq_true rfl) dX6_nest_61 [.int (rWin (st1 S 0 0 0) n q), .ref 465] rfl ?_
  refine am_go hF sgX6_nest_64_43adf 69 [(3, .int 0), (0, .ref 465), (1, .int (nI l)), (2, .int (nI q))] [.int 1, .int (((rWin (st1 S 0 0 0) n q) >>> ((nI l) &&& 31)) &&& 1), .ref 465] sgX6_nest_64_43adfd rfl ?_
  refine am_icmpne hF 76 dX6_nest_69 (by decide) (fun h9 => False.elim (absurd hw h9)) (fun _ => ?_)
  refine am_go hF sgX6_nest_72_abe91 77 [(3, .int 0), (0, .ref 465), (1, .int (nI l)), (2, .int (nI q))] [.int 2, .ref 465] sgX6_nest_72_abe91d rfl ?_
  refine sv_put hF 0 (by decide) rfl rfl rfl lf_RX6_104 dX6_nest_77 ?_
  refine am_go hF sgX6_nest_80_34db8 81 [(3, .int 0), (0, .ref 465), (1, .int (nI l)), (2, .int (nI q))] [.ref 465] sgX6_nest_80_34db8d rfl ?_
  refine sv_get hF 0 (by decide) rfl lf_RX6_104 (.int 2) rfl dX6_nest_81 ?_
  refine am_ifle hF 89 dX6_nest_84 (by decide) (fun h9 => False.elim ((by revert h9; decide))) (fun _ => ?_)
  refine am_go hF sgX6_nest_87_56c54 88 [(3, .int 0), (0, .ref 465), (1, .int (nI l)), (2, .int (nI q))] [.int 0] sgX6_nest_87_56c54d rfl ?_
  exact am_iret hF hO hret rfl dX6_nest_88 ⟨rfl, rfl⟩
set_option maxRecDepth 100000 in
set_option maxHeartbeats 4000000 in
theorem c_r_nest_4 {G : am_S} {T S : am_T} {o : Nat → Int64} {n : Nat} (hn : S 9 0 = nI n) (hn10 : n ≤ 10) {l : Nat} (hl : l < n) {q : Nat} (hq : q < n) (hi : ¬ S 15 l >>> (nI q &&& 31) &&& 1 = 1) (hw : ¬ rWin (st1 S 0 0 0) n q >>> (nI l &&& 31) &&& 1 = 1) : am_D G yX6_nest (.code yX6_nest cX6_nest 4 (some .boolean) :: am_G) { frames := 2, cells := 0, slots := 0, locals := 43 } (hp T S o) [.ref 465, .int (nI l), .int (nI q)] (hp T (st1 (st1 (st1 S 0 0 0) 0 0 0) 15 l ((S 15 l) ^^^ (1 <<< ((nI q) &&& 31)))) o) (some (.int 1)) := by
  refine am_of (by decide +kernel) (Nat.le_of_ble_eq_true rfl) ?_
  intro C hse hret hname hF hO
  subst hse
  refine am_go hF sgX6_nest_0_6b3ba 3 [(0, .ref 465), (1, .int (nI l)), (2, .int (nI q))] [.int (nI l), .ref 465, .ref 465] sgX6_nest_0_6b3bad rfl ?_
  refine am_dV hF hO [.int (nI l)] [.ref 465] (c_isList_t (S := S) hn hn10 (show l < n by omega) rfl) myX6_isList vyX6_isList lm_RX6_122 (hp_m _ _ _) rfl rfl 0 0 ⟨Nat.le_of_ble_eq_true rfl, Nat.le_of_ble_eq_true rfl⟩ ⟨Nat.le_of_ble_eq_true rfl, Nat.le_of_ble_eq_true rfl, Nat.le_of_ble_eq_true rfl, Nat.le_of_ble_eq_true rfl⟩ rfl (am_lv_ref (hp_m _ _ _) (am_lv_int (am_lv_int (am_lv_ref (hp_m _ _ _) am_lv_nil)))) (Nat.le_of_ble_eq_true rfl) dX6_nest_3 [.int 1, .ref 465] rfl ?_
  refine am_ifeq hF 21 dX6_nest_6 (by decide) (fun h9 => False.elim ((by revert h9; decide))) (fun _ => ?_)
  refine am_go hF sgX6_nest_9_78e74 11 [(0, .ref 465), (1, .int (nI l)), (2, .int (nI q))] [.int (nI q), .ref 465, .ref 465] sgX6_nest_9_78e74d rfl ?_
  refine am_dV hF hO [.int (nI q)] [.ref 465] (c_isList_t (S := S) hn hn10 (show q < n by omega) rfl) myX6_isList vyX6_isList lm_RX6_122 (hp_m _ _ _) rfl rfl 0 0 ⟨Nat.le_of_ble_eq_true rfl, Nat.le_of_ble_eq_true rfl⟩ ⟨Nat.le_of_ble_eq_true rfl, Nat.le_of_ble_eq_true rfl, Nat.le_of_ble_eq_true rfl, Nat.le_of_ble_eq_true rfl⟩ rfl (am_lv_ref (hp_m _ _ _) (am_lv_int (am_lv_int (am_lv_ref (hp_m _ _ _) am_lv_nil)))) (Nat.le_of_ble_eq_true rfl) dX6_nest_11 [.int 1, .ref 465] rfl ?_
  refine am_ifeq hF 21 dX6_nest_14 (by decide) (fun h9 => False.elim ((by revert h9; decide))) (fun _ => ?_)
  refine am_go hF sgX6_nest_17_1cbe9 22 [(0, .ref 465), (1, .int (nI l)), (2, .int (nI q))] [.int 0, .ref 465] sgX6_nest_17_1cbe9d rfl ?_
  refine sv_put hF 0 (by decide) rfl rfl rfl lf_RX6_104 dX6_nest_22 ?_
  refine am_go hF sgX6_nest_25_34db8 26 [(0, .ref 465), (1, .int (nI l)), (2, .int (nI q))] [.ref 465] sgX6_nest_25_34db8d rfl ?_
  refine sv_get hF 0 (by decide) rfl lf_RX6_104 (.int 0) rfl dX6_nest_26 ?_
  refine am_ifle hF 34 dX6_nest_29 (by decide) (fun _ => ?_) (fun h9 => False.elim ((by revert h9; decide)))
  refine am_go hF sgX6_nest_34_34db8 35 [(0, .ref 465), (1, .int (nI l)), (2, .int (nI q))] [.ref 465] sgX6_nest_34_34db8d rfl ?_
  refine sv_get hF 15 (by decide) rfl lf_RX6_44 (.ref 515) rfl dX6_nest_35 ?_
  refine am_go hF sgX6_nest_38_840bf 39 [(0, .ref 465), (1, .int (nI l)), (2, .int (nI q))] [.int (nI l), .ref 515] sgX6_nest_38_840bfd rfl ?_
  refine sv_iald hF 15 (by decide) ⟨rfl, rfl, by decide⟩ l rfl (show l < 10 by omega) dX6_nest_39 ?_
  refine am_top (S 15 l) rfl ?_
  refine am_go hF sgX6_nest_40_89201 45 [(0, .ref 465), (1, .int (nI l)), (2, .int (nI q))] [.int 1, .int (((S 15 l) >>> ((nI q) &&& 31)) &&& 1)] sgX6_nest_40_89201d rfl ?_
  refine am_icmpne hF 52 dX6_nest_45 (by decide) (fun _ => ?_) (fun h9 => False.elim (absurd h9 hi))
  refine am_go hF sgX6_nest_52_05adf 56 [(3, .int 0), (0, .ref 465), (1, .int (nI l)), (2, .int (nI q))] [.int 0, .ref 465] sgX6_nest_52_05adfd rfl ?_
  refine am_ifne hF 76 dX6_nest_56 (by decide) (fun h9 => False.elim ((by revert h9; decide))) (fun _ => ?_)
  refine am_go hF sgX6_nest_59_78e74 61 [(3, .int 0), (0, .ref 465), (1, .int (nI l)), (2, .int (nI q))] [.int (nI q), .ref 465, .ref 465] sgX6_nest_59_78e74d rfl ?_
  refine am_dV hF hO [.int (nI q)] [.ref 465] (c_within (S := (st1 S 0 0 0)) (n := n) hn hn10 (by omega)) myX6_within vyX6_within lm_RX6_129 (hp_m _ _ _) rfl rfl 0 0 ⟨Nat.le_of_ble_eq_true rfl, Nat.le_of_ble_eq_true rfl⟩ ⟨Nat.le_of_ble_eq_true rfl, Nat.le_of_ble_eq_true rfl, Nat.le_of_ble_eq_true rfl, Nat.le_of_ble_eq_true rfl⟩ rfl (am_lv_int (am_lv_ref (hp_m _ _ _) (am_lv_int (am_lv_int (am_lv_ref (hp_m _ _ _) am_lv_nil))))) (Nat.le_of_ble_eq_true rfl) dX6_nest_61 [.int (rWin (st1 S 0 0 0) n q), .ref 465] rfl ?_
  refine am_go hF sgX6_nest_64_43adf 69 [(3, .int 0), (0, .ref 465), (1, .int (nI l)), (2, .int (nI q))] [.int 1, .int (((rWin (st1 S 0 0 0) n q) >>> ((nI l) &&& 31)) &&& 1), .ref 465] sgX6_nest_64_43adfd rfl ?_
  refine am_icmpne hF 76 dX6_nest_69 (by decide) (fun _ => ?_) (fun h9 => False.elim (absurd h9 hw))
  refine am_go hF sgX6_nest_76_56c54 77 [(3, .int 0), (0, .ref 465), (1, .int (nI l)), (2, .int (nI q))] [.int 0, .ref 465] sgX6_nest_76_56c54d rfl ?_
  refine sv_put hF 0 (by decide) rfl rfl rfl lf_RX6_104 dX6_nest_77 ?_
  refine am_go hF sgX6_nest_80_34db8 81 [(3, .int 0), (0, .ref 465), (1, .int (nI l)), (2, .int (nI q))] [.ref 465] sgX6_nest_80_34db8d rfl ?_
  refine sv_get hF 0 (by decide) rfl lf_RX6_104 (.int 0) rfl dX6_nest_81 ?_
  refine am_ifle hF 89 dX6_nest_84 (by decide) (fun _ => ?_) (fun h9 => False.elim ((by revert h9; decide)))
  refine am_go hF sgX6_nest_89_34db8 90 [(3, .int 0), (0, .ref 465), (1, .int (nI l)), (2, .int (nI q))] [.ref 465] sgX6_nest_89_34db8d rfl ?_
  refine sv_get hF 15 (by decide) rfl lf_RX6_44 (.ref 515) rfl dX6_nest_90 ?_
  refine am_go hF sgX6_nest_93_563cd 95 [(3, .int 0), (0, .ref 465), (1, .int (nI l)), (2, .int (nI q))] [.int (nI l), .ref 515, .int (nI l), .ref 515] sgX6_nest_93_563cdd rfl ?_
  refine sv_iald hF 15 (by decide) ⟨rfl, rfl, by decide⟩ l rfl (show l < 10 by omega) dX6_nest_95 ?_
  refine am_top (S 15 l) rfl ?_
  refine am_go hF sgX6_nest_96_0d86e 100 [(3, .int 0), (0, .ref 465), (1, .int (nI l)), (2, .int (nI q))] [.int ((S 15 l) ^^^ (1 <<< ((nI q) &&& 31))), .int (nI l), .ref 515] sgX6_nest_96_0d86ed rfl ?_
  refine sv_iast hF 15 (by decide) ⟨rfl, rfl, by decide⟩ l rfl (show l < 10 by omega) dX6_nest_100 ?_
  refine am_go hF sgX6_nest_101_13b50 102 [(3, .int 0), (0, .ref 465), (1, .int (nI l)), (2, .int (nI q))] [.int 0] sgX6_nest_101_13b50d rfl ?_
  refine am_ifne hF 109 dX6_nest_102 (by decide) (fun h9 => False.elim ((by revert h9; decide))) (fun _ => ?_)
  refine am_go hF sgX6_nest_105_1c64c 110 [(3, .int 0), (0, .ref 465), (1, .int (nI l)), (2, .int (nI q))] [.int 1] sgX6_nest_105_1c64cd rfl ?_
  exact am_iret hF hO hret rfl dX6_nest_110 ⟨rfl, rfl⟩
set_option maxRecDepth 100000 in
set_option maxHeartbeats 4000000 in
theorem c_r_nest_5 {G : am_S} {T S : am_T} {o : Nat → Int64} {n : Nat} (hn : S 9 0 = nI n) (hn10 : n ≤ 10) {l : Nat} (hl : l < n) {q : Nat} (hq : q < n) (hi : S 15 l >>> (nI q &&& 31) &&& 1 = 1) : am_D G yX6_nest (.code yX6_nest cX6_nest 4 (some .boolean) :: am_G) { frames := 2, cells := 0, slots := 0, locals := 43 } (hp T S o) [.ref 465, .int (nI l), .int (nI q)] (hp T (st1 (st1 (st1 S 0 0 0) 0 0 0) 15 l ((S 15 l) ^^^ (1 <<< ((nI q) &&& 31)))) o) (some (.int 0)) := by
  refine am_of (by decide +kernel) (Nat.le_of_ble_eq_true rfl) ?_
  intro C hse hret hname hF hO
  subst hse
  refine am_go hF sgX6_nest_0_6b3ba 3 [(0, .ref 465), (1, .int (nI l)), (2, .int (nI q))] [.int (nI l), .ref 465, .ref 465] sgX6_nest_0_6b3bad rfl ?_
  refine am_dV hF hO [.int (nI l)] [.ref 465] (c_isList_t (S := S) hn hn10 (show l < n by omega) rfl) myX6_isList vyX6_isList lm_RX6_122 (hp_m _ _ _) rfl rfl 0 0 ⟨Nat.le_of_ble_eq_true rfl, Nat.le_of_ble_eq_true rfl⟩ ⟨Nat.le_of_ble_eq_true rfl, Nat.le_of_ble_eq_true rfl, Nat.le_of_ble_eq_true rfl, Nat.le_of_ble_eq_true rfl⟩ rfl (am_lv_ref (hp_m _ _ _) (am_lv_int (am_lv_int (am_lv_ref (hp_m _ _ _) am_lv_nil)))) (Nat.le_of_ble_eq_true rfl) dX6_nest_3 [.int 1, .ref 465] rfl ?_
  refine am_ifeq hF 21 dX6_nest_6 (by decide) (fun h9 => False.elim ((by revert h9; decide))) (fun _ => ?_)
  refine am_go hF sgX6_nest_9_78e74 11 [(0, .ref 465), (1, .int (nI l)), (2, .int (nI q))] [.int (nI q), .ref 465, .ref 465] sgX6_nest_9_78e74d rfl ?_
  refine am_dV hF hO [.int (nI q)] [.ref 465] (c_isList_t (S := S) hn hn10 (show q < n by omega) rfl) myX6_isList vyX6_isList lm_RX6_122 (hp_m _ _ _) rfl rfl 0 0 ⟨Nat.le_of_ble_eq_true rfl, Nat.le_of_ble_eq_true rfl⟩ ⟨Nat.le_of_ble_eq_true rfl, Nat.le_of_ble_eq_true rfl, Nat.le_of_ble_eq_true rfl, Nat.le_of_ble_eq_true rfl⟩ rfl (am_lv_ref (hp_m _ _ _) (am_lv_int (am_lv_int (am_lv_ref (hp_m _ _ _) am_lv_nil)))) (Nat.le_of_ble_eq_true rfl) dX6_nest_11 [.int 1, .ref 465] rfl ?_
  refine am_ifeq hF 21 dX6_nest_14 (by decide) (fun h9 => False.elim ((by revert h9; decide))) (fun _ => ?_)
  refine am_go hF sgX6_nest_17_1cbe9 22 [(0, .ref 465), (1, .int (nI l)), (2, .int (nI q))] [.int 0, .ref 465] sgX6_nest_17_1cbe9d rfl ?_
  refine sv_put hF 0 (by decide) rfl rfl rfl lf_RX6_104 dX6_nest_22 ?_
  refine am_go hF sgX6_nest_25_34db8 26 [(0, .ref 465), (1, .int (nI l)), (2, .int (nI q))] [.ref 465] sgX6_nest_25_34db8d rfl ?_
  refine sv_get hF 0 (by decide) rfl lf_RX6_104 (.int 0) rfl dX6_nest_26 ?_
  refine am_ifle hF 34 dX6_nest_29 (by decide) (fun _ => ?_) (fun h9 => False.elim ((by revert h9; decide)))
  refine am_go hF sgX6_nest_34_34db8 35 [(0, .ref 465), (1, .int (nI l)), (2, .int (nI q))] [.ref 465] sgX6_nest_34_34db8d rfl ?_
  refine sv_get hF 15 (by decide) rfl lf_RX6_44 (.ref 515) rfl dX6_nest_35 ?_
  refine am_go hF sgX6_nest_38_840bf 39 [(0, .ref 465), (1, .int (nI l)), (2, .int (nI q))] [.int (nI l), .ref 515] sgX6_nest_38_840bfd rfl ?_
  refine sv_iald hF 15 (by decide) ⟨rfl, rfl, by decide⟩ l rfl (show l < 10 by omega) dX6_nest_39 ?_
  refine am_top (S 15 l) rfl ?_
  refine am_go hF sgX6_nest_40_89201 45 [(0, .ref 465), (1, .int (nI l)), (2, .int (nI q))] [.int 1, .int (((S 15 l) >>> ((nI q) &&& 31)) &&& 1)] sgX6_nest_40_89201d rfl ?_
  refine am_icmpne hF 52 dX6_nest_45 (by decide) (fun h9 => False.elim (absurd hi h9)) (fun _ => ?_)
  refine am_go hF sgX6_nest_48_63fa2 56 [(3, .int 1), (0, .ref 465), (1, .int (nI l)), (2, .int (nI q))] [.int 1, .ref 465] sgX6_nest_48_63fa2d rfl ?_
  refine am_ifne hF 76 dX6_nest_56 (by decide) (fun _ => ?_) (fun h9 => False.elim ((by revert h9; decide)))
  refine am_go hF sgX6_nest_76_56c54 77 [(3, .int 1), (0, .ref 465), (1, .int (nI l)), (2, .int (nI q))] [.int 0, .ref 465] sgX6_nest_76_56c54d rfl ?_
  refine sv_put hF 0 (by decide) rfl rfl rfl lf_RX6_104 dX6_nest_77 ?_
  refine am_go hF sgX6_nest_80_34db8 81 [(3, .int 1), (0, .ref 465), (1, .int (nI l)), (2, .int (nI q))] [.ref 465] sgX6_nest_80_34db8d rfl ?_
  refine sv_get hF 0 (by decide) rfl lf_RX6_104 (.int 0) rfl dX6_nest_81 ?_
  refine am_ifle hF 89 dX6_nest_84 (by decide) (fun _ => ?_) (fun h9 => False.elim ((by revert h9; decide)))
  refine am_go hF sgX6_nest_89_34db8 90 [(3, .int 1), (0, .ref 465), (1, .int (nI l)), (2, .int (nI q))] [.ref 465] sgX6_nest_89_34db8d rfl ?_
  refine sv_get hF 15 (by decide) rfl lf_RX6_44 (.ref 515) rfl dX6_nest_90 ?_
  refine am_go hF sgX6_nest_93_563cd 95 [(3, .int 1), (0, .ref 465), (1, .int (nI l)), (2, .int (nI q))] [.int (nI l), .ref 515, .int (nI l), .ref 515] sgX6_nest_93_563cdd rfl ?_
  refine sv_iald hF 15 (by decide) ⟨rfl, rfl, by decide⟩ l rfl (show l < 10 by omega) dX6_nest_95 ?_
  refine am_top (S 15 l) rfl ?_
  refine am_go hF sgX6_nest_96_0d86e 100 [(3, .int 1), (0, .ref 465), (1, .int (nI l)), (2, .int (nI q))] [.int ((S 15 l) ^^^ (1 <<< ((nI q) &&& 31))), .int (nI l), .ref 515] sgX6_nest_96_0d86ed rfl ?_
  refine sv_iast hF 15 (by decide) ⟨rfl, rfl, by decide⟩ l rfl (show l < 10 by omega) dX6_nest_100 ?_
  refine am_go hF sgX6_nest_101_13b50 102 [(3, .int 1), (0, .ref 465), (1, .int (nI l)), (2, .int (nI q))] [.int 1] sgX6_nest_101_13b50d rfl ?_
  refine am_ifne hF 109 dX6_nest_102 (by decide) (fun _ => ?_) (fun h9 => False.elim ((by revert h9; decide)))
  refine am_go hF sgX6_nest_109_56c54 110 [(3, .int 1), (0, .ref 465), (1, .int (nI l)), (2, .int (nI q))] [.int 0] sgX6_nest_109_56c54d rfl ?_
  exact am_iret hF hO hret rfl dX6_nest_110 ⟨rfl, rfl⟩
set_option maxRecDepth 100000 in
set_option maxHeartbeats 4000000 in
theorem c_r_rules_1 {G : am_S} {T S : am_T} {o : Nat → Int64} {n : Nat} (hn : S 9 0 = nI n) (hn10 : n ≤ 10) {x : Int32} (hx : x < 0 ∨ nI n ≤ x) {y z : Int32} {b : Bool} : am_D G yX6_rules (.code yX6_rules cX6_rules 6 (some .int) :: am_G) { frames := 2, cells := 0, slots := 0, locals := 43 } (hp T S o) [.ref 465, .int x, .int y, .int z, .int (if b = true then 1 else 0)] (hp T (st1 S 0 0 1) o) (some (.int 0)) := by
  refine am_of (by decide +kernel) (Nat.le_of_ble_eq_true rfl) ?_
  intro C hse hret hname hF hO
  subst hse
  refine am_go hF sgX6_rules_0_6b3ba 3 [(0, .ref 465), (1, .int x), (2, .int y), (3, .int z), (4, .int (if b = true then 1 else 0))] [.int x, .ref 465, .ref 465] sgX6_rules_0_6b3bad rfl ?_
  refine am_dV hF hO [.int x] [.ref 465] (c_isList_f (S := S) hn hn10 hx) myX6_isList vyX6_isList lm_RX6_122 (hp_m _ _ _) rfl rfl 0 0 ⟨Nat.le_of_ble_eq_true rfl, Nat.le_of_ble_eq_true rfl⟩ ⟨Nat.le_of_ble_eq_true rfl, Nat.le_of_ble_eq_true rfl, Nat.le_of_ble_eq_true rfl, Nat.le_of_ble_eq_true rfl⟩ rfl (am_lv_ref (hp_m _ _ _) (am_lv_int (am_lv_int (am_lv_int (am_lv_int (am_lv_ref (hp_m _ _ _) am_lv_nil)))))) (Nat.le_of_ble_eq_true rfl) dX6_rules_3 [.int 0, .ref 465] rfl ?_
  refine am_ifne hF 13 dX6_rules_6 (by decide) (fun h9 => False.elim ((by revert h9; decide))) (fun _ => ?_)
  refine am_go hF sgX6_rules_9_b69fd 39 [(0, .ref 465), (1, .int x), (2, .int y), (3, .int z), (4, .int (if b = true then 1 else 0))] [.int 1, .ref 465] sgX6_rules_9_b69fdd rfl ?_
  refine sv_put hF 0 (by decide) rfl rfl rfl lf_RX6_104 dX6_rules_39 ?_
  refine am_go hF sgX6_rules_42_34db8 43 [(0, .ref 465), (1, .int x), (2, .int y), (3, .int z), (4, .int (if b = true then 1 else 0))] [.ref 465] sgX6_rules_42_34db8d rfl ?_
  refine sv_get hF 0 (by decide) rfl lf_RX6_104 (.int 1) rfl dX6_rules_43 ?_
  refine am_ifle hF 51 dX6_rules_46 (by decide) (fun h9 => False.elim ((by revert h9; decide))) (fun _ => ?_)
  refine am_go hF sgX6_rules_49_56c54 50 [(0, .ref 465), (1, .int x), (2, .int y), (3, .int z), (4, .int (if b = true then 1 else 0))] [.int 0] sgX6_rules_49_56c54d rfl ?_
  exact am_iret hF hO hret rfl dX6_rules_50 ⟨rfl, rfl⟩
set_option maxRecDepth 100000 in
set_option maxHeartbeats 4000000 in
theorem c_r_rules_2 {G : am_S} {T S : am_T} {o : Nat → Int64} {n : Nat} (hn : S 9 0 = nI n) (hn10 : n ≤ 10) {l : Nat} (hl : l < n) {y z : Int32} {b : Bool} (hy : y < 1 ∨ 200 < y) : am_D G yX6_rules (.code yX6_rules cX6_rules 6 (some .int) :: am_G) { frames := 2, cells := 0, slots := 0, locals := 43 } (hp T S o) [.ref 465, .int (nI l), .int y, .int z, .int (if b = true then 1 else 0)] (hp T (st1 S 0 0 2) o) (some (.int 0)) := by
  refine am_of (by decide +kernel) (Nat.le_of_ble_eq_true rfl) ?_
  intro C hse hret hname hF hO
  subst hse
  refine am_go hF sgX6_rules_0_6b3ba 3 [(0, .ref 465), (1, .int (nI l)), (2, .int y), (3, .int z), (4, .int (if b = true then 1 else 0))] [.int (nI l), .ref 465, .ref 465] sgX6_rules_0_6b3bad rfl ?_
  refine am_dV hF hO [.int (nI l)] [.ref 465] (c_isList_t (S := S) hn hn10 (show l < n by omega) rfl) myX6_isList vyX6_isList lm_RX6_122 (hp_m _ _ _) rfl rfl 0 0 ⟨Nat.le_of_ble_eq_true rfl, Nat.le_of_ble_eq_true rfl⟩ ⟨Nat.le_of_ble_eq_true rfl, Nat.le_of_ble_eq_true rfl, Nat.le_of_ble_eq_true rfl, Nat.le_of_ble_eq_true rfl⟩ rfl (am_lv_ref (hp_m _ _ _) (am_lv_int (am_lv_int (am_lv_int (am_lv_int (am_lv_ref (hp_m _ _ _) am_lv_nil)))))) (Nat.le_of_ble_eq_true rfl) dX6_rules_3 [.int 1, .ref 465] rfl ?_
  refine am_ifne hF 13 dX6_rules_6 (by decide) (fun _ => ?_) (fun h9 => False.elim ((by revert h9; decide)))
  refine am_go hF sgX6_rules_13_bd672 18 [(0, .ref 465), (1, .int (nI l)), (2, .int y), (3, .int z), (4, .int (if b = true then 1 else 0))] [.int 200, .int 1, .int y, .ref 465] sgX6_rules_13_bd672d rfl ?_
  refine am_dS hF hO [.int y, .int 1, .int 200] [.ref 465] (c_isIn_f hy) myX6_isIn syX6_isIn lm_RX6_108 rfl 0 0 ⟨Nat.le_of_ble_eq_true rfl, Nat.le_of_ble_eq_true rfl⟩ ⟨Nat.le_of_ble_eq_true rfl, Nat.le_of_ble_eq_true rfl, Nat.le_of_ble_eq_true rfl, Nat.le_of_ble_eq_true rfl⟩ rfl (am_lv_ref (hp_m _ _ _) (am_lv_int (am_lv_int (am_lv_int (am_lv_int (am_lv_ref (hp_m _ _ _) am_lv_nil)))))) (Nat.le_of_ble_eq_true rfl) dX6_rules_18 [.int 0, .ref 465] rfl ?_
  refine am_ifeq hF 38 dX6_rules_21 (by decide) (fun _ => ?_) (fun h9 => False.elim ((by revert h9; decide)))
  refine am_go hF sgX6_rules_38_d5620 39 [(0, .ref 465), (1, .int (nI l)), (2, .int y), (3, .int z), (4, .int (if b = true then 1 else 0))] [.int 2, .ref 465] sgX6_rules_38_d5620d rfl ?_
  refine sv_put hF 0 (by decide) rfl rfl rfl lf_RX6_104 dX6_rules_39 ?_
  refine am_go hF sgX6_rules_42_34db8 43 [(0, .ref 465), (1, .int (nI l)), (2, .int y), (3, .int z), (4, .int (if b = true then 1 else 0))] [.ref 465] sgX6_rules_42_34db8d rfl ?_
  refine sv_get hF 0 (by decide) rfl lf_RX6_104 (.int 2) rfl dX6_rules_43 ?_
  refine am_ifle hF 51 dX6_rules_46 (by decide) (fun h9 => False.elim ((by revert h9; decide))) (fun _ => ?_)
  refine am_go hF sgX6_rules_49_56c54 50 [(0, .ref 465), (1, .int (nI l)), (2, .int y), (3, .int z), (4, .int (if b = true then 1 else 0))] [.int 0] sgX6_rules_49_56c54d rfl ?_
  exact am_iret hF hO hret rfl dX6_rules_50 ⟨rfl, rfl⟩
set_option maxRecDepth 100000 in
set_option maxHeartbeats 4000000 in
theorem c_r_rules_3 {G : am_S} {T S : am_T} {o : Nat → Int64} {n : Nat} (hn : S 9 0 = nI n) (hn10 : n ≤ 10) {l : Nat} (hl : l < n) {y z : Int32} {b : Bool} (hy1 : ¬ y < 1) (hy2 : ¬ 200 < y) (hz : z < 1 ∨ 30 < z) : am_D G yX6_rules (.code yX6_rules cX6_rules 6 (some .int) :: am_G) { frames := 2, cells := 0, slots := 0, locals := 43 } (hp T S o) [.ref 465, .int (nI l), .int y, .int z, .int (if b = true then 1 else 0)] (hp T (st1 S 0 0 2) o) (some (.int 0)) := by
  refine am_of (by decide +kernel) (Nat.le_of_ble_eq_true rfl) ?_
  intro C hse hret hname hF hO
  subst hse
  refine am_go hF sgX6_rules_0_6b3ba 3 [(0, .ref 465), (1, .int (nI l)), (2, .int y), (3, .int z), (4, .int (if b = true then 1 else 0))] [.int (nI l), .ref 465, .ref 465] sgX6_rules_0_6b3bad rfl ?_
  refine am_dV hF hO [.int (nI l)] [.ref 465] (c_isList_t (S := S) hn hn10 (show l < n by omega) rfl) myX6_isList vyX6_isList lm_RX6_122 (hp_m _ _ _) rfl rfl 0 0 ⟨Nat.le_of_ble_eq_true rfl, Nat.le_of_ble_eq_true rfl⟩ ⟨Nat.le_of_ble_eq_true rfl, Nat.le_of_ble_eq_true rfl, Nat.le_of_ble_eq_true rfl, Nat.le_of_ble_eq_true rfl⟩ rfl (am_lv_ref (hp_m _ _ _) (am_lv_int (am_lv_int (am_lv_int (am_lv_int (am_lv_ref (hp_m _ _ _) am_lv_nil)))))) (Nat.le_of_ble_eq_true rfl) dX6_rules_3 [.int 1, .ref 465] rfl ?_
  refine am_ifne hF 13 dX6_rules_6 (by decide) (fun _ => ?_) (fun h9 => False.elim ((by revert h9; decide)))
  refine am_go hF sgX6_rules_13_bd672 18 [(0, .ref 465), (1, .int (nI l)), (2, .int y), (3, .int z), (4, .int (if b = true then 1 else 0))] [.int 200, .int 1, .int y, .ref 465] sgX6_rules_13_bd672d rfl ?_
  refine am_dS hF hO [.int y, .int 1, .int 200] [.ref 465] (c_isIn_t hy1 hy2) myX6_isIn syX6_isIn lm_RX6_108 rfl 0 0 ⟨Nat.le_of_ble_eq_true rfl, Nat.le_of_ble_eq_true rfl⟩ ⟨Nat.le_of_ble_eq_true rfl, Nat.le_of_ble_eq_true rfl, Nat.le_of_ble_eq_true rfl, Nat.le_of_ble_eq_true rfl⟩ rfl (am_lv_ref (hp_m _ _ _) (am_lv_int (am_lv_int (am_lv_int (am_lv_int (am_lv_ref (hp_m _ _ _) am_lv_nil)))))) (Nat.le_of_ble_eq_true rfl) dX6_rules_18 [.int 1, .ref 465] rfl ?_
  refine am_ifeq hF 38 dX6_rules_21 (by decide) (fun h9 => False.elim ((by revert h9; decide))) (fun _ => ?_)
  refine am_go hF sgX6_rules_24_13ba5 28 [(0, .ref 465), (1, .int (nI l)), (2, .int y), (3, .int z), (4, .int (if b = true then 1 else 0))] [.int 30, .int 1, .int z, .ref 465] sgX6_rules_24_13ba5d rfl ?_
  refine am_dS hF hO [.int z, .int 1, .int 30] [.ref 465] (c_isIn_f hz) myX6_isIn syX6_isIn lm_RX6_108 rfl 0 0 ⟨Nat.le_of_ble_eq_true rfl, Nat.le_of_ble_eq_true rfl⟩ ⟨Nat.le_of_ble_eq_true rfl, Nat.le_of_ble_eq_true rfl, Nat.le_of_ble_eq_true rfl, Nat.le_of_ble_eq_true rfl⟩ rfl (am_lv_ref (hp_m _ _ _) (am_lv_int (am_lv_int (am_lv_int (am_lv_int (am_lv_ref (hp_m _ _ _) am_lv_nil)))))) (Nat.le_of_ble_eq_true rfl) dX6_rules_28 [.int 0, .ref 465] rfl ?_
  refine am_ifeq hF 38 dX6_rules_31 (by decide) (fun _ => ?_) (fun h9 => False.elim ((by revert h9; decide)))
  refine am_go hF sgX6_rules_38_d5620 39 [(0, .ref 465), (1, .int (nI l)), (2, .int y), (3, .int z), (4, .int (if b = true then 1 else 0))] [.int 2, .ref 465] sgX6_rules_38_d5620d rfl ?_
  refine sv_put hF 0 (by decide) rfl rfl rfl lf_RX6_104 dX6_rules_39 ?_
  refine am_go hF sgX6_rules_42_34db8 43 [(0, .ref 465), (1, .int (nI l)), (2, .int y), (3, .int z), (4, .int (if b = true then 1 else 0))] [.ref 465] sgX6_rules_42_34db8d rfl ?_
  refine sv_get hF 0 (by decide) rfl lf_RX6_104 (.int 2) rfl dX6_rules_43 ?_
  refine am_ifle hF 51 dX6_rules_46 (by decide) (fun h9 => False.elim ((by revert h9; decide))) (fun _ => ?_)
  refine am_go hF sgX6_rules_49_56c54 50 [(0, .ref 465), (1, .int (nI l)), (2, .int y), (3, .int z), (4, .int (if b = true then 1 else 0))] [.int 0] sgX6_rules_49_56c54d rfl ?_
  exact am_iret hF hO hret rfl dX6_rules_50 ⟨rfl, rfl⟩
set_option maxRecDepth 100000 in
set_option maxHeartbeats 4000000 in
theorem c_r_rules_4 {G : am_S} {T S : am_T} {o : Nat → Int64} {n : Nat} (hn : S 9 0 = nI n) (hn10 : n ≤ 10) {l : Nat} (hl : l < n) {y z : Int32} {b : Bool} (hy1 : ¬ y < 1) (hy2 : ¬ 200 < y) (hz1 : ¬ z < 1) (hz2 : ¬ 30 < z) : am_D G yX6_rules (.code yX6_rules cX6_rules 6 (some .int) :: am_G) { frames := 2, cells := 0, slots := 0, locals := 43 } (hp T S o) [.ref 465, .int (nI l), .int y, .int z, .int (if b = true then 1 else 0)] (hp T (st1 (st1 (st1 (st1 S 0 0 0) 11 l y) 12 l z) 13 l (if b = true then 1 else 0)) o) (some (.int (S 11 l))) := by
  refine am_of (by decide +kernel) (Nat.le_of_ble_eq_true rfl) ?_
  intro C hse hret hname hF hO
  subst hse
  refine am_go hF sgX6_rules_0_6b3ba 3 [(0, .ref 465), (1, .int (nI l)), (2, .int y), (3, .int z), (4, .int (if b = true then 1 else 0))] [.int (nI l), .ref 465, .ref 465] sgX6_rules_0_6b3bad rfl ?_
  refine am_dV hF hO [.int (nI l)] [.ref 465] (c_isList_t (S := S) hn hn10 (show l < n by omega) rfl) myX6_isList vyX6_isList lm_RX6_122 (hp_m _ _ _) rfl rfl 0 0 ⟨Nat.le_of_ble_eq_true rfl, Nat.le_of_ble_eq_true rfl⟩ ⟨Nat.le_of_ble_eq_true rfl, Nat.le_of_ble_eq_true rfl, Nat.le_of_ble_eq_true rfl, Nat.le_of_ble_eq_true rfl⟩ rfl (am_lv_ref (hp_m _ _ _) (am_lv_int (am_lv_int (am_lv_int (am_lv_int (am_lv_ref (hp_m _ _ _) am_lv_nil)))))) (Nat.le_of_ble_eq_true rfl) dX6_rules_3 [.int 1, .ref 465] rfl ?_
  refine am_ifne hF 13 dX6_rules_6 (by decide) (fun _ => ?_) (fun h9 => False.elim ((by revert h9; decide)))
  refine am_go hF sgX6_rules_13_bd672 18 [(0, .ref 465), (1, .int (nI l)), (2, .int y), (3, .int z), (4, .int (if b = true then 1 else 0))] [.int 200, .int 1, .int y, .ref 465] sgX6_rules_13_bd672d rfl ?_
  refine am_dS hF hO [.int y, .int 1, .int 200] [.ref 465] (c_isIn_t hy1 hy2) myX6_isIn syX6_isIn lm_RX6_108 rfl 0 0 ⟨Nat.le_of_ble_eq_true rfl, Nat.le_of_ble_eq_true rfl⟩ ⟨Nat.le_of_ble_eq_true rfl, Nat.le_of_ble_eq_true rfl, Nat.le_of_ble_eq_true rfl, Nat.le_of_ble_eq_true rfl⟩ rfl (am_lv_ref (hp_m _ _ _) (am_lv_int (am_lv_int (am_lv_int (am_lv_int (am_lv_ref (hp_m _ _ _) am_lv_nil)))))) (Nat.le_of_ble_eq_true rfl) dX6_rules_18 [.int 1, .ref 465] rfl ?_
  refine am_ifeq hF 38 dX6_rules_21 (by decide) (fun h9 => False.elim ((by revert h9; decide))) (fun _ => ?_)
  refine am_go hF sgX6_rules_24_13ba5 28 [(0, .ref 465), (1, .int (nI l)), (2, .int y), (3, .int z), (4, .int (if b = true then 1 else 0))] [.int 30, .int 1, .int z, .ref 465] sgX6_rules_24_13ba5d rfl ?_
  refine am_dS hF hO [.int z, .int 1, .int 30] [.ref 465] (c_isIn_t hz1 hz2) myX6_isIn syX6_isIn lm_RX6_108 rfl 0 0 ⟨Nat.le_of_ble_eq_true rfl, Nat.le_of_ble_eq_true rfl⟩ ⟨Nat.le_of_ble_eq_true rfl, Nat.le_of_ble_eq_true rfl, Nat.le_of_ble_eq_true rfl, Nat.le_of_ble_eq_true rfl⟩ rfl (am_lv_ref (hp_m _ _ _) (am_lv_int (am_lv_int (am_lv_int (am_lv_int (am_lv_ref (hp_m _ _ _) am_lv_nil)))))) (Nat.le_of_ble_eq_true rfl) dX6_rules_28 [.int 1, .ref 465] rfl ?_
  refine am_ifeq hF 38 dX6_rules_31 (by decide) (fun h9 => False.elim ((by revert h9; decide))) (fun _ => ?_)
  refine am_go hF sgX6_rules_34_1cbe9 39 [(0, .ref 465), (1, .int (nI l)), (2, .int y), (3, .int z), (4, .int (if b = true then 1 else 0))] [.int 0, .ref 465] sgX6_rules_34_1cbe9d rfl ?_
  refine sv_put hF 0 (by decide) rfl rfl rfl lf_RX6_104 dX6_rules_39 ?_
  refine am_go hF sgX6_rules_42_34db8 43 [(0, .ref 465), (1, .int (nI l)), (2, .int y), (3, .int z), (4, .int (if b = true then 1 else 0))] [.ref 465] sgX6_rules_42_34db8d rfl ?_
  refine sv_get hF 0 (by decide) rfl lf_RX6_104 (.int 0) rfl dX6_rules_43 ?_
  refine am_ifle hF 51 dX6_rules_46 (by decide) (fun _ => ?_) (fun h9 => False.elim ((by revert h9; decide)))
  refine am_go hF sgX6_rules_51_34db8 52 [(0, .ref 465), (1, .int (nI l)), (2, .int y), (3, .int z), (4, .int (if b = true then 1 else 0))] [.ref 465] sgX6_rules_51_34db8d rfl ?_
  refine sv_get hF 11 (by decide) rfl lf_RX6_31 (.ref 511) rfl dX6_rules_52 ?_
  refine am_go hF sgX6_rules_55_840bf 56 [(0, .ref 465), (1, .int (nI l)), (2, .int y), (3, .int z), (4, .int (if b = true then 1 else 0))] [.int (nI l), .ref 511] sgX6_rules_55_840bfd rfl ?_
  refine sv_iald hF 11 (by decide) ⟨rfl, rfl, by decide⟩ l rfl (show l < 10 by omega) dX6_rules_56 ?_
  refine am_top (S 11 l) rfl ?_
  refine am_go hF sgX6_rules_57_edbce 60 [(5, .int (S 11 l)), (0, .ref 465), (1, .int (nI l)), (2, .int y), (3, .int z), (4, .int (if b = true then 1 else 0))] [.ref 465] sgX6_rules_57_edbced rfl ?_
  refine sv_get hF 11 (by decide) rfl lf_RX6_31 (.ref 511) rfl dX6_rules_60 ?_
  refine am_go hF sgX6_rules_63_5601b 65 [(5, .int (S 11 l)), (0, .ref 465), (1, .int (nI l)), (2, .int y), (3, .int z), (4, .int (if b = true then 1 else 0))] [.int y, .int (nI l), .ref 511] sgX6_rules_63_5601bd rfl ?_
  refine sv_iast hF 11 (by decide) ⟨rfl, rfl, by decide⟩ l rfl (show l < 10 by omega) dX6_rules_65 ?_
  refine am_go hF sgX6_rules_66_34db8 67 [(5, .int (S 11 l)), (0, .ref 465), (1, .int (nI l)), (2, .int y), (3, .int z), (4, .int (if b = true then 1 else 0))] [.ref 465] sgX6_rules_66_34db8d rfl ?_
  refine sv_get hF 12 (by decide) rfl lf_RX6_34 (.ref 512) rfl dX6_rules_67 ?_
  refine am_go hF sgX6_rules_70_20da6 72 [(5, .int (S 11 l)), (0, .ref 465), (1, .int (nI l)), (2, .int y), (3, .int z), (4, .int (if b = true then 1 else 0))] [.int z, .int (nI l), .ref 512] sgX6_rules_70_20da6d rfl ?_
  refine sv_iast hF 12 (by decide) ⟨rfl, rfl, by decide⟩ l rfl (show l < 10 by omega) dX6_rules_72 ?_
  refine am_go hF sgX6_rules_73_34db8 74 [(5, .int (S 11 l)), (0, .ref 465), (1, .int (nI l)), (2, .int y), (3, .int z), (4, .int (if b = true then 1 else 0))] [.ref 465] sgX6_rules_73_34db8d rfl ?_
  refine sv_get hF 13 (by decide) rfl lf_RX6_37 (.ref 513) rfl dX6_rules_74 ?_
  refine am_go hF sgX6_rules_77_f40ee 80 [(5, .int (S 11 l)), (0, .ref 465), (1, .int (nI l)), (2, .int y), (3, .int z), (4, .int (if b = true then 1 else 0))] [.int (if b = true then 1 else 0), .int (nI l), .ref 513] sgX6_rules_77_f40eed rfl ?_
  refine sv_zast hF 13 (by decide) ⟨rfl, rfl, by decide⟩ l rfl (show l < 10 by omega) (b1_nar b) dX6_rules_80 ?_
  refine am_go hF sgX6_rules_81_9df92 83 [(5, .int (S 11 l)), (0, .ref 465), (1, .int (nI l)), (2, .int y), (3, .int z), (4, .int (if b = true then 1 else 0))] [.int (S 11 l)] sgX6_rules_81_9df92d rfl ?_
  exact am_iret hF hO hret rfl dX6_rules_83 ⟨rfl, rfl⟩
set_option maxRecDepth 100000 in
set_option maxHeartbeats 4000000 in
theorem c_r_bar_1 {G : am_S} {T S : am_T} {o : Nat → Int64} {n : Nat} (hn : S 9 0 = nI n) (hn10 : n ≤ 10) {x : Int32} (hx : x < 0 ∨ nI n ≤ x) {y : Int32} : am_D G yX6_bar (.code yX6_bar cX6_bar 3 (some .boolean) :: am_G) { frames := 2, cells := 0, slots := 0, locals := 43 } (hp T S o) [.ref 465, .int x, .int y] (hp T (st1 S 0 0 1) o) (some (.int 0)) := by
  refine am_of (by decide +kernel) (Nat.le_of_ble_eq_true rfl) ?_
  intro C hse hret hname hF hO
  subst hse
  refine am_go hF sgX6_bar_0_6b3ba 3 [(0, .ref 465), (1, .int x), (2, .int y)] [.int x, .ref 465, .ref 465] sgX6_bar_0_6b3bad rfl ?_
  refine am_dV hF hO [.int x] [.ref 465] (c_isList_f (S := S) hn hn10 hx) myX6_isList vyX6_isList lm_RX6_122 (hp_m _ _ _) rfl rfl 0 0 ⟨Nat.le_of_ble_eq_true rfl, Nat.le_of_ble_eq_true rfl⟩ ⟨Nat.le_of_ble_eq_true rfl, Nat.le_of_ble_eq_true rfl, Nat.le_of_ble_eq_true rfl, Nat.le_of_ble_eq_true rfl⟩ rfl (am_lv_ref (hp_m _ _ _) (am_lv_int (am_lv_int (am_lv_ref (hp_m _ _ _) am_lv_nil)))) (Nat.le_of_ble_eq_true rfl) dX6_bar_3 [.int 0, .ref 465] rfl ?_
  refine am_ifeq hF 20 dX6_bar_6 (by decide) (fun _ => ?_) (fun h9 => False.elim ((by revert h9; decide)))
  refine am_go hF sgX6_bar_20_4de0a 21 [(0, .ref 465), (1, .int x), (2, .int y)] [.int 1, .ref 465] sgX6_bar_20_4de0ad rfl ?_
  refine sv_put hF 0 (by decide) rfl rfl rfl lf_RX6_104 dX6_bar_21 ?_
  refine am_go hF sgX6_bar_24_34db8 25 [(0, .ref 465), (1, .int x), (2, .int y)] [.ref 465] sgX6_bar_24_34db8d rfl ?_
  refine sv_get hF 0 (by decide) rfl lf_RX6_104 (.int 1) rfl dX6_bar_25 ?_
  refine am_ifle hF 33 dX6_bar_28 (by decide) (fun h9 => False.elim ((by revert h9; decide))) (fun _ => ?_)
  refine am_go hF sgX6_bar_31_56c54 32 [(0, .ref 465), (1, .int x), (2, .int y)] [.int 0] sgX6_bar_31_56c54d rfl ?_
  exact am_iret hF hO hret rfl dX6_bar_32 ⟨rfl, rfl⟩
set_option maxRecDepth 100000 in
set_option maxHeartbeats 4000000 in
theorem c_r_bar_2 {G : am_S} {T S : am_T} {o : Nat → Int64} {n : Nat} (hn : S 9 0 = nI n) (hn10 : n ≤ 10) {l : Nat} (hl : l < n) {y : Int32} (hy : y < 0 ∨ nI 16 ≤ y) : am_D G yX6_bar (.code yX6_bar cX6_bar 3 (some .boolean) :: am_G) { frames := 2, cells := 0, slots := 0, locals := 43 } (hp T S o) [.ref 465, .int (nI l), .int y] (hp T (st1 S 0 0 1) o) (some (.int 0)) := by
  refine am_of (by decide +kernel) (Nat.le_of_ble_eq_true rfl) ?_
  intro C hse hret hname hF hO
  subst hse
  refine am_go hF sgX6_bar_0_6b3ba 3 [(0, .ref 465), (1, .int (nI l)), (2, .int y)] [.int (nI l), .ref 465, .ref 465] sgX6_bar_0_6b3bad rfl ?_
  refine am_dV hF hO [.int (nI l)] [.ref 465] (c_isList_t (S := S) hn hn10 (show l < n by omega) rfl) myX6_isList vyX6_isList lm_RX6_122 (hp_m _ _ _) rfl rfl 0 0 ⟨Nat.le_of_ble_eq_true rfl, Nat.le_of_ble_eq_true rfl⟩ ⟨Nat.le_of_ble_eq_true rfl, Nat.le_of_ble_eq_true rfl, Nat.le_of_ble_eq_true rfl, Nat.le_of_ble_eq_true rfl⟩ rfl (am_lv_ref (hp_m _ _ _) (am_lv_int (am_lv_int (am_lv_ref (hp_m _ _ _) am_lv_nil)))) (Nat.le_of_ble_eq_true rfl) dX6_bar_3 [.int 1, .ref 465] rfl ?_
  refine am_ifeq hF 20 dX6_bar_6 (by decide) (fun h9 => False.elim ((by revert h9; decide))) (fun _ => ?_)
  refine am_go hF sgX6_bar_9_f8a59 10 [(0, .ref 465), (1, .int (nI l)), (2, .int y)] [.int y, .ref 465] sgX6_bar_9_f8a59d rfl ?_
  refine am_dS hF hO [.int y] [.ref 465] (c_isPerson_f hy) myX6_isPerson syX6_isPerson lm_RX6_118 rfl 0 0 ⟨Nat.le_of_ble_eq_true rfl, Nat.le_of_ble_eq_true rfl⟩ ⟨Nat.le_of_ble_eq_true rfl, Nat.le_of_ble_eq_true rfl, Nat.le_of_ble_eq_true rfl, Nat.le_of_ble_eq_true rfl⟩ rfl (am_lv_ref (hp_m _ _ _) (am_lv_int (am_lv_int (am_lv_ref (hp_m _ _ _) am_lv_nil)))) (Nat.le_of_ble_eq_true rfl) dX6_bar_10 [.int 0, .ref 465] rfl ?_
  refine am_ifeq hF 20 dX6_bar_13 (by decide) (fun _ => ?_) (fun h9 => False.elim ((by revert h9; decide)))
  refine am_go hF sgX6_bar_20_4de0a 21 [(0, .ref 465), (1, .int (nI l)), (2, .int y)] [.int 1, .ref 465] sgX6_bar_20_4de0ad rfl ?_
  refine sv_put hF 0 (by decide) rfl rfl rfl lf_RX6_104 dX6_bar_21 ?_
  refine am_go hF sgX6_bar_24_34db8 25 [(0, .ref 465), (1, .int (nI l)), (2, .int y)] [.ref 465] sgX6_bar_24_34db8d rfl ?_
  refine sv_get hF 0 (by decide) rfl lf_RX6_104 (.int 1) rfl dX6_bar_25 ?_
  refine am_ifle hF 33 dX6_bar_28 (by decide) (fun h9 => False.elim ((by revert h9; decide))) (fun _ => ?_)
  refine am_go hF sgX6_bar_31_56c54 32 [(0, .ref 465), (1, .int (nI l)), (2, .int y)] [.int 0] sgX6_bar_31_56c54d rfl ?_
  exact am_iret hF hO hret rfl dX6_bar_32 ⟨rfl, rfl⟩
set_option maxRecDepth 100000 in
set_option maxHeartbeats 4000000 in
theorem c_r_bar_3 {G : am_S} {T S : am_T} {o : Nat → Int64} {n : Nat} (hn : S 9 0 = nI n) (hn10 : n ≤ 10) {l : Nat} (hl : l < n) {p : Nat} (hp9 : p < 16) (hb : (S 14 l ^^^ (1 : Int32) <<< (nI p &&& 31)) >>> (nI p &&& 31) &&& 1 = 1) : am_D G yX6_bar (.code yX6_bar cX6_bar 3 (some .boolean) :: am_G) { frames := 2, cells := 0, slots := 0, locals := 43 } (hp T S o) [.ref 465, .int (nI l), .int (nI p)] (hp T (st1 (st1 S 0 0 0) 14 l ((S 14 l) ^^^ (1 <<< ((nI p) &&& 31)))) o) (some (.int 1)) := by
  refine am_of (by decide +kernel) (Nat.le_of_ble_eq_true rfl) ?_
  intro C hse hret hname hF hO
  subst hse
  refine am_go hF sgX6_bar_0_6b3ba 3 [(0, .ref 465), (1, .int (nI l)), (2, .int (nI p))] [.int (nI l), .ref 465, .ref 465] sgX6_bar_0_6b3bad rfl ?_
  refine am_dV hF hO [.int (nI l)] [.ref 465] (c_isList_t (S := S) hn hn10 (show l < n by omega) rfl) myX6_isList vyX6_isList lm_RX6_122 (hp_m _ _ _) rfl rfl 0 0 ⟨Nat.le_of_ble_eq_true rfl, Nat.le_of_ble_eq_true rfl⟩ ⟨Nat.le_of_ble_eq_true rfl, Nat.le_of_ble_eq_true rfl, Nat.le_of_ble_eq_true rfl, Nat.le_of_ble_eq_true rfl⟩ rfl (am_lv_ref (hp_m _ _ _) (am_lv_int (am_lv_int (am_lv_ref (hp_m _ _ _) am_lv_nil)))) (Nat.le_of_ble_eq_true rfl) dX6_bar_3 [.int 1, .ref 465] rfl ?_
  refine am_ifeq hF 20 dX6_bar_6 (by decide) (fun h9 => False.elim ((by revert h9; decide))) (fun _ => ?_)
  refine am_go hF sgX6_bar_9_f8a59 10 [(0, .ref 465), (1, .int (nI l)), (2, .int (nI p))] [.int (nI p), .ref 465] sgX6_bar_9_f8a59d rfl ?_
  refine am_dS hF hO [.int (nI p)] [.ref 465] (c_isPerson_t (show p < 16 by omega) rfl) myX6_isPerson syX6_isPerson lm_RX6_118 rfl 0 0 ⟨Nat.le_of_ble_eq_true rfl, Nat.le_of_ble_eq_true rfl⟩ ⟨Nat.le_of_ble_eq_true rfl, Nat.le_of_ble_eq_true rfl, Nat.le_of_ble_eq_true rfl, Nat.le_of_ble_eq_true rfl⟩ rfl (am_lv_ref (hp_m _ _ _) (am_lv_int (am_lv_int (am_lv_ref (hp_m _ _ _) am_lv_nil)))) (Nat.le_of_ble_eq_true rfl) dX6_bar_10 [.int 1, .ref 465] rfl ?_
  refine am_ifeq hF 20 dX6_bar_13 (by decide) (fun h9 => False.elim ((by revert h9; decide))) (fun _ => ?_)
  refine am_go hF sgX6_bar_16_1cbe9 21 [(0, .ref 465), (1, .int (nI l)), (2, .int (nI p))] [.int 0, .ref 465] sgX6_bar_16_1cbe9d rfl ?_
  refine sv_put hF 0 (by decide) rfl rfl rfl lf_RX6_104 dX6_bar_21 ?_
  refine am_go hF sgX6_bar_24_34db8 25 [(0, .ref 465), (1, .int (nI l)), (2, .int (nI p))] [.ref 465] sgX6_bar_24_34db8d rfl ?_
  refine sv_get hF 0 (by decide) rfl lf_RX6_104 (.int 0) rfl dX6_bar_25 ?_
  refine am_ifle hF 33 dX6_bar_28 (by decide) (fun _ => ?_) (fun h9 => False.elim ((by revert h9; decide)))
  refine am_go hF sgX6_bar_33_34db8 34 [(0, .ref 465), (1, .int (nI l)), (2, .int (nI p))] [.ref 465] sgX6_bar_33_34db8d rfl ?_
  refine sv_get hF 14 (by decide) rfl lf_RX6_41 (.ref 514) rfl dX6_bar_34 ?_
  refine am_go hF sgX6_bar_37_563cd 39 [(0, .ref 465), (1, .int (nI l)), (2, .int (nI p))] [.int (nI l), .ref 514, .int (nI l), .ref 514] sgX6_bar_37_563cdd rfl ?_
  refine sv_iald hF 14 (by decide) ⟨rfl, rfl, by decide⟩ l rfl (show l < 10 by omega) dX6_bar_39 ?_
  refine am_top (S 14 l) rfl ?_
  refine am_go hF sgX6_bar_40_0d86e 44 [(0, .ref 465), (1, .int (nI l)), (2, .int (nI p))] [.int ((S 14 l) ^^^ (1 <<< ((nI p) &&& 31))), .int (nI l), .ref 514] sgX6_bar_40_0d86ed rfl ?_
  refine sv_iast hF 14 (by decide) ⟨rfl, rfl, by decide⟩ l rfl (show l < 10 by omega) dX6_bar_44 ?_
  refine am_go hF sgX6_bar_45_34db8 46 [(0, .ref 465), (1, .int (nI l)), (2, .int (nI p))] [.ref 465] sgX6_bar_45_34db8d rfl ?_
  refine sv_get hF 14 (by decide) rfl lf_RX6_41 (.ref 514) rfl dX6_bar_46 ?_
  refine am_go hF sgX6_bar_49_840bf 50 [(0, .ref 465), (1, .int (nI l)), (2, .int (nI p))] [.int (nI l), .ref 514] sgX6_bar_49_840bfd rfl ?_
  refine sv_iald hF 14 (by decide) ⟨rfl, rfl, by decide⟩ l rfl (show l < 10 by omega) dX6_bar_50 ?_
  refine am_top ((S 14 l) ^^^ (1 <<< ((nI p) &&& 31))) (st1_same _ _ _ _) ?_
  refine am_go hF sgX6_bar_51_89201 56 [(0, .ref 465), (1, .int (nI l)), (2, .int (nI p))] [.int 1, .int ((((S 14 l) ^^^ (1 <<< ((nI p) &&& 31))) >>> ((nI p) &&& 31)) &&& 1)] sgX6_bar_51_89201d rfl ?_
  refine am_icmpne hF 63 dX6_bar_56 (by decide) (fun h9 => False.elim (absurd hb h9)) (fun _ => ?_)
  refine am_go hF sgX6_bar_59_1c64c 64 [(0, .ref 465), (1, .int (nI l)), (2, .int (nI p))] [.int 1] sgX6_bar_59_1c64cd rfl ?_
  exact am_iret hF hO hret rfl dX6_bar_64 ⟨rfl, rfl⟩
set_option maxRecDepth 100000 in
set_option maxHeartbeats 4000000 in
theorem c_r_bar_4 {G : am_S} {T S : am_T} {o : Nat → Int64} {n : Nat} (hn : S 9 0 = nI n) (hn10 : n ≤ 10) {l : Nat} (hl : l < n) {p : Nat} (hp9 : p < 16) (hb : ¬ (S 14 l ^^^ (1 : Int32) <<< (nI p &&& 31)) >>> (nI p &&& 31) &&& 1 = 1) : am_D G yX6_bar (.code yX6_bar cX6_bar 3 (some .boolean) :: am_G) { frames := 2, cells := 0, slots := 0, locals := 43 } (hp T S o) [.ref 465, .int (nI l), .int (nI p)] (hp T (st1 (st1 S 0 0 0) 14 l ((S 14 l) ^^^ (1 <<< ((nI p) &&& 31)))) o) (some (.int 0)) := by
  refine am_of (by decide +kernel) (Nat.le_of_ble_eq_true rfl) ?_
  intro C hse hret hname hF hO
  subst hse
  refine am_go hF sgX6_bar_0_6b3ba 3 [(0, .ref 465), (1, .int (nI l)), (2, .int (nI p))] [.int (nI l), .ref 465, .ref 465] sgX6_bar_0_6b3bad rfl ?_
  refine am_dV hF hO [.int (nI l)] [.ref 465] (c_isList_t (S := S) hn hn10 (show l < n by omega) rfl) myX6_isList vyX6_isList lm_RX6_122 (hp_m _ _ _) rfl rfl 0 0 ⟨Nat.le_of_ble_eq_true rfl, Nat.le_of_ble_eq_true rfl⟩ ⟨Nat.le_of_ble_eq_true rfl, Nat.le_of_ble_eq_true rfl, Nat.le_of_ble_eq_true rfl, Nat.le_of_ble_eq_true rfl⟩ rfl (am_lv_ref (hp_m _ _ _) (am_lv_int (am_lv_int (am_lv_ref (hp_m _ _ _) am_lv_nil)))) (Nat.le_of_ble_eq_true rfl) dX6_bar_3 [.int 1, .ref 465] rfl ?_
  refine am_ifeq hF 20 dX6_bar_6 (by decide) (fun h9 => False.elim ((by revert h9; decide))) (fun _ => ?_)
  refine am_go hF sgX6_bar_9_f8a59 10 [(0, .ref 465), (1, .int (nI l)), (2, .int (nI p))] [.int (nI p), .ref 465] sgX6_bar_9_f8a59d rfl ?_
  refine am_dS hF hO [.int (nI p)] [.ref 465] (c_isPerson_t (show p < 16 by omega) rfl) myX6_isPerson syX6_isPerson lm_RX6_118 rfl 0 0 ⟨Nat.le_of_ble_eq_true rfl, Nat.le_of_ble_eq_true rfl⟩ ⟨Nat.le_of_ble_eq_true rfl, Nat.le_of_ble_eq_true rfl, Nat.le_of_ble_eq_true rfl, Nat.le_of_ble_eq_true rfl⟩ rfl (am_lv_ref (hp_m _ _ _) (am_lv_int (am_lv_int (am_lv_ref (hp_m _ _ _) am_lv_nil)))) (Nat.le_of_ble_eq_true rfl) dX6_bar_10 [.int 1, .ref 465] rfl ?_
  refine am_ifeq hF 20 dX6_bar_13 (by decide) (fun h9 => False.elim ((by revert h9; decide))) (fun _ => ?_)
  refine am_go hF sgX6_bar_16_1cbe9 21 [(0, .ref 465), (1, .int (nI l)), (2, .int (nI p))] [.int 0, .ref 465] sgX6_bar_16_1cbe9d rfl ?_
  refine sv_put hF 0 (by decide) rfl rfl rfl lf_RX6_104 dX6_bar_21 ?_
  refine am_go hF sgX6_bar_24_34db8 25 [(0, .ref 465), (1, .int (nI l)), (2, .int (nI p))] [.ref 465] sgX6_bar_24_34db8d rfl ?_
  refine sv_get hF 0 (by decide) rfl lf_RX6_104 (.int 0) rfl dX6_bar_25 ?_
  refine am_ifle hF 33 dX6_bar_28 (by decide) (fun _ => ?_) (fun h9 => False.elim ((by revert h9; decide)))
  refine am_go hF sgX6_bar_33_34db8 34 [(0, .ref 465), (1, .int (nI l)), (2, .int (nI p))] [.ref 465] sgX6_bar_33_34db8d rfl ?_
  refine sv_get hF 14 (by decide) rfl lf_RX6_41 (.ref 514) rfl dX6_bar_34 ?_
  refine am_go hF sgX6_bar_37_563cd 39 [(0, .ref 465), (1, .int (nI l)), (2, .int (nI p))] [.int (nI l), .ref 514, .int (nI l), .ref 514] sgX6_bar_37_563cdd rfl ?_
  refine sv_iald hF 14 (by decide) ⟨rfl, rfl, by decide⟩ l rfl (show l < 10 by omega) dX6_bar_39 ?_
  refine am_top (S 14 l) rfl ?_
  refine am_go hF sgX6_bar_40_0d86e 44 [(0, .ref 465), (1, .int (nI l)), (2, .int (nI p))] [.int ((S 14 l) ^^^ (1 <<< ((nI p) &&& 31))), .int (nI l), .ref 514] sgX6_bar_40_0d86ed rfl ?_
  refine sv_iast hF 14 (by decide) ⟨rfl, rfl, by decide⟩ l rfl (show l < 10 by omega) dX6_bar_44 ?_
  refine am_go hF sgX6_bar_45_34db8 46 [(0, .ref 465), (1, .int (nI l)), (2, .int (nI p))] [.ref 465] sgX6_bar_45_34db8d rfl ?_
  refine sv_get hF 14 (by decide) rfl lf_RX6_41 (.ref 514) rfl dX6_bar_46 ?_
  refine am_go hF sgX6_bar_49_840bf 50 [(0, .ref 465), (1, .int (nI l)), (2, .int (nI p))] [.int (nI l), .ref 514] sgX6_bar_49_840bfd rfl ?_
  refine sv_iald hF 14 (by decide) ⟨rfl, rfl, by decide⟩ l rfl (show l < 10 by omega) dX6_bar_50 ?_
  refine am_top ((S 14 l) ^^^ (1 <<< ((nI p) &&& 31))) (st1_same _ _ _ _) ?_
  refine am_go hF sgX6_bar_51_89201 56 [(0, .ref 465), (1, .int (nI l)), (2, .int (nI p))] [.int 1, .int ((((S 14 l) ^^^ (1 <<< ((nI p) &&& 31))) >>> ((nI p) &&& 31)) &&& 1)] sgX6_bar_51_89201d rfl ?_
  refine am_icmpne hF 63 dX6_bar_56 (by decide) (fun _ => ?_) (fun h9 => False.elim (absurd h9 hb))
  refine am_go hF sgX6_bar_63_56c54 64 [(0, .ref 465), (1, .int (nI l)), (2, .int (nI p))] [.int 0] sgX6_bar_63_56c54d rfl ?_
  exact am_iret hF hO hret rfl dX6_bar_64 ⟨rfl, rfl⟩
set_option maxRecDepth 100000 in
set_option maxHeartbeats 4000000 in
theorem c_r_word_1 {G : am_S} {T S : am_T} {o : Nat → Int64} {x y : Int32} (hx : x < 0 ∨ nI 20 ≤ x) : am_D G yX6_word (.code yX6_word cX6_word 4 (some .int) :: am_G) { frames := 1, cells := 0, slots := 0, locals := 22 } (hp T S o) [.ref 465, .int x, .int y] (hp T (st1 S 0 0 1) o) (some (.int 0)) := by
  refine am_of (by decide +kernel) (Nat.le_of_ble_eq_true rfl) ?_
  intro C hse hret hname hF hO
  subst hse
  refine am_go hF sgX6_word_0_6e259 5 [(0, .ref 465), (1, .int x), (2, .int y)] [.int 19, .int 0, .int x, .ref 465] sgX6_word_0_6e259d rfl ?_
  refine am_dS hF hO [.int x, .int 0, .int 19] [.ref 465] (c_isIn_f (ii_f (m := 19) hx (by decide) rfl)) myX6_isIn syX6_isIn lm_RX6_108 rfl 0 0 ⟨Nat.le_of_ble_eq_true rfl, Nat.le_of_ble_eq_true rfl⟩ ⟨Nat.le_of_ble_eq_true rfl, Nat.le_of_ble_eq_true rfl, Nat.le_of_ble_eq_true rfl, Nat.le_of_ble_eq_true rfl⟩ rfl (am_lv_ref (hp_m _ _ _) (am_lv_int (am_lv_int (am_lv_ref (hp_m _ _ _) am_lv_nil)))) (Nat.le_of_ble_eq_true rfl) dX6_word_5 [.int 0, .ref 465] rfl ?_
  refine am_ifne hF 15 dX6_word_8 (by decide) (fun h9 => False.elim ((by revert h9; decide))) (fun _ => ?_)
  refine am_go hF sgX6_word_11_0ea85 31 [(0, .ref 465), (1, .int x), (2, .int y)] [.int 1, .ref 465] sgX6_word_11_0ea85d rfl ?_
  refine sv_put hF 0 (by decide) rfl rfl rfl lf_RX6_104 dX6_word_31 ?_
  refine am_go hF sgX6_word_34_34db8 35 [(0, .ref 465), (1, .int x), (2, .int y)] [.ref 465] sgX6_word_34_34db8d rfl ?_
  refine sv_get hF 0 (by decide) rfl lf_RX6_104 (.int 1) rfl dX6_word_35 ?_
  refine am_ifle hF 43 dX6_word_38 (by decide) (fun h9 => False.elim ((by revert h9; decide))) (fun _ => ?_)
  refine am_go hF sgX6_word_41_56c54 42 [(0, .ref 465), (1, .int x), (2, .int y)] [.int 0] sgX6_word_41_56c54d rfl ?_
  exact am_iret hF hO hret rfl dX6_word_42 ⟨rfl, rfl⟩
set_option maxRecDepth 100000 in
set_option maxHeartbeats 4000000 in
theorem c_r_word_2 {G : am_S} {T S : am_T} {o : Nat → Int64} {k : Nat} (hk : k < 20) {y : Int32} (hy : y < -20 ∨ 50 < y) : am_D G yX6_word (.code yX6_word cX6_word 4 (some .int) :: am_G) { frames := 1, cells := 0, slots := 0, locals := 22 } (hp T S o) [.ref 465, .int (nI k), .int y] (hp T (st1 S 0 0 2) o) (some (.int 0)) := by
  refine am_of (by decide +kernel) (Nat.le_of_ble_eq_true rfl) ?_
  intro C hse hret hname hF hO
  subst hse
  refine am_go hF sgX6_word_0_6e259 5 [(0, .ref 465), (1, .int (nI k)), (2, .int y)] [.int 19, .int 0, .int (nI k), .ref 465] sgX6_word_0_6e259d rfl ?_
  refine am_dS hF hO [.int (nI k), .int 0, .int 19] [.ref 465] (c_isIn_t (ii_0 rfl (by omega) rfl) (ii_1 (m := 19) rfl (by omega) (by decide) rfl)) myX6_isIn syX6_isIn lm_RX6_108 rfl 0 0 ⟨Nat.le_of_ble_eq_true rfl, Nat.le_of_ble_eq_true rfl⟩ ⟨Nat.le_of_ble_eq_true rfl, Nat.le_of_ble_eq_true rfl, Nat.le_of_ble_eq_true rfl, Nat.le_of_ble_eq_true rfl⟩ rfl (am_lv_ref (hp_m _ _ _) (am_lv_int (am_lv_int (am_lv_ref (hp_m _ _ _) am_lv_nil)))) (Nat.le_of_ble_eq_true rfl) dX6_word_5 [.int 1, .ref 465] rfl ?_
  refine am_ifne hF 15 dX6_word_8 (by decide) (fun _ => ?_) (fun h9 => False.elim ((by revert h9; decide)))
  refine am_go hF sgX6_word_15_f8e78 20 [(0, .ref 465), (1, .int (nI k)), (2, .int y)] [.int 50, .int (-20), .int y, .ref 465] sgX6_word_15_f8e78d rfl ?_
  refine am_dS hF hO [.int y, .int (-20), .int 50] [.ref 465] (c_isIn_f hy) myX6_isIn syX6_isIn lm_RX6_108 rfl 0 0 ⟨Nat.le_of_ble_eq_true rfl, Nat.le_of_ble_eq_true rfl⟩ ⟨Nat.le_of_ble_eq_true rfl, Nat.le_of_ble_eq_true rfl, Nat.le_of_ble_eq_true rfl, Nat.le_of_ble_eq_true rfl⟩ rfl (am_lv_ref (hp_m _ _ _) (am_lv_int (am_lv_int (am_lv_ref (hp_m _ _ _) am_lv_nil)))) (Nat.le_of_ble_eq_true rfl) dX6_word_20 [.int 0, .ref 465] rfl ?_
  refine am_ifeq hF 30 dX6_word_23 (by decide) (fun _ => ?_) (fun h9 => False.elim ((by revert h9; decide)))
  refine am_go hF sgX6_word_30_d5620 31 [(0, .ref 465), (1, .int (nI k)), (2, .int y)] [.int 2, .ref 465] sgX6_word_30_d5620d rfl ?_
  refine sv_put hF 0 (by decide) rfl rfl rfl lf_RX6_104 dX6_word_31 ?_
  refine am_go hF sgX6_word_34_34db8 35 [(0, .ref 465), (1, .int (nI k)), (2, .int y)] [.ref 465] sgX6_word_34_34db8d rfl ?_
  refine sv_get hF 0 (by decide) rfl lf_RX6_104 (.int 2) rfl dX6_word_35 ?_
  refine am_ifle hF 43 dX6_word_38 (by decide) (fun h9 => False.elim ((by revert h9; decide))) (fun _ => ?_)
  refine am_go hF sgX6_word_41_56c54 42 [(0, .ref 465), (1, .int (nI k)), (2, .int y)] [.int 0] sgX6_word_41_56c54d rfl ?_
  exact am_iret hF hO hret rfl dX6_word_42 ⟨rfl, rfl⟩
set_option maxRecDepth 100000 in
set_option maxHeartbeats 4000000 in
theorem c_r_word_3 {G : am_S} {T S : am_T} {o : Nat → Int64} {k : Nat} (hk : k < 20) {y : Int32} (hy1 : ¬ y < -20) (hy2 : ¬ 50 < y) : am_D G yX6_word (.code yX6_word cX6_word 4 (some .int) :: am_G) { frames := 1, cells := 0, slots := 0, locals := 22 } (hp T S o) [.ref 465, .int (nI k), .int y] (hp T (st1 (st1 S 0 0 0) 3 k y) o) (some (.int (S 3 k))) := by
  refine am_of (by decide +kernel) (Nat.le_of_ble_eq_true rfl) ?_
  intro C hse hret hname hF hO
  subst hse
  refine am_go hF sgX6_word_0_6e259 5 [(0, .ref 465), (1, .int (nI k)), (2, .int y)] [.int 19, .int 0, .int (nI k), .ref 465] sgX6_word_0_6e259d rfl ?_
  refine am_dS hF hO [.int (nI k), .int 0, .int 19] [.ref 465] (c_isIn_t (ii_0 rfl (by omega) rfl) (ii_1 (m := 19) rfl (by omega) (by decide) rfl)) myX6_isIn syX6_isIn lm_RX6_108 rfl 0 0 ⟨Nat.le_of_ble_eq_true rfl, Nat.le_of_ble_eq_true rfl⟩ ⟨Nat.le_of_ble_eq_true rfl, Nat.le_of_ble_eq_true rfl, Nat.le_of_ble_eq_true rfl, Nat.le_of_ble_eq_true rfl⟩ rfl (am_lv_ref (hp_m _ _ _) (am_lv_int (am_lv_int (am_lv_ref (hp_m _ _ _) am_lv_nil)))) (Nat.le_of_ble_eq_true rfl) dX6_word_5 [.int 1, .ref 465] rfl ?_
  refine am_ifne hF 15 dX6_word_8 (by decide) (fun _ => ?_) (fun h9 => False.elim ((by revert h9; decide)))
  refine am_go hF sgX6_word_15_f8e78 20 [(0, .ref 465), (1, .int (nI k)), (2, .int y)] [.int 50, .int (-20), .int y, .ref 465] sgX6_word_15_f8e78d rfl ?_
  refine am_dS hF hO [.int y, .int (-20), .int 50] [.ref 465] (c_isIn_t hy1 hy2) myX6_isIn syX6_isIn lm_RX6_108 rfl 0 0 ⟨Nat.le_of_ble_eq_true rfl, Nat.le_of_ble_eq_true rfl⟩ ⟨Nat.le_of_ble_eq_true rfl, Nat.le_of_ble_eq_true rfl, Nat.le_of_ble_eq_true rfl, Nat.le_of_ble_eq_true rfl⟩ rfl (am_lv_ref (hp_m _ _ _) (am_lv_int (am_lv_int (am_lv_ref (hp_m _ _ _) am_lv_nil)))) (Nat.le_of_ble_eq_true rfl) dX6_word_20 [.int 1, .ref 465] rfl ?_
  refine am_ifeq hF 30 dX6_word_23 (by decide) (fun h9 => False.elim ((by revert h9; decide))) (fun _ => ?_)
  refine am_go hF sgX6_word_26_1cbe9 31 [(0, .ref 465), (1, .int (nI k)), (2, .int y)] [.int 0, .ref 465] sgX6_word_26_1cbe9d rfl ?_
  refine sv_put hF 0 (by decide) rfl rfl rfl lf_RX6_104 dX6_word_31 ?_
  refine am_go hF sgX6_word_34_34db8 35 [(0, .ref 465), (1, .int (nI k)), (2, .int y)] [.ref 465] sgX6_word_34_34db8d rfl ?_
  refine sv_get hF 0 (by decide) rfl lf_RX6_104 (.int 0) rfl dX6_word_35 ?_
  refine am_ifle hF 43 dX6_word_38 (by decide) (fun _ => ?_) (fun h9 => False.elim ((by revert h9; decide)))
  refine am_go hF sgX6_word_43_34db8 44 [(0, .ref 465), (1, .int (nI k)), (2, .int y)] [.ref 465] sgX6_word_43_34db8d rfl ?_
  refine sv_get hF 3 (by decide) rfl lf_RX6_7 (.ref 503) rfl dX6_word_44 ?_
  refine am_go hF sgX6_word_47_840bf 48 [(0, .ref 465), (1, .int (nI k)), (2, .int y)] [.int (nI k), .ref 503] sgX6_word_47_840bfd rfl ?_
  refine sv_iald hF 3 (by decide) ⟨rfl, rfl, by decide⟩ k rfl (show k < 20 by omega) dX6_word_48 ?_
  refine am_top (S 3 k) rfl ?_
  refine am_go hF sgX6_word_49_a034f 51 [(3, .int (S 3 k)), (0, .ref 465), (1, .int (nI k)), (2, .int y)] [.ref 465] sgX6_word_49_a034fd rfl ?_
  refine sv_get hF 3 (by decide) rfl lf_RX6_7 (.ref 503) rfl dX6_word_51 ?_
  refine am_go hF sgX6_word_54_5601b 56 [(3, .int (S 3 k)), (0, .ref 465), (1, .int (nI k)), (2, .int y)] [.int y, .int (nI k), .ref 503] sgX6_word_54_5601bd rfl ?_
  refine sv_iast hF 3 (by decide) ⟨rfl, rfl, by decide⟩ k rfl (show k < 20 by omega) dX6_word_56 ?_
  refine am_go hF sgX6_word_57_13b50 58 [(3, .int (S 3 k)), (0, .ref 465), (1, .int (nI k)), (2, .int y)] [.int (S 3 k)] sgX6_word_57_13b50d rfl ?_
  exact am_iret hF hO hret rfl dX6_word_58 ⟨rfl, rfl⟩
set_option maxRecDepth 100000 in
set_option maxHeartbeats 4000000 in
theorem c_r_reaches_1 {G : am_S} {T S : am_T} {o : Nat → Int64} {n : Nat} (hn : S 9 0 = nI n) (hn10 : n ≤ 10) {x : Int32} (hx : x < 0 ∨ nI n ≤ x) : am_D G yX6_reaches (.code yX6_reaches cX6_reaches 2 (some .int) :: am_G) { frames := 3, cells := 0, slots := 0, locals := 75 } (hp T S o) [.ref 465, .int x] (hp T (st1 S 0 0 1) o) (some (.int 0)) := by
  refine am_of (by decide +kernel) (Nat.le_of_ble_eq_true rfl) ?_
  intro C hse hret hname hF hO
  subst hse
  refine am_go hF sgX6_reaches_0_6b3ba 3 [(0, .ref 465), (1, .int x)] [.int x, .ref 465, .ref 465] sgX6_reaches_0_6b3bad rfl ?_
  refine am_dV hF hO [.int x] [.ref 465] (c_isList_f (S := S) hn hn10 hx) myX6_isList vyX6_isList lm_RX6_122 (hp_m _ _ _) rfl rfl 0 0 ⟨Nat.le_of_ble_eq_true rfl, Nat.le_of_ble_eq_true rfl⟩ ⟨Nat.le_of_ble_eq_true rfl, Nat.le_of_ble_eq_true rfl, Nat.le_of_ble_eq_true rfl, Nat.le_of_ble_eq_true rfl⟩ rfl (am_lv_ref (hp_m _ _ _) (am_lv_int (am_lv_ref (hp_m _ _ _) am_lv_nil))) (Nat.le_of_ble_eq_true rfl) dX6_reaches_3 [.int 0, .ref 465] rfl ?_
  refine am_ifeq hF 13 dX6_reaches_6 (by decide) (fun _ => ?_) (fun h9 => False.elim ((by revert h9; decide)))
  refine am_go hF sgX6_reaches_13_4de0a 14 [(0, .ref 465), (1, .int x)] [.int 1, .ref 465] sgX6_reaches_13_4de0ad rfl ?_
  refine sv_put hF 0 (by decide) rfl rfl rfl lf_RX6_104 dX6_reaches_14 ?_
  refine am_go hF sgX6_reaches_17_34db8 18 [(0, .ref 465), (1, .int x)] [.ref 465] sgX6_reaches_17_34db8d rfl ?_
  refine sv_get hF 0 (by decide) rfl lf_RX6_104 (.int 1) rfl dX6_reaches_18 ?_
  refine am_ifle hF 28 dX6_reaches_21 (by decide) (fun h9 => False.elim ((by revert h9; decide))) (fun _ => ?_)
  refine am_go hF sgX6_reaches_24_0d2e2 33 [(0, .ref 465), (1, .int x)] [.int 0] sgX6_reaches_24_0d2e2d rfl ?_
  exact am_iret hF hO hret rfl dX6_reaches_33 ⟨rfl, rfl⟩
set_option maxRecDepth 100000 in
set_option maxHeartbeats 4000000 in
theorem c_r_reaches_2 {G : am_S} {T S : am_T} {o : Nat → Int64} {n : Nat} (hn : S 9 0 = nI n) (hn10 : n ≤ 10) {l : Nat} (hl : l < n) : am_D G yX6_reaches (.code yX6_reaches cX6_reaches 2 (some .int) :: am_G) { frames := 3, cells := 0, slots := 0, locals := 75 } (hp T S o) [.ref 465, .int (nI l)] (hp T (st1 S 0 0 0) o) (some (.int (rRe (st1 S 0 0 0) n l))) := by
  refine am_of (by decide +kernel) (Nat.le_of_ble_eq_true rfl) ?_
  intro C hse hret hname hF hO
  subst hse
  refine am_go hF sgX6_reaches_0_6b3ba 3 [(0, .ref 465), (1, .int (nI l))] [.int (nI l), .ref 465, .ref 465] sgX6_reaches_0_6b3bad rfl ?_
  refine am_dV hF hO [.int (nI l)] [.ref 465] (c_isList_t (S := S) hn hn10 (show l < n by omega) rfl) myX6_isList vyX6_isList lm_RX6_122 (hp_m _ _ _) rfl rfl 0 0 ⟨Nat.le_of_ble_eq_true rfl, Nat.le_of_ble_eq_true rfl⟩ ⟨Nat.le_of_ble_eq_true rfl, Nat.le_of_ble_eq_true rfl, Nat.le_of_ble_eq_true rfl, Nat.le_of_ble_eq_true rfl⟩ rfl (am_lv_ref (hp_m _ _ _) (am_lv_int (am_lv_ref (hp_m _ _ _) am_lv_nil))) (Nat.le_of_ble_eq_true rfl) dX6_reaches_3 [.int 1, .ref 465] rfl ?_
  refine am_ifeq hF 13 dX6_reaches_6 (by decide) (fun h9 => False.elim ((by revert h9; decide))) (fun _ => ?_)
  refine am_go hF sgX6_reaches_9_1cbe9 14 [(0, .ref 465), (1, .int (nI l))] [.int 0, .ref 465] sgX6_reaches_9_1cbe9d rfl ?_
  refine sv_put hF 0 (by decide) rfl rfl rfl lf_RX6_104 dX6_reaches_14 ?_
  refine am_go hF sgX6_reaches_17_34db8 18 [(0, .ref 465), (1, .int (nI l))] [.ref 465] sgX6_reaches_17_34db8d rfl ?_
  refine sv_get hF 0 (by decide) rfl lf_RX6_104 (.int 0) rfl dX6_reaches_18 ?_
  refine am_ifle hF 28 dX6_reaches_21 (by decide) (fun _ => ?_) (fun h9 => False.elim ((by revert h9; decide)))
  refine am_go hF sgX6_reaches_28_8bcf7 30 [(0, .ref 465), (1, .int (nI l))] [.int (nI l), .ref 465] sgX6_reaches_28_8bcf7d rfl ?_
  refine am_dV hF hO [.int (nI l)] [] (c_reachesOf (S := (st1 S 0 0 0)) hn hn10 (by omega)) myX6_reachesOf vyX6_reachesOf lm_RX6_136 (hp_m _ _ _) rfl rfl 0 0 ⟨Nat.le_of_ble_eq_true rfl, Nat.le_of_ble_eq_true rfl⟩ ⟨Nat.le_of_ble_eq_true rfl, Nat.le_of_ble_eq_true rfl, Nat.le_of_ble_eq_true rfl, Nat.le_of_ble_eq_true rfl⟩ rfl (am_lv_ref (hp_m _ _ _) (am_lv_int am_lv_nil)) (Nat.le_of_ble_eq_true rfl) dX6_reaches_30 [.int (rRe (st1 S 0 0 0) n l)] rfl ?_
  exact am_iret hF hO hret rfl dX6_reaches_33 ⟨rfl, rfl⟩
set_option maxRecDepth 100000 in
set_option maxHeartbeats 4000000 in
theorem c_r_reachesByMembers_1 {G : am_S} {T S : am_T} {o : Nat → Int64} {n : Nat} (hn : S 9 0 = nI n) (hn10 : n ≤ 10) {x : Int32} (hx : x < 0 ∨ nI n ≤ x) : am_D G yX6_reachesByMembers (.code yX6_reachesByMembers cX6_reachesByMembers 2 (some .int) :: am_G) { frames := 3, cells := 0, slots := 0, locals := 75 } (hp T S o) [.ref 465, .int x] (hp T (st1 S 0 0 1) o) (some (.int 0)) := by
  refine am_of (by decide +kernel) (Nat.le_of_ble_eq_true rfl) ?_
  intro C hse hret hname hF hO
  subst hse
  refine am_go hF sgX6_reachesByMembers_0_6b3ba 3 [(0, .ref 465), (1, .int x)] [.int x, .ref 465, .ref 465] sgX6_reachesByMembers_0_6b3bad rfl ?_
  refine am_dV hF hO [.int x] [.ref 465] (c_isList_f (S := S) hn hn10 hx) myX6_isList vyX6_isList lm_RX6_122 (hp_m _ _ _) rfl rfl 0 0 ⟨Nat.le_of_ble_eq_true rfl, Nat.le_of_ble_eq_true rfl⟩ ⟨Nat.le_of_ble_eq_true rfl, Nat.le_of_ble_eq_true rfl, Nat.le_of_ble_eq_true rfl, Nat.le_of_ble_eq_true rfl⟩ rfl (am_lv_ref (hp_m _ _ _) (am_lv_int (am_lv_ref (hp_m _ _ _) am_lv_nil))) (Nat.le_of_ble_eq_true rfl) dX6_reachesByMembers_3 [.int 0, .ref 465] rfl ?_
  refine am_ifeq hF 13 dX6_reachesByMembers_6 (by decide) (fun _ => ?_) (fun h9 => False.elim ((by revert h9; decide)))
  refine am_go hF sgX6_reachesByMembers_13_4de0a 14 [(0, .ref 465), (1, .int x)] [.int 1, .ref 465] sgX6_reachesByMembers_13_4de0ad rfl ?_
  refine sv_put hF 0 (by decide) rfl rfl rfl lf_RX6_104 dX6_reachesByMembers_14 ?_
  refine am_go hF sgX6_reachesByMembers_17_34db8 18 [(0, .ref 465), (1, .int x)] [.ref 465] sgX6_reachesByMembers_17_34db8d rfl ?_
  refine sv_get hF 0 (by decide) rfl lf_RX6_104 (.int 1) rfl dX6_reachesByMembers_18 ?_
  refine am_ifle hF 28 dX6_reachesByMembers_21 (by decide) (fun h9 => False.elim ((by revert h9; decide))) (fun _ => ?_)
  refine am_go hF sgX6_reachesByMembers_24_0d2e2 33 [(0, .ref 465), (1, .int x)] [.int 0] sgX6_reachesByMembers_24_0d2e2d rfl ?_
  exact am_iret hF hO hret rfl dX6_reachesByMembers_33 ⟨rfl, rfl⟩
set_option maxRecDepth 100000 in
set_option maxHeartbeats 4000000 in
theorem c_r_reachesByMembers_2 {G : am_S} {T S : am_T} {o : Nat → Int64} {n : Nat} (hn : S 9 0 = nI n) (hn10 : n ≤ 10) {l : Nat} (hl : l < n) : am_D G yX6_reachesByMembers (.code yX6_reachesByMembers cX6_reachesByMembers 2 (some .int) :: am_G) { frames := 3, cells := 0, slots := 0, locals := 75 } (hp T S o) [.ref 465, .int (nI l)] (hp T (st1 S 0 0 0) o) (some (.int (rRe (st1 S 0 0 0) n l))) := by
  refine am_of (by decide +kernel) (Nat.le_of_ble_eq_true rfl) ?_
  intro C hse hret hname hF hO
  subst hse
  refine am_go hF sgX6_reachesByMembers_0_6b3ba 3 [(0, .ref 465), (1, .int (nI l))] [.int (nI l), .ref 465, .ref 465] sgX6_reachesByMembers_0_6b3bad rfl ?_
  refine am_dV hF hO [.int (nI l)] [.ref 465] (c_isList_t (S := S) hn hn10 (show l < n by omega) rfl) myX6_isList vyX6_isList lm_RX6_122 (hp_m _ _ _) rfl rfl 0 0 ⟨Nat.le_of_ble_eq_true rfl, Nat.le_of_ble_eq_true rfl⟩ ⟨Nat.le_of_ble_eq_true rfl, Nat.le_of_ble_eq_true rfl, Nat.le_of_ble_eq_true rfl, Nat.le_of_ble_eq_true rfl⟩ rfl (am_lv_ref (hp_m _ _ _) (am_lv_int (am_lv_ref (hp_m _ _ _) am_lv_nil))) (Nat.le_of_ble_eq_true rfl) dX6_reachesByMembers_3 [.int 1, .ref 465] rfl ?_
  refine am_ifeq hF 13 dX6_reachesByMembers_6 (by decide) (fun h9 => False.elim ((by revert h9; decide))) (fun _ => ?_)
  refine am_go hF sgX6_reachesByMembers_9_1cbe9 14 [(0, .ref 465), (1, .int (nI l))] [.int 0, .ref 465] sgX6_reachesByMembers_9_1cbe9d rfl ?_
  refine sv_put hF 0 (by decide) rfl rfl rfl lf_RX6_104 dX6_reachesByMembers_14 ?_
  refine am_go hF sgX6_reachesByMembers_17_34db8 18 [(0, .ref 465), (1, .int (nI l))] [.ref 465] sgX6_reachesByMembers_17_34db8d rfl ?_
  refine sv_get hF 0 (by decide) rfl lf_RX6_104 (.int 0) rfl dX6_reachesByMembers_18 ?_
  refine am_ifle hF 28 dX6_reachesByMembers_21 (by decide) (fun _ => ?_) (fun h9 => False.elim ((by revert h9; decide)))
  refine am_go hF sgX6_reachesByMembers_28_8bcf7 30 [(0, .ref 465), (1, .int (nI l))] [.int (nI l), .ref 465] sgX6_reachesByMembers_28_8bcf7d rfl ?_
  refine am_dV hF hO [.int (nI l)] [] (c_reachesOf (S := (st1 S 0 0 0)) hn hn10 (by omega)) myX6_reachesOf vyX6_reachesOf lm_RX6_136 (hp_m _ _ _) rfl rfl 0 0 ⟨Nat.le_of_ble_eq_true rfl, Nat.le_of_ble_eq_true rfl⟩ ⟨Nat.le_of_ble_eq_true rfl, Nat.le_of_ble_eq_true rfl, Nat.le_of_ble_eq_true rfl, Nat.le_of_ble_eq_true rfl⟩ rfl (am_lv_ref (hp_m _ _ _) (am_lv_int am_lv_nil)) (Nat.le_of_ble_eq_true rfl) dX6_reachesByMembers_30 [.int (rRe (st1 S 0 0 0) n l)] rfl ?_
  exact am_iret hF hO hret rfl dX6_reachesByMembers_33 ⟨rfl, rfl⟩
set_option maxRecDepth 100000 in
set_option maxHeartbeats 4000000 in
theorem c_r_modeOf_1 {G : am_S} {T S : am_T} {o : Nat → Int64} {n : Nat} (hn : S 9 0 = nI n) (hn10 : n ≤ 10) {x : Int32} (hx : x < 0 ∨ nI n ≤ x) {y : Int32} : am_D G yX6_modeOf (.code yX6_modeOf cX6_modeOf 3 (some .int) :: am_G) { frames := 3, cells := 0, slots := 0, locals := 74 } (hp T S o) [.ref 465, .int x, .int y] (hp T (st1 S 0 0 1) o) (some (.int 0)) := by
  refine am_of (by decide +kernel) (Nat.le_of_ble_eq_true rfl) ?_
  intro C hse hret hname hF hO
  subst hse
  refine am_go hF sgX6_modeOf_0_6b3ba 3 [(0, .ref 465), (1, .int x), (2, .int y)] [.int x, .ref 465, .ref 465] sgX6_modeOf_0_6b3bad rfl ?_
  refine am_dV hF hO [.int x] [.ref 465] (c_isList_f (S := S) hn hn10 hx) myX6_isList vyX6_isList lm_RX6_122 (hp_m _ _ _) rfl rfl 0 0 ⟨Nat.le_of_ble_eq_true rfl, Nat.le_of_ble_eq_true rfl⟩ ⟨Nat.le_of_ble_eq_true rfl, Nat.le_of_ble_eq_true rfl, Nat.le_of_ble_eq_true rfl, Nat.le_of_ble_eq_true rfl⟩ rfl (am_lv_ref (hp_m _ _ _) (am_lv_int (am_lv_int (am_lv_ref (hp_m _ _ _) am_lv_nil)))) (Nat.le_of_ble_eq_true rfl) dX6_modeOf_3 [.int 0, .ref 465] rfl ?_
  refine am_ifeq hF 20 dX6_modeOf_6 (by decide) (fun _ => ?_) (fun h9 => False.elim ((by revert h9; decide)))
  refine am_go hF sgX6_modeOf_20_4de0a 21 [(0, .ref 465), (1, .int x), (2, .int y)] [.int 1, .ref 465] sgX6_modeOf_20_4de0ad rfl ?_
  refine sv_put hF 0 (by decide) rfl rfl rfl lf_RX6_104 dX6_modeOf_21 ?_
  refine am_go hF sgX6_modeOf_24_34db8 25 [(0, .ref 465), (1, .int x), (2, .int y)] [.ref 465] sgX6_modeOf_24_34db8d rfl ?_
  refine sv_get hF 0 (by decide) rfl lf_RX6_104 (.int 1) rfl dX6_modeOf_25 ?_
  refine am_ifle hF 35 dX6_modeOf_28 (by decide) (fun h9 => False.elim ((by revert h9; decide))) (fun _ => ?_)
  refine am_go hF sgX6_modeOf_31_077ad 41 [(0, .ref 465), (1, .int x), (2, .int y)] [.int 0] sgX6_modeOf_31_077add rfl ?_
  exact am_iret hF hO hret rfl dX6_modeOf_41 ⟨rfl, rfl⟩
set_option maxRecDepth 100000 in
set_option maxHeartbeats 4000000 in
theorem c_r_modeOf_2 {G : am_S} {T S : am_T} {o : Nat → Int64} {n : Nat} (hn : S 9 0 = nI n) (hn10 : n ≤ 10) {l : Nat} (hl : l < n) {y : Int32} (hy : y < 0 ∨ nI 16 ≤ y) : am_D G yX6_modeOf (.code yX6_modeOf cX6_modeOf 3 (some .int) :: am_G) { frames := 3, cells := 0, slots := 0, locals := 74 } (hp T S o) [.ref 465, .int (nI l), .int y] (hp T (st1 S 0 0 1) o) (some (.int 0)) := by
  refine am_of (by decide +kernel) (Nat.le_of_ble_eq_true rfl) ?_
  intro C hse hret hname hF hO
  subst hse
  refine am_go hF sgX6_modeOf_0_6b3ba 3 [(0, .ref 465), (1, .int (nI l)), (2, .int y)] [.int (nI l), .ref 465, .ref 465] sgX6_modeOf_0_6b3bad rfl ?_
  refine am_dV hF hO [.int (nI l)] [.ref 465] (c_isList_t (S := S) hn hn10 (show l < n by omega) rfl) myX6_isList vyX6_isList lm_RX6_122 (hp_m _ _ _) rfl rfl 0 0 ⟨Nat.le_of_ble_eq_true rfl, Nat.le_of_ble_eq_true rfl⟩ ⟨Nat.le_of_ble_eq_true rfl, Nat.le_of_ble_eq_true rfl, Nat.le_of_ble_eq_true rfl, Nat.le_of_ble_eq_true rfl⟩ rfl (am_lv_ref (hp_m _ _ _) (am_lv_int (am_lv_int (am_lv_ref (hp_m _ _ _) am_lv_nil)))) (Nat.le_of_ble_eq_true rfl) dX6_modeOf_3 [.int 1, .ref 465] rfl ?_
  refine am_ifeq hF 20 dX6_modeOf_6 (by decide) (fun h9 => False.elim ((by revert h9; decide))) (fun _ => ?_)
  refine am_go hF sgX6_modeOf_9_f8a59 10 [(0, .ref 465), (1, .int (nI l)), (2, .int y)] [.int y, .ref 465] sgX6_modeOf_9_f8a59d rfl ?_
  refine am_dS hF hO [.int y] [.ref 465] (c_isPerson_f hy) myX6_isPerson syX6_isPerson lm_RX6_118 rfl 0 0 ⟨Nat.le_of_ble_eq_true rfl, Nat.le_of_ble_eq_true rfl⟩ ⟨Nat.le_of_ble_eq_true rfl, Nat.le_of_ble_eq_true rfl, Nat.le_of_ble_eq_true rfl, Nat.le_of_ble_eq_true rfl⟩ rfl (am_lv_ref (hp_m _ _ _) (am_lv_int (am_lv_int (am_lv_ref (hp_m _ _ _) am_lv_nil)))) (Nat.le_of_ble_eq_true rfl) dX6_modeOf_10 [.int 0, .ref 465] rfl ?_
  refine am_ifeq hF 20 dX6_modeOf_13 (by decide) (fun _ => ?_) (fun h9 => False.elim ((by revert h9; decide)))
  refine am_go hF sgX6_modeOf_20_4de0a 21 [(0, .ref 465), (1, .int (nI l)), (2, .int y)] [.int 1, .ref 465] sgX6_modeOf_20_4de0ad rfl ?_
  refine sv_put hF 0 (by decide) rfl rfl rfl lf_RX6_104 dX6_modeOf_21 ?_
  refine am_go hF sgX6_modeOf_24_34db8 25 [(0, .ref 465), (1, .int (nI l)), (2, .int y)] [.ref 465] sgX6_modeOf_24_34db8d rfl ?_
  refine sv_get hF 0 (by decide) rfl lf_RX6_104 (.int 1) rfl dX6_modeOf_25 ?_
  refine am_ifle hF 35 dX6_modeOf_28 (by decide) (fun h9 => False.elim ((by revert h9; decide))) (fun _ => ?_)
  refine am_go hF sgX6_modeOf_31_077ad 41 [(0, .ref 465), (1, .int (nI l)), (2, .int y)] [.int 0] sgX6_modeOf_31_077add rfl ?_
  exact am_iret hF hO hret rfl dX6_modeOf_41 ⟨rfl, rfl⟩
set_option maxRecDepth 100000 in
set_option maxHeartbeats 4000000 in
theorem c_r_modeOf_3 {G : am_S} {T S : am_T} {o : Nat → Int64} {n : Nat} (hn : S 9 0 = nI n) (hn10 : n ≤ 10) {l : Nat} (hl : l < n) {p : Nat} (hp9 : p < 16) : am_D G yX6_modeOf (.code yX6_modeOf cX6_modeOf 3 (some .int) :: am_G) { frames := 3, cells := 0, slots := 0, locals := 74 } (hp T S o) [.ref 465, .int (nI l), .int (nI p)] (hp T (st1 S 0 0 0) o) (some (.int (rMode (st1 S 0 0 0) n l p))) := by
  refine am_of (by decide +kernel) (Nat.le_of_ble_eq_true rfl) ?_
  intro C hse hret hname hF hO
  subst hse
  refine am_go hF sgX6_modeOf_0_6b3ba 3 [(0, .ref 465), (1, .int (nI l)), (2, .int (nI p))] [.int (nI l), .ref 465, .ref 465] sgX6_modeOf_0_6b3bad rfl ?_
  refine am_dV hF hO [.int (nI l)] [.ref 465] (c_isList_t (S := S) hn hn10 (show l < n by omega) rfl) myX6_isList vyX6_isList lm_RX6_122 (hp_m _ _ _) rfl rfl 0 0 ⟨Nat.le_of_ble_eq_true rfl, Nat.le_of_ble_eq_true rfl⟩ ⟨Nat.le_of_ble_eq_true rfl, Nat.le_of_ble_eq_true rfl, Nat.le_of_ble_eq_true rfl, Nat.le_of_ble_eq_true rfl⟩ rfl (am_lv_ref (hp_m _ _ _) (am_lv_int (am_lv_int (am_lv_ref (hp_m _ _ _) am_lv_nil)))) (Nat.le_of_ble_eq_true rfl) dX6_modeOf_3 [.int 1, .ref 465] rfl ?_
  refine am_ifeq hF 20 dX6_modeOf_6 (by decide) (fun h9 => False.elim ((by revert h9; decide))) (fun _ => ?_)
  refine am_go hF sgX6_modeOf_9_f8a59 10 [(0, .ref 465), (1, .int (nI l)), (2, .int (nI p))] [.int (nI p), .ref 465] sgX6_modeOf_9_f8a59d rfl ?_
  refine am_dS hF hO [.int (nI p)] [.ref 465] (c_isPerson_t (show p < 16 by omega) rfl) myX6_isPerson syX6_isPerson lm_RX6_118 rfl 0 0 ⟨Nat.le_of_ble_eq_true rfl, Nat.le_of_ble_eq_true rfl⟩ ⟨Nat.le_of_ble_eq_true rfl, Nat.le_of_ble_eq_true rfl, Nat.le_of_ble_eq_true rfl, Nat.le_of_ble_eq_true rfl⟩ rfl (am_lv_ref (hp_m _ _ _) (am_lv_int (am_lv_int (am_lv_ref (hp_m _ _ _) am_lv_nil)))) (Nat.le_of_ble_eq_true rfl) dX6_modeOf_10 [.int 1, .ref 465] rfl ?_
  refine am_ifeq hF 20 dX6_modeOf_13 (by decide) (fun h9 => False.elim ((by revert h9; decide))) (fun _ => ?_)
  refine am_go hF sgX6_modeOf_16_1cbe9 21 [(0, .ref 465), (1, .int (nI l)), (2, .int (nI p))] [.int 0, .ref 465] sgX6_modeOf_16_1cbe9d rfl ?_
  refine sv_put hF 0 (by decide) rfl rfl rfl lf_RX6_104 dX6_modeOf_21 ?_
  refine am_go hF sgX6_modeOf_24_34db8 25 [(0, .ref 465), (1, .int (nI l)), (2, .int (nI p))] [.ref 465] sgX6_modeOf_24_34db8d rfl ?_
  refine sv_get hF 0 (by decide) rfl lf_RX6_104 (.int 0) rfl dX6_modeOf_25 ?_
  refine am_ifle hF 35 dX6_modeOf_28 (by decide) (fun _ => ?_) (fun h9 => False.elim ((by revert h9; decide)))
  refine am_go hF sgX6_modeOf_35_8dee2 38 [(0, .ref 465), (1, .int (nI l)), (2, .int (nI p))] [.int (nI p), .int (nI l), .ref 465] sgX6_modeOf_35_8dee2d rfl ?_
  refine am_dV hF hO [.int (nI l), .int (nI p)] [] (c_modeFor (S := (st1 S 0 0 0)) hn hn10 (by omega) (by omega)) myX6_modeFor vyX6_modeFor lm_RX6_139 (hp_m _ _ _) rfl rfl 0 0 ⟨Nat.le_of_ble_eq_true rfl, Nat.le_of_ble_eq_true rfl⟩ ⟨Nat.le_of_ble_eq_true rfl, Nat.le_of_ble_eq_true rfl, Nat.le_of_ble_eq_true rfl, Nat.le_of_ble_eq_true rfl⟩ rfl (am_lv_ref (hp_m _ _ _) (am_lv_int (am_lv_int am_lv_nil))) (Nat.le_of_ble_eq_true rfl) dX6_modeOf_38 [.int (rMode (st1 S 0 0 0) n l p)] rfl ?_
  exact am_iret hF hO hret rfl dX6_modeOf_41 ⟨rfl, rfl⟩
