/-! the class: what the law calls -/
def trb (T : am_T) (n l k : Nat) (s : Int32) : Int32 := if bt (tUp T n k) l = true then s ||| T 11 k else s
def tRbm (T : am_T) (n l : Nat) : Int32 := itN (trb T n l) 0 n
def thl (T : am_T) (k : Nat) (a : Int32) : Int32 := if T 25 k = 1 then a + 1 else a
def tsz (T : am_T) (l : Nat) (x : Int32) (k : Nat) (a : Int32) : Int32 := if T 33 (T 21 k).toNatClampNeg = x ∧ bt (T 27 k) l = true then a + 1 else a
def sgX5_list_0_840bf : List Instr := [.iload_n 1]
theorem sgX5_list_0_840bfd : am_dec cX5_list 0 sgX5_list_0_840bf = true := by decide +kernel
theorem dX5_list_1 : decode cX5_list 1 = .ok (.invokestatic 51, 3) := by decide +kernel
def sgX5_list_4_34db8 : List Instr := [.aload_n 0]
theorem sgX5_list_4_34db8d : am_dec cX5_list 4 sgX5_list_4_34db8 = true := by decide +kernel
theorem dX5_list_5 : decode cX5_list 5 = .ok (.getfield 25, 3) := by decide +kernel
def sgX5_list_8_ee951 : List Instr := [.bipush 10]
theorem sgX5_list_8_ee951d : am_dec cX5_list 8 sgX5_list_8_ee951 = true := by decide +kernel
theorem dX5_list_10 : decode cX5_list 10 = .ok (.if_icmp .lt 13, 3) := by decide +kernel
theorem dX5_list_13 : decode cX5_list 13 = .ok (.new 55, 3) := by decide +kernel
theorem dX5_list_16 : decode cX5_list 16 = .ok (.dup, 1) := by decide +kernel
theorem dX5_list_17 : decode cX5_list 17 = .ok (.ldc 57, 2) := by decide +kernel
theorem dX5_list_19 : decode cX5_list 19 = .ok (.invokespecial 59, 3) := by decide +kernel
theorem dX5_list_22 : decode cX5_list 22 = .ok (.athrow, 1) := by decide +kernel
def sgX5_join_0_8bcf7 : List Instr := [.aload_n 0, .iload_n 1]
theorem sgX5_join_0_8bcf7d : am_dec cX5_join 0 sgX5_join_0_8bcf7 = true := by decide +kernel
theorem dX5_join_2 : decode cX5_join 2 = .ok (.invokevirtual 64, 3) := by decide +kernel
def sgX5_join_5_72c52 : List Instr := [.astore 4, .iload_n 2]
theorem sgX5_join_5_72c52d : am_dec cX5_join 5 sgX5_join_5_72c52 = true := by decide +kernel
theorem dX5_join_8 : decode cX5_join 8 = .ok (.invokestatic 51, 3) := by decide +kernel
def sgX5_join_11_13b50 : List Instr := [.iload_n 3]
theorem sgX5_join_11_13b50d : am_dec cX5_join 11 sgX5_join_11_13b50 = true := by decide +kernel
theorem dX5_join_12 : decode cX5_join 12 = .ok (.invokestatic 68, 3) := by decide +kernel
def sgX5_join_15_c0efb : List Instr := [.aload 4, .iload_n 2]
theorem sgX5_join_15_c0efbd : am_dec cX5_join 15 sgX5_join_15_c0efb = true := by decide +kernel
theorem dX5_join_18 : decode cX5_join 18 = .ok (.invokevirtual 71, 3) := by decide +kernel
theorem dX5_join_21 : decode cX5_join 21 = .ok (.ifCond .eq 13, 3) := by decide +kernel
theorem dX5_join_24 : decode cX5_join 24 = .ok (.new 55, 3) := by decide +kernel
theorem dX5_join_27 : decode cX5_join 27 = .ok (.dup, 1) := by decide +kernel
theorem dX5_join_28 : decode cX5_join 28 = .ok (.ldc 75, 2) := by decide +kernel
theorem dX5_join_30 : decode cX5_join 30 = .ok (.invokespecial 59, 3) := by decide +kernel
theorem dX5_join_33 : decode cX5_join 33 = .ok (.athrow, 1) := by decide +kernel
def sgX5_join_34_5166d : List Instr := [.aload 4, .iload_n 2, .iload_n 3]
theorem sgX5_join_34_5166dd : am_dec cX5_join 34 sgX5_join_34_5166d = true := by decide +kernel
theorem dX5_join_38 : decode cX5_join 38 = .ok (.invokevirtual 77, 3) := by decide +kernel
def sgX5_join_41_cbbc5 : List Instr := [.aload 4]
theorem sgX5_join_41_cbbc5d : am_dec cX5_join 41 sgX5_join_41_cbbc5 = true := by decide +kernel
theorem dX5_join_43 : decode cX5_join 43 = .ok (.getfield 81, 3) := by decide +kernel
theorem dX5_join_46 : decode cX5_join 46 = .ok (.invokestatic 84, 3) := by decide +kernel
theorem dX5_join_49 : decode cX5_join 49 = .ok (.ireturn, 1) := by decide +kernel
def sgX5_leave_0_8bcf7 : List Instr := [.aload_n 0, .iload_n 1]
theorem sgX5_leave_0_8bcf7d : am_dec cX5_leave 0 sgX5_leave_0_8bcf7 = true := by decide +kernel
theorem dX5_leave_2 : decode cX5_leave 2 = .ok (.invokevirtual 64, 3) := by decide +kernel
def sgX5_leave_5_ad53f : List Instr := [.astore_n 3, .iload_n 2]
theorem sgX5_leave_5_ad53fd : am_dec cX5_leave 5 sgX5_leave_5_ad53f = true := by decide +kernel
theorem dX5_leave_7 : decode cX5_leave 7 = .ok (.invokestatic 51, 3) := by decide +kernel
def sgX5_leave_10_a2640 : List Instr := [.aload_n 3, .iload_n 2]
theorem sgX5_leave_10_a2640d : am_dec cX5_leave 10 sgX5_leave_10_a2640 = true := by decide +kernel
theorem dX5_leave_12 : decode cX5_leave 12 = .ok (.invokestatic 90, 3) := by decide +kernel
def sgX5_leave_15_a2640 : List Instr := [.aload_n 3, .iload_n 2]
theorem sgX5_leave_15_a2640d : am_dec cX5_leave 15 sgX5_leave_15_a2640 = true := by decide +kernel
theorem dX5_leave_17 : decode cX5_leave 17 = .ok (.invokevirtual 94, 3) := by decide +kernel
def sgX5_leave_20_41ef2 : List Instr := [.istore 4, .aload_n 3, .iload_n 2]
theorem sgX5_leave_20_41ef2d : am_dec cX5_leave 20 sgX5_leave_20_41ef2 = true := by decide +kernel
theorem dX5_leave_24 : decode cX5_leave 24 = .ok (.invokevirtual 97, 3) := by decide +kernel
def sgX5_leave_27_c6742 : List Instr := [.iload 4]
theorem sgX5_leave_27_c6742d : am_dec cX5_leave 27 sgX5_leave_27_c6742 = true := by decide +kernel
theorem dX5_leave_29 : decode cX5_leave 29 = .ok (.ireturn, 1) := by decide +kernel
def sgX5_mode_0_8bcf7 : List Instr := [.aload_n 0, .iload_n 1]
theorem sgX5_mode_0_8bcf7d : am_dec cX5_mode 0 sgX5_mode_0_8bcf7 = true := by decide +kernel
theorem dX5_mode_2 : decode cX5_mode 2 = .ok (.invokevirtual 64, 3) := by decide +kernel
def sgX5_mode_5_72c52 : List Instr := [.astore 4, .iload_n 2]
theorem sgX5_mode_5_72c52d : am_dec cX5_mode 5 sgX5_mode_5_72c52 = true := by decide +kernel
theorem dX5_mode_8 : decode cX5_mode 8 = .ok (.invokestatic 51, 3) := by decide +kernel
def sgX5_mode_11_13b50 : List Instr := [.iload_n 3]
theorem sgX5_mode_11_13b50d : am_dec cX5_mode 11 sgX5_mode_11_13b50 = true := by decide +kernel
theorem dX5_mode_12 : decode cX5_mode 12 = .ok (.invokestatic 68, 3) := by decide +kernel
def sgX5_mode_15_c0efb : List Instr := [.aload 4, .iload_n 2]
theorem sgX5_mode_15_c0efbd : am_dec cX5_mode 15 sgX5_mode_15_c0efb = true := by decide +kernel
theorem dX5_mode_18 : decode cX5_mode 18 = .ok (.invokestatic 90, 3) := by decide +kernel
def sgX5_mode_21_c0efb : List Instr := [.aload 4, .iload_n 2]
theorem sgX5_mode_21_c0efbd : am_dec cX5_mode 21 sgX5_mode_21_c0efb = true := by decide +kernel
theorem dX5_mode_24 : decode cX5_mode 24 = .ok (.invokevirtual 94, 3) := by decide +kernel
def sgX5_mode_27_8b5c1 : List Instr := [.istore 5, .aload 4, .iload_n 2, .iload_n 3]
theorem sgX5_mode_27_8b5c1d : am_dec cX5_mode 27 sgX5_mode_27_8b5c1 = true := by decide +kernel
theorem dX5_mode_33 : decode cX5_mode 33 = .ok (.invokevirtual 77, 3) := by decide +kernel
def sgX5_mode_36_9df92 : List Instr := [.iload 5]
theorem sgX5_mode_36_9df92d : am_dec cX5_mode 36 sgX5_mode_36_9df92 = true := by decide +kernel
theorem dX5_mode_38 : decode cX5_mode 38 = .ok (.ireturn, 1) := by decide +kernel
def sgX5_nest_0_8bcf7 : List Instr := [.aload_n 0, .iload_n 1]
theorem sgX5_nest_0_8bcf7d : am_dec cX5_nest 0 sgX5_nest_0_8bcf7 = true := by decide +kernel
theorem dX5_nest_2 : decode cX5_nest 2 = .ok (.invokevirtual 64, 3) := by decide +kernel
def sgX5_nest_5_c290a : List Instr := [.astore_n 3, .aload_n 0, .iload_n 2]
theorem sgX5_nest_5_c290ad : am_dec cX5_nest 5 sgX5_nest_5_c290a = true := by decide +kernel
theorem dX5_nest_8 : decode cX5_nest 8 = .ok (.invokevirtual 64, 3) := by decide +kernel
def sgX5_nest_11_e6924 : List Instr := [.pop, .aload_n 3]
theorem sgX5_nest_11_e6924d : am_dec cX5_nest 11 sgX5_nest_11_e6924 = true := by decide +kernel
theorem dX5_nest_13 : decode cX5_nest 13 = .ok (.getfield 100, 3) := by decide +kernel
def sgX5_nest_16_f8a59 : List Instr := [.iload_n 2]
theorem sgX5_nest_16_f8a59d : am_dec cX5_nest 16 sgX5_nest_16_f8a59 = true := by decide +kernel
theorem dX5_nest_17 : decode cX5_nest 17 = .ok (.invokestatic 103, 3) := by decide +kernel
def sgX5_nest_20_caea3 : List Instr := [.istore 4, .iload 4]
theorem sgX5_nest_20_caea3d : am_dec cX5_nest 20 sgX5_nest_20_caea3 = true := by decide +kernel
theorem dX5_nest_24 : decode cX5_nest 24 = .ok (.ifCond .ne 25, 3) := by decide +kernel
def sgX5_nest_27_78e74 : List Instr := [.aload_n 0, .iload_n 2]
theorem sgX5_nest_27_78e74d : am_dec cX5_nest 27 sgX5_nest_27_78e74 = true := by decide +kernel
theorem dX5_nest_29 : decode cX5_nest 29 = .ok (.invokevirtual 107, 3) := by decide +kernel
def sgX5_nest_32_840bf : List Instr := [.iload_n 1]
theorem sgX5_nest_32_840bfd : am_dec cX5_nest 32 sgX5_nest_32_840bf = true := by decide +kernel
theorem dX5_nest_33 : decode cX5_nest 33 = .ok (.invokestatic 103, 3) := by decide +kernel
theorem dX5_nest_36 : decode cX5_nest 36 = .ok (.ifCond .eq 13, 3) := by decide +kernel
theorem dX5_nest_39 : decode cX5_nest 39 = .ok (.new 110, 3) := by decide +kernel
theorem dX5_nest_42 : decode cX5_nest 42 = .ok (.dup, 1) := by decide +kernel
theorem dX5_nest_43 : decode cX5_nest 43 = .ok (.ldc 112, 2) := by decide +kernel
theorem dX5_nest_45 : decode cX5_nest 45 = .ok (.invokespecial 114, 3) := by decide +kernel
theorem dX5_nest_48 : decode cX5_nest 48 = .ok (.athrow, 1) := by decide +kernel
def sgX5_nest_49_1f854 : List Instr := [.aload_n 3, .dup]
theorem sgX5_nest_49_1f854d : am_dec cX5_nest 49 sgX5_nest_49_1f854 = true := by decide +kernel
theorem dX5_nest_51 : decode cX5_nest 51 = .ok (.getfield 100, 3) := by decide +kernel
def sgX5_nest_54_f8a59 : List Instr := [.iload_n 2]
theorem sgX5_nest_54_f8a59d : am_dec cX5_nest 54 sgX5_nest_54_f8a59 = true := by decide +kernel
theorem dX5_nest_55 : decode cX5_nest 55 = .ok (.invokestatic 115, 3) := by decide +kernel
def sgX5_nest_58_a83c7 : List Instr := [.ixor]
theorem sgX5_nest_58_a83c7d : am_dec cX5_nest 58 sgX5_nest_58_a83c7 = true := by decide +kernel
theorem dX5_nest_59 : decode cX5_nest 59 = .ok (.putfield 100, 3) := by decide +kernel
def sgX5_nest_62_c6742 : List Instr := [.iload 4]
theorem sgX5_nest_62_c6742d : am_dec cX5_nest 62 sgX5_nest_62_c6742 = true := by decide +kernel
theorem dX5_nest_64 : decode cX5_nest 64 = .ok (.ifCond .ne 7, 3) := by decide +kernel
def sgX5_nest_71_56c54 : List Instr := [.iconst 0]
theorem sgX5_nest_71_56c54d : am_dec cX5_nest 71 sgX5_nest_71_56c54 = true := by decide +kernel
theorem dX5_nest_72 : decode cX5_nest 72 = .ok (.ireturn, 1) := by decide +kernel
def sgX5_nest_67_1c64c : List Instr := [.iconst 1, .goto 4]
theorem sgX5_nest_67_1c64cd : am_dec cX5_nest 67 sgX5_nest_67_1c64c = true := by decide +kernel
def sgX5_rules_0_8bcf7 : List Instr := [.aload_n 0, .iload_n 1]
theorem sgX5_rules_0_8bcf7d : am_dec cX5_rules 0 sgX5_rules_0_8bcf7 = true := by decide +kernel
theorem dX5_rules_2 : decode cX5_rules 2 = .ok (.invokevirtual 64, 3) := by decide +kernel
def sgX5_rules_5_6f045 : List Instr := [.astore 5, .iload_n 2, .iconst 1, .sipush 200]
theorem sgX5_rules_5_6f045d : am_dec cX5_rules 5 sgX5_rules_5_6f045 = true := by decide +kernel
theorem dX5_rules_12 : decode cX5_rules 12 = .ok (.invokestatic 118, 3) := by decide +kernel
def sgX5_rules_15_13ba5 : List Instr := [.iload_n 3, .iconst 1, .bipush 30]
theorem sgX5_rules_15_13ba5d : am_dec cX5_rules 15 sgX5_rules_15_13ba5 = true := by decide +kernel
theorem dX5_rules_19 : decode cX5_rules 19 = .ok (.invokestatic 118, 3) := by decide +kernel
def sgX5_rules_22_51faf : List Instr := [.aload 5]
theorem sgX5_rules_22_51fafd : am_dec cX5_rules 22 sgX5_rules_22_51faf = true := by decide +kernel
theorem dX5_rules_24 : decode cX5_rules 24 = .ok (.getfield 122, 3) := by decide +kernel
def sgX5_rules_27_4a099 : List Instr := [.istore 6, .aload 5, .iload_n 2]
theorem sgX5_rules_27_4a099d : am_dec cX5_rules 27 sgX5_rules_27_4a099 = true := by decide +kernel
theorem dX5_rules_32 : decode cX5_rules 32 = .ok (.putfield 122, 3) := by decide +kernel
def sgX5_rules_35_a6145 : List Instr := [.aload 5, .iload_n 3]
theorem sgX5_rules_35_a6145d : am_dec cX5_rules 35 sgX5_rules_35_a6145 = true := by decide +kernel
theorem dX5_rules_38 : decode cX5_rules 38 = .ok (.putfield 125, 3) := by decide +kernel
def sgX5_rules_41_650b2 : List Instr := [.aload 5, .iload 4]
theorem sgX5_rules_41_650b2d : am_dec cX5_rules 41 sgX5_rules_41_650b2 = true := by decide +kernel
theorem dX5_rules_45 : decode cX5_rules 45 = .ok (.putfield 128, 3) := by decide +kernel
def sgX5_rules_48_4d8be : List Instr := [.iload 6]
theorem sgX5_rules_48_4d8bed : am_dec cX5_rules 48 sgX5_rules_48_4d8be = true := by decide +kernel
theorem dX5_rules_50 : decode cX5_rules 50 = .ok (.ireturn, 1) := by decide +kernel
def sgX5_bar_0_8bcf7 : List Instr := [.aload_n 0, .iload_n 1]
theorem sgX5_bar_0_8bcf7d : am_dec cX5_bar 0 sgX5_bar_0_8bcf7 = true := by decide +kernel
theorem dX5_bar_2 : decode cX5_bar 2 = .ok (.invokevirtual 64, 3) := by decide +kernel
def sgX5_bar_5_ad53f : List Instr := [.astore_n 3, .iload_n 2]
theorem sgX5_bar_5_ad53fd : am_dec cX5_bar 5 sgX5_bar_5_ad53f = true := by decide +kernel
theorem dX5_bar_7 : decode cX5_bar 7 = .ok (.invokestatic 51, 3) := by decide +kernel
def sgX5_bar_10_1f854 : List Instr := [.aload_n 3, .dup]
theorem sgX5_bar_10_1f854d : am_dec cX5_bar 10 sgX5_bar_10_1f854 = true := by decide +kernel
theorem dX5_bar_12 : decode cX5_bar 12 = .ok (.getfield 132, 3) := by decide +kernel
def sgX5_bar_15_f8a59 : List Instr := [.iload_n 2]
theorem sgX5_bar_15_f8a59d : am_dec cX5_bar 15 sgX5_bar_15_f8a59 = true := by decide +kernel
theorem dX5_bar_16 : decode cX5_bar 16 = .ok (.invokestatic 115, 3) := by decide +kernel
def sgX5_bar_19_a83c7 : List Instr := [.ixor]
theorem sgX5_bar_19_a83c7d : am_dec cX5_bar 19 sgX5_bar_19_a83c7 = true := by decide +kernel
theorem dX5_bar_20 : decode cX5_bar 20 = .ok (.putfield 132, 3) := by decide +kernel
def sgX5_bar_23_67016 : List Instr := [.aload_n 3]
theorem sgX5_bar_23_67016d : am_dec cX5_bar 23 sgX5_bar_23_67016 = true := by decide +kernel
theorem dX5_bar_24 : decode cX5_bar 24 = .ok (.getfield 132, 3) := by decide +kernel
def sgX5_bar_27_f8a59 : List Instr := [.iload_n 2]
theorem sgX5_bar_27_f8a59d : am_dec cX5_bar 27 sgX5_bar_27_f8a59 = true := by decide +kernel
theorem dX5_bar_28 : decode cX5_bar 28 = .ok (.invokestatic 103, 3) := by decide +kernel
theorem dX5_bar_31 : decode cX5_bar 31 = .ok (.ireturn, 1) := by decide +kernel
def sgX5_word_0_840bf : List Instr := [.iload_n 1]
theorem sgX5_word_0_840bfd : am_dec cX5_word 0 sgX5_word_0_840bf = true := by decide +kernel
theorem dX5_word_1 : decode cX5_word 1 = .ok (.ifCond .lt 9, 3) := by decide +kernel
theorem dX5_word_10 : decode cX5_word 10 = .ok (.new 135, 3) := by decide +kernel
theorem dX5_word_13 : decode cX5_word 13 = .ok (.dup, 1) := by decide +kernel
theorem dX5_word_14 : decode cX5_word 14 = .ok (.ldc 137, 2) := by decide +kernel
theorem dX5_word_16 : decode cX5_word 16 = .ok (.invokespecial 139, 3) := by decide +kernel
theorem dX5_word_19 : decode cX5_word 19 = .ok (.athrow, 1) := by decide +kernel
def sgX5_word_4_cb664 : List Instr := [.iload_n 1, .bipush 20]
theorem sgX5_word_4_cb664d : am_dec cX5_word 4 sgX5_word_4_cb664 = true := by decide +kernel
theorem dX5_word_7 : decode cX5_word 7 = .ok (.if_icmp .lt 13, 3) := by decide +kernel
def sgX5_word_20_f8e78 : List Instr := [.iload_n 2, .bipush (-20), .bipush 50]
theorem sgX5_word_20_f8e78d : am_dec cX5_word 20 sgX5_word_20_f8e78 = true := by decide +kernel
theorem dX5_word_25 : decode cX5_word 25 = .ok (.invokestatic 118, 3) := by decide +kernel
def sgX5_word_28_34db8 : List Instr := [.aload_n 0]
theorem sgX5_word_28_34db8d : am_dec cX5_word 28 sgX5_word_28_34db8 = true := by decide +kernel
theorem dX5_word_29 : decode cX5_word 29 = .ok (.getfield 15, 3) := by decide +kernel
def sgX5_word_32_840bf : List Instr := [.iload_n 1]
theorem sgX5_word_32_840bfd : am_dec cX5_word 32 sgX5_word_32_840bf = true := by decide +kernel
theorem dX5_word_33 : decode cX5_word 33 = .ok (.iaload, 1) := by decide +kernel
def sgX5_word_34_a034f : List Instr := [.istore_n 3, .aload_n 0]
theorem sgX5_word_34_a034fd : am_dec cX5_word 34 sgX5_word_34_a034f = true := by decide +kernel
theorem dX5_word_36 : decode cX5_word 36 = .ok (.getfield 15, 3) := by decide +kernel
def sgX5_word_39_5601b : List Instr := [.iload_n 1, .iload_n 2]
theorem sgX5_word_39_5601bd : am_dec cX5_word 39 sgX5_word_39_5601b = true := by decide +kernel
theorem dX5_word_41 : decode cX5_word 41 = .ok (.iastore, 1) := by decide +kernel
def sgX5_word_42_13b50 : List Instr := [.iload_n 3]
theorem sgX5_word_42_13b50d : am_dec cX5_word 42 sgX5_word_42_13b50 = true := by decide +kernel
theorem dX5_word_43 : decode cX5_word 43 = .ok (.ireturn, 1) := by decide +kernel
def sgX5_reaches_0_8bcf7 : List Instr := [.aload_n 0, .iload_n 1]
theorem sgX5_reaches_0_8bcf7d : am_dec cX5_reaches 0 sgX5_reaches_0_8bcf7 = true := by decide +kernel
theorem dX5_reaches_2 : decode cX5_reaches 2 = .ok (.invokevirtual 64, 3) := by decide +kernel
def sgX5_reaches_5_e08cf : List Instr := [.pop, .aload_n 0, .aload_n 0, .iload_n 1]
theorem sgX5_reaches_5_e08cfd : am_dec cX5_reaches 5 sgX5_reaches_5_e08cf = true := by decide +kernel
theorem dX5_reaches_9 : decode cX5_reaches 9 = .ok (.invokevirtual 107, 3) := by decide +kernel
theorem dX5_reaches_12 : decode cX5_reaches 12 = .ok (.invokevirtual 140, 3) := by decide +kernel
theorem dX5_reaches_15 : decode cX5_reaches 15 = .ok (.ireturn, 1) := by decide +kernel
def sgX5_reachesByMembers_0_8bcf7 : List Instr := [.aload_n 0, .iload_n 1]
theorem sgX5_reachesByMembers_0_8bcf7d : am_dec cX5_reachesByMembers 0 sgX5_reachesByMembers_0_8bcf7 = true := by decide +kernel
theorem dX5_reachesByMembers_2 : decode cX5_reachesByMembers 2 = .ok (.invokevirtual 64, 3) := by decide +kernel
def sgX5_reachesByMembers_5_7f12a : List Instr := [.pop, .iconst 0, .istore_n 2, .iconst 0, .istore_n 3]
theorem sgX5_reachesByMembers_5_7f12ad : am_dec cX5_reachesByMembers 5 sgX5_reachesByMembers_5_7f12a = true := by decide +kernel
def sgX5_reachesByMembers_10_a1b5b : List Instr := [.iload_n 3, .aload_n 0]
theorem sgX5_reachesByMembers_10_a1b5bd : am_dec cX5_reachesByMembers 10 sgX5_reachesByMembers_10_a1b5b = true := by decide +kernel
theorem dX5_reachesByMembers_12 : decode cX5_reachesByMembers 12 = .ok (.getfield 25, 3) := by decide +kernel
theorem dX5_reachesByMembers_15 : decode cX5_reachesByMembers 15 = .ok (.if_icmp .ge 33, 3) := by decide +kernel
def sgX5_reachesByMembers_48_f8a59 : List Instr := [.iload_n 2]
theorem sgX5_reachesByMembers_48_f8a59d : am_dec cX5_reachesByMembers 48 sgX5_reachesByMembers_48_f8a59 = true := by decide +kernel
theorem dX5_reachesByMembers_49 : decode cX5_reachesByMembers 49 = .ok (.ireturn, 1) := by decide +kernel
def sgX5_reachesByMembers_18_245fd : List Instr := [.aload_n 0, .iload_n 3]
theorem sgX5_reachesByMembers_18_245fdd : am_dec cX5_reachesByMembers 18 sgX5_reachesByMembers_18_245fd = true := by decide +kernel
theorem dX5_reachesByMembers_20 : decode cX5_reachesByMembers 20 = .ok (.invokevirtual 143, 3) := by decide +kernel
def sgX5_reachesByMembers_23_840bf : List Instr := [.iload_n 1]
theorem sgX5_reachesByMembers_23_840bfd : am_dec cX5_reachesByMembers 23 sgX5_reachesByMembers_23_840bf = true := by decide +kernel
theorem dX5_reachesByMembers_24 : decode cX5_reachesByMembers 24 = .ok (.invokestatic 103, 3) := by decide +kernel
theorem dX5_reachesByMembers_27 : decode cX5_reachesByMembers 27 = .ok (.ifCond .eq 15, 3) := by decide +kernel
def sgX5_reachesByMembers_42_63303 : List Instr := [.iinc 3 1, .goto (-35)]
theorem sgX5_reachesByMembers_42_63303d : am_dec cX5_reachesByMembers 42 sgX5_reachesByMembers_42_63303 = true := by decide +kernel
def sgX5_reachesByMembers_30_14491 : List Instr := [.iload_n 2, .aload_n 0]
theorem sgX5_reachesByMembers_30_14491d : am_dec cX5_reachesByMembers 30 sgX5_reachesByMembers_30_14491 = true := by decide +kernel
theorem dX5_reachesByMembers_32 : decode cX5_reachesByMembers 32 = .ok (.getfield 21, 3) := by decide +kernel
def sgX5_reachesByMembers_35_13b50 : List Instr := [.iload_n 3]
theorem sgX5_reachesByMembers_35_13b50d : am_dec cX5_reachesByMembers 35 sgX5_reachesByMembers_35_13b50 = true := by decide +kernel
theorem dX5_reachesByMembers_36 : decode cX5_reachesByMembers 36 = .ok (.aaload, 1) := by decide +kernel
theorem dX5_reachesByMembers_37 : decode cX5_reachesByMembers 37 = .ok (.getfield 81, 3) := by decide +kernel
def sgX5_reachesByMembers_40_3dae4 : List Instr := [.ior, .istore_n 2, .iinc 3 1, .goto (-35)]
theorem sgX5_reachesByMembers_40_3dae4d : am_dec cX5_reachesByMembers 40 sgX5_reachesByMembers_40_3dae4 = true := by decide +kernel
def sgX5_modeOf_0_8bcf7 : List Instr := [.aload_n 0, .iload_n 1]
theorem sgX5_modeOf_0_8bcf7d : am_dec cX5_modeOf 0 sgX5_modeOf_0_8bcf7 = true := by decide +kernel
theorem dX5_modeOf_2 : decode cX5_modeOf 2 = .ok (.invokevirtual 64, 3) := by decide +kernel
def sgX5_modeOf_5_9358b : List Instr := [.pop, .iload_n 2]
theorem sgX5_modeOf_5_9358bd : am_dec cX5_modeOf 5 sgX5_modeOf_5_9358b = true := by decide +kernel
theorem dX5_modeOf_7 : decode cX5_modeOf 7 = .ok (.invokestatic 51, 3) := by decide +kernel
def sgX5_modeOf_10_6b3ba : List Instr := [.aload_n 0, .aload_n 0, .iload_n 1]
theorem sgX5_modeOf_10_6b3bad : am_dec cX5_modeOf 10 sgX5_modeOf_10_6b3ba = true := by decide +kernel
theorem dX5_modeOf_13 : decode cX5_modeOf 13 = .ok (.invokevirtual 107, 3) := by decide +kernel
def sgX5_modeOf_16_f8a59 : List Instr := [.iload_n 2]
theorem sgX5_modeOf_16_f8a59d : am_dec cX5_modeOf 16 sgX5_modeOf_16_f8a59 = true := by decide +kernel
theorem dX5_modeOf_17 : decode cX5_modeOf 17 = .ok (.invokevirtual 146, 3) := by decide +kernel
theorem dX5_modeOf_20 : decode cX5_modeOf 20 = .ok (.ireturn, 1) := by decide +kernel
def sgX5_approve_0_8bcf7 : List Instr := [.aload_n 0, .iload_n 1]
theorem sgX5_approve_0_8bcf7d : am_dec cX5_approve 0 sgX5_approve_0_8bcf7 = true := by decide +kernel
theorem dX5_approve_2 : decode cX5_approve 2 = .ok (.invokevirtual 150, 3) := by decide +kernel
def sgX5_approve_5_b4dfd : List Instr := [.astore_n 2, .aload_n 2]
theorem sgX5_approve_5_b4dfdd : am_dec cX5_approve 5 sgX5_approve_5_b4dfd = true := by decide +kernel
theorem dX5_approve_7 : decode cX5_approve 7 = .ok (.invokestatic 174, 3) := by decide +kernel
def sgX5_refuse_0_8bcf7 : List Instr := [.aload_n 0, .iload_n 1]
theorem sgX5_refuse_0_8bcf7d : am_dec cX5_refuse 0 sgX5_refuse_0_8bcf7 = true := by decide +kernel
theorem dX5_refuse_2 : decode cX5_refuse 2 = .ok (.invokevirtual 150, 3) := by decide +kernel
def sgX5_refuse_5_b4dfd : List Instr := [.astore_n 2, .aload_n 2]
theorem sgX5_refuse_5_b4dfdd : am_dec cX5_refuse 5 sgX5_refuse_5_b4dfd = true := by decide +kernel
theorem dX5_refuse_7 : decode cX5_refuse 7 = .ok (.invokestatic 174, 3) := by decide +kernel
def sgX5_refuse_10_47b34 : List Instr := [.aload_n 2, .iconst 3]
theorem sgX5_refuse_10_47b34d : am_dec cX5_refuse 10 sgX5_refuse_10_47b34 = true := by decide +kernel
theorem dX5_refuse_12 : decode cX5_refuse 12 = .ok (.putfield 183, 3) := by decide +kernel
def sgX5_refuse_15_9fb7d : List Instr := [.aload_n 2]
theorem sgX5_refuse_15_9fb7dd : am_dec cX5_refuse 15 sgX5_refuse_15_9fb7d = true := by decide +kernel
theorem dX5_refuse_16 : decode cX5_refuse 16 = .ok (.getfield 186, 3) := by decide +kernel
theorem dX5_refuse_19 : decode cX5_refuse 19 = .ok (.ireturn, 1) := by decide +kernel
def sgX5_state_0_8bcf7 : List Instr := [.aload_n 0, .iload_n 1]
theorem sgX5_state_0_8bcf7d : am_dec cX5_state 0 sgX5_state_0_8bcf7 = true := by decide +kernel
theorem dX5_state_2 : decode cX5_state 2 = .ok (.invokevirtual 150, 3) := by decide +kernel
theorem dX5_state_5 : decode cX5_state 5 = .ok (.getfield 183, 3) := by decide +kernel
theorem dX5_state_8 : decode cX5_state 8 = .ok (.ireturn, 1) := by decide +kernel
def sgX5_cause_0_8bcf7 : List Instr := [.aload_n 0, .iload_n 1]
theorem sgX5_cause_0_8bcf7d : am_dec cX5_cause 0 sgX5_cause_0_8bcf7 = true := by decide +kernel
theorem dX5_cause_2 : decode cX5_cause 2 = .ok (.invokevirtual 150, 3) := by decide +kernel
theorem dX5_cause_5 : decode cX5_cause 5 = .ok (.getfield 230, 3) := by decide +kernel
theorem dX5_cause_8 : decode cX5_cause 8 = .ok (.ireturn, 1) := by decide +kernel
def sgX5_score_0_8bcf7 : List Instr := [.aload_n 0, .iload_n 1]
theorem sgX5_score_0_8bcf7d : am_dec cX5_score 0 sgX5_score_0_8bcf7 = true := by decide +kernel
theorem dX5_score_2 : decode cX5_score 2 = .ok (.invokevirtual 150, 3) := by decide +kernel
theorem dX5_score_5 : decode cX5_score 5 = .ok (.getfield 186, 3) := by decide +kernel
theorem dX5_score_8 : decode cX5_score 8 = .ok (.ireturn, 1) := by decide +kernel
def sgX5_reached_0_8bcf7 : List Instr := [.aload_n 0, .iload_n 1]
theorem sgX5_reached_0_8bcf7d : am_dec cX5_reached 0 sgX5_reached_0_8bcf7 = true := by decide +kernel
theorem dX5_reached_2 : decode cX5_reached 2 = .ok (.invokevirtual 150, 3) := by decide +kernel
theorem dX5_reached_5 : decode cX5_reached 5 = .ok (.getfield 180, 3) := by decide +kernel
theorem dX5_reached_8 : decode cX5_reached 8 = .ok (.ireturn, 1) := by decide +kernel
def sgX5_lapses_0_8bcf7 : List Instr := [.aload_n 0, .iload_n 1]
theorem sgX5_lapses_0_8bcf7d : am_dec cX5_lapses 0 sgX5_lapses_0_8bcf7 = true := by decide +kernel
theorem dX5_lapses_2 : decode cX5_lapses 2 = .ok (.invokevirtual 150, 3) := by decide +kernel
def sgX5_lapses_5_b4dfd : List Instr := [.astore_n 2, .aload_n 2]
theorem sgX5_lapses_5_b4dfdd : am_dec cX5_lapses 5 sgX5_lapses_5_b4dfd = true := by decide +kernel
theorem dX5_lapses_7 : decode cX5_lapses 7 = .ok (.invokevirtual 233, 3) := by decide +kernel
theorem dX5_lapses_10 : decode cX5_lapses 10 = .ok (.ifCond .eq 10, 3) := by decide +kernel
def sgX5_lapses_20_5ff24 : List Instr := [.iconst (-1)]
theorem sgX5_lapses_20_5ff24d : am_dec cX5_lapses 20 sgX5_lapses_20_5ff24 = true := by decide +kernel
theorem dX5_lapses_21 : decode cX5_lapses 21 = .ok (.ireturn, 1) := by decide +kernel
def sgX5_lapses_13_9fb7d : List Instr := [.aload_n 2]
theorem sgX5_lapses_13_9fb7dd : am_dec cX5_lapses 13 sgX5_lapses_13_9fb7d = true := by decide +kernel
theorem dX5_lapses_14 : decode cX5_lapses 14 = .ok (.getfield 237, 3) := by decide +kernel
def sgX5_lapses_17_c4397 : List Instr := [.goto 4]
theorem sgX5_lapses_17_c4397d : am_dec cX5_lapses 17 sgX5_lapses_17_c4397 = true := by decide +kernel
def sgX5_jurors_0_8bcf7 : List Instr := [.aload_n 0, .iload_n 1]
theorem sgX5_jurors_0_8bcf7d : am_dec cX5_jurors 0 sgX5_jurors_0_8bcf7 = true := by decide +kernel
theorem dX5_jurors_2 : decode cX5_jurors 2 = .ok (.invokevirtual 150, 3) := by decide +kernel
theorem dX5_jurors_5 : decode cX5_jurors 5 = .ok (.getfield 189, 3) := by decide +kernel
def sgX5_jurors_8_b4dfd : List Instr := [.astore_n 2, .aload_n 2]
theorem sgX5_jurors_8_b4dfdd : am_dec cX5_jurors 8 sgX5_jurors_8_b4dfd = true := by decide +kernel
theorem dX5_jurors_10 : decode cX5_jurors 10 = .ok (.ifnonnull 7, 3) := by decide +kernel
def sgX5_jurors_17_9fb7d : List Instr := [.aload_n 2]
theorem sgX5_jurors_17_9fb7dd : am_dec cX5_jurors 17 sgX5_jurors_17_9fb7d = true := by decide +kernel
theorem dX5_jurors_18 : decode cX5_jurors 18 = .ok (.invokevirtual 207, 3) := by decide +kernel
theorem dX5_jurors_21 : decode cX5_jurors 21 = .ok (.ireturn, 1) := by decide +kernel
theorem dX5_jurors_8 : decode cX5_jurors 8 = .ok (.astore_n 2, 1) := by decide +kernel
theorem dX5_jurors_9 : decode cX5_jurors 9 = .ok (.aload_n 2, 1) := by decide +kernel
def sgX5_jurors_13_d3b8f : List Instr := [.iconst 0, .goto 7]
theorem sgX5_jurors_13_d3b8fd : am_dec cX5_jurors 13 sgX5_jurors_13_d3b8f = true := by decide +kernel
def sgX5_mails_0_34db8 : List Instr := [.aload_n 0]
theorem sgX5_mails_0_34db8d : am_dec cX5_mails 0 sgX5_mails_0_34db8 = true := by decide +kernel
theorem dX5_mails_1 : decode cX5_mails 1 = .ok (.getfield 35, 3) := by decide +kernel
theorem dX5_mails_4 : decode cX5_mails 4 = .ok (.ireturn, 1) := by decide +kernel
def sgX5_held_0_1ac35 : List Instr := [.iconst 0, .istore_n 1, .iconst 0, .istore_n 2]
theorem sgX5_held_0_1ac35d : am_dec cX5_held 0 sgX5_held_0_1ac35 = true := by decide +kernel
def sgX5_held_4_14491 : List Instr := [.iload_n 2, .aload_n 0]
theorem sgX5_held_4_14491d : am_dec cX5_held 4 sgX5_held_4_14491 = true := by decide +kernel
theorem dX5_held_6 : decode cX5_held 6 = .ok (.getfield 35, 3) := by decide +kernel
theorem dX5_held_9 : decode cX5_held 9 = .ok (.if_icmp .ge 25, 3) := by decide +kernel
def sgX5_held_34_840bf : List Instr := [.iload_n 1]
theorem sgX5_held_34_840bfd : am_dec cX5_held 34 sgX5_held_34_840bf = true := by decide +kernel
theorem dX5_held_35 : decode cX5_held 35 = .ok (.ireturn, 1) := by decide +kernel
def sgX5_held_12_34db8 : List Instr := [.aload_n 0]
theorem sgX5_held_12_34db8d : am_dec cX5_held 12 sgX5_held_12_34db8 = true := by decide +kernel
theorem dX5_held_13 : decode cX5_held 13 = .ok (.getfield 31, 3) := by decide +kernel
def sgX5_held_16_f8a59 : List Instr := [.iload_n 2]
theorem sgX5_held_16_f8a59d : am_dec cX5_held 16 sgX5_held_16_f8a59 = true := by decide +kernel
theorem dX5_held_17 : decode cX5_held 17 = .ok (.aaload, 1) := by decide +kernel
theorem dX5_held_18 : decode cX5_held 18 = .ok (.getfield 183, 3) := by decide +kernel
def sgX5_held_21_4de0a : List Instr := [.iconst 1]
theorem sgX5_held_21_4de0ad : am_dec cX5_held 21 sgX5_held_21_4de0a = true := by decide +kernel
theorem dX5_held_22 : decode cX5_held 22 = .ok (.if_icmp .ne 6, 3) := by decide +kernel
def sgX5_held_28_85dbb : List Instr := [.iinc 2 1, .goto (-27)]
theorem sgX5_held_28_85dbbd : am_dec cX5_held 28 sgX5_held_28_85dbb = true := by decide +kernel
def sgX5_held_25_6de96 : List Instr := [.iinc 1 1, .iinc 2 1, .goto (-27)]
theorem sgX5_held_25_6de96d : am_dec cX5_held 25 sgX5_held_25_6de96 = true := by decide +kernel
def sgX5_weight_0_840bf : List Instr := [.iload_n 1]
theorem sgX5_weight_0_840bfd : am_dec cX5_weight 0 sgX5_weight_0_840bf = true := by decide +kernel
theorem dX5_weight_1 : decode cX5_weight 1 = .ok (.invokestatic 51, 3) := by decide +kernel
def sgX5_weight_4_34db8 : List Instr := [.aload_n 0]
theorem sgX5_weight_4_34db8d : am_dec cX5_weight 4 sgX5_weight_4_34db8 = true := by decide +kernel
theorem dX5_weight_5 : decode cX5_weight 5 = .ok (.getfield 11, 3) := by decide +kernel
def sgX5_weight_8_840bf : List Instr := [.iload_n 1]
theorem sgX5_weight_8_840bfd : am_dec cX5_weight 8 sgX5_weight_8_840bf = true := by decide +kernel
theorem dX5_weight_9 : decode cX5_weight 9 = .ok (.aaload, 1) := by decide +kernel
theorem dX5_weight_10 : decode cX5_weight 10 = .ok (.getfield 240, 3) := by decide +kernel
theorem dX5_weight_13 : decode cX5_weight 13 = .ok (.ireturn, 1) := by decide +kernel
def sgX5_judged_0_840bf : List Instr := [.iload_n 1]
theorem sgX5_judged_0_840bfd : am_dec cX5_judged 0 sgX5_judged_0_840bf = true := by decide +kernel
theorem dX5_judged_1 : decode cX5_judged 1 = .ok (.invokestatic 51, 3) := by decide +kernel
def sgX5_judged_4_34db8 : List Instr := [.aload_n 0]
theorem sgX5_judged_4_34db8d : am_dec cX5_judged 4 sgX5_judged_4_34db8 = true := by decide +kernel
theorem dX5_judged_5 : decode cX5_judged 5 = .ok (.getfield 11, 3) := by decide +kernel
def sgX5_judged_8_840bf : List Instr := [.iload_n 1]
theorem sgX5_judged_8_840bfd : am_dec cX5_judged 8 sgX5_judged_8_840bf = true := by decide +kernel
theorem dX5_judged_9 : decode cX5_judged 9 = .ok (.aaload, 1) := by decide +kernel
theorem dX5_judged_10 : decode cX5_judged 10 = .ok (.getfield 217, 3) := by decide +kernel
theorem dX5_judged_13 : decode cX5_judged 13 = .ok (.ireturn, 1) := by decide +kernel
def sgX5_bounces_0_840bf : List Instr := [.iload_n 1]
theorem sgX5_bounces_0_840bfd : am_dec cX5_bounces 0 sgX5_bounces_0_840bf = true := by decide +kernel
theorem dX5_bounces_1 : decode cX5_bounces 1 = .ok (.invokestatic 51, 3) := by decide +kernel
def sgX5_bounces_4_34db8 : List Instr := [.aload_n 0]
theorem sgX5_bounces_4_34db8d : am_dec cX5_bounces 4 sgX5_bounces_4_34db8 = true := by decide +kernel
theorem dX5_bounces_5 : decode cX5_bounces 5 = .ok (.getfield 11, 3) := by decide +kernel
def sgX5_bounces_8_840bf : List Instr := [.iload_n 1]
theorem sgX5_bounces_8_840bfd : am_dec cX5_bounces 8 sgX5_bounces_8_840bf = true := by decide +kernel
theorem dX5_bounces_9 : decode cX5_bounces 9 = .ok (.aaload, 1) := by decide +kernel
theorem dX5_bounces_10 : decode cX5_bounces 10 = .ok (.getfield 243, 3) := by decide +kernel
theorem dX5_bounces_13 : decode cX5_bounces 13 = .ok (.ireturn, 1) := by decide +kernel
def sgX5_box_0_840bf : List Instr := [.iload_n 1]
theorem sgX5_box_0_840bfd : am_dec cX5_box 0 sgX5_box_0_840bf = true := by decide +kernel
theorem dX5_box_1 : decode cX5_box 1 = .ok (.invokestatic 51, 3) := by decide +kernel
def sgX5_box_4_34db8 : List Instr := [.aload_n 0]
theorem sgX5_box_4_34db8d : am_dec cX5_box 4 sgX5_box_4_34db8 = true := by decide +kernel
theorem dX5_box_5 : decode cX5_box 5 = .ok (.getfield 11, 3) := by decide +kernel
def sgX5_box_8_840bf : List Instr := [.iload_n 1]
theorem sgX5_box_8_840bfd : am_dec cX5_box 8 sgX5_box_8_840bf = true := by decide +kernel
theorem dX5_box_9 : decode cX5_box 9 = .ok (.aaload, 1) := by decide +kernel
theorem dX5_box_10 : decode cX5_box 10 = .ok (.getfield 246, 3) := by decide +kernel
theorem dX5_box_13 : decode cX5_box 13 = .ok (.ireturn, 1) := by decide +kernel
def sgX5_mailAt_0_840bf : List Instr := [.iload_n 1]
theorem sgX5_mailAt_0_840bfd : am_dec cX5_mailAt 0 sgX5_mailAt_0_840bf = true := by decide +kernel
theorem dX5_mailAt_1 : decode cX5_mailAt 1 = .ok (.invokestatic 51, 3) := by decide +kernel
def sgX5_mailAt_4_f8a59 : List Instr := [.iload_n 2]
theorem sgX5_mailAt_4_f8a59d : am_dec cX5_mailAt 4 sgX5_mailAt_4_f8a59 = true := by decide +kernel
theorem dX5_mailAt_5 : decode cX5_mailAt 5 = .ok (.ifCond .lt 16, 3) := by decide +kernel
theorem dX5_mailAt_21 : decode cX5_mailAt 21 = .ok (.new 135, 3) := by decide +kernel
theorem dX5_mailAt_24 : decode cX5_mailAt 24 = .ok (.dup, 1) := by decide +kernel
theorem dX5_mailAt_25 : decode cX5_mailAt 25 = .ok (.ldc 249, 2) := by decide +kernel
theorem dX5_mailAt_27 : decode cX5_mailAt 27 = .ok (.invokespecial 139, 3) := by decide +kernel
theorem dX5_mailAt_30 : decode cX5_mailAt 30 = .ok (.athrow, 1) := by decide +kernel
def sgX5_mailAt_8_14491 : List Instr := [.iload_n 2, .aload_n 0]
theorem sgX5_mailAt_8_14491d : am_dec cX5_mailAt 8 sgX5_mailAt_8_14491 = true := by decide +kernel
theorem dX5_mailAt_10 : decode cX5_mailAt 10 = .ok (.getfield 11, 3) := by decide +kernel
def sgX5_mailAt_13_840bf : List Instr := [.iload_n 1]
theorem sgX5_mailAt_13_840bfd : am_dec cX5_mailAt 13 sgX5_mailAt_13_840bf = true := by decide +kernel
theorem dX5_mailAt_14 : decode cX5_mailAt 14 = .ok (.aaload, 1) := by decide +kernel
theorem dX5_mailAt_15 : decode cX5_mailAt 15 = .ok (.getfield 246, 3) := by decide +kernel
theorem dX5_mailAt_18 : decode cX5_mailAt 18 = .ok (.if_icmp .lt 13, 3) := by decide +kernel
def sgX5_mailAt_31_34db8 : List Instr := [.aload_n 0]
theorem sgX5_mailAt_31_34db8d : am_dec cX5_mailAt 31 sgX5_mailAt_31_34db8 = true := by decide +kernel
theorem dX5_mailAt_32 : decode cX5_mailAt 32 = .ok (.getfield 11, 3) := by decide +kernel
def sgX5_mailAt_35_840bf : List Instr := [.iload_n 1]
theorem sgX5_mailAt_35_840bfd : am_dec cX5_mailAt 35 sgX5_mailAt_35_840bf = true := by decide +kernel
theorem dX5_mailAt_36 : decode cX5_mailAt 36 = .ok (.aaload, 1) := by decide +kernel
theorem dX5_mailAt_37 : decode cX5_mailAt 37 = .ok (.getfield 251, 3) := by decide +kernel
def sgX5_mailAt_40_f8a59 : List Instr := [.iload_n 2]
theorem sgX5_mailAt_40_f8a59d : am_dec cX5_mailAt 40 sgX5_mailAt_40_f8a59 = true := by decide +kernel
theorem dX5_mailAt_41 : decode cX5_mailAt 41 = .ok (.iaload, 1) := by decide +kernel
theorem dX5_mailAt_42 : decode cX5_mailAt 42 = .ok (.ireturn, 1) := by decide +kernel
def sgX5_read_0_840bf : List Instr := [.iload_n 1]
theorem sgX5_read_0_840bfd : am_dec cX5_read 0 sgX5_read_0_840bf = true := by decide +kernel
theorem dX5_read_1 : decode cX5_read 1 = .ok (.invokestatic 51, 3) := by decide +kernel
def sgX5_read_4_34db8 : List Instr := [.aload_n 0]
theorem sgX5_read_4_34db8d : am_dec cX5_read 4 sgX5_read_4_34db8 = true := by decide +kernel
theorem dX5_read_5 : decode cX5_read 5 = .ok (.getfield 11, 3) := by decide +kernel
def sgX5_read_8_840bf : List Instr := [.iload_n 1]
theorem sgX5_read_8_840bfd : am_dec cX5_read 8 sgX5_read_8_840bf = true := by decide +kernel
theorem dX5_read_9 : decode cX5_read 9 = .ok (.aaload, 1) := by decide +kernel
theorem dX5_read_10 : decode cX5_read 10 = .ok (.invokevirtual 254, 3) := by decide +kernel
theorem dX5_read_13 : decode cX5_read 13 = .ok (.ireturn, 1) := by decide +kernel
set_option maxRecDepth 100000 in
set_option maxHeartbeats 4000000 in
theorem c_p_list_1 {G : am_S} (hG : G.1.stackTraces = false) {T S : am_T} {o : Nat → Int64} {x : Int32} (hx : x < 0 ∨ nI 16 ≤ x) : am_XD G yX5_list (.code yX5_list cX5_list 2 (some .int) :: am_G) { frames := 8, cells := 1, slots := 6, locals := 135 } (hp T S o) [.ref 0, .int x] am_E1 := by
  refine am_ofX (by decide +kernel) (Nat.le_of_ble_eq_true rfl) ?_
  intro C hse hret hname hF hX
  subst hse
  have hO := hX.1
  refine am_go hF sgX5_list_0_840bf 1 [(0, .ref 0), (1, .int x)] [.int x] sgX5_list_0_840bfd rfl ?_
  exact am_xS hF hX [.int x] [] (c_checkPerson_x hG hx) myX5_checkPerson syX5_checkPerson lm_RX5_51 rfl ⟨Nat.le_of_ble_eq_true rfl, Nat.le_of_ble_eq_true rfl, Nat.le_of_ble_eq_true rfl, Nat.le_of_ble_eq_true rfl⟩ rfl (Nat.le_of_ble_eq_true rfl) dX5_list_1
set_option maxRecDepth 100000 in
set_option maxHeartbeats 4000000 in
theorem c_p_list_2 {G : am_S} (hG : G.1.stackTraces = false) {T S : am_T} {o : Nat → Int64} {p : Nat} (hp9 : p < 16) (h0 : T 0 0 = nI 10) : am_XD G yX5_list (.code yX5_list cX5_list 2 (some .int) :: am_G) { frames := 8, cells := 1, slots := 6, locals := 135 } (hp T S o) [.ref 0, .int (nI p)] am_E2 := by
  refine am_ofX (by decide +kernel) (Nat.le_of_ble_eq_true rfl) ?_
  intro C hse hret hname hF hX
  subst hse
  have hO := hX.1
  refine am_go hF sgX5_list_0_840bf 1 [(0, .ref 0), (1, .int (nI p))] [.int (nI p)] sgX5_list_0_840bfd rfl ?_
  refine am_dS hF hO [.int (nI p)] [] (c_checkPerson (show p < 16 by omega)) myX5_checkPerson syX5_checkPerson lm_RX5_51 rfl 0 0 ⟨Nat.le_of_ble_eq_true rfl, Nat.le_of_ble_eq_true rfl⟩ ⟨Nat.le_of_ble_eq_true rfl, Nat.le_of_ble_eq_true rfl, Nat.le_of_ble_eq_true rfl, Nat.le_of_ble_eq_true rfl⟩ rfl (am_lv_ref (hp_main _ _ _) (am_lv_int am_lv_nil)) (Nat.le_of_ble_eq_true rfl) dX5_list_1 [] rfl ?_
  refine am_go hF sgX5_list_4_34db8 5 [(0, .ref 0), (1, .int (nI p))] [.ref 0] sgX5_list_4_34db8d rfl ?_
  refine am_getf hF (hp_main T S o) (T := TX5) (N := 9) rfl (inG 5 inG5) 3 (by decide) (List.mem_cons_of_mem _ lf_RX5_25) rfl (.int (T 0 0)) rfl dX5_list_5 ?_
  refine am_top (nI 10) h0 ?_
  refine am_go hF sgX5_list_8_ee951 10 [(0, .ref 0), (1, .int (nI p))] [.int 10, .int (nI 10)] sgX5_list_8_ee951d rfl ?_
  refine am_icmplt hF 23 dX5_list_10 (by decide) (fun h9 => False.elim (nc_ge_f (show 10 ≤ 10 by omega) (by omega) (by omega) rfl rfl h9)) (fun _ => ?_)
  exact am_throwS hF hX hG (is := 57) (text := "there are 10 lists") am_nm (by decide +kernel) am_nm_fit lc_RX5_55 xz2 (by decide) xa2 xg2 dX5_list_13 dX5_list_16 dX5_list_17 dX5_list_19 dX5_list_22 ⟨Nat.le_of_ble_eq_true rfl, Nat.le_of_ble_eq_true rfl, Nat.le_of_ble_eq_true rfl, Nat.le_of_ble_eq_true rfl⟩
set_option maxRecDepth 100000 in
set_option maxHeartbeats 4000000 in
theorem c_p_join_1a {G : am_S} (hG : G.1.stackTraces = false) {T S : am_T} {o : Nat → Int64} {n : Nat} (hn : T 0 0 = nI n) (hn10 : n ≤ 10) {x : Int32} (hx : x < 0 ∨ nI n ≤ x) {y z : Int32} : am_XD G yX5_join (.code yX5_join cX5_join 5 (some .int) :: am_G) { frames := 8, cells := 1, slots := 6, locals := 135 } (hp T S o) [.ref 0, .int x, .int y, .int z] am_E1 := by
  refine am_ofX (by decide +kernel) (Nat.le_of_ble_eq_true rfl) ?_
  intro C hse hret hname hF hX
  subst hse
  have hO := hX.1
  refine am_go hF sgX5_join_0_8bcf7 2 [(0, .ref 0), (1, .int x), (2, .int y), (3, .int z)] [.int x, .ref 0] sgX5_join_0_8bcf7d rfl ?_
  exact am_xV hF hX [.int x] [] (c_findList_x hG hn hn10 hx) myX5_findList vyX5_findList lm_RX5_64 (hp_main _ _ _) rfl rfl ⟨Nat.le_of_ble_eq_true rfl, Nat.le_of_ble_eq_true rfl, Nat.le_of_ble_eq_true rfl, Nat.le_of_ble_eq_true rfl⟩ rfl (Nat.le_of_ble_eq_true rfl) dX5_join_2
set_option maxRecDepth 100000 in
set_option maxHeartbeats 4000000 in
theorem c_p_join_1b {G : am_S} (hG : G.1.stackTraces = false) {T S : am_T} {o : Nat → Int64} {n : Nat} (hn : T 0 0 = nI n) (hn10 : n ≤ 10) {l : Nat} (hl : l < n) {y : Int32} (hy : y < 0 ∨ nI 16 ≤ y) {z : Int32} : am_XD G yX5_join (.code yX5_join cX5_join 5 (some .int) :: am_G) { frames := 8, cells := 1, slots := 6, locals := 135 } (hp T S o) [.ref 0, .int (nI l), .int y, .int z] am_E1 := by
  refine am_ofX (by decide +kernel) (Nat.le_of_ble_eq_true rfl) ?_
  intro C hse hret hname hF hX
  subst hse
  have hO := hX.1
  refine am_go hF sgX5_join_0_8bcf7 2 [(0, .ref 0), (1, .int (nI l)), (2, .int y), (3, .int z)] [.int (nI l), .ref 0] sgX5_join_0_8bcf7d rfl ?_
  refine am_dV hF hO [.int (nI l)] [] (c_findList (T := T) hn hn10 (show l < n by omega)) myX5_findList vyX5_findList lm_RX5_64 (hp_main _ _ _) rfl rfl 0 0 ⟨Nat.le_of_ble_eq_true rfl, Nat.le_of_ble_eq_true rfl⟩ ⟨Nat.le_of_ble_eq_true rfl, Nat.le_of_ble_eq_true rfl, Nat.le_of_ble_eq_true rfl, Nat.le_of_ble_eq_true rfl⟩ rfl (am_lv_ref (hp_main _ _ _) (am_lv_int (am_lv_int (am_lv_int am_lv_nil)))) (Nat.le_of_ble_eq_true rfl) dX5_join_2 [.ref (48 + l)] rfl ?_
  refine am_go hF sgX5_join_5_72c52 8 [(4, .ref (48 + l)), (0, .ref 0), (1, .int (nI l)), (2, .int y), (3, .int z)] [.int y] sgX5_join_5_72c52d rfl ?_
  exact am_xS hF hX [.int y] [] (c_checkPerson_x hG hy) myX5_checkPerson syX5_checkPerson lm_RX5_51 rfl ⟨Nat.le_of_ble_eq_true rfl, Nat.le_of_ble_eq_true rfl, Nat.le_of_ble_eq_true rfl, Nat.le_of_ble_eq_true rfl⟩ rfl (Nat.le_of_ble_eq_true rfl) dX5_join_8
set_option maxRecDepth 100000 in
set_option maxHeartbeats 4000000 in
theorem c_p_join_2 {G : am_S} (hG : G.1.stackTraces = false) {T S : am_T} {o : Nat → Int64} {n : Nat} (hn : T 0 0 = nI n) (hn10 : n ≤ 10) {l : Nat} (hl : l < n) {p : Nat} (hp9 : p < 16) {z : Int32} (hz : z ≠ 0 ∧ z ≠ 1) : am_XD G yX5_join (.code yX5_join cX5_join 5 (some .int) :: am_G) { frames := 8, cells := 1, slots := 6, locals := 135 } (hp T S o) [.ref 0, .int (nI l), .int (nI p), .int z] am_E3 := by
  refine am_ofX (by decide +kernel) (Nat.le_of_ble_eq_true rfl) ?_
  intro C hse hret hname hF hX
  subst hse
  have hO := hX.1
  refine am_go hF sgX5_join_0_8bcf7 2 [(0, .ref 0), (1, .int (nI l)), (2, .int (nI p)), (3, .int z)] [.int (nI l), .ref 0] sgX5_join_0_8bcf7d rfl ?_
  refine am_dV hF hO [.int (nI l)] [] (c_findList (T := T) hn hn10 (show l < n by omega)) myX5_findList vyX5_findList lm_RX5_64 (hp_main _ _ _) rfl rfl 0 0 ⟨Nat.le_of_ble_eq_true rfl, Nat.le_of_ble_eq_true rfl⟩ ⟨Nat.le_of_ble_eq_true rfl, Nat.le_of_ble_eq_true rfl, Nat.le_of_ble_eq_true rfl, Nat.le_of_ble_eq_true rfl⟩ rfl (am_lv_ref (hp_main _ _ _) (am_lv_int (am_lv_int (am_lv_int am_lv_nil)))) (Nat.le_of_ble_eq_true rfl) dX5_join_2 [.ref (48 + l)] rfl ?_
  refine am_go hF sgX5_join_5_72c52 8 [(4, .ref (48 + l)), (0, .ref 0), (1, .int (nI l)), (2, .int (nI p)), (3, .int z)] [.int (nI p)] sgX5_join_5_72c52d rfl ?_
  refine am_dS hF hO [.int (nI p)] [] (c_checkPerson (show p < 16 by omega)) myX5_checkPerson syX5_checkPerson lm_RX5_51 rfl 0 0 ⟨Nat.le_of_ble_eq_true rfl, Nat.le_of_ble_eq_true rfl⟩ ⟨Nat.le_of_ble_eq_true rfl, Nat.le_of_ble_eq_true rfl, Nat.le_of_ble_eq_true rfl, Nat.le_of_ble_eq_true rfl⟩ rfl (am_lv_ref (hp_list _ _ _ hn hn10 (show l < n by omega)) (am_lv_ref (hp_main _ _ _) (am_lv_int (am_lv_int (am_lv_int am_lv_nil))))) (Nat.le_of_ble_eq_true rfl) dX5_join_8 [] rfl ?_
  refine am_go hF sgX5_join_11_13b50 12 [(4, .ref (48 + l)), (0, .ref 0), (1, .int (nI l)), (2, .int (nI p)), (3, .int z)] [.int z] sgX5_join_11_13b50d rfl ?_
  exact am_xS hF hX [.int z] [] (c_checkMode_x hG hz) myX5_checkMode syX5_checkMode lm_RX5_68 rfl ⟨Nat.le_of_ble_eq_true rfl, Nat.le_of_ble_eq_true rfl, Nat.le_of_ble_eq_true rfl, Nat.le_of_ble_eq_true rfl⟩ rfl (Nat.le_of_ble_eq_true rfl) dX5_join_12
set_option maxRecDepth 100000 in
set_option maxHeartbeats 4000000 in
theorem c_p_join_3 {G : am_S} (hG : G.1.stackTraces = false) {T S : am_T} {o : Nat → Int64} {n : Nat} (hn : T 0 0 = nI n) (hn10 : n ≤ 10) {l : Nat} (hl : l < n) {p : Nat} (hp9 : p < 16) {z : Int32} (hz : z = 0 ∨ z = 1) (hb : bt (T 11 l) p = true) : am_XD G yX5_join (.code yX5_join cX5_join 5 (some .int) :: am_G) { frames := 8, cells := 1, slots := 6, locals := 135 } (hp T S o) [.ref 0, .int (nI l), .int (nI p), .int z] am_E2 := by
  refine am_ofX (by decide +kernel) (Nat.le_of_ble_eq_true rfl) ?_
  intro C hse hret hname hF hX
  subst hse
  have hO := hX.1
  refine am_go hF sgX5_join_0_8bcf7 2 [(0, .ref 0), (1, .int (nI l)), (2, .int (nI p)), (3, .int z)] [.int (nI l), .ref 0] sgX5_join_0_8bcf7d rfl ?_
  refine am_dV hF hO [.int (nI l)] [] (c_findList (T := T) hn hn10 (show l < n by omega)) myX5_findList vyX5_findList lm_RX5_64 (hp_main _ _ _) rfl rfl 0 0 ⟨Nat.le_of_ble_eq_true rfl, Nat.le_of_ble_eq_true rfl⟩ ⟨Nat.le_of_ble_eq_true rfl, Nat.le_of_ble_eq_true rfl, Nat.le_of_ble_eq_true rfl, Nat.le_of_ble_eq_true rfl⟩ rfl (am_lv_ref (hp_main _ _ _) (am_lv_int (am_lv_int (am_lv_int am_lv_nil)))) (Nat.le_of_ble_eq_true rfl) dX5_join_2 [.ref (48 + l)] rfl ?_
  refine am_go hF sgX5_join_5_72c52 8 [(4, .ref (48 + l)), (0, .ref 0), (1, .int (nI l)), (2, .int (nI p)), (3, .int z)] [.int (nI p)] sgX5_join_5_72c52d rfl ?_
  refine am_dS hF hO [.int (nI p)] [] (c_checkPerson (show p < 16 by omega)) myX5_checkPerson syX5_checkPerson lm_RX5_51 rfl 0 0 ⟨Nat.le_of_ble_eq_true rfl, Nat.le_of_ble_eq_true rfl⟩ ⟨Nat.le_of_ble_eq_true rfl, Nat.le_of_ble_eq_true rfl, Nat.le_of_ble_eq_true rfl, Nat.le_of_ble_eq_true rfl⟩ rfl (am_lv_ref (hp_list _ _ _ hn hn10 (show l < n by omega)) (am_lv_ref (hp_main _ _ _) (am_lv_int (am_lv_int (am_lv_int am_lv_nil))))) (Nat.le_of_ble_eq_true rfl) dX5_join_8 [] rfl ?_
  refine am_go hF sgX5_join_11_13b50 12 [(4, .ref (48 + l)), (0, .ref 0), (1, .int (nI l)), (2, .int (nI p)), (3, .int z)] [.int z] sgX5_join_11_13b50d rfl ?_
  refine am_dS hF hO [.int z] [] (c_checkMode hz) myX5_checkMode syX5_checkMode lm_RX5_68 rfl 0 0 ⟨Nat.le_of_ble_eq_true rfl, Nat.le_of_ble_eq_true rfl⟩ ⟨Nat.le_of_ble_eq_true rfl, Nat.le_of_ble_eq_true rfl, Nat.le_of_ble_eq_true rfl, Nat.le_of_ble_eq_true rfl⟩ rfl (am_lv_ref (hp_list _ _ _ hn hn10 (show l < n by omega)) (am_lv_ref (hp_main _ _ _) (am_lv_int (am_lv_int (am_lv_int am_lv_nil))))) (Nat.le_of_ble_eq_true rfl) dX5_join_12 [] rfl ?_
  refine am_go hF sgX5_join_15_c0efb 18 [(4, .ref (48 + l)), (0, .ref 0), (1, .int (nI l)), (2, .int (nI p)), (3, .int z)] [.int (nI p), .ref (48 + l)] sgX5_join_15_c0efbd rfl ?_
  refine am_dV hF hO [.int (nI p)] [] (c_hasMember (T := T) hn hn10 (show l < n by omega) (show p < 16 by omega)) myX2_hasMember vyX2_hasMember lm_RX5_71 (hp_list _ _ _ hn hn10 (show l < n by omega)) rfl rfl 0 0 ⟨Nat.le_of_ble_eq_true rfl, Nat.le_of_ble_eq_true rfl⟩ ⟨Nat.le_of_ble_eq_true rfl, Nat.le_of_ble_eq_true rfl, Nat.le_of_ble_eq_true rfl, Nat.le_of_ble_eq_true rfl⟩ rfl (am_lv_ref (hp_list _ _ _ hn hn10 (show l < n by omega)) (am_lv_ref (hp_main _ _ _) (am_lv_int (am_lv_int (am_lv_int am_lv_nil))))) (Nat.le_of_ble_eq_true rfl) dX5_join_18 [.int (zb (bt (T 11 l) p))] rfl ?_
  refine am_ifeq hF 34 dX5_join_21 (by decide) (fun c1 => ?_) (fun c1 => ?_)
  · skip
    replace c1 := zb_0.mp c1
    exact absurd (hb.symm.trans c1) (by decide)
  · skip
    replace c1 := zb_p.mp c1
    exact am_throwS hF hX hG (is := 75) (text := "the person is a member") am_nm (by decide +kernel) am_nm_fit lc_RX5_55 xz2 (by decide) xa2 xg2 dX5_join_24 dX5_join_27 dX5_join_28 dX5_join_30 dX5_join_33 ⟨Nat.le_of_ble_eq_true rfl, Nat.le_of_ble_eq_true rfl, Nat.le_of_ble_eq_true rfl, Nat.le_of_ble_eq_true rfl⟩
set_option maxRecDepth 100000 in
set_option maxHeartbeats 4000000 in
theorem c_p_join_n {G : am_S} {T S : am_T} {o : Nat → Int64} {n : Nat} (hn : T 0 0 = nI n) (hn10 : n ≤ 10) {l : Nat} (hl : l < n) {p : Nat} (hp9 : p < 16) {z : Int32} (hz : z = 0 ∨ z = 1) (hb : bt (T 11 l) p = false) : am_D G yX5_join (.code yX5_join cX5_join 5 (some .int) :: am_G) { frames := 2, cells := 0, slots := 0, locals := 42 } (hp T S o) [.ref 0, .int (nI l), .int (nI p), .int z] (hp (tPut T l p z) S o) (some (.int (bc ((tPut T l p z) 11 l)))) := by
  refine am_of (by decide +kernel) (Nat.le_of_ble_eq_true rfl) ?_
  intro C hse hret hname hF hO
  subst hse
  refine am_go hF sgX5_join_0_8bcf7 2 [(0, .ref 0), (1, .int (nI l)), (2, .int (nI p)), (3, .int z)] [.int (nI l), .ref 0] sgX5_join_0_8bcf7d rfl ?_
  refine am_dV hF hO [.int (nI l)] [] (c_findList (T := T) hn hn10 (show l < n by omega)) myX5_findList vyX5_findList lm_RX5_64 (hp_main _ _ _) rfl rfl 0 0 ⟨Nat.le_of_ble_eq_true rfl, Nat.le_of_ble_eq_true rfl⟩ ⟨Nat.le_of_ble_eq_true rfl, Nat.le_of_ble_eq_true rfl, Nat.le_of_ble_eq_true rfl, Nat.le_of_ble_eq_true rfl⟩ rfl (am_lv_ref (hp_main _ _ _) (am_lv_int (am_lv_int (am_lv_int am_lv_nil)))) (Nat.le_of_ble_eq_true rfl) dX5_join_2 [.ref (48 + l)] rfl ?_
  refine am_go hF sgX5_join_5_72c52 8 [(4, .ref (48 + l)), (0, .ref 0), (1, .int (nI l)), (2, .int (nI p)), (3, .int z)] [.int (nI p)] sgX5_join_5_72c52d rfl ?_
  refine am_dS hF hO [.int (nI p)] [] (c_checkPerson (show p < 16 by omega)) myX5_checkPerson syX5_checkPerson lm_RX5_51 rfl 0 0 ⟨Nat.le_of_ble_eq_true rfl, Nat.le_of_ble_eq_true rfl⟩ ⟨Nat.le_of_ble_eq_true rfl, Nat.le_of_ble_eq_true rfl, Nat.le_of_ble_eq_true rfl, Nat.le_of_ble_eq_true rfl⟩ rfl (am_lv_ref (hp_list _ _ _ hn hn10 (show l < n by omega)) (am_lv_ref (hp_main _ _ _) (am_lv_int (am_lv_int (am_lv_int am_lv_nil))))) (Nat.le_of_ble_eq_true rfl) dX5_join_8 [] rfl ?_
  refine am_go hF sgX5_join_11_13b50 12 [(4, .ref (48 + l)), (0, .ref 0), (1, .int (nI l)), (2, .int (nI p)), (3, .int z)] [.int z] sgX5_join_11_13b50d rfl ?_
  refine am_dS hF hO [.int z] [] (c_checkMode hz) myX5_checkMode syX5_checkMode lm_RX5_68 rfl 0 0 ⟨Nat.le_of_ble_eq_true rfl, Nat.le_of_ble_eq_true rfl⟩ ⟨Nat.le_of_ble_eq_true rfl, Nat.le_of_ble_eq_true rfl, Nat.le_of_ble_eq_true rfl, Nat.le_of_ble_eq_true rfl⟩ rfl (am_lv_ref (hp_list _ _ _ hn hn10 (show l < n by omega)) (am_lv_ref (hp_main _ _ _) (am_lv_int (am_lv_int (am_lv_int am_lv_nil))))) (Nat.le_of_ble_eq_true rfl) dX5_join_12 [] rfl ?_
  refine am_go hF sgX5_join_15_c0efb 18 [(4, .ref (48 + l)), (0, .ref 0), (1, .int (nI l)), (2, .int (nI p)), (3, .int z)] [.int (nI p), .ref (48 + l)] sgX5_join_15_c0efbd rfl ?_
  refine am_dV hF hO [.int (nI p)] [] (c_hasMember (T := T) hn hn10 (show l < n by omega) (show p < 16 by omega)) myX2_hasMember vyX2_hasMember lm_RX5_71 (hp_list _ _ _ hn hn10 (show l < n by omega)) rfl rfl 0 0 ⟨Nat.le_of_ble_eq_true rfl, Nat.le_of_ble_eq_true rfl⟩ ⟨Nat.le_of_ble_eq_true rfl, Nat.le_of_ble_eq_true rfl, Nat.le_of_ble_eq_true rfl, Nat.le_of_ble_eq_true rfl⟩ rfl (am_lv_ref (hp_list _ _ _ hn hn10 (show l < n by omega)) (am_lv_ref (hp_main _ _ _) (am_lv_int (am_lv_int (am_lv_int am_lv_nil))))) (Nat.le_of_ble_eq_true rfl) dX5_join_18 [.int (zb (bt (T 11 l) p))] rfl ?_
  refine am_ifeq hF 34 dX5_join_21 (by decide) (fun c1 => ?_) (fun c1 => ?_)
  · skip
    replace c1 := zb_0.mp c1
    refine am_go hF sgX5_join_34_5166d 38 [(4, .ref (48 + l)), (0, .ref 0), (1, .int (nI l)), (2, .int (nI p)), (3, .int z)] [.int z, .int (nI p), .ref (48 + l)] sgX5_join_34_5166dd rfl ?_
    refine am_dV hF hO [.int (nI p), .int z] [] (c_putMember (T := T) hn hn10 (show l < n by omega) (show p < 16 by omega)) myX2_putMember vyX2_putMember lm_RX5_77 (hp_list _ _ _ hn hn10 (show l < n by omega)) rfl rfl 0 0 ⟨Nat.le_of_ble_eq_true rfl, Nat.le_of_ble_eq_true rfl⟩ ⟨Nat.le_of_ble_eq_true rfl, Nat.le_of_ble_eq_true rfl, Nat.le_of_ble_eq_true rfl, Nat.le_of_ble_eq_true rfl⟩ rfl (am_lv_ref (hp_list _ _ _ hn hn10 (show l < n by omega)) (am_lv_ref (hp_main _ _ _) (am_lv_int (am_lv_int (am_lv_int am_lv_nil))))) (Nat.le_of_ble_eq_true rfl) dX5_join_38 [] rfl ?_
    refine am_go hF sgX5_join_41_cbbc5 43 [(4, .ref (48 + l)), (0, .ref 0), (1, .int (nI l)), (2, .int (nI p)), (3, .int z)] [.ref (48 + l)] sgX5_join_41_cbbc5d rfl ?_
    refine am_getf hF (hp_list (tPut T l p z) S o hn hn10 (show l < n by omega)) (T := TX2) (N := 8) rfl (inG 2 inG2) 1 (by decide) (List.mem_cons_of_mem _ lf_RX5_81) rfl (.int ((tPut T l p z) 11 l)) rfl dX5_join_43 ?_
    refine am_dS hF hO [.int ((tPut T l p z) 11 l)] [] (c_bitCount) myJ6_bitCount_0f7a4 syJ6_bitCount_0f7a4 lm_RX5_84 rfl 0 0 ⟨Nat.le_of_ble_eq_true rfl, Nat.le_of_ble_eq_true rfl⟩ ⟨Nat.le_of_ble_eq_true rfl, Nat.le_of_ble_eq_true rfl, Nat.le_of_ble_eq_true rfl, Nat.le_of_ble_eq_true rfl⟩ rfl (am_lv_ref (hp_list _ _ _ hn hn10 (show l < n by omega)) (am_lv_ref (hp_main _ _ _) (am_lv_int (am_lv_int (am_lv_int am_lv_nil))))) (Nat.le_of_ble_eq_true rfl) dX5_join_46 [.int (bc ((tPut T l p z) 11 l))] rfl ?_
    exact am_iret hF hO hret rfl dX5_join_49 ⟨rfl, rfl⟩
  · skip
    replace c1 := zb_p.mp c1
    exact absurd (hb.symm.trans c1) (by decide)
set_option maxRecDepth 100000 in
set_option maxHeartbeats 4000000 in
theorem c_p_leave_1a {G : am_S} (hG : G.1.stackTraces = false) {T S : am_T} {o : Nat → Int64} {n : Nat} (hn : T 0 0 = nI n) (hn10 : n ≤ 10) {x : Int32} (hx : x < 0 ∨ nI n ≤ x) {y : Int32} : am_XD G yX5_leave (.code yX5_leave cX5_leave 5 (some .int) :: am_G) { frames := 8, cells := 1, slots := 6, locals := 135 } (hp T S o) [.ref 0, .int x, .int y] am_E1 := by
  refine am_ofX (by decide +kernel) (Nat.le_of_ble_eq_true rfl) ?_
  intro C hse hret hname hF hX
  subst hse
  have hO := hX.1
  refine am_go hF sgX5_leave_0_8bcf7 2 [(0, .ref 0), (1, .int x), (2, .int y)] [.int x, .ref 0] sgX5_leave_0_8bcf7d rfl ?_
  exact am_xV hF hX [.int x] [] (c_findList_x hG hn hn10 hx) myX5_findList vyX5_findList lm_RX5_64 (hp_main _ _ _) rfl rfl ⟨Nat.le_of_ble_eq_true rfl, Nat.le_of_ble_eq_true rfl, Nat.le_of_ble_eq_true rfl, Nat.le_of_ble_eq_true rfl⟩ rfl (Nat.le_of_ble_eq_true rfl) dX5_leave_2
set_option maxRecDepth 100000 in
set_option maxHeartbeats 4000000 in
theorem c_p_leave_1b {G : am_S} (hG : G.1.stackTraces = false) {T S : am_T} {o : Nat → Int64} {n : Nat} (hn : T 0 0 = nI n) (hn10 : n ≤ 10) {l : Nat} (hl : l < n) {y : Int32} (hy : y < 0 ∨ nI 16 ≤ y) : am_XD G yX5_leave (.code yX5_leave cX5_leave 5 (some .int) :: am_G) { frames := 8, cells := 1, slots := 6, locals := 135 } (hp T S o) [.ref 0, .int (nI l), .int y] am_E1 := by
  refine am_ofX (by decide +kernel) (Nat.le_of_ble_eq_true rfl) ?_
  intro C hse hret hname hF hX
  subst hse
  have hO := hX.1
  refine am_go hF sgX5_leave_0_8bcf7 2 [(0, .ref 0), (1, .int (nI l)), (2, .int y)] [.int (nI l), .ref 0] sgX5_leave_0_8bcf7d rfl ?_
  refine am_dV hF hO [.int (nI l)] [] (c_findList (T := T) hn hn10 (show l < n by omega)) myX5_findList vyX5_findList lm_RX5_64 (hp_main _ _ _) rfl rfl 0 0 ⟨Nat.le_of_ble_eq_true rfl, Nat.le_of_ble_eq_true rfl⟩ ⟨Nat.le_of_ble_eq_true rfl, Nat.le_of_ble_eq_true rfl, Nat.le_of_ble_eq_true rfl, Nat.le_of_ble_eq_true rfl⟩ rfl (am_lv_ref (hp_main _ _ _) (am_lv_int (am_lv_int am_lv_nil))) (Nat.le_of_ble_eq_true rfl) dX5_leave_2 [.ref (48 + l)] rfl ?_
  refine am_go hF sgX5_leave_5_ad53f 7 [(3, .ref (48 + l)), (0, .ref 0), (1, .int (nI l)), (2, .int y)] [.int y] sgX5_leave_5_ad53fd rfl ?_
  exact am_xS hF hX [.int y] [] (c_checkPerson_x hG hy) myX5_checkPerson syX5_checkPerson lm_RX5_51 rfl ⟨Nat.le_of_ble_eq_true rfl, Nat.le_of_ble_eq_true rfl, Nat.le_of_ble_eq_true rfl, Nat.le_of_ble_eq_true rfl⟩ rfl (Nat.le_of_ble_eq_true rfl) dX5_leave_7
set_option maxRecDepth 100000 in
set_option maxHeartbeats 4000000 in
theorem c_p_leave_2 {G : am_S} (hG : G.1.stackTraces = false) {T S : am_T} {o : Nat → Int64} {n : Nat} (hn : T 0 0 = nI n) (hn10 : n ≤ 10) {l : Nat} (hl : l < n) {p : Nat} (hp9 : p < 16) (hb : bt (T 11 l) p = false) : am_XD G yX5_leave (.code yX5_leave cX5_leave 5 (some .int) :: am_G) { frames := 8, cells := 1, slots := 6, locals := 135 } (hp T S o) [.ref 0, .int (nI l), .int (nI p)] am_E2 := by
  refine am_ofX (by decide +kernel) (Nat.le_of_ble_eq_true rfl) ?_
  intro C hse hret hname hF hX
  subst hse
  have hO := hX.1
  refine am_go hF sgX5_leave_0_8bcf7 2 [(0, .ref 0), (1, .int (nI l)), (2, .int (nI p))] [.int (nI l), .ref 0] sgX5_leave_0_8bcf7d rfl ?_
  refine am_dV hF hO [.int (nI l)] [] (c_findList (T := T) hn hn10 (show l < n by omega)) myX5_findList vyX5_findList lm_RX5_64 (hp_main _ _ _) rfl rfl 0 0 ⟨Nat.le_of_ble_eq_true rfl, Nat.le_of_ble_eq_true rfl⟩ ⟨Nat.le_of_ble_eq_true rfl, Nat.le_of_ble_eq_true rfl, Nat.le_of_ble_eq_true rfl, Nat.le_of_ble_eq_true rfl⟩ rfl (am_lv_ref (hp_main _ _ _) (am_lv_int (am_lv_int am_lv_nil))) (Nat.le_of_ble_eq_true rfl) dX5_leave_2 [.ref (48 + l)] rfl ?_
  refine am_go hF sgX5_leave_5_ad53f 7 [(3, .ref (48 + l)), (0, .ref 0), (1, .int (nI l)), (2, .int (nI p))] [.int (nI p)] sgX5_leave_5_ad53fd rfl ?_
  refine am_dS hF hO [.int (nI p)] [] (c_checkPerson (show p < 16 by omega)) myX5_checkPerson syX5_checkPerson lm_RX5_51 rfl 0 0 ⟨Nat.le_of_ble_eq_true rfl, Nat.le_of_ble_eq_true rfl⟩ ⟨Nat.le_of_ble_eq_true rfl, Nat.le_of_ble_eq_true rfl, Nat.le_of_ble_eq_true rfl, Nat.le_of_ble_eq_true rfl⟩ rfl (am_lv_ref (hp_list _ _ _ hn hn10 (show l < n by omega)) (am_lv_ref (hp_main _ _ _) (am_lv_int (am_lv_int am_lv_nil)))) (Nat.le_of_ble_eq_true rfl) dX5_leave_7 [] rfl ?_
  refine am_go hF sgX5_leave_10_a2640 12 [(3, .ref (48 + l)), (0, .ref 0), (1, .int (nI l)), (2, .int (nI p))] [.int (nI p), .ref (48 + l)] sgX5_leave_10_a2640d rfl ?_
  exact am_xS hF hX [.ref (48 + l), .int (nI p)] [] (c_checkMember_x hG hn hn10 (show l < n by omega) (show p < 16 by omega) hb) myX5_checkMember syX5_checkMember lm_RX5_90 rfl ⟨Nat.le_of_ble_eq_true rfl, Nat.le_of_ble_eq_true rfl, Nat.le_of_ble_eq_true rfl, Nat.le_of_ble_eq_true rfl⟩ rfl (Nat.le_of_ble_eq_true rfl) dX5_leave_12
set_option maxRecDepth 100000 in
set_option maxHeartbeats 4000000 in
theorem c_p_leave_n {G : am_S} {T S : am_T} {o : Nat → Int64} {n : Nat} (hn : T 0 0 = nI n) (hn10 : n ≤ 10) {l : Nat} (hl : l < n) {p : Nat} (hp9 : p < 16) (hb : bt (T 11 l) p = true) : am_D G yX5_leave (.code yX5_leave cX5_leave 5 (some .int) :: am_G) { frames := 3, cells := 0, slots := 0, locals := 63 } (hp T S o) [.ref 0, .int (nI l), .int (nI p)] (hp (tDrop T l p) S o) (some (.int (zb (!bt (T 12 l) p)))) := by
  refine am_of (by decide +kernel) (Nat.le_of_ble_eq_true rfl) ?_
  intro C hse hret hname hF hO
  subst hse
  refine am_go hF sgX5_leave_0_8bcf7 2 [(0, .ref 0), (1, .int (nI l)), (2, .int (nI p))] [.int (nI l), .ref 0] sgX5_leave_0_8bcf7d rfl ?_
  refine am_dV hF hO [.int (nI l)] [] (c_findList (T := T) hn hn10 (show l < n by omega)) myX5_findList vyX5_findList lm_RX5_64 (hp_main _ _ _) rfl rfl 0 0 ⟨Nat.le_of_ble_eq_true rfl, Nat.le_of_ble_eq_true rfl⟩ ⟨Nat.le_of_ble_eq_true rfl, Nat.le_of_ble_eq_true rfl, Nat.le_of_ble_eq_true rfl, Nat.le_of_ble_eq_true rfl⟩ rfl (am_lv_ref (hp_main _ _ _) (am_lv_int (am_lv_int am_lv_nil))) (Nat.le_of_ble_eq_true rfl) dX5_leave_2 [.ref (48 + l)] rfl ?_
  refine am_go hF sgX5_leave_5_ad53f 7 [(3, .ref (48 + l)), (0, .ref 0), (1, .int (nI l)), (2, .int (nI p))] [.int (nI p)] sgX5_leave_5_ad53fd rfl ?_
  refine am_dS hF hO [.int (nI p)] [] (c_checkPerson (show p < 16 by omega)) myX5_checkPerson syX5_checkPerson lm_RX5_51 rfl 0 0 ⟨Nat.le_of_ble_eq_true rfl, Nat.le_of_ble_eq_true rfl⟩ ⟨Nat.le_of_ble_eq_true rfl, Nat.le_of_ble_eq_true rfl, Nat.le_of_ble_eq_true rfl, Nat.le_of_ble_eq_true rfl⟩ rfl (am_lv_ref (hp_list _ _ _ hn hn10 (show l < n by omega)) (am_lv_ref (hp_main _ _ _) (am_lv_int (am_lv_int am_lv_nil)))) (Nat.le_of_ble_eq_true rfl) dX5_leave_7 [] rfl ?_
  refine am_go hF sgX5_leave_10_a2640 12 [(3, .ref (48 + l)), (0, .ref 0), (1, .int (nI l)), (2, .int (nI p))] [.int (nI p), .ref (48 + l)] sgX5_leave_10_a2640d rfl ?_
  refine am_dS hF hO [.ref (48 + l), .int (nI p)] [] (c_checkMember (T := T) hn hn10 (show l < n by omega) (show p < 16 by omega) hb) myX5_checkMember syX5_checkMember lm_RX5_90 rfl 0 0 ⟨Nat.le_of_ble_eq_true rfl, Nat.le_of_ble_eq_true rfl⟩ ⟨Nat.le_of_ble_eq_true rfl, Nat.le_of_ble_eq_true rfl, Nat.le_of_ble_eq_true rfl, Nat.le_of_ble_eq_true rfl⟩ rfl (am_lv_ref (hp_list _ _ _ hn hn10 (show l < n by omega)) (am_lv_ref (hp_main _ _ _) (am_lv_int (am_lv_int am_lv_nil)))) (Nat.le_of_ble_eq_true rfl) dX5_leave_12 [] rfl ?_
  refine am_go hF sgX5_leave_15_a2640 17 [(3, .ref (48 + l)), (0, .ref 0), (1, .int (nI l)), (2, .int (nI p))] [.int (nI p), .ref (48 + l)] sgX5_leave_15_a2640d rfl ?_
  refine am_dV hF hO [.int (nI p)] [] (c_memberMode (T := T) hn hn10 (show l < n by omega) (show p < 16 by omega)) myX2_memberMode vyX2_memberMode lm_RX5_94 (hp_list _ _ _ hn hn10 (show l < n by omega)) rfl rfl 0 0 ⟨Nat.le_of_ble_eq_true rfl, Nat.le_of_ble_eq_true rfl⟩ ⟨Nat.le_of_ble_eq_true rfl, Nat.le_of_ble_eq_true rfl, Nat.le_of_ble_eq_true rfl, Nat.le_of_ble_eq_true rfl⟩ rfl (am_lv_ref (hp_list _ _ _ hn hn10 (show l < n by omega)) (am_lv_ref (hp_main _ _ _) (am_lv_int (am_lv_int am_lv_nil)))) (Nat.le_of_ble_eq_true rfl) dX5_leave_17 [.int (zb (!bt (T 12 l) p))] rfl ?_
  refine am_go hF sgX5_leave_20_41ef2 24 [(4, .int (zb (!bt (T 12 l) p))), (3, .ref (48 + l)), (0, .ref 0), (1, .int (nI l)), (2, .int (nI p))] [.int (nI p), .ref (48 + l)] sgX5_leave_20_41ef2d rfl ?_
  refine am_dV hF hO [.int (nI p)] [] (c_dropMember (T := T) hn hn10 (show l < n by omega) (show p < 16 by omega)) myX2_dropMember vyX2_dropMember lm_RX5_97 (hp_list _ _ _ hn hn10 (show l < n by omega)) rfl rfl 0 0 ⟨Nat.le_of_ble_eq_true rfl, Nat.le_of_ble_eq_true rfl⟩ ⟨Nat.le_of_ble_eq_true rfl, Nat.le_of_ble_eq_true rfl, Nat.le_of_ble_eq_true rfl, Nat.le_of_ble_eq_true rfl⟩ rfl (am_lv_int (am_lv_ref (hp_list _ _ _ hn hn10 (show l < n by omega)) (am_lv_ref (hp_main _ _ _) (am_lv_int (am_lv_int am_lv_nil))))) (Nat.le_of_ble_eq_true rfl) dX5_leave_24 [] rfl ?_
  refine am_go hF sgX5_leave_27_c6742 29 [(4, .int (zb (!bt (T 12 l) p))), (3, .ref (48 + l)), (0, .ref 0), (1, .int (nI l)), (2, .int (nI p))] [.int (zb (!bt (T 12 l) p))] sgX5_leave_27_c6742d rfl ?_
  exact am_iret hF hO hret rfl dX5_leave_29 ⟨rfl, rfl⟩
set_option maxRecDepth 100000 in
set_option maxHeartbeats 4000000 in
theorem c_p_mode_1a {G : am_S} (hG : G.1.stackTraces = false) {T S : am_T} {o : Nat → Int64} {n : Nat} (hn : T 0 0 = nI n) (hn10 : n ≤ 10) {x : Int32} (hx : x < 0 ∨ nI n ≤ x) {y z : Int32} : am_XD G yX5_mode (.code yX5_mode cX5_mode 6 (some .int) :: am_G) { frames := 8, cells := 1, slots := 6, locals := 135 } (hp T S o) [.ref 0, .int x, .int y, .int z] am_E1 := by
  refine am_ofX (by decide +kernel) (Nat.le_of_ble_eq_true rfl) ?_
  intro C hse hret hname hF hX
  subst hse
  have hO := hX.1
  refine am_go hF sgX5_mode_0_8bcf7 2 [(0, .ref 0), (1, .int x), (2, .int y), (3, .int z)] [.int x, .ref 0] sgX5_mode_0_8bcf7d rfl ?_
  exact am_xV hF hX [.int x] [] (c_findList_x hG hn hn10 hx) myX5_findList vyX5_findList lm_RX5_64 (hp_main _ _ _) rfl rfl ⟨Nat.le_of_ble_eq_true rfl, Nat.le_of_ble_eq_true rfl, Nat.le_of_ble_eq_true rfl, Nat.le_of_ble_eq_true rfl⟩ rfl (Nat.le_of_ble_eq_true rfl) dX5_mode_2
set_option maxRecDepth 100000 in
set_option maxHeartbeats 4000000 in
theorem c_p_mode_1b {G : am_S} (hG : G.1.stackTraces = false) {T S : am_T} {o : Nat → Int64} {n : Nat} (hn : T 0 0 = nI n) (hn10 : n ≤ 10) {l : Nat} (hl : l < n) {y : Int32} (hy : y < 0 ∨ nI 16 ≤ y) {z : Int32} : am_XD G yX5_mode (.code yX5_mode cX5_mode 6 (some .int) :: am_G) { frames := 8, cells := 1, slots := 6, locals := 135 } (hp T S o) [.ref 0, .int (nI l), .int y, .int z] am_E1 := by
  refine am_ofX (by decide +kernel) (Nat.le_of_ble_eq_true rfl) ?_
  intro C hse hret hname hF hX
  subst hse
  have hO := hX.1
  refine am_go hF sgX5_mode_0_8bcf7 2 [(0, .ref 0), (1, .int (nI l)), (2, .int y), (3, .int z)] [.int (nI l), .ref 0] sgX5_mode_0_8bcf7d rfl ?_
  refine am_dV hF hO [.int (nI l)] [] (c_findList (T := T) hn hn10 (show l < n by omega)) myX5_findList vyX5_findList lm_RX5_64 (hp_main _ _ _) rfl rfl 0 0 ⟨Nat.le_of_ble_eq_true rfl, Nat.le_of_ble_eq_true rfl⟩ ⟨Nat.le_of_ble_eq_true rfl, Nat.le_of_ble_eq_true rfl, Nat.le_of_ble_eq_true rfl, Nat.le_of_ble_eq_true rfl⟩ rfl (am_lv_ref (hp_main _ _ _) (am_lv_int (am_lv_int (am_lv_int am_lv_nil)))) (Nat.le_of_ble_eq_true rfl) dX5_mode_2 [.ref (48 + l)] rfl ?_
  refine am_go hF sgX5_mode_5_72c52 8 [(4, .ref (48 + l)), (0, .ref 0), (1, .int (nI l)), (2, .int y), (3, .int z)] [.int y] sgX5_mode_5_72c52d rfl ?_
  exact am_xS hF hX [.int y] [] (c_checkPerson_x hG hy) myX5_checkPerson syX5_checkPerson lm_RX5_51 rfl ⟨Nat.le_of_ble_eq_true rfl, Nat.le_of_ble_eq_true rfl, Nat.le_of_ble_eq_true rfl, Nat.le_of_ble_eq_true rfl⟩ rfl (Nat.le_of_ble_eq_true rfl) dX5_mode_8
set_option maxRecDepth 100000 in
set_option maxHeartbeats 4000000 in
theorem c_p_mode_2 {G : am_S} (hG : G.1.stackTraces = false) {T S : am_T} {o : Nat → Int64} {n : Nat} (hn : T 0 0 = nI n) (hn10 : n ≤ 10) {l : Nat} (hl : l < n) {p : Nat} (hp9 : p < 16) {z : Int32} (hz : z ≠ 0 ∧ z ≠ 1) : am_XD G yX5_mode (.code yX5_mode cX5_mode 6 (some .int) :: am_G) { frames := 8, cells := 1, slots := 6, locals := 135 } (hp T S o) [.ref 0, .int (nI l), .int (nI p), .int z] am_E3 := by
  refine am_ofX (by decide +kernel) (Nat.le_of_ble_eq_true rfl) ?_
  intro C hse hret hname hF hX
  subst hse
  have hO := hX.1
  refine am_go hF sgX5_mode_0_8bcf7 2 [(0, .ref 0), (1, .int (nI l)), (2, .int (nI p)), (3, .int z)] [.int (nI l), .ref 0] sgX5_mode_0_8bcf7d rfl ?_
  refine am_dV hF hO [.int (nI l)] [] (c_findList (T := T) hn hn10 (show l < n by omega)) myX5_findList vyX5_findList lm_RX5_64 (hp_main _ _ _) rfl rfl 0 0 ⟨Nat.le_of_ble_eq_true rfl, Nat.le_of_ble_eq_true rfl⟩ ⟨Nat.le_of_ble_eq_true rfl, Nat.le_of_ble_eq_true rfl, Nat.le_of_ble_eq_true rfl, Nat.le_of_ble_eq_true rfl⟩ rfl (am_lv_ref (hp_main _ _ _) (am_lv_int (am_lv_int (am_lv_int am_lv_nil)))) (Nat.le_of_ble_eq_true rfl) dX5_mode_2 [.ref (48 + l)] rfl ?_
  refine am_go hF sgX5_mode_5_72c52 8 [(4, .ref (48 + l)), (0, .ref 0), (1, .int (nI l)), (2, .int (nI p)), (3, .int z)] [.int (nI p)] sgX5_mode_5_72c52d rfl ?_
  refine am_dS hF hO [.int (nI p)] [] (c_checkPerson (show p < 16 by omega)) myX5_checkPerson syX5_checkPerson lm_RX5_51 rfl 0 0 ⟨Nat.le_of_ble_eq_true rfl, Nat.le_of_ble_eq_true rfl⟩ ⟨Nat.le_of_ble_eq_true rfl, Nat.le_of_ble_eq_true rfl, Nat.le_of_ble_eq_true rfl, Nat.le_of_ble_eq_true rfl⟩ rfl (am_lv_ref (hp_list _ _ _ hn hn10 (show l < n by omega)) (am_lv_ref (hp_main _ _ _) (am_lv_int (am_lv_int (am_lv_int am_lv_nil))))) (Nat.le_of_ble_eq_true rfl) dX5_mode_8 [] rfl ?_
  refine am_go hF sgX5_mode_11_13b50 12 [(4, .ref (48 + l)), (0, .ref 0), (1, .int (nI l)), (2, .int (nI p)), (3, .int z)] [.int z] sgX5_mode_11_13b50d rfl ?_
  exact am_xS hF hX [.int z] [] (c_checkMode_x hG hz) myX5_checkMode syX5_checkMode lm_RX5_68 rfl ⟨Nat.le_of_ble_eq_true rfl, Nat.le_of_ble_eq_true rfl, Nat.le_of_ble_eq_true rfl, Nat.le_of_ble_eq_true rfl⟩ rfl (Nat.le_of_ble_eq_true rfl) dX5_mode_12
set_option maxRecDepth 100000 in
set_option maxHeartbeats 4000000 in
theorem c_p_mode_3 {G : am_S} (hG : G.1.stackTraces = false) {T S : am_T} {o : Nat → Int64} {n : Nat} (hn : T 0 0 = nI n) (hn10 : n ≤ 10) {l : Nat} (hl : l < n) {p : Nat} (hp9 : p < 16) {z : Int32} (hz : z = 0 ∨ z = 1) (hb : bt (T 11 l) p = false) : am_XD G yX5_mode (.code yX5_mode cX5_mode 6 (some .int) :: am_G) { frames := 8, cells := 1, slots := 6, locals := 135 } (hp T S o) [.ref 0, .int (nI l), .int (nI p), .int z] am_E2 := by
  refine am_ofX (by decide +kernel) (Nat.le_of_ble_eq_true rfl) ?_
  intro C hse hret hname hF hX
  subst hse
  have hO := hX.1
  refine am_go hF sgX5_mode_0_8bcf7 2 [(0, .ref 0), (1, .int (nI l)), (2, .int (nI p)), (3, .int z)] [.int (nI l), .ref 0] sgX5_mode_0_8bcf7d rfl ?_
  refine am_dV hF hO [.int (nI l)] [] (c_findList (T := T) hn hn10 (show l < n by omega)) myX5_findList vyX5_findList lm_RX5_64 (hp_main _ _ _) rfl rfl 0 0 ⟨Nat.le_of_ble_eq_true rfl, Nat.le_of_ble_eq_true rfl⟩ ⟨Nat.le_of_ble_eq_true rfl, Nat.le_of_ble_eq_true rfl, Nat.le_of_ble_eq_true rfl, Nat.le_of_ble_eq_true rfl⟩ rfl (am_lv_ref (hp_main _ _ _) (am_lv_int (am_lv_int (am_lv_int am_lv_nil)))) (Nat.le_of_ble_eq_true rfl) dX5_mode_2 [.ref (48 + l)] rfl ?_
  refine am_go hF sgX5_mode_5_72c52 8 [(4, .ref (48 + l)), (0, .ref 0), (1, .int (nI l)), (2, .int (nI p)), (3, .int z)] [.int (nI p)] sgX5_mode_5_72c52d rfl ?_
  refine am_dS hF hO [.int (nI p)] [] (c_checkPerson (show p < 16 by omega)) myX5_checkPerson syX5_checkPerson lm_RX5_51 rfl 0 0 ⟨Nat.le_of_ble_eq_true rfl, Nat.le_of_ble_eq_true rfl⟩ ⟨Nat.le_of_ble_eq_true rfl, Nat.le_of_ble_eq_true rfl, Nat.le_of_ble_eq_true rfl, Nat.le_of_ble_eq_true rfl⟩ rfl (am_lv_ref (hp_list _ _ _ hn hn10 (show l < n by omega)) (am_lv_ref (hp_main _ _ _) (am_lv_int (am_lv_int (am_lv_int am_lv_nil))))) (Nat.le_of_ble_eq_true rfl) dX5_mode_8 [] rfl ?_
  refine am_go hF sgX5_mode_11_13b50 12 [(4, .ref (48 + l)), (0, .ref 0), (1, .int (nI l)), (2, .int (nI p)), (3, .int z)] [.int z] sgX5_mode_11_13b50d rfl ?_
  refine am_dS hF hO [.int z] [] (c_checkMode hz) myX5_checkMode syX5_checkMode lm_RX5_68 rfl 0 0 ⟨Nat.le_of_ble_eq_true rfl, Nat.le_of_ble_eq_true rfl⟩ ⟨Nat.le_of_ble_eq_true rfl, Nat.le_of_ble_eq_true rfl, Nat.le_of_ble_eq_true rfl, Nat.le_of_ble_eq_true rfl⟩ rfl (am_lv_ref (hp_list _ _ _ hn hn10 (show l < n by omega)) (am_lv_ref (hp_main _ _ _) (am_lv_int (am_lv_int (am_lv_int am_lv_nil))))) (Nat.le_of_ble_eq_true rfl) dX5_mode_12 [] rfl ?_
  refine am_go hF sgX5_mode_15_c0efb 18 [(4, .ref (48 + l)), (0, .ref 0), (1, .int (nI l)), (2, .int (nI p)), (3, .int z)] [.int (nI p), .ref (48 + l)] sgX5_mode_15_c0efbd rfl ?_
  exact am_xS hF hX [.ref (48 + l), .int (nI p)] [] (c_checkMember_x hG hn hn10 (show l < n by omega) (show p < 16 by omega) hb) myX5_checkMember syX5_checkMember lm_RX5_90 rfl ⟨Nat.le_of_ble_eq_true rfl, Nat.le_of_ble_eq_true rfl, Nat.le_of_ble_eq_true rfl, Nat.le_of_ble_eq_true rfl⟩ rfl (Nat.le_of_ble_eq_true rfl) dX5_mode_18
set_option maxRecDepth 100000 in
set_option maxHeartbeats 4000000 in
theorem c_p_mode_n {G : am_S} {T S : am_T} {o : Nat → Int64} {n : Nat} (hn : T 0 0 = nI n) (hn10 : n ≤ 10) {l : Nat} (hl : l < n) {p : Nat} (hp9 : p < 16) {z : Int32} (hz : z = 0 ∨ z = 1) (hb : bt (T 11 l) p = true) : am_D G yX5_mode (.code yX5_mode cX5_mode 6 (some .int) :: am_G) { frames := 3, cells := 0, slots := 0, locals := 63 } (hp T S o) [.ref 0, .int (nI l), .int (nI p), .int z] (hp (tPut T l p z) S o) (some (.int (zb (!bt (T 12 l) p)))) := by
  refine am_of (by decide +kernel) (Nat.le_of_ble_eq_true rfl) ?_
  intro C hse hret hname hF hO
  subst hse
  refine am_go hF sgX5_mode_0_8bcf7 2 [(0, .ref 0), (1, .int (nI l)), (2, .int (nI p)), (3, .int z)] [.int (nI l), .ref 0] sgX5_mode_0_8bcf7d rfl ?_
  refine am_dV hF hO [.int (nI l)] [] (c_findList (T := T) hn hn10 (show l < n by omega)) myX5_findList vyX5_findList lm_RX5_64 (hp_main _ _ _) rfl rfl 0 0 ⟨Nat.le_of_ble_eq_true rfl, Nat.le_of_ble_eq_true rfl⟩ ⟨Nat.le_of_ble_eq_true rfl, Nat.le_of_ble_eq_true rfl, Nat.le_of_ble_eq_true rfl, Nat.le_of_ble_eq_true rfl⟩ rfl (am_lv_ref (hp_main _ _ _) (am_lv_int (am_lv_int (am_lv_int am_lv_nil)))) (Nat.le_of_ble_eq_true rfl) dX5_mode_2 [.ref (48 + l)] rfl ?_
  refine am_go hF sgX5_mode_5_72c52 8 [(4, .ref (48 + l)), (0, .ref 0), (1, .int (nI l)), (2, .int (nI p)), (3, .int z)] [.int (nI p)] sgX5_mode_5_72c52d rfl ?_
  refine am_dS hF hO [.int (nI p)] [] (c_checkPerson (show p < 16 by omega)) myX5_checkPerson syX5_checkPerson lm_RX5_51 rfl 0 0 ⟨Nat.le_of_ble_eq_true rfl, Nat.le_of_ble_eq_true rfl⟩ ⟨Nat.le_of_ble_eq_true rfl, Nat.le_of_ble_eq_true rfl, Nat.le_of_ble_eq_true rfl, Nat.le_of_ble_eq_true rfl⟩ rfl (am_lv_ref (hp_list _ _ _ hn hn10 (show l < n by omega)) (am_lv_ref (hp_main _ _ _) (am_lv_int (am_lv_int (am_lv_int am_lv_nil))))) (Nat.le_of_ble_eq_true rfl) dX5_mode_8 [] rfl ?_
  refine am_go hF sgX5_mode_11_13b50 12 [(4, .ref (48 + l)), (0, .ref 0), (1, .int (nI l)), (2, .int (nI p)), (3, .int z)] [.int z] sgX5_mode_11_13b50d rfl ?_
  refine am_dS hF hO [.int z] [] (c_checkMode hz) myX5_checkMode syX5_checkMode lm_RX5_68 rfl 0 0 ⟨Nat.le_of_ble_eq_true rfl, Nat.le_of_ble_eq_true rfl⟩ ⟨Nat.le_of_ble_eq_true rfl, Nat.le_of_ble_eq_true rfl, Nat.le_of_ble_eq_true rfl, Nat.le_of_ble_eq_true rfl⟩ rfl (am_lv_ref (hp_list _ _ _ hn hn10 (show l < n by omega)) (am_lv_ref (hp_main _ _ _) (am_lv_int (am_lv_int (am_lv_int am_lv_nil))))) (Nat.le_of_ble_eq_true rfl) dX5_mode_12 [] rfl ?_
  refine am_go hF sgX5_mode_15_c0efb 18 [(4, .ref (48 + l)), (0, .ref 0), (1, .int (nI l)), (2, .int (nI p)), (3, .int z)] [.int (nI p), .ref (48 + l)] sgX5_mode_15_c0efbd rfl ?_
  refine am_dS hF hO [.ref (48 + l), .int (nI p)] [] (c_checkMember (T := T) hn hn10 (show l < n by omega) (show p < 16 by omega) hb) myX5_checkMember syX5_checkMember lm_RX5_90 rfl 0 0 ⟨Nat.le_of_ble_eq_true rfl, Nat.le_of_ble_eq_true rfl⟩ ⟨Nat.le_of_ble_eq_true rfl, Nat.le_of_ble_eq_true rfl, Nat.le_of_ble_eq_true rfl, Nat.le_of_ble_eq_true rfl⟩ rfl (am_lv_ref (hp_list _ _ _ hn hn10 (show l < n by omega)) (am_lv_ref (hp_main _ _ _) (am_lv_int (am_lv_int (am_lv_int am_lv_nil))))) (Nat.le_of_ble_eq_true rfl) dX5_mode_18 [] rfl ?_
  refine am_go hF sgX5_mode_21_c0efb 24 [(4, .ref (48 + l)), (0, .ref 0), (1, .int (nI l)), (2, .int (nI p)), (3, .int z)] [.int (nI p), .ref (48 + l)] sgX5_mode_21_c0efbd rfl ?_
  refine am_dV hF hO [.int (nI p)] [] (c_memberMode (T := T) hn hn10 (show l < n by omega) (show p < 16 by omega)) myX2_memberMode vyX2_memberMode lm_RX5_94 (hp_list _ _ _ hn hn10 (show l < n by omega)) rfl rfl 0 0 ⟨Nat.le_of_ble_eq_true rfl, Nat.le_of_ble_eq_true rfl⟩ ⟨Nat.le_of_ble_eq_true rfl, Nat.le_of_ble_eq_true rfl, Nat.le_of_ble_eq_true rfl, Nat.le_of_ble_eq_true rfl⟩ rfl (am_lv_ref (hp_list _ _ _ hn hn10 (show l < n by omega)) (am_lv_ref (hp_main _ _ _) (am_lv_int (am_lv_int (am_lv_int am_lv_nil))))) (Nat.le_of_ble_eq_true rfl) dX5_mode_24 [.int (zb (!bt (T 12 l) p))] rfl ?_
  refine am_go hF sgX5_mode_27_8b5c1 33 [(5, .int (zb (!bt (T 12 l) p))), (4, .ref (48 + l)), (0, .ref 0), (1, .int (nI l)), (2, .int (nI p)), (3, .int z)] [.int z, .int (nI p), .ref (48 + l)] sgX5_mode_27_8b5c1d rfl ?_
  refine am_dV hF hO [.int (nI p), .int z] [] (c_putMember (T := T) hn hn10 (show l < n by omega) (show p < 16 by omega)) myX2_putMember vyX2_putMember lm_RX5_77 (hp_list _ _ _ hn hn10 (show l < n by omega)) rfl rfl 0 0 ⟨Nat.le_of_ble_eq_true rfl, Nat.le_of_ble_eq_true rfl⟩ ⟨Nat.le_of_ble_eq_true rfl, Nat.le_of_ble_eq_true rfl, Nat.le_of_ble_eq_true rfl, Nat.le_of_ble_eq_true rfl⟩ rfl (am_lv_int (am_lv_ref (hp_list _ _ _ hn hn10 (show l < n by omega)) (am_lv_ref (hp_main _ _ _) (am_lv_int (am_lv_int (am_lv_int am_lv_nil)))))) (Nat.le_of_ble_eq_true rfl) dX5_mode_33 [] rfl ?_
  refine am_go hF sgX5_mode_36_9df92 38 [(5, .int (zb (!bt (T 12 l) p))), (4, .ref (48 + l)), (0, .ref 0), (1, .int (nI l)), (2, .int (nI p)), (3, .int z)] [.int (zb (!bt (T 12 l) p))] sgX5_mode_36_9df92d rfl ?_
  exact am_iret hF hO hret rfl dX5_mode_38 ⟨rfl, rfl⟩
set_option maxRecDepth 100000 in
set_option maxHeartbeats 4000000 in
theorem c_p_nest_1a {G : am_S} (hG : G.1.stackTraces = false) {T S : am_T} {o : Nat → Int64} {n : Nat} (hn : T 0 0 = nI n) (hn10 : n ≤ 10) {x : Int32} (hx : x < 0 ∨ nI n ≤ x) {y : Int32} : am_XD G yX5_nest (.code yX5_nest cX5_nest 5 (some .boolean) :: am_G) { frames := 8, cells := 1, slots := 6, locals := 135 } (hp T S o) [.ref 0, .int x, .int y] am_E1 := by
  refine am_ofX (by decide +kernel) (Nat.le_of_ble_eq_true rfl) ?_
  intro C hse hret hname hF hX
  subst hse
  have hO := hX.1
  refine am_go hF sgX5_nest_0_8bcf7 2 [(0, .ref 0), (1, .int x), (2, .int y)] [.int x, .ref 0] sgX5_nest_0_8bcf7d rfl ?_
  exact am_xV hF hX [.int x] [] (c_findList_x hG hn hn10 hx) myX5_findList vyX5_findList lm_RX5_64 (hp_main _ _ _) rfl rfl ⟨Nat.le_of_ble_eq_true rfl, Nat.le_of_ble_eq_true rfl, Nat.le_of_ble_eq_true rfl, Nat.le_of_ble_eq_true rfl⟩ rfl (Nat.le_of_ble_eq_true rfl) dX5_nest_2
set_option maxRecDepth 100000 in
set_option maxHeartbeats 4000000 in
theorem c_p_nest_1b {G : am_S} (hG : G.1.stackTraces = false) {T S : am_T} {o : Nat → Int64} {n : Nat} (hn : T 0 0 = nI n) (hn10 : n ≤ 10) {l : Nat} (hl : l < n) {y : Int32} (hy : y < 0 ∨ nI n ≤ y) : am_XD G yX5_nest (.code yX5_nest cX5_nest 5 (some .boolean) :: am_G) { frames := 8, cells := 1, slots := 6, locals := 135 } (hp T S o) [.ref 0, .int (nI l), .int y] am_E1 := by
  refine am_ofX (by decide +kernel) (Nat.le_of_ble_eq_true rfl) ?_
  intro C hse hret hname hF hX
  subst hse
  have hO := hX.1
  refine am_go hF sgX5_nest_0_8bcf7 2 [(0, .ref 0), (1, .int (nI l)), (2, .int y)] [.int (nI l), .ref 0] sgX5_nest_0_8bcf7d rfl ?_
  refine am_dV hF hO [.int (nI l)] [] (c_findList (T := T) hn hn10 (show l < n by omega)) myX5_findList vyX5_findList lm_RX5_64 (hp_main _ _ _) rfl rfl 0 0 ⟨Nat.le_of_ble_eq_true rfl, Nat.le_of_ble_eq_true rfl⟩ ⟨Nat.le_of_ble_eq_true rfl, Nat.le_of_ble_eq_true rfl, Nat.le_of_ble_eq_true rfl, Nat.le_of_ble_eq_true rfl⟩ rfl (am_lv_ref (hp_main _ _ _) (am_lv_int (am_lv_int am_lv_nil))) (Nat.le_of_ble_eq_true rfl) dX5_nest_2 [.ref (48 + l)] rfl ?_
  refine am_go hF sgX5_nest_5_c290a 8 [(3, .ref (48 + l)), (0, .ref 0), (1, .int (nI l)), (2, .int y)] [.int y, .ref 0] sgX5_nest_5_c290ad rfl ?_
  exact am_xV hF hX [.int y] [] (c_findList_x hG hn hn10 hy) myX5_findList vyX5_findList lm_RX5_64 (hp_main _ _ _) rfl rfl ⟨Nat.le_of_ble_eq_true rfl, Nat.le_of_ble_eq_true rfl, Nat.le_of_ble_eq_true rfl, Nat.le_of_ble_eq_true rfl⟩ rfl (Nat.le_of_ble_eq_true rfl) dX5_nest_8
set_option maxRecDepth 100000 in
set_option maxHeartbeats 4000000 in
theorem c_p_nest_2 {G : am_S} (hG : G.1.stackTraces = false) {T S : am_T} {o : Nat → Int64} {n : Nat} (hn : T 0 0 = nI n) (hn10 : n ≤ 10) {l : Nat} (hl : l < n) {q : Nat} (hq : q < n) (hb : bt (T 13 l) q = false) (hd : bt (tDown T n q) l = true) : am_XD G yX5_nest (.code yX5_nest cX5_nest 5 (some .boolean) :: am_G) { frames := 8, cells := 1, slots := 6, locals := 135 } (hp T S o) [.ref 0, .int (nI l), .int (nI q)] am_E3 := by
  refine am_ofX (by decide +kernel) (Nat.le_of_ble_eq_true rfl) ?_
  intro C hse hret hname hF hX
  subst hse
  have hO := hX.1
  refine am_go hF sgX5_nest_0_8bcf7 2 [(0, .ref 0), (1, .int (nI l)), (2, .int (nI q))] [.int (nI l), .ref 0] sgX5_nest_0_8bcf7d rfl ?_
  refine am_dV hF hO [.int (nI l)] [] (c_findList (T := T) hn hn10 (show l < n by omega)) myX5_findList vyX5_findList lm_RX5_64 (hp_main _ _ _) rfl rfl 0 0 ⟨Nat.le_of_ble_eq_true rfl, Nat.le_of_ble_eq_true rfl⟩ ⟨Nat.le_of_ble_eq_true rfl, Nat.le_of_ble_eq_true rfl, Nat.le_of_ble_eq_true rfl, Nat.le_of_ble_eq_true rfl⟩ rfl (am_lv_ref (hp_main _ _ _) (am_lv_int (am_lv_int am_lv_nil))) (Nat.le_of_ble_eq_true rfl) dX5_nest_2 [.ref (48 + l)] rfl ?_
  refine am_go hF sgX5_nest_5_c290a 8 [(3, .ref (48 + l)), (0, .ref 0), (1, .int (nI l)), (2, .int (nI q))] [.int (nI q), .ref 0] sgX5_nest_5_c290ad rfl ?_
  refine am_dV hF hO [.int (nI q)] [] (c_findList (T := T) hn hn10 (show q < n by omega)) myX5_findList vyX5_findList lm_RX5_64 (hp_main _ _ _) rfl rfl 0 0 ⟨Nat.le_of_ble_eq_true rfl, Nat.le_of_ble_eq_true rfl⟩ ⟨Nat.le_of_ble_eq_true rfl, Nat.le_of_ble_eq_true rfl, Nat.le_of_ble_eq_true rfl, Nat.le_of_ble_eq_true rfl⟩ rfl (am_lv_ref (hp_list _ _ _ hn hn10 (show l < n by omega)) (am_lv_ref (hp_main _ _ _) (am_lv_int (am_lv_int am_lv_nil)))) (Nat.le_of_ble_eq_true rfl) dX5_nest_8 [.ref (48 + q)] rfl ?_
  refine am_go hF sgX5_nest_11_e6924 13 [(3, .ref (48 + l)), (0, .ref 0), (1, .int (nI l)), (2, .int (nI q))] [.ref (48 + l)] sgX5_nest_11_e6924d rfl ?_
  refine am_getf hF (hp_list T S o hn hn10 (show l < n by omega)) (T := TX2) (N := 8) rfl (inG 2 inG2) 3 (by decide) (List.mem_cons_of_mem _ lf_RX5_100) rfl (.int (T 13 l)) rfl dX5_nest_13 ?_
  refine am_go hF sgX5_nest_16_f8a59 17 [(3, .ref (48 + l)), (0, .ref 0), (1, .int (nI l)), (2, .int (nI q))] [.int (nI q), .int (T 13 l)] sgX5_nest_16_f8a59d rfl ?_
  refine am_dS hF hO [.int (T 13 l), .int (nI q)] [] (c_contains (show q < 32 by omega)) myX5_contains syX5_contains lm_RX5_103 rfl 0 0 ⟨Nat.le_of_ble_eq_true rfl, Nat.le_of_ble_eq_true rfl⟩ ⟨Nat.le_of_ble_eq_true rfl, Nat.le_of_ble_eq_true rfl, Nat.le_of_ble_eq_true rfl, Nat.le_of_ble_eq_true rfl⟩ rfl (am_lv_ref (hp_list _ _ _ hn hn10 (show l < n by omega)) (am_lv_ref (hp_main _ _ _) (am_lv_int (am_lv_int am_lv_nil)))) (Nat.le_of_ble_eq_true rfl) dX5_nest_17 [.int (zb (bt (T 13 l) q))] rfl ?_
  refine am_go hF sgX5_nest_20_caea3 24 [(4, .int (zb (bt (T 13 l) q))), (3, .ref (48 + l)), (0, .ref 0), (1, .int (nI l)), (2, .int (nI q))] [.int (zb (bt (T 13 l) q))] sgX5_nest_20_caea3d rfl ?_
  refine am_ifne hF 49 dX5_nest_24 (by decide) (fun c1 => ?_) (fun c1 => ?_)
  · skip
    replace c1 := zb_p.mp c1
    exact absurd (hb.symm.trans c1) (by decide)
  · skip
    replace c1 := zb_0.mp c1
    refine am_go hF sgX5_nest_27_78e74 29 [(4, .int (zb (bt (T 13 l) q))), (3, .ref (48 + l)), (0, .ref 0), (1, .int (nI l)), (2, .int (nI q))] [.int (nI q), .ref 0] sgX5_nest_27_78e74d rfl ?_
    refine am_dV hF hO [.int (nI q)] [] (c_listsDown (T := T) hn hn10 (show q < n by omega)) myX5_listsDown vyX5_listsDown lm_RX5_107 (hp_main _ _ _) rfl rfl 0 0 ⟨Nat.le_of_ble_eq_true rfl, Nat.le_of_ble_eq_true rfl⟩ ⟨Nat.le_of_ble_eq_true rfl, Nat.le_of_ble_eq_true rfl, Nat.le_of_ble_eq_true rfl, Nat.le_of_ble_eq_true rfl⟩ rfl (am_lv_int (am_lv_ref (hp_list _ _ _ hn hn10 (show l < n by omega)) (am_lv_ref (hp_main _ _ _) (am_lv_int (am_lv_int am_lv_nil))))) (Nat.le_of_ble_eq_true rfl) dX5_nest_29 [.int (tDown T n q)] rfl ?_
    refine am_go hF sgX5_nest_32_840bf 33 [(4, .int (zb (bt (T 13 l) q))), (3, .ref (48 + l)), (0, .ref 0), (1, .int (nI l)), (2, .int (nI q))] [.int (nI l), .int (tDown T n q)] sgX5_nest_32_840bfd rfl ?_
    refine am_dS hF hO [.int (tDown T n q), .int (nI l)] [] (c_contains (show l < 32 by omega)) myX5_contains syX5_contains lm_RX5_103 rfl 0 0 ⟨Nat.le_of_ble_eq_true rfl, Nat.le_of_ble_eq_true rfl⟩ ⟨Nat.le_of_ble_eq_true rfl, Nat.le_of_ble_eq_true rfl, Nat.le_of_ble_eq_true rfl, Nat.le_of_ble_eq_true rfl⟩ rfl (am_lv_int (am_lv_ref (hp_list _ _ _ hn hn10 (show l < n by omega)) (am_lv_ref (hp_main _ _ _) (am_lv_int (am_lv_int am_lv_nil))))) (Nat.le_of_ble_eq_true rfl) dX5_nest_33 [.int (zb (bt (tDown T n q) l))] rfl ?_
    refine am_ifeq hF 49 dX5_nest_36 (by decide) (fun c2 => ?_) (fun c2 => ?_)
    · skip
      replace c2 := zb_0.mp c2
      exact absurd (hd.symm.trans c2) (by decide)
    · skip
      replace c2 := zb_p.mp c2
      exact am_throwS hF hX hG (is := 112) (text := "the list would be in itself") am_nm (by decide +kernel) am_nm_fit lc_RX5_110 xz3 (by decide) xa3 xg3 dX5_nest_39 dX5_nest_42 dX5_nest_43 dX5_nest_45 dX5_nest_48 ⟨Nat.le_of_ble_eq_true rfl, Nat.le_of_ble_eq_true rfl, Nat.le_of_ble_eq_true rfl, Nat.le_of_ble_eq_true rfl⟩
set_option maxRecDepth 100000 in
set_option maxHeartbeats 4000000 in
theorem c_p_nest_n1 {G : am_S} {T S : am_T} {o : Nat → Int64} {n : Nat} (hn : T 0 0 = nI n) (hn10 : n ≤ 10) {l : Nat} (hl : l < n) {q : Nat} (hq : q < n) (hb : bt (T 13 l) q = true) : am_D G yX5_nest (.code yX5_nest cX5_nest 5 (some .boolean) :: am_G) { frames := 2, cells := 0, slots := 0, locals := 45 } (hp T S o) [.ref 0, .int (nI l), .int (nI q)] (hp (st1 T 13 l ((T 13 l) ^^^ ((1 : Int32) <<< (nI q &&& 31)))) S o) (some (.int 0)) := by
  refine am_of (by decide +kernel) (Nat.le_of_ble_eq_true rfl) ?_
  intro C hse hret hname hF hO
  subst hse
  refine am_go hF sgX5_nest_0_8bcf7 2 [(0, .ref 0), (1, .int (nI l)), (2, .int (nI q))] [.int (nI l), .ref 0] sgX5_nest_0_8bcf7d rfl ?_
  refine am_dV hF hO [.int (nI l)] [] (c_findList (T := T) hn hn10 (show l < n by omega)) myX5_findList vyX5_findList lm_RX5_64 (hp_main _ _ _) rfl rfl 0 0 ⟨Nat.le_of_ble_eq_true rfl, Nat.le_of_ble_eq_true rfl⟩ ⟨Nat.le_of_ble_eq_true rfl, Nat.le_of_ble_eq_true rfl, Nat.le_of_ble_eq_true rfl, Nat.le_of_ble_eq_true rfl⟩ rfl (am_lv_ref (hp_main _ _ _) (am_lv_int (am_lv_int am_lv_nil))) (Nat.le_of_ble_eq_true rfl) dX5_nest_2 [.ref (48 + l)] rfl ?_
  refine am_go hF sgX5_nest_5_c290a 8 [(3, .ref (48 + l)), (0, .ref 0), (1, .int (nI l)), (2, .int (nI q))] [.int (nI q), .ref 0] sgX5_nest_5_c290ad rfl ?_
  refine am_dV hF hO [.int (nI q)] [] (c_findList (T := T) hn hn10 (show q < n by omega)) myX5_findList vyX5_findList lm_RX5_64 (hp_main _ _ _) rfl rfl 0 0 ⟨Nat.le_of_ble_eq_true rfl, Nat.le_of_ble_eq_true rfl⟩ ⟨Nat.le_of_ble_eq_true rfl, Nat.le_of_ble_eq_true rfl, Nat.le_of_ble_eq_true rfl, Nat.le_of_ble_eq_true rfl⟩ rfl (am_lv_ref (hp_list _ _ _ hn hn10 (show l < n by omega)) (am_lv_ref (hp_main _ _ _) (am_lv_int (am_lv_int am_lv_nil)))) (Nat.le_of_ble_eq_true rfl) dX5_nest_8 [.ref (48 + q)] rfl ?_
  refine am_go hF sgX5_nest_11_e6924 13 [(3, .ref (48 + l)), (0, .ref 0), (1, .int (nI l)), (2, .int (nI q))] [.ref (48 + l)] sgX5_nest_11_e6924d rfl ?_
  refine am_getf hF (hp_list T S o hn hn10 (show l < n by omega)) (T := TX2) (N := 8) rfl (inG 2 inG2) 3 (by decide) (List.mem_cons_of_mem _ lf_RX5_100) rfl (.int (T 13 l)) rfl dX5_nest_13 ?_
  refine am_go hF sgX5_nest_16_f8a59 17 [(3, .ref (48 + l)), (0, .ref 0), (1, .int (nI l)), (2, .int (nI q))] [.int (nI q), .int (T 13 l)] sgX5_nest_16_f8a59d rfl ?_
  refine am_dS hF hO [.int (T 13 l), .int (nI q)] [] (c_contains (show q < 32 by omega)) myX5_contains syX5_contains lm_RX5_103 rfl 0 0 ⟨Nat.le_of_ble_eq_true rfl, Nat.le_of_ble_eq_true rfl⟩ ⟨Nat.le_of_ble_eq_true rfl, Nat.le_of_ble_eq_true rfl, Nat.le_of_ble_eq_true rfl, Nat.le_of_ble_eq_true rfl⟩ rfl (am_lv_ref (hp_list _ _ _ hn hn10 (show l < n by omega)) (am_lv_ref (hp_main _ _ _) (am_lv_int (am_lv_int am_lv_nil)))) (Nat.le_of_ble_eq_true rfl) dX5_nest_17 [.int (zb (bt (T 13 l) q))] rfl ?_
  refine am_go hF sgX5_nest_20_caea3 24 [(4, .int (zb (bt (T 13 l) q))), (3, .ref (48 + l)), (0, .ref 0), (1, .int (nI l)), (2, .int (nI q))] [.int (zb (bt (T 13 l) q))] sgX5_nest_20_caea3d rfl ?_
  refine am_ifne hF 49 dX5_nest_24 (by decide) (fun c1 => ?_) (fun c1 => ?_)
  · skip
    replace c1 := zb_p.mp c1
    refine am_go hF sgX5_nest_49_1f854 51 [(4, .int (zb (bt (T 13 l) q))), (3, .ref (48 + l)), (0, .ref 0), (1, .int (nI l)), (2, .int (nI q))] [.ref (48 + l), .ref (48 + l)] sgX5_nest_49_1f854d rfl ?_
    refine am_getf hF (hp_list T S o hn hn10 (show l < n by omega)) (T := TX2) (N := 8) rfl (inG 2 inG2) 3 (by decide) (List.mem_cons_of_mem _ lf_RX5_100) rfl (.int (T 13 l)) rfl dX5_nest_51 ?_
    refine am_go hF sgX5_nest_54_f8a59 55 [(4, .int (zb (bt (T 13 l) q))), (3, .ref (48 + l)), (0, .ref 0), (1, .int (nI l)), (2, .int (nI q))] [.int (nI q), .int (T 13 l), .ref (48 + l)] sgX5_nest_54_f8a59d rfl ?_
    refine am_dS hF hO [.int (nI q)] [.int (T 13 l), .ref (48 + l)] (c_bit) myX5_bit syX5_bit lm_RX5_115 rfl 0 0 ⟨Nat.le_of_ble_eq_true rfl, Nat.le_of_ble_eq_true rfl⟩ ⟨Nat.le_of_ble_eq_true rfl, Nat.le_of_ble_eq_true rfl, Nat.le_of_ble_eq_true rfl, Nat.le_of_ble_eq_true rfl⟩ rfl (am_lv_int (am_lv_ref (hp_list _ _ _ hn hn10 (show l < n by omega)) (am_lv_ref (hp_main _ _ _) (am_lv_int (am_lv_int (am_lv_int (am_lv_ref (hp_list _ _ _ hn hn10 (show l < n by omega)) am_lv_nil))))))) (Nat.le_of_ble_eq_true rfl) dX5_nest_55 [.int ((1 : Int32) <<< (nI q &&& 31)), .int (T 13 l), .ref (48 + l)] rfl ?_
    refine am_go hF sgX5_nest_58_a83c7 59 [(4, .int (zb (bt (T 13 l) q))), (3, .ref (48 + l)), (0, .ref 0), (1, .int (nI l)), (2, .int (nI q))] [.int ((T 13 l) ^^^ ((1 : Int32) <<< (nI q &&& 31))), .ref (48 + l)] sgX5_nest_58_a83c7d rfl ?_
    refine am_putf hF (hp_list T S o hn hn10 (show l < n by omega)) (T := TX2) (N := 8) rfl (inG 2 inG2) tyX2 tyX2_ok nmX2 3 (by decide) (List.mem_cons_of_mem _ lf_RX5_100) rfl (Or.inl rfl) rfl rfl (Nat.le_of_ble_eq_true rfl) dX5_nest_59 ?_
    refine am_eqX (hp (st1 T 13 l ((T 13 l) ^^^ ((1 : Int32) <<< (nI q &&& 31)))) S o) (hp_s13 (T := T) hn hn10 (show l < n by omega) ((T 13 l) ^^^ ((1 : Int32) <<< (nI q &&& 31)))) ?_
    refine am_go hF sgX5_nest_62_c6742 64 [(4, .int (zb (bt (T 13 l) q))), (3, .ref (48 + l)), (0, .ref 0), (1, .int (nI l)), (2, .int (nI q))] [.int (zb (bt (T 13 l) q))] sgX5_nest_62_c6742d rfl ?_
    refine am_ifne hF 71 dX5_nest_64 (by decide) (fun c2 => ?_) (fun c2 => ?_)
    · skip
      replace c2 := zb_p.mp c2
      refine am_go hF sgX5_nest_71_56c54 72 [(4, .int (zb (bt (T 13 l) q))), (3, .ref (48 + l)), (0, .ref 0), (1, .int (nI l)), (2, .int (nI q))] [.int 0] sgX5_nest_71_56c54d rfl ?_
      exact am_iret hF hO hret rfl dX5_nest_72 ⟨rfl, rfl⟩
    · skip
      replace c2 := zb_0.mp c2
      exact absurd (hb.symm.trans c2) (by decide)
  · skip
    replace c1 := zb_0.mp c1
    exact absurd (hb.symm.trans c1) (by decide)
set_option maxRecDepth 100000 in
set_option maxHeartbeats 4000000 in
theorem c_p_nest_n0 {G : am_S} {T S : am_T} {o : Nat → Int64} {n : Nat} (hn : T 0 0 = nI n) (hn10 : n ≤ 10) {l : Nat} (hl : l < n) {q : Nat} (hq : q < n) (hb : bt (T 13 l) q = false) (hd : bt (tDown T n q) l = false) : am_D G yX5_nest (.code yX5_nest cX5_nest 5 (some .boolean) :: am_G) { frames := 2, cells := 0, slots := 0, locals := 45 } (hp T S o) [.ref 0, .int (nI l), .int (nI q)] (hp (st1 T 13 l ((T 13 l) ^^^ ((1 : Int32) <<< (nI q &&& 31)))) S o) (some (.int 1)) := by
  refine am_of (by decide +kernel) (Nat.le_of_ble_eq_true rfl) ?_
  intro C hse hret hname hF hO
  subst hse
  refine am_go hF sgX5_nest_0_8bcf7 2 [(0, .ref 0), (1, .int (nI l)), (2, .int (nI q))] [.int (nI l), .ref 0] sgX5_nest_0_8bcf7d rfl ?_
  refine am_dV hF hO [.int (nI l)] [] (c_findList (T := T) hn hn10 (show l < n by omega)) myX5_findList vyX5_findList lm_RX5_64 (hp_main _ _ _) rfl rfl 0 0 ⟨Nat.le_of_ble_eq_true rfl, Nat.le_of_ble_eq_true rfl⟩ ⟨Nat.le_of_ble_eq_true rfl, Nat.le_of_ble_eq_true rfl, Nat.le_of_ble_eq_true rfl, Nat.le_of_ble_eq_true rfl⟩ rfl (am_lv_ref (hp_main _ _ _) (am_lv_int (am_lv_int am_lv_nil))) (Nat.le_of_ble_eq_true rfl) dX5_nest_2 [.ref (48 + l)] rfl ?_
  refine am_go hF sgX5_nest_5_c290a 8 [(3, .ref (48 + l)), (0, .ref 0), (1, .int (nI l)), (2, .int (nI q))] [.int (nI q), .ref 0] sgX5_nest_5_c290ad rfl ?_
  refine am_dV hF hO [.int (nI q)] [] (c_findList (T := T) hn hn10 (show q < n by omega)) myX5_findList vyX5_findList lm_RX5_64 (hp_main _ _ _) rfl rfl 0 0 ⟨Nat.le_of_ble_eq_true rfl, Nat.le_of_ble_eq_true rfl⟩ ⟨Nat.le_of_ble_eq_true rfl, Nat.le_of_ble_eq_true rfl, Nat.le_of_ble_eq_true rfl, Nat.le_of_ble_eq_true rfl⟩ rfl (am_lv_ref (hp_list _ _ _ hn hn10 (show l < n by omega)) (am_lv_ref (hp_main _ _ _) (am_lv_int (am_lv_int am_lv_nil)))) (Nat.le_of_ble_eq_true rfl) dX5_nest_8 [.ref (48 + q)] rfl ?_
  refine am_go hF sgX5_nest_11_e6924 13 [(3, .ref (48 + l)), (0, .ref 0), (1, .int (nI l)), (2, .int (nI q))] [.ref (48 + l)] sgX5_nest_11_e6924d rfl ?_
  refine am_getf hF (hp_list T S o hn hn10 (show l < n by omega)) (T := TX2) (N := 8) rfl (inG 2 inG2) 3 (by decide) (List.mem_cons_of_mem _ lf_RX5_100) rfl (.int (T 13 l)) rfl dX5_nest_13 ?_
  refine am_go hF sgX5_nest_16_f8a59 17 [(3, .ref (48 + l)), (0, .ref 0), (1, .int (nI l)), (2, .int (nI q))] [.int (nI q), .int (T 13 l)] sgX5_nest_16_f8a59d rfl ?_
  refine am_dS hF hO [.int (T 13 l), .int (nI q)] [] (c_contains (show q < 32 by omega)) myX5_contains syX5_contains lm_RX5_103 rfl 0 0 ⟨Nat.le_of_ble_eq_true rfl, Nat.le_of_ble_eq_true rfl⟩ ⟨Nat.le_of_ble_eq_true rfl, Nat.le_of_ble_eq_true rfl, Nat.le_of_ble_eq_true rfl, Nat.le_of_ble_eq_true rfl⟩ rfl (am_lv_ref (hp_list _ _ _ hn hn10 (show l < n by omega)) (am_lv_ref (hp_main _ _ _) (am_lv_int (am_lv_int am_lv_nil)))) (Nat.le_of_ble_eq_true rfl) dX5_nest_17 [.int (zb (bt (T 13 l) q))] rfl ?_
  refine am_go hF sgX5_nest_20_caea3 24 [(4, .int (zb (bt (T 13 l) q))), (3, .ref (48 + l)), (0, .ref 0), (1, .int (nI l)), (2, .int (nI q))] [.int (zb (bt (T 13 l) q))] sgX5_nest_20_caea3d rfl ?_
  refine am_ifne hF 49 dX5_nest_24 (by decide) (fun c1 => ?_) (fun c1 => ?_)
  · skip
    replace c1 := zb_p.mp c1
    exact absurd (hb.symm.trans c1) (by decide)
  · skip
    replace c1 := zb_0.mp c1
    refine am_go hF sgX5_nest_27_78e74 29 [(4, .int (zb (bt (T 13 l) q))), (3, .ref (48 + l)), (0, .ref 0), (1, .int (nI l)), (2, .int (nI q))] [.int (nI q), .ref 0] sgX5_nest_27_78e74d rfl ?_
    refine am_dV hF hO [.int (nI q)] [] (c_listsDown (T := T) hn hn10 (show q < n by omega)) myX5_listsDown vyX5_listsDown lm_RX5_107 (hp_main _ _ _) rfl rfl 0 0 ⟨Nat.le_of_ble_eq_true rfl, Nat.le_of_ble_eq_true rfl⟩ ⟨Nat.le_of_ble_eq_true rfl, Nat.le_of_ble_eq_true rfl, Nat.le_of_ble_eq_true rfl, Nat.le_of_ble_eq_true rfl⟩ rfl (am_lv_int (am_lv_ref (hp_list _ _ _ hn hn10 (show l < n by omega)) (am_lv_ref (hp_main _ _ _) (am_lv_int (am_lv_int am_lv_nil))))) (Nat.le_of_ble_eq_true rfl) dX5_nest_29 [.int (tDown T n q)] rfl ?_
    refine am_go hF sgX5_nest_32_840bf 33 [(4, .int (zb (bt (T 13 l) q))), (3, .ref (48 + l)), (0, .ref 0), (1, .int (nI l)), (2, .int (nI q))] [.int (nI l), .int (tDown T n q)] sgX5_nest_32_840bfd rfl ?_
    refine am_dS hF hO [.int (tDown T n q), .int (nI l)] [] (c_contains (show l < 32 by omega)) myX5_contains syX5_contains lm_RX5_103 rfl 0 0 ⟨Nat.le_of_ble_eq_true rfl, Nat.le_of_ble_eq_true rfl⟩ ⟨Nat.le_of_ble_eq_true rfl, Nat.le_of_ble_eq_true rfl, Nat.le_of_ble_eq_true rfl, Nat.le_of_ble_eq_true rfl⟩ rfl (am_lv_int (am_lv_ref (hp_list _ _ _ hn hn10 (show l < n by omega)) (am_lv_ref (hp_main _ _ _) (am_lv_int (am_lv_int am_lv_nil))))) (Nat.le_of_ble_eq_true rfl) dX5_nest_33 [.int (zb (bt (tDown T n q) l))] rfl ?_
    refine am_ifeq hF 49 dX5_nest_36 (by decide) (fun c2 => ?_) (fun c2 => ?_)
    · skip
      replace c2 := zb_0.mp c2
      refine am_go hF sgX5_nest_49_1f854 51 [(4, .int (zb (bt (T 13 l) q))), (3, .ref (48 + l)), (0, .ref 0), (1, .int (nI l)), (2, .int (nI q))] [.ref (48 + l), .ref (48 + l)] sgX5_nest_49_1f854d rfl ?_
      refine am_getf hF (hp_list T S o hn hn10 (show l < n by omega)) (T := TX2) (N := 8) rfl (inG 2 inG2) 3 (by decide) (List.mem_cons_of_mem _ lf_RX5_100) rfl (.int (T 13 l)) rfl dX5_nest_51 ?_
      refine am_go hF sgX5_nest_54_f8a59 55 [(4, .int (zb (bt (T 13 l) q))), (3, .ref (48 + l)), (0, .ref 0), (1, .int (nI l)), (2, .int (nI q))] [.int (nI q), .int (T 13 l), .ref (48 + l)] sgX5_nest_54_f8a59d rfl ?_
      refine am_dS hF hO [.int (nI q)] [.int (T 13 l), .ref (48 + l)] (c_bit) myX5_bit syX5_bit lm_RX5_115 rfl 0 0 ⟨Nat.le_of_ble_eq_true rfl, Nat.le_of_ble_eq_true rfl⟩ ⟨Nat.le_of_ble_eq_true rfl, Nat.le_of_ble_eq_true rfl, Nat.le_of_ble_eq_true rfl, Nat.le_of_ble_eq_true rfl⟩ rfl (am_lv_int (am_lv_ref (hp_list _ _ _ hn hn10 (show l < n by omega)) (am_lv_ref (hp_main _ _ _) (am_lv_int (am_lv_int (am_lv_int (am_lv_ref (hp_list _ _ _ hn hn10 (show l < n by omega)) am_lv_nil))))))) (Nat.le_of_ble_eq_true rfl) dX5_nest_55 [.int ((1 : Int32) <<< (nI q &&& 31)), .int (T 13 l), .ref (48 + l)] rfl ?_
      refine am_go hF sgX5_nest_58_a83c7 59 [(4, .int (zb (bt (T 13 l) q))), (3, .ref (48 + l)), (0, .ref 0), (1, .int (nI l)), (2, .int (nI q))] [.int ((T 13 l) ^^^ ((1 : Int32) <<< (nI q &&& 31))), .ref (48 + l)] sgX5_nest_58_a83c7d rfl ?_
      refine am_putf hF (hp_list T S o hn hn10 (show l < n by omega)) (T := TX2) (N := 8) rfl (inG 2 inG2) tyX2 tyX2_ok nmX2 3 (by decide) (List.mem_cons_of_mem _ lf_RX5_100) rfl (Or.inl rfl) rfl rfl (Nat.le_of_ble_eq_true rfl) dX5_nest_59 ?_
      refine am_eqX (hp (st1 T 13 l ((T 13 l) ^^^ ((1 : Int32) <<< (nI q &&& 31)))) S o) (hp_s13 (T := T) hn hn10 (show l < n by omega) ((T 13 l) ^^^ ((1 : Int32) <<< (nI q &&& 31)))) ?_
      refine am_go hF sgX5_nest_62_c6742 64 [(4, .int (zb (bt (T 13 l) q))), (3, .ref (48 + l)), (0, .ref 0), (1, .int (nI l)), (2, .int (nI q))] [.int (zb (bt (T 13 l) q))] sgX5_nest_62_c6742d rfl ?_
      refine am_ifne hF 71 dX5_nest_64 (by decide) (fun c3 => ?_) (fun c3 => ?_)
      · skip
        replace c3 := zb_p.mp c3
        exact absurd (hb.symm.trans c3) (by decide)
      · skip
        replace c3 := zb_0.mp c3
        refine am_go hF sgX5_nest_67_1c64c 72 [(4, .int (zb (bt (T 13 l) q))), (3, .ref (48 + l)), (0, .ref 0), (1, .int (nI l)), (2, .int (nI q))] [.int 1] sgX5_nest_67_1c64cd rfl ?_
        exact am_iret hF hO hret rfl dX5_nest_72 ⟨rfl, rfl⟩
    · skip
      replace c2 := zb_p.mp c2
      exact absurd (hd.symm.trans c2) (by decide)
set_option maxRecDepth 100000 in
set_option maxHeartbeats 4000000 in
theorem c_p_rules_1 {G : am_S} (hG : G.1.stackTraces = false) {T S : am_T} {o : Nat → Int64} {n : Nat} (hn : T 0 0 = nI n) (hn10 : n ≤ 10) {x : Int32} (hx : x < 0 ∨ nI n ≤ x) {y z c : Int32} : am_XD G yX5_rules (.code yX5_rules cX5_rules 7 (some .int) :: am_G) { frames := 8, cells := 1, slots := 6, locals := 135 } (hp T S o) [.ref 0, .int x, .int y, .int z, .int c] am_E1 := by
  refine am_ofX (by decide +kernel) (Nat.le_of_ble_eq_true rfl) ?_
  intro C hse hret hname hF hX
  subst hse
  have hO := hX.1
  refine am_go hF sgX5_rules_0_8bcf7 2 [(0, .ref 0), (1, .int x), (2, .int y), (3, .int z), (4, .int c)] [.int x, .ref 0] sgX5_rules_0_8bcf7d rfl ?_
  exact am_xV hF hX [.int x] [] (c_findList_x hG hn hn10 hx) myX5_findList vyX5_findList lm_RX5_64 (hp_main _ _ _) rfl rfl ⟨Nat.le_of_ble_eq_true rfl, Nat.le_of_ble_eq_true rfl, Nat.le_of_ble_eq_true rfl, Nat.le_of_ble_eq_true rfl⟩ rfl (Nat.le_of_ble_eq_true rfl) dX5_rules_2
set_option maxRecDepth 100000 in
set_option maxHeartbeats 4000000 in
theorem c_p_rules_2a {G : am_S} (hG : G.1.stackTraces = false) {T S : am_T} {o : Nat → Int64} {n : Nat} (hn : T 0 0 = nI n) (hn10 : n ≤ 10) {l : Nat} (hl : l < n) {y z c : Int32} (hy : y < 1 ∨ 200 < y) : am_XD G yX5_rules (.code yX5_rules cX5_rules 7 (some .int) :: am_G) { frames := 8, cells := 1, slots := 6, locals := 135 } (hp T S o) [.ref 0, .int (nI l), .int y, .int z, .int c] am_E3 := by
  refine am_ofX (by decide +kernel) (Nat.le_of_ble_eq_true rfl) ?_
  intro C hse hret hname hF hX
  subst hse
  have hO := hX.1
  refine am_go hF sgX5_rules_0_8bcf7 2 [(0, .ref 0), (1, .int (nI l)), (2, .int y), (3, .int z), (4, .int c)] [.int (nI l), .ref 0] sgX5_rules_0_8bcf7d rfl ?_
  refine am_dV hF hO [.int (nI l)] [] (c_findList (T := T) hn hn10 (show l < n by omega)) myX5_findList vyX5_findList lm_RX5_64 (hp_main _ _ _) rfl rfl 0 0 ⟨Nat.le_of_ble_eq_true rfl, Nat.le_of_ble_eq_true rfl⟩ ⟨Nat.le_of_ble_eq_true rfl, Nat.le_of_ble_eq_true rfl, Nat.le_of_ble_eq_true rfl, Nat.le_of_ble_eq_true rfl⟩ rfl (am_lv_ref (hp_main _ _ _) (am_lv_int (am_lv_int (am_lv_int (am_lv_int am_lv_nil))))) (Nat.le_of_ble_eq_true rfl) dX5_rules_2 [.ref (48 + l)] rfl ?_
  refine am_go hF sgX5_rules_5_6f045 12 [(5, .ref (48 + l)), (0, .ref 0), (1, .int (nI l)), (2, .int y), (3, .int z), (4, .int c)] [.int 200, .int 1, .int y] sgX5_rules_5_6f045d rfl ?_
  exact am_xS hF hX [.int y, .int 1, .int 200] [] (c_checkRange_x hG hy) myX5_checkRange syX5_checkRange lm_RX5_118 rfl ⟨Nat.le_of_ble_eq_true rfl, Nat.le_of_ble_eq_true rfl, Nat.le_of_ble_eq_true rfl, Nat.le_of_ble_eq_true rfl⟩ rfl (Nat.le_of_ble_eq_true rfl) dX5_rules_12
set_option maxRecDepth 100000 in
set_option maxHeartbeats 4000000 in
theorem c_p_rules_2b {G : am_S} (hG : G.1.stackTraces = false) {T S : am_T} {o : Nat → Int64} {n : Nat} (hn : T 0 0 = nI n) (hn10 : n ≤ 10) {l : Nat} (hl : l < n) {y z c : Int32} (hy : 1 ≤ y ∧ y ≤ 200) (hz : z < 1 ∨ 30 < z) : am_XD G yX5_rules (.code yX5_rules cX5_rules 7 (some .int) :: am_G) { frames := 8, cells := 1, slots := 6, locals := 135 } (hp T S o) [.ref 0, .int (nI l), .int y, .int z, .int c] am_E3 := by
  refine am_ofX (by decide +kernel) (Nat.le_of_ble_eq_true rfl) ?_
  intro C hse hret hname hF hX
  subst hse
  have hO := hX.1
  refine am_go hF sgX5_rules_0_8bcf7 2 [(0, .ref 0), (1, .int (nI l)), (2, .int y), (3, .int z), (4, .int c)] [.int (nI l), .ref 0] sgX5_rules_0_8bcf7d rfl ?_
  refine am_dV hF hO [.int (nI l)] [] (c_findList (T := T) hn hn10 (show l < n by omega)) myX5_findList vyX5_findList lm_RX5_64 (hp_main _ _ _) rfl rfl 0 0 ⟨Nat.le_of_ble_eq_true rfl, Nat.le_of_ble_eq_true rfl⟩ ⟨Nat.le_of_ble_eq_true rfl, Nat.le_of_ble_eq_true rfl, Nat.le_of_ble_eq_true rfl, Nat.le_of_ble_eq_true rfl⟩ rfl (am_lv_ref (hp_main _ _ _) (am_lv_int (am_lv_int (am_lv_int (am_lv_int am_lv_nil))))) (Nat.le_of_ble_eq_true rfl) dX5_rules_2 [.ref (48 + l)] rfl ?_
  refine am_go hF sgX5_rules_5_6f045 12 [(5, .ref (48 + l)), (0, .ref 0), (1, .int (nI l)), (2, .int y), (3, .int z), (4, .int c)] [.int 200, .int 1, .int y] sgX5_rules_5_6f045d rfl ?_
  refine am_dS hF hO [.int y, .int 1, .int 200] [] (c_checkRange hy) myX5_checkRange syX5_checkRange lm_RX5_118 rfl 0 0 ⟨Nat.le_of_ble_eq_true rfl, Nat.le_of_ble_eq_true rfl⟩ ⟨Nat.le_of_ble_eq_true rfl, Nat.le_of_ble_eq_true rfl, Nat.le_of_ble_eq_true rfl, Nat.le_of_ble_eq_true rfl⟩ rfl (am_lv_ref (hp_list _ _ _ hn hn10 (show l < n by omega)) (am_lv_ref (hp_main _ _ _) (am_lv_int (am_lv_int (am_lv_int (am_lv_int am_lv_nil)))))) (Nat.le_of_ble_eq_true rfl) dX5_rules_12 [] rfl ?_
  refine am_go hF sgX5_rules_15_13ba5 19 [(5, .ref (48 + l)), (0, .ref 0), (1, .int (nI l)), (2, .int y), (3, .int z), (4, .int c)] [.int 30, .int 1, .int z] sgX5_rules_15_13ba5d rfl ?_
  exact am_xS hF hX [.int z, .int 1, .int 30] [] (c_checkRange_x hG hz) myX5_checkRange syX5_checkRange lm_RX5_118 rfl ⟨Nat.le_of_ble_eq_true rfl, Nat.le_of_ble_eq_true rfl, Nat.le_of_ble_eq_true rfl, Nat.le_of_ble_eq_true rfl⟩ rfl (Nat.le_of_ble_eq_true rfl) dX5_rules_19
set_option maxRecDepth 100000 in
set_option maxHeartbeats 4000000 in
theorem c_p_rules_n0 {G : am_S} {T S : am_T} {o : Nat → Int64} {n : Nat} (hn : T 0 0 = nI n) (hn10 : n ≤ 10) {l : Nat} (hl : l < n) {y z : Int32} (hy : 1 ≤ y ∧ y ≤ 200) (hz : 1 ≤ z ∧ z ≤ 30) : am_D G yX5_rules (.code yX5_rules cX5_rules 7 (some .int) :: am_G) { frames := 1, cells := 0, slots := 0, locals := 22 } (hp T S o) [.ref 0, .int (nI l), .int y, .int z, .int 0] (hp (st1 (st1 (st1 T 15 l y) 16 l z) 17 l 0) S o) (some (.int (T 15 l))) := by
  refine am_of (by decide +kernel) (Nat.le_of_ble_eq_true rfl) ?_
  intro C hse hret hname hF hO
  subst hse
  refine am_go hF sgX5_rules_0_8bcf7 2 [(0, .ref 0), (1, .int (nI l)), (2, .int y), (3, .int z), (4, .int 0)] [.int (nI l), .ref 0] sgX5_rules_0_8bcf7d rfl ?_
  refine am_dV hF hO [.int (nI l)] [] (c_findList (T := T) hn hn10 (show l < n by omega)) myX5_findList vyX5_findList lm_RX5_64 (hp_main _ _ _) rfl rfl 0 0 ⟨Nat.le_of_ble_eq_true rfl, Nat.le_of_ble_eq_true rfl⟩ ⟨Nat.le_of_ble_eq_true rfl, Nat.le_of_ble_eq_true rfl, Nat.le_of_ble_eq_true rfl, Nat.le_of_ble_eq_true rfl⟩ rfl (am_lv_ref (hp_main _ _ _) (am_lv_int (am_lv_int (am_lv_int (am_lv_int am_lv_nil))))) (Nat.le_of_ble_eq_true rfl) dX5_rules_2 [.ref (48 + l)] rfl ?_
  refine am_go hF sgX5_rules_5_6f045 12 [(5, .ref (48 + l)), (0, .ref 0), (1, .int (nI l)), (2, .int y), (3, .int z), (4, .int 0)] [.int 200, .int 1, .int y] sgX5_rules_5_6f045d rfl ?_
  refine am_dS hF hO [.int y, .int 1, .int 200] [] (c_checkRange hy) myX5_checkRange syX5_checkRange lm_RX5_118 rfl 0 0 ⟨Nat.le_of_ble_eq_true rfl, Nat.le_of_ble_eq_true rfl⟩ ⟨Nat.le_of_ble_eq_true rfl, Nat.le_of_ble_eq_true rfl, Nat.le_of_ble_eq_true rfl, Nat.le_of_ble_eq_true rfl⟩ rfl (am_lv_ref (hp_list _ _ _ hn hn10 (show l < n by omega)) (am_lv_ref (hp_main _ _ _) (am_lv_int (am_lv_int (am_lv_int (am_lv_int am_lv_nil)))))) (Nat.le_of_ble_eq_true rfl) dX5_rules_12 [] rfl ?_
  refine am_go hF sgX5_rules_15_13ba5 19 [(5, .ref (48 + l)), (0, .ref 0), (1, .int (nI l)), (2, .int y), (3, .int z), (4, .int 0)] [.int 30, .int 1, .int z] sgX5_rules_15_13ba5d rfl ?_
  refine am_dS hF hO [.int z, .int 1, .int 30] [] (c_checkRange hz) myX5_checkRange syX5_checkRange lm_RX5_118 rfl 0 0 ⟨Nat.le_of_ble_eq_true rfl, Nat.le_of_ble_eq_true rfl⟩ ⟨Nat.le_of_ble_eq_true rfl, Nat.le_of_ble_eq_true rfl, Nat.le_of_ble_eq_true rfl, Nat.le_of_ble_eq_true rfl⟩ rfl (am_lv_ref (hp_list _ _ _ hn hn10 (show l < n by omega)) (am_lv_ref (hp_main _ _ _) (am_lv_int (am_lv_int (am_lv_int (am_lv_int am_lv_nil)))))) (Nat.le_of_ble_eq_true rfl) dX5_rules_19 [] rfl ?_
  refine am_go hF sgX5_rules_22_51faf 24 [(5, .ref (48 + l)), (0, .ref 0), (1, .int (nI l)), (2, .int y), (3, .int z), (4, .int 0)] [.ref (48 + l)] sgX5_rules_22_51fafd rfl ?_
  refine am_getf hF (hp_list T S o hn hn10 (show l < n by omega)) (T := TX2) (N := 8) rfl (inG 2 inG2) 5 (by decide) (List.mem_cons_of_mem _ lf_RX5_122) rfl (.int (T 15 l)) rfl dX5_rules_24 ?_
  refine am_go hF sgX5_rules_27_4a099 32 [(6, .int (T 15 l)), (5, .ref (48 + l)), (0, .ref 0), (1, .int (nI l)), (2, .int y), (3, .int z), (4, .int 0)] [.int y, .ref (48 + l)] sgX5_rules_27_4a099d rfl ?_
  refine am_putf hF (hp_list T S o hn hn10 (show l < n by omega)) (T := TX2) (N := 8) rfl (inG 2 inG2) tyX2 tyX2_ok nmX2 5 (by decide) (List.mem_cons_of_mem _ lf_RX5_122) rfl (Or.inl rfl) rfl rfl (Nat.le_of_ble_eq_true rfl) dX5_rules_32 ?_
  refine am_eqX (hp (st1 T 15 l y) S o) (hp_s15 (T := T) hn hn10 (show l < n by omega) y) ?_
  refine am_go hF sgX5_rules_35_a6145 38 [(6, .int (T 15 l)), (5, .ref (48 + l)), (0, .ref 0), (1, .int (nI l)), (2, .int y), (3, .int z), (4, .int 0)] [.int z, .ref (48 + l)] sgX5_rules_35_a6145d rfl ?_
  refine am_putf hF (hp_list (st1 T 15 l y) S o hn hn10 (show l < n by omega)) (T := TX2) (N := 8) rfl (inG 2 inG2) tyX2 tyX2_ok nmX2 6 (by decide) (List.mem_cons_of_mem _ lf_RX5_125) rfl (Or.inl rfl) rfl rfl (Nat.le_of_ble_eq_true rfl) dX5_rules_38 ?_
  refine am_eqX (hp (st1 (st1 T 15 l y) 16 l z) S o) (hp_s16 (T := (st1 T 15 l y)) hn hn10 (show l < n by omega) z) ?_
  refine am_go hF sgX5_rules_41_650b2 45 [(6, .int (T 15 l)), (5, .ref (48 + l)), (0, .ref 0), (1, .int (nI l)), (2, .int y), (3, .int z), (4, .int 0)] [.int 0, .ref (48 + l)] sgX5_rules_41_650b2d rfl ?_
  refine am_putf hF (hp_list (st1 (st1 T 15 l y) 16 l z) S o hn hn10 (show l < n by omega)) (T := TX2) (N := 8) rfl (inG 2 inG2) tyX2 tyX2_ok nmX2 7 (by decide) (List.mem_cons_of_mem _ lf_RX5_128) rfl (Or.inl rfl) rfl rfl (Nat.le_of_ble_eq_true rfl) dX5_rules_45 ?_
  refine am_eqX (hp (st1 (st1 (st1 T 15 l y) 16 l z) 17 l 0) S o) (hp_s17 (T := (st1 (st1 T 15 l y) 16 l z)) hn hn10 (show l < n by omega) 0) ?_
  refine am_go hF sgX5_rules_48_4d8be 50 [(6, .int (T 15 l)), (5, .ref (48 + l)), (0, .ref 0), (1, .int (nI l)), (2, .int y), (3, .int z), (4, .int 0)] [.int (T 15 l)] sgX5_rules_48_4d8bed rfl ?_
  exact am_iret hF hO hret rfl dX5_rules_50 ⟨rfl, rfl⟩
set_option maxRecDepth 100000 in
set_option maxHeartbeats 4000000 in
theorem c_p_rules_n1 {G : am_S} {T S : am_T} {o : Nat → Int64} {n : Nat} (hn : T 0 0 = nI n) (hn10 : n ≤ 10) {l : Nat} (hl : l < n) {y z : Int32} (hy : 1 ≤ y ∧ y ≤ 200) (hz : 1 ≤ z ∧ z ≤ 30) : am_D G yX5_rules (.code yX5_rules cX5_rules 7 (some .int) :: am_G) { frames := 1, cells := 0, slots := 0, locals := 22 } (hp T S o) [.ref 0, .int (nI l), .int y, .int z, .int 1] (hp (st1 (st1 (st1 T 15 l y) 16 l z) 17 l 1) S o) (some (.int (T 15 l))) := by
  refine am_of (by decide +kernel) (Nat.le_of_ble_eq_true rfl) ?_
  intro C hse hret hname hF hO
  subst hse
  refine am_go hF sgX5_rules_0_8bcf7 2 [(0, .ref 0), (1, .int (nI l)), (2, .int y), (3, .int z), (4, .int 1)] [.int (nI l), .ref 0] sgX5_rules_0_8bcf7d rfl ?_
  refine am_dV hF hO [.int (nI l)] [] (c_findList (T := T) hn hn10 (show l < n by omega)) myX5_findList vyX5_findList lm_RX5_64 (hp_main _ _ _) rfl rfl 0 0 ⟨Nat.le_of_ble_eq_true rfl, Nat.le_of_ble_eq_true rfl⟩ ⟨Nat.le_of_ble_eq_true rfl, Nat.le_of_ble_eq_true rfl, Nat.le_of_ble_eq_true rfl, Nat.le_of_ble_eq_true rfl⟩ rfl (am_lv_ref (hp_main _ _ _) (am_lv_int (am_lv_int (am_lv_int (am_lv_int am_lv_nil))))) (Nat.le_of_ble_eq_true rfl) dX5_rules_2 [.ref (48 + l)] rfl ?_
  refine am_go hF sgX5_rules_5_6f045 12 [(5, .ref (48 + l)), (0, .ref 0), (1, .int (nI l)), (2, .int y), (3, .int z), (4, .int 1)] [.int 200, .int 1, .int y] sgX5_rules_5_6f045d rfl ?_
  refine am_dS hF hO [.int y, .int 1, .int 200] [] (c_checkRange hy) myX5_checkRange syX5_checkRange lm_RX5_118 rfl 0 0 ⟨Nat.le_of_ble_eq_true rfl, Nat.le_of_ble_eq_true rfl⟩ ⟨Nat.le_of_ble_eq_true rfl, Nat.le_of_ble_eq_true rfl, Nat.le_of_ble_eq_true rfl, Nat.le_of_ble_eq_true rfl⟩ rfl (am_lv_ref (hp_list _ _ _ hn hn10 (show l < n by omega)) (am_lv_ref (hp_main _ _ _) (am_lv_int (am_lv_int (am_lv_int (am_lv_int am_lv_nil)))))) (Nat.le_of_ble_eq_true rfl) dX5_rules_12 [] rfl ?_
  refine am_go hF sgX5_rules_15_13ba5 19 [(5, .ref (48 + l)), (0, .ref 0), (1, .int (nI l)), (2, .int y), (3, .int z), (4, .int 1)] [.int 30, .int 1, .int z] sgX5_rules_15_13ba5d rfl ?_
  refine am_dS hF hO [.int z, .int 1, .int 30] [] (c_checkRange hz) myX5_checkRange syX5_checkRange lm_RX5_118 rfl 0 0 ⟨Nat.le_of_ble_eq_true rfl, Nat.le_of_ble_eq_true rfl⟩ ⟨Nat.le_of_ble_eq_true rfl, Nat.le_of_ble_eq_true rfl, Nat.le_of_ble_eq_true rfl, Nat.le_of_ble_eq_true rfl⟩ rfl (am_lv_ref (hp_list _ _ _ hn hn10 (show l < n by omega)) (am_lv_ref (hp_main _ _ _) (am_lv_int (am_lv_int (am_lv_int (am_lv_int am_lv_nil)))))) (Nat.le_of_ble_eq_true rfl) dX5_rules_19 [] rfl ?_
  refine am_go hF sgX5_rules_22_51faf 24 [(5, .ref (48 + l)), (0, .ref 0), (1, .int (nI l)), (2, .int y), (3, .int z), (4, .int 1)] [.ref (48 + l)] sgX5_rules_22_51fafd rfl ?_
  refine am_getf hF (hp_list T S o hn hn10 (show l < n by omega)) (T := TX2) (N := 8) rfl (inG 2 inG2) 5 (by decide) (List.mem_cons_of_mem _ lf_RX5_122) rfl (.int (T 15 l)) rfl dX5_rules_24 ?_
  refine am_go hF sgX5_rules_27_4a099 32 [(6, .int (T 15 l)), (5, .ref (48 + l)), (0, .ref 0), (1, .int (nI l)), (2, .int y), (3, .int z), (4, .int 1)] [.int y, .ref (48 + l)] sgX5_rules_27_4a099d rfl ?_
  refine am_putf hF (hp_list T S o hn hn10 (show l < n by omega)) (T := TX2) (N := 8) rfl (inG 2 inG2) tyX2 tyX2_ok nmX2 5 (by decide) (List.mem_cons_of_mem _ lf_RX5_122) rfl (Or.inl rfl) rfl rfl (Nat.le_of_ble_eq_true rfl) dX5_rules_32 ?_
  refine am_eqX (hp (st1 T 15 l y) S o) (hp_s15 (T := T) hn hn10 (show l < n by omega) y) ?_
  refine am_go hF sgX5_rules_35_a6145 38 [(6, .int (T 15 l)), (5, .ref (48 + l)), (0, .ref 0), (1, .int (nI l)), (2, .int y), (3, .int z), (4, .int 1)] [.int z, .ref (48 + l)] sgX5_rules_35_a6145d rfl ?_
  refine am_putf hF (hp_list (st1 T 15 l y) S o hn hn10 (show l < n by omega)) (T := TX2) (N := 8) rfl (inG 2 inG2) tyX2 tyX2_ok nmX2 6 (by decide) (List.mem_cons_of_mem _ lf_RX5_125) rfl (Or.inl rfl) rfl rfl (Nat.le_of_ble_eq_true rfl) dX5_rules_38 ?_
  refine am_eqX (hp (st1 (st1 T 15 l y) 16 l z) S o) (hp_s16 (T := (st1 T 15 l y)) hn hn10 (show l < n by omega) z) ?_
  refine am_go hF sgX5_rules_41_650b2 45 [(6, .int (T 15 l)), (5, .ref (48 + l)), (0, .ref 0), (1, .int (nI l)), (2, .int y), (3, .int z), (4, .int 1)] [.int 1, .ref (48 + l)] sgX5_rules_41_650b2d rfl ?_
  refine am_putf hF (hp_list (st1 (st1 T 15 l y) 16 l z) S o hn hn10 (show l < n by omega)) (T := TX2) (N := 8) rfl (inG 2 inG2) tyX2 tyX2_ok nmX2 7 (by decide) (List.mem_cons_of_mem _ lf_RX5_128) rfl (Or.inl rfl) rfl rfl (Nat.le_of_ble_eq_true rfl) dX5_rules_45 ?_
  refine am_eqX (hp (st1 (st1 (st1 T 15 l y) 16 l z) 17 l 1) S o) (hp_s17 (T := (st1 (st1 T 15 l y) 16 l z)) hn hn10 (show l < n by omega) 1) ?_
  refine am_go hF sgX5_rules_48_4d8be 50 [(6, .int (T 15 l)), (5, .ref (48 + l)), (0, .ref 0), (1, .int (nI l)), (2, .int y), (3, .int z), (4, .int 1)] [.int (T 15 l)] sgX5_rules_48_4d8bed rfl ?_
  exact am_iret hF hO hret rfl dX5_rules_50 ⟨rfl, rfl⟩
set_option maxRecDepth 100000 in
set_option maxHeartbeats 4000000 in
theorem c_p_bar_1a {G : am_S} (hG : G.1.stackTraces = false) {T S : am_T} {o : Nat → Int64} {n : Nat} (hn : T 0 0 = nI n) (hn10 : n ≤ 10) {x : Int32} (hx : x < 0 ∨ nI n ≤ x) {y : Int32} : am_XD G yX5_bar (.code yX5_bar cX5_bar 4 (some .boolean) :: am_G) { frames := 8, cells := 1, slots := 6, locals := 135 } (hp T S o) [.ref 0, .int x, .int y] am_E1 := by
  refine am_ofX (by decide +kernel) (Nat.le_of_ble_eq_true rfl) ?_
  intro C hse hret hname hF hX
  subst hse
  have hO := hX.1
  refine am_go hF sgX5_bar_0_8bcf7 2 [(0, .ref 0), (1, .int x), (2, .int y)] [.int x, .ref 0] sgX5_bar_0_8bcf7d rfl ?_
  exact am_xV hF hX [.int x] [] (c_findList_x hG hn hn10 hx) myX5_findList vyX5_findList lm_RX5_64 (hp_main _ _ _) rfl rfl ⟨Nat.le_of_ble_eq_true rfl, Nat.le_of_ble_eq_true rfl, Nat.le_of_ble_eq_true rfl, Nat.le_of_ble_eq_true rfl⟩ rfl (Nat.le_of_ble_eq_true rfl) dX5_bar_2
set_option maxRecDepth 100000 in
set_option maxHeartbeats 4000000 in
theorem c_p_bar_1b {G : am_S} (hG : G.1.stackTraces = false) {T S : am_T} {o : Nat → Int64} {n : Nat} (hn : T 0 0 = nI n) (hn10 : n ≤ 10) {l : Nat} (hl : l < n) {y : Int32} (hy : y < 0 ∨ nI 16 ≤ y) : am_XD G yX5_bar (.code yX5_bar cX5_bar 4 (some .boolean) :: am_G) { frames := 8, cells := 1, slots := 6, locals := 135 } (hp T S o) [.ref 0, .int (nI l), .int y] am_E1 := by
  refine am_ofX (by decide +kernel) (Nat.le_of_ble_eq_true rfl) ?_
  intro C hse hret hname hF hX
  subst hse
  have hO := hX.1
  refine am_go hF sgX5_bar_0_8bcf7 2 [(0, .ref 0), (1, .int (nI l)), (2, .int y)] [.int (nI l), .ref 0] sgX5_bar_0_8bcf7d rfl ?_
  refine am_dV hF hO [.int (nI l)] [] (c_findList (T := T) hn hn10 (show l < n by omega)) myX5_findList vyX5_findList lm_RX5_64 (hp_main _ _ _) rfl rfl 0 0 ⟨Nat.le_of_ble_eq_true rfl, Nat.le_of_ble_eq_true rfl⟩ ⟨Nat.le_of_ble_eq_true rfl, Nat.le_of_ble_eq_true rfl, Nat.le_of_ble_eq_true rfl, Nat.le_of_ble_eq_true rfl⟩ rfl (am_lv_ref (hp_main _ _ _) (am_lv_int (am_lv_int am_lv_nil))) (Nat.le_of_ble_eq_true rfl) dX5_bar_2 [.ref (48 + l)] rfl ?_
  refine am_go hF sgX5_bar_5_ad53f 7 [(3, .ref (48 + l)), (0, .ref 0), (1, .int (nI l)), (2, .int y)] [.int y] sgX5_bar_5_ad53fd rfl ?_
  exact am_xS hF hX [.int y] [] (c_checkPerson_x hG hy) myX5_checkPerson syX5_checkPerson lm_RX5_51 rfl ⟨Nat.le_of_ble_eq_true rfl, Nat.le_of_ble_eq_true rfl, Nat.le_of_ble_eq_true rfl, Nat.le_of_ble_eq_true rfl⟩ rfl (Nat.le_of_ble_eq_true rfl) dX5_bar_7
set_option maxRecDepth 100000 in
set_option maxHeartbeats 4000000 in
theorem c_p_bar_n {G : am_S} {T S : am_T} {o : Nat → Int64} {n : Nat} (hn : T 0 0 = nI n) (hn10 : n ≤ 10) {l : Nat} (hl : l < n) {p : Nat} (hp9 : p < 16) : am_D G yX5_bar (.code yX5_bar cX5_bar 4 (some .boolean) :: am_G) { frames := 1, cells := 0, slots := 0, locals := 21 } (hp T S o) [.ref 0, .int (nI l), .int (nI p)] (hp (st1 T 14 l ((T 14 l) ^^^ ((1 : Int32) <<< (nI p &&& 31)))) S o) (some (.int (zb (bt ((T 14 l) ^^^ ((1 : Int32) <<< (nI p &&& 31))) p)))) := by
  refine am_of (by decide +kernel) (Nat.le_of_ble_eq_true rfl) ?_
  intro C hse hret hname hF hO
  subst hse
  refine am_go hF sgX5_bar_0_8bcf7 2 [(0, .ref 0), (1, .int (nI l)), (2, .int (nI p))] [.int (nI l), .ref 0] sgX5_bar_0_8bcf7d rfl ?_
  refine am_dV hF hO [.int (nI l)] [] (c_findList (T := T) hn hn10 (show l < n by omega)) myX5_findList vyX5_findList lm_RX5_64 (hp_main _ _ _) rfl rfl 0 0 ⟨Nat.le_of_ble_eq_true rfl, Nat.le_of_ble_eq_true rfl⟩ ⟨Nat.le_of_ble_eq_true rfl, Nat.le_of_ble_eq_true rfl, Nat.le_of_ble_eq_true rfl, Nat.le_of_ble_eq_true rfl⟩ rfl (am_lv_ref (hp_main _ _ _) (am_lv_int (am_lv_int am_lv_nil))) (Nat.le_of_ble_eq_true rfl) dX5_bar_2 [.ref (48 + l)] rfl ?_
  refine am_go hF sgX5_bar_5_ad53f 7 [(3, .ref (48 + l)), (0, .ref 0), (1, .int (nI l)), (2, .int (nI p))] [.int (nI p)] sgX5_bar_5_ad53fd rfl ?_
  refine am_dS hF hO [.int (nI p)] [] (c_checkPerson (show p < 16 by omega)) myX5_checkPerson syX5_checkPerson lm_RX5_51 rfl 0 0 ⟨Nat.le_of_ble_eq_true rfl, Nat.le_of_ble_eq_true rfl⟩ ⟨Nat.le_of_ble_eq_true rfl, Nat.le_of_ble_eq_true rfl, Nat.le_of_ble_eq_true rfl, Nat.le_of_ble_eq_true rfl⟩ rfl (am_lv_ref (hp_list _ _ _ hn hn10 (show l < n by omega)) (am_lv_ref (hp_main _ _ _) (am_lv_int (am_lv_int am_lv_nil)))) (Nat.le_of_ble_eq_true rfl) dX5_bar_7 [] rfl ?_
  refine am_go hF sgX5_bar_10_1f854 12 [(3, .ref (48 + l)), (0, .ref 0), (1, .int (nI l)), (2, .int (nI p))] [.ref (48 + l), .ref (48 + l)] sgX5_bar_10_1f854d rfl ?_
  refine am_getf hF (hp_list T S o hn hn10 (show l < n by omega)) (T := TX2) (N := 8) rfl (inG 2 inG2) 4 (by decide) (List.mem_cons_of_mem _ lf_RX5_132) rfl (.int (T 14 l)) rfl dX5_bar_12 ?_
  refine am_go hF sgX5_bar_15_f8a59 16 [(3, .ref (48 + l)), (0, .ref 0), (1, .int (nI l)), (2, .int (nI p))] [.int (nI p), .int (T 14 l), .ref (48 + l)] sgX5_bar_15_f8a59d rfl ?_
  refine am_dS hF hO [.int (nI p)] [.int (T 14 l), .ref (48 + l)] (c_bit) myX5_bit syX5_bit lm_RX5_115 rfl 0 0 ⟨Nat.le_of_ble_eq_true rfl, Nat.le_of_ble_eq_true rfl⟩ ⟨Nat.le_of_ble_eq_true rfl, Nat.le_of_ble_eq_true rfl, Nat.le_of_ble_eq_true rfl, Nat.le_of_ble_eq_true rfl⟩ rfl (am_lv_ref (hp_list _ _ _ hn hn10 (show l < n by omega)) (am_lv_ref (hp_main _ _ _) (am_lv_int (am_lv_int (am_lv_int (am_lv_ref (hp_list _ _ _ hn hn10 (show l < n by omega)) am_lv_nil)))))) (Nat.le_of_ble_eq_true rfl) dX5_bar_16 [.int ((1 : Int32) <<< (nI p &&& 31)), .int (T 14 l), .ref (48 + l)] rfl ?_
  refine am_go hF sgX5_bar_19_a83c7 20 [(3, .ref (48 + l)), (0, .ref 0), (1, .int (nI l)), (2, .int (nI p))] [.int ((T 14 l) ^^^ ((1 : Int32) <<< (nI p &&& 31))), .ref (48 + l)] sgX5_bar_19_a83c7d rfl ?_
  refine am_putf hF (hp_list T S o hn hn10 (show l < n by omega)) (T := TX2) (N := 8) rfl (inG 2 inG2) tyX2 tyX2_ok nmX2 4 (by decide) (List.mem_cons_of_mem _ lf_RX5_132) rfl (Or.inl rfl) rfl rfl (Nat.le_of_ble_eq_true rfl) dX5_bar_20 ?_
  refine am_eqX (hp (st1 T 14 l ((T 14 l) ^^^ ((1 : Int32) <<< (nI p &&& 31)))) S o) (hp_s14 (T := T) hn hn10 (show l < n by omega) ((T 14 l) ^^^ ((1 : Int32) <<< (nI p &&& 31)))) ?_
  refine am_go hF sgX5_bar_23_67016 24 [(3, .ref (48 + l)), (0, .ref 0), (1, .int (nI l)), (2, .int (nI p))] [.ref (48 + l)] sgX5_bar_23_67016d rfl ?_
  refine am_getf hF (hp_list (st1 T 14 l ((T 14 l) ^^^ ((1 : Int32) <<< (nI p &&& 31)))) S o hn hn10 (show l < n by omega)) (T := TX2) (N := 8) rfl (inG 2 inG2) 4 (by decide) (List.mem_cons_of_mem _ lf_RX5_132) rfl (.int ((st1 T 14 l ((T 14 l) ^^^ ((1 : Int32) <<< (nI p &&& 31)))) 14 l)) rfl dX5_bar_24 ?_
  refine am_top ((T 14 l) ^^^ ((1 : Int32) <<< (nI p &&& 31))) (st1_same T 14 l ((T 14 l) ^^^ ((1 : Int32) <<< (nI p &&& 31)))) ?_
  refine am_go hF sgX5_bar_27_f8a59 28 [(3, .ref (48 + l)), (0, .ref 0), (1, .int (nI l)), (2, .int (nI p))] [.int (nI p), .int ((T 14 l) ^^^ ((1 : Int32) <<< (nI p &&& 31)))] sgX5_bar_27_f8a59d rfl ?_
  refine am_dS hF hO [.int ((T 14 l) ^^^ ((1 : Int32) <<< (nI p &&& 31))), .int (nI p)] [] (c_contains (show p < 32 by omega)) myX5_contains syX5_contains lm_RX5_103 rfl 0 0 ⟨Nat.le_of_ble_eq_true rfl, Nat.le_of_ble_eq_true rfl⟩ ⟨Nat.le_of_ble_eq_true rfl, Nat.le_of_ble_eq_true rfl, Nat.le_of_ble_eq_true rfl, Nat.le_of_ble_eq_true rfl⟩ rfl (am_lv_ref (hp_list _ _ _ hn hn10 (show l < n by omega)) (am_lv_ref (hp_main _ _ _) (am_lv_int (am_lv_int am_lv_nil)))) (Nat.le_of_ble_eq_true rfl) dX5_bar_28 [.int (zb (bt ((T 14 l) ^^^ ((1 : Int32) <<< (nI p &&& 31))) p))] rfl ?_
  exact am_iret hF hO hret (zb_n _) dX5_bar_31 ⟨rfl, rfl⟩
set_option maxRecDepth 100000 in
set_option maxHeartbeats 4000000 in
theorem c_p_word_1 {G : am_S} (hG : G.1.stackTraces = false) {T S : am_T} {o : Nat → Int64} {x y : Int32} (hx : x < 0 ∨ nI 20 ≤ x) : am_XD G yX5_word (.code yX5_word cX5_word 4 (some .int) :: am_G) { frames := 8, cells := 1, slots := 6, locals := 135 } (hp T S o) [.ref 0, .int x, .int y] am_E1 := by
  refine am_ofX (by decide +kernel) (Nat.le_of_ble_eq_true rfl) ?_
  intro C hse hret hname hF hX
  subst hse
  have hO := hX.1
  refine am_go hF sgX5_word_0_840bf 1 [(0, .ref 0), (1, .int x), (2, .int y)] [.int x] sgX5_word_0_840bfd rfl ?_
  refine am_iflt hF 10 dX5_word_1 (by decide) (fun c1 => ?_) (fun c1 => ?_)
  · skip
    exact am_throwS hF hX hG (is := 137) (text := "no such word") am_nm (by decide +kernel) am_nm_fit lc_RX5_135 xz1 (by decide) xa1 xg1 dX5_word_10 dX5_word_13 dX5_word_14 dX5_word_16 dX5_word_19 ⟨Nat.le_of_ble_eq_true rfl, Nat.le_of_ble_eq_true rfl, Nat.le_of_ble_eq_true rfl, Nat.le_of_ble_eq_true rfl⟩
  · skip
    refine am_go hF sgX5_word_4_cb664 7 [(0, .ref 0), (1, .int x), (2, .int y)] [.int 20, .int x] sgX5_word_4_cb664d rfl ?_
    refine am_icmplt hF 20 dX5_word_7 (by decide) (fun c2 => ?_) (fun c2 => ?_)
    · skip
      exact absurd hx (fun h => h.elim c1 (Int32.not_le.mpr c2))
    · skip
      exact am_throwS hF hX hG (is := 137) (text := "no such word") am_nm (by decide +kernel) am_nm_fit lc_RX5_135 xz1 (by decide) xa1 xg1 dX5_word_10 dX5_word_13 dX5_word_14 dX5_word_16 dX5_word_19 ⟨Nat.le_of_ble_eq_true rfl, Nat.le_of_ble_eq_true rfl, Nat.le_of_ble_eq_true rfl, Nat.le_of_ble_eq_true rfl⟩
set_option maxRecDepth 100000 in
set_option maxHeartbeats 4000000 in
theorem c_p_word_2 {G : am_S} (hG : G.1.stackTraces = false) {T S : am_T} {o : Nat → Int64} {j : Nat} (hj : j < 20) {y : Int32} (hy : y < -20 ∨ 50 < y) : am_XD G yX5_word (.code yX5_word cX5_word 4 (some .int) :: am_G) { frames := 8, cells := 1, slots := 6, locals := 135 } (hp T S o) [.ref 0, .int (nI j), .int y] am_E3 := by
  refine am_ofX (by decide +kernel) (Nat.le_of_ble_eq_true rfl) ?_
  intro C hse hret hname hF hX
  subst hse
  have hO := hX.1
  refine am_go hF sgX5_word_0_840bf 1 [(0, .ref 0), (1, .int (nI j)), (2, .int y)] [.int (nI j)] sgX5_word_0_840bfd rfl ?_
  refine am_iflt hF 10 dX5_word_1 (by decide) (fun h9 => False.elim (nc_ge_f (show 0 ≤ j by omega) (by omega) (by omega) rfl rfl h9)) (fun _ => ?_)
  refine am_go hF sgX5_word_4_cb664 7 [(0, .ref 0), (1, .int (nI j)), (2, .int y)] [.int 20, .int (nI j)] sgX5_word_4_cb664d rfl ?_
  refine am_icmplt hF 20 dX5_word_7 (by decide) (fun _ => ?_) (fun h9 => False.elim (absurd (nc_lt (show j < 20 by omega) (by omega) (by omega) rfl rfl) h9))
  refine am_go hF sgX5_word_20_f8e78 25 [(0, .ref 0), (1, .int (nI j)), (2, .int y)] [.int 50, .int (-20), .int y] sgX5_word_20_f8e78d rfl ?_
  exact am_xS hF hX [.int y, .int (-20), .int 50] [] (c_checkRange_x hG hy) myX5_checkRange syX5_checkRange lm_RX5_118 rfl ⟨Nat.le_of_ble_eq_true rfl, Nat.le_of_ble_eq_true rfl, Nat.le_of_ble_eq_true rfl, Nat.le_of_ble_eq_true rfl⟩ rfl (Nat.le_of_ble_eq_true rfl) dX5_word_25
set_option maxRecDepth 100000 in
set_option maxHeartbeats 4000000 in
theorem c_p_word_n {G : am_S} {T S : am_T} {o : Nat → Int64} {j : Nat} (hj : j < 20) {y : Int32} (hy : -20 ≤ y ∧ y ≤ 50) : am_D G yX5_word (.code yX5_word cX5_word 4 (some .int) :: am_G) { frames := 1, cells := 0, slots := 0, locals := 22 } (hp T S o) [.ref 0, .int (nI j), .int y] (hp (st1 T 4 j y) S o) (some (.int (T 4 j))) := by
  refine am_of (by decide +kernel) (Nat.le_of_ble_eq_true rfl) ?_
  intro C hse hret hname hF hO
  subst hse
  refine am_go hF sgX5_word_0_840bf 1 [(0, .ref 0), (1, .int (nI j)), (2, .int y)] [.int (nI j)] sgX5_word_0_840bfd rfl ?_
  refine am_iflt hF 10 dX5_word_1 (by decide) (fun h9 => False.elim (nc_ge_f (show 0 ≤ j by omega) (by omega) (by omega) rfl rfl h9)) (fun _ => ?_)
  refine am_go hF sgX5_word_4_cb664 7 [(0, .ref 0), (1, .int (nI j)), (2, .int y)] [.int 20, .int (nI j)] sgX5_word_4_cb664d rfl ?_
  refine am_icmplt hF 20 dX5_word_7 (by decide) (fun _ => ?_) (fun h9 => False.elim (absurd (nc_lt (show j < 20 by omega) (by omega) (by omega) rfl rfl) h9))
  refine am_go hF sgX5_word_20_f8e78 25 [(0, .ref 0), (1, .int (nI j)), (2, .int y)] [.int 50, .int (-20), .int y] sgX5_word_20_f8e78d rfl ?_
  refine am_dS hF hO [.int y, .int (-20), .int 50] [] (c_checkRange hy) myX5_checkRange syX5_checkRange lm_RX5_118 rfl 0 0 ⟨Nat.le_of_ble_eq_true rfl, Nat.le_of_ble_eq_true rfl⟩ ⟨Nat.le_of_ble_eq_true rfl, Nat.le_of_ble_eq_true rfl, Nat.le_of_ble_eq_true rfl, Nat.le_of_ble_eq_true rfl⟩ rfl (am_lv_ref (hp_main _ _ _) (am_lv_int (am_lv_int am_lv_nil))) (Nat.le_of_ble_eq_true rfl) dX5_word_25 [] rfl ?_
  refine am_go hF sgX5_word_28_34db8 29 [(0, .ref 0), (1, .int (nI j)), (2, .int y)] [.ref 0] sgX5_word_28_34db8d rfl ?_
  refine am_getf hF (hp_main T S o) (T := TX5) (N := 9) rfl (inG 5 inG5) 1 (by decide) (List.mem_cons_of_mem _ lf_RX5_15) rfl (.ref 2) rfl dX5_word_29 ?_
  refine am_go hF sgX5_word_32_840bf 33 [(0, .ref 0), (1, .int (nI j)), (2, .int y)] [.int (nI j), .ref 2] sgX5_word_32_840bfd rfl ?_
  refine am_iald hF (hp_words T S o) j rfl (show j < 20 by omega) (by decide) dX5_word_33 ?_
  refine am_go hF sgX5_word_34_a034f 36 [(3, .int (T 4 j)), (0, .ref 0), (1, .int (nI j)), (2, .int y)] [.ref 0] sgX5_word_34_a034fd rfl ?_
  refine am_getf hF (hp_main T S o) (T := TX5) (N := 9) rfl (inG 5 inG5) 1 (by decide) (List.mem_cons_of_mem _ lf_RX5_15) rfl (.ref 2) rfl dX5_word_36 ?_
  refine am_go hF sgX5_word_39_5601b 41 [(3, .int (T 4 j)), (0, .ref 0), (1, .int (nI j)), (2, .int y)] [.int y, .int (nI j), .ref 2] sgX5_word_39_5601bd rfl ?_
  refine am_iast hF (hp_words T S o) j rfl (show j < 20 by omega) (by decide) dX5_word_41 ?_
  refine am_eqX (hp (st1 T 4 j y) S o) (hp_s4 j y) ?_
  refine am_go hF sgX5_word_42_13b50 43 [(3, .int (T 4 j)), (0, .ref 0), (1, .int (nI j)), (2, .int y)] [.int (T 4 j)] sgX5_word_42_13b50d rfl ?_
  exact am_iret hF hO hret rfl dX5_word_43 ⟨rfl, rfl⟩
set_option maxRecDepth 100000 in
set_option maxHeartbeats 4000000 in
theorem c_p_reaches_1 {G : am_S} (hG : G.1.stackTraces = false) {T S : am_T} {o : Nat → Int64} {n : Nat} (hn : T 0 0 = nI n) (hn10 : n ≤ 10) {x : Int32} (hx : x < 0 ∨ nI n ≤ x) : am_XD G yX5_reaches (.code yX5_reaches cX5_reaches 2 (some .int) :: am_G) { frames := 8, cells := 1, slots := 6, locals := 135 } (hp T S o) [.ref 0, .int x] am_E1 := by
  refine am_ofX (by decide +kernel) (Nat.le_of_ble_eq_true rfl) ?_
  intro C hse hret hname hF hX
  subst hse
  have hO := hX.1
  refine am_go hF sgX5_reaches_0_8bcf7 2 [(0, .ref 0), (1, .int x)] [.int x, .ref 0] sgX5_reaches_0_8bcf7d rfl ?_
  exact am_xV hF hX [.int x] [] (c_findList_x hG hn hn10 hx) myX5_findList vyX5_findList lm_RX5_64 (hp_main _ _ _) rfl rfl ⟨Nat.le_of_ble_eq_true rfl, Nat.le_of_ble_eq_true rfl, Nat.le_of_ble_eq_true rfl, Nat.le_of_ble_eq_true rfl⟩ rfl (Nat.le_of_ble_eq_true rfl) dX5_reaches_2
set_option maxRecDepth 100000 in
set_option maxHeartbeats 4000000 in
theorem c_p_reaches_n {G : am_S} {T S : am_T} {o : Nat → Int64} {n : Nat} (hn : T 0 0 = nI n) (hn10 : n ≤ 10) {l : Nat} (hl : l < n) : am_D G yX5_reaches (.code yX5_reaches cX5_reaches 2 (some .int) :: am_G) { frames := 2, cells := 0, slots := 0, locals := 45 } (hp T S o) [.ref 0, .int (nI l)] (hp T S o) (some (.int (tMem T n (tDown T n l)))) := by
  refine am_of (by decide +kernel) (Nat.le_of_ble_eq_true rfl) ?_
  intro C hse hret hname hF hO
  subst hse
  refine am_go hF sgX5_reaches_0_8bcf7 2 [(0, .ref 0), (1, .int (nI l))] [.int (nI l), .ref 0] sgX5_reaches_0_8bcf7d rfl ?_
  refine am_dV hF hO [.int (nI l)] [] (c_findList (T := T) hn hn10 (show l < n by omega)) myX5_findList vyX5_findList lm_RX5_64 (hp_main _ _ _) rfl rfl 0 0 ⟨Nat.le_of_ble_eq_true rfl, Nat.le_of_ble_eq_true rfl⟩ ⟨Nat.le_of_ble_eq_true rfl, Nat.le_of_ble_eq_true rfl, Nat.le_of_ble_eq_true rfl, Nat.le_of_ble_eq_true rfl⟩ rfl (am_lv_ref (hp_main _ _ _) (am_lv_int am_lv_nil)) (Nat.le_of_ble_eq_true rfl) dX5_reaches_2 [.ref (48 + l)] rfl ?_
  refine am_go hF sgX5_reaches_5_e08cf 9 [(0, .ref 0), (1, .int (nI l))] [.int (nI l), .ref 0, .ref 0] sgX5_reaches_5_e08cfd rfl ?_
  refine am_dV hF hO [.int (nI l)] [.ref 0] (c_listsDown (T := T) hn hn10 (show l < n by omega)) myX5_listsDown vyX5_listsDown lm_RX5_107 (hp_main _ _ _) rfl rfl 0 0 ⟨Nat.le_of_ble_eq_true rfl, Nat.le_of_ble_eq_true rfl⟩ ⟨Nat.le_of_ble_eq_true rfl, Nat.le_of_ble_eq_true rfl, Nat.le_of_ble_eq_true rfl, Nat.le_of_ble_eq_true rfl⟩ rfl (am_lv_ref (hp_main _ _ _) (am_lv_int (am_lv_ref (hp_main _ _ _) am_lv_nil))) (Nat.le_of_ble_eq_true rfl) dX5_reaches_9 [.int (tDown T n l), .ref 0] rfl ?_
  refine am_dV hF hO [.int (tDown T n l)] [] (c_t_membersOf (T := T) hn hn10) myX5_membersOf vyX5_membersOf lm_RX5_140 (hp_main _ _ _) rfl rfl 0 0 ⟨Nat.le_of_ble_eq_true rfl, Nat.le_of_ble_eq_true rfl⟩ ⟨Nat.le_of_ble_eq_true rfl, Nat.le_of_ble_eq_true rfl, Nat.le_of_ble_eq_true rfl, Nat.le_of_ble_eq_true rfl⟩ rfl (am_lv_ref (hp_main _ _ _) (am_lv_int am_lv_nil)) (Nat.le_of_ble_eq_true rfl) dX5_reaches_12 [.int (tMem T n (tDown T n l))] rfl ?_
  exact am_iret hF hO hret rfl dX5_reaches_15 ⟨rfl, rfl⟩
set_option maxRecDepth 100000 in
set_option maxHeartbeats 4000000 in
theorem c_p_reachesByMembers_1 {G : am_S} (hG : G.1.stackTraces = false) {T S : am_T} {o : Nat → Int64} {n : Nat} (hn : T 0 0 = nI n) (hn10 : n ≤ 10) {x : Int32} (hx : x < 0 ∨ nI n ≤ x) : am_XD G yX5_reachesByMembers (.code yX5_reachesByMembers cX5_reachesByMembers 4 (some .int) :: am_G) { frames := 8, cells := 1, slots := 6, locals := 135 } (hp T S o) [.ref 0, .int x] am_E1 := by
  refine am_ofX (by decide +kernel) (Nat.le_of_ble_eq_true rfl) ?_
  intro C hse hret hname hF hX
  subst hse
  have hO := hX.1
  refine am_go hF sgX5_reachesByMembers_0_8bcf7 2 [(0, .ref 0), (1, .int x)] [.int x, .ref 0] sgX5_reachesByMembers_0_8bcf7d rfl ?_
  exact am_xV hF hX [.int x] [] (c_findList_x hG hn hn10 hx) myX5_findList vyX5_findList lm_RX5_64 (hp_main _ _ _) rfl rfl ⟨Nat.le_of_ble_eq_true rfl, Nat.le_of_ble_eq_true rfl, Nat.le_of_ble_eq_true rfl, Nat.le_of_ble_eq_true rfl⟩ rfl (Nat.le_of_ble_eq_true rfl) dX5_reachesByMembers_2
set_option maxRecDepth 100000 in
set_option maxHeartbeats 4000000 in
theorem c_p_reachesByMembers_n {G : am_S} {T S : am_T} {o : Nat → Int64} {n : Nat} (hn : T 0 0 = nI n) (hn10 : n ≤ 10) {l : Nat} (hl : l < n) : am_D G yX5_reachesByMembers (.code yX5_reachesByMembers cX5_reachesByMembers 4 (some .int) :: am_G) { frames := 2, cells := 0, slots := 0, locals := 44 } (hp T S o) [.ref 0, .int (nI l)] (hp T S o) (some (.int (tRbm T n l))) := by
  refine am_of (by decide +kernel) (Nat.le_of_ble_eq_true rfl) ?_
  intro C hse hret hname hF hO
  subst hse
  refine am_go hF sgX5_reachesByMembers_0_8bcf7 2 [(0, .ref 0), (1, .int (nI l))] [.int (nI l), .ref 0] sgX5_reachesByMembers_0_8bcf7d rfl ?_
  refine am_dV hF hO [.int (nI l)] [] (c_findList (T := T) hn hn10 (show l < n by omega)) myX5_findList vyX5_findList lm_RX5_64 (hp_main _ _ _) rfl rfl 0 0 ⟨Nat.le_of_ble_eq_true rfl, Nat.le_of_ble_eq_true rfl⟩ ⟨Nat.le_of_ble_eq_true rfl, Nat.le_of_ble_eq_true rfl, Nat.le_of_ble_eq_true rfl, Nat.le_of_ble_eq_true rfl⟩ rfl (am_lv_ref (hp_main _ _ _) (am_lv_int am_lv_nil)) (Nat.le_of_ble_eq_true rfl) dX5_reachesByMembers_2 [.ref (48 + l)] rfl ?_
  refine am_go hF sgX5_reachesByMembers_5_7f12a 10 [(3, .int 0), (2, .int 0), (0, .ref 0), (1, .int (nI l))] [] sgX5_reachesByMembers_5_7f12ad rfl ?_
  refine am_drop [2, 3, 1, 0] [(0, .ref 0), (1, .int (nI l)), (2, .int 0), (3, .int 0)] rfl ?_
  have lp10 : ∀ (zz j : Nat) (a : Int32), j + zz = n → a = itN (trb T n l) 0 j → am_W C (hp T S o) 0 0 10 [(0, .ref 0), (1, .int (nI l)), (2, .int a), (3, .int (nI j))] [] := by
    intro zz
    induction zz with
    | zero =>
      intro j a hj ha
      have e9j : j = n := by omega
      refine am_go hF sgX5_reachesByMembers_10_a1b5b 12 [(0, .ref 0), (1, .int (nI l)), (2, .int a), (3, .int (nI j))] [.ref 0, .int (nI j)] sgX5_reachesByMembers_10_a1b5bd rfl ?_
      refine am_getf hF (hp_main T S o) (T := TX5) (N := 9) rfl (inG 5 inG5) 3 (by decide) (List.mem_cons_of_mem _ lf_RX5_25) rfl (.int (T 0 0)) rfl dX5_reachesByMembers_12 ?_
      refine am_top (nI n) hn ?_
      refine am_icmpge hF 48 dX5_reachesByMembers_15 (by decide) (fun _ => ?_) (fun h9 => False.elim (absurd (nc_ge (show n ≤ j by omega) (by omega) (by omega) rfl rfl) h9))
      refine am_go hF sgX5_reachesByMembers_48_f8a59 49 [(0, .ref 0), (1, .int (nI l)), (2, .int a), (3, .int (nI j))] [.int a] sgX5_reachesByMembers_48_f8a59d rfl ?_
      exact am_iret hF hO hret rfl dX5_reachesByMembers_49 ⟨rfl, (by first | (rw [ha, e9j]; done) | (rw [ha, e9j]; rfl))⟩
    | succ zz ih10 =>
      intro j a hj ha
      have l9j : j < n := by omega
      refine am_go hF sgX5_reachesByMembers_10_a1b5b 12 [(0, .ref 0), (1, .int (nI l)), (2, .int a), (3, .int (nI j))] [.ref 0, .int (nI j)] sgX5_reachesByMembers_10_a1b5bd rfl ?_
      refine am_getf hF (hp_main T S o) (T := TX5) (N := 9) rfl (inG 5 inG5) 3 (by decide) (List.mem_cons_of_mem _ lf_RX5_25) rfl (.int (T 0 0)) rfl dX5_reachesByMembers_12 ?_
      refine am_top (nI n) hn ?_
      refine am_icmpge hF 48 dX5_reachesByMembers_15 (by decide) (fun h9 => False.elim (nc_lt_f (show j < n by omega) (by omega) (by omega) rfl rfl h9)) (fun _ => ?_)
      refine am_go hF sgX5_reachesByMembers_18_245fd 20 [(0, .ref 0), (1, .int (nI l)), (2, .int a), (3, .int (nI j))] [.int (nI j), .ref 0] sgX5_reachesByMembers_18_245fdd rfl ?_
      refine am_dV hF hO [.int (nI j)] [] (c_listsUp (T := T) hn hn10 (show j < n by omega)) myX5_listsUp vyX5_listsUp lm_RX5_143 (hp_main _ _ _) rfl rfl 0 0 ⟨Nat.le_of_ble_eq_true rfl, Nat.le_of_ble_eq_true rfl⟩ ⟨Nat.le_of_ble_eq_true rfl, Nat.le_of_ble_eq_true rfl, Nat.le_of_ble_eq_true rfl, Nat.le_of_ble_eq_true rfl⟩ rfl (am_lv_ref (hp_main _ _ _) (am_lv_int (am_lv_int (am_lv_int am_lv_nil)))) (Nat.le_of_ble_eq_true rfl) dX5_reachesByMembers_20 [.int (tUp T n j)] rfl ?_
      refine am_go hF sgX5_reachesByMembers_23_840bf 24 [(0, .ref 0), (1, .int (nI l)), (2, .int a), (3, .int (nI j))] [.int (nI l), .int (tUp T n j)] sgX5_reachesByMembers_23_840bfd rfl ?_
      refine am_dS hF hO [.int (tUp T n j), .int (nI l)] [] (c_contains (show l < 32 by omega)) myX5_contains syX5_contains lm_RX5_103 rfl 0 0 ⟨Nat.le_of_ble_eq_true rfl, Nat.le_of_ble_eq_true rfl⟩ ⟨Nat.le_of_ble_eq_true rfl, Nat.le_of_ble_eq_true rfl, Nat.le_of_ble_eq_true rfl, Nat.le_of_ble_eq_true rfl⟩ rfl (am_lv_ref (hp_main _ _ _) (am_lv_int (am_lv_int (am_lv_int am_lv_nil)))) (Nat.le_of_ble_eq_true rfl) dX5_reachesByMembers_24 [.int (zb (bt (tUp T n j) l))] rfl ?_
      refine am_ifeq hF 42 dX5_reachesByMembers_27 (by decide) (fun c3 => ?_) (fun c3 => ?_)
      · skip
        replace c3 := zb_0.mp c3
        refine am_go hF sgX5_reachesByMembers_42_63303 10 [(3, .int ((nI j) + 1)), (0, .ref 0), (1, .int (nI l)), (2, .int a)] [] sgX5_reachesByMembers_42_63303d rfl ?_
        refine am_drop [1, 2, 3, 0] [(0, .ref 0), (1, .int (nI l)), (2, .int a), (3, .int ((nI j) + 1))] rfl ?_
        refine am_eqL [(0, .ref 0), (1, .int (nI l)), (2, .int a), (3, .int (nI (j + 1)))] (by rw [nI_1]) ?_
        exact ih10 (j + 1) a (by omega) (by show _ = trb T n l j (itN (trb T n l) 0 j); rw [← ha]; simp only [trb, Bool.false_eq_true, not_false_eq_true, not_true_eq_false, and_self, and_true, true_and, and_false, false_and, true_or, or_true, or_false, false_or, or_self, c3, ↓reduceIte])
      · skip
        replace c3 := zb_p.mp c3
        refine am_go hF sgX5_reachesByMembers_30_14491 32 [(0, .ref 0), (1, .int (nI l)), (2, .int a), (3, .int (nI j))] [.ref 0, .int a] sgX5_reachesByMembers_30_14491d rfl ?_
        refine am_getf hF (hp_main T S o) (T := TX5) (N := 9) rfl (inG 5 inG5) 2 (by decide) (List.mem_cons_of_mem _ lf_RX5_21) rfl (.ref 3) rfl dX5_reachesByMembers_32 ?_
        refine am_go hF sgX5_reachesByMembers_35_13b50 36 [(0, .ref 0), (1, .int (nI l)), (2, .int a), (3, .int (nI j))] [.int (nI j), .ref 3, .int a] sgX5_reachesByMembers_35_13b50d rfl ?_
        refine cv_lists hF hn hn10 j rfl (show j < n by omega) dX5_reachesByMembers_36 ?_
        refine am_getf hF (hp_list T S o hn hn10 (show j < n by omega)) (T := TX2) (N := 8) rfl (inG 2 inG2) 1 (by decide) (List.mem_cons_of_mem _ lf_RX5_81) rfl (.int (T 11 j)) rfl dX5_reachesByMembers_37 ?_
        refine am_go hF sgX5_reachesByMembers_40_3dae4 10 [(3, .int ((nI j) + 1)), (2, .int (a ||| (T 11 j))), (0, .ref 0), (1, .int (nI l))] [] sgX5_reachesByMembers_40_3dae4d rfl ?_
        refine am_drop [2, 3, 1, 0] [(0, .ref 0), (1, .int (nI l)), (2, .int (a ||| (T 11 j))), (3, .int ((nI j) + 1))] rfl ?_
        refine am_eqL [(0, .ref 0), (1, .int (nI l)), (2, .int (a ||| (T 11 j))), (3, .int (nI (j + 1)))] (by rw [nI_1]) ?_
        exact ih10 (j + 1) (a ||| (T 11 j)) (by omega) (by show _ = trb T n l j (itN (trb T n l) 0 j); rw [← ha]; simp only [trb, Bool.false_eq_true, not_false_eq_true, not_true_eq_false, and_self, and_true, true_and, and_false, false_and, true_or, or_true, or_false, false_or, or_self, c3, ↓reduceIte])
  exact lp10 n 0 0 (by omega) rfl
set_option maxRecDepth 100000 in
set_option maxHeartbeats 4000000 in
theorem c_p_modeOf_1a {G : am_S} (hG : G.1.stackTraces = false) {T S : am_T} {o : Nat → Int64} {n : Nat} (hn : T 0 0 = nI n) (hn10 : n ≤ 10) {x : Int32} (hx : x < 0 ∨ nI n ≤ x) {y : Int32} : am_XD G yX5_modeOf (.code yX5_modeOf cX5_modeOf 3 (some .int) :: am_G) { frames := 8, cells := 1, slots := 6, locals := 135 } (hp T S o) [.ref 0, .int x, .int y] am_E1 := by
  refine am_ofX (by decide +kernel) (Nat.le_of_ble_eq_true rfl) ?_
  intro C hse hret hname hF hX
  subst hse
  have hO := hX.1
  refine am_go hF sgX5_modeOf_0_8bcf7 2 [(0, .ref 0), (1, .int x), (2, .int y)] [.int x, .ref 0] sgX5_modeOf_0_8bcf7d rfl ?_
  exact am_xV hF hX [.int x] [] (c_findList_x hG hn hn10 hx) myX5_findList vyX5_findList lm_RX5_64 (hp_main _ _ _) rfl rfl ⟨Nat.le_of_ble_eq_true rfl, Nat.le_of_ble_eq_true rfl, Nat.le_of_ble_eq_true rfl, Nat.le_of_ble_eq_true rfl⟩ rfl (Nat.le_of_ble_eq_true rfl) dX5_modeOf_2
set_option maxRecDepth 100000 in
set_option maxHeartbeats 4000000 in
theorem c_p_modeOf_1b {G : am_S} (hG : G.1.stackTraces = false) {T S : am_T} {o : Nat → Int64} {n : Nat} (hn : T 0 0 = nI n) (hn10 : n ≤ 10) {l : Nat} (hl : l < n) {y : Int32} (hy : y < 0 ∨ nI 16 ≤ y) : am_XD G yX5_modeOf (.code yX5_modeOf cX5_modeOf 3 (some .int) :: am_G) { frames := 8, cells := 1, slots := 6, locals := 135 } (hp T S o) [.ref 0, .int (nI l), .int y] am_E1 := by
  refine am_ofX (by decide +kernel) (Nat.le_of_ble_eq_true rfl) ?_
  intro C hse hret hname hF hX
  subst hse
  have hO := hX.1
  refine am_go hF sgX5_modeOf_0_8bcf7 2 [(0, .ref 0), (1, .int (nI l)), (2, .int y)] [.int (nI l), .ref 0] sgX5_modeOf_0_8bcf7d rfl ?_
  refine am_dV hF hO [.int (nI l)] [] (c_findList (T := T) hn hn10 (show l < n by omega)) myX5_findList vyX5_findList lm_RX5_64 (hp_main _ _ _) rfl rfl 0 0 ⟨Nat.le_of_ble_eq_true rfl, Nat.le_of_ble_eq_true rfl⟩ ⟨Nat.le_of_ble_eq_true rfl, Nat.le_of_ble_eq_true rfl, Nat.le_of_ble_eq_true rfl, Nat.le_of_ble_eq_true rfl⟩ rfl (am_lv_ref (hp_main _ _ _) (am_lv_int (am_lv_int am_lv_nil))) (Nat.le_of_ble_eq_true rfl) dX5_modeOf_2 [.ref (48 + l)] rfl ?_
  refine am_go hF sgX5_modeOf_5_9358b 7 [(0, .ref 0), (1, .int (nI l)), (2, .int y)] [.int y] sgX5_modeOf_5_9358bd rfl ?_
  exact am_xS hF hX [.int y] [] (c_checkPerson_x hG hy) myX5_checkPerson syX5_checkPerson lm_RX5_51 rfl ⟨Nat.le_of_ble_eq_true rfl, Nat.le_of_ble_eq_true rfl, Nat.le_of_ble_eq_true rfl, Nat.le_of_ble_eq_true rfl⟩ rfl (Nat.le_of_ble_eq_true rfl) dX5_modeOf_7
set_option maxRecDepth 100000 in
set_option maxHeartbeats 4000000 in
theorem c_p_modeOf_n {G : am_S} {T S : am_T} {o : Nat → Int64} {n : Nat} (hn : T 0 0 = nI n) (hn10 : n ≤ 10) {l : Nat} (hl : l < n) {p : Nat} (hp9 : p < 16) : am_D G yX5_modeOf (.code yX5_modeOf cX5_modeOf 3 (some .int) :: am_G) { frames := 3, cells := 0, slots := 0, locals := 66 } (hp T S o) [.ref 0, .int (nI l), .int (nI p)] (hp T S o) (some (.int (tMode T n (tDown T n l) p))) := by
  refine am_of (by decide +kernel) (Nat.le_of_ble_eq_true rfl) ?_
  intro C hse hret hname hF hO
  subst hse
  refine am_go hF sgX5_modeOf_0_8bcf7 2 [(0, .ref 0), (1, .int (nI l)), (2, .int (nI p))] [.int (nI l), .ref 0] sgX5_modeOf_0_8bcf7d rfl ?_
  refine am_dV hF hO [.int (nI l)] [] (c_findList (T := T) hn hn10 (show l < n by omega)) myX5_findList vyX5_findList lm_RX5_64 (hp_main _ _ _) rfl rfl 0 0 ⟨Nat.le_of_ble_eq_true rfl, Nat.le_of_ble_eq_true rfl⟩ ⟨Nat.le_of_ble_eq_true rfl, Nat.le_of_ble_eq_true rfl, Nat.le_of_ble_eq_true rfl, Nat.le_of_ble_eq_true rfl⟩ rfl (am_lv_ref (hp_main _ _ _) (am_lv_int (am_lv_int am_lv_nil))) (Nat.le_of_ble_eq_true rfl) dX5_modeOf_2 [.ref (48 + l)] rfl ?_
  refine am_go hF sgX5_modeOf_5_9358b 7 [(0, .ref 0), (1, .int (nI l)), (2, .int (nI p))] [.int (nI p)] sgX5_modeOf_5_9358bd rfl ?_
  refine am_dS hF hO [.int (nI p)] [] (c_checkPerson (show p < 16 by omega)) myX5_checkPerson syX5_checkPerson lm_RX5_51 rfl 0 0 ⟨Nat.le_of_ble_eq_true rfl, Nat.le_of_ble_eq_true rfl⟩ ⟨Nat.le_of_ble_eq_true rfl, Nat.le_of_ble_eq_true rfl, Nat.le_of_ble_eq_true rfl, Nat.le_of_ble_eq_true rfl⟩ rfl (am_lv_ref (hp_main _ _ _) (am_lv_int (am_lv_int am_lv_nil))) (Nat.le_of_ble_eq_true rfl) dX5_modeOf_7 [] rfl ?_
  refine am_go hF sgX5_modeOf_10_6b3ba 13 [(0, .ref 0), (1, .int (nI l)), (2, .int (nI p))] [.int (nI l), .ref 0, .ref 0] sgX5_modeOf_10_6b3bad rfl ?_
  refine am_dV hF hO [.int (nI l)] [.ref 0] (c_listsDown (T := T) hn hn10 (show l < n by omega)) myX5_listsDown vyX5_listsDown lm_RX5_107 (hp_main _ _ _) rfl rfl 0 0 ⟨Nat.le_of_ble_eq_true rfl, Nat.le_of_ble_eq_true rfl⟩ ⟨Nat.le_of_ble_eq_true rfl, Nat.le_of_ble_eq_true rfl, Nat.le_of_ble_eq_true rfl, Nat.le_of_ble_eq_true rfl⟩ rfl (am_lv_ref (hp_main _ _ _) (am_lv_int (am_lv_int (am_lv_ref (hp_main _ _ _) am_lv_nil)))) (Nat.le_of_ble_eq_true rfl) dX5_modeOf_13 [.int (tDown T n l), .ref 0] rfl ?_
  refine am_go hF sgX5_modeOf_16_f8a59 17 [(0, .ref 0), (1, .int (nI l)), (2, .int (nI p))] [.int (nI p), .int (tDown T n l), .ref 0] sgX5_modeOf_16_f8a59d rfl ?_
  refine am_dV hF hO [.int (tDown T n l), .int (nI p)] [] (c_modeAmong (T := T) hn hn10 (show p < 16 by omega)) myX5_modeAmong vyX5_modeAmong lm_RX5_146 (hp_main _ _ _) rfl rfl 0 0 ⟨Nat.le_of_ble_eq_true rfl, Nat.le_of_ble_eq_true rfl⟩ ⟨Nat.le_of_ble_eq_true rfl, Nat.le_of_ble_eq_true rfl, Nat.le_of_ble_eq_true rfl, Nat.le_of_ble_eq_true rfl⟩ rfl (am_lv_ref (hp_main _ _ _) (am_lv_int (am_lv_int am_lv_nil))) (Nat.le_of_ble_eq_true rfl) dX5_modeOf_17 [.int (tMode T n (tDown T n l) p)] rfl ?_
  exact am_iret hF hO hret rfl dX5_modeOf_20 ⟨rfl, rfl⟩
set_option maxRecDepth 100000 in
set_option maxHeartbeats 4000000 in
theorem c_p_approve_1 {G : am_S} (hG : G.1.stackTraces = false) {T S : am_T} {o : Nat → Int64} {m : Nat} (hm : T 1 0 = nI m) (hm80 : m ≤ 80) {x : Int32} (hx : x < 0 ∨ nI m ≤ x) : am_XD G yX5_approve (.code yX5_approve cX5_approve 3 (some .int) :: am_G) { frames := 8, cells := 1, slots := 6, locals := 135 } (hp T S o) [.ref 0, .int x] am_E1 := by
  refine am_ofX (by decide +kernel) (Nat.le_of_ble_eq_true rfl) ?_
  intro C hse hret hname hF hX
  subst hse
  have hO := hX.1
  refine am_go hF sgX5_approve_0_8bcf7 2 [(0, .ref 0), (1, .int x)] [.int x, .ref 0] sgX5_approve_0_8bcf7d rfl ?_
  exact am_xV hF hX [.int x] [] (c_findMail_x hG hm hm80 hx) myX5_findMail vyX5_findMail lm_RX5_150 (hp_main _ _ _) rfl rfl ⟨Nat.le_of_ble_eq_true rfl, Nat.le_of_ble_eq_true rfl, Nat.le_of_ble_eq_true rfl, Nat.le_of_ble_eq_true rfl⟩ rfl (Nat.le_of_ble_eq_true rfl) dX5_approve_2
set_option maxRecDepth 100000 in
set_option maxHeartbeats 4000000 in
theorem c_p_approve_2 {G : am_S} (hG : G.1.stackTraces = false) {T S : am_T} {o : Nat → Int64} {m : Nat} (hm : T 1 0 = nI m) (hm80 : m ≤ 80) {k : Nat} (hk : k < m) (h : ¬ T 25 k = 1 ∨ (T 28 k = 1 ∧ ¬ T 32 k = 0)) : am_XD G yX5_approve (.code yX5_approve cX5_approve 3 (some .int) :: am_G) { frames := 8, cells := 1, slots := 6, locals := 135 } (hp T S o) [.ref 0, .int (nI k)] am_E2 := by
  refine am_ofX (by decide +kernel) (Nat.le_of_ble_eq_true rfl) ?_
  intro C hse hret hname hF hX
  subst hse
  have hO := hX.1
  refine am_go hF sgX5_approve_0_8bcf7 2 [(0, .ref 0), (1, .int (nI k))] [.int (nI k), .ref 0] sgX5_approve_0_8bcf7d rfl ?_
  refine am_dV hF hO [.int (nI k)] [] (c_findMail (T := T) hm hm80 (show k < m by omega)) myX5_findMail vyX5_findMail lm_RX5_150 (hp_main _ _ _) rfl rfl 0 0 ⟨Nat.le_of_ble_eq_true rfl, Nat.le_of_ble_eq_true rfl⟩ ⟨Nat.le_of_ble_eq_true rfl, Nat.le_of_ble_eq_true rfl, Nat.le_of_ble_eq_true rfl, Nat.le_of_ble_eq_true rfl⟩ rfl (am_lv_ref (hp_main _ _ _) (am_lv_int am_lv_nil)) (Nat.le_of_ble_eq_true rfl) dX5_approve_2 [.ref (64 + k)] rfl ?_
  refine am_go hF sgX5_approve_5_b4dfd 7 [(2, .ref (64 + k)), (0, .ref 0), (1, .int (nI k))] [.ref (64 + k)] sgX5_approve_5_b4dfdd rfl ?_
  exact am_xS hF hX [.ref (64 + k)] [] (c_checkLister_x hG hm hm80 (show k < m by omega) h) myX5_checkListerMayDecide syX5_checkListerMayDecide lm_RX5_174 rfl ⟨Nat.le_of_ble_eq_true rfl, Nat.le_of_ble_eq_true rfl, Nat.le_of_ble_eq_true rfl, Nat.le_of_ble_eq_true rfl⟩ rfl (Nat.le_of_ble_eq_true rfl) dX5_approve_7
set_option maxRecDepth 100000 in
set_option maxHeartbeats 4000000 in
theorem c_p_refuse_1 {G : am_S} (hG : G.1.stackTraces = false) {T S : am_T} {o : Nat → Int64} {m : Nat} (hm : T 1 0 = nI m) (hm80 : m ≤ 80) {x : Int32} (hx : x < 0 ∨ nI m ≤ x) : am_XD G yX5_refuse (.code yX5_refuse cX5_refuse 3 (some .int) :: am_G) { frames := 8, cells := 1, slots := 6, locals := 135 } (hp T S o) [.ref 0, .int x] am_E1 := by
  refine am_ofX (by decide +kernel) (Nat.le_of_ble_eq_true rfl) ?_
  intro C hse hret hname hF hX
  subst hse
  have hO := hX.1
  refine am_go hF sgX5_refuse_0_8bcf7 2 [(0, .ref 0), (1, .int x)] [.int x, .ref 0] sgX5_refuse_0_8bcf7d rfl ?_
  exact am_xV hF hX [.int x] [] (c_findMail_x hG hm hm80 hx) myX5_findMail vyX5_findMail lm_RX5_150 (hp_main _ _ _) rfl rfl ⟨Nat.le_of_ble_eq_true rfl, Nat.le_of_ble_eq_true rfl, Nat.le_of_ble_eq_true rfl, Nat.le_of_ble_eq_true rfl⟩ rfl (Nat.le_of_ble_eq_true rfl) dX5_refuse_2
set_option maxRecDepth 100000 in
set_option maxHeartbeats 4000000 in
theorem c_p_refuse_2 {G : am_S} (hG : G.1.stackTraces = false) {T S : am_T} {o : Nat → Int64} {m : Nat} (hm : T 1 0 = nI m) (hm80 : m ≤ 80) {k : Nat} (hk : k < m) (h : ¬ T 25 k = 1 ∨ (T 28 k = 1 ∧ ¬ T 32 k = 0)) : am_XD G yX5_refuse (.code yX5_refuse cX5_refuse 3 (some .int) :: am_G) { frames := 8, cells := 1, slots := 6, locals := 135 } (hp T S o) [.ref 0, .int (nI k)] am_E2 := by
  refine am_ofX (by decide +kernel) (Nat.le_of_ble_eq_true rfl) ?_
  intro C hse hret hname hF hX
  subst hse
  have hO := hX.1
  refine am_go hF sgX5_refuse_0_8bcf7 2 [(0, .ref 0), (1, .int (nI k))] [.int (nI k), .ref 0] sgX5_refuse_0_8bcf7d rfl ?_
  refine am_dV hF hO [.int (nI k)] [] (c_findMail (T := T) hm hm80 (show k < m by omega)) myX5_findMail vyX5_findMail lm_RX5_150 (hp_main _ _ _) rfl rfl 0 0 ⟨Nat.le_of_ble_eq_true rfl, Nat.le_of_ble_eq_true rfl⟩ ⟨Nat.le_of_ble_eq_true rfl, Nat.le_of_ble_eq_true rfl, Nat.le_of_ble_eq_true rfl, Nat.le_of_ble_eq_true rfl⟩ rfl (am_lv_ref (hp_main _ _ _) (am_lv_int am_lv_nil)) (Nat.le_of_ble_eq_true rfl) dX5_refuse_2 [.ref (64 + k)] rfl ?_
  refine am_go hF sgX5_refuse_5_b4dfd 7 [(2, .ref (64 + k)), (0, .ref 0), (1, .int (nI k))] [.ref (64 + k)] sgX5_refuse_5_b4dfdd rfl ?_
  exact am_xS hF hX [.ref (64 + k)] [] (c_checkLister_x hG hm hm80 (show k < m by omega) h) myX5_checkListerMayDecide syX5_checkListerMayDecide lm_RX5_174 rfl ⟨Nat.le_of_ble_eq_true rfl, Nat.le_of_ble_eq_true rfl, Nat.le_of_ble_eq_true rfl, Nat.le_of_ble_eq_true rfl⟩ rfl (Nat.le_of_ble_eq_true rfl) dX5_refuse_7
set_option maxRecDepth 100000 in
set_option maxHeartbeats 4000000 in
theorem c_p_refuse_n {G : am_S} {T S : am_T} {o : Nat → Int64} {m : Nat} (hm : T 1 0 = nI m) (hm80 : m ≤ 80) {k : Nat} (hk : k < m) (h25 : T 25 k = 1) (ho : ¬ (T 28 k = 1 ∧ ¬ T 32 k = 0)) : am_D G yX5_refuse (.code yX5_refuse cX5_refuse 3 (some .int) :: am_G) { frames := 2, cells := 0, slots := 0, locals := 40 } (hp T S o) [.ref 0, .int (nI k)] (hp (st1 T 25 k 3) S o) (some (.int (T 22 k))) := by
  refine am_of (by decide +kernel) (Nat.le_of_ble_eq_true rfl) ?_
  intro C hse hret hname hF hO
  subst hse
  refine am_go hF sgX5_refuse_0_8bcf7 2 [(0, .ref 0), (1, .int (nI k))] [.int (nI k), .ref 0] sgX5_refuse_0_8bcf7d rfl ?_
  refine am_dV hF hO [.int (nI k)] [] (c_findMail (T := T) hm hm80 (show k < m by omega)) myX5_findMail vyX5_findMail lm_RX5_150 (hp_main _ _ _) rfl rfl 0 0 ⟨Nat.le_of_ble_eq_true rfl, Nat.le_of_ble_eq_true rfl⟩ ⟨Nat.le_of_ble_eq_true rfl, Nat.le_of_ble_eq_true rfl, Nat.le_of_ble_eq_true rfl, Nat.le_of_ble_eq_true rfl⟩ rfl (am_lv_ref (hp_main _ _ _) (am_lv_int am_lv_nil)) (Nat.le_of_ble_eq_true rfl) dX5_refuse_2 [.ref (64 + k)] rfl ?_
  refine am_go hF sgX5_refuse_5_b4dfd 7 [(2, .ref (64 + k)), (0, .ref 0), (1, .int (nI k))] [.ref (64 + k)] sgX5_refuse_5_b4dfdd rfl ?_
  refine am_dS hF hO [.ref (64 + k)] [] (c_checkLister (T := T) hm hm80 (show k < m by omega) h25 ho) myX5_checkListerMayDecide syX5_checkListerMayDecide lm_RX5_174 rfl 0 0 ⟨Nat.le_of_ble_eq_true rfl, Nat.le_of_ble_eq_true rfl⟩ ⟨Nat.le_of_ble_eq_true rfl, Nat.le_of_ble_eq_true rfl, Nat.le_of_ble_eq_true rfl, Nat.le_of_ble_eq_true rfl⟩ rfl (am_lv_ref (hp_mail _ _ _ hm hm80 (show k < m by omega)) (am_lv_ref (hp_main _ _ _) (am_lv_int am_lv_nil))) (Nat.le_of_ble_eq_true rfl) dX5_refuse_7 [] rfl ?_
  refine am_go hF sgX5_refuse_10_47b34 12 [(2, .ref (64 + k)), (0, .ref 0), (1, .int (nI k))] [.int 3, .ref (64 + k)] sgX5_refuse_10_47b34d rfl ?_
  refine am_putf hF (hp_mail T S o hm hm80 (show k < m by omega)) (T := TX1) (N := 11) rfl (inG 1 inG1) tyX1 tyX1_ok nmX1 7 (by decide) (List.mem_cons_of_mem _ lf_RX5_183) rfl (Or.inl rfl) rfl rfl (Nat.le_of_ble_eq_true rfl) dX5_refuse_12 ?_
  refine am_eqX (hp (st1 T 25 k 3) S o) (hp_s25 (T := T) hm hm80 (show k < m by omega) 3) ?_
  refine am_go hF sgX5_refuse_15_9fb7d 16 [(2, .ref (64 + k)), (0, .ref 0), (1, .int (nI k))] [.ref (64 + k)] sgX5_refuse_15_9fb7dd rfl ?_
  refine am_getf hF (hp_mail (st1 T 25 k 3) S o hm hm80 (show k < m by omega)) (T := TX1) (N := 11) rfl (inG 1 inG1) 4 (by decide) (List.mem_cons_of_mem _ lf_RX5_186) rfl (.int (T 22 k)) rfl dX5_refuse_16 ?_
  exact am_iret hF hO hret rfl dX5_refuse_19 ⟨rfl, rfl⟩
set_option maxRecDepth 100000 in
set_option maxHeartbeats 4000000 in
theorem c_p_state_1 {G : am_S} (hG : G.1.stackTraces = false) {T S : am_T} {o : Nat → Int64} {m : Nat} (hm : T 1 0 = nI m) (hm80 : m ≤ 80) {x : Int32} (hx : x < 0 ∨ nI m ≤ x) : am_XD G yX5_state (.code yX5_state cX5_state 2 (some .int) :: am_G) { frames := 8, cells := 1, slots := 6, locals := 135 } (hp T S o) [.ref 0, .int x] am_E1 := by
  refine am_ofX (by decide +kernel) (Nat.le_of_ble_eq_true rfl) ?_
  intro C hse hret hname hF hX
  subst hse
  have hO := hX.1
  refine am_go hF sgX5_state_0_8bcf7 2 [(0, .ref 0), (1, .int x)] [.int x, .ref 0] sgX5_state_0_8bcf7d rfl ?_
  exact am_xV hF hX [.int x] [] (c_findMail_x hG hm hm80 hx) myX5_findMail vyX5_findMail lm_RX5_150 (hp_main _ _ _) rfl rfl ⟨Nat.le_of_ble_eq_true rfl, Nat.le_of_ble_eq_true rfl, Nat.le_of_ble_eq_true rfl, Nat.le_of_ble_eq_true rfl⟩ rfl (Nat.le_of_ble_eq_true rfl) dX5_state_2
set_option maxRecDepth 100000 in
set_option maxHeartbeats 4000000 in
theorem c_p_state_n {G : am_S} {T S : am_T} {o : Nat → Int64} {m : Nat} (hm : T 1 0 = nI m) (hm80 : m ≤ 80) {k : Nat} (hk : k < m) : am_D G yX5_state (.code yX5_state cX5_state 2 (some .int) :: am_G) { frames := 1, cells := 0, slots := 0, locals := 21 } (hp T S o) [.ref 0, .int (nI k)] (hp T S o) (some (.int (T 25 k))) := by
  refine am_of (by decide +kernel) (Nat.le_of_ble_eq_true rfl) ?_
  intro C hse hret hname hF hO
  subst hse
  refine am_go hF sgX5_state_0_8bcf7 2 [(0, .ref 0), (1, .int (nI k))] [.int (nI k), .ref 0] sgX5_state_0_8bcf7d rfl ?_
  refine am_dV hF hO [.int (nI k)] [] (c_findMail (T := T) hm hm80 (show k < m by omega)) myX5_findMail vyX5_findMail lm_RX5_150 (hp_main _ _ _) rfl rfl 0 0 ⟨Nat.le_of_ble_eq_true rfl, Nat.le_of_ble_eq_true rfl⟩ ⟨Nat.le_of_ble_eq_true rfl, Nat.le_of_ble_eq_true rfl, Nat.le_of_ble_eq_true rfl, Nat.le_of_ble_eq_true rfl⟩ rfl (am_lv_ref (hp_main _ _ _) (am_lv_int am_lv_nil)) (Nat.le_of_ble_eq_true rfl) dX5_state_2 [.ref (64 + k)] rfl ?_
  refine am_getf hF (hp_mail T S o hm hm80 (show k < m by omega)) (T := TX1) (N := 11) rfl (inG 1 inG1) 7 (by decide) (List.mem_cons_of_mem _ lf_RX5_183) rfl (.int (T 25 k)) rfl dX5_state_5 ?_
  exact am_iret hF hO hret rfl dX5_state_8 ⟨rfl, rfl⟩
set_option maxRecDepth 100000 in
set_option maxHeartbeats 4000000 in
theorem c_p_cause_1 {G : am_S} (hG : G.1.stackTraces = false) {T S : am_T} {o : Nat → Int64} {m : Nat} (hm : T 1 0 = nI m) (hm80 : m ≤ 80) {x : Int32} (hx : x < 0 ∨ nI m ≤ x) : am_XD G yX5_cause (.code yX5_cause cX5_cause 2 (some .int) :: am_G) { frames := 8, cells := 1, slots := 6, locals := 135 } (hp T S o) [.ref 0, .int x] am_E1 := by
  refine am_ofX (by decide +kernel) (Nat.le_of_ble_eq_true rfl) ?_
  intro C hse hret hname hF hX
  subst hse
  have hO := hX.1
  refine am_go hF sgX5_cause_0_8bcf7 2 [(0, .ref 0), (1, .int x)] [.int x, .ref 0] sgX5_cause_0_8bcf7d rfl ?_
  exact am_xV hF hX [.int x] [] (c_findMail_x hG hm hm80 hx) myX5_findMail vyX5_findMail lm_RX5_150 (hp_main _ _ _) rfl rfl ⟨Nat.le_of_ble_eq_true rfl, Nat.le_of_ble_eq_true rfl, Nat.le_of_ble_eq_true rfl, Nat.le_of_ble_eq_true rfl⟩ rfl (Nat.le_of_ble_eq_true rfl) dX5_cause_2
set_option maxRecDepth 100000 in
set_option maxHeartbeats 4000000 in
theorem c_p_cause_n {G : am_S} {T S : am_T} {o : Nat → Int64} {m : Nat} (hm : T 1 0 = nI m) (hm80 : m ≤ 80) {k : Nat} (hk : k < m) : am_D G yX5_cause (.code yX5_cause cX5_cause 2 (some .int) :: am_G) { frames := 1, cells := 0, slots := 0, locals := 21 } (hp T S o) [.ref 0, .int (nI k)] (hp T S o) (some (.int (T 23 k))) := by
  refine am_of (by decide +kernel) (Nat.le_of_ble_eq_true rfl) ?_
  intro C hse hret hname hF hO
  subst hse
  refine am_go hF sgX5_cause_0_8bcf7 2 [(0, .ref 0), (1, .int (nI k))] [.int (nI k), .ref 0] sgX5_cause_0_8bcf7d rfl ?_
  refine am_dV hF hO [.int (nI k)] [] (c_findMail (T := T) hm hm80 (show k < m by omega)) myX5_findMail vyX5_findMail lm_RX5_150 (hp_main _ _ _) rfl rfl 0 0 ⟨Nat.le_of_ble_eq_true rfl, Nat.le_of_ble_eq_true rfl⟩ ⟨Nat.le_of_ble_eq_true rfl, Nat.le_of_ble_eq_true rfl, Nat.le_of_ble_eq_true rfl, Nat.le_of_ble_eq_true rfl⟩ rfl (am_lv_ref (hp_main _ _ _) (am_lv_int am_lv_nil)) (Nat.le_of_ble_eq_true rfl) dX5_cause_2 [.ref (64 + k)] rfl ?_
  refine am_getf hF (hp_mail T S o hm hm80 (show k < m by omega)) (T := TX1) (N := 11) rfl (inG 1 inG1) 5 (by decide) (List.mem_cons_of_mem _ lf_RX5_230) rfl (.int (T 23 k)) rfl dX5_cause_5 ?_
  exact am_iret hF hO hret rfl dX5_cause_8 ⟨rfl, rfl⟩
set_option maxRecDepth 100000 in
set_option maxHeartbeats 4000000 in
theorem c_p_score_1 {G : am_S} (hG : G.1.stackTraces = false) {T S : am_T} {o : Nat → Int64} {m : Nat} (hm : T 1 0 = nI m) (hm80 : m ≤ 80) {x : Int32} (hx : x < 0 ∨ nI m ≤ x) : am_XD G yX5_score (.code yX5_score cX5_score 2 (some .int) :: am_G) { frames := 8, cells := 1, slots := 6, locals := 135 } (hp T S o) [.ref 0, .int x] am_E1 := by
  refine am_ofX (by decide +kernel) (Nat.le_of_ble_eq_true rfl) ?_
  intro C hse hret hname hF hX
  subst hse
  have hO := hX.1
  refine am_go hF sgX5_score_0_8bcf7 2 [(0, .ref 0), (1, .int x)] [.int x, .ref 0] sgX5_score_0_8bcf7d rfl ?_
  exact am_xV hF hX [.int x] [] (c_findMail_x hG hm hm80 hx) myX5_findMail vyX5_findMail lm_RX5_150 (hp_main _ _ _) rfl rfl ⟨Nat.le_of_ble_eq_true rfl, Nat.le_of_ble_eq_true rfl, Nat.le_of_ble_eq_true rfl, Nat.le_of_ble_eq_true rfl⟩ rfl (Nat.le_of_ble_eq_true rfl) dX5_score_2
set_option maxRecDepth 100000 in
set_option maxHeartbeats 4000000 in
theorem c_p_score_n {G : am_S} {T S : am_T} {o : Nat → Int64} {m : Nat} (hm : T 1 0 = nI m) (hm80 : m ≤ 80) {k : Nat} (hk : k < m) : am_D G yX5_score (.code yX5_score cX5_score 2 (some .int) :: am_G) { frames := 1, cells := 0, slots := 0, locals := 21 } (hp T S o) [.ref 0, .int (nI k)] (hp T S o) (some (.int (T 22 k))) := by
  refine am_of (by decide +kernel) (Nat.le_of_ble_eq_true rfl) ?_
  intro C hse hret hname hF hO
  subst hse
  refine am_go hF sgX5_score_0_8bcf7 2 [(0, .ref 0), (1, .int (nI k))] [.int (nI k), .ref 0] sgX5_score_0_8bcf7d rfl ?_
  refine am_dV hF hO [.int (nI k)] [] (c_findMail (T := T) hm hm80 (show k < m by omega)) myX5_findMail vyX5_findMail lm_RX5_150 (hp_main _ _ _) rfl rfl 0 0 ⟨Nat.le_of_ble_eq_true rfl, Nat.le_of_ble_eq_true rfl⟩ ⟨Nat.le_of_ble_eq_true rfl, Nat.le_of_ble_eq_true rfl, Nat.le_of_ble_eq_true rfl, Nat.le_of_ble_eq_true rfl⟩ rfl (am_lv_ref (hp_main _ _ _) (am_lv_int am_lv_nil)) (Nat.le_of_ble_eq_true rfl) dX5_score_2 [.ref (64 + k)] rfl ?_
  refine am_getf hF (hp_mail T S o hm hm80 (show k < m by omega)) (T := TX1) (N := 11) rfl (inG 1 inG1) 4 (by decide) (List.mem_cons_of_mem _ lf_RX5_186) rfl (.int (T 22 k)) rfl dX5_score_5 ?_
  exact am_iret hF hO hret rfl dX5_score_8 ⟨rfl, rfl⟩
set_option maxRecDepth 100000 in
set_option maxHeartbeats 4000000 in
theorem c_p_reached_1 {G : am_S} (hG : G.1.stackTraces = false) {T S : am_T} {o : Nat → Int64} {m : Nat} (hm : T 1 0 = nI m) (hm80 : m ≤ 80) {x : Int32} (hx : x < 0 ∨ nI m ≤ x) : am_XD G yX5_reached (.code yX5_reached cX5_reached 2 (some .int) :: am_G) { frames := 8, cells := 1, slots := 6, locals := 135 } (hp T S o) [.ref 0, .int x] am_E1 := by
  refine am_ofX (by decide +kernel) (Nat.le_of_ble_eq_true rfl) ?_
  intro C hse hret hname hF hX
  subst hse
  have hO := hX.1
  refine am_go hF sgX5_reached_0_8bcf7 2 [(0, .ref 0), (1, .int x)] [.int x, .ref 0] sgX5_reached_0_8bcf7d rfl ?_
  exact am_xV hF hX [.int x] [] (c_findMail_x hG hm hm80 hx) myX5_findMail vyX5_findMail lm_RX5_150 (hp_main _ _ _) rfl rfl ⟨Nat.le_of_ble_eq_true rfl, Nat.le_of_ble_eq_true rfl, Nat.le_of_ble_eq_true rfl, Nat.le_of_ble_eq_true rfl⟩ rfl (Nat.le_of_ble_eq_true rfl) dX5_reached_2
set_option maxRecDepth 100000 in
set_option maxHeartbeats 4000000 in
theorem c_p_reached_n {G : am_S} {T S : am_T} {o : Nat → Int64} {m : Nat} (hm : T 1 0 = nI m) (hm80 : m ≤ 80) {k : Nat} (hk : k < m) : am_D G yX5_reached (.code yX5_reached cX5_reached 2 (some .int) :: am_G) { frames := 1, cells := 0, slots := 0, locals := 21 } (hp T S o) [.ref 0, .int (nI k)] (hp T S o) (some (.int (T 26 k))) := by
  refine am_of (by decide +kernel) (Nat.le_of_ble_eq_true rfl) ?_
  intro C hse hret hname hF hO
  subst hse
  refine am_go hF sgX5_reached_0_8bcf7 2 [(0, .ref 0), (1, .int (nI k))] [.int (nI k), .ref 0] sgX5_reached_0_8bcf7d rfl ?_
  refine am_dV hF hO [.int (nI k)] [] (c_findMail (T := T) hm hm80 (show k < m by omega)) myX5_findMail vyX5_findMail lm_RX5_150 (hp_main _ _ _) rfl rfl 0 0 ⟨Nat.le_of_ble_eq_true rfl, Nat.le_of_ble_eq_true rfl⟩ ⟨Nat.le_of_ble_eq_true rfl, Nat.le_of_ble_eq_true rfl, Nat.le_of_ble_eq_true rfl, Nat.le_of_ble_eq_true rfl⟩ rfl (am_lv_ref (hp_main _ _ _) (am_lv_int am_lv_nil)) (Nat.le_of_ble_eq_true rfl) dX5_reached_2 [.ref (64 + k)] rfl ?_
  refine am_getf hF (hp_mail T S o hm hm80 (show k < m by omega)) (T := TX1) (N := 11) rfl (inG 1 inG1) 8 (by decide) (List.mem_cons_of_mem _ lf_RX5_180) rfl (.int (T 26 k)) rfl dX5_reached_5 ?_
  exact am_iret hF hO hret rfl dX5_reached_8 ⟨rfl, rfl⟩
set_option maxRecDepth 100000 in
set_option maxHeartbeats 4000000 in
theorem c_p_lapses_1 {G : am_S} (hG : G.1.stackTraces = false) {T S : am_T} {o : Nat → Int64} {m : Nat} (hm : T 1 0 = nI m) (hm80 : m ≤ 80) {x : Int32} (hx : x < 0 ∨ nI m ≤ x) : am_XD G yX5_lapses (.code yX5_lapses cX5_lapses 3 (some .int) :: am_G) { frames := 8, cells := 1, slots := 6, locals := 135 } (hp T S o) [.ref 0, .int x] am_E1 := by
  refine am_ofX (by decide +kernel) (Nat.le_of_ble_eq_true rfl) ?_
  intro C hse hret hname hF hX
  subst hse
  have hO := hX.1
  refine am_go hF sgX5_lapses_0_8bcf7 2 [(0, .ref 0), (1, .int x)] [.int x, .ref 0] sgX5_lapses_0_8bcf7d rfl ?_
  exact am_xV hF hX [.int x] [] (c_findMail_x hG hm hm80 hx) myX5_findMail vyX5_findMail lm_RX5_150 (hp_main _ _ _) rfl rfl ⟨Nat.le_of_ble_eq_true rfl, Nat.le_of_ble_eq_true rfl, Nat.le_of_ble_eq_true rfl, Nat.le_of_ble_eq_true rfl⟩ rfl (Nat.le_of_ble_eq_true rfl) dX5_lapses_2
set_option maxRecDepth 100000 in
set_option maxHeartbeats 4000000 in
theorem c_p_lapses_n {G : am_S} {T S : am_T} {o : Nat → Int64} {m : Nat} (hm : T 1 0 = nI m) (hm80 : m ≤ 80) {k : Nat} (hk : k < m) : am_D G yX5_lapses (.code yX5_lapses cX5_lapses 3 (some .int) :: am_G) { frames := 1, cells := 0, slots := 0, locals := 21 } (hp T S o) [.ref 0, .int (nI k)] (hp T S o) (some (.int (if T 25 k = 1 ∧ ¬ T 28 k = 1 then T 24 k else -1))) := by
  refine am_of (by decide +kernel) (Nat.le_of_ble_eq_true rfl) ?_
  intro C hse hret hname hF hO
  subst hse
  refine am_go hF sgX5_lapses_0_8bcf7 2 [(0, .ref 0), (1, .int (nI k))] [.int (nI k), .ref 0] sgX5_lapses_0_8bcf7d rfl ?_
  refine am_dV hF hO [.int (nI k)] [] (c_findMail (T := T) hm hm80 (show k < m by omega)) myX5_findMail vyX5_findMail lm_RX5_150 (hp_main _ _ _) rfl rfl 0 0 ⟨Nat.le_of_ble_eq_true rfl, Nat.le_of_ble_eq_true rfl⟩ ⟨Nat.le_of_ble_eq_true rfl, Nat.le_of_ble_eq_true rfl, Nat.le_of_ble_eq_true rfl, Nat.le_of_ble_eq_true rfl⟩ rfl (am_lv_ref (hp_main _ _ _) (am_lv_int am_lv_nil)) (Nat.le_of_ble_eq_true rfl) dX5_lapses_2 [.ref (64 + k)] rfl ?_
  refine am_go hF sgX5_lapses_5_b4dfd 7 [(2, .ref (64 + k)), (0, .ref 0), (1, .int (nI k))] [.ref (64 + k)] sgX5_lapses_5_b4dfdd rfl ?_
  refine am_dV hF hO [] [] (c_canLapse (T := T) hm hm80 (show k < m by omega)) myX1_canLapse vyX1_canLapse lm_RX5_233 (hp_mail _ _ _ hm hm80 (show k < m by omega)) rfl rfl 0 0 ⟨Nat.le_of_ble_eq_true rfl, Nat.le_of_ble_eq_true rfl⟩ ⟨Nat.le_of_ble_eq_true rfl, Nat.le_of_ble_eq_true rfl, Nat.le_of_ble_eq_true rfl, Nat.le_of_ble_eq_true rfl⟩ rfl (am_lv_ref (hp_mail _ _ _ hm hm80 (show k < m by omega)) (am_lv_ref (hp_main _ _ _) (am_lv_int am_lv_nil))) (Nat.le_of_ble_eq_true rfl) dX5_lapses_7 [.int (zb (decide (T 25 k = 1 ∧ ¬ T 28 k = 1)))] rfl ?_
  refine am_ifeq hF 20 dX5_lapses_10 (by decide) (fun c1 => ?_) (fun c1 => ?_)
  · skip
    replace c1 := of_decide_eq_false (zb_0.mp c1)
    refine am_go hF sgX5_lapses_20_5ff24 21 [(2, .ref (64 + k)), (0, .ref 0), (1, .int (nI k))] [.int (-1)] sgX5_lapses_20_5ff24d rfl ?_
    exact am_iret hF hO hret rfl dX5_lapses_21 ⟨rfl, by rw [if_neg c1]⟩
  · skip
    replace c1 := of_decide_eq_true (zb_p.mp c1)
    refine am_go hF sgX5_lapses_13_9fb7d 14 [(2, .ref (64 + k)), (0, .ref 0), (1, .int (nI k))] [.ref (64 + k)] sgX5_lapses_13_9fb7dd rfl ?_
    refine am_getf hF (hp_mail T S o hm hm80 (show k < m by omega)) (T := TX1) (N := 11) rfl (inG 1 inG1) 6 (by decide) (List.mem_cons_of_mem _ lf_RX5_237) rfl (.int (T 24 k)) rfl dX5_lapses_14 ?_
    refine am_go hF sgX5_lapses_17_c4397 21 [(2, .ref (64 + k)), (0, .ref 0), (1, .int (nI k))] [.int (T 24 k)] sgX5_lapses_17_c4397d rfl ?_
    exact am_iret hF hO hret rfl dX5_lapses_21 ⟨rfl, by rw [if_pos c1]⟩
set_option maxRecDepth 100000 in
set_option maxHeartbeats 4000000 in
theorem c_p_jurors_1 {G : am_S} (hG : G.1.stackTraces = false) {T S : am_T} {o : Nat → Int64} {m : Nat} (hm : T 1 0 = nI m) (hm80 : m ≤ 80) {x : Int32} (hx : x < 0 ∨ nI m ≤ x) : am_XD G yX5_jurors (.code yX5_jurors cX5_jurors 3 (some .int) :: am_G) { frames := 8, cells := 1, slots := 6, locals := 135 } (hp T S o) [.ref 0, .int x] am_E1 := by
  refine am_ofX (by decide +kernel) (Nat.le_of_ble_eq_true rfl) ?_
  intro C hse hret hname hF hX
  subst hse
  have hO := hX.1
  refine am_go hF sgX5_jurors_0_8bcf7 2 [(0, .ref 0), (1, .int x)] [.int x, .ref 0] sgX5_jurors_0_8bcf7d rfl ?_
  exact am_xV hF hX [.int x] [] (c_findMail_x hG hm hm80 hx) myX5_findMail vyX5_findMail lm_RX5_150 (hp_main _ _ _) rfl rfl ⟨Nat.le_of_ble_eq_true rfl, Nat.le_of_ble_eq_true rfl, Nat.le_of_ble_eq_true rfl, Nat.le_of_ble_eq_true rfl⟩ rfl (Nat.le_of_ble_eq_true rfl) dX5_jurors_2
set_option maxRecDepth 100000 in
set_option maxHeartbeats 4000000 in
theorem c_p_jurors_n {G : am_S} {T S : am_T} {o : Nat → Int64} {m : Nat} (hm : T 1 0 = nI m) (hm80 : m ≤ 80) {k : Nat} (hk : k < m) : am_D G yX5_jurors (.code yX5_jurors cX5_jurors 3 (some .int) :: am_G) { frames := 1, cells := 0, slots := 0, locals := 21 } (hp T S o) [.ref 0, .int (nI k)] (hp T S o) (some (.int (if T 28 k = 1 then tAw T k else 0))) := by
  refine am_of (by decide +kernel) (Nat.le_of_ble_eq_true rfl) ?_
  intro C hse hret hname hF hO
  subst hse
  by_cases c1 : T 28 k = 1
  · skip
    refine am_go hF sgX5_jurors_0_8bcf7 2 [(0, .ref 0), (1, .int (nI k))] [.int (nI k), .ref 0] sgX5_jurors_0_8bcf7d rfl ?_
    refine am_dV hF hO [.int (nI k)] [] (c_findMail (T := T) hm hm80 (show k < m by omega)) myX5_findMail vyX5_findMail lm_RX5_150 (hp_main _ _ _) rfl rfl 0 0 ⟨Nat.le_of_ble_eq_true rfl, Nat.le_of_ble_eq_true rfl⟩ ⟨Nat.le_of_ble_eq_true rfl, Nat.le_of_ble_eq_true rfl, Nat.le_of_ble_eq_true rfl, Nat.le_of_ble_eq_true rfl⟩ rfl (am_lv_ref (hp_main _ _ _) (am_lv_int am_lv_nil)) (Nat.le_of_ble_eq_true rfl) dX5_jurors_2 [.ref (64 + k)] rfl ?_
    refine am_getf hF (hp_mail T S o hm hm80 (show k < m by omega)) (T := TX1) (N := 11) rfl (inG 1 inG1) 10 (by decide) (List.mem_cons_of_mem _ lf_RX5_189) rfl ((if T 28 k = 1 then Value.ref (144 + k) else Value.null)) rfl dX5_jurors_5 ?_
    refine am_eqS [.ref (144 + k)] (by rw [if_pos c1]) ?_
    refine am_go hF sgX5_jurors_8_b4dfd 10 [(2, .ref (144 + k)), (0, .ref 0), (1, .int (nI k))] [.ref (144 + k)] sgX5_jurors_8_b4dfdd rfl ?_
    refine am_ifnonnullR hF 17 dX5_jurors_10 (by decide) ?_
    refine am_go hF sgX5_jurors_17_9fb7d 18 [(2, .ref (144 + k)), (0, .ref 0), (1, .int (nI k))] [.ref (144 + k)] sgX5_jurors_17_9fb7dd rfl ?_
    refine am_dV hF hO [] [] (c_awaited (T := T) (show k < 80 by omega) c1) myX0_awaitedJurors vyX0_awaitedJurors lm_RX5_207 (hp_appeal _ _ _ (show k < 80 by omega) c1) rfl rfl 0 0 ⟨Nat.le_of_ble_eq_true rfl, Nat.le_of_ble_eq_true rfl⟩ ⟨Nat.le_of_ble_eq_true rfl, Nat.le_of_ble_eq_true rfl, Nat.le_of_ble_eq_true rfl, Nat.le_of_ble_eq_true rfl⟩ rfl (am_lv_ref (hp_appeal _ _ _ (show k < 80 by omega) c1) (am_lv_ref (hp_main _ _ _) (am_lv_int am_lv_nil))) (Nat.le_of_ble_eq_true rfl) dX5_jurors_18 [.int (tAw T k)] rfl ?_
    exact am_iret hF hO hret rfl dX5_jurors_21 ⟨rfl, by rw [if_pos c1]⟩
  · skip
    refine am_go hF sgX5_jurors_0_8bcf7 2 [(0, .ref 0), (1, .int (nI k))] [.int (nI k), .ref 0] sgX5_jurors_0_8bcf7d rfl ?_
    refine am_dV hF hO [.int (nI k)] [] (c_findMail (T := T) hm hm80 (show k < m by omega)) myX5_findMail vyX5_findMail lm_RX5_150 (hp_main _ _ _) rfl rfl 0 0 ⟨Nat.le_of_ble_eq_true rfl, Nat.le_of_ble_eq_true rfl⟩ ⟨Nat.le_of_ble_eq_true rfl, Nat.le_of_ble_eq_true rfl, Nat.le_of_ble_eq_true rfl, Nat.le_of_ble_eq_true rfl⟩ rfl (am_lv_ref (hp_main _ _ _) (am_lv_int am_lv_nil)) (Nat.le_of_ble_eq_true rfl) dX5_jurors_2 [.ref (64 + k)] rfl ?_
    refine am_getf hF (hp_mail T S o hm hm80 (show k < m by omega)) (T := TX1) (N := 11) rfl (inG 1 inG1) 10 (by decide) (List.mem_cons_of_mem _ lf_RX5_189) rfl ((if T 28 k = 1 then Value.ref (144 + k) else Value.null)) rfl dX5_jurors_5 ?_
    refine am_eqS [.null] (by rw [if_neg c1]) ?_
    refine am_astNn hF (i := 2) rfl (by decide) dX5_jurors_8 ?_
    refine am_eqL [(2, .null), (0, .ref 0), (1, .int (nI k))] rfl ?_
    refine am_aldNn hF (i := 2) rfl rfl dX5_jurors_9 ?_
    refine am_ifnonnullN hF dX5_jurors_10 ?_
    refine am_go hF sgX5_jurors_13_d3b8f 21 [(2, .null), (0, .ref 0), (1, .int (nI k))] [.int 0] sgX5_jurors_13_d3b8fd rfl ?_
    exact am_iret hF hO hret rfl dX5_jurors_21 ⟨rfl, by rw [if_neg c1]⟩
set_option maxRecDepth 100000 in
set_option maxHeartbeats 4000000 in
theorem c_p_mails_n {G : am_S} {T S : am_T} {o : Nat → Int64} {m : Nat} (hm : T 1 0 = nI m) (hm80 : m ≤ 80) : am_D G yX5_mails (.code yX5_mails cX5_mails 1 (some .int) :: am_G) { frames := 0, cells := 0, slots := 0, locals := 0 } (hp T S o) [.ref 0] (hp T S o) (some (.int (nI m))) := by
  refine am_of (by decide +kernel) (Nat.le_of_ble_eq_true rfl) ?_
  intro C hse hret hname hF hO
  subst hse
  refine am_go hF sgX5_mails_0_34db8 1 [(0, .ref 0)] [.ref 0] sgX5_mails_0_34db8d rfl ?_
  refine am_getf hF (hp_main T S o) (T := TX5) (N := 9) rfl (inG 5 inG5) 5 (by decide) (List.mem_cons_of_mem _ lf_RX5_35) rfl (.int (T 1 0)) rfl dX5_mails_1 ?_
  refine am_top (nI m) hm ?_
  exact am_iret hF hO hret rfl dX5_mails_4 ⟨rfl, rfl⟩
set_option maxRecDepth 100000 in
set_option maxHeartbeats 4000000 in
theorem c_p_held_n {G : am_S} {T S : am_T} {o : Nat → Int64} {m : Nat} (hm : T 1 0 = nI m) (hm80 : m ≤ 80) : am_D G yX5_held (.code yX5_held cX5_held 3 (some .int) :: am_G) { frames := 0, cells := 0, slots := 0, locals := 0 } (hp T S o) [.ref 0] (hp T S o) (some (.int (itN (thl T) 0 m))) := by
  refine am_of (by decide +kernel) (Nat.le_of_ble_eq_true rfl) ?_
  intro C hse hret hname hF hO
  subst hse
  refine am_go hF sgX5_held_0_1ac35 4 [(2, .int 0), (1, .int 0), (0, .ref 0)] [] sgX5_held_0_1ac35d rfl ?_
  refine am_drop [2, 1, 0] [(0, .ref 0), (1, .int 0), (2, .int 0)] rfl ?_
  have lp4 : ∀ (zz j : Nat) (a : Int32), j + zz = m → a = itN (thl T) 0 j → am_W C (hp T S o) 0 0 4 [(0, .ref 0), (1, .int a), (2, .int (nI j))] [] := by
    intro zz
    induction zz with
    | zero =>
      intro j a hj ha
      have e9j : j = m := by omega
      refine am_go hF sgX5_held_4_14491 6 [(0, .ref 0), (1, .int a), (2, .int (nI j))] [.ref 0, .int (nI j)] sgX5_held_4_14491d rfl ?_
      refine am_getf hF (hp_main T S o) (T := TX5) (N := 9) rfl (inG 5 inG5) 5 (by decide) (List.mem_cons_of_mem _ lf_RX5_35) rfl (.int (T 1 0)) rfl dX5_held_6 ?_
      refine am_top (nI m) hm ?_
      refine am_icmpge hF 34 dX5_held_9 (by decide) (fun _ => ?_) (fun h9 => False.elim (absurd (nc_ge (show m ≤ j by omega) (by omega) (by omega) rfl rfl) h9))
      refine am_go hF sgX5_held_34_840bf 35 [(0, .ref 0), (1, .int a), (2, .int (nI j))] [.int a] sgX5_held_34_840bfd rfl ?_
      exact am_iret hF hO hret rfl dX5_held_35 ⟨rfl, (by first | (rw [ha, e9j]; done) | (rw [ha, e9j]; rfl))⟩
    | succ zz ih4 =>
      intro j a hj ha
      have l9j : j < m := by omega
      refine am_go hF sgX5_held_4_14491 6 [(0, .ref 0), (1, .int a), (2, .int (nI j))] [.ref 0, .int (nI j)] sgX5_held_4_14491d rfl ?_
      refine am_getf hF (hp_main T S o) (T := TX5) (N := 9) rfl (inG 5 inG5) 5 (by decide) (List.mem_cons_of_mem _ lf_RX5_35) rfl (.int (T 1 0)) rfl dX5_held_6 ?_
      refine am_top (nI m) hm ?_
      refine am_icmpge hF 34 dX5_held_9 (by decide) (fun h9 => False.elim (nc_lt_f (show j < m by omega) (by omega) (by omega) rfl rfl h9)) (fun _ => ?_)
      refine am_go hF sgX5_held_12_34db8 13 [(0, .ref 0), (1, .int a), (2, .int (nI j))] [.ref 0] sgX5_held_12_34db8d rfl ?_
      refine am_getf hF (hp_main T S o) (T := TX5) (N := 9) rfl (inG 5 inG5) 4 (by decide) (List.mem_cons_of_mem _ lf_RX5_31) rfl (.ref 4) rfl dX5_held_13 ?_
      refine am_go hF sgX5_held_16_f8a59 17 [(0, .ref 0), (1, .int a), (2, .int (nI j))] [.int (nI j), .ref 4] sgX5_held_16_f8a59d rfl ?_
      refine cv_post hF hm hm80 j rfl (show j < m by omega) dX5_held_17 ?_
      refine am_getf hF (hp_mail T S o hm hm80 (show j < m by omega)) (T := TX1) (N := 11) rfl (inG 1 inG1) 7 (by decide) (List.mem_cons_of_mem _ lf_RX5_183) rfl (.int (T 25 j)) rfl dX5_held_18 ?_
      refine am_go hF sgX5_held_21_4de0a 22 [(0, .ref 0), (1, .int a), (2, .int (nI j))] [.int 1, .int (T 25 j)] sgX5_held_21_4de0ad rfl ?_
      refine am_icmpne hF 28 dX5_held_22 (by decide) (fun c3 => ?_) (fun c3 => ?_)
      · skip
        refine am_go hF sgX5_held_28_85dbb 4 [(2, .int ((nI j) + 1)), (0, .ref 0), (1, .int a)] [] sgX5_held_28_85dbbd rfl ?_
        refine am_drop [1, 2, 0] [(0, .ref 0), (1, .int a), (2, .int ((nI j) + 1))] rfl ?_
        refine am_eqL [(0, .ref 0), (1, .int a), (2, .int (nI (j + 1)))] (by rw [nI_1]) ?_
        exact ih4 (j + 1) a (by omega) (by show _ = thl T j (itN (thl T) 0 j); rw [← ha]; simp only [thl, Bool.false_eq_true, not_false_eq_true, not_true_eq_false, and_self, and_true, true_and, and_false, false_and, true_or, or_true, or_false, false_or, or_self, c3, ↓reduceIte])
      · skip
        refine am_go hF sgX5_held_25_6de96 4 [(2, .int ((nI j) + 1)), (1, .int (a + 1)), (0, .ref 0)] [] sgX5_held_25_6de96d rfl ?_
        refine am_drop [2, 1, 0] [(0, .ref 0), (1, .int (a + 1)), (2, .int ((nI j) + 1))] rfl ?_
        refine am_eqL [(0, .ref 0), (1, .int (a + 1)), (2, .int (nI (j + 1)))] (by rw [nI_1]) ?_
        exact ih4 (j + 1) (a + 1) (by omega) (by show _ = thl T j (itN (thl T) 0 j); rw [← ha]; simp only [thl, Bool.false_eq_true, not_false_eq_true, not_true_eq_false, and_self, and_true, true_and, and_false, false_and, true_or, or_true, or_false, false_or, or_self, (eq_true c3), ↓reduceIte])
  exact lp4 m 0 0 (by omega) rfl
set_option maxRecDepth 100000 in
set_option maxHeartbeats 4000000 in
theorem c_p_weight_1 {G : am_S} (hG : G.1.stackTraces = false) {T S : am_T} {o : Nat → Int64} {x : Int32} (hx : x < 0 ∨ nI 16 ≤ x) : am_XD G yX5_weight (.code yX5_weight cX5_weight 2 (some .int) :: am_G) { frames := 8, cells := 1, slots := 6, locals := 135 } (hp T S o) [.ref 0, .int x] am_E1 := by
  refine am_ofX (by decide +kernel) (Nat.le_of_ble_eq_true rfl) ?_
  intro C hse hret hname hF hX
  subst hse
  have hO := hX.1
  refine am_go hF sgX5_weight_0_840bf 1 [(0, .ref 0), (1, .int x)] [.int x] sgX5_weight_0_840bfd rfl ?_
  exact am_xS hF hX [.int x] [] (c_checkPerson_x hG hx) myX5_checkPerson syX5_checkPerson lm_RX5_51 rfl ⟨Nat.le_of_ble_eq_true rfl, Nat.le_of_ble_eq_true rfl, Nat.le_of_ble_eq_true rfl, Nat.le_of_ble_eq_true rfl⟩ rfl (Nat.le_of_ble_eq_true rfl) dX5_weight_1
set_option maxRecDepth 100000 in
set_option maxHeartbeats 4000000 in
theorem c_p_weight_n {G : am_S} {T S : am_T} {o : Nat → Int64} {p : Nat} (hp9 : p < 16) : am_D G yX5_weight (.code yX5_weight cX5_weight 2 (some .int) :: am_G) { frames := 1, cells := 0, slots := 0, locals := 20 } (hp T S o) [.ref 0, .int (nI p)] (hp T S o) (some (.int (T 5 p))) := by
  refine am_of (by decide +kernel) (Nat.le_of_ble_eq_true rfl) ?_
  intro C hse hret hname hF hO
  subst hse
  refine am_go hF sgX5_weight_0_840bf 1 [(0, .ref 0), (1, .int (nI p))] [.int (nI p)] sgX5_weight_0_840bfd rfl ?_
  refine am_dS hF hO [.int (nI p)] [] (c_checkPerson (show p < 16 by omega)) myX5_checkPerson syX5_checkPerson lm_RX5_51 rfl 0 0 ⟨Nat.le_of_ble_eq_true rfl, Nat.le_of_ble_eq_true rfl⟩ ⟨Nat.le_of_ble_eq_true rfl, Nat.le_of_ble_eq_true rfl, Nat.le_of_ble_eq_true rfl, Nat.le_of_ble_eq_true rfl⟩ rfl (am_lv_ref (hp_main _ _ _) (am_lv_int am_lv_nil)) (Nat.le_of_ble_eq_true rfl) dX5_weight_1 [] rfl ?_
  refine am_go hF sgX5_weight_4_34db8 5 [(0, .ref 0), (1, .int (nI p))] [.ref 0] sgX5_weight_4_34db8d rfl ?_
  refine am_getf hF (hp_main T S o) (T := TX5) (N := 9) rfl (inG 5 inG5) 0 (by decide) (List.mem_cons_of_mem _ lf_RX5_11) rfl (.ref 1) rfl dX5_weight_5 ?_
  refine am_go hF sgX5_weight_8_840bf 9 [(0, .ref 0), (1, .int (nI p))] [.int (nI p), .ref 1] sgX5_weight_8_840bfd rfl ?_
  refine cv_persons hF p rfl (show p < 16 by omega) dX5_weight_9 ?_
  refine am_getf hF (hp_person T S o (show p < 16 by omega)) (T := TX3) (N := 5) rfl (inG 3 inG3) 0 (by decide) (List.mem_cons_of_mem _ lf_RX5_240) rfl (.int (T 5 p)) rfl dX5_weight_10 ?_
  exact am_iret hF hO hret rfl dX5_weight_13 ⟨rfl, rfl⟩
set_option maxRecDepth 100000 in
set_option maxHeartbeats 4000000 in
theorem c_p_judged_1 {G : am_S} (hG : G.1.stackTraces = false) {T S : am_T} {o : Nat → Int64} {x : Int32} (hx : x < 0 ∨ nI 16 ≤ x) : am_XD G yX5_judged (.code yX5_judged cX5_judged 2 (some .int) :: am_G) { frames := 8, cells := 1, slots := 6, locals := 135 } (hp T S o) [.ref 0, .int x] am_E1 := by
  refine am_ofX (by decide +kernel) (Nat.le_of_ble_eq_true rfl) ?_
  intro C hse hret hname hF hX
  subst hse
  have hO := hX.1
  refine am_go hF sgX5_judged_0_840bf 1 [(0, .ref 0), (1, .int x)] [.int x] sgX5_judged_0_840bfd rfl ?_
  exact am_xS hF hX [.int x] [] (c_checkPerson_x hG hx) myX5_checkPerson syX5_checkPerson lm_RX5_51 rfl ⟨Nat.le_of_ble_eq_true rfl, Nat.le_of_ble_eq_true rfl, Nat.le_of_ble_eq_true rfl, Nat.le_of_ble_eq_true rfl⟩ rfl (Nat.le_of_ble_eq_true rfl) dX5_judged_1
set_option maxRecDepth 100000 in
set_option maxHeartbeats 4000000 in
theorem c_p_judged_n {G : am_S} {T S : am_T} {o : Nat → Int64} {p : Nat} (hp9 : p < 16) : am_D G yX5_judged (.code yX5_judged cX5_judged 2 (some .int) :: am_G) { frames := 1, cells := 0, slots := 0, locals := 20 } (hp T S o) [.ref 0, .int (nI p)] (hp T S o) (some (.int (T 6 p))) := by
  refine am_of (by decide +kernel) (Nat.le_of_ble_eq_true rfl) ?_
  intro C hse hret hname hF hO
  subst hse
  refine am_go hF sgX5_judged_0_840bf 1 [(0, .ref 0), (1, .int (nI p))] [.int (nI p)] sgX5_judged_0_840bfd rfl ?_
  refine am_dS hF hO [.int (nI p)] [] (c_checkPerson (show p < 16 by omega)) myX5_checkPerson syX5_checkPerson lm_RX5_51 rfl 0 0 ⟨Nat.le_of_ble_eq_true rfl, Nat.le_of_ble_eq_true rfl⟩ ⟨Nat.le_of_ble_eq_true rfl, Nat.le_of_ble_eq_true rfl, Nat.le_of_ble_eq_true rfl, Nat.le_of_ble_eq_true rfl⟩ rfl (am_lv_ref (hp_main _ _ _) (am_lv_int am_lv_nil)) (Nat.le_of_ble_eq_true rfl) dX5_judged_1 [] rfl ?_
  refine am_go hF sgX5_judged_4_34db8 5 [(0, .ref 0), (1, .int (nI p))] [.ref 0] sgX5_judged_4_34db8d rfl ?_
  refine am_getf hF (hp_main T S o) (T := TX5) (N := 9) rfl (inG 5 inG5) 0 (by decide) (List.mem_cons_of_mem _ lf_RX5_11) rfl (.ref 1) rfl dX5_judged_5 ?_
  refine am_go hF sgX5_judged_8_840bf 9 [(0, .ref 0), (1, .int (nI p))] [.int (nI p), .ref 1] sgX5_judged_8_840bfd rfl ?_
  refine cv_persons hF p rfl (show p < 16 by omega) dX5_judged_9 ?_
  refine am_getf hF (hp_person T S o (show p < 16 by omega)) (T := TX3) (N := 5) rfl (inG 3 inG3) 1 (by decide) (List.mem_cons_of_mem _ lf_RX5_217) rfl (.int (T 6 p)) rfl dX5_judged_10 ?_
  exact am_iret hF hO hret rfl dX5_judged_13 ⟨rfl, rfl⟩
set_option maxRecDepth 100000 in
set_option maxHeartbeats 4000000 in
theorem c_p_bounces_1 {G : am_S} (hG : G.1.stackTraces = false) {T S : am_T} {o : Nat → Int64} {x : Int32} (hx : x < 0 ∨ nI 16 ≤ x) : am_XD G yX5_bounces (.code yX5_bounces cX5_bounces 2 (some .int) :: am_G) { frames := 8, cells := 1, slots := 6, locals := 135 } (hp T S o) [.ref 0, .int x] am_E1 := by
  refine am_ofX (by decide +kernel) (Nat.le_of_ble_eq_true rfl) ?_
  intro C hse hret hname hF hX
  subst hse
  have hO := hX.1
  refine am_go hF sgX5_bounces_0_840bf 1 [(0, .ref 0), (1, .int x)] [.int x] sgX5_bounces_0_840bfd rfl ?_
  exact am_xS hF hX [.int x] [] (c_checkPerson_x hG hx) myX5_checkPerson syX5_checkPerson lm_RX5_51 rfl ⟨Nat.le_of_ble_eq_true rfl, Nat.le_of_ble_eq_true rfl, Nat.le_of_ble_eq_true rfl, Nat.le_of_ble_eq_true rfl⟩ rfl (Nat.le_of_ble_eq_true rfl) dX5_bounces_1
set_option maxRecDepth 100000 in
set_option maxHeartbeats 4000000 in
theorem c_p_bounces_n {G : am_S} {T S : am_T} {o : Nat → Int64} {p : Nat} (hp9 : p < 16) : am_D G yX5_bounces (.code yX5_bounces cX5_bounces 2 (some .int) :: am_G) { frames := 1, cells := 0, slots := 0, locals := 20 } (hp T S o) [.ref 0, .int (nI p)] (hp T S o) (some (.int (T 7 p))) := by
  refine am_of (by decide +kernel) (Nat.le_of_ble_eq_true rfl) ?_
  intro C hse hret hname hF hO
  subst hse
  refine am_go hF sgX5_bounces_0_840bf 1 [(0, .ref 0), (1, .int (nI p))] [.int (nI p)] sgX5_bounces_0_840bfd rfl ?_
  refine am_dS hF hO [.int (nI p)] [] (c_checkPerson (show p < 16 by omega)) myX5_checkPerson syX5_checkPerson lm_RX5_51 rfl 0 0 ⟨Nat.le_of_ble_eq_true rfl, Nat.le_of_ble_eq_true rfl⟩ ⟨Nat.le_of_ble_eq_true rfl, Nat.le_of_ble_eq_true rfl, Nat.le_of_ble_eq_true rfl, Nat.le_of_ble_eq_true rfl⟩ rfl (am_lv_ref (hp_main _ _ _) (am_lv_int am_lv_nil)) (Nat.le_of_ble_eq_true rfl) dX5_bounces_1 [] rfl ?_
  refine am_go hF sgX5_bounces_4_34db8 5 [(0, .ref 0), (1, .int (nI p))] [.ref 0] sgX5_bounces_4_34db8d rfl ?_
  refine am_getf hF (hp_main T S o) (T := TX5) (N := 9) rfl (inG 5 inG5) 0 (by decide) (List.mem_cons_of_mem _ lf_RX5_11) rfl (.ref 1) rfl dX5_bounces_5 ?_
  refine am_go hF sgX5_bounces_8_840bf 9 [(0, .ref 0), (1, .int (nI p))] [.int (nI p), .ref 1] sgX5_bounces_8_840bfd rfl ?_
  refine cv_persons hF p rfl (show p < 16 by omega) dX5_bounces_9 ?_
  refine am_getf hF (hp_person T S o (show p < 16 by omega)) (T := TX3) (N := 5) rfl (inG 3 inG3) 2 (by decide) (List.mem_cons_of_mem _ lf_RX5_243) rfl (.int (T 7 p)) rfl dX5_bounces_10 ?_
  exact am_iret hF hO hret rfl dX5_bounces_13 ⟨rfl, rfl⟩
set_option maxRecDepth 100000 in
set_option maxHeartbeats 4000000 in
theorem c_p_box_1 {G : am_S} (hG : G.1.stackTraces = false) {T S : am_T} {o : Nat → Int64} {x : Int32} (hx : x < 0 ∨ nI 16 ≤ x) : am_XD G yX5_box (.code yX5_box cX5_box 2 (some .int) :: am_G) { frames := 8, cells := 1, slots := 6, locals := 135 } (hp T S o) [.ref 0, .int x] am_E1 := by
  refine am_ofX (by decide +kernel) (Nat.le_of_ble_eq_true rfl) ?_
  intro C hse hret hname hF hX
  subst hse
  have hO := hX.1
  refine am_go hF sgX5_box_0_840bf 1 [(0, .ref 0), (1, .int x)] [.int x] sgX5_box_0_840bfd rfl ?_
  exact am_xS hF hX [.int x] [] (c_checkPerson_x hG hx) myX5_checkPerson syX5_checkPerson lm_RX5_51 rfl ⟨Nat.le_of_ble_eq_true rfl, Nat.le_of_ble_eq_true rfl, Nat.le_of_ble_eq_true rfl, Nat.le_of_ble_eq_true rfl⟩ rfl (Nat.le_of_ble_eq_true rfl) dX5_box_1
set_option maxRecDepth 100000 in
set_option maxHeartbeats 4000000 in
theorem c_p_box_n {G : am_S} {T S : am_T} {o : Nat → Int64} {p : Nat} (hp9 : p < 16) : am_D G yX5_box (.code yX5_box cX5_box 2 (some .int) :: am_G) { frames := 1, cells := 0, slots := 0, locals := 20 } (hp T S o) [.ref 0, .int (nI p)] (hp T S o) (some (.int (T 8 p))) := by
  refine am_of (by decide +kernel) (Nat.le_of_ble_eq_true rfl) ?_
  intro C hse hret hname hF hO
  subst hse
  refine am_go hF sgX5_box_0_840bf 1 [(0, .ref 0), (1, .int (nI p))] [.int (nI p)] sgX5_box_0_840bfd rfl ?_
  refine am_dS hF hO [.int (nI p)] [] (c_checkPerson (show p < 16 by omega)) myX5_checkPerson syX5_checkPerson lm_RX5_51 rfl 0 0 ⟨Nat.le_of_ble_eq_true rfl, Nat.le_of_ble_eq_true rfl⟩ ⟨Nat.le_of_ble_eq_true rfl, Nat.le_of_ble_eq_true rfl, Nat.le_of_ble_eq_true rfl, Nat.le_of_ble_eq_true rfl⟩ rfl (am_lv_ref (hp_main _ _ _) (am_lv_int am_lv_nil)) (Nat.le_of_ble_eq_true rfl) dX5_box_1 [] rfl ?_
  refine am_go hF sgX5_box_4_34db8 5 [(0, .ref 0), (1, .int (nI p))] [.ref 0] sgX5_box_4_34db8d rfl ?_
  refine am_getf hF (hp_main T S o) (T := TX5) (N := 9) rfl (inG 5 inG5) 0 (by decide) (List.mem_cons_of_mem _ lf_RX5_11) rfl (.ref 1) rfl dX5_box_5 ?_
  refine am_go hF sgX5_box_8_840bf 9 [(0, .ref 0), (1, .int (nI p))] [.int (nI p), .ref 1] sgX5_box_8_840bfd rfl ?_
  refine cv_persons hF p rfl (show p < 16 by omega) dX5_box_9 ?_
  refine am_getf hF (hp_person T S o (show p < 16 by omega)) (T := TX3) (N := 5) rfl (inG 3 inG3) 4 (by decide) (List.mem_cons_of_mem _ lf_RX5_246) rfl (.int (T 8 p)) rfl dX5_box_10 ?_
  exact am_iret hF hO hret rfl dX5_box_13 ⟨rfl, rfl⟩
set_option maxRecDepth 100000 in
set_option maxHeartbeats 4000000 in
theorem c_p_mailAt_1a {G : am_S} (hG : G.1.stackTraces = false) {T S : am_T} {o : Nat → Int64} {x : Int32} (hx : x < 0 ∨ nI 16 ≤ x) {y : Int32} : am_XD G yX5_mailAt (.code yX5_mailAt cX5_mailAt 3 (some .int) :: am_G) { frames := 8, cells := 1, slots := 6, locals := 135 } (hp T S o) [.ref 0, .int x, .int y] am_E1 := by
  refine am_ofX (by decide +kernel) (Nat.le_of_ble_eq_true rfl) ?_
  intro C hse hret hname hF hX
  subst hse
  have hO := hX.1
  refine am_go hF sgX5_mailAt_0_840bf 1 [(0, .ref 0), (1, .int x), (2, .int y)] [.int x] sgX5_mailAt_0_840bfd rfl ?_
  exact am_xS hF hX [.int x] [] (c_checkPerson_x hG hx) myX5_checkPerson syX5_checkPerson lm_RX5_51 rfl ⟨Nat.le_of_ble_eq_true rfl, Nat.le_of_ble_eq_true rfl, Nat.le_of_ble_eq_true rfl, Nat.le_of_ble_eq_true rfl⟩ rfl (Nat.le_of_ble_eq_true rfl) dX5_mailAt_1
set_option maxRecDepth 100000 in
set_option maxHeartbeats 4000000 in
theorem c_p_mailAt_1b {G : am_S} (hG : G.1.stackTraces = false) {T S : am_T} {o : Nat → Int64} {p : Nat} (hp9 : p < 16) {b : Nat} (hb : T 8 p = nI b) (hb10 : b ≤ 10) {x : Int32} (hx : x < 0 ∨ nI b ≤ x) : am_XD G yX5_mailAt (.code yX5_mailAt cX5_mailAt 3 (some .int) :: am_G) { frames := 8, cells := 1, slots := 6, locals := 135 } (hp T S o) [.ref 0, .int (nI p), .int x] am_E1 := by
  refine am_ofX (by decide +kernel) (Nat.le_of_ble_eq_true rfl) ?_
  intro C hse hret hname hF hX
  subst hse
  have hO := hX.1
  refine am_go hF sgX5_mailAt_0_840bf 1 [(0, .ref 0), (1, .int (nI p)), (2, .int x)] [.int (nI p)] sgX5_mailAt_0_840bfd rfl ?_
  refine am_dS hF hO [.int (nI p)] [] (c_checkPerson (show p < 16 by omega)) myX5_checkPerson syX5_checkPerson lm_RX5_51 rfl 0 0 ⟨Nat.le_of_ble_eq_true rfl, Nat.le_of_ble_eq_true rfl⟩ ⟨Nat.le_of_ble_eq_true rfl, Nat.le_of_ble_eq_true rfl, Nat.le_of_ble_eq_true rfl, Nat.le_of_ble_eq_true rfl⟩ rfl (am_lv_ref (hp_main _ _ _) (am_lv_int (am_lv_int am_lv_nil))) (Nat.le_of_ble_eq_true rfl) dX5_mailAt_1 [] rfl ?_
  refine am_go hF sgX5_mailAt_4_f8a59 5 [(0, .ref 0), (1, .int (nI p)), (2, .int x)] [.int x] sgX5_mailAt_4_f8a59d rfl ?_
  refine am_iflt hF 21 dX5_mailAt_5 (by decide) (fun c1 => ?_) (fun c1 => ?_)
  · skip
    exact am_throwS hF hX hG (is := 249) (text := "no such place") am_nm (by decide +kernel) am_nm_fit lc_RX5_135 xz1 (by decide) xa1 xg1 dX5_mailAt_21 dX5_mailAt_24 dX5_mailAt_25 dX5_mailAt_27 dX5_mailAt_30 ⟨Nat.le_of_ble_eq_true rfl, Nat.le_of_ble_eq_true rfl, Nat.le_of_ble_eq_true rfl, Nat.le_of_ble_eq_true rfl⟩
  · skip
    refine am_go hF sgX5_mailAt_8_14491 10 [(0, .ref 0), (1, .int (nI p)), (2, .int x)] [.ref 0, .int x] sgX5_mailAt_8_14491d rfl ?_
    refine am_getf hF (hp_main T S o) (T := TX5) (N := 9) rfl (inG 5 inG5) 0 (by decide) (List.mem_cons_of_mem _ lf_RX5_11) rfl (.ref 1) rfl dX5_mailAt_10 ?_
    refine am_go hF sgX5_mailAt_13_840bf 14 [(0, .ref 0), (1, .int (nI p)), (2, .int x)] [.int (nI p), .ref 1, .int x] sgX5_mailAt_13_840bfd rfl ?_
    refine cv_persons hF p rfl (show p < 16 by omega) dX5_mailAt_14 ?_
    refine am_getf hF (hp_person T S o (show p < 16 by omega)) (T := TX3) (N := 5) rfl (inG 3 inG3) 4 (by decide) (List.mem_cons_of_mem _ lf_RX5_246) rfl (.int (T 8 p)) rfl dX5_mailAt_15 ?_
    refine am_top (nI b) hb ?_
    refine am_icmplt hF 31 dX5_mailAt_18 (by decide) (fun c2 => ?_) (fun c2 => ?_)
    · skip
      exact absurd hx (fun h => h.elim c1 (Int32.not_le.mpr c2))
    · skip
      exact am_throwS hF hX hG (is := 249) (text := "no such place") am_nm (by decide +kernel) am_nm_fit lc_RX5_135 xz1 (by decide) xa1 xg1 dX5_mailAt_21 dX5_mailAt_24 dX5_mailAt_25 dX5_mailAt_27 dX5_mailAt_30 ⟨Nat.le_of_ble_eq_true rfl, Nat.le_of_ble_eq_true rfl, Nat.le_of_ble_eq_true rfl, Nat.le_of_ble_eq_true rfl⟩
set_option maxRecDepth 100000 in
set_option maxHeartbeats 4000000 in
theorem c_p_mailAt_n {G : am_S} {T S : am_T} {o : Nat → Int64} {p : Nat} (hp9 : p < 16) {b : Nat} (hb : T 8 p = nI b) (hb10 : b ≤ 10) {j : Nat} (hj : j < b) : am_D G yX5_mailAt (.code yX5_mailAt cX5_mailAt 3 (some .int) :: am_G) { frames := 1, cells := 0, slots := 0, locals := 20 } (hp T S o) [.ref 0, .int (nI p), .int (nI j)] (hp T S o) (some (.int (T 9 (10 * p + j)))) := by
  refine am_of (by decide +kernel) (Nat.le_of_ble_eq_true rfl) ?_
  intro C hse hret hname hF hO
  subst hse
  refine am_go hF sgX5_mailAt_0_840bf 1 [(0, .ref 0), (1, .int (nI p)), (2, .int (nI j))] [.int (nI p)] sgX5_mailAt_0_840bfd rfl ?_
  refine am_dS hF hO [.int (nI p)] [] (c_checkPerson (show p < 16 by omega)) myX5_checkPerson syX5_checkPerson lm_RX5_51 rfl 0 0 ⟨Nat.le_of_ble_eq_true rfl, Nat.le_of_ble_eq_true rfl⟩ ⟨Nat.le_of_ble_eq_true rfl, Nat.le_of_ble_eq_true rfl, Nat.le_of_ble_eq_true rfl, Nat.le_of_ble_eq_true rfl⟩ rfl (am_lv_ref (hp_main _ _ _) (am_lv_int (am_lv_int am_lv_nil))) (Nat.le_of_ble_eq_true rfl) dX5_mailAt_1 [] rfl ?_
  refine am_go hF sgX5_mailAt_4_f8a59 5 [(0, .ref 0), (1, .int (nI p)), (2, .int (nI j))] [.int (nI j)] sgX5_mailAt_4_f8a59d rfl ?_
  refine am_iflt hF 21 dX5_mailAt_5 (by decide) (fun h9 => False.elim (nc_ge_f (show 0 ≤ j by omega) (by omega) (by omega) rfl rfl h9)) (fun _ => ?_)
  refine am_go hF sgX5_mailAt_8_14491 10 [(0, .ref 0), (1, .int (nI p)), (2, .int (nI j))] [.ref 0, .int (nI j)] sgX5_mailAt_8_14491d rfl ?_
  refine am_getf hF (hp_main T S o) (T := TX5) (N := 9) rfl (inG 5 inG5) 0 (by decide) (List.mem_cons_of_mem _ lf_RX5_11) rfl (.ref 1) rfl dX5_mailAt_10 ?_
  refine am_go hF sgX5_mailAt_13_840bf 14 [(0, .ref 0), (1, .int (nI p)), (2, .int (nI j))] [.int (nI p), .ref 1, .int (nI j)] sgX5_mailAt_13_840bfd rfl ?_
  refine cv_persons hF p rfl (show p < 16 by omega) dX5_mailAt_14 ?_
  refine am_getf hF (hp_person T S o (show p < 16 by omega)) (T := TX3) (N := 5) rfl (inG 3 inG3) 4 (by decide) (List.mem_cons_of_mem _ lf_RX5_246) rfl (.int (T 8 p)) rfl dX5_mailAt_15 ?_
  refine am_top (nI b) hb ?_
  refine am_icmplt hF 31 dX5_mailAt_18 (by decide) (fun _ => ?_) (fun h9 => False.elim (absurd (nc_lt (show j < b by omega) (by omega) (by omega) rfl rfl) h9))
  refine am_go hF sgX5_mailAt_31_34db8 32 [(0, .ref 0), (1, .int (nI p)), (2, .int (nI j))] [.ref 0] sgX5_mailAt_31_34db8d rfl ?_
  refine am_getf hF (hp_main T S o) (T := TX5) (N := 9) rfl (inG 5 inG5) 0 (by decide) (List.mem_cons_of_mem _ lf_RX5_11) rfl (.ref 1) rfl dX5_mailAt_32 ?_
  refine am_go hF sgX5_mailAt_35_840bf 36 [(0, .ref 0), (1, .int (nI p)), (2, .int (nI j))] [.int (nI p), .ref 1] sgX5_mailAt_35_840bfd rfl ?_
  refine cv_persons hF p rfl (show p < 16 by omega) dX5_mailAt_36 ?_
  refine am_getf hF (hp_person T S o (show p < 16 by omega)) (T := TX3) (N := 5) rfl (inG 3 inG3) 3 (by decide) (List.mem_cons_of_mem _ lf_RX5_251) rfl (.ref (32 + p)) rfl dX5_mailAt_37 ?_
  refine am_go hF sgX5_mailAt_40_f8a59 41 [(0, .ref 0), (1, .int (nI p)), (2, .int (nI j))] [.int (nI j), .ref (32 + p)] sgX5_mailAt_40_f8a59d rfl ?_
  refine am_iald hF (hp_box T S o (show p < 16 by omega)) j rfl (show j < 10 by omega) (by decide) dX5_mailAt_41 ?_
  refine am_top (T 9 (10 * p + j)) (if_pos (show j < 10 by omega)) ?_
  exact am_iret hF hO hret rfl dX5_mailAt_42 ⟨rfl, rfl⟩
set_option maxRecDepth 100000 in
set_option maxHeartbeats 4000000 in
theorem c_p_read_1 {G : am_S} (hG : G.1.stackTraces = false) {T S : am_T} {o : Nat → Int64} {x : Int32} (hx : x < 0 ∨ nI 16 ≤ x) : am_XD G yX5_read (.code yX5_read cX5_read 2 (some .int) :: am_G) { frames := 8, cells := 1, slots := 6, locals := 135 } (hp T S o) [.ref 0, .int x] am_E1 := by
  refine am_ofX (by decide +kernel) (Nat.le_of_ble_eq_true rfl) ?_
  intro C hse hret hname hF hX
  subst hse
  have hO := hX.1
  refine am_go hF sgX5_read_0_840bf 1 [(0, .ref 0), (1, .int x)] [.int x] sgX5_read_0_840bfd rfl ?_
  exact am_xS hF hX [.int x] [] (c_checkPerson_x hG hx) myX5_checkPerson syX5_checkPerson lm_RX5_51 rfl ⟨Nat.le_of_ble_eq_true rfl, Nat.le_of_ble_eq_true rfl, Nat.le_of_ble_eq_true rfl, Nat.le_of_ble_eq_true rfl⟩ rfl (Nat.le_of_ble_eq_true rfl) dX5_read_1
set_option maxRecDepth 100000 in
set_option maxHeartbeats 4000000 in
theorem c_p_read_n0 {G : am_S} {T S : am_T} {o : Nat → Int64} {p : Nat} (hp9 : p < 16) (hb : T 8 p = nI 0) : am_D G yX5_read (.code yX5_read cX5_read 2 (some .int) :: am_G) { frames := 2, cells := 0, slots := 0, locals := 47 } (hp T S o) [.ref 0, .int (nI p)] (hp T S o) (some (.int (-1))) := by
  refine am_of (by decide +kernel) (Nat.le_of_ble_eq_true rfl) ?_
  intro C hse hret hname hF hO
  subst hse
  refine am_go hF sgX5_read_0_840bf 1 [(0, .ref 0), (1, .int (nI p))] [.int (nI p)] sgX5_read_0_840bfd rfl ?_
  refine am_dS hF hO [.int (nI p)] [] (c_checkPerson (show p < 16 by omega)) myX5_checkPerson syX5_checkPerson lm_RX5_51 rfl 0 0 ⟨Nat.le_of_ble_eq_true rfl, Nat.le_of_ble_eq_true rfl⟩ ⟨Nat.le_of_ble_eq_true rfl, Nat.le_of_ble_eq_true rfl, Nat.le_of_ble_eq_true rfl, Nat.le_of_ble_eq_true rfl⟩ rfl (am_lv_ref (hp_main _ _ _) (am_lv_int am_lv_nil)) (Nat.le_of_ble_eq_true rfl) dX5_read_1 [] rfl ?_
  refine am_go hF sgX5_read_4_34db8 5 [(0, .ref 0), (1, .int (nI p))] [.ref 0] sgX5_read_4_34db8d rfl ?_
  refine am_getf hF (hp_main T S o) (T := TX5) (N := 9) rfl (inG 5 inG5) 0 (by decide) (List.mem_cons_of_mem _ lf_RX5_11) rfl (.ref 1) rfl dX5_read_5 ?_
  refine am_go hF sgX5_read_8_840bf 9 [(0, .ref 0), (1, .int (nI p))] [.int (nI p), .ref 1] sgX5_read_8_840bfd rfl ?_
  refine cv_persons hF p rfl (show p < 16 by omega) dX5_read_9 ?_
  refine am_dV hF hO [] [] (c_takeFirst_0 hp9 hb) myX3_takeFirst vyX3_takeFirst lm_RX5_254 (hp_person _ _ _ (show p < 16 by omega)) rfl rfl 0 0 ⟨Nat.le_of_ble_eq_true rfl, Nat.le_of_ble_eq_true rfl⟩ ⟨Nat.le_of_ble_eq_true rfl, Nat.le_of_ble_eq_true rfl, Nat.le_of_ble_eq_true rfl, Nat.le_of_ble_eq_true rfl⟩ rfl (am_lv_ref (hp_main _ _ _) (am_lv_int am_lv_nil)) (Nat.le_of_ble_eq_true rfl) dX5_read_10 [.int (-1)] rfl ?_
  exact am_iret hF hO hret rfl dX5_read_13 ⟨rfl, rfl⟩
