/-! the class: the filter, the court's choice, days -/
theorem ans_no {a m : Nat} (h : a < m) (hm : m < 2 ^ 31) : ¬ (nI a < 0 ∨ nI m ≤ nI a) := by
  rintro (h1 | h1)
  · exact nI_pos (by omega) h1
  · exact nI_ge h hm h1
theorem tlj_s {T : am_T} {x a b : Int32} {j : Nat} (h : a = itN (tlj T x) (-1) j) (h2 : b = tlj T x j a) : b = itN (tlj T x) (-1) (j + 1) := by rw [h2, h]; rfl
def sgX5_answersOwnPost_0_f8a59 : List Instr := [.iload_n 2]
theorem sgX5_answersOwnPost_0_f8a59d : am_dec cX5_answersOwnPost 0 sgX5_answersOwnPost_0_f8a59 = true := by decide +kernel
theorem dX5_answersOwnPost_1 : decode cX5_answersOwnPost 1 = .ok (.ifCond .lt 11, 3) := by decide +kernel
def sgX5_answersOwnPost_12_56c54 : List Instr := [.iconst 0]
theorem sgX5_answersOwnPost_12_56c54d : am_dec cX5_answersOwnPost 12 sgX5_answersOwnPost_12_56c54 = true := by decide +kernel
theorem dX5_answersOwnPost_13 : decode cX5_answersOwnPost 13 = .ok (.ireturn, 1) := by decide +kernel
def sgX5_answersOwnPost_4_14491 : List Instr := [.iload_n 2, .aload_n 0]
theorem sgX5_answersOwnPost_4_14491d : am_dec cX5_answersOwnPost 4 sgX5_answersOwnPost_4_14491 = true := by decide +kernel
theorem dX5_answersOwnPost_6 : decode cX5_answersOwnPost 6 = .ok (.getfield 35, 3) := by decide +kernel
theorem dX5_answersOwnPost_9 : decode cX5_answersOwnPost 9 = .ok (.if_icmp .lt 5, 3) := by decide +kernel
def sgX5_answersOwnPost_14_34db8 : List Instr := [.aload_n 0]
theorem sgX5_answersOwnPost_14_34db8d : am_dec cX5_answersOwnPost 14 sgX5_answersOwnPost_14_34db8 = true := by decide +kernel
theorem dX5_answersOwnPost_15 : decode cX5_answersOwnPost 15 = .ok (.getfield 31, 3) := by decide +kernel
def sgX5_answersOwnPost_18_f8a59 : List Instr := [.iload_n 2]
theorem sgX5_answersOwnPost_18_f8a59d : am_dec cX5_answersOwnPost 18 sgX5_answersOwnPost_18_f8a59 = true := by decide +kernel
theorem dX5_answersOwnPost_19 : decode cX5_answersOwnPost 19 = .ok (.aaload, 1) := by decide +kernel
def sgX5_answersOwnPost_20_c6008 : List Instr := [.astore_n 3, .aload_n 3]
theorem sgX5_answersOwnPost_20_c6008d : am_dec cX5_answersOwnPost 20 sgX5_answersOwnPost_20_c6008 = true := by decide +kernel
theorem dX5_answersOwnPost_22 : decode cX5_answersOwnPost 22 = .ok (.getfield 309, 3) := by decide +kernel
def sgX5_answersOwnPost_25_840bf : List Instr := [.iload_n 1]
theorem sgX5_answersOwnPost_25_840bfd : am_dec cX5_answersOwnPost 25 sgX5_answersOwnPost_25_840bf = true := by decide +kernel
theorem dX5_answersOwnPost_26 : decode cX5_answersOwnPost 26 = .ok (.if_icmp .eq 14, 3) := by decide +kernel
def sgX5_answersOwnPost_40_1c64c : List Instr := [.iconst 1, .goto 4]
theorem sgX5_answersOwnPost_40_1c64cd : am_dec cX5_answersOwnPost 40 sgX5_answersOwnPost_40_1c64c = true := by decide +kernel
theorem dX5_answersOwnPost_45 : decode cX5_answersOwnPost 45 = .ok (.ireturn, 1) := by decide +kernel
def sgX5_answersOwnPost_29_67016 : List Instr := [.aload_n 3]
theorem sgX5_answersOwnPost_29_67016d : am_dec cX5_answersOwnPost 29 sgX5_answersOwnPost_29_67016 = true := by decide +kernel
theorem dX5_answersOwnPost_30 : decode cX5_answersOwnPost 30 = .ok (.getfield 180, 3) := by decide +kernel
def sgX5_answersOwnPost_33_840bf : List Instr := [.iload_n 1]
theorem sgX5_answersOwnPost_33_840bfd : am_dec cX5_answersOwnPost 33 sgX5_answersOwnPost_33_840bf = true := by decide +kernel
theorem dX5_answersOwnPost_34 : decode cX5_answersOwnPost 34 = .ok (.invokestatic 103, 3) := by decide +kernel
theorem dX5_answersOwnPost_37 : decode cX5_answersOwnPost 37 = .ok (.ifCond .eq 7, 3) := by decide +kernel
def sgX5_answersOwnPost_44_56c54 : List Instr := [.iconst 0]
theorem sgX5_answersOwnPost_44_56c54d : am_dec cX5_answersOwnPost 44 sgX5_answersOwnPost_44_56c54 = true := by decide +kernel
def sgX5_scoreOf_0_34db8 : List Instr := [.aload_n 0]
theorem sgX5_scoreOf_0_34db8d : am_dec cX5_scoreOf 0 sgX5_scoreOf_0_34db8 = true := by decide +kernel
theorem dX5_scoreOf_1 : decode cX5_scoreOf 1 = .ok (.getfield 11, 3) := by decide +kernel
def sgX5_scoreOf_4_840bf : List Instr := [.iload_n 1]
theorem sgX5_scoreOf_4_840bfd : am_dec cX5_scoreOf 4 sgX5_scoreOf_4_840bf = true := by decide +kernel
theorem dX5_scoreOf_5 : decode cX5_scoreOf 5 = .ok (.aaload, 1) := by decide +kernel
theorem dX5_scoreOf_6 : decode cX5_scoreOf 6 = .ok (.getfield 240, 3) := by decide +kernel
def sgX5_scoreOf_9_8bcf7 : List Instr := [.aload_n 0, .iload_n 1]
theorem sgX5_scoreOf_9_8bcf7d : am_dec cX5_scoreOf 9 sgX5_scoreOf_9_8bcf7 = true := by decide +kernel
theorem dX5_scoreOf_11 : decode cX5_scoreOf 11 = .ok (.invokevirtual 303, 3) := by decide +kernel
def sgX5_scoreOf_14_64899 : List Instr := [.iadd, .istore 4, .iconst 0, .istore 5]
theorem sgX5_scoreOf_14_64899d : am_dec cX5_scoreOf 14 sgX5_scoreOf_14_64899 = true := by decide +kernel
def sgX5_scoreOf_20_ea47b : List Instr := [.iload 5, .bipush 20]
theorem sgX5_scoreOf_20_ea47bd : am_dec cX5_scoreOf 20 sgX5_scoreOf_20_ea47b = true := by decide +kernel
theorem dX5_scoreOf_24 : decode cX5_scoreOf 24 = .ok (.if_icmp .ge 30, 3) := by decide +kernel
def sgX5_scoreOf_54_5abed : List Instr := [.aload_n 0, .iload_n 1, .iload_n 3]
theorem sgX5_scoreOf_54_5abedd : am_dec cX5_scoreOf 54 sgX5_scoreOf_54_5abed = true := by decide +kernel
theorem dX5_scoreOf_57 : decode cX5_scoreOf 57 = .ok (.invokevirtual 306, 3) := by decide +kernel
theorem dX5_scoreOf_60 : decode cX5_scoreOf 60 = .ok (.ifCond .eq 10, 3) := by decide +kernel
def sgX5_scoreOf_70_c6742 : List Instr := [.iload 4]
theorem sgX5_scoreOf_70_c6742d : am_dec cX5_scoreOf 70 sgX5_scoreOf_70_c6742 = true := by decide +kernel
theorem dX5_scoreOf_72 : decode cX5_scoreOf 72 = .ok (.ireturn, 1) := by decide +kernel
def sgX5_scoreOf_63_bba7b : List Instr := [.iload 4, .iconst 3, .isub, .goto 5]
theorem sgX5_scoreOf_63_bba7bd : am_dec cX5_scoreOf 63 sgX5_scoreOf_63_bba7b = true := by decide +kernel
def sgX5_scoreOf_27_a86cc : List Instr := [.iload_n 2, .iload 5]
theorem sgX5_scoreOf_27_a86ccd : am_dec cX5_scoreOf 27 sgX5_scoreOf_27_a86cc = true := by decide +kernel
theorem dX5_scoreOf_30 : decode cX5_scoreOf 30 = .ok (.invokestatic 103, 3) := by decide +kernel
theorem dX5_scoreOf_33 : decode cX5_scoreOf 33 = .ok (.ifCond .eq 15, 3) := by decide +kernel
def sgX5_scoreOf_48_35882 : List Instr := [.iinc 5 1, .goto (-31)]
theorem sgX5_scoreOf_48_35882d : am_dec cX5_scoreOf 48 sgX5_scoreOf_48_35882 = true := by decide +kernel
def sgX5_scoreOf_36_49a24 : List Instr := [.iload 4, .aload_n 0]
theorem sgX5_scoreOf_36_49a24d : am_dec cX5_scoreOf 36 sgX5_scoreOf_36_49a24 = true := by decide +kernel
theorem dX5_scoreOf_39 : decode cX5_scoreOf 39 = .ok (.getfield 15, 3) := by decide +kernel
def sgX5_scoreOf_42_9df92 : List Instr := [.iload 5]
theorem sgX5_scoreOf_42_9df92d : am_dec cX5_scoreOf 42 sgX5_scoreOf_42_9df92 = true := by decide +kernel
theorem dX5_scoreOf_44 : decode cX5_scoreOf 44 = .ok (.iaload, 1) := by decide +kernel
def sgX5_scoreOf_45_571ac : List Instr := [.iadd, .istore 4, .iinc 5 1, .goto (-31)]
theorem sgX5_scoreOf_45_571acd : am_dec cX5_scoreOf 45 sgX5_scoreOf_45_571ac = true := by decide +kernel
def sgX5_causeFor_0_34db8 : List Instr := [.aload_n 0]
theorem sgX5_causeFor_0_34db8d : am_dec cX5_causeFor 0 sgX5_causeFor_0_34db8 = true := by decide +kernel
theorem dX5_causeFor_1 : decode cX5_causeFor 1 = .ok (.getfield 21, 3) := by decide +kernel
def sgX5_causeFor_4_f8a59 : List Instr := [.iload_n 2]
theorem sgX5_causeFor_4_f8a59d : am_dec cX5_causeFor 4 sgX5_causeFor_4_f8a59 = true := by decide +kernel
theorem dX5_causeFor_5 : decode cX5_causeFor 5 = .ok (.aaload, 1) := by decide +kernel
def sgX5_causeFor_6_aa81e : List Instr := [.astore 4, .aload 4]
theorem sgX5_causeFor_6_aa81ed : am_dec cX5_causeFor 6 sgX5_causeFor_6_aa81e = true := by decide +kernel
theorem dX5_causeFor_10 : decode cX5_causeFor 10 = .ok (.getfield 132, 3) := by decide +kernel
def sgX5_causeFor_13_840bf : List Instr := [.iload_n 1]
theorem sgX5_causeFor_13_840bfd : am_dec cX5_causeFor 13 sgX5_causeFor_13_840bf = true := by decide +kernel
theorem dX5_causeFor_14 : decode cX5_causeFor 14 = .ok (.invokestatic 103, 3) := by decide +kernel
theorem dX5_causeFor_17 : decode cX5_causeFor 17 = .ok (.ifCond .eq 5, 3) := by decide +kernel
def sgX5_causeFor_22_cbbc5 : List Instr := [.aload 4]
theorem sgX5_causeFor_22_cbbc5d : am_dec cX5_causeFor 22 sgX5_causeFor_22_cbbc5 = true := by decide +kernel
theorem dX5_causeFor_24 : decode cX5_causeFor 24 = .ok (.getfield 128, 3) := by decide +kernel
theorem dX5_causeFor_27 : decode cX5_causeFor 27 = .ok (.ifCond .eq 21, 3) := by decide +kernel
def sgX5_causeFor_48_0716d : List Instr := [.iload_n 3, .aload 4]
theorem sgX5_causeFor_48_0716dd : am_dec cX5_causeFor 48 sgX5_causeFor_48_0716d = true := by decide +kernel
theorem dX5_causeFor_51 : decode cX5_causeFor 51 = .ok (.getfield 122, 3) := by decide +kernel
theorem dX5_causeFor_54 : decode cX5_causeFor 54 = .ok (.if_icmp .lt 7, 3) := by decide +kernel
def sgX5_causeFor_61_5ff24 : List Instr := [.iconst (-1)]
theorem sgX5_causeFor_61_5ff24d : am_dec cX5_causeFor 61 sgX5_causeFor_61_5ff24 = true := by decide +kernel
theorem dX5_causeFor_62 : decode cX5_causeFor 62 = .ok (.ireturn, 1) := by decide +kernel
def sgX5_causeFor_57_abe91 : List Instr := [.iconst 2, .goto 4]
theorem sgX5_causeFor_57_abe91d : am_dec cX5_causeFor 57 sgX5_causeFor_57_abe91 = true := by decide +kernel
def sgX5_causeFor_30_f0554 : List Instr := [.aload_n 0, .aload_n 0, .iload_n 2]
theorem sgX5_causeFor_30_f0554d : am_dec cX5_causeFor 30 sgX5_causeFor_30_f0554 = true := by decide +kernel
theorem dX5_causeFor_33 : decode cX5_causeFor 33 = .ok (.invokevirtual 107, 3) := by decide +kernel
theorem dX5_causeFor_36 : decode cX5_causeFor 36 = .ok (.invokevirtual 140, 3) := by decide +kernel
def sgX5_causeFor_39_840bf : List Instr := [.iload_n 1]
theorem sgX5_causeFor_39_840bfd : am_dec cX5_causeFor 39 sgX5_causeFor_39_840bf = true := by decide +kernel
theorem dX5_causeFor_40 : decode cX5_causeFor 40 = .ok (.invokestatic 103, 3) := by decide +kernel
theorem dX5_causeFor_43 : decode cX5_causeFor 43 = .ok (.ifCond .ne 5, 3) := by decide +kernel
def sgX5_causeFor_46_4de0a : List Instr := [.iconst 1]
theorem sgX5_causeFor_46_4de0ad : am_dec cX5_causeFor 46 sgX5_causeFor_46_4de0a = true := by decide +kernel
theorem dX5_causeFor_47 : decode cX5_causeFor 47 = .ok (.ireturn, 1) := by decide +kernel
def sgX5_causeFor_20_56c54 : List Instr := [.iconst 0]
theorem sgX5_causeFor_20_56c54d : am_dec cX5_causeFor 20 sgX5_causeFor_20_56c54 = true := by decide +kernel
theorem dX5_causeFor_21 : decode cX5_causeFor 21 = .ok (.ireturn, 1) := by decide +kernel
def sgX5_findPostDay_0_01fef : List Instr := [.iconst 0, .istore_n 2]
theorem sgX5_findPostDay_0_01fefd : am_dec cX5_findPostDay 0 sgX5_findPostDay_0_01fef = true := by decide +kernel
def sgX5_findPostDay_2_14491 : List Instr := [.iload_n 2, .aload_n 0]
theorem sgX5_findPostDay_2_14491d : am_dec cX5_findPostDay 2 sgX5_findPostDay_2_14491 = true := by decide +kernel
theorem dX5_findPostDay_4 : decode cX5_findPostDay 4 = .ok (.getfield 44, 3) := by decide +kernel
theorem dX5_findPostDay_7 : decode cX5_findPostDay 7 = .ok (.if_icmp .ge 29, 3) := by decide +kernel
def sgX5_findPostDay_36_380b8 : List Instr := [.aconst_null]
theorem sgX5_findPostDay_36_380b8d : am_dec cX5_findPostDay 36 sgX5_findPostDay_36_380b8 = true := by decide +kernel
theorem dX5_findPostDay_37 : decode cX5_findPostDay 37 = .ok (.areturn, 1) := by decide +kernel
def sgX5_findPostDay_10_34db8 : List Instr := [.aload_n 0]
theorem sgX5_findPostDay_10_34db8d : am_dec cX5_findPostDay 10 sgX5_findPostDay_10_34db8 = true := by decide +kernel
theorem dX5_findPostDay_11 : decode cX5_findPostDay 11 = .ok (.getfield 40, 3) := by decide +kernel
def sgX5_findPostDay_14_f8a59 : List Instr := [.iload_n 2]
theorem sgX5_findPostDay_14_f8a59d : am_dec cX5_findPostDay 14 sgX5_findPostDay_14_f8a59 = true := by decide +kernel
theorem dX5_findPostDay_15 : decode cX5_findPostDay 15 = .ok (.aaload, 1) := by decide +kernel
theorem dX5_findPostDay_16 : decode cX5_findPostDay 16 = .ok (.getfield 316, 3) := by decide +kernel
def sgX5_findPostDay_19_840bf : List Instr := [.iload_n 1]
theorem sgX5_findPostDay_19_840bfd : am_dec cX5_findPostDay 19 sgX5_findPostDay_19_840bf = true := by decide +kernel
theorem dX5_findPostDay_20 : decode cX5_findPostDay 20 = .ok (.if_icmp .ne 10, 3) := by decide +kernel
def sgX5_findPostDay_30_8f3dc : List Instr := [.iinc 2 1, .goto (-31)]
theorem sgX5_findPostDay_30_8f3dcd : am_dec cX5_findPostDay 30 sgX5_findPostDay_30_8f3dc = true := by decide +kernel
def sgX5_findPostDay_23_34db8 : List Instr := [.aload_n 0]
theorem sgX5_findPostDay_23_34db8d : am_dec cX5_findPostDay 23 sgX5_findPostDay_23_34db8 = true := by decide +kernel
theorem dX5_findPostDay_24 : decode cX5_findPostDay 24 = .ok (.getfield 40, 3) := by decide +kernel
def sgX5_findPostDay_27_f8a59 : List Instr := [.iload_n 2]
theorem sgX5_findPostDay_27_f8a59d : am_dec cX5_findPostDay 27 sgX5_findPostDay_27_f8a59 = true := by decide +kernel
theorem dX5_findPostDay_28 : decode cX5_findPostDay 28 = .ok (.aaload, 1) := by decide +kernel
theorem dX5_findPostDay_29 : decode cX5_findPostDay 29 = .ok (.areturn, 1) := by decide +kernel
def sgX5_jurorCandidates_0_24699 : List Instr := [.iconst 0, .istore_n 2, .iconst 0, .istore_n 3]
theorem sgX5_jurorCandidates_0_24699d : am_dec cX5_jurorCandidates 0 sgX5_jurorCandidates_0_24699 = true := by decide +kernel
def sgX5_jurorCandidates_4_a1b5b : List Instr := [.iload_n 3, .aload_n 0]
theorem sgX5_jurorCandidates_4_a1b5bd : am_dec cX5_jurorCandidates 4 sgX5_jurorCandidates_4_a1b5b = true := by decide +kernel
theorem dX5_jurorCandidates_6 : decode cX5_jurorCandidates 6 = .ok (.getfield 25, 3) := by decide +kernel
theorem dX5_jurorCandidates_9 : decode cX5_jurorCandidates 9 = .ok (.if_icmp .ge 24, 3) := by decide +kernel
def sgX5_jurorCandidates_33_79830 : List Instr := [.iload_n 2, .aload_n 1]
theorem sgX5_jurorCandidates_33_79830d : am_dec cX5_jurorCandidates 33 sgX5_jurorCandidates_33_79830 = true := by decide +kernel
theorem dX5_jurorCandidates_35 : decode cX5_jurorCandidates 35 = .ok (.getfield 309, 3) := by decide +kernel
theorem dX5_jurorCandidates_38 : decode cX5_jurorCandidates 38 = .ok (.invokestatic 115, 3) := by decide +kernel
def sgX5_jurorCandidates_41_57f93 : List Instr := [.iconst (-1), .ixor, .iand, .aload_n 0]
theorem sgX5_jurorCandidates_41_57f93d : am_dec cX5_jurorCandidates 41 sgX5_jurorCandidates_41_57f93 = true := by decide +kernel
theorem dX5_jurorCandidates_45 : decode cX5_jurorCandidates 45 = .ok (.getfield 21, 3) := by decide +kernel
def sgX5_jurorCandidates_48_a7701 : List Instr := [.aload_n 1]
theorem sgX5_jurorCandidates_48_a7701d : am_dec cX5_jurorCandidates 48 sgX5_jurorCandidates_48_a7701 = true := by decide +kernel
theorem dX5_jurorCandidates_49 : decode cX5_jurorCandidates 49 = .ok (.getfield 319, 3) := by decide +kernel
theorem dX5_jurorCandidates_52 : decode cX5_jurorCandidates 52 = .ok (.aaload, 1) := by decide +kernel
theorem dX5_jurorCandidates_53 : decode cX5_jurorCandidates 53 = .ok (.getfield 348, 3) := by decide +kernel
theorem dX5_jurorCandidates_56 : decode cX5_jurorCandidates 56 = .ok (.invokestatic 115, 3) := by decide +kernel
def sgX5_jurorCandidates_59_c71c9 : List Instr := [.iconst (-1), .ixor, .iand]
theorem sgX5_jurorCandidates_59_c71c9d : am_dec cX5_jurorCandidates 59 sgX5_jurorCandidates_59_c71c9 = true := by decide +kernel
theorem dX5_jurorCandidates_62 : decode cX5_jurorCandidates 62 = .ok (.ireturn, 1) := by decide +kernel
def sgX5_jurorCandidates_12_14491 : List Instr := [.iload_n 2, .aload_n 0]
theorem sgX5_jurorCandidates_12_14491d : am_dec cX5_jurorCandidates 12 sgX5_jurorCandidates_12_14491 = true := by decide +kernel
theorem dX5_jurorCandidates_14 : decode cX5_jurorCandidates 14 = .ok (.getfield 21, 3) := by decide +kernel
def sgX5_jurorCandidates_17_13b50 : List Instr := [.iload_n 3]
theorem sgX5_jurorCandidates_17_13b50d : am_dec cX5_jurorCandidates 17 sgX5_jurorCandidates_17_13b50 = true := by decide +kernel
theorem dX5_jurorCandidates_18 : decode cX5_jurorCandidates 18 = .ok (.aaload, 1) := by decide +kernel
theorem dX5_jurorCandidates_19 : decode cX5_jurorCandidates 19 = .ok (.getfield 348, 3) := by decide +kernel
theorem dX5_jurorCandidates_22 : decode cX5_jurorCandidates 22 = .ok (.invokestatic 115, 3) := by decide +kernel
def sgX5_jurorCandidates_25_91391 : List Instr := [.ior, .istore_n 2, .iinc 3 1, .goto (-26)]
theorem sgX5_jurorCandidates_25_91391d : am_dec cX5_jurorCandidates 25 sgX5_jurorCandidates_25_91391 = true := by decide +kernel
def sgX5_leastJudged_0_9e5dc : List Instr := [.iconst (-1), .istore_n 2, .iconst 0, .istore_n 3]
theorem sgX5_leastJudged_0_9e5dcd : am_dec cX5_leastJudged 0 sgX5_leastJudged_0_9e5dc = true := by decide +kernel
def sgX5_leastJudged_4_b88ad : List Instr := [.iload_n 3, .bipush 16]
theorem sgX5_leastJudged_4_b88add : am_dec cX5_leastJudged 4 sgX5_leastJudged_4_b88ad = true := by decide +kernel
theorem dX5_leastJudged_7 : decode cX5_leastJudged 7 = .ok (.if_icmp .ge 45, 3) := by decide +kernel
def sgX5_leastJudged_52_f8a59 : List Instr := [.iload_n 2]
theorem sgX5_leastJudged_52_f8a59d : am_dec cX5_leastJudged 52 sgX5_leastJudged_52_f8a59 = true := by decide +kernel
theorem dX5_leastJudged_53 : decode cX5_leastJudged 53 = .ok (.ireturn, 1) := by decide +kernel
def sgX5_leastJudged_10_20da6 : List Instr := [.iload_n 1, .iload_n 3]
theorem sgX5_leastJudged_10_20da6d : am_dec cX5_leastJudged 10 sgX5_leastJudged_10_20da6 = true := by decide +kernel
theorem dX5_leastJudged_12 : decode cX5_leastJudged 12 = .ok (.invokestatic 103, 3) := by decide +kernel
theorem dX5_leastJudged_15 : decode cX5_leastJudged 15 = .ok (.ifCond .eq 31, 3) := by decide +kernel
def sgX5_leastJudged_46_2bab4 : List Instr := [.iinc 3 1, .goto (-45)]
theorem sgX5_leastJudged_46_2bab4d : am_dec cX5_leastJudged 46 sgX5_leastJudged_46_2bab4 = true := by decide +kernel
def sgX5_leastJudged_18_83cd8 : List Instr := [.iload_n 2, .iconst (-1)]
theorem sgX5_leastJudged_18_83cd8d : am_dec cX5_leastJudged 18 sgX5_leastJudged_18_83cd8 = true := by decide +kernel
theorem dX5_leastJudged_20 : decode cX5_leastJudged 20 = .ok (.if_icmp .eq 24, 3) := by decide +kernel
def sgX5_leastJudged_44_3946c : List Instr := [.iload_n 3, .istore_n 2, .iinc 3 1, .goto (-45)]
theorem sgX5_leastJudged_44_3946cd : am_dec cX5_leastJudged 44 sgX5_leastJudged_44_3946c = true := by decide +kernel
def sgX5_leastJudged_23_34db8 : List Instr := [.aload_n 0]
theorem sgX5_leastJudged_23_34db8d : am_dec cX5_leastJudged 23 sgX5_leastJudged_23_34db8 = true := by decide +kernel
theorem dX5_leastJudged_24 : decode cX5_leastJudged 24 = .ok (.getfield 11, 3) := by decide +kernel
def sgX5_leastJudged_27_13b50 : List Instr := [.iload_n 3]
theorem sgX5_leastJudged_27_13b50d : am_dec cX5_leastJudged 27 sgX5_leastJudged_27_13b50 = true := by decide +kernel
theorem dX5_leastJudged_28 : decode cX5_leastJudged 28 = .ok (.aaload, 1) := by decide +kernel
theorem dX5_leastJudged_29 : decode cX5_leastJudged 29 = .ok (.getfield 217, 3) := by decide +kernel
def sgX5_leastJudged_32_34db8 : List Instr := [.aload_n 0]
theorem sgX5_leastJudged_32_34db8d : am_dec cX5_leastJudged 32 sgX5_leastJudged_32_34db8 = true := by decide +kernel
theorem dX5_leastJudged_33 : decode cX5_leastJudged 33 = .ok (.getfield 11, 3) := by decide +kernel
def sgX5_leastJudged_36_f8a59 : List Instr := [.iload_n 2]
theorem sgX5_leastJudged_36_f8a59d : am_dec cX5_leastJudged 36 sgX5_leastJudged_36_f8a59 = true := by decide +kernel
theorem dX5_leastJudged_37 : decode cX5_leastJudged 37 = .ok (.aaload, 1) := by decide +kernel
theorem dX5_leastJudged_38 : decode cX5_leastJudged 38 = .ok (.getfield 217, 3) := by decide +kernel
theorem dX5_leastJudged_41 : decode cX5_leastJudged 41 = .ok (.if_icmp .ge 5, 3) := by decide +kernel
def sgX5_chooseJurors_0_24699 : List Instr := [.iconst 0, .istore_n 2, .iconst 0, .istore_n 3]
theorem sgX5_chooseJurors_0_24699d : am_dec cX5_chooseJurors 0 sgX5_chooseJurors_0_24699 = true := by decide +kernel
def sgX5_chooseJurors_4_bb00f : List Instr := [.iload_n 3, .iconst 3]
theorem sgX5_chooseJurors_4_bb00fd : am_dec cX5_chooseJurors 4 sgX5_chooseJurors_4_bb00f = true := by decide +kernel
theorem dX5_chooseJurors_6 : decode cX5_chooseJurors 6 = .ok (.if_icmp .ge 34, 3) := by decide +kernel
def sgX5_chooseJurors_40_f8a59 : List Instr := [.iload_n 2]
theorem sgX5_chooseJurors_40_f8a59d : am_dec cX5_chooseJurors 40 sgX5_chooseJurors_40_f8a59 = true := by decide +kernel
theorem dX5_chooseJurors_41 : decode cX5_chooseJurors 41 = .ok (.ireturn, 1) := by decide +kernel
def sgX5_chooseJurors_9_fa069 : List Instr := [.aload_n 0, .iload_n 1, .iload_n 2, .iconst (-1), .ixor, .iand]
theorem sgX5_chooseJurors_9_fa069d : am_dec cX5_chooseJurors 9 sgX5_chooseJurors_9_fa069 = true := by decide +kernel
theorem dX5_chooseJurors_15 : decode cX5_chooseJurors 15 = .ok (.invokevirtual 351, 3) := by decide +kernel
def sgX5_chooseJurors_18_0d3ab : List Instr := [.istore 4, .iload 4, .iconst (-1)]
theorem sgX5_chooseJurors_18_0d3abd : am_dec cX5_chooseJurors 18 sgX5_chooseJurors_18_0d3ab = true := by decide +kernel
theorem dX5_chooseJurors_23 : decode cX5_chooseJurors 23 = .ok (.if_icmp .eq 11, 3) := by decide +kernel
def sgX5_chooseJurors_34_6e20a : List Instr := [.iinc 3 1, .goto (-33)]
theorem sgX5_chooseJurors_34_6e20ad : am_dec cX5_chooseJurors 34 sgX5_chooseJurors_34_6e20a = true := by decide +kernel
def sgX5_chooseJurors_26_62b07 : List Instr := [.iload_n 2, .iload 4]
theorem sgX5_chooseJurors_26_62b07d : am_dec cX5_chooseJurors 26 sgX5_chooseJurors_26_62b07 = true := by decide +kernel
theorem dX5_chooseJurors_29 : decode cX5_chooseJurors 29 = .ok (.invokestatic 115, 3) := by decide +kernel
def sgX5_chooseJurors_32_fbee0 : List Instr := [.ior, .istore_n 2, .iinc 3 1, .goto (-33)]
theorem sgX5_chooseJurors_32_fbee0d : am_dec cX5_chooseJurors 32 sgX5_chooseJurors_32_fbee0 = true := by decide +kernel
set_option maxRecDepth 100000 in
set_option maxHeartbeats 4000000 in
theorem c_answers_n {G : am_S} {T S : am_T} {o : Nat → Int64} {m : Nat} (hm : T 1 0 = nI m) (hm80 : m ≤ 80) {p : Nat} (hp9 : p < 16) {x : Int32} (hx : x < 0 ∨ nI m ≤ x) : am_D G yX5_answersOwnPost (.code yX5_answersOwnPost cX5_answersOwnPost 4 (some .boolean) :: am_G) { frames := 1, cells := 0, slots := 0, locals := 21 } (hp T S o) [.ref 0, .int (nI p), .int x] (hp T S o) (some (.int (zb (tAns T m p x)))) := by
  refine am_of (by decide +kernel) (Nat.le_of_ble_eq_true rfl) ?_
  intro C hse hret hname hF hO
  subst hse
  refine am_go hF sgX5_answersOwnPost_0_f8a59 1 [(0, .ref 0), (1, .int (nI p)), (2, .int x)] [.int x] sgX5_answersOwnPost_0_f8a59d rfl ?_
  refine am_iflt hF 12 dX5_answersOwnPost_1 (by decide) (fun c1 => ?_) (fun c1 => ?_)
  · skip
    refine am_go hF sgX5_answersOwnPost_12_56c54 13 [(0, .ref 0), (1, .int (nI p)), (2, .int x)] [.int 0] sgX5_answersOwnPost_12_56c54d rfl ?_
    exact am_iret hF hO hret rfl dX5_answersOwnPost_13 ⟨rfl, by rw [show tAns T m p x = false from if_pos hx]; rfl⟩
  · skip
    refine am_go hF sgX5_answersOwnPost_4_14491 6 [(0, .ref 0), (1, .int (nI p)), (2, .int x)] [.ref 0, .int x] sgX5_answersOwnPost_4_14491d rfl ?_
    refine am_getf hF (hp_main T S o) (T := TX5) (N := 9) rfl (inG 5 inG5) 5 (by decide) (List.mem_cons_of_mem _ lf_RX5_35) rfl (.int (T 1 0)) rfl dX5_answersOwnPost_6 ?_
    refine am_top (nI m) hm ?_
    refine am_icmplt hF 14 dX5_answersOwnPost_9 (by decide) (fun c2 => ?_) (fun c2 => ?_)
    · skip
      exact absurd hx (fun h => h.elim c1 (Int32.not_le.mpr c2))
    · skip
      refine am_go hF sgX5_answersOwnPost_12_56c54 13 [(0, .ref 0), (1, .int (nI p)), (2, .int x)] [.int 0] sgX5_answersOwnPost_12_56c54d rfl ?_
      exact am_iret hF hO hret rfl dX5_answersOwnPost_13 ⟨rfl, by rw [show tAns T m p x = false from if_pos hx]; rfl⟩
set_option maxRecDepth 100000 in
set_option maxHeartbeats 4000000 in
theorem c_answers_y {G : am_S} {T S : am_T} {o : Nat → Int64} {m : Nat} (hm : T 1 0 = nI m) (hm80 : m ≤ 80) {p : Nat} (hp9 : p < 16) {a : Nat} (ha9 : a < m) : am_D G yX5_answersOwnPost (.code yX5_answersOwnPost cX5_answersOwnPost 4 (some .boolean) :: am_G) { frames := 1, cells := 0, slots := 0, locals := 21 } (hp T S o) [.ref 0, .int (nI p), .int (nI a)] (hp T S o) (some (.int (zb (tAns T m p (nI a))))) := by
  refine am_of (by decide +kernel) (Nat.le_of_ble_eq_true rfl) ?_
  intro C hse hret hname hF hO
  subst hse
  refine am_go hF sgX5_answersOwnPost_0_f8a59 1 [(0, .ref 0), (1, .int (nI p)), (2, .int (nI a))] [.int (nI a)] sgX5_answersOwnPost_0_f8a59d rfl ?_
  refine am_iflt hF 12 dX5_answersOwnPost_1 (by decide) (fun h9 => False.elim (nI_pos (show a < 2 ^ 31 by omega) h9)) (fun _ => ?_)
  refine am_go hF sgX5_answersOwnPost_4_14491 6 [(0, .ref 0), (1, .int (nI p)), (2, .int (nI a))] [.ref 0, .int (nI a)] sgX5_answersOwnPost_4_14491d rfl ?_
  refine am_getf hF (hp_main T S o) (T := TX5) (N := 9) rfl (inG 5 inG5) 5 (by decide) (List.mem_cons_of_mem _ lf_RX5_35) rfl (.int (T 1 0)) rfl dX5_answersOwnPost_6 ?_
  refine am_top (nI m) hm ?_
  refine am_icmplt hF 14 dX5_answersOwnPost_9 (by decide) (fun _ => ?_) (fun h9 => False.elim (absurd (nc_lt (show a < m by omega) (by omega) (by omega) rfl rfl) h9))
  refine am_go hF sgX5_answersOwnPost_14_34db8 15 [(0, .ref 0), (1, .int (nI p)), (2, .int (nI a))] [.ref 0] sgX5_answersOwnPost_14_34db8d rfl ?_
  refine am_getf hF (hp_main T S o) (T := TX5) (N := 9) rfl (inG 5 inG5) 4 (by decide) (List.mem_cons_of_mem _ lf_RX5_31) rfl (.ref 4) rfl dX5_answersOwnPost_15 ?_
  refine am_go hF sgX5_answersOwnPost_18_f8a59 19 [(0, .ref 0), (1, .int (nI p)), (2, .int (nI a))] [.int (nI a), .ref 4] sgX5_answersOwnPost_18_f8a59d rfl ?_
  refine cv_post hF hm hm80 a rfl (show a < m by omega) dX5_answersOwnPost_19 ?_
  refine am_go hF sgX5_answersOwnPost_20_c6008 22 [(3, .ref (64 + a)), (0, .ref 0), (1, .int (nI p)), (2, .int (nI a))] [.ref (64 + a)] sgX5_answersOwnPost_20_c6008d rfl ?_
  refine am_getf hF (hp_mail T S o hm hm80 (show a < m by omega)) (T := TX1) (N := 11) rfl (inG 1 inG1) 1 (by decide) (List.mem_cons_of_mem _ lf_RX5_309) rfl (.int (T 19 a)) rfl dX5_answersOwnPost_22 ?_
  refine am_go hF sgX5_answersOwnPost_25_840bf 26 [(3, .ref (64 + a)), (0, .ref 0), (1, .int (nI p)), (2, .int (nI a))] [.int (nI p), .int (T 19 a)] sgX5_answersOwnPost_25_840bfd rfl ?_
  refine am_icmpeq hF 40 dX5_answersOwnPost_26 (by decide) (fun c3 => ?_) (fun c3 => ?_)
  · skip
    refine am_go hF sgX5_answersOwnPost_40_1c64c 45 [(3, .ref (64 + a)), (0, .ref 0), (1, .int (nI p)), (2, .int (nI a))] [.int 1] sgX5_answersOwnPost_40_1c64cd rfl ?_
    refine am_top (zb (tAns T m p (nI a))) (by unfold tAns; rw [if_neg (ans_no ha9 (by omega)), nI_clamp (by omega)]; simp [zb, (eq_true c3)]) ?_
    exact am_iret hF hO hret (zb_n _) dX5_answersOwnPost_45 ⟨rfl, rfl⟩
  · skip
    refine am_go hF sgX5_answersOwnPost_29_67016 30 [(3, .ref (64 + a)), (0, .ref 0), (1, .int (nI p)), (2, .int (nI a))] [.ref (64 + a)] sgX5_answersOwnPost_29_67016d rfl ?_
    refine am_getf hF (hp_mail T S o hm hm80 (show a < m by omega)) (T := TX1) (N := 11) rfl (inG 1 inG1) 8 (by decide) (List.mem_cons_of_mem _ lf_RX5_180) rfl (.int (T 26 a)) rfl dX5_answersOwnPost_30 ?_
    refine am_go hF sgX5_answersOwnPost_33_840bf 34 [(3, .ref (64 + a)), (0, .ref 0), (1, .int (nI p)), (2, .int (nI a))] [.int (nI p), .int (T 26 a)] sgX5_answersOwnPost_33_840bfd rfl ?_
    refine am_dS hF hO [.int (T 26 a), .int (nI p)] [] (c_contains (show p < 32 by omega)) myX5_contains syX5_contains lm_RX5_103 rfl 0 0 ⟨Nat.le_of_ble_eq_true rfl, Nat.le_of_ble_eq_true rfl⟩ ⟨Nat.le_of_ble_eq_true rfl, Nat.le_of_ble_eq_true rfl, Nat.le_of_ble_eq_true rfl, Nat.le_of_ble_eq_true rfl⟩ rfl (am_lv_ref (hp_mail _ _ _ hm hm80 (show a < m by omega)) (am_lv_ref (hp_main _ _ _) (am_lv_int (am_lv_int am_lv_nil)))) (Nat.le_of_ble_eq_true rfl) dX5_answersOwnPost_34 [.int (zb (bt (T 26 a) p))] rfl ?_
    refine am_ifeq hF 44 dX5_answersOwnPost_37 (by decide) (fun c4 => ?_) (fun c4 => ?_)
    · skip
      replace c4 := zb_0.mp c4
      refine am_go hF sgX5_answersOwnPost_44_56c54 45 [(3, .ref (64 + a)), (0, .ref 0), (1, .int (nI p)), (2, .int (nI a))] [.int 0] sgX5_answersOwnPost_44_56c54d rfl ?_
      refine am_top (zb (tAns T m p (nI a))) (by unfold tAns; rw [if_neg (ans_no ha9 (by omega)), nI_clamp (by omega)]; simp [zb, c3, c4]) ?_
      exact am_iret hF hO hret (zb_n _) dX5_answersOwnPost_45 ⟨rfl, rfl⟩
    · skip
      replace c4 := zb_p.mp c4
      refine am_go hF sgX5_answersOwnPost_40_1c64c 45 [(3, .ref (64 + a)), (0, .ref 0), (1, .int (nI p)), (2, .int (nI a))] [.int 1] sgX5_answersOwnPost_40_1c64cd rfl ?_
      refine am_top (zb (tAns T m p (nI a))) (by unfold tAns; rw [if_neg (ans_no ha9 (by omega)), nI_clamp (by omega)]; simp [zb, c3, c4]) ?_
      exact am_iret hF hO hret (zb_n _) dX5_answersOwnPost_45 ⟨rfl, rfl⟩
set_option maxRecDepth 100000 in
set_option maxHeartbeats 4000000 in
theorem c_t_scoreOf_n {G : am_S} {T S : am_T} {o : Nat → Int64} {m : Nat} (hm : T 1 0 = nI m) (hm80 : m ≤ 80) {v : Nat} (hv : T 2 0 = nI v) (hv80 : v ≤ 80) (hday : ∀ k, k < m → (T 21 k).toNatClampNeg < v) {p : Nat} (hp9 : p < 16) {words : Int32} {x : Int32} (hx : x < 0 ∨ nI m ≤ x) : am_D G yX5_scoreOf (.code yX5_scoreOf cX5_scoreOf 6 (some .int) :: am_G) { frames := 2, cells := 0, slots := 0, locals := 44 } (hp T S o) [.ref 0, .int (nI p), .int words, .int x] (hp T S o) (some (.int (tScore T m p words x))) := by
  refine am_of (by decide +kernel) (Nat.le_of_ble_eq_true rfl) ?_
  intro C hse hret hname hF hO
  subst hse
  refine am_go hF sgX5_scoreOf_0_34db8 1 [(0, .ref 0), (1, .int (nI p)), (2, .int words), (3, .int x)] [.ref 0] sgX5_scoreOf_0_34db8d rfl ?_
  refine am_getf hF (hp_main T S o) (T := TX5) (N := 9) rfl (inG 5 inG5) 0 (by decide) (List.mem_cons_of_mem _ lf_RX5_11) rfl (.ref 1) rfl dX5_scoreOf_1 ?_
  refine am_go hF sgX5_scoreOf_4_840bf 5 [(0, .ref 0), (1, .int (nI p)), (2, .int words), (3, .int x)] [.int (nI p), .ref 1] sgX5_scoreOf_4_840bfd rfl ?_
  refine cv_persons hF p rfl (show p < 16 by omega) dX5_scoreOf_5 ?_
  refine am_getf hF (hp_person T S o (show p < 16 by omega)) (T := TX3) (N := 5) rfl (inG 3 inG3) 0 (by decide) (List.mem_cons_of_mem _ lf_RX5_240) rfl (.int (T 5 p)) rfl dX5_scoreOf_6 ?_
  refine am_go hF sgX5_scoreOf_9_8bcf7 11 [(0, .ref 0), (1, .int (nI p)), (2, .int words), (3, .int x)] [.int (nI p), .ref 0, .int (T 5 p)] sgX5_scoreOf_9_8bcf7d rfl ?_
  refine am_dV hF hO [.int (nI p)] [.int (T 5 p)] (c_sentToday (T := T) hm hm80 hv hv80 hday (show p < 16 by omega)) myX5_sentToday vyX5_sentToday lm_RX5_303 (hp_main _ _ _) rfl rfl 0 0 ⟨Nat.le_of_ble_eq_true rfl, Nat.le_of_ble_eq_true rfl⟩ ⟨Nat.le_of_ble_eq_true rfl, Nat.le_of_ble_eq_true rfl, Nat.le_of_ble_eq_true rfl, Nat.le_of_ble_eq_true rfl⟩ rfl (am_lv_ref (hp_main _ _ _) (am_lv_int (am_lv_int (am_lv_int (am_lv_int am_lv_nil))))) (Nat.le_of_ble_eq_true rfl) dX5_scoreOf_11 [.int (tSent T m p), .int (T 5 p)] rfl ?_
  refine am_go hF sgX5_scoreOf_14_64899 20 [(5, .int 0), (4, .int ((T 5 p) + (tSent T m p))), (0, .ref 0), (1, .int (nI p)), (2, .int words), (3, .int x)] [] sgX5_scoreOf_14_64899d rfl ?_
  refine am_drop [2, 3, 4, 5, 1, 0] [(0, .ref 0), (1, .int (nI p)), (2, .int words), (3, .int x), (4, .int ((T 5 p) + (tSent T m p))), (5, .int 0)] rfl ?_
  have lp20 : ∀ (zz j : Nat) (s : Int32), j + zz = 20 → s = itN (tsw T words) (T 5 p + tSent T m p) j → am_W C (hp T S o) 0 0 20 [(0, .ref 0), (1, .int (nI p)), (2, .int words), (3, .int x), (4, .int s), (5, .int (nI j))] [] := by
    intro zz
    induction zz with
    | zero =>
      intro j s hj hs
      have e9j : j = 20 := by omega
      refine am_go hF sgX5_scoreOf_20_ea47b 24 [(0, .ref 0), (1, .int (nI p)), (2, .int words), (3, .int x), (4, .int s), (5, .int (nI j))] [.int 20, .int (nI j)] sgX5_scoreOf_20_ea47bd rfl ?_
      refine am_icmpge hF 54 dX5_scoreOf_24 (by decide) (fun _ => ?_) (fun h9 => False.elim (absurd (nc_ge (show 20 ≤ j by omega) (by omega) (by omega) rfl rfl) h9))
      refine am_go hF sgX5_scoreOf_54_5abed 57 [(0, .ref 0), (1, .int (nI p)), (2, .int words), (3, .int x), (4, .int s), (5, .int (nI j))] [.int x, .int (nI p), .ref 0] sgX5_scoreOf_54_5abedd rfl ?_
      refine am_dV hF hO [.int (nI p), .int x] [] (c_answers_n (T := T) hm hm80 hp9 hx) myX5_answersOwnPost vyX5_answersOwnPost lm_RX5_306 (hp_main _ _ _) rfl rfl 0 0 ⟨Nat.le_of_ble_eq_true rfl, Nat.le_of_ble_eq_true rfl⟩ ⟨Nat.le_of_ble_eq_true rfl, Nat.le_of_ble_eq_true rfl, Nat.le_of_ble_eq_true rfl, Nat.le_of_ble_eq_true rfl⟩ rfl (am_lv_ref (hp_main _ _ _) (am_lv_int (am_lv_int (am_lv_int (am_lv_int (am_lv_int am_lv_nil)))))) (Nat.le_of_ble_eq_true rfl) dX5_scoreOf_57 [.int (zb (tAns T m p x))] rfl ?_
      refine am_ifeq hF 70 dX5_scoreOf_60 (by decide) (fun c2 => ?_) (fun c2 => ?_)
      · skip
        replace c2 := zb_0.mp c2
        refine am_go hF sgX5_scoreOf_70_c6742 72 [(0, .ref 0), (1, .int (nI p)), (2, .int words), (3, .int x), (4, .int s), (5, .int (nI j))] [.int s] sgX5_scoreOf_70_c6742d rfl ?_
        exact am_iret hF hO hret rfl dX5_scoreOf_72 ⟨rfl, by unfold tScore; first | (rw [hs, e9j, if_neg (by rw [c2]; decide)]; done) | (rw [hs, e9j, if_neg (by rw [c2]; decide)]; rfl)⟩
      · skip
        replace c2 := zb_p.mp c2
        refine am_go hF sgX5_scoreOf_63_bba7b 72 [(0, .ref 0), (1, .int (nI p)), (2, .int words), (3, .int x), (4, .int s), (5, .int (nI j))] [.int (s - 3)] sgX5_scoreOf_63_bba7bd rfl ?_
        exact am_iret hF hO hret rfl dX5_scoreOf_72 ⟨rfl, by unfold tScore; first | (rw [hs, e9j, if_pos c2]; done) | (rw [hs, e9j, if_pos c2]; rfl)⟩
    | succ zz ih20 =>
      intro j s hj hs
      have l9j : j < 20 := by omega
      refine am_go hF sgX5_scoreOf_20_ea47b 24 [(0, .ref 0), (1, .int (nI p)), (2, .int words), (3, .int x), (4, .int s), (5, .int (nI j))] [.int 20, .int (nI j)] sgX5_scoreOf_20_ea47bd rfl ?_
      refine am_icmpge hF 54 dX5_scoreOf_24 (by decide) (fun h9 => False.elim (nc_lt_f (show j < 20 by omega) (by omega) (by omega) rfl rfl h9)) (fun _ => ?_)
      refine am_go hF sgX5_scoreOf_27_a86cc 30 [(0, .ref 0), (1, .int (nI p)), (2, .int words), (3, .int x), (4, .int s), (5, .int (nI j))] [.int (nI j), .int words] sgX5_scoreOf_27_a86ccd rfl ?_
      refine am_dS hF hO [.int words, .int (nI j)] [] (c_contains (show j < 32 by omega)) myX5_contains syX5_contains lm_RX5_103 rfl 0 0 ⟨Nat.le_of_ble_eq_true rfl, Nat.le_of_ble_eq_true rfl⟩ ⟨Nat.le_of_ble_eq_true rfl, Nat.le_of_ble_eq_true rfl, Nat.le_of_ble_eq_true rfl, Nat.le_of_ble_eq_true rfl⟩ rfl (am_lv_ref (hp_main _ _ _) (am_lv_int (am_lv_int (am_lv_int (am_lv_int (am_lv_int am_lv_nil)))))) (Nat.le_of_ble_eq_true rfl) dX5_scoreOf_30 [.int (zb (bt words j))] rfl ?_
      refine am_ifeq hF 48 dX5_scoreOf_33 (by decide) (fun c4 => ?_) (fun c4 => ?_)
      · skip
        replace c4 := zb_0.mp c4
        refine am_go hF sgX5_scoreOf_48_35882 20 [(5, .int ((nI j) + 1)), (0, .ref 0), (1, .int (nI p)), (2, .int words), (3, .int x), (4, .int s)] [] sgX5_scoreOf_48_35882d rfl ?_
        refine am_drop [1, 2, 3, 4, 5, 0] [(0, .ref 0), (1, .int (nI p)), (2, .int words), (3, .int x), (4, .int s), (5, .int ((nI j) + 1))] rfl ?_
        refine am_eqL [(0, .ref 0), (1, .int (nI p)), (2, .int words), (3, .int x), (4, .int s), (5, .int (nI (j + 1)))] (by rw [nI_1]) ?_
        exact ih20 (j + 1) s (by omega) (by show _ = tsw T words j (itN (tsw T words) (T 5 p + tSent T m p) j); rw [← hs]; simp only [tsw, Bool.false_eq_true, not_false_eq_true, not_true_eq_false, and_self, and_true, true_and, and_false, false_and, true_or, or_true, or_false, false_or, or_self, c4, ↓reduceIte])
      · skip
        replace c4 := zb_p.mp c4
        refine am_go hF sgX5_scoreOf_36_49a24 39 [(0, .ref 0), (1, .int (nI p)), (2, .int words), (3, .int x), (4, .int s), (5, .int (nI j))] [.ref 0, .int s] sgX5_scoreOf_36_49a24d rfl ?_
        refine am_getf hF (hp_main T S o) (T := TX5) (N := 9) rfl (inG 5 inG5) 1 (by decide) (List.mem_cons_of_mem _ lf_RX5_15) rfl (.ref 2) rfl dX5_scoreOf_39 ?_
        refine am_go hF sgX5_scoreOf_42_9df92 44 [(0, .ref 0), (1, .int (nI p)), (2, .int words), (3, .int x), (4, .int s), (5, .int (nI j))] [.int (nI j), .ref 2, .int s] sgX5_scoreOf_42_9df92d rfl ?_
        refine am_iald hF (hp_words T S o) j rfl (show j < 20 by omega) (by decide) dX5_scoreOf_44 ?_
        refine am_go hF sgX5_scoreOf_45_571ac 20 [(5, .int ((nI j) + 1)), (4, .int (s + (T 4 j))), (0, .ref 0), (1, .int (nI p)), (2, .int words), (3, .int x)] [] sgX5_scoreOf_45_571acd rfl ?_
        refine am_drop [2, 3, 4, 5, 1, 0] [(0, .ref 0), (1, .int (nI p)), (2, .int words), (3, .int x), (4, .int (s + (T 4 j))), (5, .int ((nI j) + 1))] rfl ?_
        refine am_eqL [(0, .ref 0), (1, .int (nI p)), (2, .int words), (3, .int x), (4, .int (s + (T 4 j))), (5, .int (nI (j + 1)))] (by rw [nI_1]) ?_
        exact ih20 (j + 1) (s + (T 4 j)) (by omega) (by show _ = tsw T words j (itN (tsw T words) (T 5 p + tSent T m p) j); rw [← hs]; simp only [tsw, Bool.false_eq_true, not_false_eq_true, not_true_eq_false, and_self, and_true, true_and, and_false, false_and, true_or, or_true, or_false, false_or, or_self, c4, ↓reduceIte])
  exact lp20 20 0 ((T 5 p) + (tSent T m p)) (by omega) rfl
set_option maxRecDepth 100000 in
set_option maxHeartbeats 4000000 in
theorem c_t_scoreOf_y {G : am_S} {T S : am_T} {o : Nat → Int64} {m : Nat} (hm : T 1 0 = nI m) (hm80 : m ≤ 80) {v : Nat} (hv : T 2 0 = nI v) (hv80 : v ≤ 80) (hday : ∀ k, k < m → (T 21 k).toNatClampNeg < v) {p : Nat} (hp9 : p < 16) {words : Int32} {a : Nat} (ha9 : a < m) : am_D G yX5_scoreOf (.code yX5_scoreOf cX5_scoreOf 6 (some .int) :: am_G) { frames := 2, cells := 0, slots := 0, locals := 44 } (hp T S o) [.ref 0, .int (nI p), .int words, .int (nI a)] (hp T S o) (some (.int (tScore T m p words (nI a)))) := by
  refine am_of (by decide +kernel) (Nat.le_of_ble_eq_true rfl) ?_
  intro C hse hret hname hF hO
  subst hse
  refine am_go hF sgX5_scoreOf_0_34db8 1 [(0, .ref 0), (1, .int (nI p)), (2, .int words), (3, .int (nI a))] [.ref 0] sgX5_scoreOf_0_34db8d rfl ?_
  refine am_getf hF (hp_main T S o) (T := TX5) (N := 9) rfl (inG 5 inG5) 0 (by decide) (List.mem_cons_of_mem _ lf_RX5_11) rfl (.ref 1) rfl dX5_scoreOf_1 ?_
  refine am_go hF sgX5_scoreOf_4_840bf 5 [(0, .ref 0), (1, .int (nI p)), (2, .int words), (3, .int (nI a))] [.int (nI p), .ref 1] sgX5_scoreOf_4_840bfd rfl ?_
  refine cv_persons hF p rfl (show p < 16 by omega) dX5_scoreOf_5 ?_
  refine am_getf hF (hp_person T S o (show p < 16 by omega)) (T := TX3) (N := 5) rfl (inG 3 inG3) 0 (by decide) (List.mem_cons_of_mem _ lf_RX5_240) rfl (.int (T 5 p)) rfl dX5_scoreOf_6 ?_
  refine am_go hF sgX5_scoreOf_9_8bcf7 11 [(0, .ref 0), (1, .int (nI p)), (2, .int words), (3, .int (nI a))] [.int (nI p), .ref 0, .int (T 5 p)] sgX5_scoreOf_9_8bcf7d rfl ?_
  refine am_dV hF hO [.int (nI p)] [.int (T 5 p)] (c_sentToday (T := T) hm hm80 hv hv80 hday (show p < 16 by omega)) myX5_sentToday vyX5_sentToday lm_RX5_303 (hp_main _ _ _) rfl rfl 0 0 ⟨Nat.le_of_ble_eq_true rfl, Nat.le_of_ble_eq_true rfl⟩ ⟨Nat.le_of_ble_eq_true rfl, Nat.le_of_ble_eq_true rfl, Nat.le_of_ble_eq_true rfl, Nat.le_of_ble_eq_true rfl⟩ rfl (am_lv_ref (hp_main _ _ _) (am_lv_int (am_lv_int (am_lv_int (am_lv_int am_lv_nil))))) (Nat.le_of_ble_eq_true rfl) dX5_scoreOf_11 [.int (tSent T m p), .int (T 5 p)] rfl ?_
  refine am_go hF sgX5_scoreOf_14_64899 20 [(5, .int 0), (4, .int ((T 5 p) + (tSent T m p))), (0, .ref 0), (1, .int (nI p)), (2, .int words), (3, .int (nI a))] [] sgX5_scoreOf_14_64899d rfl ?_
  refine am_drop [2, 3, 4, 5, 1, 0] [(0, .ref 0), (1, .int (nI p)), (2, .int words), (3, .int (nI a)), (4, .int ((T 5 p) + (tSent T m p))), (5, .int 0)] rfl ?_
  have lp20 : ∀ (zz j : Nat) (s : Int32), j + zz = 20 → s = itN (tsw T words) (T 5 p + tSent T m p) j → am_W C (hp T S o) 0 0 20 [(0, .ref 0), (1, .int (nI p)), (2, .int words), (3, .int (nI a)), (4, .int s), (5, .int (nI j))] [] := by
    intro zz
    induction zz with
    | zero =>
      intro j s hj hs
      have e9j : j = 20 := by omega
      refine am_go hF sgX5_scoreOf_20_ea47b 24 [(0, .ref 0), (1, .int (nI p)), (2, .int words), (3, .int (nI a)), (4, .int s), (5, .int (nI j))] [.int 20, .int (nI j)] sgX5_scoreOf_20_ea47bd rfl ?_
      refine am_icmpge hF 54 dX5_scoreOf_24 (by decide) (fun _ => ?_) (fun h9 => False.elim (absurd (nc_ge (show 20 ≤ j by omega) (by omega) (by omega) rfl rfl) h9))
      refine am_go hF sgX5_scoreOf_54_5abed 57 [(0, .ref 0), (1, .int (nI p)), (2, .int words), (3, .int (nI a)), (4, .int s), (5, .int (nI j))] [.int (nI a), .int (nI p), .ref 0] sgX5_scoreOf_54_5abedd rfl ?_
      refine am_dV hF hO [.int (nI p), .int (nI a)] [] (c_answers_y (T := T) hm hm80 hp9 ha9) myX5_answersOwnPost vyX5_answersOwnPost lm_RX5_306 (hp_main _ _ _) rfl rfl 0 0 ⟨Nat.le_of_ble_eq_true rfl, Nat.le_of_ble_eq_true rfl⟩ ⟨Nat.le_of_ble_eq_true rfl, Nat.le_of_ble_eq_true rfl, Nat.le_of_ble_eq_true rfl, Nat.le_of_ble_eq_true rfl⟩ rfl (am_lv_ref (hp_main _ _ _) (am_lv_int (am_lv_int (am_lv_int (am_lv_int (am_lv_int am_lv_nil)))))) (Nat.le_of_ble_eq_true rfl) dX5_scoreOf_57 [.int (zb (tAns T m p (nI a)))] rfl ?_
      refine am_ifeq hF 70 dX5_scoreOf_60 (by decide) (fun c2 => ?_) (fun c2 => ?_)
      · skip
        replace c2 := zb_0.mp c2
        refine am_go hF sgX5_scoreOf_70_c6742 72 [(0, .ref 0), (1, .int (nI p)), (2, .int words), (3, .int (nI a)), (4, .int s), (5, .int (nI j))] [.int s] sgX5_scoreOf_70_c6742d rfl ?_
        exact am_iret hF hO hret rfl dX5_scoreOf_72 ⟨rfl, by unfold tScore; first | (rw [hs, e9j, if_neg (by rw [c2]; decide)]; done) | (rw [hs, e9j, if_neg (by rw [c2]; decide)]; rfl)⟩
      · skip
        replace c2 := zb_p.mp c2
        refine am_go hF sgX5_scoreOf_63_bba7b 72 [(0, .ref 0), (1, .int (nI p)), (2, .int words), (3, .int (nI a)), (4, .int s), (5, .int (nI j))] [.int (s - 3)] sgX5_scoreOf_63_bba7bd rfl ?_
        exact am_iret hF hO hret rfl dX5_scoreOf_72 ⟨rfl, by unfold tScore; first | (rw [hs, e9j, if_pos c2]; done) | (rw [hs, e9j, if_pos c2]; rfl)⟩
    | succ zz ih20 =>
      intro j s hj hs
      have l9j : j < 20 := by omega
      refine am_go hF sgX5_scoreOf_20_ea47b 24 [(0, .ref 0), (1, .int (nI p)), (2, .int words), (3, .int (nI a)), (4, .int s), (5, .int (nI j))] [.int 20, .int (nI j)] sgX5_scoreOf_20_ea47bd rfl ?_
      refine am_icmpge hF 54 dX5_scoreOf_24 (by decide) (fun h9 => False.elim (nc_lt_f (show j < 20 by omega) (by omega) (by omega) rfl rfl h9)) (fun _ => ?_)
      refine am_go hF sgX5_scoreOf_27_a86cc 30 [(0, .ref 0), (1, .int (nI p)), (2, .int words), (3, .int (nI a)), (4, .int s), (5, .int (nI j))] [.int (nI j), .int words] sgX5_scoreOf_27_a86ccd rfl ?_
      refine am_dS hF hO [.int words, .int (nI j)] [] (c_contains (show j < 32 by omega)) myX5_contains syX5_contains lm_RX5_103 rfl 0 0 ⟨Nat.le_of_ble_eq_true rfl, Nat.le_of_ble_eq_true rfl⟩ ⟨Nat.le_of_ble_eq_true rfl, Nat.le_of_ble_eq_true rfl, Nat.le_of_ble_eq_true rfl, Nat.le_of_ble_eq_true rfl⟩ rfl (am_lv_ref (hp_main _ _ _) (am_lv_int (am_lv_int (am_lv_int (am_lv_int (am_lv_int am_lv_nil)))))) (Nat.le_of_ble_eq_true rfl) dX5_scoreOf_30 [.int (zb (bt words j))] rfl ?_
      refine am_ifeq hF 48 dX5_scoreOf_33 (by decide) (fun c4 => ?_) (fun c4 => ?_)
      · skip
        replace c4 := zb_0.mp c4
        refine am_go hF sgX5_scoreOf_48_35882 20 [(5, .int ((nI j) + 1)), (0, .ref 0), (1, .int (nI p)), (2, .int words), (3, .int (nI a)), (4, .int s)] [] sgX5_scoreOf_48_35882d rfl ?_
        refine am_drop [1, 2, 3, 4, 5, 0] [(0, .ref 0), (1, .int (nI p)), (2, .int words), (3, .int (nI a)), (4, .int s), (5, .int ((nI j) + 1))] rfl ?_
        refine am_eqL [(0, .ref 0), (1, .int (nI p)), (2, .int words), (3, .int (nI a)), (4, .int s), (5, .int (nI (j + 1)))] (by rw [nI_1]) ?_
        exact ih20 (j + 1) s (by omega) (by show _ = tsw T words j (itN (tsw T words) (T 5 p + tSent T m p) j); rw [← hs]; simp only [tsw, Bool.false_eq_true, not_false_eq_true, not_true_eq_false, and_self, and_true, true_and, and_false, false_and, true_or, or_true, or_false, false_or, or_self, c4, ↓reduceIte])
      · skip
        replace c4 := zb_p.mp c4
        refine am_go hF sgX5_scoreOf_36_49a24 39 [(0, .ref 0), (1, .int (nI p)), (2, .int words), (3, .int (nI a)), (4, .int s), (5, .int (nI j))] [.ref 0, .int s] sgX5_scoreOf_36_49a24d rfl ?_
        refine am_getf hF (hp_main T S o) (T := TX5) (N := 9) rfl (inG 5 inG5) 1 (by decide) (List.mem_cons_of_mem _ lf_RX5_15) rfl (.ref 2) rfl dX5_scoreOf_39 ?_
        refine am_go hF sgX5_scoreOf_42_9df92 44 [(0, .ref 0), (1, .int (nI p)), (2, .int words), (3, .int (nI a)), (4, .int s), (5, .int (nI j))] [.int (nI j), .ref 2, .int s] sgX5_scoreOf_42_9df92d rfl ?_
        refine am_iald hF (hp_words T S o) j rfl (show j < 20 by omega) (by decide) dX5_scoreOf_44 ?_
        refine am_go hF sgX5_scoreOf_45_571ac 20 [(5, .int ((nI j) + 1)), (4, .int (s + (T 4 j))), (0, .ref 0), (1, .int (nI p)), (2, .int words), (3, .int (nI a))] [] sgX5_scoreOf_45_571acd rfl ?_
        refine am_drop [2, 3, 4, 5, 1, 0] [(0, .ref 0), (1, .int (nI p)), (2, .int words), (3, .int (nI a)), (4, .int (s + (T 4 j))), (5, .int ((nI j) + 1))] rfl ?_
        refine am_eqL [(0, .ref 0), (1, .int (nI p)), (2, .int words), (3, .int (nI a)), (4, .int (s + (T 4 j))), (5, .int (nI (j + 1)))] (by rw [nI_1]) ?_
        exact ih20 (j + 1) (s + (T 4 j)) (by omega) (by show _ = tsw T words j (itN (tsw T words) (T 5 p + tSent T m p) j); rw [← hs]; simp only [tsw, Bool.false_eq_true, not_false_eq_true, not_true_eq_false, and_self, and_true, true_and, and_false, false_and, true_or, or_true, or_false, false_or, or_self, c4, ↓reduceIte])
  exact lp20 20 0 ((T 5 p) + (tSent T m p)) (by omega) rfl
set_option maxRecDepth 100000 in
set_option maxHeartbeats 4000000 in
theorem c_causeFor {G : am_S} {T S : am_T} {o : Nat → Int64} {n : Nat} (hn : T 0 0 = nI n) (hn10 : n ≤ 10) {p l : Nat} {pts : Int32} (hp9 : p < 16) (hl : l < n) : am_D G yX5_causeFor (.code yX5_causeFor cX5_causeFor 5 (some .int) :: am_G) { frames := 2, cells := 0, slots := 0, locals := 45 } (hp T S o) [.ref 0, .int (nI p), .int (nI l), .int pts] (hp T S o) (some (.int (tCause T n p l pts))) := by
  refine am_of (by decide +kernel) (Nat.le_of_ble_eq_true rfl) ?_
  intro C hse hret hname hF hO
  subst hse
  refine am_go hF sgX5_causeFor_0_34db8 1 [(0, .ref 0), (1, .int (nI p)), (2, .int (nI l)), (3, .int pts)] [.ref 0] sgX5_causeFor_0_34db8d rfl ?_
  refine am_getf hF (hp_main T S o) (T := TX5) (N := 9) rfl (inG 5 inG5) 2 (by decide) (List.mem_cons_of_mem _ lf_RX5_21) rfl (.ref 3) rfl dX5_causeFor_1 ?_
  refine am_go hF sgX5_causeFor_4_f8a59 5 [(0, .ref 0), (1, .int (nI p)), (2, .int (nI l)), (3, .int pts)] [.int (nI l), .ref 3] sgX5_causeFor_4_f8a59d rfl ?_
  refine cv_lists hF hn hn10 l rfl (show l < n by omega) dX5_causeFor_5 ?_
  refine am_go hF sgX5_causeFor_6_aa81e 10 [(4, .ref (48 + l)), (0, .ref 0), (1, .int (nI p)), (2, .int (nI l)), (3, .int pts)] [.ref (48 + l)] sgX5_causeFor_6_aa81ed rfl ?_
  refine am_getf hF (hp_list T S o hn hn10 (show l < n by omega)) (T := TX2) (N := 8) rfl (inG 2 inG2) 4 (by decide) (List.mem_cons_of_mem _ lf_RX5_132) rfl (.int (T 14 l)) rfl dX5_causeFor_10 ?_
  refine am_go hF sgX5_causeFor_13_840bf 14 [(4, .ref (48 + l)), (0, .ref 0), (1, .int (nI p)), (2, .int (nI l)), (3, .int pts)] [.int (nI p), .int (T 14 l)] sgX5_causeFor_13_840bfd rfl ?_
  refine am_dS hF hO [.int (T 14 l), .int (nI p)] [] (c_contains (show p < 32 by omega)) myX5_contains syX5_contains lm_RX5_103 rfl 0 0 ⟨Nat.le_of_ble_eq_true rfl, Nat.le_of_ble_eq_true rfl⟩ ⟨Nat.le_of_ble_eq_true rfl, Nat.le_of_ble_eq_true rfl, Nat.le_of_ble_eq_true rfl, Nat.le_of_ble_eq_true rfl⟩ rfl (am_lv_ref (hp_list _ _ _ hn hn10 (show l < n by omega)) (am_lv_ref (hp_main _ _ _) (am_lv_int (am_lv_int (am_lv_int am_lv_nil))))) (Nat.le_of_ble_eq_true rfl) dX5_causeFor_14 [.int (zb (bt (T 14 l) p))] rfl ?_
  refine am_ifeq hF 22 dX5_causeFor_17 (by decide) (fun c1 => ?_) (fun c1 => ?_)
  · skip
    replace c1 := zb_0.mp c1
    refine am_go hF sgX5_causeFor_22_cbbc5 24 [(4, .ref (48 + l)), (0, .ref 0), (1, .int (nI p)), (2, .int (nI l)), (3, .int pts)] [.ref (48 + l)] sgX5_causeFor_22_cbbc5d rfl ?_
    refine am_getf hF (hp_list T S o hn hn10 (show l < n by omega)) (T := TX2) (N := 8) rfl (inG 2 inG2) 7 (by decide) (List.mem_cons_of_mem _ lf_RX5_128) rfl (.int (T 17 l)) rfl dX5_causeFor_24 ?_
    refine am_ifeq hF 48 dX5_causeFor_27 (by decide) (fun c2 => ?_) (fun c2 => ?_)
    · skip
      refine am_go hF sgX5_causeFor_48_0716d 51 [(4, .ref (48 + l)), (0, .ref 0), (1, .int (nI p)), (2, .int (nI l)), (3, .int pts)] [.ref (48 + l), .int pts] sgX5_causeFor_48_0716dd rfl ?_
      refine am_getf hF (hp_list T S o hn hn10 (show l < n by omega)) (T := TX2) (N := 8) rfl (inG 2 inG2) 5 (by decide) (List.mem_cons_of_mem _ lf_RX5_122) rfl (.int (T 15 l)) rfl dX5_causeFor_51 ?_
      refine am_icmplt hF 61 dX5_causeFor_54 (by decide) (fun c3 => ?_) (fun c3 => ?_)
      · skip
        refine am_go hF sgX5_causeFor_61_5ff24 62 [(4, .ref (48 + l)), (0, .ref 0), (1, .int (nI p)), (2, .int (nI l)), (3, .int pts)] [.int (-1)] sgX5_causeFor_61_5ff24d rfl ?_
        exact am_iret hF hO hret rfl dX5_causeFor_62 ⟨rfl, by simp [tCause, c1, (eq_true c2), c3]⟩
      · skip
        refine am_go hF sgX5_causeFor_57_abe91 62 [(4, .ref (48 + l)), (0, .ref 0), (1, .int (nI p)), (2, .int (nI l)), (3, .int pts)] [.int 2] sgX5_causeFor_57_abe91d rfl ?_
        exact am_iret hF hO hret rfl dX5_causeFor_62 ⟨rfl, by simp [tCause, c1, (eq_true c2), c3]⟩
    · skip
      refine am_go hF sgX5_causeFor_30_f0554 33 [(4, .ref (48 + l)), (0, .ref 0), (1, .int (nI p)), (2, .int (nI l)), (3, .int pts)] [.int (nI l), .ref 0, .ref 0] sgX5_causeFor_30_f0554d rfl ?_
      refine am_dV hF hO [.int (nI l)] [.ref 0] (c_listsDown (T := T) hn hn10 (show l < n by omega)) myX5_listsDown vyX5_listsDown lm_RX5_107 (hp_main _ _ _) rfl rfl 0 0 ⟨Nat.le_of_ble_eq_true rfl, Nat.le_of_ble_eq_true rfl⟩ ⟨Nat.le_of_ble_eq_true rfl, Nat.le_of_ble_eq_true rfl, Nat.le_of_ble_eq_true rfl, Nat.le_of_ble_eq_true rfl⟩ rfl (am_lv_ref (hp_list _ _ _ hn hn10 (show l < n by omega)) (am_lv_ref (hp_main _ _ _) (am_lv_int (am_lv_int (am_lv_int (am_lv_ref (hp_main _ _ _) am_lv_nil)))))) (Nat.le_of_ble_eq_true rfl) dX5_causeFor_33 [.int (tDown T n l), .ref 0] rfl ?_
      refine am_dV hF hO [.int (tDown T n l)] [] (c_t_membersOf (T := T) hn hn10) myX5_membersOf vyX5_membersOf lm_RX5_140 (hp_main _ _ _) rfl rfl 0 0 ⟨Nat.le_of_ble_eq_true rfl, Nat.le_of_ble_eq_true rfl⟩ ⟨Nat.le_of_ble_eq_true rfl, Nat.le_of_ble_eq_true rfl, Nat.le_of_ble_eq_true rfl, Nat.le_of_ble_eq_true rfl⟩ rfl (am_lv_ref (hp_list _ _ _ hn hn10 (show l < n by omega)) (am_lv_ref (hp_main _ _ _) (am_lv_int (am_lv_int (am_lv_int am_lv_nil))))) (Nat.le_of_ble_eq_true rfl) dX5_causeFor_36 [.int (tMem T n (tDown T n l))] rfl ?_
      refine am_go hF sgX5_causeFor_39_840bf 40 [(4, .ref (48 + l)), (0, .ref 0), (1, .int (nI p)), (2, .int (nI l)), (3, .int pts)] [.int (nI p), .int (tMem T n (tDown T n l))] sgX5_causeFor_39_840bfd rfl ?_
      refine am_dS hF hO [.int (tMem T n (tDown T n l)), .int (nI p)] [] (c_contains (show p < 32 by omega)) myX5_contains syX5_contains lm_RX5_103 rfl 0 0 ⟨Nat.le_of_ble_eq_true rfl, Nat.le_of_ble_eq_true rfl⟩ ⟨Nat.le_of_ble_eq_true rfl, Nat.le_of_ble_eq_true rfl, Nat.le_of_ble_eq_true rfl, Nat.le_of_ble_eq_true rfl⟩ rfl (am_lv_ref (hp_list _ _ _ hn hn10 (show l < n by omega)) (am_lv_ref (hp_main _ _ _) (am_lv_int (am_lv_int (am_lv_int am_lv_nil))))) (Nat.le_of_ble_eq_true rfl) dX5_causeFor_40 [.int (zb (bt (tMem T n (tDown T n l)) p))] rfl ?_
      refine am_ifne hF 48 dX5_causeFor_43 (by decide) (fun c4 => ?_) (fun c4 => ?_)
      · skip
        replace c4 := zb_p.mp c4
        refine am_go hF sgX5_causeFor_48_0716d 51 [(4, .ref (48 + l)), (0, .ref 0), (1, .int (nI p)), (2, .int (nI l)), (3, .int pts)] [.ref (48 + l), .int pts] sgX5_causeFor_48_0716dd rfl ?_
        refine am_getf hF (hp_list T S o hn hn10 (show l < n by omega)) (T := TX2) (N := 8) rfl (inG 2 inG2) 5 (by decide) (List.mem_cons_of_mem _ lf_RX5_122) rfl (.int (T 15 l)) rfl dX5_causeFor_51 ?_
        refine am_icmplt hF 61 dX5_causeFor_54 (by decide) (fun c5 => ?_) (fun c5 => ?_)
        · skip
          refine am_go hF sgX5_causeFor_61_5ff24 62 [(4, .ref (48 + l)), (0, .ref 0), (1, .int (nI p)), (2, .int (nI l)), (3, .int pts)] [.int (-1)] sgX5_causeFor_61_5ff24d rfl ?_
          exact am_iret hF hO hret rfl dX5_causeFor_62 ⟨rfl, by simp [tCause, c1, c2, c4, c5]⟩
        · skip
          refine am_go hF sgX5_causeFor_57_abe91 62 [(4, .ref (48 + l)), (0, .ref 0), (1, .int (nI p)), (2, .int (nI l)), (3, .int pts)] [.int 2] sgX5_causeFor_57_abe91d rfl ?_
          exact am_iret hF hO hret rfl dX5_causeFor_62 ⟨rfl, by simp [tCause, c1, c2, c4, c5]⟩
      · skip
        replace c4 := zb_0.mp c4
        refine am_go hF sgX5_causeFor_46_4de0a 47 [(4, .ref (48 + l)), (0, .ref 0), (1, .int (nI p)), (2, .int (nI l)), (3, .int pts)] [.int 1] sgX5_causeFor_46_4de0ad rfl ?_
        exact am_iret hF hO hret rfl dX5_causeFor_47 ⟨rfl, by simp [tCause, c1, c2, c4]⟩
  · skip
    replace c1 := zb_p.mp c1
    refine am_go hF sgX5_causeFor_20_56c54 21 [(4, .ref (48 + l)), (0, .ref 0), (1, .int (nI p)), (2, .int (nI l)), (3, .int pts)] [.int 0] sgX5_causeFor_20_56c54d rfl ?_
    exact am_iret hF hO hret rfl dX5_causeFor_21 ⟨rfl, by simp [tCause, c1]⟩
set_option maxRecDepth 100000 in
set_option maxHeartbeats 4000000 in
theorem c_findPostDay_n {G : am_S} {T S : am_T} {o : Nat → Int64} {v : Nat} (hv : T 2 0 = nI v) (hv80 : v ≤ 80) {x : Int32} (h0 : ∀ i, i < v → ¬ T 33 i = x) : am_D G yX5_findPostDay (.code yX5_findPostDay cX5_findPostDay 3 (some (.object "MailPriory$PostDay")) :: am_G) { frames := 0, cells := 0, slots := 0, locals := 0 } (hp T S o) [.ref 0, .int x] (hp T S o) (some .null) := by
  refine am_of (by decide +kernel) (Nat.le_of_ble_eq_true rfl) ?_
  intro C hse hret hname hF hO
  subst hse
  refine am_go hF sgX5_findPostDay_0_01fef 2 [(2, .int 0), (0, .ref 0), (1, .int x)] [] sgX5_findPostDay_0_01fefd rfl ?_
  refine am_drop [1, 2, 0] [(0, .ref 0), (1, .int x), (2, .int 0)] rfl ?_
  have lp2 : ∀ (zz i : Nat), i + zz = v → am_W C (hp T S o) 0 0 2 [(0, .ref 0), (1, .int x), (2, .int (nI i))] [] := by
    intro zz
    induction zz with
    | zero =>
      intro i hi
      have e9i : i = v := by omega
      refine am_go hF sgX5_findPostDay_2_14491 4 [(0, .ref 0), (1, .int x), (2, .int (nI i))] [.ref 0, .int (nI i)] sgX5_findPostDay_2_14491d rfl ?_
      refine am_getf hF (hp_main T S o) (T := TX5) (N := 9) rfl (inG 5 inG5) 7 (by decide) (List.mem_cons_of_mem _ lf_RX5_44) rfl (.int (T 2 0)) rfl dX5_findPostDay_4 ?_
      refine am_top (nI v) hv ?_
      refine am_icmpge hF 36 dX5_findPostDay_7 (by decide) (fun _ => ?_) (fun h9 => False.elim (absurd (nc_ge (show v ≤ i by omega) (by omega) (by omega) rfl rfl) h9))
      refine am_go hF sgX5_findPostDay_36_380b8 37 [(0, .ref 0), (1, .int x), (2, .int (nI i))] [.null] sgX5_findPostDay_36_380b8d rfl ?_
      exact am_aret hF hO hret (Or.inl ⟨_, rfl⟩) (Or.inl rfl) dX5_findPostDay_37 ⟨rfl, rfl⟩
    | succ zz ih2 =>
      intro i hi
      have l9i : i < v := by omega
      refine am_go hF sgX5_findPostDay_2_14491 4 [(0, .ref 0), (1, .int x), (2, .int (nI i))] [.ref 0, .int (nI i)] sgX5_findPostDay_2_14491d rfl ?_
      refine am_getf hF (hp_main T S o) (T := TX5) (N := 9) rfl (inG 5 inG5) 7 (by decide) (List.mem_cons_of_mem _ lf_RX5_44) rfl (.int (T 2 0)) rfl dX5_findPostDay_4 ?_
      refine am_top (nI v) hv ?_
      refine am_icmpge hF 36 dX5_findPostDay_7 (by decide) (fun h9 => False.elim (nc_lt_f (show i < v by omega) (by omega) (by omega) rfl rfl h9)) (fun _ => ?_)
      refine am_go hF sgX5_findPostDay_10_34db8 11 [(0, .ref 0), (1, .int x), (2, .int (nI i))] [.ref 0] sgX5_findPostDay_10_34db8d rfl ?_
      refine am_getf hF (hp_main T S o) (T := TX5) (N := 9) rfl (inG 5 inG5) 6 (by decide) (List.mem_cons_of_mem _ lf_RX5_40) rfl (.ref 5) rfl dX5_findPostDay_11 ?_
      refine am_go hF sgX5_findPostDay_14_f8a59 15 [(0, .ref 0), (1, .int x), (2, .int (nI i))] [.int (nI i), .ref 5] sgX5_findPostDay_14_f8a59d rfl ?_
      refine cv_days hF hv hv80 i rfl (show i < v by omega) dX5_findPostDay_15 ?_
      refine am_getf hF (hp_day T S o hv hv80 (show i < v by omega)) (T := TX4) (N := 5) rfl (inG 4 inG4) 0 (by decide) (List.mem_cons_of_mem _ lf_RX5_316) rfl (.int (T 33 i)) rfl dX5_findPostDay_16 ?_
      refine am_go hF sgX5_findPostDay_19_840bf 20 [(0, .ref 0), (1, .int x), (2, .int (nI i))] [.int x, .int (T 33 i)] sgX5_findPostDay_19_840bfd rfl ?_
      refine am_icmpne hF 30 dX5_findPostDay_20 (by decide) (fun c3 => ?_) (fun c3 => ?_)
      · skip
        refine am_go hF sgX5_findPostDay_30_8f3dc 2 [(2, .int ((nI i) + 1)), (0, .ref 0), (1, .int x)] [] sgX5_findPostDay_30_8f3dcd rfl ?_
        refine am_drop [1, 2, 0] [(0, .ref 0), (1, .int x), (2, .int ((nI i) + 1))] rfl ?_
        refine am_eqL [(0, .ref 0), (1, .int x), (2, .int (nI (i + 1)))] (by rw [nI_1]) ?_
        exact ih2 (i + 1) (by omega)
      · skip
        exact absurd c3 (h0 i l9i)
  exact lp2 v 0 (by omega)
set_option maxRecDepth 100000 in
set_option maxHeartbeats 4000000 in
theorem c_findPostDay_y {G : am_S} {T S : am_T} {o : Nat → Int64} {v : Nat} (hv : T 2 0 = nI v) (hv80 : v ≤ 80) {x : Int32} {j : Nat} (hj : j < v) (hx : T 33 j = x) (h0 : ∀ i, i < j → ¬ T 33 i = x) : am_D G yX5_findPostDay (.code yX5_findPostDay cX5_findPostDay 3 (some (.object "MailPriory$PostDay")) :: am_G) { frames := 0, cells := 0, slots := 0, locals := 0 } (hp T S o) [.ref 0, .int x] (hp T S o) (some (.ref (224 + j))) := by
  refine am_of (by decide +kernel) (Nat.le_of_ble_eq_true rfl) ?_
  intro C hse hret hname hF hO
  subst hse
  refine am_go hF sgX5_findPostDay_0_01fef 2 [(2, .int 0), (0, .ref 0), (1, .int x)] [] sgX5_findPostDay_0_01fefd rfl ?_
  refine am_drop [1, 2, 0] [(0, .ref 0), (1, .int x), (2, .int 0)] rfl ?_
  have lp2 : ∀ (d i : Nat), i + d = j → am_W C (hp T S o) 0 0 2 [(0, .ref 0), (1, .int x), (2, .int (nI i))] [] := by
    intro d
    induction d with
    | zero =>
      intro i hi
      refine am_go hF sgX5_findPostDay_2_14491 4 [(0, .ref 0), (1, .int x), (2, .int (nI i))] [.ref 0, .int (nI i)] sgX5_findPostDay_2_14491d rfl ?_
      refine am_getf hF (hp_main T S o) (T := TX5) (N := 9) rfl (inG 5 inG5) 7 (by decide) (List.mem_cons_of_mem _ lf_RX5_44) rfl (.int (T 2 0)) rfl dX5_findPostDay_4 ?_
      refine am_top (nI v) hv ?_
      refine am_icmpge hF 36 dX5_findPostDay_7 (by decide) (fun h9 => False.elim (nc_lt_f (show i < v by omega) (by omega) (by omega) rfl rfl h9)) (fun _ => ?_)
      refine am_go hF sgX5_findPostDay_10_34db8 11 [(0, .ref 0), (1, .int x), (2, .int (nI i))] [.ref 0] sgX5_findPostDay_10_34db8d rfl ?_
      refine am_getf hF (hp_main T S o) (T := TX5) (N := 9) rfl (inG 5 inG5) 6 (by decide) (List.mem_cons_of_mem _ lf_RX5_40) rfl (.ref 5) rfl dX5_findPostDay_11 ?_
      refine am_go hF sgX5_findPostDay_14_f8a59 15 [(0, .ref 0), (1, .int x), (2, .int (nI i))] [.int (nI i), .ref 5] sgX5_findPostDay_14_f8a59d rfl ?_
      refine cv_days hF hv hv80 i rfl (show i < v by omega) dX5_findPostDay_15 ?_
      refine am_getf hF (hp_day T S o hv hv80 (show i < v by omega)) (T := TX4) (N := 5) rfl (inG 4 inG4) 0 (by decide) (List.mem_cons_of_mem _ lf_RX5_316) rfl (.int (T 33 i)) rfl dX5_findPostDay_16 ?_
      refine am_go hF sgX5_findPostDay_19_840bf 20 [(0, .ref 0), (1, .int x), (2, .int (nI i))] [.int x, .int (T 33 i)] sgX5_findPostDay_19_840bfd rfl ?_
      refine am_icmpne hF 30 dX5_findPostDay_20 (by decide) (fun h9 => False.elim (absurd (by rw [show i = j by omega]; exact hx) h9)) (fun _ => ?_)
      refine am_go hF sgX5_findPostDay_23_34db8 24 [(0, .ref 0), (1, .int x), (2, .int (nI i))] [.ref 0] sgX5_findPostDay_23_34db8d rfl ?_
      refine am_getf hF (hp_main T S o) (T := TX5) (N := 9) rfl (inG 5 inG5) 6 (by decide) (List.mem_cons_of_mem _ lf_RX5_40) rfl (.ref 5) rfl dX5_findPostDay_24 ?_
      refine am_go hF sgX5_findPostDay_27_f8a59 28 [(0, .ref 0), (1, .int x), (2, .int (nI i))] [.int (nI i), .ref 5] sgX5_findPostDay_27_f8a59d rfl ?_
      refine cv_days hF hv hv80 i rfl (show i < v by omega) dX5_findPostDay_28 ?_
      exact am_aret hF hO hret (Or.inl ⟨_, rfl⟩) (Or.inr ⟨_, rfl⟩) dX5_findPostDay_29 ⟨rfl, by rw [show i = j by omega]⟩
    | succ d ih2 =>
      intro i hi
      refine am_go hF sgX5_findPostDay_2_14491 4 [(0, .ref 0), (1, .int x), (2, .int (nI i))] [.ref 0, .int (nI i)] sgX5_findPostDay_2_14491d rfl ?_
      refine am_getf hF (hp_main T S o) (T := TX5) (N := 9) rfl (inG 5 inG5) 7 (by decide) (List.mem_cons_of_mem _ lf_RX5_44) rfl (.int (T 2 0)) rfl dX5_findPostDay_4 ?_
      refine am_top (nI v) hv ?_
      refine am_icmpge hF 36 dX5_findPostDay_7 (by decide) (fun h9 => False.elim (nc_lt_f (show i < v by omega) (by omega) (by omega) rfl rfl h9)) (fun _ => ?_)
      refine am_go hF sgX5_findPostDay_10_34db8 11 [(0, .ref 0), (1, .int x), (2, .int (nI i))] [.ref 0] sgX5_findPostDay_10_34db8d rfl ?_
      refine am_getf hF (hp_main T S o) (T := TX5) (N := 9) rfl (inG 5 inG5) 6 (by decide) (List.mem_cons_of_mem _ lf_RX5_40) rfl (.ref 5) rfl dX5_findPostDay_11 ?_
      refine am_go hF sgX5_findPostDay_14_f8a59 15 [(0, .ref 0), (1, .int x), (2, .int (nI i))] [.int (nI i), .ref 5] sgX5_findPostDay_14_f8a59d rfl ?_
      refine cv_days hF hv hv80 i rfl (show i < v by omega) dX5_findPostDay_15 ?_
      refine am_getf hF (hp_day T S o hv hv80 (show i < v by omega)) (T := TX4) (N := 5) rfl (inG 4 inG4) 0 (by decide) (List.mem_cons_of_mem _ lf_RX5_316) rfl (.int (T 33 i)) rfl dX5_findPostDay_16 ?_
      refine am_go hF sgX5_findPostDay_19_840bf 20 [(0, .ref 0), (1, .int x), (2, .int (nI i))] [.int x, .int (T 33 i)] sgX5_findPostDay_19_840bfd rfl ?_
      refine am_icmpne hF 30 dX5_findPostDay_20 (by decide) (fun _ => ?_) (fun h9 => False.elim (absurd h9 (h0 i (by omega))))
      refine am_go hF sgX5_findPostDay_30_8f3dc 2 [(2, .int ((nI i) + 1)), (0, .ref 0), (1, .int x)] [] sgX5_findPostDay_30_8f3dcd rfl ?_
      refine am_eqL [(2, .int (nI (i + 1))), (0, .ref 0), (1, .int x)] (by rw [nI_1]) ?_
      refine am_drop [1, 2, 0] [(0, .ref 0), (1, .int x), (2, .int (nI (i + 1)))] rfl ?_
      exact ih2 (i + 1) (by omega)
  exact lp2 j 0 (by omega)
set_option maxRecDepth 100000 in
set_option maxHeartbeats 4000000 in
theorem c_jurorCandidates {G : am_S} {T S : am_T} {o : Nat → Int64} {n : Nat} (hn : T 0 0 = nI n) (hn10 : n ≤ 10) {m : Nat} (hm : T 1 0 = nI m) (hm80 : m ≤ 80) {k l : Nat} (hk : k < m) (hl : l < n) (hl20 : T 20 k = nI l) : am_D G yX5_jurorCandidates (.code yX5_jurorCandidates cX5_jurorCandidates 4 (some .int) :: am_G) { frames := 1, cells := 0, slots := 0, locals := 20 } (hp T S o) [.ref 0, .ref (64 + k)] (hp T S o) (some (.int (tCand T n k l))) := by
  refine am_of (by decide +kernel) (Nat.le_of_ble_eq_true rfl) ?_
  intro C hse hret hname hF hO
  subst hse
  refine am_go hF sgX5_jurorCandidates_0_24699 4 [(3, .int 0), (2, .int 0), (0, .ref 0), (1, .ref (64 + k))] [] sgX5_jurorCandidates_0_24699d rfl ?_
  refine am_drop [2, 3, 1, 0] [(0, .ref 0), (1, .ref (64 + k)), (2, .int 0), (3, .int 0)] rfl ?_
  have lp4 : ∀ (zz j : Nat) (a : Int32), j + zz = n → a = itN (tjc T) 0 j → am_W C (hp T S o) 0 0 4 [(0, .ref 0), (1, .ref (64 + k)), (2, .int a), (3, .int (nI j))] [] := by
    intro zz
    induction zz with
    | zero =>
      intro j a hj ha
      have e9j : j = n := by omega
      refine am_go hF sgX5_jurorCandidates_4_a1b5b 6 [(0, .ref 0), (1, .ref (64 + k)), (2, .int a), (3, .int (nI j))] [.ref 0, .int (nI j)] sgX5_jurorCandidates_4_a1b5bd rfl ?_
      refine am_getf hF (hp_main T S o) (T := TX5) (N := 9) rfl (inG 5 inG5) 3 (by decide) (List.mem_cons_of_mem _ lf_RX5_25) rfl (.int (T 0 0)) rfl dX5_jurorCandidates_6 ?_
      refine am_top (nI n) hn ?_
      refine am_icmpge hF 33 dX5_jurorCandidates_9 (by decide) (fun _ => ?_) (fun h9 => False.elim (absurd (nc_ge (show n ≤ j by omega) (by omega) (by omega) rfl rfl) h9))
      refine am_go hF sgX5_jurorCandidates_33_79830 35 [(0, .ref 0), (1, .ref (64 + k)), (2, .int a), (3, .int (nI j))] [.ref (64 + k), .int a] sgX5_jurorCandidates_33_79830d rfl ?_
      refine am_getf hF (hp_mail T S o hm hm80 (show k < m by omega)) (T := TX1) (N := 11) rfl (inG 1 inG1) 1 (by decide) (List.mem_cons_of_mem _ lf_RX5_309) rfl (.int (T 19 k)) rfl dX5_jurorCandidates_35 ?_
      refine am_dS hF hO [.int (T 19 k)] [.int a] (c_bit) myX5_bit syX5_bit lm_RX5_115 rfl 0 0 ⟨Nat.le_of_ble_eq_true rfl, Nat.le_of_ble_eq_true rfl⟩ ⟨Nat.le_of_ble_eq_true rfl, Nat.le_of_ble_eq_true rfl, Nat.le_of_ble_eq_true rfl, Nat.le_of_ble_eq_true rfl⟩ rfl (am_lv_ref (hp_main _ _ _) (am_lv_ref (hp_mail _ _ _ hm hm80 (show k < m by omega)) (am_lv_int (am_lv_int (am_lv_int am_lv_nil))))) (Nat.le_of_ble_eq_true rfl) dX5_jurorCandidates_38 [.int ((1 : Int32) <<< ((T 19 k) &&& 31)), .int a] rfl ?_
      refine am_go hF sgX5_jurorCandidates_41_57f93 45 [(0, .ref 0), (1, .ref (64 + k)), (2, .int a), (3, .int (nI j))] [.ref 0, .int (a &&& (((1 : Int32) <<< ((T 19 k) &&& 31)) ^^^ (-1)))] sgX5_jurorCandidates_41_57f93d rfl ?_
      refine am_getf hF (hp_main T S o) (T := TX5) (N := 9) rfl (inG 5 inG5) 2 (by decide) (List.mem_cons_of_mem _ lf_RX5_21) rfl (.ref 3) rfl dX5_jurorCandidates_45 ?_
      refine am_go hF sgX5_jurorCandidates_48_a7701 49 [(0, .ref 0), (1, .ref (64 + k)), (2, .int a), (3, .int (nI j))] [.ref (64 + k), .ref 3, .int (a &&& (((1 : Int32) <<< ((T 19 k) &&& 31)) ^^^ (-1)))] sgX5_jurorCandidates_48_a7701d rfl ?_
      refine am_getf hF (hp_mail T S o hm hm80 (show k < m by omega)) (T := TX1) (N := 11) rfl (inG 1 inG1) 2 (by decide) (List.mem_cons_of_mem _ lf_RX5_319) rfl (.int (T 20 k)) rfl dX5_jurorCandidates_49 ?_
      refine am_top (nI l) hl20 ?_
      refine cv_lists hF hn hn10 l rfl (show l < n by omega) dX5_jurorCandidates_52 ?_
      refine am_getf hF (hp_list T S o hn hn10 (show l < n by omega)) (T := TX2) (N := 8) rfl (inG 2 inG2) 0 (by decide) (List.mem_cons_of_mem _ lf_RX5_348) rfl (.int (T 10 l)) rfl dX5_jurorCandidates_53 ?_
      refine am_dS hF hO [.int (T 10 l)] [.int (a &&& (((1 : Int32) <<< ((T 19 k) &&& 31)) ^^^ (-1)))] (c_bit) myX5_bit syX5_bit lm_RX5_115 rfl 0 0 ⟨Nat.le_of_ble_eq_true rfl, Nat.le_of_ble_eq_true rfl⟩ ⟨Nat.le_of_ble_eq_true rfl, Nat.le_of_ble_eq_true rfl, Nat.le_of_ble_eq_true rfl, Nat.le_of_ble_eq_true rfl⟩ rfl (am_lv_ref (hp_main _ _ _) (am_lv_ref (hp_mail _ _ _ hm hm80 (show k < m by omega)) (am_lv_int (am_lv_int (am_lv_int am_lv_nil))))) (Nat.le_of_ble_eq_true rfl) dX5_jurorCandidates_56 [.int ((1 : Int32) <<< ((T 10 l) &&& 31)), .int (a &&& (((1 : Int32) <<< ((T 19 k) &&& 31)) ^^^ (-1)))] rfl ?_
      refine am_go hF sgX5_jurorCandidates_59_c71c9 62 [(0, .ref 0), (1, .ref (64 + k)), (2, .int a), (3, .int (nI j))] [.int ((a &&& (((1 : Int32) <<< ((T 19 k) &&& 31)) ^^^ (-1))) &&& (((1 : Int32) <<< ((T 10 l) &&& 31)) ^^^ (-1)))] sgX5_jurorCandidates_59_c71c9d rfl ?_
      exact am_iret hF hO hret rfl dX5_jurorCandidates_62 ⟨rfl, by rw [ha, e9j]; rfl⟩
    | succ zz ih4 =>
      intro j a hj ha
      have l9j : j < n := by omega
      refine am_go hF sgX5_jurorCandidates_4_a1b5b 6 [(0, .ref 0), (1, .ref (64 + k)), (2, .int a), (3, .int (nI j))] [.ref 0, .int (nI j)] sgX5_jurorCandidates_4_a1b5bd rfl ?_
      refine am_getf hF (hp_main T S o) (T := TX5) (N := 9) rfl (inG 5 inG5) 3 (by decide) (List.mem_cons_of_mem _ lf_RX5_25) rfl (.int (T 0 0)) rfl dX5_jurorCandidates_6 ?_
      refine am_top (nI n) hn ?_
      refine am_icmpge hF 33 dX5_jurorCandidates_9 (by decide) (fun h9 => False.elim (nc_lt_f (show j < n by omega) (by omega) (by omega) rfl rfl h9)) (fun _ => ?_)
      refine am_go hF sgX5_jurorCandidates_12_14491 14 [(0, .ref 0), (1, .ref (64 + k)), (2, .int a), (3, .int (nI j))] [.ref 0, .int a] sgX5_jurorCandidates_12_14491d rfl ?_
      refine am_getf hF (hp_main T S o) (T := TX5) (N := 9) rfl (inG 5 inG5) 2 (by decide) (List.mem_cons_of_mem _ lf_RX5_21) rfl (.ref 3) rfl dX5_jurorCandidates_14 ?_
      refine am_go hF sgX5_jurorCandidates_17_13b50 18 [(0, .ref 0), (1, .ref (64 + k)), (2, .int a), (3, .int (nI j))] [.int (nI j), .ref 3, .int a] sgX5_jurorCandidates_17_13b50d rfl ?_
      refine cv_lists hF hn hn10 j rfl (show j < n by omega) dX5_jurorCandidates_18 ?_
      refine am_getf hF (hp_list T S o hn hn10 (show j < n by omega)) (T := TX2) (N := 8) rfl (inG 2 inG2) 0 (by decide) (List.mem_cons_of_mem _ lf_RX5_348) rfl (.int (T 10 j)) rfl dX5_jurorCandidates_19 ?_
      refine am_dS hF hO [.int (T 10 j)] [.int a] (c_bit) myX5_bit syX5_bit lm_RX5_115 rfl 0 0 ⟨Nat.le_of_ble_eq_true rfl, Nat.le_of_ble_eq_true rfl⟩ ⟨Nat.le_of_ble_eq_true rfl, Nat.le_of_ble_eq_true rfl, Nat.le_of_ble_eq_true rfl, Nat.le_of_ble_eq_true rfl⟩ rfl (am_lv_ref (hp_main _ _ _) (am_lv_ref (hp_mail _ _ _ hm hm80 (show k < m by omega)) (am_lv_int (am_lv_int (am_lv_int am_lv_nil))))) (Nat.le_of_ble_eq_true rfl) dX5_jurorCandidates_22 [.int ((1 : Int32) <<< ((T 10 j) &&& 31)), .int a] rfl ?_
      refine am_go hF sgX5_jurorCandidates_25_91391 4 [(3, .int ((nI j) + 1)), (2, .int (a ||| ((1 : Int32) <<< ((T 10 j) &&& 31)))), (0, .ref 0), (1, .ref (64 + k))] [] sgX5_jurorCandidates_25_91391d rfl ?_
      refine am_drop [2, 3, 1, 0] [(0, .ref 0), (1, .ref (64 + k)), (2, .int (a ||| ((1 : Int32) <<< ((T 10 j) &&& 31)))), (3, .int ((nI j) + 1))] rfl ?_
      refine am_eqL [(0, .ref 0), (1, .ref (64 + k)), (2, .int (a ||| ((1 : Int32) <<< ((T 10 j) &&& 31)))), (3, .int (nI (j + 1)))] (by rw [nI_1]) ?_
      exact ih4 (j + 1) (a ||| ((1 : Int32) <<< ((T 10 j) &&& 31))) (by omega) (by show _ = tjc T j (itN (tjc T) 0 j); rw [← ha]; rfl)
  exact lp4 n 0 0 (by omega) rfl
set_option maxRecDepth 100000 in
set_option maxHeartbeats 4000000 in
theorem c_leastJudged {G : am_S} {T S : am_T} {o : Nat → Int64} {x : Int32} : am_D G yX5_leastJudged (.code yX5_leastJudged cX5_leastJudged 4 (some .int) :: am_G) { frames := 1, cells := 0, slots := 0, locals := 21 } (hp T S o) [.ref 0, .int x] (hp T S o) (some (.int (tLeast T x))) := by
  refine am_of (by decide +kernel) (Nat.le_of_ble_eq_true rfl) ?_
  intro C hse hret hname hF hO
  subst hse
  refine am_go hF sgX5_leastJudged_0_9e5dc 4 [(3, .int 0), (2, .int (-1)), (0, .ref 0), (1, .int x)] [] sgX5_leastJudged_0_9e5dcd rfl ?_
  refine am_drop [2, 3, 1, 0] [(0, .ref 0), (1, .int x), (2, .int (-1)), (3, .int 0)] rfl ?_
  have lp4 : ∀ (zz j : Nat) (a : Int32), j + zz = 16 → a = itN (tlj T x) (-1) j → (a = -1 ∨ ∃ b, b < 16 ∧ a = nI b) → am_W C (hp T S o) 0 0 4 [(0, .ref 0), (1, .int x), (2, .int a), (3, .int (nI j))] [] := by
    intro zz
    induction zz with
    | zero =>
      intro j a hj ha hq
      have e9j : j = 16 := by omega
      refine am_go hF sgX5_leastJudged_4_b88ad 7 [(0, .ref 0), (1, .int x), (2, .int a), (3, .int (nI j))] [.int 16, .int (nI j)] sgX5_leastJudged_4_b88add rfl ?_
      refine am_icmpge hF 52 dX5_leastJudged_7 (by decide) (fun _ => ?_) (fun h9 => False.elim (absurd (nc_ge (show 16 ≤ j by omega) (by omega) (by omega) rfl rfl) h9))
      refine am_go hF sgX5_leastJudged_52_f8a59 53 [(0, .ref 0), (1, .int x), (2, .int a), (3, .int (nI j))] [.int a] sgX5_leastJudged_52_f8a59d rfl ?_
      exact am_iret hF hO hret rfl dX5_leastJudged_53 ⟨rfl, (by first | (rw [ha, e9j]; done) | (rw [ha, e9j]; rfl))⟩
    | succ zz ih4 =>
      intro j a hj ha hq
      have l9j : j < 16 := by omega
      refine am_go hF sgX5_leastJudged_4_b88ad 7 [(0, .ref 0), (1, .int x), (2, .int a), (3, .int (nI j))] [.int 16, .int (nI j)] sgX5_leastJudged_4_b88add rfl ?_
      refine am_icmpge hF 52 dX5_leastJudged_7 (by decide) (fun h9 => False.elim (nc_lt_f (show j < 16 by omega) (by omega) (by omega) rfl rfl h9)) (fun _ => ?_)
      refine am_go hF sgX5_leastJudged_10_20da6 12 [(0, .ref 0), (1, .int x), (2, .int a), (3, .int (nI j))] [.int (nI j), .int x] sgX5_leastJudged_10_20da6d rfl ?_
      refine am_dS hF hO [.int x, .int (nI j)] [] (c_contains (show j < 32 by omega)) myX5_contains syX5_contains lm_RX5_103 rfl 0 0 ⟨Nat.le_of_ble_eq_true rfl, Nat.le_of_ble_eq_true rfl⟩ ⟨Nat.le_of_ble_eq_true rfl, Nat.le_of_ble_eq_true rfl, Nat.le_of_ble_eq_true rfl, Nat.le_of_ble_eq_true rfl⟩ rfl (am_lv_ref (hp_main _ _ _) (am_lv_int (am_lv_int (am_lv_int am_lv_nil)))) (Nat.le_of_ble_eq_true rfl) dX5_leastJudged_12 [.int (zb (bt x j))] rfl ?_
      refine am_ifeq hF 46 dX5_leastJudged_15 (by decide) (fun c3 => ?_) (fun c3 => ?_)
      · skip
        replace c3 := zb_0.mp c3
        refine am_go hF sgX5_leastJudged_46_2bab4 4 [(3, .int ((nI j) + 1)), (0, .ref 0), (1, .int x), (2, .int a)] [] sgX5_leastJudged_46_2bab4d rfl ?_
        refine am_drop [1, 2, 3, 0] [(0, .ref 0), (1, .int x), (2, .int a), (3, .int ((nI j) + 1))] rfl ?_
        refine am_eqL [(0, .ref 0), (1, .int x), (2, .int a), (3, .int (nI (j + 1)))] (by rw [nI_1]) ?_
        exact ih4 (j + 1) a (by omega) (tlj_s ha (by simp [tlj, c3])) hq
      · skip
        replace c3 := zb_p.mp c3
        refine am_go hF sgX5_leastJudged_18_83cd8 20 [(0, .ref 0), (1, .int x), (2, .int a), (3, .int (nI j))] [.int (-1), .int a] sgX5_leastJudged_18_83cd8d rfl ?_
        refine am_icmpeq hF 44 dX5_leastJudged_20 (by decide) (fun c4 => ?_) (fun c4 => ?_)
        · skip
          refine am_go hF sgX5_leastJudged_44_3946c 4 [(3, .int ((nI j) + 1)), (2, .int (nI j)), (0, .ref 0), (1, .int x)] [] sgX5_leastJudged_44_3946cd rfl ?_
          refine am_drop [2, 3, 1, 0] [(0, .ref 0), (1, .int x), (2, .int (nI j)), (3, .int ((nI j) + 1))] rfl ?_
          refine am_eqL [(0, .ref 0), (1, .int x), (2, .int (nI j)), (3, .int (nI (j + 1)))] (by rw [nI_1]) ?_
          exact ih4 (j + 1) (nI j) (by omega) (tlj_s ha (by simp [tlj, c3, (eq_true c4)])) (Or.inr ⟨j, by omega, rfl⟩)
        · skip
          obtain ⟨b, hb16, hbe⟩ := hq.resolve_left c4
          refine am_go hF sgX5_leastJudged_23_34db8 24 [(0, .ref 0), (1, .int x), (2, .int a), (3, .int (nI j))] [.ref 0] sgX5_leastJudged_23_34db8d rfl ?_
          refine am_getf hF (hp_main T S o) (T := TX5) (N := 9) rfl (inG 5 inG5) 0 (by decide) (List.mem_cons_of_mem _ lf_RX5_11) rfl (.ref 1) rfl dX5_leastJudged_24 ?_
          refine am_go hF sgX5_leastJudged_27_13b50 28 [(0, .ref 0), (1, .int x), (2, .int a), (3, .int (nI j))] [.int (nI j), .ref 1] sgX5_leastJudged_27_13b50d rfl ?_
          refine cv_persons hF j rfl (show j < 16 by omega) dX5_leastJudged_28 ?_
          refine am_getf hF (hp_person T S o (show j < 16 by omega)) (T := TX3) (N := 5) rfl (inG 3 inG3) 1 (by decide) (List.mem_cons_of_mem _ lf_RX5_217) rfl (.int (T 6 j)) rfl dX5_leastJudged_29 ?_
          refine am_go hF sgX5_leastJudged_32_34db8 33 [(0, .ref 0), (1, .int x), (2, .int a), (3, .int (nI j))] [.ref 0, .int (T 6 j)] sgX5_leastJudged_32_34db8d rfl ?_
          refine am_getf hF (hp_main T S o) (T := TX5) (N := 9) rfl (inG 5 inG5) 0 (by decide) (List.mem_cons_of_mem _ lf_RX5_11) rfl (.ref 1) rfl dX5_leastJudged_33 ?_
          refine am_go hF sgX5_leastJudged_36_f8a59 37 [(0, .ref 0), (1, .int x), (2, .int a), (3, .int (nI j))] [.int a, .ref 1, .int (T 6 j)] sgX5_leastJudged_36_f8a59d rfl ?_
          refine cv_persons hF b hbe (show b < 16 by omega) dX5_leastJudged_37 ?_
          refine am_getf hF (hp_person T S o (show b < 16 by omega)) (T := TX3) (N := 5) rfl (inG 3 inG3) 1 (by decide) (List.mem_cons_of_mem _ lf_RX5_217) rfl (.int (T 6 b)) rfl dX5_leastJudged_38 ?_
          refine am_icmpge hF 46 dX5_leastJudged_41 (by decide) (fun c5 => ?_) (fun c5 => ?_)
          · skip
            refine am_go hF sgX5_leastJudged_46_2bab4 4 [(3, .int ((nI j) + 1)), (0, .ref 0), (1, .int x), (2, .int a)] [] sgX5_leastJudged_46_2bab4d rfl ?_
            refine am_drop [1, 2, 3, 0] [(0, .ref 0), (1, .int x), (2, .int a), (3, .int ((nI j) + 1))] rfl ?_
            refine am_eqL [(0, .ref 0), (1, .int x), (2, .int a), (3, .int (nI (j + 1)))] (by rw [nI_1]) ?_
            exact ih4 (j + 1) a (by omega) (tlj_s ha (by simp [tlj, c3, c4, (Int32.not_lt.mpr c5), hbe, nI_clamp (show b < 2 ^ 31 by omega), nI_ne_m1 (show b < 2 ^ 31 by omega)])) hq
          · skip
            refine am_go hF sgX5_leastJudged_44_3946c 4 [(3, .int ((nI j) + 1)), (2, .int (nI j)), (0, .ref 0), (1, .int x)] [] sgX5_leastJudged_44_3946cd rfl ?_
            refine am_drop [2, 3, 1, 0] [(0, .ref 0), (1, .int x), (2, .int (nI j)), (3, .int ((nI j) + 1))] rfl ?_
            refine am_eqL [(0, .ref 0), (1, .int x), (2, .int (nI j)), (3, .int (nI (j + 1)))] (by rw [nI_1]) ?_
            exact ih4 (j + 1) (nI j) (by omega) (tlj_s ha (by simp [tlj, c3, c4, c5, hbe, nI_clamp (show b < 2 ^ 31 by omega), nI_ne_m1 (show b < 2 ^ 31 by omega)])) (Or.inr ⟨j, by omega, rfl⟩)
  exact lp4 16 0 (-1) (by omega) rfl (Or.inl rfl)
set_option maxRecDepth 100000 in
set_option maxHeartbeats 4000000 in
theorem c_chooseJurors {G : am_S} {T S : am_T} {o : Nat → Int64} {x : Int32} : am_D G yX5_chooseJurors (.code yX5_chooseJurors cX5_chooseJurors 5 (some .int) :: am_G) { frames := 2, cells := 0, slots := 0, locals := 44 } (hp T S o) [.ref 0, .int x] (hp T S o) (some (.int (tChoose T x))) := by
  refine am_of (by decide +kernel) (Nat.le_of_ble_eq_true rfl) ?_
  intro C hse hret hname hF hO
  subst hse
  refine am_go hF sgX5_chooseJurors_0_24699 4 [(3, .int 0), (2, .int 0), (0, .ref 0), (1, .int x)] [] sgX5_chooseJurors_0_24699d rfl ?_
  refine am_drop [2, 3, 1, 0] [(0, .ref 0), (1, .int x), (2, .int 0), (3, .int 0)] rfl ?_
  have lp4 : ∀ (zz j : Nat) (a : Int32), j + zz = 3 → a = itN (fun _ c => tcj T x c) 0 j → am_W C (hp T S o) 0 0 4 [(0, .ref 0), (1, .int x), (2, .int a), (3, .int (nI j))] [] := by
    intro zz
    induction zz with
    | zero =>
      intro j a hj ha
      have e9j : j = 3 := by omega
      refine am_go hF sgX5_chooseJurors_4_bb00f 6 [(0, .ref 0), (1, .int x), (2, .int a), (3, .int (nI j))] [.int 3, .int (nI j)] sgX5_chooseJurors_4_bb00fd rfl ?_
      refine am_icmpge hF 40 dX5_chooseJurors_6 (by decide) (fun _ => ?_) (fun h9 => False.elim (absurd (nc_ge (show 3 ≤ j by omega) (by omega) (by omega) rfl rfl) h9))
      refine am_go hF sgX5_chooseJurors_40_f8a59 41 [(0, .ref 0), (1, .int x), (2, .int a), (3, .int (nI j))] [.int a] sgX5_chooseJurors_40_f8a59d rfl ?_
      exact am_iret hF hO hret rfl dX5_chooseJurors_41 ⟨rfl, (by first | (rw [ha, e9j]; done) | (rw [ha, e9j]; rfl))⟩
    | succ zz ih4 =>
      intro j a hj ha
      have l9j : j < 3 := by omega
      refine am_go hF sgX5_chooseJurors_4_bb00f 6 [(0, .ref 0), (1, .int x), (2, .int a), (3, .int (nI j))] [.int 3, .int (nI j)] sgX5_chooseJurors_4_bb00fd rfl ?_
      refine am_icmpge hF 40 dX5_chooseJurors_6 (by decide) (fun h9 => False.elim (nc_lt_f (show j < 3 by omega) (by omega) (by omega) rfl rfl h9)) (fun _ => ?_)
      refine am_go hF sgX5_chooseJurors_9_fa069 15 [(0, .ref 0), (1, .int x), (2, .int a), (3, .int (nI j))] [.int (x &&& (a ^^^ (-1))), .ref 0] sgX5_chooseJurors_9_fa069d rfl ?_
      refine am_dV hF hO [.int (x &&& (a ^^^ (-1)))] [] (c_leastJudged (T := T)) myX5_leastJudged vyX5_leastJudged lm_RX5_351 (hp_main _ _ _) rfl rfl 0 0 ⟨Nat.le_of_ble_eq_true rfl, Nat.le_of_ble_eq_true rfl⟩ ⟨Nat.le_of_ble_eq_true rfl, Nat.le_of_ble_eq_true rfl, Nat.le_of_ble_eq_true rfl, Nat.le_of_ble_eq_true rfl⟩ rfl (am_lv_ref (hp_main _ _ _) (am_lv_int (am_lv_int (am_lv_int am_lv_nil)))) (Nat.le_of_ble_eq_true rfl) dX5_chooseJurors_15 [.int (tLeast T (x &&& (a ^^^ (-1))))] rfl ?_
      refine am_go hF sgX5_chooseJurors_18_0d3ab 23 [(4, .int (tLeast T (x &&& (a ^^^ (-1))))), (0, .ref 0), (1, .int x), (2, .int a), (3, .int (nI j))] [.int (-1), .int (tLeast T (x &&& (a ^^^ (-1))))] sgX5_chooseJurors_18_0d3abd rfl ?_
      refine am_icmpeq hF 34 dX5_chooseJurors_23 (by decide) (fun c3 => ?_) (fun c3 => ?_)
      · skip
        refine am_go hF sgX5_chooseJurors_34_6e20a 4 [(3, .int ((nI j) + 1)), (4, .int (tLeast T (x &&& (a ^^^ (-1))))), (0, .ref 0), (1, .int x), (2, .int a)] [] sgX5_chooseJurors_34_6e20ad rfl ?_
        refine am_drop [2, 3, 4, 0] [(0, .ref 0), (1, .int x), (2, .int a), (3, .int ((nI j) + 1))] rfl ?_
        refine am_eqL [(0, .ref 0), (1, .int x), (2, .int a), (3, .int (nI (j + 1)))] (by rw [nI_1]) ?_
        exact ih4 (j + 1) a (by omega) (by show _ = tcj T x (itN (fun _ c => tcj T x c) 0 j); rw [← ha]; simp only [tcj, (eq_true c3), ↓reduceIte])
      · skip
        refine am_go hF sgX5_chooseJurors_26_62b07 29 [(4, .int (tLeast T (x &&& (a ^^^ (-1))))), (0, .ref 0), (1, .int x), (2, .int a), (3, .int (nI j))] [.int (tLeast T (x &&& (a ^^^ (-1)))), .int a] sgX5_chooseJurors_26_62b07d rfl ?_
        refine am_dS hF hO [.int (tLeast T (x &&& (a ^^^ (-1))))] [.int a] (c_bit) myX5_bit syX5_bit lm_RX5_115 rfl 0 0 ⟨Nat.le_of_ble_eq_true rfl, Nat.le_of_ble_eq_true rfl⟩ ⟨Nat.le_of_ble_eq_true rfl, Nat.le_of_ble_eq_true rfl, Nat.le_of_ble_eq_true rfl, Nat.le_of_ble_eq_true rfl⟩ rfl (am_lv_int (am_lv_ref (hp_main _ _ _) (am_lv_int (am_lv_int (am_lv_int (am_lv_int am_lv_nil)))))) (Nat.le_of_ble_eq_true rfl) dX5_chooseJurors_29 [.int ((1 : Int32) <<< ((tLeast T (x &&& (a ^^^ (-1)))) &&& 31)), .int a] rfl ?_
        refine am_go hF sgX5_chooseJurors_32_fbee0 4 [(3, .int ((nI j) + 1)), (2, .int (a ||| ((1 : Int32) <<< ((tLeast T (x &&& (a ^^^ (-1)))) &&& 31)))), (4, .int (tLeast T (x &&& (a ^^^ (-1))))), (0, .ref 0), (1, .int x)] [] sgX5_chooseJurors_32_fbee0d rfl ?_
        refine am_drop [3, 4, 1, 0] [(0, .ref 0), (1, .int x), (2, .int (a ||| ((1 : Int32) <<< ((tLeast T (x &&& (a ^^^ (-1)))) &&& 31)))), (3, .int ((nI j) + 1))] rfl ?_
        refine am_eqL [(0, .ref 0), (1, .int x), (2, .int (a ||| ((1 : Int32) <<< ((tLeast T (x &&& (a ^^^ (-1)))) &&& 31)))), (3, .int (nI (j + 1)))] (by rw [nI_1]) ?_
        exact ih4 (j + 1) (a ||| ((1 : Int32) <<< ((tLeast T (x &&& (a ^^^ (-1)))) &&& 31))) (by omega) (by show _ = tcj T x (itN (fun _ c => tcj T x c) 0 j); rw [← ha]; simp only [tcj, c3, ↓reduceIte])
  exact lp4 3 0 0 (by omega) rfl
