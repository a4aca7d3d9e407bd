def sgX6_clears_0_34db8 : List Instr := [.aload_n 0]
theorem sgX6_clears_0_34db8d : am_dec cX6_clears 0 sgX6_clears_0_34db8 = true := by decide +kernel
theorem dX6_clears_1 : decode cX6_clears 1 = .ok (.getfield 13, 3) := by decide +kernel
def sgX6_clears_4_34db8 : List Instr := [.aload_n 0]
theorem sgX6_clears_4_34db8d : am_dec cX6_clears 4 sgX6_clears_4_34db8 = true := by decide +kernel
theorem dX6_clears_5 : decode cX6_clears 5 = .ok (.getfield 50, 3) := by decide +kernel
def sgX6_clears_8_840bf : List Instr := [.iload_n 1]
theorem sgX6_clears_8_840bfd : am_dec cX6_clears 8 sgX6_clears_8_840bf = true := by decide +kernel
theorem dX6_clears_9 : decode cX6_clears 9 = .ok (.iaload, 1) := by decide +kernel
def sgX6_clears_10_af0f1 : List Instr := [.bipush (-10)]
theorem sgX6_clears_10_af0f1d : am_dec cX6_clears 10 sgX6_clears_10_af0f1 = true := by decide +kernel
theorem dX6_clears_12 : decode cX6_clears 12 = .ok (.iastore, 1) := by decide +kernel
def sgX6_clears_13_01fef : List Instr := [.iconst 0, .istore_n 2]
theorem sgX6_clears_13_01fefd : am_dec cX6_clears 13 sgX6_clears_13_01fef = true := by decide +kernel
def sgX6_clears_15_14491 : List Instr := [.iload_n 2, .aload_n 0]
theorem sgX6_clears_15_14491d : am_dec cX6_clears 15 sgX6_clears_15_14491 = true := by decide +kernel
theorem dX6_clears_17 : decode cX6_clears 17 = .ok (.getfield 115, 3) := by decide +kernel
theorem dX6_clears_20 : decode cX6_clears 20 = .ok (.if_icmp .ge 71, 3) := by decide +kernel
theorem dX6_clears_91 : decode cX6_clears 91 = .ok (.return_, 1) := by decide +kernel
def sgX6_clears_23_f3167 : List Instr := [.iload_n 2, .iload_n 1]
theorem sgX6_clears_23_f3167d : am_dec cX6_clears 23 sgX6_clears_23_f3167 = true := by decide +kernel
theorem dX6_clears_25 : decode cX6_clears 25 = .ok (.if_icmp .eq 38, 3) := by decide +kernel
def sgX6_clears_63_fddb3 : List Instr := [.iconst 1, .goto 4, .istore_n 3, .iload_n 3]
theorem sgX6_clears_63_fddb3d : am_dec cX6_clears 63 sgX6_clears_63_fddb3 = true := by decide +kernel
theorem dX6_clears_70 : decode cX6_clears 70 = .ok (.ifCond .eq 15, 3) := by decide +kernel
def sgX6_clears_73_34db8 : List Instr := [.aload_n 0]
theorem sgX6_clears_73_34db8d : am_dec cX6_clears 73 sgX6_clears_73_34db8 = true := by decide +kernel
theorem dX6_clears_74 : decode cX6_clears 74 = .ok (.getfield 77, 3) := by decide +kernel
def sgX6_clears_77_f1033 : List Instr := [.iload_n 2, .iconst 0]
theorem sgX6_clears_77_f1033d : am_dec cX6_clears 77 sgX6_clears_77_f1033 = true := by decide +kernel
theorem dX6_clears_79 : decode cX6_clears 79 = .ok (.bastore, 1) := by decide +kernel
def sgX6_clears_80_78e74 : List Instr := [.aload_n 0, .iload_n 2]
theorem sgX6_clears_80_78e74d : am_dec cX6_clears 80 sgX6_clears_80_78e74 = true := by decide +kernel
theorem dX6_clears_82 : decode cX6_clears 82 = .ok (.invokevirtual 171, 3) := by decide +kernel
def sgX6_clears_85_7f4eb : List Instr := [.iinc 2 1, .goto (-73)]
theorem sgX6_clears_85_7f4ebd : am_dec cX6_clears 85 sgX6_clears_85_7f4eb = true := by decide +kernel
def sgX6_clears_28_34db8 : List Instr := [.aload_n 0]
theorem sgX6_clears_28_34db8d : am_dec cX6_clears 28 sgX6_clears_28_34db8 = true := by decide +kernel
theorem dX6_clears_29 : decode cX6_clears 29 = .ok (.getfield 50, 3) := by decide +kernel
def sgX6_clears_32_f8a59 : List Instr := [.iload_n 2]
theorem sgX6_clears_32_f8a59d : am_dec cX6_clears 32 sgX6_clears_32_f8a59 = true := by decide +kernel
theorem dX6_clears_33 : decode cX6_clears 33 = .ok (.iaload, 1) := by decide +kernel
def sgX6_clears_34_34db8 : List Instr := [.aload_n 0]
theorem sgX6_clears_34_34db8d : am_dec cX6_clears 34 sgX6_clears_34_34db8 = true := by decide +kernel
theorem dX6_clears_35 : decode cX6_clears 35 = .ok (.getfield 50, 3) := by decide +kernel
def sgX6_clears_38_840bf : List Instr := [.iload_n 1]
theorem sgX6_clears_38_840bfd : am_dec cX6_clears 38 sgX6_clears_38_840bf = true := by decide +kernel
theorem dX6_clears_39 : decode cX6_clears 39 = .ok (.iaload, 1) := by decide +kernel
theorem dX6_clears_40 : decode cX6_clears 40 = .ok (.if_icmp .ne 27, 3) := by decide +kernel
def sgX6_clears_67_00398 : List Instr := [.iconst 0, .istore_n 3, .iload_n 3]
theorem sgX6_clears_67_00398d : am_dec cX6_clears 67 sgX6_clears_67_00398 = true := by decide +kernel
def sgX6_clears_43_34db8 : List Instr := [.aload_n 0]
theorem sgX6_clears_43_34db8d : am_dec cX6_clears 43 sgX6_clears_43_34db8 = true := by decide +kernel
theorem dX6_clears_44 : decode cX6_clears 44 = .ok (.getfield 68, 3) := by decide +kernel
def sgX6_clears_47_f8a59 : List Instr := [.iload_n 2]
theorem sgX6_clears_47_f8a59d : am_dec cX6_clears 47 sgX6_clears_47_f8a59 = true := by decide +kernel
theorem dX6_clears_48 : decode cX6_clears 48 = .ok (.iaload, 1) := by decide +kernel
def sgX6_clears_49_4de0a : List Instr := [.iconst 1]
theorem sgX6_clears_49_4de0ad : am_dec cX6_clears 49 sgX6_clears_49_4de0a = true := by decide +kernel
theorem dX6_clears_50 : decode cX6_clears 50 = .ok (.if_icmp .ne 17, 3) := by decide +kernel
def sgX6_clears_53_34db8 : List Instr := [.aload_n 0]
theorem sgX6_clears_53_34db8d : am_dec cX6_clears 53 sgX6_clears_53_34db8 = true := by decide +kernel
theorem dX6_clears_54 : decode cX6_clears 54 = .ok (.getfield 65, 3) := by decide +kernel
def sgX6_clears_57_f8a59 : List Instr := [.iload_n 2]
theorem sgX6_clears_57_f8a59d : am_dec cX6_clears 57 sgX6_clears_57_f8a59 = true := by decide +kernel
theorem dX6_clears_58 : decode cX6_clears 58 = .ok (.iaload, 1) := by decide +kernel
def sgX6_clears_59_d5620 : List Instr := [.iconst 2]
theorem sgX6_clears_59_d5620d : am_dec cX6_clears 59 sgX6_clears_59_d5620 = true := by decide +kernel
theorem dX6_clears_60 : decode cX6_clears 60 = .ok (.if_icmp .ne 7, 3) := by decide +kernel
def sgX6_nextDay_0_67c14 : List Instr := [.iconst 0, .istore_n 1]
theorem sgX6_nextDay_0_67c14d : am_dec cX6_nextDay 0 sgX6_nextDay_0_67c14 = true := by decide +kernel
def sgX6_nextDay_2_45dfc : List Instr := [.iload_n 1, .aload_n 0]
theorem sgX6_nextDay_2_45dfcd : am_dec cX6_nextDay 2 sgX6_nextDay_2_45dfc = true := by decide +kernel
theorem dX6_nextDay_4 : decode cX6_nextDay 4 = .ok (.getfield 112, 3) := by decide +kernel
theorem dX6_nextDay_7 : decode cX6_nextDay 7 = .ok (.if_icmp .ge 40, 3) := by decide +kernel
def sgX6_nextDay_47_da752 : List Instr := [.aload_n 0, .dup]
theorem sgX6_nextDay_47_da752d : am_dec cX6_nextDay 47 sgX6_nextDay_47_da752 = true := by decide +kernel
theorem dX6_nextDay_49 : decode cX6_nextDay 49 = .ok (.getfield 147, 3) := by decide +kernel
def sgX6_nextDay_52_c7176 : List Instr := [.iconst 1, .iadd]
theorem sgX6_nextDay_52_c7176d : am_dec cX6_nextDay 52 sgX6_nextDay_52_c7176 = true := by decide +kernel
theorem dX6_nextDay_54 : decode cX6_nextDay 54 = .ok (.putfield 147, 3) := by decide +kernel
def sgX6_nextDay_57_1ac35 : List Instr := [.iconst 0, .istore_n 1, .iconst 0, .istore_n 2]
theorem sgX6_nextDay_57_1ac35d : am_dec cX6_nextDay 57 sgX6_nextDay_57_1ac35 = true := by decide +kernel
def sgX6_nextDay_61_14491 : List Instr := [.iload_n 2, .aload_n 0]
theorem sgX6_nextDay_61_14491d : am_dec cX6_nextDay 61 sgX6_nextDay_61_14491 = true := by decide +kernel
theorem dX6_nextDay_63 : decode cX6_nextDay 63 = .ok (.getfield 115, 3) := by decide +kernel
theorem dX6_nextDay_66 : decode cX6_nextDay 66 = .ok (.if_icmp .ge 51, 3) := by decide +kernel
def sgX6_nextDay_117_840bf : List Instr := [.iload_n 1]
theorem sgX6_nextDay_117_840bfd : am_dec cX6_nextDay 117 sgX6_nextDay_117_840bf = true := by decide +kernel
theorem dX6_nextDay_118 : decode cX6_nextDay 118 = .ok (.ireturn, 1) := by decide +kernel
def sgX6_nextDay_69_34db8 : List Instr := [.aload_n 0]
theorem sgX6_nextDay_69_34db8d : am_dec cX6_nextDay 69 sgX6_nextDay_69_34db8 = true := by decide +kernel
theorem dX6_nextDay_70 : decode cX6_nextDay 70 = .ok (.getfield 68, 3) := by decide +kernel
def sgX6_nextDay_73_f8a59 : List Instr := [.iload_n 2]
theorem sgX6_nextDay_73_f8a59d : am_dec cX6_nextDay 73 sgX6_nextDay_73_f8a59 = true := by decide +kernel
theorem dX6_nextDay_74 : decode cX6_nextDay 74 = .ok (.iaload, 1) := by decide +kernel
def sgX6_nextDay_75_4de0a : List Instr := [.iconst 1]
theorem sgX6_nextDay_75_4de0ad : am_dec cX6_nextDay 75 sgX6_nextDay_75_4de0a = true := by decide +kernel
theorem dX6_nextDay_76 : decode cX6_nextDay 76 = .ok (.if_icmp .ne 35, 3) := by decide +kernel
def sgX6_nextDay_111_ee2ba : List Instr := [.iinc 2 1, .goto (-53)]
theorem sgX6_nextDay_111_ee2bad : am_dec cX6_nextDay 111 sgX6_nextDay_111_ee2ba = true := by decide +kernel
def sgX6_nextDay_79_34db8 : List Instr := [.aload_n 0]
theorem sgX6_nextDay_79_34db8d : am_dec cX6_nextDay 79 sgX6_nextDay_79_34db8 = true := by decide +kernel
theorem dX6_nextDay_80 : decode cX6_nextDay 80 = .ok (.getfield 59, 3) := by decide +kernel
def sgX6_nextDay_83_f8a59 : List Instr := [.iload_n 2]
theorem sgX6_nextDay_83_f8a59d : am_dec cX6_nextDay 83 sgX6_nextDay_83_f8a59 = true := by decide +kernel
theorem dX6_nextDay_84 : decode cX6_nextDay 84 = .ok (.iaload, 1) := by decide +kernel
def sgX6_nextDay_85_34db8 : List Instr := [.aload_n 0]
theorem sgX6_nextDay_85_34db8d : am_dec cX6_nextDay 85 sgX6_nextDay_85_34db8 = true := by decide +kernel
theorem dX6_nextDay_86 : decode cX6_nextDay 86 = .ok (.getfield 147, 3) := by decide +kernel
theorem dX6_nextDay_89 : decode cX6_nextDay 89 = .ok (.if_icmp .ne 22, 3) := by decide +kernel
def sgX6_nextDay_92_34db8 : List Instr := [.aload_n 0]
theorem sgX6_nextDay_92_34db8d : am_dec cX6_nextDay 92 sgX6_nextDay_92_34db8 = true := by decide +kernel
theorem dX6_nextDay_93 : decode cX6_nextDay 93 = .ok (.getfield 77, 3) := by decide +kernel
def sgX6_nextDay_96_f8a59 : List Instr := [.iload_n 2]
theorem sgX6_nextDay_96_f8a59d : am_dec cX6_nextDay 96 sgX6_nextDay_96_f8a59 = true := by decide +kernel
theorem dX6_nextDay_97 : decode cX6_nextDay 97 = .ok (.baload, 1) := by decide +kernel
theorem dX6_nextDay_98 : decode cX6_nextDay 98 = .ok (.ifCond .ne 13, 3) := by decide +kernel
def sgX6_nextDay_101_34db8 : List Instr := [.aload_n 0]
theorem sgX6_nextDay_101_34db8d : am_dec cX6_nextDay 101 sgX6_nextDay_101_34db8 = true := by decide +kernel
theorem dX6_nextDay_102 : decode cX6_nextDay 102 = .ok (.getfield 68, 3) := by decide +kernel
def sgX6_nextDay_105_a8367 : List Instr := [.iload_n 2, .iconst 2]
theorem sgX6_nextDay_105_a8367d : am_dec cX6_nextDay 105 sgX6_nextDay_105_a8367 = true := by decide +kernel
theorem dX6_nextDay_107 : decode cX6_nextDay 107 = .ok (.iastore, 1) := by decide +kernel
def sgX6_nextDay_108_77301 : List Instr := [.iinc 1 1, .iinc 2 1, .goto (-53)]
theorem sgX6_nextDay_108_77301d : am_dec cX6_nextDay 108 sgX6_nextDay_108_77301 = true := by decide +kernel
def sgX6_nextDay_10_7ab88 : List Instr := [.sipush 401, .iload_n 1, .imul, .aload_n 0]
theorem sgX6_nextDay_10_7ab88d : am_dec cX6_nextDay 10 sgX6_nextDay_10_7ab88 = true := by decide +kernel
theorem dX6_nextDay_16 : decode cX6_nextDay 16 = .ok (.getfield 147, 3) := by decide +kernel
def sgX6_nextDay_19_57247 : List Instr := [.iadd, .istore_n 2, .aload_n 0]
theorem sgX6_nextDay_19_57247d : am_dec cX6_nextDay 19 sgX6_nextDay_19_57247 = true := by decide +kernel
theorem dX6_nextDay_22 : decode cX6_nextDay 22 = .ok (.getfield 95, 3) := by decide +kernel
def sgX6_nextDay_25_14491 : List Instr := [.iload_n 2, .aload_n 0]
theorem sgX6_nextDay_25_14491d : am_dec cX6_nextDay 25 sgX6_nextDay_25_14491 = true := by decide +kernel
theorem dX6_nextDay_27 : decode cX6_nextDay 27 = .ok (.getfield 92, 3) := by decide +kernel
def sgX6_nextDay_30_f8a59 : List Instr := [.iload_n 2]
theorem sgX6_nextDay_30_f8a59d : am_dec cX6_nextDay 30 sgX6_nextDay_30_f8a59 = true := by decide +kernel
theorem dX6_nextDay_31 : decode cX6_nextDay 31 = .ok (.baload, 1) := by decide +kernel
theorem dX6_nextDay_32 : decode cX6_nextDay 32 = .ok (.ifCond .eq 7, 3) := by decide +kernel
def sgX6_nextDay_39_56c54 : List Instr := [.iconst 0]
theorem sgX6_nextDay_39_56c54d : am_dec cX6_nextDay 39 sgX6_nextDay_39_56c54 = true := by decide +kernel
theorem dX6_nextDay_40 : decode cX6_nextDay 40 = .ok (.iastore, 1) := by decide +kernel
def sgX6_nextDay_41_3abcf : List Instr := [.iinc 1 1, .goto (-42)]
theorem sgX6_nextDay_41_3abcfd : am_dec cX6_nextDay 41 sgX6_nextDay_41_3abcf = true := by decide +kernel
def sgX6_nextDay_35_1c64c : List Instr := [.iconst 1, .goto 4]
theorem sgX6_nextDay_35_1c64cd : am_dec cX6_nextDay 35 sgX6_nextDay_35_1c64c = true := by decide +kernel
set_option maxRecDepth 100000 in
set_option maxHeartbeats 4000000 in
theorem c_clears {G : am_S} {T S : am_T} {o : Nat → Int64} {n m c : Nat} (ha : rAll S n m) (hc : c < m) : am_D G yX6_clears (.code yX6_clears cX6_clears 4 none :: am_G) { frames := 4, cells := 0, slots := 0, locals := 98 } (hp T S o) [.ref 465, .int (nI c)] (hp T (rClear S n m c) o) none := by
  refine am_of (by decide +kernel) (Nat.le_of_ble_eq_true rfl) ?_
  intro C hse hret hname hF hO
  subst hse
  obtain ⟨sp, hsp9, hsp⟩ := (ha.2.2.2.2.2 c hc).1
  have hm80 := ha.2.2.2.1
  refine am_go hF sgX6_clears_0_34db8 1 [(0, .ref 465), (1, .int (nI c))] [.ref 465] sgX6_clears_0_34db8d rfl ?_
  refine sv_get hF 4 (by decide) rfl lf_RX6_13 (.ref 504) rfl dX6_clears_1 ?_
  refine am_go hF sgX6_clears_4_34db8 5 [(0, .ref 465), (1, .int (nI c))] [.ref 465, .ref 504] sgX6_clears_4_34db8d rfl ?_
  refine sv_get hF 18 (by decide) rfl lf_RX6_50 (.ref 518) rfl dX6_clears_5 ?_
  refine am_go hF sgX6_clears_8_840bf 9 [(0, .ref 465), (1, .int (nI c))] [.int (nI c), .ref 518, .ref 504] sgX6_clears_8_840bfd rfl ?_
  refine sv_iald hF 18 (by decide) ⟨rfl, rfl, by decide⟩ c rfl (show c < 80 by omega) dX6_clears_9 ?_
  refine am_top (nI sp) hsp ?_
  refine am_go hF sgX6_clears_10_af0f1 12 [(0, .ref 465), (1, .int (nI c))] [.int (-10), .int (nI sp), .ref 504] sgX6_clears_10_af0f1d rfl ?_
  refine sv_iast hF 4 (by decide) ⟨rfl, rfl, by decide⟩ sp rfl (show sp < 16 by omega) dX6_clears_12 ?_
  refine am_go hF sgX6_clears_13_01fef 15 [(2, .int 0), (0, .ref 465), (1, .int (nI c))] [] sgX6_clears_13_01fefd rfl ?_
  refine am_drop [1, 2, 0] [(0, .ref 465), (1, .int (nI c)), (2, .int 0)] rfl ?_
  have lp15 : ∀ (zz j : Nat) (S1 : am_T), j + zz = m → S1 = itN (rcl n c) (st1 S 4 sp (-10)) j → am_W C (hp T S1 o) 0 0 15 [(0, .ref 465), (1, .int (nI c)), (2, .int (nI j))] [] := by
    intro zz
    induction zz with
    | zero =>
      intro j S1 hj hS1
      have e9j : j = m := by omega
      have ha1 : rAll S1 n m := by rw [hS1]; exact rcl_all (rAll_st ha (by decide) _ _) j
      refine am_go hF sgX6_clears_15_14491 17 [(0, .ref 465), (1, .int (nI c)), (2, .int (nI j))] [.ref 465, .int (nI j)] sgX6_clears_15_14491d rfl ?_
      refine sv_get hF 17 (by decide) rfl lf_RX6_115 (.int (S1 17 0)) rfl dX6_clears_17 ?_
      refine am_top (nI m) ha1.2.2.1 ?_
      refine am_icmpge hF 91 dX6_clears_20 (by decide) (fun _ => ?_) (fun h9 => False.elim (absurd (nc_ge (show m ≤ j by omega) (by omega) (by omega) rfl rfl) h9))
      exact am_vret hF hO hret dX6_clears_91 ⟨by rw [hS1, e9j]; unfold rClear; rw [hsp, nI_clamp (by omega)], rfl⟩
    | succ zz ih15 =>
      intro j S1 hj hS1
      have l9j : j < m := by omega
      have ha1 : rAll S1 n m := by rw [hS1]; exact rcl_all (rAll_st ha (by decide) _ _) j
      refine am_go hF sgX6_clears_15_14491 17 [(0, .ref 465), (1, .int (nI c)), (2, .int (nI j))] [.ref 465, .int (nI j)] sgX6_clears_15_14491d rfl ?_
      refine sv_get hF 17 (by decide) rfl lf_RX6_115 (.int (S1 17 0)) rfl dX6_clears_17 ?_
      refine am_top (nI m) ha1.2.2.1 ?_
      refine am_icmpge hF 91 dX6_clears_20 (by decide) (fun h9 => False.elim (nc_lt_f (show j < m by omega) (by omega) (by omega) rfl rfl h9)) (fun _ => ?_)
      refine am_go hF sgX6_clears_23_f3167 25 [(0, .ref 465), (1, .int (nI c)), (2, .int (nI j))] [.int (nI c), .int (nI j)] sgX6_clears_23_f3167d rfl ?_
      refine am_icmpeq hF 63 dX6_clears_25 (by decide) (fun c3 => ?_) (fun c3 => ?_)
      · skip
        refine am_go hF sgX6_clears_63_fddb3 70 [(3, .int 1), (0, .ref 465), (1, .int (nI c)), (2, .int (nI j))] [.int 1] sgX6_clears_63_fddb3d rfl ?_
        refine am_ifeq hF 85 dX6_clears_70 (by decide) (fun h9 => False.elim ((by revert h9; decide))) (fun _ => ?_)
        refine am_go hF sgX6_clears_73_34db8 74 [(3, .int 1), (0, .ref 465), (1, .int (nI c)), (2, .int (nI j))] [.ref 465] sgX6_clears_73_34db8d rfl ?_
        refine sv_get hF 27 (by decide) rfl lf_RX6_77 (.ref 527) rfl dX6_clears_74 ?_
        refine am_go hF sgX6_clears_77_f1033 79 [(3, .int 1), (0, .ref 465), (1, .int (nI c)), (2, .int (nI j))] [.int 0, .int (nI j), .ref 527] sgX6_clears_77_f1033d rfl ?_
        refine sv_zast hF 27 (by decide) ⟨rfl, rfl, by decide⟩ j rfl (show j < 80 by omega) rfl dX6_clears_79 ?_
        refine am_go hF sgX6_clears_80_78e74 82 [(3, .int 1), (0, .ref 465), (1, .int (nI c)), (2, .int (nI j))] [.int (nI j), .ref 465] sgX6_clears_80_78e74d rfl ?_
        obtain ⟨lk, dk, hsf⟩ := rAll_safe (rAll_st ha1 (f := 27) (by decide) j 0) (show j < m by omega)
        have elk : (S1 19 j).toNatClampNeg = lk := (congrArg Int32.toNatClampNeg (show S1 19 j = nI lk from hsf.2.2.2.2.1)).trans (nI_clamp (by have := hsf.2.1; have := hsf.2.2.1; omega))
        refine am_dV hF hO [.int (nI j)] [] (c_passes (S := (st1 S1 27 j 0)) hsf) myX6_passes vyX6_passes lm_RX6_171 (hp_m _ _ _) rfl rfl 0 0 ⟨Nat.le_of_ble_eq_true rfl, Nat.le_of_ble_eq_true rfl⟩ ⟨Nat.le_of_ble_eq_true rfl, Nat.le_of_ble_eq_true rfl, Nat.le_of_ble_eq_true rfl, Nat.le_of_ble_eq_true rfl⟩ rfl (am_lv_int (am_lv_ref (hp_m _ _ _) (am_lv_int (am_lv_int am_lv_nil)))) (Nat.le_of_ble_eq_true rfl) dX6_clears_82 [] rfl ?_
        refine am_go hF sgX6_clears_85_7f4eb 15 [(2, .int ((nI j) + 1)), (3, .int 1), (0, .ref 465), (1, .int (nI c))] [] sgX6_clears_85_7f4ebd rfl ?_
        refine am_drop [2, 3, 0] [(0, .ref 465), (1, .int (nI c)), (2, .int ((nI j) + 1))] rfl ?_
        refine am_eqL [(0, .ref 465), (1, .int (nI c)), (2, .int (nI (j + 1)))] (by rw [nI_1]) ?_
        exact ih15 (j + 1) (rPass (st1 S1 27 j 0) n j lk) (by omega) (by show _ = rcl n c j (itN (rcl n c) (st1 S 4 sp (-10)) j); rw [← hS1]; simp only [rcl, (eq_true c3), not_false_eq_true, not_true_eq_false, and_self, and_true, true_and, and_false, false_and, true_or, or_true, or_false, false_or, or_self, elk, ↓reduceIte])
      · skip
        refine am_go hF sgX6_clears_28_34db8 29 [(0, .ref 465), (1, .int (nI c)), (2, .int (nI j))] [.ref 465] sgX6_clears_28_34db8d rfl ?_
        refine sv_get hF 18 (by decide) rfl lf_RX6_50 (.ref 518) rfl dX6_clears_29 ?_
        refine am_go hF sgX6_clears_32_f8a59 33 [(0, .ref 465), (1, .int (nI c)), (2, .int (nI j))] [.int (nI j), .ref 518] sgX6_clears_32_f8a59d rfl ?_
        refine sv_iald hF 18 (by decide) ⟨rfl, rfl, by decide⟩ j rfl (show j < 80 by omega) dX6_clears_33 ?_
        refine am_go hF sgX6_clears_34_34db8 35 [(0, .ref 465), (1, .int (nI c)), (2, .int (nI j))] [.ref 465, .int (S1 18 j)] sgX6_clears_34_34db8d rfl ?_
        refine sv_get hF 18 (by decide) rfl lf_RX6_50 (.ref 518) rfl dX6_clears_35 ?_
        refine am_go hF sgX6_clears_38_840bf 39 [(0, .ref 465), (1, .int (nI c)), (2, .int (nI j))] [.int (nI c), .ref 518, .int (S1 18 j)] sgX6_clears_38_840bfd rfl ?_
        refine sv_iald hF 18 (by decide) ⟨rfl, rfl, by decide⟩ c rfl (show c < 80 by omega) dX6_clears_39 ?_
        refine am_icmpne hF 67 dX6_clears_40 (by decide) (fun c5 => ?_) (fun c5 => ?_)
        · skip
          refine am_go hF sgX6_clears_67_00398 70 [(3, .int 0), (0, .ref 465), (1, .int (nI c)), (2, .int (nI j))] [.int 0] sgX6_clears_67_00398d rfl ?_
          refine am_ifeq hF 85 dX6_clears_70 (by decide) (fun _ => ?_) (fun h9 => False.elim ((by revert h9; decide)))
          refine am_go hF sgX6_clears_85_7f4eb 15 [(2, .int ((nI j) + 1)), (3, .int 0), (0, .ref 465), (1, .int (nI c))] [] sgX6_clears_85_7f4ebd rfl ?_
          refine am_drop [2, 3, 0] [(0, .ref 465), (1, .int (nI c)), (2, .int ((nI j) + 1))] rfl ?_
          refine am_eqL [(0, .ref 465), (1, .int (nI c)), (2, .int (nI (j + 1)))] (by rw [nI_1]) ?_
          exact ih15 (j + 1) S1 (by omega) (by show _ = rcl n c j (itN (rcl n c) (st1 S 4 sp (-10)) j); rw [← hS1]; simp only [rcl, c3, c5, not_false_eq_true, not_true_eq_false, and_self, and_true, true_and, and_false, false_and, true_or, or_true, or_false, false_or, or_self, ↓reduceIte])
        · skip
          refine am_go hF sgX6_clears_43_34db8 44 [(0, .ref 465), (1, .int (nI c)), (2, .int (nI j))] [.ref 465] sgX6_clears_43_34db8d rfl ?_
          refine sv_get hF 24 (by decide) rfl lf_RX6_68 (.ref 524) rfl dX6_clears_44 ?_
          refine am_go hF sgX6_clears_47_f8a59 48 [(0, .ref 465), (1, .int (nI c)), (2, .int (nI j))] [.int (nI j), .ref 524] sgX6_clears_47_f8a59d rfl ?_
          refine sv_iald hF 24 (by decide) ⟨rfl, rfl, by decide⟩ j rfl (show j < 80 by omega) dX6_clears_48 ?_
          refine am_go hF sgX6_clears_49_4de0a 50 [(0, .ref 465), (1, .int (nI c)), (2, .int (nI j))] [.int 1, .int (S1 24 j)] sgX6_clears_49_4de0ad rfl ?_
          refine am_icmpne hF 67 dX6_clears_50 (by decide) (fun c7 => ?_) (fun c7 => ?_)
          · skip
            refine am_go hF sgX6_clears_67_00398 70 [(3, .int 0), (0, .ref 465), (1, .int (nI c)), (2, .int (nI j))] [.int 0] sgX6_clears_67_00398d rfl ?_
            refine am_ifeq hF 85 dX6_clears_70 (by decide) (fun _ => ?_) (fun h9 => False.elim ((by revert h9; decide)))
            refine am_go hF sgX6_clears_85_7f4eb 15 [(2, .int ((nI j) + 1)), (3, .int 0), (0, .ref 465), (1, .int (nI c))] [] sgX6_clears_85_7f4ebd rfl ?_
            refine am_drop [2, 3, 0] [(0, .ref 465), (1, .int (nI c)), (2, .int ((nI j) + 1))] rfl ?_
            refine am_eqL [(0, .ref 465), (1, .int (nI c)), (2, .int (nI (j + 1)))] (by rw [nI_1]) ?_
            exact ih15 (j + 1) S1 (by omega) (by show _ = rcl n c j (itN (rcl n c) (st1 S 4 sp (-10)) j); rw [← hS1]; simp only [rcl, c3, (eq_true c5), c7, not_false_eq_true, not_true_eq_false, and_self, and_true, true_and, and_false, false_and, true_or, or_true, or_false, false_or, or_self, ↓reduceIte])
          · skip
            refine am_go hF sgX6_clears_53_34db8 54 [(0, .ref 465), (1, .int (nI c)), (2, .int (nI j))] [.ref 465] sgX6_clears_53_34db8d rfl ?_
            refine sv_get hF 23 (by decide) rfl lf_RX6_65 (.ref 523) rfl dX6_clears_54 ?_
            refine am_go hF sgX6_clears_57_f8a59 58 [(0, .ref 465), (1, .int (nI c)), (2, .int (nI j))] [.int (nI j), .ref 523] sgX6_clears_57_f8a59d rfl ?_
            refine sv_iald hF 23 (by decide) ⟨rfl, rfl, by decide⟩ j rfl (show j < 80 by omega) dX6_clears_58 ?_
            refine am_go hF sgX6_clears_59_d5620 60 [(0, .ref 465), (1, .int (nI c)), (2, .int (nI j))] [.int 2, .int (S1 23 j)] sgX6_clears_59_d5620d rfl ?_
            refine am_icmpne hF 67 dX6_clears_60 (by decide) (fun c9 => ?_) (fun c9 => ?_)
            · skip
              refine am_go hF sgX6_clears_67_00398 70 [(3, .int 0), (0, .ref 465), (1, .int (nI c)), (2, .int (nI j))] [.int 0] sgX6_clears_67_00398d rfl ?_
              refine am_ifeq hF 85 dX6_clears_70 (by decide) (fun _ => ?_) (fun h9 => False.elim ((by revert h9; decide)))
              refine am_go hF sgX6_clears_85_7f4eb 15 [(2, .int ((nI j) + 1)), (3, .int 0), (0, .ref 465), (1, .int (nI c))] [] sgX6_clears_85_7f4ebd rfl ?_
              refine am_drop [2, 3, 0] [(0, .ref 465), (1, .int (nI c)), (2, .int ((nI j) + 1))] rfl ?_
              refine am_eqL [(0, .ref 465), (1, .int (nI c)), (2, .int (nI (j + 1)))] (by rw [nI_1]) ?_
              exact ih15 (j + 1) S1 (by omega) (by show _ = rcl n c j (itN (rcl n c) (st1 S 4 sp (-10)) j); rw [← hS1]; simp only [rcl, c3, (eq_true c5), (eq_true c7), c9, not_false_eq_true, not_true_eq_false, and_self, and_true, true_and, and_false, false_and, true_or, or_true, or_false, false_or, or_self, ↓reduceIte])
            · skip
              refine am_go hF sgX6_clears_63_fddb3 70 [(3, .int 1), (0, .ref 465), (1, .int (nI c)), (2, .int (nI j))] [.int 1] sgX6_clears_63_fddb3d rfl ?_
              refine am_ifeq hF 85 dX6_clears_70 (by decide) (fun h9 => False.elim ((by revert h9; decide))) (fun _ => ?_)
              refine am_go hF sgX6_clears_73_34db8 74 [(3, .int 1), (0, .ref 465), (1, .int (nI c)), (2, .int (nI j))] [.ref 465] sgX6_clears_73_34db8d rfl ?_
              refine sv_get hF 27 (by decide) rfl lf_RX6_77 (.ref 527) rfl dX6_clears_74 ?_
              refine am_go hF sgX6_clears_77_f1033 79 [(3, .int 1), (0, .ref 465), (1, .int (nI c)), (2, .int (nI j))] [.int 0, .int (nI j), .ref 527] sgX6_clears_77_f1033d rfl ?_
              refine sv_zast hF 27 (by decide) ⟨rfl, rfl, by decide⟩ j rfl (show j < 80 by omega) rfl dX6_clears_79 ?_
              refine am_go hF sgX6_clears_80_78e74 82 [(3, .int 1), (0, .ref 465), (1, .int (nI c)), (2, .int (nI j))] [.int (nI j), .ref 465] sgX6_clears_80_78e74d rfl ?_
              obtain ⟨lk, dk, hsf⟩ := rAll_safe (rAll_st ha1 (f := 27) (by decide) j 0) (show j < m by omega)
              have elk : (S1 19 j).toNatClampNeg = lk := (congrArg Int32.toNatClampNeg (show S1 19 j = nI lk from hsf.2.2.2.2.1)).trans (nI_clamp (by have := hsf.2.1; have := hsf.2.2.1; omega))
              refine am_dV hF hO [.int (nI j)] [] (c_passes (S := (st1 S1 27 j 0)) hsf) myX6_passes vyX6_passes lm_RX6_171 (hp_m _ _ _) rfl rfl 0 0 ⟨Nat.le_of_ble_eq_true rfl, Nat.le_of_ble_eq_true rfl⟩ ⟨Nat.le_of_ble_eq_true rfl, Nat.le_of_ble_eq_true rfl, Nat.le_of_ble_eq_true rfl, Nat.le_of_ble_eq_true rfl⟩ rfl (am_lv_int (am_lv_ref (hp_m _ _ _) (am_lv_int (am_lv_int am_lv_nil)))) (Nat.le_of_ble_eq_true rfl) dX6_clears_82 [] rfl ?_
              refine am_go hF sgX6_clears_85_7f4eb 15 [(2, .int ((nI j) + 1)), (3, .int 1), (0, .ref 465), (1, .int (nI c))] [] sgX6_clears_85_7f4ebd rfl ?_
              refine am_drop [2, 3, 0] [(0, .ref 465), (1, .int (nI c)), (2, .int ((nI j) + 1))] rfl ?_
              refine am_eqL [(0, .ref 465), (1, .int (nI c)), (2, .int (nI (j + 1)))] (by rw [nI_1]) ?_
              exact ih15 (j + 1) (rPass (st1 S1 27 j 0) n j lk) (by omega) (by show _ = rcl n c j (itN (rcl n c) (st1 S 4 sp (-10)) j); rw [← hS1]; simp only [rcl, c3, (eq_true c5), (eq_true c7), (eq_true c9), not_false_eq_true, not_true_eq_false, and_self, and_true, true_and, and_false, false_and, true_or, or_true, or_false, false_or, or_self, elk, ↓reduceIte])
  exact lp15 m 0 (st1 S 4 sp (-10)) (by omega) rfl
set_option maxRecDepth 100000 in
set_option maxHeartbeats 4000000 in
theorem c_nextDay {G : am_S} {T S : am_T} {o : Nat → Int64} {n : Nat} (hn : S 9 0 = nI n) (hn10 : n ≤ 10) {m : Nat} (hm : S 17 0 = nI m) (hm80 : m ≤ 80) {t : Nat} (ht : S 1 0 = nI t) (ht4 : t < 400) : am_D G yX6_nextDay (.code yX6_nextDay cX6_nextDay 3 (some .int) :: am_G) { frames := 0, cells := 0, slots := 0, locals := 0 } (hp T S o) [.ref 465] (hp T (rNext S n m t).1 o) (some (.int (rNext S n m t).2)) := by
  refine am_of (by decide +kernel) (Nat.le_of_ble_eq_true rfl) ?_
  intro C hse hret hname hF hO
  subst hse
  refine am_go hF sgX6_nextDay_0_67c14 2 [(1, .int 0), (0, .ref 465)] [] sgX6_nextDay_0_67c14d rfl ?_
  refine am_drop [1, 0] [(0, .ref 465), (1, .int 0)] rfl ?_
  have lp2 : ∀ (zz j : Nat) (S1 : am_T), j + zz = n → S1 = itN (rn1 t) S j → am_W C (hp T S1 o) 0 0 2 [(0, .ref 465), (1, .int (nI j))] [] := by
    intro zz
    induction zz with
    | zero =>
      intro j S1 hj hS1
      have e9j : j = n := by omega
      have hn1 : S1 9 0 = nI n := by rw [hS1]; exact (congrFun (itN_f (F := rn1 t) 9 (fun k S => st1_f (show 9 ≠ 33 by decide)) _ j) 0).trans hn
      have ht1 : S1 1 0 = nI t := by rw [hS1]; exact (congrFun (itN_f (F := rn1 t) 1 (fun k S => st1_f (show 1 ≠ 33 by decide)) _ j) 0).trans ht
      have hm1 : S1 17 0 = nI m := by rw [hS1]; exact (congrFun (itN_f (F := rn1 t) 17 (fun k S => st1_f (show 17 ≠ 33 by decide)) _ j) 0).trans hm
      refine am_go hF sgX6_nextDay_2_45dfc 4 [(0, .ref 465), (1, .int (nI j))] [.ref 465, .int (nI j)] sgX6_nextDay_2_45dfcd rfl ?_
      refine sv_get hF 9 (by decide) rfl lf_RX6_112 (.int (S1 9 0)) rfl dX6_nextDay_4 ?_
      refine am_top (nI n) hn1 ?_
      refine am_icmpge hF 47 dX6_nextDay_7 (by decide) (fun _ => ?_) (fun h9 => False.elim (absurd (nc_ge (show n ≤ j by omega) (by omega) (by omega) rfl rfl) h9))
      refine am_go hF sgX6_nextDay_47_da752 49 [(0, .ref 465), (1, .int (nI j))] [.ref 465, .ref 465] sgX6_nextDay_47_da752d rfl ?_
      refine sv_get hF 1 (by decide) rfl lf_RX6_147 (.int (S1 1 0)) rfl dX6_nextDay_49 ?_
      refine am_top (nI t) ht1 ?_
      refine am_go hF sgX6_nextDay_52_c7176 54 [(0, .ref 465), (1, .int (nI j))] [.int ((nI t) + 1), .ref 465] sgX6_nextDay_52_c7176d rfl ?_
      refine sv_put hF 1 (by decide) rfl rfl rfl lf_RX6_147 dX6_nextDay_54 ?_
      refine am_go hF sgX6_nextDay_57_1ac35 61 [(2, .int 0), (1, .int 0), (0, .ref 465)] [] sgX6_nextDay_57_1ac35d rfl ?_
      refine am_drop [2, 1, 0] [(0, .ref 465), (1, .int 0), (2, .int 0)] rfl ?_
      have lp61 : ∀ (di i : Nat) (a : Int32) (S2 : am_T), i + di = m → a = (itN rn2 (rNext0 S n t, 0) i).2 → S2 = (itN rn2 (rNext0 S n t, 0) i).1 → am_W C (hp T S2 o) 0 0 61 [(0, .ref 465), (1, .int a), (2, .int (nI i))] [] := by
        intro di
        induction di with
        | zero =>
          intro i a S2 hi ha hS2
          have e9i : i = m := by omega
          have hm2 : S2 17 0 = nI m := by rw [hS2, rn2_f 17 (by decide)]; exact (congrFun (itN_f (F := rn1 t) 17 (fun k S => st1_f (show 17 ≠ 33 by decide)) _ n) 0).trans hm
          refine am_go hF sgX6_nextDay_61_14491 63 [(0, .ref 465), (1, .int a), (2, .int (nI i))] [.ref 465, .int (nI i)] sgX6_nextDay_61_14491d rfl ?_
          refine sv_get hF 17 (by decide) rfl lf_RX6_115 (.int (S2 17 0)) rfl dX6_nextDay_63 ?_
          refine am_top (nI m) hm2 ?_
          refine am_icmpge hF 117 dX6_nextDay_66 (by decide) (fun _ => ?_) (fun h9 => False.elim (absurd (nc_ge (show m ≤ i by omega) (by omega) (by omega) rfl rfl) h9))
          refine am_go hF sgX6_nextDay_117_840bf 118 [(0, .ref 465), (1, .int a), (2, .int (nI i))] [.int a] sgX6_nextDay_117_840bfd rfl ?_
          exact am_iret hF hO hret rfl dX6_nextDay_118 ⟨by rw [hS2, e9i]; rfl, by rw [ha, e9i]; rfl⟩
        | succ di ih61 =>
          intro i a S2 hi ha hS2
          have l9i : i < m := by omega
          have hm2 : S2 17 0 = nI m := by rw [hS2, rn2_f 17 (by decide)]; exact (congrFun (itN_f (F := rn1 t) 17 (fun k S => st1_f (show 17 ≠ 33 by decide)) _ n) 0).trans hm
          refine am_go hF sgX6_nextDay_61_14491 63 [(0, .ref 465), (1, .int a), (2, .int (nI i))] [.ref 465, .int (nI i)] sgX6_nextDay_61_14491d rfl ?_
          refine sv_get hF 17 (by decide) rfl lf_RX6_115 (.int (S2 17 0)) rfl dX6_nextDay_63 ?_
          refine am_top (nI m) hm2 ?_
          refine am_icmpge hF 117 dX6_nextDay_66 (by decide) (fun h9 => False.elim (nc_lt_f (show i < m by omega) (by omega) (by omega) rfl rfl h9)) (fun _ => ?_)
          refine am_go hF sgX6_nextDay_69_34db8 70 [(0, .ref 465), (1, .int a), (2, .int (nI i))] [.ref 465] sgX6_nextDay_69_34db8d rfl ?_
          refine sv_get hF 24 (by decide) rfl lf_RX6_68 (.ref 524) rfl dX6_nextDay_70 ?_
          refine am_go hF sgX6_nextDay_73_f8a59 74 [(0, .ref 465), (1, .int a), (2, .int (nI i))] [.int (nI i), .ref 524] sgX6_nextDay_73_f8a59d rfl ?_
          refine sv_iald hF 24 (by decide) ⟨rfl, rfl, by decide⟩ i rfl (show i < 80 by omega) dX6_nextDay_74 ?_
          refine am_go hF sgX6_nextDay_75_4de0a 76 [(0, .ref 465), (1, .int a), (2, .int (nI i))] [.int 1, .int (S2 24 i)] sgX6_nextDay_75_4de0ad rfl ?_
          refine am_icmpne hF 111 dX6_nextDay_76 (by decide) (fun c4 => ?_) (fun c4 => ?_)
          · skip
            refine am_go hF sgX6_nextDay_111_ee2ba 61 [(2, .int ((nI i) + 1)), (0, .ref 465), (1, .int a)] [] sgX6_nextDay_111_ee2bad rfl ?_
            have hz9 := rn2_0 hS2 ha (fun h => absurd h.1 c4)
            refine am_drop [1, 2, 0] [(0, .ref 465), (1, .int a), (2, .int ((nI i) + 1))] rfl ?_
            refine am_eqL [(0, .ref 465), (1, .int a), (2, .int (nI (i + 1)))] (by rw [nI_1]) ?_
            exact ih61 (i + 1) a S2 (by omega) hz9.2 hz9.1
          · skip
            refine am_go hF sgX6_nextDay_79_34db8 80 [(0, .ref 465), (1, .int a), (2, .int (nI i))] [.ref 465] sgX6_nextDay_79_34db8d rfl ?_
            refine sv_get hF 21 (by decide) rfl lf_RX6_59 (.ref 521) rfl dX6_nextDay_80 ?_
            refine am_go hF sgX6_nextDay_83_f8a59 84 [(0, .ref 465), (1, .int a), (2, .int (nI i))] [.int (nI i), .ref 521] sgX6_nextDay_83_f8a59d rfl ?_
            refine sv_iald hF 21 (by decide) ⟨rfl, rfl, by decide⟩ i rfl (show i < 80 by omega) dX6_nextDay_84 ?_
            refine am_go hF sgX6_nextDay_85_34db8 86 [(0, .ref 465), (1, .int a), (2, .int (nI i))] [.ref 465, .int (S2 21 i)] sgX6_nextDay_85_34db8d rfl ?_
            refine sv_get hF 1 (by decide) rfl lf_RX6_147 (.int (S2 1 0)) rfl dX6_nextDay_86 ?_
            refine am_icmpne hF 111 dX6_nextDay_89 (by decide) (fun c5 => ?_) (fun c5 => ?_)
            · skip
              refine am_go hF sgX6_nextDay_111_ee2ba 61 [(2, .int ((nI i) + 1)), (0, .ref 465), (1, .int a)] [] sgX6_nextDay_111_ee2bad rfl ?_
              have hz9 := rn2_0 hS2 ha (fun h => absurd h.2.1 c5)
              refine am_drop [1, 2, 0] [(0, .ref 465), (1, .int a), (2, .int ((nI i) + 1))] rfl ?_
              refine am_eqL [(0, .ref 465), (1, .int a), (2, .int (nI (i + 1)))] (by rw [nI_1]) ?_
              exact ih61 (i + 1) a S2 (by omega) hz9.2 hz9.1
            · skip
              refine am_go hF sgX6_nextDay_92_34db8 93 [(0, .ref 465), (1, .int a), (2, .int (nI i))] [.ref 465] sgX6_nextDay_92_34db8d rfl ?_
              refine sv_get hF 27 (by decide) rfl lf_RX6_77 (.ref 527) rfl dX6_nextDay_93 ?_
              refine am_go hF sgX6_nextDay_96_f8a59 97 [(0, .ref 465), (1, .int a), (2, .int (nI i))] [.int (nI i), .ref 527] sgX6_nextDay_96_f8a59d rfl ?_
              refine sv_zald hF 27 (by decide) ⟨rfl, rfl, by decide⟩ i rfl (show i < 80 by omega) dX6_nextDay_97 ?_
              refine am_ifne hF 111 dX6_nextDay_98 (by decide) (fun c6 => ?_) (fun c6 => ?_)
              · skip
                refine am_go hF sgX6_nextDay_111_ee2ba 61 [(2, .int ((nI i) + 1)), (0, .ref 465), (1, .int a)] [] sgX6_nextDay_111_ee2bad rfl ?_
                have hz9 := rn2_0 hS2 ha (fun h => absurd h.2.2 c6)
                refine am_drop [1, 2, 0] [(0, .ref 465), (1, .int a), (2, .int ((nI i) + 1))] rfl ?_
                refine am_eqL [(0, .ref 465), (1, .int a), (2, .int (nI (i + 1)))] (by rw [nI_1]) ?_
                exact ih61 (i + 1) a S2 (by omega) hz9.2 hz9.1
              · skip
                refine am_go hF sgX6_nextDay_101_34db8 102 [(0, .ref 465), (1, .int a), (2, .int (nI i))] [.ref 465] sgX6_nextDay_101_34db8d rfl ?_
                refine sv_get hF 24 (by decide) rfl lf_RX6_68 (.ref 524) rfl dX6_nextDay_102 ?_
                refine am_go hF sgX6_nextDay_105_a8367 107 [(0, .ref 465), (1, .int a), (2, .int (nI i))] [.int 2, .int (nI i), .ref 524] sgX6_nextDay_105_a8367d rfl ?_
                refine sv_iast hF 24 (by decide) ⟨rfl, rfl, by decide⟩ i rfl (show i < 80 by omega) dX6_nextDay_107 ?_
                refine am_go hF sgX6_nextDay_108_77301 61 [(2, .int ((nI i) + 1)), (1, .int (a + 1)), (0, .ref 465)] [] sgX6_nextDay_108_77301d rfl ?_
                have hz9 := rn2_1 hS2 ha ⟨c4, c5, c6⟩
                refine am_drop [2, 1, 0] [(0, .ref 465), (1, .int (a + 1)), (2, .int ((nI i) + 1))] rfl ?_
                refine am_eqL [(0, .ref 465), (1, .int (a + 1)), (2, .int (nI (i + 1)))] (by rw [nI_1]) ?_
                exact ih61 (i + 1) (a + 1) (st1 S2 24 i 2) (by omega) hz9.2 hz9.1
      exact lp61 m 0 0 (st1 S1 1 0 ((nI t) + 1)) (by omega) rfl (by rw [hS1, e9j]; rfl)
    | succ zz ih2 =>
      intro j S1 hj hS1
      have l9j : j < n := by omega
      have hn1 : S1 9 0 = nI n := by rw [hS1]; exact (congrFun (itN_f (F := rn1 t) 9 (fun k S => st1_f (show 9 ≠ 33 by decide)) _ j) 0).trans hn
      have ht1 : S1 1 0 = nI t := by rw [hS1]; exact (congrFun (itN_f (F := rn1 t) 1 (fun k S => st1_f (show 1 ≠ 33 by decide)) _ j) 0).trans ht
      have hm1 : S1 17 0 = nI m := by rw [hS1]; exact (congrFun (itN_f (F := rn1 t) 17 (fun k S => st1_f (show 17 ≠ 33 by decide)) _ j) 0).trans hm
      refine am_go hF sgX6_nextDay_2_45dfc 4 [(0, .ref 465), (1, .int (nI j))] [.ref 465, .int (nI j)] sgX6_nextDay_2_45dfcd rfl ?_
      refine sv_get hF 9 (by decide) rfl lf_RX6_112 (.int (S1 9 0)) rfl dX6_nextDay_4 ?_
      refine am_top (nI n) hn1 ?_
      refine am_icmpge hF 47 dX6_nextDay_7 (by decide) (fun h9 => False.elim (nc_lt_f (show j < n by omega) (by omega) (by omega) rfl rfl h9)) (fun _ => ?_)
      refine am_go hF sgX6_nextDay_10_7ab88 16 [(0, .ref 465), (1, .int (nI j))] [.ref 465, .int (401 * (nI j))] sgX6_nextDay_10_7ab88d rfl ?_
      refine sv_get hF 1 (by decide) rfl lf_RX6_147 (.int (S1 1 0)) rfl dX6_nextDay_16 ?_
      refine am_top (nI t) ht1 ?_
      refine am_go hF sgX6_nextDay_19_57247 22 [(2, .int ((401 * (nI j)) + (nI t))), (0, .ref 465), (1, .int (nI j))] [.ref 465] sgX6_nextDay_19_57247d rfl ?_
      refine sv_get hF 33 (by decide) rfl lf_RX6_95 (.ref 533) rfl dX6_nextDay_22 ?_
      refine am_go hF sgX6_nextDay_25_14491 27 [(2, .int ((401 * (nI j)) + (nI t))), (0, .ref 465), (1, .int (nI j))] [.ref 465, .int ((401 * (nI j)) + (nI t)), .ref 533] sgX6_nextDay_25_14491d rfl ?_
      refine sv_get hF 32 (by decide) rfl lf_RX6_92 (.ref 532) rfl dX6_nextDay_27 ?_
      refine am_go hF sgX6_nextDay_30_f8a59 31 [(2, .int ((401 * (nI j)) + (nI t))), (0, .ref 465), (1, .int (nI j))] [.int ((401 * (nI j)) + (nI t)), .ref 532, .int ((401 * (nI j)) + (nI t)), .ref 533] sgX6_nextDay_30_f8a59d rfl ?_
      refine sv_zald hF 32 (by decide) ⟨rfl, rfl, by decide⟩ ((401 * j) + t) (am_ad (am_mu rfl rfl) rfl) (show (401 * j) + t < 4010 by omega) dX6_nextDay_31 ?_
      refine am_ifeq hF 39 dX6_nextDay_32 (by decide) (fun c8 => ?_) (fun c8 => ?_)
      · skip
        refine am_go hF sgX6_nextDay_39_56c54 40 [(2, .int ((401 * (nI j)) + (nI t))), (0, .ref 465), (1, .int (nI j))] [.int 0, .int ((401 * (nI j)) + (nI t)), .ref 533] sgX6_nextDay_39_56c54d rfl ?_
        refine sv_iast hF 33 (by decide) ⟨rfl, rfl, by decide⟩ ((401 * j) + t) (am_ad (am_mu rfl rfl) rfl) (show (401 * j) + t < 4010 by omega) dX6_nextDay_40 ?_
        refine am_go hF sgX6_nextDay_41_3abcf 2 [(1, .int ((nI j) + 1)), (2, .int ((401 * (nI j)) + (nI t))), (0, .ref 465)] [] sgX6_nextDay_41_3abcfd rfl ?_
        refine am_drop [2, 0] [(0, .ref 465), (1, .int ((nI j) + 1))] rfl ?_
        refine am_eqL [(0, .ref 465), (1, .int (nI (j + 1)))] (by rw [nI_1]) ?_
        exact ih2 (j + 1) (st1 S1 33 ((401 * j) + t) 0) (by omega) (by show _ = rn1 t j (itN (rn1 t) S j); rw [← hS1]; simp only [rn1, (eq_true c8), ↓reduceIte])
      · skip
        refine am_go hF sgX6_nextDay_35_1c64c 40 [(2, .int ((401 * (nI j)) + (nI t))), (0, .ref 465), (1, .int (nI j))] [.int 1, .int ((401 * (nI j)) + (nI t)), .ref 533] sgX6_nextDay_35_1c64cd rfl ?_
        refine sv_iast hF 33 (by decide) ⟨rfl, rfl, by decide⟩ ((401 * j) + t) (am_ad (am_mu rfl rfl) rfl) (show (401 * j) + t < 4010 by omega) dX6_nextDay_40 ?_
        refine am_go hF sgX6_nextDay_41_3abcf 2 [(1, .int ((nI j) + 1)), (2, .int ((401 * (nI j)) + (nI t))), (0, .ref 465)] [] sgX6_nextDay_41_3abcfd rfl ?_
        refine am_drop [2, 0] [(0, .ref 465), (1, .int ((nI j) + 1))] rfl ?_
        refine am_eqL [(0, .ref 465), (1, .int (nI (j + 1)))] (by rw [nI_1]) ?_
        exact ih2 (j + 1) (st1 S1 33 ((401 * j) + t) 1) (by omega) (by show _ = rn1 t j (itN (rn1 t) S j); rw [← hS1]; simp only [rn1, c8, ↓reduceIte])
  exact lp2 n 0 S (by omega) rfl
