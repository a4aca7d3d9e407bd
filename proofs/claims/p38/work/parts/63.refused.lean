/-! the law's refused: a call that throws, by its class -/
def am_WR : Room := { frames := 9, cells := 4, slots := 36, locals := 165 }
theorem dL_refused_1 : decode cL_refused 1 = .ok (.ifCond .ne 14, 3) := by decide +kernel
theorem dL_refused_101 : decode cL_refused 101 = .ok (.invokevirtual 47, 3) := by decide +kernel
theorem dL_refused_110 : decode cL_refused 110 = .ok (.if_icmp .ne 22, 3) := by decide +kernel
theorem dL_refused_118 : decode cL_refused 118 = .ok (.ifCond .ne 7, 3) := by decide +kernel
theorem dL_refused_126 : decode cL_refused 126 = .ok (.invokevirtual 50, 3) := by decide +kernel
theorem dL_refused_144 : decode cL_refused 144 = .ok (.astore 5, 2) := by decide +kernel
theorem dL_refused_147 : decode cL_refused 147 = .ok (.ireturn, 1) := by decide +kernel
theorem dL_refused_148 : decode cL_refused 148 = .ok (.astore 5, 2) := by decide +kernel
theorem dL_refused_151 : decode cL_refused 151 = .ok (.ireturn, 1) := by decide +kernel
theorem dL_refused_152 : decode cL_refused 152 = .ok (.astore 5, 2) := by decide +kernel
theorem dL_refused_155 : decode cL_refused 155 = .ok (.ireturn, 1) := by decide +kernel
theorem dL_refused_17 : decode cL_refused 17 = .ok (.if_icmp .ne 12, 3) := by decide +kernel
theorem dL_refused_23 : decode cL_refused 23 = .ok (.invokevirtual 29, 3) := by decide +kernel
theorem dL_refused_31 : decode cL_refused 31 = .ok (.if_icmp .ne 14, 3) := by decide +kernel
theorem dL_refused_39 : decode cL_refused 39 = .ok (.invokevirtual 33, 3) := by decide +kernel
theorem dL_refused_47 : decode cL_refused 47 = .ok (.if_icmp .ne 20, 3) := by decide +kernel
theorem dL_refused_53 : decode cL_refused 53 = .ok (.invokevirtual 36, 3) := by decide +kernel
theorem dL_refused_69 : decode cL_refused 69 = .ok (.if_icmp .ne 11, 3) := by decide +kernel
theorem dL_refused_74 : decode cL_refused 74 = .ok (.invokevirtual 40, 3) := by decide +kernel
theorem dL_refused_82 : decode cL_refused 82 = .ok (.if_icmp .ne 11, 3) := by decide +kernel
theorem dL_refused_87 : decode cL_refused 87 = .ok (.invokevirtual 44, 3) := by decide +kernel
theorem dL_refused_9 : decode cL_refused 9 = .ok (.invokevirtual 23, 3) := by decide +kernel
theorem dL_refused_96 : decode cL_refused 96 = .ok (.if_icmp .ne 11, 3) := by decide +kernel
def sgL_refused_0_840bf : List Instr := [.iload_n 1]
theorem sgL_refused_0_840bfd : am_dec cL_refused 0 sgL_refused_0_840bf = true := by decide +kernel
def sgL_refused_107_583e2 : List Instr := [.iload_n 1, .bipush 7]
theorem sgL_refused_107_583e2d : am_dec cL_refused 107 sgL_refused_107_583e2 = true := by decide +kernel
def sgL_refused_113_8ce98 : List Instr := [.aload_n 0, .iload_n 2, .iload_n 3, .iload 4]
theorem sgL_refused_113_8ce98d : am_dec cL_refused 113 sgL_refused_113_8ce98 = true := by decide +kernel
def sgL_refused_121_1c64c : List Instr := [.iconst 1, .goto 4]
theorem sgL_refused_121_1c64cd : am_dec cL_refused 121 sgL_refused_121_1c64c = true := by decide +kernel
def sgL_refused_125_56c54 : List Instr := [.iconst 0]
theorem sgL_refused_125_56c54d : am_dec cL_refused 125 sgL_refused_125_56c54 = true := by decide +kernel
def sgL_refused_146_4de0a : List Instr := [.iconst 1]
theorem sgL_refused_146_4de0ad : am_dec cL_refused 146 sgL_refused_146_4de0a = true := by decide +kernel
def sgL_refused_150_d5620 : List Instr := [.iconst 2]
theorem sgL_refused_150_d5620d : am_dec cL_refused 150 sgL_refused_150_d5620 = true := by decide +kernel
def sgL_refused_154_800cc : List Instr := [.iconst 3]
theorem sgL_refused_154_800ccd : am_dec cL_refused 154 sgL_refused_154_800cc = true := by decide +kernel
def sgL_refused_15_d3633 : List Instr := [.iload_n 1, .iconst 1]
theorem sgL_refused_15_d3633d : am_dec cL_refused 15 sgL_refused_15_d3633 = true := by decide +kernel
def sgL_refused_20_3f991 : List Instr := [.aload_n 0, .iload_n 2, .iload_n 3]
theorem sgL_refused_20_3f991d : am_dec cL_refused 20 sgL_refused_20_3f991 = true := by decide +kernel
def sgL_refused_29_0f95e : List Instr := [.iload_n 1, .iconst 2]
theorem sgL_refused_29_0f95ed : am_dec cL_refused 29 sgL_refused_29_0f95e = true := by decide +kernel
def sgL_refused_34_8ce98 : List Instr := [.aload_n 0, .iload_n 2, .iload_n 3, .iload 4]
theorem sgL_refused_34_8ce98d : am_dec cL_refused 34 sgL_refused_34_8ce98 = true := by decide +kernel
def sgL_refused_45_68563 : List Instr := [.iload_n 1, .iconst 3]
theorem sgL_refused_45_68563d : am_dec cL_refused 45 sgL_refused_45_68563 = true := by decide +kernel
def sgL_refused_4_8ce98 : List Instr := [.aload_n 0, .iload_n 2, .iload_n 3, .iload 4]
theorem sgL_refused_4_8ce98d : am_dec cL_refused 4 sgL_refused_4_8ce98 = true := by decide +kernel
def sgL_refused_50_3f991 : List Instr := [.aload_n 0, .iload_n 2, .iload_n 3]
theorem sgL_refused_50_3f991d : am_dec cL_refused 50 sgL_refused_50_3f991 = true := by decide +kernel
def sgL_refused_67_e3185 : List Instr := [.iload_n 1, .iconst 4]
theorem sgL_refused_67_e3185d : am_dec cL_refused 67 sgL_refused_67_e3185 = true := by decide +kernel
def sgL_refused_72_78e74 : List Instr := [.aload_n 0, .iload_n 2]
theorem sgL_refused_72_78e74d : am_dec cL_refused 72 sgL_refused_72_78e74 = true := by decide +kernel
def sgL_refused_80_4e6bc : List Instr := [.iload_n 1, .iconst 5]
theorem sgL_refused_80_4e6bcd : am_dec cL_refused 80 sgL_refused_80_4e6bc = true := by decide +kernel
def sgL_refused_85_78e74 : List Instr := [.aload_n 0, .iload_n 2]
theorem sgL_refused_85_78e74d : am_dec cL_refused 85 sgL_refused_85_78e74 = true := by decide +kernel
def sgL_refused_93_2aefd : List Instr := [.iload_n 1, .bipush 6]
theorem sgL_refused_93_2aefdd : am_dec cL_refused 93 sgL_refused_93_2aefd = true := by decide +kernel
def sgL_refused_99_78e74 : List Instr := [.aload_n 0, .iload_n 2]
theorem sgL_refused_99_78e74d : am_dec cL_refused 99 sgL_refused_99_78e74 = true := by decide +kernel
set_option maxRecDepth 100000 in
set_option maxHeartbeats 4000000 in
theorem w_join_3 {G : am_S} {T S : am_T} {o : Nat → Int64} {x y z : Int32} {rm : Room} (hrm : rm.frames ≤ 8 ∧ rm.cells ≤ 4 ∧ rm.slots ≤ 36 ∧ rm.locals ≤ 136) (hB : am_XD G yX5_join (.code yX5_join cX5_join 5 (some .int) :: am_G) rm (hp T S o) [.ref 0, .int x, .int y, .int z] am_E2) : am_D G yL_refused (.codeWith yL_refused cL_refused 6 (some .int) [(0, 143, 144, 58), (0, 143, 148, 60), (0, 143, 152, 62)] :: am_G) am_WR (hp T S o) [.ref 0, .int 0, .int x, .int y, .int z] (hp T S o) (some (.int 3)) := by
  refine am_ofT (by decide +kernel) (Nat.le_of_ble_eq_true rfl) ?_
  intro C hse hret hxt hF hO
  subst hse
  refine am_go hF sgL_refused_0_840bf 1 [(0, .ref 0), (1, .int 0), (2, .int x), (3, .int y), (4, .int z)] [.int 0] sgL_refused_0_840bfd rfl ?_
  refine am_ifne hF 15 dL_refused_1 (by decide) (fun h9 => False.elim (by revert h9; decide)) (fun _ => ?_)
  refine am_go hF sgL_refused_4_8ce98 9 [(0, .ref 0), (1, .int 0), (2, .int x), (3, .int y), (4, .int z)] [.int z, .int y, .int x, .ref 0] sgL_refused_4_8ce98d rfl ?_
  refine am_xT hF hO [.int x, .int y, .int z] [] (hB) myX5_join vyX5_join lm_RL_23 (hp_main _ _ _) rfl rfl 4 36 ⟨by show _ ≤ 9; omega, by show 8 + (5 + 11) + _ ≤ 165; omega⟩ ⟨by omega, by omega, Nat.le_refl 4, Nat.le_refl 36⟩ rfl (Nat.le_of_ble_eq_true rfl) dL_refused_9 [⟨0, 143, 144, 58⟩, ⟨0, 143, 148, 60⟩] ⟨0, 143, 152, 62⟩ [] (hxt.trans rfl) (fun z hz => by
    simp only [List.mem_cons, List.not_mem_nil, or_false] at hz
    rcases hz with rfl | rfl
    · exact Or.inr ⟨(by decide : (58 : Nat) ≠ 0), "java/lang/IndexOutOfBoundsException", lc_RL_58, by decide⟩
    · exact Or.inr ⟨(by decide : (60 : Nat) ≠ 0), "java/lang/IllegalArgumentException", lc_RL_60, by decide⟩) (by decide) (by decide) lc_RL_62 (by decide) 5 (by decide) 2 (Or.inr ⟨rfl, dL_refused_152⟩) ?_
  refine am_go hF sgL_refused_154_800cc 155 [] [.int 3] sgL_refused_154_800ccd rfl ?_
  exact am_iret hF hO hret rfl dL_refused_155 ⟨rfl, rfl⟩
set_option maxRecDepth 100000 in
set_option maxHeartbeats 4000000 in
theorem w_leave_3 {G : am_S} {T S : am_T} {o : Nat → Int64} {x y z : Int32} {rm : Room} (hrm : rm.frames ≤ 8 ∧ rm.cells ≤ 4 ∧ rm.slots ≤ 36 ∧ rm.locals ≤ 136) (hB : am_XD G yX5_leave (.code yX5_leave cX5_leave 5 (some .int) :: am_G) rm (hp T S o) [.ref 0, .int x, .int y] am_E2) : am_D G yL_refused (.codeWith yL_refused cL_refused 6 (some .int) [(0, 143, 144, 58), (0, 143, 148, 60), (0, 143, 152, 62)] :: am_G) am_WR (hp T S o) [.ref 0, .int 1, .int x, .int y, .int z] (hp T S o) (some (.int 3)) := by
  refine am_ofT (by decide +kernel) (Nat.le_of_ble_eq_true rfl) ?_
  intro C hse hret hxt hF hO
  subst hse
  refine am_go hF sgL_refused_0_840bf 1 [(0, .ref 0), (1, .int 1), (2, .int x), (3, .int y), (4, .int z)] [.int 1] sgL_refused_0_840bfd rfl ?_
  refine am_ifne hF 15 dL_refused_1 (by decide) (fun _ => ?_) (fun h9 => False.elim (by revert h9; decide))
  refine am_go hF sgL_refused_15_d3633 17 [(0, .ref 0), (1, .int 1), (2, .int x), (3, .int y), (4, .int z)] [.int 1, .int 1] sgL_refused_15_d3633d rfl ?_
  refine am_icmpne hF 29 dL_refused_17 (by decide) (fun h9 => False.elim (absurd rfl h9)) (fun _ => ?_)
  refine am_go hF sgL_refused_20_3f991 23 [(0, .ref 0), (1, .int 1), (2, .int x), (3, .int y), (4, .int z)] [.int y, .int x, .ref 0] sgL_refused_20_3f991d rfl ?_
  refine am_xT hF hO [.int x, .int y] [] (hB) myX5_leave vyX5_leave lm_RL_29 (hp_main _ _ _) rfl rfl 4 36 ⟨by show _ ≤ 9; omega, by show 8 + (5 + 11) + _ ≤ 165; omega⟩ ⟨by omega, by omega, Nat.le_refl 4, Nat.le_refl 36⟩ rfl (Nat.le_of_ble_eq_true rfl) dL_refused_23 [⟨0, 143, 144, 58⟩, ⟨0, 143, 148, 60⟩] ⟨0, 143, 152, 62⟩ [] (hxt.trans rfl) (fun z hz => by
    simp only [List.mem_cons, List.not_mem_nil, or_false] at hz
    rcases hz with rfl | rfl
    · exact Or.inr ⟨(by decide : (58 : Nat) ≠ 0), "java/lang/IndexOutOfBoundsException", lc_RL_58, by decide⟩
    · exact Or.inr ⟨(by decide : (60 : Nat) ≠ 0), "java/lang/IllegalArgumentException", lc_RL_60, by decide⟩) (by decide) (by decide) lc_RL_62 (by decide) 5 (by decide) 2 (Or.inr ⟨rfl, dL_refused_152⟩) ?_
  refine am_go hF sgL_refused_154_800cc 155 [] [.int 3] sgL_refused_154_800ccd rfl ?_
  exact am_iret hF hO hret rfl dL_refused_155 ⟨rfl, rfl⟩
set_option maxRecDepth 100000 in
set_option maxHeartbeats 4000000 in
theorem w_mode_3 {G : am_S} {T S : am_T} {o : Nat → Int64} {x y z : Int32} {rm : Room} (hrm : rm.frames ≤ 8 ∧ rm.cells ≤ 4 ∧ rm.slots ≤ 36 ∧ rm.locals ≤ 136) (hB : am_XD G yX5_mode (.code yX5_mode cX5_mode 6 (some .int) :: am_G) rm (hp T S o) [.ref 0, .int x, .int y, .int z] am_E2) : am_D G yL_refused (.codeWith yL_refused cL_refused 6 (some .int) [(0, 143, 144, 58), (0, 143, 148, 60), (0, 143, 152, 62)] :: am_G) am_WR (hp T S o) [.ref 0, .int 2, .int x, .int y, .int z] (hp T S o) (some (.int 3)) := by
  refine am_ofT (by decide +kernel) (Nat.le_of_ble_eq_true rfl) ?_
  intro C hse hret hxt hF hO
  subst hse
  refine am_go hF sgL_refused_0_840bf 1 [(0, .ref 0), (1, .int 2), (2, .int x), (3, .int y), (4, .int z)] [.int 2] sgL_refused_0_840bfd rfl ?_
  refine am_ifne hF 15 dL_refused_1 (by decide) (fun _ => ?_) (fun h9 => False.elim (by revert h9; decide))
  refine am_go hF sgL_refused_15_d3633 17 [(0, .ref 0), (1, .int 2), (2, .int x), (3, .int y), (4, .int z)] [.int 1, .int 2] sgL_refused_15_d3633d rfl ?_
  refine am_icmpne hF 29 dL_refused_17 (by decide) (fun _ => ?_) (fun h9 => False.elim (by revert h9; decide))
  refine am_go hF sgL_refused_29_0f95e 31 [(0, .ref 0), (1, .int 2), (2, .int x), (3, .int y), (4, .int z)] [.int 2, .int 2] sgL_refused_29_0f95ed rfl ?_
  refine am_icmpne hF 45 dL_refused_31 (by decide) (fun h9 => False.elim (absurd rfl h9)) (fun _ => ?_)
  refine am_go hF sgL_refused_34_8ce98 39 [(0, .ref 0), (1, .int 2), (2, .int x), (3, .int y), (4, .int z)] [.int z, .int y, .int x, .ref 0] sgL_refused_34_8ce98d rfl ?_
  refine am_xT hF hO [.int x, .int y, .int z] [] (hB) myX5_mode vyX5_mode lm_RL_33 (hp_main _ _ _) rfl rfl 4 36 ⟨by show _ ≤ 9; omega, by show 8 + (6 + 11) + _ ≤ 165; omega⟩ ⟨by omega, by omega, Nat.le_refl 4, Nat.le_refl 36⟩ rfl (Nat.le_of_ble_eq_true rfl) dL_refused_39 [⟨0, 143, 144, 58⟩, ⟨0, 143, 148, 60⟩] ⟨0, 143, 152, 62⟩ [] (hxt.trans rfl) (fun z hz => by
    simp only [List.mem_cons, List.not_mem_nil, or_false] at hz
    rcases hz with rfl | rfl
    · exact Or.inr ⟨(by decide : (58 : Nat) ≠ 0), "java/lang/IndexOutOfBoundsException", lc_RL_58, by decide⟩
    · exact Or.inr ⟨(by decide : (60 : Nat) ≠ 0), "java/lang/IllegalArgumentException", lc_RL_60, by decide⟩) (by decide) (by decide) lc_RL_62 (by decide) 5 (by decide) 2 (Or.inr ⟨rfl, dL_refused_152⟩) ?_
  refine am_go hF sgL_refused_154_800cc 155 [] [.int 3] sgL_refused_154_800ccd rfl ?_
  exact am_iret hF hO hret rfl dL_refused_155 ⟨rfl, rfl⟩
set_option maxRecDepth 100000 in
set_option maxHeartbeats 4000000 in
theorem w_nest_2 {G : am_S} {T S : am_T} {o : Nat → Int64} {x y z : Int32} {rm : Room} (hrm : rm.frames ≤ 8 ∧ rm.cells ≤ 4 ∧ rm.slots ≤ 36 ∧ rm.locals ≤ 136) (hB : am_XD G yX5_nest (.code yX5_nest cX5_nest 5 (some .boolean) :: am_G) rm (hp T S o) [.ref 0, .int x, .int y] am_E3) : am_D G yL_refused (.codeWith yL_refused cL_refused 6 (some .int) [(0, 143, 144, 58), (0, 143, 148, 60), (0, 143, 152, 62)] :: am_G) am_WR (hp T S o) [.ref 0, .int 3, .int x, .int y, .int z] (hp T S o) (some (.int 2)) := by
  refine am_ofT (by decide +kernel) (Nat.le_of_ble_eq_true rfl) ?_
  intro C hse hret hxt hF hO
  subst hse
  refine am_go hF sgL_refused_0_840bf 1 [(0, .ref 0), (1, .int 3), (2, .int x), (3, .int y), (4, .int z)] [.int 3] sgL_refused_0_840bfd rfl ?_
  refine am_ifne hF 15 dL_refused_1 (by decide) (fun _ => ?_) (fun h9 => False.elim (by revert h9; decide))
  refine am_go hF sgL_refused_15_d3633 17 [(0, .ref 0), (1, .int 3), (2, .int x), (3, .int y), (4, .int z)] [.int 1, .int 3] sgL_refused_15_d3633d rfl ?_
  refine am_icmpne hF 29 dL_refused_17 (by decide) (fun _ => ?_) (fun h9 => False.elim (by revert h9; decide))
  refine am_go hF sgL_refused_29_0f95e 31 [(0, .ref 0), (1, .int 3), (2, .int x), (3, .int y), (4, .int z)] [.int 2, .int 3] sgL_refused_29_0f95ed rfl ?_
  refine am_icmpne hF 45 dL_refused_31 (by decide) (fun _ => ?_) (fun h9 => False.elim (by revert h9; decide))
  refine am_go hF sgL_refused_45_68563 47 [(0, .ref 0), (1, .int 3), (2, .int x), (3, .int y), (4, .int z)] [.int 3, .int 3] sgL_refused_45_68563d rfl ?_
  refine am_icmpne hF 67 dL_refused_47 (by decide) (fun h9 => False.elim (absurd rfl h9)) (fun _ => ?_)
  refine am_go hF sgL_refused_50_3f991 53 [(0, .ref 0), (1, .int 3), (2, .int x), (3, .int y), (4, .int z)] [.int y, .int x, .ref 0] sgL_refused_50_3f991d rfl ?_
  refine am_xT hF hO [.int x, .int y] [] (hB) myX5_nest vyX5_nest lm_RL_36 (hp_main _ _ _) rfl rfl 4 36 ⟨by show _ ≤ 9; omega, by show 8 + (5 + 11) + _ ≤ 165; omega⟩ ⟨by omega, by omega, Nat.le_refl 4, Nat.le_refl 36⟩ rfl (Nat.le_of_ble_eq_true rfl) dL_refused_53 [⟨0, 143, 144, 58⟩] ⟨0, 143, 148, 60⟩ [⟨0, 143, 152, 62⟩] (hxt.trans rfl) (fun z hz => by
    simp only [List.mem_cons, List.not_mem_nil, or_false] at hz
    rcases hz with rfl
    · exact Or.inr ⟨(by decide : (58 : Nat) ≠ 0), "java/lang/IndexOutOfBoundsException", lc_RL_58, by decide⟩) (by decide) (by decide) lc_RL_60 (by decide) 5 (by decide) 2 (Or.inr ⟨rfl, dL_refused_148⟩) ?_
  refine am_go hF sgL_refused_150_d5620 151 [] [.int 2] sgL_refused_150_d5620d rfl ?_
  exact am_iret hF hO hret rfl dL_refused_151 ⟨rfl, rfl⟩
set_option maxRecDepth 100000 in
set_option maxHeartbeats 4000000 in
theorem w_approve_1 {G : am_S} {T S : am_T} {o : Nat → Int64} {x y z : Int32} {rm : Room} (hrm : rm.frames ≤ 8 ∧ rm.cells ≤ 4 ∧ rm.slots ≤ 36 ∧ rm.locals ≤ 136) (hB : am_XD G yX5_approve (.code yX5_approve cX5_approve 3 (some .int) :: am_G) rm (hp T S o) [.ref 0, .int x] am_E1) : am_D G yL_refused (.codeWith yL_refused cL_refused 6 (some .int) [(0, 143, 144, 58), (0, 143, 148, 60), (0, 143, 152, 62)] :: am_G) am_WR (hp T S o) [.ref 0, .int 4, .int x, .int y, .int z] (hp T S o) (some (.int 1)) := by
  refine am_ofT (by decide +kernel) (Nat.le_of_ble_eq_true rfl) ?_
  intro C hse hret hxt hF hO
  subst hse
  refine am_go hF sgL_refused_0_840bf 1 [(0, .ref 0), (1, .int 4), (2, .int x), (3, .int y), (4, .int z)] [.int 4] sgL_refused_0_840bfd rfl ?_
  refine am_ifne hF 15 dL_refused_1 (by decide) (fun _ => ?_) (fun h9 => False.elim (by revert h9; decide))
  refine am_go hF sgL_refused_15_d3633 17 [(0, .ref 0), (1, .int 4), (2, .int x), (3, .int y), (4, .int z)] [.int 1, .int 4] sgL_refused_15_d3633d rfl ?_
  refine am_icmpne hF 29 dL_refused_17 (by decide) (fun _ => ?_) (fun h9 => False.elim (by revert h9; decide))
  refine am_go hF sgL_refused_29_0f95e 31 [(0, .ref 0), (1, .int 4), (2, .int x), (3, .int y), (4, .int z)] [.int 2, .int 4] sgL_refused_29_0f95ed rfl ?_
  refine am_icmpne hF 45 dL_refused_31 (by decide) (fun _ => ?_) (fun h9 => False.elim (by revert h9; decide))
  refine am_go hF sgL_refused_45_68563 47 [(0, .ref 0), (1, .int 4), (2, .int x), (3, .int y), (4, .int z)] [.int 3, .int 4] sgL_refused_45_68563d rfl ?_
  refine am_icmpne hF 67 dL_refused_47 (by decide) (fun _ => ?_) (fun h9 => False.elim (by revert h9; decide))
  refine am_go hF sgL_refused_67_e3185 69 [(0, .ref 0), (1, .int 4), (2, .int x), (3, .int y), (4, .int z)] [.int 4, .int 4] sgL_refused_67_e3185d rfl ?_
  refine am_icmpne hF 80 dL_refused_69 (by decide) (fun h9 => False.elim (absurd rfl h9)) (fun _ => ?_)
  refine am_go hF sgL_refused_72_78e74 74 [(0, .ref 0), (1, .int 4), (2, .int x), (3, .int y), (4, .int z)] [.int x, .ref 0] sgL_refused_72_78e74d rfl ?_
  refine am_xT hF hO [.int x] [] (hB) myX5_approve vyX5_approve lm_RL_40 (hp_main _ _ _) rfl rfl 4 36 ⟨by show _ ≤ 9; omega, by show 8 + (3 + 11) + _ ≤ 165; omega⟩ ⟨by omega, by omega, Nat.le_refl 4, Nat.le_refl 36⟩ rfl (Nat.le_of_ble_eq_true rfl) dL_refused_74 [] ⟨0, 143, 144, 58⟩ [⟨0, 143, 148, 60⟩, ⟨0, 143, 152, 62⟩] (hxt.trans rfl) (fun z hz => nomatch hz) (by decide) (by decide) lc_RL_58 (by decide) 5 (by decide) 2 (Or.inr ⟨rfl, dL_refused_144⟩) ?_
  refine am_go hF sgL_refused_146_4de0a 147 [] [.int 1] sgL_refused_146_4de0ad rfl ?_
  exact am_iret hF hO hret rfl dL_refused_147 ⟨rfl, rfl⟩
set_option maxRecDepth 100000 in
set_option maxHeartbeats 4000000 in
theorem w_approve_3 {G : am_S} {T S : am_T} {o : Nat → Int64} {x y z : Int32} {rm : Room} (hrm : rm.frames ≤ 8 ∧ rm.cells ≤ 4 ∧ rm.slots ≤ 36 ∧ rm.locals ≤ 136) (hB : am_XD G yX5_approve (.code yX5_approve cX5_approve 3 (some .int) :: am_G) rm (hp T S o) [.ref 0, .int x] am_E2) : am_D G yL_refused (.codeWith yL_refused cL_refused 6 (some .int) [(0, 143, 144, 58), (0, 143, 148, 60), (0, 143, 152, 62)] :: am_G) am_WR (hp T S o) [.ref 0, .int 4, .int x, .int y, .int z] (hp T S o) (some (.int 3)) := by
  refine am_ofT (by decide +kernel) (Nat.le_of_ble_eq_true rfl) ?_
  intro C hse hret hxt hF hO
  subst hse
  refine am_go hF sgL_refused_0_840bf 1 [(0, .ref 0), (1, .int 4), (2, .int x), (3, .int y), (4, .int z)] [.int 4] sgL_refused_0_840bfd rfl ?_
  refine am_ifne hF 15 dL_refused_1 (by decide) (fun _ => ?_) (fun h9 => False.elim (by revert h9; decide))
  refine am_go hF sgL_refused_15_d3633 17 [(0, .ref 0), (1, .int 4), (2, .int x), (3, .int y), (4, .int z)] [.int 1, .int 4] sgL_refused_15_d3633d rfl ?_
  refine am_icmpne hF 29 dL_refused_17 (by decide) (fun _ => ?_) (fun h9 => False.elim (by revert h9; decide))
  refine am_go hF sgL_refused_29_0f95e 31 [(0, .ref 0), (1, .int 4), (2, .int x), (3, .int y), (4, .int z)] [.int 2, .int 4] sgL_refused_29_0f95ed rfl ?_
  refine am_icmpne hF 45 dL_refused_31 (by decide) (fun _ => ?_) (fun h9 => False.elim (by revert h9; decide))
  refine am_go hF sgL_refused_45_68563 47 [(0, .ref 0), (1, .int 4), (2, .int x), (3, .int y), (4, .int z)] [.int 3, .int 4] sgL_refused_45_68563d rfl ?_
  refine am_icmpne hF 67 dL_refused_47 (by decide) (fun _ => ?_) (fun h9 => False.elim (by revert h9; decide))
  refine am_go hF sgL_refused_67_e3185 69 [(0, .ref 0), (1, .int 4), (2, .int x), (3, .int y), (4, .int z)] [.int 4, .int 4] sgL_refused_67_e3185d rfl ?_
  refine am_icmpne hF 80 dL_refused_69 (by decide) (fun h9 => False.elim (absurd rfl h9)) (fun _ => ?_)
  refine am_go hF sgL_refused_72_78e74 74 [(0, .ref 0), (1, .int 4), (2, .int x), (3, .int y), (4, .int z)] [.int x, .ref 0] sgL_refused_72_78e74d rfl ?_
  refine am_xT hF hO [.int x] [] (hB) myX5_approve vyX5_approve lm_RL_40 (hp_main _ _ _) rfl rfl 4 36 ⟨by show _ ≤ 9; omega, by show 8 + (3 + 11) + _ ≤ 165; omega⟩ ⟨by omega, by omega, Nat.le_refl 4, Nat.le_refl 36⟩ rfl (Nat.le_of_ble_eq_true rfl) dL_refused_74 [⟨0, 143, 144, 58⟩, ⟨0, 143, 148, 60⟩] ⟨0, 143, 152, 62⟩ [] (hxt.trans rfl) (fun z hz => by
    simp only [List.mem_cons, List.not_mem_nil, or_false] at hz
    rcases hz with rfl | rfl
    · exact Or.inr ⟨(by decide : (58 : Nat) ≠ 0), "java/lang/IndexOutOfBoundsException", lc_RL_58, by decide⟩
    · exact Or.inr ⟨(by decide : (60 : Nat) ≠ 0), "java/lang/IllegalArgumentException", lc_RL_60, by decide⟩) (by decide) (by decide) lc_RL_62 (by decide) 5 (by decide) 2 (Or.inr ⟨rfl, dL_refused_152⟩) ?_
  refine am_go hF sgL_refused_154_800cc 155 [] [.int 3] sgL_refused_154_800ccd rfl ?_
  exact am_iret hF hO hret rfl dL_refused_155 ⟨rfl, rfl⟩
set_option maxRecDepth 100000 in
set_option maxHeartbeats 4000000 in
theorem w_refuse_1 {G : am_S} {T S : am_T} {o : Nat → Int64} {x y z : Int32} {rm : Room} (hrm : rm.frames ≤ 8 ∧ rm.cells ≤ 4 ∧ rm.slots ≤ 36 ∧ rm.locals ≤ 136) (hB : am_XD G yX5_refuse (.code yX5_refuse cX5_refuse 3 (some .int) :: am_G) rm (hp T S o) [.ref 0, .int x] am_E1) : am_D G yL_refused (.codeWith yL_refused cL_refused 6 (some .int) [(0, 143, 144, 58), (0, 143, 148, 60), (0, 143, 152, 62)] :: am_G) am_WR (hp T S o) [.ref 0, .int 5, .int x, .int y, .int z] (hp T S o) (some (.int 1)) := by
  refine am_ofT (by decide +kernel) (Nat.le_of_ble_eq_true rfl) ?_
  intro C hse hret hxt hF hO
  subst hse
  refine am_go hF sgL_refused_0_840bf 1 [(0, .ref 0), (1, .int 5), (2, .int x), (3, .int y), (4, .int z)] [.int 5] sgL_refused_0_840bfd rfl ?_
  refine am_ifne hF 15 dL_refused_1 (by decide) (fun _ => ?_) (fun h9 => False.elim (by revert h9; decide))
  refine am_go hF sgL_refused_15_d3633 17 [(0, .ref 0), (1, .int 5), (2, .int x), (3, .int y), (4, .int z)] [.int 1, .int 5] sgL_refused_15_d3633d rfl ?_
  refine am_icmpne hF 29 dL_refused_17 (by decide) (fun _ => ?_) (fun h9 => False.elim (by revert h9; decide))
  refine am_go hF sgL_refused_29_0f95e 31 [(0, .ref 0), (1, .int 5), (2, .int x), (3, .int y), (4, .int z)] [.int 2, .int 5] sgL_refused_29_0f95ed rfl ?_
  refine am_icmpne hF 45 dL_refused_31 (by decide) (fun _ => ?_) (fun h9 => False.elim (by revert h9; decide))
  refine am_go hF sgL_refused_45_68563 47 [(0, .ref 0), (1, .int 5), (2, .int x), (3, .int y), (4, .int z)] [.int 3, .int 5] sgL_refused_45_68563d rfl ?_
  refine am_icmpne hF 67 dL_refused_47 (by decide) (fun _ => ?_) (fun h9 => False.elim (by revert h9; decide))
  refine am_go hF sgL_refused_67_e3185 69 [(0, .ref 0), (1, .int 5), (2, .int x), (3, .int y), (4, .int z)] [.int 4, .int 5] sgL_refused_67_e3185d rfl ?_
  refine am_icmpne hF 80 dL_refused_69 (by decide) (fun _ => ?_) (fun h9 => False.elim (by revert h9; decide))
  refine am_go hF sgL_refused_80_4e6bc 82 [(0, .ref 0), (1, .int 5), (2, .int x), (3, .int y), (4, .int z)] [.int 5, .int 5] sgL_refused_80_4e6bcd rfl ?_
  refine am_icmpne hF 93 dL_refused_82 (by decide) (fun h9 => False.elim (absurd rfl h9)) (fun _ => ?_)
  refine am_go hF sgL_refused_85_78e74 87 [(0, .ref 0), (1, .int 5), (2, .int x), (3, .int y), (4, .int z)] [.int x, .ref 0] sgL_refused_85_78e74d rfl ?_
  refine am_xT hF hO [.int x] [] (hB) myX5_refuse vyX5_refuse lm_RL_44 (hp_main _ _ _) rfl rfl 4 36 ⟨by show _ ≤ 9; omega, by show 8 + (3 + 11) + _ ≤ 165; omega⟩ ⟨by omega, by omega, Nat.le_refl 4, Nat.le_refl 36⟩ rfl (Nat.le_of_ble_eq_true rfl) dL_refused_87 [] ⟨0, 143, 144, 58⟩ [⟨0, 143, 148, 60⟩, ⟨0, 143, 152, 62⟩] (hxt.trans rfl) (fun z hz => nomatch hz) (by decide) (by decide) lc_RL_58 (by decide) 5 (by decide) 2 (Or.inr ⟨rfl, dL_refused_144⟩) ?_
  refine am_go hF sgL_refused_146_4de0a 147 [] [.int 1] sgL_refused_146_4de0ad rfl ?_
  exact am_iret hF hO hret rfl dL_refused_147 ⟨rfl, rfl⟩
set_option maxRecDepth 100000 in
set_option maxHeartbeats 4000000 in
theorem w_refuse_3 {G : am_S} {T S : am_T} {o : Nat → Int64} {x y z : Int32} {rm : Room} (hrm : rm.frames ≤ 8 ∧ rm.cells ≤ 4 ∧ rm.slots ≤ 36 ∧ rm.locals ≤ 136) (hB : am_XD G yX5_refuse (.code yX5_refuse cX5_refuse 3 (some .int) :: am_G) rm (hp T S o) [.ref 0, .int x] am_E2) : am_D G yL_refused (.codeWith yL_refused cL_refused 6 (some .int) [(0, 143, 144, 58), (0, 143, 148, 60), (0, 143, 152, 62)] :: am_G) am_WR (hp T S o) [.ref 0, .int 5, .int x, .int y, .int z] (hp T S o) (some (.int 3)) := by
  refine am_ofT (by decide +kernel) (Nat.le_of_ble_eq_true rfl) ?_
  intro C hse hret hxt hF hO
  subst hse
  refine am_go hF sgL_refused_0_840bf 1 [(0, .ref 0), (1, .int 5), (2, .int x), (3, .int y), (4, .int z)] [.int 5] sgL_refused_0_840bfd rfl ?_
  refine am_ifne hF 15 dL_refused_1 (by decide) (fun _ => ?_) (fun h9 => False.elim (by revert h9; decide))
  refine am_go hF sgL_refused_15_d3633 17 [(0, .ref 0), (1, .int 5), (2, .int x), (3, .int y), (4, .int z)] [.int 1, .int 5] sgL_refused_15_d3633d rfl ?_
  refine am_icmpne hF 29 dL_refused_17 (by decide) (fun _ => ?_) (fun h9 => False.elim (by revert h9; decide))
  refine am_go hF sgL_refused_29_0f95e 31 [(0, .ref 0), (1, .int 5), (2, .int x), (3, .int y), (4, .int z)] [.int 2, .int 5] sgL_refused_29_0f95ed rfl ?_
  refine am_icmpne hF 45 dL_refused_31 (by decide) (fun _ => ?_) (fun h9 => False.elim (by revert h9; decide))
  refine am_go hF sgL_refused_45_68563 47 [(0, .ref 0), (1, .int 5), (2, .int x), (3, .int y), (4, .int z)] [.int 3, .int 5] sgL_refused_45_68563d rfl ?_
  refine am_icmpne hF 67 dL_refused_47 (by decide) (fun _ => ?_) (fun h9 => False.elim (by revert h9; decide))
  refine am_go hF sgL_refused_67_e3185 69 [(0, .ref 0), (1, .int 5), (2, .int x), (3, .int y), (4, .int z)] [.int 4, .int 5] sgL_refused_67_e3185d rfl ?_
  refine am_icmpne hF 80 dL_refused_69 (by decide) (fun _ => ?_) (fun h9 => False.elim (by revert h9; decide))
  refine am_go hF sgL_refused_80_4e6bc 82 [(0, .ref 0), (1, .int 5), (2, .int x), (3, .int y), (4, .int z)] [.int 5, .int 5] sgL_refused_80_4e6bcd rfl ?_
  refine am_icmpne hF 93 dL_refused_82 (by decide) (fun h9 => False.elim (absurd rfl h9)) (fun _ => ?_)
  refine am_go hF sgL_refused_85_78e74 87 [(0, .ref 0), (1, .int 5), (2, .int x), (3, .int y), (4, .int z)] [.int x, .ref 0] sgL_refused_85_78e74d rfl ?_
  refine am_xT hF hO [.int x] [] (hB) myX5_refuse vyX5_refuse lm_RL_44 (hp_main _ _ _) rfl rfl 4 36 ⟨by show _ ≤ 9; omega, by show 8 + (3 + 11) + _ ≤ 165; omega⟩ ⟨by omega, by omega, Nat.le_refl 4, Nat.le_refl 36⟩ rfl (Nat.le_of_ble_eq_true rfl) dL_refused_87 [⟨0, 143, 144, 58⟩, ⟨0, 143, 148, 60⟩] ⟨0, 143, 152, 62⟩ [] (hxt.trans rfl) (fun z hz => by
    simp only [List.mem_cons, List.not_mem_nil, or_false] at hz
    rcases hz with rfl | rfl
    · exact Or.inr ⟨(by decide : (58 : Nat) ≠ 0), "java/lang/IndexOutOfBoundsException", lc_RL_58, by decide⟩
    · exact Or.inr ⟨(by decide : (60 : Nat) ≠ 0), "java/lang/IllegalArgumentException", lc_RL_60, by decide⟩) (by decide) (by decide) lc_RL_62 (by decide) 5 (by decide) 2 (Or.inr ⟨rfl, dL_refused_152⟩) ?_
  refine am_go hF sgL_refused_154_800cc 155 [] [.int 3] sgL_refused_154_800ccd rfl ?_
  exact am_iret hF hO hret rfl dL_refused_155 ⟨rfl, rfl⟩
set_option maxRecDepth 100000 in
set_option maxHeartbeats 4000000 in
theorem w_appeal_1 {G : am_S} {T S : am_T} {o : Nat → Int64} {x y z : Int32} {rm : Room} (hrm : rm.frames ≤ 8 ∧ rm.cells ≤ 4 ∧ rm.slots ≤ 36 ∧ rm.locals ≤ 136) (hB : am_XD G yX5_appeal (.code yX5_appeal cX5_appeal 5 (some .int) :: am_G) rm (hp T S o) [.ref 0, .int x] am_E1) : am_D G yL_refused (.codeWith yL_refused cL_refused 6 (some .int) [(0, 143, 144, 58), (0, 143, 148, 60), (0, 143, 152, 62)] :: am_G) am_WR (hp T S o) [.ref 0, .int 6, .int x, .int y, .int z] (hp T S o) (some (.int 1)) := by
  refine am_ofT (by decide +kernel) (Nat.le_of_ble_eq_true rfl) ?_
  intro C hse hret hxt hF hO
  subst hse
  refine am_go hF sgL_refused_0_840bf 1 [(0, .ref 0), (1, .int 6), (2, .int x), (3, .int y), (4, .int z)] [.int 6] sgL_refused_0_840bfd rfl ?_
  refine am_ifne hF 15 dL_refused_1 (by decide) (fun _ => ?_) (fun h9 => False.elim (by revert h9; decide))
  refine am_go hF sgL_refused_15_d3633 17 [(0, .ref 0), (1, .int 6), (2, .int x), (3, .int y), (4, .int z)] [.int 1, .int 6] sgL_refused_15_d3633d rfl ?_
  refine am_icmpne hF 29 dL_refused_17 (by decide) (fun _ => ?_) (fun h9 => False.elim (by revert h9; decide))
  refine am_go hF sgL_refused_29_0f95e 31 [(0, .ref 0), (1, .int 6), (2, .int x), (3, .int y), (4, .int z)] [.int 2, .int 6] sgL_refused_29_0f95ed rfl ?_
  refine am_icmpne hF 45 dL_refused_31 (by decide) (fun _ => ?_) (fun h9 => False.elim (by revert h9; decide))
  refine am_go hF sgL_refused_45_68563 47 [(0, .ref 0), (1, .int 6), (2, .int x), (3, .int y), (4, .int z)] [.int 3, .int 6] sgL_refused_45_68563d rfl ?_
  refine am_icmpne hF 67 dL_refused_47 (by decide) (fun _ => ?_) (fun h9 => False.elim (by revert h9; decide))
  refine am_go hF sgL_refused_67_e3185 69 [(0, .ref 0), (1, .int 6), (2, .int x), (3, .int y), (4, .int z)] [.int 4, .int 6] sgL_refused_67_e3185d rfl ?_
  refine am_icmpne hF 80 dL_refused_69 (by decide) (fun _ => ?_) (fun h9 => False.elim (by revert h9; decide))
  refine am_go hF sgL_refused_80_4e6bc 82 [(0, .ref 0), (1, .int 6), (2, .int x), (3, .int y), (4, .int z)] [.int 5, .int 6] sgL_refused_80_4e6bcd rfl ?_
  refine am_icmpne hF 93 dL_refused_82 (by decide) (fun _ => ?_) (fun h9 => False.elim (by revert h9; decide))
  refine am_go hF sgL_refused_93_2aefd 96 [(0, .ref 0), (1, .int 6), (2, .int x), (3, .int y), (4, .int z)] [.int 6, .int 6] sgL_refused_93_2aefdd rfl ?_
  refine am_icmpne hF 107 dL_refused_96 (by decide) (fun h9 => False.elim (absurd rfl h9)) (fun _ => ?_)
  refine am_go hF sgL_refused_99_78e74 101 [(0, .ref 0), (1, .int 6), (2, .int x), (3, .int y), (4, .int z)] [.int x, .ref 0] sgL_refused_99_78e74d rfl ?_
  refine am_xT hF hO [.int x] [] (hB) myX5_appeal vyX5_appeal lm_RL_47 (hp_main _ _ _) rfl rfl 4 36 ⟨by show _ ≤ 9; omega, by show 8 + (5 + 11) + _ ≤ 165; omega⟩ ⟨by omega, by omega, Nat.le_refl 4, Nat.le_refl 36⟩ rfl (Nat.le_of_ble_eq_true rfl) dL_refused_101 [] ⟨0, 143, 144, 58⟩ [⟨0, 143, 148, 60⟩, ⟨0, 143, 152, 62⟩] (hxt.trans rfl) (fun z hz => nomatch hz) (by decide) (by decide) lc_RL_58 (by decide) 5 (by decide) 2 (Or.inr ⟨rfl, dL_refused_144⟩) ?_
  refine am_go hF sgL_refused_146_4de0a 147 [] [.int 1] sgL_refused_146_4de0ad rfl ?_
  exact am_iret hF hO hret rfl dL_refused_147 ⟨rfl, rfl⟩
set_option maxRecDepth 100000 in
set_option maxHeartbeats 4000000 in
theorem w_appeal_3 {G : am_S} {T S : am_T} {o : Nat → Int64} {x y z : Int32} {rm : Room} (hrm : rm.frames ≤ 8 ∧ rm.cells ≤ 4 ∧ rm.slots ≤ 36 ∧ rm.locals ≤ 136) (hB : am_XD G yX5_appeal (.code yX5_appeal cX5_appeal 5 (some .int) :: am_G) rm (hp T S o) [.ref 0, .int x] am_E2) : am_D G yL_refused (.codeWith yL_refused cL_refused 6 (some .int) [(0, 143, 144, 58), (0, 143, 148, 60), (0, 143, 152, 62)] :: am_G) am_WR (hp T S o) [.ref 0, .int 6, .int x, .int y, .int z] (hp T S o) (some (.int 3)) := by
  refine am_ofT (by decide +kernel) (Nat.le_of_ble_eq_true rfl) ?_
  intro C hse hret hxt hF hO
  subst hse
  refine am_go hF sgL_refused_0_840bf 1 [(0, .ref 0), (1, .int 6), (2, .int x), (3, .int y), (4, .int z)] [.int 6] sgL_refused_0_840bfd rfl ?_
  refine am_ifne hF 15 dL_refused_1 (by decide) (fun _ => ?_) (fun h9 => False.elim (by revert h9; decide))
  refine am_go hF sgL_refused_15_d3633 17 [(0, .ref 0), (1, .int 6), (2, .int x), (3, .int y), (4, .int z)] [.int 1, .int 6] sgL_refused_15_d3633d rfl ?_
  refine am_icmpne hF 29 dL_refused_17 (by decide) (fun _ => ?_) (fun h9 => False.elim (by revert h9; decide))
  refine am_go hF sgL_refused_29_0f95e 31 [(0, .ref 0), (1, .int 6), (2, .int x), (3, .int y), (4, .int z)] [.int 2, .int 6] sgL_refused_29_0f95ed rfl ?_
  refine am_icmpne hF 45 dL_refused_31 (by decide) (fun _ => ?_) (fun h9 => False.elim (by revert h9; decide))
  refine am_go hF sgL_refused_45_68563 47 [(0, .ref 0), (1, .int 6), (2, .int x), (3, .int y), (4, .int z)] [.int 3, .int 6] sgL_refused_45_68563d rfl ?_
  refine am_icmpne hF 67 dL_refused_47 (by decide) (fun _ => ?_) (fun h9 => False.elim (by revert h9; decide))
  refine am_go hF sgL_refused_67_e3185 69 [(0, .ref 0), (1, .int 6), (2, .int x), (3, .int y), (4, .int z)] [.int 4, .int 6] sgL_refused_67_e3185d rfl ?_
  refine am_icmpne hF 80 dL_refused_69 (by decide) (fun _ => ?_) (fun h9 => False.elim (by revert h9; decide))
  refine am_go hF sgL_refused_80_4e6bc 82 [(0, .ref 0), (1, .int 6), (2, .int x), (3, .int y), (4, .int z)] [.int 5, .int 6] sgL_refused_80_4e6bcd rfl ?_
  refine am_icmpne hF 93 dL_refused_82 (by decide) (fun _ => ?_) (fun h9 => False.elim (by revert h9; decide))
  refine am_go hF sgL_refused_93_2aefd 96 [(0, .ref 0), (1, .int 6), (2, .int x), (3, .int y), (4, .int z)] [.int 6, .int 6] sgL_refused_93_2aefdd rfl ?_
  refine am_icmpne hF 107 dL_refused_96 (by decide) (fun h9 => False.elim (absurd rfl h9)) (fun _ => ?_)
  refine am_go hF sgL_refused_99_78e74 101 [(0, .ref 0), (1, .int 6), (2, .int x), (3, .int y), (4, .int z)] [.int x, .ref 0] sgL_refused_99_78e74d rfl ?_
  refine am_xT hF hO [.int x] [] (hB) myX5_appeal vyX5_appeal lm_RL_47 (hp_main _ _ _) rfl rfl 4 36 ⟨by show _ ≤ 9; omega, by show 8 + (5 + 11) + _ ≤ 165; omega⟩ ⟨by omega, by omega, Nat.le_refl 4, Nat.le_refl 36⟩ rfl (Nat.le_of_ble_eq_true rfl) dL_refused_101 [⟨0, 143, 144, 58⟩, ⟨0, 143, 148, 60⟩] ⟨0, 143, 152, 62⟩ [] (hxt.trans rfl) (fun z hz => by
    simp only [List.mem_cons, List.not_mem_nil, or_false] at hz
    rcases hz with rfl | rfl
    · exact Or.inr ⟨(by decide : (58 : Nat) ≠ 0), "java/lang/IndexOutOfBoundsException", lc_RL_58, by decide⟩
    · exact Or.inr ⟨(by decide : (60 : Nat) ≠ 0), "java/lang/IllegalArgumentException", lc_RL_60, by decide⟩) (by decide) (by decide) lc_RL_62 (by decide) 5 (by decide) 2 (Or.inr ⟨rfl, dL_refused_152⟩) ?_
  refine am_go hF sgL_refused_154_800cc 155 [] [.int 3] sgL_refused_154_800ccd rfl ?_
  exact am_iret hF hO hret rfl dL_refused_155 ⟨rfl, rfl⟩
set_option maxRecDepth 100000 in
set_option maxHeartbeats 4000000 in
theorem w_vote_1 {G : am_S} {T S : am_T} {o : Nat → Int64} {x y z : Int32} {rm : Room} (hrm : rm.frames ≤ 8 ∧ rm.cells ≤ 4 ∧ rm.slots ≤ 36 ∧ rm.locals ≤ 136) (hB : ∀ u : Int32, am_XD G yX5_vote (.code yX5_vote cX5_vote 6 (some .int) :: am_G) rm (hp T S o) [.ref 0, .int x, .int y, .int u] am_E1) : am_D G yL_refused (.codeWith yL_refused cL_refused 6 (some .int) [(0, 143, 144, 58), (0, 143, 148, 60), (0, 143, 152, 62)] :: am_G) am_WR (hp T S o) [.ref 0, .int 7, .int x, .int y, .int z] (hp T S o) (some (.int 1)) := by
  refine am_ofT (by decide +kernel) (Nat.le_of_ble_eq_true rfl) ?_
  intro C hse hret hxt hF hO
  subst hse
  refine am_go hF sgL_refused_0_840bf 1 [(0, .ref 0), (1, .int 7), (2, .int x), (3, .int y), (4, .int z)] [.int 7] sgL_refused_0_840bfd rfl ?_
  refine am_ifne hF 15 dL_refused_1 (by decide) (fun _ => ?_) (fun h9 => False.elim (by revert h9; decide))
  refine am_go hF sgL_refused_15_d3633 17 [(0, .ref 0), (1, .int 7), (2, .int x), (3, .int y), (4, .int z)] [.int 1, .int 7] sgL_refused_15_d3633d rfl ?_
  refine am_icmpne hF 29 dL_refused_17 (by decide) (fun _ => ?_) (fun h9 => False.elim (by revert h9; decide))
  refine am_go hF sgL_refused_29_0f95e 31 [(0, .ref 0), (1, .int 7), (2, .int x), (3, .int y), (4, .int z)] [.int 2, .int 7] sgL_refused_29_0f95ed rfl ?_
  refine am_icmpne hF 45 dL_refused_31 (by decide) (fun _ => ?_) (fun h9 => False.elim (by revert h9; decide))
  refine am_go hF sgL_refused_45_68563 47 [(0, .ref 0), (1, .int 7), (2, .int x), (3, .int y), (4, .int z)] [.int 3, .int 7] sgL_refused_45_68563d rfl ?_
  refine am_icmpne hF 67 dL_refused_47 (by decide) (fun _ => ?_) (fun h9 => False.elim (by revert h9; decide))
  refine am_go hF sgL_refused_67_e3185 69 [(0, .ref 0), (1, .int 7), (2, .int x), (3, .int y), (4, .int z)] [.int 4, .int 7] sgL_refused_67_e3185d rfl ?_
  refine am_icmpne hF 80 dL_refused_69 (by decide) (fun _ => ?_) (fun h9 => False.elim (by revert h9; decide))
  refine am_go hF sgL_refused_80_4e6bc 82 [(0, .ref 0), (1, .int 7), (2, .int x), (3, .int y), (4, .int z)] [.int 5, .int 7] sgL_refused_80_4e6bcd rfl ?_
  refine am_icmpne hF 93 dL_refused_82 (by decide) (fun _ => ?_) (fun h9 => False.elim (by revert h9; decide))
  refine am_go hF sgL_refused_93_2aefd 96 [(0, .ref 0), (1, .int 7), (2, .int x), (3, .int y), (4, .int z)] [.int 6, .int 7] sgL_refused_93_2aefdd rfl ?_
  refine am_icmpne hF 107 dL_refused_96 (by decide) (fun _ => ?_) (fun h9 => False.elim (by revert h9; decide))
  refine am_go hF sgL_refused_107_583e2 110 [(0, .ref 0), (1, .int 7), (2, .int x), (3, .int y), (4, .int z)] [.int 7, .int 7] sgL_refused_107_583e2d rfl ?_
  refine am_icmpne hF 132 dL_refused_110 (by decide) (fun h9 => False.elim (absurd rfl h9)) (fun _ => ?_)
  refine am_go hF sgL_refused_113_8ce98 118 [(0, .ref 0), (1, .int 7), (2, .int x), (3, .int y), (4, .int z)] [.int z, .int y, .int x, .ref 0] sgL_refused_113_8ce98d rfl ?_
  refine am_ifne hF 125 dL_refused_118 (by decide) (fun c1 => ?_) (fun c1 => ?_)
  · skip
    refine am_go hF sgL_refused_125_56c54 126 [(0, .ref 0), (1, .int 7), (2, .int x), (3, .int y), (4, .int z)] [.int 0, .int y, .int x, .ref 0] sgL_refused_125_56c54d rfl ?_
    refine am_xT hF hO [.int x, .int y, .int 0] [] (hB 0) myX5_vote vyX5_vote lm_RL_50 (hp_main _ _ _) rfl rfl 4 36 ⟨by show _ ≤ 9; omega, by show 8 + (6 + 11) + _ ≤ 165; omega⟩ ⟨by omega, by omega, Nat.le_refl 4, Nat.le_refl 36⟩ rfl (Nat.le_of_ble_eq_true rfl) dL_refused_126 [] ⟨0, 143, 144, 58⟩ [⟨0, 143, 148, 60⟩, ⟨0, 143, 152, 62⟩] (hxt.trans rfl) (fun z hz => nomatch hz) (by decide) (by decide) lc_RL_58 (by decide) 5 (by decide) 2 (Or.inr ⟨rfl, dL_refused_144⟩) ?_
    refine am_go hF sgL_refused_146_4de0a 147 [] [.int 1] sgL_refused_146_4de0ad rfl ?_
    exact am_iret hF hO hret rfl dL_refused_147 ⟨rfl, rfl⟩
  · skip
    refine am_go hF sgL_refused_121_1c64c 126 [(0, .ref 0), (1, .int 7), (2, .int x), (3, .int y), (4, .int z)] [.int 1, .int y, .int x, .ref 0] sgL_refused_121_1c64cd rfl ?_
    refine am_xT hF hO [.int x, .int y, .int 1] [] (hB 1) myX5_vote vyX5_vote lm_RL_50 (hp_main _ _ _) rfl rfl 4 36 ⟨by show _ ≤ 9; omega, by show 8 + (6 + 11) + _ ≤ 165; omega⟩ ⟨by omega, by omega, Nat.le_refl 4, Nat.le_refl 36⟩ rfl (Nat.le_of_ble_eq_true rfl) dL_refused_126 [] ⟨0, 143, 144, 58⟩ [⟨0, 143, 148, 60⟩, ⟨0, 143, 152, 62⟩] (hxt.trans rfl) (fun z hz => nomatch hz) (by decide) (by decide) lc_RL_58 (by decide) 5 (by decide) 2 (Or.inr ⟨rfl, dL_refused_144⟩) ?_
    refine am_go hF sgL_refused_146_4de0a 147 [] [.int 1] sgL_refused_146_4de0ad rfl ?_
    exact am_iret hF hO hret rfl dL_refused_147 ⟨rfl, rfl⟩
set_option maxRecDepth 100000 in
set_option maxHeartbeats 4000000 in
theorem w_vote_3 {G : am_S} {T S : am_T} {o : Nat → Int64} {x y z : Int32} {rm : Room} (hrm : rm.frames ≤ 8 ∧ rm.cells ≤ 4 ∧ rm.slots ≤ 36 ∧ rm.locals ≤ 136) (hB : ∀ u : Int32, am_XD G yX5_vote (.code yX5_vote cX5_vote 6 (some .int) :: am_G) rm (hp T S o) [.ref 0, .int x, .int y, .int u] am_E2) : am_D G yL_refused (.codeWith yL_refused cL_refused 6 (some .int) [(0, 143, 144, 58), (0, 143, 148, 60), (0, 143, 152, 62)] :: am_G) am_WR (hp T S o) [.ref 0, .int 7, .int x, .int y, .int z] (hp T S o) (some (.int 3)) := by
  refine am_ofT (by decide +kernel) (Nat.le_of_ble_eq_true rfl) ?_
  intro C hse hret hxt hF hO
  subst hse
  refine am_go hF sgL_refused_0_840bf 1 [(0, .ref 0), (1, .int 7), (2, .int x), (3, .int y), (4, .int z)] [.int 7] sgL_refused_0_840bfd rfl ?_
  refine am_ifne hF 15 dL_refused_1 (by decide) (fun _ => ?_) (fun h9 => False.elim (by revert h9; decide))
  refine am_go hF sgL_refused_15_d3633 17 [(0, .ref 0), (1, .int 7), (2, .int x), (3, .int y), (4, .int z)] [.int 1, .int 7] sgL_refused_15_d3633d rfl ?_
  refine am_icmpne hF 29 dL_refused_17 (by decide) (fun _ => ?_) (fun h9 => False.elim (by revert h9; decide))
  refine am_go hF sgL_refused_29_0f95e 31 [(0, .ref 0), (1, .int 7), (2, .int x), (3, .int y), (4, .int z)] [.int 2, .int 7] sgL_refused_29_0f95ed rfl ?_
  refine am_icmpne hF 45 dL_refused_31 (by decide) (fun _ => ?_) (fun h9 => False.elim (by revert h9; decide))
  refine am_go hF sgL_refused_45_68563 47 [(0, .ref 0), (1, .int 7), (2, .int x), (3, .int y), (4, .int z)] [.int 3, .int 7] sgL_refused_45_68563d rfl ?_
  refine am_icmpne hF 67 dL_refused_47 (by decide) (fun _ => ?_) (fun h9 => False.elim (by revert h9; decide))
  refine am_go hF sgL_refused_67_e3185 69 [(0, .ref 0), (1, .int 7), (2, .int x), (3, .int y), (4, .int z)] [.int 4, .int 7] sgL_refused_67_e3185d rfl ?_
  refine am_icmpne hF 80 dL_refused_69 (by decide) (fun _ => ?_) (fun h9 => False.elim (by revert h9; decide))
  refine am_go hF sgL_refused_80_4e6bc 82 [(0, .ref 0), (1, .int 7), (2, .int x), (3, .int y), (4, .int z)] [.int 5, .int 7] sgL_refused_80_4e6bcd rfl ?_
  refine am_icmpne hF 93 dL_refused_82 (by decide) (fun _ => ?_) (fun h9 => False.elim (by revert h9; decide))
  refine am_go hF sgL_refused_93_2aefd 96 [(0, .ref 0), (1, .int 7), (2, .int x), (3, .int y), (4, .int z)] [.int 6, .int 7] sgL_refused_93_2aefdd rfl ?_
  refine am_icmpne hF 107 dL_refused_96 (by decide) (fun _ => ?_) (fun h9 => False.elim (by revert h9; decide))
  refine am_go hF sgL_refused_107_583e2 110 [(0, .ref 0), (1, .int 7), (2, .int x), (3, .int y), (4, .int z)] [.int 7, .int 7] sgL_refused_107_583e2d rfl ?_
  refine am_icmpne hF 132 dL_refused_110 (by decide) (fun h9 => False.elim (absurd rfl h9)) (fun _ => ?_)
  refine am_go hF sgL_refused_113_8ce98 118 [(0, .ref 0), (1, .int 7), (2, .int x), (3, .int y), (4, .int z)] [.int z, .int y, .int x, .ref 0] sgL_refused_113_8ce98d rfl ?_
  refine am_ifne hF 125 dL_refused_118 (by decide) (fun c1 => ?_) (fun c1 => ?_)
  · skip
    refine am_go hF sgL_refused_125_56c54 126 [(0, .ref 0), (1, .int 7), (2, .int x), (3, .int y), (4, .int z)] [.int 0, .int y, .int x, .ref 0] sgL_refused_125_56c54d rfl ?_
    refine am_xT hF hO [.int x, .int y, .int 0] [] (hB 0) myX5_vote vyX5_vote lm_RL_50 (hp_main _ _ _) rfl rfl 4 36 ⟨by show _ ≤ 9; omega, by show 8 + (6 + 11) + _ ≤ 165; omega⟩ ⟨by omega, by omega, Nat.le_refl 4, Nat.le_refl 36⟩ rfl (Nat.le_of_ble_eq_true rfl) dL_refused_126 [⟨0, 143, 144, 58⟩, ⟨0, 143, 148, 60⟩] ⟨0, 143, 152, 62⟩ [] (hxt.trans rfl) (fun z hz => by
      simp only [List.mem_cons, List.not_mem_nil, or_false] at hz
      rcases hz with rfl | rfl
      · exact Or.inr ⟨(by decide : (58 : Nat) ≠ 0), "java/lang/IndexOutOfBoundsException", lc_RL_58, by decide⟩
      · exact Or.inr ⟨(by decide : (60 : Nat) ≠ 0), "java/lang/IllegalArgumentException", lc_RL_60, by decide⟩) (by decide) (by decide) lc_RL_62 (by decide) 5 (by decide) 2 (Or.inr ⟨rfl, dL_refused_152⟩) ?_
    refine am_go hF sgL_refused_154_800cc 155 [] [.int 3] sgL_refused_154_800ccd rfl ?_
    exact am_iret hF hO hret rfl dL_refused_155 ⟨rfl, rfl⟩
  · skip
    refine am_go hF sgL_refused_121_1c64c 126 [(0, .ref 0), (1, .int 7), (2, .int x), (3, .int y), (4, .int z)] [.int 1, .int y, .int x, .ref 0] sgL_refused_121_1c64cd rfl ?_
    refine am_xT hF hO [.int x, .int y, .int 1] [] (hB 1) myX5_vote vyX5_vote lm_RL_50 (hp_main _ _ _) rfl rfl 4 36 ⟨by show _ ≤ 9; omega, by show 8 + (6 + 11) + _ ≤ 165; omega⟩ ⟨by omega, by omega, Nat.le_refl 4, Nat.le_refl 36⟩ rfl (Nat.le_of_ble_eq_true rfl) dL_refused_126 [⟨0, 143, 144, 58⟩, ⟨0, 143, 148, 60⟩] ⟨0, 143, 152, 62⟩ [] (hxt.trans rfl) (fun z hz => by
      simp only [List.mem_cons, List.not_mem_nil, or_false] at hz
      rcases hz with rfl | rfl
      · exact Or.inr ⟨(by decide : (58 : Nat) ≠ 0), "java/lang/IndexOutOfBoundsException", lc_RL_58, by decide⟩
      · exact Or.inr ⟨(by decide : (60 : Nat) ≠ 0), "java/lang/IllegalArgumentException", lc_RL_60, by decide⟩) (by decide) (by decide) lc_RL_62 (by decide) 5 (by decide) 2 (Or.inr ⟨rfl, dL_refused_152⟩) ?_
    refine am_go hF sgL_refused_154_800cc 155 [] [.int 3] sgL_refused_154_800ccd rfl ?_
    exact am_iret hF hO hret rfl dL_refused_155 ⟨rfl, rfl⟩
