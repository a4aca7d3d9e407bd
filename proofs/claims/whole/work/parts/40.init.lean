/-! constructors of the class and of the reference -/
def T0 : am_T := fun _ _ => 0
def hX0 : am_H := fun i => if i < 464 then hpC T0 i else none
def hI (j : Nat) : am_H := fun i => if i = 1 then some (am_q (fun p => if p < j then some (16 + p) else none) 16 2) else if (16 + j ≤ i ∧ i < 32) ∨ (32 + j ≤ i ∧ i < 48) then none else hX0 i
theorem tN0 (f : Nat) : tN T0 f = 0 := rfl
theorem hX0_none {i : Nat} (h : 48 ≤ i) : hX0 i = none := by
  unfold hX0
  by_cases h4 : i < 464
  · rw [if_pos h4]
    unfold hpC
    rw [if_neg (by omega), if_neg (by omega), if_neg (by omega)]
    by_cases a1 : i < 64
    · rw [if_pos a1, tN0, if_neg (by omega)]
    rw [if_neg a1]
    by_cases a2 : i < 144
    · rw [if_pos a2, tN0, if_neg (by omega)]
    rw [if_neg a2]
    by_cases a3 : i < 224
    · rw [if_pos a3, if_neg (show ¬ T0 28 (i - 144) = 1 from by show ¬ (0 : Int32) = 1; decide)]
    rw [if_neg a3]
    by_cases a4 : i < 304
    · rw [if_pos a4, tN0, if_neg (by omega)]
    rw [if_neg a4]
    by_cases a5 : i < 384
    · rw [if_pos a5, tN0, if_neg (by omega)]
    rw [if_neg a5, if_pos h4, tN0, if_neg (by omega)]
  · rw [if_neg h4]
theorem hX0_small {i : Nat} (h : 5 < i) (h16 : i < 16) : hX0 i = none := by
  unfold hX0 hpC
  rw [if_pos (by omega), if_pos h16, if_neg (by omega), if_neg (by omega), if_neg (by omega), if_neg (by omega), if_neg (by omega), if_neg (by omega)]
theorem hX0_person {p : Nat} (h : p < 16) : hX0 (16 + p) = some (.inr (3, [.int 0, .int 0, .int 0, .ref (32 + p), .int 0])) := by
  unfold hX0 hpC
  rw [if_pos (by omega), if_neg (by omega), if_pos (by omega), show 16 + p - 16 = p by omega]
  rfl
theorem hX0_box {p : Nat} (h : p < 16) : hX0 (32 + p) = some (.inl (0, 10, .inl (fun _ => 0))) := by
  unfold hX0 hpC
  rw [if_pos (by omega), if_neg (by omega), if_neg (by omega), if_pos (by omega)]
  refine congrArg (fun f => some (am_i f 10)) ?_
  funext j
  split <;> rfl
theorem hI_0 (j : Nat) : hI j 0 = some (.inr (5, [.ref 1, .ref 2, .ref 3, .int 0, .ref 4, .int 0, .ref 5, .int 0, .int 0])) := by
  unfold hI
  rw [if_neg (by omega), if_neg (by omega)]
  rfl
theorem hI_1 (j : Nat) : hI j 1 = some (.inl (2, 16, .inr (.inr (.inr (.inr (fun p => if p < j then some (16 + p) else none)))))) := by
  unfold hI
  rw [if_pos rfl]
  rfl
theorem hI_p {j : Nat} (h : j < 16) : hI j (16 + j) = none := by
  unfold hI
  rw [if_neg (by omega), if_pos (by omega)]
theorem hI_b {j : Nat} (h : j < 16) : hI j (32 + j) = none := by
  unfold hI
  rw [if_neg (by omega), if_pos (by omega)]
theorem hI_cl (j : Nat) (hj : j ≤ 16) : am_cl (hI j) := by
  have hs : ∀ i : Nat, i = 2 ∨ i = 3 ∨ i = 4 ∨ i = 5 → hI j i ≠ none := by
    intro i hi
    unfold hI
    rw [if_neg (by omega), if_neg (by omega)]
    rcases hi with rfl | rfl | rfl | rfl <;> exact Option.some_ne_none _
  intro i e hi r hr
  by_cases h0 : i = 0
  · subst h0
    rw [hI_0] at hi
    cases hi
    simp only [am_mn, List.mem_cons, List.not_mem_nil, or_false, Value.ref.injEq, reduceCtorEq, false_or] at hr
    rcases hr with rfl | rfl | rfl | rfl | rfl
    · rw [hI_1]; exact Option.some_ne_none _
    · exact hs 2 (by omega)
    · exact hs 3 (by omega)
    · exact hs 4 (by omega)
    · exact hs 5 (by omega)
  by_cases h1 : i = 1
  · subst h1
    rw [hI_1] at hi
    cases hi
    obtain ⟨p, hp9⟩ := hr
    dsimp only at hp9
    by_cases h9 : p < j
    · rw [if_pos h9] at hp9
      cases hp9
      unfold hI
      rw [if_neg (by omega), if_neg (by omega), hX0_person (by omega)]
      exact Option.some_ne_none _
    · rw [if_neg h9] at hp9; cases hp9
  unfold hI at hi
  rw [if_neg h1] at hi
  by_cases h2 : (16 + j ≤ i ∧ i < 32) ∨ (32 + j ≤ i ∧ i < 48)
  · rw [if_pos h2] at hi; cases hi
  rw [if_neg h2] at hi
  by_cases h48 : 48 ≤ i
  · rw [hX0_none h48] at hi; cases hi
  by_cases h32 : 32 ≤ i
  · obtain ⟨p, rfl⟩ : ∃ p, i = 32 + p := ⟨i - 32, by omega⟩
    rw [hX0_box (by omega)] at hi
    cases hi
    exact hr.elim
  by_cases h16 : 16 ≤ i
  · obtain ⟨p, rfl⟩ : ∃ p, i = 16 + p := ⟨i - 16, by omega⟩
    rw [hX0_person (by omega)] at hi
    cases hi
    simp only [am_mn, List.mem_cons, List.not_mem_nil, or_false, Value.ref.injEq, reduceCtorEq, false_or] at hr
    subst hr
    unfold hI
    rw [if_neg (by omega), if_neg (by omega), hX0_box (by omega)]
    exact Option.some_ne_none _
  by_cases h5 : 5 < i
  · rw [hX0_small h5 (by omega)] at hi; cases hi
  have h6 : i = 2 ∨ i = 3 ∨ i = 4 ∨ i = 5 := by omega
  rcases h6 with rfl | rfl | rfl | rfl
  · cases hi; exact hr.elim
  · cases hi
    obtain ⟨p, hp9⟩ := hr
    cases hp9
  · cases hi
    obtain ⟨p, hp9⟩ := hr
    cases hp9
  · cases hi
    obtain ⟨p, hp9⟩ := hr
    cases hp9
theorem hI_16 : hI 16 = hX0 := by
  funext i
  unfold hI
  by_cases h : i = 1
  · subst h; rw [if_pos rfl]; rfl
  · rw [if_neg h, if_neg (by omega)]
theorem hI_s {j : Nat} (hj : j < 16) : am_u (am_u (am_u (am_u (hI j) (16 + j) (.inr (3, [.int 0, .int 0, .int 0, .null, .int 0]))) (32 + j) (.inl (0, 10, .inl (fun _ => 0)))) (16 + j) (.inr (3, [.int 0, .int 0, .int 0, .ref (32 + j), .int 0]))) 1 (.inl (2, 16, .inr (.inr (.inr (.inr (va_up (fun p => if p < j then some (16 + p) else none) j (some (16 + j)))))))) = hI (j + 1) := by
  funext i
  unfold am_u
  by_cases h1 : i = 1
  · subst h1
    rw [if_pos rfl, hI_1]
    refine congrArg (fun f => some (am_q f 16 2)) ?_
    funext p
    unfold va_up
    by_cases hp : p = j
    · subst hp; rw [if_pos rfl, if_pos (by omega)]
    · rw [if_neg hp]
      dsimp only
      by_cases h2 : p < j
      · rw [if_pos h2, if_pos (by omega)]
      · rw [if_neg h2, if_neg (by omega)]
  rw [if_neg h1]
  by_cases h2 : i = 16 + j
  · subst h2
    rw [if_pos rfl]
    unfold hI
    rw [if_neg (by omega), if_neg (by omega), hX0_person hj]
  rw [if_neg h2]
  by_cases h3 : i = 32 + j
  · subst h3
    rw [if_pos rfl]
    unfold hI
    rw [if_neg (by omega), if_neg (by omega), hX0_box hj]
  rw [if_neg h3]
  try rw [if_neg h2]
  unfold hI
  rw [if_neg h1, if_neg h1]
  by_cases h4 : (16 + j ≤ i ∧ i < 32) ∨ (32 + j ≤ i ∧ i < 48)
  · rw [if_pos h4, if_pos (by omega)]
  · rw [if_neg h4, if_neg (by omega)]
def sgX5_init_0_34db8 : List Instr := [.aload_n 0]
theorem sgX5_init_0_34db8d : am_dec cX5_init 0 sgX5_init_0_34db8 = true := by decide +kernel
theorem dX5_init_1 : decode cX5_init 1 = .ok (.invokespecial 1, 3) := by decide +kernel
def sgX5_init_4_4e27c : List Instr := [.aload_n 0, .bipush 16]
theorem sgX5_init_4_4e27cd : am_dec cX5_init 4 sgX5_init_4_4e27c = true := by decide +kernel
theorem dX5_init_7 : decode cX5_init 7 = .ok (.anewarray 9, 3) := by decide +kernel
theorem dX5_init_10 : decode cX5_init 10 = .ok (.putfield 11, 3) := by decide +kernel
def sgX5_init_13_d6fd4 : List Instr := [.aload_n 0, .bipush 20]
theorem sgX5_init_13_d6fd4d : am_dec cX5_init 13 sgX5_init_13_d6fd4 = true := by decide +kernel
theorem dX5_init_16 : decode cX5_init 16 = .ok (.newarray .int, 2) := by decide +kernel
theorem dX5_init_18 : decode cX5_init 18 = .ok (.putfield 15, 3) := by decide +kernel
def sgX5_init_21_a1289 : List Instr := [.aload_n 0, .bipush 10]
theorem sgX5_init_21_a1289d : am_dec cX5_init 21 sgX5_init_21_a1289 = true := by decide +kernel
theorem dX5_init_24 : decode cX5_init 24 = .ok (.anewarray 19, 3) := by decide +kernel
theorem dX5_init_27 : decode cX5_init 27 = .ok (.putfield 21, 3) := by decide +kernel
def sgX5_init_30_9cf18 : List Instr := [.aload_n 0, .iconst 0]
theorem sgX5_init_30_9cf18d : am_dec cX5_init 30 sgX5_init_30_9cf18 = true := by decide +kernel
theorem dX5_init_32 : decode cX5_init 32 = .ok (.putfield 25, 3) := by decide +kernel
def sgX5_init_35_48c56 : List Instr := [.aload_n 0, .bipush 80]
theorem sgX5_init_35_48c56d : am_dec cX5_init 35 sgX5_init_35_48c56 = true := by decide +kernel
theorem dX5_init_38 : decode cX5_init 38 = .ok (.anewarray 29, 3) := by decide +kernel
theorem dX5_init_41 : decode cX5_init 41 = .ok (.putfield 31, 3) := by decide +kernel
def sgX5_init_44_9cf18 : List Instr := [.aload_n 0, .iconst 0]
theorem sgX5_init_44_9cf18d : am_dec cX5_init 44 sgX5_init_44_9cf18 = true := by decide +kernel
theorem dX5_init_46 : decode cX5_init 46 = .ok (.putfield 35, 3) := by decide +kernel
def sgX5_init_49_48c56 : List Instr := [.aload_n 0, .bipush 80]
theorem sgX5_init_49_48c56d : am_dec cX5_init 49 sgX5_init_49_48c56 = true := by decide +kernel
theorem dX5_init_52 : decode cX5_init 52 = .ok (.anewarray 38, 3) := by decide +kernel
theorem dX5_init_55 : decode cX5_init 55 = .ok (.putfield 40, 3) := by decide +kernel
def sgX5_init_58_9cf18 : List Instr := [.aload_n 0, .iconst 0]
theorem sgX5_init_58_9cf18d : am_dec cX5_init 58 sgX5_init_58_9cf18 = true := by decide +kernel
theorem dX5_init_60 : decode cX5_init 60 = .ok (.putfield 44, 3) := by decide +kernel
def sgX5_init_63_9cf18 : List Instr := [.aload_n 0, .iconst 0]
theorem sgX5_init_63_9cf18d : am_dec cX5_init 63 sgX5_init_63_9cf18 = true := by decide +kernel
theorem dX5_init_65 : decode cX5_init 65 = .ok (.putfield 47, 3) := by decide +kernel
def sgX5_init_68_67c14 : List Instr := [.iconst 0, .istore_n 1]
theorem sgX5_init_68_67c14d : am_dec cX5_init 68 sgX5_init_68_67c14 = true := by decide +kernel
def sgX5_init_70_fc5a5 : List Instr := [.iload_n 1, .bipush 16]
theorem sgX5_init_70_fc5a5d : am_dec cX5_init 70 sgX5_init_70_fc5a5 = true := by decide +kernel
def sgX5_init_76_34db8 : List Instr := [.aload_n 0]
theorem sgX5_init_76_34db8d : am_dec cX5_init 76 sgX5_init_76_34db8 = true := by decide +kernel
def sgX5_init_80_840bf : List Instr := [.iload_n 1]
theorem sgX5_init_80_840bfd : am_dec cX5_init 80 sgX5_init_80_840bf = true := by decide +kernel
def sgX5_init_84_4b010 : List Instr := [.dup]
theorem sgX5_init_84_4b010d : am_dec cX5_init 84 sgX5_init_84_4b010 = true := by decide +kernel
def sgX5_init_89_0cd62 : List Instr := [.iinc 1 1, .goto (-22)]
theorem sgX5_init_89_0cd62d : am_dec cX5_init 89 sgX5_init_89_0cd62 = true := by decide +kernel
theorem dX5_init_73 : decode cX5_init 73 = .ok (.if_icmp .ge 22, 3) := by decide +kernel
theorem dX5_init_95 : decode cX5_init 95 = .ok (.return_, 1) := by decide +kernel
theorem dX5_init_77 : decode cX5_init 77 = .ok (.getfield 11, 3) := by decide +kernel
theorem dX5_init_81 : decode cX5_init 81 = .ok (.new 9, 3) := by decide +kernel
theorem dX5_init_85 : decode cX5_init 85 = .ok (.invokespecial 50, 3) := by decide +kernel
theorem dX5_init_88 : decode cX5_init 88 = .ok (.aastore, 1) := by decide +kernel
def sgX6_init_0_34db8 : List Instr := [.aload_n 0]
theorem sgX6_init_0_34db8d : am_dec cX6_init 0 sgX6_init_0_34db8 = true := by decide +kernel
theorem dX6_init_1 : decode cX6_init 1 = .ok (.invokespecial 1, 3) := by decide +kernel
def sgX6_init_4_d6fd4 : List Instr := [.aload_n 0, .bipush 20]
theorem sgX6_init_4_d6fd4d : am_dec cX6_init 4 sgX6_init_4_d6fd4 = true := by decide +kernel
theorem dX6_init_7 : decode cX6_init 7 = .ok (.newarray .int, 2) := by decide +kernel
theorem dX6_init_9 : decode cX6_init 9 = .ok (.putfield 7, 3) := by decide +kernel
def sgX6_init_12_4e27c : List Instr := [.aload_n 0, .bipush 16]
theorem sgX6_init_12_4e27cd : am_dec cX6_init 12 sgX6_init_12_4e27c = true := by decide +kernel
theorem dX6_init_15 : decode cX6_init 15 = .ok (.newarray .int, 2) := by decide +kernel
theorem dX6_init_17 : decode cX6_init 17 = .ok (.putfield 13, 3) := by decide +kernel
def sgX6_init_20_4e27c : List Instr := [.aload_n 0, .bipush 16]
theorem sgX6_init_20_4e27cd : am_dec cX6_init 20 sgX6_init_20_4e27c = true := by decide +kernel
theorem dX6_init_23 : decode cX6_init 23 = .ok (.newarray .int, 2) := by decide +kernel
theorem dX6_init_25 : decode cX6_init 25 = .ok (.putfield 16, 3) := by decide +kernel
def sgX6_init_28_4e27c : List Instr := [.aload_n 0, .bipush 16]
theorem sgX6_init_28_4e27cd : am_dec cX6_init 28 sgX6_init_28_4e27c = true := by decide +kernel
theorem dX6_init_31 : decode cX6_init 31 = .ok (.newarray .int, 2) := by decide +kernel
theorem dX6_init_33 : decode cX6_init 33 = .ok (.putfield 19, 3) := by decide +kernel
def sgX6_init_36_4e27c : List Instr := [.aload_n 0, .bipush 16]
theorem sgX6_init_36_4e27cd : am_dec cX6_init 36 sgX6_init_36_4e27c = true := by decide +kernel
theorem dX6_init_39 : decode cX6_init 39 = .ok (.newarray .int, 2) := by decide +kernel
theorem dX6_init_41 : decode cX6_init 41 = .ok (.putfield 22, 3) := by decide +kernel
def sgX6_init_44_d0ab0 : List Instr := [.aload_n 0, .sipush 160]
theorem sgX6_init_44_d0ab0d : am_dec cX6_init 44 sgX6_init_44_d0ab0 = true := by decide +kernel
theorem dX6_init_48 : decode cX6_init 48 = .ok (.newarray .int, 2) := by decide +kernel
theorem dX6_init_50 : decode cX6_init 50 = .ok (.putfield 25, 3) := by decide +kernel
def sgX6_init_53_a1289 : List Instr := [.aload_n 0, .bipush 10]
theorem sgX6_init_53_a1289d : am_dec cX6_init 53 sgX6_init_53_a1289 = true := by decide +kernel
theorem dX6_init_56 : decode cX6_init 56 = .ok (.newarray .int, 2) := by decide +kernel
theorem dX6_init_58 : decode cX6_init 58 = .ok (.putfield 28, 3) := by decide +kernel
def sgX6_init_61_a1289 : List Instr := [.aload_n 0, .bipush 10]
theorem sgX6_init_61_a1289d : am_dec cX6_init 61 sgX6_init_61_a1289 = true := by decide +kernel
theorem dX6_init_64 : decode cX6_init 64 = .ok (.newarray .int, 2) := by decide +kernel
theorem dX6_init_66 : decode cX6_init 66 = .ok (.putfield 31, 3) := by decide +kernel
def sgX6_init_69_a1289 : List Instr := [.aload_n 0, .bipush 10]
theorem sgX6_init_69_a1289d : am_dec cX6_init 69 sgX6_init_69_a1289 = true := by decide +kernel
theorem dX6_init_72 : decode cX6_init 72 = .ok (.newarray .int, 2) := by decide +kernel
theorem dX6_init_74 : decode cX6_init 74 = .ok (.putfield 34, 3) := by decide +kernel
def sgX6_init_77_a1289 : List Instr := [.aload_n 0, .bipush 10]
theorem sgX6_init_77_a1289d : am_dec cX6_init 77 sgX6_init_77_a1289 = true := by decide +kernel
theorem dX6_init_80 : decode cX6_init 80 = .ok (.newarray .boolean, 2) := by decide +kernel
theorem dX6_init_82 : decode cX6_init 82 = .ok (.putfield 37, 3) := by decide +kernel
def sgX6_init_85_a1289 : List Instr := [.aload_n 0, .bipush 10]
theorem sgX6_init_85_a1289d : am_dec cX6_init 85 sgX6_init_85_a1289 = true := by decide +kernel
theorem dX6_init_88 : decode cX6_init 88 = .ok (.newarray .int, 2) := by decide +kernel
theorem dX6_init_90 : decode cX6_init 90 = .ok (.putfield 41, 3) := by decide +kernel
def sgX6_init_93_a1289 : List Instr := [.aload_n 0, .bipush 10]
theorem sgX6_init_93_a1289d : am_dec cX6_init 93 sgX6_init_93_a1289 = true := by decide +kernel
theorem dX6_init_96 : decode cX6_init 96 = .ok (.newarray .int, 2) := by decide +kernel
theorem dX6_init_98 : decode cX6_init 98 = .ok (.putfield 44, 3) := by decide +kernel
def sgX6_init_101_d0ab0 : List Instr := [.aload_n 0, .sipush 160]
theorem sgX6_init_101_d0ab0d : am_dec cX6_init 101 sgX6_init_101_d0ab0 = true := by decide +kernel
theorem dX6_init_105 : decode cX6_init 105 = .ok (.newarray .int, 2) := by decide +kernel
theorem dX6_init_107 : decode cX6_init 107 = .ok (.putfield 47, 3) := by decide +kernel
def sgX6_init_110_48c56 : List Instr := [.aload_n 0, .bipush 80]
theorem sgX6_init_110_48c56d : am_dec cX6_init 110 sgX6_init_110_48c56 = true := by decide +kernel
theorem dX6_init_113 : decode cX6_init 113 = .ok (.newarray .int, 2) := by decide +kernel
theorem dX6_init_115 : decode cX6_init 115 = .ok (.putfield 50, 3) := by decide +kernel
def sgX6_init_118_48c56 : List Instr := [.aload_n 0, .bipush 80]
theorem sgX6_init_118_48c56d : am_dec cX6_init 118 sgX6_init_118_48c56 = true := by decide +kernel
theorem dX6_init_121 : decode cX6_init 121 = .ok (.newarray .int, 2) := by decide +kernel
theorem dX6_init_123 : decode cX6_init 123 = .ok (.putfield 53, 3) := by decide +kernel
def sgX6_init_126_48c56 : List Instr := [.aload_n 0, .bipush 80]
theorem sgX6_init_126_48c56d : am_dec cX6_init 126 sgX6_init_126_48c56 = true := by decide +kernel
theorem dX6_init_129 : decode cX6_init 129 = .ok (.newarray .int, 2) := by decide +kernel
theorem dX6_init_131 : decode cX6_init 131 = .ok (.putfield 56, 3) := by decide +kernel
def sgX6_init_134_48c56 : List Instr := [.aload_n 0, .bipush 80]
theorem sgX6_init_134_48c56d : am_dec cX6_init 134 sgX6_init_134_48c56 = true := by decide +kernel
theorem dX6_init_137 : decode cX6_init 137 = .ok (.newarray .int, 2) := by decide +kernel
theorem dX6_init_139 : decode cX6_init 139 = .ok (.putfield 59, 3) := by decide +kernel
def sgX6_init_142_48c56 : List Instr := [.aload_n 0, .bipush 80]
theorem sgX6_init_142_48c56d : am_dec cX6_init 142 sgX6_init_142_48c56 = true := by decide +kernel
theorem dX6_init_145 : decode cX6_init 145 = .ok (.newarray .int, 2) := by decide +kernel
theorem dX6_init_147 : decode cX6_init 147 = .ok (.putfield 62, 3) := by decide +kernel
def sgX6_init_150_48c56 : List Instr := [.aload_n 0, .bipush 80]
theorem sgX6_init_150_48c56d : am_dec cX6_init 150 sgX6_init_150_48c56 = true := by decide +kernel
theorem dX6_init_153 : decode cX6_init 153 = .ok (.newarray .int, 2) := by decide +kernel
theorem dX6_init_155 : decode cX6_init 155 = .ok (.putfield 65, 3) := by decide +kernel
def sgX6_init_158_48c56 : List Instr := [.aload_n 0, .bipush 80]
theorem sgX6_init_158_48c56d : am_dec cX6_init 158 sgX6_init_158_48c56 = true := by decide +kernel
theorem dX6_init_161 : decode cX6_init 161 = .ok (.newarray .int, 2) := by decide +kernel
theorem dX6_init_163 : decode cX6_init 163 = .ok (.putfield 68, 3) := by decide +kernel
def sgX6_init_166_48c56 : List Instr := [.aload_n 0, .bipush 80]
theorem sgX6_init_166_48c56d : am_dec cX6_init 166 sgX6_init_166_48c56 = true := by decide +kernel
theorem dX6_init_169 : decode cX6_init 169 = .ok (.newarray .int, 2) := by decide +kernel
theorem dX6_init_171 : decode cX6_init 171 = .ok (.putfield 71, 3) := by decide +kernel
def sgX6_init_174_48c56 : List Instr := [.aload_n 0, .bipush 80]
theorem sgX6_init_174_48c56d : am_dec cX6_init 174 sgX6_init_174_48c56 = true := by decide +kernel
theorem dX6_init_177 : decode cX6_init 177 = .ok (.newarray .boolean, 2) := by decide +kernel
theorem dX6_init_179 : decode cX6_init 179 = .ok (.putfield 74, 3) := by decide +kernel
def sgX6_init_182_48c56 : List Instr := [.aload_n 0, .bipush 80]
theorem sgX6_init_182_48c56d : am_dec cX6_init 182 sgX6_init_182_48c56 = true := by decide +kernel
theorem dX6_init_185 : decode cX6_init 185 = .ok (.newarray .boolean, 2) := by decide +kernel
theorem dX6_init_187 : decode cX6_init 187 = .ok (.putfield 77, 3) := by decide +kernel
def sgX6_init_190_48c56 : List Instr := [.aload_n 0, .bipush 80]
theorem sgX6_init_190_48c56d : am_dec cX6_init 190 sgX6_init_190_48c56 = true := by decide +kernel
theorem dX6_init_193 : decode cX6_init 193 = .ok (.newarray .int, 2) := by decide +kernel
theorem dX6_init_195 : decode cX6_init 195 = .ok (.putfield 80, 3) := by decide +kernel
def sgX6_init_198_48c56 : List Instr := [.aload_n 0, .bipush 80]
theorem sgX6_init_198_48c56d : am_dec cX6_init 198 sgX6_init_198_48c56 = true := by decide +kernel
theorem dX6_init_201 : decode cX6_init 201 = .ok (.newarray .int, 2) := by decide +kernel
theorem dX6_init_203 : decode cX6_init 203 = .ok (.putfield 83, 3) := by decide +kernel
def sgX6_init_206_48c56 : List Instr := [.aload_n 0, .bipush 80]
theorem sgX6_init_206_48c56d : am_dec cX6_init 206 sgX6_init_206_48c56 = true := by decide +kernel
theorem dX6_init_209 : decode cX6_init 209 = .ok (.newarray .int, 2) := by decide +kernel
theorem dX6_init_211 : decode cX6_init 211 = .ok (.putfield 86, 3) := by decide +kernel
def sgX6_init_214_d81c9 : List Instr := [.aload_n 0, .sipush 800]
theorem sgX6_init_214_d81c9d : am_dec cX6_init 214 sgX6_init_214_d81c9 = true := by decide +kernel
theorem dX6_init_218 : decode cX6_init 218 = .ok (.newarray .boolean, 2) := by decide +kernel
theorem dX6_init_220 : decode cX6_init 220 = .ok (.putfield 89, 3) := by decide +kernel
def sgX6_init_223_afd83 : List Instr := [.aload_n 0, .sipush 4010]
theorem sgX6_init_223_afd83d : am_dec cX6_init 223 sgX6_init_223_afd83 = true := by decide +kernel
theorem dX6_init_227 : decode cX6_init 227 = .ok (.newarray .boolean, 2) := by decide +kernel
theorem dX6_init_229 : decode cX6_init 229 = .ok (.putfield 92, 3) := by decide +kernel
def sgX6_init_232_afd83 : List Instr := [.aload_n 0, .sipush 4010]
theorem sgX6_init_232_afd83d : am_dec cX6_init 232 sgX6_init_232_afd83 = true := by decide +kernel
theorem dX6_init_236 : decode cX6_init 236 = .ok (.newarray .int, 2) := by decide +kernel
theorem dX6_init_238 : decode cX6_init 238 = .ok (.putfield 95, 3) := by decide +kernel
def sgX6_init_241_afd83 : List Instr := [.aload_n 0, .sipush 4010]
theorem sgX6_init_241_afd83d : am_dec cX6_init 241 sgX6_init_241_afd83 = true := by decide +kernel
theorem dX6_init_245 : decode cX6_init 245 = .ok (.newarray .int, 2) := by decide +kernel
theorem dX6_init_247 : decode cX6_init 247 = .ok (.putfield 98, 3) := by decide +kernel
def sgX6_init_250_afd83 : List Instr := [.aload_n 0, .sipush 4010]
theorem sgX6_init_250_afd83d : am_dec cX6_init 250 sgX6_init_250_afd83 = true := by decide +kernel
theorem dX6_init_254 : decode cX6_init 254 = .ok (.newarray .int, 2) := by decide +kernel
theorem dX6_init_256 : decode cX6_init 256 = .ok (.putfield 101, 3) := by decide +kernel
theorem dX6_init_259 : decode cX6_init 259 = .ok (.return_, 1) := by decide +kernel
theorem hI_start : (am_u (am_u (am_u (am_u (am_u (am_u (am_u (am_u (am_u (am_u (am_u (fun _ => none) 0 (.inr (5, [.null, .null, .null, .int 0, .null, .int 0, .null, .int 0, .int 0]))) 1 (.inl (2, 16, .inr (.inr (.inr (.inr (fun _ => none))))))) 0 (.inr (5, [.ref 1, .null, .null, .int 0, .null, .int 0, .null, .int 0, .int 0]))) 2 (.inl (0, 20, .inl (fun _ => 0)))) 0 (.inr (5, [.ref 1, .ref 2, .null, .int 0, .null, .int 0, .null, .int 0, .int 0]))) 3 (.inl (3, 10, .inr (.inr (.inr (.inr (fun _ => none))))))) 0 (.inr (5, [.ref 1, .ref 2, .ref 3, .int 0, .null, .int 0, .null, .int 0, .int 0]))) 4 (.inl (4, 80, .inr (.inr (.inr (.inr (fun _ => none))))))) 0 (.inr (5, [.ref 1, .ref 2, .ref 3, .int 0, .ref 4, .int 0, .null, .int 0, .int 0]))) 5 (.inl (5, 80, .inr (.inr (.inr (.inr (fun _ => none))))))) 0 (.inr (5, [.ref 1, .ref 2, .ref 3, .int 0, .ref 4, .int 0, .ref 5, .int 0, .int 0]))) = hI 0 := by
  funext i
  unfold am_u
  by_cases h0 : i = 0
  · subst h0; rfl
  by_cases h1 : i = 1
  · subst h1; rfl
  by_cases h2 : i = 2
  · subst h2; rfl
  by_cases h3 : i = 3
  · subst h3; rfl
  by_cases h4 : i = 4
  · subst h4; rfl
  by_cases h5 : i = 5
  · subst h5; rfl
  simp only [if_neg h0, if_neg h1, if_neg h2, if_neg h3, if_neg h4, if_neg h5]
  unfold hI
  rw [if_neg h1]
  by_cases h6 : (16 + 0 ≤ i ∧ i < 32) ∨ (32 + 0 ≤ i ∧ i < 48)
  · rw [if_pos h6]
  rw [if_neg h6]
  by_cases h16 : i < 16
  · rw [hX0_small (by omega) h16]
  · rw [hX0_none (by omega)]
set_option maxRecDepth 100000 in
set_option maxHeartbeats 4000000 in
theorem c_init5 {G : am_S}  : am_D G yX5_init (.code yX5_init cX5_init 2 none :: am_G) { frames := 2, cells := 37, slots := 446, locals := 40 } (am_u (fun _ => none) 0 (.inr (5, [.null, .null, .null, .int 0, .null, .int 0, .null, .int 0, .int 0]))) [.ref 0] hX0 none := by
  refine am_of (by decide +kernel) (Nat.le_of_ble_eq_true rfl) ?_
  intro C hse hret hname hF hO
  subst hse
  refine am_go hF sgX5_init_0_34db8 1 [(0, .ref 0)] [.ref 0] sgX5_init_0_34db8d rfl ?_
  refine am_oinit hF hO (List.mem_cons_of_mem _ lm_RX5_1) (List.mem_cons_of_mem _ lo_inst) (List.mem_cons_of_mem _ lo_code) ⟨Nat.le_of_ble_eq_true rfl, Nat.le_of_ble_eq_true rfl⟩ dX5_init_1 ?_
  refine am_go hF sgX5_init_4_4e27c 7 [(0, .ref 0)] [.int 16, .ref 0] sgX5_init_4_4e27cd rfl ?_
  have hi7 : (am_u (fun _ => none) 0 (.inr (5, [.null, .null, .null, .int 0, .null, .int 0, .null, .int 0, .int 0]))) 1 = none := (am_un (by decide) rfl)
  refine am_newq hF hO (1) hi7 2 16 (by decide) rfl (List.mem_cons_of_mem _ lc_RX5_9) (by decide) rfl (by decide) (am_cl_fr (am_cl_u (i := 0) (e := (.inr (5, [.null, .null, .null, .int 0, .null, .int 0, .null, .int 0, .int 0]))) am_cl_0 (fun r hr => by simp [am_mn] at hr)) hi7) (am_nr_c (fun h => (show ¬ (0 = 1) by omega) (Value.ref.inj h)) (am_nr_c (fun h => (show ¬ (0 = 1) by omega) (Value.ref.inj h)) am_nr_nil)) 1 16 ⟨Nat.le_of_ble_eq_true rfl, Nat.le_of_ble_eq_true rfl, Nat.le_of_ble_eq_true rfl, Nat.le_of_ble_eq_true rfl⟩ dX5_init_7 ?_
  refine am_putf hF (am_un (show 0 ≠ 1 by omega) (am_us _ _ _)) (T := TX5) (N := 9) rfl (inG 5 inG5) tyX5 tyX5_ok nmX5 0 (by decide) (List.mem_cons_of_mem _ lf_RX5_11) rfl (Or.inr ⟨rfl, hname.symm, rfl⟩) rfl rfl (Nat.le_of_ble_eq_true rfl) dX5_init_10 ?_
  refine am_eqX (am_u (am_u (am_u (fun _ => none) 0 (.inr (5, [.null, .null, .null, .int 0, .null, .int 0, .null, .int 0, .int 0]))) 1 (.inl (2, 16, .inr (.inr (.inr (.inr (fun _ => none))))))) 0 (.inr (5, [.ref 1, .null, .null, .int 0, .null, .int 0, .null, .int 0, .int 0]))) (rfl) ?_
  refine am_go hF sgX5_init_13_d6fd4 16 [(0, .ref 0)] [.int 20, .ref 0] sgX5_init_13_d6fd4d rfl ?_
  have hi16 : (am_u (am_u (am_u (fun _ => none) 0 (.inr (5, [.null, .null, .null, .int 0, .null, .int 0, .null, .int 0, .int 0]))) 1 (.inl (2, 16, .inr (.inr (.inr (.inr (fun _ => none))))))) 0 (.inr (5, [.ref 1, .null, .null, .int 0, .null, .int 0, .null, .int 0, .int 0]))) 2 = none := (am_un (show 2 ≠ 0 by omega) (am_un (show 2 ≠ 1 by omega) (am_un (by decide) rfl)))
  refine am_newa hF hO (2) hi16 0 20 (a0 := (20, .inl (fun _ => 0))) (atype := .int) (by decide) rfl (List.mem_cons_of_mem _ la_int) (fun _ => rfl) (fun _ => rfl) rfl (by decide) (am_cl_fr (am_cl_u (i := 0) (e := (.inr (5, [.ref 1, .null, .null, .int 0, .null, .int 0, .null, .int 0, .int 0]))) (am_cl_u (i := 1) (e := (.inl (2, 16, .inr (.inr (.inr (.inr (fun _ => none))))))) (am_cl_u (i := 0) (e := (.inr (5, [.null, .null, .null, .int 0, .null, .int 0, .null, .int 0, .int 0]))) am_cl_0 (fun r hr => by simp [am_mn] at hr)) (fun r hr => am_mq hr)) (fun r hr => by simp only [am_mn, List.mem_cons, List.not_mem_nil, or_false, Value.ref.injEq, reduceCtorEq, false_or] at hr; exact (by rw [hr]; exact Or.inr (by rw [(am_us _ _ _)]; exact Option.some_ne_none _)))) hi16) (am_nr_c (fun h => (show ¬ (0 = 2) by omega) (Value.ref.inj h)) (am_nr_c (fun h => (show ¬ (0 = 2) by omega) (Value.ref.inj h)) am_nr_nil)) 2 36 ⟨Nat.le_of_ble_eq_true rfl, Nat.le_of_ble_eq_true rfl, Nat.le_of_ble_eq_true rfl, Nat.le_of_ble_eq_true rfl⟩ dX5_init_16 ?_
  refine am_putf hF (am_un (show 0 ≠ 2 by omega) (am_us _ _ _)) (T := TX5) (N := 9) rfl (inG 5 inG5) tyX5 tyX5_ok nmX5 1 (by decide) (List.mem_cons_of_mem _ lf_RX5_15) rfl (Or.inr ⟨rfl, hname.symm, rfl⟩) rfl rfl (Nat.le_of_ble_eq_true rfl) dX5_init_18 ?_
  refine am_eqX (am_u (am_u (am_u (am_u (am_u (fun _ => none) 0 (.inr (5, [.null, .null, .null, .int 0, .null, .int 0, .null, .int 0, .int 0]))) 1 (.inl (2, 16, .inr (.inr (.inr (.inr (fun _ => none))))))) 0 (.inr (5, [.ref 1, .null, .null, .int 0, .null, .int 0, .null, .int 0, .int 0]))) 2 (.inl (0, 20, .inl (fun _ => 0)))) 0 (.inr (5, [.ref 1, .ref 2, .null, .int 0, .null, .int 0, .null, .int 0, .int 0]))) (rfl) ?_
  refine am_go hF sgX5_init_21_a1289 24 [(0, .ref 0)] [.int 10, .ref 0] sgX5_init_21_a1289d rfl ?_
  have hi24 : (am_u (am_u (am_u (am_u (am_u (fun _ => none) 0 (.inr (5, [.null, .null, .null, .int 0, .null, .int 0, .null, .int 0, .int 0]))) 1 (.inl (2, 16, .inr (.inr (.inr (.inr (fun _ => none))))))) 0 (.inr (5, [.ref 1, .null, .null, .int 0, .null, .int 0, .null, .int 0, .int 0]))) 2 (.inl (0, 20, .inl (fun _ => 0)))) 0 (.inr (5, [.ref 1, .ref 2, .null, .int 0, .null, .int 0, .null, .int 0, .int 0]))) 3 = none := (am_un (show 3 ≠ 0 by omega) (am_un (show 3 ≠ 2 by omega) (am_un (show 3 ≠ 0 by omega) (am_un (show 3 ≠ 1 by omega) (am_un (by decide) rfl)))))
  refine am_newq hF hO (3) hi24 3 10 (by decide) rfl (List.mem_cons_of_mem _ lc_RX5_19) (by decide) rfl (by decide) (am_cl_fr (am_cl_u (i := 0) (e := (.inr (5, [.ref 1, .ref 2, .null, .int 0, .null, .int 0, .null, .int 0, .int 0]))) (am_cl_u (i := 2) (e := (.inl (0, 20, .inl (fun _ => 0)))) (am_cl_u (i := 0) (e := (.inr (5, [.ref 1, .null, .null, .int 0, .null, .int 0, .null, .int 0, .int 0]))) (am_cl_u (i := 1) (e := (.inl (2, 16, .inr (.inr (.inr (.inr (fun _ => none))))))) (am_cl_u (i := 0) (e := (.inr (5, [.null, .null, .null, .int 0, .null, .int 0, .null, .int 0, .int 0]))) am_cl_0 (fun r hr => by simp [am_mn] at hr)) (fun r hr => am_mq hr)) (fun r hr => by simp only [am_mn, List.mem_cons, List.not_mem_nil, or_false, Value.ref.injEq, reduceCtorEq, false_or] at hr; exact (by rw [hr]; exact Or.inr (by rw [(am_us _ _ _)]; exact Option.some_ne_none _)))) (fun r hr => am_mi hr)) (fun r hr => by simp only [am_mn, List.mem_cons, List.not_mem_nil, or_false, Value.ref.injEq, reduceCtorEq, false_or] at hr; exact (hr.elim (fun hr => by rw [hr]; exact Or.inr (by rw [(am_un (show 1 ≠ 2 by omega) (am_un (show 1 ≠ 0 by omega) (am_us _ _ _)))]; exact Option.some_ne_none _)) (fun hr => (by rw [hr]; exact Or.inr (by rw [(am_us _ _ _)]; exact Option.some_ne_none _)))))) hi24) (am_nr_c (fun h => (show ¬ (0 = 3) by omega) (Value.ref.inj h)) (am_nr_c (fun h => (show ¬ (0 = 3) by omega) (Value.ref.inj h)) am_nr_nil)) 3 46 ⟨Nat.le_of_ble_eq_true rfl, Nat.le_of_ble_eq_true rfl, Nat.le_of_ble_eq_true rfl, Nat.le_of_ble_eq_true rfl⟩ dX5_init_24 ?_
  refine am_putf hF (am_un (show 0 ≠ 3 by omega) (am_us _ _ _)) (T := TX5) (N := 9) rfl (inG 5 inG5) tyX5 tyX5_ok nmX5 2 (by decide) (List.mem_cons_of_mem _ lf_RX5_21) rfl (Or.inr ⟨rfl, hname.symm, rfl⟩) rfl rfl (Nat.le_of_ble_eq_true rfl) dX5_init_27 ?_
  refine am_eqX (am_u (am_u (am_u (am_u (am_u (am_u (am_u (fun _ => none) 0 (.inr (5, [.null, .null, .null, .int 0, .null, .int 0, .null, .int 0, .int 0]))) 1 (.inl (2, 16, .inr (.inr (.inr (.inr (fun _ => none))))))) 0 (.inr (5, [.ref 1, .null, .null, .int 0, .null, .int 0, .null, .int 0, .int 0]))) 2 (.inl (0, 20, .inl (fun _ => 0)))) 0 (.inr (5, [.ref 1, .ref 2, .null, .int 0, .null, .int 0, .null, .int 0, .int 0]))) 3 (.inl (3, 10, .inr (.inr (.inr (.inr (fun _ => none))))))) 0 (.inr (5, [.ref 1, .ref 2, .ref 3, .int 0, .null, .int 0, .null, .int 0, .int 0]))) (rfl) ?_
  refine am_go hF sgX5_init_30_9cf18 32 [(0, .ref 0)] [.int 0, .ref 0] sgX5_init_30_9cf18d rfl ?_
  refine am_putf hF (am_us _ _ _) (T := TX5) (N := 9) rfl (inG 5 inG5) tyX5 tyX5_ok nmX5 3 (by decide) (List.mem_cons_of_mem _ lf_RX5_25) rfl (Or.inl rfl) rfl rfl (Nat.le_of_ble_eq_true rfl) dX5_init_32 ?_
  refine am_eqX (am_u (am_u (am_u (am_u (am_u (am_u (am_u (fun _ => none) 0 (.inr (5, [.null, .null, .null, .int 0, .null, .int 0, .null, .int 0, .int 0]))) 1 (.inl (2, 16, .inr (.inr (.inr (.inr (fun _ => none))))))) 0 (.inr (5, [.ref 1, .null, .null, .int 0, .null, .int 0, .null, .int 0, .int 0]))) 2 (.inl (0, 20, .inl (fun _ => 0)))) 0 (.inr (5, [.ref 1, .ref 2, .null, .int 0, .null, .int 0, .null, .int 0, .int 0]))) 3 (.inl (3, 10, .inr (.inr (.inr (.inr (fun _ => none))))))) 0 (.inr (5, [.ref 1, .ref 2, .ref 3, .int 0, .null, .int 0, .null, .int 0, .int 0]))) (am_uu _ _ _ _) ?_
  refine am_go hF sgX5_init_35_48c56 38 [(0, .ref 0)] [.int 80, .ref 0] sgX5_init_35_48c56d rfl ?_
  have hi38 : (am_u (am_u (am_u (am_u (am_u (am_u (am_u (fun _ => none) 0 (.inr (5, [.null, .null, .null, .int 0, .null, .int 0, .null, .int 0, .int 0]))) 1 (.inl (2, 16, .inr (.inr (.inr (.inr (fun _ => none))))))) 0 (.inr (5, [.ref 1, .null, .null, .int 0, .null, .int 0, .null, .int 0, .int 0]))) 2 (.inl (0, 20, .inl (fun _ => 0)))) 0 (.inr (5, [.ref 1, .ref 2, .null, .int 0, .null, .int 0, .null, .int 0, .int 0]))) 3 (.inl (3, 10, .inr (.inr (.inr (.inr (fun _ => none))))))) 0 (.inr (5, [.ref 1, .ref 2, .ref 3, .int 0, .null, .int 0, .null, .int 0, .int 0]))) 4 = none := (am_un (show 4 ≠ 0 by omega) (am_un (show 4 ≠ 3 by omega) (am_un (show 4 ≠ 0 by omega) (am_un (show 4 ≠ 2 by omega) (am_un (show 4 ≠ 0 by omega) (am_un (show 4 ≠ 1 by omega) (am_un (by decide) rfl)))))))
  refine am_newq hF hO (4) hi38 4 80 (by decide) rfl (List.mem_cons_of_mem _ lc_RX5_29) (by decide) rfl (by decide) (am_cl_fr (am_cl_u (i := 0) (e := (.inr (5, [.ref 1, .ref 2, .ref 3, .int 0, .null, .int 0, .null, .int 0, .int 0]))) (am_cl_u (i := 3) (e := (.inl (3, 10, .inr (.inr (.inr (.inr (fun _ => none))))))) (am_cl_u (i := 0) (e := (.inr (5, [.ref 1, .ref 2, .null, .int 0, .null, .int 0, .null, .int 0, .int 0]))) (am_cl_u (i := 2) (e := (.inl (0, 20, .inl (fun _ => 0)))) (am_cl_u (i := 0) (e := (.inr (5, [.ref 1, .null, .null, .int 0, .null, .int 0, .null, .int 0, .int 0]))) (am_cl_u (i := 1) (e := (.inl (2, 16, .inr (.inr (.inr (.inr (fun _ => none))))))) (am_cl_u (i := 0) (e := (.inr (5, [.null, .null, .null, .int 0, .null, .int 0, .null, .int 0, .int 0]))) am_cl_0 (fun r hr => by simp [am_mn] at hr)) (fun r hr => am_mq hr)) (fun r hr => by simp only [am_mn, List.mem_cons, List.not_mem_nil, or_false, Value.ref.injEq, reduceCtorEq, false_or] at hr; exact (by rw [hr]; exact Or.inr (by rw [(am_us _ _ _)]; exact Option.some_ne_none _)))) (fun r hr => am_mi hr)) (fun r hr => by simp only [am_mn, List.mem_cons, List.not_mem_nil, or_false, Value.ref.injEq, reduceCtorEq, false_or] at hr; exact (hr.elim (fun hr => by rw [hr]; exact Or.inr (by rw [(am_un (show 1 ≠ 2 by omega) (am_un (show 1 ≠ 0 by omega) (am_us _ _ _)))]; exact Option.some_ne_none _)) (fun hr => (by rw [hr]; exact Or.inr (by rw [(am_us _ _ _)]; exact Option.some_ne_none _)))))) (fun r hr => am_mq hr)) (fun r hr => by simp only [am_mn, List.mem_cons, List.not_mem_nil, or_false, Value.ref.injEq, reduceCtorEq, false_or] at hr; exact (hr.elim (fun hr => by rw [hr]; exact Or.inr (by rw [(am_un (show 1 ≠ 3 by omega) (am_un (show 1 ≠ 0 by omega) (am_un (show 1 ≠ 2 by omega) (am_un (show 1 ≠ 0 by omega) (am_us _ _ _)))))]; exact Option.some_ne_none _)) (fun hr => (hr.elim (fun hr => by rw [hr]; exact Or.inr (by rw [(am_un (show 2 ≠ 3 by omega) (am_un (show 2 ≠ 0 by omega) (am_us _ _ _)))]; exact Option.some_ne_none _)) (fun hr => (by rw [hr]; exact Or.inr (by rw [(am_us _ _ _)]; exact Option.some_ne_none _)))))))) hi38) (am_nr_c (fun h => (show ¬ (0 = 4) by omega) (Value.ref.inj h)) (am_nr_c (fun h => (show ¬ (0 = 4) by omega) (Value.ref.inj h)) am_nr_nil)) 4 126 ⟨Nat.le_of_ble_eq_true rfl, Nat.le_of_ble_eq_true rfl, Nat.le_of_ble_eq_true rfl, Nat.le_of_ble_eq_true rfl⟩ dX5_init_38 ?_
  refine am_putf hF (am_un (show 0 ≠ 4 by omega) (am_us _ _ _)) (T := TX5) (N := 9) rfl (inG 5 inG5) tyX5 tyX5_ok nmX5 4 (by decide) (List.mem_cons_of_mem _ lf_RX5_31) rfl (Or.inr ⟨rfl, hname.symm, rfl⟩) rfl rfl (Nat.le_of_ble_eq_true rfl) dX5_init_41 ?_
  refine am_eqX (am_u (am_u (am_u (am_u (am_u (am_u (am_u (am_u (am_u (fun _ => none) 0 (.inr (5, [.null, .null, .null, .int 0, .null, .int 0, .null, .int 0, .int 0]))) 1 (.inl (2, 16, .inr (.inr (.inr (.inr (fun _ => none))))))) 0 (.inr (5, [.ref 1, .null, .null, .int 0, .null, .int 0, .null, .int 0, .int 0]))) 2 (.inl (0, 20, .inl (fun _ => 0)))) 0 (.inr (5, [.ref 1, .ref 2, .null, .int 0, .null, .int 0, .null, .int 0, .int 0]))) 3 (.inl (3, 10, .inr (.inr (.inr (.inr (fun _ => none))))))) 0 (.inr (5, [.ref 1, .ref 2, .ref 3, .int 0, .null, .int 0, .null, .int 0, .int 0]))) 4 (.inl (4, 80, .inr (.inr (.inr (.inr (fun _ => none))))))) 0 (.inr (5, [.ref 1, .ref 2, .ref 3, .int 0, .ref 4, .int 0, .null, .int 0, .int 0]))) (rfl) ?_
  refine am_go hF sgX5_init_44_9cf18 46 [(0, .ref 0)] [.int 0, .ref 0] sgX5_init_44_9cf18d rfl ?_
  refine am_putf hF (am_us _ _ _) (T := TX5) (N := 9) rfl (inG 5 inG5) tyX5 tyX5_ok nmX5 5 (by decide) (List.mem_cons_of_mem _ lf_RX5_35) rfl (Or.inl rfl) rfl rfl (Nat.le_of_ble_eq_true rfl) dX5_init_46 ?_
  refine am_eqX (am_u (am_u (am_u (am_u (am_u (am_u (am_u (am_u (am_u (fun _ => none) 0 (.inr (5, [.null, .null, .null, .int 0, .null, .int 0, .null, .int 0, .int 0]))) 1 (.inl (2, 16, .inr (.inr (.inr (.inr (fun _ => none))))))) 0 (.inr (5, [.ref 1, .null, .null, .int 0, .null, .int 0, .null, .int 0, .int 0]))) 2 (.inl (0, 20, .inl (fun _ => 0)))) 0 (.inr (5, [.ref 1, .ref 2, .null, .int 0, .null, .int 0, .null, .int 0, .int 0]))) 3 (.inl (3, 10, .inr (.inr (.inr (.inr (fun _ => none))))))) 0 (.inr (5, [.ref 1, .ref 2, .ref 3, .int 0, .null, .int 0, .null, .int 0, .int 0]))) 4 (.inl (4, 80, .inr (.inr (.inr (.inr (fun _ => none))))))) 0 (.inr (5, [.ref 1, .ref 2, .ref 3, .int 0, .ref 4, .int 0, .null, .int 0, .int 0]))) (am_uu _ _ _ _) ?_
  refine am_go hF sgX5_init_49_48c56 52 [(0, .ref 0)] [.int 80, .ref 0] sgX5_init_49_48c56d rfl ?_
  have hi52 : (am_u (am_u (am_u (am_u (am_u (am_u (am_u (am_u (am_u (fun _ => none) 0 (.inr (5, [.null, .null, .null, .int 0, .null, .int 0, .null, .int 0, .int 0]))) 1 (.inl (2, 16, .inr (.inr (.inr (.inr (fun _ => none))))))) 0 (.inr (5, [.ref 1, .null, .null, .int 0, .null, .int 0, .null, .int 0, .int 0]))) 2 (.inl (0, 20, .inl (fun _ => 0)))) 0 (.inr (5, [.ref 1, .ref 2, .null, .int 0, .null, .int 0, .null, .int 0, .int 0]))) 3 (.inl (3, 10, .inr (.inr (.inr (.inr (fun _ => none))))))) 0 (.inr (5, [.ref 1, .ref 2, .ref 3, .int 0, .null, .int 0, .null, .int 0, .int 0]))) 4 (.inl (4, 80, .inr (.inr (.inr (.inr (fun _ => none))))))) 0 (.inr (5, [.ref 1, .ref 2, .ref 3, .int 0, .ref 4, .int 0, .null, .int 0, .int 0]))) 5 = none := (am_un (show 5 ≠ 0 by omega) (am_un (show 5 ≠ 4 by omega) (am_un (show 5 ≠ 0 by omega) (am_un (show 5 ≠ 3 by omega) (am_un (show 5 ≠ 0 by omega) (am_un (show 5 ≠ 2 by omega) (am_un (show 5 ≠ 0 by omega) (am_un (show 5 ≠ 1 by omega) (am_un (by decide) rfl)))))))))
  refine am_newq hF hO (5) hi52 5 80 (by decide) rfl (List.mem_cons_of_mem _ lc_RX5_38) (by decide) rfl (by decide) (am_cl_fr (am_cl_u (i := 0) (e := (.inr (5, [.ref 1, .ref 2, .ref 3, .int 0, .ref 4, .int 0, .null, .int 0, .int 0]))) (am_cl_u (i := 4) (e := (.inl (4, 80, .inr (.inr (.inr (.inr (fun _ => none))))))) (am_cl_u (i := 0) (e := (.inr (5, [.ref 1, .ref 2, .ref 3, .int 0, .null, .int 0, .null, .int 0, .int 0]))) (am_cl_u (i := 3) (e := (.inl (3, 10, .inr (.inr (.inr (.inr (fun _ => none))))))) (am_cl_u (i := 0) (e := (.inr (5, [.ref 1, .ref 2, .null, .int 0, .null, .int 0, .null, .int 0, .int 0]))) (am_cl_u (i := 2) (e := (.inl (0, 20, .inl (fun _ => 0)))) (am_cl_u (i := 0) (e := (.inr (5, [.ref 1, .null, .null, .int 0, .null, .int 0, .null, .int 0, .int 0]))) (am_cl_u (i := 1) (e := (.inl (2, 16, .inr (.inr (.inr (.inr (fun _ => none))))))) (am_cl_u (i := 0) (e := (.inr (5, [.null, .null, .null, .int 0, .null, .int 0, .null, .int 0, .int 0]))) am_cl_0 (fun r hr => by simp [am_mn] at hr)) (fun r hr => am_mq hr)) (fun r hr => by simp only [am_mn, List.mem_cons, List.not_mem_nil, or_false, Value.ref.injEq, reduceCtorEq, false_or] at hr; exact (by rw [hr]; exact Or.inr (by rw [(am_us _ _ _)]; exact Option.some_ne_none _)))) (fun r hr => am_mi hr)) (fun r hr => by simp only [am_mn, List.mem_cons, List.not_mem_nil, or_false, Value.ref.injEq, reduceCtorEq, false_or] at hr; exact (hr.elim (fun hr => by rw [hr]; exact Or.inr (by rw [(am_un (show 1 ≠ 2 by omega) (am_un (show 1 ≠ 0 by omega) (am_us _ _ _)))]; exact Option.some_ne_none _)) (fun hr => (by rw [hr]; exact Or.inr (by rw [(am_us _ _ _)]; exact Option.some_ne_none _)))))) (fun r hr => am_mq hr)) (fun r hr => by simp only [am_mn, List.mem_cons, List.not_mem_nil, or_false, Value.ref.injEq, reduceCtorEq, false_or] at hr; exact (hr.elim (fun hr => by rw [hr]; exact Or.inr (by rw [(am_un (show 1 ≠ 3 by omega) (am_un (show 1 ≠ 0 by omega) (am_un (show 1 ≠ 2 by omega) (am_un (show 1 ≠ 0 by omega) (am_us _ _ _)))))]; exact Option.some_ne_none _)) (fun hr => (hr.elim (fun hr => by rw [hr]; exact Or.inr (by rw [(am_un (show 2 ≠ 3 by omega) (am_un (show 2 ≠ 0 by omega) (am_us _ _ _)))]; exact Option.some_ne_none _)) (fun hr => (by rw [hr]; exact Or.inr (by rw [(am_us _ _ _)]; exact Option.some_ne_none _)))))))) (fun r hr => am_mq hr)) (fun r hr => by simp only [am_mn, List.mem_cons, List.not_mem_nil, or_false, Value.ref.injEq, reduceCtorEq, false_or] at hr; exact (hr.elim (fun hr => by rw [hr]; exact Or.inr (by rw [(am_un (show 1 ≠ 4 by omega) (am_un (show 1 ≠ 0 by omega) (am_un (show 1 ≠ 3 by omega) (am_un (show 1 ≠ 0 by omega) (am_un (show 1 ≠ 2 by omega) (am_un (show 1 ≠ 0 by omega) (am_us _ _ _)))))))]; exact Option.some_ne_none _)) (fun hr => (hr.elim (fun hr => by rw [hr]; exact Or.inr (by rw [(am_un (show 2 ≠ 4 by omega) (am_un (show 2 ≠ 0 by omega) (am_un (show 2 ≠ 3 by omega) (am_un (show 2 ≠ 0 by omega) (am_us _ _ _)))))]; exact Option.some_ne_none _)) (fun hr => (hr.elim (fun hr => by rw [hr]; exact Or.inr (by rw [(am_un (show 3 ≠ 4 by omega) (am_un (show 3 ≠ 0 by omega) (am_us _ _ _)))]; exact Option.some_ne_none _)) (fun hr => (by rw [hr]; exact Or.inr (by rw [(am_us _ _ _)]; exact Option.some_ne_none _)))))))))) hi52) (am_nr_c (fun h => (show ¬ (0 = 5) by omega) (Value.ref.inj h)) (am_nr_c (fun h => (show ¬ (0 = 5) by omega) (Value.ref.inj h)) am_nr_nil)) 5 206 ⟨Nat.le_of_ble_eq_true rfl, Nat.le_of_ble_eq_true rfl, Nat.le_of_ble_eq_true rfl, Nat.le_of_ble_eq_true rfl⟩ dX5_init_52 ?_
  refine am_putf hF (am_un (show 0 ≠ 5 by omega) (am_us _ _ _)) (T := TX5) (N := 9) rfl (inG 5 inG5) tyX5 tyX5_ok nmX5 6 (by decide) (List.mem_cons_of_mem _ lf_RX5_40) rfl (Or.inr ⟨rfl, hname.symm, rfl⟩) rfl rfl (Nat.le_of_ble_eq_true rfl) dX5_init_55 ?_
  refine am_eqX (am_u (am_u (am_u (am_u (am_u (am_u (am_u (am_u (am_u (am_u (am_u (fun _ => none) 0 (.inr (5, [.null, .null, .null, .int 0, .null, .int 0, .null, .int 0, .int 0]))) 1 (.inl (2, 16, .inr (.inr (.inr (.inr (fun _ => none))))))) 0 (.inr (5, [.ref 1, .null, .null, .int 0, .null, .int 0, .null, .int 0, .int 0]))) 2 (.inl (0, 20, .inl (fun _ => 0)))) 0 (.inr (5, [.ref 1, .ref 2, .null, .int 0, .null, .int 0, .null, .int 0, .int 0]))) 3 (.inl (3, 10, .inr (.inr (.inr (.inr (fun _ => none))))))) 0 (.inr (5, [.ref 1, .ref 2, .ref 3, .int 0, .null, .int 0, .null, .int 0, .int 0]))) 4 (.inl (4, 80, .inr (.inr (.inr (.inr (fun _ => none))))))) 0 (.inr (5, [.ref 1, .ref 2, .ref 3, .int 0, .ref 4, .int 0, .null, .int 0, .int 0]))) 5 (.inl (5, 80, .inr (.inr (.inr (.inr (fun _ => none))))))) 0 (.inr (5, [.ref 1, .ref 2, .ref 3, .int 0, .ref 4, .int 0, .ref 5, .int 0, .int 0]))) (rfl) ?_
  refine am_go hF sgX5_init_58_9cf18 60 [(0, .ref 0)] [.int 0, .ref 0] sgX5_init_58_9cf18d rfl ?_
  refine am_putf hF (am_us _ _ _) (T := TX5) (N := 9) rfl (inG 5 inG5) tyX5 tyX5_ok nmX5 7 (by decide) (List.mem_cons_of_mem _ lf_RX5_44) rfl (Or.inl rfl) rfl rfl (Nat.le_of_ble_eq_true rfl) dX5_init_60 ?_
  refine am_eqX (am_u (am_u (am_u (am_u (am_u (am_u (am_u (am_u (am_u (am_u (am_u (fun _ => none) 0 (.inr (5, [.null, .null, .null, .int 0, .null, .int 0, .null, .int 0, .int 0]))) 1 (.inl (2, 16, .inr (.inr (.inr (.inr (fun _ => none))))))) 0 (.inr (5, [.ref 1, .null, .null, .int 0, .null, .int 0, .null, .int 0, .int 0]))) 2 (.inl (0, 20, .inl (fun _ => 0)))) 0 (.inr (5, [.ref 1, .ref 2, .null, .int 0, .null, .int 0, .null, .int 0, .int 0]))) 3 (.inl (3, 10, .inr (.inr (.inr (.inr (fun _ => none))))))) 0 (.inr (5, [.ref 1, .ref 2, .ref 3, .int 0, .null, .int 0, .null, .int 0, .int 0]))) 4 (.inl (4, 80, .inr (.inr (.inr (.inr (fun _ => none))))))) 0 (.inr (5, [.ref 1, .ref 2, .ref 3, .int 0, .ref 4, .int 0, .null, .int 0, .int 0]))) 5 (.inl (5, 80, .inr (.inr (.inr (.inr (fun _ => none))))))) 0 (.inr (5, [.ref 1, .ref 2, .ref 3, .int 0, .ref 4, .int 0, .ref 5, .int 0, .int 0]))) (am_uu _ _ _ _) ?_
  refine am_go hF sgX5_init_63_9cf18 65 [(0, .ref 0)] [.int 0, .ref 0] sgX5_init_63_9cf18d rfl ?_
  refine am_putf hF (am_us _ _ _) (T := TX5) (N := 9) rfl (inG 5 inG5) tyX5 tyX5_ok nmX5 8 (by decide) (List.mem_cons_of_mem _ lf_RX5_47) rfl (Or.inl rfl) rfl rfl (Nat.le_of_ble_eq_true rfl) dX5_init_65 ?_
  refine am_eqX (am_u (am_u (am_u (am_u (am_u (am_u (am_u (am_u (am_u (am_u (am_u (fun _ => none) 0 (.inr (5, [.null, .null, .null, .int 0, .null, .int 0, .null, .int 0, .int 0]))) 1 (.inl (2, 16, .inr (.inr (.inr (.inr (fun _ => none))))))) 0 (.inr (5, [.ref 1, .null, .null, .int 0, .null, .int 0, .null, .int 0, .int 0]))) 2 (.inl (0, 20, .inl (fun _ => 0)))) 0 (.inr (5, [.ref 1, .ref 2, .null, .int 0, .null, .int 0, .null, .int 0, .int 0]))) 3 (.inl (3, 10, .inr (.inr (.inr (.inr (fun _ => none))))))) 0 (.inr (5, [.ref 1, .ref 2, .ref 3, .int 0, .null, .int 0, .null, .int 0, .int 0]))) 4 (.inl (4, 80, .inr (.inr (.inr (.inr (fun _ => none))))))) 0 (.inr (5, [.ref 1, .ref 2, .ref 3, .int 0, .ref 4, .int 0, .null, .int 0, .int 0]))) 5 (.inl (5, 80, .inr (.inr (.inr (.inr (fun _ => none))))))) 0 (.inr (5, [.ref 1, .ref 2, .ref 3, .int 0, .ref 4, .int 0, .ref 5, .int 0, .int 0]))) (am_uu _ _ _ _) ?_
  refine am_go hF sgX5_init_68_67c14 70 [(1, .int 0), (0, .ref 0)] [] sgX5_init_68_67c14d rfl ?_
  refine am_eqX (hI 0) hI_start ?_
  refine am_drop [1, 0] [(0, .ref 0), (1, .int 0)] rfl ?_
  have lp70 : ∀ (d j : Nat), j + d = 16 → am_W C (hI j) (5 + 2 * j) (206 + 15 * j) 70 [(0, .ref 0), (1, .int (nI j))] [] := by
    intro d
    induction d with
    | zero =>
      intro j hj
      have e9 : j = 16 := by omega
      refine am_go hF sgX5_init_70_fc5a5 73 [(0, .ref 0), (1, .int (nI j))] [.int 16, .int (nI j)] sgX5_init_70_fc5a5d rfl ?_
      refine am_icmpge hF 95 dX5_init_73 (by decide) (fun _ => ?_) (fun h9 => absurd (nc_ge (show 16 ≤ j by omega) (by omega) (by omega) rfl rfl) h9)
      subst e9
      exact am_vret hF hO hret dX5_init_95 ⟨hI_16, rfl⟩
    | succ d ih =>
      intro j hj
      refine am_go hF sgX5_init_70_fc5a5 73 [(0, .ref 0), (1, .int (nI j))] [.int 16, .int (nI j)] sgX5_init_70_fc5a5d rfl ?_
      refine am_icmpge hF 95 dX5_init_73 (by decide) (fun h9 => False.elim (nc_lt_f (show j < 16 by omega) (by omega) (by omega) rfl rfl h9)) (fun _ => ?_)
      refine am_go hF sgX5_init_76_34db8 77 [(0, .ref 0), (1, .int (nI j))] [.ref 0] sgX5_init_76_34db8d rfl ?_
      refine am_getf hF (hI_0 j) (T := TX5) (N := 9) rfl (inG 5 inG5) 0 (by decide) (List.mem_cons_of_mem _ lf_RX5_11) rfl (.ref 1) rfl dX5_init_77 ?_
      refine am_go hF sgX5_init_80_840bf 81 [(0, .ref 0), (1, .int (nI j))] [.int (nI j), .ref 1] sgX5_init_80_840bfd rfl ?_
      have hi81 := hI_p (show j < 16 by omega)
      have hb81 := hI_b (show j < 16 by omega)
      have hcl9 := hI_cl j (by omega)
      refine am_new hF hO (16 + j) hi81 (ci := 3) rfl (inG 3 inG3) tyX3 tyX3_ok (List.mem_cons_of_mem _ lc_RX5_9) (List.mem_cons_of_mem _ li_RX3) (List.mem_cons_of_mem _ lz_RX3) (fs := [.int 0, .int 0, .int 0, .null, .int 0]) hfsX3 (fun _ => rfl) (am_cl_fr hcl9 hi81) (am_nr_c (fun h => (show ¬ (0 = 16 + j) by omega) (Value.ref.inj h)) (am_nr_c (fun h => by cases h) (am_nr_c (fun h => by cases h) (am_nr_c (fun h => (show ¬ (1 = 16 + j) by omega) (Value.ref.inj h)) am_nr_nil)))) (5 + 2 * j + 1) (206 + 15 * j + 5) ⟨by omega, by omega, by show _ ≤ 37; omega, by show _ ≤ 446; omega⟩ dX5_init_81 ?_
      refine am_go hF sgX5_init_84_4b010 85 [(0, .ref 0), (1, .int (nI j))] [.ref (16 + j), .ref (16 + j), .int (nI j), .ref 1] sgX5_init_84_4b010d rfl ?_
      refine am_dIN hF hO (X := (am_u (hI j) (16 + j) (.inr (3, [.int 0, .int 0, .int 0, .null, .int 0])))) [] [.ref (16 + j), .int (nI j), .ref 1] (c_newP (i := 16 + j) (j := 32 + j) (am_us _ _ _) (am_un (show 32 + j ≠ 16 + j by omega) hb81) (by omega) (am_cl_u (i := 16 + j) (e := (.inr (3, [.int 0, .int 0, .int 0, .null, .int 0]))) hcl9 (fun r hr => by simp [am_mn] at hr))) myX3_init iyX3_init rfl (by decide +kernel) rfl (5 + 2 * j + 2) (206 + 15 * j + 15) ⟨Nat.le_of_ble_eq_true rfl, Nat.le_of_ble_eq_true rfl⟩ ⟨by show _ + 1 ≤ _; omega, by show _ + 10 ≤ _; omega, by show _ ≤ 37; omega, by show _ ≤ 446; omega⟩ rfl (am_lv_ref (am_un (show 0 ≠ 16 + j by omega) (hI_0 j)) (am_lv_int (am_lv_ref (am_us _ _ _) (am_lv_int (am_lv_ref (am_un (show 1 ≠ 16 + j by omega) (hI_1 j)) am_lv_nil))))) (Nat.le_of_ble_eq_true rfl) dX5_init_85 ?_
      refine am_aast hF (am_un (show 1 ≠ 16 + j by omega) (am_un (show 1 ≠ 32 + j by omega) (am_un (show 1 ≠ 16 + j by omega) (hI_1 j)))) (by decide) (show vwCl[3]? = some (RX3, TX3, 5) from rfl) rfl (am_us _ _ _) j rfl (show j < 16 by omega) (by decide) dX5_init_88 ?_
      refine am_eqX (hI (j + 1)) (hI_s (show j < 16 by omega)) ?_
      refine am_go hF sgX5_init_89_0cd62 70 [(1, .int (nI j + 1)), (0, .ref 0)] [] sgX5_init_89_0cd62d rfl ?_
      refine am_drop [1, 0] [(0, .ref 0), (1, .int (nI j + 1))] rfl ?_
      refine am_eqL [(0, .ref 0), (1, .int (nI (j + 1)))] (by rw [nI_1]) ?_
      refine am_widen (k' := 5 + 2 * (j + 1)) (n' := 206 + 15 * (j + 1)) (by omega) (by omega) ?_
      exact ih (j + 1) (by omega)
  refine am_widen (k' := 5 + 2 * 0) (n' := 206 + 15 * 0) (Nat.le_refl _) (Nat.le_refl _) ?_
  exact lp70 16 0 (by omega)
/-! the reference's constructor -/
def S0 : am_T := fun _ _ => 0
def mZ (f : Nat) : va_E := .inl (mT f, mL f, .inl (fun _ => 0))
def am_ms (X : am_H) : List Nat → am_H
  | [] => X
  | f :: r => am_u (am_ms X r) (500 + f) (mZ f)
def mCell (l : List Nat) : List Value := (List.range 36).map (fun g => if mSc g = true then .int 0 else if g ∈ l then .ref (500 + g) else .null)
theorem am_ms_at (X : am_H) (l : List Nat) (i : Nat) : am_ms X l i = if 500 ≤ i ∧ i - 500 ∈ l then some (mZ (i - 500)) else X i := by
  induction l with
  | nil => show X i = _; rw [if_neg (fun h => absurd h.2 List.not_mem_nil)]
  | cons f r ih =>
    show am_u (am_ms X r) (500 + f) (mZ f) i = _
    unfold am_u
    by_cases h : i = 500 + f
    · rw [if_pos h, if_pos ⟨by omega, by rw [show i - 500 = f by omega]; exact List.mem_cons_self⟩, show i - 500 = f by omega]
    · rw [if_neg h, ih]
      by_cases h2 : 500 ≤ i ∧ i - 500 ∈ r
      · rw [if_pos h2, if_pos ⟨h2.1, List.mem_cons_of_mem _ h2.2⟩]
      · rw [if_neg h2, if_neg (fun h3 => h2 ⟨h3.1, (List.mem_cons.mp h3.2).resolve_left (fun e => h (by omega))⟩)]
theorem am_ms_none {X : am_H} {l : List Nat} {f : Nat} {e : va_E} (hX : ∀ i, 465 < i → X i = none) (hf : f ∉ l) : am_u (am_ms X l) 465 e (500 + f) = none := by
  refine am_un (by omega) ?_
  rw [am_ms_at, if_neg (fun h => hf (by have h2 := h.2; rw [show 500 + f - 500 = f by omega] at h2; exact h2)), hX _ (by omega)]
theorem am_ms_cl {X : am_H} {l : List Nat} (hcl : am_cl X) : am_cl (am_u (am_ms X l) 465 (.inr (6, mCell l))) := by
  have h1 : am_cl (am_ms X l) := by
    induction l with
    | nil => exact hcl
    | cons f r ih => exact am_cl_u ih (fun r hr => am_mi hr)
  refine am_cl_u h1 (fun r hr => ?_)
  obtain ⟨g, hg, e⟩ := List.mem_map.mp (show Value.ref r ∈ mCell l from hr)
  by_cases h2 : mSc g = true
  · rw [if_pos h2] at e; cases e
  · rw [if_neg h2] at e
    by_cases h3 : g ∈ l
    · rw [if_pos h3] at e
      cases e
      refine Or.inr ?_
      rw [am_ms_at, if_pos ⟨by omega, by rw [show 500 + g - 500 = g by omega]; exact h3⟩]
      exact Option.some_ne_none _
    · rw [if_neg h3] at e; cases e
theorem am_u_id {X : am_H} {i : Nat} {e : va_E} (h : X i = some e) : am_u X i e = X := by
  funext j
  unfold am_u
  by_cases hj : j = i
  · rw [if_pos hj, hj, h]
  · rw [if_neg hj]
theorem mCell_s : ∀ f, f < 36 → mSc f = false → ∀ l, (mCell l).set f (.ref (500 + f)) = mCell (f :: l) := by
  intro f hf hs l
  unfold mCell
  apply List.ext_getElem?
  intro g
  rw [List.getElem?_set, List.length_map, List.length_range]
  by_cases h : f = g
  · subst h
    rw [if_pos rfl, if_pos hf, List.getElem?_map, List.getElem?_range hf]
    show some _ = some (if mSc f = true then _ else _)
    rw [hs, if_neg (by decide), if_pos List.mem_cons_self]
  · rw [if_neg h, List.getElem?_map, List.getElem?_map]
    by_cases h9 : g < 36
    · rw [List.getElem?_range h9]
      show some _ = some _
      have e : (g ∈ f :: l) ↔ g ∈ l := by
        constructor
        · intro h2; exact (List.mem_cons.mp h2).resolve_left (fun e => h e.symm)
        · exact List.mem_cons_of_mem _
      simp only [e]
    · rw [List.getElem?_eq_none (by rw [List.length_range]; omega)]
      rfl
def mAll : List Nat := [35, 34, 33, 32, 31, 30, 29, 28, 27, 26, 25, 24, 23, 22, 21, 20, 19, 18, 16, 15, 14, 13, 12, 11, 10, 8, 7, 6, 5, 4, 3]
theorem am_ms_all {X : am_H} (hX : ∀ i, 465 < i → X i = none) : am_u (am_ms X mAll) 465 (.inr (6, mCell mAll)) = fun i => if i < 465 then X i else hpM S0 i := by
  have hin : ∀ f, f < 36 → (mSc f = true ↔ f ∉ mAll) := by decide +kernel
  funext i
  unfold am_u
  by_cases h : i = 465
  · subst h
    rw [if_pos rfl, if_neg (by decide)]
    unfold hpM
    rw [if_pos (by decide), if_pos rfl]
    congr 2
  · rw [if_neg h, am_ms_at]
    by_cases h4 : i < 465
    · rw [if_neg (by omega), if_pos h4]
    · rw [if_neg h4, hX i (by omega)]
      unfold hpM
      by_cases h5 : i < 500
      · rw [if_neg (by omega), if_pos h5, if_neg h]
      · rw [if_neg h5]
        by_cases h6 : i < 536
        · rw [if_pos h6]
          by_cases h7 : mSc (i - 500) = true
          · rw [if_pos h7, if_neg (fun h8 => ((hin (i - 500) (by omega)).mp h7) h8.2)]
          · rw [if_neg h7, if_pos ⟨by omega, Decidable.not_not.mp (fun h3 => h7 ((hin (i - 500) (by omega)).mpr h3))⟩]
            rfl
        · rw [if_neg h6, if_neg (fun h8 => absurd h8.2 (by
            have h9 : ∀ f ∈ mAll, f < 36 := by decide +kernel
            intro h10
            have := h9 _ h10
            omega))]
set_option maxRecDepth 100000 in
set_option maxHeartbeats 4000000 in
theorem c_init6 {G : am_S} {X : am_H} (hX : X 465 = some (.inr (6, [.int 0, .int 0, .int 0, .null, .null, .null, .null, .null, .null, .int 0, .null, .null, .null, .null, .null, .null, .null, .int 0, .null, .null, .null, .null, .null, .null, .null, .null, .null, .null, .null, .null, .null, .null, .null, .null, .null, .null]))) (hn : ∀ i, 465 < i → X i = none) (hcl : am_cl X) : am_D G yX6_init (.code yX6_init cX6_init 1 none :: am_G) { frames := 1, cells := 31, slots := 18344, locals := 20 } X [.ref 465] (fun i => if i < 465 then X i else hpM S0 i) none := by
  refine am_of (by decide +kernel) (Nat.le_of_ble_eq_true rfl) ?_
  intro C hse hret hname hF hO
  subst hse
  refine am_go hF sgX6_init_0_34db8 1 [(0, .ref 465)] [.ref 465] sgX6_init_0_34db8d rfl ?_
  refine am_oinit hF hO (List.mem_cons_of_mem _ lm_RX6_1) (List.mem_cons_of_mem _ lo_inst) (List.mem_cons_of_mem _ lo_code) ⟨Nat.le_of_ble_eq_true rfl, Nat.le_of_ble_eq_true rfl⟩ dX6_init_1 ?_
  refine am_eqX (am_u (am_ms X []) 465 (.inr (6, mCell []))) (am_u_id hX).symm ?_
  refine am_go hF sgX6_init_4_d6fd4 7 [(0, .ref 465)] [.int (Int8.ofInt 20).toInt32, .ref 465] sgX6_init_4_d6fd4d rfl ?_
  have hn3 : (am_u (am_ms X []) 465 (.inr (6, mCell []))) (500 + 3) = none := am_ms_none hn (by decide)
  refine am_newa hF hO (500 + 3) hn3 0 20 (a0 := (20, .inl (fun _ => 0))) (atype := .int) (by decide) rfl (List.mem_cons_of_mem _ la_int) (fun _ => rfl) (fun _ => rfl) (by decide +kernel) (by decide) (am_cl_fr (am_ms_cl hcl) hn3) (am_nr_c (fun h => (show ¬ (465 = 500 + 3) by omega) (Value.ref.inj h)) (am_nr_c (fun h => (show ¬ (465 = 500 + 3) by omega) (Value.ref.inj h)) am_nr_nil)) 1 20 ⟨Nat.le_of_ble_eq_true rfl, Nat.le_of_ble_eq_true rfl, Nat.le_of_ble_eq_true rfl, Nat.le_of_ble_eq_true rfl⟩ dX6_init_7 ?_
  refine am_putf hF (am_un (show 465 ≠ 500 + 3 by omega) (am_us _ _ _)) (T := TX6) (N := 36) rfl (inG 6 inG6) tyX6 tyX6_ok nmX6 3 (by decide) (List.mem_cons_of_mem _ lf_RX6_7) rfl (Or.inr ⟨rfl, hname.symm, rfl⟩) rfl rfl (Nat.le_of_ble_eq_true rfl) dX6_init_9 ?_
  refine am_eqX (am_u (am_ms X [3]) 465 (.inr (6, mCell [3]))) ((congrArg (fun c9 => am_u _ 465 (.inr (6, c9))) (mCell_s 3 (by decide) rfl [])).trans (am_ub _ _ _ _ _ _)) ?_
  refine am_go hF sgX6_init_12_4e27c 15 [(0, .ref 465)] [.int (Int8.ofInt 16).toInt32, .ref 465] sgX6_init_12_4e27cd rfl ?_
  have hn4 : (am_u (am_ms X [3]) 465 (.inr (6, mCell [3]))) (500 + 4) = none := am_ms_none hn (by decide)
  refine am_newa hF hO (500 + 4) hn4 0 16 (a0 := (16, .inl (fun _ => 0))) (atype := .int) (by decide) rfl (List.mem_cons_of_mem _ la_int) (fun _ => rfl) (fun _ => rfl) (by decide +kernel) (by decide) (am_cl_fr (am_ms_cl hcl) hn4) (am_nr_c (fun h => (show ¬ (465 = 500 + 4) by omega) (Value.ref.inj h)) (am_nr_c (fun h => (show ¬ (465 = 500 + 4) by omega) (Value.ref.inj h)) am_nr_nil)) 2 36 ⟨Nat.le_of_ble_eq_true rfl, Nat.le_of_ble_eq_true rfl, Nat.le_of_ble_eq_true rfl, Nat.le_of_ble_eq_true rfl⟩ dX6_init_15 ?_
  refine am_putf hF (am_un (show 465 ≠ 500 + 4 by omega) (am_us _ _ _)) (T := TX6) (N := 36) rfl (inG 6 inG6) tyX6 tyX6_ok nmX6 4 (by decide) (List.mem_cons_of_mem _ lf_RX6_13) rfl (Or.inr ⟨rfl, hname.symm, rfl⟩) rfl rfl (Nat.le_of_ble_eq_true rfl) dX6_init_17 ?_
  refine am_eqX (am_u (am_ms X [4, 3]) 465 (.inr (6, mCell [4, 3]))) ((congrArg (fun c9 => am_u _ 465 (.inr (6, c9))) (mCell_s 4 (by decide) rfl [3])).trans (am_ub _ _ _ _ _ _)) ?_
  refine am_go hF sgX6_init_20_4e27c 23 [(0, .ref 465)] [.int (Int8.ofInt 16).toInt32, .ref 465] sgX6_init_20_4e27cd rfl ?_
  have hn5 : (am_u (am_ms X [4, 3]) 465 (.inr (6, mCell [4, 3]))) (500 + 5) = none := am_ms_none hn (by decide)
  refine am_newa hF hO (500 + 5) hn5 0 16 (a0 := (16, .inl (fun _ => 0))) (atype := .int) (by decide) rfl (List.mem_cons_of_mem _ la_int) (fun _ => rfl) (fun _ => rfl) (by decide +kernel) (by decide) (am_cl_fr (am_ms_cl hcl) hn5) (am_nr_c (fun h => (show ¬ (465 = 500 + 5) by omega) (Value.ref.inj h)) (am_nr_c (fun h => (show ¬ (465 = 500 + 5) by omega) (Value.ref.inj h)) am_nr_nil)) 3 52 ⟨Nat.le_of_ble_eq_true rfl, Nat.le_of_ble_eq_true rfl, Nat.le_of_ble_eq_true rfl, Nat.le_of_ble_eq_true rfl⟩ dX6_init_23 ?_
  refine am_putf hF (am_un (show 465 ≠ 500 + 5 by omega) (am_us _ _ _)) (T := TX6) (N := 36) rfl (inG 6 inG6) tyX6 tyX6_ok nmX6 5 (by decide) (List.mem_cons_of_mem _ lf_RX6_16) rfl (Or.inr ⟨rfl, hname.symm, rfl⟩) rfl rfl (Nat.le_of_ble_eq_true rfl) dX6_init_25 ?_
  refine am_eqX (am_u (am_ms X [5, 4, 3]) 465 (.inr (6, mCell [5, 4, 3]))) ((congrArg (fun c9 => am_u _ 465 (.inr (6, c9))) (mCell_s 5 (by decide) rfl [4, 3])).trans (am_ub _ _ _ _ _ _)) ?_
  refine am_go hF sgX6_init_28_4e27c 31 [(0, .ref 465)] [.int (Int8.ofInt 16).toInt32, .ref 465] sgX6_init_28_4e27cd rfl ?_
  have hn6 : (am_u (am_ms X [5, 4, 3]) 465 (.inr (6, mCell [5, 4, 3]))) (500 + 6) = none := am_ms_none hn (by decide)
  refine am_newa hF hO (500 + 6) hn6 0 16 (a0 := (16, .inl (fun _ => 0))) (atype := .int) (by decide) rfl (List.mem_cons_of_mem _ la_int) (fun _ => rfl) (fun _ => rfl) (by decide +kernel) (by decide) (am_cl_fr (am_ms_cl hcl) hn6) (am_nr_c (fun h => (show ¬ (465 = 500 + 6) by omega) (Value.ref.inj h)) (am_nr_c (fun h => (show ¬ (465 = 500 + 6) by omega) (Value.ref.inj h)) am_nr_nil)) 4 68 ⟨Nat.le_of_ble_eq_true rfl, Nat.le_of_ble_eq_true rfl, Nat.le_of_ble_eq_true rfl, Nat.le_of_ble_eq_true rfl⟩ dX6_init_31 ?_
  refine am_putf hF (am_un (show 465 ≠ 500 + 6 by omega) (am_us _ _ _)) (T := TX6) (N := 36) rfl (inG 6 inG6) tyX6 tyX6_ok nmX6 6 (by decide) (List.mem_cons_of_mem _ lf_RX6_19) rfl (Or.inr ⟨rfl, hname.symm, rfl⟩) rfl rfl (Nat.le_of_ble_eq_true rfl) dX6_init_33 ?_
  refine am_eqX (am_u (am_ms X [6, 5, 4, 3]) 465 (.inr (6, mCell [6, 5, 4, 3]))) ((congrArg (fun c9 => am_u _ 465 (.inr (6, c9))) (mCell_s 6 (by decide) rfl [5, 4, 3])).trans (am_ub _ _ _ _ _ _)) ?_
  refine am_go hF sgX6_init_36_4e27c 39 [(0, .ref 465)] [.int (Int8.ofInt 16).toInt32, .ref 465] sgX6_init_36_4e27cd rfl ?_
  have hn7 : (am_u (am_ms X [6, 5, 4, 3]) 465 (.inr (6, mCell [6, 5, 4, 3]))) (500 + 7) = none := am_ms_none hn (by decide)
  refine am_newa hF hO (500 + 7) hn7 0 16 (a0 := (16, .inl (fun _ => 0))) (atype := .int) (by decide) rfl (List.mem_cons_of_mem _ la_int) (fun _ => rfl) (fun _ => rfl) (by decide +kernel) (by decide) (am_cl_fr (am_ms_cl hcl) hn7) (am_nr_c (fun h => (show ¬ (465 = 500 + 7) by omega) (Value.ref.inj h)) (am_nr_c (fun h => (show ¬ (465 = 500 + 7) by omega) (Value.ref.inj h)) am_nr_nil)) 5 84 ⟨Nat.le_of_ble_eq_true rfl, Nat.le_of_ble_eq_true rfl, Nat.le_of_ble_eq_true rfl, Nat.le_of_ble_eq_true rfl⟩ dX6_init_39 ?_
  refine am_putf hF (am_un (show 465 ≠ 500 + 7 by omega) (am_us _ _ _)) (T := TX6) (N := 36) rfl (inG 6 inG6) tyX6 tyX6_ok nmX6 7 (by decide) (List.mem_cons_of_mem _ lf_RX6_22) rfl (Or.inr ⟨rfl, hname.symm, rfl⟩) rfl rfl (Nat.le_of_ble_eq_true rfl) dX6_init_41 ?_
  refine am_eqX (am_u (am_ms X [7, 6, 5, 4, 3]) 465 (.inr (6, mCell [7, 6, 5, 4, 3]))) ((congrArg (fun c9 => am_u _ 465 (.inr (6, c9))) (mCell_s 7 (by decide) rfl [6, 5, 4, 3])).trans (am_ub _ _ _ _ _ _)) ?_
  refine am_go hF sgX6_init_44_d0ab0 48 [(0, .ref 465)] [.int (Int16.ofInt 160).toInt32, .ref 465] sgX6_init_44_d0ab0d rfl ?_
  have hn8 : (am_u (am_ms X [7, 6, 5, 4, 3]) 465 (.inr (6, mCell [7, 6, 5, 4, 3]))) (500 + 8) = none := am_ms_none hn (by decide)
  refine am_newa hF hO (500 + 8) hn8 0 160 (a0 := (160, .inl (fun _ => 0))) (atype := .int) (by decide) rfl (List.mem_cons_of_mem _ la_int) (fun _ => rfl) (fun _ => rfl) (by decide +kernel) (by decide) (am_cl_fr (am_ms_cl hcl) hn8) (am_nr_c (fun h => (show ¬ (465 = 500 + 8) by omega) (Value.ref.inj h)) (am_nr_c (fun h => (show ¬ (465 = 500 + 8) by omega) (Value.ref.inj h)) am_nr_nil)) 6 244 ⟨Nat.le_of_ble_eq_true rfl, Nat.le_of_ble_eq_true rfl, Nat.le_of_ble_eq_true rfl, Nat.le_of_ble_eq_true rfl⟩ dX6_init_48 ?_
  refine am_putf hF (am_un (show 465 ≠ 500 + 8 by omega) (am_us _ _ _)) (T := TX6) (N := 36) rfl (inG 6 inG6) tyX6 tyX6_ok nmX6 8 (by decide) (List.mem_cons_of_mem _ lf_RX6_25) rfl (Or.inr ⟨rfl, hname.symm, rfl⟩) rfl rfl (Nat.le_of_ble_eq_true rfl) dX6_init_50 ?_
  refine am_eqX (am_u (am_ms X [8, 7, 6, 5, 4, 3]) 465 (.inr (6, mCell [8, 7, 6, 5, 4, 3]))) ((congrArg (fun c9 => am_u _ 465 (.inr (6, c9))) (mCell_s 8 (by decide) rfl [7, 6, 5, 4, 3])).trans (am_ub _ _ _ _ _ _)) ?_
  refine am_go hF sgX6_init_53_a1289 56 [(0, .ref 465)] [.int (Int8.ofInt 10).toInt32, .ref 465] sgX6_init_53_a1289d rfl ?_
  have hn10 : (am_u (am_ms X [8, 7, 6, 5, 4, 3]) 465 (.inr (6, mCell [8, 7, 6, 5, 4, 3]))) (500 + 10) = none := am_ms_none hn (by decide)
  refine am_newa hF hO (500 + 10) hn10 0 10 (a0 := (10, .inl (fun _ => 0))) (atype := .int) (by decide) rfl (List.mem_cons_of_mem _ la_int) (fun _ => rfl) (fun _ => rfl) (by decide +kernel) (by decide) (am_cl_fr (am_ms_cl hcl) hn10) (am_nr_c (fun h => (show ¬ (465 = 500 + 10) by omega) (Value.ref.inj h)) (am_nr_c (fun h => (show ¬ (465 = 500 + 10) by omega) (Value.ref.inj h)) am_nr_nil)) 7 254 ⟨Nat.le_of_ble_eq_true rfl, Nat.le_of_ble_eq_true rfl, Nat.le_of_ble_eq_true rfl, Nat.le_of_ble_eq_true rfl⟩ dX6_init_56 ?_
  refine am_putf hF (am_un (show 465 ≠ 500 + 10 by omega) (am_us _ _ _)) (T := TX6) (N := 36) rfl (inG 6 inG6) tyX6 tyX6_ok nmX6 10 (by decide) (List.mem_cons_of_mem _ lf_RX6_28) rfl (Or.inr ⟨rfl, hname.symm, rfl⟩) rfl rfl (Nat.le_of_ble_eq_true rfl) dX6_init_58 ?_
  refine am_eqX (am_u (am_ms X [10, 8, 7, 6, 5, 4, 3]) 465 (.inr (6, mCell [10, 8, 7, 6, 5, 4, 3]))) ((congrArg (fun c9 => am_u _ 465 (.inr (6, c9))) (mCell_s 10 (by decide) rfl [8, 7, 6, 5, 4, 3])).trans (am_ub _ _ _ _ _ _)) ?_
  refine am_go hF sgX6_init_61_a1289 64 [(0, .ref 465)] [.int (Int8.ofInt 10).toInt32, .ref 465] sgX6_init_61_a1289d rfl ?_
  have hn11 : (am_u (am_ms X [10, 8, 7, 6, 5, 4, 3]) 465 (.inr (6, mCell [10, 8, 7, 6, 5, 4, 3]))) (500 + 11) = none := am_ms_none hn (by decide)
  refine am_newa hF hO (500 + 11) hn11 0 10 (a0 := (10, .inl (fun _ => 0))) (atype := .int) (by decide) rfl (List.mem_cons_of_mem _ la_int) (fun _ => rfl) (fun _ => rfl) (by decide +kernel) (by decide) (am_cl_fr (am_ms_cl hcl) hn11) (am_nr_c (fun h => (show ¬ (465 = 500 + 11) by omega) (Value.ref.inj h)) (am_nr_c (fun h => (show ¬ (465 = 500 + 11) by omega) (Value.ref.inj h)) am_nr_nil)) 8 264 ⟨Nat.le_of_ble_eq_true rfl, Nat.le_of_ble_eq_true rfl, Nat.le_of_ble_eq_true rfl, Nat.le_of_ble_eq_true rfl⟩ dX6_init_64 ?_
  refine am_putf hF (am_un (show 465 ≠ 500 + 11 by omega) (am_us _ _ _)) (T := TX6) (N := 36) rfl (inG 6 inG6) tyX6 tyX6_ok nmX6 11 (by decide) (List.mem_cons_of_mem _ lf_RX6_31) rfl (Or.inr ⟨rfl, hname.symm, rfl⟩) rfl rfl (Nat.le_of_ble_eq_true rfl) dX6_init_66 ?_
  refine am_eqX (am_u (am_ms X [11, 10, 8, 7, 6, 5, 4, 3]) 465 (.inr (6, mCell [11, 10, 8, 7, 6, 5, 4, 3]))) ((congrArg (fun c9 => am_u _ 465 (.inr (6, c9))) (mCell_s 11 (by decide) rfl [10, 8, 7, 6, 5, 4, 3])).trans (am_ub _ _ _ _ _ _)) ?_
  refine am_go hF sgX6_init_69_a1289 72 [(0, .ref 465)] [.int (Int8.ofInt 10).toInt32, .ref 465] sgX6_init_69_a1289d rfl ?_
  have hn12 : (am_u (am_ms X [11, 10, 8, 7, 6, 5, 4, 3]) 465 (.inr (6, mCell [11, 10, 8, 7, 6, 5, 4, 3]))) (500 + 12) = none := am_ms_none hn (by decide)
  refine am_newa hF hO (500 + 12) hn12 0 10 (a0 := (10, .inl (fun _ => 0))) (atype := .int) (by decide) rfl (List.mem_cons_of_mem _ la_int) (fun _ => rfl) (fun _ => rfl) (by decide +kernel) (by decide) (am_cl_fr (am_ms_cl hcl) hn12) (am_nr_c (fun h => (show ¬ (465 = 500 + 12) by omega) (Value.ref.inj h)) (am_nr_c (fun h => (show ¬ (465 = 500 + 12) by omega) (Value.ref.inj h)) am_nr_nil)) 9 274 ⟨Nat.le_of_ble_eq_true rfl, Nat.le_of_ble_eq_true rfl, Nat.le_of_ble_eq_true rfl, Nat.le_of_ble_eq_true rfl⟩ dX6_init_72 ?_
  refine am_putf hF (am_un (show 465 ≠ 500 + 12 by omega) (am_us _ _ _)) (T := TX6) (N := 36) rfl (inG 6 inG6) tyX6 tyX6_ok nmX6 12 (by decide) (List.mem_cons_of_mem _ lf_RX6_34) rfl (Or.inr ⟨rfl, hname.symm, rfl⟩) rfl rfl (Nat.le_of_ble_eq_true rfl) dX6_init_74 ?_
  refine am_eqX (am_u (am_ms X [12, 11, 10, 8, 7, 6, 5, 4, 3]) 465 (.inr (6, mCell [12, 11, 10, 8, 7, 6, 5, 4, 3]))) ((congrArg (fun c9 => am_u _ 465 (.inr (6, c9))) (mCell_s 12 (by decide) rfl [11, 10, 8, 7, 6, 5, 4, 3])).trans (am_ub _ _ _ _ _ _)) ?_
  refine am_go hF sgX6_init_77_a1289 80 [(0, .ref 465)] [.int (Int8.ofInt 10).toInt32, .ref 465] sgX6_init_77_a1289d rfl ?_
  have hn13 : (am_u (am_ms X [12, 11, 10, 8, 7, 6, 5, 4, 3]) 465 (.inr (6, mCell [12, 11, 10, 8, 7, 6, 5, 4, 3]))) (500 + 13) = none := am_ms_none hn (by decide)
  refine am_newa hF hO (500 + 13) hn13 1 10 (a0 := (10, .inl (fun _ => 0))) (atype := .boolean) (by decide) rfl (List.mem_cons_of_mem _ la_boolean) (fun _ => rfl) (fun _ => rfl) (by decide +kernel) (by decide) (am_cl_fr (am_ms_cl hcl) hn13) (am_nr_c (fun h => (show ¬ (465 = 500 + 13) by omega) (Value.ref.inj h)) (am_nr_c (fun h => (show ¬ (465 = 500 + 13) by omega) (Value.ref.inj h)) am_nr_nil)) 10 284 ⟨Nat.le_of_ble_eq_true rfl, Nat.le_of_ble_eq_true rfl, Nat.le_of_ble_eq_true rfl, Nat.le_of_ble_eq_true rfl⟩ dX6_init_80 ?_
  refine am_putf hF (am_un (show 465 ≠ 500 + 13 by omega) (am_us _ _ _)) (T := TX6) (N := 36) rfl (inG 6 inG6) tyX6 tyX6_ok nmX6 13 (by decide) (List.mem_cons_of_mem _ lf_RX6_37) rfl (Or.inr ⟨rfl, hname.symm, rfl⟩) rfl rfl (Nat.le_of_ble_eq_true rfl) dX6_init_82 ?_
  refine am_eqX (am_u (am_ms X [13, 12, 11, 10, 8, 7, 6, 5, 4, 3]) 465 (.inr (6, mCell [13, 12, 11, 10, 8, 7, 6, 5, 4, 3]))) ((congrArg (fun c9 => am_u _ 465 (.inr (6, c9))) (mCell_s 13 (by decide) rfl [12, 11, 10, 8, 7, 6, 5, 4, 3])).trans (am_ub _ _ _ _ _ _)) ?_
  refine am_go hF sgX6_init_85_a1289 88 [(0, .ref 465)] [.int (Int8.ofInt 10).toInt32, .ref 465] sgX6_init_85_a1289d rfl ?_
  have hn14 : (am_u (am_ms X [13, 12, 11, 10, 8, 7, 6, 5, 4, 3]) 465 (.inr (6, mCell [13, 12, 11, 10, 8, 7, 6, 5, 4, 3]))) (500 + 14) = none := am_ms_none hn (by decide)
  refine am_newa hF hO (500 + 14) hn14 0 10 (a0 := (10, .inl (fun _ => 0))) (atype := .int) (by decide) rfl (List.mem_cons_of_mem _ la_int) (fun _ => rfl) (fun _ => rfl) (by decide +kernel) (by decide) (am_cl_fr (am_ms_cl hcl) hn14) (am_nr_c (fun h => (show ¬ (465 = 500 + 14) by omega) (Value.ref.inj h)) (am_nr_c (fun h => (show ¬ (465 = 500 + 14) by omega) (Value.ref.inj h)) am_nr_nil)) 11 294 ⟨Nat.le_of_ble_eq_true rfl, Nat.le_of_ble_eq_true rfl, Nat.le_of_ble_eq_true rfl, Nat.le_of_ble_eq_true rfl⟩ dX6_init_88 ?_
  refine am_putf hF (am_un (show 465 ≠ 500 + 14 by omega) (am_us _ _ _)) (T := TX6) (N := 36) rfl (inG 6 inG6) tyX6 tyX6_ok nmX6 14 (by decide) (List.mem_cons_of_mem _ lf_RX6_41) rfl (Or.inr ⟨rfl, hname.symm, rfl⟩) rfl rfl (Nat.le_of_ble_eq_true rfl) dX6_init_90 ?_
  refine am_eqX (am_u (am_ms X [14, 13, 12, 11, 10, 8, 7, 6, 5, 4, 3]) 465 (.inr (6, mCell [14, 13, 12, 11, 10, 8, 7, 6, 5, 4, 3]))) ((congrArg (fun c9 => am_u _ 465 (.inr (6, c9))) (mCell_s 14 (by decide) rfl [13, 12, 11, 10, 8, 7, 6, 5, 4, 3])).trans (am_ub _ _ _ _ _ _)) ?_
  refine am_go hF sgX6_init_93_a1289 96 [(0, .ref 465)] [.int (Int8.ofInt 10).toInt32, .ref 465] sgX6_init_93_a1289d rfl ?_
  have hn15 : (am_u (am_ms X [14, 13, 12, 11, 10, 8, 7, 6, 5, 4, 3]) 465 (.inr (6, mCell [14, 13, 12, 11, 10, 8, 7, 6, 5, 4, 3]))) (500 + 15) = none := am_ms_none hn (by decide)
  refine am_newa hF hO (500 + 15) hn15 0 10 (a0 := (10, .inl (fun _ => 0))) (atype := .int) (by decide) rfl (List.mem_cons_of_mem _ la_int) (fun _ => rfl) (fun _ => rfl) (by decide +kernel) (by decide) (am_cl_fr (am_ms_cl hcl) hn15) (am_nr_c (fun h => (show ¬ (465 = 500 + 15) by omega) (Value.ref.inj h)) (am_nr_c (fun h => (show ¬ (465 = 500 + 15) by omega) (Value.ref.inj h)) am_nr_nil)) 12 304 ⟨Nat.le_of_ble_eq_true rfl, Nat.le_of_ble_eq_true rfl, Nat.le_of_ble_eq_true rfl, Nat.le_of_ble_eq_true rfl⟩ dX6_init_96 ?_
  refine am_putf hF (am_un (show 465 ≠ 500 + 15 by omega) (am_us _ _ _)) (T := TX6) (N := 36) rfl (inG 6 inG6) tyX6 tyX6_ok nmX6 15 (by decide) (List.mem_cons_of_mem _ lf_RX6_44) rfl (Or.inr ⟨rfl, hname.symm, rfl⟩) rfl rfl (Nat.le_of_ble_eq_true rfl) dX6_init_98 ?_
  refine am_eqX (am_u (am_ms X [15, 14, 13, 12, 11, 10, 8, 7, 6, 5, 4, 3]) 465 (.inr (6, mCell [15, 14, 13, 12, 11, 10, 8, 7, 6, 5, 4, 3]))) ((congrArg (fun c9 => am_u _ 465 (.inr (6, c9))) (mCell_s 15 (by decide) rfl [14, 13, 12, 11, 10, 8, 7, 6, 5, 4, 3])).trans (am_ub _ _ _ _ _ _)) ?_
  refine am_go hF sgX6_init_101_d0ab0 105 [(0, .ref 465)] [.int (Int16.ofInt 160).toInt32, .ref 465] sgX6_init_101_d0ab0d rfl ?_
  have hn16 : (am_u (am_ms X [15, 14, 13, 12, 11, 10, 8, 7, 6, 5, 4, 3]) 465 (.inr (6, mCell [15, 14, 13, 12, 11, 10, 8, 7, 6, 5, 4, 3]))) (500 + 16) = none := am_ms_none hn (by decide)
  refine am_newa hF hO (500 + 16) hn16 0 160 (a0 := (160, .inl (fun _ => 0))) (atype := .int) (by decide) rfl (List.mem_cons_of_mem _ la_int) (fun _ => rfl) (fun _ => rfl) (by decide +kernel) (by decide) (am_cl_fr (am_ms_cl hcl) hn16) (am_nr_c (fun h => (show ¬ (465 = 500 + 16) by omega) (Value.ref.inj h)) (am_nr_c (fun h => (show ¬ (465 = 500 + 16) by omega) (Value.ref.inj h)) am_nr_nil)) 13 464 ⟨Nat.le_of_ble_eq_true rfl, Nat.le_of_ble_eq_true rfl, Nat.le_of_ble_eq_true rfl, Nat.le_of_ble_eq_true rfl⟩ dX6_init_105 ?_
  refine am_putf hF (am_un (show 465 ≠ 500 + 16 by omega) (am_us _ _ _)) (T := TX6) (N := 36) rfl (inG 6 inG6) tyX6 tyX6_ok nmX6 16 (by decide) (List.mem_cons_of_mem _ lf_RX6_47) rfl (Or.inr ⟨rfl, hname.symm, rfl⟩) rfl rfl (Nat.le_of_ble_eq_true rfl) dX6_init_107 ?_
  refine am_eqX (am_u (am_ms X [16, 15, 14, 13, 12, 11, 10, 8, 7, 6, 5, 4, 3]) 465 (.inr (6, mCell [16, 15, 14, 13, 12, 11, 10, 8, 7, 6, 5, 4, 3]))) ((congrArg (fun c9 => am_u _ 465 (.inr (6, c9))) (mCell_s 16 (by decide) rfl [15, 14, 13, 12, 11, 10, 8, 7, 6, 5, 4, 3])).trans (am_ub _ _ _ _ _ _)) ?_
  refine am_go hF sgX6_init_110_48c56 113 [(0, .ref 465)] [.int (Int8.ofInt 80).toInt32, .ref 465] sgX6_init_110_48c56d rfl ?_
  have hn18 : (am_u (am_ms X [16, 15, 14, 13, 12, 11, 10, 8, 7, 6, 5, 4, 3]) 465 (.inr (6, mCell [16, 15, 14, 13, 12, 11, 10, 8, 7, 6, 5, 4, 3]))) (500 + 18) = none := am_ms_none hn (by decide)
  refine am_newa hF hO (500 + 18) hn18 0 80 (a0 := (80, .inl (fun _ => 0))) (atype := .int) (by decide) rfl (List.mem_cons_of_mem _ la_int) (fun _ => rfl) (fun _ => rfl) (by decide +kernel) (by decide) (am_cl_fr (am_ms_cl hcl) hn18) (am_nr_c (fun h => (show ¬ (465 = 500 + 18) by omega) (Value.ref.inj h)) (am_nr_c (fun h => (show ¬ (465 = 500 + 18) by omega) (Value.ref.inj h)) am_nr_nil)) 14 544 ⟨Nat.le_of_ble_eq_true rfl, Nat.le_of_ble_eq_true rfl, Nat.le_of_ble_eq_true rfl, Nat.le_of_ble_eq_true rfl⟩ dX6_init_113 ?_
  refine am_putf hF (am_un (show 465 ≠ 500 + 18 by omega) (am_us _ _ _)) (T := TX6) (N := 36) rfl (inG 6 inG6) tyX6 tyX6_ok nmX6 18 (by decide) (List.mem_cons_of_mem _ lf_RX6_50) rfl (Or.inr ⟨rfl, hname.symm, rfl⟩) rfl rfl (Nat.le_of_ble_eq_true rfl) dX6_init_115 ?_
  refine am_eqX (am_u (am_ms X [18, 16, 15, 14, 13, 12, 11, 10, 8, 7, 6, 5, 4, 3]) 465 (.inr (6, mCell [18, 16, 15, 14, 13, 12, 11, 10, 8, 7, 6, 5, 4, 3]))) ((congrArg (fun c9 => am_u _ 465 (.inr (6, c9))) (mCell_s 18 (by decide) rfl [16, 15, 14, 13, 12, 11, 10, 8, 7, 6, 5, 4, 3])).trans (am_ub _ _ _ _ _ _)) ?_
  refine am_go hF sgX6_init_118_48c56 121 [(0, .ref 465)] [.int (Int8.ofInt 80).toInt32, .ref 465] sgX6_init_118_48c56d rfl ?_
  have hn19 : (am_u (am_ms X [18, 16, 15, 14, 13, 12, 11, 10, 8, 7, 6, 5, 4, 3]) 465 (.inr (6, mCell [18, 16, 15, 14, 13, 12, 11, 10, 8, 7, 6, 5, 4, 3]))) (500 + 19) = none := am_ms_none hn (by decide)
  refine am_newa hF hO (500 + 19) hn19 0 80 (a0 := (80, .inl (fun _ => 0))) (atype := .int) (by decide) rfl (List.mem_cons_of_mem _ la_int) (fun _ => rfl) (fun _ => rfl) (by decide +kernel) (by decide) (am_cl_fr (am_ms_cl hcl) hn19) (am_nr_c (fun h => (show ¬ (465 = 500 + 19) by omega) (Value.ref.inj h)) (am_nr_c (fun h => (show ¬ (465 = 500 + 19) by omega) (Value.ref.inj h)) am_nr_nil)) 15 624 ⟨Nat.le_of_ble_eq_true rfl, Nat.le_of_ble_eq_true rfl, Nat.le_of_ble_eq_true rfl, Nat.le_of_ble_eq_true rfl⟩ dX6_init_121 ?_
  refine am_putf hF (am_un (show 465 ≠ 500 + 19 by omega) (am_us _ _ _)) (T := TX6) (N := 36) rfl (inG 6 inG6) tyX6 tyX6_ok nmX6 19 (by decide) (List.mem_cons_of_mem _ lf_RX6_53) rfl (Or.inr ⟨rfl, hname.symm, rfl⟩) rfl rfl (Nat.le_of_ble_eq_true rfl) dX6_init_123 ?_
  refine am_eqX (am_u (am_ms X [19, 18, 16, 15, 14, 13, 12, 11, 10, 8, 7, 6, 5, 4, 3]) 465 (.inr (6, mCell [19, 18, 16, 15, 14, 13, 12, 11, 10, 8, 7, 6, 5, 4, 3]))) ((congrArg (fun c9 => am_u _ 465 (.inr (6, c9))) (mCell_s 19 (by decide) rfl [18, 16, 15, 14, 13, 12, 11, 10, 8, 7, 6, 5, 4, 3])).trans (am_ub _ _ _ _ _ _)) ?_
  refine am_go hF sgX6_init_126_48c56 129 [(0, .ref 465)] [.int (Int8.ofInt 80).toInt32, .ref 465] sgX6_init_126_48c56d rfl ?_
  have hn20 : (am_u (am_ms X [19, 18, 16, 15, 14, 13, 12, 11, 10, 8, 7, 6, 5, 4, 3]) 465 (.inr (6, mCell [19, 18, 16, 15, 14, 13, 12, 11, 10, 8, 7, 6, 5, 4, 3]))) (500 + 20) = none := am_ms_none hn (by decide)
  refine am_newa hF hO (500 + 20) hn20 0 80 (a0 := (80, .inl (fun _ => 0))) (atype := .int) (by decide) rfl (List.mem_cons_of_mem _ la_int) (fun _ => rfl) (fun _ => rfl) (by decide +kernel) (by decide) (am_cl_fr (am_ms_cl hcl) hn20) (am_nr_c (fun h => (show ¬ (465 = 500 + 20) by omega) (Value.ref.inj h)) (am_nr_c (fun h => (show ¬ (465 = 500 + 20) by omega) (Value.ref.inj h)) am_nr_nil)) 16 704 ⟨Nat.le_of_ble_eq_true rfl, Nat.le_of_ble_eq_true rfl, Nat.le_of_ble_eq_true rfl, Nat.le_of_ble_eq_true rfl⟩ dX6_init_129 ?_
  refine am_putf hF (am_un (show 465 ≠ 500 + 20 by omega) (am_us _ _ _)) (T := TX6) (N := 36) rfl (inG 6 inG6) tyX6 tyX6_ok nmX6 20 (by decide) (List.mem_cons_of_mem _ lf_RX6_56) rfl (Or.inr ⟨rfl, hname.symm, rfl⟩) rfl rfl (Nat.le_of_ble_eq_true rfl) dX6_init_131 ?_
  refine am_eqX (am_u (am_ms X [20, 19, 18, 16, 15, 14, 13, 12, 11, 10, 8, 7, 6, 5, 4, 3]) 465 (.inr (6, mCell [20, 19, 18, 16, 15, 14, 13, 12, 11, 10, 8, 7, 6, 5, 4, 3]))) ((congrArg (fun c9 => am_u _ 465 (.inr (6, c9))) (mCell_s 20 (by decide) rfl [19, 18, 16, 15, 14, 13, 12, 11, 10, 8, 7, 6, 5, 4, 3])).trans (am_ub _ _ _ _ _ _)) ?_
  refine am_go hF sgX6_init_134_48c56 137 [(0, .ref 465)] [.int (Int8.ofInt 80).toInt32, .ref 465] sgX6_init_134_48c56d rfl ?_
  have hn21 : (am_u (am_ms X [20, 19, 18, 16, 15, 14, 13, 12, 11, 10, 8, 7, 6, 5, 4, 3]) 465 (.inr (6, mCell [20, 19, 18, 16, 15, 14, 13, 12, 11, 10, 8, 7, 6, 5, 4, 3]))) (500 + 21) = none := am_ms_none hn (by decide)
  refine am_newa hF hO (500 + 21) hn21 0 80 (a0 := (80, .inl (fun _ => 0))) (atype := .int) (by decide) rfl (List.mem_cons_of_mem _ la_int) (fun _ => rfl) (fun _ => rfl) (by decide +kernel) (by decide) (am_cl_fr (am_ms_cl hcl) hn21) (am_nr_c (fun h => (show ¬ (465 = 500 + 21) by omega) (Value.ref.inj h)) (am_nr_c (fun h => (show ¬ (465 = 500 + 21) by omega) (Value.ref.inj h)) am_nr_nil)) 17 784 ⟨Nat.le_of_ble_eq_true rfl, Nat.le_of_ble_eq_true rfl, Nat.le_of_ble_eq_true rfl, Nat.le_of_ble_eq_true rfl⟩ dX6_init_137 ?_
  refine am_putf hF (am_un (show 465 ≠ 500 + 21 by omega) (am_us _ _ _)) (T := TX6) (N := 36) rfl (inG 6 inG6) tyX6 tyX6_ok nmX6 21 (by decide) (List.mem_cons_of_mem _ lf_RX6_59) rfl (Or.inr ⟨rfl, hname.symm, rfl⟩) rfl rfl (Nat.le_of_ble_eq_true rfl) dX6_init_139 ?_
  refine am_eqX (am_u (am_ms X [21, 20, 19, 18, 16, 15, 14, 13, 12, 11, 10, 8, 7, 6, 5, 4, 3]) 465 (.inr (6, mCell [21, 20, 19, 18, 16, 15, 14, 13, 12, 11, 10, 8, 7, 6, 5, 4, 3]))) ((congrArg (fun c9 => am_u _ 465 (.inr (6, c9))) (mCell_s 21 (by decide) rfl [20, 19, 18, 16, 15, 14, 13, 12, 11, 10, 8, 7, 6, 5, 4, 3])).trans (am_ub _ _ _ _ _ _)) ?_
  refine am_go hF sgX6_init_142_48c56 145 [(0, .ref 465)] [.int (Int8.ofInt 80).toInt32, .ref 465] sgX6_init_142_48c56d rfl ?_
  have hn22 : (am_u (am_ms X [21, 20, 19, 18, 16, 15, 14, 13, 12, 11, 10, 8, 7, 6, 5, 4, 3]) 465 (.inr (6, mCell [21, 20, 19, 18, 16, 15, 14, 13, 12, 11, 10, 8, 7, 6, 5, 4, 3]))) (500 + 22) = none := am_ms_none hn (by decide)
  refine am_newa hF hO (500 + 22) hn22 0 80 (a0 := (80, .inl (fun _ => 0))) (atype := .int) (by decide) rfl (List.mem_cons_of_mem _ la_int) (fun _ => rfl) (fun _ => rfl) (by decide +kernel) (by decide) (am_cl_fr (am_ms_cl hcl) hn22) (am_nr_c (fun h => (show ¬ (465 = 500 + 22) by omega) (Value.ref.inj h)) (am_nr_c (fun h => (show ¬ (465 = 500 + 22) by omega) (Value.ref.inj h)) am_nr_nil)) 18 864 ⟨Nat.le_of_ble_eq_true rfl, Nat.le_of_ble_eq_true rfl, Nat.le_of_ble_eq_true rfl, Nat.le_of_ble_eq_true rfl⟩ dX6_init_145 ?_
  refine am_putf hF (am_un (show 465 ≠ 500 + 22 by omega) (am_us _ _ _)) (T := TX6) (N := 36) rfl (inG 6 inG6) tyX6 tyX6_ok nmX6 22 (by decide) (List.mem_cons_of_mem _ lf_RX6_62) rfl (Or.inr ⟨rfl, hname.symm, rfl⟩) rfl rfl (Nat.le_of_ble_eq_true rfl) dX6_init_147 ?_
  refine am_eqX (am_u (am_ms X [22, 21, 20, 19, 18, 16, 15, 14, 13, 12, 11, 10, 8, 7, 6, 5, 4, 3]) 465 (.inr (6, mCell [22, 21, 20, 19, 18, 16, 15, 14, 13, 12, 11, 10, 8, 7, 6, 5, 4, 3]))) ((congrArg (fun c9 => am_u _ 465 (.inr (6, c9))) (mCell_s 22 (by decide) rfl [21, 20, 19, 18, 16, 15, 14, 13, 12, 11, 10, 8, 7, 6, 5, 4, 3])).trans (am_ub _ _ _ _ _ _)) ?_
  refine am_go hF sgX6_init_150_48c56 153 [(0, .ref 465)] [.int (Int8.ofInt 80).toInt32, .ref 465] sgX6_init_150_48c56d rfl ?_
  have hn23 : (am_u (am_ms X [22, 21, 20, 19, 18, 16, 15, 14, 13, 12, 11, 10, 8, 7, 6, 5, 4, 3]) 465 (.inr (6, mCell [22, 21, 20, 19, 18, 16, 15, 14, 13, 12, 11, 10, 8, 7, 6, 5, 4, 3]))) (500 + 23) = none := am_ms_none hn (by decide)
  refine am_newa hF hO (500 + 23) hn23 0 80 (a0 := (80, .inl (fun _ => 0))) (atype := .int) (by decide) rfl (List.mem_cons_of_mem _ la_int) (fun _ => rfl) (fun _ => rfl) (by decide +kernel) (by decide) (am_cl_fr (am_ms_cl hcl) hn23) (am_nr_c (fun h => (show ¬ (465 = 500 + 23) by omega) (Value.ref.inj h)) (am_nr_c (fun h => (show ¬ (465 = 500 + 23) by omega) (Value.ref.inj h)) am_nr_nil)) 19 944 ⟨Nat.le_of_ble_eq_true rfl, Nat.le_of_ble_eq_true rfl, Nat.le_of_ble_eq_true rfl, Nat.le_of_ble_eq_true rfl⟩ dX6_init_153 ?_
  refine am_putf hF (am_un (show 465 ≠ 500 + 23 by omega) (am_us _ _ _)) (T := TX6) (N := 36) rfl (inG 6 inG6) tyX6 tyX6_ok nmX6 23 (by decide) (List.mem_cons_of_mem _ lf_RX6_65) rfl (Or.inr ⟨rfl, hname.symm, rfl⟩) rfl rfl (Nat.le_of_ble_eq_true rfl) dX6_init_155 ?_
  refine am_eqX (am_u (am_ms X [23, 22, 21, 20, 19, 18, 16, 15, 14, 13, 12, 11, 10, 8, 7, 6, 5, 4, 3]) 465 (.inr (6, mCell [23, 22, 21, 20, 19, 18, 16, 15, 14, 13, 12, 11, 10, 8, 7, 6, 5, 4, 3]))) ((congrArg (fun c9 => am_u _ 465 (.inr (6, c9))) (mCell_s 23 (by decide) rfl [22, 21, 20, 19, 18, 16, 15, 14, 13, 12, 11, 10, 8, 7, 6, 5, 4, 3])).trans (am_ub _ _ _ _ _ _)) ?_
  refine am_go hF sgX6_init_158_48c56 161 [(0, .ref 465)] [.int (Int8.ofInt 80).toInt32, .ref 465] sgX6_init_158_48c56d rfl ?_
  have hn24 : (am_u (am_ms X [23, 22, 21, 20, 19, 18, 16, 15, 14, 13, 12, 11, 10, 8, 7, 6, 5, 4, 3]) 465 (.inr (6, mCell [23, 22, 21, 20, 19, 18, 16, 15, 14, 13, 12, 11, 10, 8, 7, 6, 5, 4, 3]))) (500 + 24) = none := am_ms_none hn (by decide)
  refine am_newa hF hO (500 + 24) hn24 0 80 (a0 := (80, .inl (fun _ => 0))) (atype := .int) (by decide) rfl (List.mem_cons_of_mem _ la_int) (fun _ => rfl) (fun _ => rfl) (by decide +kernel) (by decide) (am_cl_fr (am_ms_cl hcl) hn24) (am_nr_c (fun h => (show ¬ (465 = 500 + 24) by omega) (Value.ref.inj h)) (am_nr_c (fun h => (show ¬ (465 = 500 + 24) by omega) (Value.ref.inj h)) am_nr_nil)) 20 1024 ⟨Nat.le_of_ble_eq_true rfl, Nat.le_of_ble_eq_true rfl, Nat.le_of_ble_eq_true rfl, Nat.le_of_ble_eq_true rfl⟩ dX6_init_161 ?_
  refine am_putf hF (am_un (show 465 ≠ 500 + 24 by omega) (am_us _ _ _)) (T := TX6) (N := 36) rfl (inG 6 inG6) tyX6 tyX6_ok nmX6 24 (by decide) (List.mem_cons_of_mem _ lf_RX6_68) rfl (Or.inr ⟨rfl, hname.symm, rfl⟩) rfl rfl (Nat.le_of_ble_eq_true rfl) dX6_init_163 ?_
  refine am_eqX (am_u (am_ms X [24, 23, 22, 21, 20, 19, 18, 16, 15, 14, 13, 12, 11, 10, 8, 7, 6, 5, 4, 3]) 465 (.inr (6, mCell [24, 23, 22, 21, 20, 19, 18, 16, 15, 14, 13, 12, 11, 10, 8, 7, 6, 5, 4, 3]))) ((congrArg (fun c9 => am_u _ 465 (.inr (6, c9))) (mCell_s 24 (by decide) rfl [23, 22, 21, 20, 19, 18, 16, 15, 14, 13, 12, 11, 10, 8, 7, 6, 5, 4, 3])).trans (am_ub _ _ _ _ _ _)) ?_
  refine am_go hF sgX6_init_166_48c56 169 [(0, .ref 465)] [.int (Int8.ofInt 80).toInt32, .ref 465] sgX6_init_166_48c56d rfl ?_
  have hn25 : (am_u (am_ms X [24, 23, 22, 21, 20, 19, 18, 16, 15, 14, 13, 12, 11, 10, 8, 7, 6, 5, 4, 3]) 465 (.inr (6, mCell [24, 23, 22, 21, 20, 19, 18, 16, 15, 14, 13, 12, 11, 10, 8, 7, 6, 5, 4, 3]))) (500 + 25) = none := am_ms_none hn (by decide)
  refine am_newa hF hO (500 + 25) hn25 0 80 (a0 := (80, .inl (fun _ => 0))) (atype := .int) (by decide) rfl (List.mem_cons_of_mem _ la_int) (fun _ => rfl) (fun _ => rfl) (by decide +kernel) (by decide) (am_cl_fr (am_ms_cl hcl) hn25) (am_nr_c (fun h => (show ¬ (465 = 500 + 25) by omega) (Value.ref.inj h)) (am_nr_c (fun h => (show ¬ (465 = 500 + 25) by omega) (Value.ref.inj h)) am_nr_nil)) 21 1104 ⟨Nat.le_of_ble_eq_true rfl, Nat.le_of_ble_eq_true rfl, Nat.le_of_ble_eq_true rfl, Nat.le_of_ble_eq_true rfl⟩ dX6_init_169 ?_
  refine am_putf hF (am_un (show 465 ≠ 500 + 25 by omega) (am_us _ _ _)) (T := TX6) (N := 36) rfl (inG 6 inG6) tyX6 tyX6_ok nmX6 25 (by decide) (List.mem_cons_of_mem _ lf_RX6_71) rfl (Or.inr ⟨rfl, hname.symm, rfl⟩) rfl rfl (Nat.le_of_ble_eq_true rfl) dX6_init_171 ?_
  refine am_eqX (am_u (am_ms X [25, 24, 23, 22, 21, 20, 19, 18, 16, 15, 14, 13, 12, 11, 10, 8, 7, 6, 5, 4, 3]) 465 (.inr (6, mCell [25, 24, 23, 22, 21, 20, 19, 18, 16, 15, 14, 13, 12, 11, 10, 8, 7, 6, 5, 4, 3]))) ((congrArg (fun c9 => am_u _ 465 (.inr (6, c9))) (mCell_s 25 (by decide) rfl [24, 23, 22, 21, 20, 19, 18, 16, 15, 14, 13, 12, 11, 10, 8, 7, 6, 5, 4, 3])).trans (am_ub _ _ _ _ _ _)) ?_
  refine am_go hF sgX6_init_174_48c56 177 [(0, .ref 465)] [.int (Int8.ofInt 80).toInt32, .ref 465] sgX6_init_174_48c56d rfl ?_
  have hn26 : (am_u (am_ms X [25, 24, 23, 22, 21, 20, 19, 18, 16, 15, 14, 13, 12, 11, 10, 8, 7, 6, 5, 4, 3]) 465 (.inr (6, mCell [25, 24, 23, 22, 21, 20, 19, 18, 16, 15, 14, 13, 12, 11, 10, 8, 7, 6, 5, 4, 3]))) (500 + 26) = none := am_ms_none hn (by decide)
  refine am_newa hF hO (500 + 26) hn26 1 80 (a0 := (80, .inl (fun _ => 0))) (atype := .boolean) (by decide) rfl (List.mem_cons_of_mem _ la_boolean) (fun _ => rfl) (fun _ => rfl) (by decide +kernel) (by decide) (am_cl_fr (am_ms_cl hcl) hn26) (am_nr_c (fun h => (show ¬ (465 = 500 + 26) by omega) (Value.ref.inj h)) (am_nr_c (fun h => (show ¬ (465 = 500 + 26) by omega) (Value.ref.inj h)) am_nr_nil)) 22 1184 ⟨Nat.le_of_ble_eq_true rfl, Nat.le_of_ble_eq_true rfl, Nat.le_of_ble_eq_true rfl, Nat.le_of_ble_eq_true rfl⟩ dX6_init_177 ?_
  refine am_putf hF (am_un (show 465 ≠ 500 + 26 by omega) (am_us _ _ _)) (T := TX6) (N := 36) rfl (inG 6 inG6) tyX6 tyX6_ok nmX6 26 (by decide) (List.mem_cons_of_mem _ lf_RX6_74) rfl (Or.inr ⟨rfl, hname.symm, rfl⟩) rfl rfl (Nat.le_of_ble_eq_true rfl) dX6_init_179 ?_
  refine am_eqX (am_u (am_ms X [26, 25, 24, 23, 22, 21, 20, 19, 18, 16, 15, 14, 13, 12, 11, 10, 8, 7, 6, 5, 4, 3]) 465 (.inr (6, mCell [26, 25, 24, 23, 22, 21, 20, 19, 18, 16, 15, 14, 13, 12, 11, 10, 8, 7, 6, 5, 4, 3]))) ((congrArg (fun c9 => am_u _ 465 (.inr (6, c9))) (mCell_s 26 (by decide) rfl [25, 24, 23, 22, 21, 20, 19, 18, 16, 15, 14, 13, 12, 11, 10, 8, 7, 6, 5, 4, 3])).trans (am_ub _ _ _ _ _ _)) ?_
  refine am_go hF sgX6_init_182_48c56 185 [(0, .ref 465)] [.int (Int8.ofInt 80).toInt32, .ref 465] sgX6_init_182_48c56d rfl ?_
  have hn27 : (am_u (am_ms X [26, 25, 24, 23, 22, 21, 20, 19, 18, 16, 15, 14, 13, 12, 11, 10, 8, 7, 6, 5, 4, 3]) 465 (.inr (6, mCell [26, 25, 24, 23, 22, 21, 20, 19, 18, 16, 15, 14, 13, 12, 11, 10, 8, 7, 6, 5, 4, 3]))) (500 + 27) = none := am_ms_none hn (by decide)
  refine am_newa hF hO (500 + 27) hn27 1 80 (a0 := (80, .inl (fun _ => 0))) (atype := .boolean) (by decide) rfl (List.mem_cons_of_mem _ la_boolean) (fun _ => rfl) (fun _ => rfl) (by decide +kernel) (by decide) (am_cl_fr (am_ms_cl hcl) hn27) (am_nr_c (fun h => (show ¬ (465 = 500 + 27) by omega) (Value.ref.inj h)) (am_nr_c (fun h => (show ¬ (465 = 500 + 27) by omega) (Value.ref.inj h)) am_nr_nil)) 23 1264 ⟨Nat.le_of_ble_eq_true rfl, Nat.le_of_ble_eq_true rfl, Nat.le_of_ble_eq_true rfl, Nat.le_of_ble_eq_true rfl⟩ dX6_init_185 ?_
  refine am_putf hF (am_un (show 465 ≠ 500 + 27 by omega) (am_us _ _ _)) (T := TX6) (N := 36) rfl (inG 6 inG6) tyX6 tyX6_ok nmX6 27 (by decide) (List.mem_cons_of_mem _ lf_RX6_77) rfl (Or.inr ⟨rfl, hname.symm, rfl⟩) rfl rfl (Nat.le_of_ble_eq_true rfl) dX6_init_187 ?_
  refine am_eqX (am_u (am_ms X [27, 26, 25, 24, 23, 22, 21, 20, 19, 18, 16, 15, 14, 13, 12, 11, 10, 8, 7, 6, 5, 4, 3]) 465 (.inr (6, mCell [27, 26, 25, 24, 23, 22, 21, 20, 19, 18, 16, 15, 14, 13, 12, 11, 10, 8, 7, 6, 5, 4, 3]))) ((congrArg (fun c9 => am_u _ 465 (.inr (6, c9))) (mCell_s 27 (by decide) rfl [26, 25, 24, 23, 22, 21, 20, 19, 18, 16, 15, 14, 13, 12, 11, 10, 8, 7, 6, 5, 4, 3])).trans (am_ub _ _ _ _ _ _)) ?_
  refine am_go hF sgX6_init_190_48c56 193 [(0, .ref 465)] [.int (Int8.ofInt 80).toInt32, .ref 465] sgX6_init_190_48c56d rfl ?_
  have hn28 : (am_u (am_ms X [27, 26, 25, 24, 23, 22, 21, 20, 19, 18, 16, 15, 14, 13, 12, 11, 10, 8, 7, 6, 5, 4, 3]) 465 (.inr (6, mCell [27, 26, 25, 24, 23, 22, 21, 20, 19, 18, 16, 15, 14, 13, 12, 11, 10, 8, 7, 6, 5, 4, 3]))) (500 + 28) = none := am_ms_none hn (by decide)
  refine am_newa hF hO (500 + 28) hn28 0 80 (a0 := (80, .inl (fun _ => 0))) (atype := .int) (by decide) rfl (List.mem_cons_of_mem _ la_int) (fun _ => rfl) (fun _ => rfl) (by decide +kernel) (by decide) (am_cl_fr (am_ms_cl hcl) hn28) (am_nr_c (fun h => (show ¬ (465 = 500 + 28) by omega) (Value.ref.inj h)) (am_nr_c (fun h => (show ¬ (465 = 500 + 28) by omega) (Value.ref.inj h)) am_nr_nil)) 24 1344 ⟨Nat.le_of_ble_eq_true rfl, Nat.le_of_ble_eq_true rfl, Nat.le_of_ble_eq_true rfl, Nat.le_of_ble_eq_true rfl⟩ dX6_init_193 ?_
  refine am_putf hF (am_un (show 465 ≠ 500 + 28 by omega) (am_us _ _ _)) (T := TX6) (N := 36) rfl (inG 6 inG6) tyX6 tyX6_ok nmX6 28 (by decide) (List.mem_cons_of_mem _ lf_RX6_80) rfl (Or.inr ⟨rfl, hname.symm, rfl⟩) rfl rfl (Nat.le_of_ble_eq_true rfl) dX6_init_195 ?_
  refine am_eqX (am_u (am_ms X [28, 27, 26, 25, 24, 23, 22, 21, 20, 19, 18, 16, 15, 14, 13, 12, 11, 10, 8, 7, 6, 5, 4, 3]) 465 (.inr (6, mCell [28, 27, 26, 25, 24, 23, 22, 21, 20, 19, 18, 16, 15, 14, 13, 12, 11, 10, 8, 7, 6, 5, 4, 3]))) ((congrArg (fun c9 => am_u _ 465 (.inr (6, c9))) (mCell_s 28 (by decide) rfl [27, 26, 25, 24, 23, 22, 21, 20, 19, 18, 16, 15, 14, 13, 12, 11, 10, 8, 7, 6, 5, 4, 3])).trans (am_ub _ _ _ _ _ _)) ?_
  refine am_go hF sgX6_init_198_48c56 201 [(0, .ref 465)] [.int (Int8.ofInt 80).toInt32, .ref 465] sgX6_init_198_48c56d rfl ?_
  have hn29 : (am_u (am_ms X [28, 27, 26, 25, 24, 23, 22, 21, 20, 19, 18, 16, 15, 14, 13, 12, 11, 10, 8, 7, 6, 5, 4, 3]) 465 (.inr (6, mCell [28, 27, 26, 25, 24, 23, 22, 21, 20, 19, 18, 16, 15, 14, 13, 12, 11, 10, 8, 7, 6, 5, 4, 3]))) (500 + 29) = none := am_ms_none hn (by decide)
  refine am_newa hF hO (500 + 29) hn29 0 80 (a0 := (80, .inl (fun _ => 0))) (atype := .int) (by decide) rfl (List.mem_cons_of_mem _ la_int) (fun _ => rfl) (fun _ => rfl) (by decide +kernel) (by decide) (am_cl_fr (am_ms_cl hcl) hn29) (am_nr_c (fun h => (show ¬ (465 = 500 + 29) by omega) (Value.ref.inj h)) (am_nr_c (fun h => (show ¬ (465 = 500 + 29) by omega) (Value.ref.inj h)) am_nr_nil)) 25 1424 ⟨Nat.le_of_ble_eq_true rfl, Nat.le_of_ble_eq_true rfl, Nat.le_of_ble_eq_true rfl, Nat.le_of_ble_eq_true rfl⟩ dX6_init_201 ?_
  refine am_putf hF (am_un (show 465 ≠ 500 + 29 by omega) (am_us _ _ _)) (T := TX6) (N := 36) rfl (inG 6 inG6) tyX6 tyX6_ok nmX6 29 (by decide) (List.mem_cons_of_mem _ lf_RX6_83) rfl (Or.inr ⟨rfl, hname.symm, rfl⟩) rfl rfl (Nat.le_of_ble_eq_true rfl) dX6_init_203 ?_
  refine am_eqX (am_u (am_ms X [29, 28, 27, 26, 25, 24, 23, 22, 21, 20, 19, 18, 16, 15, 14, 13, 12, 11, 10, 8, 7, 6, 5, 4, 3]) 465 (.inr (6, mCell [29, 28, 27, 26, 25, 24, 23, 22, 21, 20, 19, 18, 16, 15, 14, 13, 12, 11, 10, 8, 7, 6, 5, 4, 3]))) ((congrArg (fun c9 => am_u _ 465 (.inr (6, c9))) (mCell_s 29 (by decide) rfl [28, 27, 26, 25, 24, 23, 22, 21, 20, 19, 18, 16, 15, 14, 13, 12, 11, 10, 8, 7, 6, 5, 4, 3])).trans (am_ub _ _ _ _ _ _)) ?_
  refine am_go hF sgX6_init_206_48c56 209 [(0, .ref 465)] [.int (Int8.ofInt 80).toInt32, .ref 465] sgX6_init_206_48c56d rfl ?_
  have hn30 : (am_u (am_ms X [29, 28, 27, 26, 25, 24, 23, 22, 21, 20, 19, 18, 16, 15, 14, 13, 12, 11, 10, 8, 7, 6, 5, 4, 3]) 465 (.inr (6, mCell [29, 28, 27, 26, 25, 24, 23, 22, 21, 20, 19, 18, 16, 15, 14, 13, 12, 11, 10, 8, 7, 6, 5, 4, 3]))) (500 + 30) = none := am_ms_none hn (by decide)
  refine am_newa hF hO (500 + 30) hn30 0 80 (a0 := (80, .inl (fun _ => 0))) (atype := .int) (by decide) rfl (List.mem_cons_of_mem _ la_int) (fun _ => rfl) (fun _ => rfl) (by decide +kernel) (by decide) (am_cl_fr (am_ms_cl hcl) hn30) (am_nr_c (fun h => (show ¬ (465 = 500 + 30) by omega) (Value.ref.inj h)) (am_nr_c (fun h => (show ¬ (465 = 500 + 30) by omega) (Value.ref.inj h)) am_nr_nil)) 26 1504 ⟨Nat.le_of_ble_eq_true rfl, Nat.le_of_ble_eq_true rfl, Nat.le_of_ble_eq_true rfl, Nat.le_of_ble_eq_true rfl⟩ dX6_init_209 ?_
  refine am_putf hF (am_un (show 465 ≠ 500 + 30 by omega) (am_us _ _ _)) (T := TX6) (N := 36) rfl (inG 6 inG6) tyX6 tyX6_ok nmX6 30 (by decide) (List.mem_cons_of_mem _ lf_RX6_86) rfl (Or.inr ⟨rfl, hname.symm, rfl⟩) rfl rfl (Nat.le_of_ble_eq_true rfl) dX6_init_211 ?_
  refine am_eqX (am_u (am_ms X [30, 29, 28, 27, 26, 25, 24, 23, 22, 21, 20, 19, 18, 16, 15, 14, 13, 12, 11, 10, 8, 7, 6, 5, 4, 3]) 465 (.inr (6, mCell [30, 29, 28, 27, 26, 25, 24, 23, 22, 21, 20, 19, 18, 16, 15, 14, 13, 12, 11, 10, 8, 7, 6, 5, 4, 3]))) ((congrArg (fun c9 => am_u _ 465 (.inr (6, c9))) (mCell_s 30 (by decide) rfl [29, 28, 27, 26, 25, 24, 23, 22, 21, 20, 19, 18, 16, 15, 14, 13, 12, 11, 10, 8, 7, 6, 5, 4, 3])).trans (am_ub _ _ _ _ _ _)) ?_
  refine am_go hF sgX6_init_214_d81c9 218 [(0, .ref 465)] [.int (Int16.ofInt 800).toInt32, .ref 465] sgX6_init_214_d81c9d rfl ?_
  have hn31 : (am_u (am_ms X [30, 29, 28, 27, 26, 25, 24, 23, 22, 21, 20, 19, 18, 16, 15, 14, 13, 12, 11, 10, 8, 7, 6, 5, 4, 3]) 465 (.inr (6, mCell [30, 29, 28, 27, 26, 25, 24, 23, 22, 21, 20, 19, 18, 16, 15, 14, 13, 12, 11, 10, 8, 7, 6, 5, 4, 3]))) (500 + 31) = none := am_ms_none hn (by decide)
  refine am_newa hF hO (500 + 31) hn31 1 800 (a0 := (800, .inl (fun _ => 0))) (atype := .boolean) (by decide) rfl (List.mem_cons_of_mem _ la_boolean) (fun _ => rfl) (fun _ => rfl) (by decide +kernel) (by decide) (am_cl_fr (am_ms_cl hcl) hn31) (am_nr_c (fun h => (show ¬ (465 = 500 + 31) by omega) (Value.ref.inj h)) (am_nr_c (fun h => (show ¬ (465 = 500 + 31) by omega) (Value.ref.inj h)) am_nr_nil)) 27 2304 ⟨Nat.le_of_ble_eq_true rfl, Nat.le_of_ble_eq_true rfl, Nat.le_of_ble_eq_true rfl, Nat.le_of_ble_eq_true rfl⟩ dX6_init_218 ?_
  refine am_putf hF (am_un (show 465 ≠ 500 + 31 by omega) (am_us _ _ _)) (T := TX6) (N := 36) rfl (inG 6 inG6) tyX6 tyX6_ok nmX6 31 (by decide) (List.mem_cons_of_mem _ lf_RX6_89) rfl (Or.inr ⟨rfl, hname.symm, rfl⟩) rfl rfl (Nat.le_of_ble_eq_true rfl) dX6_init_220 ?_
  refine am_eqX (am_u (am_ms X [31, 30, 29, 28, 27, 26, 25, 24, 23, 22, 21, 20, 19, 18, 16, 15, 14, 13, 12, 11, 10, 8, 7, 6, 5, 4, 3]) 465 (.inr (6, mCell [31, 30, 29, 28, 27, 26, 25, 24, 23, 22, 21, 20, 19, 18, 16, 15, 14, 13, 12, 11, 10, 8, 7, 6, 5, 4, 3]))) ((congrArg (fun c9 => am_u _ 465 (.inr (6, c9))) (mCell_s 31 (by decide) rfl [30, 29, 28, 27, 26, 25, 24, 23, 22, 21, 20, 19, 18, 16, 15, 14, 13, 12, 11, 10, 8, 7, 6, 5, 4, 3])).trans (am_ub _ _ _ _ _ _)) ?_
  refine am_go hF sgX6_init_223_afd83 227 [(0, .ref 465)] [.int (Int16.ofInt 4010).toInt32, .ref 465] sgX6_init_223_afd83d rfl ?_
  have hn32 : (am_u (am_ms X [31, 30, 29, 28, 27, 26, 25, 24, 23, 22, 21, 20, 19, 18, 16, 15, 14, 13, 12, 11, 10, 8, 7, 6, 5, 4, 3]) 465 (.inr (6, mCell [31, 30, 29, 28, 27, 26, 25, 24, 23, 22, 21, 20, 19, 18, 16, 15, 14, 13, 12, 11, 10, 8, 7, 6, 5, 4, 3]))) (500 + 32) = none := am_ms_none hn (by decide)
  refine am_newa hF hO (500 + 32) hn32 1 4010 (a0 := (4010, .inl (fun _ => 0))) (atype := .boolean) (by decide) rfl (List.mem_cons_of_mem _ la_boolean) (fun _ => rfl) (fun _ => rfl) (by decide +kernel) (by decide) (am_cl_fr (am_ms_cl hcl) hn32) (am_nr_c (fun h => (show ¬ (465 = 500 + 32) by omega) (Value.ref.inj h)) (am_nr_c (fun h => (show ¬ (465 = 500 + 32) by omega) (Value.ref.inj h)) am_nr_nil)) 28 6314 ⟨Nat.le_of_ble_eq_true rfl, Nat.le_of_ble_eq_true rfl, Nat.le_of_ble_eq_true rfl, Nat.le_of_ble_eq_true rfl⟩ dX6_init_227 ?_
  refine am_putf hF (am_un (show 465 ≠ 500 + 32 by omega) (am_us _ _ _)) (T := TX6) (N := 36) rfl (inG 6 inG6) tyX6 tyX6_ok nmX6 32 (by decide) (List.mem_cons_of_mem _ lf_RX6_92) rfl (Or.inr ⟨rfl, hname.symm, rfl⟩) rfl rfl (Nat.le_of_ble_eq_true rfl) dX6_init_229 ?_
  refine am_eqX (am_u (am_ms X [32, 31, 30, 29, 28, 27, 26, 25, 24, 23, 22, 21, 20, 19, 18, 16, 15, 14, 13, 12, 11, 10, 8, 7, 6, 5, 4, 3]) 465 (.inr (6, mCell [32, 31, 30, 29, 28, 27, 26, 25, 24, 23, 22, 21, 20, 19, 18, 16, 15, 14, 13, 12, 11, 10, 8, 7, 6, 5, 4, 3]))) ((congrArg (fun c9 => am_u _ 465 (.inr (6, c9))) (mCell_s 32 (by decide) rfl [31, 30, 29, 28, 27, 26, 25, 24, 23, 22, 21, 20, 19, 18, 16, 15, 14, 13, 12, 11, 10, 8, 7, 6, 5, 4, 3])).trans (am_ub _ _ _ _ _ _)) ?_
  refine am_go hF sgX6_init_232_afd83 236 [(0, .ref 465)] [.int (Int16.ofInt 4010).toInt32, .ref 465] sgX6_init_232_afd83d rfl ?_
  have hn33 : (am_u (am_ms X [32, 31, 30, 29, 28, 27, 26, 25, 24, 23, 22, 21, 20, 19, 18, 16, 15, 14, 13, 12, 11, 10, 8, 7, 6, 5, 4, 3]) 465 (.inr (6, mCell [32, 31, 30, 29, 28, 27, 26, 25, 24, 23, 22, 21, 20, 19, 18, 16, 15, 14, 13, 12, 11, 10, 8, 7, 6, 5, 4, 3]))) (500 + 33) = none := am_ms_none hn (by decide)
  refine am_newa hF hO (500 + 33) hn33 0 4010 (a0 := (4010, .inl (fun _ => 0))) (atype := .int) (by decide) rfl (List.mem_cons_of_mem _ la_int) (fun _ => rfl) (fun _ => rfl) (by decide +kernel) (by decide) (am_cl_fr (am_ms_cl hcl) hn33) (am_nr_c (fun h => (show ¬ (465 = 500 + 33) by omega) (Value.ref.inj h)) (am_nr_c (fun h => (show ¬ (465 = 500 + 33) by omega) (Value.ref.inj h)) am_nr_nil)) 29 10324 ⟨Nat.le_of_ble_eq_true rfl, Nat.le_of_ble_eq_true rfl, Nat.le_of_ble_eq_true rfl, Nat.le_of_ble_eq_true rfl⟩ dX6_init_236 ?_
  refine am_putf hF (am_un (show 465 ≠ 500 + 33 by omega) (am_us _ _ _)) (T := TX6) (N := 36) rfl (inG 6 inG6) tyX6 tyX6_ok nmX6 33 (by decide) (List.mem_cons_of_mem _ lf_RX6_95) rfl (Or.inr ⟨rfl, hname.symm, rfl⟩) rfl rfl (Nat.le_of_ble_eq_true rfl) dX6_init_238 ?_
  refine am_eqX (am_u (am_ms X [33, 32, 31, 30, 29, 28, 27, 26, 25, 24, 23, 22, 21, 20, 19, 18, 16, 15, 14, 13, 12, 11, 10, 8, 7, 6, 5, 4, 3]) 465 (.inr (6, mCell [33, 32, 31, 30, 29, 28, 27, 26, 25, 24, 23, 22, 21, 20, 19, 18, 16, 15, 14, 13, 12, 11, 10, 8, 7, 6, 5, 4, 3]))) ((congrArg (fun c9 => am_u _ 465 (.inr (6, c9))) (mCell_s 33 (by decide) rfl [32, 31, 30, 29, 28, 27, 26, 25, 24, 23, 22, 21, 20, 19, 18, 16, 15, 14, 13, 12, 11, 10, 8, 7, 6, 5, 4, 3])).trans (am_ub _ _ _ _ _ _)) ?_
  refine am_go hF sgX6_init_241_afd83 245 [(0, .ref 465)] [.int (Int16.ofInt 4010).toInt32, .ref 465] sgX6_init_241_afd83d rfl ?_
  have hn34 : (am_u (am_ms X [33, 32, 31, 30, 29, 28, 27, 26, 25, 24, 23, 22, 21, 20, 19, 18, 16, 15, 14, 13, 12, 11, 10, 8, 7, 6, 5, 4, 3]) 465 (.inr (6, mCell [33, 32, 31, 30, 29, 28, 27, 26, 25, 24, 23, 22, 21, 20, 19, 18, 16, 15, 14, 13, 12, 11, 10, 8, 7, 6, 5, 4, 3]))) (500 + 34) = none := am_ms_none hn (by decide)
  refine am_newa hF hO (500 + 34) hn34 0 4010 (a0 := (4010, .inl (fun _ => 0))) (atype := .int) (by decide) rfl (List.mem_cons_of_mem _ la_int) (fun _ => rfl) (fun _ => rfl) (by decide +kernel) (by decide) (am_cl_fr (am_ms_cl hcl) hn34) (am_nr_c (fun h => (show ¬ (465 = 500 + 34) by omega) (Value.ref.inj h)) (am_nr_c (fun h => (show ¬ (465 = 500 + 34) by omega) (Value.ref.inj h)) am_nr_nil)) 30 14334 ⟨Nat.le_of_ble_eq_true rfl, Nat.le_of_ble_eq_true rfl, Nat.le_of_ble_eq_true rfl, Nat.le_of_ble_eq_true rfl⟩ dX6_init_245 ?_
  refine am_putf hF (am_un (show 465 ≠ 500 + 34 by omega) (am_us _ _ _)) (T := TX6) (N := 36) rfl (inG 6 inG6) tyX6 tyX6_ok nmX6 34 (by decide) (List.mem_cons_of_mem _ lf_RX6_98) rfl (Or.inr ⟨rfl, hname.symm, rfl⟩) rfl rfl (Nat.le_of_ble_eq_true rfl) dX6_init_247 ?_
  refine am_eqX (am_u (am_ms X [34, 33, 32, 31, 30, 29, 28, 27, 26, 25, 24, 23, 22, 21, 20, 19, 18, 16, 15, 14, 13, 12, 11, 10, 8, 7, 6, 5, 4, 3]) 465 (.inr (6, mCell [34, 33, 32, 31, 30, 29, 28, 27, 26, 25, 24, 23, 22, 21, 20, 19, 18, 16, 15, 14, 13, 12, 11, 10, 8, 7, 6, 5, 4, 3]))) ((congrArg (fun c9 => am_u _ 465 (.inr (6, c9))) (mCell_s 34 (by decide) rfl [33, 32, 31, 30, 29, 28, 27, 26, 25, 24, 23, 22, 21, 20, 19, 18, 16, 15, 14, 13, 12, 11, 10, 8, 7, 6, 5, 4, 3])).trans (am_ub _ _ _ _ _ _)) ?_
  refine am_go hF sgX6_init_250_afd83 254 [(0, .ref 465)] [.int (Int16.ofInt 4010).toInt32, .ref 465] sgX6_init_250_afd83d rfl ?_
  have hn35 : (am_u (am_ms X [34, 33, 32, 31, 30, 29, 28, 27, 26, 25, 24, 23, 22, 21, 20, 19, 18, 16, 15, 14, 13, 12, 11, 10, 8, 7, 6, 5, 4, 3]) 465 (.inr (6, mCell [34, 33, 32, 31, 30, 29, 28, 27, 26, 25, 24, 23, 22, 21, 20, 19, 18, 16, 15, 14, 13, 12, 11, 10, 8, 7, 6, 5, 4, 3]))) (500 + 35) = none := am_ms_none hn (by decide)
  refine am_newa hF hO (500 + 35) hn35 0 4010 (a0 := (4010, .inl (fun _ => 0))) (atype := .int) (by decide) rfl (List.mem_cons_of_mem _ la_int) (fun _ => rfl) (fun _ => rfl) (by decide +kernel) (by decide) (am_cl_fr (am_ms_cl hcl) hn35) (am_nr_c (fun h => (show ¬ (465 = 500 + 35) by omega) (Value.ref.inj h)) (am_nr_c (fun h => (show ¬ (465 = 500 + 35) by omega) (Value.ref.inj h)) am_nr_nil)) 31 18344 ⟨Nat.le_of_ble_eq_true rfl, Nat.le_of_ble_eq_true rfl, Nat.le_of_ble_eq_true rfl, Nat.le_of_ble_eq_true rfl⟩ dX6_init_254 ?_
  refine am_putf hF (am_un (show 465 ≠ 500 + 35 by omega) (am_us _ _ _)) (T := TX6) (N := 36) rfl (inG 6 inG6) tyX6 tyX6_ok nmX6 35 (by decide) (List.mem_cons_of_mem _ lf_RX6_101) rfl (Or.inr ⟨rfl, hname.symm, rfl⟩) rfl rfl (Nat.le_of_ble_eq_true rfl) dX6_init_256 ?_
  refine am_eqX (am_u (am_ms X [35, 34, 33, 32, 31, 30, 29, 28, 27, 26, 25, 24, 23, 22, 21, 20, 19, 18, 16, 15, 14, 13, 12, 11, 10, 8, 7, 6, 5, 4, 3]) 465 (.inr (6, mCell [35, 34, 33, 32, 31, 30, 29, 28, 27, 26, 25, 24, 23, 22, 21, 20, 19, 18, 16, 15, 14, 13, 12, 11, 10, 8, 7, 6, 5, 4, 3]))) ((congrArg (fun c9 => am_u _ 465 (.inr (6, c9))) (mCell_s 35 (by decide) rfl [34, 33, 32, 31, 30, 29, 28, 27, 26, 25, 24, 23, 22, 21, 20, 19, 18, 16, 15, 14, 13, 12, 11, 10, 8, 7, 6, 5, 4, 3])).trans (am_ub _ _ _ _ _ _)) ?_
  exact am_vret hF hO hret dX6_init_259 ⟨am_ms_all hn, rfl⟩
