/-! constructors of the class and of the reference -/
def T0 : am_T := fun _ _ => 0
def hX0 : am_H := fun i => if i < 464 then hpC T0 i else none
def hI (j : Nat) : am_H := fun i => if i = 1 then some (am_q (fun p => if p < j then some (16 + p) else none) 16 2) else if (16 + j ≤ i ∧ i < 32) ∨ (32 + j ≤ i ∧ i < 48) then none else hX0 i
theorem tN0 (f : Nat) : tN T0 f = 0 := rfl
theorem hX0_none {i : Nat} (h : 48 ≤ i) : hX0 i = none := by
  unfold hX0
  by_cases h4 : i < 464
  · rw [if_pos h4]
    unfold hpC
    rw [if_neg (by omega), if_neg (by omega), if_neg (by omega)]
    by_cases a1 : i < 64
    · rw [if_pos a1, tN0, if_neg (by omega)]
    rw [if_neg a1]
    by_cases a2 : i < 144
    · rw [if_pos a2, tN0, if_neg (by omega)]
    rw [if_neg a2]
    by_cases a3 : i < 224
    · rw [if_pos a3, if_neg (show ¬ T0 28 (i - 144) = 1 from by show ¬ (0 : Int32) = 1; decide)]
    rw [if_neg a3]
    by_cases a4 : i < 304
    · rw [if_pos a4, tN0, if_neg (by omega)]
    rw [if_neg a4]
    by_cases a5 : i < 384
    · rw [if_pos a5, tN0, if_neg (by omega)]
    rw [if_neg a5, if_pos h4, tN0, if_neg (by omega)]
  · rw [if_neg h4]
theorem hX0_small {i : Nat} (h : 5 < i) (h16 : i < 16) : hX0 i = none := by
  unfold hX0 hpC
  rw [if_pos (by omega), if_pos h16, if_neg (by omega), if_neg (by omega), if_neg (by omega), if_neg (by omega), if_neg (by omega), if_neg (by omega)]
theorem hX0_person {p : Nat} (h : p < 16) : hX0 (16 + p) = some (.inr (3, [.int 0, .int 0, .int 0, .ref (32 + p), .int 0])) := by
  unfold hX0 hpC
  rw [if_pos (by omega), if_neg (by omega), if_pos (by omega), show 16 + p - 16 = p by omega]
  rfl
theorem hX0_box {p : Nat} (h : p < 16) : hX0 (32 + p) = some (.inl (0, 10, .inl (fun _ => 0))) := by
  unfold hX0 hpC
  rw [if_pos (by omega), if_neg (by omega), if_neg (by omega), if_pos (by omega)]
  refine congrArg (fun f => some (am_i f 10)) ?_
  funext j
  split <;> rfl
theorem hI_0 (j : Nat) : hI j 0 = some (.inr (5, [.ref 1, .ref 2, .ref 3, .int 0, .ref 4, .int 0, .ref 5, .int 0, .int 0])) := by
  unfold hI
  rw [if_neg (by omega), if_neg (by omega)]
  rfl
theorem hI_1 (j : Nat) : hI j 1 = some (.inl (2, 16, .inr (.inr (.inr (.inr (fun p => if p < j then some (16 + p) else none)))))) := by
  unfold hI
  rw [if_pos rfl]
  rfl
theorem hI_p {j : Nat} (h : j < 16) : hI j (16 + j) = none := by
  unfold hI
  rw [if_neg (by omega), if_pos (by omega)]
theorem hI_b {j : Nat} (h : j < 16) : hI j (32 + j) = none := by
  unfold hI
  rw [if_neg (by omega), if_pos (by omega)]
theorem hI_cl (j : Nat) (hj : j ≤ 16) : am_cl (hI j) := by
  have hs : ∀ i : Nat, i = 2 ∨ i = 3 ∨ i = 4 ∨ i = 5 → hI j i ≠ none := by
    intro i hi
    unfold hI
    rw [if_neg (by omega), if_neg (by omega)]
    rcases hi with rfl | rfl | rfl | rfl <;> exact Option.some_ne_none _
  intro i e hi r hr
  by_cases h0 : i = 0
  · subst h0
    rw [hI_0] at hi
    cases hi
    simp only [am_mn, List.mem_cons, List.not_mem_nil, or_false, Value.ref.injEq, reduceCtorEq, false_or] at hr
    rcases hr with rfl | rfl | rfl | rfl | rfl
    · rw [hI_1]; exact Option.some_ne_none _
    · exact hs 2 (by omega)
    · exact hs 3 (by omega)
    · exact hs 4 (by omega)
    · exact hs 5 (by omega)
  by_cases h1 : i = 1
  · subst h1
    rw [hI_1] at hi
    cases hi
    obtain ⟨p, hp9⟩ := hr
    dsimp only at hp9
    by_cases h9 : p < j
    · rw [if_pos h9] at hp9
      cases hp9
      unfold hI
      rw [if_neg (by omega), if_neg (by omega), hX0_person (by omega)]
      exact Option.some_ne_none _
    · rw [if_neg h9] at hp9; cases hp9
  unfold hI at hi
  rw [if_neg h1] at hi
  by_cases h2 : (16 + j ≤ i ∧ i < 32) ∨ (32 + j ≤ i ∧ i < 48)
  · rw [if_pos h2] at hi; cases hi
  rw [if_neg h2] at hi
  by_cases h48 : 48 ≤ i
  · rw [hX0_none h48] at hi; cases hi
  by_cases h32 : 32 ≤ i
  · obtain ⟨p, rfl⟩ : ∃ p, i = 32 + p := ⟨i - 32, by omega⟩
    rw [hX0_box (by omega)] at hi
    cases hi
    exact hr.elim
  by_cases h16 : 16 ≤ i
  · obtain ⟨p, rfl⟩ : ∃ p, i = 16 + p := ⟨i - 16, by omega⟩
    rw [hX0_person (by omega)] at hi
    cases hi
    simp only [am_mn, List.mem_cons, List.not_mem_nil, or_false, Value.ref.injEq, reduceCtorEq, false_or] at hr
    subst hr
    unfold hI
    rw [if_neg (by omega), if_neg (by omega), hX0_box (by omega)]
    exact Option.some_ne_none _
  by_cases h5 : 5 < i
  · rw [hX0_small h5 (by omega)] at hi; cases hi
  have h6 : i = 2 ∨ i = 3 ∨ i = 4 ∨ i = 5 := by omega
  rcases h6 with rfl | rfl | rfl | rfl
  · cases hi; exact hr.elim
  · cases hi
    obtain ⟨p, hp9⟩ := hr
    cases hp9
  · cases hi
    obtain ⟨p, hp9⟩ := hr
    cases hp9
  · cases hi
    obtain ⟨p, hp9⟩ := hr
    cases hp9
theorem hI_16 : hI 16 = hX0 := by
  funext i
  unfold hI
  by_cases h : i = 1
  · subst h; rw [if_pos rfl]; rfl
  · rw [if_neg h, if_neg (by omega)]
theorem hI_s {j : Nat} (hj : j < 16) : am_u (am_u (am_u (am_u (hI j) (16 + j) (.inr (3, [.int 0, .int 0, .int 0, .null, .int 0]))) (32 + j) (.inl (0, 10, .inl (fun _ => 0)))) (16 + j) (.inr (3, [.int 0, .int 0, .int 0, .ref (32 + j), .int 0]))) 1 (.inl (2, 16, .inr (.inr (.inr (.inr (va_up (fun p => if p < j then some (16 + p) else none) j (some (16 + j)))))))) = hI (j + 1) := by
  funext i
  unfold am_u
  by_cases h1 : i = 1
  · subst h1
    rw [if_pos rfl, hI_1]
    refine congrArg (fun f => some (am_q f 16 2)) ?_
    funext p
    unfold va_up
    by_cases hp : p = j
    · subst hp; rw [if_pos rfl, if_pos (by omega)]
    · rw [if_neg hp]
      dsimp only
      by_cases h2 : p < j
      · rw [if_pos h2, if_pos (by omega)]
      · rw [if_neg h2, if_neg (by omega)]
  rw [if_neg h1]
  by_cases h2 : i = 16 + j
  · subst h2
    rw [if_pos rfl]
    unfold hI
    rw [if_neg (by omega), if_neg (by omega), hX0_person hj]
  rw [if_neg h2]
  by_cases h3 : i = 32 + j
  · subst h3
    rw [if_pos rfl]
    unfold hI
    rw [if_neg (by omega), if_neg (by omega), hX0_box hj]
  rw [if_neg h3]
  try rw [if_neg h2]
  unfold hI
  rw [if_neg h1, if_neg h1]
  by_cases h4 : (16 + j ≤ i ∧ i < 32) ∨ (32 + j ≤ i ∧ i < 48)
  · rw [if_pos h4, if_pos (by omega)]
  · rw [if_neg h4, if_neg (by omega)]
def sgX5_init_0_34db8 : List Instr := [.aload_n 0]
theorem sgX5_init_0_34db8d : am_dec cX5_init 0 sgX5_init_0_34db8 = true := by decide +kernel
theorem dX5_init_1 : decode cX5_init 1 = .ok (.invokespecial 1, 3) := by decide +kernel
def sgX5_init_4_4e27c : List Instr := [.aload_n 0, .bipush 16]
theorem sgX5_init_4_4e27cd : am_dec cX5_init 4 sgX5_init_4_4e27c = true := by decide +kernel
theorem dX5_init_7 : decode cX5_init 7 = .ok (.anewarray 9, 3) := by decide +kernel
theorem dX5_init_10 : decode cX5_init 10 = .ok (.putfield 11, 3) := by decide +kernel
def sgX5_init_13_d6fd4 : List Instr := [.aload_n 0, .bipush 20]
theorem sgX5_init_13_d6fd4d : am_dec cX5_init 13 sgX5_init_13_d6fd4 = true := by decide +kernel
theorem dX5_init_16 : decode cX5_init 16 = .ok (.newarray .int, 2) := by decide +kernel
theorem dX5_init_18 : decode cX5_init 18 = .ok (.putfield 15, 3) := by decide +kernel
def sgX5_init_21_a1289 : List Instr := [.aload_n 0, .bipush 10]
theorem sgX5_init_21_a1289d : am_dec cX5_init 21 sgX5_init_21_a1289 = true := by decide +kernel
theorem dX5_init_24 : decode cX5_init 24 = .ok (.anewarray 19, 3) := by decide +kernel
theorem dX5_init_27 : decode cX5_init 27 = .ok (.putfield 21, 3) := by decide +kernel
def sgX5_init_30_9cf18 : List Instr := [.aload_n 0, .iconst 0]
theorem sgX5_init_30_9cf18d : am_dec cX5_init 30 sgX5_init_30_9cf18 = true := by decide +kernel
theorem dX5_init_32 : decode cX5_init 32 = .ok (.putfield 25, 3) := by decide +kernel
def sgX5_init_35_48c56 : List Instr := [.aload_n 0, .bipush 80]
theorem sgX5_init_35_48c56d : am_dec cX5_init 35 sgX5_init_35_48c56 = true := by decide +kernel
theorem dX5_init_38 : decode cX5_init 38 = .ok (.anewarray 29, 3) := by decide +kernel
theorem dX5_init_41 : decode cX5_init 41 = .ok (.putfield 31, 3) := by decide +kernel
def sgX5_init_44_9cf18 : List Instr := [.aload_n 0, .iconst 0]
theorem sgX5_init_44_9cf18d : am_dec cX5_init 44 sgX5_init_44_9cf18 = true := by decide +kernel
theorem dX5_init_46 : decode cX5_init 46 = .ok (.putfield 35, 3) := by decide +kernel
def sgX5_init_49_48c56 : List Instr := [.aload_n 0, .bipush 80]
theorem sgX5_init_49_48c56d : am_dec cX5_init 49 sgX5_init_49_48c56 = true := by decide +kernel
theorem dX5_init_52 : decode cX5_init 52 = .ok (.anewarray 38, 3) := by decide +kernel
theorem dX5_init_55 : decode cX5_init 55 = .ok (.putfield 40, 3) := by decide +kernel
def sgX5_init_58_9cf18 : List Instr := [.aload_n 0, .iconst 0]
theorem sgX5_init_58_9cf18d : am_dec cX5_init 58 sgX5_init_58_9cf18 = true := by decide +kernel
theorem dX5_init_60 : decode cX5_init 60 = .ok (.putfield 44, 3) := by decide +kernel
def sgX5_init_63_9cf18 : List Instr := [.aload_n 0, .iconst 0]
theorem sgX5_init_63_9cf18d : am_dec cX5_init 63 sgX5_init_63_9cf18 = true := by decide +kernel
theorem dX5_init_65 : decode cX5_init 65 = .ok (.putfield 47, 3) := by decide +kernel
def sgX5_init_68_67c14 : List Instr := [.iconst 0, .istore_n 1]
theorem sgX5_init_68_67c14d : am_dec cX5_init 68 sgX5_init_68_67c14 = true := by decide +kernel
def sgX5_init_70_fc5a5 : List Instr := [.iload_n 1, .bipush 16]
theorem sgX5_init_70_fc5a5d : am_dec cX5_init 70 sgX5_init_70_fc5a5 = true := by decide +kernel
def sgX5_init_76_34db8 : List Instr := [.aload_n 0]
theorem sgX5_init_76_34db8d : am_dec cX5_init 76 sgX5_init_76_34db8 = true := by decide +kernel
def sgX5_init_80_840bf : List Instr := [.iload_n 1]
theorem sgX5_init_80_840bfd : am_dec cX5_init 80 sgX5_init_80_840bf = true := by decide +kernel
def sgX5_init_84_4b010 : List Instr := [.dup]
theorem sgX5_init_84_4b010d : am_dec cX5_init 84 sgX5_init_84_4b010 = true := by decide +kernel
def sgX5_init_89_0cd62 : List Instr := [.iinc 1 1, .goto (-22)]
theorem sgX5_init_89_0cd62d : am_dec cX5_init 89 sgX5_init_89_0cd62 = true := by decide +kernel
theorem dX5_init_73 : decode cX5_init 73 = .ok (.if_icmp .ge 22, 3) := by decide +kernel
theorem dX5_init_95 : decode cX5_init 95 = .ok (.return_, 1) := by decide +kernel
theorem dX5_init_77 : decode cX5_init 77 = .ok (.getfield 11, 3) := by decide +kernel
theorem dX5_init_81 : decode cX5_init 81 = .ok (.new 9, 3) := by decide +kernel
theorem dX5_init_85 : decode cX5_init 85 = .ok (.invokespecial 50, 3) := by decide +kernel
theorem dX5_init_88 : decode cX5_init 88 = .ok (.aastore, 1) := by decide +kernel
theorem hI_start : (am_u (am_u (am_u (am_u (am_u (am_u (am_u (am_u (am_u (am_u (am_u (fun _ => none) 0 (.inr (5, [.null, .null, .null, .int 0, .null, .int 0, .null, .int 0, .int 0]))) 1 (.inl (2, 16, .inr (.inr (.inr (.inr (fun _ => none))))))) 0 (.inr (5, [.ref 1, .null, .null, .int 0, .null, .int 0, .null, .int 0, .int 0]))) 2 (.inl (0, 20, .inl (fun _ => 0)))) 0 (.inr (5, [.ref 1, .ref 2, .null, .int 0, .null, .int 0, .null, .int 0, .int 0]))) 3 (.inl (3, 10, .inr (.inr (.inr (.inr (fun _ => none))))))) 0 (.inr (5, [.ref 1, .ref 2, .ref 3, .int 0, .null, .int 0, .null, .int 0, .int 0]))) 4 (.inl (4, 80, .inr (.inr (.inr (.inr (fun _ => none))))))) 0 (.inr (5, [.ref 1, .ref 2, .ref 3, .int 0, .ref 4, .int 0, .null, .int 0, .int 0]))) 5 (.inl (5, 80, .inr (.inr (.inr (.inr (fun _ => none))))))) 0 (.inr (5, [.ref 1, .ref 2, .ref 3, .int 0, .ref 4, .int 0, .ref 5, .int 0, .int 0]))) = hI 0 := by
  funext i
  unfold am_u
  by_cases h0 : i = 0
  · subst h0; rfl
  by_cases h1 : i = 1
  · subst h1; rfl
  by_cases h2 : i = 2
  · subst h2; rfl
  by_cases h3 : i = 3
  · subst h3; rfl
  by_cases h4 : i = 4
  · subst h4; rfl
  by_cases h5 : i = 5
  · subst h5; rfl
  simp only [if_neg h0, if_neg h1, if_neg h2, if_neg h3, if_neg h4, if_neg h5]
  unfold hI
  rw [if_neg h1]
  by_cases h6 : (16 + 0 ≤ i ∧ i < 32) ∨ (32 + 0 ≤ i ∧ i < 48)
  · rw [if_pos h6]
  rw [if_neg h6]
  by_cases h16 : i < 16
  · rw [hX0_small (by omega) h16]
  · rw [hX0_none (by omega)]
set_option maxRecDepth 100000 in
set_option maxHeartbeats 4000000 in
theorem c_init5 {G : am_S}  : am_D G yX5_init (.code yX5_init cX5_init 2 none :: am_G) { frames := 2, cells := 37, slots := 446, locals := 40 } (am_u (fun _ => none) 0 (.inr (5, [.null, .null, .null, .int 0, .null, .int 0, .null, .int 0, .int 0]))) [.ref 0] hX0 none := by
  refine am_of (by decide +kernel) (Nat.le_of_ble_eq_true rfl) ?_
  intro C hse hret hname hF hO
  subst hse
  refine am_go hF sgX5_init_0_34db8 1 [(0, .ref 0)] [.ref 0] sgX5_init_0_34db8d rfl ?_
  refine am_oinit hF hO (List.mem_cons_of_mem _ lm_RX5_1) (List.mem_cons_of_mem _ lo_inst) (List.mem_cons_of_mem _ lo_code) ⟨Nat.le_of_ble_eq_true rfl, Nat.le_of_ble_eq_true rfl⟩ dX5_init_1 ?_
  refine am_go hF sgX5_init_4_4e27c 7 [(0, .ref 0)] [.int 16, .ref 0] sgX5_init_4_4e27cd rfl ?_
  have hi7 : (am_u (fun _ => none) 0 (.inr (5, [.null, .null, .null, .int 0, .null, .int 0, .null, .int 0, .int 0]))) 1 = none := (am_un (by decide) rfl)
  refine am_newq hF hO (1) hi7 2 16 (by decide) rfl (List.mem_cons_of_mem _ lc_RX5_9) (by decide) rfl (by decide) (am_cl_fr (am_cl_u (i := 0) (e := (.inr (5, [.null, .null, .null, .int 0, .null, .int 0, .null, .int 0, .int 0]))) am_cl_0 (fun r hr => by simp [am_mn] at hr)) hi7) (am_nr_c (fun h => (show ¬ (0 = 1) by omega) (Value.ref.inj h)) (am_nr_c (fun h => (show ¬ (0 = 1) by omega) (Value.ref.inj h)) am_nr_nil)) 1 16 ⟨Nat.le_of_ble_eq_true rfl, Nat.le_of_ble_eq_true rfl, Nat.le_of_ble_eq_true rfl, Nat.le_of_ble_eq_true rfl⟩ dX5_init_7 ?_
  refine am_putf hF (am_un (show 0 ≠ 1 by omega) (am_us _ _ _)) (T := TX5) (N := 9) rfl (inG 5 inG5) tyX5 tyX5_ok nmX5 0 (by decide) (List.mem_cons_of_mem _ lf_RX5_11) rfl (Or.inr ⟨rfl, hname.symm, rfl⟩) rfl rfl (Nat.le_of_ble_eq_true rfl) dX5_init_10 ?_
  refine am_eqX (am_u (am_u (am_u (fun _ => none) 0 (.inr (5, [.null, .null, .null, .int 0, .null, .int 0, .null, .int 0, .int 0]))) 1 (.inl (2, 16, .inr (.inr (.inr (.inr (fun _ => none))))))) 0 (.inr (5, [.ref 1, .null, .null, .int 0, .null, .int 0, .null, .int 0, .int 0]))) (rfl) ?_
  refine am_go hF sgX5_init_13_d6fd4 16 [(0, .ref 0)] [.int 20, .ref 0] sgX5_init_13_d6fd4d rfl ?_
  have hi16 : (am_u (am_u (am_u (fun _ => none) 0 (.inr (5, [.null, .null, .null, .int 0, .null, .int 0, .null, .int 0, .int 0]))) 1 (.inl (2, 16, .inr (.inr (.inr (.inr (fun _ => none))))))) 0 (.inr (5, [.ref 1, .null, .null, .int 0, .null, .int 0, .null, .int 0, .int 0]))) 2 = none := (am_un (show 2 ≠ 0 by omega) (am_un (show 2 ≠ 1 by omega) (am_un (by decide) rfl)))
  refine am_newa hF hO (2) hi16 0 20 (a0 := (20, .inl (fun _ => 0))) (atype := .int) (by decide) rfl (List.mem_cons_of_mem _ la_int) (fun _ => rfl) (fun _ => rfl) rfl (by decide) (am_cl_fr (am_cl_u (i := 0) (e := (.inr (5, [.ref 1, .null, .null, .int 0, .null, .int 0, .null, .int 0, .int 0]))) (am_cl_u (i := 1) (e := (.inl (2, 16, .inr (.inr (.inr (.inr (fun _ => none))))))) (am_cl_u (i := 0) (e := (.inr (5, [.null, .null, .null, .int 0, .null, .int 0, .null, .int 0, .int 0]))) am_cl_0 (fun r hr => by simp [am_mn] at hr)) (fun r hr => am_mq hr)) (fun r hr => by simp only [am_mn, List.mem_cons, List.not_mem_nil, or_false, Value.ref.injEq, reduceCtorEq, false_or] at hr; exact (by rw [hr]; exact Or.inr (by rw [(am_us _ _ _)]; exact Option.some_ne_none _)))) hi16) (am_nr_c (fun h => (show ¬ (0 = 2) by omega) (Value.ref.inj h)) (am_nr_c (fun h => (show ¬ (0 = 2) by omega) (Value.ref.inj h)) am_nr_nil)) 2 36 ⟨Nat.le_of_ble_eq_true rfl, Nat.le_of_ble_eq_true rfl, Nat.le_of_ble_eq_true rfl, Nat.le_of_ble_eq_true rfl⟩ dX5_init_16 ?_
  refine am_putf hF (am_un (show 0 ≠ 2 by omega) (am_us _ _ _)) (T := TX5) (N := 9) rfl (inG 5 inG5) tyX5 tyX5_ok nmX5 1 (by decide) (List.mem_cons_of_mem _ lf_RX5_15) rfl (Or.inr ⟨rfl, hname.symm, rfl⟩) rfl rfl (Nat.le_of_ble_eq_true rfl) dX5_init_18 ?_
  refine am_eqX (am_u (am_u (am_u (am_u (am_u (fun _ => none) 0 (.inr (5, [.null, .null, .null, .int 0, .null, .int 0, .null, .int 0, .int 0]))) 1 (.inl (2, 16, .inr (.inr (.inr (.inr (fun _ => none))))))) 0 (.inr (5, [.ref 1, .null, .null, .int 0, .null, .int 0, .null, .int 0, .int 0]))) 2 (.inl (0, 20, .inl (fun _ => 0)))) 0 (.inr (5, [.ref 1, .ref 2, .null, .int 0, .null, .int 0, .null, .int 0, .int 0]))) (rfl) ?_
  refine am_go hF sgX5_init_21_a1289 24 [(0, .ref 0)] [.int 10, .ref 0] sgX5_init_21_a1289d rfl ?_
  have hi24 : (am_u (am_u (am_u (am_u (am_u (fun _ => none) 0 (.inr (5, [.null, .null, .null, .int 0, .null, .int 0, .null, .int 0, .int 0]))) 1 (.inl (2, 16, .inr (.inr (.inr (.inr (fun _ => none))))))) 0 (.inr (5, [.ref 1, .null, .null, .int 0, .null, .int 0, .null, .int 0, .int 0]))) 2 (.inl (0, 20, .inl (fun _ => 0)))) 0 (.inr (5, [.ref 1, .ref 2, .null, .int 0, .null, .int 0, .null, .int 0, .int 0]))) 3 = none := (am_un (show 3 ≠ 0 by omega) (am_un (show 3 ≠ 2 by omega) (am_un (show 3 ≠ 0 by omega) (am_un (show 3 ≠ 1 by omega) (am_un (by decide) rfl)))))
  refine am_newq hF hO (3) hi24 3 10 (by decide) rfl (List.mem_cons_of_mem _ lc_RX5_19) (by decide) rfl (by decide) (am_cl_fr (am_cl_u (i := 0) (e := (.inr (5, [.ref 1, .ref 2, .null, .int 0, .null, .int 0, .null, .int 0, .int 0]))) (am_cl_u (i := 2) (e := (.inl (0, 20, .inl (fun _ => 0)))) (am_cl_u (i := 0) (e := (.inr (5, [.ref 1, .null, .null, .int 0, .null, .int 0, .null, .int 0, .int 0]))) (am_cl_u (i := 1) (e := (.inl (2, 16, .inr (.inr (.inr (.inr (fun _ => none))))))) (am_cl_u (i := 0) (e := (.inr (5, [.null, .null, .null, .int 0, .null, .int 0, .null, .int 0, .int 0]))) am_cl_0 (fun r hr => by simp [am_mn] at hr)) (fun r hr => am_mq hr)) (fun r hr => by simp only [am_mn, List.mem_cons, List.not_mem_nil, or_false, Value.ref.injEq, reduceCtorEq, false_or] at hr; exact (by rw [hr]; exact Or.inr (by rw [(am_us _ _ _)]; exact Option.some_ne_none _)))) (fun r hr => am_mi hr)) (fun r hr => by simp only [am_mn, List.mem_cons, List.not_mem_nil, or_false, Value.ref.injEq, reduceCtorEq, false_or] at hr; exact (hr.elim (fun hr => by rw [hr]; exact Or.inr (by rw [(am_un (show 1 ≠ 2 by omega) (am_un (show 1 ≠ 0 by omega) (am_us _ _ _)))]; exact Option.some_ne_none _)) (fun hr => (by rw [hr]; exact Or.inr (by rw [(am_us _ _ _)]; exact Option.some_ne_none _)))))) hi24) (am_nr_c (fun h => (show ¬ (0 = 3) by omega) (Value.ref.inj h)) (am_nr_c (fun h => (show ¬ (0 = 3) by omega) (Value.ref.inj h)) am_nr_nil)) 3 46 ⟨Nat.le_of_ble_eq_true rfl, Nat.le_of_ble_eq_true rfl, Nat.le_of_ble_eq_true rfl, Nat.le_of_ble_eq_true rfl⟩ dX5_init_24 ?_
  refine am_putf hF (am_un (show 0 ≠ 3 by omega) (am_us _ _ _)) (T := TX5) (N := 9) rfl (inG 5 inG5) tyX5 tyX5_ok nmX5 2 (by decide) (List.mem_cons_of_mem _ lf_RX5_21) rfl (Or.inr ⟨rfl, hname.symm, rfl⟩) rfl rfl (Nat.le_of_ble_eq_true rfl) dX5_init_27 ?_
  refine am_eqX (am_u (am_u (am_u (am_u (am_u (am_u (am_u (fun _ => none) 0 (.inr (5, [.null, .null, .null, .int 0, .null, .int 0, .null, .int 0, .int 0]))) 1 (.inl (2, 16, .inr (.inr (.inr (.inr (fun _ => none))))))) 0 (.inr (5, [.ref 1, .null, .null, .int 0, .null, .int 0, .null, .int 0, .int 0]))) 2 (.inl (0, 20, .inl (fun _ => 0)))) 0 (.inr (5, [.ref 1, .ref 2, .null, .int 0, .null, .int 0, .null, .int 0, .int 0]))) 3 (.inl (3, 10, .inr (.inr (.inr (.inr (fun _ => none))))))) 0 (.inr (5, [.ref 1, .ref 2, .ref 3, .int 0, .null, .int 0, .null, .int 0, .int 0]))) (rfl) ?_
  refine am_go hF sgX5_init_30_9cf18 32 [(0, .ref 0)] [.int 0, .ref 0] sgX5_init_30_9cf18d rfl ?_
  refine am_putf hF (am_us _ _ _) (T := TX5) (N := 9) rfl (inG 5 inG5) tyX5 tyX5_ok nmX5 3 (by decide) (List.mem_cons_of_mem _ lf_RX5_25) rfl (Or.inl rfl) rfl rfl (Nat.le_of_ble_eq_true rfl) dX5_init_32 ?_
  refine am_eqX (am_u (am_u (am_u (am_u (am_u (am_u (am_u (fun _ => none) 0 (.inr (5, [.null, .null, .null, .int 0, .null, .int 0, .null, .int 0, .int 0]))) 1 (.inl (2, 16, .inr (.inr (.inr (.inr (fun _ => none))))))) 0 (.inr (5, [.ref 1, .null, .null, .int 0, .null, .int 0, .null, .int 0, .int 0]))) 2 (.inl (0, 20, .inl (fun _ => 0)))) 0 (.inr (5, [.ref 1, .ref 2, .null, .int 0, .null, .int 0, .null, .int 0, .int 0]))) 3 (.inl (3, 10, .inr (.inr (.inr (.inr (fun _ => none))))))) 0 (.inr (5, [.ref 1, .ref 2, .ref 3, .int 0, .null, .int 0, .null, .int 0, .int 0]))) (am_uu _ _ _ _) ?_
  refine am_go hF sgX5_init_35_48c56 38 [(0, .ref 0)] [.int 80, .ref 0] sgX5_init_35_48c56d rfl ?_
  have hi38 : (am_u (am_u (am_u (am_u (am_u (am_u (am_u (fun _ => none) 0 (.inr (5, [.null, .null, .null, .int 0, .null, .int 0, .null, .int 0, .int 0]))) 1 (.inl (2, 16, .inr (.inr (.inr (.inr (fun _ => none))))))) 0 (.inr (5, [.ref 1, .null, .null, .int 0, .null, .int 0, .null, .int 0, .int 0]))) 2 (.inl (0, 20, .inl (fun _ => 0)))) 0 (.inr (5, [.ref 1, .ref 2, .null, .int 0, .null, .int 0, .null, .int 0, .int 0]))) 3 (.inl (3, 10, .inr (.inr (.inr (.inr (fun _ => none))))))) 0 (.inr (5, [.ref 1, .ref 2, .ref 3, .int 0, .null, .int 0, .null, .int 0, .int 0]))) 4 = none := (am_un (show 4 ≠ 0 by omega) (am_un (show 4 ≠ 3 by omega) (am_un (show 4 ≠ 0 by omega) (am_un (show 4 ≠ 2 by omega) (am_un (show 4 ≠ 0 by omega) (am_un (show 4 ≠ 1 by omega) (am_un (by decide) rfl)))))))
  refine am_newq hF hO (4) hi38 4 80 (by decide) rfl (List.mem_cons_of_mem _ lc_RX5_29) (by decide) rfl (by decide) (am_cl_fr (am_cl_u (i := 0) (e := (.inr (5, [.ref 1, .ref 2, .ref 3, .int 0, .null, .int 0, .null, .int 0, .int 0]))) (am_cl_u (i := 3) (e := (.inl (3, 10, .inr (.inr (.inr (.inr (fun _ => none))))))) (am_cl_u (i := 0) (e := (.inr (5, [.ref 1, .ref 2, .null, .int 0, .null, .int 0, .null, .int 0, .int 0]))) (am_cl_u (i := 2) (e := (.inl (0, 20, .inl (fun _ => 0)))) (am_cl_u (i := 0) (e := (.inr (5, [.ref 1, .null, .null, .int 0, .null, .int 0, .null, .int 0, .int 0]))) (am_cl_u (i := 1) (e := (.inl (2, 16, .inr (.inr (.inr (.inr (fun _ => none))))))) (am_cl_u (i := 0) (e := (.inr (5, [.null, .null, .null, .int 0, .null, .int 0, .null, .int 0, .int 0]))) am_cl_0 (fun r hr => by simp [am_mn] at hr)) (fun r hr => am_mq hr)) (fun r hr => by simp only [am_mn, List.mem_cons, List.not_mem_nil, or_false, Value.ref.injEq, reduceCtorEq, false_or] at hr; exact (by rw [hr]; exact Or.inr (by rw [(am_us _ _ _)]; exact Option.some_ne_none _)))) (fun r hr => am_mi hr)) (fun r hr => by simp only [am_mn, List.mem_cons, List.not_mem_nil, or_false, Value.ref.injEq, reduceCtorEq, false_or] at hr; exact (hr.elim (fun hr => by rw [hr]; exact Or.inr (by rw [(am_un (show 1 ≠ 2 by omega) (am_un (show 1 ≠ 0 by omega) (am_us _ _ _)))]; exact Option.some_ne_none _)) (fun hr => (by rw [hr]; exact Or.inr (by rw [(am_us _ _ _)]; exact Option.some_ne_none _)))))) (fun r hr => am_mq hr)) (fun r hr => by simp only [am_mn, List.mem_cons, List.not_mem_nil, or_false, Value.ref.injEq, reduceCtorEq, false_or] at hr; exact (hr.elim (fun hr => by rw [hr]; exact Or.inr (by rw [(am_un (show 1 ≠ 3 by omega) (am_un (show 1 ≠ 0 by omega) (am_un (show 1 ≠ 2 by omega) (am_un (show 1 ≠ 0 by omega) (am_us _ _ _)))))]; exact Option.some_ne_none _)) (fun hr => (hr.elim (fun hr => by rw [hr]; exact Or.inr (by rw [(am_un (show 2 ≠ 3 by omega) (am_un (show 2 ≠ 0 by omega) (am_us _ _ _)))]; exact Option.some_ne_none _)) (fun hr => (by rw [hr]; exact Or.inr (by rw [(am_us _ _ _)]; exact Option.some_ne_none _)))))))) hi38) (am_nr_c (fun h => (show ¬ (0 = 4) by omega) (Value.ref.inj h)) (am_nr_c (fun h => (show ¬ (0 = 4) by omega) (Value.ref.inj h)) am_nr_nil)) 4 126 ⟨Nat.le_of_ble_eq_true rfl, Nat.le_of_ble_eq_true rfl, Nat.le_of_ble_eq_true rfl, Nat.le_of_ble_eq_true rfl⟩ dX5_init_38 ?_
  refine am_putf hF (am_un (show 0 ≠ 4 by omega) (am_us _ _ _)) (T := TX5) (N := 9) rfl (inG 5 inG5) tyX5 tyX5_ok nmX5 4 (by decide) (List.mem_cons_of_mem _ lf_RX5_31) rfl (Or.inr ⟨rfl, hname.symm, rfl⟩) rfl rfl (Nat.le_of_ble_eq_true rfl) dX5_init_41 ?_
  refine am_eqX (am_u (am_u (am_u (am_u (am_u (am_u (am_u (am_u (am_u (fun _ => none) 0 (.inr (5, [.null, .null, .null, .int 0, .null, .int 0, .null, .int 0, .int 0]))) 1 (.inl (2, 16, .inr (.inr (.inr (.inr (fun _ => none))))))) 0 (.inr (5, [.ref 1, .null, .null, .int 0, .null, .int 0, .null, .int 0, .int 0]))) 2 (.inl (0, 20, .inl (fun _ => 0)))) 0 (.inr (5, [.ref 1, .ref 2, .null, .int 0, .null, .int 0, .null, .int 0, .int 0]))) 3 (.inl (3, 10, .inr (.inr (.inr (.inr (fun _ => none))))))) 0 (.inr (5, [.ref 1, .ref 2, .ref 3, .int 0, .null, .int 0, .null, .int 0, .int 0]))) 4 (.inl (4, 80, .inr (.inr (.inr (.inr (fun _ => none))))))) 0 (.inr (5, [.ref 1, .ref 2, .ref 3, .int 0, .ref 4, .int 0, .null, .int 0, .int 0]))) (rfl) ?_
  refine am_go hF sgX5_init_44_9cf18 46 [(0, .ref 0)] [.int 0, .ref 0] sgX5_init_44_9cf18d rfl ?_
  refine am_putf hF (am_us _ _ _) (T := TX5) (N := 9) rfl (inG 5 inG5) tyX5 tyX5_ok nmX5 5 (by decide) (List.mem_cons_of_mem _ lf_RX5_35) rfl (Or.inl rfl) rfl rfl (Nat.le_of_ble_eq_true rfl) dX5_init_46 ?_
  refine am_eqX (am_u (am_u (am_u (am_u (am_u (am_u (am_u (am_u (am_u (fun _ => none) 0 (.inr (5, [.null, .null, .null, .int 0, .null, .int 0, .null, .int 0, .int 0]))) 1 (.inl (2, 16, .inr (.inr (.inr (.inr (fun _ => none))))))) 0 (.inr (5, [.ref 1, .null, .null, .int 0, .null, .int 0, .null, .int 0, .int 0]))) 2 (.inl (0, 20, .inl (fun _ => 0)))) 0 (.inr (5, [.ref 1, .ref 2, .null, .int 0, .null, .int 0, .null, .int 0, .int 0]))) 3 (.inl (3, 10, .inr (.inr (.inr (.inr (fun _ => none))))))) 0 (.inr (5, [.ref 1, .ref 2, .ref 3, .int 0, .null, .int 0, .null, .int 0, .int 0]))) 4 (.inl (4, 80, .inr (.inr (.inr (.inr (fun _ => none))))))) 0 (.inr (5, [.ref 1, .ref 2, .ref 3, .int 0, .ref 4, .int 0, .null, .int 0, .int 0]))) (am_uu _ _ _ _) ?_
  refine am_go hF sgX5_init_49_48c56 52 [(0, .ref 0)] [.int 80, .ref 0] sgX5_init_49_48c56d rfl ?_
  have hi52 : (am_u (am_u (am_u (am_u (am_u (am_u (am_u (am_u (am_u (fun _ => none) 0 (.inr (5, [.null, .null, .null, .int 0, .null, .int 0, .null, .int 0, .int 0]))) 1 (.inl (2, 16, .inr (.inr (.inr (.inr (fun _ => none))))))) 0 (.inr (5, [.ref 1, .null, .null, .int 0, .null, .int 0, .null, .int 0, .int 0]))) 2 (.inl (0, 20, .inl (fun _ => 0)))) 0 (.inr (5, [.ref 1, .ref 2, .null, .int 0, .null, .int 0, .null, .int 0, .int 0]))) 3 (.inl (3, 10, .inr (.inr (.inr (.inr (fun _ => none))))))) 0 (.inr (5, [.ref 1, .ref 2, .ref 3, .int 0, .null, .int 0, .null, .int 0, .int 0]))) 4 (.inl (4, 80, .inr (.inr (.inr (.inr (fun _ => none))))))) 0 (.inr (5, [.ref 1, .ref 2, .ref 3, .int 0, .ref 4, .int 0, .null, .int 0, .int 0]))) 5 = none := (am_un (show 5 ≠ 0 by omega) (am_un (show 5 ≠ 4 by omega) (am_un (show 5 ≠ 0 by omega) (am_un (show 5 ≠ 3 by omega) (am_un (show 5 ≠ 0 by omega) (am_un (show 5 ≠ 2 by omega) (am_un (show 5 ≠ 0 by omega) (am_un (show 5 ≠ 1 by omega) (am_un (by decide) rfl)))))))))
  refine am_newq hF hO (5) hi52 5 80 (by decide) rfl (List.mem_cons_of_mem _ lc_RX5_38) (by decide) rfl (by decide) (am_cl_fr (am_cl_u (i := 0) (e := (.inr (5, [.ref 1, .ref 2, .ref 3, .int 0, .ref 4, .int 0, .null, .int 0, .int 0]))) (am_cl_u (i := 4) (e := (.inl (4, 80, .inr (.inr (.inr (.inr (fun _ => none))))))) (am_cl_u (i := 0) (e := (.inr (5, [.ref 1, .ref 2, .ref 3, .int 0, .null, .int 0, .null, .int 0, .int 0]))) (am_cl_u (i := 3) (e := (.inl (3, 10, .inr (.inr (.inr (.inr (fun _ => none))))))) (am_cl_u (i := 0) (e := (.inr (5, [.ref 1, .ref 2, .null, .int 0, .null, .int 0, .null, .int 0, .int 0]))) (am_cl_u (i := 2) (e := (.inl (0, 20, .inl (fun _ => 0)))) (am_cl_u (i := 0) (e := (.inr (5, [.ref 1, .null, .null, .int 0, .null, .int 0, .null, .int 0, .int 0]))) (am_cl_u (i := 1) (e := (.inl (2, 16, .inr (.inr (.inr (.inr (fun _ => none))))))) (am_cl_u (i := 0) (e := (.inr (5, [.null, .null, .null, .int 0, .null, .int 0, .null, .int 0, .int 0]))) am_cl_0 (fun r hr => by simp [am_mn] at hr)) (fun r hr => am_mq hr)) (fun r hr => by simp only [am_mn, List.mem_cons, List.not_mem_nil, or_false, Value.ref.injEq, reduceCtorEq, false_or] at hr; exact (by rw [hr]; exact Or.inr (by rw [(am_us _ _ _)]; exact Option.some_ne_none _)))) (fun r hr => am_mi hr)) (fun r hr => by simp only [am_mn, List.mem_cons, List.not_mem_nil, or_false, Value.ref.injEq, reduceCtorEq, false_or] at hr; exact (hr.elim (fun hr => by rw [hr]; exact Or.inr (by rw [(am_un (show 1 ≠ 2 by omega) (am_un (show 1 ≠ 0 by omega) (am_us _ _ _)))]; exact Option.some_ne_none _)) (fun hr => (by rw [hr]; exact Or.inr (by rw [(am_us _ _ _)]; exact Option.some_ne_none _)))))) (fun r hr => am_mq hr)) (fun r hr => by simp only [am_mn, List.mem_cons, List.not_mem_nil, or_false, Value.ref.injEq, reduceCtorEq, false_or] at hr; exact (hr.elim (fun hr => by rw [hr]; exact Or.inr (by rw [(am_un (show 1 ≠ 3 by omega) (am_un (show 1 ≠ 0 by omega) (am_un (show 1 ≠ 2 by omega) (am_un (show 1 ≠ 0 by omega) (am_us _ _ _)))))]; exact Option.some_ne_none _)) (fun hr => (hr.elim (fun hr => by rw [hr]; exact Or.inr (by rw [(am_un (show 2 ≠ 3 by omega) (am_un (show 2 ≠ 0 by omega) (am_us _ _ _)))]; exact Option.some_ne_none _)) (fun hr => (by rw [hr]; exact Or.inr (by rw [(am_us _ _ _)]; exact Option.some_ne_none _)))))))) (fun r hr => am_mq hr)) (fun r hr => by simp only [am_mn, List.mem_cons, List.not_mem_nil, or_false, Value.ref.injEq, reduceCtorEq, false_or] at hr; exact (hr.elim (fun hr => by rw [hr]; exact Or.inr (by rw [(am_un (show 1 ≠ 4 by omega) (am_un (show 1 ≠ 0 by omega) (am_un (show 1 ≠ 3 by omega) (am_un (show 1 ≠ 0 by omega) (am_un (show 1 ≠ 2 by omega) (am_un (show 1 ≠ 0 by omega) (am_us _ _ _)))))))]; exact Option.some_ne_none _)) (fun hr => (hr.elim (fun hr => by rw [hr]; exact Or.inr (by rw [(am_un (show 2 ≠ 4 by omega) (am_un (show 2 ≠ 0 by omega) (am_un (show 2 ≠ 3 by omega) (am_un (show 2 ≠ 0 by omega) (am_us _ _ _)))))]; exact Option.some_ne_none _)) (fun hr => (hr.elim (fun hr => by rw [hr]; exact Or.inr (by rw [(am_un (show 3 ≠ 4 by omega) (am_un (show 3 ≠ 0 by omega) (am_us _ _ _)))]; exact Option.some_ne_none _)) (fun hr => (by rw [hr]; exact Or.inr (by rw [(am_us _ _ _)]; exact Option.some_ne_none _)))))))))) hi52) (am_nr_c (fun h => (show ¬ (0 = 5) by omega) (Value.ref.inj h)) (am_nr_c (fun h => (show ¬ (0 = 5) by omega) (Value.ref.inj h)) am_nr_nil)) 5 206 ⟨Nat.le_of_ble_eq_true rfl, Nat.le_of_ble_eq_true rfl, Nat.le_of_ble_eq_true rfl, Nat.le_of_ble_eq_true rfl⟩ dX5_init_52 ?_
  refine am_putf hF (am_un (show 0 ≠ 5 by omega) (am_us _ _ _)) (T := TX5) (N := 9) rfl (inG 5 inG5) tyX5 tyX5_ok nmX5 6 (by decide) (List.mem_cons_of_mem _ lf_RX5_40) rfl (Or.inr ⟨rfl, hname.symm, rfl⟩) rfl rfl (Nat.le_of_ble_eq_true rfl) dX5_init_55 ?_
  refine am_eqX (am_u (am_u (am_u (am_u (am_u (am_u (am_u (am_u (am_u (am_u (am_u (fun _ => none) 0 (.inr (5, [.null, .null, .null, .int 0, .null, .int 0, .null, .int 0, .int 0]))) 1 (.inl (2, 16, .inr (.inr (.inr (.inr (fun _ => none))))))) 0 (.inr (5, [.ref 1, .null, .null, .int 0, .null, .int 0, .null, .int 0, .int 0]))) 2 (.inl (0, 20, .inl (fun _ => 0)))) 0 (.inr (5, [.ref 1, .ref 2, .null, .int 0, .null, .int 0, .null, .int 0, .int 0]))) 3 (.inl (3, 10, .inr (.inr (.inr (.inr (fun _ => none))))))) 0 (.inr (5, [.ref 1, .ref 2, .ref 3, .int 0, .null, .int 0, .null, .int 0, .int 0]))) 4 (.inl (4, 80, .inr (.inr (.inr (.inr (fun _ => none))))))) 0 (.inr (5, [.ref 1, .ref 2, .ref 3, .int 0, .ref 4, .int 0, .null, .int 0, .int 0]))) 5 (.inl (5, 80, .inr (.inr (.inr (.inr (fun _ => none))))))) 0 (.inr (5, [.ref 1, .ref 2, .ref 3, .int 0, .ref 4, .int 0, .ref 5, .int 0, .int 0]))) (rfl) ?_
  refine am_go hF sgX5_init_58_9cf18 60 [(0, .ref 0)] [.int 0, .ref 0] sgX5_init_58_9cf18d rfl ?_
  refine am_putf hF (am_us _ _ _) (T := TX5) (N := 9) rfl (inG 5 inG5) tyX5 tyX5_ok nmX5 7 (by decide) (List.mem_cons_of_mem _ lf_RX5_44) rfl (Or.inl rfl) rfl rfl (Nat.le_of_ble_eq_true rfl) dX5_init_60 ?_
  refine am_eqX (am_u (am_u (am_u (am_u (am_u (am_u (am_u (am_u (am_u (am_u (am_u (fun _ => none) 0 (.inr (5, [.null, .null, .null, .int 0, .null, .int 0, .null, .int 0, .int 0]))) 1 (.inl (2, 16, .inr (.inr (.inr (.inr (fun _ => none))))))) 0 (.inr (5, [.ref 1, .null, .null, .int 0, .null, .int 0, .null, .int 0, .int 0]))) 2 (.inl (0, 20, .inl (fun _ => 0)))) 0 (.inr (5, [.ref 1, .ref 2, .null, .int 0, .null, .int 0, .null, .int 0, .int 0]))) 3 (.inl (3, 10, .inr (.inr (.inr (.inr (fun _ => none))))))) 0 (.inr (5, [.ref 1, .ref 2, .ref 3, .int 0, .null, .int 0, .null, .int 0, .int 0]))) 4 (.inl (4, 80, .inr (.inr (.inr (.inr (fun _ => none))))))) 0 (.inr (5, [.ref 1, .ref 2, .ref 3, .int 0, .ref 4, .int 0, .null, .int 0, .int 0]))) 5 (.inl (5, 80, .inr (.inr (.inr (.inr (fun _ => none))))))) 0 (.inr (5, [.ref 1, .ref 2, .ref 3, .int 0, .ref 4, .int 0, .ref 5, .int 0, .int 0]))) (am_uu _ _ _ _) ?_
  refine am_go hF sgX5_init_63_9cf18 65 [(0, .ref 0)] [.int 0, .ref 0] sgX5_init_63_9cf18d rfl ?_
  refine am_putf hF (am_us _ _ _) (T := TX5) (N := 9) rfl (inG 5 inG5) tyX5 tyX5_ok nmX5 8 (by decide) (List.mem_cons_of_mem _ lf_RX5_47) rfl (Or.inl rfl) rfl rfl (Nat.le_of_ble_eq_true rfl) dX5_init_65 ?_
  refine am_eqX (am_u (am_u (am_u (am_u (am_u (am_u (am_u (am_u (am_u (am_u (am_u (fun _ => none) 0 (.inr (5, [.null, .null, .null, .int 0, .null, .int 0, .null, .int 0, .int 0]))) 1 (.inl (2, 16, .inr (.inr (.inr (.inr (fun _ => none))))))) 0 (.inr (5, [.ref 1, .null, .null, .int 0, .null, .int 0, .null, .int 0, .int 0]))) 2 (.inl (0, 20, .inl (fun _ => 0)))) 0 (.inr (5, [.ref 1, .ref 2, .null, .int 0, .null, .int 0, .null, .int 0, .int 0]))) 3 (.inl (3, 10, .inr (.inr (.inr (.inr (fun _ => none))))))) 0 (.inr (5, [.ref 1, .ref 2, .ref 3, .int 0, .null, .int 0, .null, .int 0, .int 0]))) 4 (.inl (4, 80, .inr (.inr (.inr (.inr (fun _ => none))))))) 0 (.inr (5, [.ref 1, .ref 2, .ref 3, .int 0, .ref 4, .int 0, .null, .int 0, .int 0]))) 5 (.inl (5, 80, .inr (.inr (.inr (.inr (fun _ => none))))))) 0 (.inr (5, [.ref 1, .ref 2, .ref 3, .int 0, .ref 4, .int 0, .ref 5, .int 0, .int 0]))) (am_uu _ _ _ _) ?_
  refine am_go hF sgX5_init_68_67c14 70 [(1, .int 0), (0, .ref 0)] [] sgX5_init_68_67c14d rfl ?_
  refine am_eqX (hI 0) hI_start ?_
  refine am_drop [1, 0] [(0, .ref 0), (1, .int 0)] rfl ?_
  have lp70 : ∀ (d j : Nat), j + d = 16 → am_W C (hI j) (5 + 2 * j) (206 + 15 * j) 70 [(0, .ref 0), (1, .int (nI j))] [] := by
    intro d
    induction d with
    | zero =>
      intro j hj
      have e9 : j = 16 := by omega
      refine am_go hF sgX5_init_70_fc5a5 73 [(0, .ref 0), (1, .int (nI j))] [.int 16, .int (nI j)] sgX5_init_70_fc5a5d rfl ?_
      refine am_icmpge hF 95 dX5_init_73 (by decide) (fun _ => ?_) (fun h9 => absurd (nc_ge (show 16 ≤ j by omega) (by omega) (by omega) rfl rfl) h9)
      subst e9
      exact am_vret hF hO hret dX5_init_95 ⟨hI_16, rfl⟩
    | succ d ih =>
      intro j hj
      refine am_go hF sgX5_init_70_fc5a5 73 [(0, .ref 0), (1, .int (nI j))] [.int 16, .int (nI j)] sgX5_init_70_fc5a5d rfl ?_
      refine am_icmpge hF 95 dX5_init_73 (by decide) (fun h9 => False.elim (nc_lt_f (show j < 16 by omega) (by omega) (by omega) rfl rfl h9)) (fun _ => ?_)
      refine am_go hF sgX5_init_76_34db8 77 [(0, .ref 0), (1, .int (nI j))] [.ref 0] sgX5_init_76_34db8d rfl ?_
      refine am_getf hF (hI_0 j) (T := TX5) (N := 9) rfl (inG 5 inG5) 0 (by decide) (List.mem_cons_of_mem _ lf_RX5_11) rfl (.ref 1) rfl dX5_init_77 ?_
      refine am_go hF sgX5_init_80_840bf 81 [(0, .ref 0), (1, .int (nI j))] [.int (nI j), .ref 1] sgX5_init_80_840bfd rfl ?_
      have hi81 := hI_p (show j < 16 by omega)
      have hb81 := hI_b (show j < 16 by omega)
      have hcl9 := hI_cl j (by omega)
      refine am_new hF hO (16 + j) hi81 (ci := 3) rfl (inG 3 inG3) tyX3 tyX3_ok (List.mem_cons_of_mem _ lc_RX5_9) (List.mem_cons_of_mem _ li_RX3) (List.mem_cons_of_mem _ lz_RX3) (fs := [.int 0, .int 0, .int 0, .null, .int 0]) hfsX3 (fun _ => rfl) (am_cl_fr hcl9 hi81) (am_nr_c (fun h => (show ¬ (0 = 16 + j) by omega) (Value.ref.inj h)) (am_nr_c (fun h => by cases h) (am_nr_c (fun h => by cases h) (am_nr_c (fun h => (show ¬ (1 = 16 + j) by omega) (Value.ref.inj h)) am_nr_nil)))) (5 + 2 * j + 1) (206 + 15 * j + 5) ⟨by omega, by omega, by show _ ≤ 37; omega, by show _ ≤ 446; omega⟩ dX5_init_81 ?_
      refine am_go hF sgX5_init_84_4b010 85 [(0, .ref 0), (1, .int (nI j))] [.ref (16 + j), .ref (16 + j), .int (nI j), .ref 1] sgX5_init_84_4b010d rfl ?_
      refine am_dIN hF hO (X := (am_u (hI j) (16 + j) (.inr (3, [.int 0, .int 0, .int 0, .null, .int 0])))) [] [.ref (16 + j), .int (nI j), .ref 1] (c_newP (i := 16 + j) (j := 32 + j) (am_us _ _ _) (am_un (show 32 + j ≠ 16 + j by omega) hb81) (by omega) (am_cl_u (i := 16 + j) (e := (.inr (3, [.int 0, .int 0, .int 0, .null, .int 0]))) hcl9 (fun r hr => by simp [am_mn] at hr))) myX3_init iyX3_init rfl (by decide +kernel) rfl (5 + 2 * j + 2) (206 + 15 * j + 15) ⟨Nat.le_of_ble_eq_true rfl, Nat.le_of_ble_eq_true rfl⟩ ⟨by show _ + 1 ≤ _; omega, by show _ + 10 ≤ _; omega, by show _ ≤ 37; omega, by show _ ≤ 446; omega⟩ rfl (am_lv_ref (am_un (show 0 ≠ 16 + j by omega) (hI_0 j)) (am_lv_int (am_lv_ref (am_us _ _ _) (am_lv_int (am_lv_ref (am_un (show 1 ≠ 16 + j by omega) (hI_1 j)) am_lv_nil))))) (Nat.le_of_ble_eq_true rfl) dX5_init_85 ?_
      refine am_aast hF (am_un (show 1 ≠ 16 + j by omega) (am_un (show 1 ≠ 32 + j by omega) (am_un (show 1 ≠ 16 + j by omega) (hI_1 j)))) (by decide) (show vwCl[3]? = some (RX3, TX3, 5) from rfl) rfl (am_us _ _ _) j rfl (show j < 16 by omega) (by decide) dX5_init_88 ?_
      refine am_eqX (hI (j + 1)) (hI_s (show j < 16 by omega)) ?_
      refine am_go hF sgX5_init_89_0cd62 70 [(1, .int (nI j + 1)), (0, .ref 0)] [] sgX5_init_89_0cd62d rfl ?_
      refine am_drop [1, 0] [(0, .ref 0), (1, .int (nI j + 1))] rfl ?_
      refine am_eqL [(0, .ref 0), (1, .int (nI (j + 1)))] (by rw [nI_1]) ?_
      refine am_widen (k' := 5 + 2 * (j + 1)) (n' := 206 + 15 * (j + 1)) (by omega) (by omega) ?_
      exact ih (j + 1) (by omega)
  refine am_widen (k' := 5 + 2 * 0) (n' := 206 + 15 * 0) (Nat.le_refl _) (Nat.le_refl _) ?_
  exact lp70 16 0 (by omega)
/-! the reference's constructor -/
theorem am_u_id {X : am_H} {i : Nat} {e : va_E} (h : X i = some e) : am_u X i e = X := by
  funext j
  unfold am_u
  by_cases hj : j = i
  · rw [if_pos hj, hj, h]
  · rw [if_neg hj]
