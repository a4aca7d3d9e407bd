/-! the law's first instructions -/
def S0 : am_T := fun _ _ => 0
theorem qR_00 : qR T0 S0 (fun _ => 0) 0 0 0 0 0 :=
  ⟨⟨⟨rfl, rfl, by decide, rfl, rfl, by decide, rfl, Nat.le_refl 0, rfl, rfl, by decide, fun _ _ => rfl⟩,
    ⟨fun _ _ => ⟨rfl, ⟨10, by decide, (show (0 : Int32) = nI 10 - 10 by decide)⟩, rfl, ⟨0, Nat.le_refl 0, rfl⟩, rfl, Or.inl rfl, rfl, 0, by decide, rfl, 0, by decide, rfl, fun _ h => absurd h (by omega)⟩, fun _ _ => ⟨0, by decide, rfl⟩⟩,
    fun _ h => absurd h (by omega), ⟨by decide, fun _ h => absurd h (by omega)⟩, fun _ h => absurd h (by omega), fun _ _ _ => ⟨rfl, rfl, rfl, rfl, rfl⟩, fun _ h => absurd h (by omega), fun _ h => absurd h (by omega),
    ⟨fun _ _ _ => ⟨rfl, rfl, rfl, rfl⟩, fun _ _ _ => (show ¬ (0 : Int32) = 1 by decide)⟩⟩,
   ⟨fun _ h => absurd h (by omega), fun _ _ h => absurd h (by omega), fun _ _ _ _ _ => ⟨rfl, rfl⟩, fun l d _ _ => ⟨bd_0 10, fun k _ => ⟨fun h => absurd (bd_0 0 k h) (by omega), fun h => absurd h.1 (by omega)⟩⟩⟩, fun _ h => absurd h (by omega)⟩
def hY0 : am_H := hX0
theorem hX0_cl : am_cl hX0 := hI_16 ▸ hI_cl 16 (Nat.le_refl 16)
theorem hY0_cl : am_cl hY0 := hX0_cl
theorem hY0_n {i : Nat} (h : 464 ≤ i) : hY0 i = none := hX0_none (by omega)
def hY1 : am_H := am_u hY0 500 (.inl (0, 32, .inl (fun _ => 0)))
theorem hY1_cl : am_cl hY1 := am_cl_u hY0_cl (fun r hr => hr.elim)
def hY2 : am_H := am_u hY1 501 (.inl (0, 60, .inl (fun _ => 0)))
theorem hY2_cl : am_cl hY2 := am_cl_u hY1_cl (fun r hr => hr.elim)
def hY3 : am_H := am_u hY2 502 (.inl (0, 60, .inl (fun _ => 0)))
theorem hY3_cl : am_cl hY3 := am_cl_u hY2_cl (fun r hr => hr.elim)
def hY4 : am_H := am_u hY3 503 (.inl (0, 32, .inl (fun _ => 0)))
theorem hY4_cl : am_cl hY4 := am_cl_u hY3_cl (fun r hr => hr.elim)
def hY5 : am_H := am_u hY4 464 (.inl (6, 8, .inr (.inl (fun _ => 0))))
theorem hY5_cl : am_cl hY5 := am_cl_u hY4_cl (fun r hr => hr.elim)
def hY6 : am_H := am_u hY5 504 (.inl (0, 60, .inl (fun _ => 0)))
theorem hY6_cl : am_cl hY6 := am_cl_u hY5_cl (fun r hr => hr.elim)
def hY7 : am_H := am_u hY6 505 (.inl (0, 60, .inl (fun _ => 0)))
theorem hY7_cl : am_cl hY7 := am_cl_u hY6_cl (fun r hr => hr.elim)
def hY8 : am_H := am_u hY7 506 (.inl (0, 60, .inl (fun _ => 0)))
theorem hY8_cl : am_cl hY8 := am_cl_u hY7_cl (fun r hr => hr.elim)
def hY9 : am_H := am_u hY8 507 (.inl (0, 3, .inl (fun _ => 0)))
theorem hY9_cl : am_cl hY9 := am_cl_u hY8_cl (fun r hr => hr.elim)
def hY10 : am_H := am_u hY9 508 (.inl (0, 4, .inl (fun _ => 0)))
theorem hY10_cl : am_cl hY10 := am_cl_u hY9_cl (fun r hr => hr.elim)
theorem hY_end : hY10 = hp T0 S0 (fun _ => 0) := by
  funext i
  by_cases h500 : i = 500
  · subst h500; rfl
  by_cases h501 : i = 501
  · subst h501; rfl
  by_cases h502 : i = 502
  · subst h502; rfl
  by_cases h503 : i = 503
  · subst h503; rfl
  by_cases h464 : i = 464
  · subst h464; rfl
  by_cases h504 : i = 504
  · subst h504; rfl
  by_cases h505 : i = 505
  · subst h505; rfl
  by_cases h506 : i = 506
  · subst h506; rfl
  by_cases h507 : i = 507
  · subst h507; rfl
  by_cases h508 : i = 508
  · subst h508; rfl
  unfold hY10 hY9 hY8 hY7 hY6 hY5 hY4 hY3 hY2 hY1 hY0 am_u
  simp only [if_neg h500, if_neg h501, if_neg h502, if_neg h503, if_neg h464, if_neg h504, if_neg h505, if_neg h506, if_neg h507, if_neg h508]
  unfold hX0 hp
  by_cases h1 : i < 464
  · rw [if_pos h1, if_pos h1]
  · rw [if_neg h1, if_neg h1, if_neg (by omega)]
    unfold hpM
    by_cases h2 : i < 500
    · rw [if_pos h2]
    · rw [if_neg h2, if_neg (by omega)]
      by_cases h3 : i = 509
      · rw [if_pos h3]; rfl
      · rw [if_neg h3]
theorem dL_law_0 : decode code 0 = .ok (.new 24, 3) := by decide +kernel
theorem dL_law_10 : decode code 10 = .ok (.newarray .int, 2) := by decide +kernel
theorem dL_law_15 : decode code 15 = .ok (.newarray .int, 2) := by decide +kernel
theorem dL_law_20 : decode code 20 = .ok (.newarray .int, 2) := by decide +kernel
theorem dL_law_26 : decode code 26 = .ok (.newarray .int, 2) := by decide +kernel
theorem dL_law_32 : decode code 32 = .ok (.newarray .long, 2) := by decide +kernel
theorem dL_law_38 : decode code 38 = .ok (.newarray .int, 2) := by decide +kernel
theorem dL_law_4 : decode code 4 = .ok (.invokespecial 127, 3) := by decide +kernel
theorem dL_law_44 : decode code 44 = .ok (.newarray .int, 2) := by decide +kernel
theorem dL_law_50 : decode code 50 = .ok (.newarray .int, 2) := by decide +kernel
theorem dL_law_55 : decode code 55 = .ok (.newarray .int, 2) := by decide +kernel
theorem dL_law_60 : decode code 60 = .ok (.newarray .int, 2) := by decide +kernel
def sgL_law_12_30d1b : List Instr := [.astore_n 2, .bipush 60]
theorem sgL_law_12_30d1bd : am_dec code 12 sgL_law_12_30d1b = true := by decide +kernel
def sgL_law_17_6541a : List Instr := [.astore_n 3, .bipush 60]
theorem sgL_law_17_6541ad : am_dec code 17 sgL_law_17_6541a = true := by decide +kernel
def sgL_law_22_13820 : List Instr := [.astore 4, .bipush 32]
theorem sgL_law_22_13820d : am_dec code 22 sgL_law_22_13820 = true := by decide +kernel
def sgL_law_28_54ff8 : List Instr := [.astore 5, .bipush 8]
theorem sgL_law_28_54ff8d : am_dec code 28 sgL_law_28_54ff8 = true := by decide +kernel
def sgL_law_34_c1273 : List Instr := [.astore 6, .bipush 60]
theorem sgL_law_34_c1273d : am_dec code 34 sgL_law_34_c1273 = true := by decide +kernel
def sgL_law_3_4b010 : List Instr := [.dup]
theorem sgL_law_3_4b010d : am_dec code 3 sgL_law_3_4b010 = true := by decide +kernel
def sgL_law_40_2ff52 : List Instr := [.astore 7, .bipush 60]
theorem sgL_law_40_2ff52d : am_dec code 40 sgL_law_40_2ff52 = true := by decide +kernel
def sgL_law_46_f8f88 : List Instr := [.astore 8, .bipush 60]
theorem sgL_law_46_f8f88d : am_dec code 46 sgL_law_46_f8f88 = true := by decide +kernel
def sgL_law_52_059a5 : List Instr := [.astore 9, .iconst 3]
theorem sgL_law_52_059a5d : am_dec code 52 sgL_law_52_059a5 = true := by decide +kernel
def sgL_law_57_591f9 : List Instr := [.astore 10, .iconst 4]
theorem sgL_law_57_591f9d : am_dec code 57 sgL_law_57_591f9 = true := by decide +kernel
def sgL_law_62_1ac2c : List Instr := [.astore 11, .iconst 0, .istore 12]
theorem sgL_law_62_1ac2cd : am_dec code 62 sgL_law_62_1ac2c = true := by decide +kernel
def sgL_law_7_523a0 : List Instr := [.astore_n 1, .bipush 32]
theorem sgL_law_7_523a0d : am_dec code 7 sgL_law_7_523a0 = true := by decide +kernel
set_option maxRecDepth 100000 in
set_option maxHeartbeats 4000000 in
theorem law_begin {C : am_Cx} {P0 : am_H → Option Value → Prop} {w0 : Cond} (hF : am_F C code 25 RL (w0 :: am_G)) (hO : am_O C (fun _ => none) P0 room_1) {b : Nat} (kk : am_W C (hp T0 S0 (fun _ => 0)) 48 834 67 [(0, .retAddr b), (1, .ref 0), (2, .ref 500), (3, .ref 501), (4, .ref 502), (5, .ref 503), (6, .ref 464), (7, .ref 504), (8, .ref 505), (9, .ref 506), (10, .ref 507), (11, .ref 508), (12, .int (nI 0))] []) : am_W C (fun _ => none) 0 0 0 [(0, .retAddr b)] [] := by
  refine am_new hF hO 0 rfl (ci := 5) rfl (inG 5 inG5) tyX5 tyX5_ok (List.mem_cons_of_mem _ lc_RL_24) (List.mem_cons_of_mem _ li_RX5) (List.mem_cons_of_mem _ lz_RX5) (fs := [.null, .null, .null, .int 0, .null, .int 0, .null, .int 0, .int 0]) hfsX5 (fun _ => rfl) (am_cl_fr am_cl_0 rfl) (am_nr_c (fun h => by cases h) am_nr_nil) 1 9 ⟨Nat.le_of_ble_eq_true rfl, Nat.le_of_ble_eq_true rfl, Nat.le_of_ble_eq_true rfl, Nat.le_of_ble_eq_true rfl⟩ dL_law_0 ?_
  refine am_go hF sgL_law_3_4b010 4 [(0, .retAddr b)] [.ref 0, .ref 0] sgL_law_3_4b010d rfl ?_
  refine am_dI hF hO [] [.ref 0] (c_init5 (G := C.se)) myX5_init iyX5_init rfl lm_RL_127 rfl 38 455 ⟨Nat.le_of_ble_eq_true rfl, Nat.le_of_ble_eq_true rfl⟩ ⟨Nat.le_of_ble_eq_true rfl, Nat.le_of_ble_eq_true rfl, Nat.le_of_ble_eq_true rfl, Nat.le_of_ble_eq_true rfl⟩ rfl (am_lv_raw (am_lv_ref (am_us _ _ _) am_lv_nil)) (Nat.le_of_ble_eq_true rfl) dL_law_4 ?_
  refine am_eqX hY0 rfl ?_
  refine am_go hF sgL_law_7_523a0 10 [(1, .ref 0), (0, .retAddr b)] [.int 32] sgL_law_7_523a0d rfl ?_
  refine am_newa hF hO 500 (hY0_n (by decide)) 0 32 (a0 := (32, .inl (fun _ => 0))) (atype := .int) (by decide) rfl (List.mem_cons_of_mem _ la_int) (fun _ => rfl) (fun _ => rfl) rfl (by decide) (am_cl_fr hY0_cl (hY0_n (by decide))) (am_nr_c (fun h => absurd (Value.ref.inj h) (by decide)) (am_nr_c (fun h => by cases h) am_nr_nil)) 39 487 ⟨Nat.le_of_ble_eq_true rfl, Nat.le_of_ble_eq_true rfl, Nat.le_of_ble_eq_true rfl, Nat.le_of_ble_eq_true rfl⟩ dL_law_10 ?_
  refine am_eqX hY1 rfl ?_
  refine am_go hF sgL_law_12_30d1b 15 [(2, .ref 500), (1, .ref 0), (0, .retAddr b)] [.int 60] sgL_law_12_30d1bd rfl ?_
  refine am_newa hF hO 501 (am_un (show 501 ≠ 500 by decide) (hY0_n (by decide))) 0 60 (a0 := (60, .inl (fun _ => 0))) (atype := .int) (by decide) rfl (List.mem_cons_of_mem _ la_int) (fun _ => rfl) (fun _ => rfl) rfl (by decide) (am_cl_fr hY1_cl (am_un (show 501 ≠ 500 by decide) (hY0_n (by decide)))) (am_nr_c (fun h => absurd (Value.ref.inj h) (by decide)) (am_nr_c (fun h => absurd (Value.ref.inj h) (by decide)) (am_nr_c (fun h => by cases h) am_nr_nil))) 40 547 ⟨Nat.le_of_ble_eq_true rfl, Nat.le_of_ble_eq_true rfl, Nat.le_of_ble_eq_true rfl, Nat.le_of_ble_eq_true rfl⟩ dL_law_15 ?_
  refine am_eqX hY2 rfl ?_
  refine am_go hF sgL_law_17_6541a 20 [(3, .ref 501), (2, .ref 500), (1, .ref 0), (0, .retAddr b)] [.int 60] sgL_law_17_6541ad rfl ?_
  refine am_newa hF hO 502 (am_un (show 502 ≠ 501 by decide) (am_un (show 502 ≠ 500 by decide) (hY0_n (by decide)))) 0 60 (a0 := (60, .inl (fun _ => 0))) (atype := .int) (by decide) rfl (List.mem_cons_of_mem _ la_int) (fun _ => rfl) (fun _ => rfl) rfl (by decide) (am_cl_fr hY2_cl (am_un (show 502 ≠ 501 by decide) (am_un (show 502 ≠ 500 by decide) (hY0_n (by decide))))) (am_nr_c (fun h => absurd (Value.ref.inj h) (by decide)) (am_nr_c (fun h => absurd (Value.ref.inj h) (by decide)) (am_nr_c (fun h => absurd (Value.ref.inj h) (by decide)) (am_nr_c (fun h => by cases h) am_nr_nil)))) 41 607 ⟨Nat.le_of_ble_eq_true rfl, Nat.le_of_ble_eq_true rfl, Nat.le_of_ble_eq_true rfl, Nat.le_of_ble_eq_true rfl⟩ dL_law_20 ?_
  refine am_eqX hY3 rfl ?_
  refine am_go hF sgL_law_22_13820 26 [(4, .ref 502), (3, .ref 501), (2, .ref 500), (1, .ref 0), (0, .retAddr b)] [.int 32] sgL_law_22_13820d rfl ?_
  refine am_newa hF hO 503 (am_un (show 503 ≠ 502 by decide) (am_un (show 503 ≠ 501 by decide) (am_un (show 503 ≠ 500 by decide) (hY0_n (by decide))))) 0 32 (a0 := (32, .inl (fun _ => 0))) (atype := .int) (by decide) rfl (List.mem_cons_of_mem _ la_int) (fun _ => rfl) (fun _ => rfl) rfl (by decide) (am_cl_fr hY3_cl (am_un (show 503 ≠ 502 by decide) (am_un (show 503 ≠ 501 by decide) (am_un (show 503 ≠ 500 by decide) (hY0_n (by decide)))))) (am_nr_c (fun h => absurd (Value.ref.inj h) (by decide)) (am_nr_c (fun h => absurd (Value.ref.inj h) (by decide)) (am_nr_c (fun h => absurd (Value.ref.inj h) (by decide)) (am_nr_c (fun h => absurd (Value.ref.inj h) (by decide)) (am_nr_c (fun h => by cases h) am_nr_nil))))) 42 639 ⟨Nat.le_of_ble_eq_true rfl, Nat.le_of_ble_eq_true rfl, Nat.le_of_ble_eq_true rfl, Nat.le_of_ble_eq_true rfl⟩ dL_law_26 ?_
  refine am_eqX hY4 rfl ?_
  refine am_go hF sgL_law_28_54ff8 32 [(5, .ref 503), (4, .ref 502), (3, .ref 501), (2, .ref 500), (1, .ref 0), (0, .retAddr b)] [.int 8] sgL_law_28_54ff8d rfl ?_
  refine am_newa hF hO 464 (am_un (show 464 ≠ 503 by decide) (am_un (show 464 ≠ 502 by decide) (am_un (show 464 ≠ 501 by decide) (am_un (show 464 ≠ 500 by decide) (hY0_n (by decide)))))) 6 8 (a0 := (8, .inr (.inl (fun _ => 0)))) (atype := .long) (by decide) rfl (List.mem_cons_of_mem _ la_long) (fun _ => rfl) (fun _ => rfl) rfl (by decide) (am_cl_fr hY4_cl (am_un (show 464 ≠ 503 by decide) (am_un (show 464 ≠ 502 by decide) (am_un (show 464 ≠ 501 by decide) (am_un (show 464 ≠ 500 by decide) (hY0_n (by decide))))))) (am_nr_c (fun h => absurd (Value.ref.inj h) (by decide)) (am_nr_c (fun h => absurd (Value.ref.inj h) (by decide)) (am_nr_c (fun h => absurd (Value.ref.inj h) (by decide)) (am_nr_c (fun h => absurd (Value.ref.inj h) (by decide)) (am_nr_c (fun h => absurd (Value.ref.inj h) (by decide)) (am_nr_c (fun h => by cases h) am_nr_nil)))))) 43 647 ⟨Nat.le_of_ble_eq_true rfl, Nat.le_of_ble_eq_true rfl, Nat.le_of_ble_eq_true rfl, Nat.le_of_ble_eq_true rfl⟩ dL_law_32 ?_
  refine am_eqX hY5 rfl ?_
  refine am_go hF sgL_law_34_c1273 38 [(6, .ref 464), (5, .ref 503), (4, .ref 502), (3, .ref 501), (2, .ref 500), (1, .ref 0), (0, .retAddr b)] [.int 60] sgL_law_34_c1273d rfl ?_
  refine am_newa hF hO 504 (am_un (show 504 ≠ 464 by decide) (am_un (show 504 ≠ 503 by decide) (am_un (show 504 ≠ 502 by decide) (am_un (show 504 ≠ 501 by decide) (am_un (show 504 ≠ 500 by decide) (hY0_n (by decide))))))) 0 60 (a0 := (60, .inl (fun _ => 0))) (atype := .int) (by decide) rfl (List.mem_cons_of_mem _ la_int) (fun _ => rfl) (fun _ => rfl) rfl (by decide) (am_cl_fr hY5_cl (am_un (show 504 ≠ 464 by decide) (am_un (show 504 ≠ 503 by decide) (am_un (show 504 ≠ 502 by decide) (am_un (show 504 ≠ 501 by decide) (am_un (show 504 ≠ 500 by decide) (hY0_n (by decide)))))))) (am_nr_c (fun h => absurd (Value.ref.inj h) (by decide)) (am_nr_c (fun h => absurd (Value.ref.inj h) (by decide)) (am_nr_c (fun h => absurd (Value.ref.inj h) (by decide)) (am_nr_c (fun h => absurd (Value.ref.inj h) (by decide)) (am_nr_c (fun h => absurd (Value.ref.inj h) (by decide)) (am_nr_c (fun h => absurd (Value.ref.inj h) (by decide)) (am_nr_c (fun h => by cases h) am_nr_nil))))))) 44 707 ⟨Nat.le_of_ble_eq_true rfl, Nat.le_of_ble_eq_true rfl, Nat.le_of_ble_eq_true rfl, Nat.le_of_ble_eq_true rfl⟩ dL_law_38 ?_
  refine am_eqX hY6 rfl ?_
  refine am_go hF sgL_law_40_2ff52 44 [(7, .ref 504), (6, .ref 464), (5, .ref 503), (4, .ref 502), (3, .ref 501), (2, .ref 500), (1, .ref 0), (0, .retAddr b)] [.int 60] sgL_law_40_2ff52d rfl ?_
  refine am_newa hF hO 505 (am_un (show 505 ≠ 504 by decide) (am_un (show 505 ≠ 464 by decide) (am_un (show 505 ≠ 503 by decide) (am_un (show 505 ≠ 502 by decide) (am_un (show 505 ≠ 501 by decide) (am_un (show 505 ≠ 500 by decide) (hY0_n (by decide)))))))) 0 60 (a0 := (60, .inl (fun _ => 0))) (atype := .int) (by decide) rfl (List.mem_cons_of_mem _ la_int) (fun _ => rfl) (fun _ => rfl) rfl (by decide) (am_cl_fr hY6_cl (am_un (show 505 ≠ 504 by decide) (am_un (show 505 ≠ 464 by decide) (am_un (show 505 ≠ 503 by decide) (am_un (show 505 ≠ 502 by decide) (am_un (show 505 ≠ 501 by decide) (am_un (show 505 ≠ 500 by decide) (hY0_n (by decide))))))))) (am_nr_c (fun h => absurd (Value.ref.inj h) (by decide)) (am_nr_c (fun h => absurd (Value.ref.inj h) (by decide)) (am_nr_c (fun h => absurd (Value.ref.inj h) (by decide)) (am_nr_c (fun h => absurd (Value.ref.inj h) (by decide)) (am_nr_c (fun h => absurd (Value.ref.inj h) (by decide)) (am_nr_c (fun h => absurd (Value.ref.inj h) (by decide)) (am_nr_c (fun h => absurd (Value.ref.inj h) (by decide)) (am_nr_c (fun h => by cases h) am_nr_nil)))))))) 45 767 ⟨Nat.le_of_ble_eq_true rfl, Nat.le_of_ble_eq_true rfl, Nat.le_of_ble_eq_true rfl, Nat.le_of_ble_eq_true rfl⟩ dL_law_44 ?_
  refine am_eqX hY7 rfl ?_
  refine am_go hF sgL_law_46_f8f88 50 [(8, .ref 505), (7, .ref 504), (6, .ref 464), (5, .ref 503), (4, .ref 502), (3, .ref 501), (2, .ref 500), (1, .ref 0), (0, .retAddr b)] [.int 60] sgL_law_46_f8f88d rfl ?_
  refine am_newa hF hO 506 (am_un (show 506 ≠ 505 by decide) (am_un (show 506 ≠ 504 by decide) (am_un (show 506 ≠ 464 by decide) (am_un (show 506 ≠ 503 by decide) (am_un (show 506 ≠ 502 by decide) (am_un (show 506 ≠ 501 by decide) (am_un (show 506 ≠ 500 by decide) (hY0_n (by decide))))))))) 0 60 (a0 := (60, .inl (fun _ => 0))) (atype := .int) (by decide) rfl (List.mem_cons_of_mem _ la_int) (fun _ => rfl) (fun _ => rfl) rfl (by decide) (am_cl_fr hY7_cl (am_un (show 506 ≠ 505 by decide) (am_un (show 506 ≠ 504 by decide) (am_un (show 506 ≠ 464 by decide) (am_un (show 506 ≠ 503 by decide) (am_un (show 506 ≠ 502 by decide) (am_un (show 506 ≠ 501 by decide) (am_un (show 506 ≠ 500 by decide) (hY0_n (by decide)))))))))) (am_nr_c (fun h => absurd (Value.ref.inj h) (by decide)) (am_nr_c (fun h => absurd (Value.ref.inj h) (by decide)) (am_nr_c (fun h => absurd (Value.ref.inj h) (by decide)) (am_nr_c (fun h => absurd (Value.ref.inj h) (by decide)) (am_nr_c (fun h => absurd (Value.ref.inj h) (by decide)) (am_nr_c (fun h => absurd (Value.ref.inj h) (by decide)) (am_nr_c (fun h => absurd (Value.ref.inj h) (by decide)) (am_nr_c (fun h => absurd (Value.ref.inj h) (by decide)) (am_nr_c (fun h => by cases h) am_nr_nil))))))))) 46 827 ⟨Nat.le_of_ble_eq_true rfl, Nat.le_of_ble_eq_true rfl, Nat.le_of_ble_eq_true rfl, Nat.le_of_ble_eq_true rfl⟩ dL_law_50 ?_
  refine am_eqX hY8 rfl ?_
  refine am_go hF sgL_law_52_059a5 55 [(9, .ref 506), (8, .ref 505), (7, .ref 504), (6, .ref 464), (5, .ref 503), (4, .ref 502), (3, .ref 501), (2, .ref 500), (1, .ref 0), (0, .retAddr b)] [.int 3] sgL_law_52_059a5d rfl ?_
  refine am_newa hF hO 507 (am_un (show 507 ≠ 506 by decide) (am_un (show 507 ≠ 505 by decide) (am_un (show 507 ≠ 504 by decide) (am_un (show 507 ≠ 464 by decide) (am_un (show 507 ≠ 503 by decide) (am_un (show 507 ≠ 502 by decide) (am_un (show 507 ≠ 501 by decide) (am_un (show 507 ≠ 500 by decide) (hY0_n (by decide)))))))))) 0 3 (a0 := (3, .inl (fun _ => 0))) (atype := .int) (by decide) rfl (List.mem_cons_of_mem _ la_int) (fun _ => rfl) (fun _ => rfl) rfl (by decide) (am_cl_fr hY8_cl (am_un (show 507 ≠ 506 by decide) (am_un (show 507 ≠ 505 by decide) (am_un (show 507 ≠ 504 by decide) (am_un (show 507 ≠ 464 by decide) (am_un (show 507 ≠ 503 by decide) (am_un (show 507 ≠ 502 by decide) (am_un (show 507 ≠ 501 by decide) (am_un (show 507 ≠ 500 by decide) (hY0_n (by decide))))))))))) (am_nr_c (fun h => absurd (Value.ref.inj h) (by decide)) (am_nr_c (fun h => absurd (Value.ref.inj h) (by decide)) (am_nr_c (fun h => absurd (Value.ref.inj h) (by decide)) (am_nr_c (fun h => absurd (Value.ref.inj h) (by decide)) (am_nr_c (fun h => absurd (Value.ref.inj h) (by decide)) (am_nr_c (fun h => absurd (Value.ref.inj h) (by decide)) (am_nr_c (fun h => absurd (Value.ref.inj h) (by decide)) (am_nr_c (fun h => absurd (Value.ref.inj h) (by decide)) (am_nr_c (fun h => absurd (Value.ref.inj h) (by decide)) (am_nr_c (fun h => by cases h) am_nr_nil)))))))))) 47 830 ⟨Nat.le_of_ble_eq_true rfl, Nat.le_of_ble_eq_true rfl, Nat.le_of_ble_eq_true rfl, Nat.le_of_ble_eq_true rfl⟩ dL_law_55 ?_
  refine am_eqX hY9 rfl ?_
  refine am_go hF sgL_law_57_591f9 60 [(10, .ref 507), (9, .ref 506), (8, .ref 505), (7, .ref 504), (6, .ref 464), (5, .ref 503), (4, .ref 502), (3, .ref 501), (2, .ref 500), (1, .ref 0), (0, .retAddr b)] [.int 4] sgL_law_57_591f9d rfl ?_
  refine am_newa hF hO 508 (am_un (show 508 ≠ 507 by decide) (am_un (show 508 ≠ 506 by decide) (am_un (show 508 ≠ 505 by decide) (am_un (show 508 ≠ 504 by decide) (am_un (show 508 ≠ 464 by decide) (am_un (show 508 ≠ 503 by decide) (am_un (show 508 ≠ 502 by decide) (am_un (show 508 ≠ 501 by decide) (am_un (show 508 ≠ 500 by decide) (hY0_n (by decide))))))))))) 0 4 (a0 := (4, .inl (fun _ => 0))) (atype := .int) (by decide) rfl (List.mem_cons_of_mem _ la_int) (fun _ => rfl) (fun _ => rfl) rfl (by decide) (am_cl_fr hY9_cl (am_un (show 508 ≠ 507 by decide) (am_un (show 508 ≠ 506 by decide) (am_un (show 508 ≠ 505 by decide) (am_un (show 508 ≠ 504 by decide) (am_un (show 508 ≠ 464 by decide) (am_un (show 508 ≠ 503 by decide) (am_un (show 508 ≠ 502 by decide) (am_un (show 508 ≠ 501 by decide) (am_un (show 508 ≠ 500 by decide) (hY0_n (by decide)))))))))))) (am_nr_c (fun h => absurd (Value.ref.inj h) (by decide)) (am_nr_c (fun h => absurd (Value.ref.inj h) (by decide)) (am_nr_c (fun h => absurd (Value.ref.inj h) (by decide)) (am_nr_c (fun h => absurd (Value.ref.inj h) (by decide)) (am_nr_c (fun h => absurd (Value.ref.inj h) (by decide)) (am_nr_c (fun h => absurd (Value.ref.inj h) (by decide)) (am_nr_c (fun h => absurd (Value.ref.inj h) (by decide)) (am_nr_c (fun h => absurd (Value.ref.inj h) (by decide)) (am_nr_c (fun h => absurd (Value.ref.inj h) (by decide)) (am_nr_c (fun h => absurd (Value.ref.inj h) (by decide)) (am_nr_c (fun h => by cases h) am_nr_nil))))))))))) 48 834 ⟨Nat.le_of_ble_eq_true rfl, Nat.le_of_ble_eq_true rfl, Nat.le_of_ble_eq_true rfl, Nat.le_of_ble_eq_true rfl⟩ dL_law_60 ?_
  refine am_eqX hY10 rfl ?_
  refine am_eqX (hp T0 S0 (fun _ => 0)) hY_end ?_
  refine am_go hF sgL_law_62_1ac2c 67 [(12, .int 0), (11, .ref 508), (10, .ref 507), (9, .ref 506), (8, .ref 505), (7, .ref 504), (6, .ref 464), (5, .ref 503), (4, .ref 502), (3, .ref 501), (2, .ref 500), (1, .ref 0), (0, .retAddr b)] [] sgL_law_62_1ac2cd rfl ?_
  refine am_drop [12, 11, 10, 9, 8, 7, 6, 5, 4, 3, 2, 1, 0] [(0, .retAddr b), (1, .ref 0), (2, .ref 500), (3, .ref 501), (4, .ref 502), (5, .ref 503), (6, .ref 464), (7, .ref 504), (8, .ref 505), (9, .ref 506), (10, .ref 507), (11, .ref 508), (12, .int 0)] rfl ?_
  refine am_eqL [(0, .retAddr b), (1, .ref 0), (2, .ref 500), (3, .ref 501), (4, .ref 502), (5, .ref 503), (6, .ref 464), (7, .ref 504), (8, .ref 505), (9, .ref 506), (10, .ref 507), (11, .ref 508), (12, .int (nI 0))] rfl ?_
  exact kk
