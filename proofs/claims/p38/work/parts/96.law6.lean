/-! the law's turns: which one it is; all of them -/
theorem dL_law_104 : decode code 104 = .ok (.if_icmp .ge 7, 3) := by decide +kernel
theorem dL_law_115 : decode code 115 = .ok (.invokestatic 131, 3) := by decide +kernel
theorem dL_law_126 : decode code 126 = .ok (.invokestatic 131, 3) := by decide +kernel
theorem dL_law_134 : decode code 134 = .ok (.iaload, 1) := by decide +kernel
theorem dL_law_135 : decode code 135 = .ok (.ifCond .ne 7, 3) := by decide +kernel
theorem dL_law_147 : decode code 147 = .ok (.iaload, 1) := by decide +kernel
theorem dL_law_148 : decode code 148 = .ok (.invokestatic 131, 3) := by decide +kernel
theorem dL_law_156 : decode code 156 = .ok (.iaload, 1) := by decide +kernel
theorem dL_law_157 : decode code 157 = .ok (.ifCond .ne 7, 3) := by decide +kernel
theorem dL_law_171 : decode code 171 = .ok (.iaload, 1) := by decide +kernel
theorem dL_law_172 : decode code 172 = .ok (.invokestatic 131, 3) := by decide +kernel
theorem dL_law_71 : decode code 71 = .ok (.if_icmp .ge 2561, 3) := by decide +kernel
theorem dL_law_74 : decode code 74 = .ok (.aload_n 0, 1) := by decide +kernel
theorem dL_law_79 : decode code 79 = .ok (.invokestatic 128, 3) := by decide +kernel
theorem dL_law_84 : decode code 84 = .ok (.aload_n 0, 1) := by decide +kernel
theorem dL_law_91 : decode code 91 = .ok (.invokestatic 128, 3) := by decide +kernel
theorem dL_law_97 : decode code 97 = .ok (.newarray .int, 2) := by decide +kernel
def sgL_law_107_d5be3 : List Instr := [.iconst 0, .goto 10, .istore 16, .iload 13, .iconst 5, .ishr, .bipush 8]
theorem sgL_law_107_d5be3d : am_dec code 107 sgL_law_107_d5be3 = true := by decide +kernel
def sgL_law_111_1adca : List Instr := [.iload 13, .bipush 26]
theorem sgL_law_111_1adcad : am_dec code 111 sgL_law_111_1adca = true := by decide +kernel
def sgL_law_118_f5f6b : List Instr := [.istore 16, .iload 13, .iconst 5, .ishr, .bipush 8]
theorem sgL_law_118_f5f6bd : am_dec code 118 sgL_law_118_f5f6b = true := by decide +kernel
def sgL_law_129_f0dd3 : List Instr := [.istore 17, .aload 10, .iconst 1]
theorem sgL_law_129_f0dd3d : am_dec code 129 sgL_law_129_f0dd3 = true := by decide +kernel
def sgL_law_138_4c4ac : List Instr := [.iconst 0, .goto 12, .istore 18, .aload 10, .iconst 2]
theorem sgL_law_138_4c4acd : am_dec code 138 sgL_law_138_4c4ac = true := by decide +kernel
def sgL_law_142_1ac8d : List Instr := [.iload 14, .aload 10, .iconst 1]
theorem sgL_law_142_1ac8dd : am_dec code 142 sgL_law_142_1ac8d = true := by decide +kernel
def sgL_law_151_b760a : List Instr := [.istore 18, .aload 10, .iconst 2]
theorem sgL_law_151_b760ad : am_dec code 151 sgL_law_151_b760a = true := by decide +kernel
def sgL_law_160_00f1a : List Instr := [.iconst 0, .goto 14, .istore 19]
theorem sgL_law_160_00f1ad : am_dec code 160 sgL_law_160_00f1a = true := by decide +kernel
def sgL_law_164_777e2 : List Instr := [.iload 14, .iconst 4, .ishr, .aload 10, .iconst 2]
theorem sgL_law_164_777e2d : am_dec code 164 sgL_law_164_777e2 = true := by decide +kernel
def sgL_law_175_74b9d : List Instr := [.istore 19]
theorem sgL_law_175_74b9dd : am_dec code 175 sgL_law_175_74b9d = true := by decide +kernel
def sgL_law_2626_e2a56 : List Instr := [.iinc 12 1, .goto (-2562)]
theorem sgL_law_2626_e2a56d : am_dec code 2626 sgL_law_2626_e2a56 = true := by decide +kernel
def sgL_law_67_d7554 : List Instr := [.iload 12, .bipush 64]
theorem sgL_law_67_d7554d : am_dec code 67 sgL_law_67_d7554 = true := by decide +kernel
def sgL_law_75_ce119 : List Instr := [.iconst 2, .iload 12, .imul]
theorem sgL_law_75_ce119d : am_dec code 75 sgL_law_75_ce119 = true := by decide +kernel
def sgL_law_82_acb56 : List Instr := [.istore 13]
theorem sgL_law_82_acb56d : am_dec code 82 sgL_law_82_acb56 = true := by decide +kernel
def sgL_law_85_9689a : List Instr := [.iconst 2, .iload 12, .imul, .iconst 1, .iadd]
theorem sgL_law_85_9689ad : am_dec code 85 sgL_law_85_9689a = true := by decide +kernel
def sgL_law_94_9cac5 : List Instr := [.istore 14]
theorem sgL_law_94_9cac5d : am_dec code 94 sgL_law_94_9cac5 = true := by decide +kernel
def sgL_law_96_e64fa : List Instr := [.iconst 4]
theorem sgL_law_96_e64fad : am_dec code 96 sgL_law_96_e64fa = true := by decide +kernel
def sgL_law_99_c9b9d : List Instr := [.astore 15, .iload 12, .iconst 1]
theorem sgL_law_99_c9b9dd : am_dec code 99 sgL_law_99_c9b9d = true := by decide +kernel
set_option maxRecDepth 100000 in
set_option maxHeartbeats 8000000 in
theorem law_disp {C : am_Cx} {X0 : am_H} {P0 : am_H → Option Value → Prop} {w0 : Cond} (hF : am_F C code 25 RL (w0 :: am_G)) (hO : am_O C X0 P0 room_1) (hG : C.la.stackTraces = false) {b tn k0 n0 c : Nat} (hc : c ≤ 63) (hk0 : k0 + 8 ≤ 600104) (hn0 : n0 + 64 ≤ 7301313) (Kc : ∀ (T S : am_T) (o : Nat → Int64) (n m v t : Nat), qR T S o n m v t (c + 1) → S 91 0 = 1 → 1 ≤ n → am_W C (hp T S o) (k0 + 8) (n0 + 64) 2626 [(0, .retAddr b), (1, .ref 0), (2, .ref 500), (3, .ref 501), (4, .ref 502), (5, .ref 503), (6, .ref 464), (7, .ref 504), (8, .ref 505), (9, .ref 506), (10, .ref 507), (11, .ref 508), (12, .int (nI tn))] []) {T S : am_T} {o : Nat → Int64} {n m v t : Nat} (h : qR T S o n m v t c) {A B : Int32} {kd p l k : Nat} (hp8 : p < 8) (hk26 : kd < 26) (hl : l < n ∨ n = 0 ∧ l = 0) (hk9 : k < m ∨ m = 0 ∧ k = 0) (hn1 : kd = 0 ∨ 1 ≤ n) : am_W C (hp T (z90 S) o) k0 n0 177 [(0, .retAddr b), (1, .ref 0), (2, .ref 500), (3, .ref 501), (4, .ref 502), (5, .ref 503), (6, .ref 464), (7, .ref 504), (8, .ref 505), (9, .ref 506), (10, .ref 507), (11, .ref 508), (12, .int (nI tn)), (13, .int A), (14, .int B), (15, .ref 509), (16, .int (nI kd)), (17, .int (nI p)), (18, .int (nI l)), (19, .int (nI k))] [] := by
  have hkk : (0 ≤ kd ∧ kd ≤ 1) ∨ (2 ≤ kd ∧ kd ≤ 5) ∨ (6 ≤ kd ∧ kd ≤ 6) ∨ (7 ≤ kd ∧ kd ≤ 8) ∨ (9 ≤ kd ∧ kd ≤ 9) ∨ (10 ≤ kd ∧ kd ≤ 10) ∨ (11 ≤ kd ∧ kd ≤ 11) ∨ (12 ≤ kd ∧ kd ≤ 17) ∨ (18 ≤ kd ∧ kd ≤ 18) ∨ (19 ≤ kd ∧ kd ≤ 20) ∨ (21 ≤ kd ∧ kd ≤ 23) ∨ (24 ≤ kd ∧ kd ≤ 24) ∨ (25 ≤ kd ∧ kd ≤ 25) := by omega
  rcases hkk with h9 | h9 | h9 | h9 | h9 | h9 | h9 | h9 | h9 | h9 | h9 | h9 | h9
  · exact law_k0 hF hO hG hc hk0 hn0 Kc h hp8 hk26 hl hk9 h9
  · exact law_k2 hF hO hG hc hk0 hn0 Kc h hp8 hk26 hl hk9 h9 (by omega)
  · exact law_k6 hF hO hG hc hk0 hn0 Kc h hp8 hk26 hl hk9 h9 (by omega)
  · exact law_k7 hF hO hG hc hk0 hn0 Kc h hp8 hk26 hl hk9 h9 (by omega)
  · exact law_k9 hF hO hG hc hk0 hn0 Kc h hp8 hk26 hl hk9 h9 (by omega)
  · exact law_k10 hF hO hG hc hk0 hn0 Kc h hp8 hk26 hl hk9 h9 (by omega)
  · exact law_k11 hF hO hG hc hk0 hn0 Kc h hp8 hk26 hl hk9 h9 (by omega)
  · exact law_k12 hF hO hG hc hk0 hn0 Kc h hp8 hk26 hl hk9 h9 (by omega)
  · exact law_k18 hF hO hG hc hk0 hn0 Kc h hp8 hk26 hl hk9 h9 (by omega)
  · exact law_k19 hF hO hG hc hk0 hn0 Kc h hp8 hk26 hl hk9 h9 (by omega)
  · exact law_k21 hF hO hG hc hk0 hn0 Kc h hp8 hk26 hl hk9 h9 (by omega)
  · exact law_k24 hF hO hG hc hk0 hn0 Kc h hp8 hk26 hl hk9 h9 (by omega)
  · exact law_k25 hF hO hG hc hk0 hn0 Kc h hp8 hk26 hl hk9 h9 (by omega)
set_option maxRecDepth 100000 in
set_option maxHeartbeats 8000000 in
theorem law_turn {C : am_Cx} {X0 : am_H} {P0 : am_H → Option Value → Prop} {w0 : Cond} (hF : am_F C code 25 RL (w0 :: am_G)) (hO : am_O C X0 P0 room_1) (hG : C.la.stackTraces = false) {b N : Nat} {xs : Nat → Int32} (hXs : va_X b N xs C.st C.st.heap) (hbl : b < C.st.heap.size) (hbA : ¬ C.n0 ≤ b) (hN : N ≤ 260) {tn k1 n1 : Nat} (hc : tn ≤ 63) (hk1 : k1 + 9 ≤ 600104) (hn1 : n1 + 68 ≤ 7301313) (Kc : ∀ (T S : am_T) (o : Nat → Int64) (n m v t : Nat), qR T S o n m v t (tn + 1) → S 91 0 = 1 → 1 ≤ n → am_W C (hp T S o) (k1 + 1 + 8) (n1 + 4 + 64) 2626 [(0, .retAddr b), (1, .ref 0), (2, .ref 500), (3, .ref 501), (4, .ref 502), (5, .ref 503), (6, .ref 464), (7, .ref 504), (8, .ref 505), (9, .ref 506), (10, .ref 507), (11, .ref 508), (12, .int (nI tn))] []) {T S : am_T} {o : Nat → Int64} {n m v t : Nat} (h : qR T S o n m v t tn) (h91 : ¬ S 91 0 = 1) (h0 : tn = 0 ∧ n = 0 ∧ m = 0 ∨ 1 ≤ tn ∧ 1 ≤ n) : am_W C (hp T S o) k1 n1 74 [(0, .retAddr b), (1, .ref 0), (2, .ref 500), (3, .ref 501), (4, .ref 502), (5, .ref 503), (6, .ref 464), (7, .ref 504), (8, .ref 505), (9, .ref 506), (10, .ref 507), (11, .ref 508), (12, .int (nI tn))] [] := by
  obtain ⟨a1, a2, hn4, a4, a5, hm10, a7, hvm, a9, a10, ht14, a12⟩ := id h.1.1
  have hs := qB_safe h.1
  have z71 : z90 S 71 0 = nI n := a2
  have z72 : z90 S 72 0 = nI m := a5
  refine am_aload0 hF rfl dL_law_74 ?_
  refine am_go hF sgL_law_75_ce119 79 [(0, .retAddr b), (1, .ref 0), (2, .ref 500), (3, .ref 501), (4, .ref 502), (5, .ref 503), (6, .ref 464), (7, .ref 504), (8, .ref 505), (9, .ref 506), (10, .ref 507), (11, .ref 508), (12, .int (nI tn))] [.int (2 * (nI tn)), .retAddr b] sgL_law_75_ce119d rfl ?_
  refine am_eqS [.int (nI (2 * tn)), .retAddr b] (by rw [show (2 * (nI tn) : Int32) = nI (2 * tn) from (am_mu rfl rfl)]) ?_
  refine am_dCell hF hO hXs hbl hbA [.retAddr b, .int (nI (2 * tn))] [] (c_cell hN (show 2 * tn < 1000 by omega)) myL_cell syL_cell lm_RL_128 rfl k1 n1 ⟨Nat.le_of_ble_eq_true rfl, Nat.le_of_ble_eq_true rfl⟩ ⟨Nat.le_refl _, Nat.le_refl _, by show _ ≤ 600104; omega, by show _ ≤ 7301313; omega⟩ rfl (am_lv_raw (am_lv_ref (hp_main _ _ _) (am_lv_ref (hp_a _ _ _ (f := 0) (by decide)) (am_lv_ref (hp_a _ _ _ (f := 1) (by decide)) (am_lv_ref (hp_a _ _ _ (f := 2) (by decide)) (am_lv_ref (hp_a _ _ _ (f := 3) (by decide)) (am_lv_ref (hp_o _ _ _) (am_lv_ref (hp_a _ _ _ (f := 4) (by decide)) (am_lv_ref (hp_a _ _ _ (f := 5) (by decide)) (am_lv_ref (hp_a _ _ _ (f := 6) (by decide)) (am_lv_ref (hp_a _ _ _ (f := 7) (by decide)) (am_lv_ref (hp_a _ _ _ (f := 8) (by decide)) (am_lv_int am_lv_nil))))))))))))) (Nat.le_of_ble_eq_true rfl) dL_law_79 [.int (lCell N xs (2 * tn))] rfl ?_
  refine am_go hF sgL_law_82_acb56 84 [(13, .int (lCell N xs (2 * tn))), (0, .retAddr b), (1, .ref 0), (2, .ref 500), (3, .ref 501), (4, .ref 502), (5, .ref 503), (6, .ref 464), (7, .ref 504), (8, .ref 505), (9, .ref 506), (10, .ref 507), (11, .ref 508), (12, .int (nI tn))] [] sgL_law_82_acb56d rfl ?_
  generalize lCell N xs (2 * tn) = A
  refine am_aload0 hF rfl dL_law_84 ?_
  refine am_go hF sgL_law_85_9689a 91 [(13, .int A), (0, .retAddr b), (1, .ref 0), (2, .ref 500), (3, .ref 501), (4, .ref 502), (5, .ref 503), (6, .ref 464), (7, .ref 504), (8, .ref 505), (9, .ref 506), (10, .ref 507), (11, .ref 508), (12, .int (nI tn))] [.int ((2 * (nI tn)) + 1), .retAddr b] sgL_law_85_9689ad rfl ?_
  refine am_eqS [.int (nI ((2 * tn) + 1)), .retAddr b] (by rw [show ((2 * (nI tn)) + 1 : Int32) = nI ((2 * tn) + 1) from (am_ad (am_mu rfl rfl) rfl)]) ?_
  refine am_dCell hF hO hXs hbl hbA [.retAddr b, .int (nI ((2 * tn) + 1))] [] (c_cell hN (show (2 * tn) + 1 < 1000 by omega)) myL_cell syL_cell lm_RL_128 rfl k1 n1 ⟨Nat.le_of_ble_eq_true rfl, Nat.le_of_ble_eq_true rfl⟩ ⟨Nat.le_refl _, Nat.le_refl _, by show _ ≤ 600104; omega, by show _ ≤ 7301313; omega⟩ rfl (am_lv_int (am_lv_raw (am_lv_ref (hp_main _ _ _) (am_lv_ref (hp_a _ _ _ (f := 0) (by decide)) (am_lv_ref (hp_a _ _ _ (f := 1) (by decide)) (am_lv_ref (hp_a _ _ _ (f := 2) (by decide)) (am_lv_ref (hp_a _ _ _ (f := 3) (by decide)) (am_lv_ref (hp_o _ _ _) (am_lv_ref (hp_a _ _ _ (f := 4) (by decide)) (am_lv_ref (hp_a _ _ _ (f := 5) (by decide)) (am_lv_ref (hp_a _ _ _ (f := 6) (by decide)) (am_lv_ref (hp_a _ _ _ (f := 7) (by decide)) (am_lv_ref (hp_a _ _ _ (f := 8) (by decide)) (am_lv_int am_lv_nil)))))))))))))) (Nat.le_of_ble_eq_true rfl) dL_law_91 [.int (lCell N xs ((2 * tn) + 1))] rfl ?_
  refine am_go hF sgL_law_94_9cac5 96 [(14, .int (lCell N xs ((2 * tn) + 1))), (13, .int A), (0, .retAddr b), (1, .ref 0), (2, .ref 500), (3, .ref 501), (4, .ref 502), (5, .ref 503), (6, .ref 464), (7, .ref 504), (8, .ref 505), (9, .ref 506), (10, .ref 507), (11, .ref 508), (12, .int (nI tn))] [] sgL_law_94_9cac5d rfl ?_
  generalize lCell N xs ((2 * tn) + 1) = B
  refine am_go hF sgL_law_96_e64fa 97 [(14, .int B), (13, .int A), (0, .retAddr b), (1, .ref 0), (2, .ref 500), (3, .ref 501), (4, .ref 502), (5, .ref 503), (6, .ref 464), (7, .ref 504), (8, .ref 505), (9, .ref 506), (10, .ref 507), (11, .ref 508), (12, .int (nI tn))] [.int 4] sgL_law_96_e64fad rfl ?_
  refine am_drop [2, 3, 4, 5, 6, 7, 8, 9, 10, 11, 12, 13, 14, 1, 0] [(0, .retAddr b), (1, .ref 0), (2, .ref 500), (3, .ref 501), (4, .ref 502), (5, .ref 503), (6, .ref 464), (7, .ref 504), (8, .ref 505), (9, .ref 506), (10, .ref 507), (11, .ref 508), (12, .int (nI tn)), (13, .int A), (14, .int B)] rfl ?_
  refine am_newa hF hO 509 (hp_tn _ _ _ h91) 0 4 (a0 := (4, .inl (fun _ => 0))) (atype := .int) (by decide) rfl (List.mem_cons_of_mem _ la_int) (fun _ => rfl) (fun _ => rfl) rfl (by decide) (am_cl_fr (hp_cl hs) (hp_tn _ _ _ h91)) (am_nr_c (fun h => by cases h) (am_nr_c (fun h => absurd (Value.ref.inj h) (by decide)) (am_nr_c (fun h => absurd (Value.ref.inj h) (by decide)) (am_nr_c (fun h => absurd (Value.ref.inj h) (by decide)) (am_nr_c (fun h => absurd (Value.ref.inj h) (by decide)) (am_nr_c (fun h => absurd (Value.ref.inj h) (by decide)) (am_nr_c (fun h => absurd (Value.ref.inj h) (by decide)) (am_nr_c (fun h => absurd (Value.ref.inj h) (by decide)) (am_nr_c (fun h => absurd (Value.ref.inj h) (by decide)) (am_nr_c (fun h => absurd (Value.ref.inj h) (by decide)) (am_nr_c (fun h => absurd (Value.ref.inj h) (by decide)) (am_nr_c (fun h => absurd (Value.ref.inj h) (by decide)) (am_nr_c (fun h => by cases h) (am_nr_c (fun h => by cases h) (am_nr_c (fun h => by cases h) am_nr_nil))))))))))))))) (k1 + 1) (n1 + 4) ⟨Nat.le_refl _, Nat.le_refl _, by show _ ≤ 600104; omega, by show _ ≤ 7301313; omega⟩ dL_law_97 ?_
  refine am_eqX (hp T (z90 S) o) (hp_z T S o) ?_
  rcases h0 with ⟨h0, h1, h2⟩ | ⟨h0, h1⟩
  · skip
    refine am_go hF sgL_law_99_c9b9d 104 [(15, .ref 509), (0, .retAddr b), (1, .ref 0), (2, .ref 500), (3, .ref 501), (4, .ref 502), (5, .ref 503), (6, .ref 464), (7, .ref 504), (8, .ref 505), (9, .ref 506), (10, .ref 507), (11, .ref 508), (12, .int (nI tn)), (13, .int A), (14, .int B)] [.int 1, .int (nI tn)] sgL_law_99_c9b9dd rfl ?_
    refine am_icmpge hF 111 dL_law_104 (by decide) (fun h9 => False.elim (nc_lt_f (show tn < 1 by omega) (by omega) (by omega) rfl rfl h9)) (fun _ => ?_)
    refine am_go hF sgL_law_107_d5be3 126 [(16, .int 0), (15, .ref 509), (0, .retAddr b), (1, .ref 0), (2, .ref 500), (3, .ref 501), (4, .ref 502), (5, .ref 503), (6, .ref 464), (7, .ref 504), (8, .ref 505), (9, .ref 506), (10, .ref 507), (11, .ref 508), (12, .int (nI tn)), (13, .int A), (14, .int B)] [.int 8, .int (A >>> (5 &&& 31))] sgL_law_107_d5be3d rfl ?_
    obtain ⟨z1, hz1, ez1⟩ := low_ex (A >>> (5 &&& 31)) (m := 8) (by omega) (by omega)
    refine am_dS hF hO [.int (A >>> (5 &&& 31)), .int 8] [] (c_low (v := A >>> (5 &&& 31)) (m := 8) (by omega) (by omega)) myL_low syL_low lm_RL_131 rfl (k1 + 1) (n1 + 4) ⟨Nat.le_of_ble_eq_true rfl, Nat.le_of_ble_eq_true rfl⟩ ⟨Nat.le_refl _, Nat.le_refl _, by show _ ≤ 600104; omega, by show _ ≤ 7301313; omega⟩ rfl (am_lv_int (am_lv_ref (hp_t _ (z90 S) _ rfl) (am_lv_raw (am_lv_ref (hp_main _ _ _) (am_lv_ref (hp_a _ _ _ (f := 0) (by decide)) (am_lv_ref (hp_a _ _ _ (f := 1) (by decide)) (am_lv_ref (hp_a _ _ _ (f := 2) (by decide)) (am_lv_ref (hp_a _ _ _ (f := 3) (by decide)) (am_lv_ref (hp_o _ _ _) (am_lv_ref (hp_a _ _ _ (f := 4) (by decide)) (am_lv_ref (hp_a _ _ _ (f := 5) (by decide)) (am_lv_ref (hp_a _ _ _ (f := 6) (by decide)) (am_lv_ref (hp_a _ _ _ (f := 7) (by decide)) (am_lv_ref (hp_a _ _ _ (f := 8) (by decide)) (am_lv_int (am_lv_int (am_lv_int am_lv_nil))))))))))))))))) (Nat.le_of_ble_eq_true rfl) dL_law_126 [.int (lLow (A >>> (5 &&& 31)) 8)] rfl ?_
    refine am_top (nI z1) ez1 ?_
    refine am_go hF sgL_law_129_f0dd3 134 [(17, .int (nI z1)), (16, .int 0), (15, .ref 509), (0, .retAddr b), (1, .ref 0), (2, .ref 500), (3, .ref 501), (4, .ref 502), (5, .ref 503), (6, .ref 464), (7, .ref 504), (8, .ref 505), (9, .ref 506), (10, .ref 507), (11, .ref 508), (12, .int (nI tn)), (13, .int A), (14, .int B)] [.int 1, .ref 507] sgL_law_129_f0dd3d rfl ?_
    refine sv_iald hF 7 1 0 71 (by decide) (by decide) rfl rfl (show 3 * 0 + 1 < 3 by omega) (by decide) dL_law_134 ?_
    refine am_top (nI n) z71 ?_
    refine am_ifne hF 142 dL_law_135 (by decide) (fun h9 => False.elim (nc_eq_f (show n = 0 by omega) (by omega) (by omega) rfl rfl h9)) (fun _ => ?_)
    refine am_go hF sgL_law_138_4c4ac 156 [(18, .int 0), (17, .int (nI z1)), (16, .int 0), (15, .ref 509), (0, .retAddr b), (1, .ref 0), (2, .ref 500), (3, .ref 501), (4, .ref 502), (5, .ref 503), (6, .ref 464), (7, .ref 504), (8, .ref 505), (9, .ref 506), (10, .ref 507), (11, .ref 508), (12, .int (nI tn)), (13, .int A), (14, .int B)] [.int 2, .ref 507] sgL_law_138_4c4acd rfl ?_
    refine sv_iald hF 7 2 0 72 (by decide) (by decide) rfl rfl (show 3 * 0 + 2 < 3 by omega) (by decide) dL_law_156 ?_
    refine am_top (nI m) z72 ?_
    refine am_ifne hF 164 dL_law_157 (by decide) (fun h9 => False.elim (nc_eq_f (show m = 0 by omega) (by omega) (by omega) rfl rfl h9)) (fun _ => ?_)
    refine am_go hF sgL_law_160_00f1a 177 [(19, .int 0), (18, .int 0), (17, .int (nI z1)), (16, .int 0), (15, .ref 509), (0, .retAddr b), (1, .ref 0), (2, .ref 500), (3, .ref 501), (4, .ref 502), (5, .ref 503), (6, .ref 464), (7, .ref 504), (8, .ref 505), (9, .ref 506), (10, .ref 507), (11, .ref 508), (12, .int (nI tn)), (13, .int A), (14, .int B)] [] sgL_law_160_00f1ad rfl ?_
    refine am_drop [5, 6, 7, 8, 9, 10, 11, 12, 13, 14, 15, 16, 17, 18, 19, 4, 3, 2, 1, 0] [(0, .retAddr b), (1, .ref 0), (2, .ref 500), (3, .ref 501), (4, .ref 502), (5, .ref 503), (6, .ref 464), (7, .ref 504), (8, .ref 505), (9, .ref 506), (10, .ref 507), (11, .ref 508), (12, .int (nI tn)), (13, .int A), (14, .int B), (15, .ref 509), (16, .int 0), (17, .int (nI z1)), (18, .int 0), (19, .int 0)] rfl ?_
    refine am_eqL [(0, .retAddr b), (1, .ref 0), (2, .ref 500), (3, .ref 501), (4, .ref 502), (5, .ref 503), (6, .ref 464), (7, .ref 504), (8, .ref 505), (9, .ref 506), (10, .ref 507), (11, .ref 508), (12, .int (nI tn)), (13, .int A), (14, .int B), (15, .ref 509), (16, .int (nI 0)), (17, .int (nI z1)), (18, .int 0), (19, .int 0)] (rfl) ?_
    refine am_eqL [(0, .retAddr b), (1, .ref 0), (2, .ref 500), (3, .ref 501), (4, .ref 502), (5, .ref 503), (6, .ref 464), (7, .ref 504), (8, .ref 505), (9, .ref 506), (10, .ref 507), (11, .ref 508), (12, .int (nI tn)), (13, .int A), (14, .int B), (15, .ref 509), (16, .int (nI 0)), (17, .int (nI z1)), (18, .int (nI 0)), (19, .int 0)] (rfl) ?_
    refine am_eqL [(0, .retAddr b), (1, .ref 0), (2, .ref 500), (3, .ref 501), (4, .ref 502), (5, .ref 503), (6, .ref 464), (7, .ref 504), (8, .ref 505), (9, .ref 506), (10, .ref 507), (11, .ref 508), (12, .int (nI tn)), (13, .int A), (14, .int B), (15, .ref 509), (16, .int (nI 0)), (17, .int (nI z1)), (18, .int (nI 0)), (19, .int (nI 0))] (rfl) ?_
    exact law_disp hF hO hG hc (by omega) (by omega) Kc h hz1 (by omega) (Or.inr ⟨h1, rfl⟩) (Or.inr ⟨h2, rfl⟩) (by omega)
  · skip
    by_cases hm0 : m = 0
    · skip
      refine am_go hF sgL_law_99_c9b9d 104 [(15, .ref 509), (0, .retAddr b), (1, .ref 0), (2, .ref 500), (3, .ref 501), (4, .ref 502), (5, .ref 503), (6, .ref 464), (7, .ref 504), (8, .ref 505), (9, .ref 506), (10, .ref 507), (11, .ref 508), (12, .int (nI tn)), (13, .int A), (14, .int B)] [.int 1, .int (nI tn)] sgL_law_99_c9b9dd rfl ?_
      refine am_icmpge hF 111 dL_law_104 (by decide) (fun _ => ?_) (fun h9 => False.elim (absurd (nc_ge (show 1 ≤ tn by omega) (by omega) (by omega) rfl rfl) h9))
      refine am_go hF sgL_law_111_1adca 115 [(15, .ref 509), (0, .retAddr b), (1, .ref 0), (2, .ref 500), (3, .ref 501), (4, .ref 502), (5, .ref 503), (6, .ref 464), (7, .ref 504), (8, .ref 505), (9, .ref 506), (10, .ref 507), (11, .ref 508), (12, .int (nI tn)), (13, .int A), (14, .int B)] [.int 26, .int A] sgL_law_111_1adcad rfl ?_
      obtain ⟨z2, hz2, ez2⟩ := low_ex A (m := 26) (by omega) (by omega)
      refine am_dS hF hO [.int A, .int 26] [] (c_low (v := A) (m := 26) (by omega) (by omega)) myL_low syL_low lm_RL_131 rfl (k1 + 1) (n1 + 4) ⟨Nat.le_of_ble_eq_true rfl, Nat.le_of_ble_eq_true rfl⟩ ⟨Nat.le_refl _, Nat.le_refl _, by show _ ≤ 600104; omega, by show _ ≤ 7301313; omega⟩ rfl (am_lv_ref (hp_t _ (z90 S) _ rfl) (am_lv_raw (am_lv_ref (hp_main _ _ _) (am_lv_ref (hp_a _ _ _ (f := 0) (by decide)) (am_lv_ref (hp_a _ _ _ (f := 1) (by decide)) (am_lv_ref (hp_a _ _ _ (f := 2) (by decide)) (am_lv_ref (hp_a _ _ _ (f := 3) (by decide)) (am_lv_ref (hp_o _ _ _) (am_lv_ref (hp_a _ _ _ (f := 4) (by decide)) (am_lv_ref (hp_a _ _ _ (f := 5) (by decide)) (am_lv_ref (hp_a _ _ _ (f := 6) (by decide)) (am_lv_ref (hp_a _ _ _ (f := 7) (by decide)) (am_lv_ref (hp_a _ _ _ (f := 8) (by decide)) (am_lv_int (am_lv_int (am_lv_int am_lv_nil)))))))))))))))) (Nat.le_of_ble_eq_true rfl) dL_law_115 [.int (lLow A 26)] rfl ?_
      refine am_top (nI z2) ez2 ?_
      refine am_go hF sgL_law_118_f5f6b 126 [(16, .int (nI z2)), (15, .ref 509), (0, .retAddr b), (1, .ref 0), (2, .ref 500), (3, .ref 501), (4, .ref 502), (5, .ref 503), (6, .ref 464), (7, .ref 504), (8, .ref 505), (9, .ref 506), (10, .ref 507), (11, .ref 508), (12, .int (nI tn)), (13, .int A), (14, .int B)] [.int 8, .int (A >>> (5 &&& 31))] sgL_law_118_f5f6bd rfl ?_
      obtain ⟨z3, hz3, ez3⟩ := low_ex (A >>> (5 &&& 31)) (m := 8) (by omega) (by omega)
      refine am_dS hF hO [.int (A >>> (5 &&& 31)), .int 8] [] (c_low (v := A >>> (5 &&& 31)) (m := 8) (by omega) (by omega)) myL_low syL_low lm_RL_131 rfl (k1 + 1) (n1 + 4) ⟨Nat.le_of_ble_eq_true rfl, Nat.le_of_ble_eq_true rfl⟩ ⟨Nat.le_refl _, Nat.le_refl _, by show _ ≤ 600104; omega, by show _ ≤ 7301313; omega⟩ rfl (am_lv_int (am_lv_ref (hp_t _ (z90 S) _ rfl) (am_lv_raw (am_lv_ref (hp_main _ _ _) (am_lv_ref (hp_a _ _ _ (f := 0) (by decide)) (am_lv_ref (hp_a _ _ _ (f := 1) (by decide)) (am_lv_ref (hp_a _ _ _ (f := 2) (by decide)) (am_lv_ref (hp_a _ _ _ (f := 3) (by decide)) (am_lv_ref (hp_o _ _ _) (am_lv_ref (hp_a _ _ _ (f := 4) (by decide)) (am_lv_ref (hp_a _ _ _ (f := 5) (by decide)) (am_lv_ref (hp_a _ _ _ (f := 6) (by decide)) (am_lv_ref (hp_a _ _ _ (f := 7) (by decide)) (am_lv_ref (hp_a _ _ _ (f := 8) (by decide)) (am_lv_int (am_lv_int (am_lv_int am_lv_nil))))))))))))))))) (Nat.le_of_ble_eq_true rfl) dL_law_126 [.int (lLow (A >>> (5 &&& 31)) 8)] rfl ?_
      refine am_top (nI z3) ez3 ?_
      refine am_go hF sgL_law_129_f0dd3 134 [(17, .int (nI z3)), (16, .int (nI z2)), (15, .ref 509), (0, .retAddr b), (1, .ref 0), (2, .ref 500), (3, .ref 501), (4, .ref 502), (5, .ref 503), (6, .ref 464), (7, .ref 504), (8, .ref 505), (9, .ref 506), (10, .ref 507), (11, .ref 508), (12, .int (nI tn)), (13, .int A), (14, .int B)] [.int 1, .ref 507] sgL_law_129_f0dd3d rfl ?_
      refine sv_iald hF 7 1 0 71 (by decide) (by decide) rfl rfl (show 3 * 0 + 1 < 3 by omega) (by decide) dL_law_134 ?_
      refine am_top (nI n) z71 ?_
      refine am_ifne hF 142 dL_law_135 (by decide) (fun _ => ?_) (fun h9 => False.elim (absurd h9 (nc_ne (show n ≠ 0 by omega) (by omega) (by omega) rfl rfl)))
      refine am_go hF sgL_law_142_1ac8d 147 [(17, .int (nI z3)), (16, .int (nI z2)), (15, .ref 509), (0, .retAddr b), (1, .ref 0), (2, .ref 500), (3, .ref 501), (4, .ref 502), (5, .ref 503), (6, .ref 464), (7, .ref 504), (8, .ref 505), (9, .ref 506), (10, .ref 507), (11, .ref 508), (12, .int (nI tn)), (13, .int A), (14, .int B)] [.int 1, .ref 507, .int B] sgL_law_142_1ac8dd rfl ?_
      refine sv_iald hF 7 1 0 71 (by decide) (by decide) rfl rfl (show 3 * 0 + 1 < 3 by omega) (by decide) dL_law_147 ?_
      refine am_top (nI n) z71 ?_
      obtain ⟨z4, hz4, ez4⟩ := low_ex B (m := n) (by omega) (by omega)
      refine am_dS hF hO [.int B, .int (nI n)] [] (c_low (v := B) (m := n) (by omega) (by omega)) myL_low syL_low lm_RL_131 rfl (k1 + 1) (n1 + 4) ⟨Nat.le_of_ble_eq_true rfl, Nat.le_of_ble_eq_true rfl⟩ ⟨Nat.le_refl _, Nat.le_refl _, by show _ ≤ 600104; omega, by show _ ≤ 7301313; omega⟩ rfl (am_lv_int (am_lv_int (am_lv_ref (hp_t _ (z90 S) _ rfl) (am_lv_raw (am_lv_ref (hp_main _ _ _) (am_lv_ref (hp_a _ _ _ (f := 0) (by decide)) (am_lv_ref (hp_a _ _ _ (f := 1) (by decide)) (am_lv_ref (hp_a _ _ _ (f := 2) (by decide)) (am_lv_ref (hp_a _ _ _ (f := 3) (by decide)) (am_lv_ref (hp_o _ _ _) (am_lv_ref (hp_a _ _ _ (f := 4) (by decide)) (am_lv_ref (hp_a _ _ _ (f := 5) (by decide)) (am_lv_ref (hp_a _ _ _ (f := 6) (by decide)) (am_lv_ref (hp_a _ _ _ (f := 7) (by decide)) (am_lv_ref (hp_a _ _ _ (f := 8) (by decide)) (am_lv_int (am_lv_int (am_lv_int am_lv_nil)))))))))))))))))) (Nat.le_of_ble_eq_true rfl) dL_law_148 [.int (lLow B n)] rfl ?_
      refine am_top (nI z4) ez4 ?_
      refine am_go hF sgL_law_151_b760a 156 [(18, .int (nI z4)), (17, .int (nI z3)), (16, .int (nI z2)), (15, .ref 509), (0, .retAddr b), (1, .ref 0), (2, .ref 500), (3, .ref 501), (4, .ref 502), (5, .ref 503), (6, .ref 464), (7, .ref 504), (8, .ref 505), (9, .ref 506), (10, .ref 507), (11, .ref 508), (12, .int (nI tn)), (13, .int A), (14, .int B)] [.int 2, .ref 507] sgL_law_151_b760ad rfl ?_
      refine sv_iald hF 7 2 0 72 (by decide) (by decide) rfl rfl (show 3 * 0 + 2 < 3 by omega) (by decide) dL_law_156 ?_
      refine am_top (nI m) z72 ?_
      refine am_ifne hF 164 dL_law_157 (by decide) (fun h9 => False.elim (nc_eq_f (show m = 0 by omega) (by omega) (by omega) rfl rfl h9)) (fun _ => ?_)
      refine am_go hF sgL_law_160_00f1a 177 [(19, .int 0), (18, .int (nI z4)), (17, .int (nI z3)), (16, .int (nI z2)), (15, .ref 509), (0, .retAddr b), (1, .ref 0), (2, .ref 500), (3, .ref 501), (4, .ref 502), (5, .ref 503), (6, .ref 464), (7, .ref 504), (8, .ref 505), (9, .ref 506), (10, .ref 507), (11, .ref 508), (12, .int (nI tn)), (13, .int A), (14, .int B)] [] sgL_law_160_00f1ad rfl ?_
      refine am_drop [5, 6, 7, 8, 9, 10, 11, 12, 13, 14, 15, 16, 17, 18, 19, 4, 3, 2, 1, 0] [(0, .retAddr b), (1, .ref 0), (2, .ref 500), (3, .ref 501), (4, .ref 502), (5, .ref 503), (6, .ref 464), (7, .ref 504), (8, .ref 505), (9, .ref 506), (10, .ref 507), (11, .ref 508), (12, .int (nI tn)), (13, .int A), (14, .int B), (15, .ref 509), (16, .int (nI z2)), (17, .int (nI z3)), (18, .int (nI z4)), (19, .int 0)] rfl ?_
      refine am_eqL [(0, .retAddr b), (1, .ref 0), (2, .ref 500), (3, .ref 501), (4, .ref 502), (5, .ref 503), (6, .ref 464), (7, .ref 504), (8, .ref 505), (9, .ref 506), (10, .ref 507), (11, .ref 508), (12, .int (nI tn)), (13, .int A), (14, .int B), (15, .ref 509), (16, .int (nI z2)), (17, .int (nI z3)), (18, .int (nI z4)), (19, .int (nI 0))] (rfl) ?_
      exact law_disp hF hO hG hc (by omega) (by omega) Kc h hz3 (by omega) (Or.inl hz4) (Or.inr ⟨hm0, rfl⟩) (by omega)
    · skip
      refine am_go hF sgL_law_99_c9b9d 104 [(15, .ref 509), (0, .retAddr b), (1, .ref 0), (2, .ref 500), (3, .ref 501), (4, .ref 502), (5, .ref 503), (6, .ref 464), (7, .ref 504), (8, .ref 505), (9, .ref 506), (10, .ref 507), (11, .ref 508), (12, .int (nI tn)), (13, .int A), (14, .int B)] [.int 1, .int (nI tn)] sgL_law_99_c9b9dd rfl ?_
      refine am_icmpge hF 111 dL_law_104 (by decide) (fun _ => ?_) (fun h9 => False.elim (absurd (nc_ge (show 1 ≤ tn by omega) (by omega) (by omega) rfl rfl) h9))
      refine am_go hF sgL_law_111_1adca 115 [(15, .ref 509), (0, .retAddr b), (1, .ref 0), (2, .ref 500), (3, .ref 501), (4, .ref 502), (5, .ref 503), (6, .ref 464), (7, .ref 504), (8, .ref 505), (9, .ref 506), (10, .ref 507), (11, .ref 508), (12, .int (nI tn)), (13, .int A), (14, .int B)] [.int 26, .int A] sgL_law_111_1adcad rfl ?_
      obtain ⟨z5, hz5, ez5⟩ := low_ex A (m := 26) (by omega) (by omega)
      refine am_dS hF hO [.int A, .int 26] [] (c_low (v := A) (m := 26) (by omega) (by omega)) myL_low syL_low lm_RL_131 rfl (k1 + 1) (n1 + 4) ⟨Nat.le_of_ble_eq_true rfl, Nat.le_of_ble_eq_true rfl⟩ ⟨Nat.le_refl _, Nat.le_refl _, by show _ ≤ 600104; omega, by show _ ≤ 7301313; omega⟩ rfl (am_lv_ref (hp_t _ (z90 S) _ rfl) (am_lv_raw (am_lv_ref (hp_main _ _ _) (am_lv_ref (hp_a _ _ _ (f := 0) (by decide)) (am_lv_ref (hp_a _ _ _ (f := 1) (by decide)) (am_lv_ref (hp_a _ _ _ (f := 2) (by decide)) (am_lv_ref (hp_a _ _ _ (f := 3) (by decide)) (am_lv_ref (hp_o _ _ _) (am_lv_ref (hp_a _ _ _ (f := 4) (by decide)) (am_lv_ref (hp_a _ _ _ (f := 5) (by decide)) (am_lv_ref (hp_a _ _ _ (f := 6) (by decide)) (am_lv_ref (hp_a _ _ _ (f := 7) (by decide)) (am_lv_ref (hp_a _ _ _ (f := 8) (by decide)) (am_lv_int (am_lv_int (am_lv_int am_lv_nil)))))))))))))))) (Nat.le_of_ble_eq_true rfl) dL_law_115 [.int (lLow A 26)] rfl ?_
      refine am_top (nI z5) ez5 ?_
      refine am_go hF sgL_law_118_f5f6b 126 [(16, .int (nI z5)), (15, .ref 509), (0, .retAddr b), (1, .ref 0), (2, .ref 500), (3, .ref 501), (4, .ref 502), (5, .ref 503), (6, .ref 464), (7, .ref 504), (8, .ref 505), (9, .ref 506), (10, .ref 507), (11, .ref 508), (12, .int (nI tn)), (13, .int A), (14, .int B)] [.int 8, .int (A >>> (5 &&& 31))] sgL_law_118_f5f6bd rfl ?_
      obtain ⟨z6, hz6, ez6⟩ := low_ex (A >>> (5 &&& 31)) (m := 8) (by omega) (by omega)
      refine am_dS hF hO [.int (A >>> (5 &&& 31)), .int 8] [] (c_low (v := A >>> (5 &&& 31)) (m := 8) (by omega) (by omega)) myL_low syL_low lm_RL_131 rfl (k1 + 1) (n1 + 4) ⟨Nat.le_of_ble_eq_true rfl, Nat.le_of_ble_eq_true rfl⟩ ⟨Nat.le_refl _, Nat.le_refl _, by show _ ≤ 600104; omega, by show _ ≤ 7301313; omega⟩ rfl (am_lv_int (am_lv_ref (hp_t _ (z90 S) _ rfl) (am_lv_raw (am_lv_ref (hp_main _ _ _) (am_lv_ref (hp_a _ _ _ (f := 0) (by decide)) (am_lv_ref (hp_a _ _ _ (f := 1) (by decide)) (am_lv_ref (hp_a _ _ _ (f := 2) (by decide)) (am_lv_ref (hp_a _ _ _ (f := 3) (by decide)) (am_lv_ref (hp_o _ _ _) (am_lv_ref (hp_a _ _ _ (f := 4) (by decide)) (am_lv_ref (hp_a _ _ _ (f := 5) (by decide)) (am_lv_ref (hp_a _ _ _ (f := 6) (by decide)) (am_lv_ref (hp_a _ _ _ (f := 7) (by decide)) (am_lv_ref (hp_a _ _ _ (f := 8) (by decide)) (am_lv_int (am_lv_int (am_lv_int am_lv_nil))))))))))))))))) (Nat.le_of_ble_eq_true rfl) dL_law_126 [.int (lLow (A >>> (5 &&& 31)) 8)] rfl ?_
      refine am_top (nI z6) ez6 ?_
      refine am_go hF sgL_law_129_f0dd3 134 [(17, .int (nI z6)), (16, .int (nI z5)), (15, .ref 509), (0, .retAddr b), (1, .ref 0), (2, .ref 500), (3, .ref 501), (4, .ref 502), (5, .ref 503), (6, .ref 464), (7, .ref 504), (8, .ref 505), (9, .ref 506), (10, .ref 507), (11, .ref 508), (12, .int (nI tn)), (13, .int A), (14, .int B)] [.int 1, .ref 507] sgL_law_129_f0dd3d rfl ?_
      refine sv_iald hF 7 1 0 71 (by decide) (by decide) rfl rfl (show 3 * 0 + 1 < 3 by omega) (by decide) dL_law_134 ?_
      refine am_top (nI n) z71 ?_
      refine am_ifne hF 142 dL_law_135 (by decide) (fun _ => ?_) (fun h9 => False.elim (absurd h9 (nc_ne (show n ≠ 0 by omega) (by omega) (by omega) rfl rfl)))
      refine am_go hF sgL_law_142_1ac8d 147 [(17, .int (nI z6)), (16, .int (nI z5)), (15, .ref 509), (0, .retAddr b), (1, .ref 0), (2, .ref 500), (3, .ref 501), (4, .ref 502), (5, .ref 503), (6, .ref 464), (7, .ref 504), (8, .ref 505), (9, .ref 506), (10, .ref 507), (11, .ref 508), (12, .int (nI tn)), (13, .int A), (14, .int B)] [.int 1, .ref 507, .int B] sgL_law_142_1ac8dd rfl ?_
      refine sv_iald hF 7 1 0 71 (by decide) (by decide) rfl rfl (show 3 * 0 + 1 < 3 by omega) (by decide) dL_law_147 ?_
      refine am_top (nI n) z71 ?_
      obtain ⟨z7, hz7, ez7⟩ := low_ex B (m := n) (by omega) (by omega)
      refine am_dS hF hO [.int B, .int (nI n)] [] (c_low (v := B) (m := n) (by omega) (by omega)) myL_low syL_low lm_RL_131 rfl (k1 + 1) (n1 + 4) ⟨Nat.le_of_ble_eq_true rfl, Nat.le_of_ble_eq_true rfl⟩ ⟨Nat.le_refl _, Nat.le_refl _, by show _ ≤ 600104; omega, by show _ ≤ 7301313; omega⟩ rfl (am_lv_int (am_lv_int (am_lv_ref (hp_t _ (z90 S) _ rfl) (am_lv_raw (am_lv_ref (hp_main _ _ _) (am_lv_ref (hp_a _ _ _ (f := 0) (by decide)) (am_lv_ref (hp_a _ _ _ (f := 1) (by decide)) (am_lv_ref (hp_a _ _ _ (f := 2) (by decide)) (am_lv_ref (hp_a _ _ _ (f := 3) (by decide)) (am_lv_ref (hp_o _ _ _) (am_lv_ref (hp_a _ _ _ (f := 4) (by decide)) (am_lv_ref (hp_a _ _ _ (f := 5) (by decide)) (am_lv_ref (hp_a _ _ _ (f := 6) (by decide)) (am_lv_ref (hp_a _ _ _ (f := 7) (by decide)) (am_lv_ref (hp_a _ _ _ (f := 8) (by decide)) (am_lv_int (am_lv_int (am_lv_int am_lv_nil)))))))))))))))))) (Nat.le_of_ble_eq_true rfl) dL_law_148 [.int (lLow B n)] rfl ?_
      refine am_top (nI z7) ez7 ?_
      refine am_go hF sgL_law_151_b760a 156 [(18, .int (nI z7)), (17, .int (nI z6)), (16, .int (nI z5)), (15, .ref 509), (0, .retAddr b), (1, .ref 0), (2, .ref 500), (3, .ref 501), (4, .ref 502), (5, .ref 503), (6, .ref 464), (7, .ref 504), (8, .ref 505), (9, .ref 506), (10, .ref 507), (11, .ref 508), (12, .int (nI tn)), (13, .int A), (14, .int B)] [.int 2, .ref 507] sgL_law_151_b760ad rfl ?_
      refine sv_iald hF 7 2 0 72 (by decide) (by decide) rfl rfl (show 3 * 0 + 2 < 3 by omega) (by decide) dL_law_156 ?_
      refine am_top (nI m) z72 ?_
      refine am_ifne hF 164 dL_law_157 (by decide) (fun _ => ?_) (fun h9 => False.elim (absurd h9 (nc_ne (show m ≠ 0 by omega) (by omega) (by omega) rfl rfl)))
      refine am_go hF sgL_law_164_777e2 171 [(18, .int (nI z7)), (17, .int (nI z6)), (16, .int (nI z5)), (15, .ref 509), (0, .retAddr b), (1, .ref 0), (2, .ref 500), (3, .ref 501), (4, .ref 502), (5, .ref 503), (6, .ref 464), (7, .ref 504), (8, .ref 505), (9, .ref 506), (10, .ref 507), (11, .ref 508), (12, .int (nI tn)), (13, .int A), (14, .int B)] [.int 2, .ref 507, .int (B >>> (4 &&& 31))] sgL_law_164_777e2d rfl ?_
      refine sv_iald hF 7 2 0 72 (by decide) (by decide) rfl rfl (show 3 * 0 + 2 < 3 by omega) (by decide) dL_law_171 ?_
      refine am_top (nI m) z72 ?_
      obtain ⟨z8, hz8, ez8⟩ := low_ex (B >>> (4 &&& 31)) (m := m) (by omega) (by omega)
      refine am_dS hF hO [.int (B >>> (4 &&& 31)), .int (nI m)] [] (c_low (v := B >>> (4 &&& 31)) (m := m) (by omega) (by omega)) myL_low syL_low lm_RL_131 rfl (k1 + 1) (n1 + 4) ⟨Nat.le_of_ble_eq_true rfl, Nat.le_of_ble_eq_true rfl⟩ ⟨Nat.le_refl _, Nat.le_refl _, by show _ ≤ 600104; omega, by show _ ≤ 7301313; omega⟩ rfl (am_lv_int (am_lv_int (am_lv_int (am_lv_ref (hp_t _ (z90 S) _ rfl) (am_lv_raw (am_lv_ref (hp_main _ _ _) (am_lv_ref (hp_a _ _ _ (f := 0) (by decide)) (am_lv_ref (hp_a _ _ _ (f := 1) (by decide)) (am_lv_ref (hp_a _ _ _ (f := 2) (by decide)) (am_lv_ref (hp_a _ _ _ (f := 3) (by decide)) (am_lv_ref (hp_o _ _ _) (am_lv_ref (hp_a _ _ _ (f := 4) (by decide)) (am_lv_ref (hp_a _ _ _ (f := 5) (by decide)) (am_lv_ref (hp_a _ _ _ (f := 6) (by decide)) (am_lv_ref (hp_a _ _ _ (f := 7) (by decide)) (am_lv_ref (hp_a _ _ _ (f := 8) (by decide)) (am_lv_int (am_lv_int (am_lv_int am_lv_nil))))))))))))))))))) (Nat.le_of_ble_eq_true rfl) dL_law_172 [.int (lLow (B >>> (4 &&& 31)) m)] rfl ?_
      refine am_top (nI z8) ez8 ?_
      refine am_go hF sgL_law_175_74b9d 177 [(19, .int (nI z8)), (18, .int (nI z7)), (17, .int (nI z6)), (16, .int (nI z5)), (15, .ref 509), (0, .retAddr b), (1, .ref 0), (2, .ref 500), (3, .ref 501), (4, .ref 502), (5, .ref 503), (6, .ref 464), (7, .ref 504), (8, .ref 505), (9, .ref 506), (10, .ref 507), (11, .ref 508), (12, .int (nI tn)), (13, .int A), (14, .int B)] [] sgL_law_175_74b9dd rfl ?_
      refine am_drop [5, 6, 7, 8, 9, 10, 11, 12, 13, 14, 15, 16, 17, 18, 19, 4, 3, 2, 1, 0] [(0, .retAddr b), (1, .ref 0), (2, .ref 500), (3, .ref 501), (4, .ref 502), (5, .ref 503), (6, .ref 464), (7, .ref 504), (8, .ref 505), (9, .ref 506), (10, .ref 507), (11, .ref 508), (12, .int (nI tn)), (13, .int A), (14, .int B), (15, .ref 509), (16, .int (nI z5)), (17, .int (nI z6)), (18, .int (nI z7)), (19, .int (nI z8))] rfl ?_
      exact law_disp hF hO hG hc (by omega) (by omega) Kc h hz6 (by omega) (Or.inl hz7) (Or.inl hz8) (by omega)
theorem hp_off {T S : am_T} {o : Nat → Int64} : ∀ i e, hp T (st1 S 91 0 0) o i = some e → hp T S o i = some e := by
  intro i e
  unfold hp
  by_cases h1 : i < 464
  · rw [if_pos h1, if_pos h1]; exact fun h => h
  · rw [if_neg h1, if_neg h1]
    by_cases h2 : i < 465
    · rw [if_pos h2, if_pos h2]; exact fun h => h
    · rw [if_neg h2, if_neg h2]
      unfold hpM
      by_cases h3 : i < 500
      · rw [if_pos h3]; intro h; cases h
      · rw [if_neg h3, if_neg h3]
        by_cases h4 : i < 509
        · rw [if_pos h4, if_pos h4]
          have h8 : ct (st1 S 91 0 0) (i - 500) = ct S (i - 500) := by
            funext j
            unfold ct
            have hw := wC_le (i - 500)
            have hw0 := wC_pos (i - 500)
            have := Nat.mod_lt j hw0
            rw [st1_f (by omega)]
          rw [h8]; exact fun h => h
        · rw [if_neg h4]
          by_cases h5 : i = 509
          · rw [if_pos h5, if_neg (by rw [st1_same]; decide)]; intro h; cases h
          · rw [if_neg h5]; intro h; cases h
set_option maxRecDepth 100000 in
set_option maxHeartbeats 4000000 in
theorem law_loop {C : am_Cx} {P0 : am_H → Option Value → Prop} {w0 : Cond} (hF : am_F C code 25 RL (w0 :: am_G)) (hO : am_O C (fun _ => none) P0 room_1) (hG : C.la.stackTraces = false) {b N : Nat} {xs : Nat → Int32} (hXs : va_X b N xs C.st C.st.heap) (hbl : b < C.st.heap.size) (hbA : ¬ C.n0 ≤ b) (hN : N ≤ 260) (kz : ∀ (X : am_H) (k n : Nat) (L : List (Nat × Value)), k ≤ 600104 → n ≤ 7301313 → am_W C X k n 2632 L []) : ∀ (zz tn : Nat) (T S : am_T) (o : Nat → Int64) (n m v t k1 n1 : Nat), tn + zz = 64 → k1 + 9 * zz ≤ 600104 → n1 + 68 * zz ≤ 7301313 → qR T S o n m v t tn → ¬ S 91 0 = 1 → (tn = 0 ∧ n = 0 ∧ m = 0 ∨ 1 ≤ tn ∧ 1 ≤ n) → am_W C (hp T S o) k1 n1 67 [(0, .retAddr b), (1, .ref 0), (2, .ref 500), (3, .ref 501), (4, .ref 502), (5, .ref 503), (6, .ref 464), (7, .ref 504), (8, .ref 505), (9, .ref 506), (10, .ref 507), (11, .ref 508), (12, .int (nI tn))] [] := by
  intro zz
  induction zz with
  | zero =>
    intro tn T S o n m v t k1 n1 hz hk hn h h91 h0
    refine am_go hF sgL_law_67_d7554 71 [(0, .retAddr b), (1, .ref 0), (2, .ref 500), (3, .ref 501), (4, .ref 502), (5, .ref 503), (6, .ref 464), (7, .ref 504), (8, .ref 505), (9, .ref 506), (10, .ref 507), (11, .ref 508), (12, .int (nI tn))] [.int 64, .int (nI tn)] sgL_law_67_d7554d rfl ?_
    refine am_icmpge hF 2632 dL_law_71 (by decide) (fun _ => ?_) (fun h9 => False.elim (absurd (nc_ge (show 64 ≤ tn by omega) (by omega) (by omega) rfl rfl) h9))
    exact kz _ _ _ _ (by omega) (by omega)
  | succ zz ih =>
    intro tn T S o n m v t k1 n1 hz hk hn h h91 h0
    refine am_go hF sgL_law_67_d7554 71 [(0, .retAddr b), (1, .ref 0), (2, .ref 500), (3, .ref 501), (4, .ref 502), (5, .ref 503), (6, .ref 464), (7, .ref 504), (8, .ref 505), (9, .ref 506), (10, .ref 507), (11, .ref 508), (12, .int (nI tn))] [.int 64, .int (nI tn)] sgL_law_67_d7554d rfl ?_
    refine am_icmpge hF 2632 dL_law_71 (by decide) (fun h9 => False.elim (nc_lt_f (show tn < 64 by omega) (by omega) (by omega) rfl rfl h9)) (fun _ => ?_)
    refine am_drop [0, 1, 2, 3, 4, 5, 6, 7, 8, 9, 10, 11, 12] [(0, .retAddr b), (1, .ref 0), (2, .ref 500), (3, .ref 501), (4, .ref 502), (5, .ref 503), (6, .ref 464), (7, .ref 504), (8, .ref 505), (9, .ref 506), (10, .ref 507), (11, .ref 508), (12, .int (nI tn))] rfl ?_
    refine law_turn hF hO hG hXs hbl hbA hN (by omega) (by omega) (by omega) (fun T2 S2 o2 n2 m2 v2 t2 h2 h291 hn2 => ?_) h h91 h0
    refine am_go hF sgL_law_2626_e2a56 67 [(12, .int ((nI tn) + 1)), (0, .retAddr b), (1, .ref 0), (2, .ref 500), (3, .ref 501), (4, .ref 502), (5, .ref 503), (6, .ref 464), (7, .ref 504), (8, .ref 505), (9, .ref 506), (10, .ref 507), (11, .ref 508)] [] sgL_law_2626_e2a56d rfl ?_
    refine am_drop [1, 2, 3, 4, 5, 6, 7, 8, 9, 10, 11, 12, 0] [(0, .retAddr b), (1, .ref 0), (2, .ref 500), (3, .ref 501), (4, .ref 502), (5, .ref 503), (6, .ref 464), (7, .ref 504), (8, .ref 505), (9, .ref 506), (10, .ref 507), (11, .ref 508), (12, .int ((nI tn) + 1))] rfl ?_
    refine am_eqL [(0, .retAddr b), (1, .ref 0), (2, .ref 500), (3, .ref 501), (4, .ref 502), (5, .ref 503), (6, .ref 464), (7, .ref 504), (8, .ref 505), (9, .ref 506), (10, .ref 507), (11, .ref 508), (12, .int (nI (tn + 1)))] (by rw [nI_1]) ?_
    refine am_forget (hp T2 (st1 S2 91 0 0) o2) hp_off (fun i hi => absurd (by rw [hO.2.1]) hi) ?_
    exact ih (tn + 1) T2 (st1 S2 91 0 0) o2 n2 m2 v2 t2 (k1 + 1 + 8) (n1 + 4 + 64) (by omega) (by omega) (by omega) (q_91 h2 0) (by rw [st1_same]; decide) (Or.inr ⟨by omega, hn2⟩)
