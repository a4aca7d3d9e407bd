def sgX6_held_0_8bcf7 : List Instr := [.aload_n 0, .iload_n 1]
theorem sgX6_held_0_8bcf7d : am_dec cX6_held 0 sgX6_held_0_8bcf7 = true := by decide +kernel
theorem dX6_held_2 : decode cX6_held 2 = .ok (.invokevirtual 161, 3) := by decide +kernel
theorem dX6_held_5 : decode cX6_held 5 = .ok (.ifCond .ne 5, 3) := by decide +kernel
def sgX6_held_8_4de0a : List Instr := [.iconst 1]
theorem sgX6_held_8_4de0ad : am_dec cX6_held 8 sgX6_held_8_4de0a = true := by decide +kernel
theorem dX6_held_9 : decode cX6_held 9 = .ok (.ireturn, 1) := by decide +kernel
def sgX6_held_10_34db8 : List Instr := [.aload_n 0]
theorem sgX6_held_10_34db8d : am_dec cX6_held 10 sgX6_held_10_34db8 = true := by decide +kernel
theorem dX6_held_11 : decode cX6_held 11 = .ok (.getfield 68, 3) := by decide +kernel
def sgX6_held_14_840bf : List Instr := [.iload_n 1]
theorem sgX6_held_14_840bfd : am_dec cX6_held 14 sgX6_held_14_840bf = true := by decide +kernel
theorem dX6_held_15 : decode cX6_held 15 = .ok (.iaload, 1) := by decide +kernel
def sgX6_held_16_4de0a : List Instr := [.iconst 1]
theorem sgX6_held_16_4de0ad : am_dec cX6_held 16 sgX6_held_16_4de0a = true := by decide +kernel
theorem dX6_held_17 : decode cX6_held 17 = .ok (.if_icmp .ne 12, 3) := by decide +kernel
def sgX6_held_29_abe91 : List Instr := [.iconst 2, .goto 4]
theorem sgX6_held_29_abe91d : am_dec cX6_held 29 sgX6_held_29_abe91 = true := by decide +kernel
theorem dX6_held_34 : decode cX6_held 34 = .ok (.ireturn, 1) := by decide +kernel
def sgX6_held_20_34db8 : List Instr := [.aload_n 0]
theorem sgX6_held_20_34db8d : am_dec cX6_held 20 sgX6_held_20_34db8 = true := by decide +kernel
theorem dX6_held_21 : decode cX6_held 21 = .ok (.getfield 77, 3) := by decide +kernel
def sgX6_held_24_840bf : List Instr := [.iload_n 1]
theorem sgX6_held_24_840bfd : am_dec cX6_held 24 sgX6_held_24_840bf = true := by decide +kernel
theorem dX6_held_25 : decode cX6_held 25 = .ok (.baload, 1) := by decide +kernel
theorem dX6_held_26 : decode cX6_held 26 = .ok (.ifCond .eq 7, 3) := by decide +kernel
def sgX6_held_33_56c54 : List Instr := [.iconst 0]
theorem sgX6_held_33_56c54d : am_dec cX6_held 33 sgX6_held_33_56c54 = true := by decide +kernel
def sgX6_asks_0_6b3ba : List Instr := [.aload_n 0, .aload_n 0, .iload_n 1]
theorem sgX6_asks_0_6b3bad : am_dec cX6_asks 0 sgX6_asks_0_6b3ba = true := by decide +kernel
theorem dX6_asks_3 : decode cX6_asks 3 = .ok (.invokevirtual 161, 3) := by decide +kernel
theorem dX6_asks_6 : decode cX6_asks 6 = .ok (.ifCond .eq 7, 3) := by decide +kernel
def sgX6_asks_13_4de0a : List Instr := [.iconst 1]
theorem sgX6_asks_13_4de0ad : am_dec cX6_asks 13 sgX6_asks_13_4de0a = true := by decide +kernel
theorem dX6_asks_14 : decode cX6_asks 14 = .ok (.putfield 104, 3) := by decide +kernel
def sgX6_asks_17_34db8 : List Instr := [.aload_n 0]
theorem sgX6_asks_17_34db8d : am_dec cX6_asks 17 sgX6_asks_17_34db8 = true := by decide +kernel
theorem dX6_asks_18 : decode cX6_asks 18 = .ok (.getfield 104, 3) := by decide +kernel
theorem dX6_asks_21 : decode cX6_asks 21 = .ok (.ifCond .ne 7, 3) := by decide +kernel
def sgX6_asks_28_56c54 : List Instr := [.iconst 0]
theorem sgX6_asks_28_56c54d : am_dec cX6_asks 28 sgX6_asks_28_56c54 = true := by decide +kernel
theorem dX6_asks_29 : decode cX6_asks 29 = .ok (.ireturn, 1) := by decide +kernel
def sgX6_asks_9_1cbe9 : List Instr := [.iconst 0, .goto 4]
theorem sgX6_asks_9_1cbe9d : am_dec cX6_asks 9 sgX6_asks_9_1cbe9 = true := by decide +kernel
def sgX6_asks_24_1c64c : List Instr := [.iconst 1, .goto 4]
theorem sgX6_asks_24_1c64cd : am_dec cX6_asks 24 sgX6_asks_24_1c64c = true := by decide +kernel
def sgX6_asksPerson_0_8bcf7 : List Instr := [.aload_n 0, .iload_n 1]
theorem sgX6_asksPerson_0_8bcf7d : am_dec cX6_asksPerson 0 sgX6_asksPerson_0_8bcf7 = true := by decide +kernel
theorem dX6_asksPerson_2 : decode cX6_asksPerson 2 = .ok (.invokestatic 118, 3) := by decide +kernel
theorem dX6_asksPerson_5 : decode cX6_asksPerson 5 = .ok (.ifCond .eq 7, 3) := by decide +kernel
def sgX6_asksPerson_12_4de0a : List Instr := [.iconst 1]
theorem sgX6_asksPerson_12_4de0ad : am_dec cX6_asksPerson 12 sgX6_asksPerson_12_4de0a = true := by decide +kernel
theorem dX6_asksPerson_13 : decode cX6_asksPerson 13 = .ok (.putfield 104, 3) := by decide +kernel
def sgX6_asksPerson_16_34db8 : List Instr := [.aload_n 0]
theorem sgX6_asksPerson_16_34db8d : am_dec cX6_asksPerson 16 sgX6_asksPerson_16_34db8 = true := by decide +kernel
theorem dX6_asksPerson_17 : decode cX6_asksPerson 17 = .ok (.getfield 104, 3) := by decide +kernel
theorem dX6_asksPerson_20 : decode cX6_asksPerson 20 = .ok (.ifCond .ne 7, 3) := by decide +kernel
def sgX6_asksPerson_27_56c54 : List Instr := [.iconst 0]
theorem sgX6_asksPerson_27_56c54d : am_dec cX6_asksPerson 27 sgX6_asksPerson_27_56c54 = true := by decide +kernel
theorem dX6_asksPerson_28 : decode cX6_asksPerson 28 = .ok (.ireturn, 1) := by decide +kernel
def sgX6_asksPerson_8_1cbe9 : List Instr := [.iconst 0, .goto 4]
theorem sgX6_asksPerson_8_1cbe9d : am_dec cX6_asksPerson 8 sgX6_asksPerson_8_1cbe9 = true := by decide +kernel
def sgX6_asksPerson_23_1c64c : List Instr := [.iconst 1, .goto 4]
theorem sgX6_asksPerson_23_1c64cd : am_dec cX6_asksPerson 23 sgX6_asksPerson_23_1c64c = true := by decide +kernel
set_option maxRecDepth 100000 in
set_option maxHeartbeats 4000000 in
theorem c_held_1 {G : am_S} {T S : am_T} {o : Nat → Int64} {m : Nat} (hm : S 17 0 = nI m) (hm80 : m ≤ 80) {x : Int32} (hx : x < 0 ∨ nI m ≤ x) : am_D G yX6_held (.code yX6_held cX6_held 2 (some .int) :: am_G) { frames := 2, cells := 0, slots := 0, locals := 43 } (hp T S o) [.ref 465, .int x] (hp T S o) (some (.int 1)) := by
  refine am_of (by decide +kernel) (Nat.le_of_ble_eq_true rfl) ?_
  intro C hse hret hname hF hO
  subst hse
  refine am_go hF sgX6_held_0_8bcf7 2 [(0, .ref 465), (1, .int x)] [.int x, .ref 465] sgX6_held_0_8bcf7d rfl ?_
  refine am_dV hF hO [.int x] [] (c_isMail_f (S := S) hm hm80 hx) myX6_isMail vyX6_isMail lm_RX6_161 (hp_m _ _ _) rfl rfl 0 0 ⟨Nat.le_of_ble_eq_true rfl, Nat.le_of_ble_eq_true rfl⟩ ⟨Nat.le_of_ble_eq_true rfl, Nat.le_of_ble_eq_true rfl, Nat.le_of_ble_eq_true rfl, Nat.le_of_ble_eq_true rfl⟩ rfl (am_lv_ref (hp_m _ _ _) (am_lv_int am_lv_nil)) (Nat.le_of_ble_eq_true rfl) dX6_held_2 [.int 0] rfl ?_
  refine am_ifne hF 10 dX6_held_5 (by decide) (fun h9 => False.elim ((by revert h9; decide))) (fun _ => ?_)
  refine am_go hF sgX6_held_8_4de0a 9 [(0, .ref 465), (1, .int x)] [.int 1] sgX6_held_8_4de0ad rfl ?_
  exact am_iret hF hO hret rfl dX6_held_9 ⟨rfl, rfl⟩
set_option maxRecDepth 100000 in
set_option maxHeartbeats 4000000 in
theorem c_held_2 {G : am_S} {T S : am_T} {o : Nat → Int64} {m : Nat} (hm : S 17 0 = nI m) (hm80 : m ≤ 80) {k : Nat} (hk : k < m) : am_D G yX6_held (.code yX6_held cX6_held 2 (some .int) :: am_G) { frames := 2, cells := 0, slots := 0, locals := 43 } (hp T S o) [.ref 465, .int (nI k)] (hp T S o) (some (.int (if S 24 k = 1 ∧ S 27 k = 0 then 0 else 2))) := by
  refine am_of (by decide +kernel) (Nat.le_of_ble_eq_true rfl) ?_
  intro C hse hret hname hF hO
  subst hse
  refine am_go hF sgX6_held_0_8bcf7 2 [(0, .ref 465), (1, .int (nI k))] [.int (nI k), .ref 465] sgX6_held_0_8bcf7d rfl ?_
  refine am_dV hF hO [.int (nI k)] [] (c_isMail_t (S := S) hm hm80 (show k < m by omega) rfl) myX6_isMail vyX6_isMail lm_RX6_161 (hp_m _ _ _) rfl rfl 0 0 ⟨Nat.le_of_ble_eq_true rfl, Nat.le_of_ble_eq_true rfl⟩ ⟨Nat.le_of_ble_eq_true rfl, Nat.le_of_ble_eq_true rfl, Nat.le_of_ble_eq_true rfl, Nat.le_of_ble_eq_true rfl⟩ rfl (am_lv_ref (hp_m _ _ _) (am_lv_int am_lv_nil)) (Nat.le_of_ble_eq_true rfl) dX6_held_2 [.int 1] rfl ?_
  refine am_ifne hF 10 dX6_held_5 (by decide) (fun _ => ?_) (fun h9 => False.elim ((by revert h9; decide)))
  refine am_go hF sgX6_held_10_34db8 11 [(0, .ref 465), (1, .int (nI k))] [.ref 465] sgX6_held_10_34db8d rfl ?_
  refine sv_get hF 24 (by decide) rfl lf_RX6_68 (.ref 524) rfl dX6_held_11 ?_
  refine am_go hF sgX6_held_14_840bf 15 [(0, .ref 465), (1, .int (nI k))] [.int (nI k), .ref 524] sgX6_held_14_840bfd rfl ?_
  refine sv_iald hF 24 (by decide) ⟨rfl, rfl, by decide⟩ k rfl (show k < 80 by omega) dX6_held_15 ?_
  refine am_go hF sgX6_held_16_4de0a 17 [(0, .ref 465), (1, .int (nI k))] [.int 1, .int (S 24 k)] sgX6_held_16_4de0ad rfl ?_
  refine am_icmpne hF 29 dX6_held_17 (by decide) (fun c2 => ?_) (fun c2 => ?_)
  · skip
    refine am_go hF sgX6_held_29_abe91 34 [(0, .ref 465), (1, .int (nI k))] [.int 2] sgX6_held_29_abe91d rfl ?_
    exact am_iret hF hO hret rfl dX6_held_34 ⟨rfl, by simp only [c2, not_false_eq_true, not_true_eq_false, and_self, and_true, true_and, and_false, false_and, true_or, or_true, or_false, false_or, or_self, ↓reduceIte]⟩
  · skip
    refine am_go hF sgX6_held_20_34db8 21 [(0, .ref 465), (1, .int (nI k))] [.ref 465] sgX6_held_20_34db8d rfl ?_
    refine sv_get hF 27 (by decide) rfl lf_RX6_77 (.ref 527) rfl dX6_held_21 ?_
    refine am_go hF sgX6_held_24_840bf 25 [(0, .ref 465), (1, .int (nI k))] [.int (nI k), .ref 527] sgX6_held_24_840bfd rfl ?_
    refine sv_zald hF 27 (by decide) ⟨rfl, rfl, by decide⟩ k rfl (show k < 80 by omega) dX6_held_25 ?_
    refine am_ifeq hF 33 dX6_held_26 (by decide) (fun c3 => ?_) (fun c3 => ?_)
    · skip
      refine am_go hF sgX6_held_33_56c54 34 [(0, .ref 465), (1, .int (nI k))] [.int 0] sgX6_held_33_56c54d rfl ?_
      exact am_iret hF hO hret rfl dX6_held_34 ⟨rfl, by simp only [(eq_true c2), (eq_true c3), not_false_eq_true, not_true_eq_false, and_self, and_true, true_and, and_false, false_and, true_or, or_true, or_false, false_or, or_self, ↓reduceIte]⟩
    · skip
      refine am_go hF sgX6_held_29_abe91 34 [(0, .ref 465), (1, .int (nI k))] [.int 2] sgX6_held_29_abe91d rfl ?_
      exact am_iret hF hO hret rfl dX6_held_34 ⟨rfl, by simp only [(eq_true c2), c3, not_false_eq_true, not_true_eq_false, and_self, and_true, true_and, and_false, false_and, true_or, or_true, or_false, false_or, or_self, ↓reduceIte]⟩
set_option maxRecDepth 100000 in
set_option maxHeartbeats 4000000 in
theorem c_asks_f {G : am_S} {T S : am_T} {o : Nat → Int64} {m : Nat} (hm : S 17 0 = nI m) (hm80 : m ≤ 80) {x : Int32} (hx : x < 0 ∨ nI m ≤ x) : am_D G yX6_asks (.code yX6_asks cX6_asks 2 (some .boolean) :: am_G) { frames := 2, cells := 0, slots := 0, locals := 43 } (hp T S o) [.ref 465, .int x] (hp T (st1 S 0 0 1) o) (some (.int 0)) := by
  refine am_of (by decide +kernel) (Nat.le_of_ble_eq_true rfl) ?_
  intro C hse hret hname hF hO
  subst hse
  refine am_go hF sgX6_asks_0_6b3ba 3 [(0, .ref 465), (1, .int x)] [.int x, .ref 465, .ref 465] sgX6_asks_0_6b3bad rfl ?_
  refine am_dV hF hO [.int x] [.ref 465] (c_isMail_f (S := S) hm hm80 hx) myX6_isMail vyX6_isMail lm_RX6_161 (hp_m _ _ _) rfl rfl 0 0 ⟨Nat.le_of_ble_eq_true rfl, Nat.le_of_ble_eq_true rfl⟩ ⟨Nat.le_of_ble_eq_true rfl, Nat.le_of_ble_eq_true rfl, Nat.le_of_ble_eq_true rfl, Nat.le_of_ble_eq_true rfl⟩ rfl (am_lv_ref (hp_m _ _ _) (am_lv_int (am_lv_ref (hp_m _ _ _) am_lv_nil))) (Nat.le_of_ble_eq_true rfl) dX6_asks_3 [.int 0, .ref 465] rfl ?_
  refine am_ifeq hF 13 dX6_asks_6 (by decide) (fun _ => ?_) (fun h9 => False.elim ((by revert h9; decide)))
  refine am_go hF sgX6_asks_13_4de0a 14 [(0, .ref 465), (1, .int x)] [.int 1, .ref 465] sgX6_asks_13_4de0ad rfl ?_
  refine sv_put hF 0 (by decide) rfl rfl rfl lf_RX6_104 dX6_asks_14 ?_
  refine am_go hF sgX6_asks_17_34db8 18 [(0, .ref 465), (1, .int x)] [.ref 465] sgX6_asks_17_34db8d rfl ?_
  refine sv_get hF 0 (by decide) rfl lf_RX6_104 (.int 1) rfl dX6_asks_18 ?_
  refine am_ifne hF 28 dX6_asks_21 (by decide) (fun _ => ?_) (fun h9 => False.elim ((by revert h9; decide)))
  refine am_go hF sgX6_asks_28_56c54 29 [(0, .ref 465), (1, .int x)] [.int 0] sgX6_asks_28_56c54d rfl ?_
  exact am_iret hF hO hret rfl dX6_asks_29 ⟨rfl, rfl⟩
set_option maxRecDepth 100000 in
set_option maxHeartbeats 4000000 in
theorem c_asks_t {G : am_S} {T S : am_T} {o : Nat → Int64} {m : Nat} (hm : S 17 0 = nI m) (hm80 : m ≤ 80) {k : Nat} (hk : k < m) : am_D G yX6_asks (.code yX6_asks cX6_asks 2 (some .boolean) :: am_G) { frames := 2, cells := 0, slots := 0, locals := 43 } (hp T S o) [.ref 465, .int (nI k)] (hp T (st1 S 0 0 0) o) (some (.int 1)) := by
  refine am_of (by decide +kernel) (Nat.le_of_ble_eq_true rfl) ?_
  intro C hse hret hname hF hO
  subst hse
  refine am_go hF sgX6_asks_0_6b3ba 3 [(0, .ref 465), (1, .int (nI k))] [.int (nI k), .ref 465, .ref 465] sgX6_asks_0_6b3bad rfl ?_
  refine am_dV hF hO [.int (nI k)] [.ref 465] (c_isMail_t (S := S) hm hm80 (show k < m by omega) rfl) myX6_isMail vyX6_isMail lm_RX6_161 (hp_m _ _ _) rfl rfl 0 0 ⟨Nat.le_of_ble_eq_true rfl, Nat.le_of_ble_eq_true rfl⟩ ⟨Nat.le_of_ble_eq_true rfl, Nat.le_of_ble_eq_true rfl, Nat.le_of_ble_eq_true rfl, Nat.le_of_ble_eq_true rfl⟩ rfl (am_lv_ref (hp_m _ _ _) (am_lv_int (am_lv_ref (hp_m _ _ _) am_lv_nil))) (Nat.le_of_ble_eq_true rfl) dX6_asks_3 [.int 1, .ref 465] rfl ?_
  refine am_ifeq hF 13 dX6_asks_6 (by decide) (fun h9 => False.elim ((by revert h9; decide))) (fun _ => ?_)
  refine am_go hF sgX6_asks_9_1cbe9 14 [(0, .ref 465), (1, .int (nI k))] [.int 0, .ref 465] sgX6_asks_9_1cbe9d rfl ?_
  refine sv_put hF 0 (by decide) rfl rfl rfl lf_RX6_104 dX6_asks_14 ?_
  refine am_go hF sgX6_asks_17_34db8 18 [(0, .ref 465), (1, .int (nI k))] [.ref 465] sgX6_asks_17_34db8d rfl ?_
  refine sv_get hF 0 (by decide) rfl lf_RX6_104 (.int 0) rfl dX6_asks_18 ?_
  refine am_ifne hF 28 dX6_asks_21 (by decide) (fun h9 => False.elim ((by revert h9; decide))) (fun _ => ?_)
  refine am_go hF sgX6_asks_24_1c64c 29 [(0, .ref 465), (1, .int (nI k))] [.int 1] sgX6_asks_24_1c64cd rfl ?_
  exact am_iret hF hO hret rfl dX6_asks_29 ⟨rfl, rfl⟩
set_option maxRecDepth 100000 in
set_option maxHeartbeats 4000000 in
theorem c_asksPerson_f {G : am_S} {T S : am_T} {o : Nat → Int64} {x : Int32} (hx : x < 0 ∨ nI 16 ≤ x) : am_D G yX6_asksPerson (.code yX6_asksPerson cX6_asksPerson 2 (some .boolean) :: am_G) { frames := 2, cells := 0, slots := 0, locals := 42 } (hp T S o) [.ref 465, .int x] (hp T (st1 S 0 0 1) o) (some (.int 0)) := by
  refine am_of (by decide +kernel) (Nat.le_of_ble_eq_true rfl) ?_
  intro C hse hret hname hF hO
  subst hse
  refine am_go hF sgX6_asksPerson_0_8bcf7 2 [(0, .ref 465), (1, .int x)] [.int x, .ref 465] sgX6_asksPerson_0_8bcf7d rfl ?_
  refine am_dS hF hO [.int x] [.ref 465] (c_isPerson_f hx) myX6_isPerson syX6_isPerson lm_RX6_118 rfl 0 0 ⟨Nat.le_of_ble_eq_true rfl, Nat.le_of_ble_eq_true rfl⟩ ⟨Nat.le_of_ble_eq_true rfl, Nat.le_of_ble_eq_true rfl, Nat.le_of_ble_eq_true rfl, Nat.le_of_ble_eq_true rfl⟩ rfl (am_lv_ref (hp_m _ _ _) (am_lv_int (am_lv_ref (hp_m _ _ _) am_lv_nil))) (Nat.le_of_ble_eq_true rfl) dX6_asksPerson_2 [.int 0, .ref 465] rfl ?_
  refine am_ifeq hF 12 dX6_asksPerson_5 (by decide) (fun _ => ?_) (fun h9 => False.elim ((by revert h9; decide)))
  refine am_go hF sgX6_asksPerson_12_4de0a 13 [(0, .ref 465), (1, .int x)] [.int 1, .ref 465] sgX6_asksPerson_12_4de0ad rfl ?_
  refine sv_put hF 0 (by decide) rfl rfl rfl lf_RX6_104 dX6_asksPerson_13 ?_
  refine am_go hF sgX6_asksPerson_16_34db8 17 [(0, .ref 465), (1, .int x)] [.ref 465] sgX6_asksPerson_16_34db8d rfl ?_
  refine sv_get hF 0 (by decide) rfl lf_RX6_104 (.int 1) rfl dX6_asksPerson_17 ?_
  refine am_ifne hF 27 dX6_asksPerson_20 (by decide) (fun _ => ?_) (fun h9 => False.elim ((by revert h9; decide)))
  refine am_go hF sgX6_asksPerson_27_56c54 28 [(0, .ref 465), (1, .int x)] [.int 0] sgX6_asksPerson_27_56c54d rfl ?_
  exact am_iret hF hO hret rfl dX6_asksPerson_28 ⟨rfl, rfl⟩
set_option maxRecDepth 100000 in
set_option maxHeartbeats 4000000 in
theorem c_asksPerson_t {G : am_S} {T S : am_T} {o : Nat → Int64} {p : Nat} (hp9 : p < 16) : am_D G yX6_asksPerson (.code yX6_asksPerson cX6_asksPerson 2 (some .boolean) :: am_G) { frames := 2, cells := 0, slots := 0, locals := 42 } (hp T S o) [.ref 465, .int (nI p)] (hp T (st1 S 0 0 0) o) (some (.int 1)) := by
  refine am_of (by decide +kernel) (Nat.le_of_ble_eq_true rfl) ?_
  intro C hse hret hname hF hO
  subst hse
  refine am_go hF sgX6_asksPerson_0_8bcf7 2 [(0, .ref 465), (1, .int (nI p))] [.int (nI p), .ref 465] sgX6_asksPerson_0_8bcf7d rfl ?_
  refine am_dS hF hO [.int (nI p)] [.ref 465] (c_isPerson_t (show p < 16 by omega) rfl) myX6_isPerson syX6_isPerson lm_RX6_118 rfl 0 0 ⟨Nat.le_of_ble_eq_true rfl, Nat.le_of_ble_eq_true rfl⟩ ⟨Nat.le_of_ble_eq_true rfl, Nat.le_of_ble_eq_true rfl, Nat.le_of_ble_eq_true rfl, Nat.le_of_ble_eq_true rfl⟩ rfl (am_lv_ref (hp_m _ _ _) (am_lv_int (am_lv_ref (hp_m _ _ _) am_lv_nil))) (Nat.le_of_ble_eq_true rfl) dX6_asksPerson_2 [.int 1, .ref 465] rfl ?_
  refine am_ifeq hF 12 dX6_asksPerson_5 (by decide) (fun h9 => False.elim ((by revert h9; decide))) (fun _ => ?_)
  refine am_go hF sgX6_asksPerson_8_1cbe9 13 [(0, .ref 465), (1, .int (nI p))] [.int 0, .ref 465] sgX6_asksPerson_8_1cbe9d rfl ?_
  refine sv_put hF 0 (by decide) rfl rfl rfl lf_RX6_104 dX6_asksPerson_13 ?_
  refine am_go hF sgX6_asksPerson_16_34db8 17 [(0, .ref 465), (1, .int (nI p))] [.ref 465] sgX6_asksPerson_16_34db8d rfl ?_
  refine sv_get hF 0 (by decide) rfl lf_RX6_104 (.int 0) rfl dX6_asksPerson_17 ?_
  refine am_ifne hF 27 dX6_asksPerson_20 (by decide) (fun h9 => False.elim ((by revert h9; decide))) (fun _ => ?_)
  refine am_go hF sgX6_asksPerson_23_1c64c 28 [(0, .ref 465), (1, .int (nI p))] [.int 1] sgX6_asksPerson_23_1c64cd rfl ?_
  exact am_iret hF hO hret rfl dX6_asksPerson_28 ⟨rfl, rfl⟩
