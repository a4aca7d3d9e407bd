def sgX6_weight_0_8bcf7 : List Instr := [.aload_n 0, .iload_n 1]
theorem sgX6_weight_0_8bcf7d : am_dec cX6_weight 0 sgX6_weight_0_8bcf7 = true := by decide +kernel
theorem dX6_weight_2 : decode cX6_weight 2 = .ok (.invokevirtual 187, 3) := by decide +kernel
theorem dX6_weight_5 : decode cX6_weight 5 = .ok (.ifCond .eq 12, 3) := by decide +kernel
def sgX6_weight_17_56c54 : List Instr := [.iconst 0]
theorem sgX6_weight_17_56c54d : am_dec cX6_weight 17 sgX6_weight_17_56c54 = true := by decide +kernel
theorem dX6_weight_18 : decode cX6_weight 18 = .ok (.ireturn, 1) := by decide +kernel
def sgX6_weight_8_34db8 : List Instr := [.aload_n 0]
theorem sgX6_weight_8_34db8d : am_dec cX6_weight 8 sgX6_weight_8_34db8 = true := by decide +kernel
theorem dX6_weight_9 : decode cX6_weight 9 = .ok (.getfield 13, 3) := by decide +kernel
def sgX6_weight_12_840bf : List Instr := [.iload_n 1]
theorem sgX6_weight_12_840bfd : am_dec cX6_weight 12 sgX6_weight_12_840bf = true := by decide +kernel
theorem dX6_weight_13 : decode cX6_weight 13 = .ok (.iaload, 1) := by decide +kernel
def sgX6_weight_14_c4397 : List Instr := [.goto 4]
theorem sgX6_weight_14_c4397d : am_dec cX6_weight 14 sgX6_weight_14_c4397 = true := by decide +kernel
def sgX6_judged_0_8bcf7 : List Instr := [.aload_n 0, .iload_n 1]
theorem sgX6_judged_0_8bcf7d : am_dec cX6_judged 0 sgX6_judged_0_8bcf7 = true := by decide +kernel
theorem dX6_judged_2 : decode cX6_judged 2 = .ok (.invokevirtual 187, 3) := by decide +kernel
theorem dX6_judged_5 : decode cX6_judged 5 = .ok (.ifCond .eq 12, 3) := by decide +kernel
def sgX6_judged_17_56c54 : List Instr := [.iconst 0]
theorem sgX6_judged_17_56c54d : am_dec cX6_judged 17 sgX6_judged_17_56c54 = true := by decide +kernel
theorem dX6_judged_18 : decode cX6_judged 18 = .ok (.ireturn, 1) := by decide +kernel
def sgX6_judged_8_34db8 : List Instr := [.aload_n 0]
theorem sgX6_judged_8_34db8d : am_dec cX6_judged 8 sgX6_judged_8_34db8 = true := by decide +kernel
theorem dX6_judged_9 : decode cX6_judged 9 = .ok (.getfield 16, 3) := by decide +kernel
def sgX6_judged_12_840bf : List Instr := [.iload_n 1]
theorem sgX6_judged_12_840bfd : am_dec cX6_judged 12 sgX6_judged_12_840bf = true := by decide +kernel
theorem dX6_judged_13 : decode cX6_judged 13 = .ok (.iaload, 1) := by decide +kernel
def sgX6_judged_14_c4397 : List Instr := [.goto 4]
theorem sgX6_judged_14_c4397d : am_dec cX6_judged 14 sgX6_judged_14_c4397 = true := by decide +kernel
def sgX6_bounces_0_8bcf7 : List Instr := [.aload_n 0, .iload_n 1]
theorem sgX6_bounces_0_8bcf7d : am_dec cX6_bounces 0 sgX6_bounces_0_8bcf7 = true := by decide +kernel
theorem dX6_bounces_2 : decode cX6_bounces 2 = .ok (.invokevirtual 187, 3) := by decide +kernel
theorem dX6_bounces_5 : decode cX6_bounces 5 = .ok (.ifCond .eq 12, 3) := by decide +kernel
def sgX6_bounces_17_56c54 : List Instr := [.iconst 0]
theorem sgX6_bounces_17_56c54d : am_dec cX6_bounces 17 sgX6_bounces_17_56c54 = true := by decide +kernel
theorem dX6_bounces_18 : decode cX6_bounces 18 = .ok (.ireturn, 1) := by decide +kernel
def sgX6_bounces_8_34db8 : List Instr := [.aload_n 0]
theorem sgX6_bounces_8_34db8d : am_dec cX6_bounces 8 sgX6_bounces_8_34db8 = true := by decide +kernel
theorem dX6_bounces_9 : decode cX6_bounces 9 = .ok (.getfield 19, 3) := by decide +kernel
def sgX6_bounces_12_840bf : List Instr := [.iload_n 1]
theorem sgX6_bounces_12_840bfd : am_dec cX6_bounces 12 sgX6_bounces_12_840bf = true := by decide +kernel
theorem dX6_bounces_13 : decode cX6_bounces 13 = .ok (.iaload, 1) := by decide +kernel
def sgX6_bounces_14_c4397 : List Instr := [.goto 4]
theorem sgX6_bounces_14_c4397d : am_dec cX6_bounces 14 sgX6_bounces_14_c4397 = true := by decide +kernel
def sgX6_box_0_8bcf7 : List Instr := [.aload_n 0, .iload_n 1]
theorem sgX6_box_0_8bcf7d : am_dec cX6_box 0 sgX6_box_0_8bcf7 = true := by decide +kernel
theorem dX6_box_2 : decode cX6_box 2 = .ok (.invokevirtual 187, 3) := by decide +kernel
theorem dX6_box_5 : decode cX6_box 5 = .ok (.ifCond .eq 12, 3) := by decide +kernel
def sgX6_box_17_56c54 : List Instr := [.iconst 0]
theorem sgX6_box_17_56c54d : am_dec cX6_box 17 sgX6_box_17_56c54 = true := by decide +kernel
theorem dX6_box_18 : decode cX6_box 18 = .ok (.ireturn, 1) := by decide +kernel
def sgX6_box_8_34db8 : List Instr := [.aload_n 0]
theorem sgX6_box_8_34db8d : am_dec cX6_box 8 sgX6_box_8_34db8 = true := by decide +kernel
theorem dX6_box_9 : decode cX6_box 9 = .ok (.getfield 22, 3) := by decide +kernel
def sgX6_box_12_840bf : List Instr := [.iload_n 1]
theorem sgX6_box_12_840bfd : am_dec cX6_box 12 sgX6_box_12_840bf = true := by decide +kernel
theorem dX6_box_13 : decode cX6_box 13 = .ok (.iaload, 1) := by decide +kernel
def sgX6_box_14_c4397 : List Instr := [.goto 4]
theorem sgX6_box_14_c4397d : am_dec cX6_box 14 sgX6_box_14_c4397 = true := by decide +kernel
set_option maxRecDepth 100000 in
set_option maxHeartbeats 4000000 in
theorem c_r_weight_f {G : am_S} {T S : am_T} {o : Nat → Int64} {x : Int32} (hx : x < 0 ∨ nI 16 ≤ x) : am_D G yX6_weight (.code yX6_weight cX6_weight 2 (some .int) :: am_G) { frames := 3, cells := 0, slots := 0, locals := 63 } (hp T S o) [.ref 465, .int x] (hp T (st1 S 0 0 1) o) (some (.int 0)) := by
  refine am_of (by decide +kernel) (Nat.le_of_ble_eq_true rfl) ?_
  intro C hse hret hname hF hO
  subst hse
  refine am_go hF sgX6_weight_0_8bcf7 2 [(0, .ref 465), (1, .int x)] [.int x, .ref 465] sgX6_weight_0_8bcf7d rfl ?_
  refine am_dV hF hO [.int x] [] (c_asksPerson_f (S := S) hx) myX6_asksPerson vyX6_asksPerson lm_RX6_187 (hp_m _ _ _) rfl rfl 0 0 ⟨Nat.le_of_ble_eq_true rfl, Nat.le_of_ble_eq_true rfl⟩ ⟨Nat.le_of_ble_eq_true rfl, Nat.le_of_ble_eq_true rfl, Nat.le_of_ble_eq_true rfl, Nat.le_of_ble_eq_true rfl⟩ rfl (am_lv_ref (hp_m _ _ _) (am_lv_int am_lv_nil)) (Nat.le_of_ble_eq_true rfl) dX6_weight_2 [.int 0] rfl ?_
  refine am_ifeq hF 17 dX6_weight_5 (by decide) (fun _ => ?_) (fun h9 => False.elim ((by revert h9; decide)))
  refine am_go hF sgX6_weight_17_56c54 18 [(0, .ref 465), (1, .int x)] [.int 0] sgX6_weight_17_56c54d rfl ?_
  exact am_iret hF hO hret rfl dX6_weight_18 ⟨rfl, rfl⟩
set_option maxRecDepth 100000 in
set_option maxHeartbeats 4000000 in
theorem c_r_weight_t {G : am_S} {T S : am_T} {o : Nat → Int64} {p : Nat} (hp9 : p < 16) : am_D G yX6_weight (.code yX6_weight cX6_weight 2 (some .int) :: am_G) { frames := 3, cells := 0, slots := 0, locals := 63 } (hp T S o) [.ref 465, .int (nI p)] (hp T (st1 S 0 0 0) o) (some (.int (S 4 p))) := by
  refine am_of (by decide +kernel) (Nat.le_of_ble_eq_true rfl) ?_
  intro C hse hret hname hF hO
  subst hse
  refine am_go hF sgX6_weight_0_8bcf7 2 [(0, .ref 465), (1, .int (nI p))] [.int (nI p), .ref 465] sgX6_weight_0_8bcf7d rfl ?_
  refine am_dV hF hO [.int (nI p)] [] (c_asksPerson_t (S := S) (by omega)) myX6_asksPerson vyX6_asksPerson lm_RX6_187 (hp_m _ _ _) rfl rfl 0 0 ⟨Nat.le_of_ble_eq_true rfl, Nat.le_of_ble_eq_true rfl⟩ ⟨Nat.le_of_ble_eq_true rfl, Nat.le_of_ble_eq_true rfl, Nat.le_of_ble_eq_true rfl, Nat.le_of_ble_eq_true rfl⟩ rfl (am_lv_ref (hp_m _ _ _) (am_lv_int am_lv_nil)) (Nat.le_of_ble_eq_true rfl) dX6_weight_2 [.int 1] rfl ?_
  refine am_ifeq hF 17 dX6_weight_5 (by decide) (fun h9 => False.elim ((by revert h9; decide))) (fun _ => ?_)
  refine am_go hF sgX6_weight_8_34db8 9 [(0, .ref 465), (1, .int (nI p))] [.ref 465] sgX6_weight_8_34db8d rfl ?_
  refine sv_get hF 4 (by decide) rfl lf_RX6_13 (.ref 504) rfl dX6_weight_9 ?_
  refine am_go hF sgX6_weight_12_840bf 13 [(0, .ref 465), (1, .int (nI p))] [.int (nI p), .ref 504] sgX6_weight_12_840bfd rfl ?_
  refine sv_iald hF 4 (by decide) ⟨rfl, rfl, by decide⟩ p rfl (show p < 16 by omega) dX6_weight_13 ?_
  refine am_top (S 4 p) rfl ?_
  refine am_go hF sgX6_weight_14_c4397 18 [(0, .ref 465), (1, .int (nI p))] [.int (S 4 p)] sgX6_weight_14_c4397d rfl ?_
  exact am_iret hF hO hret rfl dX6_weight_18 ⟨rfl, rfl⟩
set_option maxRecDepth 100000 in
set_option maxHeartbeats 4000000 in
theorem c_r_judged_f {G : am_S} {T S : am_T} {o : Nat → Int64} {x : Int32} (hx : x < 0 ∨ nI 16 ≤ x) : am_D G yX6_judged (.code yX6_judged cX6_judged 2 (some .int) :: am_G) { frames := 3, cells := 0, slots := 0, locals := 63 } (hp T S o) [.ref 465, .int x] (hp T (st1 S 0 0 1) o) (some (.int 0)) := by
  refine am_of (by decide +kernel) (Nat.le_of_ble_eq_true rfl) ?_
  intro C hse hret hname hF hO
  subst hse
  refine am_go hF sgX6_judged_0_8bcf7 2 [(0, .ref 465), (1, .int x)] [.int x, .ref 465] sgX6_judged_0_8bcf7d rfl ?_
  refine am_dV hF hO [.int x] [] (c_asksPerson_f (S := S) hx) myX6_asksPerson vyX6_asksPerson lm_RX6_187 (hp_m _ _ _) rfl rfl 0 0 ⟨Nat.le_of_ble_eq_true rfl, Nat.le_of_ble_eq_true rfl⟩ ⟨Nat.le_of_ble_eq_true rfl, Nat.le_of_ble_eq_true rfl, Nat.le_of_ble_eq_true rfl, Nat.le_of_ble_eq_true rfl⟩ rfl (am_lv_ref (hp_m _ _ _) (am_lv_int am_lv_nil)) (Nat.le_of_ble_eq_true rfl) dX6_judged_2 [.int 0] rfl ?_
  refine am_ifeq hF 17 dX6_judged_5 (by decide) (fun _ => ?_) (fun h9 => False.elim ((by revert h9; decide)))
  refine am_go hF sgX6_judged_17_56c54 18 [(0, .ref 465), (1, .int x)] [.int 0] sgX6_judged_17_56c54d rfl ?_
  exact am_iret hF hO hret rfl dX6_judged_18 ⟨rfl, rfl⟩
set_option maxRecDepth 100000 in
set_option maxHeartbeats 4000000 in
theorem c_r_judged_t {G : am_S} {T S : am_T} {o : Nat → Int64} {p : Nat} (hp9 : p < 16) : am_D G yX6_judged (.code yX6_judged cX6_judged 2 (some .int) :: am_G) { frames := 3, cells := 0, slots := 0, locals := 63 } (hp T S o) [.ref 465, .int (nI p)] (hp T (st1 S 0 0 0) o) (some (.int (S 5 p))) := by
  refine am_of (by decide +kernel) (Nat.le_of_ble_eq_true rfl) ?_
  intro C hse hret hname hF hO
  subst hse
  refine am_go hF sgX6_judged_0_8bcf7 2 [(0, .ref 465), (1, .int (nI p))] [.int (nI p), .ref 465] sgX6_judged_0_8bcf7d rfl ?_
  refine am_dV hF hO [.int (nI p)] [] (c_asksPerson_t (S := S) (by omega)) myX6_asksPerson vyX6_asksPerson lm_RX6_187 (hp_m _ _ _) rfl rfl 0 0 ⟨Nat.le_of_ble_eq_true rfl, Nat.le_of_ble_eq_true rfl⟩ ⟨Nat.le_of_ble_eq_true rfl, Nat.le_of_ble_eq_true rfl, Nat.le_of_ble_eq_true rfl, Nat.le_of_ble_eq_true rfl⟩ rfl (am_lv_ref (hp_m _ _ _) (am_lv_int am_lv_nil)) (Nat.le_of_ble_eq_true rfl) dX6_judged_2 [.int 1] rfl ?_
  refine am_ifeq hF 17 dX6_judged_5 (by decide) (fun h9 => False.elim ((by revert h9; decide))) (fun _ => ?_)
  refine am_go hF sgX6_judged_8_34db8 9 [(0, .ref 465), (1, .int (nI p))] [.ref 465] sgX6_judged_8_34db8d rfl ?_
  refine sv_get hF 5 (by decide) rfl lf_RX6_16 (.ref 505) rfl dX6_judged_9 ?_
  refine am_go hF sgX6_judged_12_840bf 13 [(0, .ref 465), (1, .int (nI p))] [.int (nI p), .ref 505] sgX6_judged_12_840bfd rfl ?_
  refine sv_iald hF 5 (by decide) ⟨rfl, rfl, by decide⟩ p rfl (show p < 16 by omega) dX6_judged_13 ?_
  refine am_top (S 5 p) rfl ?_
  refine am_go hF sgX6_judged_14_c4397 18 [(0, .ref 465), (1, .int (nI p))] [.int (S 5 p)] sgX6_judged_14_c4397d rfl ?_
  exact am_iret hF hO hret rfl dX6_judged_18 ⟨rfl, rfl⟩
set_option maxRecDepth 100000 in
set_option maxHeartbeats 4000000 in
theorem c_r_bounces_f {G : am_S} {T S : am_T} {o : Nat → Int64} {x : Int32} (hx : x < 0 ∨ nI 16 ≤ x) : am_D G yX6_bounces (.code yX6_bounces cX6_bounces 2 (some .int) :: am_G) { frames := 3, cells := 0, slots := 0, locals := 63 } (hp T S o) [.ref 465, .int x] (hp T (st1 S 0 0 1) o) (some (.int 0)) := by
  refine am_of (by decide +kernel) (Nat.le_of_ble_eq_true rfl) ?_
  intro C hse hret hname hF hO
  subst hse
  refine am_go hF sgX6_bounces_0_8bcf7 2 [(0, .ref 465), (1, .int x)] [.int x, .ref 465] sgX6_bounces_0_8bcf7d rfl ?_
  refine am_dV hF hO [.int x] [] (c_asksPerson_f (S := S) hx) myX6_asksPerson vyX6_asksPerson lm_RX6_187 (hp_m _ _ _) rfl rfl 0 0 ⟨Nat.le_of_ble_eq_true rfl, Nat.le_of_ble_eq_true rfl⟩ ⟨Nat.le_of_ble_eq_true rfl, Nat.le_of_ble_eq_true rfl, Nat.le_of_ble_eq_true rfl, Nat.le_of_ble_eq_true rfl⟩ rfl (am_lv_ref (hp_m _ _ _) (am_lv_int am_lv_nil)) (Nat.le_of_ble_eq_true rfl) dX6_bounces_2 [.int 0] rfl ?_
  refine am_ifeq hF 17 dX6_bounces_5 (by decide) (fun _ => ?_) (fun h9 => False.elim ((by revert h9; decide)))
  refine am_go hF sgX6_bounces_17_56c54 18 [(0, .ref 465), (1, .int x)] [.int 0] sgX6_bounces_17_56c54d rfl ?_
  exact am_iret hF hO hret rfl dX6_bounces_18 ⟨rfl, rfl⟩
set_option maxRecDepth 100000 in
set_option maxHeartbeats 4000000 in
theorem c_r_bounces_t {G : am_S} {T S : am_T} {o : Nat → Int64} {p : Nat} (hp9 : p < 16) : am_D G yX6_bounces (.code yX6_bounces cX6_bounces 2 (some .int) :: am_G) { frames := 3, cells := 0, slots := 0, locals := 63 } (hp T S o) [.ref 465, .int (nI p)] (hp T (st1 S 0 0 0) o) (some (.int (S 6 p))) := by
  refine am_of (by decide +kernel) (Nat.le_of_ble_eq_true rfl) ?_
  intro C hse hret hname hF hO
  subst hse
  refine am_go hF sgX6_bounces_0_8bcf7 2 [(0, .ref 465), (1, .int (nI p))] [.int (nI p), .ref 465] sgX6_bounces_0_8bcf7d rfl ?_
  refine am_dV hF hO [.int (nI p)] [] (c_asksPerson_t (S := S) (by omega)) myX6_asksPerson vyX6_asksPerson lm_RX6_187 (hp_m _ _ _) rfl rfl 0 0 ⟨Nat.le_of_ble_eq_true rfl, Nat.le_of_ble_eq_true rfl⟩ ⟨Nat.le_of_ble_eq_true rfl, Nat.le_of_ble_eq_true rfl, Nat.le_of_ble_eq_true rfl, Nat.le_of_ble_eq_true rfl⟩ rfl (am_lv_ref (hp_m _ _ _) (am_lv_int am_lv_nil)) (Nat.le_of_ble_eq_true rfl) dX6_bounces_2 [.int 1] rfl ?_
  refine am_ifeq hF 17 dX6_bounces_5 (by decide) (fun h9 => False.elim ((by revert h9; decide))) (fun _ => ?_)
  refine am_go hF sgX6_bounces_8_34db8 9 [(0, .ref 465), (1, .int (nI p))] [.ref 465] sgX6_bounces_8_34db8d rfl ?_
  refine sv_get hF 6 (by decide) rfl lf_RX6_19 (.ref 506) rfl dX6_bounces_9 ?_
  refine am_go hF sgX6_bounces_12_840bf 13 [(0, .ref 465), (1, .int (nI p))] [.int (nI p), .ref 506] sgX6_bounces_12_840bfd rfl ?_
  refine sv_iald hF 6 (by decide) ⟨rfl, rfl, by decide⟩ p rfl (show p < 16 by omega) dX6_bounces_13 ?_
  refine am_top (S 6 p) rfl ?_
  refine am_go hF sgX6_bounces_14_c4397 18 [(0, .ref 465), (1, .int (nI p))] [.int (S 6 p)] sgX6_bounces_14_c4397d rfl ?_
  exact am_iret hF hO hret rfl dX6_bounces_18 ⟨rfl, rfl⟩
set_option maxRecDepth 100000 in
set_option maxHeartbeats 4000000 in
theorem c_r_box_f {G : am_S} {T S : am_T} {o : Nat → Int64} {x : Int32} (hx : x < 0 ∨ nI 16 ≤ x) : am_D G yX6_box (.code yX6_box cX6_box 2 (some .int) :: am_G) { frames := 3, cells := 0, slots := 0, locals := 63 } (hp T S o) [.ref 465, .int x] (hp T (st1 S 0 0 1) o) (some (.int 0)) := by
  refine am_of (by decide +kernel) (Nat.le_of_ble_eq_true rfl) ?_
  intro C hse hret hname hF hO
  subst hse
  refine am_go hF sgX6_box_0_8bcf7 2 [(0, .ref 465), (1, .int x)] [.int x, .ref 465] sgX6_box_0_8bcf7d rfl ?_
  refine am_dV hF hO [.int x] [] (c_asksPerson_f (S := S) hx) myX6_asksPerson vyX6_asksPerson lm_RX6_187 (hp_m _ _ _) rfl rfl 0 0 ⟨Nat.le_of_ble_eq_true rfl, Nat.le_of_ble_eq_true rfl⟩ ⟨Nat.le_of_ble_eq_true rfl, Nat.le_of_ble_eq_true rfl, Nat.le_of_ble_eq_true rfl, Nat.le_of_ble_eq_true rfl⟩ rfl (am_lv_ref (hp_m _ _ _) (am_lv_int am_lv_nil)) (Nat.le_of_ble_eq_true rfl) dX6_box_2 [.int 0] rfl ?_
  refine am_ifeq hF 17 dX6_box_5 (by decide) (fun _ => ?_) (fun h9 => False.elim ((by revert h9; decide)))
  refine am_go hF sgX6_box_17_56c54 18 [(0, .ref 465), (1, .int x)] [.int 0] sgX6_box_17_56c54d rfl ?_
  exact am_iret hF hO hret rfl dX6_box_18 ⟨rfl, rfl⟩
set_option maxRecDepth 100000 in
set_option maxHeartbeats 4000000 in
theorem c_r_box_t {G : am_S} {T S : am_T} {o : Nat → Int64} {p : Nat} (hp9 : p < 16) : am_D G yX6_box (.code yX6_box cX6_box 2 (some .int) :: am_G) { frames := 3, cells := 0, slots := 0, locals := 63 } (hp T S o) [.ref 465, .int (nI p)] (hp T (st1 S 0 0 0) o) (some (.int (S 7 p))) := by
  refine am_of (by decide +kernel) (Nat.le_of_ble_eq_true rfl) ?_
  intro C hse hret hname hF hO
  subst hse
  refine am_go hF sgX6_box_0_8bcf7 2 [(0, .ref 465), (1, .int (nI p))] [.int (nI p), .ref 465] sgX6_box_0_8bcf7d rfl ?_
  refine am_dV hF hO [.int (nI p)] [] (c_asksPerson_t (S := S) (by omega)) myX6_asksPerson vyX6_asksPerson lm_RX6_187 (hp_m _ _ _) rfl rfl 0 0 ⟨Nat.le_of_ble_eq_true rfl, Nat.le_of_ble_eq_true rfl⟩ ⟨Nat.le_of_ble_eq_true rfl, Nat.le_of_ble_eq_true rfl, Nat.le_of_ble_eq_true rfl, Nat.le_of_ble_eq_true rfl⟩ rfl (am_lv_ref (hp_m _ _ _) (am_lv_int am_lv_nil)) (Nat.le_of_ble_eq_true rfl) dX6_box_2 [.int 1] rfl ?_
  refine am_ifeq hF 17 dX6_box_5 (by decide) (fun h9 => False.elim ((by revert h9; decide))) (fun _ => ?_)
  refine am_go hF sgX6_box_8_34db8 9 [(0, .ref 465), (1, .int (nI p))] [.ref 465] sgX6_box_8_34db8d rfl ?_
  refine sv_get hF 7 (by decide) rfl lf_RX6_22 (.ref 507) rfl dX6_box_9 ?_
  refine am_go hF sgX6_box_12_840bf 13 [(0, .ref 465), (1, .int (nI p))] [.int (nI p), .ref 507] sgX6_box_12_840bfd rfl ?_
  refine sv_iald hF 7 (by decide) ⟨rfl, rfl, by decide⟩ p rfl (show p < 16 by omega) dX6_box_13 ?_
  refine am_top (S 7 p) rfl ?_
  refine am_go hF sgX6_box_14_c4397 18 [(0, .ref 465), (1, .int (nI p))] [.int (S 7 p)] sgX6_box_14_c4397d rfl ?_
  exact am_iret hF hO hret rfl dX6_box_18 ⟨rfl, rfl⟩
