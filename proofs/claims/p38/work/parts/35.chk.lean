/-! the class: what the calls ask of their arguments -/
section
variable {C : am_Cx} {X : am_H} {k n pc : Nat} {L : List (Nat × Value)} {st : List Value} {cc : ByteArray} {nL : Nat} {own : String} {Ts : List Cond}
theorem am_aldNn (hF : am_F C cc nL own Ts) {k9 : Fin 4} {i : Nat} (hi : (k9 : Nat) = i) (hg : am_get L i = some .null) (hd : decode cc pc = .ok (.aload_n k9, 1)) (kk : am_W C X k n (pc + 1) L (.null :: st)) : am_W C X k n pc L st := fun ad H locs ls h1 h2 h3 h4 => lv_aload_nN hF.1.1 hF.1.2.1 hd hi (am_L_get hg h4) (kk ad H locs ls h1 h2 h3 h4)
theorem am_aldN (hF : am_F C cc nL own Ts) {i : Nat} (hg : am_get L i = some .null) (hd : decode cc pc = .ok (.aload i, 2)) (kk : am_W C X k n (pc + 2) L (.null :: st)) : am_W C X k n pc L st := fun ad H locs ls h1 h2 h3 h4 => lv_aloadN hF.1.1 hF.1.2.1 hd (am_L_get hg h4) (kk ad H locs ls h1 h2 h3 h4)
theorem am_astNn (hF : am_F C cc nL own Ts) {k9 : Fin 4} {i : Nat} (hi : (k9 : Nat) = i) (hlt : i < nL) (hd : decode cc pc = .ok (.astore_n k9, 1)) (kk : am_W C X k n (pc + 1) ((i, .null) :: L.filter (am_fl i)) st) : am_W C X k n pc L (.null :: st) := fun ad H locs ls h1 h2 h3 h4 => lv_astore_nN hF.1.1 hF.1.2.1 hd hi h4 (by rw [hF.1.2.2.1]; exact hlt) rfl (am_W_st (l0 := 0) kk ad H locs h1 h2 h3)
theorem am_astN (hF : am_F C cc nL own Ts) {i : Nat} (hlt : i < nL) (hd : decode cc pc = .ok (.astore i, 2)) (kk : am_W C X k n (pc + 2) ((i, .null) :: L.filter (am_fl i)) st) : am_W C X k n pc L (.null :: st) := fun ad H locs ls h1 h2 h3 h4 => lv_astoreN hF.1.1 hF.1.2.1 hd h4 (by rw [hF.1.2.2.1]; exact hlt) rfl (am_W_st (l0 := 0) kk ad H locs h1 h2 h3)
end
theorem rng_d {d t : Nat} (h : d ≤ t) (ht : t < 2 ^ 31) : (0 : Int32) ≤ nI d ∧ nI d ≤ nI t := ⟨Int32.not_lt.mp (nI_pos (by omega)), nI_le h ht⟩
def sgX5_checkPerson_0_18811 : List Instr := [.iload_n 0]
theorem sgX5_checkPerson_0_18811d : am_dec cX5_checkPerson 0 sgX5_checkPerson_0_18811 = true := by decide +kernel
theorem dX5_checkPerson_1 : decode cX5_checkPerson 1 = .ok (.ifCond .lt 9, 3) := by decide +kernel
def sgX5_checkPerson_4_1dea8 : List Instr := [.iload_n 0, .bipush 16]
theorem sgX5_checkPerson_4_1dea8d : am_dec cX5_checkPerson 4 sgX5_checkPerson_4_1dea8 = true := by decide +kernel
theorem dX5_checkPerson_7 : decode cX5_checkPerson 7 = .ok (.if_icmp .lt 14, 3) := by decide +kernel
theorem dX5_checkPerson_21 : decode cX5_checkPerson 21 = .ok (.return_, 1) := by decide +kernel
theorem dX5_checkPerson_10 : decode cX5_checkPerson 10 = .ok (.new 135, 3) := by decide +kernel
theorem dX5_checkPerson_13 : decode cX5_checkPerson 13 = .ok (.dup, 1) := by decide +kernel
theorem dX5_checkPerson_14 : decode cX5_checkPerson 14 = .ok (.ldc_w 290, 3) := by decide +kernel
theorem dX5_checkPerson_17 : decode cX5_checkPerson 17 = .ok (.invokespecial 139, 3) := by decide +kernel
theorem dX5_checkPerson_20 : decode cX5_checkPerson 20 = .ok (.athrow, 1) := by decide +kernel
def sgX5_checkMode_0_18811 : List Instr := [.iload_n 0]
theorem sgX5_checkMode_0_18811d : am_dec cX5_checkMode 0 sgX5_checkMode_0_18811 = true := by decide +kernel
theorem dX5_checkMode_1 : decode cX5_checkMode 1 = .ok (.ifCond .eq 19, 3) := by decide +kernel
theorem dX5_checkMode_20 : decode cX5_checkMode 20 = .ok (.return_, 1) := by decide +kernel
def sgX5_checkMode_4_2e974 : List Instr := [.iload_n 0, .iconst 1]
theorem sgX5_checkMode_4_2e974d : am_dec cX5_checkMode 4 sgX5_checkMode_4_2e974 = true := by decide +kernel
theorem dX5_checkMode_6 : decode cX5_checkMode 6 = .ok (.if_icmp .eq 14, 3) := by decide +kernel
theorem dX5_checkMode_9 : decode cX5_checkMode 9 = .ok (.new 110, 3) := by decide +kernel
theorem dX5_checkMode_12 : decode cX5_checkMode 12 = .ok (.dup, 1) := by decide +kernel
theorem dX5_checkMode_13 : decode cX5_checkMode 13 = .ok (.ldc_w 292, 3) := by decide +kernel
theorem dX5_checkMode_16 : decode cX5_checkMode 16 = .ok (.invokespecial 114, 3) := by decide +kernel
theorem dX5_checkMode_19 : decode cX5_checkMode 19 = .ok (.athrow, 1) := by decide +kernel
def sgX5_checkRange_0_7b09b : List Instr := [.iload_n 0, .iload_n 1]
theorem sgX5_checkRange_0_7b09bd : am_dec cX5_checkRange 0 sgX5_checkRange_0_7b09b = true := by decide +kernel
theorem dX5_checkRange_2 : decode cX5_checkRange 2 = .ok (.if_icmp .lt 8, 3) := by decide +kernel
def sgX5_checkRange_5_69d2f : List Instr := [.iload_n 0, .iload_n 2]
theorem sgX5_checkRange_5_69d2fd : am_dec cX5_checkRange 5 sgX5_checkRange_5_69d2f = true := by decide +kernel
theorem dX5_checkRange_7 : decode cX5_checkRange 7 = .ok (.if_icmp .le 14, 3) := by decide +kernel
theorem dX5_checkRange_21 : decode cX5_checkRange 21 = .ok (.return_, 1) := by decide +kernel
theorem dX5_checkRange_10 : decode cX5_checkRange 10 = .ok (.new 110, 3) := by decide +kernel
theorem dX5_checkRange_13 : decode cX5_checkRange 13 = .ok (.dup, 1) := by decide +kernel
theorem dX5_checkRange_14 : decode cX5_checkRange 14 = .ok (.ldc_w 294, 3) := by decide +kernel
theorem dX5_checkRange_17 : decode cX5_checkRange 17 = .ok (.invokespecial 114, 3) := by decide +kernel
theorem dX5_checkRange_20 : decode cX5_checkRange 20 = .ok (.athrow, 1) := by decide +kernel
def sgX5_checkMember_0_8bcf7 : List Instr := [.aload_n 0, .iload_n 1]
theorem sgX5_checkMember_0_8bcf7d : am_dec cX5_checkMember 0 sgX5_checkMember_0_8bcf7 = true := by decide +kernel
theorem dX5_checkMember_2 : decode cX5_checkMember 2 = .ok (.invokevirtual 71, 3) := by decide +kernel
theorem dX5_checkMember_5 : decode cX5_checkMember 5 = .ok (.ifCond .ne 14, 3) := by decide +kernel
theorem dX5_checkMember_19 : decode cX5_checkMember 19 = .ok (.return_, 1) := by decide +kernel
theorem dX5_checkMember_8 : decode cX5_checkMember 8 = .ok (.new 55, 3) := by decide +kernel
theorem dX5_checkMember_11 : decode cX5_checkMember 11 = .ok (.dup, 1) := by decide +kernel
theorem dX5_checkMember_12 : decode cX5_checkMember 12 = .ok (.ldc_w 296, 3) := by decide +kernel
theorem dX5_checkMember_15 : decode cX5_checkMember 15 = .ok (.invokespecial 59, 3) := by decide +kernel
theorem dX5_checkMember_18 : decode cX5_checkMember 18 = .ok (.athrow, 1) := by decide +kernel
def sgX5_checkListerMayDecide_0_34db8 : List Instr := [.aload_n 0]
theorem sgX5_checkListerMayDecide_0_34db8d : am_dec cX5_checkListerMayDecide 0 sgX5_checkListerMayDecide_0_34db8 = true := by decide +kernel
theorem dX5_checkListerMayDecide_1 : decode cX5_checkListerMayDecide 1 = .ok (.getfield 183, 3) := by decide +kernel
def sgX5_checkListerMayDecide_4_4de0a : List Instr := [.iconst 1]
theorem sgX5_checkListerMayDecide_4_4de0ad : am_dec cX5_checkListerMayDecide 4 sgX5_checkListerMayDecide_4_4de0a = true := by decide +kernel
theorem dX5_checkListerMayDecide_5 : decode cX5_checkListerMayDecide 5 = .ok (.if_icmp .ne 10, 3) := by decide +kernel
def sgX5_checkListerMayDecide_8_34db8 : List Instr := [.aload_n 0]
theorem sgX5_checkListerMayDecide_8_34db8d : am_dec cX5_checkListerMayDecide 8 sgX5_checkListerMayDecide_8_34db8 = true := by decide +kernel
theorem dX5_checkListerMayDecide_9 : decode cX5_checkListerMayDecide 9 = .ok (.invokevirtual 298, 3) := by decide +kernel
theorem dX5_checkListerMayDecide_12 : decode cX5_checkListerMayDecide 12 = .ok (.ifCond .eq 14, 3) := by decide +kernel
theorem dX5_checkListerMayDecide_26 : decode cX5_checkListerMayDecide 26 = .ok (.return_, 1) := by decide +kernel
theorem dX5_checkListerMayDecide_15 : decode cX5_checkListerMayDecide 15 = .ok (.new 55, 3) := by decide +kernel
theorem dX5_checkListerMayDecide_18 : decode cX5_checkListerMayDecide 18 = .ok (.dup, 1) := by decide +kernel
theorem dX5_checkListerMayDecide_19 : decode cX5_checkListerMayDecide 19 = .ok (.ldc_w 301, 3) := by decide +kernel
theorem dX5_checkListerMayDecide_22 : decode cX5_checkListerMayDecide 22 = .ok (.invokespecial 59, 3) := by decide +kernel
theorem dX5_checkListerMayDecide_25 : decode cX5_checkListerMayDecide 25 = .ok (.athrow, 1) := by decide +kernel
def sgX5_findList_0_840bf : List Instr := [.iload_n 1]
theorem sgX5_findList_0_840bfd : am_dec cX5_findList 0 sgX5_findList_0_840bf = true := by decide +kernel
theorem dX5_findList_1 : decode cX5_findList 1 = .ok (.ifCond .lt 11, 3) := by decide +kernel
def sgX5_findList_4_45dfc : List Instr := [.iload_n 1, .aload_n 0]
theorem sgX5_findList_4_45dfcd : am_dec cX5_findList 4 sgX5_findList_4_45dfc = true := by decide +kernel
theorem dX5_findList_6 : decode cX5_findList 6 = .ok (.getfield 25, 3) := by decide +kernel
theorem dX5_findList_9 : decode cX5_findList 9 = .ok (.if_icmp .lt 14, 3) := by decide +kernel
def sgX5_findList_23_34db8 : List Instr := [.aload_n 0]
theorem sgX5_findList_23_34db8d : am_dec cX5_findList 23 sgX5_findList_23_34db8 = true := by decide +kernel
theorem dX5_findList_24 : decode cX5_findList 24 = .ok (.getfield 21, 3) := by decide +kernel
def sgX5_findList_27_840bf : List Instr := [.iload_n 1]
theorem sgX5_findList_27_840bfd : am_dec cX5_findList 27 sgX5_findList_27_840bf = true := by decide +kernel
theorem dX5_findList_28 : decode cX5_findList 28 = .ok (.aaload, 1) := by decide +kernel
theorem dX5_findList_29 : decode cX5_findList 29 = .ok (.areturn, 1) := by decide +kernel
theorem dX5_findList_12 : decode cX5_findList 12 = .ok (.new 135, 3) := by decide +kernel
theorem dX5_findList_15 : decode cX5_findList 15 = .ok (.dup, 1) := by decide +kernel
theorem dX5_findList_16 : decode cX5_findList 16 = .ok (.ldc_w 286, 3) := by decide +kernel
theorem dX5_findList_19 : decode cX5_findList 19 = .ok (.invokespecial 139, 3) := by decide +kernel
theorem dX5_findList_22 : decode cX5_findList 22 = .ok (.athrow, 1) := by decide +kernel
def sgX5_findMail_0_840bf : List Instr := [.iload_n 1]
theorem sgX5_findMail_0_840bfd : am_dec cX5_findMail 0 sgX5_findMail_0_840bf = true := by decide +kernel
theorem dX5_findMail_1 : decode cX5_findMail 1 = .ok (.ifCond .lt 11, 3) := by decide +kernel
def sgX5_findMail_4_45dfc : List Instr := [.iload_n 1, .aload_n 0]
theorem sgX5_findMail_4_45dfcd : am_dec cX5_findMail 4 sgX5_findMail_4_45dfc = true := by decide +kernel
theorem dX5_findMail_6 : decode cX5_findMail 6 = .ok (.getfield 35, 3) := by decide +kernel
theorem dX5_findMail_9 : decode cX5_findMail 9 = .ok (.if_icmp .lt 14, 3) := by decide +kernel
def sgX5_findMail_23_34db8 : List Instr := [.aload_n 0]
theorem sgX5_findMail_23_34db8d : am_dec cX5_findMail 23 sgX5_findMail_23_34db8 = true := by decide +kernel
theorem dX5_findMail_24 : decode cX5_findMail 24 = .ok (.getfield 31, 3) := by decide +kernel
def sgX5_findMail_27_840bf : List Instr := [.iload_n 1]
theorem sgX5_findMail_27_840bfd : am_dec cX5_findMail 27 sgX5_findMail_27_840bf = true := by decide +kernel
theorem dX5_findMail_28 : decode cX5_findMail 28 = .ok (.aaload, 1) := by decide +kernel
theorem dX5_findMail_29 : decode cX5_findMail 29 = .ok (.areturn, 1) := by decide +kernel
theorem dX5_findMail_12 : decode cX5_findMail 12 = .ok (.new 135, 3) := by decide +kernel
theorem dX5_findMail_15 : decode cX5_findMail 15 = .ok (.dup, 1) := by decide +kernel
theorem dX5_findMail_16 : decode cX5_findMail 16 = .ok (.ldc_w 288, 3) := by decide +kernel
theorem dX5_findMail_19 : decode cX5_findMail 19 = .ok (.invokespecial 139, 3) := by decide +kernel
theorem dX5_findMail_22 : decode cX5_findMail 22 = .ok (.athrow, 1) := by decide +kernel
set_option maxRecDepth 100000 in
set_option maxHeartbeats 4000000 in
theorem c_checkPerson {G : am_S} {X : am_H} {p : Nat} (hp9 : p < 16) : am_D G yX5_checkPerson (.code yX5_checkPerson cX5_checkPerson 1 none :: am_G) { frames := 0, cells := 0, slots := 0, locals := 0 } X [.int (nI p)] X none := by
  refine am_of (by decide +kernel) (Nat.le_of_ble_eq_true rfl) ?_
  intro C hse hret hname hF hO
  subst hse
  refine am_go hF sgX5_checkPerson_0_18811 1 [(0, .int (nI p))] [.int (nI p)] sgX5_checkPerson_0_18811d rfl ?_
  refine am_iflt hF 10 dX5_checkPerson_1 (by decide) (fun h9 => False.elim (nc_ge_f (show 0 ≤ p by omega) (by omega) (by omega) rfl rfl h9)) (fun _ => ?_)
  refine am_go hF sgX5_checkPerson_4_1dea8 7 [(0, .int (nI p))] [.int 16, .int (nI p)] sgX5_checkPerson_4_1dea8d rfl ?_
  refine am_icmplt hF 21 dX5_checkPerson_7 (by decide) (fun _ => ?_) (fun h9 => False.elim (absurd (nc_lt (show p < 16 by omega) (by omega) (by omega) rfl rfl) h9))
  exact am_vret hF hO hret dX5_checkPerson_21 ⟨rfl, rfl⟩
set_option maxRecDepth 100000 in
set_option maxHeartbeats 4000000 in
theorem c_checkPerson_x {G : am_S} (hG : G.1.stackTraces = false) {X : am_H} {x : Int32} (hx : x < 0 ∨ nI 16 ≤ x) : am_XD G yX5_checkPerson (.code yX5_checkPerson cX5_checkPerson 1 none :: am_G) { frames := 6, cells := 1, slots := 6, locals := 82 } X [.int x] am_E1 := by
  refine am_ofX (by decide +kernel) (Nat.le_of_ble_eq_true rfl) ?_
  intro C hse hret hname hF hX
  subst hse
  have hO := hX.1
  refine am_go hF sgX5_checkPerson_0_18811 1 [(0, .int x)] [.int x] sgX5_checkPerson_0_18811d rfl ?_
  refine am_iflt hF 10 dX5_checkPerson_1 (by decide) (fun c1 => ?_) (fun c1 => ?_)
  · skip
    exact am_throwSW hF hX hG (is := 290) (text := "no such person") am_nm (by decide +kernel) am_nm_fit lc_RX5_135 xz1 (by decide) xa1 xg1 dX5_checkPerson_10 dX5_checkPerson_13 dX5_checkPerson_14 dX5_checkPerson_17 dX5_checkPerson_20 ⟨Nat.le_of_ble_eq_true rfl, Nat.le_of_ble_eq_true rfl, Nat.le_of_ble_eq_true rfl, Nat.le_of_ble_eq_true rfl⟩
  · skip
    refine am_go hF sgX5_checkPerson_4_1dea8 7 [(0, .int x)] [.int 16, .int x] sgX5_checkPerson_4_1dea8d rfl ?_
    refine am_icmplt hF 21 dX5_checkPerson_7 (by decide) (fun c2 => ?_) (fun c2 => ?_)
    · skip
      exact absurd hx (fun h => h.elim c1 (Int32.not_le.mpr c2))
    · skip
      exact am_throwSW hF hX hG (is := 290) (text := "no such person") am_nm (by decide +kernel) am_nm_fit lc_RX5_135 xz1 (by decide) xa1 xg1 dX5_checkPerson_10 dX5_checkPerson_13 dX5_checkPerson_14 dX5_checkPerson_17 dX5_checkPerson_20 ⟨Nat.le_of_ble_eq_true rfl, Nat.le_of_ble_eq_true rfl, Nat.le_of_ble_eq_true rfl, Nat.le_of_ble_eq_true rfl⟩
set_option maxRecDepth 100000 in
set_option maxHeartbeats 4000000 in
theorem c_checkMode {G : am_S} {X : am_H} {z : Int32} (hz : z = 0 ∨ z = 1) : am_D G yX5_checkMode (.code yX5_checkMode cX5_checkMode 1 none :: am_G) { frames := 0, cells := 0, slots := 0, locals := 0 } X [.int z] X none := by
  refine am_of (by decide +kernel) (Nat.le_of_ble_eq_true rfl) ?_
  intro C hse hret hname hF hO
  subst hse
  refine am_go hF sgX5_checkMode_0_18811 1 [(0, .int z)] [.int z] sgX5_checkMode_0_18811d rfl ?_
  refine am_ifeq hF 20 dX5_checkMode_1 (by decide) (fun c1 => ?_) (fun c1 => ?_)
  · skip
    exact am_vret hF hO hret dX5_checkMode_20 ⟨rfl, rfl⟩
  · skip
    refine am_go hF sgX5_checkMode_4_2e974 6 [(0, .int z)] [.int 1, .int z] sgX5_checkMode_4_2e974d rfl ?_
    refine am_icmpeq hF 20 dX5_checkMode_6 (by decide) (fun c2 => ?_) (fun c2 => ?_)
    · skip
      exact am_vret hF hO hret dX5_checkMode_20 ⟨rfl, rfl⟩
    · skip
      exact absurd hz (fun h => h.elim c1 c2)
set_option maxRecDepth 100000 in
set_option maxHeartbeats 4000000 in
theorem c_checkMode_x {G : am_S} (hG : G.1.stackTraces = false) {X : am_H} {z : Int32} (hz : z ≠ 0 ∧ z ≠ 1) : am_XD G yX5_checkMode (.code yX5_checkMode cX5_checkMode 1 none :: am_G) { frames := 6, cells := 1, slots := 6, locals := 82 } X [.int z] am_E3 := by
  refine am_ofX (by decide +kernel) (Nat.le_of_ble_eq_true rfl) ?_
  intro C hse hret hname hF hX
  subst hse
  have hO := hX.1
  refine am_go hF sgX5_checkMode_0_18811 1 [(0, .int z)] [.int z] sgX5_checkMode_0_18811d rfl ?_
  refine am_ifeq hF 20 dX5_checkMode_1 (by decide) (fun c1 => ?_) (fun c1 => ?_)
  · skip
    exact absurd c1 hz.1
  · skip
    refine am_go hF sgX5_checkMode_4_2e974 6 [(0, .int z)] [.int 1, .int z] sgX5_checkMode_4_2e974d rfl ?_
    refine am_icmpeq hF 20 dX5_checkMode_6 (by decide) (fun c2 => ?_) (fun c2 => ?_)
    · skip
      exact absurd c2 hz.2
    · skip
      exact am_throwSW hF hX hG (is := 292) (text := "no such mode") am_nm (by decide +kernel) am_nm_fit lc_RX5_110 xz3 (by decide) xa3 xg3 dX5_checkMode_9 dX5_checkMode_12 dX5_checkMode_13 dX5_checkMode_16 dX5_checkMode_19 ⟨Nat.le_of_ble_eq_true rfl, Nat.le_of_ble_eq_true rfl, Nat.le_of_ble_eq_true rfl, Nat.le_of_ble_eq_true rfl⟩
set_option maxRecDepth 100000 in
set_option maxHeartbeats 4000000 in
theorem c_checkRange {G : am_S} {X : am_H} {x lo hi : Int32} (h : lo ≤ x ∧ x ≤ hi) : am_D G yX5_checkRange (.code yX5_checkRange cX5_checkRange 3 none :: am_G) { frames := 0, cells := 0, slots := 0, locals := 0 } X [.int x, .int lo, .int hi] X none := by
  refine am_of (by decide +kernel) (Nat.le_of_ble_eq_true rfl) ?_
  intro C hse hret hname hF hO
  subst hse
  refine am_go hF sgX5_checkRange_0_7b09b 2 [(0, .int x), (1, .int lo), (2, .int hi)] [.int lo, .int x] sgX5_checkRange_0_7b09bd rfl ?_
  refine am_icmplt hF 10 dX5_checkRange_2 (by decide) (fun c1 => ?_) (fun c1 => ?_)
  · skip
    exact absurd h.1 (Int32.not_le.mpr c1)
  · skip
    refine am_go hF sgX5_checkRange_5_69d2f 7 [(0, .int x), (1, .int lo), (2, .int hi)] [.int hi, .int x] sgX5_checkRange_5_69d2fd rfl ?_
    refine am_icmple hF 21 dX5_checkRange_7 (by decide) (fun c2 => ?_) (fun c2 => ?_)
    · skip
      exact am_vret hF hO hret dX5_checkRange_21 ⟨rfl, rfl⟩
    · skip
      exact absurd h.2 c2
set_option maxRecDepth 100000 in
set_option maxHeartbeats 4000000 in
theorem c_checkRange_x {G : am_S} (hG : G.1.stackTraces = false) {X : am_H} {x lo hi : Int32} (h : x < lo ∨ hi < x) : am_XD G yX5_checkRange (.code yX5_checkRange cX5_checkRange 3 none :: am_G) { frames := 6, cells := 1, slots := 6, locals := 82 } X [.int x, .int lo, .int hi] am_E3 := by
  refine am_ofX (by decide +kernel) (Nat.le_of_ble_eq_true rfl) ?_
  intro C hse hret hname hF hX
  subst hse
  have hO := hX.1
  refine am_go hF sgX5_checkRange_0_7b09b 2 [(0, .int x), (1, .int lo), (2, .int hi)] [.int lo, .int x] sgX5_checkRange_0_7b09bd rfl ?_
  refine am_icmplt hF 10 dX5_checkRange_2 (by decide) (fun c1 => ?_) (fun c1 => ?_)
  · skip
    exact am_throwSW hF hX hG (is := 294) (text := "out of its range") am_nm (by decide +kernel) am_nm_fit lc_RX5_110 xz3 (by decide) xa3 xg3 dX5_checkRange_10 dX5_checkRange_13 dX5_checkRange_14 dX5_checkRange_17 dX5_checkRange_20 ⟨Nat.le_of_ble_eq_true rfl, Nat.le_of_ble_eq_true rfl, Nat.le_of_ble_eq_true rfl, Nat.le_of_ble_eq_true rfl⟩
  · skip
    refine am_go hF sgX5_checkRange_5_69d2f 7 [(0, .int x), (1, .int lo), (2, .int hi)] [.int hi, .int x] sgX5_checkRange_5_69d2fd rfl ?_
    refine am_icmple hF 21 dX5_checkRange_7 (by decide) (fun c2 => ?_) (fun c2 => ?_)
    · skip
      exact absurd h (fun h => h.elim c1 (Int32.not_lt.mpr c2))
    · skip
      exact am_throwSW hF hX hG (is := 294) (text := "out of its range") am_nm (by decide +kernel) am_nm_fit lc_RX5_110 xz3 (by decide) xa3 xg3 dX5_checkRange_10 dX5_checkRange_13 dX5_checkRange_14 dX5_checkRange_17 dX5_checkRange_20 ⟨Nat.le_of_ble_eq_true rfl, Nat.le_of_ble_eq_true rfl, Nat.le_of_ble_eq_true rfl, Nat.le_of_ble_eq_true rfl⟩
set_option maxRecDepth 100000 in
set_option maxHeartbeats 4000000 in
theorem c_checkMember {G : am_S} {T S : am_T} {o : Nat → Int64} {n l : Nat} (hn : T 0 0 = nI n) (hn10 : n ≤ 10) (hl : l < n) {p : Nat} (hp9 : p < 16) (hb : bt (T 11 l) p = true) : am_D G yX5_checkMember (.code yX5_checkMember cX5_checkMember 2 none :: am_G) { frames := 2, cells := 0, slots := 0, locals := 42 } (hp T S o) [.ref (48 + l), .int (nI p)] (hp T S o) none := by
  refine am_of (by decide +kernel) (Nat.le_of_ble_eq_true rfl) ?_
  intro C hse hret hname hF hO
  subst hse
  refine am_go hF sgX5_checkMember_0_8bcf7 2 [(0, .ref (48 + l)), (1, .int (nI p))] [.int (nI p), .ref (48 + l)] sgX5_checkMember_0_8bcf7d rfl ?_
  refine am_dV hF hO [.int (nI p)] [] (c_hasMember (T := T) hn hn10 (show l < n by omega) (show p < 16 by omega)) myX2_hasMember vyX2_hasMember lm_RX5_71 (hp_list _ _ _ hn hn10 (show l < n by omega)) rfl rfl 0 0 ⟨Nat.le_of_ble_eq_true rfl, Nat.le_of_ble_eq_true rfl⟩ ⟨Nat.le_of_ble_eq_true rfl, Nat.le_of_ble_eq_true rfl, Nat.le_of_ble_eq_true rfl, Nat.le_of_ble_eq_true rfl⟩ rfl (am_lv_ref (hp_list _ _ _ hn hn10 (show l < n by omega)) (am_lv_int am_lv_nil)) (Nat.le_of_ble_eq_true rfl) dX5_checkMember_2 [.int (zb (bt (T 11 l) p))] rfl ?_
  refine am_ifne hF 19 dX5_checkMember_5 (by decide) (fun c1 => ?_) (fun c1 => ?_)
  · skip
    replace c1 := zb_p.mp c1
    exact am_vret hF hO hret dX5_checkMember_19 ⟨rfl, rfl⟩
  · skip
    replace c1 := zb_0.mp c1
    exact absurd (hb.symm.trans c1) (by decide)
set_option maxRecDepth 100000 in
set_option maxHeartbeats 4000000 in
theorem c_checkMember_x {G : am_S} (hG : G.1.stackTraces = false) {T S : am_T} {o : Nat → Int64} {n l : Nat} (hn : T 0 0 = nI n) (hn10 : n ≤ 10) (hl : l < n) {p : Nat} (hp9 : p < 16) (hb : bt (T 11 l) p = false) : am_XD G yX5_checkMember (.code yX5_checkMember cX5_checkMember 2 none :: am_G) { frames := 6, cells := 1, slots := 6, locals := 82 } (hp T S o) [.ref (48 + l), .int (nI p)] am_E2 := by
  refine am_ofX (by decide +kernel) (Nat.le_of_ble_eq_true rfl) ?_
  intro C hse hret hname hF hX
  subst hse
  have hO := hX.1
  refine am_go hF sgX5_checkMember_0_8bcf7 2 [(0, .ref (48 + l)), (1, .int (nI p))] [.int (nI p), .ref (48 + l)] sgX5_checkMember_0_8bcf7d rfl ?_
  refine am_dV hF hO [.int (nI p)] [] (c_hasMember (T := T) hn hn10 (show l < n by omega) (show p < 16 by omega)) myX2_hasMember vyX2_hasMember lm_RX5_71 (hp_list _ _ _ hn hn10 (show l < n by omega)) rfl rfl 0 0 ⟨Nat.le_of_ble_eq_true rfl, Nat.le_of_ble_eq_true rfl⟩ ⟨Nat.le_of_ble_eq_true rfl, Nat.le_of_ble_eq_true rfl, Nat.le_of_ble_eq_true rfl, Nat.le_of_ble_eq_true rfl⟩ rfl (am_lv_ref (hp_list _ _ _ hn hn10 (show l < n by omega)) (am_lv_int am_lv_nil)) (Nat.le_of_ble_eq_true rfl) dX5_checkMember_2 [.int (zb (bt (T 11 l) p))] rfl ?_
  refine am_ifne hF 19 dX5_checkMember_5 (by decide) (fun c1 => ?_) (fun c1 => ?_)
  · skip
    replace c1 := zb_p.mp c1
    exact absurd (hb.symm.trans c1) (by decide)
  · skip
    replace c1 := zb_0.mp c1
    exact am_throwSW hF hX hG (is := 296) (text := "the person is no member") am_nm (by decide +kernel) am_nm_fit lc_RX5_55 xz2 (by decide) xa2 xg2 dX5_checkMember_8 dX5_checkMember_11 dX5_checkMember_12 dX5_checkMember_15 dX5_checkMember_18 ⟨Nat.le_of_ble_eq_true rfl, Nat.le_of_ble_eq_true rfl, Nat.le_of_ble_eq_true rfl, Nat.le_of_ble_eq_true rfl⟩
set_option maxRecDepth 100000 in
set_option maxHeartbeats 4000000 in
theorem c_checkLister {G : am_S} {T S : am_T} {o : Nat → Int64} {m k : Nat} (hm : T 1 0 = nI m) (hm80 : m ≤ 80) (hk : k < m) (h25 : T 25 k = 1) (ho : ¬ (T 28 k = 1 ∧ ¬ T 32 k = 0)) : am_D G yX5_checkListerMayDecide (.code yX5_checkListerMayDecide cX5_checkListerMayDecide 1 none :: am_G) { frames := 1, cells := 0, slots := 0, locals := 20 } (hp T S o) [.ref (64 + k)] (hp T S o) none := by
  refine am_of (by decide +kernel) (Nat.le_of_ble_eq_true rfl) ?_
  intro C hse hret hname hF hO
  subst hse
  refine am_go hF sgX5_checkListerMayDecide_0_34db8 1 [(0, .ref (64 + k))] [.ref (64 + k)] sgX5_checkListerMayDecide_0_34db8d rfl ?_
  refine am_getf hF (hp_mail T S o hm hm80 (show k < m by omega)) (T := TX1) (N := 11) rfl (inG 1 inG1) 7 (by decide) (List.mem_cons_of_mem _ lf_RX5_183) rfl (.int (T 25 k)) rfl dX5_checkListerMayDecide_1 ?_
  refine am_go hF sgX5_checkListerMayDecide_4_4de0a 5 [(0, .ref (64 + k))] [.int 1, .int (T 25 k)] sgX5_checkListerMayDecide_4_4de0ad rfl ?_
  refine am_icmpne hF 15 dX5_checkListerMayDecide_5 (by decide) (fun c1 => ?_) (fun c1 => ?_)
  · skip
    exact absurd h25 c1
  · skip
    refine am_go hF sgX5_checkListerMayDecide_8_34db8 9 [(0, .ref (64 + k))] [.ref (64 + k)] sgX5_checkListerMayDecide_8_34db8d rfl ?_
    refine am_dV hF hO [] [] (c_isAppealOpen (T := T) hm hm80 (show k < m by omega)) myX1_isAppealOpen vyX1_isAppealOpen lm_RX5_298 (hp_mail _ _ _ hm hm80 (show k < m by omega)) rfl rfl 0 0 ⟨Nat.le_of_ble_eq_true rfl, Nat.le_of_ble_eq_true rfl⟩ ⟨Nat.le_of_ble_eq_true rfl, Nat.le_of_ble_eq_true rfl, Nat.le_of_ble_eq_true rfl, Nat.le_of_ble_eq_true rfl⟩ rfl (am_lv_ref (hp_mail _ _ _ hm hm80 (show k < m by omega)) am_lv_nil) (Nat.le_of_ble_eq_true rfl) dX5_checkListerMayDecide_9 [.int (zb (decide (T 28 k = 1 ∧ ¬ T 32 k = 0)))] rfl ?_
    refine am_ifeq hF 26 dX5_checkListerMayDecide_12 (by decide) (fun c2 => ?_) (fun c2 => ?_)
    · skip
      replace c2 := of_decide_eq_false (zb_0.mp c2)
      exact am_vret hF hO hret dX5_checkListerMayDecide_26 ⟨rfl, rfl⟩
    · skip
      replace c2 := of_decide_eq_true (zb_p.mp c2)
      exact absurd c2 ho
set_option maxRecDepth 100000 in
set_option maxHeartbeats 4000000 in
theorem c_checkLister_x {G : am_S} (hG : G.1.stackTraces = false) {T S : am_T} {o : Nat → Int64} {m k : Nat} (hm : T 1 0 = nI m) (hm80 : m ≤ 80) (hk : k < m) (h : ¬ T 25 k = 1 ∨ (T 28 k = 1 ∧ ¬ T 32 k = 0)) : am_XD G yX5_checkListerMayDecide (.code yX5_checkListerMayDecide cX5_checkListerMayDecide 1 none :: am_G) { frames := 6, cells := 1, slots := 6, locals := 82 } (hp T S o) [.ref (64 + k)] am_E2 := by
  refine am_ofX (by decide +kernel) (Nat.le_of_ble_eq_true rfl) ?_
  intro C hse hret hname hF hX
  subst hse
  have hO := hX.1
  refine am_go hF sgX5_checkListerMayDecide_0_34db8 1 [(0, .ref (64 + k))] [.ref (64 + k)] sgX5_checkListerMayDecide_0_34db8d rfl ?_
  refine am_getf hF (hp_mail T S o hm hm80 (show k < m by omega)) (T := TX1) (N := 11) rfl (inG 1 inG1) 7 (by decide) (List.mem_cons_of_mem _ lf_RX5_183) rfl (.int (T 25 k)) rfl dX5_checkListerMayDecide_1 ?_
  refine am_go hF sgX5_checkListerMayDecide_4_4de0a 5 [(0, .ref (64 + k))] [.int 1, .int (T 25 k)] sgX5_checkListerMayDecide_4_4de0ad rfl ?_
  refine am_icmpne hF 15 dX5_checkListerMayDecide_5 (by decide) (fun c1 => ?_) (fun c1 => ?_)
  · skip
    exact am_throwSW hF hX hG (is := 301) (text := "the mail is not held, or an appeal is open") am_nm (by decide +kernel) am_nm_fit lc_RX5_55 xz2 (by decide) xa2 xg2 dX5_checkListerMayDecide_15 dX5_checkListerMayDecide_18 dX5_checkListerMayDecide_19 dX5_checkListerMayDecide_22 dX5_checkListerMayDecide_25 ⟨Nat.le_of_ble_eq_true rfl, Nat.le_of_ble_eq_true rfl, Nat.le_of_ble_eq_true rfl, Nat.le_of_ble_eq_true rfl⟩
  · skip
    refine am_go hF sgX5_checkListerMayDecide_8_34db8 9 [(0, .ref (64 + k))] [.ref (64 + k)] sgX5_checkListerMayDecide_8_34db8d rfl ?_
    refine am_dV hF hO [] [] (c_isAppealOpen (T := T) hm hm80 (show k < m by omega)) myX1_isAppealOpen vyX1_isAppealOpen lm_RX5_298 (hp_mail _ _ _ hm hm80 (show k < m by omega)) rfl rfl 0 0 ⟨Nat.le_of_ble_eq_true rfl, Nat.le_of_ble_eq_true rfl⟩ ⟨Nat.le_of_ble_eq_true rfl, Nat.le_of_ble_eq_true rfl, Nat.le_of_ble_eq_true rfl, Nat.le_of_ble_eq_true rfl⟩ rfl (am_lv_ref (hp_mail _ _ _ hm hm80 (show k < m by omega)) am_lv_nil) (Nat.le_of_ble_eq_true rfl) dX5_checkListerMayDecide_9 [.int (zb (decide (T 28 k = 1 ∧ ¬ T 32 k = 0)))] rfl ?_
    refine am_ifeq hF 26 dX5_checkListerMayDecide_12 (by decide) (fun c2 => ?_) (fun c2 => ?_)
    · skip
      replace c2 := of_decide_eq_false (zb_0.mp c2)
      exact absurd h (fun h => h.elim (fun h => h c1) c2)
    · skip
      replace c2 := of_decide_eq_true (zb_p.mp c2)
      exact am_throwSW hF hX hG (is := 301) (text := "the mail is not held, or an appeal is open") am_nm (by decide +kernel) am_nm_fit lc_RX5_55 xz2 (by decide) xa2 xg2 dX5_checkListerMayDecide_15 dX5_checkListerMayDecide_18 dX5_checkListerMayDecide_19 dX5_checkListerMayDecide_22 dX5_checkListerMayDecide_25 ⟨Nat.le_of_ble_eq_true rfl, Nat.le_of_ble_eq_true rfl, Nat.le_of_ble_eq_true rfl, Nat.le_of_ble_eq_true rfl⟩
set_option maxRecDepth 100000 in
set_option maxHeartbeats 4000000 in
theorem c_findList {G : am_S} {T S : am_T} {o : Nat → Int64} {n : Nat} (hn : T 0 0 = nI n) (hn10 : n ≤ 10) {j : Nat} (hj : j < n) : am_D G yX5_findList (.code yX5_findList cX5_findList 2 (some (.object "MailPriory$MailList")) :: am_G) { frames := 0, cells := 0, slots := 0, locals := 0 } (hp T S o) [.ref 0, .int (nI j)] (hp T S o) (some (.ref (48 + j))) := by
  refine am_of (by decide +kernel) (Nat.le_of_ble_eq_true rfl) ?_
  intro C hse hret hname hF hO
  subst hse
  refine am_go hF sgX5_findList_0_840bf 1 [(0, .ref 0), (1, .int (nI j))] [.int (nI j)] sgX5_findList_0_840bfd rfl ?_
  refine am_iflt hF 12 dX5_findList_1 (by decide) (fun h9 => False.elim (nc_ge_f (show 0 ≤ j by omega) (by omega) (by omega) rfl rfl h9)) (fun _ => ?_)
  refine am_go hF sgX5_findList_4_45dfc 6 [(0, .ref 0), (1, .int (nI j))] [.ref 0, .int (nI j)] sgX5_findList_4_45dfcd rfl ?_
  refine am_getf hF (hp_main T S o) (T := TX5) (N := 9) rfl (inG 5 inG5) 3 (by decide) (List.mem_cons_of_mem _ lf_RX5_25) rfl (.int (T 0 0)) rfl dX5_findList_6 ?_
  refine am_top (nI n) hn ?_
  refine am_icmplt hF 23 dX5_findList_9 (by decide) (fun _ => ?_) (fun h9 => False.elim (absurd (nc_lt (show j < n by omega) (by omega) (by omega) rfl rfl) h9))
  refine am_go hF sgX5_findList_23_34db8 24 [(0, .ref 0), (1, .int (nI j))] [.ref 0] sgX5_findList_23_34db8d rfl ?_
  refine am_getf hF (hp_main T S o) (T := TX5) (N := 9) rfl (inG 5 inG5) 2 (by decide) (List.mem_cons_of_mem _ lf_RX5_21) rfl (.ref 3) rfl dX5_findList_24 ?_
  refine am_go hF sgX5_findList_27_840bf 28 [(0, .ref 0), (1, .int (nI j))] [.int (nI j), .ref 3] sgX5_findList_27_840bfd rfl ?_
  refine cv_lists hF hn hn10 j rfl (show j < n by omega) dX5_findList_28 ?_
  exact am_aret hF hO hret (Or.inl ⟨_, rfl⟩) (Or.inr ⟨_, rfl⟩) dX5_findList_29 ⟨rfl, rfl⟩
set_option maxRecDepth 100000 in
set_option maxHeartbeats 4000000 in
theorem c_findList_x {G : am_S} (hG : G.1.stackTraces = false) {T S : am_T} {o : Nat → Int64} {n : Nat} (hn : T 0 0 = nI n) (hn10 : n ≤ 10) {x : Int32} (hx : x < 0 ∨ nI n ≤ x) : am_XD G yX5_findList (.code yX5_findList cX5_findList 2 (some (.object "MailPriory$MailList")) :: am_G) { frames := 6, cells := 1, slots := 6, locals := 82 } (hp T S o) [.ref 0, .int x] am_E1 := by
  refine am_ofX (by decide +kernel) (Nat.le_of_ble_eq_true rfl) ?_
  intro C hse hret hname hF hX
  subst hse
  have hO := hX.1
  refine am_go hF sgX5_findList_0_840bf 1 [(0, .ref 0), (1, .int x)] [.int x] sgX5_findList_0_840bfd rfl ?_
  refine am_iflt hF 12 dX5_findList_1 (by decide) (fun c1 => ?_) (fun c1 => ?_)
  · skip
    exact am_throwSW hF hX hG (is := 286) (text := "no such list") am_nm (by decide +kernel) am_nm_fit lc_RX5_135 xz1 (by decide) xa1 xg1 dX5_findList_12 dX5_findList_15 dX5_findList_16 dX5_findList_19 dX5_findList_22 ⟨Nat.le_of_ble_eq_true rfl, Nat.le_of_ble_eq_true rfl, Nat.le_of_ble_eq_true rfl, Nat.le_of_ble_eq_true rfl⟩
  · skip
    refine am_go hF sgX5_findList_4_45dfc 6 [(0, .ref 0), (1, .int x)] [.ref 0, .int x] sgX5_findList_4_45dfcd rfl ?_
    refine am_getf hF (hp_main T S o) (T := TX5) (N := 9) rfl (inG 5 inG5) 3 (by decide) (List.mem_cons_of_mem _ lf_RX5_25) rfl (.int (T 0 0)) rfl dX5_findList_6 ?_
    refine am_top (nI n) hn ?_
    refine am_icmplt hF 23 dX5_findList_9 (by decide) (fun c2 => ?_) (fun c2 => ?_)
    · skip
      exact absurd hx (fun h => h.elim c1 (Int32.not_le.mpr c2))
    · skip
      exact am_throwSW hF hX hG (is := 286) (text := "no such list") am_nm (by decide +kernel) am_nm_fit lc_RX5_135 xz1 (by decide) xa1 xg1 dX5_findList_12 dX5_findList_15 dX5_findList_16 dX5_findList_19 dX5_findList_22 ⟨Nat.le_of_ble_eq_true rfl, Nat.le_of_ble_eq_true rfl, Nat.le_of_ble_eq_true rfl, Nat.le_of_ble_eq_true rfl⟩
set_option maxRecDepth 100000 in
set_option maxHeartbeats 4000000 in
theorem c_findMail {G : am_S} {T S : am_T} {o : Nat → Int64} {m : Nat} (hm : T 1 0 = nI m) (hm80 : m ≤ 80) {j : Nat} (hj : j < m) : am_D G yX5_findMail (.code yX5_findMail cX5_findMail 2 (some (.object "MailPriory$Mail")) :: am_G) { frames := 0, cells := 0, slots := 0, locals := 0 } (hp T S o) [.ref 0, .int (nI j)] (hp T S o) (some (.ref (64 + j))) := by
  refine am_of (by decide +kernel) (Nat.le_of_ble_eq_true rfl) ?_
  intro C hse hret hname hF hO
  subst hse
  refine am_go hF sgX5_findMail_0_840bf 1 [(0, .ref 0), (1, .int (nI j))] [.int (nI j)] sgX5_findMail_0_840bfd rfl ?_
  refine am_iflt hF 12 dX5_findMail_1 (by decide) (fun h9 => False.elim (nc_ge_f (show 0 ≤ j by omega) (by omega) (by omega) rfl rfl h9)) (fun _ => ?_)
  refine am_go hF sgX5_findMail_4_45dfc 6 [(0, .ref 0), (1, .int (nI j))] [.ref 0, .int (nI j)] sgX5_findMail_4_45dfcd rfl ?_
  refine am_getf hF (hp_main T S o) (T := TX5) (N := 9) rfl (inG 5 inG5) 5 (by decide) (List.mem_cons_of_mem _ lf_RX5_35) rfl (.int (T 1 0)) rfl dX5_findMail_6 ?_
  refine am_top (nI m) hm ?_
  refine am_icmplt hF 23 dX5_findMail_9 (by decide) (fun _ => ?_) (fun h9 => False.elim (absurd (nc_lt (show j < m by omega) (by omega) (by omega) rfl rfl) h9))
  refine am_go hF sgX5_findMail_23_34db8 24 [(0, .ref 0), (1, .int (nI j))] [.ref 0] sgX5_findMail_23_34db8d rfl ?_
  refine am_getf hF (hp_main T S o) (T := TX5) (N := 9) rfl (inG 5 inG5) 4 (by decide) (List.mem_cons_of_mem _ lf_RX5_31) rfl (.ref 4) rfl dX5_findMail_24 ?_
  refine am_go hF sgX5_findMail_27_840bf 28 [(0, .ref 0), (1, .int (nI j))] [.int (nI j), .ref 4] sgX5_findMail_27_840bfd rfl ?_
  refine cv_post hF hm hm80 j rfl (show j < m by omega) dX5_findMail_28 ?_
  exact am_aret hF hO hret (Or.inl ⟨_, rfl⟩) (Or.inr ⟨_, rfl⟩) dX5_findMail_29 ⟨rfl, rfl⟩
set_option maxRecDepth 100000 in
set_option maxHeartbeats 4000000 in
theorem c_findMail_x {G : am_S} (hG : G.1.stackTraces = false) {T S : am_T} {o : Nat → Int64} {m : Nat} (hm : T 1 0 = nI m) (hm80 : m ≤ 80) {x : Int32} (hx : x < 0 ∨ nI m ≤ x) : am_XD G yX5_findMail (.code yX5_findMail cX5_findMail 2 (some (.object "MailPriory$Mail")) :: am_G) { frames := 6, cells := 1, slots := 6, locals := 82 } (hp T S o) [.ref 0, .int x] am_E1 := by
  refine am_ofX (by decide +kernel) (Nat.le_of_ble_eq_true rfl) ?_
  intro C hse hret hname hF hX
  subst hse
  have hO := hX.1
  refine am_go hF sgX5_findMail_0_840bf 1 [(0, .ref 0), (1, .int x)] [.int x] sgX5_findMail_0_840bfd rfl ?_
  refine am_iflt hF 12 dX5_findMail_1 (by decide) (fun c1 => ?_) (fun c1 => ?_)
  · skip
    exact am_throwSW hF hX hG (is := 288) (text := "no such mail") am_nm (by decide +kernel) am_nm_fit lc_RX5_135 xz1 (by decide) xa1 xg1 dX5_findMail_12 dX5_findMail_15 dX5_findMail_16 dX5_findMail_19 dX5_findMail_22 ⟨Nat.le_of_ble_eq_true rfl, Nat.le_of_ble_eq_true rfl, Nat.le_of_ble_eq_true rfl, Nat.le_of_ble_eq_true rfl⟩
  · skip
    refine am_go hF sgX5_findMail_4_45dfc 6 [(0, .ref 0), (1, .int x)] [.ref 0, .int x] sgX5_findMail_4_45dfcd rfl ?_
    refine am_getf hF (hp_main T S o) (T := TX5) (N := 9) rfl (inG 5 inG5) 5 (by decide) (List.mem_cons_of_mem _ lf_RX5_35) rfl (.int (T 1 0)) rfl dX5_findMail_6 ?_
    refine am_top (nI m) hm ?_
    refine am_icmplt hF 23 dX5_findMail_9 (by decide) (fun c2 => ?_) (fun c2 => ?_)
    · skip
      exact absurd hx (fun h => h.elim c1 (Int32.not_le.mpr c2))
    · skip
      exact am_throwSW hF hX hG (is := 288) (text := "no such mail") am_nm (by decide +kernel) am_nm_fit lc_RX5_135 xz1 (by decide) xa1 xg1 dX5_findMail_12 dX5_findMail_15 dX5_findMail_16 dX5_findMail_19 dX5_findMail_22 ⟨Nat.le_of_ble_eq_true rfl, Nat.le_of_ble_eq_true rfl, Nat.le_of_ble_eq_true rfl, Nat.le_of_ble_eq_true rfl⟩
