/-! the law's low, within, reach, way -/
theorem am_pm1 (x : Int32) : x + -1 = x - 1 := (Int32.sub_eq_add_neg x 1).symm
def lLow (v : Int32) (m : Nat) : Int32 := (v &&& 2147483647) - (v &&& 2147483647) / nI m * nI m
theorem low_and (v : Int32) : ∃ a, a < 2 ^ 31 ∧ v &&& 2147483647 = nI a := by
  refine ⟨(v &&& 2147483647).toBitVec.toNat, ?_, ?_⟩
  · rw [Int32.toBitVec_and, BitVec.toNat_and]
    exact Nat.lt_of_le_of_lt Nat.and_le_right (by decide)
  · refine Int32.toBitVec_inj.mp ?_
    show _ = (Int32.ofNat _).toBitVec
    rw [Int32.toBitVec_ofNat', BitVec.ofNat_toNat, BitVec.setWidth_eq]
theorem low_ex (v : Int32) {m : Nat} (h1 : 1 ≤ m) (h2 : m < 2 ^ 31) : ∃ j, j < m ∧ lLow v m = nI j := by
  obtain ⟨a, ha, e⟩ := low_and v
  refine ⟨a % m, Nat.mod_lt _ (by omega), ?_⟩
  unfold lLow
  rw [e, pk_rem ha (by omega) h2]
theorem dL_low_1 : decode cL_low 1 = .ok (.ldc 9, 2) := by decide +kernel
theorem dL_low_5 : decode cL_low 5 = .ok (.irem, 1) := by decide +kernel
theorem dL_low_6 : decode cL_low 6 = .ok (.ireturn, 1) := by decide +kernel
theorem dL_reach_11 : decode cL_reach 11 = .ok (.invokestatic 10, 3) := by decide +kernel
theorem dL_reach_19 : decode cL_reach 19 = .ok (.if_icmp .ne 15, 3) := by decide +kernel
theorem dL_reach_31 : decode cL_reach 31 = .ok (.iaload, 1) := by decide +kernel
theorem dL_reach_41 : decode cL_reach 41 = .ok (.ireturn, 1) := by decide +kernel
theorem dL_reach_6 : decode cL_reach 6 = .ok (.if_icmp .ge 34, 3) := by decide +kernel
theorem dL_way_14 : decode cL_way 14 = .ok (.ifCond .lt 63, 3) := by decide +kernel
theorem dL_way_2 : decode cL_way 2 = .ok (.invokestatic 10, 3) := by decide +kernel
theorem dL_way_23 : decode cL_way 23 = .ok (.ifCond .eq 48, 3) := by decide +kernel
theorem dL_way_35 : decode cL_way 35 = .ok (.iaload, 1) := by decide +kernel
theorem dL_way_40 : decode cL_way 40 = .ok (.ifCond .ne 6, 3) := by decide +kernel
theorem dL_way_55 : decode cL_way 55 = .ok (.iaload, 1) := by decide +kernel
theorem dL_way_60 : decode cL_way 60 = .ok (.ifCond .ne 5, 3) := by decide +kernel
theorem dL_way_64 : decode cL_way 64 = .ok (.ireturn, 1) := by decide +kernel
theorem dL_way_79 : decode cL_way 79 = .ok (.ireturn, 1) := by decide +kernel
theorem dL_within_17 : decode cL_within 17 = .ok (.if_icmp .ge 31, 3) := by decide +kernel
theorem dL_within_27 : decode cL_within 27 = .ok (.if_icmp .ne 15, 3) := by decide +kernel
theorem dL_within_39 : decode cL_within 39 = .ok (.iaload, 1) := by decide +kernel
theorem dL_within_55 : decode cL_within 55 = .ok (.ireturn, 1) := by decide +kernel
theorem dL_within_8 : decode cL_within 8 = .ok (.if_icmp .ge 46, 3) := by decide +kernel
def sgL_low_0_18811 : List Instr := [.iload_n 0]
theorem sgL_low_0_18811d : am_dec cL_low 0 sgL_low_0_18811 = true := by decide +kernel
def sgL_low_3_bb283 : List Instr := [.iand, .iload_n 1]
theorem sgL_low_3_bb283d : am_dec cL_low 3 sgL_low_3_bb283 = true := by decide +kernel
def sgL_reach_0_24699 : List Instr := [.iconst 0, .istore_n 2, .iconst 0, .istore_n 3]
theorem sgL_reach_0_24699d : am_dec cL_reach 0 sgL_reach_0_24699 = true := by decide +kernel
def sgL_reach_14_c5016 : List Instr := [.iload_n 3, .ishr, .iconst 1, .iand, .iconst 1]
theorem sgL_reach_14_c5016d : am_dec cL_reach 14 sgL_reach_14_c5016 = true := by decide +kernel
def sgL_reach_22_7f58b : List Instr := [.iload_n 2, .aload_n 0, .bipush 8, .iload_n 3, .imul, .bipush 6, .iadd]
theorem sgL_reach_22_7f58bd : am_dec cL_reach 22 sgL_reach_22_7f58b = true := by decide +kernel
def sgL_reach_32_fbee0 : List Instr := [.ior, .istore_n 2, .iinc 3 1, .goto (-33)]
theorem sgL_reach_32_fbee0d : am_dec cL_reach 32 sgL_reach_32_fbee0 = true := by decide +kernel
def sgL_reach_34_6e20a : List Instr := [.iinc 3 1, .goto (-33)]
theorem sgL_reach_34_6e20ad : am_dec cL_reach 34 sgL_reach_34_6e20a = true := by decide +kernel
def sgL_reach_40_f8a59 : List Instr := [.iload_n 2]
theorem sgL_reach_40_f8a59d : am_dec cL_reach 40 sgL_reach_40_f8a59 = true := by decide +kernel
def sgL_reach_4_60082 : List Instr := [.iload_n 3, .iconst 4]
theorem sgL_reach_4_60082d : am_dec cL_reach 4 sgL_reach_4_60082 = true := by decide +kernel
def sgL_reach_9_8bcf7 : List Instr := [.aload_n 0, .iload_n 1]
theorem sgL_reach_9_8bcf7d : am_dec cL_reach 9 sgL_reach_9_8bcf7 = true := by decide +kernel
def sgL_way_0_8bcf7 : List Instr := [.aload_n 0, .iload_n 1]
theorem sgL_way_0_8bcf7d : am_dec cL_way 0 sgL_way_0_8bcf7 = true := by decide +kernel
def sgL_way_12_9df92 : List Instr := [.iload 5]
theorem sgL_way_12_9df92d : am_dec cL_way 12 sgL_way_12_9df92 = true := by decide +kernel
def sgL_way_17_e4f76 : List Instr := [.iload_n 3, .iload 5, .ishr, .iconst 1, .iand]
theorem sgL_way_17_e4f76d : am_dec cL_way 17 sgL_way_17_e4f76 = true := by decide +kernel
def sgL_way_26_c1d7e : List Instr := [.aload_n 0, .bipush 8, .iload 5, .imul, .bipush 6, .iadd]
theorem sgL_way_26_c1d7ed : am_dec cL_way 26 sgL_way_26_c1d7e = true := by decide +kernel
def sgL_way_36_3e56e : List Instr := [.iload_n 2, .ishr, .iconst 1, .iand]
theorem sgL_way_36_3e56ed : am_dec cL_way 36 sgL_way_36_3e56e = true := by decide +kernel
def sgL_way_43_cf095 : List Instr := [.goto 28, .iinc 5 (-1), .goto (-62)]
theorem sgL_way_43_cf095d : am_dec cL_way 43 sgL_way_43_cf095 = true := by decide +kernel
def sgL_way_46_9ba44 : List Instr := [.aload_n 0, .bipush 8, .iload 5, .imul, .bipush 7, .iadd]
theorem sgL_way_46_9ba44d : am_dec cL_way 46 sgL_way_46_9ba44 = true := by decide +kernel
def sgL_way_56_3e56e : List Instr := [.iload_n 2, .ishr, .iconst 1, .iand]
theorem sgL_way_56_3e56ed : am_dec cL_way 56 sgL_way_56_3e56e = true := by decide +kernel
def sgL_way_5_a379e : List Instr := [.istore_n 3, .iconst (-1), .istore 4, .iconst 3, .istore 5]
theorem sgL_way_5_a379ed : am_dec cL_way 5 sgL_way_5_a379e = true := by decide +kernel
def sgL_way_63_56c54 : List Instr := [.iconst 0]
theorem sgL_way_63_56c54d : am_dec cL_way 63 sgL_way_63_56c54 = true := by decide +kernel
def sgL_way_65_08efc : List Instr := [.iload 5, .iconst 1, .iadd, .istore 4, .iinc 5 (-1), .goto (-62)]
theorem sgL_way_65_08efcd : am_dec cL_way 65 sgL_way_65_08efc = true := by decide +kernel
def sgL_way_71_088c3 : List Instr := [.iinc 5 (-1), .goto (-62)]
theorem sgL_way_71_088c3d : am_dec cL_way 71 sgL_way_71_088c3 = true := by decide +kernel
def sgL_way_77_c6742 : List Instr := [.iload 4]
theorem sgL_way_77_c6742d : am_dec cL_way 77 sgL_way_77_c6742 = true := by decide +kernel
def sgL_within_0_432db : List Instr := [.iconst 1, .iload_n 1, .ishl, .istore_n 2, .iconst 0, .istore_n 3]
theorem sgL_within_0_432dbd : am_dec cL_within 0 sgL_within_0_432db = true := by decide +kernel
def sgL_within_11_b1161 : List Instr := [.iconst 0, .istore 4]
theorem sgL_within_11_b1161d : am_dec cL_within 11 sgL_within_11_b1161 = true := by decide +kernel
def sgL_within_14_a0e59 : List Instr := [.iload 4, .iconst 4]
theorem sgL_within_14_a0e59d : am_dec cL_within 14 sgL_within_14_a0e59 = true := by decide +kernel
def sgL_within_20_664b1 : List Instr := [.iload_n 2, .iload 4, .ishr, .iconst 1, .iand, .iconst 1]
theorem sgL_within_20_664b1d : am_dec cL_within 20 sgL_within_20_664b1 = true := by decide +kernel
def sgL_within_30_88a01 : List Instr := [.iload_n 2, .aload_n 0, .bipush 8, .iload 4, .imul, .iconst 5, .iadd]
theorem sgL_within_30_88a01d : am_dec cL_within 30 sgL_within_30_88a01 = true := by decide +kernel
def sgL_within_40_8089d : List Instr := [.ior, .istore_n 2, .iinc 4 1, .goto (-31)]
theorem sgL_within_40_8089dd : am_dec cL_within 40 sgL_within_40_8089d = true := by decide +kernel
def sgL_within_42_3aa81 : List Instr := [.iinc 4 1, .goto (-31)]
theorem sgL_within_42_3aa81d : am_dec cL_within 42 sgL_within_42_3aa81 = true := by decide +kernel
def sgL_within_48_2bab4 : List Instr := [.iinc 3 1, .goto (-45)]
theorem sgL_within_48_2bab4d : am_dec cL_within 48 sgL_within_48_2bab4 = true := by decide +kernel
def sgL_within_54_f8a59 : List Instr := [.iload_n 2]
theorem sgL_within_54_f8a59d : am_dec cL_within 54 sgL_within_54_f8a59 = true := by decide +kernel
def sgL_within_6_60082 : List Instr := [.iload_n 3, .iconst 4]
theorem sgL_within_6_60082d : am_dec cL_within 6 sgL_within_6_60082 = true := by decide +kernel
set_option maxRecDepth 100000 in
set_option maxHeartbeats 4000000 in
theorem c_low {G : am_S} {X : am_H} {v : Int32} {m : Nat} (h1 : 1 ≤ m) (h2 : m < 2 ^ 31) : am_D G yL_low (.code yL_low cL_low 2 (some .int) :: am_G) { frames := 0, cells := 0, slots := 0, locals := 0 } X [.int v, .int (nI m)] X (some (.int (lLow v m))) := by
  refine am_of (by decide +kernel) (Nat.le_of_ble_eq_true rfl) ?_
  intro C hse hret hname hF hO
  subst hse
  refine am_go hF sgL_low_0_18811 1 [(0, .int v), (1, .int (nI m))] [.int v] sgL_low_0_18811d rfl ?_
  refine am_ldc hF 2147483647 (List.mem_cons_of_mem _ lk_RL_9) dL_low_1 ?_
  refine am_go hF sgL_low_3_bb283 5 [(0, .int v), (1, .int (nI m))] [.int (nI m), .int (v &&& 2147483647)] sgL_low_3_bb283d rfl ?_
  refine am_irem hF (fun e => by have := (nI_eq (a := m) (b := 0) h2 (by decide)).mp e; omega) dL_low_5 ?_
  exact am_iret hF hO hret rfl dL_low_6 ⟨rfl, rfl⟩
set_option maxRecDepth 100000 in
set_option maxHeartbeats 4000000 in
theorem c_within {G : am_S} {T S : am_T} {o : Nat → Int64} {l : Nat} (hl : l < 4) : am_D G yL_within (.code yL_within cL_within 5 (some .int) :: am_G) { frames := 0, cells := 0, slots := 0, locals := 0 } (hp T S o) [.ref 500, .int (nI l)] (hp T S o) (some (.int (lWin S l))) := by
  refine am_of (by decide +kernel) (Nat.le_of_ble_eq_true rfl) ?_
  intro C hse hret hname hF hO
  subst hse
  refine am_go hF sgL_within_0_432db 6 [(3, .int 0), (2, .int (1 <<< ((nI l) &&& 31))), (0, .ref 500), (1, .int (nI l))] [] sgL_within_0_432dbd rfl ?_
  refine am_drop [2, 3, 1, 0] [(0, .ref 500), (1, .int (nI l)), (2, .int (1 <<< ((nI l) &&& 31))), (3, .int 0)] rfl ?_
  have lp6 : ∀ (zz j : Nat), j + zz = 4 → am_W C (hp T S o) 0 0 6 [(0, .ref 500), (1, .int (nI l)), (2, .int (itN (fun _ s => itN (lw1 S) s 4) ((1 : Int32) <<< (nI l &&& 31)) j)), (3, .int (nI j))] [] := by
    intro zz
    induction zz with
    | zero =>
      intro j hj
      have e9j : j = 4 := by omega
      refine am_go hF sgL_within_6_60082 8 [(0, .ref 500), (1, .int (nI l)), (2, .int (itN (fun _ s => itN (lw1 S) s 4) ((1 : Int32) <<< (nI l &&& 31)) j)), (3, .int (nI j))] [.int 4, .int (nI j)] sgL_within_6_60082d rfl ?_
      refine am_icmpge hF 54 dL_within_8 (by decide) (fun _ => ?_) (fun h9 => False.elim (absurd (nc_ge (show 4 ≤ j by omega) (by omega) (by omega) rfl rfl) h9))
      refine am_go hF sgL_within_54_f8a59 55 [(0, .ref 500), (1, .int (nI l)), (2, .int (itN (fun _ s => itN (lw1 S) s 4) ((1 : Int32) <<< (nI l &&& 31)) j)), (3, .int (nI j))] [.int (itN (fun _ s => itN (lw1 S) s 4) ((1 : Int32) <<< (nI l &&& 31)) j)] sgL_within_54_f8a59d rfl ?_
      exact am_iret hF hO hret rfl dL_within_55 ⟨rfl, by rw [e9j]; rfl⟩
    | succ zz ih6 =>
      intro j hj
      have l9j : j < 4 := by omega
      refine am_go hF sgL_within_6_60082 8 [(0, .ref 500), (1, .int (nI l)), (2, .int (itN (fun _ s => itN (lw1 S) s 4) ((1 : Int32) <<< (nI l &&& 31)) j)), (3, .int (nI j))] [.int 4, .int (nI j)] sgL_within_6_60082d rfl ?_
      refine am_icmpge hF 54 dL_within_8 (by decide) (fun h9 => False.elim (nc_lt_f (show j < 4 by omega) (by omega) (by omega) rfl rfl h9)) (fun _ => ?_)
      refine am_go hF sgL_within_11_b1161 14 [(4, .int 0), (0, .ref 500), (1, .int (nI l)), (2, .int (itN (fun _ s => itN (lw1 S) s 4) ((1 : Int32) <<< (nI l &&& 31)) j)), (3, .int (nI j))] [] sgL_within_11_b1161d rfl ?_
      refine am_drop [1, 2, 3, 4, 0] [(0, .ref 500), (1, .int (nI l)), (2, .int (itN (fun _ s => itN (lw1 S) s 4) ((1 : Int32) <<< (nI l &&& 31)) j)), (3, .int (nI j)), (4, .int 0)] rfl ?_
      have lp14 : ∀ (zz i : Nat), i + zz = 4 → am_W C (hp T S o) 0 0 14 [(0, .ref 500), (1, .int (nI l)), (2, .int (itN (lw1 S) (itN (fun _ s => itN (lw1 S) s 4) ((1 : Int32) <<< (nI l &&& 31)) j) i)), (3, .int (nI j)), (4, .int (nI i))] [] := by
        intro zz
        induction zz with
        | zero =>
          intro i hi
          have e9i : i = 4 := by omega
          refine am_go hF sgL_within_14_a0e59 17 [(0, .ref 500), (1, .int (nI l)), (2, .int (itN (lw1 S) (itN (fun _ s => itN (lw1 S) s 4) ((1 : Int32) <<< (nI l &&& 31)) j) i)), (3, .int (nI j)), (4, .int (nI i))] [.int 4, .int (nI i)] sgL_within_14_a0e59d rfl ?_
          refine am_icmpge hF 48 dL_within_17 (by decide) (fun _ => ?_) (fun h9 => False.elim (absurd (nc_ge (show 4 ≤ i by omega) (by omega) (by omega) rfl rfl) h9))
          refine am_go hF sgL_within_48_2bab4 6 [(3, .int ((nI j) + 1)), (0, .ref 500), (1, .int (nI l)), (2, .int (itN (lw1 S) (itN (fun _ s => itN (lw1 S) s 4) ((1 : Int32) <<< (nI l &&& 31)) j) i)), (4, .int (nI i))] [] sgL_within_48_2bab4d rfl ?_
          refine am_drop [1, 2, 3, 0] [(0, .ref 500), (1, .int (nI l)), (2, .int (itN (lw1 S) (itN (fun _ s => itN (lw1 S) s 4) ((1 : Int32) <<< (nI l &&& 31)) j) i)), (3, .int ((nI j) + 1))] rfl ?_
          refine am_eqL [(0, .ref 500), (1, .int (nI l)), (2, .int (itN (lw1 S) (itN (fun _ s => itN (lw1 S) s 4) ((1 : Int32) <<< (nI l &&& 31)) j) i)), (3, .int (nI (j + 1)))] (by first | rfl | (rw [nI_1]; done) | (simp only [nI_1]; done)) ?_
          refine am_eqL [(0, .ref 500), (1, .int (nI l)), (2, .int (itN (fun _ s => itN (lw1 S) s 4) ((1 : Int32) <<< (nI l &&& 31)) (j + 1))), (3, .int (nI (j + 1)))] (by rw [e9i]; rfl) ?_
          exact ih6 (j + 1) (by omega)
        | succ zz ih14 =>
          intro i hi
          have l9i : i < 4 := by omega
          refine am_go hF sgL_within_14_a0e59 17 [(0, .ref 500), (1, .int (nI l)), (2, .int (itN (lw1 S) (itN (fun _ s => itN (lw1 S) s 4) ((1 : Int32) <<< (nI l &&& 31)) j) i)), (3, .int (nI j)), (4, .int (nI i))] [.int 4, .int (nI i)] sgL_within_14_a0e59d rfl ?_
          refine am_icmpge hF 48 dL_within_17 (by decide) (fun h9 => False.elim (nc_lt_f (show i < 4 by omega) (by omega) (by omega) rfl rfl h9)) (fun _ => ?_)
          refine am_go hF sgL_within_20_664b1 27 [(0, .ref 500), (1, .int (nI l)), (2, .int (itN (lw1 S) (itN (fun _ s => itN (lw1 S) s 4) ((1 : Int32) <<< (nI l &&& 31)) j) i)), (3, .int (nI j)), (4, .int (nI i))] [.int 1, .int (((itN (lw1 S) (itN (fun _ s => itN (lw1 S) s 4) ((1 : Int32) <<< (nI l &&& 31)) j) i) >>> ((nI i) &&& 31)) &&& 1)] sgL_within_20_664b1d rfl ?_
          refine am_icmpne hF 42 dL_within_27 (by decide) (fun c1 => ?_) (fun c1 => ?_)
          · skip
            refine am_go hF sgL_within_42_3aa81 14 [(4, .int ((nI i) + 1)), (0, .ref 500), (1, .int (nI l)), (2, .int (itN (lw1 S) (itN (fun _ s => itN (lw1 S) s 4) ((1 : Int32) <<< (nI l &&& 31)) j) i)), (3, .int (nI j))] [] sgL_within_42_3aa81d rfl ?_
            refine am_drop [1, 2, 3, 4, 0] [(0, .ref 500), (1, .int (nI l)), (2, .int (itN (lw1 S) (itN (fun _ s => itN (lw1 S) s 4) ((1 : Int32) <<< (nI l &&& 31)) j) i)), (3, .int (nI j)), (4, .int ((nI i) + 1))] rfl ?_
            refine am_eqL [(0, .ref 500), (1, .int (nI l)), (2, .int (itN (lw1 S) (itN (fun _ s => itN (lw1 S) s 4) ((1 : Int32) <<< (nI l &&& 31)) j) i)), (3, .int (nI j)), (4, .int (nI (i + 1)))] (by first | rfl | (rw [nI_1]; done) | (simp only [nI_1]; done)) ?_
            refine am_eqL [(0, .ref 500), (1, .int (nI l)), (2, .int (itN (lw1 S) (itN (fun _ s => itN (lw1 S) s 4) ((1 : Int32) <<< (nI l &&& 31)) j) (i + 1))), (3, .int (nI j)), (4, .int (nI (i + 1)))] (by first | (rw [show itN (lw1 S) (itN (fun _ s => itN (lw1 S) s 4) ((1 : Int32) <<< (nI l &&& 31)) j) (i + 1) = itN (lw1 S) (itN (fun _ s => itN (lw1 S) s 4) ((1 : Int32) <<< (nI l &&& 31)) j) i ||| S 5 i from if_pos (Decidable.not_not.mp c1)]; done) | (rw [show itN (lw1 S) (itN (fun _ s => itN (lw1 S) s 4) ((1 : Int32) <<< (nI l &&& 31)) j) (i + 1) = itN (lw1 S) (itN (fun _ s => itN (lw1 S) s 4) ((1 : Int32) <<< (nI l &&& 31)) j) i ||| S 5 i from if_pos c1]; done) | (rw [show itN (lw1 S) (itN (fun _ s => itN (lw1 S) s 4) ((1 : Int32) <<< (nI l &&& 31)) j) (i + 1) = itN (lw1 S) (itN (fun _ s => itN (lw1 S) s 4) ((1 : Int32) <<< (nI l &&& 31)) j) i from if_neg c1]; done)) ?_
            exact ih14 (i + 1) (by omega)
          · skip
            refine am_go hF sgL_within_30_88a01 39 [(0, .ref 500), (1, .int (nI l)), (2, .int (itN (lw1 S) (itN (fun _ s => itN (lw1 S) s 4) ((1 : Int32) <<< (nI l &&& 31)) j) i)), (3, .int (nI j)), (4, .int (nI i))] [.int ((8 * (nI i)) + 5), .ref 500, .int (itN (lw1 S) (itN (fun _ s => itN (lw1 S) s 4) ((1 : Int32) <<< (nI l &&& 31)) j) i)] sgL_within_30_88a01d rfl ?_
            refine sv_iald hF 0 5 i 5 (by decide) (by decide) rfl (am_ad (am_mu rfl rfl) rfl) (show 8 * i + 5 < 32 by omega) (by decide) dL_within_39 ?_
            refine am_go hF sgL_within_40_8089d 14 [(4, .int ((nI i) + 1)), (2, .int ((itN (lw1 S) (itN (fun _ s => itN (lw1 S) s 4) ((1 : Int32) <<< (nI l &&& 31)) j) i) ||| (S 5 i))), (0, .ref 500), (1, .int (nI l)), (3, .int (nI j))] [] sgL_within_40_8089dd rfl ?_
            refine am_drop [2, 3, 1, 4, 0] [(0, .ref 500), (1, .int (nI l)), (2, .int ((itN (lw1 S) (itN (fun _ s => itN (lw1 S) s 4) ((1 : Int32) <<< (nI l &&& 31)) j) i) ||| (S 5 i))), (3, .int (nI j)), (4, .int ((nI i) + 1))] rfl ?_
            refine am_eqL [(0, .ref 500), (1, .int (nI l)), (2, .int ((itN (lw1 S) (itN (fun _ s => itN (lw1 S) s 4) ((1 : Int32) <<< (nI l &&& 31)) j) i) ||| (S 5 i))), (3, .int (nI j)), (4, .int (nI (i + 1)))] (by first | rfl | (rw [nI_1]; done) | (simp only [nI_1]; done)) ?_
            refine am_eqL [(0, .ref 500), (1, .int (nI l)), (2, .int (itN (lw1 S) (itN (fun _ s => itN (lw1 S) s 4) ((1 : Int32) <<< (nI l &&& 31)) j) (i + 1))), (3, .int (nI j)), (4, .int (nI (i + 1)))] (by first | (rw [show itN (lw1 S) (itN (fun _ s => itN (lw1 S) s 4) ((1 : Int32) <<< (nI l &&& 31)) j) (i + 1) = itN (lw1 S) (itN (fun _ s => itN (lw1 S) s 4) ((1 : Int32) <<< (nI l &&& 31)) j) i ||| S 5 i from if_pos (Decidable.not_not.mp c1)]; done) | (rw [show itN (lw1 S) (itN (fun _ s => itN (lw1 S) s 4) ((1 : Int32) <<< (nI l &&& 31)) j) (i + 1) = itN (lw1 S) (itN (fun _ s => itN (lw1 S) s 4) ((1 : Int32) <<< (nI l &&& 31)) j) i ||| S 5 i from if_pos c1]; done) | (rw [show itN (lw1 S) (itN (fun _ s => itN (lw1 S) s 4) ((1 : Int32) <<< (nI l &&& 31)) j) (i + 1) = itN (lw1 S) (itN (fun _ s => itN (lw1 S) s 4) ((1 : Int32) <<< (nI l &&& 31)) j) i from if_neg c1]; done)) ?_
            exact ih14 (i + 1) (by omega)
      exact lp14 (4) 0 (by omega)
  exact lp6 (4) 0 (by omega)
set_option maxRecDepth 100000 in
set_option maxHeartbeats 4000000 in
theorem c_reach {G : am_S} {T S : am_T} {o : Nat → Int64} {l : Nat} (hl : l < 4) : am_D G yL_reach (.code yL_reach cL_reach 4 (some .int) :: am_G) { frames := 1, cells := 0, slots := 0, locals := 24 } (hp T S o) [.ref 500, .int (nI l)] (hp T S o) (some (.int (lRe S l))) := by
  refine am_of (by decide +kernel) (Nat.le_of_ble_eq_true rfl) ?_
  intro C hse hret hname hF hO
  subst hse
  refine am_go hF sgL_reach_0_24699 4 [(3, .int 0), (2, .int 0), (0, .ref 500), (1, .int (nI l))] [] sgL_reach_0_24699d rfl ?_
  refine am_drop [2, 3, 1, 0] [(0, .ref 500), (1, .int (nI l)), (2, .int 0), (3, .int 0)] rfl ?_
  have lp4 : ∀ (zz j : Nat), j + zz = 4 → am_W C (hp T S o) 0 0 4 [(0, .ref 500), (1, .int (nI l)), (2, .int (itN (lre S (lWin S l)) 0 j)), (3, .int (nI j))] [] := by
    intro zz
    induction zz with
    | zero =>
      intro j hj
      have e9j : j = 4 := by omega
      refine am_go hF sgL_reach_4_60082 6 [(0, .ref 500), (1, .int (nI l)), (2, .int (itN (lre S (lWin S l)) 0 j)), (3, .int (nI j))] [.int 4, .int (nI j)] sgL_reach_4_60082d rfl ?_
      refine am_icmpge hF 40 dL_reach_6 (by decide) (fun _ => ?_) (fun h9 => False.elim (absurd (nc_ge (show 4 ≤ j by omega) (by omega) (by omega) rfl rfl) h9))
      refine am_go hF sgL_reach_40_f8a59 41 [(0, .ref 500), (1, .int (nI l)), (2, .int (itN (lre S (lWin S l)) 0 j)), (3, .int (nI j))] [.int (itN (lre S (lWin S l)) 0 j)] sgL_reach_40_f8a59d rfl ?_
      exact am_iret hF hO hret rfl dL_reach_41 ⟨rfl, by rw [e9j]; rfl⟩
    | succ zz ih4 =>
      intro j hj
      have l9j : j < 4 := by omega
      refine am_go hF sgL_reach_4_60082 6 [(0, .ref 500), (1, .int (nI l)), (2, .int (itN (lre S (lWin S l)) 0 j)), (3, .int (nI j))] [.int 4, .int (nI j)] sgL_reach_4_60082d rfl ?_
      refine am_icmpge hF 40 dL_reach_6 (by decide) (fun h9 => False.elim (nc_lt_f (show j < 4 by omega) (by omega) (by omega) rfl rfl h9)) (fun _ => ?_)
      refine am_go hF sgL_reach_9_8bcf7 11 [(0, .ref 500), (1, .int (nI l)), (2, .int (itN (lre S (lWin S l)) 0 j)), (3, .int (nI j))] [.int (nI l), .ref 500] sgL_reach_9_8bcf7d rfl ?_
      refine am_dS hF hO [.ref 500, .int (nI l)] [] (c_within hl) myL_within syL_within lm_RL_10 rfl 0 0 ⟨Nat.le_of_ble_eq_true rfl, Nat.le_of_ble_eq_true rfl⟩ ⟨Nat.le_of_ble_eq_true rfl, Nat.le_of_ble_eq_true rfl, Nat.le_of_ble_eq_true rfl, Nat.le_of_ble_eq_true rfl⟩ rfl (am_lv_ref (hp_a _ _ _ (f := 0) (by decide)) (am_lv_int (am_lv_int (am_lv_int am_lv_nil)))) (Nat.le_of_ble_eq_true rfl) dL_reach_11 [.int (lWin S l)] rfl ?_
      refine am_go hF sgL_reach_14_c5016 19 [(0, .ref 500), (1, .int (nI l)), (2, .int (itN (lre S (lWin S l)) 0 j)), (3, .int (nI j))] [.int 1, .int (((lWin S l) >>> ((nI j) &&& 31)) &&& 1)] sgL_reach_14_c5016d rfl ?_
      refine am_icmpne hF 34 dL_reach_19 (by decide) (fun c1 => ?_) (fun c1 => ?_)
      · skip
        refine am_go hF sgL_reach_34_6e20a 4 [(3, .int ((nI j) + 1)), (0, .ref 500), (1, .int (nI l)), (2, .int (itN (lre S (lWin S l)) 0 j))] [] sgL_reach_34_6e20ad rfl ?_
        refine am_drop [1, 2, 3, 0] [(0, .ref 500), (1, .int (nI l)), (2, .int (itN (lre S (lWin S l)) 0 j)), (3, .int ((nI j) + 1))] rfl ?_
        refine am_eqL [(0, .ref 500), (1, .int (nI l)), (2, .int (itN (lre S (lWin S l)) 0 j)), (3, .int (nI (j + 1)))] (by first | rfl | (rw [nI_1]; done) | (simp only [nI_1]; done)) ?_
        refine am_eqL [(0, .ref 500), (1, .int (nI l)), (2, .int (itN (lre S (lWin S l)) 0 (j + 1))), (3, .int (nI (j + 1)))] (by first | (rw [show itN (lre S (lWin S l)) 0 (j + 1) = itN (lre S (lWin S l)) 0 j ||| S 6 j from if_pos (Decidable.not_not.mp c1)]; done) | (rw [show itN (lre S (lWin S l)) 0 (j + 1) = itN (lre S (lWin S l)) 0 j ||| S 6 j from if_pos c1]; done) | (rw [show itN (lre S (lWin S l)) 0 (j + 1) = itN (lre S (lWin S l)) 0 j from if_neg c1]; done)) ?_
        exact ih4 (j + 1) (by omega)
      · skip
        refine am_go hF sgL_reach_22_7f58b 31 [(0, .ref 500), (1, .int (nI l)), (2, .int (itN (lre S (lWin S l)) 0 j)), (3, .int (nI j))] [.int ((8 * (nI j)) + 6), .ref 500, .int (itN (lre S (lWin S l)) 0 j)] sgL_reach_22_7f58bd rfl ?_
        refine sv_iald hF 0 6 j 6 (by decide) (by decide) rfl (am_ad (am_mu rfl rfl) rfl) (show 8 * j + 6 < 32 by omega) (by decide) dL_reach_31 ?_
        refine am_go hF sgL_reach_32_fbee0 4 [(3, .int ((nI j) + 1)), (2, .int ((itN (lre S (lWin S l)) 0 j) ||| (S 6 j))), (0, .ref 500), (1, .int (nI l))] [] sgL_reach_32_fbee0d rfl ?_
        refine am_drop [2, 3, 1, 0] [(0, .ref 500), (1, .int (nI l)), (2, .int ((itN (lre S (lWin S l)) 0 j) ||| (S 6 j))), (3, .int ((nI j) + 1))] rfl ?_
        refine am_eqL [(0, .ref 500), (1, .int (nI l)), (2, .int ((itN (lre S (lWin S l)) 0 j) ||| (S 6 j))), (3, .int (nI (j + 1)))] (by first | rfl | (rw [nI_1]; done) | (simp only [nI_1]; done)) ?_
        refine am_eqL [(0, .ref 500), (1, .int (nI l)), (2, .int (itN (lre S (lWin S l)) 0 (j + 1))), (3, .int (nI (j + 1)))] (by first | (rw [show itN (lre S (lWin S l)) 0 (j + 1) = itN (lre S (lWin S l)) 0 j ||| S 6 j from if_pos (Decidable.not_not.mp c1)]; done) | (rw [show itN (lre S (lWin S l)) 0 (j + 1) = itN (lre S (lWin S l)) 0 j ||| S 6 j from if_pos c1]; done) | (rw [show itN (lre S (lWin S l)) 0 (j + 1) = itN (lre S (lWin S l)) 0 j from if_neg c1]; done)) ?_
        exact ih4 (j + 1) (by omega)
  exact lp4 (4) 0 (by omega)
set_option maxRecDepth 100000 in
set_option maxHeartbeats 4000000 in
theorem c_way {G : am_S} {T S : am_T} {o : Nat → Int64} {l p : Nat} (hl : l < 4) (hp8 : p < 8) : am_D G yL_way (.code yL_way cL_way 6 (some .int) :: am_G) { frames := 1, cells := 0, slots := 0, locals := 24 } (hp T S o) [.ref 500, .int (nI l), .int (nI p)] (hp T S o) (some (.int (lWay S l p))) := by
  refine am_of (by decide +kernel) (Nat.le_of_ble_eq_true rfl) ?_
  intro C hse hret hname hF hO
  subst hse
  refine am_go hF sgL_way_0_8bcf7 2 [(0, .ref 500), (1, .int (nI l)), (2, .int (nI p))] [.int (nI l), .ref 500] sgL_way_0_8bcf7d rfl ?_
  refine am_dS hF hO [.ref 500, .int (nI l)] [] (c_within hl) myL_within syL_within lm_RL_10 rfl 0 0 ⟨Nat.le_of_ble_eq_true rfl, Nat.le_of_ble_eq_true rfl⟩ ⟨Nat.le_of_ble_eq_true rfl, Nat.le_of_ble_eq_true rfl, Nat.le_of_ble_eq_true rfl, Nat.le_of_ble_eq_true rfl⟩ rfl (am_lv_ref (hp_a _ _ _ (f := 0) (by decide)) (am_lv_int (am_lv_int am_lv_nil))) (Nat.le_of_ble_eq_true rfl) dL_way_2 [.int (lWin S l)] rfl ?_
  refine am_go hF sgL_way_5_a379e 12 [(5, .int 3), (4, .int (-1)), (3, .int (lWin S l)), (0, .ref 500), (1, .int (nI l)), (2, .int (nI p))] [] sgL_way_5_a379ed rfl ?_
  refine am_drop [3, 4, 5, 2, 1, 0] [(0, .ref 500), (1, .int (nI l)), (2, .int (nI p)), (3, .int (lWin S l)), (4, .int (-1)), (5, .int 3)] rfl ?_
  have lp12 : ∀ (r : Nat) (f : Int32), r ≤ 4 → lwy S (lWin S l) p r f = lWay S l p → am_W C (hp T S o) 0 0 12 [(0, .ref 500), (1, .int (nI l)), (2, .int (nI p)), (3, .int (lWin S l)), (4, .int f), (5, .int (nI r - 1))] [] := by
    intro r
    induction r with
    | zero =>
      intro f hr hf
      refine am_eqL [(0, .ref 500), (1, .int (nI l)), (2, .int (nI p)), (3, .int (lWin S l)), (4, .int f), (5, .int (-1))] rfl ?_
      refine am_go hF sgL_way_12_9df92 14 [(0, .ref 500), (1, .int (nI l)), (2, .int (nI p)), (3, .int (lWin S l)), (4, .int f), (5, .int (-1))] [.int (-1)] sgL_way_12_9df92d rfl ?_
      refine am_iflt hF 77 dL_way_14 (by decide) (fun _ => ?_) (fun h9 => False.elim (by revert h9; decide))
      refine am_go hF sgL_way_77_c6742 79 [(0, .ref 500), (1, .int (nI l)), (2, .int (nI p)), (3, .int (lWin S l)), (4, .int f), (5, .int (-1))] [.int f] sgL_way_77_c6742d rfl ?_
      exact am_iret hF hO hret rfl dL_way_79 ⟨rfl, by rw [← hf]; rfl⟩
    | succ r ih =>
      intro f hr hf
      refine am_eqL [(0, .ref 500), (1, .int (nI l)), (2, .int (nI p)), (3, .int (lWin S l)), (4, .int f), (5, .int (nI r))] (by rw [nI_pred]) ?_
      refine am_go hF sgL_way_12_9df92 14 [(0, .ref 500), (1, .int (nI l)), (2, .int (nI p)), (3, .int (lWin S l)), (4, .int f), (5, .int (nI r))] [.int (nI r)] sgL_way_12_9df92d rfl ?_
      refine am_iflt hF 77 dL_way_14 (by decide) (fun h9 => False.elim (nI_pos (by omega) h9)) (fun _ => ?_)
      refine am_go hF sgL_way_17_e4f76 23 [(0, .ref 500), (1, .int (nI l)), (2, .int (nI p)), (3, .int (lWin S l)), (4, .int f), (5, .int (nI r))] [.int (((lWin S l) >>> ((nI r) &&& 31)) &&& 1)] sgL_way_17_e4f76d rfl ?_
      refine am_ifeq hF 71 dL_way_23 (by decide) (fun c1 => ?_) (fun c1 => ?_)
      · skip
        refine am_go hF sgL_way_71_088c3 12 [(5, .int ((nI r) + (-1))), (0, .ref 500), (1, .int (nI l)), (2, .int (nI p)), (3, .int (lWin S l)), (4, .int f)] [] sgL_way_71_088c3d rfl ?_
        refine am_drop [1, 2, 3, 4, 5, 0] [(0, .ref 500), (1, .int (nI l)), (2, .int (nI p)), (3, .int (lWin S l)), (4, .int f), (5, .int ((nI r) + (-1)))] rfl ?_
        refine am_eqL [(0, .ref 500), (1, .int (nI l)), (2, .int (nI p)), (3, .int (lWin S l)), (4, .int f), (5, .int (nI r - 1))] (by rw [am_pm1]) ?_
        exact ih f (by omega) (by rw [← hf]; exact (if_pos c1).symm)
      · skip
        refine am_go hF sgL_way_26_c1d7e 35 [(0, .ref 500), (1, .int (nI l)), (2, .int (nI p)), (3, .int (lWin S l)), (4, .int f), (5, .int (nI r))] [.int ((8 * (nI r)) + 6), .ref 500] sgL_way_26_c1d7ed rfl ?_
        refine sv_iald hF 0 6 r 6 (by decide) (by decide) rfl (am_ad (am_mu rfl rfl) rfl) (show 8 * r + 6 < 32 by omega) (by decide) dL_way_35 ?_
        refine am_go hF sgL_way_36_3e56e 40 [(0, .ref 500), (1, .int (nI l)), (2, .int (nI p)), (3, .int (lWin S l)), (4, .int f), (5, .int (nI r))] [.int (((S 6 r) >>> ((nI p) &&& 31)) &&& 1)] sgL_way_36_3e56ed rfl ?_
        refine am_ifne hF 46 dL_way_40 (by decide) (fun c2 => ?_) (fun c2 => ?_)
        · skip
          refine am_go hF sgL_way_46_9ba44 55 [(0, .ref 500), (1, .int (nI l)), (2, .int (nI p)), (3, .int (lWin S l)), (4, .int f), (5, .int (nI r))] [.int ((8 * (nI r)) + 7), .ref 500] sgL_way_46_9ba44d rfl ?_
          refine sv_iald hF 0 7 r 7 (by decide) (by decide) rfl (am_ad (am_mu rfl rfl) rfl) (show 8 * r + 7 < 32 by omega) (by decide) dL_way_55 ?_
          refine am_go hF sgL_way_56_3e56e 60 [(0, .ref 500), (1, .int (nI l)), (2, .int (nI p)), (3, .int (lWin S l)), (4, .int f), (5, .int (nI r))] [.int (((S 7 r) >>> ((nI p) &&& 31)) &&& 1)] sgL_way_56_3e56ed rfl ?_
          refine am_ifne hF 65 dL_way_60 (by decide) (fun c3 => ?_) (fun c3 => ?_)
          · skip
            refine am_go hF sgL_way_65_08efc 12 [(5, .int ((nI r) + (-1))), (4, .int ((nI r) + 1)), (0, .ref 500), (1, .int (nI l)), (2, .int (nI p)), (3, .int (lWin S l))] [] sgL_way_65_08efcd rfl ?_
            refine am_drop [2, 3, 4, 5, 1, 0] [(0, .ref 500), (1, .int (nI l)), (2, .int (nI p)), (3, .int (lWin S l)), (4, .int ((nI r) + 1)), (5, .int ((nI r) + (-1)))] rfl ?_
            refine am_eqL [(0, .ref 500), (1, .int (nI l)), (2, .int (nI p)), (3, .int (lWin S l)), (4, .int ((nI r) + 1)), (5, .int (nI r - 1))] (by rw [am_pm1]) ?_
            exact ih (nI r + 1) (by omega) (by rw [← hf]; exact ((if_neg c1).trans ((if_neg c2).trans (if_neg c3))).symm)
          · skip
            refine am_go hF sgL_way_63_56c54 64 [(0, .ref 500), (1, .int (nI l)), (2, .int (nI p)), (3, .int (lWin S l)), (4, .int f), (5, .int (nI r))] [.int 0] sgL_way_63_56c54d rfl ?_
            exact am_iret hF hO hret rfl dL_way_64 ⟨rfl, by rw [← hf]; exact congrArg (fun x => some (Value.int x)) ((if_neg c1).trans ((if_neg c2).trans (if_pos c3))).symm⟩
        · skip
          refine am_go hF sgL_way_43_cf095 12 [(5, .int ((nI r) + (-1))), (0, .ref 500), (1, .int (nI l)), (2, .int (nI p)), (3, .int (lWin S l)), (4, .int f)] [] sgL_way_43_cf095d rfl ?_
          refine am_drop [1, 2, 3, 4, 5, 0] [(0, .ref 500), (1, .int (nI l)), (2, .int (nI p)), (3, .int (lWin S l)), (4, .int f), (5, .int ((nI r) + (-1)))] rfl ?_
          refine am_eqL [(0, .ref 500), (1, .int (nI l)), (2, .int (nI p)), (3, .int (lWin S l)), (4, .int f), (5, .int (nI r - 1))] (by rw [am_pm1]) ?_
          exact ih f (by omega) (by rw [← hf]; exact ((if_neg c1).trans (if_pos c2)).symm)
  exact lp12 4 (-1) (Nat.le_refl 4) rfl
