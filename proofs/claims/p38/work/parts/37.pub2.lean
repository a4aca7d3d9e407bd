/-! the class: what the law calls, 2 -/
theorem tEnd_f {T : am_T} {j g : Nat} (h35 : g ≠ 35 ∧ g ≠ 37) : tEnd T j g = T g := by
  unfold tEnd
  rw [itN_f (F := ted j) g (fun k S => ted_f h35.1), st1_f h35.2]
def sgX5_approve_10_6a431 : List Instr := [.aload_n 0, .aload_n 2]
theorem sgX5_approve_10_6a431d : am_dec cX5_approve 10 sgX5_approve_10_6a431 = true := by decide +kernel
theorem dX5_approve_12 : decode cX5_approve 12 = .ok (.invokevirtual 170, 3) := by decide +kernel
def sgX5_approve_15_34db8 : List Instr := [.aload_n 0]
theorem sgX5_approve_15_34db8d : am_dec cX5_approve 15 sgX5_approve_15_34db8 = true := by decide +kernel
theorem dX5_approve_16 : decode cX5_approve 16 = .ok (.invokevirtual 177, 3) := by decide +kernel
def sgX5_approve_19_9fb7d : List Instr := [.aload_n 2]
theorem sgX5_approve_19_9fb7dd : am_dec cX5_approve 19 sgX5_approve_19_9fb7d = true := by decide +kernel
theorem dX5_approve_20 : decode cX5_approve 20 = .ok (.getfield 180, 3) := by decide +kernel
theorem dX5_approve_23 : decode cX5_approve 23 = .ok (.ireturn, 1) := by decide +kernel
def sgX5_size_0_8bcf7 : List Instr := [.aload_n 0, .iload_n 1]
theorem sgX5_size_0_8bcf7d : am_dec cX5_size 0 sgX5_size_0_8bcf7 = true := by decide +kernel
theorem dX5_size_2 : decode cX5_size 2 = .ok (.invokevirtual 64, 3) := by decide +kernel
def sgX5_size_5_e92da : List Instr := [.pop, .iload_n 2, .iconst 0, .aload_n 0]
theorem sgX5_size_5_e92dad : am_dec cX5_size 5 sgX5_size_5_e92da = true := by decide +kernel
theorem dX5_size_9 : decode cX5_size 9 = .ok (.getfield 47, 3) := by decide +kernel
theorem dX5_size_12 : decode cX5_size 12 = .ok (.invokestatic 118, 3) := by decide +kernel
def sgX5_digest_0_8bcf7 : List Instr := [.aload_n 0, .iload_n 1]
theorem sgX5_digest_0_8bcf7d : am_dec cX5_digest 0 sgX5_digest_0_8bcf7 = true := by decide +kernel
theorem dX5_digest_2 : decode cX5_digest 2 = .ok (.invokevirtual 64, 3) := by decide +kernel
def sgX5_digest_5_e92da : List Instr := [.pop, .iload_n 2, .iconst 0, .aload_n 0]
theorem sgX5_digest_5_e92dad : am_dec cX5_digest 5 sgX5_digest_5_e92da = true := by decide +kernel
theorem dX5_digest_9 : decode cX5_digest 9 = .ok (.getfield 47, 3) := by decide +kernel
theorem dX5_digest_12 : decode cX5_digest 12 = .ok (.invokestatic 118, 3) := by decide +kernel
def sgX5_edition_0_8bcf7 : List Instr := [.aload_n 0, .iload_n 1]
theorem sgX5_edition_0_8bcf7d : am_dec cX5_edition 0 sgX5_edition_0_8bcf7 = true := by decide +kernel
theorem dX5_edition_2 : decode cX5_edition 2 = .ok (.invokevirtual 64, 3) := by decide +kernel
def sgX5_edition_5_e92da : List Instr := [.pop, .iload_n 2, .iconst 0, .aload_n 0]
theorem sgX5_edition_5_e92dad : am_dec cX5_edition 5 sgX5_edition_5_e92da = true := by decide +kernel
theorem dX5_edition_9 : decode cX5_edition 9 = .ok (.getfield 47, 3) := by decide +kernel
theorem dX5_edition_12 : decode cX5_edition 12 = .ok (.invokestatic 118, 3) := by decide +kernel
def sgX5_readers_0_8bcf7 : List Instr := [.aload_n 0, .iload_n 1]
theorem sgX5_readers_0_8bcf7d : am_dec cX5_readers 0 sgX5_readers_0_8bcf7 = true := by decide +kernel
theorem dX5_readers_2 : decode cX5_readers 2 = .ok (.invokevirtual 64, 3) := by decide +kernel
def sgX5_readers_5_e92da : List Instr := [.pop, .iload_n 2, .iconst 0, .aload_n 0]
theorem sgX5_readers_5_e92dad : am_dec cX5_readers 5 sgX5_readers_5_e92da = true := by decide +kernel
theorem dX5_readers_9 : decode cX5_readers 9 = .ok (.getfield 47, 3) := by decide +kernel
theorem dX5_readers_12 : decode cX5_readers 12 = .ok (.invokestatic 118, 3) := by decide +kernel
def sgX5_size_15_1e911 : List Instr := [.iconst 0, .istore_n 3, .iconst 0, .istore 4]
theorem sgX5_size_15_1e911d : am_dec cX5_size 15 sgX5_size_15_1e911 = true := by decide +kernel
def sgX5_size_20_49a24 : List Instr := [.iload 4, .aload_n 0]
theorem sgX5_size_20_49a24d : am_dec cX5_size 20 sgX5_size_20_49a24 = true := by decide +kernel
theorem dX5_size_23 : decode cX5_size 23 = .ok (.getfield 35, 3) := by decide +kernel
theorem dX5_size_26 : decode cX5_size 26 = .ok (.if_icmp .ge 27, 3) := by decide +kernel
def sgX5_size_53_13b50 : List Instr := [.iload_n 3]
theorem sgX5_size_53_13b50d : am_dec cX5_size 53 sgX5_size_53_13b50 = true := by decide +kernel
theorem dX5_size_54 : decode cX5_size 54 = .ok (.ireturn, 1) := by decide +kernel
def sgX5_size_29_34db8 : List Instr := [.aload_n 0]
theorem sgX5_size_29_34db8d : am_dec cX5_size 29 sgX5_size_29_34db8 = true := by decide +kernel
theorem dX5_size_30 : decode cX5_size 30 = .ok (.getfield 31, 3) := by decide +kernel
def sgX5_size_33_c6742 : List Instr := [.iload 4]
theorem sgX5_size_33_c6742d : am_dec cX5_size 33 sgX5_size_33_c6742 = true := by decide +kernel
theorem dX5_size_35 : decode cX5_size 35 = .ok (.aaload, 1) := by decide +kernel
def sgX5_size_36_5601b : List Instr := [.iload_n 1, .iload_n 2]
theorem sgX5_size_36_5601bd : am_dec cX5_size 36 sgX5_size_36_5601b = true := by decide +kernel
theorem dX5_size_38 : decode cX5_size 38 = .ok (.invokevirtual 257, 3) := by decide +kernel
theorem dX5_size_41 : decode cX5_size 41 = .ok (.ifCond .eq 6, 3) := by decide +kernel
def sgX5_size_47_c395e : List Instr := [.iinc 4 1, .goto (-30)]
theorem sgX5_size_47_c395ed : am_dec cX5_size 47 sgX5_size_47_c395e = true := by decide +kernel
def sgX5_size_44_16dbf : List Instr := [.iinc 3 1, .iinc 4 1, .goto (-30)]
theorem sgX5_size_44_16dbfd : am_dec cX5_size 44 sgX5_size_44_16dbf = true := by decide +kernel
def sgX5_digest_15_bc7fe : List Instr := [.iconst 0, .istore 4, .iconst 0, .istore 5]
theorem sgX5_digest_15_bc7fed : am_dec cX5_digest 15 sgX5_digest_15_bc7fe = true := by decide +kernel
def sgX5_digest_21_e57aa : List Instr := [.iload 5, .aload_n 0]
theorem sgX5_digest_21_e57aad : am_dec cX5_digest 21 sgX5_digest_21_e57aa = true := by decide +kernel
theorem dX5_digest_24 : decode cX5_digest 24 = .ok (.getfield 35, 3) := by decide +kernel
theorem dX5_digest_27 : decode cX5_digest 27 = .ok (.if_icmp .ge 36, 3) := by decide +kernel
def sgX5_digest_30_34db8 : List Instr := [.aload_n 0]
theorem sgX5_digest_30_34db8d : am_dec cX5_digest 30 sgX5_digest_30_34db8 = true := by decide +kernel
theorem dX5_digest_31 : decode cX5_digest 31 = .ok (.getfield 31, 3) := by decide +kernel
def sgX5_digest_34_9df92 : List Instr := [.iload 5]
theorem sgX5_digest_34_9df92d : am_dec cX5_digest 34 sgX5_digest_34_9df92 = true := by decide +kernel
theorem dX5_digest_36 : decode cX5_digest 36 = .ok (.aaload, 1) := by decide +kernel
def sgX5_digest_37_5601b : List Instr := [.iload_n 1, .iload_n 2]
theorem sgX5_digest_37_5601bd : am_dec cX5_digest 37 sgX5_digest_37_5601b = true := by decide +kernel
theorem dX5_digest_39 : decode cX5_digest 39 = .ok (.invokevirtual 257, 3) := by decide +kernel
theorem dX5_digest_42 : decode cX5_digest 42 = .ok (.ifCond .eq 15, 3) := by decide +kernel
def sgX5_digest_45_63e68 : List Instr := [.iload 4, .iload_n 3]
theorem sgX5_digest_45_63e68d : am_dec cX5_digest 45 sgX5_digest_45_63e68 = true := by decide +kernel
theorem dX5_digest_48 : decode cX5_digest 48 = .ok (.if_icmp .ne 6, 3) := by decide +kernel
def sgX5_digest_51_9df92 : List Instr := [.iload 5]
theorem sgX5_digest_51_9df92d : am_dec cX5_digest 51 sgX5_digest_51_9df92 = true := by decide +kernel
theorem dX5_digest_53 : decode cX5_digest 53 = .ok (.ireturn, 1) := by decide +kernel
def sgX5_digest_57_06a1d : List Instr := [.iinc 5 1, .goto (-39)]
theorem sgX5_digest_57_06a1dd : am_dec cX5_digest 57 sgX5_digest_57_06a1d = true := by decide +kernel
def sgX5_digest_54_e90b8 : List Instr := [.iinc 4 1, .iinc 5 1, .goto (-39)]
theorem sgX5_digest_54_e90b8d : am_dec cX5_digest 54 sgX5_digest_54_e90b8 = true := by decide +kernel
def sgX5_edition_15_78e74 : List Instr := [.aload_n 0, .iload_n 2]
theorem sgX5_edition_15_78e74d : am_dec cX5_edition 15 sgX5_edition_15_78e74 = true := by decide +kernel
theorem dX5_edition_17 : decode cX5_edition 17 = .ok (.invokevirtual 265, 3) := by decide +kernel
def sgX5_edition_20_c6008 : List Instr := [.astore_n 3, .aload_n 3]
theorem sgX5_edition_20_c6008d : am_dec cX5_edition 20 sgX5_edition_20_c6008 = true := by decide +kernel
theorem dX5_edition_22 : decode cX5_edition 22 = .ok (.ifnull 11, 3) := by decide +kernel
def sgX5_edition_25_30098 : List Instr := [.aload_n 3, .iload_n 1]
theorem sgX5_edition_25_30098d : am_dec cX5_edition 25 sgX5_edition_25_30098 = true := by decide +kernel
theorem dX5_edition_27 : decode cX5_edition 27 = .ok (.invokevirtual 269, 3) := by decide +kernel
theorem dX5_edition_30 : decode cX5_edition 30 = .ok (.ifCond .ne 7, 3) := by decide +kernel
def sgX5_edition_37_67016 : List Instr := [.aload_n 3]
theorem sgX5_edition_37_67016d : am_dec cX5_edition 37 sgX5_edition_37_67016 = true := by decide +kernel
theorem dX5_edition_38 : decode cX5_edition 38 = .ok (.getfield 272, 3) := by decide +kernel
def sgX5_edition_41_840bf : List Instr := [.iload_n 1]
theorem sgX5_edition_41_840bfd : am_dec cX5_edition 41 sgX5_edition_41_840bf = true := by decide +kernel
theorem dX5_edition_42 : decode cX5_edition 42 = .ok (.iaload, 1) := by decide +kernel
theorem dX5_edition_43 : decode cX5_edition 43 = .ok (.ireturn, 1) := by decide +kernel
def sgX5_edition_33_a3779 : List Instr := [.iconst (-1), .goto 9]
theorem sgX5_edition_33_a3779d : am_dec cX5_edition 33 sgX5_edition_33_a3779 = true := by decide +kernel
theorem dX5_edition_20 : decode cX5_edition 20 = .ok (.astore_n 3, 1) := by decide +kernel
theorem dX5_edition_21 : decode cX5_edition 21 = .ok (.aload_n 3, 1) := by decide +kernel
def sgX5_readers_15_78e74 : List Instr := [.aload_n 0, .iload_n 2]
theorem sgX5_readers_15_78e74d : am_dec cX5_readers 15 sgX5_readers_15_78e74 = true := by decide +kernel
theorem dX5_readers_17 : decode cX5_readers 17 = .ok (.invokevirtual 265, 3) := by decide +kernel
def sgX5_readers_20_c6008 : List Instr := [.astore_n 3, .aload_n 3]
theorem sgX5_readers_20_c6008d : am_dec cX5_readers 20 sgX5_readers_20_c6008 = true := by decide +kernel
theorem dX5_readers_22 : decode cX5_readers 22 = .ok (.ifnonnull 7, 3) := by decide +kernel
def sgX5_readers_29_67016 : List Instr := [.aload_n 3]
theorem sgX5_readers_29_67016d : am_dec cX5_readers 29 sgX5_readers_29_67016 = true := by decide +kernel
theorem dX5_readers_30 : decode cX5_readers 30 = .ok (.getfield 275, 3) := by decide +kernel
def sgX5_readers_33_840bf : List Instr := [.iload_n 1]
theorem sgX5_readers_33_840bfd : am_dec cX5_readers 33 sgX5_readers_33_840bf = true := by decide +kernel
theorem dX5_readers_34 : decode cX5_readers 34 = .ok (.iaload, 1) := by decide +kernel
theorem dX5_readers_35 : decode cX5_readers 35 = .ok (.ireturn, 1) := by decide +kernel
theorem dX5_readers_20 : decode cX5_readers 20 = .ok (.astore_n 3, 1) := by decide +kernel
theorem dX5_readers_21 : decode cX5_readers 21 = .ok (.aload_n 3, 1) := by decide +kernel
def sgX5_readers_25_077ad : List Instr := [.iconst 0, .goto 9]
theorem sgX5_readers_25_077add : am_dec cX5_readers 25 sgX5_readers_25_077ad = true := by decide +kernel
def sgX5_pass_0_ccce1 : List Instr := [.iload_n 1, .iconst 1, .bipush 50]
theorem sgX5_pass_0_ccce1d : am_dec cX5_pass 0 sgX5_pass_0_ccce1 = true := by decide +kernel
theorem dX5_pass_4 : decode cX5_pass 4 = .ok (.invokestatic 118, 3) := by decide +kernel
def sgX5_pass_7_34db8 : List Instr := [.aload_n 0]
theorem sgX5_pass_7_34db8d : am_dec cX5_pass 7 sgX5_pass_7_34db8 = true := by decide +kernel
theorem dX5_pass_8 : decode cX5_pass 8 = .ok (.getfield 47, 3) := by decide +kernel
def sgX5_pass_11_ac928 : List Instr := [.iload_n 1, .iadd, .sipush 400]
theorem sgX5_pass_11_ac928d : am_dec cX5_pass 11 sgX5_pass_11_ac928 = true := by decide +kernel
theorem dX5_pass_16 : decode cX5_pass 16 = .ok (.if_icmp .le 14, 3) := by decide +kernel
theorem dX5_pass_19 : decode cX5_pass 19 = .ok (.new 55, 3) := by decide +kernel
theorem dX5_pass_22 : decode cX5_pass 22 = .ok (.dup, 1) := by decide +kernel
theorem dX5_pass_23 : decode cX5_pass 23 = .ok (.ldc_w 278, 3) := by decide +kernel
theorem dX5_pass_26 : decode cX5_pass 26 = .ok (.invokespecial 59, 3) := by decide +kernel
theorem dX5_pass_29 : decode cX5_pass 29 = .ok (.athrow, 1) := by decide +kernel
def sgX5_pass_30_c81f7 : List Instr := [.aload_n 0, .aload_n 0]
theorem sgX5_pass_30_c81f7d : am_dec cX5_pass 30 sgX5_pass_30_c81f7 = true := by decide +kernel
theorem dX5_pass_32 : decode cX5_pass 32 = .ok (.getfield 47, 3) := by decide +kernel
theorem dX5_pass_35 : decode cX5_pass 35 = .ok (.invokevirtual 265, 3) := by decide +kernel
def sgX5_pass_38_b4dfd : List Instr := [.astore_n 2, .aload_n 2]
theorem sgX5_pass_38_b4dfdd : am_dec cX5_pass 38 sgX5_pass_38_b4dfd = true := by decide +kernel
theorem dX5_pass_40 : decode cX5_pass 40 = .ok (.ifnull 7, 3) := by decide +kernel
def sgX5_pass_43_9fb7d : List Instr := [.aload_n 2]
theorem sgX5_pass_43_9fb7dd : am_dec cX5_pass 43 sgX5_pass_43_9fb7d = true := by decide +kernel
theorem dX5_pass_44 : decode cX5_pass 44 = .ok (.invokevirtual 280, 3) := by decide +kernel
def sgX5_pass_47_da752 : List Instr := [.aload_n 0, .dup]
theorem sgX5_pass_47_da752d : am_dec cX5_pass 47 sgX5_pass_47_da752 = true := by decide +kernel
theorem dX5_pass_49 : decode cX5_pass 49 = .ok (.getfield 47, 3) := by decide +kernel
def sgX5_pass_52_94ee7 : List Instr := [.iload_n 1, .iadd]
theorem sgX5_pass_52_94ee7d : am_dec cX5_pass 52 sgX5_pass_52_94ee7 = true := by decide +kernel
theorem dX5_pass_54 : decode cX5_pass 54 = .ok (.putfield 47, 3) := by decide +kernel
def sgX5_pass_57_34db8 : List Instr := [.aload_n 0]
theorem sgX5_pass_57_34db8d : am_dec cX5_pass 57 sgX5_pass_57_34db8 = true := by decide +kernel
theorem dX5_pass_58 : decode cX5_pass 58 = .ok (.invokevirtual 283, 3) := by decide +kernel
theorem dX5_pass_61 : decode cX5_pass 61 = .ok (.ireturn, 1) := by decide +kernel
theorem dX5_pass_38 : decode cX5_pass 38 = .ok (.astore_n 2, 1) := by decide +kernel
theorem dX5_pass_39 : decode cX5_pass 39 = .ok (.aload_n 2, 1) := by decide +kernel
set_option maxRecDepth 100000 in
set_option maxHeartbeats 4000000 in
theorem c_p_approve_n {G : am_S} {T S : am_T} {o : Nat → Int64} {n m v : Nat} (hs : tSafe T n m v) {k : Nat} (hk : k < m) (h25 : T 25 k = 1) (ho : ¬ (T 28 k = 1 ∧ ¬ T 32 k = 0)) : am_D G yX5_approve (.code yX5_approve cX5_approve 3 (some .int) :: am_G) { frames := 5, cells := 0, slots := 0, locals := 113 } (hp T S o) [.ref 0, .int (nI k)] (hp (tSettle (tDel T n k) v) S o) (some (.int ((tSettle (tDel T n k) v) 26 k))) := by
  refine am_of (by decide +kernel) (Nat.le_of_ble_eq_true rfl) ?_
  intro C hse hret hname hF hO
  subst hse
  have hs9 := hs
  obtain ⟨hn, hn10, hm, hm80, hv, hv80, hbx, hmm⟩ := hs
  have hs8 := tDel_safe (k := k) hs9
  refine am_go hF sgX5_approve_0_8bcf7 2 [(0, .ref 0), (1, .int (nI k))] [.int (nI k), .ref 0] sgX5_approve_0_8bcf7d rfl ?_
  refine am_dV hF hO [.int (nI k)] [] (c_findMail (T := T) hm hm80 (show k < m by omega)) myX5_findMail vyX5_findMail lm_RX5_150 (hp_main _ _ _) rfl rfl 0 0 ⟨Nat.le_of_ble_eq_true rfl, Nat.le_of_ble_eq_true rfl⟩ ⟨Nat.le_of_ble_eq_true rfl, Nat.le_of_ble_eq_true rfl, Nat.le_of_ble_eq_true rfl, Nat.le_of_ble_eq_true rfl⟩ rfl (am_lv_ref (hp_main _ _ _) (am_lv_int am_lv_nil)) (Nat.le_of_ble_eq_true rfl) dX5_approve_2 [.ref (64 + k)] rfl ?_
  refine am_go hF sgX5_approve_5_b4dfd 7 [(2, .ref (64 + k)), (0, .ref 0), (1, .int (nI k))] [.ref (64 + k)] sgX5_approve_5_b4dfdd rfl ?_
  refine am_dS hF hO [.ref (64 + k)] [] (c_checkLister (T := T) hm hm80 (show k < m by omega) h25 ho) myX5_checkListerMayDecide syX5_checkListerMayDecide lm_RX5_174 rfl 0 0 ⟨Nat.le_of_ble_eq_true rfl, Nat.le_of_ble_eq_true rfl⟩ ⟨Nat.le_of_ble_eq_true rfl, Nat.le_of_ble_eq_true rfl, Nat.le_of_ble_eq_true rfl, Nat.le_of_ble_eq_true rfl⟩ rfl (am_lv_ref (hp_mail _ _ _ hm hm80 (show k < m by omega)) (am_lv_ref (hp_main _ _ _) (am_lv_int am_lv_nil))) (Nat.le_of_ble_eq_true rfl) dX5_approve_7 [] rfl ?_
  refine am_go hF sgX5_approve_10_6a431 12 [(2, .ref (64 + k)), (0, .ref 0), (1, .int (nI k))] [.ref (64 + k), .ref 0] sgX5_approve_10_6a431d rfl ?_
  refine am_dV hF hO [.ref (64 + k)] [] (c_deliver (T := T) hs9 (show k < m by omega)) myX5_deliver vyX5_deliver lm_RX5_170 (hp_main _ _ _) rfl rfl 0 0 ⟨Nat.le_of_ble_eq_true rfl, Nat.le_of_ble_eq_true rfl⟩ ⟨Nat.le_of_ble_eq_true rfl, Nat.le_of_ble_eq_true rfl, Nat.le_of_ble_eq_true rfl, Nat.le_of_ble_eq_true rfl⟩ rfl (am_lv_ref (hp_mail _ _ _ hm hm80 (show k < m by omega)) (am_lv_ref (hp_main _ _ _) (am_lv_int am_lv_nil))) (Nat.le_of_ble_eq_true rfl) dX5_approve_12 [] rfl ?_
  refine am_go hF sgX5_approve_15_34db8 16 [(2, .ref (64 + k)), (0, .ref 0), (1, .int (nI k))] [.ref 0] sgX5_approve_15_34db8d rfl ?_
  refine am_dV hF hO [] [] (c_settle (T := tDel T n k) hs8.2.2.2.2.1 hv80) myX5_settleEditions vyX5_settleEditions lm_RX5_177 (hp_main _ _ _) rfl rfl 0 0 ⟨Nat.le_of_ble_eq_true rfl, Nat.le_of_ble_eq_true rfl⟩ ⟨Nat.le_of_ble_eq_true rfl, Nat.le_of_ble_eq_true rfl, Nat.le_of_ble_eq_true rfl, Nat.le_of_ble_eq_true rfl⟩ rfl (am_lv_ref (hp_mail _ _ _ hs8.2.2.1 hm80 (show k < m by omega)) (am_lv_ref (hp_main _ _ _) (am_lv_int am_lv_nil))) (Nat.le_of_ble_eq_true rfl) dX5_approve_16 [] rfl ?_
  obtain ⟨T8, hT8⟩ : ∃ z, z = (tSettle (tDel T n k) v) := ⟨_, rfl⟩
  refine am_eqX (hp T8 S o) (by rw [hT8]) ?_
  have hm8 : T8 1 0 = nI m := by rw [hT8, show tSettle (tDel T n k) v 1 = _ from itN_f (F := tss) 1 (fun k S => tSet_f (by decide) (by decide)) _ v]; exact hs8.2.2.1
  refine am_go hF sgX5_approve_19_9fb7d 20 [(2, .ref (64 + k)), (0, .ref 0), (1, .int (nI k))] [.ref (64 + k)] sgX5_approve_19_9fb7dd rfl ?_
  refine am_getf hF (hp_mail T8 S o hm8 hm80 (show k < m by omega)) (T := TX1) (N := 11) rfl (inG 1 inG1) 8 (by decide) (List.mem_cons_of_mem _ lf_RX5_180) rfl (.int (T8 26 k)) rfl dX5_approve_20 ?_
  exact am_iret hF hO hret rfl dX5_approve_23 ⟨by rw [hT8], by rw [hT8]⟩
set_option maxRecDepth 100000 in
set_option maxHeartbeats 4000000 in
theorem c_p_read_n1 {G : am_S} {T S : am_T} {o : Nat → Int64} {p : Nat} (hp9 : p < 16) {b : Nat} (hb : T 8 p = nI (b + 1)) (hb10 : b < 10) : am_D G yX5_read (.code yX5_read cX5_read 2 (some .int) :: am_G) { frames := 2, cells := 0, slots := 0, locals := 47 } (hp T S o) [.ref 0, .int (nI p)] (hp (tSh (st1 T 8 p ((nI (b + 1)) - 1)) p b) S o) (some (.int (T 9 (10 * p + 0)))) := by
  refine am_of (by decide +kernel) (Nat.le_of_ble_eq_true rfl) ?_
  intro C hse hret hname hF hO
  subst hse
  refine am_go hF sgX5_read_0_840bf 1 [(0, .ref 0), (1, .int (nI p))] [.int (nI p)] sgX5_read_0_840bfd rfl ?_
  refine am_dS hF hO [.int (nI p)] [] (c_checkPerson (show p < 16 by omega)) myX5_checkPerson syX5_checkPerson lm_RX5_51 rfl 0 0 ⟨Nat.le_of_ble_eq_true rfl, Nat.le_of_ble_eq_true rfl⟩ ⟨Nat.le_of_ble_eq_true rfl, Nat.le_of_ble_eq_true rfl, Nat.le_of_ble_eq_true rfl, Nat.le_of_ble_eq_true rfl⟩ rfl (am_lv_ref (hp_main _ _ _) (am_lv_int am_lv_nil)) (Nat.le_of_ble_eq_true rfl) dX5_read_1 [] rfl ?_
  refine am_go hF sgX5_read_4_34db8 5 [(0, .ref 0), (1, .int (nI p))] [.ref 0] sgX5_read_4_34db8d rfl ?_
  refine am_getf hF (hp_main T S o) (T := TX5) (N := 9) rfl (inG 5 inG5) 0 (by decide) (List.mem_cons_of_mem _ lf_RX5_11) rfl (.ref 1) rfl dX5_read_5 ?_
  refine am_go hF sgX5_read_8_840bf 9 [(0, .ref 0), (1, .int (nI p))] [.int (nI p), .ref 1] sgX5_read_8_840bfd rfl ?_
  refine cv_persons hF p rfl (show p < 16 by omega) dX5_read_9 ?_
  refine am_dV hF hO [] [] (c_takeFirst_1 hp9 hb hb10) myX3_takeFirst vyX3_takeFirst lm_RX5_254 (hp_person _ _ _ (show p < 16 by omega)) rfl rfl 0 0 ⟨Nat.le_of_ble_eq_true rfl, Nat.le_of_ble_eq_true rfl⟩ ⟨Nat.le_of_ble_eq_true rfl, Nat.le_of_ble_eq_true rfl, Nat.le_of_ble_eq_true rfl, Nat.le_of_ble_eq_true rfl⟩ rfl (am_lv_ref (hp_main _ _ _) (am_lv_int am_lv_nil)) (Nat.le_of_ble_eq_true rfl) dX5_read_10 [.int (T 9 (10 * p + 0))] rfl ?_
  exact am_iret hF hO hret rfl dX5_read_13 ⟨rfl, rfl⟩
set_option maxRecDepth 100000 in
set_option maxHeartbeats 4000000 in
theorem c_p_size_1 {G : am_S} (hG : G.1.stackTraces = false) {T S : am_T} {o : Nat → Int64} {n : Nat} (hn : T 0 0 = nI n) (hn10 : n ≤ 10) {x : Int32} (hx : x < 0 ∨ nI n ≤ x) {y : Int32} : am_XD G yX5_size (.code yX5_size cX5_size 5 (some .int) :: am_G) { frames := 8, cells := 1, slots := 6, locals := 135 } (hp T S o) [.ref 0, .int x, .int y] am_E1 := by
  refine am_ofX (by decide +kernel) (Nat.le_of_ble_eq_true rfl) ?_
  intro C hse hret hname hF hX
  subst hse
  have hO := hX.1
  refine am_go hF sgX5_size_0_8bcf7 2 [(0, .ref 0), (1, .int x), (2, .int y)] [.int x, .ref 0] sgX5_size_0_8bcf7d rfl ?_
  exact am_xV hF hX [.int x] [] (c_findList_x hG hn hn10 hx) myX5_findList vyX5_findList lm_RX5_64 (hp_main _ _ _) rfl rfl ⟨Nat.le_of_ble_eq_true rfl, Nat.le_of_ble_eq_true rfl, Nat.le_of_ble_eq_true rfl, Nat.le_of_ble_eq_true rfl⟩ rfl (Nat.le_of_ble_eq_true rfl) dX5_size_2
set_option maxRecDepth 100000 in
set_option maxHeartbeats 4000000 in
theorem c_p_size_2 {G : am_S} (hG : G.1.stackTraces = false) {T S : am_T} {o : Nat → Int64} {n : Nat} (hn : T 0 0 = nI n) (hn10 : n ≤ 10) {t : Nat} (ht : T 3 0 = nI t) (ht4 : t ≤ 400) {l : Nat} (hl : l < n) {y : Int32} (hy : y < 0 ∨ nI t < y) : am_XD G yX5_size (.code yX5_size cX5_size 5 (some .int) :: am_G) { frames := 8, cells := 1, slots := 6, locals := 135 } (hp T S o) [.ref 0, .int (nI l), .int y] am_E3 := by
  refine am_ofX (by decide +kernel) (Nat.le_of_ble_eq_true rfl) ?_
  intro C hse hret hname hF hX
  subst hse
  have hO := hX.1
  refine am_go hF sgX5_size_0_8bcf7 2 [(0, .ref 0), (1, .int (nI l)), (2, .int y)] [.int (nI l), .ref 0] sgX5_size_0_8bcf7d rfl ?_
  refine am_dV hF hO [.int (nI l)] [] (c_findList (T := T) hn hn10 (show l < n by omega)) myX5_findList vyX5_findList lm_RX5_64 (hp_main _ _ _) rfl rfl 0 0 ⟨Nat.le_of_ble_eq_true rfl, Nat.le_of_ble_eq_true rfl⟩ ⟨Nat.le_of_ble_eq_true rfl, Nat.le_of_ble_eq_true rfl, Nat.le_of_ble_eq_true rfl, Nat.le_of_ble_eq_true rfl⟩ rfl (am_lv_ref (hp_main _ _ _) (am_lv_int (am_lv_int am_lv_nil))) (Nat.le_of_ble_eq_true rfl) dX5_size_2 [.ref (48 + l)] rfl ?_
  refine am_go hF sgX5_size_5_e92da 9 [(0, .ref 0), (1, .int (nI l)), (2, .int y)] [.ref 0, .int 0, .int y] sgX5_size_5_e92dad rfl ?_
  refine am_getf hF (hp_main T S o) (T := TX5) (N := 9) rfl (inG 5 inG5) 8 (by decide) (List.mem_cons_of_mem _ lf_RX5_47) rfl (.int (T 3 0)) rfl dX5_size_9 ?_
  refine am_top (nI t) ht ?_
  exact am_xS hF hX [.int y, .int 0, .int (nI t)] [] (c_checkRange_x hG hy) myX5_checkRange syX5_checkRange lm_RX5_118 rfl ⟨Nat.le_of_ble_eq_true rfl, Nat.le_of_ble_eq_true rfl, Nat.le_of_ble_eq_true rfl, Nat.le_of_ble_eq_true rfl⟩ rfl (Nat.le_of_ble_eq_true rfl) dX5_size_12
set_option maxRecDepth 100000 in
set_option maxHeartbeats 4000000 in
theorem c_p_digest_1 {G : am_S} (hG : G.1.stackTraces = false) {T S : am_T} {o : Nat → Int64} {n : Nat} (hn : T 0 0 = nI n) (hn10 : n ≤ 10) {x : Int32} (hx : x < 0 ∨ nI n ≤ x) {y : Int32} {z : Int32} : am_XD G yX5_digest (.code yX5_digest cX5_digest 6 (some .int) :: am_G) { frames := 8, cells := 1, slots := 6, locals := 135 } (hp T S o) [.ref 0, .int x, .int y, .int z] am_E1 := by
  refine am_ofX (by decide +kernel) (Nat.le_of_ble_eq_true rfl) ?_
  intro C hse hret hname hF hX
  subst hse
  have hO := hX.1
  refine am_go hF sgX5_digest_0_8bcf7 2 [(0, .ref 0), (1, .int x), (2, .int y), (3, .int z)] [.int x, .ref 0] sgX5_digest_0_8bcf7d rfl ?_
  exact am_xV hF hX [.int x] [] (c_findList_x hG hn hn10 hx) myX5_findList vyX5_findList lm_RX5_64 (hp_main _ _ _) rfl rfl ⟨Nat.le_of_ble_eq_true rfl, Nat.le_of_ble_eq_true rfl, Nat.le_of_ble_eq_true rfl, Nat.le_of_ble_eq_true rfl⟩ rfl (Nat.le_of_ble_eq_true rfl) dX5_digest_2
set_option maxRecDepth 100000 in
set_option maxHeartbeats 4000000 in
theorem c_p_digest_2 {G : am_S} (hG : G.1.stackTraces = false) {T S : am_T} {o : Nat → Int64} {n : Nat} (hn : T 0 0 = nI n) (hn10 : n ≤ 10) {t : Nat} (ht : T 3 0 = nI t) (ht4 : t ≤ 400) {l : Nat} (hl : l < n) {y : Int32} (hy : y < 0 ∨ nI t < y) {z : Int32} : am_XD G yX5_digest (.code yX5_digest cX5_digest 6 (some .int) :: am_G) { frames := 8, cells := 1, slots := 6, locals := 135 } (hp T S o) [.ref 0, .int (nI l), .int y, .int z] am_E3 := by
  refine am_ofX (by decide +kernel) (Nat.le_of_ble_eq_true rfl) ?_
  intro C hse hret hname hF hX
  subst hse
  have hO := hX.1
  refine am_go hF sgX5_digest_0_8bcf7 2 [(0, .ref 0), (1, .int (nI l)), (2, .int y), (3, .int z)] [.int (nI l), .ref 0] sgX5_digest_0_8bcf7d rfl ?_
  refine am_dV hF hO [.int (nI l)] [] (c_findList (T := T) hn hn10 (show l < n by omega)) myX5_findList vyX5_findList lm_RX5_64 (hp_main _ _ _) rfl rfl 0 0 ⟨Nat.le_of_ble_eq_true rfl, Nat.le_of_ble_eq_true rfl⟩ ⟨Nat.le_of_ble_eq_true rfl, Nat.le_of_ble_eq_true rfl, Nat.le_of_ble_eq_true rfl, Nat.le_of_ble_eq_true rfl⟩ rfl (am_lv_ref (hp_main _ _ _) (am_lv_int (am_lv_int (am_lv_int am_lv_nil)))) (Nat.le_of_ble_eq_true rfl) dX5_digest_2 [.ref (48 + l)] rfl ?_
  refine am_go hF sgX5_digest_5_e92da 9 [(0, .ref 0), (1, .int (nI l)), (2, .int y), (3, .int z)] [.ref 0, .int 0, .int y] sgX5_digest_5_e92dad rfl ?_
  refine am_getf hF (hp_main T S o) (T := TX5) (N := 9) rfl (inG 5 inG5) 8 (by decide) (List.mem_cons_of_mem _ lf_RX5_47) rfl (.int (T 3 0)) rfl dX5_digest_9 ?_
  refine am_top (nI t) ht ?_
  exact am_xS hF hX [.int y, .int 0, .int (nI t)] [] (c_checkRange_x hG hy) myX5_checkRange syX5_checkRange lm_RX5_118 rfl ⟨Nat.le_of_ble_eq_true rfl, Nat.le_of_ble_eq_true rfl, Nat.le_of_ble_eq_true rfl, Nat.le_of_ble_eq_true rfl⟩ rfl (Nat.le_of_ble_eq_true rfl) dX5_digest_12
set_option maxRecDepth 100000 in
set_option maxHeartbeats 4000000 in
theorem c_p_edition_1 {G : am_S} (hG : G.1.stackTraces = false) {T S : am_T} {o : Nat → Int64} {n : Nat} (hn : T 0 0 = nI n) (hn10 : n ≤ 10) {x : Int32} (hx : x < 0 ∨ nI n ≤ x) {y : Int32} : am_XD G yX5_edition (.code yX5_edition cX5_edition 4 (some .int) :: am_G) { frames := 8, cells := 1, slots := 6, locals := 135 } (hp T S o) [.ref 0, .int x, .int y] am_E1 := by
  refine am_ofX (by decide +kernel) (Nat.le_of_ble_eq_true rfl) ?_
  intro C hse hret hname hF hX
  subst hse
  have hO := hX.1
  refine am_go hF sgX5_edition_0_8bcf7 2 [(0, .ref 0), (1, .int x), (2, .int y)] [.int x, .ref 0] sgX5_edition_0_8bcf7d rfl ?_
  exact am_xV hF hX [.int x] [] (c_findList_x hG hn hn10 hx) myX5_findList vyX5_findList lm_RX5_64 (hp_main _ _ _) rfl rfl ⟨Nat.le_of_ble_eq_true rfl, Nat.le_of_ble_eq_true rfl, Nat.le_of_ble_eq_true rfl, Nat.le_of_ble_eq_true rfl⟩ rfl (Nat.le_of_ble_eq_true rfl) dX5_edition_2
set_option maxRecDepth 100000 in
set_option maxHeartbeats 4000000 in
theorem c_p_edition_2 {G : am_S} (hG : G.1.stackTraces = false) {T S : am_T} {o : Nat → Int64} {n : Nat} (hn : T 0 0 = nI n) (hn10 : n ≤ 10) {t : Nat} (ht : T 3 0 = nI t) (ht4 : t ≤ 400) {l : Nat} (hl : l < n) {y : Int32} (hy : y < 0 ∨ nI t < y) : am_XD G yX5_edition (.code yX5_edition cX5_edition 4 (some .int) :: am_G) { frames := 8, cells := 1, slots := 6, locals := 135 } (hp T S o) [.ref 0, .int (nI l), .int y] am_E3 := by
  refine am_ofX (by decide +kernel) (Nat.le_of_ble_eq_true rfl) ?_
  intro C hse hret hname hF hX
  subst hse
  have hO := hX.1
  refine am_go hF sgX5_edition_0_8bcf7 2 [(0, .ref 0), (1, .int (nI l)), (2, .int y)] [.int (nI l), .ref 0] sgX5_edition_0_8bcf7d rfl ?_
  refine am_dV hF hO [.int (nI l)] [] (c_findList (T := T) hn hn10 (show l < n by omega)) myX5_findList vyX5_findList lm_RX5_64 (hp_main _ _ _) rfl rfl 0 0 ⟨Nat.le_of_ble_eq_true rfl, Nat.le_of_ble_eq_true rfl⟩ ⟨Nat.le_of_ble_eq_true rfl, Nat.le_of_ble_eq_true rfl, Nat.le_of_ble_eq_true rfl, Nat.le_of_ble_eq_true rfl⟩ rfl (am_lv_ref (hp_main _ _ _) (am_lv_int (am_lv_int am_lv_nil))) (Nat.le_of_ble_eq_true rfl) dX5_edition_2 [.ref (48 + l)] rfl ?_
  refine am_go hF sgX5_edition_5_e92da 9 [(0, .ref 0), (1, .int (nI l)), (2, .int y)] [.ref 0, .int 0, .int y] sgX5_edition_5_e92dad rfl ?_
  refine am_getf hF (hp_main T S o) (T := TX5) (N := 9) rfl (inG 5 inG5) 8 (by decide) (List.mem_cons_of_mem _ lf_RX5_47) rfl (.int (T 3 0)) rfl dX5_edition_9 ?_
  refine am_top (nI t) ht ?_
  exact am_xS hF hX [.int y, .int 0, .int (nI t)] [] (c_checkRange_x hG hy) myX5_checkRange syX5_checkRange lm_RX5_118 rfl ⟨Nat.le_of_ble_eq_true rfl, Nat.le_of_ble_eq_true rfl, Nat.le_of_ble_eq_true rfl, Nat.le_of_ble_eq_true rfl⟩ rfl (Nat.le_of_ble_eq_true rfl) dX5_edition_12
set_option maxRecDepth 100000 in
set_option maxHeartbeats 4000000 in
theorem c_p_readers_1 {G : am_S} (hG : G.1.stackTraces = false) {T S : am_T} {o : Nat → Int64} {n : Nat} (hn : T 0 0 = nI n) (hn10 : n ≤ 10) {x : Int32} (hx : x < 0 ∨ nI n ≤ x) {y : Int32} : am_XD G yX5_readers (.code yX5_readers cX5_readers 4 (some .int) :: am_G) { frames := 8, cells := 1, slots := 6, locals := 135 } (hp T S o) [.ref 0, .int x, .int y] am_E1 := by
  refine am_ofX (by decide +kernel) (Nat.le_of_ble_eq_true rfl) ?_
  intro C hse hret hname hF hX
  subst hse
  have hO := hX.1
  refine am_go hF sgX5_readers_0_8bcf7 2 [(0, .ref 0), (1, .int x), (2, .int y)] [.int x, .ref 0] sgX5_readers_0_8bcf7d rfl ?_
  exact am_xV hF hX [.int x] [] (c_findList_x hG hn hn10 hx) myX5_findList vyX5_findList lm_RX5_64 (hp_main _ _ _) rfl rfl ⟨Nat.le_of_ble_eq_true rfl, Nat.le_of_ble_eq_true rfl, Nat.le_of_ble_eq_true rfl, Nat.le_of_ble_eq_true rfl⟩ rfl (Nat.le_of_ble_eq_true rfl) dX5_readers_2
set_option maxRecDepth 100000 in
set_option maxHeartbeats 4000000 in
theorem c_p_readers_2 {G : am_S} (hG : G.1.stackTraces = false) {T S : am_T} {o : Nat → Int64} {n : Nat} (hn : T 0 0 = nI n) (hn10 : n ≤ 10) {t : Nat} (ht : T 3 0 = nI t) (ht4 : t ≤ 400) {l : Nat} (hl : l < n) {y : Int32} (hy : y < 0 ∨ nI t < y) : am_XD G yX5_readers (.code yX5_readers cX5_readers 4 (some .int) :: am_G) { frames := 8, cells := 1, slots := 6, locals := 135 } (hp T S o) [.ref 0, .int (nI l), .int y] am_E3 := by
  refine am_ofX (by decide +kernel) (Nat.le_of_ble_eq_true rfl) ?_
  intro C hse hret hname hF hX
  subst hse
  have hO := hX.1
  refine am_go hF sgX5_readers_0_8bcf7 2 [(0, .ref 0), (1, .int (nI l)), (2, .int y)] [.int (nI l), .ref 0] sgX5_readers_0_8bcf7d rfl ?_
  refine am_dV hF hO [.int (nI l)] [] (c_findList (T := T) hn hn10 (show l < n by omega)) myX5_findList vyX5_findList lm_RX5_64 (hp_main _ _ _) rfl rfl 0 0 ⟨Nat.le_of_ble_eq_true rfl, Nat.le_of_ble_eq_true rfl⟩ ⟨Nat.le_of_ble_eq_true rfl, Nat.le_of_ble_eq_true rfl, Nat.le_of_ble_eq_true rfl, Nat.le_of_ble_eq_true rfl⟩ rfl (am_lv_ref (hp_main _ _ _) (am_lv_int (am_lv_int am_lv_nil))) (Nat.le_of_ble_eq_true rfl) dX5_readers_2 [.ref (48 + l)] rfl ?_
  refine am_go hF sgX5_readers_5_e92da 9 [(0, .ref 0), (1, .int (nI l)), (2, .int y)] [.ref 0, .int 0, .int y] sgX5_readers_5_e92dad rfl ?_
  refine am_getf hF (hp_main T S o) (T := TX5) (N := 9) rfl (inG 5 inG5) 8 (by decide) (List.mem_cons_of_mem _ lf_RX5_47) rfl (.int (T 3 0)) rfl dX5_readers_9 ?_
  refine am_top (nI t) ht ?_
  exact am_xS hF hX [.int y, .int 0, .int (nI t)] [] (c_checkRange_x hG hy) myX5_checkRange syX5_checkRange lm_RX5_118 rfl ⟨Nat.le_of_ble_eq_true rfl, Nat.le_of_ble_eq_true rfl, Nat.le_of_ble_eq_true rfl, Nat.le_of_ble_eq_true rfl⟩ rfl (Nat.le_of_ble_eq_true rfl) dX5_readers_12
set_option maxRecDepth 100000 in
set_option maxHeartbeats 4000000 in
theorem c_p_size_n {G : am_S} {T S : am_T} {o : Nat → Int64} {n : Nat} (hn : T 0 0 = nI n) (hn10 : n ≤ 10) {m : Nat} (hm : T 1 0 = nI m) (hm80 : m ≤ 80) {v : Nat} (hv : T 2 0 = nI v) (hv80 : v ≤ 80) (hday : ∀ k, k < m → (T 21 k).toNatClampNeg < v) {t : Nat} (ht : T 3 0 = nI t) (ht4 : t ≤ 400) {l : Nat} (hl : l < n) {d : Nat} (hd : d ≤ t) : am_D G yX5_size (.code yX5_size cX5_size 5 (some .int) :: am_G) { frames := 2, cells := 0, slots := 0, locals := 43 } (hp T S o) [.ref 0, .int (nI l), .int (nI d)] (hp T S o) (some (.int (itN (tsz T l (nI d)) 0 m))) := by
  refine am_of (by decide +kernel) (Nat.le_of_ble_eq_true rfl) ?_
  intro C hse hret hname hF hO
  subst hse
  refine am_go hF sgX5_size_0_8bcf7 2 [(0, .ref 0), (1, .int (nI l)), (2, .int (nI d))] [.int (nI l), .ref 0] sgX5_size_0_8bcf7d rfl ?_
  refine am_dV hF hO [.int (nI l)] [] (c_findList (T := T) hn hn10 (show l < n by omega)) myX5_findList vyX5_findList lm_RX5_64 (hp_main _ _ _) rfl rfl 0 0 ⟨Nat.le_of_ble_eq_true rfl, Nat.le_of_ble_eq_true rfl⟩ ⟨Nat.le_of_ble_eq_true rfl, Nat.le_of_ble_eq_true rfl, Nat.le_of_ble_eq_true rfl, Nat.le_of_ble_eq_true rfl⟩ rfl (am_lv_ref (hp_main _ _ _) (am_lv_int (am_lv_int am_lv_nil))) (Nat.le_of_ble_eq_true rfl) dX5_size_2 [.ref (48 + l)] rfl ?_
  refine am_go hF sgX5_size_5_e92da 9 [(0, .ref 0), (1, .int (nI l)), (2, .int (nI d))] [.ref 0, .int 0, .int (nI d)] sgX5_size_5_e92dad rfl ?_
  refine am_getf hF (hp_main T S o) (T := TX5) (N := 9) rfl (inG 5 inG5) 8 (by decide) (List.mem_cons_of_mem _ lf_RX5_47) rfl (.int (T 3 0)) rfl dX5_size_9 ?_
  refine am_top (nI t) ht ?_
  refine am_dS hF hO [.int (nI d), .int 0, .int (nI t)] [] (c_checkRange (rng_d hd (by omega))) myX5_checkRange syX5_checkRange lm_RX5_118 rfl 0 0 ⟨Nat.le_of_ble_eq_true rfl, Nat.le_of_ble_eq_true rfl⟩ ⟨Nat.le_of_ble_eq_true rfl, Nat.le_of_ble_eq_true rfl, Nat.le_of_ble_eq_true rfl, Nat.le_of_ble_eq_true rfl⟩ rfl (am_lv_ref (hp_main _ _ _) (am_lv_int (am_lv_int am_lv_nil))) (Nat.le_of_ble_eq_true rfl) dX5_size_12 [] rfl ?_
  refine am_go hF sgX5_size_15_1e911 20 [(4, .int 0), (3, .int 0), (0, .ref 0), (1, .int (nI l)), (2, .int (nI d))] [] sgX5_size_15_1e911d rfl ?_
  refine am_drop [2, 3, 4, 1, 0] [(0, .ref 0), (1, .int (nI l)), (2, .int (nI d)), (3, .int 0), (4, .int 0)] rfl ?_
  have lp20 : ∀ (zz j : Nat) (a : Int32), j + zz = m → a = itN (tsz T l (nI d)) 0 j → am_W C (hp T S o) 0 0 20 [(0, .ref 0), (1, .int (nI l)), (2, .int (nI d)), (3, .int a), (4, .int (nI j))] [] := by
    intro zz
    induction zz with
    | zero =>
      intro j a hj ha
      have e9j : j = m := by omega
      skip
      refine am_go hF sgX5_size_20_49a24 23 [(0, .ref 0), (1, .int (nI l)), (2, .int (nI d)), (3, .int a), (4, .int (nI j))] [.ref 0, .int (nI j)] sgX5_size_20_49a24d rfl ?_
      refine am_getf hF (hp_main T S o) (T := TX5) (N := 9) rfl (inG 5 inG5) 5 (by decide) (List.mem_cons_of_mem _ lf_RX5_35) rfl (.int (T 1 0)) rfl dX5_size_23 ?_
      refine am_top (nI m) hm ?_
      refine am_icmpge hF 53 dX5_size_26 (by decide) (fun _ => ?_) (fun h9 => False.elim (absurd (nc_ge (show m ≤ j by omega) (by omega) (by omega) rfl rfl) h9))
      refine am_go hF sgX5_size_53_13b50 54 [(0, .ref 0), (1, .int (nI l)), (2, .int (nI d)), (3, .int a), (4, .int (nI j))] [.int a] sgX5_size_53_13b50d rfl ?_
      exact am_iret hF hO hret rfl dX5_size_54 ⟨rfl, (by first | (rw [ha, e9j]; done) | (rw [ha, e9j]; rfl))⟩
    | succ zz ih20 =>
      intro j a hj ha
      have l9j : j < m := by omega
      have hd9 := hday j l9j
      refine am_go hF sgX5_size_20_49a24 23 [(0, .ref 0), (1, .int (nI l)), (2, .int (nI d)), (3, .int a), (4, .int (nI j))] [.ref 0, .int (nI j)] sgX5_size_20_49a24d rfl ?_
      refine am_getf hF (hp_main T S o) (T := TX5) (N := 9) rfl (inG 5 inG5) 5 (by decide) (List.mem_cons_of_mem _ lf_RX5_35) rfl (.int (T 1 0)) rfl dX5_size_23 ?_
      refine am_top (nI m) hm ?_
      refine am_icmpge hF 53 dX5_size_26 (by decide) (fun h9 => False.elim (nc_lt_f (show j < m by omega) (by omega) (by omega) rfl rfl h9)) (fun _ => ?_)
      refine am_go hF sgX5_size_29_34db8 30 [(0, .ref 0), (1, .int (nI l)), (2, .int (nI d)), (3, .int a), (4, .int (nI j))] [.ref 0] sgX5_size_29_34db8d rfl ?_
      refine am_getf hF (hp_main T S o) (T := TX5) (N := 9) rfl (inG 5 inG5) 4 (by decide) (List.mem_cons_of_mem _ lf_RX5_31) rfl (.ref 4) rfl dX5_size_30 ?_
      refine am_go hF sgX5_size_33_c6742 35 [(0, .ref 0), (1, .int (nI l)), (2, .int (nI d)), (3, .int a), (4, .int (nI j))] [.int (nI j), .ref 4] sgX5_size_33_c6742d rfl ?_
      refine cv_post hF hm hm80 j rfl (show j < m by omega) dX5_size_35 ?_
      refine am_go hF sgX5_size_36_5601b 38 [(0, .ref 0), (1, .int (nI l)), (2, .int (nI d)), (3, .int a), (4, .int (nI j))] [.int (nI d), .int (nI l), .ref (64 + j)] sgX5_size_36_5601bd rfl ?_
      refine am_dV hF hO [.int (nI l), .int (nI d)] [] (c_isInDigest (T := T) hm hm80 (show j < m by omega) hv hv80 (show (T 21 j).toNatClampNeg < v by omega) (show l < 10 by omega)) myX1_isInDigest vyX1_isInDigest lm_RX5_257 (hp_mail _ _ _ hm hm80 (show j < m by omega)) rfl rfl 0 0 ⟨Nat.le_of_ble_eq_true rfl, Nat.le_of_ble_eq_true rfl⟩ ⟨Nat.le_of_ble_eq_true rfl, Nat.le_of_ble_eq_true rfl, Nat.le_of_ble_eq_true rfl, Nat.le_of_ble_eq_true rfl⟩ rfl (am_lv_ref (hp_main _ _ _) (am_lv_int (am_lv_int (am_lv_int (am_lv_int am_lv_nil))))) (Nat.le_of_ble_eq_true rfl) dX5_size_38 [.int (zb (decide (T 33 (T 21 j).toNatClampNeg = (nI d) ∧ bt (T 27 j) l = true)))] rfl ?_
      refine am_ifeq hF 47 dX5_size_41 (by decide) (fun c3 => ?_) (fun c3 => ?_)
      · skip
        replace c3 := of_decide_eq_false (zb_0.mp c3)
        refine am_go hF sgX5_size_47_c395e 20 [(4, .int ((nI j) + 1)), (0, .ref 0), (1, .int (nI l)), (2, .int (nI d)), (3, .int a)] [] sgX5_size_47_c395ed rfl ?_
        refine am_drop [1, 2, 3, 4, 0] [(0, .ref 0), (1, .int (nI l)), (2, .int (nI d)), (3, .int a), (4, .int ((nI j) + 1))] rfl ?_
        refine am_eqL [(0, .ref 0), (1, .int (nI l)), (2, .int (nI d)), (3, .int a), (4, .int (nI (j + 1)))] (by rw [nI_1]) ?_
        exact ih20 (j + 1) a (by omega) (by show _ = tsz T l (nI d) j (itN (tsz T l (nI d)) 0 j); rw [← ha]; simp only [tsz, Bool.false_eq_true, not_false_eq_true, not_true_eq_false, and_self, and_true, true_and, and_false, false_and, true_or, or_true, or_false, false_or, or_self, c3, ↓reduceIte])
      · skip
        replace c3 := of_decide_eq_true (zb_p.mp c3)
        refine am_go hF sgX5_size_44_16dbf 20 [(4, .int ((nI j) + 1)), (3, .int (a + 1)), (0, .ref 0), (1, .int (nI l)), (2, .int (nI d))] [] sgX5_size_44_16dbfd rfl ?_
        refine am_drop [2, 3, 4, 1, 0] [(0, .ref 0), (1, .int (nI l)), (2, .int (nI d)), (3, .int (a + 1)), (4, .int ((nI j) + 1))] rfl ?_
        refine am_eqL [(0, .ref 0), (1, .int (nI l)), (2, .int (nI d)), (3, .int (a + 1)), (4, .int (nI (j + 1)))] (by rw [nI_1]) ?_
        exact ih20 (j + 1) (a + 1) (by omega) (by show _ = tsz T l (nI d) j (itN (tsz T l (nI d)) 0 j); rw [← ha]; simp only [tsz, Bool.false_eq_true, not_false_eq_true, not_true_eq_false, and_self, and_true, true_and, and_false, false_and, true_or, or_true, or_false, false_or, or_self, (eq_true c3), ↓reduceIte])
  exact lp20 m 0 0 (by omega) rfl
set_option maxRecDepth 100000 in
set_option maxHeartbeats 4000000 in
theorem c_p_digest_n {G : am_S} {T S : am_T} {o : Nat → Int64} {n : Nat} (hn : T 0 0 = nI n) (hn10 : n ≤ 10) {m : Nat} (hm : T 1 0 = nI m) (hm80 : m ≤ 80) {v : Nat} (hv : T 2 0 = nI v) (hv80 : v ≤ 80) (hday : ∀ k, k < m → (T 21 k).toNatClampNeg < v) {t : Nat} (ht : T 3 0 = nI t) (ht4 : t ≤ 400) {l : Nat} (hl : l < n) {d : Nat} (hd : d ≤ t) {z : Int32} {q : Nat} (hq9 : q < m) (hq : (T 33 (T 21 q).toNatClampNeg = nI d ∧ bt (T 27 q) l = true)) (hz : itN (tsz T l (nI d)) 0 q = z) (h0 : ∀ i, i < q → (T 33 (T 21 i).toNatClampNeg = nI d ∧ bt (T 27 i) l = true) → ¬ itN (tsz T l (nI d)) 0 i = z) : am_D G yX5_digest (.code yX5_digest cX5_digest 6 (some .int) :: am_G) { frames := 2, cells := 0, slots := 0, locals := 43 } (hp T S o) [.ref 0, .int (nI l), .int (nI d), .int z] (hp T S o) (some (.int (nI q))) := by
  refine am_of (by decide +kernel) (Nat.le_of_ble_eq_true rfl) ?_
  intro C hse hret hname hF hO
  subst hse
  refine am_go hF sgX5_digest_0_8bcf7 2 [(0, .ref 0), (1, .int (nI l)), (2, .int (nI d)), (3, .int z)] [.int (nI l), .ref 0] sgX5_digest_0_8bcf7d rfl ?_
  refine am_dV hF hO [.int (nI l)] [] (c_findList (T := T) hn hn10 (show l < n by omega)) myX5_findList vyX5_findList lm_RX5_64 (hp_main _ _ _) rfl rfl 0 0 ⟨Nat.le_of_ble_eq_true rfl, Nat.le_of_ble_eq_true rfl⟩ ⟨Nat.le_of_ble_eq_true rfl, Nat.le_of_ble_eq_true rfl, Nat.le_of_ble_eq_true rfl, Nat.le_of_ble_eq_true rfl⟩ rfl (am_lv_ref (hp_main _ _ _) (am_lv_int (am_lv_int (am_lv_int am_lv_nil)))) (Nat.le_of_ble_eq_true rfl) dX5_digest_2 [.ref (48 + l)] rfl ?_
  refine am_go hF sgX5_digest_5_e92da 9 [(0, .ref 0), (1, .int (nI l)), (2, .int (nI d)), (3, .int z)] [.ref 0, .int 0, .int (nI d)] sgX5_digest_5_e92dad rfl ?_
  refine am_getf hF (hp_main T S o) (T := TX5) (N := 9) rfl (inG 5 inG5) 8 (by decide) (List.mem_cons_of_mem _ lf_RX5_47) rfl (.int (T 3 0)) rfl dX5_digest_9 ?_
  refine am_top (nI t) ht ?_
  refine am_dS hF hO [.int (nI d), .int 0, .int (nI t)] [] (c_checkRange (rng_d hd (by omega))) myX5_checkRange syX5_checkRange lm_RX5_118 rfl 0 0 ⟨Nat.le_of_ble_eq_true rfl, Nat.le_of_ble_eq_true rfl⟩ ⟨Nat.le_of_ble_eq_true rfl, Nat.le_of_ble_eq_true rfl, Nat.le_of_ble_eq_true rfl, Nat.le_of_ble_eq_true rfl⟩ rfl (am_lv_ref (hp_main _ _ _) (am_lv_int (am_lv_int (am_lv_int am_lv_nil)))) (Nat.le_of_ble_eq_true rfl) dX5_digest_12 [] rfl ?_
  refine am_go hF sgX5_digest_15_bc7fe 21 [(5, .int 0), (4, .int 0), (0, .ref 0), (1, .int (nI l)), (2, .int (nI d)), (3, .int z)] [] sgX5_digest_15_bc7fed rfl ?_
  refine am_drop [2, 3, 4, 5, 1, 0] [(0, .ref 0), (1, .int (nI l)), (2, .int (nI d)), (3, .int z), (4, .int 0), (5, .int 0)] rfl ?_
  have lp21 : ∀ (dd i : Nat) (a : Int32), i + dd = q → a = itN (tsz T l (nI d)) 0 i → am_W C (hp T S o) 0 0 21 [(0, .ref 0), (1, .int (nI l)), (2, .int (nI d)), (3, .int z), (4, .int a), (5, .int (nI i))] [] := by
    intro dd
    induction dd with
    | zero =>
      intro i a hi ha
      have hd9 : i < m → (T 21 i).toNatClampNeg < v := hday i
      refine am_go hF sgX5_digest_21_e57aa 24 [(0, .ref 0), (1, .int (nI l)), (2, .int (nI d)), (3, .int z), (4, .int a), (5, .int (nI i))] [.ref 0, .int (nI i)] sgX5_digest_21_e57aad rfl ?_
      refine am_getf hF (hp_main T S o) (T := TX5) (N := 9) rfl (inG 5 inG5) 5 (by decide) (List.mem_cons_of_mem _ lf_RX5_35) rfl (.int (T 1 0)) rfl dX5_digest_24 ?_
      refine am_top (nI m) hm ?_
      refine am_icmpge hF 63 dX5_digest_27 (by decide) (fun h9 => False.elim (nc_lt_f (show i < m by omega) (by omega) (by omega) rfl rfl h9)) (fun _ => ?_)
      refine am_go hF sgX5_digest_30_34db8 31 [(0, .ref 0), (1, .int (nI l)), (2, .int (nI d)), (3, .int z), (4, .int a), (5, .int (nI i))] [.ref 0] sgX5_digest_30_34db8d rfl ?_
      refine am_getf hF (hp_main T S o) (T := TX5) (N := 9) rfl (inG 5 inG5) 4 (by decide) (List.mem_cons_of_mem _ lf_RX5_31) rfl (.ref 4) rfl dX5_digest_31 ?_
      refine am_go hF sgX5_digest_34_9df92 36 [(0, .ref 0), (1, .int (nI l)), (2, .int (nI d)), (3, .int z), (4, .int a), (5, .int (nI i))] [.int (nI i), .ref 4] sgX5_digest_34_9df92d rfl ?_
      refine cv_post hF hm hm80 i rfl (show i < m by omega) dX5_digest_36 ?_
      refine am_go hF sgX5_digest_37_5601b 39 [(0, .ref 0), (1, .int (nI l)), (2, .int (nI d)), (3, .int z), (4, .int a), (5, .int (nI i))] [.int (nI d), .int (nI l), .ref (64 + i)] sgX5_digest_37_5601bd rfl ?_
      refine am_dV hF hO [.int (nI l), .int (nI d)] [] (c_isInDigest (T := T) hm hm80 (show i < m by omega) hv hv80 (show (T 21 i).toNatClampNeg < v by omega) (show l < 10 by omega)) myX1_isInDigest vyX1_isInDigest lm_RX5_257 (hp_mail _ _ _ hm hm80 (show i < m by omega)) rfl rfl 0 0 ⟨Nat.le_of_ble_eq_true rfl, Nat.le_of_ble_eq_true rfl⟩ ⟨Nat.le_of_ble_eq_true rfl, Nat.le_of_ble_eq_true rfl, Nat.le_of_ble_eq_true rfl, Nat.le_of_ble_eq_true rfl⟩ rfl (am_lv_ref (hp_main _ _ _) (am_lv_int (am_lv_int (am_lv_int (am_lv_int (am_lv_int am_lv_nil)))))) (Nat.le_of_ble_eq_true rfl) dX5_digest_39 [.int (zb (decide (T 33 (T 21 i).toNatClampNeg = (nI d) ∧ bt (T 27 i) l = true)))] rfl ?_
      refine am_ifeq hF 57 dX5_digest_42 (by decide) (fun c2 => ?_) (fun c2 => ?_)
      · skip
        replace c2 := of_decide_eq_false (zb_0.mp c2)
        exact absurd (by rw [show i = q by omega]; exact hq) c2
      · skip
        replace c2 := of_decide_eq_true (zb_p.mp c2)
        refine am_go hF sgX5_digest_45_63e68 48 [(0, .ref 0), (1, .int (nI l)), (2, .int (nI d)), (3, .int z), (4, .int a), (5, .int (nI i))] [.int z, .int a] sgX5_digest_45_63e68d rfl ?_
        refine am_icmpne hF 54 dX5_digest_48 (by decide) (fun c3 => ?_) (fun c3 => ?_)
        · skip
          exact absurd (by rw [ha, show i = q by omega]; exact hz) c3
        · skip
          refine am_go hF sgX5_digest_51_9df92 53 [(0, .ref 0), (1, .int (nI l)), (2, .int (nI d)), (3, .int z), (4, .int a), (5, .int (nI i))] [.int (nI i)] sgX5_digest_51_9df92d rfl ?_
          exact am_iret hF hO hret rfl dX5_digest_53 ⟨rfl, by rw [show i = q by omega]⟩
    | succ dd ih21 =>
      intro i a hi ha
      have hd9 : i < m → (T 21 i).toNatClampNeg < v := hday i
      refine am_go hF sgX5_digest_21_e57aa 24 [(0, .ref 0), (1, .int (nI l)), (2, .int (nI d)), (3, .int z), (4, .int a), (5, .int (nI i))] [.ref 0, .int (nI i)] sgX5_digest_21_e57aad rfl ?_
      refine am_getf hF (hp_main T S o) (T := TX5) (N := 9) rfl (inG 5 inG5) 5 (by decide) (List.mem_cons_of_mem _ lf_RX5_35) rfl (.int (T 1 0)) rfl dX5_digest_24 ?_
      refine am_top (nI m) hm ?_
      refine am_icmpge hF 63 dX5_digest_27 (by decide) (fun h9 => False.elim (nc_lt_f (show i < m by omega) (by omega) (by omega) rfl rfl h9)) (fun _ => ?_)
      refine am_go hF sgX5_digest_30_34db8 31 [(0, .ref 0), (1, .int (nI l)), (2, .int (nI d)), (3, .int z), (4, .int a), (5, .int (nI i))] [.ref 0] sgX5_digest_30_34db8d rfl ?_
      refine am_getf hF (hp_main T S o) (T := TX5) (N := 9) rfl (inG 5 inG5) 4 (by decide) (List.mem_cons_of_mem _ lf_RX5_31) rfl (.ref 4) rfl dX5_digest_31 ?_
      refine am_go hF sgX5_digest_34_9df92 36 [(0, .ref 0), (1, .int (nI l)), (2, .int (nI d)), (3, .int z), (4, .int a), (5, .int (nI i))] [.int (nI i), .ref 4] sgX5_digest_34_9df92d rfl ?_
      refine cv_post hF hm hm80 i rfl (show i < m by omega) dX5_digest_36 ?_
      refine am_go hF sgX5_digest_37_5601b 39 [(0, .ref 0), (1, .int (nI l)), (2, .int (nI d)), (3, .int z), (4, .int a), (5, .int (nI i))] [.int (nI d), .int (nI l), .ref (64 + i)] sgX5_digest_37_5601bd rfl ?_
      refine am_dV hF hO [.int (nI l), .int (nI d)] [] (c_isInDigest (T := T) hm hm80 (show i < m by omega) hv hv80 (show (T 21 i).toNatClampNeg < v by omega) (show l < 10 by omega)) myX1_isInDigest vyX1_isInDigest lm_RX5_257 (hp_mail _ _ _ hm hm80 (show i < m by omega)) rfl rfl 0 0 ⟨Nat.le_of_ble_eq_true rfl, Nat.le_of_ble_eq_true rfl⟩ ⟨Nat.le_of_ble_eq_true rfl, Nat.le_of_ble_eq_true rfl, Nat.le_of_ble_eq_true rfl, Nat.le_of_ble_eq_true rfl⟩ rfl (am_lv_ref (hp_main _ _ _) (am_lv_int (am_lv_int (am_lv_int (am_lv_int (am_lv_int am_lv_nil)))))) (Nat.le_of_ble_eq_true rfl) dX5_digest_39 [.int (zb (decide (T 33 (T 21 i).toNatClampNeg = (nI d) ∧ bt (T 27 i) l = true)))] rfl ?_
      refine am_ifeq hF 57 dX5_digest_42 (by decide) (fun c5 => ?_) (fun c5 => ?_)
      · skip
        replace c5 := of_decide_eq_false (zb_0.mp c5)
        refine am_go hF sgX5_digest_57_06a1d 21 [(5, .int ((nI i) + 1)), (0, .ref 0), (1, .int (nI l)), (2, .int (nI d)), (3, .int z), (4, .int a)] [] sgX5_digest_57_06a1dd rfl ?_
        refine am_eqL [(5, .int (nI (i + 1))), (0, .ref 0), (1, .int (nI l)), (2, .int (nI d)), (3, .int z), (4, .int a)] (by rw [nI_1]) ?_
        refine am_drop [1, 2, 3, 4, 5, 0] [(0, .ref 0), (1, .int (nI l)), (2, .int (nI d)), (3, .int z), (4, .int a), (5, .int (nI (i + 1)))] rfl ?_
        exact ih21 (i + 1) a (by omega) (by show _ = tsz T l (nI d) i (itN (tsz T l (nI d)) 0 i); rw [← ha]; simp only [tsz, c5, Bool.false_eq_true, not_false_eq_true, not_true_eq_false, and_self, and_true, true_and, and_false, false_and, true_or, or_true, or_false, false_or, or_self, ↓reduceIte])
      · skip
        replace c5 := of_decide_eq_true (zb_p.mp c5)
        refine am_go hF sgX5_digest_45_63e68 48 [(0, .ref 0), (1, .int (nI l)), (2, .int (nI d)), (3, .int z), (4, .int a), (5, .int (nI i))] [.int z, .int a] sgX5_digest_45_63e68d rfl ?_
        refine am_icmpne hF 54 dX5_digest_48 (by decide) (fun c6 => ?_) (fun c6 => ?_)
        · skip
          refine am_go hF sgX5_digest_54_e90b8 21 [(5, .int ((nI i) + 1)), (4, .int (a + 1)), (0, .ref 0), (1, .int (nI l)), (2, .int (nI d)), (3, .int z)] [] sgX5_digest_54_e90b8d rfl ?_
          refine am_eqL [(5, .int (nI (i + 1))), (4, .int (a + 1)), (0, .ref 0), (1, .int (nI l)), (2, .int (nI d)), (3, .int z)] (by rw [nI_1]) ?_
          refine am_drop [2, 3, 4, 5, 1, 0] [(0, .ref 0), (1, .int (nI l)), (2, .int (nI d)), (3, .int z), (4, .int (a + 1)), (5, .int (nI (i + 1)))] rfl ?_
          exact ih21 (i + 1) (a + 1) (by omega) (by show _ = tsz T l (nI d) i (itN (tsz T l (nI d)) 0 i); rw [← ha]; simp only [tsz, (eq_true c5), Bool.false_eq_true, not_false_eq_true, not_true_eq_false, and_self, and_true, true_and, and_false, false_and, true_or, or_true, or_false, false_or, or_self, ↓reduceIte])
        · skip
          exact absurd (ha.symm.trans c6) (h0 i (by omega) c5)
  exact lp21 q 0 0 (by omega) rfl
set_option maxRecDepth 100000 in
set_option maxHeartbeats 4000000 in
theorem c_p_edition_y {G : am_S} {T S : am_T} {o : Nat → Int64} {n : Nat} (hn : T 0 0 = nI n) (hn10 : n ≤ 10) {m : Nat} (hm : T 1 0 = nI m) (hm80 : m ≤ 80) {v : Nat} (hv : T 2 0 = nI v) (hv80 : v ≤ 80) (hday : ∀ k, k < m → (T 21 k).toNatClampNeg < v) {t : Nat} (ht : T 3 0 = nI t) (ht4 : t ≤ 400) {l : Nat} (hl : l < n) {d : Nat} (hd : d ≤ t) {j : Nat} (hj : j < v) (hx : T 33 j = nI d) (h0 : ∀ i, i < j → ¬ T 33 i = nI d) : am_D G yX5_edition (.code yX5_edition cX5_edition 4 (some .int) :: am_G) { frames := 1, cells := 0, slots := 0, locals := 22 } (hp T S o) [.ref 0, .int (nI l), .int (nI d)] (hp T S o) (some (.int (if T 34 (10 * j + l) = 0 then -1 else T 35 (10 * j + l)))) := by
  refine am_of (by decide +kernel) (Nat.le_of_ble_eq_true rfl) ?_
  intro C hse hret hname hF hO
  subst hse
  refine am_go hF sgX5_edition_0_8bcf7 2 [(0, .ref 0), (1, .int (nI l)), (2, .int (nI d))] [.int (nI l), .ref 0] sgX5_edition_0_8bcf7d rfl ?_
  refine am_dV hF hO [.int (nI l)] [] (c_findList (T := T) hn hn10 (show l < n by omega)) myX5_findList vyX5_findList lm_RX5_64 (hp_main _ _ _) rfl rfl 0 0 ⟨Nat.le_of_ble_eq_true rfl, Nat.le_of_ble_eq_true rfl⟩ ⟨Nat.le_of_ble_eq_true rfl, Nat.le_of_ble_eq_true rfl, Nat.le_of_ble_eq_true rfl, Nat.le_of_ble_eq_true rfl⟩ rfl (am_lv_ref (hp_main _ _ _) (am_lv_int (am_lv_int am_lv_nil))) (Nat.le_of_ble_eq_true rfl) dX5_edition_2 [.ref (48 + l)] rfl ?_
  refine am_go hF sgX5_edition_5_e92da 9 [(0, .ref 0), (1, .int (nI l)), (2, .int (nI d))] [.ref 0, .int 0, .int (nI d)] sgX5_edition_5_e92dad rfl ?_
  refine am_getf hF (hp_main T S o) (T := TX5) (N := 9) rfl (inG 5 inG5) 8 (by decide) (List.mem_cons_of_mem _ lf_RX5_47) rfl (.int (T 3 0)) rfl dX5_edition_9 ?_
  refine am_top (nI t) ht ?_
  refine am_dS hF hO [.int (nI d), .int 0, .int (nI t)] [] (c_checkRange (rng_d hd (by omega))) myX5_checkRange syX5_checkRange lm_RX5_118 rfl 0 0 ⟨Nat.le_of_ble_eq_true rfl, Nat.le_of_ble_eq_true rfl⟩ ⟨Nat.le_of_ble_eq_true rfl, Nat.le_of_ble_eq_true rfl, Nat.le_of_ble_eq_true rfl, Nat.le_of_ble_eq_true rfl⟩ rfl (am_lv_ref (hp_main _ _ _) (am_lv_int (am_lv_int am_lv_nil))) (Nat.le_of_ble_eq_true rfl) dX5_edition_12 [] rfl ?_
  refine am_go hF sgX5_edition_15_78e74 17 [(0, .ref 0), (1, .int (nI l)), (2, .int (nI d))] [.int (nI d), .ref 0] sgX5_edition_15_78e74d rfl ?_
  refine am_dV hF hO [.int (nI d)] [] (c_fpd_y (T := T) hv hv80 (hp_main _ _ _) (hp_5 _ _ _) (fun j9 hj9 => hp_day T S o hv hv80 hj9) hj hx h0) myX5_findPostDay vyX5_findPostDay lm_RX5_265 (hp_main _ _ _) rfl rfl 0 0 ⟨Nat.le_of_ble_eq_true rfl, Nat.le_of_ble_eq_true rfl⟩ ⟨Nat.le_of_ble_eq_true rfl, Nat.le_of_ble_eq_true rfl, Nat.le_of_ble_eq_true rfl, Nat.le_of_ble_eq_true rfl⟩ rfl (am_lv_ref (hp_main _ _ _) (am_lv_int (am_lv_int am_lv_nil))) (Nat.le_of_ble_eq_true rfl) dX5_edition_17 [.ref (224 + j)] rfl ?_
  refine am_go hF sgX5_edition_20_c6008 22 [(3, .ref (224 + j)), (0, .ref 0), (1, .int (nI l)), (2, .int (nI d))] [.ref (224 + j)] sgX5_edition_20_c6008d rfl ?_
  refine am_ifnullR hF dX5_edition_22 ?_
  refine am_go hF sgX5_edition_25_30098 27 [(3, .ref (224 + j)), (0, .ref 0), (1, .int (nI l)), (2, .int (nI d))] [.int (nI l), .ref (224 + j)] sgX5_edition_25_30098d rfl ?_
  refine am_dV hF hO [.int (nI l)] [] (c_hasDigest (v := v) (j := j) (l := l) hv hv80 (show j < v by omega) (show l < 10 by omega)) myX4_hasDigest vyX4_hasDigest lm_RX5_269 (hp_day _ _ _ hv hv80 (show j < v by omega)) rfl rfl 0 0 ⟨Nat.le_of_ble_eq_true rfl, Nat.le_of_ble_eq_true rfl⟩ ⟨Nat.le_of_ble_eq_true rfl, Nat.le_of_ble_eq_true rfl, Nat.le_of_ble_eq_true rfl, Nat.le_of_ble_eq_true rfl⟩ rfl (am_lv_ref (hp_day _ _ _ hv hv80 (show j < v by omega)) (am_lv_ref (hp_main _ _ _) (am_lv_int (am_lv_int am_lv_nil)))) (Nat.le_of_ble_eq_true rfl) dX5_edition_27 [.int (zb (decide (¬ T 34 (10 * j + l) = 0)))] rfl ?_
  refine am_ifne hF 37 dX5_edition_30 (by decide) (fun c1 => ?_) (fun c1 => ?_)
  · skip
    replace c1 := of_decide_eq_true (zb_p.mp c1)
    refine am_go hF sgX5_edition_37_67016 38 [(3, .ref (224 + j)), (0, .ref 0), (1, .int (nI l)), (2, .int (nI d))] [.ref (224 + j)] sgX5_edition_37_67016d rfl ?_
    refine am_getf hF (hp_day T S o hv hv80 (show j < v by omega)) (T := TX4) (N := 5) rfl (inG 4 inG4) 2 (by decide) (List.mem_cons_of_mem _ lf_RX5_272) rfl (.ref (384 + j)) rfl dX5_edition_38 ?_
    refine am_go hF sgX5_edition_41_840bf 42 [(3, .ref (224 + j)), (0, .ref 0), (1, .int (nI l)), (2, .int (nI d))] [.int (nI l), .ref (384 + j)] sgX5_edition_41_840bfd rfl ?_
    refine am_iald hF (hp_ded T S o hv hv80 (show j < v by omega)) l rfl (show l < 10 by omega) (by decide) dX5_edition_42 ?_
    refine am_top (T 35 (10 * j + l)) (if_pos (show l < 10 by omega)) ?_
    exact am_iret hF hO hret rfl dX5_edition_43 ⟨rfl, by rw [if_neg c1]⟩
  · skip
    replace c1 := Decidable.not_not.mp (of_decide_eq_false (zb_0.mp c1))
    refine am_go hF sgX5_edition_33_a3779 43 [(3, .ref (224 + j)), (0, .ref 0), (1, .int (nI l)), (2, .int (nI d))] [.int (-1)] sgX5_edition_33_a3779d rfl ?_
    exact am_iret hF hO hret rfl dX5_edition_43 ⟨rfl, by rw [if_pos c1]⟩
set_option maxRecDepth 100000 in
set_option maxHeartbeats 4000000 in
theorem c_p_edition_n {G : am_S} {T S : am_T} {o : Nat → Int64} {n : Nat} (hn : T 0 0 = nI n) (hn10 : n ≤ 10) {m : Nat} (hm : T 1 0 = nI m) (hm80 : m ≤ 80) {v : Nat} (hv : T 2 0 = nI v) (hv80 : v ≤ 80) (hday : ∀ k, k < m → (T 21 k).toNatClampNeg < v) {t : Nat} (ht : T 3 0 = nI t) (ht4 : t ≤ 400) {l : Nat} (hl : l < n) {d : Nat} (hd : d ≤ t) (h0 : ∀ i, i < v → ¬ T 33 i = nI d) : am_D G yX5_edition (.code yX5_edition cX5_edition 4 (some .int) :: am_G) { frames := 1, cells := 0, slots := 0, locals := 22 } (hp T S o) [.ref 0, .int (nI l), .int (nI d)] (hp T S o) (some (.int (-1))) := by
  refine am_of (by decide +kernel) (Nat.le_of_ble_eq_true rfl) ?_
  intro C hse hret hname hF hO
  subst hse
  refine am_go hF sgX5_edition_0_8bcf7 2 [(0, .ref 0), (1, .int (nI l)), (2, .int (nI d))] [.int (nI l), .ref 0] sgX5_edition_0_8bcf7d rfl ?_
  refine am_dV hF hO [.int (nI l)] [] (c_findList (T := T) hn hn10 (show l < n by omega)) myX5_findList vyX5_findList lm_RX5_64 (hp_main _ _ _) rfl rfl 0 0 ⟨Nat.le_of_ble_eq_true rfl, Nat.le_of_ble_eq_true rfl⟩ ⟨Nat.le_of_ble_eq_true rfl, Nat.le_of_ble_eq_true rfl, Nat.le_of_ble_eq_true rfl, Nat.le_of_ble_eq_true rfl⟩ rfl (am_lv_ref (hp_main _ _ _) (am_lv_int (am_lv_int am_lv_nil))) (Nat.le_of_ble_eq_true rfl) dX5_edition_2 [.ref (48 + l)] rfl ?_
  refine am_go hF sgX5_edition_5_e92da 9 [(0, .ref 0), (1, .int (nI l)), (2, .int (nI d))] [.ref 0, .int 0, .int (nI d)] sgX5_edition_5_e92dad rfl ?_
  refine am_getf hF (hp_main T S o) (T := TX5) (N := 9) rfl (inG 5 inG5) 8 (by decide) (List.mem_cons_of_mem _ lf_RX5_47) rfl (.int (T 3 0)) rfl dX5_edition_9 ?_
  refine am_top (nI t) ht ?_
  refine am_dS hF hO [.int (nI d), .int 0, .int (nI t)] [] (c_checkRange (rng_d hd (by omega))) myX5_checkRange syX5_checkRange lm_RX5_118 rfl 0 0 ⟨Nat.le_of_ble_eq_true rfl, Nat.le_of_ble_eq_true rfl⟩ ⟨Nat.le_of_ble_eq_true rfl, Nat.le_of_ble_eq_true rfl, Nat.le_of_ble_eq_true rfl, Nat.le_of_ble_eq_true rfl⟩ rfl (am_lv_ref (hp_main _ _ _) (am_lv_int (am_lv_int am_lv_nil))) (Nat.le_of_ble_eq_true rfl) dX5_edition_12 [] rfl ?_
  refine am_go hF sgX5_edition_15_78e74 17 [(0, .ref 0), (1, .int (nI l)), (2, .int (nI d))] [.int (nI d), .ref 0] sgX5_edition_15_78e74d rfl ?_
  refine am_dV hF hO [.int (nI d)] [] (c_fpd_n (T := T) hv hv80 (hp_main _ _ _) (hp_5 _ _ _) (fun j9 hj9 => hp_day T S o hv hv80 hj9) h0) myX5_findPostDay vyX5_findPostDay lm_RX5_265 (hp_main _ _ _) rfl rfl 0 0 ⟨Nat.le_of_ble_eq_true rfl, Nat.le_of_ble_eq_true rfl⟩ ⟨Nat.le_of_ble_eq_true rfl, Nat.le_of_ble_eq_true rfl, Nat.le_of_ble_eq_true rfl, Nat.le_of_ble_eq_true rfl⟩ rfl (am_lv_ref (hp_main _ _ _) (am_lv_int (am_lv_int am_lv_nil))) (Nat.le_of_ble_eq_true rfl) dX5_edition_17 [.null] rfl ?_
  refine am_astNn hF (i := 3) rfl (by decide) dX5_edition_20 ?_
  refine am_eqL [(3, .null), (0, .ref 0), (1, .int (nI l)), (2, .int (nI d))] rfl ?_
  refine am_aldNn hF (i := 3) rfl rfl dX5_edition_21 ?_
  refine am_ifnullN hF 33 dX5_edition_22 (by decide) ?_
  refine am_go hF sgX5_edition_33_a3779 43 [(3, .null), (0, .ref 0), (1, .int (nI l)), (2, .int (nI d))] [.int (-1)] sgX5_edition_33_a3779d rfl ?_
  exact am_iret hF hO hret rfl dX5_edition_43 ⟨rfl, rfl⟩
set_option maxRecDepth 100000 in
set_option maxHeartbeats 4000000 in
theorem c_p_readers_y {G : am_S} {T S : am_T} {o : Nat → Int64} {n : Nat} (hn : T 0 0 = nI n) (hn10 : n ≤ 10) {m : Nat} (hm : T 1 0 = nI m) (hm80 : m ≤ 80) {v : Nat} (hv : T 2 0 = nI v) (hv80 : v ≤ 80) (hday : ∀ k, k < m → (T 21 k).toNatClampNeg < v) {t : Nat} (ht : T 3 0 = nI t) (ht4 : t ≤ 400) {l : Nat} (hl : l < n) {d : Nat} (hd : d ≤ t) {j : Nat} (hj : j < v) (hx : T 33 j = nI d) (h0 : ∀ i, i < j → ¬ T 33 i = nI d) : am_D G yX5_readers (.code yX5_readers cX5_readers 4 (some .int) :: am_G) { frames := 1, cells := 0, slots := 0, locals := 22 } (hp T S o) [.ref 0, .int (nI l), .int (nI d)] (hp T S o) (some (.int (T 34 (10 * j + l)))) := by
  refine am_of (by decide +kernel) (Nat.le_of_ble_eq_true rfl) ?_
  intro C hse hret hname hF hO
  subst hse
  refine am_go hF sgX5_readers_0_8bcf7 2 [(0, .ref 0), (1, .int (nI l)), (2, .int (nI d))] [.int (nI l), .ref 0] sgX5_readers_0_8bcf7d rfl ?_
  refine am_dV hF hO [.int (nI l)] [] (c_findList (T := T) hn hn10 (show l < n by omega)) myX5_findList vyX5_findList lm_RX5_64 (hp_main _ _ _) rfl rfl 0 0 ⟨Nat.le_of_ble_eq_true rfl, Nat.le_of_ble_eq_true rfl⟩ ⟨Nat.le_of_ble_eq_true rfl, Nat.le_of_ble_eq_true rfl, Nat.le_of_ble_eq_true rfl, Nat.le_of_ble_eq_true rfl⟩ rfl (am_lv_ref (hp_main _ _ _) (am_lv_int (am_lv_int am_lv_nil))) (Nat.le_of_ble_eq_true rfl) dX5_readers_2 [.ref (48 + l)] rfl ?_
  refine am_go hF sgX5_readers_5_e92da 9 [(0, .ref 0), (1, .int (nI l)), (2, .int (nI d))] [.ref 0, .int 0, .int (nI d)] sgX5_readers_5_e92dad rfl ?_
  refine am_getf hF (hp_main T S o) (T := TX5) (N := 9) rfl (inG 5 inG5) 8 (by decide) (List.mem_cons_of_mem _ lf_RX5_47) rfl (.int (T 3 0)) rfl dX5_readers_9 ?_
  refine am_top (nI t) ht ?_
  refine am_dS hF hO [.int (nI d), .int 0, .int (nI t)] [] (c_checkRange (rng_d hd (by omega))) myX5_checkRange syX5_checkRange lm_RX5_118 rfl 0 0 ⟨Nat.le_of_ble_eq_true rfl, Nat.le_of_ble_eq_true rfl⟩ ⟨Nat.le_of_ble_eq_true rfl, Nat.le_of_ble_eq_true rfl, Nat.le_of_ble_eq_true rfl, Nat.le_of_ble_eq_true rfl⟩ rfl (am_lv_ref (hp_main _ _ _) (am_lv_int (am_lv_int am_lv_nil))) (Nat.le_of_ble_eq_true rfl) dX5_readers_12 [] rfl ?_
  refine am_go hF sgX5_readers_15_78e74 17 [(0, .ref 0), (1, .int (nI l)), (2, .int (nI d))] [.int (nI d), .ref 0] sgX5_readers_15_78e74d rfl ?_
  refine am_dV hF hO [.int (nI d)] [] (c_fpd_y (T := T) hv hv80 (hp_main _ _ _) (hp_5 _ _ _) (fun j9 hj9 => hp_day T S o hv hv80 hj9) hj hx h0) myX5_findPostDay vyX5_findPostDay lm_RX5_265 (hp_main _ _ _) rfl rfl 0 0 ⟨Nat.le_of_ble_eq_true rfl, Nat.le_of_ble_eq_true rfl⟩ ⟨Nat.le_of_ble_eq_true rfl, Nat.le_of_ble_eq_true rfl, Nat.le_of_ble_eq_true rfl, Nat.le_of_ble_eq_true rfl⟩ rfl (am_lv_ref (hp_main _ _ _) (am_lv_int (am_lv_int am_lv_nil))) (Nat.le_of_ble_eq_true rfl) dX5_readers_17 [.ref (224 + j)] rfl ?_
  refine am_go hF sgX5_readers_20_c6008 22 [(3, .ref (224 + j)), (0, .ref 0), (1, .int (nI l)), (2, .int (nI d))] [.ref (224 + j)] sgX5_readers_20_c6008d rfl ?_
  refine am_ifnonnullR hF 29 dX5_readers_22 (by decide) ?_
  refine am_go hF sgX5_readers_29_67016 30 [(3, .ref (224 + j)), (0, .ref 0), (1, .int (nI l)), (2, .int (nI d))] [.ref (224 + j)] sgX5_readers_29_67016d rfl ?_
  refine am_getf hF (hp_day T S o hv hv80 (show j < v by omega)) (T := TX4) (N := 5) rfl (inG 4 inG4) 1 (by decide) (List.mem_cons_of_mem _ lf_RX5_275) rfl (.ref (304 + j)) rfl dX5_readers_30 ?_
  refine am_go hF sgX5_readers_33_840bf 34 [(3, .ref (224 + j)), (0, .ref 0), (1, .int (nI l)), (2, .int (nI d))] [.int (nI l), .ref (304 + j)] sgX5_readers_33_840bfd rfl ?_
  refine am_iald hF (hp_drd T S o hv hv80 (show j < v by omega)) l rfl (show l < 10 by omega) (by decide) dX5_readers_34 ?_
  refine am_top (T 34 (10 * j + l)) (if_pos (show l < 10 by omega)) ?_
  exact am_iret hF hO hret rfl dX5_readers_35 ⟨rfl, rfl⟩
set_option maxRecDepth 100000 in
set_option maxHeartbeats 4000000 in
theorem c_p_readers_n {G : am_S} {T S : am_T} {o : Nat → Int64} {n : Nat} (hn : T 0 0 = nI n) (hn10 : n ≤ 10) {m : Nat} (hm : T 1 0 = nI m) (hm80 : m ≤ 80) {v : Nat} (hv : T 2 0 = nI v) (hv80 : v ≤ 80) (hday : ∀ k, k < m → (T 21 k).toNatClampNeg < v) {t : Nat} (ht : T 3 0 = nI t) (ht4 : t ≤ 400) {l : Nat} (hl : l < n) {d : Nat} (hd : d ≤ t) (h0 : ∀ i, i < v → ¬ T 33 i = nI d) : am_D G yX5_readers (.code yX5_readers cX5_readers 4 (some .int) :: am_G) { frames := 1, cells := 0, slots := 0, locals := 22 } (hp T S o) [.ref 0, .int (nI l), .int (nI d)] (hp T S o) (some (.int 0)) := by
  refine am_of (by decide +kernel) (Nat.le_of_ble_eq_true rfl) ?_
  intro C hse hret hname hF hO
  subst hse
  refine am_go hF sgX5_readers_0_8bcf7 2 [(0, .ref 0), (1, .int (nI l)), (2, .int (nI d))] [.int (nI l), .ref 0] sgX5_readers_0_8bcf7d rfl ?_
  refine am_dV hF hO [.int (nI l)] [] (c_findList (T := T) hn hn10 (show l < n by omega)) myX5_findList vyX5_findList lm_RX5_64 (hp_main _ _ _) rfl rfl 0 0 ⟨Nat.le_of_ble_eq_true rfl, Nat.le_of_ble_eq_true rfl⟩ ⟨Nat.le_of_ble_eq_true rfl, Nat.le_of_ble_eq_true rfl, Nat.le_of_ble_eq_true rfl, Nat.le_of_ble_eq_true rfl⟩ rfl (am_lv_ref (hp_main _ _ _) (am_lv_int (am_lv_int am_lv_nil))) (Nat.le_of_ble_eq_true rfl) dX5_readers_2 [.ref (48 + l)] rfl ?_
  refine am_go hF sgX5_readers_5_e92da 9 [(0, .ref 0), (1, .int (nI l)), (2, .int (nI d))] [.ref 0, .int 0, .int (nI d)] sgX5_readers_5_e92dad rfl ?_
  refine am_getf hF (hp_main T S o) (T := TX5) (N := 9) rfl (inG 5 inG5) 8 (by decide) (List.mem_cons_of_mem _ lf_RX5_47) rfl (.int (T 3 0)) rfl dX5_readers_9 ?_
  refine am_top (nI t) ht ?_
  refine am_dS hF hO [.int (nI d), .int 0, .int (nI t)] [] (c_checkRange (rng_d hd (by omega))) myX5_checkRange syX5_checkRange lm_RX5_118 rfl 0 0 ⟨Nat.le_of_ble_eq_true rfl, Nat.le_of_ble_eq_true rfl⟩ ⟨Nat.le_of_ble_eq_true rfl, Nat.le_of_ble_eq_true rfl, Nat.le_of_ble_eq_true rfl, Nat.le_of_ble_eq_true rfl⟩ rfl (am_lv_ref (hp_main _ _ _) (am_lv_int (am_lv_int am_lv_nil))) (Nat.le_of_ble_eq_true rfl) dX5_readers_12 [] rfl ?_
  refine am_go hF sgX5_readers_15_78e74 17 [(0, .ref 0), (1, .int (nI l)), (2, .int (nI d))] [.int (nI d), .ref 0] sgX5_readers_15_78e74d rfl ?_
  refine am_dV hF hO [.int (nI d)] [] (c_fpd_n (T := T) hv hv80 (hp_main _ _ _) (hp_5 _ _ _) (fun j9 hj9 => hp_day T S o hv hv80 hj9) h0) myX5_findPostDay vyX5_findPostDay lm_RX5_265 (hp_main _ _ _) rfl rfl 0 0 ⟨Nat.le_of_ble_eq_true rfl, Nat.le_of_ble_eq_true rfl⟩ ⟨Nat.le_of_ble_eq_true rfl, Nat.le_of_ble_eq_true rfl, Nat.le_of_ble_eq_true rfl, Nat.le_of_ble_eq_true rfl⟩ rfl (am_lv_ref (hp_main _ _ _) (am_lv_int (am_lv_int am_lv_nil))) (Nat.le_of_ble_eq_true rfl) dX5_readers_17 [.null] rfl ?_
  refine am_astNn hF (i := 3) rfl (by decide) dX5_readers_20 ?_
  refine am_eqL [(3, .null), (0, .ref 0), (1, .int (nI l)), (2, .int (nI d))] rfl ?_
  refine am_aldNn hF (i := 3) rfl rfl dX5_readers_21 ?_
  refine am_ifnonnullN hF dX5_readers_22 ?_
  refine am_go hF sgX5_readers_25_077ad 35 [(3, .null), (0, .ref 0), (1, .int (nI l)), (2, .int (nI d))] [.int 0] sgX5_readers_25_077add rfl ?_
  exact am_iret hF hO hret rfl dX5_readers_35 ⟨rfl, rfl⟩
set_option maxRecDepth 100000 in
set_option maxHeartbeats 4000000 in
theorem c_p_pass_1 {G : am_S} (hG : G.1.stackTraces = false) {T S : am_T} {o : Nat → Int64} {x : Int32} (hx : x < 1 ∨ 50 < x) : am_XD G yX5_pass (.code yX5_pass cX5_pass 3 (some .int) :: am_G) { frames := 8, cells := 1, slots := 6, locals := 135 } (hp T S o) [.ref 0, .int x] am_E3 := by
  refine am_ofX (by decide +kernel) (Nat.le_of_ble_eq_true rfl) ?_
  intro C hse hret hname hF hX
  subst hse
  have hO := hX.1
  refine am_go hF sgX5_pass_0_ccce1 4 [(0, .ref 0), (1, .int x)] [.int 50, .int 1, .int x] sgX5_pass_0_ccce1d rfl ?_
  exact am_xS hF hX [.int x, .int 1, .int 50] [] (c_checkRange_x hG hx) myX5_checkRange syX5_checkRange lm_RX5_118 rfl ⟨Nat.le_of_ble_eq_true rfl, Nat.le_of_ble_eq_true rfl, Nat.le_of_ble_eq_true rfl, Nat.le_of_ble_eq_true rfl⟩ rfl (Nat.le_of_ble_eq_true rfl) dX5_pass_4
set_option maxRecDepth 100000 in
set_option maxHeartbeats 4000000 in
theorem c_p_pass_2 {G : am_S} (hG : G.1.stackTraces = false) {T S : am_T} {o : Nat → Int64} {t : Nat} (ht : T 3 0 = nI t) (ht4 : t ≤ 400) {e : Nat} (he1 : 1 ≤ e) (he : e ≤ 50) (h4 : 400 < t + e) : am_XD G yX5_pass (.code yX5_pass cX5_pass 3 (some .int) :: am_G) { frames := 8, cells := 1, slots := 6, locals := 135 } (hp T S o) [.ref 0, .int (nI e)] am_E2 := by
  refine am_ofX (by decide +kernel) (Nat.le_of_ble_eq_true rfl) ?_
  intro C hse hret hname hF hX
  subst hse
  have hO := hX.1
  refine am_go hF sgX5_pass_0_ccce1 4 [(0, .ref 0), (1, .int (nI e))] [.int 50, .int 1, .int (nI e)] sgX5_pass_0_ccce1d rfl ?_
  refine am_dS hF hO [.int (nI e), .int 1, .int 50] [] (c_checkRange ⟨(show nI 1 ≤ nI e from nI_le he1 (by omega)), (show nI e ≤ nI 50 from nI_le he (by decide))⟩) myX5_checkRange syX5_checkRange lm_RX5_118 rfl 0 0 ⟨Nat.le_of_ble_eq_true rfl, Nat.le_of_ble_eq_true rfl⟩ ⟨Nat.le_of_ble_eq_true rfl, Nat.le_of_ble_eq_true rfl, Nat.le_of_ble_eq_true rfl, Nat.le_of_ble_eq_true rfl⟩ rfl (am_lv_ref (hp_main _ _ _) (am_lv_int am_lv_nil)) (Nat.le_of_ble_eq_true rfl) dX5_pass_4 [] rfl ?_
  refine am_go hF sgX5_pass_7_34db8 8 [(0, .ref 0), (1, .int (nI e))] [.ref 0] sgX5_pass_7_34db8d rfl ?_
  refine am_getf hF (hp_main T S o) (T := TX5) (N := 9) rfl (inG 5 inG5) 8 (by decide) (List.mem_cons_of_mem _ lf_RX5_47) rfl (.int (T 3 0)) rfl dX5_pass_8 ?_
  refine am_top (nI t) ht ?_
  refine am_go hF sgX5_pass_11_ac928 16 [(0, .ref 0), (1, .int (nI e))] [.int 400, .int ((nI t) + (nI e))] sgX5_pass_11_ac928d rfl ?_
  refine am_icmple hF 30 dX5_pass_16 (by decide) (fun h9 => False.elim (nc_gt_f (show 400 < t + e by omega) (by omega) (by omega) (am_ad rfl rfl) rfl h9)) (fun _ => ?_)
  exact am_throwSW hF hX hG (is := 278) (text := "today would be above 400") am_nm (by decide +kernel) am_nm_fit lc_RX5_55 xz2 (by decide) xa2 xg2 dX5_pass_19 dX5_pass_22 dX5_pass_23 dX5_pass_26 dX5_pass_29 ⟨Nat.le_of_ble_eq_true rfl, Nat.le_of_ble_eq_true rfl, Nat.le_of_ble_eq_true rfl, Nat.le_of_ble_eq_true rfl⟩
set_option maxRecDepth 100000 in
set_option maxHeartbeats 4000000 in
theorem c_p_pass_y {G : am_S} {T S : am_T} {o : Nat → Int64} {m : Nat} (hm : T 1 0 = nI m) (hm80 : m ≤ 80) {v : Nat} (hv : T 2 0 = nI v) (hv80 : v ≤ 80) {t : Nat} (ht : T 3 0 = nI t) (ht4 : t ≤ 400) {e : Nat} (he1 : 1 ≤ e) (he : e ≤ 50) (h4 : t + e ≤ 400) {j : Nat} (hj : j < v) (hx : T 33 j = nI t) (h0 : ∀ i, i < j → ¬ T 33 i = nI t) : am_D G yX5_pass (.code yX5_pass cX5_pass 3 (some .int) :: am_G) { frames := 2, cells := 0, slots := 0, locals := 43 } (hp T S o) [.ref 0, .int (nI e)] (hp ((tLapse (st1 (tEnd T j) 3 0 (nI t + nI e)) m).1) S o) (some (.int ((tLapse (st1 (tEnd T j) 3 0 (nI t + nI e)) m).2))) := by
  refine am_of (by decide +kernel) (Nat.le_of_ble_eq_true rfl) ?_
  intro C hse hret hname hF hO
  subst hse
  refine am_go hF sgX5_pass_0_ccce1 4 [(0, .ref 0), (1, .int (nI e))] [.int 50, .int 1, .int (nI e)] sgX5_pass_0_ccce1d rfl ?_
  refine am_dS hF hO [.int (nI e), .int 1, .int 50] [] (c_checkRange ⟨(show nI 1 ≤ nI e from nI_le he1 (by omega)), (show nI e ≤ nI 50 from nI_le he (by decide))⟩) myX5_checkRange syX5_checkRange lm_RX5_118 rfl 0 0 ⟨Nat.le_of_ble_eq_true rfl, Nat.le_of_ble_eq_true rfl⟩ ⟨Nat.le_of_ble_eq_true rfl, Nat.le_of_ble_eq_true rfl, Nat.le_of_ble_eq_true rfl, Nat.le_of_ble_eq_true rfl⟩ rfl (am_lv_ref (hp_main _ _ _) (am_lv_int am_lv_nil)) (Nat.le_of_ble_eq_true rfl) dX5_pass_4 [] rfl ?_
  refine am_go hF sgX5_pass_7_34db8 8 [(0, .ref 0), (1, .int (nI e))] [.ref 0] sgX5_pass_7_34db8d rfl ?_
  refine am_getf hF (hp_main T S o) (T := TX5) (N := 9) rfl (inG 5 inG5) 8 (by decide) (List.mem_cons_of_mem _ lf_RX5_47) rfl (.int (T 3 0)) rfl dX5_pass_8 ?_
  refine am_top (nI t) ht ?_
  refine am_go hF sgX5_pass_11_ac928 16 [(0, .ref 0), (1, .int (nI e))] [.int 400, .int ((nI t) + (nI e))] sgX5_pass_11_ac928d rfl ?_
  refine am_icmple hF 30 dX5_pass_16 (by decide) (fun _ => ?_) (fun h9 => False.elim (absurd (nc_le (show t + e ≤ 400 by omega) (by omega) (by omega) (am_ad rfl rfl) rfl) h9))
  refine am_go hF sgX5_pass_30_c81f7 32 [(0, .ref 0), (1, .int (nI e))] [.ref 0, .ref 0] sgX5_pass_30_c81f7d rfl ?_
  refine am_getf hF (hp_main T S o) (T := TX5) (N := 9) rfl (inG 5 inG5) 8 (by decide) (List.mem_cons_of_mem _ lf_RX5_47) rfl (.int (T 3 0)) rfl dX5_pass_32 ?_
  refine am_top (nI t) ht ?_
  refine am_dV hF hO [.int (nI t)] [] (c_fpd_y (T := T) hv hv80 (hp_main _ _ _) (hp_5 _ _ _) (fun j9 hj9 => hp_day T S o hv hv80 hj9) hj hx h0) myX5_findPostDay vyX5_findPostDay lm_RX5_265 (hp_main _ _ _) rfl rfl 0 0 ⟨Nat.le_of_ble_eq_true rfl, Nat.le_of_ble_eq_true rfl⟩ ⟨Nat.le_of_ble_eq_true rfl, Nat.le_of_ble_eq_true rfl, Nat.le_of_ble_eq_true rfl, Nat.le_of_ble_eq_true rfl⟩ rfl (am_lv_ref (hp_main _ _ _) (am_lv_int am_lv_nil)) (Nat.le_of_ble_eq_true rfl) dX5_pass_35 [.ref (224 + j)] rfl ?_
  refine am_go hF sgX5_pass_38_b4dfd 40 [(2, .ref (224 + j)), (0, .ref 0), (1, .int (nI e))] [.ref (224 + j)] sgX5_pass_38_b4dfdd rfl ?_
  refine am_ifnullR hF dX5_pass_40 ?_
  refine am_go hF sgX5_pass_43_9fb7d 44 [(2, .ref (224 + j)), (0, .ref 0), (1, .int (nI e))] [.ref (224 + j)] sgX5_pass_43_9fb7dd rfl ?_
  refine am_dV hF hO [] [] (c_end (T := T) hv hv80 (show j < v by omega)) myX4_end vyX4_end lm_RX5_280 (hp_day _ _ _ hv hv80 (show j < v by omega)) rfl rfl 0 0 ⟨Nat.le_of_ble_eq_true rfl, Nat.le_of_ble_eq_true rfl⟩ ⟨Nat.le_of_ble_eq_true rfl, Nat.le_of_ble_eq_true rfl, Nat.le_of_ble_eq_true rfl, Nat.le_of_ble_eq_true rfl⟩ rfl (am_lv_ref (hp_day _ _ _ hv hv80 (show j < v by omega)) (am_lv_ref (hp_main _ _ _) (am_lv_int am_lv_nil))) (Nat.le_of_ble_eq_true rfl) dX5_pass_44 [] rfl ?_
  have ht9 : (tEnd T j) 3 0 = nI t := by rw [show tEnd T j 3 = _ from tEnd_f (by decide)]; exact ht
  refine am_go hF sgX5_pass_47_da752 49 [(2, .ref (224 + j)), (0, .ref 0), (1, .int (nI e))] [.ref 0, .ref 0] sgX5_pass_47_da752d rfl ?_
  refine am_getf hF (hp_main (tEnd T j) S o) (T := TX5) (N := 9) rfl (inG 5 inG5) 8 (by decide) (List.mem_cons_of_mem _ lf_RX5_47) rfl (.int ((tEnd T j) 3 0)) rfl dX5_pass_49 ?_
  refine am_top (nI t) ht9 ?_
  refine am_go hF sgX5_pass_52_94ee7 54 [(2, .ref (224 + j)), (0, .ref 0), (1, .int (nI e))] [.int ((nI t) + (nI e)), .ref 0] sgX5_pass_52_94ee7d rfl ?_
  refine am_putf hF (hp_main (tEnd T j) S o) (T := TX5) (N := 9) rfl (inG 5 inG5) tyX5 tyX5_ok nmX5 8 (by decide) (List.mem_cons_of_mem _ lf_RX5_47) rfl (Or.inl rfl) rfl rfl (Nat.le_of_ble_eq_true rfl) dX5_pass_54 ?_
  refine am_eqX (hp (st1 (tEnd T j) 3 0 ((nI t) + (nI e))) S o) (hp_s3 ((nI t) + (nI e))) ?_
  obtain ⟨T8, hT8⟩ : ∃ z, z = (st1 (tEnd T j) 3 0 ((nI t) + (nI e))) := ⟨_, rfl⟩
  refine am_eqX (hp T8 S o) (by rw [hT8]) ?_
  have hm8 : T8 1 0 = nI m := by rw [hT8, st1_f (by decide), show tEnd T j 1 = _ from tEnd_f (by decide)]; exact hm
  have hv8 : T8 2 0 = nI v := by rw [hT8, st1_f (by decide), show tEnd T j 2 = _ from tEnd_f (by decide)]; exact hv
  refine am_go hF sgX5_pass_57_34db8 58 [(2, .ref (224 + j)), (0, .ref 0), (1, .int (nI e))] [.ref 0] sgX5_pass_57_34db8d rfl ?_
  refine am_dV hF hO [] [] (c_lapseHolds (T := T8) hm8 hm80) myX5_lapseHolds vyX5_lapseHolds lm_RX5_283 (hp_main _ _ _) rfl rfl 0 0 ⟨Nat.le_of_ble_eq_true rfl, Nat.le_of_ble_eq_true rfl⟩ ⟨Nat.le_of_ble_eq_true rfl, Nat.le_of_ble_eq_true rfl, Nat.le_of_ble_eq_true rfl, Nat.le_of_ble_eq_true rfl⟩ rfl (am_lv_ref (hp_day _ _ _ hv8 hv80 (show j < v by omega)) (am_lv_ref (hp_main _ _ _) (am_lv_int am_lv_nil))) (Nat.le_of_ble_eq_true rfl) dX5_pass_58 [.int ((tLapse T8 m).2)] rfl ?_
  exact am_iret hF hO hret rfl dX5_pass_61 ⟨by rw [hT8], by rw [hT8]⟩
set_option maxRecDepth 100000 in
set_option maxHeartbeats 4000000 in
theorem c_p_pass_n {G : am_S} {T S : am_T} {o : Nat → Int64} {m : Nat} (hm : T 1 0 = nI m) (hm80 : m ≤ 80) {v : Nat} (hv : T 2 0 = nI v) (hv80 : v ≤ 80) {t : Nat} (ht : T 3 0 = nI t) (ht4 : t ≤ 400) {e : Nat} (he1 : 1 ≤ e) (he : e ≤ 50) (h4 : t + e ≤ 400) (h0 : ∀ i, i < v → ¬ T 33 i = nI t) : am_D G yX5_pass (.code yX5_pass cX5_pass 3 (some .int) :: am_G) { frames := 2, cells := 0, slots := 0, locals := 43 } (hp T S o) [.ref 0, .int (nI e)] (hp ((tLapse (st1 T 3 0 (nI t + nI e)) m).1) S o) (some (.int ((tLapse (st1 T 3 0 (nI t + nI e)) m).2))) := by
  refine am_of (by decide +kernel) (Nat.le_of_ble_eq_true rfl) ?_
  intro C hse hret hname hF hO
  subst hse
  refine am_go hF sgX5_pass_0_ccce1 4 [(0, .ref 0), (1, .int (nI e))] [.int 50, .int 1, .int (nI e)] sgX5_pass_0_ccce1d rfl ?_
  refine am_dS hF hO [.int (nI e), .int 1, .int 50] [] (c_checkRange ⟨(show nI 1 ≤ nI e from nI_le he1 (by omega)), (show nI e ≤ nI 50 from nI_le he (by decide))⟩) myX5_checkRange syX5_checkRange lm_RX5_118 rfl 0 0 ⟨Nat.le_of_ble_eq_true rfl, Nat.le_of_ble_eq_true rfl⟩ ⟨Nat.le_of_ble_eq_true rfl, Nat.le_of_ble_eq_true rfl, Nat.le_of_ble_eq_true rfl, Nat.le_of_ble_eq_true rfl⟩ rfl (am_lv_ref (hp_main _ _ _) (am_lv_int am_lv_nil)) (Nat.le_of_ble_eq_true rfl) dX5_pass_4 [] rfl ?_
  refine am_go hF sgX5_pass_7_34db8 8 [(0, .ref 0), (1, .int (nI e))] [.ref 0] sgX5_pass_7_34db8d rfl ?_
  refine am_getf hF (hp_main T S o) (T := TX5) (N := 9) rfl (inG 5 inG5) 8 (by decide) (List.mem_cons_of_mem _ lf_RX5_47) rfl (.int (T 3 0)) rfl dX5_pass_8 ?_
  refine am_top (nI t) ht ?_
  refine am_go hF sgX5_pass_11_ac928 16 [(0, .ref 0), (1, .int (nI e))] [.int 400, .int ((nI t) + (nI e))] sgX5_pass_11_ac928d rfl ?_
  refine am_icmple hF 30 dX5_pass_16 (by decide) (fun _ => ?_) (fun h9 => False.elim (absurd (nc_le (show t + e ≤ 400 by omega) (by omega) (by omega) (am_ad rfl rfl) rfl) h9))
  refine am_go hF sgX5_pass_30_c81f7 32 [(0, .ref 0), (1, .int (nI e))] [.ref 0, .ref 0] sgX5_pass_30_c81f7d rfl ?_
  refine am_getf hF (hp_main T S o) (T := TX5) (N := 9) rfl (inG 5 inG5) 8 (by decide) (List.mem_cons_of_mem _ lf_RX5_47) rfl (.int (T 3 0)) rfl dX5_pass_32 ?_
  refine am_top (nI t) ht ?_
  refine am_dV hF hO [.int (nI t)] [] (c_fpd_n (T := T) hv hv80 (hp_main _ _ _) (hp_5 _ _ _) (fun j9 hj9 => hp_day T S o hv hv80 hj9) h0) myX5_findPostDay vyX5_findPostDay lm_RX5_265 (hp_main _ _ _) rfl rfl 0 0 ⟨Nat.le_of_ble_eq_true rfl, Nat.le_of_ble_eq_true rfl⟩ ⟨Nat.le_of_ble_eq_true rfl, Nat.le_of_ble_eq_true rfl, Nat.le_of_ble_eq_true rfl, Nat.le_of_ble_eq_true rfl⟩ rfl (am_lv_ref (hp_main _ _ _) (am_lv_int am_lv_nil)) (Nat.le_of_ble_eq_true rfl) dX5_pass_35 [.null] rfl ?_
  refine am_astNn hF (i := 2) rfl (by decide) dX5_pass_38 ?_
  refine am_eqL [(2, .null), (0, .ref 0), (1, .int (nI e))] rfl ?_
  refine am_aldNn hF (i := 2) rfl rfl dX5_pass_39 ?_
  refine am_ifnullN hF 47 dX5_pass_40 (by decide) ?_
  refine am_go hF sgX5_pass_47_da752 49 [(2, .null), (0, .ref 0), (1, .int (nI e))] [.ref 0, .ref 0] sgX5_pass_47_da752d rfl ?_
  refine am_getf hF (hp_main T S o) (T := TX5) (N := 9) rfl (inG 5 inG5) 8 (by decide) (List.mem_cons_of_mem _ lf_RX5_47) rfl (.int (T 3 0)) rfl dX5_pass_49 ?_
  refine am_top (nI t) ht ?_
  refine am_go hF sgX5_pass_52_94ee7 54 [(2, .null), (0, .ref 0), (1, .int (nI e))] [.int ((nI t) + (nI e)), .ref 0] sgX5_pass_52_94ee7d rfl ?_
  refine am_putf hF (hp_main T S o) (T := TX5) (N := 9) rfl (inG 5 inG5) tyX5 tyX5_ok nmX5 8 (by decide) (List.mem_cons_of_mem _ lf_RX5_47) rfl (Or.inl rfl) rfl rfl (Nat.le_of_ble_eq_true rfl) dX5_pass_54 ?_
  refine am_eqX (hp (st1 T 3 0 ((nI t) + (nI e))) S o) (hp_s3 ((nI t) + (nI e))) ?_
  obtain ⟨T8, hT8⟩ : ∃ z, z = (st1 T 3 0 ((nI t) + (nI e))) := ⟨_, rfl⟩
  refine am_eqX (hp T8 S o) (by rw [hT8]) ?_
  have hm8 : T8 1 0 = nI m := by rw [hT8, st1_f (by decide)]; exact hm
  refine am_go hF sgX5_pass_57_34db8 58 [(2, .null), (0, .ref 0), (1, .int (nI e))] [.ref 0] sgX5_pass_57_34db8d rfl ?_
  refine am_dV hF hO [] [] (c_lapseHolds (T := T8) hm8 hm80) myX5_lapseHolds vyX5_lapseHolds lm_RX5_283 (hp_main _ _ _) rfl rfl 0 0 ⟨Nat.le_of_ble_eq_true rfl, Nat.le_of_ble_eq_true rfl⟩ ⟨Nat.le_of_ble_eq_true rfl, Nat.le_of_ble_eq_true rfl, Nat.le_of_ble_eq_true rfl, Nat.le_of_ble_eq_true rfl⟩ rfl (am_lv_null (am_lv_ref (hp_main _ _ _) (am_lv_int am_lv_nil))) (Nat.le_of_ble_eq_true rfl) dX5_pass_58 [.int ((tLapse T8 m).2)] rfl ?_
  exact am_iret hF hO hret rfl dX5_pass_61 ⟨by rw [hT8], by rw [hT8]⟩
