/-! the class: what the law calls, 3 -/
def sgX5_list_23_34db8 : List Instr := [.aload_n 0]
theorem sgX5_list_23_34db8d : am_dec cX5_list 23 sgX5_list_23_34db8 = true := by decide +kernel
theorem dX5_list_24 : decode cX5_list 24 = .ok (.getfield 21, 3) := by decide +kernel
def sgX5_list_27_34db8 : List Instr := [.aload_n 0]
theorem sgX5_list_27_34db8d : am_dec cX5_list 27 sgX5_list_27_34db8 = true := by decide +kernel
theorem dX5_list_28 : decode cX5_list 28 = .ok (.getfield 25, 3) := by decide +kernel
theorem dX5_list_31 : decode cX5_list 31 = .ok (.new 19, 3) := by decide +kernel
def sgX5_list_34_8954f : List Instr := [.dup, .iload_n 1]
theorem sgX5_list_34_8954fd : am_dec cX5_list 34 sgX5_list_34_8954f = true := by decide +kernel
theorem dX5_list_36 : decode cX5_list 36 = .ok (.invokespecial 62, 3) := by decide +kernel
theorem dX5_list_39 : decode cX5_list 39 = .ok (.aastore, 1) := by decide +kernel
def sgX5_list_40_da752 : List Instr := [.aload_n 0, .dup]
theorem sgX5_list_40_da752d : am_dec cX5_list 40 sgX5_list_40_da752 = true := by decide +kernel
theorem dX5_list_42 : decode cX5_list 42 = .ok (.getfield 25, 3) := by decide +kernel
def sgX5_list_45_c7176 : List Instr := [.iconst 1, .iadd]
theorem sgX5_list_45_c7176d : am_dec cX5_list 45 sgX5_list_45_c7176 = true := by decide +kernel
theorem dX5_list_47 : decode cX5_list 47 = .ok (.putfield 25, 3) := by decide +kernel
def sgX5_list_50_34db8 : List Instr := [.aload_n 0]
theorem sgX5_list_50_34db8d : am_dec cX5_list 50 sgX5_list_50_34db8 = true := by decide +kernel
theorem dX5_list_51 : decode cX5_list 51 = .ok (.getfield 25, 3) := by decide +kernel
def sgX5_list_54_d80e0 : List Instr := [.iconst 1, .isub]
theorem sgX5_list_54_d80e0d : am_dec cX5_list 54 sgX5_list_54_d80e0 = true := by decide +kernel
theorem dX5_list_56 : decode cX5_list 56 = .ok (.ireturn, 1) := by decide +kernel
theorem dX5_digest_63 : decode cX5_digest 63 = .ok (.new 260, 3) := by decide +kernel
theorem dX5_digest_66 : decode cX5_digest 66 = .ok (.dup, 1) := by decide +kernel
theorem dX5_digest_67 : decode cX5_digest 67 = .ok (.ldc_w 262, 3) := by decide +kernel
theorem dX5_digest_70 : decode cX5_digest 70 = .ok (.invokespecial 264, 3) := by decide +kernel
theorem dX5_digest_73 : decode cX5_digest 73 = .ok (.athrow, 1) := by decide +kernel
def sgX5_appeal_0_8bcf7 : List Instr := [.aload_n 0, .iload_n 1]
theorem sgX5_appeal_0_8bcf7d : am_dec cX5_appeal 0 sgX5_appeal_0_8bcf7 = true := by decide +kernel
theorem dX5_appeal_2 : decode cX5_appeal 2 = .ok (.invokevirtual 150, 3) := by decide +kernel
def sgX5_appeal_5_b4dfd : List Instr := [.astore_n 2, .aload_n 2]
theorem sgX5_appeal_5_b4dfdd : am_dec cX5_appeal 5 sgX5_appeal_5_b4dfd = true := by decide +kernel
theorem dX5_appeal_7 : decode cX5_appeal 7 = .ok (.getfield 183, 3) := by decide +kernel
def sgX5_appeal_10_4de0a : List Instr := [.iconst 1]
theorem sgX5_appeal_10_4de0ad : am_dec cX5_appeal 10 sgX5_appeal_10_4de0a = true := by decide +kernel
theorem dX5_appeal_11 : decode cX5_appeal 11 = .ok (.if_icmp .ne 10, 3) := by decide +kernel
theorem dX5_appeal_21 : decode cX5_appeal 21 = .ok (.new 55, 3) := by decide +kernel
theorem dX5_appeal_24 : decode cX5_appeal 24 = .ok (.dup, 1) := by decide +kernel
theorem dX5_appeal_25 : decode cX5_appeal 25 = .ok (.ldc 193, 2) := by decide +kernel
theorem dX5_appeal_27 : decode cX5_appeal 27 = .ok (.invokespecial 59, 3) := by decide +kernel
theorem dX5_appeal_30 : decode cX5_appeal 30 = .ok (.athrow, 1) := by decide +kernel
def sgX5_appeal_14_9fb7d : List Instr := [.aload_n 2]
theorem sgX5_appeal_14_9fb7dd : am_dec cX5_appeal 14 sgX5_appeal_14_9fb7d = true := by decide +kernel
theorem dX5_appeal_15 : decode cX5_appeal 15 = .ok (.getfield 189, 3) := by decide +kernel
theorem dX5_appeal_18 : decode cX5_appeal 18 = .ok (.ifnull 13, 3) := by decide +kernel
def sgX5_appeal_31_6a431 : List Instr := [.aload_n 0, .aload_n 2]
theorem sgX5_appeal_31_6a431d : am_dec cX5_appeal 31 sgX5_appeal_31_6a431 = true := by decide +kernel
theorem dX5_appeal_33 : decode cX5_appeal 33 = .ok (.invokevirtual 195, 3) := by decide +kernel
def sgX5_appeal_36_54d08 : List Instr := [.istore_n 3, .iload_n 3]
theorem sgX5_appeal_36_54d08d : am_dec cX5_appeal 36 sgX5_appeal_36_54d08 = true := by decide +kernel
theorem dX5_appeal_38 : decode cX5_appeal 38 = .ok (.invokestatic 84, 3) := by decide +kernel
def sgX5_appeal_41_800cc : List Instr := [.iconst 3]
theorem sgX5_appeal_41_800ccd : am_dec cX5_appeal 41 sgX5_appeal_41_800cc = true := by decide +kernel
theorem dX5_appeal_42 : decode cX5_appeal 42 = .ok (.if_icmp .ge 13, 3) := by decide +kernel
theorem dX5_appeal_45 : decode cX5_appeal 45 = .ok (.new 55, 3) := by decide +kernel
theorem dX5_appeal_48 : decode cX5_appeal 48 = .ok (.dup, 1) := by decide +kernel
theorem dX5_appeal_49 : decode cX5_appeal 49 = .ok (.ldc 199, 2) := by decide +kernel
theorem dX5_appeal_51 : decode cX5_appeal 51 = .ok (.invokespecial 59, 3) := by decide +kernel
theorem dX5_appeal_54 : decode cX5_appeal 54 = .ok (.athrow, 1) := by decide +kernel
def sgX5_appeal_55_245fd : List Instr := [.aload_n 0, .iload_n 3]
theorem sgX5_appeal_55_245fdd : am_dec cX5_appeal 55 sgX5_appeal_55_245fd = true := by decide +kernel
theorem dX5_appeal_57 : decode cX5_appeal 57 = .ok (.invokevirtual 201, 3) := by decide +kernel
def sgX5_appeal_60_7fb8d : List Instr := [.istore 4, .aload_n 2]
theorem sgX5_appeal_60_7fb8dd : am_dec cX5_appeal 60 sgX5_appeal_60_7fb8d = true := by decide +kernel
theorem dX5_appeal_63 : decode cX5_appeal 63 = .ok (.new 204, 3) := by decide +kernel
def sgX5_appeal_66_e5116 : List Instr := [.dup, .iload 4]
theorem sgX5_appeal_66_e5116d : am_dec cX5_appeal 66 sgX5_appeal_66_e5116 = true := by decide +kernel
theorem dX5_appeal_69 : decode cX5_appeal 69 = .ok (.invokespecial 206, 3) := by decide +kernel
theorem dX5_appeal_72 : decode cX5_appeal 72 = .ok (.putfield 189, 3) := by decide +kernel
def sgX5_appeal_75_c6742 : List Instr := [.iload 4]
theorem sgX5_appeal_75_c6742d : am_dec cX5_appeal 75 sgX5_appeal_75_c6742 = true := by decide +kernel
theorem dX5_appeal_77 : decode cX5_appeal 77 = .ok (.ireturn, 1) := by decide +kernel
def sgX5_vote_0_8bcf7 : List Instr := [.aload_n 0, .iload_n 1]
theorem sgX5_vote_0_8bcf7d : am_dec cX5_vote 0 sgX5_vote_0_8bcf7 = true := by decide +kernel
theorem dX5_vote_2 : decode cX5_vote 2 = .ok (.invokevirtual 150, 3) := by decide +kernel
def sgX5_vote_5_72c52 : List Instr := [.astore 4, .iload_n 2]
theorem sgX5_vote_5_72c52d : am_dec cX5_vote 5 sgX5_vote_5_72c52 = true := by decide +kernel
theorem dX5_vote_8 : decode cX5_vote 8 = .ok (.invokestatic 51, 3) := by decide +kernel
def sgX5_vote_11_cbbc5 : List Instr := [.aload 4]
theorem sgX5_vote_11_cbbc5d : am_dec cX5_vote 11 sgX5_vote_11_cbbc5 = true := by decide +kernel
theorem dX5_vote_13 : decode cX5_vote 13 = .ok (.getfield 189, 3) := by decide +kernel
theorem dX5_vote_16 : decode cX5_vote 16 = .ok (.astore 5, 2) := by decide +kernel
theorem dX5_vote_18 : decode cX5_vote 18 = .ok (.aload 5, 2) := by decide +kernel
theorem dX5_vote_20 : decode cX5_vote 20 = .ok (.ifnull 15, 3) := by decide +kernel
theorem dX5_vote_35 : decode cX5_vote 35 = .ok (.new 55, 3) := by decide +kernel
theorem dX5_vote_38 : decode cX5_vote 38 = .ok (.dup, 1) := by decide +kernel
theorem dX5_vote_39 : decode cX5_vote 39 = .ok (.ldc 211, 2) := by decide +kernel
theorem dX5_vote_41 : decode cX5_vote 41 = .ok (.invokespecial 59, 3) := by decide +kernel
theorem dX5_vote_44 : decode cX5_vote 44 = .ok (.athrow, 1) := by decide +kernel
def sgX5_vote_16_8f200 : List Instr := [.astore 5, .aload 5]
theorem sgX5_vote_16_8f200d : am_dec cX5_vote 16 sgX5_vote_16_8f200 = true := by decide +kernel
def sgX5_vote_23_51faf : List Instr := [.aload 5]
theorem sgX5_vote_23_51fafd : am_dec cX5_vote 23 sgX5_vote_23_51faf = true := by decide +kernel
theorem dX5_vote_25 : decode cX5_vote 25 = .ok (.invokevirtual 207, 3) := by decide +kernel
def sgX5_vote_28_f8a59 : List Instr := [.iload_n 2]
theorem sgX5_vote_28_f8a59d : am_dec cX5_vote 28 sgX5_vote_28_f8a59 = true := by decide +kernel
theorem dX5_vote_29 : decode cX5_vote 29 = .ok (.invokestatic 103, 3) := by decide +kernel
theorem dX5_vote_32 : decode cX5_vote 32 = .ok (.ifCond .ne 13, 3) := by decide +kernel
def sgX5_vote_45_9e85e : List Instr := [.aload 5, .iload_n 2, .iload_n 3]
theorem sgX5_vote_45_9e85ed : am_dec cX5_vote 45 sgX5_vote_45_9e85e = true := by decide +kernel
theorem dX5_vote_49 : decode cX5_vote 49 = .ok (.invokevirtual 213, 3) := by decide +kernel
def sgX5_vote_52_34db8 : List Instr := [.aload_n 0]
theorem sgX5_vote_52_34db8d : am_dec cX5_vote 52 sgX5_vote_52_34db8 = true := by decide +kernel
theorem dX5_vote_53 : decode cX5_vote 53 = .ok (.getfield 11, 3) := by decide +kernel
def sgX5_vote_56_f8a59 : List Instr := [.iload_n 2]
theorem sgX5_vote_56_f8a59d : am_dec cX5_vote 56 sgX5_vote_56_f8a59 = true := by decide +kernel
theorem dX5_vote_57 : decode cX5_vote 57 = .ok (.aaload, 1) := by decide +kernel
def sgX5_vote_58_4b010 : List Instr := [.dup]
theorem sgX5_vote_58_4b010d : am_dec cX5_vote 58 sgX5_vote_58_4b010 = true := by decide +kernel
theorem dX5_vote_59 : decode cX5_vote 59 = .ok (.getfield 217, 3) := by decide +kernel
def sgX5_vote_62_c7176 : List Instr := [.iconst 1, .iadd]
theorem sgX5_vote_62_c7176d : am_dec cX5_vote 62 sgX5_vote_62_c7176 = true := by decide +kernel
theorem dX5_vote_64 : decode cX5_vote 64 = .ok (.putfield 217, 3) := by decide +kernel
def sgX5_vote_67_53887 : List Instr := [.aload 5, .iconst 1]
theorem sgX5_vote_67_53887d : am_dec cX5_vote 67 sgX5_vote_67_53887 = true := by decide +kernel
theorem dX5_vote_70 : decode cX5_vote 70 = .ok (.invokevirtual 220, 3) := by decide +kernel
theorem dX5_vote_73 : decode cX5_vote 73 = .ok (.ifCond .eq 12, 3) := by decide +kernel
def sgX5_vote_76_2c84d : List Instr := [.aload_n 0, .aload 4]
theorem sgX5_vote_76_2c84dd : am_dec cX5_vote 76 sgX5_vote_76_2c84d = true := by decide +kernel
theorem dX5_vote_79 : decode cX5_vote 79 = .ok (.invokevirtual 224, 3) := by decide +kernel
def sgX5_vote_82_4d408 : List Instr := [.goto 18]
theorem sgX5_vote_82_4d408d : am_dec cX5_vote 82 sgX5_vote_82_4d408 = true := by decide +kernel
def sgX5_vote_100_cbbc5 : List Instr := [.aload 4]
theorem sgX5_vote_100_cbbc5d : am_dec cX5_vote 100 sgX5_vote_100_cbbc5 = true := by decide +kernel
theorem dX5_vote_102 : decode cX5_vote 102 = .ok (.getfield 183, 3) := by decide +kernel
theorem dX5_vote_105 : decode cX5_vote 105 = .ok (.ireturn, 1) := by decide +kernel
def sgX5_vote_85_dd918 : List Instr := [.aload 5, .iconst 0]
theorem sgX5_vote_85_dd918d : am_dec cX5_vote 85 sgX5_vote_85_dd918 = true := by decide +kernel
theorem dX5_vote_88 : decode cX5_vote 88 = .ok (.invokevirtual 220, 3) := by decide +kernel
theorem dX5_vote_91 : decode cX5_vote 91 = .ok (.ifCond .eq 9, 3) := by decide +kernel
def sgX5_vote_94_2c84d : List Instr := [.aload_n 0, .aload 4]
theorem sgX5_vote_94_2c84dd : am_dec cX5_vote 94 sgX5_vote_94_2c84d = true := by decide +kernel
theorem dX5_vote_97 : decode cX5_vote 97 = .ok (.invokevirtual 227, 3) := by decide +kernel
theorem tNewM_safe {T : am_T} {n m v j p l : Nat} {x5 x6 x7 : Int32} (h : tSafe T n m v) (hm : m < 80) (hj : j < v) (hp9 : p < 16) (hl : l < n) : tSafe (tNewM T m j (nI p) (nI l) x5 x6 x7) n (m + 1) v := by
  obtain ⟨a1, a2, a3, a4, a5, a6, a7, a8⟩ := h
  refine ⟨by rw [tNewM_f (by decide)]; exact a1, a2, by rw [tNewM_1, nI_1], by omega, by rw [tNewM_f (by decide)]; exact a5, a6, by rw [tNewM_f (by decide)]; exact a7, fun k hk => ?_⟩
  by_cases hkm : k = m
  · subst hkm
    refine ⟨?_, ⟨p, hp9, tNewM_19⟩, l, hl, tNewM_20⟩
    rw [tNewM_21, nI_clamp (by omega)]
    exact hj
  · have h8 := a8 k (by omega)
    rw [tNewM_ne (by decide) hkm, tNewM_ne (by decide) hkm, tNewM_ne (by decide) hkm]
    exact h8
theorem tNewD_safe {T : am_T} {n m v : Nat} (h : tSafe T n m v) (hv80 : v < 80) : tSafe (tNewD T v) n m (v + 1) := by
  obtain ⟨a1, a2, a3, a4, a5, a6, a7, a8⟩ := h
  refine ⟨by rw [tNewD_f (by decide)]; exact a1, a2, by rw [tNewD_f (by decide)]; exact a3, a4, by rw [tNewD_2, nI_1], by omega, by rw [tNewD_f (by decide)]; exact a7, fun k hk => ?_⟩
  rw [tNewD_f (by decide), tNewD_f (by decide), tNewD_f (by decide)]
  obtain ⟨h1, h2⟩ := a8 k hk
  exact ⟨by omega, h2⟩
set_option maxRecDepth 100000 in
set_option maxHeartbeats 4000000 in
theorem c_p_list_n {G : am_S} {T S : am_T} {o : Nat → Int64} {n m v : Nat} (hs : tSafe T n m v) (h10 : n < 10) {p : Nat} (hp9 : p < 16) : am_D G yX5_list (.code yX5_list cX5_list 2 (some .int) :: am_G) { frames := 2, cells := 1, slots := 8, locals := 41 } (hp T S o) [.ref 0, .int (nI p)] (hp (tNewL T n (nI p)) S o) (some (.int (nI n))) := by
  refine am_of (by decide +kernel) (Nat.le_of_ble_eq_true rfl) ?_
  intro C hse hret hname hF hO
  subst hse
  have hs9 := hs
  obtain ⟨hn, hn10, hm, hm80, hv, hv80, hbx, hmm⟩ := hs
  refine am_go hF sgX5_list_0_840bf 1 [(0, .ref 0), (1, .int (nI p))] [.int (nI p)] sgX5_list_0_840bfd rfl ?_
  refine am_dS hF hO [.int (nI p)] [] (c_checkPerson (show p < 16 by omega)) myX5_checkPerson syX5_checkPerson lm_RX5_51 rfl 0 0 ⟨Nat.le_of_ble_eq_true rfl, Nat.le_of_ble_eq_true rfl⟩ ⟨Nat.le_of_ble_eq_true rfl, Nat.le_of_ble_eq_true rfl, Nat.le_of_ble_eq_true rfl, Nat.le_of_ble_eq_true rfl⟩ rfl (am_lv_ref (hp_main _ _ _) (am_lv_int am_lv_nil)) (Nat.le_of_ble_eq_true rfl) dX5_list_1 [] rfl ?_
  refine am_go hF sgX5_list_4_34db8 5 [(0, .ref 0), (1, .int (nI p))] [.ref 0] sgX5_list_4_34db8d rfl ?_
  refine am_getf hF (hp_main T S o) (T := TX5) (N := 9) rfl (inG 5 inG5) 3 (by decide) (List.mem_cons_of_mem _ lf_RX5_25) rfl (.int (T 0 0)) rfl dX5_list_5 ?_
  refine am_top (nI n) hn ?_
  refine am_go hF sgX5_list_8_ee951 10 [(0, .ref 0), (1, .int (nI p))] [.int 10, .int (nI n)] sgX5_list_8_ee951d rfl ?_
  refine am_icmplt hF 23 dX5_list_10 (by decide) (fun _ => ?_) (fun h9 => False.elim (absurd (nc_lt (show n < 10 by omega) (by omega) (by omega) rfl rfl) h9))
  refine am_go hF sgX5_list_23_34db8 24 [(0, .ref 0), (1, .int (nI p))] [.ref 0] sgX5_list_23_34db8d rfl ?_
  refine am_getf hF (hp_main T S o) (T := TX5) (N := 9) rfl (inG 5 inG5) 2 (by decide) (List.mem_cons_of_mem _ lf_RX5_21) rfl (.ref 3) rfl dX5_list_24 ?_
  refine am_go hF sgX5_list_27_34db8 28 [(0, .ref 0), (1, .int (nI p))] [.ref 0, .ref 3] sgX5_list_27_34db8d rfl ?_
  refine am_getf hF (hp_main T S o) (T := TX5) (N := 9) rfl (inG 5 inG5) 3 (by decide) (List.mem_cons_of_mem _ lf_RX5_25) rfl (.int (T 0 0)) rfl dX5_list_28 ?_
  refine am_top (nI n) hn ?_
  have hi31 : (hp T S o) (48 + n) = none := (hp_nolist T S o hn hn10 (Nat.lt_irrefl n) (by omega))
  refine am_new hF hO (48 + n) hi31 (ci := 2) rfl (inG 2 inG2) tyX2 tyX2_ok (List.mem_cons_of_mem _ lc_RX5_19) (List.mem_cons_of_mem _ li_RX2) (List.mem_cons_of_mem _ lz_RX2) (fs := [.int 0, .int 0, .int 0, .int 0, .int 0, .int 0, .int 0, .int 0]) hfsX2 (fun _ => rfl) (am_cl_fr (hp_cl hs9) hi31) (am_nr_c (fun h => (show ¬ (0 = 48 + n) by omega) (Value.ref.inj h)) (am_nr_c (fun h => by cases h) (am_nr_c (fun h => by cases h) (am_nr_c (fun h => (show ¬ (3 = 48 + n) by omega) (Value.ref.inj h)) am_nr_nil)))) 1 8 ⟨Nat.le_of_ble_eq_true rfl, Nat.le_of_ble_eq_true rfl, Nat.le_of_ble_eq_true rfl, Nat.le_of_ble_eq_true rfl⟩ dX5_list_31 ?_
  refine am_go hF sgX5_list_34_8954f 36 [(0, .ref 0), (1, .int (nI p))] [.int (nI p), .ref (48 + n), .ref (48 + n), .int (nI n), .ref 3] sgX5_list_34_8954fd rfl ?_
  refine am_dI hF hO [.int (nI p)] [.ref (48 + n), .int (nI n), .ref 3] (c_newL (i := 48 + n) (am_us _ _ _)) myX2_init iyX2_init rfl lm_RX5_62 rfl 1 8 ⟨Nat.le_of_ble_eq_true rfl, Nat.le_of_ble_eq_true rfl⟩ ⟨Nat.le_of_ble_eq_true rfl, Nat.le_of_ble_eq_true rfl, Nat.le_of_ble_eq_true rfl, Nat.le_of_ble_eq_true rfl⟩ rfl (am_lv_ref (am_un (show 0 ≠ 48 + n by omega) (hp_main T S o)) (am_lv_int (am_lv_ref (am_us _ _ _) (am_lv_int (am_lv_ref (am_un (show 3 ≠ 48 + n by omega) (hp_3 T S o)) am_lv_nil))))) (Nat.le_of_ble_eq_true rfl) dX5_list_36 ?_
  refine am_eqX (am_u (hp T S o) (48 + n) (.inr (2, [.int (nI p), .int 0, .int 0, .int 0, .int 0, .int 10, .int 7, .int 0]))) (am_uu _ _ _ _) ?_
  refine am_aast hF (am_un (show 3 ≠ 48 + n by omega) (hp_3 T S o)) (by decide) (show vwCl[2]? = some (RX2, TX2, 8) from rfl) rfl (am_us _ _ _) n rfl (show n < 10 by omega) (by decide) dX5_list_39 ?_
  refine am_eqX (am_u (am_u (hp T S o) (48 + n) (.inr (2, [.int (nI p), .int 0, .int 0, .int 0, .int 0, .int 10, .int 7, .int 0]))) 3 (.inl (3, 10, .inr (.inr (.inr (.inr (va_up (fun l => if l < tN T 0 then some (48 + l) else none) n (some (48 + n))))))))) (rfl) ?_
  refine am_go hF sgX5_list_40_da752 42 [(0, .ref 0), (1, .int (nI p))] [.ref 0, .ref 0] sgX5_list_40_da752d rfl ?_
  refine am_getf hF (am_un (show 0 ≠ 3 by omega) (am_un (show 0 ≠ 48 + n by omega) (hp_main T S o))) (T := TX5) (N := 9) rfl (inG 5 inG5) 3 (by decide) (List.mem_cons_of_mem _ lf_RX5_25) rfl (.int (T 0 0)) rfl dX5_list_42 ?_
  refine am_top (nI n) hn ?_
  refine am_go hF sgX5_list_45_c7176 47 [(0, .ref 0), (1, .int (nI p))] [.int ((nI n) + 1), .ref 0] sgX5_list_45_c7176d rfl ?_
  refine am_putf hF (am_un (show 0 ≠ 3 by omega) (am_un (show 0 ≠ 48 + n by omega) (hp_main T S o))) (T := TX5) (N := 9) rfl (inG 5 inG5) tyX5 tyX5_ok nmX5 3 (by decide) (List.mem_cons_of_mem _ lf_RX5_25) rfl (Or.inl rfl) rfl rfl (Nat.le_of_ble_eq_true rfl) dX5_list_47 ?_
  refine am_eqX (am_u (am_u (am_u (hp T S o) (48 + n) (.inr (2, [.int (nI p), .int 0, .int 0, .int 0, .int 0, .int 10, .int 7, .int 0]))) 3 (.inl (3, 10, .inr (.inr (.inr (.inr (va_up (fun l => if l < tN T 0 then some (48 + l) else none) n (some (48 + n))))))))) 0 (.inr (5, [.ref 1, .ref 2, .ref 3, .int ((nI n) + 1), .ref 4, .int (T 1 0), .ref 5, .int (T 2 0), .int (T 3 0)]))) (rfl) ?_
  refine am_go hF sgX5_list_50_34db8 51 [(0, .ref 0), (1, .int (nI p))] [.ref 0] sgX5_list_50_34db8d rfl ?_
  refine am_getf hF (am_us _ _ _) (T := TX5) (N := 9) rfl (inG 5 inG5) 3 (by decide) (List.mem_cons_of_mem _ lf_RX5_25) rfl (.int ((nI n) + 1)) rfl dX5_list_51 ?_
  refine am_go hF sgX5_list_54_d80e0 56 [(0, .ref 0), (1, .int (nI p))] [.int (((nI n) + 1) - 1)] sgX5_list_54_d80e0d rfl ?_
  exact am_iret hF hO hret rfl dX5_list_56 ⟨hp_newl hn h10 hm hm80 hv hv80, by rw [nI_1, nI_pred]⟩
set_option maxRecDepth 100000 in
set_option maxHeartbeats 4000000 in
theorem c_p_digest_x {G : am_S} (hG : G.1.stackTraces = false) {T S : am_T} {o : Nat → Int64} {n : Nat} (hn : T 0 0 = nI n) (hn10 : n ≤ 10) {m : Nat} (hm : T 1 0 = nI m) (hm80 : m ≤ 80) {v : Nat} (hv : T 2 0 = nI v) (hv80 : v ≤ 80) (hday : ∀ k, k < m → (T 21 k).toNatClampNeg < v) {t : Nat} (ht : T 3 0 = nI t) (ht4 : t ≤ 400) {l : Nat} (hl : l < n) {d : Nat} (hd : d ≤ t) {z : Int32} (h0 : ∀ i, i < m → (T 33 (T 21 i).toNatClampNeg = nI d ∧ bt (T 27 i) l = true) → ¬ itN (tsz T l (nI d)) 0 i = z) : am_XD G yX5_digest (.code yX5_digest cX5_digest 6 (some .int) :: am_G) { frames := 8, cells := 1, slots := 6, locals := 135 } (hp T S o) [.ref 0, .int (nI l), .int (nI d), .int z] am_E4 := by
  refine am_ofX (by decide +kernel) (Nat.le_of_ble_eq_true rfl) ?_
  intro C hse hret hname hF hX
  subst hse
  have hO := hX.1
  refine am_go hF sgX5_digest_0_8bcf7 2 [(0, .ref 0), (1, .int (nI l)), (2, .int (nI d)), (3, .int z)] [.int (nI l), .ref 0] sgX5_digest_0_8bcf7d rfl ?_
  refine am_dV hF hO [.int (nI l)] [] (c_findList (T := T) hn hn10 (show l < n by omega)) myX5_findList vyX5_findList lm_RX5_64 (hp_main _ _ _) rfl rfl 0 0 ⟨Nat.le_of_ble_eq_true rfl, Nat.le_of_ble_eq_true rfl⟩ ⟨Nat.le_of_ble_eq_true rfl, Nat.le_of_ble_eq_true rfl, Nat.le_of_ble_eq_true rfl, Nat.le_of_ble_eq_true rfl⟩ rfl (am_lv_ref (hp_main _ _ _) (am_lv_int (am_lv_int (am_lv_int am_lv_nil)))) (Nat.le_of_ble_eq_true rfl) dX5_digest_2 [.ref (48 + l)] rfl ?_
  refine am_go hF sgX5_digest_5_e92da 9 [(0, .ref 0), (1, .int (nI l)), (2, .int (nI d)), (3, .int z)] [.ref 0, .int 0, .int (nI d)] sgX5_digest_5_e92dad rfl ?_
  refine am_getf hF (hp_main T S o) (T := TX5) (N := 9) rfl (inG 5 inG5) 8 (by decide) (List.mem_cons_of_mem _ lf_RX5_47) rfl (.int (T 3 0)) rfl dX5_digest_9 ?_
  refine am_top (nI t) ht ?_
  refine am_dS hF hO [.int (nI d), .int 0, .int (nI t)] [] (c_checkRange (rng_d hd (by omega))) myX5_checkRange syX5_checkRange lm_RX5_118 rfl 0 0 ⟨Nat.le_of_ble_eq_true rfl, Nat.le_of_ble_eq_true rfl⟩ ⟨Nat.le_of_ble_eq_true rfl, Nat.le_of_ble_eq_true rfl, Nat.le_of_ble_eq_true rfl, Nat.le_of_ble_eq_true rfl⟩ rfl (am_lv_ref (hp_main _ _ _) (am_lv_int (am_lv_int (am_lv_int am_lv_nil)))) (Nat.le_of_ble_eq_true rfl) dX5_digest_12 [] rfl ?_
  refine am_go hF sgX5_digest_15_bc7fe 21 [(5, .int 0), (4, .int 0), (0, .ref 0), (1, .int (nI l)), (2, .int (nI d)), (3, .int z)] [] sgX5_digest_15_bc7fed rfl ?_
  refine am_drop [2, 3, 4, 5, 1, 0] [(0, .ref 0), (1, .int (nI l)), (2, .int (nI d)), (3, .int z), (4, .int 0), (5, .int 0)] rfl ?_
  have lp21 : ∀ (dd i : Nat) (a : Int32), i + dd = m → a = itN (tsz T l (nI d)) 0 i → am_W C (hp T S o) 0 0 21 [(0, .ref 0), (1, .int (nI l)), (2, .int (nI d)), (3, .int z), (4, .int a), (5, .int (nI i))] [] := by
    intro dd
    induction dd with
    | zero =>
      intro i a hi ha
      have hd9 : i < m → (T 21 i).toNatClampNeg < v := hday i
      refine am_go hF sgX5_digest_21_e57aa 24 [(0, .ref 0), (1, .int (nI l)), (2, .int (nI d)), (3, .int z), (4, .int a), (5, .int (nI i))] [.ref 0, .int (nI i)] sgX5_digest_21_e57aad rfl ?_
      refine am_getf hF (hp_main T S o) (T := TX5) (N := 9) rfl (inG 5 inG5) 5 (by decide) (List.mem_cons_of_mem _ lf_RX5_35) rfl (.int (T 1 0)) rfl dX5_digest_24 ?_
      refine am_top (nI m) hm ?_
      refine am_icmpge hF 63 dX5_digest_27 (by decide) (fun _ => ?_) (fun h9 => False.elim (absurd (nc_ge (show m ≤ i by omega) (by omega) (by omega) rfl rfl) h9))
      exact am_throwX hF hX hG (is := 262) (text := "the digest has no such place") xn4_0 xn4_1 xn4_2 xn4_5 (by decide +kernel) ["java/lang/Exception"] (by decide +kernel) am_nm4_fit lc_RX5_260 xz4 (by decide) xa4 xg4 dX5_digest_63 dX5_digest_66 dX5_digest_67 dX5_digest_70 dX5_digest_73 ⟨Nat.le_of_ble_eq_true rfl, Nat.le_of_ble_eq_true rfl, Nat.le_of_ble_eq_true rfl, Nat.le_of_ble_eq_true rfl⟩
    | succ dd ih21 =>
      intro i a hi ha
      have hd9 : i < m → (T 21 i).toNatClampNeg < v := hday i
      refine am_go hF sgX5_digest_21_e57aa 24 [(0, .ref 0), (1, .int (nI l)), (2, .int (nI d)), (3, .int z), (4, .int a), (5, .int (nI i))] [.ref 0, .int (nI i)] sgX5_digest_21_e57aad rfl ?_
      refine am_getf hF (hp_main T S o) (T := TX5) (N := 9) rfl (inG 5 inG5) 5 (by decide) (List.mem_cons_of_mem _ lf_RX5_35) rfl (.int (T 1 0)) rfl dX5_digest_24 ?_
      refine am_top (nI m) hm ?_
      refine am_icmpge hF 63 dX5_digest_27 (by decide) (fun h9 => False.elim (nc_lt_f (show i < m by omega) (by omega) (by omega) rfl rfl h9)) (fun _ => ?_)
      refine am_go hF sgX5_digest_30_34db8 31 [(0, .ref 0), (1, .int (nI l)), (2, .int (nI d)), (3, .int z), (4, .int a), (5, .int (nI i))] [.ref 0] sgX5_digest_30_34db8d rfl ?_
      refine am_getf hF (hp_main T S o) (T := TX5) (N := 9) rfl (inG 5 inG5) 4 (by decide) (List.mem_cons_of_mem _ lf_RX5_31) rfl (.ref 4) rfl dX5_digest_31 ?_
      refine am_go hF sgX5_digest_34_9df92 36 [(0, .ref 0), (1, .int (nI l)), (2, .int (nI d)), (3, .int z), (4, .int a), (5, .int (nI i))] [.int (nI i), .ref 4] sgX5_digest_34_9df92d rfl ?_
      refine cv_post hF hm hm80 i rfl (show i < m by omega) dX5_digest_36 ?_
      refine am_go hF sgX5_digest_37_5601b 39 [(0, .ref 0), (1, .int (nI l)), (2, .int (nI d)), (3, .int z), (4, .int a), (5, .int (nI i))] [.int (nI d), .int (nI l), .ref (64 + i)] sgX5_digest_37_5601bd rfl ?_
      refine am_dV hF hO [.int (nI l), .int (nI d)] [] (c_isInDigest (T := T) hm hm80 (show i < m by omega) hv hv80 (show (T 21 i).toNatClampNeg < v by omega) (show l < 10 by omega)) myX1_isInDigest vyX1_isInDigest lm_RX5_257 (hp_mail _ _ _ hm hm80 (show i < m by omega)) rfl rfl 0 0 ⟨Nat.le_of_ble_eq_true rfl, Nat.le_of_ble_eq_true rfl⟩ ⟨Nat.le_of_ble_eq_true rfl, Nat.le_of_ble_eq_true rfl, Nat.le_of_ble_eq_true rfl, Nat.le_of_ble_eq_true rfl⟩ rfl (am_lv_ref (hp_main _ _ _) (am_lv_int (am_lv_int (am_lv_int (am_lv_int (am_lv_int am_lv_nil)))))) (Nat.le_of_ble_eq_true rfl) dX5_digest_39 [.int (zb (decide (T 33 (T 21 i).toNatClampNeg = (nI d) ∧ bt (T 27 i) l = true)))] rfl ?_
      refine am_ifeq hF 57 dX5_digest_42 (by decide) (fun c3 => ?_) (fun c3 => ?_)
      · skip
        replace c3 := of_decide_eq_false (zb_0.mp c3)
        refine am_go hF sgX5_digest_57_06a1d 21 [(5, .int ((nI i) + 1)), (0, .ref 0), (1, .int (nI l)), (2, .int (nI d)), (3, .int z), (4, .int a)] [] sgX5_digest_57_06a1dd rfl ?_
        refine am_eqL [(5, .int (nI (i + 1))), (0, .ref 0), (1, .int (nI l)), (2, .int (nI d)), (3, .int z), (4, .int a)] (by rw [nI_1]) ?_
        refine am_drop [1, 2, 3, 4, 5, 0] [(0, .ref 0), (1, .int (nI l)), (2, .int (nI d)), (3, .int z), (4, .int a), (5, .int (nI (i + 1)))] rfl ?_
        exact ih21 (i + 1) a (by omega) (by show _ = tsz T l (nI d) i (itN (tsz T l (nI d)) 0 i); rw [← ha]; simp only [tsz, c3, Bool.false_eq_true, not_false_eq_true, not_true_eq_false, and_self, and_true, true_and, and_false, false_and, true_or, or_true, or_false, false_or, or_self, ↓reduceIte])
      · skip
        replace c3 := of_decide_eq_true (zb_p.mp c3)
        refine am_go hF sgX5_digest_45_63e68 48 [(0, .ref 0), (1, .int (nI l)), (2, .int (nI d)), (3, .int z), (4, .int a), (5, .int (nI i))] [.int z, .int a] sgX5_digest_45_63e68d rfl ?_
        refine am_icmpne hF 54 dX5_digest_48 (by decide) (fun c4 => ?_) (fun c4 => ?_)
        · skip
          refine am_go hF sgX5_digest_54_e90b8 21 [(5, .int ((nI i) + 1)), (4, .int (a + 1)), (0, .ref 0), (1, .int (nI l)), (2, .int (nI d)), (3, .int z)] [] sgX5_digest_54_e90b8d rfl ?_
          refine am_eqL [(5, .int (nI (i + 1))), (4, .int (a + 1)), (0, .ref 0), (1, .int (nI l)), (2, .int (nI d)), (3, .int z)] (by rw [nI_1]) ?_
          refine am_drop [2, 3, 4, 5, 1, 0] [(0, .ref 0), (1, .int (nI l)), (2, .int (nI d)), (3, .int z), (4, .int (a + 1)), (5, .int (nI (i + 1)))] rfl ?_
          exact ih21 (i + 1) (a + 1) (by omega) (by show _ = tsz T l (nI d) i (itN (tsz T l (nI d)) 0 i); rw [← ha]; simp only [tsz, (eq_true c3), Bool.false_eq_true, not_false_eq_true, not_true_eq_false, and_self, and_true, true_and, and_false, false_and, true_or, or_true, or_false, false_or, or_self, ↓reduceIte])
        · skip
          exact absurd (ha.symm.trans c4) (h0 i (by omega) c3)
  exact lp21 m 0 0 (by omega) rfl
set_option maxRecDepth 100000 in
set_option maxHeartbeats 4000000 in
theorem c_p_appeal_1 {G : am_S} (hG : G.1.stackTraces = false) {T S : am_T} {o : Nat → Int64} {m : Nat} (hm : T 1 0 = nI m) (hm80 : m ≤ 80) {x : Int32} (hx : x < 0 ∨ nI m ≤ x) : am_XD G yX5_appeal (.code yX5_appeal cX5_appeal 5 (some .int) :: am_G) { frames := 8, cells := 1, slots := 6, locals := 135 } (hp T S o) [.ref 0, .int x] am_E1 := by
  refine am_ofX (by decide +kernel) (Nat.le_of_ble_eq_true rfl) ?_
  intro C hse hret hname hF hX
  subst hse
  have hO := hX.1
  refine am_go hF sgX5_appeal_0_8bcf7 2 [(0, .ref 0), (1, .int x)] [.int x, .ref 0] sgX5_appeal_0_8bcf7d rfl ?_
  exact am_xV hF hX [.int x] [] (c_findMail_x hG hm hm80 hx) myX5_findMail vyX5_findMail lm_RX5_150 (hp_main _ _ _) rfl rfl ⟨Nat.le_of_ble_eq_true rfl, Nat.le_of_ble_eq_true rfl, Nat.le_of_ble_eq_true rfl, Nat.le_of_ble_eq_true rfl⟩ rfl (Nat.le_of_ble_eq_true rfl) dX5_appeal_2
set_option maxRecDepth 100000 in
set_option maxHeartbeats 4000000 in
theorem c_p_appeal_2a {G : am_S} (hG : G.1.stackTraces = false) {T S : am_T} {o : Nat → Int64} {m : Nat} (hm : T 1 0 = nI m) (hm80 : m ≤ 80) {k : Nat} (hk : k < m) (h25 : ¬ T 25 k = 1) : am_XD G yX5_appeal (.code yX5_appeal cX5_appeal 5 (some .int) :: am_G) { frames := 8, cells := 1, slots := 6, locals := 135 } (hp T S o) [.ref 0, .int (nI k)] am_E2 := by
  refine am_ofX (by decide +kernel) (Nat.le_of_ble_eq_true rfl) ?_
  intro C hse hret hname hF hX
  subst hse
  have hO := hX.1
  refine am_go hF sgX5_appeal_0_8bcf7 2 [(0, .ref 0), (1, .int (nI k))] [.int (nI k), .ref 0] sgX5_appeal_0_8bcf7d rfl ?_
  refine am_dV hF hO [.int (nI k)] [] (c_findMail (T := T) hm hm80 (show k < m by omega)) myX5_findMail vyX5_findMail lm_RX5_150 (hp_main _ _ _) rfl rfl 0 0 ⟨Nat.le_of_ble_eq_true rfl, Nat.le_of_ble_eq_true rfl⟩ ⟨Nat.le_of_ble_eq_true rfl, Nat.le_of_ble_eq_true rfl, Nat.le_of_ble_eq_true rfl, Nat.le_of_ble_eq_true rfl⟩ rfl (am_lv_ref (hp_main _ _ _) (am_lv_int am_lv_nil)) (Nat.le_of_ble_eq_true rfl) dX5_appeal_2 [.ref (64 + k)] rfl ?_
  refine am_go hF sgX5_appeal_5_b4dfd 7 [(2, .ref (64 + k)), (0, .ref 0), (1, .int (nI k))] [.ref (64 + k)] sgX5_appeal_5_b4dfdd rfl ?_
  refine am_getf hF (hp_mail T S o hm hm80 (show k < m by omega)) (T := TX1) (N := 11) rfl (inG 1 inG1) 7 (by decide) (List.mem_cons_of_mem _ lf_RX5_183) rfl (.int (T 25 k)) rfl dX5_appeal_7 ?_
  refine am_go hF sgX5_appeal_10_4de0a 11 [(2, .ref (64 + k)), (0, .ref 0), (1, .int (nI k))] [.int 1, .int (T 25 k)] sgX5_appeal_10_4de0ad rfl ?_
  refine am_icmpne hF 21 dX5_appeal_11 (by decide) (fun _ => ?_) (fun h9 => False.elim (absurd h9 h25))
  exact am_throwS hF hX hG (is := 193) (text := "the mail is not held, or was appealed for") am_nm (by decide +kernel) am_nm_fit lc_RX5_55 xz2 (by decide) xa2 xg2 dX5_appeal_21 dX5_appeal_24 dX5_appeal_25 dX5_appeal_27 dX5_appeal_30 ⟨Nat.le_of_ble_eq_true rfl, Nat.le_of_ble_eq_true rfl, Nat.le_of_ble_eq_true rfl, Nat.le_of_ble_eq_true rfl⟩
set_option maxRecDepth 100000 in
set_option maxHeartbeats 4000000 in
theorem c_p_appeal_2b {G : am_S} (hG : G.1.stackTraces = false) {T S : am_T} {o : Nat → Int64} {m : Nat} (hm : T 1 0 = nI m) (hm80 : m ≤ 80) {k : Nat} (hk : k < m) (h25 : T 25 k = 1) (h28 : T 28 k = 1) : am_XD G yX5_appeal (.code yX5_appeal cX5_appeal 5 (some .int) :: am_G) { frames := 8, cells := 1, slots := 6, locals := 135 } (hp T S o) [.ref 0, .int (nI k)] am_E2 := by
  refine am_ofX (by decide +kernel) (Nat.le_of_ble_eq_true rfl) ?_
  intro C hse hret hname hF hX
  subst hse
  have hO := hX.1
  refine am_go hF sgX5_appeal_0_8bcf7 2 [(0, .ref 0), (1, .int (nI k))] [.int (nI k), .ref 0] sgX5_appeal_0_8bcf7d rfl ?_
  refine am_dV hF hO [.int (nI k)] [] (c_findMail (T := T) hm hm80 (show k < m by omega)) myX5_findMail vyX5_findMail lm_RX5_150 (hp_main _ _ _) rfl rfl 0 0 ⟨Nat.le_of_ble_eq_true rfl, Nat.le_of_ble_eq_true rfl⟩ ⟨Nat.le_of_ble_eq_true rfl, Nat.le_of_ble_eq_true rfl, Nat.le_of_ble_eq_true rfl, Nat.le_of_ble_eq_true rfl⟩ rfl (am_lv_ref (hp_main _ _ _) (am_lv_int am_lv_nil)) (Nat.le_of_ble_eq_true rfl) dX5_appeal_2 [.ref (64 + k)] rfl ?_
  refine am_go hF sgX5_appeal_5_b4dfd 7 [(2, .ref (64 + k)), (0, .ref 0), (1, .int (nI k))] [.ref (64 + k)] sgX5_appeal_5_b4dfdd rfl ?_
  refine am_getf hF (hp_mail T S o hm hm80 (show k < m by omega)) (T := TX1) (N := 11) rfl (inG 1 inG1) 7 (by decide) (List.mem_cons_of_mem _ lf_RX5_183) rfl (.int (T 25 k)) rfl dX5_appeal_7 ?_
  refine am_go hF sgX5_appeal_10_4de0a 11 [(2, .ref (64 + k)), (0, .ref 0), (1, .int (nI k))] [.int 1, .int (T 25 k)] sgX5_appeal_10_4de0ad rfl ?_
  refine am_icmpne hF 21 dX5_appeal_11 (by decide) (fun h9 => False.elim (absurd h25 h9)) (fun _ => ?_)
  refine am_go hF sgX5_appeal_14_9fb7d 15 [(2, .ref (64 + k)), (0, .ref 0), (1, .int (nI k))] [.ref (64 + k)] sgX5_appeal_14_9fb7dd rfl ?_
  refine am_getf hF (hp_mail T S o hm hm80 (show k < m by omega)) (T := TX1) (N := 11) rfl (inG 1 inG1) 10 (by decide) (List.mem_cons_of_mem _ lf_RX5_189) rfl ((if T 28 k = 1 then Value.ref (144 + k) else Value.null)) rfl dX5_appeal_15 ?_
  refine am_eqS [.ref (144 + k)] (by rw [if_pos h28]) ?_
  refine am_ifnullR hF dX5_appeal_18 ?_
  exact am_throwS hF hX hG (is := 193) (text := "the mail is not held, or was appealed for") am_nm (by decide +kernel) am_nm_fit lc_RX5_55 xz2 (by decide) xa2 xg2 dX5_appeal_21 dX5_appeal_24 dX5_appeal_25 dX5_appeal_27 dX5_appeal_30 ⟨Nat.le_of_ble_eq_true rfl, Nat.le_of_ble_eq_true rfl, Nat.le_of_ble_eq_true rfl, Nat.le_of_ble_eq_true rfl⟩
set_option maxRecDepth 100000 in
set_option maxHeartbeats 4000000 in
theorem c_p_appeal_2c {G : am_S} (hG : G.1.stackTraces = false) {T S : am_T} {o : Nat → Int64} {n : Nat} (hn : T 0 0 = nI n) (hn10 : n ≤ 10) {m : Nat} (hm : T 1 0 = nI m) (hm80 : m ≤ 80) {k : Nat} (hk : k < m) {l : Nat} (hl : l < n) (hl20 : T 20 k = nI l) (h25 : T 25 k = 1) (h28 : ¬ T 28 k = 1) (hc : ¬ (3 : Int32) ≤ bc (tCand T n k l)) : am_XD G yX5_appeal (.code yX5_appeal cX5_appeal 5 (some .int) :: am_G) { frames := 8, cells := 1, slots := 6, locals := 135 } (hp T S o) [.ref 0, .int (nI k)] am_E2 := by
  refine am_ofX (by decide +kernel) (Nat.le_of_ble_eq_true rfl) ?_
  intro C hse hret hname hF hX
  subst hse
  have hO := hX.1
  refine am_go hF sgX5_appeal_0_8bcf7 2 [(0, .ref 0), (1, .int (nI k))] [.int (nI k), .ref 0] sgX5_appeal_0_8bcf7d rfl ?_
  refine am_dV hF hO [.int (nI k)] [] (c_findMail (T := T) hm hm80 (show k < m by omega)) myX5_findMail vyX5_findMail lm_RX5_150 (hp_main _ _ _) rfl rfl 0 0 ⟨Nat.le_of_ble_eq_true rfl, Nat.le_of_ble_eq_true rfl⟩ ⟨Nat.le_of_ble_eq_true rfl, Nat.le_of_ble_eq_true rfl, Nat.le_of_ble_eq_true rfl, Nat.le_of_ble_eq_true rfl⟩ rfl (am_lv_ref (hp_main _ _ _) (am_lv_int am_lv_nil)) (Nat.le_of_ble_eq_true rfl) dX5_appeal_2 [.ref (64 + k)] rfl ?_
  refine am_go hF sgX5_appeal_5_b4dfd 7 [(2, .ref (64 + k)), (0, .ref 0), (1, .int (nI k))] [.ref (64 + k)] sgX5_appeal_5_b4dfdd rfl ?_
  refine am_getf hF (hp_mail T S o hm hm80 (show k < m by omega)) (T := TX1) (N := 11) rfl (inG 1 inG1) 7 (by decide) (List.mem_cons_of_mem _ lf_RX5_183) rfl (.int (T 25 k)) rfl dX5_appeal_7 ?_
  refine am_go hF sgX5_appeal_10_4de0a 11 [(2, .ref (64 + k)), (0, .ref 0), (1, .int (nI k))] [.int 1, .int (T 25 k)] sgX5_appeal_10_4de0ad rfl ?_
  refine am_icmpne hF 21 dX5_appeal_11 (by decide) (fun h9 => False.elim (absurd h25 h9)) (fun _ => ?_)
  refine am_go hF sgX5_appeal_14_9fb7d 15 [(2, .ref (64 + k)), (0, .ref 0), (1, .int (nI k))] [.ref (64 + k)] sgX5_appeal_14_9fb7dd rfl ?_
  refine am_getf hF (hp_mail T S o hm hm80 (show k < m by omega)) (T := TX1) (N := 11) rfl (inG 1 inG1) 10 (by decide) (List.mem_cons_of_mem _ lf_RX5_189) rfl ((if T 28 k = 1 then Value.ref (144 + k) else Value.null)) rfl dX5_appeal_15 ?_
  refine am_eqS [.null] (by rw [if_neg h28]) ?_
  refine am_ifnullN hF 31 dX5_appeal_18 (by decide) ?_
  refine am_go hF sgX5_appeal_31_6a431 33 [(2, .ref (64 + k)), (0, .ref 0), (1, .int (nI k))] [.ref (64 + k), .ref 0] sgX5_appeal_31_6a431d rfl ?_
  refine am_dV hF hO [.ref (64 + k)] [] (c_jurorCandidates (T := T) hn hn10 hm hm80 hk hl hl20) myX5_jurorCandidates vyX5_jurorCandidates lm_RX5_195 (hp_main _ _ _) rfl rfl 0 0 ⟨Nat.le_of_ble_eq_true rfl, Nat.le_of_ble_eq_true rfl⟩ ⟨Nat.le_of_ble_eq_true rfl, Nat.le_of_ble_eq_true rfl, Nat.le_of_ble_eq_true rfl, Nat.le_of_ble_eq_true rfl⟩ rfl (am_lv_ref (hp_mail _ _ _ hm hm80 (show k < m by omega)) (am_lv_ref (hp_main _ _ _) (am_lv_int am_lv_nil))) (Nat.le_of_ble_eq_true rfl) dX5_appeal_33 [.int (tCand T n k l)] rfl ?_
  refine am_go hF sgX5_appeal_36_54d08 38 [(3, .int (tCand T n k l)), (2, .ref (64 + k)), (0, .ref 0), (1, .int (nI k))] [.int (tCand T n k l)] sgX5_appeal_36_54d08d rfl ?_
  refine am_dS hF hO [.int (tCand T n k l)] [] (c_bitCount) myJ6_bitCount_0f7a4 syJ6_bitCount_0f7a4 lm_RX5_84 rfl 0 0 ⟨Nat.le_of_ble_eq_true rfl, Nat.le_of_ble_eq_true rfl⟩ ⟨Nat.le_of_ble_eq_true rfl, Nat.le_of_ble_eq_true rfl, Nat.le_of_ble_eq_true rfl, Nat.le_of_ble_eq_true rfl⟩ rfl (am_lv_int (am_lv_ref (hp_mail _ _ _ hm hm80 (show k < m by omega)) (am_lv_ref (hp_main _ _ _) (am_lv_int am_lv_nil)))) (Nat.le_of_ble_eq_true rfl) dX5_appeal_38 [.int (bc (tCand T n k l))] rfl ?_
  refine am_go hF sgX5_appeal_41_800cc 42 [(3, .int (tCand T n k l)), (2, .ref (64 + k)), (0, .ref 0), (1, .int (nI k))] [.int 3, .int (bc (tCand T n k l))] sgX5_appeal_41_800ccd rfl ?_
  refine am_icmpge hF 55 dX5_appeal_42 (by decide) (fun h9 => False.elim (absurd h9 hc)) (fun _ => ?_)
  exact am_throwS hF hX hG (is := 199) (text := "there are fewer than three jurors") am_nm (by decide +kernel) am_nm_fit lc_RX5_55 xz2 (by decide) xa2 xg2 dX5_appeal_45 dX5_appeal_48 dX5_appeal_49 dX5_appeal_51 dX5_appeal_54 ⟨Nat.le_of_ble_eq_true rfl, Nat.le_of_ble_eq_true rfl, Nat.le_of_ble_eq_true rfl, Nat.le_of_ble_eq_true rfl⟩
set_option maxRecDepth 100000 in
set_option maxHeartbeats 4000000 in
theorem c_p_appeal_n {G : am_S} {T S : am_T} {o : Nat → Int64} {n m v : Nat} (hs : tSafe T n m v) {k : Nat} (hk : k < m) {l : Nat} (hl : l < n) (hl20 : T 20 k = nI l) (h25 : T 25 k = 1) (h28 : ¬ T 28 k = 1) (hc : (3 : Int32) ≤ bc (tCand T n k l)) : am_D G yX5_appeal (.code yX5_appeal cX5_appeal 5 (some .int) :: am_G) { frames := 3, cells := 1, slots := 4, locals := 68 } (hp T S o) [.ref 0, .int (nI k)] (hp (tApp T k (tChoose T (tCand T n k l))) S o) (some (.int (tChoose T (tCand T n k l)))) := by
  refine am_of (by decide +kernel) (Nat.le_of_ble_eq_true rfl) ?_
  intro C hse hret hname hF hO
  subst hse
  have hs9 := hs
  obtain ⟨hn, hn10, hm, hm80, hv, hv80, hbx, hmm⟩ := hs
  refine am_go hF sgX5_appeal_0_8bcf7 2 [(0, .ref 0), (1, .int (nI k))] [.int (nI k), .ref 0] sgX5_appeal_0_8bcf7d rfl ?_
  refine am_dV hF hO [.int (nI k)] [] (c_findMail (T := T) hm hm80 (show k < m by omega)) myX5_findMail vyX5_findMail lm_RX5_150 (hp_main _ _ _) rfl rfl 0 0 ⟨Nat.le_of_ble_eq_true rfl, Nat.le_of_ble_eq_true rfl⟩ ⟨Nat.le_of_ble_eq_true rfl, Nat.le_of_ble_eq_true rfl, Nat.le_of_ble_eq_true rfl, Nat.le_of_ble_eq_true rfl⟩ rfl (am_lv_ref (hp_main _ _ _) (am_lv_int am_lv_nil)) (Nat.le_of_ble_eq_true rfl) dX5_appeal_2 [.ref (64 + k)] rfl ?_
  refine am_go hF sgX5_appeal_5_b4dfd 7 [(2, .ref (64 + k)), (0, .ref 0), (1, .int (nI k))] [.ref (64 + k)] sgX5_appeal_5_b4dfdd rfl ?_
  refine am_getf hF (hp_mail T S o hm hm80 (show k < m by omega)) (T := TX1) (N := 11) rfl (inG 1 inG1) 7 (by decide) (List.mem_cons_of_mem _ lf_RX5_183) rfl (.int (T 25 k)) rfl dX5_appeal_7 ?_
  refine am_go hF sgX5_appeal_10_4de0a 11 [(2, .ref (64 + k)), (0, .ref 0), (1, .int (nI k))] [.int 1, .int (T 25 k)] sgX5_appeal_10_4de0ad rfl ?_
  refine am_icmpne hF 21 dX5_appeal_11 (by decide) (fun h9 => False.elim (absurd h25 h9)) (fun _ => ?_)
  refine am_go hF sgX5_appeal_14_9fb7d 15 [(2, .ref (64 + k)), (0, .ref 0), (1, .int (nI k))] [.ref (64 + k)] sgX5_appeal_14_9fb7dd rfl ?_
  refine am_getf hF (hp_mail T S o hm hm80 (show k < m by omega)) (T := TX1) (N := 11) rfl (inG 1 inG1) 10 (by decide) (List.mem_cons_of_mem _ lf_RX5_189) rfl ((if T 28 k = 1 then Value.ref (144 + k) else Value.null)) rfl dX5_appeal_15 ?_
  refine am_eqS [.null] (by rw [if_neg h28]) ?_
  refine am_ifnullN hF 31 dX5_appeal_18 (by decide) ?_
  refine am_go hF sgX5_appeal_31_6a431 33 [(2, .ref (64 + k)), (0, .ref 0), (1, .int (nI k))] [.ref (64 + k), .ref 0] sgX5_appeal_31_6a431d rfl ?_
  refine am_dV hF hO [.ref (64 + k)] [] (c_jurorCandidates (T := T) hn hn10 hm hm80 hk hl hl20) myX5_jurorCandidates vyX5_jurorCandidates lm_RX5_195 (hp_main _ _ _) rfl rfl 0 0 ⟨Nat.le_of_ble_eq_true rfl, Nat.le_of_ble_eq_true rfl⟩ ⟨Nat.le_of_ble_eq_true rfl, Nat.le_of_ble_eq_true rfl, Nat.le_of_ble_eq_true rfl, Nat.le_of_ble_eq_true rfl⟩ rfl (am_lv_ref (hp_mail _ _ _ hm hm80 (show k < m by omega)) (am_lv_ref (hp_main _ _ _) (am_lv_int am_lv_nil))) (Nat.le_of_ble_eq_true rfl) dX5_appeal_33 [.int (tCand T n k l)] rfl ?_
  refine am_go hF sgX5_appeal_36_54d08 38 [(3, .int (tCand T n k l)), (2, .ref (64 + k)), (0, .ref 0), (1, .int (nI k))] [.int (tCand T n k l)] sgX5_appeal_36_54d08d rfl ?_
  refine am_dS hF hO [.int (tCand T n k l)] [] (c_bitCount) myJ6_bitCount_0f7a4 syJ6_bitCount_0f7a4 lm_RX5_84 rfl 0 0 ⟨Nat.le_of_ble_eq_true rfl, Nat.le_of_ble_eq_true rfl⟩ ⟨Nat.le_of_ble_eq_true rfl, Nat.le_of_ble_eq_true rfl, Nat.le_of_ble_eq_true rfl, Nat.le_of_ble_eq_true rfl⟩ rfl (am_lv_int (am_lv_ref (hp_mail _ _ _ hm hm80 (show k < m by omega)) (am_lv_ref (hp_main _ _ _) (am_lv_int am_lv_nil)))) (Nat.le_of_ble_eq_true rfl) dX5_appeal_38 [.int (bc (tCand T n k l))] rfl ?_
  refine am_go hF sgX5_appeal_41_800cc 42 [(3, .int (tCand T n k l)), (2, .ref (64 + k)), (0, .ref 0), (1, .int (nI k))] [.int 3, .int (bc (tCand T n k l))] sgX5_appeal_41_800ccd rfl ?_
  refine am_icmpge hF 55 dX5_appeal_42 (by decide) (fun _ => ?_) (fun h9 => False.elim (absurd hc h9))
  refine am_go hF sgX5_appeal_55_245fd 57 [(3, .int (tCand T n k l)), (2, .ref (64 + k)), (0, .ref 0), (1, .int (nI k))] [.int (tCand T n k l), .ref 0] sgX5_appeal_55_245fdd rfl ?_
  refine am_dV hF hO [.int (tCand T n k l)] [] (c_chooseJurors (T := T)) myX5_chooseJurors vyX5_chooseJurors lm_RX5_201 (hp_main _ _ _) rfl rfl 0 0 ⟨Nat.le_of_ble_eq_true rfl, Nat.le_of_ble_eq_true rfl⟩ ⟨Nat.le_of_ble_eq_true rfl, Nat.le_of_ble_eq_true rfl, Nat.le_of_ble_eq_true rfl, Nat.le_of_ble_eq_true rfl⟩ rfl (am_lv_int (am_lv_ref (hp_mail _ _ _ hm hm80 (show k < m by omega)) (am_lv_ref (hp_main _ _ _) (am_lv_int am_lv_nil)))) (Nat.le_of_ble_eq_true rfl) dX5_appeal_57 [.int (tChoose T (tCand T n k l))] rfl ?_
  refine am_go hF sgX5_appeal_60_7fb8d 63 [(4, .int (tChoose T (tCand T n k l))), (3, .int (tCand T n k l)), (2, .ref (64 + k)), (0, .ref 0), (1, .int (nI k))] [.ref (64 + k)] sgX5_appeal_60_7fb8dd rfl ?_
  have hi63 : (hp T S o) (144 + k) = none := (hp_noappeal T S o (show k < 80 by omega) h28)
  refine am_new hF hO (144 + k) hi63 (ci := 0) rfl (inG 0 inG0) tyX0 tyX0_ok (List.mem_cons_of_mem _ lc_RX5_204) (List.mem_cons_of_mem _ li_RX0) (List.mem_cons_of_mem _ lz_RX0) (fs := [.int 0, .int 0, .int 0, .int 0]) hfsX0 (fun _ => rfl) (am_cl_fr (hp_cl hs9) hi63) (am_nr_c (fun h => by cases h) (am_nr_c (fun h => by cases h) (am_nr_c (fun h => (show ¬ (64 + k = 144 + k) by omega) (Value.ref.inj h)) (am_nr_c (fun h => (show ¬ (0 = 144 + k) by omega) (Value.ref.inj h)) (am_nr_c (fun h => by cases h) (am_nr_c (fun h => (show ¬ (64 + k = 144 + k) by omega) (Value.ref.inj h)) am_nr_nil)))))) 1 4 ⟨Nat.le_of_ble_eq_true rfl, Nat.le_of_ble_eq_true rfl, Nat.le_of_ble_eq_true rfl, Nat.le_of_ble_eq_true rfl⟩ dX5_appeal_63 ?_
  refine am_go hF sgX5_appeal_66_e5116 69 [(4, .int (tChoose T (tCand T n k l))), (3, .int (tCand T n k l)), (2, .ref (64 + k)), (0, .ref 0), (1, .int (nI k))] [.int (tChoose T (tCand T n k l)), .ref (144 + k), .ref (144 + k), .ref (64 + k)] sgX5_appeal_66_e5116d rfl ?_
  refine am_dI hF hO [.int (tChoose T (tCand T n k l))] [.ref (144 + k), .ref (64 + k)] (c_newA (i := 144 + k) (am_us _ _ _)) myX0_init iyX0_init rfl lm_RX5_206 rfl 1 4 ⟨Nat.le_of_ble_eq_true rfl, Nat.le_of_ble_eq_true rfl⟩ ⟨Nat.le_of_ble_eq_true rfl, Nat.le_of_ble_eq_true rfl, Nat.le_of_ble_eq_true rfl, Nat.le_of_ble_eq_true rfl⟩ rfl (am_lv_int (am_lv_int (am_lv_ref (am_un (show 64 + k ≠ 144 + k by omega) (hp_mail T S o hm hm80 (show k < m by omega))) (am_lv_ref (am_un (show 0 ≠ 144 + k by omega) (hp_main T S o)) (am_lv_int (am_lv_ref (am_us _ _ _) (am_lv_ref (am_un (show 64 + k ≠ 144 + k by omega) (hp_mail T S o hm hm80 (show k < m by omega))) am_lv_nil))))))) (Nat.le_of_ble_eq_true rfl) dX5_appeal_69 ?_
  refine am_eqX (am_u (hp T S o) (144 + k) (.inr (0, [.int (tChoose T (tCand T n k l)), .int 0, .int 0, .int 1]))) (am_uu _ _ _ _) ?_
  refine am_putf hF (am_un (show 64 + k ≠ 144 + k by omega) (hp_mail T S o hm hm80 (show k < m by omega))) (T := TX1) (N := 11) rfl (inG 1 inG1) tyX1 tyX1_ok nmX1 10 (by decide) (List.mem_cons_of_mem _ lf_RX5_189) rfl (Or.inl rfl) rfl rfl (Nat.le_of_ble_eq_true rfl) dX5_appeal_72 ?_
  refine am_eqX (am_u (am_u (hp T S o) (144 + k) (.inr (0, [.int (tChoose T (tCand T n k l)), .int 0, .int 0, .int 1]))) (64 + k) (.inr (1, [.int (T 18 k), .int (T 19 k), .int (T 20 k), .ref (224 + (T 21 k).toNatClampNeg), .int (T 22 k), .int (T 23 k), .int (T 24 k), .int (T 25 k), .int (T 26 k), .int (T 27 k), .ref (144 + k)]))) (rfl) ?_
  refine am_go hF sgX5_appeal_75_c6742 77 [(4, .int (tChoose T (tCand T n k l))), (3, .int (tCand T n k l)), (2, .ref (64 + k)), (0, .ref 0), (1, .int (nI k))] [.int (tChoose T (tCand T n k l))] sgX5_appeal_75_c6742d rfl ?_
  exact am_iret hF hO hret rfl dX5_appeal_77 ⟨hp_app hn hn10 hm hm80 hv hv80 hk, rfl⟩
set_option maxRecDepth 100000 in
set_option maxHeartbeats 4000000 in
theorem c_p_vote_1a {G : am_S} (hG : G.1.stackTraces = false) {T S : am_T} {o : Nat → Int64} {m : Nat} (hm : T 1 0 = nI m) (hm80 : m ≤ 80) {x : Int32} (hx : x < 0 ∨ nI m ≤ x) {y z : Int32} : am_XD G yX5_vote (.code yX5_vote cX5_vote 6 (some .int) :: am_G) { frames := 8, cells := 1, slots := 6, locals := 136 } (hp T S o) [.ref 0, .int x, .int y, .int z] am_E1 := by
  refine am_ofX (by decide +kernel) (Nat.le_of_ble_eq_true rfl) ?_
  intro C hse hret hname hF hX
  subst hse
  have hO := hX.1
  refine am_go hF sgX5_vote_0_8bcf7 2 [(0, .ref 0), (1, .int x), (2, .int y), (3, .int z)] [.int x, .ref 0] sgX5_vote_0_8bcf7d rfl ?_
  exact am_xV hF hX [.int x] [] (c_findMail_x hG hm hm80 hx) myX5_findMail vyX5_findMail lm_RX5_150 (hp_main _ _ _) rfl rfl ⟨Nat.le_of_ble_eq_true rfl, Nat.le_of_ble_eq_true rfl, Nat.le_of_ble_eq_true rfl, Nat.le_of_ble_eq_true rfl⟩ rfl (Nat.le_of_ble_eq_true rfl) dX5_vote_2
set_option maxRecDepth 100000 in
set_option maxHeartbeats 4000000 in
theorem c_p_vote_1b {G : am_S} (hG : G.1.stackTraces = false) {T S : am_T} {o : Nat → Int64} {m : Nat} (hm : T 1 0 = nI m) (hm80 : m ≤ 80) {k : Nat} (hk : k < m) {y : Int32} (hy : y < 0 ∨ nI 16 ≤ y) {z : Int32} : am_XD G yX5_vote (.code yX5_vote cX5_vote 6 (some .int) :: am_G) { frames := 8, cells := 1, slots := 6, locals := 136 } (hp T S o) [.ref 0, .int (nI k), .int y, .int z] am_E1 := by
  refine am_ofX (by decide +kernel) (Nat.le_of_ble_eq_true rfl) ?_
  intro C hse hret hname hF hX
  subst hse
  have hO := hX.1
  refine am_go hF sgX5_vote_0_8bcf7 2 [(0, .ref 0), (1, .int (nI k)), (2, .int y), (3, .int z)] [.int (nI k), .ref 0] sgX5_vote_0_8bcf7d rfl ?_
  refine am_dV hF hO [.int (nI k)] [] (c_findMail (T := T) hm hm80 (show k < m by omega)) myX5_findMail vyX5_findMail lm_RX5_150 (hp_main _ _ _) rfl rfl 0 0 ⟨Nat.le_of_ble_eq_true rfl, Nat.le_of_ble_eq_true rfl⟩ ⟨Nat.le_of_ble_eq_true rfl, Nat.le_of_ble_eq_true rfl, Nat.le_of_ble_eq_true rfl, Nat.le_of_ble_eq_true rfl⟩ rfl (am_lv_ref (hp_main _ _ _) (am_lv_int (am_lv_int (am_lv_int am_lv_nil)))) (Nat.le_of_ble_eq_true rfl) dX5_vote_2 [.ref (64 + k)] rfl ?_
  refine am_go hF sgX5_vote_5_72c52 8 [(4, .ref (64 + k)), (0, .ref 0), (1, .int (nI k)), (2, .int y), (3, .int z)] [.int y] sgX5_vote_5_72c52d rfl ?_
  exact am_xS hF hX [.int y] [] (c_checkPerson_x hG hy) myX5_checkPerson syX5_checkPerson lm_RX5_51 rfl ⟨Nat.le_of_ble_eq_true rfl, Nat.le_of_ble_eq_true rfl, Nat.le_of_ble_eq_true rfl, Nat.le_of_ble_eq_true rfl⟩ rfl (Nat.le_of_ble_eq_true rfl) dX5_vote_8
set_option maxRecDepth 100000 in
set_option maxHeartbeats 4000000 in
theorem c_p_vote_2a {G : am_S} (hG : G.1.stackTraces = false) {T S : am_T} {o : Nat → Int64} {m : Nat} (hm : T 1 0 = nI m) (hm80 : m ≤ 80) {k : Nat} (hk : k < m) {p : Nat} (hp9 : p < 16) (h28 : ¬ T 28 k = 1) {z : Int32} : am_XD G yX5_vote (.code yX5_vote cX5_vote 6 (some .int) :: am_G) { frames := 8, cells := 1, slots := 6, locals := 136 } (hp T S o) [.ref 0, .int (nI k), .int (nI p), .int z] am_E2 := by
  refine am_ofX (by decide +kernel) (Nat.le_of_ble_eq_true rfl) ?_
  intro C hse hret hname hF hX
  subst hse
  have hO := hX.1
  refine am_go hF sgX5_vote_0_8bcf7 2 [(0, .ref 0), (1, .int (nI k)), (2, .int (nI p)), (3, .int z)] [.int (nI k), .ref 0] sgX5_vote_0_8bcf7d rfl ?_
  refine am_dV hF hO [.int (nI k)] [] (c_findMail (T := T) hm hm80 (show k < m by omega)) myX5_findMail vyX5_findMail lm_RX5_150 (hp_main _ _ _) rfl rfl 0 0 ⟨Nat.le_of_ble_eq_true rfl, Nat.le_of_ble_eq_true rfl⟩ ⟨Nat.le_of_ble_eq_true rfl, Nat.le_of_ble_eq_true rfl, Nat.le_of_ble_eq_true rfl, Nat.le_of_ble_eq_true rfl⟩ rfl (am_lv_ref (hp_main _ _ _) (am_lv_int (am_lv_int (am_lv_int am_lv_nil)))) (Nat.le_of_ble_eq_true rfl) dX5_vote_2 [.ref (64 + k)] rfl ?_
  refine am_go hF sgX5_vote_5_72c52 8 [(4, .ref (64 + k)), (0, .ref 0), (1, .int (nI k)), (2, .int (nI p)), (3, .int z)] [.int (nI p)] sgX5_vote_5_72c52d rfl ?_
  refine am_dS hF hO [.int (nI p)] [] (c_checkPerson (show p < 16 by omega)) myX5_checkPerson syX5_checkPerson lm_RX5_51 rfl 0 0 ⟨Nat.le_of_ble_eq_true rfl, Nat.le_of_ble_eq_true rfl⟩ ⟨Nat.le_of_ble_eq_true rfl, Nat.le_of_ble_eq_true rfl, Nat.le_of_ble_eq_true rfl, Nat.le_of_ble_eq_true rfl⟩ rfl (am_lv_ref (hp_mail _ _ _ hm hm80 (show k < m by omega)) (am_lv_ref (hp_main _ _ _) (am_lv_int (am_lv_int (am_lv_int am_lv_nil))))) (Nat.le_of_ble_eq_true rfl) dX5_vote_8 [] rfl ?_
  refine am_go hF sgX5_vote_11_cbbc5 13 [(4, .ref (64 + k)), (0, .ref 0), (1, .int (nI k)), (2, .int (nI p)), (3, .int z)] [.ref (64 + k)] sgX5_vote_11_cbbc5d rfl ?_
  refine am_getf hF (hp_mail T S o hm hm80 (show k < m by omega)) (T := TX1) (N := 11) rfl (inG 1 inG1) 10 (by decide) (List.mem_cons_of_mem _ lf_RX5_189) rfl ((if T 28 k = 1 then Value.ref (144 + k) else Value.null)) rfl dX5_vote_13 ?_
  refine am_eqS [.null] (by rw [if_neg h28]) ?_
  refine am_astN hF (i := 5) (by decide) dX5_vote_16 ?_
  refine am_eqL [(5, .null), (4, .ref (64 + k)), (0, .ref 0), (1, .int (nI k)), (2, .int (nI p)), (3, .int z)] rfl ?_
  refine am_aldN hF (i := 5) rfl dX5_vote_18 ?_
  refine am_ifnullN hF 35 dX5_vote_20 (by decide) ?_
  exact am_throwS hF hX hG (is := 211) (text := "no vote of this person is awaited") am_nm (by decide +kernel) am_nm_fit lc_RX5_55 xz2 (by decide) xa2 xg2 dX5_vote_35 dX5_vote_38 dX5_vote_39 dX5_vote_41 dX5_vote_44 ⟨Nat.le_of_ble_eq_true rfl, Nat.le_of_ble_eq_true rfl, Nat.le_of_ble_eq_true rfl, Nat.le_of_ble_eq_true rfl⟩
set_option maxRecDepth 100000 in
set_option maxHeartbeats 4000000 in
theorem c_p_vote_2b {G : am_S} (hG : G.1.stackTraces = false) {T S : am_T} {o : Nat → Int64} {m : Nat} (hm : T 1 0 = nI m) (hm80 : m ≤ 80) {k : Nat} (hk : k < m) {p : Nat} (hp9 : p < 16) (h28 : T 28 k = 1) (hw : bt (tAw T k) p = false) {z : Int32} : am_XD G yX5_vote (.code yX5_vote cX5_vote 6 (some .int) :: am_G) { frames := 8, cells := 1, slots := 6, locals := 136 } (hp T S o) [.ref 0, .int (nI k), .int (nI p), .int z] am_E2 := by
  refine am_ofX (by decide +kernel) (Nat.le_of_ble_eq_true rfl) ?_
  intro C hse hret hname hF hX
  subst hse
  have hO := hX.1
  refine am_go hF sgX5_vote_0_8bcf7 2 [(0, .ref 0), (1, .int (nI k)), (2, .int (nI p)), (3, .int z)] [.int (nI k), .ref 0] sgX5_vote_0_8bcf7d rfl ?_
  refine am_dV hF hO [.int (nI k)] [] (c_findMail (T := T) hm hm80 (show k < m by omega)) myX5_findMail vyX5_findMail lm_RX5_150 (hp_main _ _ _) rfl rfl 0 0 ⟨Nat.le_of_ble_eq_true rfl, Nat.le_of_ble_eq_true rfl⟩ ⟨Nat.le_of_ble_eq_true rfl, Nat.le_of_ble_eq_true rfl, Nat.le_of_ble_eq_true rfl, Nat.le_of_ble_eq_true rfl⟩ rfl (am_lv_ref (hp_main _ _ _) (am_lv_int (am_lv_int (am_lv_int am_lv_nil)))) (Nat.le_of_ble_eq_true rfl) dX5_vote_2 [.ref (64 + k)] rfl ?_
  refine am_go hF sgX5_vote_5_72c52 8 [(4, .ref (64 + k)), (0, .ref 0), (1, .int (nI k)), (2, .int (nI p)), (3, .int z)] [.int (nI p)] sgX5_vote_5_72c52d rfl ?_
  refine am_dS hF hO [.int (nI p)] [] (c_checkPerson (show p < 16 by omega)) myX5_checkPerson syX5_checkPerson lm_RX5_51 rfl 0 0 ⟨Nat.le_of_ble_eq_true rfl, Nat.le_of_ble_eq_true rfl⟩ ⟨Nat.le_of_ble_eq_true rfl, Nat.le_of_ble_eq_true rfl, Nat.le_of_ble_eq_true rfl, Nat.le_of_ble_eq_true rfl⟩ rfl (am_lv_ref (hp_mail _ _ _ hm hm80 (show k < m by omega)) (am_lv_ref (hp_main _ _ _) (am_lv_int (am_lv_int (am_lv_int am_lv_nil))))) (Nat.le_of_ble_eq_true rfl) dX5_vote_8 [] rfl ?_
  refine am_go hF sgX5_vote_11_cbbc5 13 [(4, .ref (64 + k)), (0, .ref 0), (1, .int (nI k)), (2, .int (nI p)), (3, .int z)] [.ref (64 + k)] sgX5_vote_11_cbbc5d rfl ?_
  refine am_getf hF (hp_mail T S o hm hm80 (show k < m by omega)) (T := TX1) (N := 11) rfl (inG 1 inG1) 10 (by decide) (List.mem_cons_of_mem _ lf_RX5_189) rfl ((if T 28 k = 1 then Value.ref (144 + k) else Value.null)) rfl dX5_vote_13 ?_
  refine am_eqS [.ref (144 + k)] (by rw [if_pos h28]) ?_
  refine am_go hF sgX5_vote_16_8f200 20 [(5, .ref (144 + k)), (4, .ref (64 + k)), (0, .ref 0), (1, .int (nI k)), (2, .int (nI p)), (3, .int z)] [.ref (144 + k)] sgX5_vote_16_8f200d rfl ?_
  refine am_ifnullR hF dX5_vote_20 ?_
  refine am_go hF sgX5_vote_23_51faf 25 [(5, .ref (144 + k)), (4, .ref (64 + k)), (0, .ref 0), (1, .int (nI k)), (2, .int (nI p)), (3, .int z)] [.ref (144 + k)] sgX5_vote_23_51fafd rfl ?_
  refine am_dV hF hO [] [] (c_awaited (T := T) (show k < 80 by omega) h28) myX0_awaitedJurors vyX0_awaitedJurors lm_RX5_207 (hp_appeal _ _ _ (show k < 80 by omega) h28) rfl rfl 0 0 ⟨Nat.le_of_ble_eq_true rfl, Nat.le_of_ble_eq_true rfl⟩ ⟨Nat.le_of_ble_eq_true rfl, Nat.le_of_ble_eq_true rfl, Nat.le_of_ble_eq_true rfl, Nat.le_of_ble_eq_true rfl⟩ rfl (am_lv_ref (hp_appeal _ _ _ (show k < 80 by omega) h28) (am_lv_ref (hp_mail _ _ _ hm hm80 (show k < m by omega)) (am_lv_ref (hp_main _ _ _) (am_lv_int (am_lv_int (am_lv_int am_lv_nil)))))) (Nat.le_of_ble_eq_true rfl) dX5_vote_25 [.int (tAw T k)] rfl ?_
  refine am_go hF sgX5_vote_28_f8a59 29 [(5, .ref (144 + k)), (4, .ref (64 + k)), (0, .ref 0), (1, .int (nI k)), (2, .int (nI p)), (3, .int z)] [.int (nI p), .int (tAw T k)] sgX5_vote_28_f8a59d rfl ?_
  refine am_dS hF hO [.int (tAw T k), .int (nI p)] [] (c_contains (show p < 32 by omega)) myX5_contains syX5_contains lm_RX5_103 rfl 0 0 ⟨Nat.le_of_ble_eq_true rfl, Nat.le_of_ble_eq_true rfl⟩ ⟨Nat.le_of_ble_eq_true rfl, Nat.le_of_ble_eq_true rfl, Nat.le_of_ble_eq_true rfl, Nat.le_of_ble_eq_true rfl⟩ rfl (am_lv_ref (hp_appeal _ _ _ (show k < 80 by omega) h28) (am_lv_ref (hp_mail _ _ _ hm hm80 (show k < m by omega)) (am_lv_ref (hp_main _ _ _) (am_lv_int (am_lv_int (am_lv_int am_lv_nil)))))) (Nat.le_of_ble_eq_true rfl) dX5_vote_29 [.int (zb (bt (tAw T k) p))] rfl ?_
  refine am_ifne hF 45 dX5_vote_32 (by decide) (fun c1 => ?_) (fun c1 => ?_)
  · skip
    replace c1 := zb_p.mp c1
    exact absurd (hw.symm.trans c1) (by decide)
  · skip
    replace c1 := zb_0.mp c1
    exact am_throwS hF hX hG (is := 211) (text := "no vote of this person is awaited") am_nm (by decide +kernel) am_nm_fit lc_RX5_55 xz2 (by decide) xa2 xg2 dX5_vote_35 dX5_vote_38 dX5_vote_39 dX5_vote_41 dX5_vote_44 ⟨Nat.le_of_ble_eq_true rfl, Nat.le_of_ble_eq_true rfl, Nat.le_of_ble_eq_true rfl, Nat.le_of_ble_eq_true rfl⟩
theorem tClear_1 {T : am_T} {n m v k : Nat} (hs : tSafe T n m v) : tClear T n m v k 1 0 = T 1 0 := by
  have h1 := (tClr_it (c := k) (tSafe_st (f := 5) (j := (T 19 k).toNatClampNeg) (x := -10) hs (by decide)) m).2.2.1
  unfold tClear tSettle
  rw [show itN tss _ v 1 = _ from itN_f (F := tss) 1 (fun k S => tSet_f (by decide) (by decide)) _ v]
  exact h1.trans hs.2.2.1.symm
theorem tCond_f {T : am_T} {c g : Nat} (h : g ≠ 5 ∧ g ≠ 25 ∧ g ≠ 32) : tCond T c g = T g := by
  unfold tCond
  rw [st1_f h.1, tClose_f h.2.2, st1_f h.2.1]
set_option maxRecDepth 100000 in
set_option maxHeartbeats 4000000 in
theorem c_p_vote_nf1 {G : am_S} {T S : am_T} {o : Nat → Int64} {n m v : Nat} (hs : tSafe T n m v) {k : Nat} (hk : k < m) {p : Nat} (hp9 : p < 16) (h28 : T 28 k = 1) (hw : bt (tAw T k) p = true) (h1 : (2 : Int32) ≤ bc ((st1 (st1 T 30 k (T 30 k ||| (1 : Int32) <<< (nI p &&& 31))) 6 p (T 6 p + 1)) 30 k)) : am_D G yX5_vote (.code yX5_vote cX5_vote 6 (some .int) :: am_G) { frames := 6, cells := 0, slots := 0, locals := 136 } (hp T S o) [.ref 0, .int (nI k), .int (nI p), .int 1] (hp (tClear (st1 (st1 T 30 k (T 30 k ||| (1 : Int32) <<< (nI p &&& 31))) 6 p (T 6 p + 1)) n m v k) S o) (some (.int ((tClear (st1 (st1 T 30 k (T 30 k ||| (1 : Int32) <<< (nI p &&& 31))) 6 p (T 6 p + 1)) n m v k) 25 k))) := by
  refine am_of (by decide +kernel) (Nat.le_of_ble_eq_true rfl) ?_
  intro C hse hret hname hF hO
  subst hse
  have hs9 := hs
  obtain ⟨hn, hn10, hm, hm80, hv, hv80, hbx, hmm⟩ := hs
  have hk80 : k < 80 := by omega
  refine am_go hF sgX5_vote_0_8bcf7 2 [(0, .ref 0), (1, .int (nI k)), (2, .int (nI p)), (3, .int 1)] [.int (nI k), .ref 0] sgX5_vote_0_8bcf7d rfl ?_
  refine am_dV hF hO [.int (nI k)] [] (c_findMail (T := T) hm hm80 (show k < m by omega)) myX5_findMail vyX5_findMail lm_RX5_150 (hp_main _ _ _) rfl rfl 0 0 ⟨Nat.le_of_ble_eq_true rfl, Nat.le_of_ble_eq_true rfl⟩ ⟨Nat.le_of_ble_eq_true rfl, Nat.le_of_ble_eq_true rfl, Nat.le_of_ble_eq_true rfl, Nat.le_of_ble_eq_true rfl⟩ rfl (am_lv_ref (hp_main _ _ _) (am_lv_int (am_lv_int (am_lv_int am_lv_nil)))) (Nat.le_of_ble_eq_true rfl) dX5_vote_2 [.ref (64 + k)] rfl ?_
  refine am_go hF sgX5_vote_5_72c52 8 [(4, .ref (64 + k)), (0, .ref 0), (1, .int (nI k)), (2, .int (nI p)), (3, .int 1)] [.int (nI p)] sgX5_vote_5_72c52d rfl ?_
  refine am_dS hF hO [.int (nI p)] [] (c_checkPerson (show p < 16 by omega)) myX5_checkPerson syX5_checkPerson lm_RX5_51 rfl 0 0 ⟨Nat.le_of_ble_eq_true rfl, Nat.le_of_ble_eq_true rfl⟩ ⟨Nat.le_of_ble_eq_true rfl, Nat.le_of_ble_eq_true rfl, Nat.le_of_ble_eq_true rfl, Nat.le_of_ble_eq_true rfl⟩ rfl (am_lv_ref (hp_mail _ _ _ hm hm80 (show k < m by omega)) (am_lv_ref (hp_main _ _ _) (am_lv_int (am_lv_int (am_lv_int am_lv_nil))))) (Nat.le_of_ble_eq_true rfl) dX5_vote_8 [] rfl ?_
  refine am_go hF sgX5_vote_11_cbbc5 13 [(4, .ref (64 + k)), (0, .ref 0), (1, .int (nI k)), (2, .int (nI p)), (3, .int 1)] [.ref (64 + k)] sgX5_vote_11_cbbc5d rfl ?_
  refine am_getf hF (hp_mail T S o hm hm80 (show k < m by omega)) (T := TX1) (N := 11) rfl (inG 1 inG1) 10 (by decide) (List.mem_cons_of_mem _ lf_RX5_189) rfl ((if T 28 k = 1 then Value.ref (144 + k) else Value.null)) rfl dX5_vote_13 ?_
  refine am_eqS [.ref (144 + k)] (by rw [if_pos h28]) ?_
  refine am_go hF sgX5_vote_16_8f200 20 [(5, .ref (144 + k)), (4, .ref (64 + k)), (0, .ref 0), (1, .int (nI k)), (2, .int (nI p)), (3, .int 1)] [.ref (144 + k)] sgX5_vote_16_8f200d rfl ?_
  refine am_ifnullR hF dX5_vote_20 ?_
  refine am_go hF sgX5_vote_23_51faf 25 [(5, .ref (144 + k)), (4, .ref (64 + k)), (0, .ref 0), (1, .int (nI k)), (2, .int (nI p)), (3, .int 1)] [.ref (144 + k)] sgX5_vote_23_51fafd rfl ?_
  refine am_dV hF hO [] [] (c_awaited (T := T) (show k < 80 by omega) h28) myX0_awaitedJurors vyX0_awaitedJurors lm_RX5_207 (hp_appeal _ _ _ (show k < 80 by omega) h28) rfl rfl 0 0 ⟨Nat.le_of_ble_eq_true rfl, Nat.le_of_ble_eq_true rfl⟩ ⟨Nat.le_of_ble_eq_true rfl, Nat.le_of_ble_eq_true rfl, Nat.le_of_ble_eq_true rfl, Nat.le_of_ble_eq_true rfl⟩ rfl (am_lv_ref (hp_appeal _ _ _ (show k < 80 by omega) h28) (am_lv_ref (hp_mail _ _ _ hm hm80 (show k < m by omega)) (am_lv_ref (hp_main _ _ _) (am_lv_int (am_lv_int (am_lv_int am_lv_nil)))))) (Nat.le_of_ble_eq_true rfl) dX5_vote_25 [.int (tAw T k)] rfl ?_
  refine am_go hF sgX5_vote_28_f8a59 29 [(5, .ref (144 + k)), (4, .ref (64 + k)), (0, .ref 0), (1, .int (nI k)), (2, .int (nI p)), (3, .int 1)] [.int (nI p), .int (tAw T k)] sgX5_vote_28_f8a59d rfl ?_
  refine am_dS hF hO [.int (tAw T k), .int (nI p)] [] (c_contains (show p < 32 by omega)) myX5_contains syX5_contains lm_RX5_103 rfl 0 0 ⟨Nat.le_of_ble_eq_true rfl, Nat.le_of_ble_eq_true rfl⟩ ⟨Nat.le_of_ble_eq_true rfl, Nat.le_of_ble_eq_true rfl, Nat.le_of_ble_eq_true rfl, Nat.le_of_ble_eq_true rfl⟩ rfl (am_lv_ref (hp_appeal _ _ _ (show k < 80 by omega) h28) (am_lv_ref (hp_mail _ _ _ hm hm80 (show k < m by omega)) (am_lv_ref (hp_main _ _ _) (am_lv_int (am_lv_int (am_lv_int am_lv_nil)))))) (Nat.le_of_ble_eq_true rfl) dX5_vote_29 [.int (zb (bt (tAw T k) p))] rfl ?_
  refine am_ifne hF 45 dX5_vote_32 (by decide) (fun c1 => ?_) (fun c1 => ?_)
  · skip
    replace c1 := zb_p.mp c1
    refine am_go hF sgX5_vote_45_9e85e 49 [(5, .ref (144 + k)), (4, .ref (64 + k)), (0, .ref 0), (1, .int (nI k)), (2, .int (nI p)), (3, .int 1)] [.int 1, .int (nI p), .ref (144 + k)] sgX5_vote_45_9e85ed rfl ?_
    refine am_dV hF hO [.int (nI p), .int 1] [] (c_takeVote_f (T := T) hk80 h28 hp9) myX0_takeVote vyX0_takeVote lm_RX5_213 (hp_appeal _ _ _ (show k < 80 by omega) h28) rfl rfl 0 0 ⟨Nat.le_of_ble_eq_true rfl, Nat.le_of_ble_eq_true rfl⟩ ⟨Nat.le_of_ble_eq_true rfl, Nat.le_of_ble_eq_true rfl, Nat.le_of_ble_eq_true rfl, Nat.le_of_ble_eq_true rfl⟩ rfl (am_lv_ref (hp_appeal _ _ _ (show k < 80 by omega) h28) (am_lv_ref (hp_mail _ _ _ hm hm80 (show k < m by omega)) (am_lv_ref (hp_main _ _ _) (am_lv_int (am_lv_int (am_lv_int am_lv_nil)))))) (Nat.le_of_ble_eq_true rfl) dX5_vote_49 [] rfl ?_
    refine am_go hF sgX5_vote_52_34db8 53 [(5, .ref (144 + k)), (4, .ref (64 + k)), (0, .ref 0), (1, .int (nI k)), (2, .int (nI p)), (3, .int 1)] [.ref 0] sgX5_vote_52_34db8d rfl ?_
    refine am_getf hF (hp_main (st1 T 30 k (T 30 k ||| (1 : Int32) <<< (nI p &&& 31))) S o) (T := TX5) (N := 9) rfl (inG 5 inG5) 0 (by decide) (List.mem_cons_of_mem _ lf_RX5_11) rfl (.ref 1) rfl dX5_vote_53 ?_
    refine am_go hF sgX5_vote_56_f8a59 57 [(5, .ref (144 + k)), (4, .ref (64 + k)), (0, .ref 0), (1, .int (nI k)), (2, .int (nI p)), (3, .int 1)] [.int (nI p), .ref 1] sgX5_vote_56_f8a59d rfl ?_
    refine cv_persons hF p rfl (show p < 16 by omega) dX5_vote_57 ?_
    refine am_go hF sgX5_vote_58_4b010 59 [(5, .ref (144 + k)), (4, .ref (64 + k)), (0, .ref 0), (1, .int (nI k)), (2, .int (nI p)), (3, .int 1)] [.ref (16 + p), .ref (16 + p)] sgX5_vote_58_4b010d rfl ?_
    refine am_getf hF (hp_person (st1 T 30 k (T 30 k ||| (1 : Int32) <<< (nI p &&& 31))) S o (show p < 16 by omega)) (T := TX3) (N := 5) rfl (inG 3 inG3) 1 (by decide) (List.mem_cons_of_mem _ lf_RX5_217) rfl (.int (T 6 p)) rfl dX5_vote_59 ?_
    refine am_go hF sgX5_vote_62_c7176 64 [(5, .ref (144 + k)), (4, .ref (64 + k)), (0, .ref 0), (1, .int (nI k)), (2, .int (nI p)), (3, .int 1)] [.int ((T 6 p) + 1), .ref (16 + p)] sgX5_vote_62_c7176d rfl ?_
    refine am_putf hF (hp_person (st1 T 30 k (T 30 k ||| (1 : Int32) <<< (nI p &&& 31))) S o (show p < 16 by omega)) (T := TX3) (N := 5) rfl (inG 3 inG3) tyX3 tyX3_ok nmX3 1 (by decide) (List.mem_cons_of_mem _ lf_RX5_217) rfl (Or.inl rfl) rfl rfl (Nat.le_of_ble_eq_true rfl) dX5_vote_64 ?_
    refine am_eqX (hp (st1 (st1 T 30 k (T 30 k ||| (1 : Int32) <<< (nI p &&& 31))) 6 p ((T 6 p) + 1)) S o) (hp_s6 (T := (st1 T 30 k (T 30 k ||| (1 : Int32) <<< (nI p &&& 31)))) (show p < 16 by omega) ((T 6 p) + 1)) ?_
    obtain ⟨T8, hT8⟩ : ∃ z, z = (st1 (st1 T 30 k (T 30 k ||| (1 : Int32) <<< (nI p &&& 31))) 6 p (T 6 p + 1)) := ⟨_, rfl⟩
    refine am_eqX (hp T8 S o) (by rw [hT8]) ?_
    have hs8 : tSafe T8 n m v := by rw [hT8]; exact tSafe_st (tSafe_st hs9 (by decide)) (by decide)
    have h828 : T8 28 k = 1 := by rw [hT8, st1_f (by decide), st1_f (by decide)]; exact h28
    refine am_go hF sgX5_vote_67_53887 70 [(5, .ref (144 + k)), (4, .ref (64 + k)), (0, .ref 0), (1, .int (nI k)), (2, .int (nI p)), (3, .int 1)] [.int 1, .ref (144 + k)] sgX5_vote_67_53887d rfl ?_
    refine am_dV hF hO [.int 1] [] (c_isDecided_f (T := T8) hk80 h828) myX0_isDecided vyX0_isDecided lm_RX5_220 (hp_appeal _ _ _ (show k < 80 by omega) h828) rfl rfl 0 0 ⟨Nat.le_of_ble_eq_true rfl, Nat.le_of_ble_eq_true rfl⟩ ⟨Nat.le_of_ble_eq_true rfl, Nat.le_of_ble_eq_true rfl, Nat.le_of_ble_eq_true rfl, Nat.le_of_ble_eq_true rfl⟩ rfl (am_lv_ref (hp_appeal _ _ _ (show k < 80 by omega) h828) (am_lv_ref (hp_mail _ _ _ hs8.2.2.1 hm80 (show k < m by omega)) (am_lv_ref (hp_main _ _ _) (am_lv_int (am_lv_int (am_lv_int am_lv_nil)))))) (Nat.le_of_ble_eq_true rfl) dX5_vote_70 [.int (zb (decide ((2 : Int32) ≤ bc (T8 30 k))))] rfl ?_
    refine am_ifeq hF 85 dX5_vote_73 (by decide) (fun c2 => ?_) (fun c2 => ?_)
    · skip
      replace c2 := of_decide_eq_false (zb_0.mp c2)
      exact absurd h1 (by rw [← hT8]; exact c2)
    · skip
      replace c2 := of_decide_eq_true (zb_p.mp c2)
      refine am_go hF sgX5_vote_76_2c84d 79 [(5, .ref (144 + k)), (4, .ref (64 + k)), (0, .ref 0), (1, .int (nI k)), (2, .int (nI p)), (3, .int 1)] [.ref (64 + k), .ref 0] sgX5_vote_76_2c84dd rfl ?_
      refine am_dV hF hO [.ref (64 + k)] [] (c_clearSender (T := T8) hs8 hk) myX5_clearSender vyX5_clearSender lm_RX5_224 (hp_main _ _ _) rfl rfl 0 0 ⟨Nat.le_of_ble_eq_true rfl, Nat.le_of_ble_eq_true rfl⟩ ⟨Nat.le_of_ble_eq_true rfl, Nat.le_of_ble_eq_true rfl, Nat.le_of_ble_eq_true rfl, Nat.le_of_ble_eq_true rfl⟩ rfl (am_lv_ref (hp_appeal _ _ _ (show k < 80 by omega) h828) (am_lv_ref (hp_mail _ _ _ hs8.2.2.1 hm80 (show k < m by omega)) (am_lv_ref (hp_main _ _ _) (am_lv_int (am_lv_int (am_lv_int am_lv_nil)))))) (Nat.le_of_ble_eq_true rfl) dX5_vote_79 [] rfl ?_
      refine am_go hF sgX5_vote_82_4d408 100 [(5, .ref (144 + k)), (4, .ref (64 + k)), (0, .ref 0), (1, .int (nI k)), (2, .int (nI p)), (3, .int 1)] [] sgX5_vote_82_4d408d rfl ?_
      obtain ⟨T7, hT7⟩ : ∃ z, z = (tClear T8 n m v k) := ⟨_, rfl⟩
      refine am_eqX (hp T7 S o) (by rw [hT7]) ?_
      have hm7 : T7 1 0 = nI m := by rw [hT7]; exact (tClear_1 hs8).trans hs8.2.2.1
      refine am_drop [1] [(4, .ref (64 + k))] rfl ?_
      refine am_go hF sgX5_vote_100_cbbc5 102 [(4, .ref (64 + k))] [.ref (64 + k)] sgX5_vote_100_cbbc5d rfl ?_
      refine am_getf hF (hp_mail T7 S o hm7 hm80 (show k < m by omega)) (T := TX1) (N := 11) rfl (inG 1 inG1) 7 (by decide) (List.mem_cons_of_mem _ lf_RX5_183) rfl (.int (T7 25 k)) rfl dX5_vote_102 ?_
      exact am_iret hF hO hret rfl dX5_vote_105 ⟨by rw [hT7, hT8], by rw [hT7, hT8]⟩
  · skip
    replace c1 := zb_0.mp c1
    exact absurd (hw.symm.trans c1) (by decide)
set_option maxRecDepth 100000 in
set_option maxHeartbeats 4000000 in
theorem c_p_vote_nf0 {G : am_S} {T S : am_T} {o : Nat → Int64} {n m v : Nat} (hs : tSafe T n m v) {k : Nat} (hk : k < m) {p : Nat} (hp9 : p < 16) (h28 : T 28 k = 1) (hw : bt (tAw T k) p = true) (h1 : ¬ (2 : Int32) ≤ bc ((st1 (st1 T 30 k (T 30 k ||| (1 : Int32) <<< (nI p &&& 31))) 6 p (T 6 p + 1)) 30 k)) (h2 : ¬ (2 : Int32) ≤ bc ((st1 (st1 T 30 k (T 30 k ||| (1 : Int32) <<< (nI p &&& 31))) 6 p (T 6 p + 1)) 31 k)) : am_D G yX5_vote (.code yX5_vote cX5_vote 6 (some .int) :: am_G) { frames := 6, cells := 0, slots := 0, locals := 136 } (hp T S o) [.ref 0, .int (nI k), .int (nI p), .int 1] (hp (st1 (st1 T 30 k (T 30 k ||| (1 : Int32) <<< (nI p &&& 31))) 6 p (T 6 p + 1)) S o) (some (.int ((st1 (st1 T 30 k (T 30 k ||| (1 : Int32) <<< (nI p &&& 31))) 6 p (T 6 p + 1)) 25 k))) := by
  refine am_of (by decide +kernel) (Nat.le_of_ble_eq_true rfl) ?_
  intro C hse hret hname hF hO
  subst hse
  have hs9 := hs
  obtain ⟨hn, hn10, hm, hm80, hv, hv80, hbx, hmm⟩ := hs
  have hk80 : k < 80 := by omega
  refine am_go hF sgX5_vote_0_8bcf7 2 [(0, .ref 0), (1, .int (nI k)), (2, .int (nI p)), (3, .int 1)] [.int (nI k), .ref 0] sgX5_vote_0_8bcf7d rfl ?_
  refine am_dV hF hO [.int (nI k)] [] (c_findMail (T := T) hm hm80 (show k < m by omega)) myX5_findMail vyX5_findMail lm_RX5_150 (hp_main _ _ _) rfl rfl 0 0 ⟨Nat.le_of_ble_eq_true rfl, Nat.le_of_ble_eq_true rfl⟩ ⟨Nat.le_of_ble_eq_true rfl, Nat.le_of_ble_eq_true rfl, Nat.le_of_ble_eq_true rfl, Nat.le_of_ble_eq_true rfl⟩ rfl (am_lv_ref (hp_main _ _ _) (am_lv_int (am_lv_int (am_lv_int am_lv_nil)))) (Nat.le_of_ble_eq_true rfl) dX5_vote_2 [.ref (64 + k)] rfl ?_
  refine am_go hF sgX5_vote_5_72c52 8 [(4, .ref (64 + k)), (0, .ref 0), (1, .int (nI k)), (2, .int (nI p)), (3, .int 1)] [.int (nI p)] sgX5_vote_5_72c52d rfl ?_
  refine am_dS hF hO [.int (nI p)] [] (c_checkPerson (show p < 16 by omega)) myX5_checkPerson syX5_checkPerson lm_RX5_51 rfl 0 0 ⟨Nat.le_of_ble_eq_true rfl, Nat.le_of_ble_eq_true rfl⟩ ⟨Nat.le_of_ble_eq_true rfl, Nat.le_of_ble_eq_true rfl, Nat.le_of_ble_eq_true rfl, Nat.le_of_ble_eq_true rfl⟩ rfl (am_lv_ref (hp_mail _ _ _ hm hm80 (show k < m by omega)) (am_lv_ref (hp_main _ _ _) (am_lv_int (am_lv_int (am_lv_int am_lv_nil))))) (Nat.le_of_ble_eq_true rfl) dX5_vote_8 [] rfl ?_
  refine am_go hF sgX5_vote_11_cbbc5 13 [(4, .ref (64 + k)), (0, .ref 0), (1, .int (nI k)), (2, .int (nI p)), (3, .int 1)] [.ref (64 + k)] sgX5_vote_11_cbbc5d rfl ?_
  refine am_getf hF (hp_mail T S o hm hm80 (show k < m by omega)) (T := TX1) (N := 11) rfl (inG 1 inG1) 10 (by decide) (List.mem_cons_of_mem _ lf_RX5_189) rfl ((if T 28 k = 1 then Value.ref (144 + k) else Value.null)) rfl dX5_vote_13 ?_
  refine am_eqS [.ref (144 + k)] (by rw [if_pos h28]) ?_
  refine am_go hF sgX5_vote_16_8f200 20 [(5, .ref (144 + k)), (4, .ref (64 + k)), (0, .ref 0), (1, .int (nI k)), (2, .int (nI p)), (3, .int 1)] [.ref (144 + k)] sgX5_vote_16_8f200d rfl ?_
  refine am_ifnullR hF dX5_vote_20 ?_
  refine am_go hF sgX5_vote_23_51faf 25 [(5, .ref (144 + k)), (4, .ref (64 + k)), (0, .ref 0), (1, .int (nI k)), (2, .int (nI p)), (3, .int 1)] [.ref (144 + k)] sgX5_vote_23_51fafd rfl ?_
  refine am_dV hF hO [] [] (c_awaited (T := T) (show k < 80 by omega) h28) myX0_awaitedJurors vyX0_awaitedJurors lm_RX5_207 (hp_appeal _ _ _ (show k < 80 by omega) h28) rfl rfl 0 0 ⟨Nat.le_of_ble_eq_true rfl, Nat.le_of_ble_eq_true rfl⟩ ⟨Nat.le_of_ble_eq_true rfl, Nat.le_of_ble_eq_true rfl, Nat.le_of_ble_eq_true rfl, Nat.le_of_ble_eq_true rfl⟩ rfl (am_lv_ref (hp_appeal _ _ _ (show k < 80 by omega) h28) (am_lv_ref (hp_mail _ _ _ hm hm80 (show k < m by omega)) (am_lv_ref (hp_main _ _ _) (am_lv_int (am_lv_int (am_lv_int am_lv_nil)))))) (Nat.le_of_ble_eq_true rfl) dX5_vote_25 [.int (tAw T k)] rfl ?_
  refine am_go hF sgX5_vote_28_f8a59 29 [(5, .ref (144 + k)), (4, .ref (64 + k)), (0, .ref 0), (1, .int (nI k)), (2, .int (nI p)), (3, .int 1)] [.int (nI p), .int (tAw T k)] sgX5_vote_28_f8a59d rfl ?_
  refine am_dS hF hO [.int (tAw T k), .int (nI p)] [] (c_contains (show p < 32 by omega)) myX5_contains syX5_contains lm_RX5_103 rfl 0 0 ⟨Nat.le_of_ble_eq_true rfl, Nat.le_of_ble_eq_true rfl⟩ ⟨Nat.le_of_ble_eq_true rfl, Nat.le_of_ble_eq_true rfl, Nat.le_of_ble_eq_true rfl, Nat.le_of_ble_eq_true rfl⟩ rfl (am_lv_ref (hp_appeal _ _ _ (show k < 80 by omega) h28) (am_lv_ref (hp_mail _ _ _ hm hm80 (show k < m by omega)) (am_lv_ref (hp_main _ _ _) (am_lv_int (am_lv_int (am_lv_int am_lv_nil)))))) (Nat.le_of_ble_eq_true rfl) dX5_vote_29 [.int (zb (bt (tAw T k) p))] rfl ?_
  refine am_ifne hF 45 dX5_vote_32 (by decide) (fun c1 => ?_) (fun c1 => ?_)
  · skip
    replace c1 := zb_p.mp c1
    refine am_go hF sgX5_vote_45_9e85e 49 [(5, .ref (144 + k)), (4, .ref (64 + k)), (0, .ref 0), (1, .int (nI k)), (2, .int (nI p)), (3, .int 1)] [.int 1, .int (nI p), .ref (144 + k)] sgX5_vote_45_9e85ed rfl ?_
    refine am_dV hF hO [.int (nI p), .int 1] [] (c_takeVote_f (T := T) hk80 h28 hp9) myX0_takeVote vyX0_takeVote lm_RX5_213 (hp_appeal _ _ _ (show k < 80 by omega) h28) rfl rfl 0 0 ⟨Nat.le_of_ble_eq_true rfl, Nat.le_of_ble_eq_true rfl⟩ ⟨Nat.le_of_ble_eq_true rfl, Nat.le_of_ble_eq_true rfl, Nat.le_of_ble_eq_true rfl, Nat.le_of_ble_eq_true rfl⟩ rfl (am_lv_ref (hp_appeal _ _ _ (show k < 80 by omega) h28) (am_lv_ref (hp_mail _ _ _ hm hm80 (show k < m by omega)) (am_lv_ref (hp_main _ _ _) (am_lv_int (am_lv_int (am_lv_int am_lv_nil)))))) (Nat.le_of_ble_eq_true rfl) dX5_vote_49 [] rfl ?_
    refine am_go hF sgX5_vote_52_34db8 53 [(5, .ref (144 + k)), (4, .ref (64 + k)), (0, .ref 0), (1, .int (nI k)), (2, .int (nI p)), (3, .int 1)] [.ref 0] sgX5_vote_52_34db8d rfl ?_
    refine am_getf hF (hp_main (st1 T 30 k (T 30 k ||| (1 : Int32) <<< (nI p &&& 31))) S o) (T := TX5) (N := 9) rfl (inG 5 inG5) 0 (by decide) (List.mem_cons_of_mem _ lf_RX5_11) rfl (.ref 1) rfl dX5_vote_53 ?_
    refine am_go hF sgX5_vote_56_f8a59 57 [(5, .ref (144 + k)), (4, .ref (64 + k)), (0, .ref 0), (1, .int (nI k)), (2, .int (nI p)), (3, .int 1)] [.int (nI p), .ref 1] sgX5_vote_56_f8a59d rfl ?_
    refine cv_persons hF p rfl (show p < 16 by omega) dX5_vote_57 ?_
    refine am_go hF sgX5_vote_58_4b010 59 [(5, .ref (144 + k)), (4, .ref (64 + k)), (0, .ref 0), (1, .int (nI k)), (2, .int (nI p)), (3, .int 1)] [.ref (16 + p), .ref (16 + p)] sgX5_vote_58_4b010d rfl ?_
    refine am_getf hF (hp_person (st1 T 30 k (T 30 k ||| (1 : Int32) <<< (nI p &&& 31))) S o (show p < 16 by omega)) (T := TX3) (N := 5) rfl (inG 3 inG3) 1 (by decide) (List.mem_cons_of_mem _ lf_RX5_217) rfl (.int (T 6 p)) rfl dX5_vote_59 ?_
    refine am_go hF sgX5_vote_62_c7176 64 [(5, .ref (144 + k)), (4, .ref (64 + k)), (0, .ref 0), (1, .int (nI k)), (2, .int (nI p)), (3, .int 1)] [.int ((T 6 p) + 1), .ref (16 + p)] sgX5_vote_62_c7176d rfl ?_
    refine am_putf hF (hp_person (st1 T 30 k (T 30 k ||| (1 : Int32) <<< (nI p &&& 31))) S o (show p < 16 by omega)) (T := TX3) (N := 5) rfl (inG 3 inG3) tyX3 tyX3_ok nmX3 1 (by decide) (List.mem_cons_of_mem _ lf_RX5_217) rfl (Or.inl rfl) rfl rfl (Nat.le_of_ble_eq_true rfl) dX5_vote_64 ?_
    refine am_eqX (hp (st1 (st1 T 30 k (T 30 k ||| (1 : Int32) <<< (nI p &&& 31))) 6 p ((T 6 p) + 1)) S o) (hp_s6 (T := (st1 T 30 k (T 30 k ||| (1 : Int32) <<< (nI p &&& 31)))) (show p < 16 by omega) ((T 6 p) + 1)) ?_
    obtain ⟨T8, hT8⟩ : ∃ z, z = (st1 (st1 T 30 k (T 30 k ||| (1 : Int32) <<< (nI p &&& 31))) 6 p (T 6 p + 1)) := ⟨_, rfl⟩
    refine am_eqX (hp T8 S o) (by rw [hT8]) ?_
    have hs8 : tSafe T8 n m v := by rw [hT8]; exact tSafe_st (tSafe_st hs9 (by decide)) (by decide)
    have h828 : T8 28 k = 1 := by rw [hT8, st1_f (by decide), st1_f (by decide)]; exact h28
    refine am_go hF sgX5_vote_67_53887 70 [(5, .ref (144 + k)), (4, .ref (64 + k)), (0, .ref 0), (1, .int (nI k)), (2, .int (nI p)), (3, .int 1)] [.int 1, .ref (144 + k)] sgX5_vote_67_53887d rfl ?_
    refine am_dV hF hO [.int 1] [] (c_isDecided_f (T := T8) hk80 h828) myX0_isDecided vyX0_isDecided lm_RX5_220 (hp_appeal _ _ _ (show k < 80 by omega) h828) rfl rfl 0 0 ⟨Nat.le_of_ble_eq_true rfl, Nat.le_of_ble_eq_true rfl⟩ ⟨Nat.le_of_ble_eq_true rfl, Nat.le_of_ble_eq_true rfl, Nat.le_of_ble_eq_true rfl, Nat.le_of_ble_eq_true rfl⟩ rfl (am_lv_ref (hp_appeal _ _ _ (show k < 80 by omega) h828) (am_lv_ref (hp_mail _ _ _ hs8.2.2.1 hm80 (show k < m by omega)) (am_lv_ref (hp_main _ _ _) (am_lv_int (am_lv_int (am_lv_int am_lv_nil)))))) (Nat.le_of_ble_eq_true rfl) dX5_vote_70 [.int (zb (decide ((2 : Int32) ≤ bc (T8 30 k))))] rfl ?_
    refine am_ifeq hF 85 dX5_vote_73 (by decide) (fun c2 => ?_) (fun c2 => ?_)
    · skip
      replace c2 := of_decide_eq_false (zb_0.mp c2)
      refine am_go hF sgX5_vote_85_dd918 88 [(5, .ref (144 + k)), (4, .ref (64 + k)), (0, .ref 0), (1, .int (nI k)), (2, .int (nI p)), (3, .int 1)] [.int 0, .ref (144 + k)] sgX5_vote_85_dd918d rfl ?_
      refine am_dV hF hO [.int 0] [] (c_isDecided_a (T := T8) hk80 h828) myX0_isDecided vyX0_isDecided lm_RX5_220 (hp_appeal _ _ _ (show k < 80 by omega) h828) rfl rfl 0 0 ⟨Nat.le_of_ble_eq_true rfl, Nat.le_of_ble_eq_true rfl⟩ ⟨Nat.le_of_ble_eq_true rfl, Nat.le_of_ble_eq_true rfl, Nat.le_of_ble_eq_true rfl, Nat.le_of_ble_eq_true rfl⟩ rfl (am_lv_ref (hp_appeal _ _ _ (show k < 80 by omega) h828) (am_lv_ref (hp_mail _ _ _ hs8.2.2.1 hm80 (show k < m by omega)) (am_lv_ref (hp_main _ _ _) (am_lv_int (am_lv_int (am_lv_int am_lv_nil)))))) (Nat.le_of_ble_eq_true rfl) dX5_vote_88 [.int (zb (decide ((2 : Int32) ≤ bc (T8 31 k))))] rfl ?_
      refine am_ifeq hF 100 dX5_vote_91 (by decide) (fun c3 => ?_) (fun c3 => ?_)
      · skip
        replace c3 := of_decide_eq_false (zb_0.mp c3)
        obtain ⟨T7, hT7⟩ : ∃ z, z = T8 := ⟨_, rfl⟩
        refine am_eqX (hp T7 S o) (by rw [hT7]) ?_
        have hm7 : T7 1 0 = nI m := by rw [hT7]; exact hs8.2.2.1
        refine am_drop [1] [(4, .ref (64 + k))] rfl ?_
        refine am_go hF sgX5_vote_100_cbbc5 102 [(4, .ref (64 + k))] [.ref (64 + k)] sgX5_vote_100_cbbc5d rfl ?_
        refine am_getf hF (hp_mail T7 S o hm7 hm80 (show k < m by omega)) (T := TX1) (N := 11) rfl (inG 1 inG1) 7 (by decide) (List.mem_cons_of_mem _ lf_RX5_183) rfl (.int (T7 25 k)) rfl dX5_vote_102 ?_
        exact am_iret hF hO hret rfl dX5_vote_105 ⟨by rw [hT7, hT8], by rw [hT7, hT8]⟩
      · skip
        replace c3 := of_decide_eq_true (zb_p.mp c3)
        exact absurd (by rw [← hT8]; exact c3) h2
    · skip
      replace c2 := of_decide_eq_true (zb_p.mp c2)
      exact absurd (by rw [← hT8]; exact c2) h1
  · skip
    replace c1 := zb_0.mp c1
    exact absurd (hw.symm.trans c1) (by decide)
set_option maxRecDepth 100000 in
set_option maxHeartbeats 4000000 in
theorem c_p_vote_na1 {G : am_S} {T S : am_T} {o : Nat → Int64} {n m v : Nat} (hs : tSafe T n m v) {k : Nat} (hk : k < m) {p : Nat} (hp9 : p < 16) (h28 : T 28 k = 1) (hw : bt (tAw T k) p = true) (h1 : ¬ (2 : Int32) ≤ bc ((st1 (st1 T 31 k (T 31 k ||| (1 : Int32) <<< (nI p &&& 31))) 6 p (T 6 p + 1)) 30 k)) (h2 : (2 : Int32) ≤ bc ((st1 (st1 T 31 k (T 31 k ||| (1 : Int32) <<< (nI p &&& 31))) 6 p (T 6 p + 1)) 31 k)) : am_D G yX5_vote (.code yX5_vote cX5_vote 6 (some .int) :: am_G) { frames := 6, cells := 0, slots := 0, locals := 136 } (hp T S o) [.ref 0, .int (nI k), .int (nI p), .int 0] (hp (tCond (st1 (st1 T 31 k (T 31 k ||| (1 : Int32) <<< (nI p &&& 31))) 6 p (T 6 p + 1)) k) S o) (some (.int ((tCond (st1 (st1 T 31 k (T 31 k ||| (1 : Int32) <<< (nI p &&& 31))) 6 p (T 6 p + 1)) k) 25 k))) := by
  refine am_of (by decide +kernel) (Nat.le_of_ble_eq_true rfl) ?_
  intro C hse hret hname hF hO
  subst hse
  have hs9 := hs
  obtain ⟨hn, hn10, hm, hm80, hv, hv80, hbx, hmm⟩ := hs
  have hk80 : k < 80 := by omega
  refine am_go hF sgX5_vote_0_8bcf7 2 [(0, .ref 0), (1, .int (nI k)), (2, .int (nI p)), (3, .int 0)] [.int (nI k), .ref 0] sgX5_vote_0_8bcf7d rfl ?_
  refine am_dV hF hO [.int (nI k)] [] (c_findMail (T := T) hm hm80 (show k < m by omega)) myX5_findMail vyX5_findMail lm_RX5_150 (hp_main _ _ _) rfl rfl 0 0 ⟨Nat.le_of_ble_eq_true rfl, Nat.le_of_ble_eq_true rfl⟩ ⟨Nat.le_of_ble_eq_true rfl, Nat.le_of_ble_eq_true rfl, Nat.le_of_ble_eq_true rfl, Nat.le_of_ble_eq_true rfl⟩ rfl (am_lv_ref (hp_main _ _ _) (am_lv_int (am_lv_int (am_lv_int am_lv_nil)))) (Nat.le_of_ble_eq_true rfl) dX5_vote_2 [.ref (64 + k)] rfl ?_
  refine am_go hF sgX5_vote_5_72c52 8 [(4, .ref (64 + k)), (0, .ref 0), (1, .int (nI k)), (2, .int (nI p)), (3, .int 0)] [.int (nI p)] sgX5_vote_5_72c52d rfl ?_
  refine am_dS hF hO [.int (nI p)] [] (c_checkPerson (show p < 16 by omega)) myX5_checkPerson syX5_checkPerson lm_RX5_51 rfl 0 0 ⟨Nat.le_of_ble_eq_true rfl, Nat.le_of_ble_eq_true rfl⟩ ⟨Nat.le_of_ble_eq_true rfl, Nat.le_of_ble_eq_true rfl, Nat.le_of_ble_eq_true rfl, Nat.le_of_ble_eq_true rfl⟩ rfl (am_lv_ref (hp_mail _ _ _ hm hm80 (show k < m by omega)) (am_lv_ref (hp_main _ _ _) (am_lv_int (am_lv_int (am_lv_int am_lv_nil))))) (Nat.le_of_ble_eq_true rfl) dX5_vote_8 [] rfl ?_
  refine am_go hF sgX5_vote_11_cbbc5 13 [(4, .ref (64 + k)), (0, .ref 0), (1, .int (nI k)), (2, .int (nI p)), (3, .int 0)] [.ref (64 + k)] sgX5_vote_11_cbbc5d rfl ?_
  refine am_getf hF (hp_mail T S o hm hm80 (show k < m by omega)) (T := TX1) (N := 11) rfl (inG 1 inG1) 10 (by decide) (List.mem_cons_of_mem _ lf_RX5_189) rfl ((if T 28 k = 1 then Value.ref (144 + k) else Value.null)) rfl dX5_vote_13 ?_
  refine am_eqS [.ref (144 + k)] (by rw [if_pos h28]) ?_
  refine am_go hF sgX5_vote_16_8f200 20 [(5, .ref (144 + k)), (4, .ref (64 + k)), (0, .ref 0), (1, .int (nI k)), (2, .int (nI p)), (3, .int 0)] [.ref (144 + k)] sgX5_vote_16_8f200d rfl ?_
  refine am_ifnullR hF dX5_vote_20 ?_
  refine am_go hF sgX5_vote_23_51faf 25 [(5, .ref (144 + k)), (4, .ref (64 + k)), (0, .ref 0), (1, .int (nI k)), (2, .int (nI p)), (3, .int 0)] [.ref (144 + k)] sgX5_vote_23_51fafd rfl ?_
  refine am_dV hF hO [] [] (c_awaited (T := T) (show k < 80 by omega) h28) myX0_awaitedJurors vyX0_awaitedJurors lm_RX5_207 (hp_appeal _ _ _ (show k < 80 by omega) h28) rfl rfl 0 0 ⟨Nat.le_of_ble_eq_true rfl, Nat.le_of_ble_eq_true rfl⟩ ⟨Nat.le_of_ble_eq_true rfl, Nat.le_of_ble_eq_true rfl, Nat.le_of_ble_eq_true rfl, Nat.le_of_ble_eq_true rfl⟩ rfl (am_lv_ref (hp_appeal _ _ _ (show k < 80 by omega) h28) (am_lv_ref (hp_mail _ _ _ hm hm80 (show k < m by omega)) (am_lv_ref (hp_main _ _ _) (am_lv_int (am_lv_int (am_lv_int am_lv_nil)))))) (Nat.le_of_ble_eq_true rfl) dX5_vote_25 [.int (tAw T k)] rfl ?_
  refine am_go hF sgX5_vote_28_f8a59 29 [(5, .ref (144 + k)), (4, .ref (64 + k)), (0, .ref 0), (1, .int (nI k)), (2, .int (nI p)), (3, .int 0)] [.int (nI p), .int (tAw T k)] sgX5_vote_28_f8a59d rfl ?_
  refine am_dS hF hO [.int (tAw T k), .int (nI p)] [] (c_contains (show p < 32 by omega)) myX5_contains syX5_contains lm_RX5_103 rfl 0 0 ⟨Nat.le_of_ble_eq_true rfl, Nat.le_of_ble_eq_true rfl⟩ ⟨Nat.le_of_ble_eq_true rfl, Nat.le_of_ble_eq_true rfl, Nat.le_of_ble_eq_true rfl, Nat.le_of_ble_eq_true rfl⟩ rfl (am_lv_ref (hp_appeal _ _ _ (show k < 80 by omega) h28) (am_lv_ref (hp_mail _ _ _ hm hm80 (show k < m by omega)) (am_lv_ref (hp_main _ _ _) (am_lv_int (am_lv_int (am_lv_int am_lv_nil)))))) (Nat.le_of_ble_eq_true rfl) dX5_vote_29 [.int (zb (bt (tAw T k) p))] rfl ?_
  refine am_ifne hF 45 dX5_vote_32 (by decide) (fun c1 => ?_) (fun c1 => ?_)
  · skip
    replace c1 := zb_p.mp c1
    refine am_go hF sgX5_vote_45_9e85e 49 [(5, .ref (144 + k)), (4, .ref (64 + k)), (0, .ref 0), (1, .int (nI k)), (2, .int (nI p)), (3, .int 0)] [.int 0, .int (nI p), .ref (144 + k)] sgX5_vote_45_9e85ed rfl ?_
    refine am_dV hF hO [.int (nI p), .int 0] [] (c_takeVote_a (T := T) hk80 h28 hp9) myX0_takeVote vyX0_takeVote lm_RX5_213 (hp_appeal _ _ _ (show k < 80 by omega) h28) rfl rfl 0 0 ⟨Nat.le_of_ble_eq_true rfl, Nat.le_of_ble_eq_true rfl⟩ ⟨Nat.le_of_ble_eq_true rfl, Nat.le_of_ble_eq_true rfl, Nat.le_of_ble_eq_true rfl, Nat.le_of_ble_eq_true rfl⟩ rfl (am_lv_ref (hp_appeal _ _ _ (show k < 80 by omega) h28) (am_lv_ref (hp_mail _ _ _ hm hm80 (show k < m by omega)) (am_lv_ref (hp_main _ _ _) (am_lv_int (am_lv_int (am_lv_int am_lv_nil)))))) (Nat.le_of_ble_eq_true rfl) dX5_vote_49 [] rfl ?_
    refine am_go hF sgX5_vote_52_34db8 53 [(5, .ref (144 + k)), (4, .ref (64 + k)), (0, .ref 0), (1, .int (nI k)), (2, .int (nI p)), (3, .int 0)] [.ref 0] sgX5_vote_52_34db8d rfl ?_
    refine am_getf hF (hp_main (st1 T 31 k (T 31 k ||| (1 : Int32) <<< (nI p &&& 31))) S o) (T := TX5) (N := 9) rfl (inG 5 inG5) 0 (by decide) (List.mem_cons_of_mem _ lf_RX5_11) rfl (.ref 1) rfl dX5_vote_53 ?_
    refine am_go hF sgX5_vote_56_f8a59 57 [(5, .ref (144 + k)), (4, .ref (64 + k)), (0, .ref 0), (1, .int (nI k)), (2, .int (nI p)), (3, .int 0)] [.int (nI p), .ref 1] sgX5_vote_56_f8a59d rfl ?_
    refine cv_persons hF p rfl (show p < 16 by omega) dX5_vote_57 ?_
    refine am_go hF sgX5_vote_58_4b010 59 [(5, .ref (144 + k)), (4, .ref (64 + k)), (0, .ref 0), (1, .int (nI k)), (2, .int (nI p)), (3, .int 0)] [.ref (16 + p), .ref (16 + p)] sgX5_vote_58_4b010d rfl ?_
    refine am_getf hF (hp_person (st1 T 31 k (T 31 k ||| (1 : Int32) <<< (nI p &&& 31))) S o (show p < 16 by omega)) (T := TX3) (N := 5) rfl (inG 3 inG3) 1 (by decide) (List.mem_cons_of_mem _ lf_RX5_217) rfl (.int (T 6 p)) rfl dX5_vote_59 ?_
    refine am_go hF sgX5_vote_62_c7176 64 [(5, .ref (144 + k)), (4, .ref (64 + k)), (0, .ref 0), (1, .int (nI k)), (2, .int (nI p)), (3, .int 0)] [.int ((T 6 p) + 1), .ref (16 + p)] sgX5_vote_62_c7176d rfl ?_
    refine am_putf hF (hp_person (st1 T 31 k (T 31 k ||| (1 : Int32) <<< (nI p &&& 31))) S o (show p < 16 by omega)) (T := TX3) (N := 5) rfl (inG 3 inG3) tyX3 tyX3_ok nmX3 1 (by decide) (List.mem_cons_of_mem _ lf_RX5_217) rfl (Or.inl rfl) rfl rfl (Nat.le_of_ble_eq_true rfl) dX5_vote_64 ?_
    refine am_eqX (hp (st1 (st1 T 31 k (T 31 k ||| (1 : Int32) <<< (nI p &&& 31))) 6 p ((T 6 p) + 1)) S o) (hp_s6 (T := (st1 T 31 k (T 31 k ||| (1 : Int32) <<< (nI p &&& 31)))) (show p < 16 by omega) ((T 6 p) + 1)) ?_
    obtain ⟨T8, hT8⟩ : ∃ z, z = (st1 (st1 T 31 k (T 31 k ||| (1 : Int32) <<< (nI p &&& 31))) 6 p (T 6 p + 1)) := ⟨_, rfl⟩
    refine am_eqX (hp T8 S o) (by rw [hT8]) ?_
    have hs8 : tSafe T8 n m v := by rw [hT8]; exact tSafe_st (tSafe_st hs9 (by decide)) (by decide)
    have h828 : T8 28 k = 1 := by rw [hT8, st1_f (by decide), st1_f (by decide)]; exact h28
    refine am_go hF sgX5_vote_67_53887 70 [(5, .ref (144 + k)), (4, .ref (64 + k)), (0, .ref 0), (1, .int (nI k)), (2, .int (nI p)), (3, .int 0)] [.int 1, .ref (144 + k)] sgX5_vote_67_53887d rfl ?_
    refine am_dV hF hO [.int 1] [] (c_isDecided_f (T := T8) hk80 h828) myX0_isDecided vyX0_isDecided lm_RX5_220 (hp_appeal _ _ _ (show k < 80 by omega) h828) rfl rfl 0 0 ⟨Nat.le_of_ble_eq_true rfl, Nat.le_of_ble_eq_true rfl⟩ ⟨Nat.le_of_ble_eq_true rfl, Nat.le_of_ble_eq_true rfl, Nat.le_of_ble_eq_true rfl, Nat.le_of_ble_eq_true rfl⟩ rfl (am_lv_ref (hp_appeal _ _ _ (show k < 80 by omega) h828) (am_lv_ref (hp_mail _ _ _ hs8.2.2.1 hm80 (show k < m by omega)) (am_lv_ref (hp_main _ _ _) (am_lv_int (am_lv_int (am_lv_int am_lv_nil)))))) (Nat.le_of_ble_eq_true rfl) dX5_vote_70 [.int (zb (decide ((2 : Int32) ≤ bc (T8 30 k))))] rfl ?_
    refine am_ifeq hF 85 dX5_vote_73 (by decide) (fun c2 => ?_) (fun c2 => ?_)
    · skip
      replace c2 := of_decide_eq_false (zb_0.mp c2)
      refine am_go hF sgX5_vote_85_dd918 88 [(5, .ref (144 + k)), (4, .ref (64 + k)), (0, .ref 0), (1, .int (nI k)), (2, .int (nI p)), (3, .int 0)] [.int 0, .ref (144 + k)] sgX5_vote_85_dd918d rfl ?_
      refine am_dV hF hO [.int 0] [] (c_isDecided_a (T := T8) hk80 h828) myX0_isDecided vyX0_isDecided lm_RX5_220 (hp_appeal _ _ _ (show k < 80 by omega) h828) rfl rfl 0 0 ⟨Nat.le_of_ble_eq_true rfl, Nat.le_of_ble_eq_true rfl⟩ ⟨Nat.le_of_ble_eq_true rfl, Nat.le_of_ble_eq_true rfl, Nat.le_of_ble_eq_true rfl, Nat.le_of_ble_eq_true rfl⟩ rfl (am_lv_ref (hp_appeal _ _ _ (show k < 80 by omega) h828) (am_lv_ref (hp_mail _ _ _ hs8.2.2.1 hm80 (show k < m by omega)) (am_lv_ref (hp_main _ _ _) (am_lv_int (am_lv_int (am_lv_int am_lv_nil)))))) (Nat.le_of_ble_eq_true rfl) dX5_vote_88 [.int (zb (decide ((2 : Int32) ≤ bc (T8 31 k))))] rfl ?_
      refine am_ifeq hF 100 dX5_vote_91 (by decide) (fun c3 => ?_) (fun c3 => ?_)
      · skip
        replace c3 := of_decide_eq_false (zb_0.mp c3)
        exact absurd h2 (by rw [← hT8]; exact c3)
      · skip
        replace c3 := of_decide_eq_true (zb_p.mp c3)
        refine am_go hF sgX5_vote_94_2c84d 97 [(5, .ref (144 + k)), (4, .ref (64 + k)), (0, .ref 0), (1, .int (nI k)), (2, .int (nI p)), (3, .int 0)] [.ref (64 + k), .ref 0] sgX5_vote_94_2c84dd rfl ?_
        refine am_dV hF hO [.ref (64 + k)] [] (c_condemn (T := T8) hs8 hk) myX5_condemnByCourt vyX5_condemnByCourt lm_RX5_227 (hp_main _ _ _) rfl rfl 0 0 ⟨Nat.le_of_ble_eq_true rfl, Nat.le_of_ble_eq_true rfl⟩ ⟨Nat.le_of_ble_eq_true rfl, Nat.le_of_ble_eq_true rfl, Nat.le_of_ble_eq_true rfl, Nat.le_of_ble_eq_true rfl⟩ rfl (am_lv_ref (hp_appeal _ _ _ (show k < 80 by omega) h828) (am_lv_ref (hp_mail _ _ _ hs8.2.2.1 hm80 (show k < m by omega)) (am_lv_ref (hp_main _ _ _) (am_lv_int (am_lv_int (am_lv_int am_lv_nil)))))) (Nat.le_of_ble_eq_true rfl) dX5_vote_97 [] rfl ?_
        obtain ⟨T7, hT7⟩ : ∃ z, z = (tCond T8 k) := ⟨_, rfl⟩
        refine am_eqX (hp T7 S o) (by rw [hT7]) ?_
        have hm7 : T7 1 0 = nI m := by rw [hT7]; exact (congrFun (tCond_f (by decide)) 0).trans hs8.2.2.1
        refine am_drop [1] [(4, .ref (64 + k))] rfl ?_
        refine am_go hF sgX5_vote_100_cbbc5 102 [(4, .ref (64 + k))] [.ref (64 + k)] sgX5_vote_100_cbbc5d rfl ?_
        refine am_getf hF (hp_mail T7 S o hm7 hm80 (show k < m by omega)) (T := TX1) (N := 11) rfl (inG 1 inG1) 7 (by decide) (List.mem_cons_of_mem _ lf_RX5_183) rfl (.int (T7 25 k)) rfl dX5_vote_102 ?_
        exact am_iret hF hO hret rfl dX5_vote_105 ⟨by rw [hT7, hT8], by rw [hT7, hT8]⟩
    · skip
      replace c2 := of_decide_eq_true (zb_p.mp c2)
      exact absurd (by rw [← hT8]; exact c2) h1
  · skip
    replace c1 := zb_0.mp c1
    exact absurd (hw.symm.trans c1) (by decide)
set_option maxRecDepth 100000 in
set_option maxHeartbeats 4000000 in
theorem c_p_vote_na0 {G : am_S} {T S : am_T} {o : Nat → Int64} {n m v : Nat} (hs : tSafe T n m v) {k : Nat} (hk : k < m) {p : Nat} (hp9 : p < 16) (h28 : T 28 k = 1) (hw : bt (tAw T k) p = true) (h1 : ¬ (2 : Int32) ≤ bc ((st1 (st1 T 31 k (T 31 k ||| (1 : Int32) <<< (nI p &&& 31))) 6 p (T 6 p + 1)) 30 k)) (h2 : ¬ (2 : Int32) ≤ bc ((st1 (st1 T 31 k (T 31 k ||| (1 : Int32) <<< (nI p &&& 31))) 6 p (T 6 p + 1)) 31 k)) : am_D G yX5_vote (.code yX5_vote cX5_vote 6 (some .int) :: am_G) { frames := 6, cells := 0, slots := 0, locals := 136 } (hp T S o) [.ref 0, .int (nI k), .int (nI p), .int 0] (hp (st1 (st1 T 31 k (T 31 k ||| (1 : Int32) <<< (nI p &&& 31))) 6 p (T 6 p + 1)) S o) (some (.int ((st1 (st1 T 31 k (T 31 k ||| (1 : Int32) <<< (nI p &&& 31))) 6 p (T 6 p + 1)) 25 k))) := by
  refine am_of (by decide +kernel) (Nat.le_of_ble_eq_true rfl) ?_
  intro C hse hret hname hF hO
  subst hse
  have hs9 := hs
  obtain ⟨hn, hn10, hm, hm80, hv, hv80, hbx, hmm⟩ := hs
  have hk80 : k < 80 := by omega
  refine am_go hF sgX5_vote_0_8bcf7 2 [(0, .ref 0), (1, .int (nI k)), (2, .int (nI p)), (3, .int 0)] [.int (nI k), .ref 0] sgX5_vote_0_8bcf7d rfl ?_
  refine am_dV hF hO [.int (nI k)] [] (c_findMail (T := T) hm hm80 (show k < m by omega)) myX5_findMail vyX5_findMail lm_RX5_150 (hp_main _ _ _) rfl rfl 0 0 ⟨Nat.le_of_ble_eq_true rfl, Nat.le_of_ble_eq_true rfl⟩ ⟨Nat.le_of_ble_eq_true rfl, Nat.le_of_ble_eq_true rfl, Nat.le_of_ble_eq_true rfl, Nat.le_of_ble_eq_true rfl⟩ rfl (am_lv_ref (hp_main _ _ _) (am_lv_int (am_lv_int (am_lv_int am_lv_nil)))) (Nat.le_of_ble_eq_true rfl) dX5_vote_2 [.ref (64 + k)] rfl ?_
  refine am_go hF sgX5_vote_5_72c52 8 [(4, .ref (64 + k)), (0, .ref 0), (1, .int (nI k)), (2, .int (nI p)), (3, .int 0)] [.int (nI p)] sgX5_vote_5_72c52d rfl ?_
  refine am_dS hF hO [.int (nI p)] [] (c_checkPerson (show p < 16 by omega)) myX5_checkPerson syX5_checkPerson lm_RX5_51 rfl 0 0 ⟨Nat.le_of_ble_eq_true rfl, Nat.le_of_ble_eq_true rfl⟩ ⟨Nat.le_of_ble_eq_true rfl, Nat.le_of_ble_eq_true rfl, Nat.le_of_ble_eq_true rfl, Nat.le_of_ble_eq_true rfl⟩ rfl (am_lv_ref (hp_mail _ _ _ hm hm80 (show k < m by omega)) (am_lv_ref (hp_main _ _ _) (am_lv_int (am_lv_int (am_lv_int am_lv_nil))))) (Nat.le_of_ble_eq_true rfl) dX5_vote_8 [] rfl ?_
  refine am_go hF sgX5_vote_11_cbbc5 13 [(4, .ref (64 + k)), (0, .ref 0), (1, .int (nI k)), (2, .int (nI p)), (3, .int 0)] [.ref (64 + k)] sgX5_vote_11_cbbc5d rfl ?_
  refine am_getf hF (hp_mail T S o hm hm80 (show k < m by omega)) (T := TX1) (N := 11) rfl (inG 1 inG1) 10 (by decide) (List.mem_cons_of_mem _ lf_RX5_189) rfl ((if T 28 k = 1 then Value.ref (144 + k) else Value.null)) rfl dX5_vote_13 ?_
  refine am_eqS [.ref (144 + k)] (by rw [if_pos h28]) ?_
  refine am_go hF sgX5_vote_16_8f200 20 [(5, .ref (144 + k)), (4, .ref (64 + k)), (0, .ref 0), (1, .int (nI k)), (2, .int (nI p)), (3, .int 0)] [.ref (144 + k)] sgX5_vote_16_8f200d rfl ?_
  refine am_ifnullR hF dX5_vote_20 ?_
  refine am_go hF sgX5_vote_23_51faf 25 [(5, .ref (144 + k)), (4, .ref (64 + k)), (0, .ref 0), (1, .int (nI k)), (2, .int (nI p)), (3, .int 0)] [.ref (144 + k)] sgX5_vote_23_51fafd rfl ?_
  refine am_dV hF hO [] [] (c_awaited (T := T) (show k < 80 by omega) h28) myX0_awaitedJurors vyX0_awaitedJurors lm_RX5_207 (hp_appeal _ _ _ (show k < 80 by omega) h28) rfl rfl 0 0 ⟨Nat.le_of_ble_eq_true rfl, Nat.le_of_ble_eq_true rfl⟩ ⟨Nat.le_of_ble_eq_true rfl, Nat.le_of_ble_eq_true rfl, Nat.le_of_ble_eq_true rfl, Nat.le_of_ble_eq_true rfl⟩ rfl (am_lv_ref (hp_appeal _ _ _ (show k < 80 by omega) h28) (am_lv_ref (hp_mail _ _ _ hm hm80 (show k < m by omega)) (am_lv_ref (hp_main _ _ _) (am_lv_int (am_lv_int (am_lv_int am_lv_nil)))))) (Nat.le_of_ble_eq_true rfl) dX5_vote_25 [.int (tAw T k)] rfl ?_
  refine am_go hF sgX5_vote_28_f8a59 29 [(5, .ref (144 + k)), (4, .ref (64 + k)), (0, .ref 0), (1, .int (nI k)), (2, .int (nI p)), (3, .int 0)] [.int (nI p), .int (tAw T k)] sgX5_vote_28_f8a59d rfl ?_
  refine am_dS hF hO [.int (tAw T k), .int (nI p)] [] (c_contains (show p < 32 by omega)) myX5_contains syX5_contains lm_RX5_103 rfl 0 0 ⟨Nat.le_of_ble_eq_true rfl, Nat.le_of_ble_eq_true rfl⟩ ⟨Nat.le_of_ble_eq_true rfl, Nat.le_of_ble_eq_true rfl, Nat.le_of_ble_eq_true rfl, Nat.le_of_ble_eq_true rfl⟩ rfl (am_lv_ref (hp_appeal _ _ _ (show k < 80 by omega) h28) (am_lv_ref (hp_mail _ _ _ hm hm80 (show k < m by omega)) (am_lv_ref (hp_main _ _ _) (am_lv_int (am_lv_int (am_lv_int am_lv_nil)))))) (Nat.le_of_ble_eq_true rfl) dX5_vote_29 [.int (zb (bt (tAw T k) p))] rfl ?_
  refine am_ifne hF 45 dX5_vote_32 (by decide) (fun c1 => ?_) (fun c1 => ?_)
  · skip
    replace c1 := zb_p.mp c1
    refine am_go hF sgX5_vote_45_9e85e 49 [(5, .ref (144 + k)), (4, .ref (64 + k)), (0, .ref 0), (1, .int (nI k)), (2, .int (nI p)), (3, .int 0)] [.int 0, .int (nI p), .ref (144 + k)] sgX5_vote_45_9e85ed rfl ?_
    refine am_dV hF hO [.int (nI p), .int 0] [] (c_takeVote_a (T := T) hk80 h28 hp9) myX0_takeVote vyX0_takeVote lm_RX5_213 (hp_appeal _ _ _ (show k < 80 by omega) h28) rfl rfl 0 0 ⟨Nat.le_of_ble_eq_true rfl, Nat.le_of_ble_eq_true rfl⟩ ⟨Nat.le_of_ble_eq_true rfl, Nat.le_of_ble_eq_true rfl, Nat.le_of_ble_eq_true rfl, Nat.le_of_ble_eq_true rfl⟩ rfl (am_lv_ref (hp_appeal _ _ _ (show k < 80 by omega) h28) (am_lv_ref (hp_mail _ _ _ hm hm80 (show k < m by omega)) (am_lv_ref (hp_main _ _ _) (am_lv_int (am_lv_int (am_lv_int am_lv_nil)))))) (Nat.le_of_ble_eq_true rfl) dX5_vote_49 [] rfl ?_
    refine am_go hF sgX5_vote_52_34db8 53 [(5, .ref (144 + k)), (4, .ref (64 + k)), (0, .ref 0), (1, .int (nI k)), (2, .int (nI p)), (3, .int 0)] [.ref 0] sgX5_vote_52_34db8d rfl ?_
    refine am_getf hF (hp_main (st1 T 31 k (T 31 k ||| (1 : Int32) <<< (nI p &&& 31))) S o) (T := TX5) (N := 9) rfl (inG 5 inG5) 0 (by decide) (List.mem_cons_of_mem _ lf_RX5_11) rfl (.ref 1) rfl dX5_vote_53 ?_
    refine am_go hF sgX5_vote_56_f8a59 57 [(5, .ref (144 + k)), (4, .ref (64 + k)), (0, .ref 0), (1, .int (nI k)), (2, .int (nI p)), (3, .int 0)] [.int (nI p), .ref 1] sgX5_vote_56_f8a59d rfl ?_
    refine cv_persons hF p rfl (show p < 16 by omega) dX5_vote_57 ?_
    refine am_go hF sgX5_vote_58_4b010 59 [(5, .ref (144 + k)), (4, .ref (64 + k)), (0, .ref 0), (1, .int (nI k)), (2, .int (nI p)), (3, .int 0)] [.ref (16 + p), .ref (16 + p)] sgX5_vote_58_4b010d rfl ?_
    refine am_getf hF (hp_person (st1 T 31 k (T 31 k ||| (1 : Int32) <<< (nI p &&& 31))) S o (show p < 16 by omega)) (T := TX3) (N := 5) rfl (inG 3 inG3) 1 (by decide) (List.mem_cons_of_mem _ lf_RX5_217) rfl (.int (T 6 p)) rfl dX5_vote_59 ?_
    refine am_go hF sgX5_vote_62_c7176 64 [(5, .ref (144 + k)), (4, .ref (64 + k)), (0, .ref 0), (1, .int (nI k)), (2, .int (nI p)), (3, .int 0)] [.int ((T 6 p) + 1), .ref (16 + p)] sgX5_vote_62_c7176d rfl ?_
    refine am_putf hF (hp_person (st1 T 31 k (T 31 k ||| (1 : Int32) <<< (nI p &&& 31))) S o (show p < 16 by omega)) (T := TX3) (N := 5) rfl (inG 3 inG3) tyX3 tyX3_ok nmX3 1 (by decide) (List.mem_cons_of_mem _ lf_RX5_217) rfl (Or.inl rfl) rfl rfl (Nat.le_of_ble_eq_true rfl) dX5_vote_64 ?_
    refine am_eqX (hp (st1 (st1 T 31 k (T 31 k ||| (1 : Int32) <<< (nI p &&& 31))) 6 p ((T 6 p) + 1)) S o) (hp_s6 (T := (st1 T 31 k (T 31 k ||| (1 : Int32) <<< (nI p &&& 31)))) (show p < 16 by omega) ((T 6 p) + 1)) ?_
    obtain ⟨T8, hT8⟩ : ∃ z, z = (st1 (st1 T 31 k (T 31 k ||| (1 : Int32) <<< (nI p &&& 31))) 6 p (T 6 p + 1)) := ⟨_, rfl⟩
    refine am_eqX (hp T8 S o) (by rw [hT8]) ?_
    have hs8 : tSafe T8 n m v := by rw [hT8]; exact tSafe_st (tSafe_st hs9 (by decide)) (by decide)
    have h828 : T8 28 k = 1 := by rw [hT8, st1_f (by decide), st1_f (by decide)]; exact h28
    refine am_go hF sgX5_vote_67_53887 70 [(5, .ref (144 + k)), (4, .ref (64 + k)), (0, .ref 0), (1, .int (nI k)), (2, .int (nI p)), (3, .int 0)] [.int 1, .ref (144 + k)] sgX5_vote_67_53887d rfl ?_
    refine am_dV hF hO [.int 1] [] (c_isDecided_f (T := T8) hk80 h828) myX0_isDecided vyX0_isDecided lm_RX5_220 (hp_appeal _ _ _ (show k < 80 by omega) h828) rfl rfl 0 0 ⟨Nat.le_of_ble_eq_true rfl, Nat.le_of_ble_eq_true rfl⟩ ⟨Nat.le_of_ble_eq_true rfl, Nat.le_of_ble_eq_true rfl, Nat.le_of_ble_eq_true rfl, Nat.le_of_ble_eq_true rfl⟩ rfl (am_lv_ref (hp_appeal _ _ _ (show k < 80 by omega) h828) (am_lv_ref (hp_mail _ _ _ hs8.2.2.1 hm80 (show k < m by omega)) (am_lv_ref (hp_main _ _ _) (am_lv_int (am_lv_int (am_lv_int am_lv_nil)))))) (Nat.le_of_ble_eq_true rfl) dX5_vote_70 [.int (zb (decide ((2 : Int32) ≤ bc (T8 30 k))))] rfl ?_
    refine am_ifeq hF 85 dX5_vote_73 (by decide) (fun c2 => ?_) (fun c2 => ?_)
    · skip
      replace c2 := of_decide_eq_false (zb_0.mp c2)
      refine am_go hF sgX5_vote_85_dd918 88 [(5, .ref (144 + k)), (4, .ref (64 + k)), (0, .ref 0), (1, .int (nI k)), (2, .int (nI p)), (3, .int 0)] [.int 0, .ref (144 + k)] sgX5_vote_85_dd918d rfl ?_
      refine am_dV hF hO [.int 0] [] (c_isDecided_a (T := T8) hk80 h828) myX0_isDecided vyX0_isDecided lm_RX5_220 (hp_appeal _ _ _ (show k < 80 by omega) h828) rfl rfl 0 0 ⟨Nat.le_of_ble_eq_true rfl, Nat.le_of_ble_eq_true rfl⟩ ⟨Nat.le_of_ble_eq_true rfl, Nat.le_of_ble_eq_true rfl, Nat.le_of_ble_eq_true rfl, Nat.le_of_ble_eq_true rfl⟩ rfl (am_lv_ref (hp_appeal _ _ _ (show k < 80 by omega) h828) (am_lv_ref (hp_mail _ _ _ hs8.2.2.1 hm80 (show k < m by omega)) (am_lv_ref (hp_main _ _ _) (am_lv_int (am_lv_int (am_lv_int am_lv_nil)))))) (Nat.le_of_ble_eq_true rfl) dX5_vote_88 [.int (zb (decide ((2 : Int32) ≤ bc (T8 31 k))))] rfl ?_
      refine am_ifeq hF 100 dX5_vote_91 (by decide) (fun c3 => ?_) (fun c3 => ?_)
      · skip
        replace c3 := of_decide_eq_false (zb_0.mp c3)
        obtain ⟨T7, hT7⟩ : ∃ z, z = T8 := ⟨_, rfl⟩
        refine am_eqX (hp T7 S o) (by rw [hT7]) ?_
        have hm7 : T7 1 0 = nI m := by rw [hT7]; exact hs8.2.2.1
        refine am_drop [1] [(4, .ref (64 + k))] rfl ?_
        refine am_go hF sgX5_vote_100_cbbc5 102 [(4, .ref (64 + k))] [.ref (64 + k)] sgX5_vote_100_cbbc5d rfl ?_
        refine am_getf hF (hp_mail T7 S o hm7 hm80 (show k < m by omega)) (T := TX1) (N := 11) rfl (inG 1 inG1) 7 (by decide) (List.mem_cons_of_mem _ lf_RX5_183) rfl (.int (T7 25 k)) rfl dX5_vote_102 ?_
        exact am_iret hF hO hret rfl dX5_vote_105 ⟨by rw [hT7, hT8], by rw [hT7, hT8]⟩
      · skip
        replace c3 := of_decide_eq_true (zb_p.mp c3)
        exact absurd (by rw [← hT8]; exact c3) h2
    · skip
      replace c2 := of_decide_eq_true (zb_p.mp c2)
      exact absurd (by rw [← hT8]; exact c2) h1
  · skip
    replace c1 := zb_0.mp c1
    exact absurd (hw.symm.trans c1) (by decide)
