/-! the law, case by case, 2 -/
def sgLW_858_1478f : List Instr := [.aload_n 1, .aload_n 0, .iload 4, .iconst 1, .iadd]
theorem sgLW_858_1478fd : am_dec code 858 sgLW_858_1478f = true := by decide +kernel
theorem dLW_864 : decode code 864 = .ok (.iaload, 1) := by decide +kernel
def sgLW_865_67016 : List Instr := [.aload_n 3]
theorem sgLW_865_67016d : am_dec code 865 sgLW_865_67016 = true := by decide +kernel
theorem dLW_866 : decode code 866 = .ok (.invokestatic 164, 3) := by decide +kernel
def sgLW_869_523aa : List Instr := [.istore 5, .aload_n 2, .aload_n 0, .iload 4, .iconst 1, .iadd]
theorem sgLW_869_523aad : am_dec code 869 sgLW_869_523aa = true := by decide +kernel
theorem dLW_877 : decode code 877 = .ok (.iaload, 1) := by decide +kernel
theorem dLW_878 : decode code 878 = .ok (.invokevirtual 166, 3) := by decide +kernel
def sgLW_881_2d201 : List Instr := [.istore 6, .aload_n 2]
theorem sgLW_881_2d201d : am_dec code 881 sgLW_881_2d201 = true := by decide +kernel
theorem dLW_884 : decode code 884 = .ok (.invokevirtual 133, 3) := by decide +kernel
def sgLW_887_9df92 : List Instr := [.iload 5]
theorem sgLW_887_9df92d : am_dec code 887 sgLW_887_9df92 = true := by decide +kernel
theorem dLW_889 : decode code 889 = .ok (.if_icmp .eq 5, 3) := by decide +kernel
def sgLW_894_9df92 : List Instr := [.iload 5]
theorem sgLW_894_9df92d : am_dec code 894 sgLW_894_9df92 = true := by decide +kernel
theorem dLW_896 : decode code 896 = .ok (.ifCond .ne 15, 3) := by decide +kernel
def sgLW_911_17d46 : List Instr := [.goto 1477]
theorem sgLW_911_17d46d : am_dec code 911 sgLW_911_17d46 = true := by decide +kernel
def sgLW_899_1f411 : List Instr := [.aload_n 3, .iconst 0]
theorem sgLW_899_1f411d : am_dec code 899 sgLW_899_1f411 = true := by decide +kernel
theorem dLW_901 : decode code 901 = .ok (.laload, 1) := by decide +kernel
def sgLW_902_abfd4 : List Instr := [.iload 6, .i2l, .lcmp]
theorem sgLW_902_abfd4d : am_dec code 902 sgLW_902_abfd4 = true := by decide +kernel
theorem dLW_906 : decode code 906 = .ok (.ifCond .eq 5, 3) := by decide +kernel
set_option maxRecDepth 100000 in
set_option maxHeartbeats 2000000 in
theorem law_reachesByMembers {C : am_Cx} {q : Nat × Nat × Nat} {w0 : Cond} {b N : Nat} {xs : Nat → Int32} (hF : am_F C code 7 RL (w0 :: am_G)) (hK9 : am_K C.n0 C.dg C.ty C.st) (hro : C.ro = room_1) (hXs : va_X b N xs C.st C.st.heap) (hbl : b < C.st.heap.size) (hbA : ¬ C.n0 ≤ b) (hN : N ≤ 2560) {T S : am_T} {o : Nat → Int64} {P : am_T → am_T → Prop} {j : Nat} (hj : 5 * j + 5 ≤ N) (hop : ∀ x1 : Int32, ∃ (kk bb : Int32) (T' S' : am_T) (o' : Nat → Int64), am_D C.se yL_reachesByMembers (.codeWith yL_reachesByMembers cL_reachesByMembers 4 (some .int) [(0, 9, 12, 13)] :: am_G) am_WR (hp T S o) [.ref 0, .int x1, .ref 464] (hp T' S o') (some (.int kk)) ∧ am_D C.se yX6_reachesByMembers (.code yX6_reachesByMembers cX6_reachesByMembers 2 (some .int) :: am_G) { frames := 3, cells := 0, slots := 0, locals := 75 } (hp T' S o') [.ref 465, .int x1] (hp T' S' o') (some (.int bb)) ∧ S' 0 0 = kk ∧ (kk = 0 → o' 0 = bb.toInt64) ∧ P T' S') (kend : ∀ (T' S' : am_T) (o' : Nat → Int64), P T' S' → lW C q (hp T' S' o') (71 + 4 * (j + 1)) (18836 + 36 * (j + 1)) 2388 [(0, .ref b), (1, .ref q.1), (2, .ref q.2.2), (3, .ref q.2.1), (4, .int (nI (5 * j)))] []) : lW C q (hp T S o) (71 + 4 * j) (18836 + 36 * j) 858 [(0, .ref b), (1, .ref q.1), (2, .ref q.2.2), (3, .ref q.2.1), (4, .int (nI (5 * j)))] [] := by
  refine l_go hF sgLW_858_1478f 864 [(0, .ref b), (1, .ref q.1), (2, .ref q.2.2), (3, .ref q.2.1), (4, .int (nI (5 * j)))] [.int (nI (5 * j) + 1), .ref b, .ref q.1] sgLW_858_1478fd rfl ?_
  refine l_sld hF hXs hbl hbA (5 * j + 1) (am_ad rfl rfl) (by omega) (by omega) dLW_864 ?_
  refine l_go hF sgLW_865_67016 866 [(0, .ref b), (1, .ref q.1), (2, .ref q.2.2), (3, .ref q.2.1), (4, .int (nI (5 * j)))] [.ref q.2.1, .int (xs (5 * j + 1)), .ref q.1] sgLW_865_67016d rfl ?_
  obtain ⟨kk, bb, T', S', o', hw, hr, hth, ho, hP⟩ := hop (xs (5 * j + 1))
  refine l_dS hF hK9 [.ref 0, .int (xs (5 * j + 1)), .ref 464] [.ref q.1, .int (xs (5 * j + 1)), .ref q.2.1] [] hw mwyL_reachesByMembers swyL_reachesByMembers lm_RL_164 rfl (71 + 4 * (j + 1)) (18836 + 36 * (j + 1)) (by rw [hro]; exact ⟨Nat.le_of_ble_eq_true rfl, Nat.le_of_ble_eq_true rfl⟩) ⟨by show _ + 4 ≤ _; omega, by show _ + 36 ≤ _; omega, by rw [hro]; show _ ≤ 601024; omega, by rw [hro]; show _ ≤ 7293034; omega⟩ rfl (fun ad h => by simp only [List.map_cons, List.map_nil, am_v, h.1, h.2.1]) (hp_q _ _ _) (Nat.le_of_ble_eq_true rfl) dLW_866 ?_
  refine l_go hF sgLW_869_523aa 877 [(5, .int kk), (0, .ref b), (1, .ref q.1), (2, .ref q.2.2), (3, .ref q.2.1), (4, .int (nI (5 * j)))] [.int (nI (5 * j) + 1), .ref b, .ref q.2.2] sgLW_869_523aad rfl ?_
  refine l_sld hF hXs hbl hbA (5 * j + 1) (am_ad rfl rfl) (by omega) (by omega) dLW_877 ?_
  refine l_dV hF hK9 (b := 465) [.int (xs (5 * j + 1))] [.int (xs (5 * j + 1))] [] hr myX6_reachesByMembers vyX6_reachesByMembers lm_RL_166 (hp_m _ _ _) rfl rfl (71 + 4 * (j + 1)) (18836 + 36 * (j + 1)) (by rw [hro]; exact ⟨Nat.le_of_ble_eq_true rfl, Nat.le_of_ble_eq_true rfl⟩) ⟨by show _ + 0 ≤ _; omega, by show _ + 0 ≤ _; omega, by rw [hro]; show _ ≤ 601024; omega, by rw [hro]; show _ ≤ 7293034; omega⟩ rfl (fun ad h => h.2.2) (fun ad => rfl) (hp_q _ _ _) (Nat.le_of_ble_eq_true rfl) dLW_878 ?_
  refine l_go hF sgLW_881_2d201 884 [(6, .int bb), (5, .int kk), (0, .ref b), (1, .ref q.1), (2, .ref q.2.2), (3, .ref q.2.1), (4, .int (nI (5 * j)))] [.ref q.2.2] sgLW_881_2d201d rfl ?_
  refine l_dV hF hK9 (b := 465) [] [] [] (c_r_thrown (T := T') (S := S') (o := o')) myX6_thrown vyX6_thrown lm_RL_133 (hp_m _ _ _) rfl rfl (71 + 4 * (j + 1)) (18836 + 36 * (j + 1)) (by rw [hro]; exact ⟨Nat.le_of_ble_eq_true rfl, Nat.le_of_ble_eq_true rfl⟩) ⟨by show _ + 0 ≤ _; omega, by show _ + 0 ≤ _; omega, by rw [hro]; show _ ≤ 601024; omega, by rw [hro]; show _ ≤ 7293034; omega⟩ rfl (fun ad h => h.2.2) (fun ad => rfl) (hp_q _ _ _) (Nat.le_of_ble_eq_true rfl) dLW_884 ?_
  refine l_go hF sgLW_887_9df92 889 [(6, .int bb), (5, .int kk), (0, .ref b), (1, .ref q.1), (2, .ref q.2.2), (3, .ref q.2.1), (4, .int (nI (5 * j)))] [.int kk, .int (S' 0 0)] sgLW_887_9df92d rfl ?_
  refine l_icmpeq hF 894 dLW_889 (by decide) (fun _ => ?_) (fun c9 => absurd hth c9)
  refine l_go hF sgLW_894_9df92 896 [(6, .int bb), (5, .int kk), (0, .ref b), (1, .ref q.1), (2, .ref q.2.2), (3, .ref q.2.1), (4, .int (nI (5 * j)))] [.int kk] sgLW_894_9df92d rfl ?_
  have hend : lW C q (hp T' S' o') (71 + 4 * (j + 1)) (18836 + 36 * (j + 1)) 911 [(6, .int bb), (5, .int kk), (0, .ref b), (1, .ref q.1), (2, .ref q.2.2), (3, .ref q.2.1), (4, .int (nI (5 * j)))] [] := by
    refine l_go hF sgLW_911_17d46 2388 [(6, .int bb), (5, .int kk), (0, .ref b), (1, .ref q.1), (2, .ref q.2.2), (3, .ref q.2.1), (4, .int (nI (5 * j)))] [] sgLW_911_17d46d rfl ?_
    refine l_drop [2, 3, 4, 5, 6] [(0, .ref b), (1, .ref q.1), (2, .ref q.2.2), (3, .ref q.2.1), (4, .int (nI (5 * j)))] rfl ?_
    exact kend T' S' o' hP
  refine l_ifne hF 911 dLW_896 (by decide) (fun _ => hend) (fun hk0 => ?_)
  refine l_go hF sgLW_899_1f411 901 [(6, .int bb), (5, .int kk), (0, .ref b), (1, .ref q.1), (2, .ref q.2.2), (3, .ref q.2.1), (4, .int (nI (5 * j)))] [.int 0, .ref q.2.1] sgLW_899_1f411d rfl ?_
  refine l_out hF dLW_901 ?_
  refine l_go hF sgLW_902_abfd4 906 [(6, .int bb), (5, .int kk), (0, .ref b), (1, .ref q.1), (2, .ref q.2.2), (3, .ref q.2.1), (4, .int (nI (5 * j)))] [.int (lg_cmp (o' 0) bb.toInt64)] sgLW_902_abfd4d rfl ?_
  refine l_top 0 (by rw [ho hk0]; exact lg_cmp_s _) ?_
  exact l_ifeq hF 911 dLW_906 (by decide) (fun _ => hend) (fun c9 => absurd rfl c9)
def sgLW_914_1478f : List Instr := [.aload_n 1, .aload_n 0, .iload 4, .iconst 1, .iadd]
theorem sgLW_914_1478fd : am_dec code 914 sgLW_914_1478f = true := by decide +kernel
theorem dLW_920 : decode code 920 = .ok (.iaload, 1) := by decide +kernel
def sgLW_921_1d7ba : List Instr := [.aload_n 0, .iload 4, .iconst 2, .iadd]
theorem sgLW_921_1d7bad : am_dec code 921 sgLW_921_1d7ba = true := by decide +kernel
theorem dLW_926 : decode code 926 = .ok (.iaload, 1) := by decide +kernel
def sgLW_927_67016 : List Instr := [.aload_n 3]
theorem sgLW_927_67016d : am_dec code 927 sgLW_927_67016 = true := by decide +kernel
theorem dLW_928 : decode code 928 = .ok (.invokestatic 167, 3) := by decide +kernel
def sgLW_931_523aa : List Instr := [.istore 5, .aload_n 2, .aload_n 0, .iload 4, .iconst 1, .iadd]
theorem sgLW_931_523aad : am_dec code 931 sgLW_931_523aa = true := by decide +kernel
theorem dLW_939 : decode code 939 = .ok (.iaload, 1) := by decide +kernel
def sgLW_940_1d7ba : List Instr := [.aload_n 0, .iload 4, .iconst 2, .iadd]
theorem sgLW_940_1d7bad : am_dec code 940 sgLW_940_1d7ba = true := by decide +kernel
theorem dLW_945 : decode code 945 = .ok (.iaload, 1) := by decide +kernel
theorem dLW_946 : decode code 946 = .ok (.invokevirtual 169, 3) := by decide +kernel
def sgLW_949_2d201 : List Instr := [.istore 6, .aload_n 2]
theorem sgLW_949_2d201d : am_dec code 949 sgLW_949_2d201 = true := by decide +kernel
theorem dLW_952 : decode code 952 = .ok (.invokevirtual 133, 3) := by decide +kernel
def sgLW_955_9df92 : List Instr := [.iload 5]
theorem sgLW_955_9df92d : am_dec code 955 sgLW_955_9df92 = true := by decide +kernel
theorem dLW_957 : decode code 957 = .ok (.if_icmp .eq 5, 3) := by decide +kernel
def sgLW_962_9df92 : List Instr := [.iload 5]
theorem sgLW_962_9df92d : am_dec code 962 sgLW_962_9df92 = true := by decide +kernel
theorem dLW_964 : decode code 964 = .ok (.ifCond .ne 15, 3) := by decide +kernel
def sgLW_979_9be65 : List Instr := [.goto 1409]
theorem sgLW_979_9be65d : am_dec code 979 sgLW_979_9be65 = true := by decide +kernel
def sgLW_967_1f411 : List Instr := [.aload_n 3, .iconst 0]
theorem sgLW_967_1f411d : am_dec code 967 sgLW_967_1f411 = true := by decide +kernel
theorem dLW_969 : decode code 969 = .ok (.laload, 1) := by decide +kernel
def sgLW_970_abfd4 : List Instr := [.iload 6, .i2l, .lcmp]
theorem sgLW_970_abfd4d : am_dec code 970 sgLW_970_abfd4 = true := by decide +kernel
theorem dLW_974 : decode code 974 = .ok (.ifCond .eq 5, 3) := by decide +kernel
set_option maxRecDepth 100000 in
set_option maxHeartbeats 2000000 in
theorem law_modeOf {C : am_Cx} {q : Nat × Nat × Nat} {w0 : Cond} {b N : Nat} {xs : Nat → Int32} (hF : am_F C code 7 RL (w0 :: am_G)) (hK9 : am_K C.n0 C.dg C.ty C.st) (hro : C.ro = room_1) (hXs : va_X b N xs C.st C.st.heap) (hbl : b < C.st.heap.size) (hbA : ¬ C.n0 ≤ b) (hN : N ≤ 2560) {T S : am_T} {o : Nat → Int64} {P : am_T → am_T → Prop} {j : Nat} (hj : 5 * j + 5 ≤ N) (hop : ∀ x1 x2 : Int32, ∃ (kk bb : Int32) (T' S' : am_T) (o' : Nat → Int64), am_D C.se yL_modeOf (.codeWith yL_modeOf cL_modeOf 5 (some .int) [(0, 10, 13, 13)] :: am_G) am_WR (hp T S o) [.ref 0, .int x1, .int x2, .ref 464] (hp T' S o') (some (.int kk)) ∧ am_D C.se yX6_modeOf (.code yX6_modeOf cX6_modeOf 3 (some .int) :: am_G) { frames := 3, cells := 0, slots := 0, locals := 74 } (hp T' S o') [.ref 465, .int x1, .int x2] (hp T' S' o') (some (.int bb)) ∧ S' 0 0 = kk ∧ (kk = 0 → o' 0 = bb.toInt64) ∧ P T' S') (kend : ∀ (T' S' : am_T) (o' : Nat → Int64), P T' S' → lW C q (hp T' S' o') (71 + 4 * (j + 1)) (18836 + 36 * (j + 1)) 2388 [(0, .ref b), (1, .ref q.1), (2, .ref q.2.2), (3, .ref q.2.1), (4, .int (nI (5 * j)))] []) : lW C q (hp T S o) (71 + 4 * j) (18836 + 36 * j) 914 [(0, .ref b), (1, .ref q.1), (2, .ref q.2.2), (3, .ref q.2.1), (4, .int (nI (5 * j)))] [] := by
  refine l_go hF sgLW_914_1478f 920 [(0, .ref b), (1, .ref q.1), (2, .ref q.2.2), (3, .ref q.2.1), (4, .int (nI (5 * j)))] [.int (nI (5 * j) + 1), .ref b, .ref q.1] sgLW_914_1478fd rfl ?_
  refine l_sld hF hXs hbl hbA (5 * j + 1) (am_ad rfl rfl) (by omega) (by omega) dLW_920 ?_
  refine l_go hF sgLW_921_1d7ba 926 [(0, .ref b), (1, .ref q.1), (2, .ref q.2.2), (3, .ref q.2.1), (4, .int (nI (5 * j)))] [.int (nI (5 * j) + 2), .ref b, .int (xs (5 * j + 1)), .ref q.1] sgLW_921_1d7bad rfl ?_
  refine l_sld hF hXs hbl hbA (5 * j + 2) (am_ad rfl rfl) (by omega) (by omega) dLW_926 ?_
  refine l_go hF sgLW_927_67016 928 [(0, .ref b), (1, .ref q.1), (2, .ref q.2.2), (3, .ref q.2.1), (4, .int (nI (5 * j)))] [.ref q.2.1, .int (xs (5 * j + 2)), .int (xs (5 * j + 1)), .ref q.1] sgLW_927_67016d rfl ?_
  obtain ⟨kk, bb, T', S', o', hw, hr, hth, ho, hP⟩ := hop (xs (5 * j + 1)) (xs (5 * j + 2))
  refine l_dS hF hK9 [.ref 0, .int (xs (5 * j + 1)), .int (xs (5 * j + 2)), .ref 464] [.ref q.1, .int (xs (5 * j + 1)), .int (xs (5 * j + 2)), .ref q.2.1] [] hw mwyL_modeOf swyL_modeOf lm_RL_167 rfl (71 + 4 * (j + 1)) (18836 + 36 * (j + 1)) (by rw [hro]; exact ⟨Nat.le_of_ble_eq_true rfl, Nat.le_of_ble_eq_true rfl⟩) ⟨by show _ + 4 ≤ _; omega, by show _ + 36 ≤ _; omega, by rw [hro]; show _ ≤ 601024; omega, by rw [hro]; show _ ≤ 7293034; omega⟩ rfl (fun ad h => by simp only [List.map_cons, List.map_nil, am_v, h.1, h.2.1]) (hp_q _ _ _) (Nat.le_of_ble_eq_true rfl) dLW_928 ?_
  refine l_go hF sgLW_931_523aa 939 [(5, .int kk), (0, .ref b), (1, .ref q.1), (2, .ref q.2.2), (3, .ref q.2.1), (4, .int (nI (5 * j)))] [.int (nI (5 * j) + 1), .ref b, .ref q.2.2] sgLW_931_523aad rfl ?_
  refine l_sld hF hXs hbl hbA (5 * j + 1) (am_ad rfl rfl) (by omega) (by omega) dLW_939 ?_
  refine l_go hF sgLW_940_1d7ba 945 [(5, .int kk), (0, .ref b), (1, .ref q.1), (2, .ref q.2.2), (3, .ref q.2.1), (4, .int (nI (5 * j)))] [.int (nI (5 * j) + 2), .ref b, .int (xs (5 * j + 1)), .ref q.2.2] sgLW_940_1d7bad rfl ?_
  refine l_sld hF hXs hbl hbA (5 * j + 2) (am_ad rfl rfl) (by omega) (by omega) dLW_945 ?_
  refine l_dV hF hK9 (b := 465) [.int (xs (5 * j + 1)), .int (xs (5 * j + 2))] [.int (xs (5 * j + 1)), .int (xs (5 * j + 2))] [] hr myX6_modeOf vyX6_modeOf lm_RL_169 (hp_m _ _ _) rfl rfl (71 + 4 * (j + 1)) (18836 + 36 * (j + 1)) (by rw [hro]; exact ⟨Nat.le_of_ble_eq_true rfl, Nat.le_of_ble_eq_true rfl⟩) ⟨by show _ + 0 ≤ _; omega, by show _ + 0 ≤ _; omega, by rw [hro]; show _ ≤ 601024; omega, by rw [hro]; show _ ≤ 7293034; omega⟩ rfl (fun ad h => h.2.2) (fun ad => rfl) (hp_q _ _ _) (Nat.le_of_ble_eq_true rfl) dLW_946 ?_
  refine l_go hF sgLW_949_2d201 952 [(6, .int bb), (5, .int kk), (0, .ref b), (1, .ref q.1), (2, .ref q.2.2), (3, .ref q.2.1), (4, .int (nI (5 * j)))] [.ref q.2.2] sgLW_949_2d201d rfl ?_
  refine l_dV hF hK9 (b := 465) [] [] [] (c_r_thrown (T := T') (S := S') (o := o')) myX6_thrown vyX6_thrown lm_RL_133 (hp_m _ _ _) rfl rfl (71 + 4 * (j + 1)) (18836 + 36 * (j + 1)) (by rw [hro]; exact ⟨Nat.le_of_ble_eq_true rfl, Nat.le_of_ble_eq_true rfl⟩) ⟨by show _ + 0 ≤ _; omega, by show _ + 0 ≤ _; omega, by rw [hro]; show _ ≤ 601024; omega, by rw [hro]; show _ ≤ 7293034; omega⟩ rfl (fun ad h => h.2.2) (fun ad => rfl) (hp_q _ _ _) (Nat.le_of_ble_eq_true rfl) dLW_952 ?_
  refine l_go hF sgLW_955_9df92 957 [(6, .int bb), (5, .int kk), (0, .ref b), (1, .ref q.1), (2, .ref q.2.2), (3, .ref q.2.1), (4, .int (nI (5 * j)))] [.int kk, .int (S' 0 0)] sgLW_955_9df92d rfl ?_
  refine l_icmpeq hF 962 dLW_957 (by decide) (fun _ => ?_) (fun c9 => absurd hth c9)
  refine l_go hF sgLW_962_9df92 964 [(6, .int bb), (5, .int kk), (0, .ref b), (1, .ref q.1), (2, .ref q.2.2), (3, .ref q.2.1), (4, .int (nI (5 * j)))] [.int kk] sgLW_962_9df92d rfl ?_
  have hend : lW C q (hp T' S' o') (71 + 4 * (j + 1)) (18836 + 36 * (j + 1)) 979 [(6, .int bb), (5, .int kk), (0, .ref b), (1, .ref q.1), (2, .ref q.2.2), (3, .ref q.2.1), (4, .int (nI (5 * j)))] [] := by
    refine l_go hF sgLW_979_9be65 2388 [(6, .int bb), (5, .int kk), (0, .ref b), (1, .ref q.1), (2, .ref q.2.2), (3, .ref q.2.1), (4, .int (nI (5 * j)))] [] sgLW_979_9be65d rfl ?_
    refine l_drop [2, 3, 4, 5, 6] [(0, .ref b), (1, .ref q.1), (2, .ref q.2.2), (3, .ref q.2.1), (4, .int (nI (5 * j)))] rfl ?_
    exact kend T' S' o' hP
  refine l_ifne hF 979 dLW_964 (by decide) (fun _ => hend) (fun hk0 => ?_)
  refine l_go hF sgLW_967_1f411 969 [(6, .int bb), (5, .int kk), (0, .ref b), (1, .ref q.1), (2, .ref q.2.2), (3, .ref q.2.1), (4, .int (nI (5 * j)))] [.int 0, .ref q.2.1] sgLW_967_1f411d rfl ?_
  refine l_out hF dLW_969 ?_
  refine l_go hF sgLW_970_abfd4 974 [(6, .int bb), (5, .int kk), (0, .ref b), (1, .ref q.1), (2, .ref q.2.2), (3, .ref q.2.1), (4, .int (nI (5 * j)))] [.int (lg_cmp (o' 0) bb.toInt64)] sgLW_970_abfd4d rfl ?_
  refine l_top 0 (by rw [ho hk0]; exact lg_cmp_s _) ?_
  exact l_ifeq hF 979 dLW_974 (by decide) (fun _ => hend) (fun c9 => absurd rfl c9)
def sgLW_982_1478f : List Instr := [.aload_n 1, .aload_n 0, .iload 4, .iconst 1, .iadd]
theorem sgLW_982_1478fd : am_dec code 982 sgLW_982_1478f = true := by decide +kernel
theorem dLW_988 : decode code 988 = .ok (.iaload, 1) := by decide +kernel
def sgLW_989_1d7ba : List Instr := [.aload_n 0, .iload 4, .iconst 2, .iadd]
theorem sgLW_989_1d7bad : am_dec code 989 sgLW_989_1d7ba = true := by decide +kernel
theorem dLW_994 : decode code 994 = .ok (.iaload, 1) := by decide +kernel
def sgLW_995_0eb71 : List Instr := [.aload_n 0, .iload 4, .iconst 3, .iadd]
theorem sgLW_995_0eb71d : am_dec code 995 sgLW_995_0eb71 = true := by decide +kernel
theorem dLW_1000 : decode code 1000 = .ok (.iaload, 1) := by decide +kernel
def sgLW_1001_5bc01 : List Instr := [.aload_n 0, .iload 4, .iconst 4, .iadd]
theorem sgLW_1001_5bc01d : am_dec code 1001 sgLW_1001_5bc01 = true := by decide +kernel
theorem dLW_1006 : decode code 1006 = .ok (.iaload, 1) := by decide +kernel
def sgLW_1007_67016 : List Instr := [.aload_n 3]
theorem sgLW_1007_67016d : am_dec code 1007 sgLW_1007_67016 = true := by decide +kernel
theorem dLW_1008 : decode code 1008 = .ok (.invokestatic 170, 3) := by decide +kernel
def sgLW_1011_523aa : List Instr := [.istore 5, .aload_n 2, .aload_n 0, .iload 4, .iconst 1, .iadd]
theorem sgLW_1011_523aad : am_dec code 1011 sgLW_1011_523aa = true := by decide +kernel
theorem dLW_1019 : decode code 1019 = .ok (.iaload, 1) := by decide +kernel
def sgLW_1020_1d7ba : List Instr := [.aload_n 0, .iload 4, .iconst 2, .iadd]
theorem sgLW_1020_1d7bad : am_dec code 1020 sgLW_1020_1d7ba = true := by decide +kernel
theorem dLW_1025 : decode code 1025 = .ok (.iaload, 1) := by decide +kernel
def sgLW_1026_0eb71 : List Instr := [.aload_n 0, .iload 4, .iconst 3, .iadd]
theorem sgLW_1026_0eb71d : am_dec code 1026 sgLW_1026_0eb71 = true := by decide +kernel
theorem dLW_1031 : decode code 1031 = .ok (.iaload, 1) := by decide +kernel
def sgLW_1032_5bc01 : List Instr := [.aload_n 0, .iload 4, .iconst 4, .iadd]
theorem sgLW_1032_5bc01d : am_dec code 1032 sgLW_1032_5bc01 = true := by decide +kernel
theorem dLW_1037 : decode code 1037 = .ok (.iaload, 1) := by decide +kernel
theorem dLW_1038 : decode code 1038 = .ok (.invokevirtual 173, 3) := by decide +kernel
def sgLW_1041_2d201 : List Instr := [.istore 6, .aload_n 2]
theorem sgLW_1041_2d201d : am_dec code 1041 sgLW_1041_2d201 = true := by decide +kernel
theorem dLW_1044 : decode code 1044 = .ok (.invokevirtual 133, 3) := by decide +kernel
def sgLW_1047_9df92 : List Instr := [.iload 5]
theorem sgLW_1047_9df92d : am_dec code 1047 sgLW_1047_9df92 = true := by decide +kernel
theorem dLW_1049 : decode code 1049 = .ok (.if_icmp .eq 5, 3) := by decide +kernel
def sgLW_1054_9df92 : List Instr := [.iload 5]
theorem sgLW_1054_9df92d : am_dec code 1054 sgLW_1054_9df92 = true := by decide +kernel
theorem dLW_1056 : decode code 1056 = .ok (.ifCond .ne 15, 3) := by decide +kernel
def sgLW_1071_e4d05 : List Instr := [.goto 1317]
theorem sgLW_1071_e4d05d : am_dec code 1071 sgLW_1071_e4d05 = true := by decide +kernel
def sgLW_1059_1f411 : List Instr := [.aload_n 3, .iconst 0]
theorem sgLW_1059_1f411d : am_dec code 1059 sgLW_1059_1f411 = true := by decide +kernel
theorem dLW_1061 : decode code 1061 = .ok (.laload, 1) := by decide +kernel
def sgLW_1062_abfd4 : List Instr := [.iload 6, .i2l, .lcmp]
theorem sgLW_1062_abfd4d : am_dec code 1062 sgLW_1062_abfd4 = true := by decide +kernel
theorem dLW_1066 : decode code 1066 = .ok (.ifCond .eq 5, 3) := by decide +kernel
set_option maxRecDepth 100000 in
set_option maxHeartbeats 2000000 in
theorem law_send {C : am_Cx} {q : Nat × Nat × Nat} {w0 : Cond} {b N : Nat} {xs : Nat → Int32} (hF : am_F C code 7 RL (w0 :: am_G)) (hK9 : am_K C.n0 C.dg C.ty C.st) (hro : C.ro = room_1) (hXs : va_X b N xs C.st C.st.heap) (hbl : b < C.st.heap.size) (hbA : ¬ C.n0 ≤ b) (hN : N ≤ 2560) {T S : am_T} {o : Nat → Int64} {P : am_T → am_T → Prop} {j : Nat} (hj : 5 * j + 5 ≤ N) (hop : ∀ x1 x2 x3 x4 : Int32, ∃ (kk bb : Int32) (T' S' : am_T) (o' : Nat → Int64), am_D C.se yL_send (.codeWith yL_send cL_send 7 (some .int) [(0, 14, 17, 13), (0, 14, 21, 21), (0, 14, 25, 15)] :: am_G) am_WR (hp T S o) [.ref 0, .int x1, .int x2, .int x3, .int x4, .ref 464] (hp T' S o') (some (.int kk)) ∧ am_D C.se yX6_send (.code yX6_send cX6_send 5 (some .int) :: am_G) { frames := 4, cells := 0, slots := 0, locals := 98 } (hp T' S o') [.ref 465, .int x1, .int x2, .int x3, .int x4] (hp T' S' o') (some (.int bb)) ∧ S' 0 0 = kk ∧ (kk = 0 → o' 0 = bb.toInt64) ∧ P T' S') (kend : ∀ (T' S' : am_T) (o' : Nat → Int64), P T' S' → lW C q (hp T' S' o') (71 + 4 * (j + 1)) (18836 + 36 * (j + 1)) 2388 [(0, .ref b), (1, .ref q.1), (2, .ref q.2.2), (3, .ref q.2.1), (4, .int (nI (5 * j)))] []) : lW C q (hp T S o) (71 + 4 * j) (18836 + 36 * j) 982 [(0, .ref b), (1, .ref q.1), (2, .ref q.2.2), (3, .ref q.2.1), (4, .int (nI (5 * j)))] [] := by
  refine l_go hF sgLW_982_1478f 988 [(0, .ref b), (1, .ref q.1), (2, .ref q.2.2), (3, .ref q.2.1), (4, .int (nI (5 * j)))] [.int (nI (5 * j) + 1), .ref b, .ref q.1] sgLW_982_1478fd rfl ?_
  refine l_sld hF hXs hbl hbA (5 * j + 1) (am_ad rfl rfl) (by omega) (by omega) dLW_988 ?_
  refine l_go hF sgLW_989_1d7ba 994 [(0, .ref b), (1, .ref q.1), (2, .ref q.2.2), (3, .ref q.2.1), (4, .int (nI (5 * j)))] [.int (nI (5 * j) + 2), .ref b, .int (xs (5 * j + 1)), .ref q.1] sgLW_989_1d7bad rfl ?_
  refine l_sld hF hXs hbl hbA (5 * j + 2) (am_ad rfl rfl) (by omega) (by omega) dLW_994 ?_
  refine l_go hF sgLW_995_0eb71 1000 [(0, .ref b), (1, .ref q.1), (2, .ref q.2.2), (3, .ref q.2.1), (4, .int (nI (5 * j)))] [.int (nI (5 * j) + 3), .ref b, .int (xs (5 * j + 2)), .int (xs (5 * j + 1)), .ref q.1] sgLW_995_0eb71d rfl ?_
  refine l_sld hF hXs hbl hbA (5 * j + 3) (am_ad rfl rfl) (by omega) (by omega) dLW_1000 ?_
  refine l_go hF sgLW_1001_5bc01 1006 [(0, .ref b), (1, .ref q.1), (2, .ref q.2.2), (3, .ref q.2.1), (4, .int (nI (5 * j)))] [.int (nI (5 * j) + 4), .ref b, .int (xs (5 * j + 3)), .int (xs (5 * j + 2)), .int (xs (5 * j + 1)), .ref q.1] sgLW_1001_5bc01d rfl ?_
  refine l_sld hF hXs hbl hbA (5 * j + 4) (am_ad rfl rfl) (by omega) (by omega) dLW_1006 ?_
  refine l_go hF sgLW_1007_67016 1008 [(0, .ref b), (1, .ref q.1), (2, .ref q.2.2), (3, .ref q.2.1), (4, .int (nI (5 * j)))] [.ref q.2.1, .int (xs (5 * j + 4)), .int (xs (5 * j + 3)), .int (xs (5 * j + 2)), .int (xs (5 * j + 1)), .ref q.1] sgLW_1007_67016d rfl ?_
  obtain ⟨kk, bb, T', S', o', hw, hr, hth, ho, hP⟩ := hop (xs (5 * j + 1)) (xs (5 * j + 2)) (xs (5 * j + 3)) (xs (5 * j + 4))
  refine l_dS hF hK9 [.ref 0, .int (xs (5 * j + 1)), .int (xs (5 * j + 2)), .int (xs (5 * j + 3)), .int (xs (5 * j + 4)), .ref 464] [.ref q.1, .int (xs (5 * j + 1)), .int (xs (5 * j + 2)), .int (xs (5 * j + 3)), .int (xs (5 * j + 4)), .ref q.2.1] [] hw mwyL_send swyL_send lm_RL_170 rfl (71 + 4 * (j + 1)) (18836 + 36 * (j + 1)) (by rw [hro]; exact ⟨Nat.le_of_ble_eq_true rfl, Nat.le_of_ble_eq_true rfl⟩) ⟨by show _ + 4 ≤ _; omega, by show _ + 36 ≤ _; omega, by rw [hro]; show _ ≤ 601024; omega, by rw [hro]; show _ ≤ 7293034; omega⟩ rfl (fun ad h => by simp only [List.map_cons, List.map_nil, am_v, h.1, h.2.1]) (hp_q _ _ _) (Nat.le_of_ble_eq_true rfl) dLW_1008 ?_
  refine l_go hF sgLW_1011_523aa 1019 [(5, .int kk), (0, .ref b), (1, .ref q.1), (2, .ref q.2.2), (3, .ref q.2.1), (4, .int (nI (5 * j)))] [.int (nI (5 * j) + 1), .ref b, .ref q.2.2] sgLW_1011_523aad rfl ?_
  refine l_sld hF hXs hbl hbA (5 * j + 1) (am_ad rfl rfl) (by omega) (by omega) dLW_1019 ?_
  refine l_go hF sgLW_1020_1d7ba 1025 [(5, .int kk), (0, .ref b), (1, .ref q.1), (2, .ref q.2.2), (3, .ref q.2.1), (4, .int (nI (5 * j)))] [.int (nI (5 * j) + 2), .ref b, .int (xs (5 * j + 1)), .ref q.2.2] sgLW_1020_1d7bad rfl ?_
  refine l_sld hF hXs hbl hbA (5 * j + 2) (am_ad rfl rfl) (by omega) (by omega) dLW_1025 ?_
  refine l_go hF sgLW_1026_0eb71 1031 [(5, .int kk), (0, .ref b), (1, .ref q.1), (2, .ref q.2.2), (3, .ref q.2.1), (4, .int (nI (5 * j)))] [.int (nI (5 * j) + 3), .ref b, .int (xs (5 * j + 2)), .int (xs (5 * j + 1)), .ref q.2.2] sgLW_1026_0eb71d rfl ?_
  refine l_sld hF hXs hbl hbA (5 * j + 3) (am_ad rfl rfl) (by omega) (by omega) dLW_1031 ?_
  refine l_go hF sgLW_1032_5bc01 1037 [(5, .int kk), (0, .ref b), (1, .ref q.1), (2, .ref q.2.2), (3, .ref q.2.1), (4, .int (nI (5 * j)))] [.int (nI (5 * j) + 4), .ref b, .int (xs (5 * j + 3)), .int (xs (5 * j + 2)), .int (xs (5 * j + 1)), .ref q.2.2] sgLW_1032_5bc01d rfl ?_
  refine l_sld hF hXs hbl hbA (5 * j + 4) (am_ad rfl rfl) (by omega) (by omega) dLW_1037 ?_
  refine l_dV hF hK9 (b := 465) [.int (xs (5 * j + 1)), .int (xs (5 * j + 2)), .int (xs (5 * j + 3)), .int (xs (5 * j + 4))] [.int (xs (5 * j + 1)), .int (xs (5 * j + 2)), .int (xs (5 * j + 3)), .int (xs (5 * j + 4))] [] hr myX6_send vyX6_send lm_RL_173 (hp_m _ _ _) rfl rfl (71 + 4 * (j + 1)) (18836 + 36 * (j + 1)) (by rw [hro]; exact ⟨Nat.le_of_ble_eq_true rfl, Nat.le_of_ble_eq_true rfl⟩) ⟨by show _ + 0 ≤ _; omega, by show _ + 0 ≤ _; omega, by rw [hro]; show _ ≤ 601024; omega, by rw [hro]; show _ ≤ 7293034; omega⟩ rfl (fun ad h => h.2.2) (fun ad => rfl) (hp_q _ _ _) (Nat.le_of_ble_eq_true rfl) dLW_1038 ?_
  refine l_go hF sgLW_1041_2d201 1044 [(6, .int bb), (5, .int kk), (0, .ref b), (1, .ref q.1), (2, .ref q.2.2), (3, .ref q.2.1), (4, .int (nI (5 * j)))] [.ref q.2.2] sgLW_1041_2d201d rfl ?_
  refine l_dV hF hK9 (b := 465) [] [] [] (c_r_thrown (T := T') (S := S') (o := o')) myX6_thrown vyX6_thrown lm_RL_133 (hp_m _ _ _) rfl rfl (71 + 4 * (j + 1)) (18836 + 36 * (j + 1)) (by rw [hro]; exact ⟨Nat.le_of_ble_eq_true rfl, Nat.le_of_ble_eq_true rfl⟩) ⟨by show _ + 0 ≤ _; omega, by show _ + 0 ≤ _; omega, by rw [hro]; show _ ≤ 601024; omega, by rw [hro]; show _ ≤ 7293034; omega⟩ rfl (fun ad h => h.2.2) (fun ad => rfl) (hp_q _ _ _) (Nat.le_of_ble_eq_true rfl) dLW_1044 ?_
  refine l_go hF sgLW_1047_9df92 1049 [(6, .int bb), (5, .int kk), (0, .ref b), (1, .ref q.1), (2, .ref q.2.2), (3, .ref q.2.1), (4, .int (nI (5 * j)))] [.int kk, .int (S' 0 0)] sgLW_1047_9df92d rfl ?_
  refine l_icmpeq hF 1054 dLW_1049 (by decide) (fun _ => ?_) (fun c9 => absurd hth c9)
  refine l_go hF sgLW_1054_9df92 1056 [(6, .int bb), (5, .int kk), (0, .ref b), (1, .ref q.1), (2, .ref q.2.2), (3, .ref q.2.1), (4, .int (nI (5 * j)))] [.int kk] sgLW_1054_9df92d rfl ?_
  have hend : lW C q (hp T' S' o') (71 + 4 * (j + 1)) (18836 + 36 * (j + 1)) 1071 [(6, .int bb), (5, .int kk), (0, .ref b), (1, .ref q.1), (2, .ref q.2.2), (3, .ref q.2.1), (4, .int (nI (5 * j)))] [] := by
    refine l_go hF sgLW_1071_e4d05 2388 [(6, .int bb), (5, .int kk), (0, .ref b), (1, .ref q.1), (2, .ref q.2.2), (3, .ref q.2.1), (4, .int (nI (5 * j)))] [] sgLW_1071_e4d05d rfl ?_
    refine l_drop [2, 3, 4, 5, 6] [(0, .ref b), (1, .ref q.1), (2, .ref q.2.2), (3, .ref q.2.1), (4, .int (nI (5 * j)))] rfl ?_
    exact kend T' S' o' hP
  refine l_ifne hF 1071 dLW_1056 (by decide) (fun _ => hend) (fun hk0 => ?_)
  refine l_go hF sgLW_1059_1f411 1061 [(6, .int bb), (5, .int kk), (0, .ref b), (1, .ref q.1), (2, .ref q.2.2), (3, .ref q.2.1), (4, .int (nI (5 * j)))] [.int 0, .ref q.2.1] sgLW_1059_1f411d rfl ?_
  refine l_out hF dLW_1061 ?_
  refine l_go hF sgLW_1062_abfd4 1066 [(6, .int bb), (5, .int kk), (0, .ref b), (1, .ref q.1), (2, .ref q.2.2), (3, .ref q.2.1), (4, .int (nI (5 * j)))] [.int (lg_cmp (o' 0) bb.toInt64)] sgLW_1062_abfd4d rfl ?_
  refine l_top 0 (by rw [ho hk0]; exact lg_cmp_s _) ?_
  exact l_ifeq hF 1071 dLW_1066 (by decide) (fun _ => hend) (fun c9 => absurd rfl c9)
def sgLW_1074_1478f : List Instr := [.aload_n 1, .aload_n 0, .iload 4, .iconst 1, .iadd]
theorem sgLW_1074_1478fd : am_dec code 1074 sgLW_1074_1478f = true := by decide +kernel
theorem dLW_1080 : decode code 1080 = .ok (.iaload, 1) := by decide +kernel
def sgLW_1081_67016 : List Instr := [.aload_n 3]
theorem sgLW_1081_67016d : am_dec code 1081 sgLW_1081_67016 = true := by decide +kernel
theorem dLW_1082 : decode code 1082 = .ok (.invokestatic 174, 3) := by decide +kernel
def sgLW_1085_523aa : List Instr := [.istore 5, .aload_n 2, .aload_n 0, .iload 4, .iconst 1, .iadd]
theorem sgLW_1085_523aad : am_dec code 1085 sgLW_1085_523aa = true := by decide +kernel
theorem dLW_1093 : decode code 1093 = .ok (.iaload, 1) := by decide +kernel
theorem dLW_1094 : decode code 1094 = .ok (.invokevirtual 176, 3) := by decide +kernel
def sgLW_1097_2d201 : List Instr := [.istore 6, .aload_n 2]
theorem sgLW_1097_2d201d : am_dec code 1097 sgLW_1097_2d201 = true := by decide +kernel
theorem dLW_1100 : decode code 1100 = .ok (.invokevirtual 133, 3) := by decide +kernel
def sgLW_1103_9df92 : List Instr := [.iload 5]
theorem sgLW_1103_9df92d : am_dec code 1103 sgLW_1103_9df92 = true := by decide +kernel
theorem dLW_1105 : decode code 1105 = .ok (.if_icmp .eq 5, 3) := by decide +kernel
def sgLW_1110_9df92 : List Instr := [.iload 5]
theorem sgLW_1110_9df92d : am_dec code 1110 sgLW_1110_9df92 = true := by decide +kernel
theorem dLW_1112 : decode code 1112 = .ok (.ifCond .ne 15, 3) := by decide +kernel
def sgLW_1127_3f5ab : List Instr := [.goto 1261]
theorem sgLW_1127_3f5abd : am_dec code 1127 sgLW_1127_3f5ab = true := by decide +kernel
def sgLW_1115_1f411 : List Instr := [.aload_n 3, .iconst 0]
theorem sgLW_1115_1f411d : am_dec code 1115 sgLW_1115_1f411 = true := by decide +kernel
theorem dLW_1117 : decode code 1117 = .ok (.laload, 1) := by decide +kernel
def sgLW_1118_abfd4 : List Instr := [.iload 6, .i2l, .lcmp]
theorem sgLW_1118_abfd4d : am_dec code 1118 sgLW_1118_abfd4 = true := by decide +kernel
theorem dLW_1122 : decode code 1122 = .ok (.ifCond .eq 5, 3) := by decide +kernel
set_option maxRecDepth 100000 in
set_option maxHeartbeats 2000000 in
theorem law_approve {C : am_Cx} {q : Nat × Nat × Nat} {w0 : Cond} {b N : Nat} {xs : Nat → Int32} (hF : am_F C code 7 RL (w0 :: am_G)) (hK9 : am_K C.n0 C.dg C.ty C.st) (hro : C.ro = room_1) (hXs : va_X b N xs C.st C.st.heap) (hbl : b < C.st.heap.size) (hbA : ¬ C.n0 ≤ b) (hN : N ≤ 2560) {T S : am_T} {o : Nat → Int64} {P : am_T → am_T → Prop} {j : Nat} (hj : 5 * j + 5 ≤ N) (hop : ∀ x1 : Int32, ∃ (kk bb : Int32) (T' S' : am_T) (o' : Nat → Int64), am_D C.se yL_approve (.codeWith yL_approve cL_approve 4 (some .int) [(0, 9, 12, 13), (0, 9, 15, 15)] :: am_G) am_WR (hp T S o) [.ref 0, .int x1, .ref 464] (hp T' S o') (some (.int kk)) ∧ am_D C.se yX6_approve (.code yX6_approve cX6_approve 2 (some .int) :: am_G) { frames := 4, cells := 0, slots := 0, locals := 98 } (hp T' S o') [.ref 465, .int x1] (hp T' S' o') (some (.int bb)) ∧ S' 0 0 = kk ∧ (kk = 0 → o' 0 = bb.toInt64) ∧ P T' S') (kend : ∀ (T' S' : am_T) (o' : Nat → Int64), P T' S' → lW C q (hp T' S' o') (71 + 4 * (j + 1)) (18836 + 36 * (j + 1)) 2388 [(0, .ref b), (1, .ref q.1), (2, .ref q.2.2), (3, .ref q.2.1), (4, .int (nI (5 * j)))] []) : lW C q (hp T S o) (71 + 4 * j) (18836 + 36 * j) 1074 [(0, .ref b), (1, .ref q.1), (2, .ref q.2.2), (3, .ref q.2.1), (4, .int (nI (5 * j)))] [] := by
  refine l_go hF sgLW_1074_1478f 1080 [(0, .ref b), (1, .ref q.1), (2, .ref q.2.2), (3, .ref q.2.1), (4, .int (nI (5 * j)))] [.int (nI (5 * j) + 1), .ref b, .ref q.1] sgLW_1074_1478fd rfl ?_
  refine l_sld hF hXs hbl hbA (5 * j + 1) (am_ad rfl rfl) (by omega) (by omega) dLW_1080 ?_
  refine l_go hF sgLW_1081_67016 1082 [(0, .ref b), (1, .ref q.1), (2, .ref q.2.2), (3, .ref q.2.1), (4, .int (nI (5 * j)))] [.ref q.2.1, .int (xs (5 * j + 1)), .ref q.1] sgLW_1081_67016d rfl ?_
  obtain ⟨kk, bb, T', S', o', hw, hr, hth, ho, hP⟩ := hop (xs (5 * j + 1))
  refine l_dS hF hK9 [.ref 0, .int (xs (5 * j + 1)), .ref 464] [.ref q.1, .int (xs (5 * j + 1)), .ref q.2.1] [] hw mwyL_approve swyL_approve lm_RL_174 rfl (71 + 4 * (j + 1)) (18836 + 36 * (j + 1)) (by rw [hro]; exact ⟨Nat.le_of_ble_eq_true rfl, Nat.le_of_ble_eq_true rfl⟩) ⟨by show _ + 4 ≤ _; omega, by show _ + 36 ≤ _; omega, by rw [hro]; show _ ≤ 601024; omega, by rw [hro]; show _ ≤ 7293034; omega⟩ rfl (fun ad h => by simp only [List.map_cons, List.map_nil, am_v, h.1, h.2.1]) (hp_q _ _ _) (Nat.le_of_ble_eq_true rfl) dLW_1082 ?_
  refine l_go hF sgLW_1085_523aa 1093 [(5, .int kk), (0, .ref b), (1, .ref q.1), (2, .ref q.2.2), (3, .ref q.2.1), (4, .int (nI (5 * j)))] [.int (nI (5 * j) + 1), .ref b, .ref q.2.2] sgLW_1085_523aad rfl ?_
  refine l_sld hF hXs hbl hbA (5 * j + 1) (am_ad rfl rfl) (by omega) (by omega) dLW_1093 ?_
  refine l_dV hF hK9 (b := 465) [.int (xs (5 * j + 1))] [.int (xs (5 * j + 1))] [] hr myX6_approve vyX6_approve lm_RL_176 (hp_m _ _ _) rfl rfl (71 + 4 * (j + 1)) (18836 + 36 * (j + 1)) (by rw [hro]; exact ⟨Nat.le_of_ble_eq_true rfl, Nat.le_of_ble_eq_true rfl⟩) ⟨by show _ + 0 ≤ _; omega, by show _ + 0 ≤ _; omega, by rw [hro]; show _ ≤ 601024; omega, by rw [hro]; show _ ≤ 7293034; omega⟩ rfl (fun ad h => h.2.2) (fun ad => rfl) (hp_q _ _ _) (Nat.le_of_ble_eq_true rfl) dLW_1094 ?_
  refine l_go hF sgLW_1097_2d201 1100 [(6, .int bb), (5, .int kk), (0, .ref b), (1, .ref q.1), (2, .ref q.2.2), (3, .ref q.2.1), (4, .int (nI (5 * j)))] [.ref q.2.2] sgLW_1097_2d201d rfl ?_
  refine l_dV hF hK9 (b := 465) [] [] [] (c_r_thrown (T := T') (S := S') (o := o')) myX6_thrown vyX6_thrown lm_RL_133 (hp_m _ _ _) rfl rfl (71 + 4 * (j + 1)) (18836 + 36 * (j + 1)) (by rw [hro]; exact ⟨Nat.le_of_ble_eq_true rfl, Nat.le_of_ble_eq_true rfl⟩) ⟨by show _ + 0 ≤ _; omega, by show _ + 0 ≤ _; omega, by rw [hro]; show _ ≤ 601024; omega, by rw [hro]; show _ ≤ 7293034; omega⟩ rfl (fun ad h => h.2.2) (fun ad => rfl) (hp_q _ _ _) (Nat.le_of_ble_eq_true rfl) dLW_1100 ?_
  refine l_go hF sgLW_1103_9df92 1105 [(6, .int bb), (5, .int kk), (0, .ref b), (1, .ref q.1), (2, .ref q.2.2), (3, .ref q.2.1), (4, .int (nI (5 * j)))] [.int kk, .int (S' 0 0)] sgLW_1103_9df92d rfl ?_
  refine l_icmpeq hF 1110 dLW_1105 (by decide) (fun _ => ?_) (fun c9 => absurd hth c9)
  refine l_go hF sgLW_1110_9df92 1112 [(6, .int bb), (5, .int kk), (0, .ref b), (1, .ref q.1), (2, .ref q.2.2), (3, .ref q.2.1), (4, .int (nI (5 * j)))] [.int kk] sgLW_1110_9df92d rfl ?_
  have hend : lW C q (hp T' S' o') (71 + 4 * (j + 1)) (18836 + 36 * (j + 1)) 1127 [(6, .int bb), (5, .int kk), (0, .ref b), (1, .ref q.1), (2, .ref q.2.2), (3, .ref q.2.1), (4, .int (nI (5 * j)))] [] := by
    refine l_go hF sgLW_1127_3f5ab 2388 [(6, .int bb), (5, .int kk), (0, .ref b), (1, .ref q.1), (2, .ref q.2.2), (3, .ref q.2.1), (4, .int (nI (5 * j)))] [] sgLW_1127_3f5abd rfl ?_
    refine l_drop [2, 3, 4, 5, 6] [(0, .ref b), (1, .ref q.1), (2, .ref q.2.2), (3, .ref q.2.1), (4, .int (nI (5 * j)))] rfl ?_
    exact kend T' S' o' hP
  refine l_ifne hF 1127 dLW_1112 (by decide) (fun _ => hend) (fun hk0 => ?_)
  refine l_go hF sgLW_1115_1f411 1117 [(6, .int bb), (5, .int kk), (0, .ref b), (1, .ref q.1), (2, .ref q.2.2), (3, .ref q.2.1), (4, .int (nI (5 * j)))] [.int 0, .ref q.2.1] sgLW_1115_1f411d rfl ?_
  refine l_out hF dLW_1117 ?_
  refine l_go hF sgLW_1118_abfd4 1122 [(6, .int bb), (5, .int kk), (0, .ref b), (1, .ref q.1), (2, .ref q.2.2), (3, .ref q.2.1), (4, .int (nI (5 * j)))] [.int (lg_cmp (o' 0) bb.toInt64)] sgLW_1118_abfd4d rfl ?_
  refine l_top 0 (by rw [ho hk0]; exact lg_cmp_s _) ?_
  exact l_ifeq hF 1127 dLW_1122 (by decide) (fun _ => hend) (fun c9 => absurd rfl c9)
def sgLW_1130_1478f : List Instr := [.aload_n 1, .aload_n 0, .iload 4, .iconst 1, .iadd]
theorem sgLW_1130_1478fd : am_dec code 1130 sgLW_1130_1478f = true := by decide +kernel
theorem dLW_1136 : decode code 1136 = .ok (.iaload, 1) := by decide +kernel
def sgLW_1137_67016 : List Instr := [.aload_n 3]
theorem sgLW_1137_67016d : am_dec code 1137 sgLW_1137_67016 = true := by decide +kernel
theorem dLW_1138 : decode code 1138 = .ok (.invokestatic 177, 3) := by decide +kernel
def sgLW_1141_523aa : List Instr := [.istore 5, .aload_n 2, .aload_n 0, .iload 4, .iconst 1, .iadd]
theorem sgLW_1141_523aad : am_dec code 1141 sgLW_1141_523aa = true := by decide +kernel
theorem dLW_1149 : decode code 1149 = .ok (.iaload, 1) := by decide +kernel
theorem dLW_1150 : decode code 1150 = .ok (.invokevirtual 179, 3) := by decide +kernel
def sgLW_1153_2d201 : List Instr := [.istore 6, .aload_n 2]
theorem sgLW_1153_2d201d : am_dec code 1153 sgLW_1153_2d201 = true := by decide +kernel
theorem dLW_1156 : decode code 1156 = .ok (.invokevirtual 133, 3) := by decide +kernel
def sgLW_1159_9df92 : List Instr := [.iload 5]
theorem sgLW_1159_9df92d : am_dec code 1159 sgLW_1159_9df92 = true := by decide +kernel
theorem dLW_1161 : decode code 1161 = .ok (.if_icmp .eq 5, 3) := by decide +kernel
def sgLW_1166_9df92 : List Instr := [.iload 5]
theorem sgLW_1166_9df92d : am_dec code 1166 sgLW_1166_9df92 = true := by decide +kernel
theorem dLW_1168 : decode code 1168 = .ok (.ifCond .ne 15, 3) := by decide +kernel
def sgLW_1183_de346 : List Instr := [.goto 1205]
theorem sgLW_1183_de346d : am_dec code 1183 sgLW_1183_de346 = true := by decide +kernel
def sgLW_1171_1f411 : List Instr := [.aload_n 3, .iconst 0]
theorem sgLW_1171_1f411d : am_dec code 1171 sgLW_1171_1f411 = true := by decide +kernel
theorem dLW_1173 : decode code 1173 = .ok (.laload, 1) := by decide +kernel
def sgLW_1174_abfd4 : List Instr := [.iload 6, .i2l, .lcmp]
theorem sgLW_1174_abfd4d : am_dec code 1174 sgLW_1174_abfd4 = true := by decide +kernel
theorem dLW_1178 : decode code 1178 = .ok (.ifCond .eq 5, 3) := by decide +kernel
set_option maxRecDepth 100000 in
set_option maxHeartbeats 2000000 in
theorem law_refuse {C : am_Cx} {q : Nat × Nat × Nat} {w0 : Cond} {b N : Nat} {xs : Nat → Int32} (hF : am_F C code 7 RL (w0 :: am_G)) (hK9 : am_K C.n0 C.dg C.ty C.st) (hro : C.ro = room_1) (hXs : va_X b N xs C.st C.st.heap) (hbl : b < C.st.heap.size) (hbA : ¬ C.n0 ≤ b) (hN : N ≤ 2560) {T S : am_T} {o : Nat → Int64} {P : am_T → am_T → Prop} {j : Nat} (hj : 5 * j + 5 ≤ N) (hop : ∀ x1 : Int32, ∃ (kk bb : Int32) (T' S' : am_T) (o' : Nat → Int64), am_D C.se yL_refuse (.codeWith yL_refuse cL_refuse 4 (some .int) [(0, 9, 12, 13), (0, 9, 15, 15)] :: am_G) am_WR (hp T S o) [.ref 0, .int x1, .ref 464] (hp T' S o') (some (.int kk)) ∧ am_D C.se yX6_refuse (.code yX6_refuse cX6_refuse 2 (some .int) :: am_G) { frames := 3, cells := 0, slots := 0, locals := 64 } (hp T' S o') [.ref 465, .int x1] (hp T' S' o') (some (.int bb)) ∧ S' 0 0 = kk ∧ (kk = 0 → o' 0 = bb.toInt64) ∧ P T' S') (kend : ∀ (T' S' : am_T) (o' : Nat → Int64), P T' S' → lW C q (hp T' S' o') (71 + 4 * (j + 1)) (18836 + 36 * (j + 1)) 2388 [(0, .ref b), (1, .ref q.1), (2, .ref q.2.2), (3, .ref q.2.1), (4, .int (nI (5 * j)))] []) : lW C q (hp T S o) (71 + 4 * j) (18836 + 36 * j) 1130 [(0, .ref b), (1, .ref q.1), (2, .ref q.2.2), (3, .ref q.2.1), (4, .int (nI (5 * j)))] [] := by
  refine l_go hF sgLW_1130_1478f 1136 [(0, .ref b), (1, .ref q.1), (2, .ref q.2.2), (3, .ref q.2.1), (4, .int (nI (5 * j)))] [.int (nI (5 * j) + 1), .ref b, .ref q.1] sgLW_1130_1478fd rfl ?_
  refine l_sld hF hXs hbl hbA (5 * j + 1) (am_ad rfl rfl) (by omega) (by omega) dLW_1136 ?_
  refine l_go hF sgLW_1137_67016 1138 [(0, .ref b), (1, .ref q.1), (2, .ref q.2.2), (3, .ref q.2.1), (4, .int (nI (5 * j)))] [.ref q.2.1, .int (xs (5 * j + 1)), .ref q.1] sgLW_1137_67016d rfl ?_
  obtain ⟨kk, bb, T', S', o', hw, hr, hth, ho, hP⟩ := hop (xs (5 * j + 1))
  refine l_dS hF hK9 [.ref 0, .int (xs (5 * j + 1)), .ref 464] [.ref q.1, .int (xs (5 * j + 1)), .ref q.2.1] [] hw mwyL_refuse swyL_refuse lm_RL_177 rfl (71 + 4 * (j + 1)) (18836 + 36 * (j + 1)) (by rw [hro]; exact ⟨Nat.le_of_ble_eq_true rfl, Nat.le_of_ble_eq_true rfl⟩) ⟨by show _ + 4 ≤ _; omega, by show _ + 36 ≤ _; omega, by rw [hro]; show _ ≤ 601024; omega, by rw [hro]; show _ ≤ 7293034; omega⟩ rfl (fun ad h => by simp only [List.map_cons, List.map_nil, am_v, h.1, h.2.1]) (hp_q _ _ _) (Nat.le_of_ble_eq_true rfl) dLW_1138 ?_
  refine l_go hF sgLW_1141_523aa 1149 [(5, .int kk), (0, .ref b), (1, .ref q.1), (2, .ref q.2.2), (3, .ref q.2.1), (4, .int (nI (5 * j)))] [.int (nI (5 * j) + 1), .ref b, .ref q.2.2] sgLW_1141_523aad rfl ?_
  refine l_sld hF hXs hbl hbA (5 * j + 1) (am_ad rfl rfl) (by omega) (by omega) dLW_1149 ?_
  refine l_dV hF hK9 (b := 465) [.int (xs (5 * j + 1))] [.int (xs (5 * j + 1))] [] hr myX6_refuse vyX6_refuse lm_RL_179 (hp_m _ _ _) rfl rfl (71 + 4 * (j + 1)) (18836 + 36 * (j + 1)) (by rw [hro]; exact ⟨Nat.le_of_ble_eq_true rfl, Nat.le_of_ble_eq_true rfl⟩) ⟨by show _ + 0 ≤ _; omega, by show _ + 0 ≤ _; omega, by rw [hro]; show _ ≤ 601024; omega, by rw [hro]; show _ ≤ 7293034; omega⟩ rfl (fun ad h => h.2.2) (fun ad => rfl) (hp_q _ _ _) (Nat.le_of_ble_eq_true rfl) dLW_1150 ?_
  refine l_go hF sgLW_1153_2d201 1156 [(6, .int bb), (5, .int kk), (0, .ref b), (1, .ref q.1), (2, .ref q.2.2), (3, .ref q.2.1), (4, .int (nI (5 * j)))] [.ref q.2.2] sgLW_1153_2d201d rfl ?_
  refine l_dV hF hK9 (b := 465) [] [] [] (c_r_thrown (T := T') (S := S') (o := o')) myX6_thrown vyX6_thrown lm_RL_133 (hp_m _ _ _) rfl rfl (71 + 4 * (j + 1)) (18836 + 36 * (j + 1)) (by rw [hro]; exact ⟨Nat.le_of_ble_eq_true rfl, Nat.le_of_ble_eq_true rfl⟩) ⟨by show _ + 0 ≤ _; omega, by show _ + 0 ≤ _; omega, by rw [hro]; show _ ≤ 601024; omega, by rw [hro]; show _ ≤ 7293034; omega⟩ rfl (fun ad h => h.2.2) (fun ad => rfl) (hp_q _ _ _) (Nat.le_of_ble_eq_true rfl) dLW_1156 ?_
  refine l_go hF sgLW_1159_9df92 1161 [(6, .int bb), (5, .int kk), (0, .ref b), (1, .ref q.1), (2, .ref q.2.2), (3, .ref q.2.1), (4, .int (nI (5 * j)))] [.int kk, .int (S' 0 0)] sgLW_1159_9df92d rfl ?_
  refine l_icmpeq hF 1166 dLW_1161 (by decide) (fun _ => ?_) (fun c9 => absurd hth c9)
  refine l_go hF sgLW_1166_9df92 1168 [(6, .int bb), (5, .int kk), (0, .ref b), (1, .ref q.1), (2, .ref q.2.2), (3, .ref q.2.1), (4, .int (nI (5 * j)))] [.int kk] sgLW_1166_9df92d rfl ?_
  have hend : lW C q (hp T' S' o') (71 + 4 * (j + 1)) (18836 + 36 * (j + 1)) 1183 [(6, .int bb), (5, .int kk), (0, .ref b), (1, .ref q.1), (2, .ref q.2.2), (3, .ref q.2.1), (4, .int (nI (5 * j)))] [] := by
    refine l_go hF sgLW_1183_de346 2388 [(6, .int bb), (5, .int kk), (0, .ref b), (1, .ref q.1), (2, .ref q.2.2), (3, .ref q.2.1), (4, .int (nI (5 * j)))] [] sgLW_1183_de346d rfl ?_
    refine l_drop [2, 3, 4, 5, 6] [(0, .ref b), (1, .ref q.1), (2, .ref q.2.2), (3, .ref q.2.1), (4, .int (nI (5 * j)))] rfl ?_
    exact kend T' S' o' hP
  refine l_ifne hF 1183 dLW_1168 (by decide) (fun _ => hend) (fun hk0 => ?_)
  refine l_go hF sgLW_1171_1f411 1173 [(6, .int bb), (5, .int kk), (0, .ref b), (1, .ref q.1), (2, .ref q.2.2), (3, .ref q.2.1), (4, .int (nI (5 * j)))] [.int 0, .ref q.2.1] sgLW_1171_1f411d rfl ?_
  refine l_out hF dLW_1173 ?_
  refine l_go hF sgLW_1174_abfd4 1178 [(6, .int bb), (5, .int kk), (0, .ref b), (1, .ref q.1), (2, .ref q.2.2), (3, .ref q.2.1), (4, .int (nI (5 * j)))] [.int (lg_cmp (o' 0) bb.toInt64)] sgLW_1174_abfd4d rfl ?_
  refine l_top 0 (by rw [ho hk0]; exact lg_cmp_s _) ?_
  exact l_ifeq hF 1183 dLW_1178 (by decide) (fun _ => hend) (fun c9 => absurd rfl c9)
def sgLW_1186_1478f : List Instr := [.aload_n 1, .aload_n 0, .iload 4, .iconst 1, .iadd]
theorem sgLW_1186_1478fd : am_dec code 1186 sgLW_1186_1478f = true := by decide +kernel
theorem dLW_1192 : decode code 1192 = .ok (.iaload, 1) := by decide +kernel
def sgLW_1193_67016 : List Instr := [.aload_n 3]
theorem sgLW_1193_67016d : am_dec code 1193 sgLW_1193_67016 = true := by decide +kernel
theorem dLW_1194 : decode code 1194 = .ok (.invokestatic 180, 3) := by decide +kernel
def sgLW_1197_523aa : List Instr := [.istore 5, .aload_n 2, .aload_n 0, .iload 4, .iconst 1, .iadd]
theorem sgLW_1197_523aad : am_dec code 1197 sgLW_1197_523aa = true := by decide +kernel
theorem dLW_1205 : decode code 1205 = .ok (.iaload, 1) := by decide +kernel
theorem dLW_1206 : decode code 1206 = .ok (.invokevirtual 182, 3) := by decide +kernel
def sgLW_1209_2d201 : List Instr := [.istore 6, .aload_n 2]
theorem sgLW_1209_2d201d : am_dec code 1209 sgLW_1209_2d201 = true := by decide +kernel
theorem dLW_1212 : decode code 1212 = .ok (.invokevirtual 133, 3) := by decide +kernel
def sgLW_1215_9df92 : List Instr := [.iload 5]
theorem sgLW_1215_9df92d : am_dec code 1215 sgLW_1215_9df92 = true := by decide +kernel
theorem dLW_1217 : decode code 1217 = .ok (.if_icmp .eq 5, 3) := by decide +kernel
def sgLW_1222_9df92 : List Instr := [.iload 5]
theorem sgLW_1222_9df92d : am_dec code 1222 sgLW_1222_9df92 = true := by decide +kernel
theorem dLW_1224 : decode code 1224 = .ok (.ifCond .ne 15, 3) := by decide +kernel
def sgLW_1239_e718a : List Instr := [.goto 1149]
theorem sgLW_1239_e718ad : am_dec code 1239 sgLW_1239_e718a = true := by decide +kernel
def sgLW_1227_1f411 : List Instr := [.aload_n 3, .iconst 0]
theorem sgLW_1227_1f411d : am_dec code 1227 sgLW_1227_1f411 = true := by decide +kernel
theorem dLW_1229 : decode code 1229 = .ok (.laload, 1) := by decide +kernel
def sgLW_1230_abfd4 : List Instr := [.iload 6, .i2l, .lcmp]
theorem sgLW_1230_abfd4d : am_dec code 1230 sgLW_1230_abfd4 = true := by decide +kernel
theorem dLW_1234 : decode code 1234 = .ok (.ifCond .eq 5, 3) := by decide +kernel
set_option maxRecDepth 100000 in
set_option maxHeartbeats 2000000 in
theorem law_appeal {C : am_Cx} {q : Nat × Nat × Nat} {w0 : Cond} {b N : Nat} {xs : Nat → Int32} (hF : am_F C code 7 RL (w0 :: am_G)) (hK9 : am_K C.n0 C.dg C.ty C.st) (hro : C.ro = room_1) (hXs : va_X b N xs C.st C.st.heap) (hbl : b < C.st.heap.size) (hbA : ¬ C.n0 ≤ b) (hN : N ≤ 2560) {T S : am_T} {o : Nat → Int64} {P : am_T → am_T → Prop} {j : Nat} (hj : 5 * j + 5 ≤ N) (hop : ∀ x1 : Int32, ∃ (kk bb : Int32) (T' S' : am_T) (o' : Nat → Int64), am_D C.se yL_appeal (.codeWith yL_appeal cL_appeal 4 (some .int) [(0, 9, 12, 13), (0, 9, 15, 15)] :: am_G) am_WR (hp T S o) [.ref 0, .int x1, .ref 464] (hp T' S o') (some (.int kk)) ∧ am_D C.se yX6_appeal (.code yX6_appeal cX6_appeal 8 (some .int) :: am_G) { frames := 2, cells := 0, slots := 0, locals := 43 } (hp T' S o') [.ref 465, .int x1] (hp T' S' o') (some (.int bb)) ∧ S' 0 0 = kk ∧ (kk = 0 → o' 0 = bb.toInt64) ∧ P T' S') (kend : ∀ (T' S' : am_T) (o' : Nat → Int64), P T' S' → lW C q (hp T' S' o') (71 + 4 * (j + 1)) (18836 + 36 * (j + 1)) 2388 [(0, .ref b), (1, .ref q.1), (2, .ref q.2.2), (3, .ref q.2.1), (4, .int (nI (5 * j)))] []) : lW C q (hp T S o) (71 + 4 * j) (18836 + 36 * j) 1186 [(0, .ref b), (1, .ref q.1), (2, .ref q.2.2), (3, .ref q.2.1), (4, .int (nI (5 * j)))] [] := by
  refine l_go hF sgLW_1186_1478f 1192 [(0, .ref b), (1, .ref q.1), (2, .ref q.2.2), (3, .ref q.2.1), (4, .int (nI (5 * j)))] [.int (nI (5 * j) + 1), .ref b, .ref q.1] sgLW_1186_1478fd rfl ?_
  refine l_sld hF hXs hbl hbA (5 * j + 1) (am_ad rfl rfl) (by omega) (by omega) dLW_1192 ?_
  refine l_go hF sgLW_1193_67016 1194 [(0, .ref b), (1, .ref q.1), (2, .ref q.2.2), (3, .ref q.2.1), (4, .int (nI (5 * j)))] [.ref q.2.1, .int (xs (5 * j + 1)), .ref q.1] sgLW_1193_67016d rfl ?_
  obtain ⟨kk, bb, T', S', o', hw, hr, hth, ho, hP⟩ := hop (xs (5 * j + 1))
  refine l_dS hF hK9 [.ref 0, .int (xs (5 * j + 1)), .ref 464] [.ref q.1, .int (xs (5 * j + 1)), .ref q.2.1] [] hw mwyL_appeal swyL_appeal lm_RL_180 rfl (71 + 4 * (j + 1)) (18836 + 36 * (j + 1)) (by rw [hro]; exact ⟨Nat.le_of_ble_eq_true rfl, Nat.le_of_ble_eq_true rfl⟩) ⟨by show _ + 4 ≤ _; omega, by show _ + 36 ≤ _; omega, by rw [hro]; show _ ≤ 601024; omega, by rw [hro]; show _ ≤ 7293034; omega⟩ rfl (fun ad h => by simp only [List.map_cons, List.map_nil, am_v, h.1, h.2.1]) (hp_q _ _ _) (Nat.le_of_ble_eq_true rfl) dLW_1194 ?_
  refine l_go hF sgLW_1197_523aa 1205 [(5, .int kk), (0, .ref b), (1, .ref q.1), (2, .ref q.2.2), (3, .ref q.2.1), (4, .int (nI (5 * j)))] [.int (nI (5 * j) + 1), .ref b, .ref q.2.2] sgLW_1197_523aad rfl ?_
  refine l_sld hF hXs hbl hbA (5 * j + 1) (am_ad rfl rfl) (by omega) (by omega) dLW_1205 ?_
  refine l_dV hF hK9 (b := 465) [.int (xs (5 * j + 1))] [.int (xs (5 * j + 1))] [] hr myX6_appeal vyX6_appeal lm_RL_182 (hp_m _ _ _) rfl rfl (71 + 4 * (j + 1)) (18836 + 36 * (j + 1)) (by rw [hro]; exact ⟨Nat.le_of_ble_eq_true rfl, Nat.le_of_ble_eq_true rfl⟩) ⟨by show _ + 0 ≤ _; omega, by show _ + 0 ≤ _; omega, by rw [hro]; show _ ≤ 601024; omega, by rw [hro]; show _ ≤ 7293034; omega⟩ rfl (fun ad h => h.2.2) (fun ad => rfl) (hp_q _ _ _) (Nat.le_of_ble_eq_true rfl) dLW_1206 ?_
  refine l_go hF sgLW_1209_2d201 1212 [(6, .int bb), (5, .int kk), (0, .ref b), (1, .ref q.1), (2, .ref q.2.2), (3, .ref q.2.1), (4, .int (nI (5 * j)))] [.ref q.2.2] sgLW_1209_2d201d rfl ?_
  refine l_dV hF hK9 (b := 465) [] [] [] (c_r_thrown (T := T') (S := S') (o := o')) myX6_thrown vyX6_thrown lm_RL_133 (hp_m _ _ _) rfl rfl (71 + 4 * (j + 1)) (18836 + 36 * (j + 1)) (by rw [hro]; exact ⟨Nat.le_of_ble_eq_true rfl, Nat.le_of_ble_eq_true rfl⟩) ⟨by show _ + 0 ≤ _; omega, by show _ + 0 ≤ _; omega, by rw [hro]; show _ ≤ 601024; omega, by rw [hro]; show _ ≤ 7293034; omega⟩ rfl (fun ad h => h.2.2) (fun ad => rfl) (hp_q _ _ _) (Nat.le_of_ble_eq_true rfl) dLW_1212 ?_
  refine l_go hF sgLW_1215_9df92 1217 [(6, .int bb), (5, .int kk), (0, .ref b), (1, .ref q.1), (2, .ref q.2.2), (3, .ref q.2.1), (4, .int (nI (5 * j)))] [.int kk, .int (S' 0 0)] sgLW_1215_9df92d rfl ?_
  refine l_icmpeq hF 1222 dLW_1217 (by decide) (fun _ => ?_) (fun c9 => absurd hth c9)
  refine l_go hF sgLW_1222_9df92 1224 [(6, .int bb), (5, .int kk), (0, .ref b), (1, .ref q.1), (2, .ref q.2.2), (3, .ref q.2.1), (4, .int (nI (5 * j)))] [.int kk] sgLW_1222_9df92d rfl ?_
  have hend : lW C q (hp T' S' o') (71 + 4 * (j + 1)) (18836 + 36 * (j + 1)) 1239 [(6, .int bb), (5, .int kk), (0, .ref b), (1, .ref q.1), (2, .ref q.2.2), (3, .ref q.2.1), (4, .int (nI (5 * j)))] [] := by
    refine l_go hF sgLW_1239_e718a 2388 [(6, .int bb), (5, .int kk), (0, .ref b), (1, .ref q.1), (2, .ref q.2.2), (3, .ref q.2.1), (4, .int (nI (5 * j)))] [] sgLW_1239_e718ad rfl ?_
    refine l_drop [2, 3, 4, 5, 6] [(0, .ref b), (1, .ref q.1), (2, .ref q.2.2), (3, .ref q.2.1), (4, .int (nI (5 * j)))] rfl ?_
    exact kend T' S' o' hP
  refine l_ifne hF 1239 dLW_1224 (by decide) (fun _ => hend) (fun hk0 => ?_)
  refine l_go hF sgLW_1227_1f411 1229 [(6, .int bb), (5, .int kk), (0, .ref b), (1, .ref q.1), (2, .ref q.2.2), (3, .ref q.2.1), (4, .int (nI (5 * j)))] [.int 0, .ref q.2.1] sgLW_1227_1f411d rfl ?_
  refine l_out hF dLW_1229 ?_
  refine l_go hF sgLW_1230_abfd4 1234 [(6, .int bb), (5, .int kk), (0, .ref b), (1, .ref q.1), (2, .ref q.2.2), (3, .ref q.2.1), (4, .int (nI (5 * j)))] [.int (lg_cmp (o' 0) bb.toInt64)] sgLW_1230_abfd4d rfl ?_
  refine l_top 0 (by rw [ho hk0]; exact lg_cmp_s _) ?_
  exact l_ifeq hF 1239 dLW_1234 (by decide) (fun _ => hend) (fun c9 => absurd rfl c9)
def sgLW_1242_1478f : List Instr := [.aload_n 1, .aload_n 0, .iload 4, .iconst 1, .iadd]
theorem sgLW_1242_1478fd : am_dec code 1242 sgLW_1242_1478f = true := by decide +kernel
theorem dLW_1248 : decode code 1248 = .ok (.iaload, 1) := by decide +kernel
def sgLW_1249_1d7ba : List Instr := [.aload_n 0, .iload 4, .iconst 2, .iadd]
theorem sgLW_1249_1d7bad : am_dec code 1249 sgLW_1249_1d7ba = true := by decide +kernel
theorem dLW_1254 : decode code 1254 = .ok (.iaload, 1) := by decide +kernel
def sgLW_1255_0eb71 : List Instr := [.aload_n 0, .iload 4, .iconst 3, .iadd]
theorem sgLW_1255_0eb71d : am_dec code 1255 sgLW_1255_0eb71 = true := by decide +kernel
theorem dLW_1260 : decode code 1260 = .ok (.iaload, 1) := by decide +kernel
theorem dLW_1261 : decode code 1261 = .ok (.ifCond .eq 7, 3) := by decide +kernel
def sgLW_1268_56c54 : List Instr := [.iconst 0]
theorem sgLW_1268_56c54d : am_dec code 1268 sgLW_1268_56c54 = true := by decide +kernel
def sgLW_1264_1c64c : List Instr := [.iconst 1, .goto 4]
theorem sgLW_1264_1c64cd : am_dec code 1264 sgLW_1264_1c64c = true := by decide +kernel
def sgLW_1269_67016 : List Instr := [.aload_n 3]
theorem sgLW_1269_67016d : am_dec code 1269 sgLW_1269_67016 = true := by decide +kernel
theorem dLW_1270 : decode code 1270 = .ok (.invokestatic 183, 3) := by decide +kernel
def sgLW_1273_523aa : List Instr := [.istore 5, .aload_n 2, .aload_n 0, .iload 4, .iconst 1, .iadd]
theorem sgLW_1273_523aad : am_dec code 1273 sgLW_1273_523aa = true := by decide +kernel
theorem dLW_1281 : decode code 1281 = .ok (.iaload, 1) := by decide +kernel
def sgLW_1282_1d7ba : List Instr := [.aload_n 0, .iload 4, .iconst 2, .iadd]
theorem sgLW_1282_1d7bad : am_dec code 1282 sgLW_1282_1d7ba = true := by decide +kernel
theorem dLW_1287 : decode code 1287 = .ok (.iaload, 1) := by decide +kernel
def sgLW_1288_0eb71 : List Instr := [.aload_n 0, .iload 4, .iconst 3, .iadd]
theorem sgLW_1288_0eb71d : am_dec code 1288 sgLW_1288_0eb71 = true := by decide +kernel
theorem dLW_1293 : decode code 1293 = .ok (.iaload, 1) := by decide +kernel
theorem dLW_1294 : decode code 1294 = .ok (.ifCond .eq 7, 3) := by decide +kernel
def sgLW_1301_56c54 : List Instr := [.iconst 0]
theorem sgLW_1301_56c54d : am_dec code 1301 sgLW_1301_56c54 = true := by decide +kernel
def sgLW_1297_1c64c : List Instr := [.iconst 1, .goto 4]
theorem sgLW_1297_1c64cd : am_dec code 1297 sgLW_1297_1c64c = true := by decide +kernel
theorem dLW_1302 : decode code 1302 = .ok (.invokevirtual 186, 3) := by decide +kernel
def sgLW_1305_2d201 : List Instr := [.istore 6, .aload_n 2]
theorem sgLW_1305_2d201d : am_dec code 1305 sgLW_1305_2d201 = true := by decide +kernel
theorem dLW_1308 : decode code 1308 = .ok (.invokevirtual 133, 3) := by decide +kernel
def sgLW_1311_9df92 : List Instr := [.iload 5]
theorem sgLW_1311_9df92d : am_dec code 1311 sgLW_1311_9df92 = true := by decide +kernel
theorem dLW_1313 : decode code 1313 = .ok (.if_icmp .eq 5, 3) := by decide +kernel
def sgLW_1318_9df92 : List Instr := [.iload 5]
theorem sgLW_1318_9df92d : am_dec code 1318 sgLW_1318_9df92 = true := by decide +kernel
theorem dLW_1320 : decode code 1320 = .ok (.ifCond .ne 15, 3) := by decide +kernel
def sgLW_1335_1b3c8 : List Instr := [.goto 1053]
theorem sgLW_1335_1b3c8d : am_dec code 1335 sgLW_1335_1b3c8 = true := by decide +kernel
def sgLW_1323_1f411 : List Instr := [.aload_n 3, .iconst 0]
theorem sgLW_1323_1f411d : am_dec code 1323 sgLW_1323_1f411 = true := by decide +kernel
theorem dLW_1325 : decode code 1325 = .ok (.laload, 1) := by decide +kernel
def sgLW_1326_abfd4 : List Instr := [.iload 6, .i2l, .lcmp]
theorem sgLW_1326_abfd4d : am_dec code 1326 sgLW_1326_abfd4 = true := by decide +kernel
theorem dLW_1330 : decode code 1330 = .ok (.ifCond .eq 5, 3) := by decide +kernel
set_option maxRecDepth 100000 in
set_option maxHeartbeats 2000000 in
theorem law_vote {C : am_Cx} {q : Nat × Nat × Nat} {w0 : Cond} {b N : Nat} {xs : Nat → Int32} (hF : am_F C code 7 RL (w0 :: am_G)) (hK9 : am_K C.n0 C.dg C.ty C.st) (hro : C.ro = room_1) (hXs : va_X b N xs C.st C.st.heap) (hbl : b < C.st.heap.size) (hbA : ¬ C.n0 ≤ b) (hN : N ≤ 2560) {T S : am_T} {o : Nat → Int64} {P : am_T → am_T → Prop} {j : Nat} (hj : 5 * j + 5 ≤ N) (hop : ∀ x1 x2 x3 : Int32, (x3 = 0 ∨ x3 = 1) → ∃ (kk bb : Int32) (T' S' : am_T) (o' : Nat → Int64), am_D C.se yL_vote (.codeWith yL_vote cL_vote 6 (some .int) [(0, 12, 15, 13), (0, 12, 19, 15)] :: am_G) am_WR (hp T S o) [.ref 0, .int x1, .int x2, .int x3, .ref 464] (hp T' S o') (some (.int kk)) ∧ am_D C.se yX6_vote (.code yX6_vote cX6_vote 5 (some .int) :: am_G) { frames := 5, cells := 0, slots := 0, locals := 121 } (hp T' S o') [.ref 465, .int x1, .int x2, .int x3] (hp T' S' o') (some (.int bb)) ∧ S' 0 0 = kk ∧ (kk = 0 → o' 0 = bb.toInt64) ∧ P T' S') (kend : ∀ (T' S' : am_T) (o' : Nat → Int64), P T' S' → lW C q (hp T' S' o') (71 + 4 * (j + 1)) (18836 + 36 * (j + 1)) 2388 [(0, .ref b), (1, .ref q.1), (2, .ref q.2.2), (3, .ref q.2.1), (4, .int (nI (5 * j)))] []) : lW C q (hp T S o) (71 + 4 * j) (18836 + 36 * j) 1242 [(0, .ref b), (1, .ref q.1), (2, .ref q.2.2), (3, .ref q.2.1), (4, .int (nI (5 * j)))] [] := by
  refine l_go hF sgLW_1242_1478f 1248 [(0, .ref b), (1, .ref q.1), (2, .ref q.2.2), (3, .ref q.2.1), (4, .int (nI (5 * j)))] [.int (nI (5 * j) + 1), .ref b, .ref q.1] sgLW_1242_1478fd rfl ?_
  refine l_sld hF hXs hbl hbA (5 * j + 1) (am_ad rfl rfl) (by omega) (by omega) dLW_1248 ?_
  refine l_go hF sgLW_1249_1d7ba 1254 [(0, .ref b), (1, .ref q.1), (2, .ref q.2.2), (3, .ref q.2.1), (4, .int (nI (5 * j)))] [.int (nI (5 * j) + 2), .ref b, .int (xs (5 * j + 1)), .ref q.1] sgLW_1249_1d7bad rfl ?_
  refine l_sld hF hXs hbl hbA (5 * j + 2) (am_ad rfl rfl) (by omega) (by omega) dLW_1254 ?_
  refine l_go hF sgLW_1255_0eb71 1260 [(0, .ref b), (1, .ref q.1), (2, .ref q.2.2), (3, .ref q.2.1), (4, .int (nI (5 * j)))] [.int (nI (5 * j) + 3), .ref b, .int (xs (5 * j + 2)), .int (xs (5 * j + 1)), .ref q.1] sgLW_1255_0eb71d rfl ?_
  refine l_sld hF hXs hbl hbA (5 * j + 3) (am_ad rfl rfl) (by omega) (by omega) dLW_1260 ?_
  have hj1269 : lW C q (hp T S o) (71 + 4 * j) (18836 + 36 * j) 1269 [(0, .ref b), (1, .ref q.1), (2, .ref q.2.2), (3, .ref q.2.1), (4, .int (nI (5 * j)))] [.int (bz (xs (5 * j + 3))), .int (xs (5 * j + 2)), .int (xs (5 * j + 1)), .ref q.1] := by
    refine l_go hF sgLW_1269_67016 1270 [(0, .ref b), (1, .ref q.1), (2, .ref q.2.2), (3, .ref q.2.1), (4, .int (nI (5 * j)))] [.ref q.2.1, .int (bz (xs (5 * j + 3))), .int (xs (5 * j + 2)), .int (xs (5 * j + 1)), .ref q.1] sgLW_1269_67016d rfl ?_
    obtain ⟨kk, bb, T', S', o', hw, hr, hth, ho, hP⟩ := hop (xs (5 * j + 1)) (xs (5 * j + 2)) (bz (xs (5 * j + 3))) (bz_01 _)
    refine l_dS hF hK9 [.ref 0, .int (xs (5 * j + 1)), .int (xs (5 * j + 2)), .int (bz (xs (5 * j + 3))), .ref 464] [.ref q.1, .int (xs (5 * j + 1)), .int (xs (5 * j + 2)), .int (bz (xs (5 * j + 3))), .ref q.2.1] [] hw mwyL_vote swyL_vote lm_RL_183 rfl (71 + 4 * (j + 1)) (18836 + 36 * (j + 1)) (by rw [hro]; exact ⟨Nat.le_of_ble_eq_true rfl, Nat.le_of_ble_eq_true rfl⟩) ⟨by show _ + 4 ≤ _; omega, by show _ + 36 ≤ _; omega, by rw [hro]; show _ ≤ 601024; omega, by rw [hro]; show _ ≤ 7293034; omega⟩ rfl (fun ad h => by simp only [List.map_cons, List.map_nil, am_v, h.1, h.2.1]) (hp_q _ _ _) (Nat.le_of_ble_eq_true rfl) dLW_1270 ?_
    refine l_go hF sgLW_1273_523aa 1281 [(5, .int kk), (0, .ref b), (1, .ref q.1), (2, .ref q.2.2), (3, .ref q.2.1), (4, .int (nI (5 * j)))] [.int (nI (5 * j) + 1), .ref b, .ref q.2.2] sgLW_1273_523aad rfl ?_
    refine l_sld hF hXs hbl hbA (5 * j + 1) (am_ad rfl rfl) (by omega) (by omega) dLW_1281 ?_
    refine l_go hF sgLW_1282_1d7ba 1287 [(5, .int kk), (0, .ref b), (1, .ref q.1), (2, .ref q.2.2), (3, .ref q.2.1), (4, .int (nI (5 * j)))] [.int (nI (5 * j) + 2), .ref b, .int (xs (5 * j + 1)), .ref q.2.2] sgLW_1282_1d7bad rfl ?_
    refine l_sld hF hXs hbl hbA (5 * j + 2) (am_ad rfl rfl) (by omega) (by omega) dLW_1287 ?_
    refine l_go hF sgLW_1288_0eb71 1293 [(5, .int kk), (0, .ref b), (1, .ref q.1), (2, .ref q.2.2), (3, .ref q.2.1), (4, .int (nI (5 * j)))] [.int (nI (5 * j) + 3), .ref b, .int (xs (5 * j + 2)), .int (xs (5 * j + 1)), .ref q.2.2] sgLW_1288_0eb71d rfl ?_
    refine l_sld hF hXs hbl hbA (5 * j + 3) (am_ad rfl rfl) (by omega) (by omega) dLW_1293 ?_
    have hj1302 : lW C q (hp T' S o') (71 + 4 * (j + 1)) (18836 + 36 * (j + 1)) 1302 [(5, .int kk), (0, .ref b), (1, .ref q.1), (2, .ref q.2.2), (3, .ref q.2.1), (4, .int (nI (5 * j)))] [.int (bz (xs (5 * j + 3))), .int (xs (5 * j + 2)), .int (xs (5 * j + 1)), .ref q.2.2] := by
      refine l_dV hF hK9 (b := 465) [.int (xs (5 * j + 1)), .int (xs (5 * j + 2)), .int (bz (xs (5 * j + 3)))] [.int (xs (5 * j + 1)), .int (xs (5 * j + 2)), .int (bz (xs (5 * j + 3)))] [] hr myX6_vote vyX6_vote lm_RL_186 (hp_m _ _ _) rfl rfl (71 + 4 * (j + 1)) (18836 + 36 * (j + 1)) (by rw [hro]; exact ⟨Nat.le_of_ble_eq_true rfl, Nat.le_of_ble_eq_true rfl⟩) ⟨by show _ + 0 ≤ _; omega, by show _ + 0 ≤ _; omega, by rw [hro]; show _ ≤ 601024; omega, by rw [hro]; show _ ≤ 7293034; omega⟩ rfl (fun ad h => h.2.2) (fun ad => rfl) (hp_q _ _ _) (Nat.le_of_ble_eq_true rfl) dLW_1302 ?_
      refine l_go hF sgLW_1305_2d201 1308 [(6, .int bb), (5, .int kk), (0, .ref b), (1, .ref q.1), (2, .ref q.2.2), (3, .ref q.2.1), (4, .int (nI (5 * j)))] [.ref q.2.2] sgLW_1305_2d201d rfl ?_
      refine l_dV hF hK9 (b := 465) [] [] [] (c_r_thrown (T := T') (S := S') (o := o')) myX6_thrown vyX6_thrown lm_RL_133 (hp_m _ _ _) rfl rfl (71 + 4 * (j + 1)) (18836 + 36 * (j + 1)) (by rw [hro]; exact ⟨Nat.le_of_ble_eq_true rfl, Nat.le_of_ble_eq_true rfl⟩) ⟨by show _ + 0 ≤ _; omega, by show _ + 0 ≤ _; omega, by rw [hro]; show _ ≤ 601024; omega, by rw [hro]; show _ ≤ 7293034; omega⟩ rfl (fun ad h => h.2.2) (fun ad => rfl) (hp_q _ _ _) (Nat.le_of_ble_eq_true rfl) dLW_1308 ?_
      refine l_go hF sgLW_1311_9df92 1313 [(6, .int bb), (5, .int kk), (0, .ref b), (1, .ref q.1), (2, .ref q.2.2), (3, .ref q.2.1), (4, .int (nI (5 * j)))] [.int kk, .int (S' 0 0)] sgLW_1311_9df92d rfl ?_
      refine l_icmpeq hF 1318 dLW_1313 (by decide) (fun _ => ?_) (fun c9 => absurd hth c9)
      refine l_go hF sgLW_1318_9df92 1320 [(6, .int bb), (5, .int kk), (0, .ref b), (1, .ref q.1), (2, .ref q.2.2), (3, .ref q.2.1), (4, .int (nI (5 * j)))] [.int kk] sgLW_1318_9df92d rfl ?_
      have hend : lW C q (hp T' S' o') (71 + 4 * (j + 1)) (18836 + 36 * (j + 1)) 1335 [(6, .int bb), (5, .int kk), (0, .ref b), (1, .ref q.1), (2, .ref q.2.2), (3, .ref q.2.1), (4, .int (nI (5 * j)))] [] := by
        refine l_go hF sgLW_1335_1b3c8 2388 [(6, .int bb), (5, .int kk), (0, .ref b), (1, .ref q.1), (2, .ref q.2.2), (3, .ref q.2.1), (4, .int (nI (5 * j)))] [] sgLW_1335_1b3c8d rfl ?_
        refine l_drop [2, 3, 4, 5, 6] [(0, .ref b), (1, .ref q.1), (2, .ref q.2.2), (3, .ref q.2.1), (4, .int (nI (5 * j)))] rfl ?_
        exact kend T' S' o' hP
      refine l_ifne hF 1335 dLW_1320 (by decide) (fun _ => hend) (fun hk0 => ?_)
      refine l_go hF sgLW_1323_1f411 1325 [(6, .int bb), (5, .int kk), (0, .ref b), (1, .ref q.1), (2, .ref q.2.2), (3, .ref q.2.1), (4, .int (nI (5 * j)))] [.int 0, .ref q.2.1] sgLW_1323_1f411d rfl ?_
      refine l_out hF dLW_1325 ?_
      refine l_go hF sgLW_1326_abfd4 1330 [(6, .int bb), (5, .int kk), (0, .ref b), (1, .ref q.1), (2, .ref q.2.2), (3, .ref q.2.1), (4, .int (nI (5 * j)))] [.int (lg_cmp (o' 0) bb.toInt64)] sgLW_1326_abfd4d rfl ?_
      refine l_top 0 (by rw [ho hk0]; exact lg_cmp_s _) ?_
      exact l_ifeq hF 1335 dLW_1330 (by decide) (fun _ => hend) (fun c9 => absurd rfl c9)
    refine l_ifeq hF 1301 dLW_1294 (by decide) (fun c1 => ?_) (fun c1 => ?_)
    · refine l_go hF sgLW_1301_56c54 1302 [(5, .int kk), (0, .ref b), (1, .ref q.1), (2, .ref q.2.2), (3, .ref q.2.1), (4, .int (nI (5 * j)))] [.int 0, .int (xs (5 * j + 2)), .int (xs (5 * j + 1)), .ref q.2.2] sgLW_1301_56c54d rfl ?_
      refine l_top (bz (xs (5 * j + 3))) (by unfold bz; rw [if_pos c1]) ?_
      exact hj1302
    · refine l_go hF sgLW_1297_1c64c 1302 [(5, .int kk), (0, .ref b), (1, .ref q.1), (2, .ref q.2.2), (3, .ref q.2.1), (4, .int (nI (5 * j)))] [.int 1, .int (xs (5 * j + 2)), .int (xs (5 * j + 1)), .ref q.2.2] sgLW_1297_1c64cd rfl ?_
      refine l_top (bz (xs (5 * j + 3))) (by unfold bz; rw [if_neg c1]) ?_
      exact hj1302
  refine l_ifeq hF 1268 dLW_1261 (by decide) (fun c1 => ?_) (fun c1 => ?_)
  · refine l_go hF sgLW_1268_56c54 1269 [(0, .ref b), (1, .ref q.1), (2, .ref q.2.2), (3, .ref q.2.1), (4, .int (nI (5 * j)))] [.int 0, .int (xs (5 * j + 2)), .int (xs (5 * j + 1)), .ref q.1] sgLW_1268_56c54d rfl ?_
    refine l_top (bz (xs (5 * j + 3))) (by unfold bz; rw [if_pos c1]) ?_
    exact hj1269
  · refine l_go hF sgLW_1264_1c64c 1269 [(0, .ref b), (1, .ref q.1), (2, .ref q.2.2), (3, .ref q.2.1), (4, .int (nI (5 * j)))] [.int 1, .int (xs (5 * j + 2)), .int (xs (5 * j + 1)), .ref q.1] sgLW_1264_1c64cd rfl ?_
    refine l_top (bz (xs (5 * j + 3))) (by unfold bz; rw [if_neg c1]) ?_
    exact hj1269
def sgLW_1338_1478f : List Instr := [.aload_n 1, .aload_n 0, .iload 4, .iconst 1, .iadd]
theorem sgLW_1338_1478fd : am_dec code 1338 sgLW_1338_1478f = true := by decide +kernel
theorem dLW_1344 : decode code 1344 = .ok (.iaload, 1) := by decide +kernel
def sgLW_1345_67016 : List Instr := [.aload_n 3]
theorem sgLW_1345_67016d : am_dec code 1345 sgLW_1345_67016 = true := by decide +kernel
theorem dLW_1346 : decode code 1346 = .ok (.invokestatic 187, 3) := by decide +kernel
def sgLW_1349_523aa : List Instr := [.istore 5, .aload_n 2, .aload_n 0, .iload 4, .iconst 1, .iadd]
theorem sgLW_1349_523aad : am_dec code 1349 sgLW_1349_523aa = true := by decide +kernel
theorem dLW_1357 : decode code 1357 = .ok (.iaload, 1) := by decide +kernel
theorem dLW_1358 : decode code 1358 = .ok (.invokevirtual 189, 3) := by decide +kernel
def sgLW_1361_2d201 : List Instr := [.istore 6, .aload_n 2]
theorem sgLW_1361_2d201d : am_dec code 1361 sgLW_1361_2d201 = true := by decide +kernel
theorem dLW_1364 : decode code 1364 = .ok (.invokevirtual 133, 3) := by decide +kernel
def sgLW_1367_9df92 : List Instr := [.iload 5]
theorem sgLW_1367_9df92d : am_dec code 1367 sgLW_1367_9df92 = true := by decide +kernel
theorem dLW_1369 : decode code 1369 = .ok (.if_icmp .eq 5, 3) := by decide +kernel
def sgLW_1374_9df92 : List Instr := [.iload 5]
theorem sgLW_1374_9df92d : am_dec code 1374 sgLW_1374_9df92 = true := by decide +kernel
theorem dLW_1376 : decode code 1376 = .ok (.ifCond .ne 15, 3) := by decide +kernel
def sgLW_1391_a920a : List Instr := [.goto 997]
theorem sgLW_1391_a920ad : am_dec code 1391 sgLW_1391_a920a = true := by decide +kernel
def sgLW_1379_1f411 : List Instr := [.aload_n 3, .iconst 0]
theorem sgLW_1379_1f411d : am_dec code 1379 sgLW_1379_1f411 = true := by decide +kernel
theorem dLW_1381 : decode code 1381 = .ok (.laload, 1) := by decide +kernel
def sgLW_1382_abfd4 : List Instr := [.iload 6, .i2l, .lcmp]
theorem sgLW_1382_abfd4d : am_dec code 1382 sgLW_1382_abfd4 = true := by decide +kernel
theorem dLW_1386 : decode code 1386 = .ok (.ifCond .eq 5, 3) := by decide +kernel
set_option maxRecDepth 100000 in
set_option maxHeartbeats 2000000 in
theorem law_state {C : am_Cx} {q : Nat × Nat × Nat} {w0 : Cond} {b N : Nat} {xs : Nat → Int32} (hF : am_F C code 7 RL (w0 :: am_G)) (hK9 : am_K C.n0 C.dg C.ty C.st) (hro : C.ro = room_1) (hXs : va_X b N xs C.st C.st.heap) (hbl : b < C.st.heap.size) (hbA : ¬ C.n0 ≤ b) (hN : N ≤ 2560) {T S : am_T} {o : Nat → Int64} {P : am_T → am_T → Prop} {j : Nat} (hj : 5 * j + 5 ≤ N) (hop : ∀ x1 : Int32, ∃ (kk bb : Int32) (T' S' : am_T) (o' : Nat → Int64), am_D C.se yL_state (.codeWith yL_state cL_state 4 (some .int) [(0, 9, 12, 13)] :: am_G) am_WR (hp T S o) [.ref 0, .int x1, .ref 464] (hp T' S o') (some (.int kk)) ∧ am_D C.se yX6_state (.code yX6_state cX6_state 2 (some .int) :: am_G) { frames := 3, cells := 0, slots := 0, locals := 64 } (hp T' S o') [.ref 465, .int x1] (hp T' S' o') (some (.int bb)) ∧ S' 0 0 = kk ∧ (kk = 0 → o' 0 = bb.toInt64) ∧ P T' S') (kend : ∀ (T' S' : am_T) (o' : Nat → Int64), P T' S' → lW C q (hp T' S' o') (71 + 4 * (j + 1)) (18836 + 36 * (j + 1)) 2388 [(0, .ref b), (1, .ref q.1), (2, .ref q.2.2), (3, .ref q.2.1), (4, .int (nI (5 * j)))] []) : lW C q (hp T S o) (71 + 4 * j) (18836 + 36 * j) 1338 [(0, .ref b), (1, .ref q.1), (2, .ref q.2.2), (3, .ref q.2.1), (4, .int (nI (5 * j)))] [] := by
  refine l_go hF sgLW_1338_1478f 1344 [(0, .ref b), (1, .ref q.1), (2, .ref q.2.2), (3, .ref q.2.1), (4, .int (nI (5 * j)))] [.int (nI (5 * j) + 1), .ref b, .ref q.1] sgLW_1338_1478fd rfl ?_
  refine l_sld hF hXs hbl hbA (5 * j + 1) (am_ad rfl rfl) (by omega) (by omega) dLW_1344 ?_
  refine l_go hF sgLW_1345_67016 1346 [(0, .ref b), (1, .ref q.1), (2, .ref q.2.2), (3, .ref q.2.1), (4, .int (nI (5 * j)))] [.ref q.2.1, .int (xs (5 * j + 1)), .ref q.1] sgLW_1345_67016d rfl ?_
  obtain ⟨kk, bb, T', S', o', hw, hr, hth, ho, hP⟩ := hop (xs (5 * j + 1))
  refine l_dS hF hK9 [.ref 0, .int (xs (5 * j + 1)), .ref 464] [.ref q.1, .int (xs (5 * j + 1)), .ref q.2.1] [] hw mwyL_state swyL_state lm_RL_187 rfl (71 + 4 * (j + 1)) (18836 + 36 * (j + 1)) (by rw [hro]; exact ⟨Nat.le_of_ble_eq_true rfl, Nat.le_of_ble_eq_true rfl⟩) ⟨by show _ + 4 ≤ _; omega, by show _ + 36 ≤ _; omega, by rw [hro]; show _ ≤ 601024; omega, by rw [hro]; show _ ≤ 7293034; omega⟩ rfl (fun ad h => by simp only [List.map_cons, List.map_nil, am_v, h.1, h.2.1]) (hp_q _ _ _) (Nat.le_of_ble_eq_true rfl) dLW_1346 ?_
  refine l_go hF sgLW_1349_523aa 1357 [(5, .int kk), (0, .ref b), (1, .ref q.1), (2, .ref q.2.2), (3, .ref q.2.1), (4, .int (nI (5 * j)))] [.int (nI (5 * j) + 1), .ref b, .ref q.2.2] sgLW_1349_523aad rfl ?_
  refine l_sld hF hXs hbl hbA (5 * j + 1) (am_ad rfl rfl) (by omega) (by omega) dLW_1357 ?_
  refine l_dV hF hK9 (b := 465) [.int (xs (5 * j + 1))] [.int (xs (5 * j + 1))] [] hr myX6_state vyX6_state lm_RL_189 (hp_m _ _ _) rfl rfl (71 + 4 * (j + 1)) (18836 + 36 * (j + 1)) (by rw [hro]; exact ⟨Nat.le_of_ble_eq_true rfl, Nat.le_of_ble_eq_true rfl⟩) ⟨by show _ + 0 ≤ _; omega, by show _ + 0 ≤ _; omega, by rw [hro]; show _ ≤ 601024; omega, by rw [hro]; show _ ≤ 7293034; omega⟩ rfl (fun ad h => h.2.2) (fun ad => rfl) (hp_q _ _ _) (Nat.le_of_ble_eq_true rfl) dLW_1358 ?_
  refine l_go hF sgLW_1361_2d201 1364 [(6, .int bb), (5, .int kk), (0, .ref b), (1, .ref q.1), (2, .ref q.2.2), (3, .ref q.2.1), (4, .int (nI (5 * j)))] [.ref q.2.2] sgLW_1361_2d201d rfl ?_
  refine l_dV hF hK9 (b := 465) [] [] [] (c_r_thrown (T := T') (S := S') (o := o')) myX6_thrown vyX6_thrown lm_RL_133 (hp_m _ _ _) rfl rfl (71 + 4 * (j + 1)) (18836 + 36 * (j + 1)) (by rw [hro]; exact ⟨Nat.le_of_ble_eq_true rfl, Nat.le_of_ble_eq_true rfl⟩) ⟨by show _ + 0 ≤ _; omega, by show _ + 0 ≤ _; omega, by rw [hro]; show _ ≤ 601024; omega, by rw [hro]; show _ ≤ 7293034; omega⟩ rfl (fun ad h => h.2.2) (fun ad => rfl) (hp_q _ _ _) (Nat.le_of_ble_eq_true rfl) dLW_1364 ?_
  refine l_go hF sgLW_1367_9df92 1369 [(6, .int bb), (5, .int kk), (0, .ref b), (1, .ref q.1), (2, .ref q.2.2), (3, .ref q.2.1), (4, .int (nI (5 * j)))] [.int kk, .int (S' 0 0)] sgLW_1367_9df92d rfl ?_
  refine l_icmpeq hF 1374 dLW_1369 (by decide) (fun _ => ?_) (fun c9 => absurd hth c9)
  refine l_go hF sgLW_1374_9df92 1376 [(6, .int bb), (5, .int kk), (0, .ref b), (1, .ref q.1), (2, .ref q.2.2), (3, .ref q.2.1), (4, .int (nI (5 * j)))] [.int kk] sgLW_1374_9df92d rfl ?_
  have hend : lW C q (hp T' S' o') (71 + 4 * (j + 1)) (18836 + 36 * (j + 1)) 1391 [(6, .int bb), (5, .int kk), (0, .ref b), (1, .ref q.1), (2, .ref q.2.2), (3, .ref q.2.1), (4, .int (nI (5 * j)))] [] := by
    refine l_go hF sgLW_1391_a920a 2388 [(6, .int bb), (5, .int kk), (0, .ref b), (1, .ref q.1), (2, .ref q.2.2), (3, .ref q.2.1), (4, .int (nI (5 * j)))] [] sgLW_1391_a920ad rfl ?_
    refine l_drop [2, 3, 4, 5, 6] [(0, .ref b), (1, .ref q.1), (2, .ref q.2.2), (3, .ref q.2.1), (4, .int (nI (5 * j)))] rfl ?_
    exact kend T' S' o' hP
  refine l_ifne hF 1391 dLW_1376 (by decide) (fun _ => hend) (fun hk0 => ?_)
  refine l_go hF sgLW_1379_1f411 1381 [(6, .int bb), (5, .int kk), (0, .ref b), (1, .ref q.1), (2, .ref q.2.2), (3, .ref q.2.1), (4, .int (nI (5 * j)))] [.int 0, .ref q.2.1] sgLW_1379_1f411d rfl ?_
  refine l_out hF dLW_1381 ?_
  refine l_go hF sgLW_1382_abfd4 1386 [(6, .int bb), (5, .int kk), (0, .ref b), (1, .ref q.1), (2, .ref q.2.2), (3, .ref q.2.1), (4, .int (nI (5 * j)))] [.int (lg_cmp (o' 0) bb.toInt64)] sgLW_1382_abfd4d rfl ?_
  refine l_top 0 (by rw [ho hk0]; exact lg_cmp_s _) ?_
  exact l_ifeq hF 1391 dLW_1386 (by decide) (fun _ => hend) (fun c9 => absurd rfl c9)
def sgLW_1394_1478f : List Instr := [.aload_n 1, .aload_n 0, .iload 4, .iconst 1, .iadd]
theorem sgLW_1394_1478fd : am_dec code 1394 sgLW_1394_1478f = true := by decide +kernel
theorem dLW_1400 : decode code 1400 = .ok (.iaload, 1) := by decide +kernel
def sgLW_1401_67016 : List Instr := [.aload_n 3]
theorem sgLW_1401_67016d : am_dec code 1401 sgLW_1401_67016 = true := by decide +kernel
theorem dLW_1402 : decode code 1402 = .ok (.invokestatic 190, 3) := by decide +kernel
def sgLW_1405_523aa : List Instr := [.istore 5, .aload_n 2, .aload_n 0, .iload 4, .iconst 1, .iadd]
theorem sgLW_1405_523aad : am_dec code 1405 sgLW_1405_523aa = true := by decide +kernel
theorem dLW_1413 : decode code 1413 = .ok (.iaload, 1) := by decide +kernel
theorem dLW_1414 : decode code 1414 = .ok (.invokevirtual 192, 3) := by decide +kernel
def sgLW_1417_2d201 : List Instr := [.istore 6, .aload_n 2]
theorem sgLW_1417_2d201d : am_dec code 1417 sgLW_1417_2d201 = true := by decide +kernel
theorem dLW_1420 : decode code 1420 = .ok (.invokevirtual 133, 3) := by decide +kernel
def sgLW_1423_9df92 : List Instr := [.iload 5]
theorem sgLW_1423_9df92d : am_dec code 1423 sgLW_1423_9df92 = true := by decide +kernel
theorem dLW_1425 : decode code 1425 = .ok (.if_icmp .eq 5, 3) := by decide +kernel
def sgLW_1430_9df92 : List Instr := [.iload 5]
theorem sgLW_1430_9df92d : am_dec code 1430 sgLW_1430_9df92 = true := by decide +kernel
theorem dLW_1432 : decode code 1432 = .ok (.ifCond .ne 15, 3) := by decide +kernel
def sgLW_1447_a3d2a : List Instr := [.goto 941]
theorem sgLW_1447_a3d2ad : am_dec code 1447 sgLW_1447_a3d2a = true := by decide +kernel
def sgLW_1435_1f411 : List Instr := [.aload_n 3, .iconst 0]
theorem sgLW_1435_1f411d : am_dec code 1435 sgLW_1435_1f411 = true := by decide +kernel
theorem dLW_1437 : decode code 1437 = .ok (.laload, 1) := by decide +kernel
def sgLW_1438_abfd4 : List Instr := [.iload 6, .i2l, .lcmp]
theorem sgLW_1438_abfd4d : am_dec code 1438 sgLW_1438_abfd4 = true := by decide +kernel
theorem dLW_1442 : decode code 1442 = .ok (.ifCond .eq 5, 3) := by decide +kernel
set_option maxRecDepth 100000 in
set_option maxHeartbeats 2000000 in
theorem law_cause {C : am_Cx} {q : Nat × Nat × Nat} {w0 : Cond} {b N : Nat} {xs : Nat → Int32} (hF : am_F C code 7 RL (w0 :: am_G)) (hK9 : am_K C.n0 C.dg C.ty C.st) (hro : C.ro = room_1) (hXs : va_X b N xs C.st C.st.heap) (hbl : b < C.st.heap.size) (hbA : ¬ C.n0 ≤ b) (hN : N ≤ 2560) {T S : am_T} {o : Nat → Int64} {P : am_T → am_T → Prop} {j : Nat} (hj : 5 * j + 5 ≤ N) (hop : ∀ x1 : Int32, ∃ (kk bb : Int32) (T' S' : am_T) (o' : Nat → Int64), am_D C.se yL_cause (.codeWith yL_cause cL_cause 4 (some .int) [(0, 9, 12, 13)] :: am_G) am_WR (hp T S o) [.ref 0, .int x1, .ref 464] (hp T' S o') (some (.int kk)) ∧ am_D C.se yX6_cause (.code yX6_cause cX6_cause 2 (some .int) :: am_G) { frames := 3, cells := 0, slots := 0, locals := 64 } (hp T' S o') [.ref 465, .int x1] (hp T' S' o') (some (.int bb)) ∧ S' 0 0 = kk ∧ (kk = 0 → o' 0 = bb.toInt64) ∧ P T' S') (kend : ∀ (T' S' : am_T) (o' : Nat → Int64), P T' S' → lW C q (hp T' S' o') (71 + 4 * (j + 1)) (18836 + 36 * (j + 1)) 2388 [(0, .ref b), (1, .ref q.1), (2, .ref q.2.2), (3, .ref q.2.1), (4, .int (nI (5 * j)))] []) : lW C q (hp T S o) (71 + 4 * j) (18836 + 36 * j) 1394 [(0, .ref b), (1, .ref q.1), (2, .ref q.2.2), (3, .ref q.2.1), (4, .int (nI (5 * j)))] [] := by
  refine l_go hF sgLW_1394_1478f 1400 [(0, .ref b), (1, .ref q.1), (2, .ref q.2.2), (3, .ref q.2.1), (4, .int (nI (5 * j)))] [.int (nI (5 * j) + 1), .ref b, .ref q.1] sgLW_1394_1478fd rfl ?_
  refine l_sld hF hXs hbl hbA (5 * j + 1) (am_ad rfl rfl) (by omega) (by omega) dLW_1400 ?_
  refine l_go hF sgLW_1401_67016 1402 [(0, .ref b), (1, .ref q.1), (2, .ref q.2.2), (3, .ref q.2.1), (4, .int (nI (5 * j)))] [.ref q.2.1, .int (xs (5 * j + 1)), .ref q.1] sgLW_1401_67016d rfl ?_
  obtain ⟨kk, bb, T', S', o', hw, hr, hth, ho, hP⟩ := hop (xs (5 * j + 1))
  refine l_dS hF hK9 [.ref 0, .int (xs (5 * j + 1)), .ref 464] [.ref q.1, .int (xs (5 * j + 1)), .ref q.2.1] [] hw mwyL_cause swyL_cause lm_RL_190 rfl (71 + 4 * (j + 1)) (18836 + 36 * (j + 1)) (by rw [hro]; exact ⟨Nat.le_of_ble_eq_true rfl, Nat.le_of_ble_eq_true rfl⟩) ⟨by show _ + 4 ≤ _; omega, by show _ + 36 ≤ _; omega, by rw [hro]; show _ ≤ 601024; omega, by rw [hro]; show _ ≤ 7293034; omega⟩ rfl (fun ad h => by simp only [List.map_cons, List.map_nil, am_v, h.1, h.2.1]) (hp_q _ _ _) (Nat.le_of_ble_eq_true rfl) dLW_1402 ?_
  refine l_go hF sgLW_1405_523aa 1413 [(5, .int kk), (0, .ref b), (1, .ref q.1), (2, .ref q.2.2), (3, .ref q.2.1), (4, .int (nI (5 * j)))] [.int (nI (5 * j) + 1), .ref b, .ref q.2.2] sgLW_1405_523aad rfl ?_
  refine l_sld hF hXs hbl hbA (5 * j + 1) (am_ad rfl rfl) (by omega) (by omega) dLW_1413 ?_
  refine l_dV hF hK9 (b := 465) [.int (xs (5 * j + 1))] [.int (xs (5 * j + 1))] [] hr myX6_cause vyX6_cause lm_RL_192 (hp_m _ _ _) rfl rfl (71 + 4 * (j + 1)) (18836 + 36 * (j + 1)) (by rw [hro]; exact ⟨Nat.le_of_ble_eq_true rfl, Nat.le_of_ble_eq_true rfl⟩) ⟨by show _ + 0 ≤ _; omega, by show _ + 0 ≤ _; omega, by rw [hro]; show _ ≤ 601024; omega, by rw [hro]; show _ ≤ 7293034; omega⟩ rfl (fun ad h => h.2.2) (fun ad => rfl) (hp_q _ _ _) (Nat.le_of_ble_eq_true rfl) dLW_1414 ?_
  refine l_go hF sgLW_1417_2d201 1420 [(6, .int bb), (5, .int kk), (0, .ref b), (1, .ref q.1), (2, .ref q.2.2), (3, .ref q.2.1), (4, .int (nI (5 * j)))] [.ref q.2.2] sgLW_1417_2d201d rfl ?_
  refine l_dV hF hK9 (b := 465) [] [] [] (c_r_thrown (T := T') (S := S') (o := o')) myX6_thrown vyX6_thrown lm_RL_133 (hp_m _ _ _) rfl rfl (71 + 4 * (j + 1)) (18836 + 36 * (j + 1)) (by rw [hro]; exact ⟨Nat.le_of_ble_eq_true rfl, Nat.le_of_ble_eq_true rfl⟩) ⟨by show _ + 0 ≤ _; omega, by show _ + 0 ≤ _; omega, by rw [hro]; show _ ≤ 601024; omega, by rw [hro]; show _ ≤ 7293034; omega⟩ rfl (fun ad h => h.2.2) (fun ad => rfl) (hp_q _ _ _) (Nat.le_of_ble_eq_true rfl) dLW_1420 ?_
  refine l_go hF sgLW_1423_9df92 1425 [(6, .int bb), (5, .int kk), (0, .ref b), (1, .ref q.1), (2, .ref q.2.2), (3, .ref q.2.1), (4, .int (nI (5 * j)))] [.int kk, .int (S' 0 0)] sgLW_1423_9df92d rfl ?_
  refine l_icmpeq hF 1430 dLW_1425 (by decide) (fun _ => ?_) (fun c9 => absurd hth c9)
  refine l_go hF sgLW_1430_9df92 1432 [(6, .int bb), (5, .int kk), (0, .ref b), (1, .ref q.1), (2, .ref q.2.2), (3, .ref q.2.1), (4, .int (nI (5 * j)))] [.int kk] sgLW_1430_9df92d rfl ?_
  have hend : lW C q (hp T' S' o') (71 + 4 * (j + 1)) (18836 + 36 * (j + 1)) 1447 [(6, .int bb), (5, .int kk), (0, .ref b), (1, .ref q.1), (2, .ref q.2.2), (3, .ref q.2.1), (4, .int (nI (5 * j)))] [] := by
    refine l_go hF sgLW_1447_a3d2a 2388 [(6, .int bb), (5, .int kk), (0, .ref b), (1, .ref q.1), (2, .ref q.2.2), (3, .ref q.2.1), (4, .int (nI (5 * j)))] [] sgLW_1447_a3d2ad rfl ?_
    refine l_drop [2, 3, 4, 5, 6] [(0, .ref b), (1, .ref q.1), (2, .ref q.2.2), (3, .ref q.2.1), (4, .int (nI (5 * j)))] rfl ?_
    exact kend T' S' o' hP
  refine l_ifne hF 1447 dLW_1432 (by decide) (fun _ => hend) (fun hk0 => ?_)
  refine l_go hF sgLW_1435_1f411 1437 [(6, .int bb), (5, .int kk), (0, .ref b), (1, .ref q.1), (2, .ref q.2.2), (3, .ref q.2.1), (4, .int (nI (5 * j)))] [.int 0, .ref q.2.1] sgLW_1435_1f411d rfl ?_
  refine l_out hF dLW_1437 ?_
  refine l_go hF sgLW_1438_abfd4 1442 [(6, .int bb), (5, .int kk), (0, .ref b), (1, .ref q.1), (2, .ref q.2.2), (3, .ref q.2.1), (4, .int (nI (5 * j)))] [.int (lg_cmp (o' 0) bb.toInt64)] sgLW_1438_abfd4d rfl ?_
  refine l_top 0 (by rw [ho hk0]; exact lg_cmp_s _) ?_
  exact l_ifeq hF 1447 dLW_1442 (by decide) (fun _ => hend) (fun c9 => absurd rfl c9)
