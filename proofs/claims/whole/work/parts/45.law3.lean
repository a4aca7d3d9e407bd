/-! the law, case by case, 3 -/
def sgLW_1450_1478f : List Instr := [.aload_n 1, .aload_n 0, .iload 4, .iconst 1, .iadd]
theorem sgLW_1450_1478fd : am_dec code 1450 sgLW_1450_1478f = true := by decide +kernel
theorem dLW_1456 : decode code 1456 = .ok (.iaload, 1) := by decide +kernel
def sgLW_1457_67016 : List Instr := [.aload_n 3]
theorem sgLW_1457_67016d : am_dec code 1457 sgLW_1457_67016 = true := by decide +kernel
theorem dLW_1458 : decode code 1458 = .ok (.invokestatic 193, 3) := by decide +kernel
def sgLW_1461_523aa : List Instr := [.istore 5, .aload_n 2, .aload_n 0, .iload 4, .iconst 1, .iadd]
theorem sgLW_1461_523aad : am_dec code 1461 sgLW_1461_523aa = true := by decide +kernel
theorem dLW_1469 : decode code 1469 = .ok (.iaload, 1) := by decide +kernel
theorem dLW_1470 : decode code 1470 = .ok (.invokevirtual 195, 3) := by decide +kernel
def sgLW_1473_2d201 : List Instr := [.istore 6, .aload_n 2]
theorem sgLW_1473_2d201d : am_dec code 1473 sgLW_1473_2d201 = true := by decide +kernel
theorem dLW_1476 : decode code 1476 = .ok (.invokevirtual 133, 3) := by decide +kernel
def sgLW_1479_9df92 : List Instr := [.iload 5]
theorem sgLW_1479_9df92d : am_dec code 1479 sgLW_1479_9df92 = true := by decide +kernel
theorem dLW_1481 : decode code 1481 = .ok (.if_icmp .eq 5, 3) := by decide +kernel
def sgLW_1486_9df92 : List Instr := [.iload 5]
theorem sgLW_1486_9df92d : am_dec code 1486 sgLW_1486_9df92 = true := by decide +kernel
theorem dLW_1488 : decode code 1488 = .ok (.ifCond .ne 15, 3) := by decide +kernel
def sgLW_1503_50f5c : List Instr := [.goto 885]
theorem sgLW_1503_50f5cd : am_dec code 1503 sgLW_1503_50f5c = true := by decide +kernel
def sgLW_1491_1f411 : List Instr := [.aload_n 3, .iconst 0]
theorem sgLW_1491_1f411d : am_dec code 1491 sgLW_1491_1f411 = true := by decide +kernel
theorem dLW_1493 : decode code 1493 = .ok (.laload, 1) := by decide +kernel
def sgLW_1494_abfd4 : List Instr := [.iload 6, .i2l, .lcmp]
theorem sgLW_1494_abfd4d : am_dec code 1494 sgLW_1494_abfd4 = true := by decide +kernel
theorem dLW_1498 : decode code 1498 = .ok (.ifCond .eq 5, 3) := by decide +kernel
set_option maxRecDepth 100000 in
set_option maxHeartbeats 2000000 in
theorem law_score {C : am_Cx} {q : Nat × Nat × Nat} {w0 : Cond} {b N : Nat} {xs : Nat → Int32} (hF : am_F C code 7 RL (w0 :: am_G)) (hK9 : am_K C.n0 C.dg C.ty C.st) (hro : C.ro = room_1) (hXs : va_X b N xs C.st C.st.heap) (hbl : b < C.st.heap.size) (hbA : ¬ C.n0 ≤ b) (hN : N ≤ 2560) {T S : am_T} {o : Nat → Int64} {P : am_T → am_T → Prop} {j : Nat} (hj : 5 * j + 5 ≤ N) (hop : ∀ x1 : Int32, ∃ (kk bb : Int32) (T' S' : am_T) (o' : Nat → Int64), am_D C.se yL_score (.codeWith yL_score cL_score 4 (some .int) [(0, 9, 12, 13)] :: am_G) am_WR (hp T S o) [.ref 0, .int x1, .ref 464] (hp T' S o') (some (.int kk)) ∧ am_D C.se yX6_score (.code yX6_score cX6_score 2 (some .int) :: am_G) { frames := 3, cells := 0, slots := 0, locals := 64 } (hp T' S o') [.ref 465, .int x1] (hp T' S' o') (some (.int bb)) ∧ S' 0 0 = kk ∧ (kk = 0 → o' 0 = bb.toInt64) ∧ P T' S') (kend : ∀ (T' S' : am_T) (o' : Nat → Int64), P T' S' → lW C q (hp T' S' o') (71 + 4 * (j + 1)) (18836 + 36 * (j + 1)) 2388 [(0, .ref b), (1, .ref q.1), (2, .ref q.2.2), (3, .ref q.2.1), (4, .int (nI (5 * j)))] []) : lW C q (hp T S o) (71 + 4 * j) (18836 + 36 * j) 1450 [(0, .ref b), (1, .ref q.1), (2, .ref q.2.2), (3, .ref q.2.1), (4, .int (nI (5 * j)))] [] := by
  refine l_go hF sgLW_1450_1478f 1456 [(0, .ref b), (1, .ref q.1), (2, .ref q.2.2), (3, .ref q.2.1), (4, .int (nI (5 * j)))] [.int (nI (5 * j) + 1), .ref b, .ref q.1] sgLW_1450_1478fd rfl ?_
  refine l_sld hF hXs hbl hbA (5 * j + 1) (am_ad rfl rfl) (by omega) (by omega) dLW_1456 ?_
  refine l_go hF sgLW_1457_67016 1458 [(0, .ref b), (1, .ref q.1), (2, .ref q.2.2), (3, .ref q.2.1), (4, .int (nI (5 * j)))] [.ref q.2.1, .int (xs (5 * j + 1)), .ref q.1] sgLW_1457_67016d rfl ?_
  obtain ⟨kk, bb, T', S', o', hw, hr, hth, ho, hP⟩ := hop (xs (5 * j + 1))
  refine l_dS hF hK9 [.ref 0, .int (xs (5 * j + 1)), .ref 464] [.ref q.1, .int (xs (5 * j + 1)), .ref q.2.1] [] hw mwyL_score swyL_score lm_RL_193 rfl (71 + 4 * (j + 1)) (18836 + 36 * (j + 1)) (by rw [hro]; exact ⟨Nat.le_of_ble_eq_true rfl, Nat.le_of_ble_eq_true rfl⟩) ⟨by show _ + 4 ≤ _; omega, by show _ + 36 ≤ _; omega, by rw [hro]; show _ ≤ 601024; omega, by rw [hro]; show _ ≤ 7293034; omega⟩ rfl (fun ad h => by simp only [List.map_cons, List.map_nil, am_v, h.1, h.2.1]) (hp_q _ _ _) (Nat.le_of_ble_eq_true rfl) dLW_1458 ?_
  refine l_go hF sgLW_1461_523aa 1469 [(5, .int kk), (0, .ref b), (1, .ref q.1), (2, .ref q.2.2), (3, .ref q.2.1), (4, .int (nI (5 * j)))] [.int (nI (5 * j) + 1), .ref b, .ref q.2.2] sgLW_1461_523aad rfl ?_
  refine l_sld hF hXs hbl hbA (5 * j + 1) (am_ad rfl rfl) (by omega) (by omega) dLW_1469 ?_
  refine l_dV hF hK9 (b := 465) [.int (xs (5 * j + 1))] [.int (xs (5 * j + 1))] [] hr myX6_score vyX6_score lm_RL_195 (hp_m _ _ _) rfl rfl (71 + 4 * (j + 1)) (18836 + 36 * (j + 1)) (by rw [hro]; exact ⟨Nat.le_of_ble_eq_true rfl, Nat.le_of_ble_eq_true rfl⟩) ⟨by show _ + 0 ≤ _; omega, by show _ + 0 ≤ _; omega, by rw [hro]; show _ ≤ 601024; omega, by rw [hro]; show _ ≤ 7293034; omega⟩ rfl (fun ad h => h.2.2) (fun ad => rfl) (hp_q _ _ _) (Nat.le_of_ble_eq_true rfl) dLW_1470 ?_
  refine l_go hF sgLW_1473_2d201 1476 [(6, .int bb), (5, .int kk), (0, .ref b), (1, .ref q.1), (2, .ref q.2.2), (3, .ref q.2.1), (4, .int (nI (5 * j)))] [.ref q.2.2] sgLW_1473_2d201d rfl ?_
  refine l_dV hF hK9 (b := 465) [] [] [] (c_r_thrown (T := T') (S := S') (o := o')) myX6_thrown vyX6_thrown lm_RL_133 (hp_m _ _ _) rfl rfl (71 + 4 * (j + 1)) (18836 + 36 * (j + 1)) (by rw [hro]; exact ⟨Nat.le_of_ble_eq_true rfl, Nat.le_of_ble_eq_true rfl⟩) ⟨by show _ + 0 ≤ _; omega, by show _ + 0 ≤ _; omega, by rw [hro]; show _ ≤ 601024; omega, by rw [hro]; show _ ≤ 7293034; omega⟩ rfl (fun ad h => h.2.2) (fun ad => rfl) (hp_q _ _ _) (Nat.le_of_ble_eq_true rfl) dLW_1476 ?_
  refine l_go hF sgLW_1479_9df92 1481 [(6, .int bb), (5, .int kk), (0, .ref b), (1, .ref q.1), (2, .ref q.2.2), (3, .ref q.2.1), (4, .int (nI (5 * j)))] [.int kk, .int (S' 0 0)] sgLW_1479_9df92d rfl ?_
  refine l_icmpeq hF 1486 dLW_1481 (by decide) (fun _ => ?_) (fun c9 => absurd hth c9)
  refine l_go hF sgLW_1486_9df92 1488 [(6, .int bb), (5, .int kk), (0, .ref b), (1, .ref q.1), (2, .ref q.2.2), (3, .ref q.2.1), (4, .int (nI (5 * j)))] [.int kk] sgLW_1486_9df92d rfl ?_
  have hend : lW C q (hp T' S' o') (71 + 4 * (j + 1)) (18836 + 36 * (j + 1)) 1503 [(6, .int bb), (5, .int kk), (0, .ref b), (1, .ref q.1), (2, .ref q.2.2), (3, .ref q.2.1), (4, .int (nI (5 * j)))] [] := by
    refine l_go hF sgLW_1503_50f5c 2388 [(6, .int bb), (5, .int kk), (0, .ref b), (1, .ref q.1), (2, .ref q.2.2), (3, .ref q.2.1), (4, .int (nI (5 * j)))] [] sgLW_1503_50f5cd rfl ?_
    refine l_drop [2, 3, 4, 5, 6] [(0, .ref b), (1, .ref q.1), (2, .ref q.2.2), (3, .ref q.2.1), (4, .int (nI (5 * j)))] rfl ?_
    exact kend T' S' o' hP
  refine l_ifne hF 1503 dLW_1488 (by decide) (fun _ => hend) (fun hk0 => ?_)
  refine l_go hF sgLW_1491_1f411 1493 [(6, .int bb), (5, .int kk), (0, .ref b), (1, .ref q.1), (2, .ref q.2.2), (3, .ref q.2.1), (4, .int (nI (5 * j)))] [.int 0, .ref q.2.1] sgLW_1491_1f411d rfl ?_
  refine l_out hF dLW_1493 ?_
  refine l_go hF sgLW_1494_abfd4 1498 [(6, .int bb), (5, .int kk), (0, .ref b), (1, .ref q.1), (2, .ref q.2.2), (3, .ref q.2.1), (4, .int (nI (5 * j)))] [.int (lg_cmp (o' 0) bb.toInt64)] sgLW_1494_abfd4d rfl ?_
  refine l_top 0 (by rw [ho hk0]; exact lg_cmp_s _) ?_
  exact l_ifeq hF 1503 dLW_1498 (by decide) (fun _ => hend) (fun c9 => absurd rfl c9)
def sgLW_1506_1478f : List Instr := [.aload_n 1, .aload_n 0, .iload 4, .iconst 1, .iadd]
theorem sgLW_1506_1478fd : am_dec code 1506 sgLW_1506_1478f = true := by decide +kernel
theorem dLW_1512 : decode code 1512 = .ok (.iaload, 1) := by decide +kernel
def sgLW_1513_67016 : List Instr := [.aload_n 3]
theorem sgLW_1513_67016d : am_dec code 1513 sgLW_1513_67016 = true := by decide +kernel
theorem dLW_1514 : decode code 1514 = .ok (.invokestatic 196, 3) := by decide +kernel
def sgLW_1517_523aa : List Instr := [.istore 5, .aload_n 2, .aload_n 0, .iload 4, .iconst 1, .iadd]
theorem sgLW_1517_523aad : am_dec code 1517 sgLW_1517_523aa = true := by decide +kernel
theorem dLW_1525 : decode code 1525 = .ok (.iaload, 1) := by decide +kernel
theorem dLW_1526 : decode code 1526 = .ok (.invokevirtual 198, 3) := by decide +kernel
def sgLW_1529_2d201 : List Instr := [.istore 6, .aload_n 2]
theorem sgLW_1529_2d201d : am_dec code 1529 sgLW_1529_2d201 = true := by decide +kernel
theorem dLW_1532 : decode code 1532 = .ok (.invokevirtual 133, 3) := by decide +kernel
def sgLW_1535_9df92 : List Instr := [.iload 5]
theorem sgLW_1535_9df92d : am_dec code 1535 sgLW_1535_9df92 = true := by decide +kernel
theorem dLW_1537 : decode code 1537 = .ok (.if_icmp .eq 5, 3) := by decide +kernel
def sgLW_1542_9df92 : List Instr := [.iload 5]
theorem sgLW_1542_9df92d : am_dec code 1542 sgLW_1542_9df92 = true := by decide +kernel
theorem dLW_1544 : decode code 1544 = .ok (.ifCond .ne 15, 3) := by decide +kernel
def sgLW_1559_6c3c7 : List Instr := [.goto 829]
theorem sgLW_1559_6c3c7d : am_dec code 1559 sgLW_1559_6c3c7 = true := by decide +kernel
def sgLW_1547_1f411 : List Instr := [.aload_n 3, .iconst 0]
theorem sgLW_1547_1f411d : am_dec code 1547 sgLW_1547_1f411 = true := by decide +kernel
theorem dLW_1549 : decode code 1549 = .ok (.laload, 1) := by decide +kernel
def sgLW_1550_abfd4 : List Instr := [.iload 6, .i2l, .lcmp]
theorem sgLW_1550_abfd4d : am_dec code 1550 sgLW_1550_abfd4 = true := by decide +kernel
theorem dLW_1554 : decode code 1554 = .ok (.ifCond .eq 5, 3) := by decide +kernel
set_option maxRecDepth 100000 in
set_option maxHeartbeats 2000000 in
theorem law_lapses {C : am_Cx} {q : Nat × Nat × Nat} {w0 : Cond} {b N : Nat} {xs : Nat → Int32} (hF : am_F C code 7 RL (w0 :: am_G)) (hK9 : am_K C.n0 C.dg C.ty C.st) (hro : C.ro = room_1) (hXs : va_X b N xs C.st C.st.heap) (hbl : b < C.st.heap.size) (hbA : ¬ C.n0 ≤ b) (hN : N ≤ 2560) {T S : am_T} {o : Nat → Int64} {P : am_T → am_T → Prop} {j : Nat} (hj : 5 * j + 5 ≤ N) (hop : ∀ x1 : Int32, ∃ (kk bb : Int32) (T' S' : am_T) (o' : Nat → Int64), am_D C.se yL_lapses (.codeWith yL_lapses cL_lapses 4 (some .int) [(0, 9, 12, 13)] :: am_G) am_WR (hp T S o) [.ref 0, .int x1, .ref 464] (hp T' S o') (some (.int kk)) ∧ am_D C.se yX6_lapses (.code yX6_lapses cX6_lapses 2 (some .int) :: am_G) { frames := 3, cells := 0, slots := 0, locals := 64 } (hp T' S o') [.ref 465, .int x1] (hp T' S' o') (some (.int bb)) ∧ S' 0 0 = kk ∧ (kk = 0 → o' 0 = bb.toInt64) ∧ P T' S') (kend : ∀ (T' S' : am_T) (o' : Nat → Int64), P T' S' → lW C q (hp T' S' o') (71 + 4 * (j + 1)) (18836 + 36 * (j + 1)) 2388 [(0, .ref b), (1, .ref q.1), (2, .ref q.2.2), (3, .ref q.2.1), (4, .int (nI (5 * j)))] []) : lW C q (hp T S o) (71 + 4 * j) (18836 + 36 * j) 1506 [(0, .ref b), (1, .ref q.1), (2, .ref q.2.2), (3, .ref q.2.1), (4, .int (nI (5 * j)))] [] := by
  refine l_go hF sgLW_1506_1478f 1512 [(0, .ref b), (1, .ref q.1), (2, .ref q.2.2), (3, .ref q.2.1), (4, .int (nI (5 * j)))] [.int (nI (5 * j) + 1), .ref b, .ref q.1] sgLW_1506_1478fd rfl ?_
  refine l_sld hF hXs hbl hbA (5 * j + 1) (am_ad rfl rfl) (by omega) (by omega) dLW_1512 ?_
  refine l_go hF sgLW_1513_67016 1514 [(0, .ref b), (1, .ref q.1), (2, .ref q.2.2), (3, .ref q.2.1), (4, .int (nI (5 * j)))] [.ref q.2.1, .int (xs (5 * j + 1)), .ref q.1] sgLW_1513_67016d rfl ?_
  obtain ⟨kk, bb, T', S', o', hw, hr, hth, ho, hP⟩ := hop (xs (5 * j + 1))
  refine l_dS hF hK9 [.ref 0, .int (xs (5 * j + 1)), .ref 464] [.ref q.1, .int (xs (5 * j + 1)), .ref q.2.1] [] hw mwyL_lapses swyL_lapses lm_RL_196 rfl (71 + 4 * (j + 1)) (18836 + 36 * (j + 1)) (by rw [hro]; exact ⟨Nat.le_of_ble_eq_true rfl, Nat.le_of_ble_eq_true rfl⟩) ⟨by show _ + 4 ≤ _; omega, by show _ + 36 ≤ _; omega, by rw [hro]; show _ ≤ 601024; omega, by rw [hro]; show _ ≤ 7293034; omega⟩ rfl (fun ad h => by simp only [List.map_cons, List.map_nil, am_v, h.1, h.2.1]) (hp_q _ _ _) (Nat.le_of_ble_eq_true rfl) dLW_1514 ?_
  refine l_go hF sgLW_1517_523aa 1525 [(5, .int kk), (0, .ref b), (1, .ref q.1), (2, .ref q.2.2), (3, .ref q.2.1), (4, .int (nI (5 * j)))] [.int (nI (5 * j) + 1), .ref b, .ref q.2.2] sgLW_1517_523aad rfl ?_
  refine l_sld hF hXs hbl hbA (5 * j + 1) (am_ad rfl rfl) (by omega) (by omega) dLW_1525 ?_
  refine l_dV hF hK9 (b := 465) [.int (xs (5 * j + 1))] [.int (xs (5 * j + 1))] [] hr myX6_lapses vyX6_lapses lm_RL_198 (hp_m _ _ _) rfl rfl (71 + 4 * (j + 1)) (18836 + 36 * (j + 1)) (by rw [hro]; exact ⟨Nat.le_of_ble_eq_true rfl, Nat.le_of_ble_eq_true rfl⟩) ⟨by show _ + 0 ≤ _; omega, by show _ + 0 ≤ _; omega, by rw [hro]; show _ ≤ 601024; omega, by rw [hro]; show _ ≤ 7293034; omega⟩ rfl (fun ad h => h.2.2) (fun ad => rfl) (hp_q _ _ _) (Nat.le_of_ble_eq_true rfl) dLW_1526 ?_
  refine l_go hF sgLW_1529_2d201 1532 [(6, .int bb), (5, .int kk), (0, .ref b), (1, .ref q.1), (2, .ref q.2.2), (3, .ref q.2.1), (4, .int (nI (5 * j)))] [.ref q.2.2] sgLW_1529_2d201d rfl ?_
  refine l_dV hF hK9 (b := 465) [] [] [] (c_r_thrown (T := T') (S := S') (o := o')) myX6_thrown vyX6_thrown lm_RL_133 (hp_m _ _ _) rfl rfl (71 + 4 * (j + 1)) (18836 + 36 * (j + 1)) (by rw [hro]; exact ⟨Nat.le_of_ble_eq_true rfl, Nat.le_of_ble_eq_true rfl⟩) ⟨by show _ + 0 ≤ _; omega, by show _ + 0 ≤ _; omega, by rw [hro]; show _ ≤ 601024; omega, by rw [hro]; show _ ≤ 7293034; omega⟩ rfl (fun ad h => h.2.2) (fun ad => rfl) (hp_q _ _ _) (Nat.le_of_ble_eq_true rfl) dLW_1532 ?_
  refine l_go hF sgLW_1535_9df92 1537 [(6, .int bb), (5, .int kk), (0, .ref b), (1, .ref q.1), (2, .ref q.2.2), (3, .ref q.2.1), (4, .int (nI (5 * j)))] [.int kk, .int (S' 0 0)] sgLW_1535_9df92d rfl ?_
  refine l_icmpeq hF 1542 dLW_1537 (by decide) (fun _ => ?_) (fun c9 => absurd hth c9)
  refine l_go hF sgLW_1542_9df92 1544 [(6, .int bb), (5, .int kk), (0, .ref b), (1, .ref q.1), (2, .ref q.2.2), (3, .ref q.2.1), (4, .int (nI (5 * j)))] [.int kk] sgLW_1542_9df92d rfl ?_
  have hend : lW C q (hp T' S' o') (71 + 4 * (j + 1)) (18836 + 36 * (j + 1)) 1559 [(6, .int bb), (5, .int kk), (0, .ref b), (1, .ref q.1), (2, .ref q.2.2), (3, .ref q.2.1), (4, .int (nI (5 * j)))] [] := by
    refine l_go hF sgLW_1559_6c3c7 2388 [(6, .int bb), (5, .int kk), (0, .ref b), (1, .ref q.1), (2, .ref q.2.2), (3, .ref q.2.1), (4, .int (nI (5 * j)))] [] sgLW_1559_6c3c7d rfl ?_
    refine l_drop [2, 3, 4, 5, 6] [(0, .ref b), (1, .ref q.1), (2, .ref q.2.2), (3, .ref q.2.1), (4, .int (nI (5 * j)))] rfl ?_
    exact kend T' S' o' hP
  refine l_ifne hF 1559 dLW_1544 (by decide) (fun _ => hend) (fun hk0 => ?_)
  refine l_go hF sgLW_1547_1f411 1549 [(6, .int bb), (5, .int kk), (0, .ref b), (1, .ref q.1), (2, .ref q.2.2), (3, .ref q.2.1), (4, .int (nI (5 * j)))] [.int 0, .ref q.2.1] sgLW_1547_1f411d rfl ?_
  refine l_out hF dLW_1549 ?_
  refine l_go hF sgLW_1550_abfd4 1554 [(6, .int bb), (5, .int kk), (0, .ref b), (1, .ref q.1), (2, .ref q.2.2), (3, .ref q.2.1), (4, .int (nI (5 * j)))] [.int (lg_cmp (o' 0) bb.toInt64)] sgLW_1550_abfd4d rfl ?_
  refine l_top 0 (by rw [ho hk0]; exact lg_cmp_s _) ?_
  exact l_ifeq hF 1559 dLW_1554 (by decide) (fun _ => hend) (fun c9 => absurd rfl c9)
def sgLW_1562_1478f : List Instr := [.aload_n 1, .aload_n 0, .iload 4, .iconst 1, .iadd]
theorem sgLW_1562_1478fd : am_dec code 1562 sgLW_1562_1478f = true := by decide +kernel
theorem dLW_1568 : decode code 1568 = .ok (.iaload, 1) := by decide +kernel
def sgLW_1569_67016 : List Instr := [.aload_n 3]
theorem sgLW_1569_67016d : am_dec code 1569 sgLW_1569_67016 = true := by decide +kernel
theorem dLW_1570 : decode code 1570 = .ok (.invokestatic 199, 3) := by decide +kernel
def sgLW_1573_523aa : List Instr := [.istore 5, .aload_n 2, .aload_n 0, .iload 4, .iconst 1, .iadd]
theorem sgLW_1573_523aad : am_dec code 1573 sgLW_1573_523aa = true := by decide +kernel
theorem dLW_1581 : decode code 1581 = .ok (.iaload, 1) := by decide +kernel
theorem dLW_1582 : decode code 1582 = .ok (.invokevirtual 201, 3) := by decide +kernel
def sgLW_1585_2d201 : List Instr := [.istore 6, .aload_n 2]
theorem sgLW_1585_2d201d : am_dec code 1585 sgLW_1585_2d201 = true := by decide +kernel
theorem dLW_1588 : decode code 1588 = .ok (.invokevirtual 133, 3) := by decide +kernel
def sgLW_1591_9df92 : List Instr := [.iload 5]
theorem sgLW_1591_9df92d : am_dec code 1591 sgLW_1591_9df92 = true := by decide +kernel
theorem dLW_1593 : decode code 1593 = .ok (.if_icmp .eq 5, 3) := by decide +kernel
def sgLW_1598_9df92 : List Instr := [.iload 5]
theorem sgLW_1598_9df92d : am_dec code 1598 sgLW_1598_9df92 = true := by decide +kernel
theorem dLW_1600 : decode code 1600 = .ok (.ifCond .ne 15, 3) := by decide +kernel
def sgLW_1615_a55d3 : List Instr := [.goto 773]
theorem sgLW_1615_a55d3d : am_dec code 1615 sgLW_1615_a55d3 = true := by decide +kernel
def sgLW_1603_1f411 : List Instr := [.aload_n 3, .iconst 0]
theorem sgLW_1603_1f411d : am_dec code 1603 sgLW_1603_1f411 = true := by decide +kernel
theorem dLW_1605 : decode code 1605 = .ok (.laload, 1) := by decide +kernel
def sgLW_1606_abfd4 : List Instr := [.iload 6, .i2l, .lcmp]
theorem sgLW_1606_abfd4d : am_dec code 1606 sgLW_1606_abfd4 = true := by decide +kernel
theorem dLW_1610 : decode code 1610 = .ok (.ifCond .eq 5, 3) := by decide +kernel
set_option maxRecDepth 100000 in
set_option maxHeartbeats 2000000 in
theorem law_jurors {C : am_Cx} {q : Nat × Nat × Nat} {w0 : Cond} {b N : Nat} {xs : Nat → Int32} (hF : am_F C code 7 RL (w0 :: am_G)) (hK9 : am_K C.n0 C.dg C.ty C.st) (hro : C.ro = room_1) (hXs : va_X b N xs C.st C.st.heap) (hbl : b < C.st.heap.size) (hbA : ¬ C.n0 ≤ b) (hN : N ≤ 2560) {T S : am_T} {o : Nat → Int64} {P : am_T → am_T → Prop} {j : Nat} (hj : 5 * j + 5 ≤ N) (hop : ∀ x1 : Int32, ∃ (kk bb : Int32) (T' S' : am_T) (o' : Nat → Int64), am_D C.se yL_jurors (.codeWith yL_jurors cL_jurors 4 (some .int) [(0, 9, 12, 13)] :: am_G) am_WR (hp T S o) [.ref 0, .int x1, .ref 464] (hp T' S o') (some (.int kk)) ∧ am_D C.se yX6_jurors (.code yX6_jurors cX6_jurors 2 (some .int) :: am_G) { frames := 3, cells := 0, slots := 0, locals := 64 } (hp T' S o') [.ref 465, .int x1] (hp T' S' o') (some (.int bb)) ∧ S' 0 0 = kk ∧ (kk = 0 → o' 0 = bb.toInt64) ∧ P T' S') (kend : ∀ (T' S' : am_T) (o' : Nat → Int64), P T' S' → lW C q (hp T' S' o') (71 + 4 * (j + 1)) (18836 + 36 * (j + 1)) 2388 [(0, .ref b), (1, .ref q.1), (2, .ref q.2.2), (3, .ref q.2.1), (4, .int (nI (5 * j)))] []) : lW C q (hp T S o) (71 + 4 * j) (18836 + 36 * j) 1562 [(0, .ref b), (1, .ref q.1), (2, .ref q.2.2), (3, .ref q.2.1), (4, .int (nI (5 * j)))] [] := by
  refine l_go hF sgLW_1562_1478f 1568 [(0, .ref b), (1, .ref q.1), (2, .ref q.2.2), (3, .ref q.2.1), (4, .int (nI (5 * j)))] [.int (nI (5 * j) + 1), .ref b, .ref q.1] sgLW_1562_1478fd rfl ?_
  refine l_sld hF hXs hbl hbA (5 * j + 1) (am_ad rfl rfl) (by omega) (by omega) dLW_1568 ?_
  refine l_go hF sgLW_1569_67016 1570 [(0, .ref b), (1, .ref q.1), (2, .ref q.2.2), (3, .ref q.2.1), (4, .int (nI (5 * j)))] [.ref q.2.1, .int (xs (5 * j + 1)), .ref q.1] sgLW_1569_67016d rfl ?_
  obtain ⟨kk, bb, T', S', o', hw, hr, hth, ho, hP⟩ := hop (xs (5 * j + 1))
  refine l_dS hF hK9 [.ref 0, .int (xs (5 * j + 1)), .ref 464] [.ref q.1, .int (xs (5 * j + 1)), .ref q.2.1] [] hw mwyL_jurors swyL_jurors lm_RL_199 rfl (71 + 4 * (j + 1)) (18836 + 36 * (j + 1)) (by rw [hro]; exact ⟨Nat.le_of_ble_eq_true rfl, Nat.le_of_ble_eq_true rfl⟩) ⟨by show _ + 4 ≤ _; omega, by show _ + 36 ≤ _; omega, by rw [hro]; show _ ≤ 601024; omega, by rw [hro]; show _ ≤ 7293034; omega⟩ rfl (fun ad h => by simp only [List.map_cons, List.map_nil, am_v, h.1, h.2.1]) (hp_q _ _ _) (Nat.le_of_ble_eq_true rfl) dLW_1570 ?_
  refine l_go hF sgLW_1573_523aa 1581 [(5, .int kk), (0, .ref b), (1, .ref q.1), (2, .ref q.2.2), (3, .ref q.2.1), (4, .int (nI (5 * j)))] [.int (nI (5 * j) + 1), .ref b, .ref q.2.2] sgLW_1573_523aad rfl ?_
  refine l_sld hF hXs hbl hbA (5 * j + 1) (am_ad rfl rfl) (by omega) (by omega) dLW_1581 ?_
  refine l_dV hF hK9 (b := 465) [.int (xs (5 * j + 1))] [.int (xs (5 * j + 1))] [] hr myX6_jurors vyX6_jurors lm_RL_201 (hp_m _ _ _) rfl rfl (71 + 4 * (j + 1)) (18836 + 36 * (j + 1)) (by rw [hro]; exact ⟨Nat.le_of_ble_eq_true rfl, Nat.le_of_ble_eq_true rfl⟩) ⟨by show _ + 0 ≤ _; omega, by show _ + 0 ≤ _; omega, by rw [hro]; show _ ≤ 601024; omega, by rw [hro]; show _ ≤ 7293034; omega⟩ rfl (fun ad h => h.2.2) (fun ad => rfl) (hp_q _ _ _) (Nat.le_of_ble_eq_true rfl) dLW_1582 ?_
  refine l_go hF sgLW_1585_2d201 1588 [(6, .int bb), (5, .int kk), (0, .ref b), (1, .ref q.1), (2, .ref q.2.2), (3, .ref q.2.1), (4, .int (nI (5 * j)))] [.ref q.2.2] sgLW_1585_2d201d rfl ?_
  refine l_dV hF hK9 (b := 465) [] [] [] (c_r_thrown (T := T') (S := S') (o := o')) myX6_thrown vyX6_thrown lm_RL_133 (hp_m _ _ _) rfl rfl (71 + 4 * (j + 1)) (18836 + 36 * (j + 1)) (by rw [hro]; exact ⟨Nat.le_of_ble_eq_true rfl, Nat.le_of_ble_eq_true rfl⟩) ⟨by show _ + 0 ≤ _; omega, by show _ + 0 ≤ _; omega, by rw [hro]; show _ ≤ 601024; omega, by rw [hro]; show _ ≤ 7293034; omega⟩ rfl (fun ad h => h.2.2) (fun ad => rfl) (hp_q _ _ _) (Nat.le_of_ble_eq_true rfl) dLW_1588 ?_
  refine l_go hF sgLW_1591_9df92 1593 [(6, .int bb), (5, .int kk), (0, .ref b), (1, .ref q.1), (2, .ref q.2.2), (3, .ref q.2.1), (4, .int (nI (5 * j)))] [.int kk, .int (S' 0 0)] sgLW_1591_9df92d rfl ?_
  refine l_icmpeq hF 1598 dLW_1593 (by decide) (fun _ => ?_) (fun c9 => absurd hth c9)
  refine l_go hF sgLW_1598_9df92 1600 [(6, .int bb), (5, .int kk), (0, .ref b), (1, .ref q.1), (2, .ref q.2.2), (3, .ref q.2.1), (4, .int (nI (5 * j)))] [.int kk] sgLW_1598_9df92d rfl ?_
  have hend : lW C q (hp T' S' o') (71 + 4 * (j + 1)) (18836 + 36 * (j + 1)) 1615 [(6, .int bb), (5, .int kk), (0, .ref b), (1, .ref q.1), (2, .ref q.2.2), (3, .ref q.2.1), (4, .int (nI (5 * j)))] [] := by
    refine l_go hF sgLW_1615_a55d3 2388 [(6, .int bb), (5, .int kk), (0, .ref b), (1, .ref q.1), (2, .ref q.2.2), (3, .ref q.2.1), (4, .int (nI (5 * j)))] [] sgLW_1615_a55d3d rfl ?_
    refine l_drop [2, 3, 4, 5, 6] [(0, .ref b), (1, .ref q.1), (2, .ref q.2.2), (3, .ref q.2.1), (4, .int (nI (5 * j)))] rfl ?_
    exact kend T' S' o' hP
  refine l_ifne hF 1615 dLW_1600 (by decide) (fun _ => hend) (fun hk0 => ?_)
  refine l_go hF sgLW_1603_1f411 1605 [(6, .int bb), (5, .int kk), (0, .ref b), (1, .ref q.1), (2, .ref q.2.2), (3, .ref q.2.1), (4, .int (nI (5 * j)))] [.int 0, .ref q.2.1] sgLW_1603_1f411d rfl ?_
  refine l_out hF dLW_1605 ?_
  refine l_go hF sgLW_1606_abfd4 1610 [(6, .int bb), (5, .int kk), (0, .ref b), (1, .ref q.1), (2, .ref q.2.2), (3, .ref q.2.1), (4, .int (nI (5 * j)))] [.int (lg_cmp (o' 0) bb.toInt64)] sgLW_1606_abfd4d rfl ?_
  refine l_top 0 (by rw [ho hk0]; exact lg_cmp_s _) ?_
  exact l_ifeq hF 1615 dLW_1610 (by decide) (fun _ => hend) (fun c9 => absurd rfl c9)
def sgLW_1618_1478f : List Instr := [.aload_n 1, .aload_n 0, .iload 4, .iconst 1, .iadd]
theorem sgLW_1618_1478fd : am_dec code 1618 sgLW_1618_1478f = true := by decide +kernel
theorem dLW_1624 : decode code 1624 = .ok (.iaload, 1) := by decide +kernel
def sgLW_1625_67016 : List Instr := [.aload_n 3]
theorem sgLW_1625_67016d : am_dec code 1625 sgLW_1625_67016 = true := by decide +kernel
theorem dLW_1626 : decode code 1626 = .ok (.invokestatic 202, 3) := by decide +kernel
def sgLW_1629_523aa : List Instr := [.istore 5, .aload_n 2, .aload_n 0, .iload 4, .iconst 1, .iadd]
theorem sgLW_1629_523aad : am_dec code 1629 sgLW_1629_523aa = true := by decide +kernel
theorem dLW_1637 : decode code 1637 = .ok (.iaload, 1) := by decide +kernel
theorem dLW_1638 : decode code 1638 = .ok (.invokevirtual 204, 3) := by decide +kernel
def sgLW_1641_2d201 : List Instr := [.istore 6, .aload_n 2]
theorem sgLW_1641_2d201d : am_dec code 1641 sgLW_1641_2d201 = true := by decide +kernel
theorem dLW_1644 : decode code 1644 = .ok (.invokevirtual 133, 3) := by decide +kernel
def sgLW_1647_9df92 : List Instr := [.iload 5]
theorem sgLW_1647_9df92d : am_dec code 1647 sgLW_1647_9df92 = true := by decide +kernel
theorem dLW_1649 : decode code 1649 = .ok (.if_icmp .eq 5, 3) := by decide +kernel
def sgLW_1654_9df92 : List Instr := [.iload 5]
theorem sgLW_1654_9df92d : am_dec code 1654 sgLW_1654_9df92 = true := by decide +kernel
theorem dLW_1656 : decode code 1656 = .ok (.ifCond .ne 15, 3) := by decide +kernel
def sgLW_1671_fb8b6 : List Instr := [.goto 717]
theorem sgLW_1671_fb8b6d : am_dec code 1671 sgLW_1671_fb8b6 = true := by decide +kernel
def sgLW_1659_1f411 : List Instr := [.aload_n 3, .iconst 0]
theorem sgLW_1659_1f411d : am_dec code 1659 sgLW_1659_1f411 = true := by decide +kernel
theorem dLW_1661 : decode code 1661 = .ok (.laload, 1) := by decide +kernel
def sgLW_1662_abfd4 : List Instr := [.iload 6, .i2l, .lcmp]
theorem sgLW_1662_abfd4d : am_dec code 1662 sgLW_1662_abfd4 = true := by decide +kernel
theorem dLW_1666 : decode code 1666 = .ok (.ifCond .eq 5, 3) := by decide +kernel
set_option maxRecDepth 100000 in
set_option maxHeartbeats 2000000 in
theorem law_reached {C : am_Cx} {q : Nat × Nat × Nat} {w0 : Cond} {b N : Nat} {xs : Nat → Int32} (hF : am_F C code 7 RL (w0 :: am_G)) (hK9 : am_K C.n0 C.dg C.ty C.st) (hro : C.ro = room_1) (hXs : va_X b N xs C.st C.st.heap) (hbl : b < C.st.heap.size) (hbA : ¬ C.n0 ≤ b) (hN : N ≤ 2560) {T S : am_T} {o : Nat → Int64} {P : am_T → am_T → Prop} {j : Nat} (hj : 5 * j + 5 ≤ N) (hop : ∀ x1 : Int32, ∃ (kk bb : Int32) (T' S' : am_T) (o' : Nat → Int64), am_D C.se yL_reached (.codeWith yL_reached cL_reached 4 (some .int) [(0, 9, 12, 13)] :: am_G) am_WR (hp T S o) [.ref 0, .int x1, .ref 464] (hp T' S o') (some (.int kk)) ∧ am_D C.se yX6_reached (.code yX6_reached cX6_reached 2 (some .int) :: am_G) { frames := 3, cells := 0, slots := 0, locals := 64 } (hp T' S o') [.ref 465, .int x1] (hp T' S' o') (some (.int bb)) ∧ S' 0 0 = kk ∧ (kk = 0 → o' 0 = bb.toInt64) ∧ P T' S') (kend : ∀ (T' S' : am_T) (o' : Nat → Int64), P T' S' → lW C q (hp T' S' o') (71 + 4 * (j + 1)) (18836 + 36 * (j + 1)) 2388 [(0, .ref b), (1, .ref q.1), (2, .ref q.2.2), (3, .ref q.2.1), (4, .int (nI (5 * j)))] []) : lW C q (hp T S o) (71 + 4 * j) (18836 + 36 * j) 1618 [(0, .ref b), (1, .ref q.1), (2, .ref q.2.2), (3, .ref q.2.1), (4, .int (nI (5 * j)))] [] := by
  refine l_go hF sgLW_1618_1478f 1624 [(0, .ref b), (1, .ref q.1), (2, .ref q.2.2), (3, .ref q.2.1), (4, .int (nI (5 * j)))] [.int (nI (5 * j) + 1), .ref b, .ref q.1] sgLW_1618_1478fd rfl ?_
  refine l_sld hF hXs hbl hbA (5 * j + 1) (am_ad rfl rfl) (by omega) (by omega) dLW_1624 ?_
  refine l_go hF sgLW_1625_67016 1626 [(0, .ref b), (1, .ref q.1), (2, .ref q.2.2), (3, .ref q.2.1), (4, .int (nI (5 * j)))] [.ref q.2.1, .int (xs (5 * j + 1)), .ref q.1] sgLW_1625_67016d rfl ?_
  obtain ⟨kk, bb, T', S', o', hw, hr, hth, ho, hP⟩ := hop (xs (5 * j + 1))
  refine l_dS hF hK9 [.ref 0, .int (xs (5 * j + 1)), .ref 464] [.ref q.1, .int (xs (5 * j + 1)), .ref q.2.1] [] hw mwyL_reached swyL_reached lm_RL_202 rfl (71 + 4 * (j + 1)) (18836 + 36 * (j + 1)) (by rw [hro]; exact ⟨Nat.le_of_ble_eq_true rfl, Nat.le_of_ble_eq_true rfl⟩) ⟨by show _ + 4 ≤ _; omega, by show _ + 36 ≤ _; omega, by rw [hro]; show _ ≤ 601024; omega, by rw [hro]; show _ ≤ 7293034; omega⟩ rfl (fun ad h => by simp only [List.map_cons, List.map_nil, am_v, h.1, h.2.1]) (hp_q _ _ _) (Nat.le_of_ble_eq_true rfl) dLW_1626 ?_
  refine l_go hF sgLW_1629_523aa 1637 [(5, .int kk), (0, .ref b), (1, .ref q.1), (2, .ref q.2.2), (3, .ref q.2.1), (4, .int (nI (5 * j)))] [.int (nI (5 * j) + 1), .ref b, .ref q.2.2] sgLW_1629_523aad rfl ?_
  refine l_sld hF hXs hbl hbA (5 * j + 1) (am_ad rfl rfl) (by omega) (by omega) dLW_1637 ?_
  refine l_dV hF hK9 (b := 465) [.int (xs (5 * j + 1))] [.int (xs (5 * j + 1))] [] hr myX6_reached vyX6_reached lm_RL_204 (hp_m _ _ _) rfl rfl (71 + 4 * (j + 1)) (18836 + 36 * (j + 1)) (by rw [hro]; exact ⟨Nat.le_of_ble_eq_true rfl, Nat.le_of_ble_eq_true rfl⟩) ⟨by show _ + 0 ≤ _; omega, by show _ + 0 ≤ _; omega, by rw [hro]; show _ ≤ 601024; omega, by rw [hro]; show _ ≤ 7293034; omega⟩ rfl (fun ad h => h.2.2) (fun ad => rfl) (hp_q _ _ _) (Nat.le_of_ble_eq_true rfl) dLW_1638 ?_
  refine l_go hF sgLW_1641_2d201 1644 [(6, .int bb), (5, .int kk), (0, .ref b), (1, .ref q.1), (2, .ref q.2.2), (3, .ref q.2.1), (4, .int (nI (5 * j)))] [.ref q.2.2] sgLW_1641_2d201d rfl ?_
  refine l_dV hF hK9 (b := 465) [] [] [] (c_r_thrown (T := T') (S := S') (o := o')) myX6_thrown vyX6_thrown lm_RL_133 (hp_m _ _ _) rfl rfl (71 + 4 * (j + 1)) (18836 + 36 * (j + 1)) (by rw [hro]; exact ⟨Nat.le_of_ble_eq_true rfl, Nat.le_of_ble_eq_true rfl⟩) ⟨by show _ + 0 ≤ _; omega, by show _ + 0 ≤ _; omega, by rw [hro]; show _ ≤ 601024; omega, by rw [hro]; show _ ≤ 7293034; omega⟩ rfl (fun ad h => h.2.2) (fun ad => rfl) (hp_q _ _ _) (Nat.le_of_ble_eq_true rfl) dLW_1644 ?_
  refine l_go hF sgLW_1647_9df92 1649 [(6, .int bb), (5, .int kk), (0, .ref b), (1, .ref q.1), (2, .ref q.2.2), (3, .ref q.2.1), (4, .int (nI (5 * j)))] [.int kk, .int (S' 0 0)] sgLW_1647_9df92d rfl ?_
  refine l_icmpeq hF 1654 dLW_1649 (by decide) (fun _ => ?_) (fun c9 => absurd hth c9)
  refine l_go hF sgLW_1654_9df92 1656 [(6, .int bb), (5, .int kk), (0, .ref b), (1, .ref q.1), (2, .ref q.2.2), (3, .ref q.2.1), (4, .int (nI (5 * j)))] [.int kk] sgLW_1654_9df92d rfl ?_
  have hend : lW C q (hp T' S' o') (71 + 4 * (j + 1)) (18836 + 36 * (j + 1)) 1671 [(6, .int bb), (5, .int kk), (0, .ref b), (1, .ref q.1), (2, .ref q.2.2), (3, .ref q.2.1), (4, .int (nI (5 * j)))] [] := by
    refine l_go hF sgLW_1671_fb8b6 2388 [(6, .int bb), (5, .int kk), (0, .ref b), (1, .ref q.1), (2, .ref q.2.2), (3, .ref q.2.1), (4, .int (nI (5 * j)))] [] sgLW_1671_fb8b6d rfl ?_
    refine l_drop [2, 3, 4, 5, 6] [(0, .ref b), (1, .ref q.1), (2, .ref q.2.2), (3, .ref q.2.1), (4, .int (nI (5 * j)))] rfl ?_
    exact kend T' S' o' hP
  refine l_ifne hF 1671 dLW_1656 (by decide) (fun _ => hend) (fun hk0 => ?_)
  refine l_go hF sgLW_1659_1f411 1661 [(6, .int bb), (5, .int kk), (0, .ref b), (1, .ref q.1), (2, .ref q.2.2), (3, .ref q.2.1), (4, .int (nI (5 * j)))] [.int 0, .ref q.2.1] sgLW_1659_1f411d rfl ?_
  refine l_out hF dLW_1661 ?_
  refine l_go hF sgLW_1662_abfd4 1666 [(6, .int bb), (5, .int kk), (0, .ref b), (1, .ref q.1), (2, .ref q.2.2), (3, .ref q.2.1), (4, .int (nI (5 * j)))] [.int (lg_cmp (o' 0) bb.toInt64)] sgLW_1662_abfd4d rfl ?_
  refine l_top 0 (by rw [ho hk0]; exact lg_cmp_s _) ?_
  exact l_ifeq hF 1671 dLW_1666 (by decide) (fun _ => hend) (fun c9 => absurd rfl c9)
def sgLW_1674_a7701 : List Instr := [.aload_n 1]
theorem sgLW_1674_a7701d : am_dec code 1674 sgLW_1674_a7701 = true := by decide +kernel
theorem dLW_1675 : decode code 1675 = .ok (.invokevirtual 205, 3) := by decide +kernel
def sgLW_1678_9fb7d : List Instr := [.aload_n 2]
theorem sgLW_1678_9fb7dd : am_dec code 1678 sgLW_1678_9fb7d = true := by decide +kernel
theorem dLW_1679 : decode code 1679 = .ok (.invokevirtual 208, 3) := by decide +kernel
theorem dLW_1682 : decode code 1682 = .ok (.if_icmp .eq 706, 3) := by decide +kernel
set_option maxRecDepth 100000 in
set_option maxHeartbeats 2000000 in
theorem law_mails {C : am_Cx} {q : Nat × Nat × Nat} {w0 : Cond} {b N : Nat} {xs : Nat → Int32} (hF : am_F C code 7 RL (w0 :: am_G)) (hK9 : am_K C.n0 C.dg C.ty C.st) (hro : C.ro = room_1) (hXs : va_X b N xs C.st C.st.heap) (hbl : b < C.st.heap.size) (hbA : ¬ C.n0 ≤ b) (hN : N ≤ 2560) {T S : am_T} {o : Nat → Int64} {P : am_T → am_T → Prop} {j : Nat} (hj : 5 * j + 5 ≤ N) (hop : ∃ (bb : Int32) (S' : am_T), am_D C.se yX5_mails (.code yX5_mails cX5_mails 1 (some .int) :: am_G) { frames := 0, cells := 0, slots := 0, locals := 0 } (hp T S o) [.ref 0] (hp T S o) (some (.int bb)) ∧ am_D C.se yX6_mails (.code yX6_mails cX6_mails 1 (some .int) :: am_G) { frames := 0, cells := 0, slots := 0, locals := 0 } (hp T S o) [.ref 465] (hp T S' o) (some (.int bb)) ∧ P T S') (kend : ∀ (T' S' : am_T) (o' : Nat → Int64), P T' S' → lW C q (hp T' S' o') (71 + 4 * (j + 1)) (18836 + 36 * (j + 1)) 2388 [(0, .ref b), (1, .ref q.1), (2, .ref q.2.2), (3, .ref q.2.1), (4, .int (nI (5 * j)))] []) : lW C q (hp T S o) (71 + 4 * j) (18836 + 36 * j) 1674 [(0, .ref b), (1, .ref q.1), (2, .ref q.2.2), (3, .ref q.2.1), (4, .int (nI (5 * j)))] [] := by
  refine l_go hF sgLW_1674_a7701 1675 [(0, .ref b), (1, .ref q.1), (2, .ref q.2.2), (3, .ref q.2.1), (4, .int (nI (5 * j)))] [.ref q.1] sgLW_1674_a7701d rfl ?_
  obtain ⟨bb, S', hw, hr, hP⟩ := hop
  refine l_dV hF hK9 (b := 0) [] [] [] hw myX5_mails vyX5_mails lm_RL_205 (hp_main _ _ _) rfl rfl (71 + 4 * (j + 1)) (18836 + 36 * (j + 1)) (by rw [hro]; exact ⟨Nat.le_of_ble_eq_true rfl, Nat.le_of_ble_eq_true rfl⟩) ⟨by show _ + 0 ≤ _; omega, by show _ + 0 ≤ _; omega, by rw [hro]; show _ ≤ 601024; omega, by rw [hro]; show _ ≤ 7293034; omega⟩ rfl (fun ad h => h.1) (fun ad => rfl) (hp_q _ _ _) (Nat.le_of_ble_eq_true rfl) dLW_1675 ?_
  refine l_go hF sgLW_1678_9fb7d 1679 [(0, .ref b), (1, .ref q.1), (2, .ref q.2.2), (3, .ref q.2.1), (4, .int (nI (5 * j)))] [.ref q.2.2, .int bb] sgLW_1678_9fb7dd rfl ?_
  refine l_dV hF hK9 (b := 465) [] [] [.int bb] hr myX6_mails vyX6_mails lm_RL_208 (hp_m _ _ _) rfl rfl (71 + 4 * (j + 1)) (18836 + 36 * (j + 1)) (by rw [hro]; exact ⟨Nat.le_of_ble_eq_true rfl, Nat.le_of_ble_eq_true rfl⟩) ⟨by show _ + 0 ≤ _; omega, by show _ + 0 ≤ _; omega, by rw [hro]; show _ ≤ 601024; omega, by rw [hro]; show _ ≤ 7293034; omega⟩ rfl (fun ad h => h.2.2) (fun ad => rfl) (hp_q _ _ _) (Nat.le_of_ble_eq_true rfl) dLW_1679 ?_
  refine l_icmpeq hF 2388 dLW_1682 (by decide) (fun _ => ?_) (fun c9 => absurd rfl c9)
  refine l_drop [0, 1, 2, 3, 4] [(0, .ref b), (1, .ref q.1), (2, .ref q.2.2), (3, .ref q.2.1), (4, .int (nI (5 * j)))] rfl ?_
  exact kend T S' o hP
def sgLW_1687_a7701 : List Instr := [.aload_n 1]
theorem sgLW_1687_a7701d : am_dec code 1687 sgLW_1687_a7701 = true := by decide +kernel
theorem dLW_1688 : decode code 1688 = .ok (.invokevirtual 209, 3) := by decide +kernel
def sgLW_1691_9fb7d : List Instr := [.aload_n 2]
theorem sgLW_1691_9fb7dd : am_dec code 1691 sgLW_1691_9fb7d = true := by decide +kernel
theorem dLW_1692 : decode code 1692 = .ok (.invokevirtual 212, 3) := by decide +kernel
theorem dLW_1695 : decode code 1695 = .ok (.if_icmp .eq 693, 3) := by decide +kernel
set_option maxRecDepth 100000 in
set_option maxHeartbeats 2000000 in
theorem law_held {C : am_Cx} {q : Nat × Nat × Nat} {w0 : Cond} {b N : Nat} {xs : Nat → Int32} (hF : am_F C code 7 RL (w0 :: am_G)) (hK9 : am_K C.n0 C.dg C.ty C.st) (hro : C.ro = room_1) (hXs : va_X b N xs C.st C.st.heap) (hbl : b < C.st.heap.size) (hbA : ¬ C.n0 ≤ b) (hN : N ≤ 2560) {T S : am_T} {o : Nat → Int64} {P : am_T → am_T → Prop} {j : Nat} (hj : 5 * j + 5 ≤ N) (hop : ∃ (bb : Int32) (S' : am_T), am_D C.se yX5_held (.code yX5_held cX5_held 3 (some .int) :: am_G) { frames := 0, cells := 0, slots := 0, locals := 0 } (hp T S o) [.ref 0] (hp T S o) (some (.int bb)) ∧ am_D C.se yX6_held_ (.code yX6_held_ cX6_held_ 3 (some .int) :: am_G) { frames := 0, cells := 0, slots := 0, locals := 0 } (hp T S o) [.ref 465] (hp T S' o) (some (.int bb)) ∧ P T S') (kend : ∀ (T' S' : am_T) (o' : Nat → Int64), P T' S' → lW C q (hp T' S' o') (71 + 4 * (j + 1)) (18836 + 36 * (j + 1)) 2388 [(0, .ref b), (1, .ref q.1), (2, .ref q.2.2), (3, .ref q.2.1), (4, .int (nI (5 * j)))] []) : lW C q (hp T S o) (71 + 4 * j) (18836 + 36 * j) 1687 [(0, .ref b), (1, .ref q.1), (2, .ref q.2.2), (3, .ref q.2.1), (4, .int (nI (5 * j)))] [] := by
  refine l_go hF sgLW_1687_a7701 1688 [(0, .ref b), (1, .ref q.1), (2, .ref q.2.2), (3, .ref q.2.1), (4, .int (nI (5 * j)))] [.ref q.1] sgLW_1687_a7701d rfl ?_
  obtain ⟨bb, S', hw, hr, hP⟩ := hop
  refine l_dV hF hK9 (b := 0) [] [] [] hw myX5_held vyX5_held lm_RL_209 (hp_main _ _ _) rfl rfl (71 + 4 * (j + 1)) (18836 + 36 * (j + 1)) (by rw [hro]; exact ⟨Nat.le_of_ble_eq_true rfl, Nat.le_of_ble_eq_true rfl⟩) ⟨by show _ + 0 ≤ _; omega, by show _ + 0 ≤ _; omega, by rw [hro]; show _ ≤ 601024; omega, by rw [hro]; show _ ≤ 7293034; omega⟩ rfl (fun ad h => h.1) (fun ad => rfl) (hp_q _ _ _) (Nat.le_of_ble_eq_true rfl) dLW_1688 ?_
  refine l_go hF sgLW_1691_9fb7d 1692 [(0, .ref b), (1, .ref q.1), (2, .ref q.2.2), (3, .ref q.2.1), (4, .int (nI (5 * j)))] [.ref q.2.2, .int bb] sgLW_1691_9fb7dd rfl ?_
  refine l_dV hF hK9 (b := 465) [] [] [.int bb] hr myX6_held_ vyX6_held_ lm_RL_212 (hp_m _ _ _) rfl rfl (71 + 4 * (j + 1)) (18836 + 36 * (j + 1)) (by rw [hro]; exact ⟨Nat.le_of_ble_eq_true rfl, Nat.le_of_ble_eq_true rfl⟩) ⟨by show _ + 0 ≤ _; omega, by show _ + 0 ≤ _; omega, by rw [hro]; show _ ≤ 601024; omega, by rw [hro]; show _ ≤ 7293034; omega⟩ rfl (fun ad h => h.2.2) (fun ad => rfl) (hp_q _ _ _) (Nat.le_of_ble_eq_true rfl) dLW_1692 ?_
  refine l_icmpeq hF 2388 dLW_1695 (by decide) (fun _ => ?_) (fun c9 => absurd rfl c9)
  refine l_drop [0, 1, 2, 3, 4] [(0, .ref b), (1, .ref q.1), (2, .ref q.2.2), (3, .ref q.2.1), (4, .int (nI (5 * j)))] rfl ?_
  exact kend T S' o hP
def sgLW_1700_1478f : List Instr := [.aload_n 1, .aload_n 0, .iload 4, .iconst 1, .iadd]
theorem sgLW_1700_1478fd : am_dec code 1700 sgLW_1700_1478f = true := by decide +kernel
theorem dLW_1706 : decode code 1706 = .ok (.iaload, 1) := by decide +kernel
def sgLW_1707_67016 : List Instr := [.aload_n 3]
theorem sgLW_1707_67016d : am_dec code 1707 sgLW_1707_67016 = true := by decide +kernel
theorem dLW_1708 : decode code 1708 = .ok (.invokestatic 213, 3) := by decide +kernel
def sgLW_1711_523aa : List Instr := [.istore 5, .aload_n 2, .aload_n 0, .iload 4, .iconst 1, .iadd]
theorem sgLW_1711_523aad : am_dec code 1711 sgLW_1711_523aa = true := by decide +kernel
theorem dLW_1719 : decode code 1719 = .ok (.iaload, 1) := by decide +kernel
theorem dLW_1720 : decode code 1720 = .ok (.invokevirtual 215, 3) := by decide +kernel
def sgLW_1723_2d201 : List Instr := [.istore 6, .aload_n 2]
theorem sgLW_1723_2d201d : am_dec code 1723 sgLW_1723_2d201 = true := by decide +kernel
theorem dLW_1726 : decode code 1726 = .ok (.invokevirtual 133, 3) := by decide +kernel
def sgLW_1729_9df92 : List Instr := [.iload 5]
theorem sgLW_1729_9df92d : am_dec code 1729 sgLW_1729_9df92 = true := by decide +kernel
theorem dLW_1731 : decode code 1731 = .ok (.if_icmp .eq 5, 3) := by decide +kernel
def sgLW_1736_9df92 : List Instr := [.iload 5]
theorem sgLW_1736_9df92d : am_dec code 1736 sgLW_1736_9df92 = true := by decide +kernel
theorem dLW_1738 : decode code 1738 = .ok (.ifCond .ne 15, 3) := by decide +kernel
def sgLW_1753_1b1e0 : List Instr := [.goto 635]
theorem sgLW_1753_1b1e0d : am_dec code 1753 sgLW_1753_1b1e0 = true := by decide +kernel
def sgLW_1741_1f411 : List Instr := [.aload_n 3, .iconst 0]
theorem sgLW_1741_1f411d : am_dec code 1741 sgLW_1741_1f411 = true := by decide +kernel
theorem dLW_1743 : decode code 1743 = .ok (.laload, 1) := by decide +kernel
def sgLW_1744_abfd4 : List Instr := [.iload 6, .i2l, .lcmp]
theorem sgLW_1744_abfd4d : am_dec code 1744 sgLW_1744_abfd4 = true := by decide +kernel
theorem dLW_1748 : decode code 1748 = .ok (.ifCond .eq 5, 3) := by decide +kernel
set_option maxRecDepth 100000 in
set_option maxHeartbeats 2000000 in
theorem law_weight {C : am_Cx} {q : Nat × Nat × Nat} {w0 : Cond} {b N : Nat} {xs : Nat → Int32} (hF : am_F C code 7 RL (w0 :: am_G)) (hK9 : am_K C.n0 C.dg C.ty C.st) (hro : C.ro = room_1) (hXs : va_X b N xs C.st C.st.heap) (hbl : b < C.st.heap.size) (hbA : ¬ C.n0 ≤ b) (hN : N ≤ 2560) {T S : am_T} {o : Nat → Int64} {P : am_T → am_T → Prop} {j : Nat} (hj : 5 * j + 5 ≤ N) (hop : ∀ x1 : Int32, ∃ (kk bb : Int32) (T' S' : am_T) (o' : Nat → Int64), am_D C.se yL_weight (.codeWith yL_weight cL_weight 4 (some .int) [(0, 9, 12, 13)] :: am_G) am_WR (hp T S o) [.ref 0, .int x1, .ref 464] (hp T' S o') (some (.int kk)) ∧ am_D C.se yX6_weight (.code yX6_weight cX6_weight 2 (some .int) :: am_G) { frames := 3, cells := 0, slots := 0, locals := 63 } (hp T' S o') [.ref 465, .int x1] (hp T' S' o') (some (.int bb)) ∧ S' 0 0 = kk ∧ (kk = 0 → o' 0 = bb.toInt64) ∧ P T' S') (kend : ∀ (T' S' : am_T) (o' : Nat → Int64), P T' S' → lW C q (hp T' S' o') (71 + 4 * (j + 1)) (18836 + 36 * (j + 1)) 2388 [(0, .ref b), (1, .ref q.1), (2, .ref q.2.2), (3, .ref q.2.1), (4, .int (nI (5 * j)))] []) : lW C q (hp T S o) (71 + 4 * j) (18836 + 36 * j) 1700 [(0, .ref b), (1, .ref q.1), (2, .ref q.2.2), (3, .ref q.2.1), (4, .int (nI (5 * j)))] [] := by
  refine l_go hF sgLW_1700_1478f 1706 [(0, .ref b), (1, .ref q.1), (2, .ref q.2.2), (3, .ref q.2.1), (4, .int (nI (5 * j)))] [.int (nI (5 * j) + 1), .ref b, .ref q.1] sgLW_1700_1478fd rfl ?_
  refine l_sld hF hXs hbl hbA (5 * j + 1) (am_ad rfl rfl) (by omega) (by omega) dLW_1706 ?_
  refine l_go hF sgLW_1707_67016 1708 [(0, .ref b), (1, .ref q.1), (2, .ref q.2.2), (3, .ref q.2.1), (4, .int (nI (5 * j)))] [.ref q.2.1, .int (xs (5 * j + 1)), .ref q.1] sgLW_1707_67016d rfl ?_
  obtain ⟨kk, bb, T', S', o', hw, hr, hth, ho, hP⟩ := hop (xs (5 * j + 1))
  refine l_dS hF hK9 [.ref 0, .int (xs (5 * j + 1)), .ref 464] [.ref q.1, .int (xs (5 * j + 1)), .ref q.2.1] [] hw mwyL_weight swyL_weight lm_RL_213 rfl (71 + 4 * (j + 1)) (18836 + 36 * (j + 1)) (by rw [hro]; exact ⟨Nat.le_of_ble_eq_true rfl, Nat.le_of_ble_eq_true rfl⟩) ⟨by show _ + 4 ≤ _; omega, by show _ + 36 ≤ _; omega, by rw [hro]; show _ ≤ 601024; omega, by rw [hro]; show _ ≤ 7293034; omega⟩ rfl (fun ad h => by simp only [List.map_cons, List.map_nil, am_v, h.1, h.2.1]) (hp_q _ _ _) (Nat.le_of_ble_eq_true rfl) dLW_1708 ?_
  refine l_go hF sgLW_1711_523aa 1719 [(5, .int kk), (0, .ref b), (1, .ref q.1), (2, .ref q.2.2), (3, .ref q.2.1), (4, .int (nI (5 * j)))] [.int (nI (5 * j) + 1), .ref b, .ref q.2.2] sgLW_1711_523aad rfl ?_
  refine l_sld hF hXs hbl hbA (5 * j + 1) (am_ad rfl rfl) (by omega) (by omega) dLW_1719 ?_
  refine l_dV hF hK9 (b := 465) [.int (xs (5 * j + 1))] [.int (xs (5 * j + 1))] [] hr myX6_weight vyX6_weight lm_RL_215 (hp_m _ _ _) rfl rfl (71 + 4 * (j + 1)) (18836 + 36 * (j + 1)) (by rw [hro]; exact ⟨Nat.le_of_ble_eq_true rfl, Nat.le_of_ble_eq_true rfl⟩) ⟨by show _ + 0 ≤ _; omega, by show _ + 0 ≤ _; omega, by rw [hro]; show _ ≤ 601024; omega, by rw [hro]; show _ ≤ 7293034; omega⟩ rfl (fun ad h => h.2.2) (fun ad => rfl) (hp_q _ _ _) (Nat.le_of_ble_eq_true rfl) dLW_1720 ?_
  refine l_go hF sgLW_1723_2d201 1726 [(6, .int bb), (5, .int kk), (0, .ref b), (1, .ref q.1), (2, .ref q.2.2), (3, .ref q.2.1), (4, .int (nI (5 * j)))] [.ref q.2.2] sgLW_1723_2d201d rfl ?_
  refine l_dV hF hK9 (b := 465) [] [] [] (c_r_thrown (T := T') (S := S') (o := o')) myX6_thrown vyX6_thrown lm_RL_133 (hp_m _ _ _) rfl rfl (71 + 4 * (j + 1)) (18836 + 36 * (j + 1)) (by rw [hro]; exact ⟨Nat.le_of_ble_eq_true rfl, Nat.le_of_ble_eq_true rfl⟩) ⟨by show _ + 0 ≤ _; omega, by show _ + 0 ≤ _; omega, by rw [hro]; show _ ≤ 601024; omega, by rw [hro]; show _ ≤ 7293034; omega⟩ rfl (fun ad h => h.2.2) (fun ad => rfl) (hp_q _ _ _) (Nat.le_of_ble_eq_true rfl) dLW_1726 ?_
  refine l_go hF sgLW_1729_9df92 1731 [(6, .int bb), (5, .int kk), (0, .ref b), (1, .ref q.1), (2, .ref q.2.2), (3, .ref q.2.1), (4, .int (nI (5 * j)))] [.int kk, .int (S' 0 0)] sgLW_1729_9df92d rfl ?_
  refine l_icmpeq hF 1736 dLW_1731 (by decide) (fun _ => ?_) (fun c9 => absurd hth c9)
  refine l_go hF sgLW_1736_9df92 1738 [(6, .int bb), (5, .int kk), (0, .ref b), (1, .ref q.1), (2, .ref q.2.2), (3, .ref q.2.1), (4, .int (nI (5 * j)))] [.int kk] sgLW_1736_9df92d rfl ?_
  have hend : lW C q (hp T' S' o') (71 + 4 * (j + 1)) (18836 + 36 * (j + 1)) 1753 [(6, .int bb), (5, .int kk), (0, .ref b), (1, .ref q.1), (2, .ref q.2.2), (3, .ref q.2.1), (4, .int (nI (5 * j)))] [] := by
    refine l_go hF sgLW_1753_1b1e0 2388 [(6, .int bb), (5, .int kk), (0, .ref b), (1, .ref q.1), (2, .ref q.2.2), (3, .ref q.2.1), (4, .int (nI (5 * j)))] [] sgLW_1753_1b1e0d rfl ?_
    refine l_drop [2, 3, 4, 5, 6] [(0, .ref b), (1, .ref q.1), (2, .ref q.2.2), (3, .ref q.2.1), (4, .int (nI (5 * j)))] rfl ?_
    exact kend T' S' o' hP
  refine l_ifne hF 1753 dLW_1738 (by decide) (fun _ => hend) (fun hk0 => ?_)
  refine l_go hF sgLW_1741_1f411 1743 [(6, .int bb), (5, .int kk), (0, .ref b), (1, .ref q.1), (2, .ref q.2.2), (3, .ref q.2.1), (4, .int (nI (5 * j)))] [.int 0, .ref q.2.1] sgLW_1741_1f411d rfl ?_
  refine l_out hF dLW_1743 ?_
  refine l_go hF sgLW_1744_abfd4 1748 [(6, .int bb), (5, .int kk), (0, .ref b), (1, .ref q.1), (2, .ref q.2.2), (3, .ref q.2.1), (4, .int (nI (5 * j)))] [.int (lg_cmp (o' 0) bb.toInt64)] sgLW_1744_abfd4d rfl ?_
  refine l_top 0 (by rw [ho hk0]; exact lg_cmp_s _) ?_
  exact l_ifeq hF 1753 dLW_1748 (by decide) (fun _ => hend) (fun c9 => absurd rfl c9)
def sgLW_1756_1478f : List Instr := [.aload_n 1, .aload_n 0, .iload 4, .iconst 1, .iadd]
theorem sgLW_1756_1478fd : am_dec code 1756 sgLW_1756_1478f = true := by decide +kernel
theorem dLW_1762 : decode code 1762 = .ok (.iaload, 1) := by decide +kernel
def sgLW_1763_67016 : List Instr := [.aload_n 3]
theorem sgLW_1763_67016d : am_dec code 1763 sgLW_1763_67016 = true := by decide +kernel
theorem dLW_1764 : decode code 1764 = .ok (.invokestatic 216, 3) := by decide +kernel
def sgLW_1767_523aa : List Instr := [.istore 5, .aload_n 2, .aload_n 0, .iload 4, .iconst 1, .iadd]
theorem sgLW_1767_523aad : am_dec code 1767 sgLW_1767_523aa = true := by decide +kernel
theorem dLW_1775 : decode code 1775 = .ok (.iaload, 1) := by decide +kernel
theorem dLW_1776 : decode code 1776 = .ok (.invokevirtual 218, 3) := by decide +kernel
def sgLW_1779_2d201 : List Instr := [.istore 6, .aload_n 2]
theorem sgLW_1779_2d201d : am_dec code 1779 sgLW_1779_2d201 = true := by decide +kernel
theorem dLW_1782 : decode code 1782 = .ok (.invokevirtual 133, 3) := by decide +kernel
def sgLW_1785_9df92 : List Instr := [.iload 5]
theorem sgLW_1785_9df92d : am_dec code 1785 sgLW_1785_9df92 = true := by decide +kernel
theorem dLW_1787 : decode code 1787 = .ok (.if_icmp .eq 5, 3) := by decide +kernel
def sgLW_1792_9df92 : List Instr := [.iload 5]
theorem sgLW_1792_9df92d : am_dec code 1792 sgLW_1792_9df92 = true := by decide +kernel
theorem dLW_1794 : decode code 1794 = .ok (.ifCond .ne 15, 3) := by decide +kernel
def sgLW_1809_9fd05 : List Instr := [.goto 579]
theorem sgLW_1809_9fd05d : am_dec code 1809 sgLW_1809_9fd05 = true := by decide +kernel
def sgLW_1797_1f411 : List Instr := [.aload_n 3, .iconst 0]
theorem sgLW_1797_1f411d : am_dec code 1797 sgLW_1797_1f411 = true := by decide +kernel
theorem dLW_1799 : decode code 1799 = .ok (.laload, 1) := by decide +kernel
def sgLW_1800_abfd4 : List Instr := [.iload 6, .i2l, .lcmp]
theorem sgLW_1800_abfd4d : am_dec code 1800 sgLW_1800_abfd4 = true := by decide +kernel
theorem dLW_1804 : decode code 1804 = .ok (.ifCond .eq 5, 3) := by decide +kernel
set_option maxRecDepth 100000 in
set_option maxHeartbeats 2000000 in
theorem law_judged {C : am_Cx} {q : Nat × Nat × Nat} {w0 : Cond} {b N : Nat} {xs : Nat → Int32} (hF : am_F C code 7 RL (w0 :: am_G)) (hK9 : am_K C.n0 C.dg C.ty C.st) (hro : C.ro = room_1) (hXs : va_X b N xs C.st C.st.heap) (hbl : b < C.st.heap.size) (hbA : ¬ C.n0 ≤ b) (hN : N ≤ 2560) {T S : am_T} {o : Nat → Int64} {P : am_T → am_T → Prop} {j : Nat} (hj : 5 * j + 5 ≤ N) (hop : ∀ x1 : Int32, ∃ (kk bb : Int32) (T' S' : am_T) (o' : Nat → Int64), am_D C.se yL_judged (.codeWith yL_judged cL_judged 4 (some .int) [(0, 9, 12, 13)] :: am_G) am_WR (hp T S o) [.ref 0, .int x1, .ref 464] (hp T' S o') (some (.int kk)) ∧ am_D C.se yX6_judged (.code yX6_judged cX6_judged 2 (some .int) :: am_G) { frames := 3, cells := 0, slots := 0, locals := 63 } (hp T' S o') [.ref 465, .int x1] (hp T' S' o') (some (.int bb)) ∧ S' 0 0 = kk ∧ (kk = 0 → o' 0 = bb.toInt64) ∧ P T' S') (kend : ∀ (T' S' : am_T) (o' : Nat → Int64), P T' S' → lW C q (hp T' S' o') (71 + 4 * (j + 1)) (18836 + 36 * (j + 1)) 2388 [(0, .ref b), (1, .ref q.1), (2, .ref q.2.2), (3, .ref q.2.1), (4, .int (nI (5 * j)))] []) : lW C q (hp T S o) (71 + 4 * j) (18836 + 36 * j) 1756 [(0, .ref b), (1, .ref q.1), (2, .ref q.2.2), (3, .ref q.2.1), (4, .int (nI (5 * j)))] [] := by
  refine l_go hF sgLW_1756_1478f 1762 [(0, .ref b), (1, .ref q.1), (2, .ref q.2.2), (3, .ref q.2.1), (4, .int (nI (5 * j)))] [.int (nI (5 * j) + 1), .ref b, .ref q.1] sgLW_1756_1478fd rfl ?_
  refine l_sld hF hXs hbl hbA (5 * j + 1) (am_ad rfl rfl) (by omega) (by omega) dLW_1762 ?_
  refine l_go hF sgLW_1763_67016 1764 [(0, .ref b), (1, .ref q.1), (2, .ref q.2.2), (3, .ref q.2.1), (4, .int (nI (5 * j)))] [.ref q.2.1, .int (xs (5 * j + 1)), .ref q.1] sgLW_1763_67016d rfl ?_
  obtain ⟨kk, bb, T', S', o', hw, hr, hth, ho, hP⟩ := hop (xs (5 * j + 1))
  refine l_dS hF hK9 [.ref 0, .int (xs (5 * j + 1)), .ref 464] [.ref q.1, .int (xs (5 * j + 1)), .ref q.2.1] [] hw mwyL_judged swyL_judged lm_RL_216 rfl (71 + 4 * (j + 1)) (18836 + 36 * (j + 1)) (by rw [hro]; exact ⟨Nat.le_of_ble_eq_true rfl, Nat.le_of_ble_eq_true rfl⟩) ⟨by show _ + 4 ≤ _; omega, by show _ + 36 ≤ _; omega, by rw [hro]; show _ ≤ 601024; omega, by rw [hro]; show _ ≤ 7293034; omega⟩ rfl (fun ad h => by simp only [List.map_cons, List.map_nil, am_v, h.1, h.2.1]) (hp_q _ _ _) (Nat.le_of_ble_eq_true rfl) dLW_1764 ?_
  refine l_go hF sgLW_1767_523aa 1775 [(5, .int kk), (0, .ref b), (1, .ref q.1), (2, .ref q.2.2), (3, .ref q.2.1), (4, .int (nI (5 * j)))] [.int (nI (5 * j) + 1), .ref b, .ref q.2.2] sgLW_1767_523aad rfl ?_
  refine l_sld hF hXs hbl hbA (5 * j + 1) (am_ad rfl rfl) (by omega) (by omega) dLW_1775 ?_
  refine l_dV hF hK9 (b := 465) [.int (xs (5 * j + 1))] [.int (xs (5 * j + 1))] [] hr myX6_judged vyX6_judged lm_RL_218 (hp_m _ _ _) rfl rfl (71 + 4 * (j + 1)) (18836 + 36 * (j + 1)) (by rw [hro]; exact ⟨Nat.le_of_ble_eq_true rfl, Nat.le_of_ble_eq_true rfl⟩) ⟨by show _ + 0 ≤ _; omega, by show _ + 0 ≤ _; omega, by rw [hro]; show _ ≤ 601024; omega, by rw [hro]; show _ ≤ 7293034; omega⟩ rfl (fun ad h => h.2.2) (fun ad => rfl) (hp_q _ _ _) (Nat.le_of_ble_eq_true rfl) dLW_1776 ?_
  refine l_go hF sgLW_1779_2d201 1782 [(6, .int bb), (5, .int kk), (0, .ref b), (1, .ref q.1), (2, .ref q.2.2), (3, .ref q.2.1), (4, .int (nI (5 * j)))] [.ref q.2.2] sgLW_1779_2d201d rfl ?_
  refine l_dV hF hK9 (b := 465) [] [] [] (c_r_thrown (T := T') (S := S') (o := o')) myX6_thrown vyX6_thrown lm_RL_133 (hp_m _ _ _) rfl rfl (71 + 4 * (j + 1)) (18836 + 36 * (j + 1)) (by rw [hro]; exact ⟨Nat.le_of_ble_eq_true rfl, Nat.le_of_ble_eq_true rfl⟩) ⟨by show _ + 0 ≤ _; omega, by show _ + 0 ≤ _; omega, by rw [hro]; show _ ≤ 601024; omega, by rw [hro]; show _ ≤ 7293034; omega⟩ rfl (fun ad h => h.2.2) (fun ad => rfl) (hp_q _ _ _) (Nat.le_of_ble_eq_true rfl) dLW_1782 ?_
  refine l_go hF sgLW_1785_9df92 1787 [(6, .int bb), (5, .int kk), (0, .ref b), (1, .ref q.1), (2, .ref q.2.2), (3, .ref q.2.1), (4, .int (nI (5 * j)))] [.int kk, .int (S' 0 0)] sgLW_1785_9df92d rfl ?_
  refine l_icmpeq hF 1792 dLW_1787 (by decide) (fun _ => ?_) (fun c9 => absurd hth c9)
  refine l_go hF sgLW_1792_9df92 1794 [(6, .int bb), (5, .int kk), (0, .ref b), (1, .ref q.1), (2, .ref q.2.2), (3, .ref q.2.1), (4, .int (nI (5 * j)))] [.int kk] sgLW_1792_9df92d rfl ?_
  have hend : lW C q (hp T' S' o') (71 + 4 * (j + 1)) (18836 + 36 * (j + 1)) 1809 [(6, .int bb), (5, .int kk), (0, .ref b), (1, .ref q.1), (2, .ref q.2.2), (3, .ref q.2.1), (4, .int (nI (5 * j)))] [] := by
    refine l_go hF sgLW_1809_9fd05 2388 [(6, .int bb), (5, .int kk), (0, .ref b), (1, .ref q.1), (2, .ref q.2.2), (3, .ref q.2.1), (4, .int (nI (5 * j)))] [] sgLW_1809_9fd05d rfl ?_
    refine l_drop [2, 3, 4, 5, 6] [(0, .ref b), (1, .ref q.1), (2, .ref q.2.2), (3, .ref q.2.1), (4, .int (nI (5 * j)))] rfl ?_
    exact kend T' S' o' hP
  refine l_ifne hF 1809 dLW_1794 (by decide) (fun _ => hend) (fun hk0 => ?_)
  refine l_go hF sgLW_1797_1f411 1799 [(6, .int bb), (5, .int kk), (0, .ref b), (1, .ref q.1), (2, .ref q.2.2), (3, .ref q.2.1), (4, .int (nI (5 * j)))] [.int 0, .ref q.2.1] sgLW_1797_1f411d rfl ?_
  refine l_out hF dLW_1799 ?_
  refine l_go hF sgLW_1800_abfd4 1804 [(6, .int bb), (5, .int kk), (0, .ref b), (1, .ref q.1), (2, .ref q.2.2), (3, .ref q.2.1), (4, .int (nI (5 * j)))] [.int (lg_cmp (o' 0) bb.toInt64)] sgLW_1800_abfd4d rfl ?_
  refine l_top 0 (by rw [ho hk0]; exact lg_cmp_s _) ?_
  exact l_ifeq hF 1809 dLW_1804 (by decide) (fun _ => hend) (fun c9 => absurd rfl c9)
def sgLW_1812_1478f : List Instr := [.aload_n 1, .aload_n 0, .iload 4, .iconst 1, .iadd]
theorem sgLW_1812_1478fd : am_dec code 1812 sgLW_1812_1478f = true := by decide +kernel
theorem dLW_1818 : decode code 1818 = .ok (.iaload, 1) := by decide +kernel
def sgLW_1819_67016 : List Instr := [.aload_n 3]
theorem sgLW_1819_67016d : am_dec code 1819 sgLW_1819_67016 = true := by decide +kernel
theorem dLW_1820 : decode code 1820 = .ok (.invokestatic 219, 3) := by decide +kernel
def sgLW_1823_523aa : List Instr := [.istore 5, .aload_n 2, .aload_n 0, .iload 4, .iconst 1, .iadd]
theorem sgLW_1823_523aad : am_dec code 1823 sgLW_1823_523aa = true := by decide +kernel
theorem dLW_1831 : decode code 1831 = .ok (.iaload, 1) := by decide +kernel
theorem dLW_1832 : decode code 1832 = .ok (.invokevirtual 221, 3) := by decide +kernel
def sgLW_1835_2d201 : List Instr := [.istore 6, .aload_n 2]
theorem sgLW_1835_2d201d : am_dec code 1835 sgLW_1835_2d201 = true := by decide +kernel
theorem dLW_1838 : decode code 1838 = .ok (.invokevirtual 133, 3) := by decide +kernel
def sgLW_1841_9df92 : List Instr := [.iload 5]
theorem sgLW_1841_9df92d : am_dec code 1841 sgLW_1841_9df92 = true := by decide +kernel
theorem dLW_1843 : decode code 1843 = .ok (.if_icmp .eq 5, 3) := by decide +kernel
def sgLW_1848_9df92 : List Instr := [.iload 5]
theorem sgLW_1848_9df92d : am_dec code 1848 sgLW_1848_9df92 = true := by decide +kernel
theorem dLW_1850 : decode code 1850 = .ok (.ifCond .ne 15, 3) := by decide +kernel
def sgLW_1865_c9c36 : List Instr := [.goto 523]
theorem sgLW_1865_c9c36d : am_dec code 1865 sgLW_1865_c9c36 = true := by decide +kernel
def sgLW_1853_1f411 : List Instr := [.aload_n 3, .iconst 0]
theorem sgLW_1853_1f411d : am_dec code 1853 sgLW_1853_1f411 = true := by decide +kernel
theorem dLW_1855 : decode code 1855 = .ok (.laload, 1) := by decide +kernel
def sgLW_1856_abfd4 : List Instr := [.iload 6, .i2l, .lcmp]
theorem sgLW_1856_abfd4d : am_dec code 1856 sgLW_1856_abfd4 = true := by decide +kernel
theorem dLW_1860 : decode code 1860 = .ok (.ifCond .eq 5, 3) := by decide +kernel
set_option maxRecDepth 100000 in
set_option maxHeartbeats 2000000 in
theorem law_bounces {C : am_Cx} {q : Nat × Nat × Nat} {w0 : Cond} {b N : Nat} {xs : Nat → Int32} (hF : am_F C code 7 RL (w0 :: am_G)) (hK9 : am_K C.n0 C.dg C.ty C.st) (hro : C.ro = room_1) (hXs : va_X b N xs C.st C.st.heap) (hbl : b < C.st.heap.size) (hbA : ¬ C.n0 ≤ b) (hN : N ≤ 2560) {T S : am_T} {o : Nat → Int64} {P : am_T → am_T → Prop} {j : Nat} (hj : 5 * j + 5 ≤ N) (hop : ∀ x1 : Int32, ∃ (kk bb : Int32) (T' S' : am_T) (o' : Nat → Int64), am_D C.se yL_bounces (.codeWith yL_bounces cL_bounces 4 (some .int) [(0, 9, 12, 13)] :: am_G) am_WR (hp T S o) [.ref 0, .int x1, .ref 464] (hp T' S o') (some (.int kk)) ∧ am_D C.se yX6_bounces (.code yX6_bounces cX6_bounces 2 (some .int) :: am_G) { frames := 3, cells := 0, slots := 0, locals := 63 } (hp T' S o') [.ref 465, .int x1] (hp T' S' o') (some (.int bb)) ∧ S' 0 0 = kk ∧ (kk = 0 → o' 0 = bb.toInt64) ∧ P T' S') (kend : ∀ (T' S' : am_T) (o' : Nat → Int64), P T' S' → lW C q (hp T' S' o') (71 + 4 * (j + 1)) (18836 + 36 * (j + 1)) 2388 [(0, .ref b), (1, .ref q.1), (2, .ref q.2.2), (3, .ref q.2.1), (4, .int (nI (5 * j)))] []) : lW C q (hp T S o) (71 + 4 * j) (18836 + 36 * j) 1812 [(0, .ref b), (1, .ref q.1), (2, .ref q.2.2), (3, .ref q.2.1), (4, .int (nI (5 * j)))] [] := by
  refine l_go hF sgLW_1812_1478f 1818 [(0, .ref b), (1, .ref q.1), (2, .ref q.2.2), (3, .ref q.2.1), (4, .int (nI (5 * j)))] [.int (nI (5 * j) + 1), .ref b, .ref q.1] sgLW_1812_1478fd rfl ?_
  refine l_sld hF hXs hbl hbA (5 * j + 1) (am_ad rfl rfl) (by omega) (by omega) dLW_1818 ?_
  refine l_go hF sgLW_1819_67016 1820 [(0, .ref b), (1, .ref q.1), (2, .ref q.2.2), (3, .ref q.2.1), (4, .int (nI (5 * j)))] [.ref q.2.1, .int (xs (5 * j + 1)), .ref q.1] sgLW_1819_67016d rfl ?_
  obtain ⟨kk, bb, T', S', o', hw, hr, hth, ho, hP⟩ := hop (xs (5 * j + 1))
  refine l_dS hF hK9 [.ref 0, .int (xs (5 * j + 1)), .ref 464] [.ref q.1, .int (xs (5 * j + 1)), .ref q.2.1] [] hw mwyL_bounces swyL_bounces lm_RL_219 rfl (71 + 4 * (j + 1)) (18836 + 36 * (j + 1)) (by rw [hro]; exact ⟨Nat.le_of_ble_eq_true rfl, Nat.le_of_ble_eq_true rfl⟩) ⟨by show _ + 4 ≤ _; omega, by show _ + 36 ≤ _; omega, by rw [hro]; show _ ≤ 601024; omega, by rw [hro]; show _ ≤ 7293034; omega⟩ rfl (fun ad h => by simp only [List.map_cons, List.map_nil, am_v, h.1, h.2.1]) (hp_q _ _ _) (Nat.le_of_ble_eq_true rfl) dLW_1820 ?_
  refine l_go hF sgLW_1823_523aa 1831 [(5, .int kk), (0, .ref b), (1, .ref q.1), (2, .ref q.2.2), (3, .ref q.2.1), (4, .int (nI (5 * j)))] [.int (nI (5 * j) + 1), .ref b, .ref q.2.2] sgLW_1823_523aad rfl ?_
  refine l_sld hF hXs hbl hbA (5 * j + 1) (am_ad rfl rfl) (by omega) (by omega) dLW_1831 ?_
  refine l_dV hF hK9 (b := 465) [.int (xs (5 * j + 1))] [.int (xs (5 * j + 1))] [] hr myX6_bounces vyX6_bounces lm_RL_221 (hp_m _ _ _) rfl rfl (71 + 4 * (j + 1)) (18836 + 36 * (j + 1)) (by rw [hro]; exact ⟨Nat.le_of_ble_eq_true rfl, Nat.le_of_ble_eq_true rfl⟩) ⟨by show _ + 0 ≤ _; omega, by show _ + 0 ≤ _; omega, by rw [hro]; show _ ≤ 601024; omega, by rw [hro]; show _ ≤ 7293034; omega⟩ rfl (fun ad h => h.2.2) (fun ad => rfl) (hp_q _ _ _) (Nat.le_of_ble_eq_true rfl) dLW_1832 ?_
  refine l_go hF sgLW_1835_2d201 1838 [(6, .int bb), (5, .int kk), (0, .ref b), (1, .ref q.1), (2, .ref q.2.2), (3, .ref q.2.1), (4, .int (nI (5 * j)))] [.ref q.2.2] sgLW_1835_2d201d rfl ?_
  refine l_dV hF hK9 (b := 465) [] [] [] (c_r_thrown (T := T') (S := S') (o := o')) myX6_thrown vyX6_thrown lm_RL_133 (hp_m _ _ _) rfl rfl (71 + 4 * (j + 1)) (18836 + 36 * (j + 1)) (by rw [hro]; exact ⟨Nat.le_of_ble_eq_true rfl, Nat.le_of_ble_eq_true rfl⟩) ⟨by show _ + 0 ≤ _; omega, by show _ + 0 ≤ _; omega, by rw [hro]; show _ ≤ 601024; omega, by rw [hro]; show _ ≤ 7293034; omega⟩ rfl (fun ad h => h.2.2) (fun ad => rfl) (hp_q _ _ _) (Nat.le_of_ble_eq_true rfl) dLW_1838 ?_
  refine l_go hF sgLW_1841_9df92 1843 [(6, .int bb), (5, .int kk), (0, .ref b), (1, .ref q.1), (2, .ref q.2.2), (3, .ref q.2.1), (4, .int (nI (5 * j)))] [.int kk, .int (S' 0 0)] sgLW_1841_9df92d rfl ?_
  refine l_icmpeq hF 1848 dLW_1843 (by decide) (fun _ => ?_) (fun c9 => absurd hth c9)
  refine l_go hF sgLW_1848_9df92 1850 [(6, .int bb), (5, .int kk), (0, .ref b), (1, .ref q.1), (2, .ref q.2.2), (3, .ref q.2.1), (4, .int (nI (5 * j)))] [.int kk] sgLW_1848_9df92d rfl ?_
  have hend : lW C q (hp T' S' o') (71 + 4 * (j + 1)) (18836 + 36 * (j + 1)) 1865 [(6, .int bb), (5, .int kk), (0, .ref b), (1, .ref q.1), (2, .ref q.2.2), (3, .ref q.2.1), (4, .int (nI (5 * j)))] [] := by
    refine l_go hF sgLW_1865_c9c36 2388 [(6, .int bb), (5, .int kk), (0, .ref b), (1, .ref q.1), (2, .ref q.2.2), (3, .ref q.2.1), (4, .int (nI (5 * j)))] [] sgLW_1865_c9c36d rfl ?_
    refine l_drop [2, 3, 4, 5, 6] [(0, .ref b), (1, .ref q.1), (2, .ref q.2.2), (3, .ref q.2.1), (4, .int (nI (5 * j)))] rfl ?_
    exact kend T' S' o' hP
  refine l_ifne hF 1865 dLW_1850 (by decide) (fun _ => hend) (fun hk0 => ?_)
  refine l_go hF sgLW_1853_1f411 1855 [(6, .int bb), (5, .int kk), (0, .ref b), (1, .ref q.1), (2, .ref q.2.2), (3, .ref q.2.1), (4, .int (nI (5 * j)))] [.int 0, .ref q.2.1] sgLW_1853_1f411d rfl ?_
  refine l_out hF dLW_1855 ?_
  refine l_go hF sgLW_1856_abfd4 1860 [(6, .int bb), (5, .int kk), (0, .ref b), (1, .ref q.1), (2, .ref q.2.2), (3, .ref q.2.1), (4, .int (nI (5 * j)))] [.int (lg_cmp (o' 0) bb.toInt64)] sgLW_1856_abfd4d rfl ?_
  refine l_top 0 (by rw [ho hk0]; exact lg_cmp_s _) ?_
  exact l_ifeq hF 1865 dLW_1860 (by decide) (fun _ => hend) (fun c9 => absurd rfl c9)
