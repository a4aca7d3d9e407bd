/-! the law whole -/
theorem Rel_up {c : Nat} {T S : am_T} (h : Rel c T S) : Rel (c + 1) T S := by
  obtain ⟨n, m, v, t, c', hc, hR⟩ := h
  exact ⟨n, m, v, t, c', by omega, hR⟩
def sgZ_20 : List Instr := [.iconst 0, .istore 4]
theorem sgZ_20d : am_dec code 20 sgZ_20 = true := by decide +kernel
def sgZ_23 : List Instr := [.iload 4, .aload_n 0]
theorem sgZ_23d : am_dec code 23 sgZ_23 = true := by decide +kernel
def sgZ_27 : List Instr := [.iconst 5, .isub]
theorem sgZ_27d : am_dec code 27 sgZ_27 = true := by decide +kernel
def sgZ_32 : List Instr := [.aload_n 0, .iload 4]
theorem sgZ_32d : am_dec code 32 sgZ_32 = true := by decide +kernel
def sgZ_36 : List Instr := [.bipush 63, .iand]
theorem sgZ_36d : am_dec code 36 sgZ_36 = true := by decide +kernel
def sgZ_2388 : List Instr := [.iinc 4 5, .goto (-2368)]
theorem sgZ_2388d : am_dec code 2388 sgZ_2388 = true := by decide +kernel
def sgZ_2394 : List Instr := [.iconst 1]
theorem sgZ_2394d : am_dec code 2394 sgZ_2394 = true := by decide +kernel
theorem dLW_2395 : decode code 2395 = .ok (.ireturn, 1) := by decide +kernel
theorem and63 (x : Int32) : ∃ c, c < 64 ∧ x &&& 63 = nI c := by
  refine ⟨(x &&& 63).toBitVec.toNat, ?_, b_ext (fun i hi => by rw [nI_bt _ hi]; rfl)⟩
  rw [Int32.toBitVec_and, BitVec.toNat_and]
  exact Nat.lt_of_le_of_lt Nat.and_le_right (by decide)
theorem few : ∀ N : Nat, N < 5 → nI N - 5 < nI 0 := by decide +kernel
theorem stop_iff {N j : Nat} (hN : N ≤ 2560) (hj : 5 * j ≤ N) : nI N - 5 < nI (5 * j) ↔ N < 5 * j + 5 := by
  by_cases h : N < 5
  · have e : j = 0 := by omega
    subst e
    exact ⟨fun _ => by omega, fun _ => few N h⟩
  · have e : nI N - 5 = nI (N - 5) := pk_sub (b := 5) (by omega)
    rw [e, nI_ltI (by omega) (by omega)]
    omega
set_option maxRecDepth 100000 in
set_option maxHeartbeats 4000000 in
theorem law_loop {C : am_Cx} {q : Nat × Nat × Nat} {w0 : Cond} {b N : Nat} {xs : Nat → Int32} (hF : am_F C code 7 RL (w0 :: am_G)) (hK9 : am_K C.n0 C.dg C.ty C.st) (hro : C.ro = room_1) (hXs : va_X b N xs C.st C.st.heap) (hbl : b < C.st.heap.size) (hbA : ¬ C.n0 ≤ b) (hN : N ≤ 2560) (hG : C.se.1.stackTraces = false) (kz : ∀ (X : am_H) (k n : Nat) (L : List (Nat × Value)), k ≤ 601024 → n ≤ 7293034 → lW C q X k n 2394 L []) : ∀ (zz j : Nat) (T S : am_T) (o : Nat → Int64), j + zz = N / 5 → Rel j T S → lW C q (hp T S o) (71 + 4 * j) (18836 + 36 * j) 23 [(0, .ref b), (1, .ref q.1), (2, .ref q.2.2), (3, .ref q.2.1), (4, .int (nI (5 * j)))] [] := by
  intro zz
  induction zz with
  | zero =>
    intro j T S o hj hRel
    refine l_go hF sgZ_23 26 [(0, .ref b), (1, .ref q.1), (2, .ref q.2.2), (3, .ref q.2.1), (4, .int (nI (5 * j)))] [.ref b, .int (nI (5 * j))] sgZ_23d rfl ?_
    refine l_slen hF hXs hbl hbA dLW_26 ?_
    refine l_go hF sgZ_27 29 [(0, .ref b), (1, .ref q.1), (2, .ref q.2.2), (3, .ref q.2.1), (4, .int (nI (5 * j)))] [.int (nI N - 5), .int (nI (5 * j))] sgZ_27d rfl ?_
    refine l_icmpgt hF 2394 dLW_29 (by decide) (fun _ => kz _ _ _ _ (by omega) (by omega)) (fun h => absurd ((stop_iff hN (by omega)).mpr (by omega)) h)
  | succ zz ih =>
    intro j T S o hj hRel
    have hj5 : 5 * j + 5 ≤ N := by omega
    have hj9 : j < 1024 := by omega
    refine l_go hF sgZ_23 26 [(0, .ref b), (1, .ref q.1), (2, .ref q.2.2), (3, .ref q.2.1), (4, .int (nI (5 * j)))] [.ref b, .int (nI (5 * j))] sgZ_23d rfl ?_
    refine l_slen hF hXs hbl hbA dLW_26 ?_
    refine l_go hF sgZ_27 29 [(0, .ref b), (1, .ref q.1), (2, .ref q.2.2), (3, .ref q.2.1), (4, .int (nI (5 * j)))] [.int (nI N - 5), .int (nI (5 * j))] sgZ_27d rfl ?_
    refine l_icmpgt hF 2394 dLW_29 (by decide) (fun h => absurd ((stop_iff hN (by omega)).mp h) (by omega)) (fun _ => ?_)
    refine l_go hF sgZ_32 35 [(0, .ref b), (1, .ref q.1), (2, .ref q.2.2), (3, .ref q.2.1), (4, .int (nI (5 * j)))] [.int (nI (5 * j)), .ref b] sgZ_32d rfl ?_
    refine l_sld hF hXs hbl hbA (5 * j) rfl (by omega) (by omega) dLW_35 ?_
    refine l_go hF sgZ_36 39 [(0, .ref b), (1, .ref q.1), (2, .ref q.2.2), (3, .ref q.2.1), (4, .int (nI (5 * j)))] [.int (xs (5 * j) &&& 63)] sgZ_36d rfl ?_
    have kend : ∀ (T' S' : am_T) (o' : Nat → Int64), Rel (j + 1) T' S' → lW C q (hp T' S' o') (71 + 4 * (j + 1)) (18836 + 36 * (j + 1)) 2388 [(0, .ref b), (1, .ref q.1), (2, .ref q.2.2), (3, .ref q.2.1), (4, .int (nI (5 * j)))] [] := by
      intro T' S' o' h
      refine l_go hF sgZ_2388 23 [(4, .int (nI (5 * j) + 5)), (0, .ref b), (1, .ref q.1), (2, .ref q.2.2), (3, .ref q.2.1)] [] sgZ_2388d rfl ?_
      refine l_drop [1, 2, 3, 4, 0] [(0, .ref b), (1, .ref q.1), (2, .ref q.2.2), (3, .ref q.2.1), (4, .int (nI (5 * j) + 5))] rfl ?_
      refine l_eqL [(0, .ref b), (1, .ref q.1), (2, .ref q.2.2), (3, .ref q.2.1), (4, .int (nI (5 * (j + 1))))] ?_ (ih (j + 1) T' S' o' (by omega) h)
      have e : nI (5 * j) + 5 = nI (5 * (j + 1)) := by
        show nI (5 * j) + nI 5 = _
        rw [nI_add]
        rfl
      rw [e]
    obtain ⟨c, hc, ec⟩ := and63 (xs (5 * j))
    refine l_top (nI c) ec ?_
    by_cases h34 : 34 < c
    · refine l_tableO hF 2388 dLW_39 (Or.inr ?_) (by decide) ?_
      · rw [nI_toInt (by omega)]; omega
      · exact l_widen (by omega) (by omega) (kend T S o (Rel_up hRel))
    have hc35 : c = 0 ∨ c = 1 ∨ c = 2 ∨ c = 3 ∨ c = 4 ∨ c = 5 ∨ c = 6 ∨ c = 7 ∨ c = 8 ∨ c = 9 ∨ c = 10 ∨ c = 11 ∨ c = 12 ∨ c = 13 ∨ c = 14 ∨ c = 15 ∨ c = 16 ∨ c = 17 ∨ c = 18 ∨ c = 19 ∨ c = 20 ∨ c = 21 ∨ c = 22 ∨ c = 23 ∨ c = 24 ∨ c = 25 ∨ c = 26 ∨ c = 27 ∨ c = 28 ∨ c = 29 ∨ c = 30 ∨ c = 31 ∨ c = 32 ∨ c = 33 ∨ c = 34 := by omega
    clear ec hc h34
    rcases hc35 with rfl | rfl | rfl | rfl | rfl | rfl | rfl | rfl | rfl | rfl | rfl | rfl | rfl | rfl | rfl | rfl | rfl | rfl | rfl | rfl | rfl | rfl | rfl | rfl | rfl | rfl | rfl | rfl | rfl | rfl | rfl | rfl | rfl | rfl | rfl
    · exact l_table hF 192 dLW_39 (by decide) (by decide) rfl rfl (law_list hF hK9 hro hXs hbl hbA hN hj5 (op_list hG hj9 hRel) kend)
    · exact l_table hF 248 dLW_39 (by decide) (by decide) rfl rfl (law_join hF hK9 hro hXs hbl hbA hN hj5 (op_join hG hj9 hRel) kend)
    · exact l_table hF 328 dLW_39 (by decide) (by decide) rfl rfl (law_leave hF hK9 hro hXs hbl hbA hN hj5 (op_leave hG hj9 hRel) kend)
    · exact l_table hF 396 dLW_39 (by decide) (by decide) rfl rfl (law_mode hF hK9 hro hXs hbl hbA hN hj5 (op_mode hG hj9 hRel) kend)
    · exact l_table hF 476 dLW_39 (by decide) (by decide) rfl rfl (law_nest hF hK9 hro hXs hbl hbA hN hj5 (op_nest hG hj9 hRel) kend)
    · exact l_table hF 551 dLW_39 (by decide) (by decide) rfl rfl (law_rules hF hK9 hro hXs hbl hbA hN hj5 (op_rules hG hj9 hRel) kend)
    · exact l_table hF 659 dLW_39 (by decide) (by decide) rfl rfl (law_bar hF hK9 hro hXs hbl hbA hN hj5 (op_bar hG hj9 hRel) kend)
    · exact l_table hF 734 dLW_39 (by decide) (by decide) rfl rfl (law_word hF hK9 hro hXs hbl hbA hN hj5 (op_word hG hj9 hRel) kend)
    · exact l_table hF 802 dLW_39 (by decide) (by decide) rfl rfl (law_reaches hF hK9 hro hXs hbl hbA hN hj5 (op_reaches hG hj9 hRel) kend)
    · exact l_table hF 858 dLW_39 (by decide) (by decide) rfl rfl (law_reachesByMembers hF hK9 hro hXs hbl hbA hN hj5 (op_reachesByMembers hG hj9 hRel) kend)
    · exact l_table hF 914 dLW_39 (by decide) (by decide) rfl rfl (law_modeOf hF hK9 hro hXs hbl hbA hN hj5 (op_modeOf hG hj9 hRel) kend)
    · exact l_table hF 982 dLW_39 (by decide) (by decide) rfl rfl (law_send hF hK9 hro hXs hbl hbA hN hj5 (op_send hG hj9 hRel) kend)
    · exact l_table hF 1074 dLW_39 (by decide) (by decide) rfl rfl (law_approve hF hK9 hro hXs hbl hbA hN hj5 (op_approve hG hj9 hRel) kend)
    · exact l_table hF 1130 dLW_39 (by decide) (by decide) rfl rfl (law_refuse hF hK9 hro hXs hbl hbA hN hj5 (op_refuse hG hj9 hRel) kend)
    · exact l_table hF 1186 dLW_39 (by decide) (by decide) rfl rfl (law_appeal hF hK9 hro hXs hbl hbA hN hj5 (op_appeal hG hj9 hRel) kend)
    · exact l_table hF 1242 dLW_39 (by decide) (by decide) rfl rfl (law_vote hF hK9 hro hXs hbl hbA hN hj5 (op_vote hG hj9 hRel) kend)
    · exact l_table hF 1338 dLW_39 (by decide) (by decide) rfl rfl (law_state hF hK9 hro hXs hbl hbA hN hj5 (op_state hG hj9 hRel) kend)
    · exact l_table hF 1394 dLW_39 (by decide) (by decide) rfl rfl (law_cause hF hK9 hro hXs hbl hbA hN hj5 (op_cause hG hj9 hRel) kend)
    · exact l_table hF 1450 dLW_39 (by decide) (by decide) rfl rfl (law_score hF hK9 hro hXs hbl hbA hN hj5 (op_score hG hj9 hRel) kend)
    · exact l_table hF 1506 dLW_39 (by decide) (by decide) rfl rfl (law_lapses hF hK9 hro hXs hbl hbA hN hj5 (op_lapses hG hj9 hRel) kend)
    · exact l_table hF 1562 dLW_39 (by decide) (by decide) rfl rfl (law_jurors hF hK9 hro hXs hbl hbA hN hj5 (op_jurors hG hj9 hRel) kend)
    · exact l_table hF 1618 dLW_39 (by decide) (by decide) rfl rfl (law_reached hF hK9 hro hXs hbl hbA hN hj5 (op_reached hG hj9 hRel) kend)
    · exact l_table hF 1674 dLW_39 (by decide) (by decide) rfl rfl (law_mails hF hK9 hro hXs hbl hbA hN hj5 (op_mails hG hj9 hRel) kend)
    · exact l_table hF 1687 dLW_39 (by decide) (by decide) rfl rfl (law_held hF hK9 hro hXs hbl hbA hN hj5 (op_held hG hj9 hRel) kend)
    · exact l_table hF 1700 dLW_39 (by decide) (by decide) rfl rfl (law_weight hF hK9 hro hXs hbl hbA hN hj5 (op_weight hG hj9 hRel) kend)
    · exact l_table hF 1756 dLW_39 (by decide) (by decide) rfl rfl (law_judged hF hK9 hro hXs hbl hbA hN hj5 (op_judged hG hj9 hRel) kend)
    · exact l_table hF 1812 dLW_39 (by decide) (by decide) rfl rfl (law_bounces hF hK9 hro hXs hbl hbA hN hj5 (op_bounces hG hj9 hRel) kend)
    · exact l_table hF 1868 dLW_39 (by decide) (by decide) rfl rfl (law_box hF hK9 hro hXs hbl hbA hN hj5 (op_box hG hj9 hRel) kend)
    · exact l_table hF 1924 dLW_39 (by decide) (by decide) rfl rfl (law_mailAt hF hK9 hro hXs hbl hbA hN hj5 (op_mailAt hG hj9 hRel) kend)
    · exact l_table hF 1992 dLW_39 (by decide) (by decide) rfl rfl (law_read hF hK9 hro hXs hbl hbA hN hj5 (op_read hG hj9 hRel) kend)
    · exact l_table hF 2048 dLW_39 (by decide) (by decide) rfl rfl (law_size hF hK9 hro hXs hbl hbA hN hj5 (op_size hG hj9 hRel) kend)
    · exact l_table hF 2116 dLW_39 (by decide) (by decide) rfl rfl (law_digest hF hK9 hro hXs hbl hbA hN hj5 (op_digest hG hj9 hRel) kend)
    · exact l_table hF 2196 dLW_39 (by decide) (by decide) rfl rfl (law_edition hF hK9 hro hXs hbl hbA hN hj5 (op_edition hG hj9 hRel) kend)
    · exact l_table hF 2264 dLW_39 (by decide) (by decide) rfl rfl (law_readers hF hK9 hro hXs hbl hbA hN hj5 (op_readers hG hj9 hRel) kend)
    · exact l_table hF 2332 dLW_39 (by decide) (by decide) rfl rfl (law_pass hF hK9 hro hXs hbl hbA hN hj5 (op_pass hG hj9 hRel) kend)
