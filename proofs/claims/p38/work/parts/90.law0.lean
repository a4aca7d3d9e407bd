/-! the law's turns: what all of them end with; calls of the class that have several contracts -/
theorem am_p1 (n : Nat) : nI n + 1 - 1 = nI n := by
  rw [nI_1]
  exact am_s1 rfl
theorem nI_01 {z : Nat} (h : z < 2) : nI z = 0 ∨ nI z = 1 := by
  have : z = 0 ∨ z = 1 := by omega
  rcases this with rfl | rfl
  · exact Or.inl rfl
  · exact Or.inr rfl
def lcn (x : Int32) (k : Nat) (a : Int32) : Int32 := a + ((x >>> (nI k &&& 31)) &&& 1)
theorem and1_b {x : Int32} {k : Nat} (hk : k < 32) : (x >>> (nI k &&& 31)) &&& 1 = zb (bt x k) := by
  cases h : bt x k with
  | true => rw [(bt_iff hk).mpr h]; rfl
  | false => rw [(bt_iff0 hk).mpr h]; rfl
theorem lcn_cb (x : Int32) : ∀ n, n ≤ 8 → itN (lcn x) 0 n = nI (cb x n) := by
  intro n
  induction n with
  | zero => intro _; rfl
  | succ n ih =>
    intro hn
    show lcn x n (itN (lcn x) 0 n) = nI (cb x n + (if bt x n = true then 1 else 0))
    rw [ih (by omega)]
    unfold lcn
    rw [and1_b (by omega)]
    cases bt x n with
    | true => exact nI_1 _
    | false => exact Int32.add_zero _
theorem cb_bd {x : Int32} (h : bd 8 x) : cb x 16 = cb x 8 := by
  have z : ∀ i, 8 ≤ i → bt x i = false := fun i hi => Bool.eq_false_iff.mpr (fun h9 => by have := h i h9; omega)
  simp only [cb, z 8 (by omega), z 9 (by omega), z 10 (by omega), z 11 (by omega), z 12 (by omega), z 13 (by omega), z 14 (by omega), z 15 (by omega)]
  rfl
theorem lcn_eq {x : Int32} (h : bd 8 x) : bc x = itN (lcn x) 0 8 := by
  rw [lcn_cb x 8 (Nat.le_refl 8), bc_eq (bd_le h (by omega)), cb_bd h]
section
variable {T S : am_T} {o : Nat → Int64} {n m v t c : Nat}
theorem mem_t (h : qR T S o n m v t c) {l p : Nat} (hl : l < n) (hp : p < 8) (hb : (S 6 l >>> (nI p &&& 31)) &&& 1 = 1) : bt (T 11 l) p = true := by
  rw [(h.1.2.2.2.2.1 l hl).1]
  exact (bt_iff (by omega)).mp hb
theorem mem_f (h : qR T S o n m v t c) {l p : Nat} (hl : l < n) (hp : p < 8) (hb : ¬ (S 6 l >>> (nI p &&& 31)) &&& 1 = 1) : bt (T 11 l) p = false := by
  rw [(h.1.2.2.2.2.1 l hl).1]
  exact bt_false.mp (fun h9 => hb ((bt_iff (by omega)).mpr h9))
theorem mem_01 {x : Int32} {p : Nat} (hp : p < 32) : (¬ (x >>> (nI p &&& 31)) &&& 1 = 0) ↔ (x >>> (nI p &&& 31)) &&& 1 = 1 := by
  rw [and1_b hp]
  cases bt x p <;> decide
theorem mode_ans (h : qR T S o n m v t c) {l p : Nat} (hl : l < n) (hp : p < 8) (hb : (S 6 l >>> (nI p &&& 31)) &&& 1 = 1) : zb (!bt (T 12 l) p) = (S 7 l >>> (nI p &&& 31)) &&& 1 := by
  rw [and1_b (by omega)]
  have h9 := (h.1.2.2.2.2.1 l hl).2.2.2 p hp
  have h8 := (bt_iff (by omega)).mp hb
  rw [h8] at h9
  congr 1
  cases h7 : bt (S 7 l) p with
  | true =>
    have := (h9.mp h7).2
    rw [Bool.eq_false_iff.mpr this]
    rfl
  | false =>
    by_cases h6 : bt (T 12 l) p = true
    · rw [h6]; rfl
    · rw [h9.mpr ⟨rfl, h6⟩] at h7
      cases h7
theorem join_ans (h : qR T S o n m v t c) {l p : Nat} {z : Int32} (hl : l < n) (hp : p < 8) : bc (tPut T l p z 11 l) = itN (lcn (S 6 l ||| (1 : Int32) <<< (nI p &&& 31))) 0 8 := by
  have e : tPut T l p z 11 l = S 6 l ||| (1 : Int32) <<< (nI p &&& 31) := by
    unfold tPut
    rw [st1_f (show 11 ≠ 12 by decide), st1_same, (h.1.2.2.2.2.1 l hl).1]
  rw [e]
  exact lcn_eq (bd_or (h.1.2.2.2.2.1 l hl).2.1 (bd_bit hp (by omega)))
theorem day_y (h : qR T S o n m v t c) : (∃ j, j < v ∧ T 33 j = nI t ∧ ∀ i, i < j → ¬ T 33 i = nI t) ∨ ∀ i, i < v → ¬ T 33 i = nI t := day_ex T (nI t) v
/-- days go by: the class's call -/
theorem pass_ex (h : qR T S o n m v t c) (hc : c ≤ 100) {d : Nat} (hd1 : 1 ≤ d) (hd2 : d ≤ 2) (hd : t + d ≤ 14) : ∃ (T' : am_T) (r : Int32), (∀ (G : am_S) (S2 : am_T) (o2 : Nat → Int64), am_D G yX5_pass (.code yX5_pass cX5_pass 3 (some .int) :: am_G) { frames := 2, cells := 0, slots := 0, locals := 43 } (hp T S2 o2) [.ref 0, .int (nI d)] (hp T' S2 o2) (some (.int r))) ∧ qR T' (lDays m t S d).1 o n m v (t + d) (c + 1) ∧ r = (lDays m t S d).2 := by
  obtain ⟨a1, a2, hn4, a4, a5, hm10, a7, hvm, a9, a10, ht14, a12⟩ := id h.1.1
  have hD := h.2.1
  rcases day_ex T (nI t) v with ⟨j, hj, hx9, h0⟩ | h0
  · have h := q_days (T' := st1 (tEnd T j) 3 0 (nI t + nI d)) h hc hd1 hd (fun g g3 g35 g37 => by rw [st1_f g3]; exact tEnd_f ⟨g35, g37⟩) (by rw [st1_same, nI_add])
      (fun i hi => by
        obtain ⟨e, he, e1, e2, e3⟩ := hD.1 i hi
        rw [st1_f (show 37 ≠ 3 by decide)]
        have e4 : tEnd T j 37 = st1 T 37 j 1 37 := itN_f (F := ted j) 37 (fun k S => ted_f (by decide)) (st1 T 37 j 1) 10
        rw [e4, st1_if]
        by_cases e5 : i = j
        · rw [if_pos e5]; decide
        · rw [if_neg e5]
          intro h9
          have h8 := e2.mp h9
          subst h8
          exact e5 (hD.2.1 i j hi hj (e1.trans hx9.symm)))
      (fun i hi l hl => by
        rw [st1_f (show 35 ≠ 3 by decide)]
        unfold tEnd
        rw [ted_at]
        show (if 10 * j ≤ 10 * i + l ∧ 10 * i + l < 10 * j + 10 ∧ ¬ T 34 (10 * i + l) = 0 then 1 else T 35 (10 * i + l)) = _
        by_cases e5 : i = j
        · subst e5
          by_cases e6 : T 34 (10 * i + l) = 0
          · rw [if_neg (fun h => h.2.2 e6), if_neg (fun h => h.2 e6)]
          · rw [if_pos ⟨by omega, by omega, e6⟩, if_pos ⟨hx9, e6⟩]
        · rw [if_neg (by omega), if_neg (fun h => e5 (hD.2.1 i j hi hj (h.1.trans hx9.symm)))])
    exact ⟨_, _, fun G S2 o2 => c_p_pass_y a4 (by omega) a7 (by omega) a9 (by omega) hd1 (by omega) (by omega) hj hx9 h0, h.1, h.2⟩
  · have h := q_days (T' := st1 T 3 0 (nI t + nI d)) h hc hd1 hd (fun g g3 g35 g37 => st1_f g3) (by rw [st1_same, nI_add])
      (fun i hi h9 => by
        obtain ⟨e, he, e1, e2, e3⟩ := hD.1 i hi
        have h8 := e2.mp h9
        subst h8
        exact h0 i hi e1)
      (fun i hi l hl => by rw [if_neg (fun h => h0 i hi h.1)]; rfl)
    exact ⟨_, _, fun G S2 o2 => c_p_pass_n a4 (by omega) a7 (by omega) a9 (by omega) hd1 (by omega) (by omega) h0, h.1, h.2⟩
end
theorem dL_law_2612 : decode code 2612 = .ok (.iaload, 1) := by decide +kernel
theorem dL_law_2615 : decode code 2615 = .ok (.invokestatic 131, 3) := by decide +kernel
theorem dL_law_2618 : decode code 2618 = .ok (.invokestatic 160, 3) := by decide +kernel
theorem dL_law_2621 : decode code 2621 = .ok (.ifCond .ne 5, 3) := by decide +kernel
def sgL_law_2586_76f4a : List Instr := [.aload_n 1, .aload_n 2, .aload_n 3, .aload 4, .aload 5, .aload 6, .aload 7, .aload 8, .aload 9, .aload 10, .iload 18, .iload 13, .iconst 3, .ishr, .aload 10, .iconst 0]
theorem sgL_law_2586_76f4ad : am_dec code 2586 sgL_law_2586_76f4a = true := by decide +kernel
def sgL_law_2613_c7176 : List Instr := [.iconst 1, .iadd]
theorem sgL_law_2613_c7176d : am_dec code 2613 sgL_law_2613_c7176 = true := by decide +kernel
set_option maxRecDepth 100000 in
set_option maxHeartbeats 8000000 in
theorem law_same {C : am_Cx} {X0 : am_H} {P0 : am_H → Option Value → Prop} {w0 : Cond} (hF : am_F C code 25 RL (w0 :: am_G)) (hO : am_O C X0 P0 room_1) (hG : C.la.stackTraces = false) {b tn k0 n0 c : Nat} (hc : c ≤ 63) (hk0 : k0 + 8 ≤ 600104) (hn0 : n0 + 64 ≤ 7301313) (Kc : ∀ (T S : am_T) (o : Nat → Int64) (n m v t : Nat), qR T S o n m v t (c + 1) → S 91 0 = 1 → 1 ≤ n → am_W C (hp T S o) (k0 + 8) (n0 + 64) 2626 [(0, .retAddr b), (1, .ref 0), (2, .ref 500), (3, .ref 501), (4, .ref 502), (5, .ref 503), (6, .ref 464), (7, .ref 504), (8, .ref 505), (9, .ref 506), (10, .ref 507), (11, .ref 508), (12, .int (nI tn))] []) {T S : am_T} {o : Nat → Int64} {n m v t : Nat} (h : qR T S o n m v t (c + 1)) (h91 : S 91 0 = 1) {A : Int32} {l : Nat} (hl : l < n) : am_W C (hp T S o) (k0 + 8) (n0 + 64) 2586 [(0, .retAddr b), (1, .ref 0), (2, .ref 500), (3, .ref 501), (4, .ref 502), (5, .ref 503), (6, .ref 464), (7, .ref 504), (8, .ref 505), (9, .ref 506), (10, .ref 507), (11, .ref 508), (12, .int (nI tn)), (13, .int A), (18, .int (nI l))] [] := by
  obtain ⟨a1, a2, hn4, a4, a5, hm10, a7, hvm, a9, a10, ht14, a12⟩ := id h.1.1
  refine am_go hF sgL_law_2586_76f4a 2612 [(0, .retAddr b), (1, .ref 0), (2, .ref 500), (3, .ref 501), (4, .ref 502), (5, .ref 503), (6, .ref 464), (7, .ref 504), (8, .ref 505), (9, .ref 506), (10, .ref 507), (11, .ref 508), (12, .int (nI tn)), (13, .int A), (18, .int (nI l))] [.int 0, .ref 507, .int (A >>> (3 &&& 31)), .int (nI l), .ref 507, .ref 506, .ref 505, .ref 504, .ref 464, .ref 503, .ref 502, .ref 501, .ref 500, .ref 0] sgL_law_2586_76f4ad rfl ?_
  refine sv_iald hF 7 0 0 70 (by decide) (by decide) rfl rfl (show 3 * 0 + 0 < 3 by omega) (by decide) dL_law_2612 ?_
  refine am_top (nI t) a10 ?_
  refine am_go hF sgL_law_2613_c7176 2615 [(0, .retAddr b), (1, .ref 0), (2, .ref 500), (3, .ref 501), (4, .ref 502), (5, .ref 503), (6, .ref 464), (7, .ref 504), (8, .ref 505), (9, .ref 506), (10, .ref 507), (11, .ref 508), (12, .int (nI tn)), (13, .int A), (18, .int (nI l))] [.int ((nI t) + 1), .int (A >>> (3 &&& 31)), .int (nI l), .ref 507, .ref 506, .ref 505, .ref 504, .ref 464, .ref 503, .ref 502, .ref 501, .ref 500, .ref 0] sgL_law_2613_c7176d rfl ?_
  obtain ⟨z1, hz1, ez1⟩ := low_ex (A >>> (3 &&& 31)) (m := t + 1) (by omega) (by omega)
  refine am_eqS [.int (nI (t + 1)), .int (A >>> (3 &&& 31)), .int (nI l), .ref 507, .ref 506, .ref 505, .ref 504, .ref 464, .ref 503, .ref 502, .ref 501, .ref 500, .ref 0] (by rw [show ((nI t) + 1 : Int32) = nI (t + 1) from (am_ad rfl rfl)]) ?_
  refine am_dS16 hF hO [.int (A >>> (3 &&& 31)), .int (nI (t + 1))] [.int (nI l), .ref 507, .ref 506, .ref 505, .ref 504, .ref 464, .ref 503, .ref 502, .ref 501, .ref 500, .ref 0] (c_low (v := A >>> (3 &&& 31)) (m := t + 1) (by omega) (by omega)) myL_low syL_low lm_RL_131 rfl (k0 + 8) (n0 + 64) ⟨Nat.le_of_ble_eq_true rfl, Nat.le_of_ble_eq_true rfl⟩ ⟨Nat.le_refl _, Nat.le_refl _, by show _ ≤ 600104; omega, by show _ ≤ 7301313; omega⟩ rfl (am_lv_raw (am_lv_ref (hp_main _ _ _) (am_lv_ref (hp_a _ _ _ (f := 0) (by decide)) (am_lv_ref (hp_a _ _ _ (f := 1) (by decide)) (am_lv_ref (hp_a _ _ _ (f := 2) (by decide)) (am_lv_ref (hp_a _ _ _ (f := 3) (by decide)) (am_lv_ref (hp_o _ _ _) (am_lv_ref (hp_a _ _ _ (f := 4) (by decide)) (am_lv_ref (hp_a _ _ _ (f := 5) (by decide)) (am_lv_ref (hp_a _ _ _ (f := 6) (by decide)) (am_lv_ref (hp_a _ _ _ (f := 7) (by decide)) (am_lv_ref (hp_a _ _ _ (f := 8) (by decide)) (am_lv_int (am_lv_int (am_lv_int (am_lv_int (am_lv_ref (hp_a _ _ _ (f := 7) (by decide)) (am_lv_ref (hp_a _ _ _ (f := 6) (by decide)) (am_lv_ref (hp_a _ _ _ (f := 5) (by decide)) (am_lv_ref (hp_a _ _ _ (f := 4) (by decide)) (am_lv_ref (hp_o _ _ _) (am_lv_ref (hp_a _ _ _ (f := 3) (by decide)) (am_lv_ref (hp_a _ _ _ (f := 2) (by decide)) (am_lv_ref (hp_a _ _ _ (f := 1) (by decide)) (am_lv_ref (hp_a _ _ _ (f := 0) (by decide)) (am_lv_ref (hp_main _ _ _) am_lv_nil)))))))))))))))))))))))))) (Nat.le_of_ble_eq_true rfl) dL_law_2615 [.int (lLow (A >>> (3 &&& 31)) (t + 1)), .int (nI l), .ref 507, .ref 506, .ref 505, .ref 504, .ref 464, .ref 503, .ref 502, .ref 501, .ref 500, .ref 0] rfl ?_
  refine am_top (nI z1) ez1 ?_
  refine am_dS hF hO [.ref 0, .ref 500, .ref 501, .ref 502, .ref 503, .ref 464, .ref 504, .ref 505, .ref 506, .ref 507, .int (nI l), .int (nI z1)] [] (c_same h (by omega) hl (show z1 ≤ t by omega)) myL_same syL_same lm_RL_160 rfl (k0 + 8) (n0 + 64) ⟨Nat.le_of_ble_eq_true rfl, Nat.le_of_ble_eq_true rfl⟩ ⟨Nat.le_refl _, Nat.le_refl _, by show _ ≤ 600104; omega, by show _ ≤ 7301313; omega⟩ rfl (am_lv_raw (am_lv_ref (hp_main _ _ _) (am_lv_ref (hp_a _ _ _ (f := 0) (by decide)) (am_lv_ref (hp_a _ _ _ (f := 1) (by decide)) (am_lv_ref (hp_a _ _ _ (f := 2) (by decide)) (am_lv_ref (hp_a _ _ _ (f := 3) (by decide)) (am_lv_ref (hp_o _ _ _) (am_lv_ref (hp_a _ _ _ (f := 4) (by decide)) (am_lv_ref (hp_a _ _ _ (f := 5) (by decide)) (am_lv_ref (hp_a _ _ _ (f := 6) (by decide)) (am_lv_ref (hp_a _ _ _ (f := 7) (by decide)) (am_lv_ref (hp_a _ _ _ (f := 8) (by decide)) (am_lv_int (am_lv_int (am_lv_int am_lv_nil))))))))))))))) (Nat.le_of_ble_eq_true rfl) dL_law_2618 [.int 1] rfl ?_
  refine am_ifne hF 2626 dL_law_2621 (by decide) (fun _ => ?_) (fun h9 => False.elim (by revert h9; decide))
  refine am_drop [0, 1, 2, 3, 4, 5, 6, 7, 8, 9, 10, 11, 12] [(0, .retAddr b), (1, .ref 0), (2, .ref 500), (3, .ref 501), (4, .ref 502), (5, .ref 503), (6, .ref 464), (7, .ref 504), (8, .ref 505), (9, .ref 506), (10, .ref 507), (11, .ref 508), (12, .int (nI tn))] rfl ?_
  exact Kc _ _ _ _ _ _ _ h h91 (by omega)
