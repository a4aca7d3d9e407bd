def sgX6_isIn_0_7b09b : List Instr := [.iload_n 0, .iload_n 1]
theorem sgX6_isIn_0_7b09bd : am_dec cX6_isIn 0 sgX6_isIn_0_7b09b = true := by decide +kernel
theorem dX6_isIn_2 : decode cX6_isIn 2 = .ok (.if_icmp .lt 12, 3) := by decide +kernel
def sgX6_isIn_14_56c54 : List Instr := [.iconst 0]
theorem sgX6_isIn_14_56c54d : am_dec cX6_isIn 14 sgX6_isIn_14_56c54 = true := by decide +kernel
theorem dX6_isIn_15 : decode cX6_isIn 15 = .ok (.ireturn, 1) := by decide +kernel
def sgX6_isIn_5_69d2f : List Instr := [.iload_n 0, .iload_n 2]
theorem sgX6_isIn_5_69d2fd : am_dec cX6_isIn 5 sgX6_isIn_5_69d2f = true := by decide +kernel
theorem dX6_isIn_7 : decode cX6_isIn 7 = .ok (.if_icmp .gt 7, 3) := by decide +kernel
def sgX6_isIn_10_1c64c : List Instr := [.iconst 1, .goto 4]
theorem sgX6_isIn_10_1c64cd : am_dec cX6_isIn 10 sgX6_isIn_10_1c64c = true := by decide +kernel
def sgX6_within_0_432db : List Instr := [.iconst 1, .iload_n 1, .ishl, .istore_n 2, .iconst 0, .istore_n 3]
theorem sgX6_within_0_432dbd : am_dec cX6_within 0 sgX6_within_0_432db = true := by decide +kernel
def sgX6_within_6_e9d5b : List Instr := [.iload_n 3, .bipush 10]
theorem sgX6_within_6_e9d5bd : am_dec cX6_within 6 sgX6_within_6_e9d5b = true := by decide +kernel
theorem dX6_within_9 : decode cX6_within 9 = .ok (.if_icmp .ge 51, 3) := by decide +kernel
def sgX6_within_60_f8a59 : List Instr := [.iload_n 2]
theorem sgX6_within_60_f8a59d : am_dec cX6_within 60 sgX6_within_60_f8a59 = true := by decide +kernel
theorem dX6_within_61 : decode cX6_within 61 = .ok (.ireturn, 1) := by decide +kernel
def sgX6_within_12_b1161 : List Instr := [.iconst 0, .istore 4]
theorem sgX6_within_12_b1161d : am_dec cX6_within 12 sgX6_within_12_b1161 = true := by decide +kernel
def sgX6_within_15_49a24 : List Instr := [.iload 4, .aload_n 0]
theorem sgX6_within_15_49a24d : am_dec cX6_within 15 sgX6_within_15_49a24 = true := by decide +kernel
theorem dX6_within_18 : decode cX6_within 18 = .ok (.getfield 112, 3) := by decide +kernel
theorem dX6_within_21 : decode cX6_within 21 = .ok (.if_icmp .ge 33, 3) := by decide +kernel
def sgX6_within_54_efa23 : List Instr := [.iinc 3 1, .goto (-51)]
theorem sgX6_within_54_efa23d : am_dec cX6_within 54 sgX6_within_54_efa23 = true := by decide +kernel
def sgX6_within_24_b6d33 : List Instr := [.iload_n 2, .iload_n 2, .iload 4, .ishr, .iconst 1, .iand, .iconst 1]
theorem sgX6_within_24_b6d33d : am_dec cX6_within 24 sgX6_within_24_b6d33 = true := by decide +kernel
theorem dX6_within_32 : decode cX6_within 32 = .ok (.if_icmp .ne 13, 3) := by decide +kernel
def sgX6_within_45_f7219 : List Instr := [.iconst 0, .ior, .istore_n 2, .iinc 4 1, .goto (-36)]
theorem sgX6_within_45_f7219d : am_dec cX6_within 45 sgX6_within_45_f7219 = true := by decide +kernel
def sgX6_within_35_34db8 : List Instr := [.aload_n 0]
theorem sgX6_within_35_34db8d : am_dec cX6_within 35 sgX6_within_35_34db8 = true := by decide +kernel
theorem dX6_within_36 : decode cX6_within 36 = .ok (.getfield 44, 3) := by decide +kernel
def sgX6_within_39_c6742 : List Instr := [.iload 4]
theorem sgX6_within_39_c6742d : am_dec cX6_within 39 sgX6_within_39_c6742 = true := by decide +kernel
theorem dX6_within_41 : decode cX6_within 41 = .ok (.iaload, 1) := by decide +kernel
def sgX6_within_42_892cf : List Instr := [.goto 4, .ior, .istore_n 2, .iinc 4 1, .goto (-36)]
theorem sgX6_within_42_892cfd : am_dec cX6_within 42 sgX6_within_42_892cf = true := by decide +kernel
theorem nc_lt {x y : Int32} {a b : Nat} (h : a < b) (ha : a < 2 ^ 31) (hb : b < 2 ^ 31) (hx : x = nI a) (hy : y = nI b) : x < y := by rw [hx, hy]; exact nI_lt h hb
theorem nc_ge {x y : Int32} {a b : Nat} (h : b ≤ a) (ha : a < 2 ^ 31) (hb : b < 2 ^ 31) (hx : x = nI a) (hy : y = nI b) : y ≤ x := by rw [hx, hy]; exact nI_le h ha
theorem nc_gt {x y : Int32} {a b : Nat} (h : b < a) (ha : a < 2 ^ 31) (hb : b < 2 ^ 31) (hx : x = nI a) (hy : y = nI b) : y < x := by rw [hx, hy]; exact nI_lt h ha
theorem nc_le {x y : Int32} {a b : Nat} (h : a ≤ b) (ha : a < 2 ^ 31) (hb : b < 2 ^ 31) (hx : x = nI a) (hy : y = nI b) : x ≤ y := by rw [hx, hy]; exact nI_le h hb
theorem nc_eq {x y : Int32} {a b : Nat} (h : a = b) (ha : a < 2 ^ 31) (hb : b < 2 ^ 31) (hx : x = nI a) (hy : y = nI b) : x = y := by rw [hx, hy, h]
theorem nc_ne {x y : Int32} {a b : Nat} (h : a ≠ b) (ha : a < 2 ^ 31) (hb : b < 2 ^ 31) (hx : x = nI a) (hy : y = nI b) : ¬ x = y := by rw [hx, hy]; exact fun e => h ((nI_eq ha hb).mp e)
theorem nc_lt_f {x y : Int32} {a b : Nat} (h : a < b) (ha : a < 2 ^ 31) (hb : b < 2 ^ 31) (hx : x = nI a) (hy : y = nI b) (h9 : y ≤ x) : False := by rw [hx, hy] at h9; exact nI_ge h hb h9
theorem nc_ge_f {x y : Int32} {a b : Nat} (h : b ≤ a) (ha : a < 2 ^ 31) (hb : b < 2 ^ 31) (hx : x = nI a) (hy : y = nI b) (h9 : x < y) : False := by rw [hx, hy] at h9; exact nI_nlt h ha h9
theorem nc_gt_f {x y : Int32} {a b : Nat} (h : b < a) (ha : a < 2 ^ 31) (hb : b < 2 ^ 31) (hx : x = nI a) (hy : y = nI b) (h9 : x ≤ y) : False := by rw [hx, hy] at h9; exact nI_ge h ha h9
theorem nc_le_f {x y : Int32} {a b : Nat} (h : a ≤ b) (ha : a < 2 ^ 31) (hb : b < 2 ^ 31) (hx : x = nI a) (hy : y = nI b) (h9 : y < x) : False := by rw [hx, hy] at h9; exact nI_nlt h hb h9
theorem nc_eq_f {x y : Int32} {a b : Nat} (h : a = b) (ha : a < 2 ^ 31) (hb : b < 2 ^ 31) (hx : x = nI a) (hy : y = nI b) (h9 : ¬ x = y) : False := by rw [hx, hy, h] at h9; exact h9 rfl
theorem nc_ne_f {x y : Int32} {a b : Nat} (h : a ≠ b) (ha : a < 2 ^ 31) (hb : b < 2 ^ 31) (hx : x = nI a) (hy : y = nI b) (h9 : x = y) : False := by rw [hx, hy] at h9; exact h ((nI_eq ha hb).mp h9)
/-- the list and all that is in it, as the reference finds it -/
def rw1 (S : am_T) (k : Nat) (s : Int32) : Int32 := s ||| (if (s >>> (nI k &&& 31)) &&& 1 = 1 then S 15 k else 0)
def rWin (S : am_T) (n l : Nat) : Int32 := itN (fun _ s => itN (rw1 S) s n) ((1 : Int32) <<< (nI l &&& 31)) 10
set_option maxRecDepth 100000 in
set_option maxHeartbeats 4000000 in
theorem c_isIn {G : am_S} {X : am_H} {x lo hi : Int32} : am_D G yX6_isIn (.code yX6_isIn cX6_isIn 3 (some .boolean) :: am_G) { frames := 0, cells := 0, slots := 0, locals := 0 } X [.int x, .int lo, .int hi] X (some (.int (if x < lo then 0 else if hi < x then 0 else 1))) := by
  refine am_of (by decide +kernel) (Nat.le_of_ble_eq_true rfl) ?_
  intro C hse hret hname hF hO
  subst hse
  refine am_go hF sgX6_isIn_0_7b09b 2 [(0, .int x), (1, .int lo), (2, .int hi)] [.int lo, .int x] sgX6_isIn_0_7b09bd rfl ?_
  refine am_icmplt hF 14 dX6_isIn_2 (by decide) (fun c1 => ?_) (fun c1 => ?_)
  · skip
    refine am_go hF sgX6_isIn_14_56c54 15 [(0, .int x), (1, .int lo), (2, .int hi)] [.int 0] sgX6_isIn_14_56c54d rfl ?_
    exact am_iret hF hO hret rfl dX6_isIn_15 ⟨rfl, by simp only [c1, ↓reduceIte]⟩
  · skip
    refine am_go hF sgX6_isIn_5_69d2f 7 [(0, .int x), (1, .int lo), (2, .int hi)] [.int hi, .int x] sgX6_isIn_5_69d2fd rfl ?_
    refine am_icmpgt hF 14 dX6_isIn_7 (by decide) (fun c2 => ?_) (fun c2 => ?_)
    · skip
      refine am_go hF sgX6_isIn_14_56c54 15 [(0, .int x), (1, .int lo), (2, .int hi)] [.int 0] sgX6_isIn_14_56c54d rfl ?_
      exact am_iret hF hO hret rfl dX6_isIn_15 ⟨rfl, by simp only [c1, c2, ↓reduceIte]⟩
    · skip
      refine am_go hF sgX6_isIn_10_1c64c 15 [(0, .int x), (1, .int lo), (2, .int hi)] [.int 1] sgX6_isIn_10_1c64cd rfl ?_
      exact am_iret hF hO hret rfl dX6_isIn_15 ⟨rfl, by simp only [c1, c2, ↓reduceIte]⟩
set_option maxRecDepth 100000 in
set_option maxHeartbeats 4000000 in
theorem c_within {G : am_S} {T S : am_T} {o : Nat → Int64} {n l : Nat} (hn : S 9 0 = nI n) (hn10 : n ≤ 10) (hl : l < n) : am_D G yX6_within (.code yX6_within cX6_within 5 (some .int) :: am_G) { frames := 0, cells := 0, slots := 0, locals := 0 } (hp T S o) [.ref 465, .int (nI l)] (hp T S o) (some (.int (rWin S n l))) := by
  refine am_of (by decide +kernel) (Nat.le_of_ble_eq_true rfl) ?_
  intro C hse hret hname hF hO
  subst hse
  refine am_go hF sgX6_within_0_432db 6 [(3, .int 0), (2, .int (1 <<< ((nI l) &&& 31))), (0, .ref 465), (1, .int (nI l))] [] sgX6_within_0_432dbd rfl ?_
  refine am_drop [2, 3, 1, 0] [(0, .ref 465), (1, .int (nI l)), (2, .int (1 <<< ((nI l) &&& 31))), (3, .int 0)] rfl ?_
  have lp6 : ∀ (dr r : Nat) (a : Int32), r + dr = 10 → a = itN (fun _ s => itN (rw1 S) s n) ((1 : Int32) <<< (nI l &&& 31)) r → am_W C (hp T S o) 0 0 6 [(0, .ref 465), (1, .int (nI l)), (2, .int a), (3, .int (nI r))] [] := by
    intro dr
    induction dr with
    | zero =>
      intro r a hr ha
      have e9r : r = 10 := by omega
      refine am_go hF sgX6_within_6_e9d5b 9 [(0, .ref 465), (1, .int (nI l)), (2, .int a), (3, .int (nI r))] [.int 10, .int (nI r)] sgX6_within_6_e9d5bd rfl ?_
      refine am_icmpge hF 60 dX6_within_9 (by decide) (fun _ => ?_) (fun h9 => False.elim (absurd (nc_ge (show 10 ≤ r by omega) (by omega) (by omega) rfl rfl) h9))
      refine am_go hF sgX6_within_60_f8a59 61 [(0, .ref 465), (1, .int (nI l)), (2, .int a), (3, .int (nI r))] [.int a] sgX6_within_60_f8a59d rfl ?_
      exact am_iret hF hO hret rfl dX6_within_61 ⟨rfl, (by first | (rw [ha, e9r]; done) | (rw [ha, e9r]; rfl))⟩
    | succ dr ih6 =>
      intro r a hr ha
      have l9r : r < 10 := by omega
      refine am_go hF sgX6_within_6_e9d5b 9 [(0, .ref 465), (1, .int (nI l)), (2, .int a), (3, .int (nI r))] [.int 10, .int (nI r)] sgX6_within_6_e9d5bd rfl ?_
      refine am_icmpge hF 60 dX6_within_9 (by decide) (fun h9 => False.elim (nc_lt_f (show r < 10 by omega) (by omega) (by omega) rfl rfl h9)) (fun _ => ?_)
      refine am_go hF sgX6_within_12_b1161 15 [(4, .int 0), (0, .ref 465), (1, .int (nI l)), (2, .int a), (3, .int (nI r))] [] sgX6_within_12_b1161d rfl ?_
      refine am_drop [1, 2, 3, 4, 0] [(0, .ref 465), (1, .int (nI l)), (2, .int a), (3, .int (nI r)), (4, .int 0)] rfl ?_
      have lp15 : ∀ (dj j : Nat) (b : Int32), j + dj = n → b = itN (rw1 S) a j → am_W C (hp T S o) 0 0 15 [(0, .ref 465), (1, .int (nI l)), (2, .int b), (3, .int (nI r)), (4, .int (nI j))] [] := by
        intro dj
        induction dj with
        | zero =>
          intro j b hj hb
          have e9j : j = n := by omega
          refine am_go hF sgX6_within_15_49a24 18 [(0, .ref 465), (1, .int (nI l)), (2, .int b), (3, .int (nI r)), (4, .int (nI j))] [.ref 465, .int (nI j)] sgX6_within_15_49a24d rfl ?_
          refine sv_get hF 9 (by decide) rfl lf_RX6_112 (.int (S 9 0)) rfl dX6_within_18 ?_
          refine am_top (nI n) hn ?_
          refine am_icmpge hF 54 dX6_within_21 (by decide) (fun _ => ?_) (fun h9 => False.elim (absurd (nc_ge (show n ≤ j by omega) (by omega) (by omega) rfl rfl) h9))
          refine am_go hF sgX6_within_54_efa23 6 [(3, .int ((nI r) + 1)), (0, .ref 465), (1, .int (nI l)), (2, .int b), (4, .int (nI j))] [] sgX6_within_54_efa23d rfl ?_
          refine am_drop [1, 2, 3, 0] [(0, .ref 465), (1, .int (nI l)), (2, .int b), (3, .int ((nI r) + 1))] rfl ?_
          refine am_eqL [(0, .ref 465), (1, .int (nI l)), (2, .int b), (3, .int (nI (r + 1)))] (by rw [nI_1]) ?_
          exact ih6 (r + 1) b (by omega) (by first | (rw [hb, e9j, ha]; done) | (rw [hb, e9j, ha]; rfl))
        | succ dj ih15 =>
          intro j b hj hb
          have l9j : j < n := by omega
          refine am_go hF sgX6_within_15_49a24 18 [(0, .ref 465), (1, .int (nI l)), (2, .int b), (3, .int (nI r)), (4, .int (nI j))] [.ref 465, .int (nI j)] sgX6_within_15_49a24d rfl ?_
          refine sv_get hF 9 (by decide) rfl lf_RX6_112 (.int (S 9 0)) rfl dX6_within_18 ?_
          refine am_top (nI n) hn ?_
          refine am_icmpge hF 54 dX6_within_21 (by decide) (fun h9 => False.elim (nc_lt_f (show j < n by omega) (by omega) (by omega) rfl rfl h9)) (fun _ => ?_)
          refine am_go hF sgX6_within_24_b6d33 32 [(0, .ref 465), (1, .int (nI l)), (2, .int b), (3, .int (nI r)), (4, .int (nI j))] [.int 1, .int ((b >>> ((nI j) &&& 31)) &&& 1), .int b] sgX6_within_24_b6d33d rfl ?_
          refine am_icmpne hF 45 dX6_within_32 (by decide) (fun c5 => ?_) (fun c5 => ?_)
          · skip
            refine am_go hF sgX6_within_45_f7219 15 [(4, .int ((nI j) + 1)), (2, .int (b ||| 0)), (0, .ref 465), (1, .int (nI l)), (3, .int (nI r))] [] sgX6_within_45_f7219d rfl ?_
            refine am_drop [2, 3, 1, 4, 0] [(0, .ref 465), (1, .int (nI l)), (2, .int (b ||| 0)), (3, .int (nI r)), (4, .int ((nI j) + 1))] rfl ?_
            refine am_eqL [(0, .ref 465), (1, .int (nI l)), (2, .int (b ||| 0)), (3, .int (nI r)), (4, .int (nI (j + 1)))] (by rw [nI_1]) ?_
            exact ih15 (j + 1) (b ||| 0) (by omega) (by show _ = rw1 S j (itN (rw1 S) a j); rw [← hb]; simp only [rw1, c5, ↓reduceIte])
          · skip
            refine am_go hF sgX6_within_35_34db8 36 [(0, .ref 465), (1, .int (nI l)), (2, .int b), (3, .int (nI r)), (4, .int (nI j))] [.ref 465, .int b] sgX6_within_35_34db8d rfl ?_
            refine sv_get hF 15 (by decide) rfl lf_RX6_44 (.ref 515) rfl dX6_within_36 ?_
            refine am_go hF sgX6_within_39_c6742 41 [(0, .ref 465), (1, .int (nI l)), (2, .int b), (3, .int (nI r)), (4, .int (nI j))] [.int (nI j), .ref 515, .int b] sgX6_within_39_c6742d rfl ?_
            refine sv_iald hF 15 (by decide) ⟨rfl, rfl, by decide⟩ j rfl (show j < 10 by omega) dX6_within_41 ?_
            refine am_go hF sgX6_within_42_892cf 15 [(4, .int ((nI j) + 1)), (2, .int (b ||| (S 15 j))), (0, .ref 465), (1, .int (nI l)), (3, .int (nI r))] [] sgX6_within_42_892cfd rfl ?_
            refine am_drop [2, 3, 1, 4, 0] [(0, .ref 465), (1, .int (nI l)), (2, .int (b ||| (S 15 j))), (3, .int (nI r)), (4, .int ((nI j) + 1))] rfl ?_
            refine am_eqL [(0, .ref 465), (1, .int (nI l)), (2, .int (b ||| (S 15 j))), (3, .int (nI r)), (4, .int (nI (j + 1)))] (by rw [nI_1]) ?_
            exact ih15 (j + 1) (b ||| (S 15 j)) (by omega) (by show _ = rw1 S j (itN (rw1 S) a j); rw [← hb]; simp only [rw1, (eq_true c5), ↓reduceIte])
      exact lp15 n 0 a (by omega) rfl
  exact lp6 10 0 (1 <<< ((nI l) &&& 31)) (by omega) rfl
