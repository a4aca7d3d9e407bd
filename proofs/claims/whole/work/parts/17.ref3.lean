/-- what the reference's rows hold, as far as its indices need it -/
def rAll (S : am_T) (n m : Nat) : Prop := S 9 0 = nI n ∧ n ≤ 10 ∧ S 17 0 = nI m ∧ m ≤ 80 ∧ (∀ q, q < 16 → ∃ b, b ≤ 10 ∧ S 7 q = nI b) ∧ ∀ k, k < m → (∃ p, p < 16 ∧ S 18 k = nI p) ∧ (∃ l, l < n ∧ S 19 k = nI l) ∧ ∃ d, d ≤ 400 ∧ S 20 k = nI d
theorem rAll_eq {S S1 : am_T} {n m : Nat} (h : rAll S n m) (h9 : S1 9 = S 9) (h17 : S1 17 = S 17) (h7 : S1 7 = S 7) (h18 : S1 18 = S 18) (h19 : S1 19 = S 19) (h20 : S1 20 = S 20) : rAll S1 n m := by
  unfold rAll
  rw [h9, h17, h7, h18, h19, h20]
  exact h
theorem rAll_st {S : am_T} {n m : Nat} (h : rAll S n m) {f : Nat} (hf : 9 ≠ f ∧ 17 ≠ f ∧ 7 ≠ f ∧ 18 ≠ f ∧ 19 ≠ f ∧ 20 ≠ f) (j : Nat) (v : Int32) : rAll (st1 S f j v) n m :=
  rAll_eq h (st1_f hf.1) (st1_f hf.2.1) (st1_f hf.2.2.1) (st1_f hf.2.2.2.1) (st1_f hf.2.2.2.2.1) (st1_f hf.2.2.2.2.2)
theorem rAll_safe {S : am_T} {n m k : Nat} (h : rAll S n m) (hk : k < m) : ∃ l d, rSafe S n k l d := by
  obtain ⟨h1, h2, h3, h4, h5, h6⟩ := h
  obtain ⟨-, ⟨l, hl, e1⟩, d, hd, e2⟩ := h6 k hk
  exact ⟨l, d, h1, h2, hl, by omega, e1, e2, hd, h5⟩
theorem rAll_ps {S : am_T} {n m k l q : Nat} {set : Int32} (h : rAll S n m) (hq : q < 16) : rAll (rps n l k set q S) n m := by
  obtain ⟨h1, h2, h3, h4, h5, h6⟩ := h
  refine ⟨?_, h2, ?_, h4, rps_7 h5 hq, fun i hi => ?_⟩
  · rw [rps_f (by decide)]; exact h1
  · rw [rps_f (by decide)]; exact h3
  · rw [rps_f (by decide), rps_f (by decide), rps_f (by decide)]; exact h6 i hi
theorem rAll_pass {S : am_T} {n m k l : Nat} (h : rAll S n m) : rAll (rPass S n k l) n m := by
  have : ∀ j, j ≤ 16 → rAll (itN (rps n l k (rRe (st1 S 24 k 0) n l)) (st1 S 24 k 0) j) n m := by
    intro j
    induction j with
    | zero => intro _; exact rAll_st h (by decide) _ _
    | succ j ih => intro hj; exact rAll_ps (ih (by omega)) (by omega)
  exact this 16 (Nat.le_refl _)
def rcl (n c k : Nat) (S : am_T) : am_T := if nI k = nI c ∨ (S 18 k = S 18 c ∧ S 24 k = 1 ∧ S 23 k = 2) then rPass (st1 S 27 k 0) n k (S 19 k).toNatClampNeg else S
def rClear (S : am_T) (n m c : Nat) : am_T := itN (rcl n c) (st1 S 4 (S 18 c).toNatClampNeg (-10)) m
theorem rcl_all {S : am_T} {n m c : Nat} (h : rAll S n m) : ∀ j, rAll (itN (rcl n c) S j) n m := by
  intro j
  induction j with
  | zero => exact h
  | succ j ih =>
    show rAll (rcl n c j _) n m
    unfold rcl
    split
    · exact rAll_pass (rAll_st ih (by decide) _ _)
    · exact ih
def rn1 (t k : Nat) (S : am_T) : am_T := st1 S 33 (401 * k + t) (if S 32 (401 * k + t) = 0 then 0 else 1)
def rn2 (k : Nat) (x : am_T × Int32) : am_T × Int32 := if x.1 24 k = 1 ∧ x.1 21 k = x.1 1 0 ∧ x.1 27 k = 0 then (st1 x.1 24 k 2, x.2 + 1) else x
def rNext0 (S : am_T) (n t : Nat) : am_T := st1 (itN (rn1 t) S n) 1 0 (nI t + 1)
def rNext (S : am_T) (n m t : Nat) : am_T × Int32 := itN rn2 (rNext0 S n t, 0) m
theorem rn2_f (g : Nat) (hg : g ≠ 24) (x : am_T × Int32) : ∀ j, (itN rn2 x j).1 g = x.1 g := by
  intro j
  induction j with
  | zero => rfl
  | succ j ih =>
    show (rn2 j _).1 g = _
    unfold rn2
    split
    · exact (st1_f hg).trans ih
    · exact ih
theorem rn2_s {j : Nat} {x : am_T × Int32} {S1 : am_T} {a : Int32} (hS : S1 = (itN rn2 x j).1) (ha : a = (itN rn2 x j).2) : itN rn2 x j = (S1, a) := by rw [hS, ha]
theorem rn2_1 {j : Nat} {x : am_T × Int32} {S1 : am_T} {a : Int32} (hS : S1 = (itN rn2 x j).1) (ha : a = (itN rn2 x j).2) (h : S1 24 j = 1 ∧ S1 21 j = S1 1 0 ∧ S1 27 j = 0) : st1 S1 24 j 2 = (itN rn2 x (j + 1)).1 ∧ a + 1 = (itN rn2 x (j + 1)).2 := by
  show _ = (rn2 j (itN rn2 x j)).1 ∧ _ = (rn2 j (itN rn2 x j)).2
  rw [rn2_s hS ha]
  unfold rn2
  rw [if_pos h]
  exact ⟨rfl, rfl⟩
theorem rn2_0 {j : Nat} {x : am_T × Int32} {S1 : am_T} {a : Int32} (hS : S1 = (itN rn2 x j).1) (ha : a = (itN rn2 x j).2) (h : ¬ (S1 24 j = 1 ∧ S1 21 j = S1 1 0 ∧ S1 27 j = 0)) : S1 = (itN rn2 x (j + 1)).1 ∧ a = (itN rn2 x (j + 1)).2 := by
  show _ = (rn2 j (itN rn2 x j)).1 ∧ _ = (rn2 j (itN rn2 x j)).2
  rw [rn2_s hS ha]
  unfold rn2
  rw [if_neg h]
  exact ⟨rfl, rfl⟩
theorem cl_ne {a b : Nat} (h : ¬ nI a = nI b) : ¬ a = b := fun e => h (by rw [e])
def sgX6_passes_0_34db8 : List Instr := [.aload_n 0]
theorem sgX6_passes_0_34db8d : am_dec cX6_passes 0 sgX6_passes_0_34db8 = true := by decide +kernel
theorem dX6_passes_1 : decode cX6_passes 1 = .ok (.getfield 68, 3) := by decide +kernel
def sgX6_passes_4_cd6b4 : List Instr := [.iload_n 1, .iconst 0]
theorem sgX6_passes_4_cd6b4d : am_dec cX6_passes 4 sgX6_passes_4_cd6b4 = true := by decide +kernel
theorem dX6_passes_6 : decode cX6_passes 6 = .ok (.iastore, 1) := by decide +kernel
def sgX6_passes_7_c81f7 : List Instr := [.aload_n 0, .aload_n 0]
theorem sgX6_passes_7_c81f7d : am_dec cX6_passes 7 sgX6_passes_7_c81f7 = true := by decide +kernel
theorem dX6_passes_9 : decode cX6_passes 9 = .ok (.getfield 53, 3) := by decide +kernel
def sgX6_passes_12_840bf : List Instr := [.iload_n 1]
theorem sgX6_passes_12_840bfd : am_dec cX6_passes 12 sgX6_passes_12_840bf = true := by decide +kernel
theorem dX6_passes_13 : decode cX6_passes 13 = .ok (.iaload, 1) := by decide +kernel
theorem dX6_passes_14 : decode cX6_passes 14 = .ok (.invokevirtual 136, 3) := by decide +kernel
def sgX6_passes_17_7e279 : List Instr := [.istore_n 2, .iconst 0, .istore_n 3]
theorem sgX6_passes_17_7e279d : am_dec cX6_passes 17 sgX6_passes_17_7e279 = true := by decide +kernel
def sgX6_passes_20_b88ad : List Instr := [.iload_n 3, .bipush 16]
theorem sgX6_passes_20_b88add : am_dec cX6_passes 20 sgX6_passes_20_b88ad = true := by decide +kernel
theorem dX6_passes_23 : decode cX6_passes 23 = .ok (.if_icmp .ge 69, 3) := by decide +kernel
theorem dX6_passes_92 : decode cX6_passes 92 = .ok (.return_, 1) := by decide +kernel
def sgX6_passes_26_a1b5b : List Instr := [.iload_n 3, .aload_n 0]
theorem sgX6_passes_26_a1b5bd : am_dec cX6_passes 26 sgX6_passes_26_a1b5b = true := by decide +kernel
theorem dX6_passes_28 : decode cX6_passes 28 = .ok (.getfield 50, 3) := by decide +kernel
def sgX6_passes_31_840bf : List Instr := [.iload_n 1]
theorem sgX6_passes_31_840bfd : am_dec cX6_passes 31 sgX6_passes_31_840bf = true := by decide +kernel
theorem dX6_passes_32 : decode cX6_passes 32 = .ok (.iaload, 1) := by decide +kernel
theorem dX6_passes_33 : decode cX6_passes 33 = .ok (.if_icmp .eq 53, 3) := by decide +kernel
def sgX6_passes_86_49337 : List Instr := [.iinc 3 1, .goto (-69)]
theorem sgX6_passes_86_49337d : am_dec cX6_passes 86 sgX6_passes_86_49337 = true := by decide +kernel
def sgX6_passes_36_5906e : List Instr := [.iload_n 2, .iload_n 3, .ishr, .iconst 1, .iand, .iconst 1]
theorem sgX6_passes_36_5906ed : am_dec cX6_passes 36 sgX6_passes_36_5906e = true := by decide +kernel
theorem dX6_passes_42 : decode cX6_passes 42 = .ok (.if_icmp .ne 44, 3) := by decide +kernel
def sgX6_passes_45_c81f7 : List Instr := [.aload_n 0, .aload_n 0]
theorem sgX6_passes_45_c81f7d : am_dec cX6_passes 45 sgX6_passes_45_c81f7 = true := by decide +kernel
theorem dX6_passes_47 : decode cX6_passes 47 = .ok (.getfield 53, 3) := by decide +kernel
def sgX6_passes_50_840bf : List Instr := [.iload_n 1]
theorem sgX6_passes_50_840bfd : am_dec cX6_passes 50 sgX6_passes_50_840bf = true := by decide +kernel
theorem dX6_passes_51 : decode cX6_passes 51 = .ok (.iaload, 1) := by decide +kernel
def sgX6_passes_52_13b50 : List Instr := [.iload_n 3]
theorem sgX6_passes_52_13b50d : am_dec cX6_passes 52 sgX6_passes_52_13b50 = true := by decide +kernel
theorem dX6_passes_53 : decode cX6_passes 53 = .ok (.invokevirtual 139, 3) := by decide +kernel
theorem dX6_passes_56 : decode cX6_passes 56 = .ok (.ifCond .ne 12, 3) := by decide +kernel
def sgX6_passes_68_716ad : List Instr := [.aload_n 0, .iload_n 1, .aload_n 0, .aload_n 0]
theorem sgX6_passes_68_716add : am_dec cX6_passes 68 sgX6_passes_68_716ad = true := by decide +kernel
theorem dX6_passes_72 : decode cX6_passes 72 = .ok (.getfield 53, 3) := by decide +kernel
def sgX6_passes_75_840bf : List Instr := [.iload_n 1]
theorem sgX6_passes_75_840bfd : am_dec cX6_passes 75 sgX6_passes_75_840bf = true := by decide +kernel
theorem dX6_passes_76 : decode cX6_passes 76 = .ok (.iaload, 1) := by decide +kernel
def sgX6_passes_77_8324a : List Instr := [.iload_n 3, .iconst (-1)]
theorem sgX6_passes_77_8324ad : am_dec cX6_passes 77 sgX6_passes_77_8324a = true := by decide +kernel
theorem dX6_passes_79 : decode cX6_passes 79 = .ok (.invokevirtual 132, 3) := by decide +kernel
def sgX6_passes_82_13b50 : List Instr := [.iload_n 3]
theorem sgX6_passes_82_13b50d : am_dec cX6_passes 82 sgX6_passes_82_13b50 = true := by decide +kernel
theorem dX6_passes_83 : decode cX6_passes 83 = .ok (.invokevirtual 157, 3) := by decide +kernel
def sgX6_passes_59_5abed : List Instr := [.aload_n 0, .iload_n 1, .iload_n 3]
theorem sgX6_passes_59_5abedd : am_dec cX6_passes 59 sgX6_passes_59_5abed = true := by decide +kernel
theorem dX6_passes_62 : decode cX6_passes 62 = .ok (.invokevirtual 153, 3) := by decide +kernel
def sgX6_passes_65_96386 : List Instr := [.goto 21, .iinc 3 1, .goto (-69)]
theorem sgX6_passes_65_96386d : am_dec cX6_passes 65 sgX6_passes_65_96386 = true := by decide +kernel
set_option maxRecDepth 100000 in
set_option maxHeartbeats 4000000 in
theorem c_isIn_t {G : am_S} {X : am_H} {x lo hi : Int32} (h1 : ¬ x < lo) (h2 : ¬ hi < x) : am_D G yX6_isIn (.code yX6_isIn cX6_isIn 3 (some .boolean) :: am_G) { frames := 0, cells := 0, slots := 0, locals := 0 } X [.int x, .int lo, .int hi] X (some (.int 1)) := by
  refine am_of (by decide +kernel) (Nat.le_of_ble_eq_true rfl) ?_
  intro C hse hret hname hF hO
  subst hse
  refine am_go hF sgX6_isIn_0_7b09b 2 [(0, .int x), (1, .int lo), (2, .int hi)] [.int lo, .int x] sgX6_isIn_0_7b09bd rfl ?_
  refine am_icmplt hF 14 dX6_isIn_2 (by decide) (fun h9 => False.elim (absurd h9 h1)) (fun _ => ?_)
  refine am_go hF sgX6_isIn_5_69d2f 7 [(0, .int x), (1, .int lo), (2, .int hi)] [.int hi, .int x] sgX6_isIn_5_69d2fd rfl ?_
  refine am_icmpgt hF 14 dX6_isIn_7 (by decide) (fun h9 => False.elim (absurd h9 h2)) (fun _ => ?_)
  refine am_go hF sgX6_isIn_10_1c64c 15 [(0, .int x), (1, .int lo), (2, .int hi)] [.int 1] sgX6_isIn_10_1c64cd rfl ?_
  exact am_iret hF hO hret rfl dX6_isIn_15 ⟨rfl, rfl⟩
set_option maxRecDepth 100000 in
set_option maxHeartbeats 4000000 in
theorem c_isIn_f {G : am_S} {X : am_H} {x lo hi : Int32} (h : x < lo ∨ hi < x) : am_D G yX6_isIn (.code yX6_isIn cX6_isIn 3 (some .boolean) :: am_G) { frames := 0, cells := 0, slots := 0, locals := 0 } X [.int x, .int lo, .int hi] X (some (.int 0)) := by
  refine am_of (by decide +kernel) (Nat.le_of_ble_eq_true rfl) ?_
  intro C hse hret hname hF hO
  subst hse
  refine am_go hF sgX6_isIn_0_7b09b 2 [(0, .int x), (1, .int lo), (2, .int hi)] [.int lo, .int x] sgX6_isIn_0_7b09bd rfl ?_
  refine am_icmplt hF 14 dX6_isIn_2 (by decide) (fun c1 => ?_) (fun c1 => ?_)
  · skip
    refine am_go hF sgX6_isIn_14_56c54 15 [(0, .int x), (1, .int lo), (2, .int hi)] [.int 0] sgX6_isIn_14_56c54d rfl ?_
    exact am_iret hF hO hret rfl dX6_isIn_15 ⟨rfl, rfl⟩
  · skip
    refine am_go hF sgX6_isIn_5_69d2f 7 [(0, .int x), (1, .int lo), (2, .int hi)] [.int hi, .int x] sgX6_isIn_5_69d2fd rfl ?_
    refine am_icmpgt hF 14 dX6_isIn_7 (by decide) (fun c2 => ?_) (fun c2 => ?_)
    · skip
      refine am_go hF sgX6_isIn_14_56c54 15 [(0, .int x), (1, .int lo), (2, .int hi)] [.int 0] sgX6_isIn_14_56c54d rfl ?_
      exact am_iret hF hO hret rfl dX6_isIn_15 ⟨rfl, rfl⟩
    · skip
      refine am_go hF sgX6_isIn_10_1c64c 15 [(0, .int x), (1, .int lo), (2, .int hi)] [.int 1] sgX6_isIn_10_1c64cd rfl ?_
      exact am_iret hF hO hret rfl dX6_isIn_15 (False.elim (by rcases h with h | h; exact c1 h; exact c2 h))
set_option maxRecDepth 100000 in
set_option maxHeartbeats 4000000 in
theorem c_passes {G : am_S} {T S : am_T} {o : Nat → Int64} {n k l d : Nat} (hs : rSafe S n k l d) : am_D G yX6_passes (.code yX6_passes cX6_passes 4 none :: am_G) { frames := 3, cells := 0, slots := 0, locals := 75 } (hp T S o) [.ref 465, .int (nI k)] (hp T (rPass S n k l) o) none := by
  refine am_of (by decide +kernel) (Nat.le_of_ble_eq_true rfl) ?_
  intro C hse hret hname hF hO
  subst hse
  have hs0 : rSafe (st1 S 24 k 0) n k l d := hs
  have hn10 := hs.2.1
  have hl9 := hs.2.2.1
  refine am_go hF sgX6_passes_0_34db8 1 [(0, .ref 465), (1, .int (nI k))] [.ref 465] sgX6_passes_0_34db8d rfl ?_
  refine sv_get hF 24 (by decide) rfl lf_RX6_68 (.ref 524) rfl dX6_passes_1 ?_
  refine am_go hF sgX6_passes_4_cd6b4 6 [(0, .ref 465), (1, .int (nI k))] [.int 0, .int (nI k), .ref 524] sgX6_passes_4_cd6b4d rfl ?_
  refine sv_iast hF 24 (by decide) ⟨rfl, rfl, by decide⟩ k rfl (show k < 80 from hs.2.2.2.1) dX6_passes_6 ?_
  refine am_go hF sgX6_passes_7_c81f7 9 [(0, .ref 465), (1, .int (nI k))] [.ref 465, .ref 465] sgX6_passes_7_c81f7d rfl ?_
  refine sv_get hF 19 (by decide) rfl lf_RX6_53 (.ref 519) rfl dX6_passes_9 ?_
  refine am_go hF sgX6_passes_12_840bf 13 [(0, .ref 465), (1, .int (nI k))] [.int (nI k), .ref 519, .ref 465] sgX6_passes_12_840bfd rfl ?_
  refine sv_iald hF 19 (by decide) ⟨rfl, rfl, by decide⟩ k rfl (show k < 80 from hs.2.2.2.1) dX6_passes_13 ?_
  refine am_top (nI l) hs.2.2.2.2.1 ?_
  refine am_dV hF hO [.int (nI l)] [] (c_reachesOf (S := (st1 S 24 k 0)) hs.1 hs.2.1 hs.2.2.1) myX6_reachesOf vyX6_reachesOf lm_RX6_136 (hp_m _ _ _) rfl rfl 0 0 ⟨Nat.le_of_ble_eq_true rfl, Nat.le_of_ble_eq_true rfl⟩ ⟨Nat.le_of_ble_eq_true rfl, Nat.le_of_ble_eq_true rfl, Nat.le_of_ble_eq_true rfl, Nat.le_of_ble_eq_true rfl⟩ rfl (am_lv_ref (hp_m _ _ _) (am_lv_int am_lv_nil)) (Nat.le_of_ble_eq_true rfl) dX6_passes_14 [.int (rRe (st1 S 24 k 0) n l)] rfl ?_
  refine am_go hF sgX6_passes_17_7e279 20 [(3, .int 0), (2, .int (rRe (st1 S 24 k 0) n l)), (0, .ref 465), (1, .int (nI k))] [] sgX6_passes_17_7e279d rfl ?_
  refine am_drop [2, 3, 1, 0] [(0, .ref 465), (1, .int (nI k)), (2, .int (rRe (st1 S 24 k 0) n l)), (3, .int 0)] rfl ?_
  have lp20 : ∀ (zz j : Nat) (S1 : am_T), j + zz = 16 → S1 = itN (rps n l k (rRe (st1 S 24 k 0) n l)) (st1 S 24 k 0) j → am_W C (hp T S1 o) 0 0 20 [(0, .ref 465), (1, .int (nI k)), (2, .int (rRe (st1 S 24 k 0) n l)), (3, .int (nI j))] [] := by
    intro zz
    induction zz with
    | zero =>
      intro j S1 hj hS1
      have e9j : j = 16 := by omega
      obtain ⟨hs1, hm1⟩ := (by rw [hS1]; exact rps_it hs0 j (by omega) : rSafe S1 n k l d ∧ rMm S1 (st1 S 24 k 0))
      refine am_go hF sgX6_passes_20_b88ad 23 [(0, .ref 465), (1, .int (nI k)), (2, .int (rRe (st1 S 24 k 0) n l)), (3, .int (nI j))] [.int 16, .int (nI j)] sgX6_passes_20_b88add rfl ?_
      refine am_icmpge hF 92 dX6_passes_23 (by decide) (fun _ => ?_) (fun h9 => False.elim (absurd (nc_ge (show 16 ≤ j by omega) (by omega) (by omega) rfl rfl) h9))
      exact am_vret hF hO hret dX6_passes_92 ⟨by rw [hS1, e9j]; rfl, rfl⟩
    | succ zz ih20 =>
      intro j S1 hj hS1
      have l9j : j < 16 := by omega
      obtain ⟨hs1, hm1⟩ := (by rw [hS1]; exact rps_it hs0 j (by omega) : rSafe S1 n k l d ∧ rMm S1 (st1 S 24 k 0))
      refine am_go hF sgX6_passes_20_b88ad 23 [(0, .ref 465), (1, .int (nI k)), (2, .int (rRe (st1 S 24 k 0) n l)), (3, .int (nI j))] [.int 16, .int (nI j)] sgX6_passes_20_b88add rfl ?_
      refine am_icmpge hF 92 dX6_passes_23 (by decide) (fun h9 => False.elim (nc_lt_f (show j < 16 by omega) (by omega) (by omega) rfl rfl h9)) (fun _ => ?_)
      refine am_go hF sgX6_passes_26_a1b5b 28 [(0, .ref 465), (1, .int (nI k)), (2, .int (rRe (st1 S 24 k 0) n l)), (3, .int (nI j))] [.ref 465, .int (nI j)] sgX6_passes_26_a1b5bd rfl ?_
      refine sv_get hF 18 (by decide) rfl lf_RX6_50 (.ref 518) rfl dX6_passes_28 ?_
      refine am_go hF sgX6_passes_31_840bf 32 [(0, .ref 465), (1, .int (nI k)), (2, .int (rRe (st1 S 24 k 0) n l)), (3, .int (nI j))] [.int (nI k), .ref 518, .int (nI j)] sgX6_passes_31_840bfd rfl ?_
      refine sv_iald hF 18 (by decide) ⟨rfl, rfl, by decide⟩ k rfl (show k < 80 from hs.2.2.2.1) dX6_passes_32 ?_
      refine am_icmpeq hF 86 dX6_passes_33 (by decide) (fun c3 => ?_) (fun c3 => ?_)
      · skip
        refine am_go hF sgX6_passes_86_49337 20 [(3, .int ((nI j) + 1)), (0, .ref 465), (1, .int (nI k)), (2, .int (rRe (st1 S 24 k 0) n l))] [] sgX6_passes_86_49337d rfl ?_
        refine am_drop [1, 2, 3, 0] [(0, .ref 465), (1, .int (nI k)), (2, .int (rRe (st1 S 24 k 0) n l)), (3, .int ((nI j) + 1))] rfl ?_
        refine am_eqL [(0, .ref 465), (1, .int (nI k)), (2, .int (rRe (st1 S 24 k 0) n l)), (3, .int (nI (j + 1)))] (by rw [nI_1]) ?_
        exact ih20 (j + 1) S1 (by omega) (by show _ = rps n l k _ j (itN (rps n l k _) (st1 S 24 k 0) j); rw [← hS1]; simp only [rps, (eq_true c3), ↓reduceIte])
      · skip
        refine am_go hF sgX6_passes_36_5906e 42 [(0, .ref 465), (1, .int (nI k)), (2, .int (rRe (st1 S 24 k 0) n l)), (3, .int (nI j))] [.int 1, .int (((rRe (st1 S 24 k 0) n l) >>> ((nI j) &&& 31)) &&& 1)] sgX6_passes_36_5906ed rfl ?_
        refine am_icmpne hF 86 dX6_passes_42 (by decide) (fun c4 => ?_) (fun c4 => ?_)
        · skip
          refine am_go hF sgX6_passes_86_49337 20 [(3, .int ((nI j) + 1)), (0, .ref 465), (1, .int (nI k)), (2, .int (rRe (st1 S 24 k 0) n l))] [] sgX6_passes_86_49337d rfl ?_
          refine am_drop [1, 2, 3, 0] [(0, .ref 465), (1, .int (nI k)), (2, .int (rRe (st1 S 24 k 0) n l)), (3, .int ((nI j) + 1))] rfl ?_
          refine am_eqL [(0, .ref 465), (1, .int (nI k)), (2, .int (rRe (st1 S 24 k 0) n l)), (3, .int (nI (j + 1)))] (by rw [nI_1]) ?_
          exact ih20 (j + 1) S1 (by omega) (by show _ = rps n l k _ j (itN (rps n l k _) (st1 S 24 k 0) j); rw [← hS1]; simp only [rps, c3, c4, ↓reduceIte])
        · skip
          refine am_go hF sgX6_passes_45_c81f7 47 [(0, .ref 465), (1, .int (nI k)), (2, .int (rRe (st1 S 24 k 0) n l)), (3, .int (nI j))] [.ref 465, .ref 465] sgX6_passes_45_c81f7d rfl ?_
          refine sv_get hF 19 (by decide) rfl lf_RX6_53 (.ref 519) rfl dX6_passes_47 ?_
          refine am_go hF sgX6_passes_50_840bf 51 [(0, .ref 465), (1, .int (nI k)), (2, .int (rRe (st1 S 24 k 0) n l)), (3, .int (nI j))] [.int (nI k), .ref 519, .ref 465] sgX6_passes_50_840bfd rfl ?_
          refine sv_iald hF 19 (by decide) ⟨rfl, rfl, by decide⟩ k rfl (show k < 80 from hs.2.2.2.1) dX6_passes_51 ?_
          refine am_top (nI l) hs1.2.2.2.2.1 ?_
          refine am_go hF sgX6_passes_52_13b50 53 [(0, .ref 465), (1, .int (nI k)), (2, .int (rRe (st1 S 24 k 0) n l)), (3, .int (nI j))] [.int (nI j), .int (nI l), .ref 465] sgX6_passes_52_13b50d rfl ?_
          refine am_dV hF hO [.int (nI l), .int (nI j)] [] (c_modeFor (S := S1) hs1.1 hs.2.1 hs.2.2.1 (by omega)) myX6_modeFor vyX6_modeFor lm_RX6_139 (hp_m _ _ _) rfl rfl 0 0 ⟨Nat.le_of_ble_eq_true rfl, Nat.le_of_ble_eq_true rfl⟩ ⟨Nat.le_of_ble_eq_true rfl, Nat.le_of_ble_eq_true rfl, Nat.le_of_ble_eq_true rfl, Nat.le_of_ble_eq_true rfl⟩ rfl (am_lv_ref (hp_m _ _ _) (am_lv_int (am_lv_int (am_lv_int am_lv_nil)))) (Nat.le_of_ble_eq_true rfl) dX6_passes_53 [.int (rMode S1 n l j)] rfl ?_
          refine am_ifne hF 68 dX6_passes_56 (by decide) (fun c5 => ?_) (fun c5 => ?_)
          · skip
            refine am_go hF sgX6_passes_68_716ad 72 [(0, .ref 465), (1, .int (nI k)), (2, .int (rRe (st1 S 24 k 0) n l)), (3, .int (nI j))] [.ref 465, .ref 465, .int (nI k), .ref 465] sgX6_passes_68_716add rfl ?_
            refine sv_get hF 19 (by decide) rfl lf_RX6_53 (.ref 519) rfl dX6_passes_72 ?_
            refine am_go hF sgX6_passes_75_840bf 76 [(0, .ref 465), (1, .int (nI k)), (2, .int (rRe (st1 S 24 k 0) n l)), (3, .int (nI j))] [.int (nI k), .ref 519, .ref 465, .int (nI k), .ref 465] sgX6_passes_75_840bfd rfl ?_
            refine sv_iald hF 19 (by decide) ⟨rfl, rfl, by decide⟩ k rfl (show k < 80 from hs.2.2.2.1) dX6_passes_76 ?_
            refine am_top (nI l) hs1.2.2.2.2.1 ?_
            refine am_go hF sgX6_passes_77_8324a 79 [(0, .ref 465), (1, .int (nI k)), (2, .int (rRe (st1 S 24 k 0) n l)), (3, .int (nI j))] [.int (-1), .int (nI j), .int (nI l), .ref 465, .int (nI k), .ref 465] sgX6_passes_77_8324ad rfl ?_
            obtain ⟨q, hq, eq⟩ := rps_low (q := j) (by omega) hm1 c4
            have eq9 : (rMB S1 n l j (-1)).toNatClampNeg = q := by rw [eq]; exact nI_clamp (by omega)
            refine am_dV hF hO [.int (nI l), .int (nI j), .int (-1)] [.int (nI k), .ref 465] (c_memberBy (S := S1) hs1.1 hs.2.1 (by omega) (by omega)) myX6_memberBy vyX6_memberBy lm_RX6_132 (hp_m _ _ _) rfl rfl 0 0 ⟨Nat.le_of_ble_eq_true rfl, Nat.le_of_ble_eq_true rfl⟩ ⟨Nat.le_of_ble_eq_true rfl, Nat.le_of_ble_eq_true rfl, Nat.le_of_ble_eq_true rfl, Nat.le_of_ble_eq_true rfl⟩ rfl (am_lv_ref (hp_m _ _ _) (am_lv_int (am_lv_int (am_lv_int (am_lv_int (am_lv_ref (hp_m _ _ _) am_lv_nil)))))) (Nat.le_of_ble_eq_true rfl) dX6_passes_79 [.int (rMB S1 n l j (-1)), .int (nI k), .ref 465] rfl ?_
            refine am_eqS [.int (nI q), .int (nI k), .ref 465] (by rw [eq]) ?_
            refine am_go hF sgX6_passes_82_13b50 83 [(0, .ref 465), (1, .int (nI k)), (2, .int (rRe (st1 S 24 k 0) n l)), (3, .int (nI j))] [.int (nI j), .int (nI q), .int (nI k), .ref 465] sgX6_passes_82_13b50d rfl ?_
            have ed9 : (S1 20 k).toNatClampNeg = d := by rw [hs1.2.2.2.2.2.1]; exact nI_clamp (by have := hs.2.2.2.2.2.2.1; omega)
            refine am_dV hF hO [.int (nI k), .int (nI q), .int (nI j)] [] (c_comesToDigest (S := S1) hs.2.2.2.1 (by have := hs.2.1; omega) (by omega) hs1.2.2.2.2.2.1 hs.2.2.2.2.2.2.1) myX6_comesToDigest vyX6_comesToDigest lm_RX6_157 (hp_m _ _ _) rfl rfl 0 0 ⟨Nat.le_of_ble_eq_true rfl, Nat.le_of_ble_eq_true rfl⟩ ⟨Nat.le_of_ble_eq_true rfl, Nat.le_of_ble_eq_true rfl, Nat.le_of_ble_eq_true rfl, Nat.le_of_ble_eq_true rfl⟩ rfl (am_lv_ref (hp_m _ _ _) (am_lv_int (am_lv_int (am_lv_int am_lv_nil)))) (Nat.le_of_ble_eq_true rfl) dX6_passes_83 [] rfl ?_
            refine am_go hF sgX6_passes_86_49337 20 [(3, .int ((nI j) + 1)), (0, .ref 465), (1, .int (nI k)), (2, .int (rRe (st1 S 24 k 0) n l))] [] sgX6_passes_86_49337d rfl ?_
            refine am_drop [1, 2, 3, 0] [(0, .ref 465), (1, .int (nI k)), (2, .int (rRe (st1 S 24 k 0) n l)), (3, .int ((nI j) + 1))] rfl ?_
            refine am_eqL [(0, .ref 465), (1, .int (nI k)), (2, .int (rRe (st1 S 24 k 0) n l)), (3, .int (nI (j + 1)))] (by rw [nI_1]) ?_
            exact ih20 (j + 1) (rDig S1 k q j d) (by omega) (by show _ = rps n l k _ j (itN (rps n l k _) (st1 S 24 k 0) j); rw [← hS1]; simp only [rps, c3, (eq_true c4), c5, ed9, eq9, ↓reduceIte])
          · skip
            refine am_go hF sgX6_passes_59_5abed 62 [(0, .ref 465), (1, .int (nI k)), (2, .int (rRe (st1 S 24 k 0) n l)), (3, .int (nI j))] [.int (nI j), .int (nI k), .ref 465] sgX6_passes_59_5abedd rfl ?_
            obtain ⟨b, hb10, hb⟩ := hs1.2.2.2.2.2.2.2 j (by omega)
            have eb9 : (S1 7 j).toNatClampNeg = b := by rw [hb]; exact nI_clamp (by omega)
            refine am_dV hF hO [.int (nI k), .int (nI j)] [] (c_comesToBox (S := S1) hs1.1 hs.2.1 hs.2.2.2.1 (by omega) hb hb10) myX6_comesToBox vyX6_comesToBox lm_RX6_153 (hp_m _ _ _) rfl rfl 0 0 ⟨Nat.le_of_ble_eq_true rfl, Nat.le_of_ble_eq_true rfl⟩ ⟨Nat.le_of_ble_eq_true rfl, Nat.le_of_ble_eq_true rfl, Nat.le_of_ble_eq_true rfl, Nat.le_of_ble_eq_true rfl⟩ rfl (am_lv_ref (hp_m _ _ _) (am_lv_int (am_lv_int (am_lv_int am_lv_nil)))) (Nat.le_of_ble_eq_true rfl) dX6_passes_62 [] rfl ?_
            refine am_go hF sgX6_passes_65_96386 20 [(3, .int ((nI j) + 1)), (0, .ref 465), (1, .int (nI k)), (2, .int (rRe (st1 S 24 k 0) n l))] [] sgX6_passes_65_96386d rfl ?_
            refine am_drop [1, 2, 3, 0] [(0, .ref 465), (1, .int (nI k)), (2, .int (rRe (st1 S 24 k 0) n l)), (3, .int ((nI j) + 1))] rfl ?_
            refine am_eqL [(0, .ref 465), (1, .int (nI k)), (2, .int (rRe (st1 S 24 k 0) n l)), (3, .int (nI (j + 1)))] (by rw [nI_1]) ?_
            exact ih20 (j + 1) (rBox S1 n k j b) (by omega) (by show _ = rps n l k _ j (itN (rps n l k _) (st1 S 24 k 0) j); rw [← hS1]; simp only [rps, c3, (eq_true c4), (eq_true c5), eb9, ↓reduceIte])
  exact lp20 16 0 (st1 S 24 k 0) (by omega) rfl
