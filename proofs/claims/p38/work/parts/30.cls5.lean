/-! new objects of the class -/
theorem am_ub (X : am_H) (i j : Nat) (a b c : va_E) : am_u (am_u (am_u X i a) j b) i c = am_u (am_u X j b) i c := by
  funext q
  unfold am_u
  by_cases h : q = i
  · rw [if_pos h, if_pos h]
  · rw [if_neg h, if_neg h, if_neg h]
theorem hfsX0 : ∀ j, j < 4 → defaultValue (tyX0 j) = vp_V [.int 0, .int 0, .int 0, .int 0] j := by decide +kernel
theorem hfsX1 : ∀ j, j < 11 → defaultValue (tyX1 j) = vp_V [.int 0, .int 0, .int 0, .null, .int 0, .int 0, .int 0, .int 0, .int 0, .int 0, .null] j := by decide +kernel
theorem hfsX2 : ∀ j, j < 8 → defaultValue (tyX2 j) = vp_V [.int 0, .int 0, .int 0, .int 0, .int 0, .int 0, .int 0, .int 0] j := by decide +kernel
theorem hfsX3 : ∀ j, j < 5 → defaultValue (tyX3 j) = vp_V [.int 0, .int 0, .int 0, .null, .int 0] j := by decide +kernel
theorem hfsX4 : ∀ j, j < 5 → defaultValue (tyX4 j) = vp_V [.int 0, .null, .null, .int 0, .int 0] j := by decide +kernel
theorem hfsX5 : ∀ j, j < 9 → defaultValue (tyX5 j) = vp_V [.null, .null, .null, .int 0, .null, .int 0, .null, .int 0, .int 0] j := by decide +kernel
theorem hp_1 (T S : am_T) (o : Nat → Int64) : hp T S o 1 = some (am_q (fun p => if p < 16 then some (16 + p) else none) 16 2) := rfl
theorem hp_3 (T S : am_T) (o : Nat → Int64) : hp T S o 3 = some (am_q (fun l => if l < tN T 0 then some (48 + l) else none) 10 3) := rfl
theorem hp_4 (T S : am_T) (o : Nat → Int64) : hp T S o 4 = some (am_q (fun k => if k < tN T 1 then some (64 + k) else none) 80 4) := rfl
theorem hp_5 (T S : am_T) (o : Nat → Int64) : hp T S o 5 = some (am_q (fun j => if j < tN T 2 then some (224 + j) else none) 80 5) := rfl
def tNewL (T : am_T) (n : Nat) (x : Int32) : am_T := st1 (st1 (st1 (st1 (st1 (st1 (st1 (st1 (st1 T 10 n x) 11 n 0) 12 n 0) 13 n 0) 14 n 0) 15 n 10) 16 n 7) 17 n 0) 0 0 (nI n + 1)
def tNewD (T : am_T) (v : Nat) : am_T := fun a => if a = 34 ∨ a = 35 then (fun i => if 10 * v ≤ i ∧ i < 10 * v + 10 then 0 else T a i) else st1 (st1 (st1 (st1 T 33 v (T 3 0)) 36 v 0) 37 v 0) 2 0 (nI v + 1) a
def tNewM (T : am_T) (m j : Nat) (x2 x3 x5 x6 x7 : Int32) : am_T := st1 (st1 (st1 (st1 (st1 (st1 (st1 (st1 (st1 (st1 (st1 (st1 T 18 m (nI m)) 19 m x2) 20 m x3) 21 m (nI j)) 22 m x5) 23 m x6) 24 m (T 33 j + x7)) 25 m 1) 26 m 0) 27 m 0) 28 m 0) 1 0 (nI m + 1)
def tApp (T : am_T) (k : Nat) (x : Int32) : am_T := st1 (st1 (st1 (st1 (st1 T 28 k 1) 29 k x) 30 k 0) 31 k 0) 32 k 1
theorem tN_n1 {T : am_T} {f n : Nat} {x : Int32} (h : n < 2 ^ 30) (hx : T f 0 = nI n + 1) : T f 0 = nI (n + 1) := by rw [hx, nI_1]
theorem st1_ne {S : am_T} {f j g i : Nat} {v : Int32} (h : ¬ (g = f ∧ i = j)) : st1 S f j v g i = S g i := by rw [st1_at, if_neg h]
theorem tNewL_10 {T : am_T} {n : Nat} {x : Int32} : tNewL T n x 10 n = x := by
  unfold tNewL
  rw [st1_ne (by omega), st1_ne (by omega), st1_ne (by omega), st1_ne (by omega), st1_ne (by omega), st1_ne (by omega), st1_ne (by omega), st1_ne (by omega), st1_same]
theorem tNewL_11 {T : am_T} {n : Nat} {x : Int32} : tNewL T n x 11 n = 0 := by
  unfold tNewL
  rw [st1_ne (by omega), st1_ne (by omega), st1_ne (by omega), st1_ne (by omega), st1_ne (by omega), st1_ne (by omega), st1_ne (by omega), st1_same]
theorem tNewL_12 {T : am_T} {n : Nat} {x : Int32} : tNewL T n x 12 n = 0 := by
  unfold tNewL
  rw [st1_ne (by omega), st1_ne (by omega), st1_ne (by omega), st1_ne (by omega), st1_ne (by omega), st1_ne (by omega), st1_same]
theorem tNewL_13 {T : am_T} {n : Nat} {x : Int32} : tNewL T n x 13 n = 0 := by
  unfold tNewL
  rw [st1_ne (by omega), st1_ne (by omega), st1_ne (by omega), st1_ne (by omega), st1_ne (by omega), st1_same]
theorem tNewL_14 {T : am_T} {n : Nat} {x : Int32} : tNewL T n x 14 n = 0 := by
  unfold tNewL
  rw [st1_ne (by omega), st1_ne (by omega), st1_ne (by omega), st1_ne (by omega), st1_same]
theorem tNewL_15 {T : am_T} {n : Nat} {x : Int32} : tNewL T n x 15 n = 10 := by
  unfold tNewL
  rw [st1_ne (by omega), st1_ne (by omega), st1_ne (by omega), st1_same]
theorem tNewL_16 {T : am_T} {n : Nat} {x : Int32} : tNewL T n x 16 n = 7 := by
  unfold tNewL
  rw [st1_ne (by omega), st1_ne (by omega), st1_same]
theorem tNewL_17 {T : am_T} {n : Nat} {x : Int32} : tNewL T n x 17 n = 0 := by
  unfold tNewL
  rw [st1_ne (by omega), st1_same]
theorem tNewL_0 {T : am_T} {n : Nat} {x : Int32} : tNewL T n x 0 0 = nI n + 1 := by
  unfold tNewL
  rw [st1_same]
theorem tNewL_f {T : am_T} {n : Nat} {x : Int32} {g : Nat} (h : g ≠ 0 ∧ g ≠ 10 ∧ g ≠ 11 ∧ g ≠ 12 ∧ g ≠ 13 ∧ g ≠ 14 ∧ g ≠ 15 ∧ g ≠ 16 ∧ g ≠ 17) : tNewL T n x g = T g := by
  unfold tNewL
  rw [st1_f (by omega), st1_f (by omega), st1_f (by omega), st1_f (by omega), st1_f (by omega), st1_f (by omega), st1_f (by omega), st1_f (by omega), st1_f (by omega)]
theorem tNewL_ne {T : am_T} {n : Nat} {x : Int32} {g p : Nat} (h0 : g ≠ 0) (h : p ≠ n) : tNewL T n x g p = T g p := by
  unfold tNewL
  rw [st1_ne (by omega), st1_ne (by omega), st1_ne (by omega), st1_ne (by omega), st1_ne (by omega), st1_ne (by omega), st1_ne (by omega), st1_ne (by omega), st1_ne (by omega)]
def sgX2_init_0_34db8 : List Instr := [.aload_n 0]
theorem sgX2_init_0_34db8d : am_dec cX2_init 0 sgX2_init_0_34db8 = true := by decide +kernel
theorem dX2_init_1 : decode cX2_init 1 = .ok (.invokespecial 3, 3) := by decide +kernel
def sgX2_init_4_9cf18 : List Instr := [.aload_n 0, .iconst 0]
theorem sgX2_init_4_9cf18d : am_dec cX2_init 4 sgX2_init_4_9cf18 = true := by decide +kernel
theorem dX2_init_6 : decode cX2_init 6 = .ok (.putfield 9, 3) := by decide +kernel
def sgX2_init_9_9cf18 : List Instr := [.aload_n 0, .iconst 0]
theorem sgX2_init_9_9cf18d : am_dec cX2_init 9 sgX2_init_9_9cf18 = true := by decide +kernel
theorem dX2_init_11 : decode cX2_init 11 = .ok (.putfield 15, 3) := by decide +kernel
def sgX2_init_14_9cf18 : List Instr := [.aload_n 0, .iconst 0]
theorem sgX2_init_14_9cf18d : am_dec cX2_init 14 sgX2_init_14_9cf18 = true := by decide +kernel
theorem dX2_init_16 : decode cX2_init 16 = .ok (.putfield 18, 3) := by decide +kernel
def sgX2_init_19_9cf18 : List Instr := [.aload_n 0, .iconst 0]
theorem sgX2_init_19_9cf18d : am_dec cX2_init 19 sgX2_init_19_9cf18 = true := by decide +kernel
theorem dX2_init_21 : decode cX2_init 21 = .ok (.putfield 21, 3) := by decide +kernel
def sgX2_init_24_a1289 : List Instr := [.aload_n 0, .bipush 10]
theorem sgX2_init_24_a1289d : am_dec cX2_init 24 sgX2_init_24_a1289 = true := by decide +kernel
theorem dX2_init_27 : decode cX2_init 27 = .ok (.putfield 24, 3) := by decide +kernel
def sgX2_init_30_75dc8 : List Instr := [.aload_n 0, .bipush 7]
theorem sgX2_init_30_75dc8d : am_dec cX2_init 30 sgX2_init_30_75dc8 = true := by decide +kernel
theorem dX2_init_33 : decode cX2_init 33 = .ok (.putfield 27, 3) := by decide +kernel
def sgX2_init_36_9cf18 : List Instr := [.aload_n 0, .iconst 0]
theorem sgX2_init_36_9cf18d : am_dec cX2_init 36 sgX2_init_36_9cf18 = true := by decide +kernel
theorem dX2_init_38 : decode cX2_init 38 = .ok (.putfield 30, 3) := by decide +kernel
def sgX2_init_41_8bcf7 : List Instr := [.aload_n 0, .iload_n 1]
theorem sgX2_init_41_8bcf7d : am_dec cX2_init 41 sgX2_init_41_8bcf7 = true := by decide +kernel
theorem dX2_init_43 : decode cX2_init 43 = .ok (.putfield 34, 3) := by decide +kernel
theorem dX2_init_46 : decode cX2_init 46 = .ok (.return_, 1) := by decide +kernel
def sgX0_init_0_34db8 : List Instr := [.aload_n 0]
theorem sgX0_init_0_34db8d : am_dec cX0_init 0 sgX0_init_0_34db8 = true := by decide +kernel
theorem dX0_init_1 : decode cX0_init 1 = .ok (.invokespecial 3, 3) := by decide +kernel
def sgX0_init_4_9cf18 : List Instr := [.aload_n 0, .iconst 0]
theorem sgX0_init_4_9cf18d : am_dec cX0_init 4 sgX0_init_4_9cf18 = true := by decide +kernel
theorem dX0_init_6 : decode cX0_init 6 = .ok (.putfield 9, 3) := by decide +kernel
def sgX0_init_9_9cf18 : List Instr := [.aload_n 0, .iconst 0]
theorem sgX0_init_9_9cf18d : am_dec cX0_init 9 sgX0_init_9_9cf18 = true := by decide +kernel
theorem dX0_init_11 : decode cX0_init 11 = .ok (.putfield 15, 3) := by decide +kernel
def sgX0_init_14_eadc8 : List Instr := [.aload_n 0, .iconst 1]
theorem sgX0_init_14_eadc8d : am_dec cX0_init 14 sgX0_init_14_eadc8 = true := by decide +kernel
theorem dX0_init_16 : decode cX0_init 16 = .ok (.putfield 18, 3) := by decide +kernel
def sgX0_init_19_8bcf7 : List Instr := [.aload_n 0, .iload_n 1]
theorem sgX0_init_19_8bcf7d : am_dec cX0_init 19 sgX0_init_19_8bcf7 = true := by decide +kernel
theorem dX0_init_21 : decode cX0_init 21 = .ok (.putfield 22, 3) := by decide +kernel
theorem dX0_init_24 : decode cX0_init 24 = .ok (.return_, 1) := by decide +kernel
def sgX1_init_0_34db8 : List Instr := [.aload_n 0]
theorem sgX1_init_0_34db8d : am_dec cX1_init 0 sgX1_init_0_34db8 = true := by decide +kernel
theorem dX1_init_1 : decode cX1_init 1 = .ok (.invokespecial 3, 3) := by decide +kernel
def sgX1_init_4_eadc8 : List Instr := [.aload_n 0, .iconst 1]
theorem sgX1_init_4_eadc8d : am_dec cX1_init 4 sgX1_init_4_eadc8 = true := by decide +kernel
theorem dX1_init_6 : decode cX1_init 6 = .ok (.putfield 9, 3) := by decide +kernel
def sgX1_init_9_9cf18 : List Instr := [.aload_n 0, .iconst 0]
theorem sgX1_init_9_9cf18d : am_dec cX1_init 9 sgX1_init_9_9cf18 = true := by decide +kernel
theorem dX1_init_11 : decode cX1_init 11 = .ok (.putfield 15, 3) := by decide +kernel
def sgX1_init_14_9cf18 : List Instr := [.aload_n 0, .iconst 0]
theorem sgX1_init_14_9cf18d : am_dec cX1_init 14 sgX1_init_14_9cf18 = true := by decide +kernel
theorem dX1_init_16 : decode cX1_init 16 = .ok (.putfield 18, 3) := by decide +kernel
def sgX1_init_19_dd14d : List Instr := [.aload_n 0, .aconst_null]
theorem sgX1_init_19_dd14dd : am_dec cX1_init 19 sgX1_init_19_dd14d = true := by decide +kernel
theorem dX1_init_21 : decode cX1_init 21 = .ok (.putfield 21, 3) := by decide +kernel
def sgX1_init_24_8bcf7 : List Instr := [.aload_n 0, .iload_n 1]
theorem sgX1_init_24_8bcf7d : am_dec cX1_init 24 sgX1_init_24_8bcf7 = true := by decide +kernel
theorem dX1_init_26 : decode cX1_init 26 = .ok (.putfield 25, 3) := by decide +kernel
def sgX1_init_29_78e74 : List Instr := [.aload_n 0, .iload_n 2]
theorem sgX1_init_29_78e74d : am_dec cX1_init 29 sgX1_init_29_78e74 = true := by decide +kernel
theorem dX1_init_31 : decode cX1_init 31 = .ok (.putfield 28, 3) := by decide +kernel
def sgX1_init_34_245fd : List Instr := [.aload_n 0, .iload_n 3]
theorem sgX1_init_34_245fdd : am_dec cX1_init 34 sgX1_init_34_245fd = true := by decide +kernel
theorem dX1_init_36 : decode cX1_init 36 = .ok (.putfield 31, 3) := by decide +kernel
def sgX1_init_39_2c84d : List Instr := [.aload_n 0, .aload 4]
theorem sgX1_init_39_2c84dd : am_dec cX1_init 39 sgX1_init_39_2c84d = true := by decide +kernel
theorem dX1_init_42 : decode cX1_init 42 = .ok (.putfield 34, 3) := by decide +kernel
def sgX1_init_45_101e7 : List Instr := [.aload_n 0, .iload 5]
theorem sgX1_init_45_101e7d : am_dec cX1_init 45 sgX1_init_45_101e7 = true := by decide +kernel
theorem dX1_init_48 : decode cX1_init 48 = .ok (.putfield 38, 3) := by decide +kernel
def sgX1_init_51_5775c : List Instr := [.aload_n 0, .iload 6]
theorem sgX1_init_51_5775cd : am_dec cX1_init 51 sgX1_init_51_5775c = true := by decide +kernel
theorem dX1_init_54 : decode cX1_init 54 = .ok (.putfield 41, 3) := by decide +kernel
def sgX1_init_57_2c84d : List Instr := [.aload_n 0, .aload 4]
theorem sgX1_init_57_2c84dd : am_dec cX1_init 57 sgX1_init_57_2c84d = true := by decide +kernel
theorem dX1_init_60 : decode cX1_init 60 = .ok (.getfield 44, 3) := by decide +kernel
def sgX1_init_63_f2bd9 : List Instr := [.iload 7, .iadd]
theorem sgX1_init_63_f2bd9d : am_dec cX1_init 63 sgX1_init_63_f2bd9 = true := by decide +kernel
theorem dX1_init_66 : decode cX1_init 66 = .ok (.putfield 47, 3) := by decide +kernel
theorem dX1_init_69 : decode cX1_init 69 = .ok (.return_, 1) := by decide +kernel
def sgX3_init_0_34db8 : List Instr := [.aload_n 0]
theorem sgX3_init_0_34db8d : am_dec cX3_init 0 sgX3_init_0_34db8 = true := by decide +kernel
theorem dX3_init_1 : decode cX3_init 1 = .ok (.invokespecial 3, 3) := by decide +kernel
def sgX3_init_4_9cf18 : List Instr := [.aload_n 0, .iconst 0]
theorem sgX3_init_4_9cf18d : am_dec cX3_init 4 sgX3_init_4_9cf18 = true := by decide +kernel
theorem dX3_init_6 : decode cX3_init 6 = .ok (.putfield 9, 3) := by decide +kernel
def sgX3_init_9_9cf18 : List Instr := [.aload_n 0, .iconst 0]
theorem sgX3_init_9_9cf18d : am_dec cX3_init 9 sgX3_init_9_9cf18 = true := by decide +kernel
theorem dX3_init_11 : decode cX3_init 11 = .ok (.putfield 15, 3) := by decide +kernel
def sgX3_init_14_9cf18 : List Instr := [.aload_n 0, .iconst 0]
theorem sgX3_init_14_9cf18d : am_dec cX3_init 14 sgX3_init_14_9cf18 = true := by decide +kernel
theorem dX3_init_16 : decode cX3_init 16 = .ok (.putfield 18, 3) := by decide +kernel
def sgX3_init_19_a1289 : List Instr := [.aload_n 0, .bipush 10]
theorem sgX3_init_19_a1289d : am_dec cX3_init 19 sgX3_init_19_a1289 = true := by decide +kernel
theorem dX3_init_22 : decode cX3_init 22 = .ok (.newarray .int, 2) := by decide +kernel
theorem dX3_init_24 : decode cX3_init 24 = .ok (.putfield 21, 3) := by decide +kernel
def sgX3_init_27_9cf18 : List Instr := [.aload_n 0, .iconst 0]
theorem sgX3_init_27_9cf18d : am_dec cX3_init 27 sgX3_init_27_9cf18 = true := by decide +kernel
theorem dX3_init_29 : decode cX3_init 29 = .ok (.putfield 25, 3) := by decide +kernel
theorem dX3_init_32 : decode cX3_init 32 = .ok (.return_, 1) := by decide +kernel
def sgX4_init_0_34db8 : List Instr := [.aload_n 0]
theorem sgX4_init_0_34db8d : am_dec cX4_init 0 sgX4_init_0_34db8 = true := by decide +kernel
theorem dX4_init_1 : decode cX4_init 1 = .ok (.invokespecial 3, 3) := by decide +kernel
def sgX4_init_4_a1289 : List Instr := [.aload_n 0, .bipush 10]
theorem sgX4_init_4_a1289d : am_dec cX4_init 4 sgX4_init_4_a1289 = true := by decide +kernel
theorem dX4_init_7 : decode cX4_init 7 = .ok (.newarray .int, 2) := by decide +kernel
theorem dX4_init_9 : decode cX4_init 9 = .ok (.putfield 9, 3) := by decide +kernel
def sgX4_init_12_a1289 : List Instr := [.aload_n 0, .bipush 10]
theorem sgX4_init_12_a1289d : am_dec cX4_init 12 sgX4_init_12_a1289 = true := by decide +kernel
theorem dX4_init_15 : decode cX4_init 15 = .ok (.newarray .int, 2) := by decide +kernel
theorem dX4_init_17 : decode cX4_init 17 = .ok (.putfield 15, 3) := by decide +kernel
def sgX4_init_20_9cf18 : List Instr := [.aload_n 0, .iconst 0]
theorem sgX4_init_20_9cf18d : am_dec cX4_init 20 sgX4_init_20_9cf18 = true := by decide +kernel
theorem dX4_init_22 : decode cX4_init 22 = .ok (.putfield 18, 3) := by decide +kernel
def sgX4_init_25_9cf18 : List Instr := [.aload_n 0, .iconst 0]
theorem sgX4_init_25_9cf18d : am_dec cX4_init 25 sgX4_init_25_9cf18 = true := by decide +kernel
theorem dX4_init_27 : decode cX4_init 27 = .ok (.putfield 22, 3) := by decide +kernel
def sgX4_init_30_8bcf7 : List Instr := [.aload_n 0, .iload_n 1]
theorem sgX4_init_30_8bcf7d : am_dec cX4_init 30 sgX4_init_30_8bcf7 = true := by decide +kernel
theorem dX4_init_32 : decode cX4_init 32 = .ok (.putfield 26, 3) := by decide +kernel
theorem dX4_init_35 : decode cX4_init 35 = .ok (.return_, 1) := by decide +kernel
set_option maxRecDepth 100000 in
set_option maxHeartbeats 4000000 in
theorem c_newL {G : am_S} {X : am_H} {i : Nat} {x : Int32} (hX : X i = some (.inr (2, [.int 0, .int 0, .int 0, .int 0, .int 0, .int 0, .int 0, .int 0]))) : am_D G yX2_init (.code yX2_init cX2_init 2 none :: am_G) { frames := 1, cells := 0, slots := 0, locals := 20 } X [.ref i, .int x] (am_u X i (.inr (2, [.int x, .int 0, .int 0, .int 0, .int 0, .int 10, .int 7, .int 0]))) none := by
  refine am_of (by decide +kernel) (Nat.le_of_ble_eq_true rfl) ?_
  intro C hse hret hname hF hO
  subst hse
  refine am_go hF sgX2_init_0_34db8 1 [(0, .ref i), (1, .int x)] [.ref i] sgX2_init_0_34db8d rfl ?_
  refine am_oinit hF hO (List.mem_cons_of_mem _ lm_RX2_3) (List.mem_cons_of_mem _ lo_inst) (List.mem_cons_of_mem _ lo_code) ⟨Nat.le_of_ble_eq_true rfl, Nat.le_of_ble_eq_true rfl⟩ dX2_init_1 ?_
  refine am_go hF sgX2_init_4_9cf18 6 [(0, .ref i), (1, .int x)] [.int 0, .ref i] sgX2_init_4_9cf18d rfl ?_
  refine am_putf hF hX (T := TX2) (N := 8) rfl (inG 2 inG2) tyX2 tyX2_ok nmX2 1 (by decide) (List.mem_cons_of_mem _ lf_RX2_9) rfl (Or.inl rfl) rfl rfl (Nat.le_of_ble_eq_true rfl) dX2_init_6 ?_
  refine am_eqX (am_u X i (.inr (2, [.int 0, .int 0, .int 0, .int 0, .int 0, .int 0, .int 0, .int 0]))) (rfl) ?_
  refine am_go hF sgX2_init_9_9cf18 11 [(0, .ref i), (1, .int x)] [.int 0, .ref i] sgX2_init_9_9cf18d rfl ?_
  refine am_putf hF (am_us _ _ _) (T := TX2) (N := 8) rfl (inG 2 inG2) tyX2 tyX2_ok nmX2 2 (by decide) (List.mem_cons_of_mem _ lf_RX2_15) rfl (Or.inl rfl) rfl rfl (Nat.le_of_ble_eq_true rfl) dX2_init_11 ?_
  refine am_eqX (am_u X i (.inr (2, [.int 0, .int 0, .int 0, .int 0, .int 0, .int 0, .int 0, .int 0]))) (am_uu _ _ _ _) ?_
  refine am_go hF sgX2_init_14_9cf18 16 [(0, .ref i), (1, .int x)] [.int 0, .ref i] sgX2_init_14_9cf18d rfl ?_
  refine am_putf hF (am_us _ _ _) (T := TX2) (N := 8) rfl (inG 2 inG2) tyX2 tyX2_ok nmX2 3 (by decide) (List.mem_cons_of_mem _ lf_RX2_18) rfl (Or.inl rfl) rfl rfl (Nat.le_of_ble_eq_true rfl) dX2_init_16 ?_
  refine am_eqX (am_u X i (.inr (2, [.int 0, .int 0, .int 0, .int 0, .int 0, .int 0, .int 0, .int 0]))) (am_uu _ _ _ _) ?_
  refine am_go hF sgX2_init_19_9cf18 21 [(0, .ref i), (1, .int x)] [.int 0, .ref i] sgX2_init_19_9cf18d rfl ?_
  refine am_putf hF (am_us _ _ _) (T := TX2) (N := 8) rfl (inG 2 inG2) tyX2 tyX2_ok nmX2 4 (by decide) (List.mem_cons_of_mem _ lf_RX2_21) rfl (Or.inl rfl) rfl rfl (Nat.le_of_ble_eq_true rfl) dX2_init_21 ?_
  refine am_eqX (am_u X i (.inr (2, [.int 0, .int 0, .int 0, .int 0, .int 0, .int 0, .int 0, .int 0]))) (am_uu _ _ _ _) ?_
  refine am_go hF sgX2_init_24_a1289 27 [(0, .ref i), (1, .int x)] [.int 10, .ref i] sgX2_init_24_a1289d rfl ?_
  refine am_putf hF (am_us _ _ _) (T := TX2) (N := 8) rfl (inG 2 inG2) tyX2 tyX2_ok nmX2 5 (by decide) (List.mem_cons_of_mem _ lf_RX2_24) rfl (Or.inl rfl) rfl rfl (Nat.le_of_ble_eq_true rfl) dX2_init_27 ?_
  refine am_eqX (am_u X i (.inr (2, [.int 0, .int 0, .int 0, .int 0, .int 0, .int 10, .int 0, .int 0]))) (am_uu _ _ _ _) ?_
  refine am_go hF sgX2_init_30_75dc8 33 [(0, .ref i), (1, .int x)] [.int 7, .ref i] sgX2_init_30_75dc8d rfl ?_
  refine am_putf hF (am_us _ _ _) (T := TX2) (N := 8) rfl (inG 2 inG2) tyX2 tyX2_ok nmX2 6 (by decide) (List.mem_cons_of_mem _ lf_RX2_27) rfl (Or.inl rfl) rfl rfl (Nat.le_of_ble_eq_true rfl) dX2_init_33 ?_
  refine am_eqX (am_u X i (.inr (2, [.int 0, .int 0, .int 0, .int 0, .int 0, .int 10, .int 7, .int 0]))) (am_uu _ _ _ _) ?_
  refine am_go hF sgX2_init_36_9cf18 38 [(0, .ref i), (1, .int x)] [.int 0, .ref i] sgX2_init_36_9cf18d rfl ?_
  refine am_putf hF (am_us _ _ _) (T := TX2) (N := 8) rfl (inG 2 inG2) tyX2 tyX2_ok nmX2 7 (by decide) (List.mem_cons_of_mem _ lf_RX2_30) rfl (Or.inl rfl) rfl rfl (Nat.le_of_ble_eq_true rfl) dX2_init_38 ?_
  refine am_eqX (am_u X i (.inr (2, [.int 0, .int 0, .int 0, .int 0, .int 0, .int 10, .int 7, .int 0]))) (am_uu _ _ _ _) ?_
  refine am_go hF sgX2_init_41_8bcf7 43 [(0, .ref i), (1, .int x)] [.int x, .ref i] sgX2_init_41_8bcf7d rfl ?_
  refine am_putf hF (am_us _ _ _) (T := TX2) (N := 8) rfl (inG 2 inG2) tyX2 tyX2_ok nmX2 0 (by decide) (List.mem_cons_of_mem _ lf_RX2_34) rfl (Or.inr ⟨rfl, hname.symm, rfl⟩) rfl rfl (Nat.le_of_ble_eq_true rfl) dX2_init_43 ?_
  refine am_eqX (am_u X i (.inr (2, [.int x, .int 0, .int 0, .int 0, .int 0, .int 10, .int 7, .int 0]))) (am_uu _ _ _ _) ?_
  exact am_vret hF hO hret dX2_init_46 ⟨rfl, rfl⟩
set_option maxRecDepth 100000 in
set_option maxHeartbeats 4000000 in
theorem c_newA {G : am_S} {X : am_H} {i : Nat} {x : Int32} (hX : X i = some (.inr (0, [.int 0, .int 0, .int 0, .int 0]))) : am_D G yX0_init (.code yX0_init cX0_init 2 none :: am_G) { frames := 1, cells := 0, slots := 0, locals := 20 } X [.ref i, .int x] (am_u X i (.inr (0, [.int x, .int 0, .int 0, .int 1]))) none := by
  refine am_of (by decide +kernel) (Nat.le_of_ble_eq_true rfl) ?_
  intro C hse hret hname hF hO
  subst hse
  refine am_go hF sgX0_init_0_34db8 1 [(0, .ref i), (1, .int x)] [.ref i] sgX0_init_0_34db8d rfl ?_
  refine am_oinit hF hO (List.mem_cons_of_mem _ lm_RX0_3) (List.mem_cons_of_mem _ lo_inst) (List.mem_cons_of_mem _ lo_code) ⟨Nat.le_of_ble_eq_true rfl, Nat.le_of_ble_eq_true rfl⟩ dX0_init_1 ?_
  refine am_go hF sgX0_init_4_9cf18 6 [(0, .ref i), (1, .int x)] [.int 0, .ref i] sgX0_init_4_9cf18d rfl ?_
  refine am_putf hF hX (T := TX0) (N := 4) rfl (inG 0 inG0) tyX0 tyX0_ok nmX0 1 (by decide) (List.mem_cons_of_mem _ lf_RX0_9) rfl (Or.inl rfl) rfl rfl (Nat.le_of_ble_eq_true rfl) dX0_init_6 ?_
  refine am_eqX (am_u X i (.inr (0, [.int 0, .int 0, .int 0, .int 0]))) (rfl) ?_
  refine am_go hF sgX0_init_9_9cf18 11 [(0, .ref i), (1, .int x)] [.int 0, .ref i] sgX0_init_9_9cf18d rfl ?_
  refine am_putf hF (am_us _ _ _) (T := TX0) (N := 4) rfl (inG 0 inG0) tyX0 tyX0_ok nmX0 2 (by decide) (List.mem_cons_of_mem _ lf_RX0_15) rfl (Or.inl rfl) rfl rfl (Nat.le_of_ble_eq_true rfl) dX0_init_11 ?_
  refine am_eqX (am_u X i (.inr (0, [.int 0, .int 0, .int 0, .int 0]))) (am_uu _ _ _ _) ?_
  refine am_go hF sgX0_init_14_eadc8 16 [(0, .ref i), (1, .int x)] [.int 1, .ref i] sgX0_init_14_eadc8d rfl ?_
  refine am_putf hF (am_us _ _ _) (T := TX0) (N := 4) rfl (inG 0 inG0) tyX0 tyX0_ok nmX0 3 (by decide) (List.mem_cons_of_mem _ lf_RX0_18) rfl (Or.inl rfl) rfl rfl (Nat.le_of_ble_eq_true rfl) dX0_init_16 ?_
  refine am_eqX (am_u X i (.inr (0, [.int 0, .int 0, .int 0, .int 1]))) (am_uu _ _ _ _) ?_
  refine am_go hF sgX0_init_19_8bcf7 21 [(0, .ref i), (1, .int x)] [.int x, .ref i] sgX0_init_19_8bcf7d rfl ?_
  refine am_putf hF (am_us _ _ _) (T := TX0) (N := 4) rfl (inG 0 inG0) tyX0 tyX0_ok nmX0 0 (by decide) (List.mem_cons_of_mem _ lf_RX0_22) rfl (Or.inr ⟨rfl, hname.symm, rfl⟩) rfl rfl (Nat.le_of_ble_eq_true rfl) dX0_init_21 ?_
  refine am_eqX (am_u X i (.inr (0, [.int x, .int 0, .int 0, .int 1]))) (am_uu _ _ _ _) ?_
  exact am_vret hF hO hret dX0_init_24 ⟨rfl, rfl⟩
set_option maxRecDepth 100000 in
set_option maxHeartbeats 4000000 in
theorem c_newM {G : am_S} {X : am_H} {i dd a1 a2 : Nat} {x1 x2 x3 x5 x6 x7 y z1 z2 : Int32} (hX : X i = some (.inr (1, [.int 0, .int 0, .int 0, .null, .int 0, .int 0, .int 0, .int 0, .int 0, .int 0, .null]))) (hD : X dd = some (.inr (4, [.int y, .ref a1, .ref a2, .int z1, .int z2]))) (hne : dd ≠ i) : am_D G yX1_init (.code yX1_init cX1_init 8 none :: am_G) { frames := 1, cells := 0, slots := 0, locals := 20 } X [.ref i, .int x1, .int x2, .int x3, .ref dd, .int x5, .int x6, .int x7] (am_u X i (.inr (1, [.int x1, .int x2, .int x3, .ref dd, .int x5, .int x6, .int (y + x7), .int 1, .int 0, .int 0, .null]))) none := by
  refine am_of (by decide +kernel) (Nat.le_of_ble_eq_true rfl) ?_
  intro C hse hret hname hF hO
  subst hse
  refine am_go hF sgX1_init_0_34db8 1 [(0, .ref i), (1, .int x1), (2, .int x2), (3, .int x3), (4, .ref dd), (5, .int x5), (6, .int x6), (7, .int x7)] [.ref i] sgX1_init_0_34db8d rfl ?_
  refine am_oinit hF hO (List.mem_cons_of_mem _ lm_RX1_3) (List.mem_cons_of_mem _ lo_inst) (List.mem_cons_of_mem _ lo_code) ⟨Nat.le_of_ble_eq_true rfl, Nat.le_of_ble_eq_true rfl⟩ dX1_init_1 ?_
  refine am_go hF sgX1_init_4_eadc8 6 [(0, .ref i), (1, .int x1), (2, .int x2), (3, .int x3), (4, .ref dd), (5, .int x5), (6, .int x6), (7, .int x7)] [.int 1, .ref i] sgX1_init_4_eadc8d rfl ?_
  refine am_putf hF hX (T := TX1) (N := 11) rfl (inG 1 inG1) tyX1 tyX1_ok nmX1 7 (by decide) (List.mem_cons_of_mem _ lf_RX1_9) rfl (Or.inl rfl) rfl rfl (Nat.le_of_ble_eq_true rfl) dX1_init_6 ?_
  refine am_eqX (am_u X i (.inr (1, [.int 0, .int 0, .int 0, .null, .int 0, .int 0, .int 0, .int 1, .int 0, .int 0, .null]))) (rfl) ?_
  refine am_go hF sgX1_init_9_9cf18 11 [(0, .ref i), (1, .int x1), (2, .int x2), (3, .int x3), (4, .ref dd), (5, .int x5), (6, .int x6), (7, .int x7)] [.int 0, .ref i] sgX1_init_9_9cf18d rfl ?_
  refine am_putf hF (am_us _ _ _) (T := TX1) (N := 11) rfl (inG 1 inG1) tyX1 tyX1_ok nmX1 8 (by decide) (List.mem_cons_of_mem _ lf_RX1_15) rfl (Or.inl rfl) rfl rfl (Nat.le_of_ble_eq_true rfl) dX1_init_11 ?_
  refine am_eqX (am_u X i (.inr (1, [.int 0, .int 0, .int 0, .null, .int 0, .int 0, .int 0, .int 1, .int 0, .int 0, .null]))) (am_uu _ _ _ _) ?_
  refine am_go hF sgX1_init_14_9cf18 16 [(0, .ref i), (1, .int x1), (2, .int x2), (3, .int x3), (4, .ref dd), (5, .int x5), (6, .int x6), (7, .int x7)] [.int 0, .ref i] sgX1_init_14_9cf18d rfl ?_
  refine am_putf hF (am_us _ _ _) (T := TX1) (N := 11) rfl (inG 1 inG1) tyX1 tyX1_ok nmX1 9 (by decide) (List.mem_cons_of_mem _ lf_RX1_18) rfl (Or.inl rfl) rfl rfl (Nat.le_of_ble_eq_true rfl) dX1_init_16 ?_
  refine am_eqX (am_u X i (.inr (1, [.int 0, .int 0, .int 0, .null, .int 0, .int 0, .int 0, .int 1, .int 0, .int 0, .null]))) (am_uu _ _ _ _) ?_
  refine am_go hF sgX1_init_19_dd14d 21 [(0, .ref i), (1, .int x1), (2, .int x2), (3, .int x3), (4, .ref dd), (5, .int x5), (6, .int x6), (7, .int x7)] [.null, .ref i] sgX1_init_19_dd14dd rfl ?_
  refine am_putf hF (am_us _ _ _) (T := TX1) (N := 11) rfl (inG 1 inG1) tyX1 tyX1_ok nmX1 10 (by decide) (List.mem_cons_of_mem _ lf_RX1_21) rfl (Or.inl rfl) rfl rfl (Nat.le_of_ble_eq_true rfl) dX1_init_21 ?_
  refine am_eqX (am_u X i (.inr (1, [.int 0, .int 0, .int 0, .null, .int 0, .int 0, .int 0, .int 1, .int 0, .int 0, .null]))) (am_uu _ _ _ _) ?_
  refine am_go hF sgX1_init_24_8bcf7 26 [(0, .ref i), (1, .int x1), (2, .int x2), (3, .int x3), (4, .ref dd), (5, .int x5), (6, .int x6), (7, .int x7)] [.int x1, .ref i] sgX1_init_24_8bcf7d rfl ?_
  refine am_putf hF (am_us _ _ _) (T := TX1) (N := 11) rfl (inG 1 inG1) tyX1 tyX1_ok nmX1 0 (by decide) (List.mem_cons_of_mem _ lf_RX1_25) rfl (Or.inr ⟨rfl, hname.symm, rfl⟩) rfl rfl (Nat.le_of_ble_eq_true rfl) dX1_init_26 ?_
  refine am_eqX (am_u X i (.inr (1, [.int x1, .int 0, .int 0, .null, .int 0, .int 0, .int 0, .int 1, .int 0, .int 0, .null]))) (am_uu _ _ _ _) ?_
  refine am_go hF sgX1_init_29_78e74 31 [(0, .ref i), (1, .int x1), (2, .int x2), (3, .int x3), (4, .ref dd), (5, .int x5), (6, .int x6), (7, .int x7)] [.int x2, .ref i] sgX1_init_29_78e74d rfl ?_
  refine am_putf hF (am_us _ _ _) (T := TX1) (N := 11) rfl (inG 1 inG1) tyX1 tyX1_ok nmX1 1 (by decide) (List.mem_cons_of_mem _ lf_RX1_28) rfl (Or.inr ⟨rfl, hname.symm, rfl⟩) rfl rfl (Nat.le_of_ble_eq_true rfl) dX1_init_31 ?_
  refine am_eqX (am_u X i (.inr (1, [.int x1, .int x2, .int 0, .null, .int 0, .int 0, .int 0, .int 1, .int 0, .int 0, .null]))) (am_uu _ _ _ _) ?_
  refine am_go hF sgX1_init_34_245fd 36 [(0, .ref i), (1, .int x1), (2, .int x2), (3, .int x3), (4, .ref dd), (5, .int x5), (6, .int x6), (7, .int x7)] [.int x3, .ref i] sgX1_init_34_245fdd rfl ?_
  refine am_putf hF (am_us _ _ _) (T := TX1) (N := 11) rfl (inG 1 inG1) tyX1 tyX1_ok nmX1 2 (by decide) (List.mem_cons_of_mem _ lf_RX1_31) rfl (Or.inr ⟨rfl, hname.symm, rfl⟩) rfl rfl (Nat.le_of_ble_eq_true rfl) dX1_init_36 ?_
  refine am_eqX (am_u X i (.inr (1, [.int x1, .int x2, .int x3, .null, .int 0, .int 0, .int 0, .int 1, .int 0, .int 0, .null]))) (am_uu _ _ _ _) ?_
  refine am_go hF sgX1_init_39_2c84d 42 [(0, .ref i), (1, .int x1), (2, .int x2), (3, .int x3), (4, .ref dd), (5, .int x5), (6, .int x6), (7, .int x7)] [.ref dd, .ref i] sgX1_init_39_2c84dd rfl ?_
  refine am_putf hF (am_us _ _ _) (T := TX1) (N := 11) rfl (inG 1 inG1) tyX1 tyX1_ok nmX1 3 (by decide) (List.mem_cons_of_mem _ lf_RX1_34) rfl (Or.inr ⟨rfl, hname.symm, rfl⟩) rfl rfl (Nat.le_of_ble_eq_true rfl) dX1_init_42 ?_
  refine am_eqX (am_u X i (.inr (1, [.int x1, .int x2, .int x3, .ref dd, .int 0, .int 0, .int 0, .int 1, .int 0, .int 0, .null]))) (am_uu _ _ _ _) ?_
  refine am_go hF sgX1_init_45_101e7 48 [(0, .ref i), (1, .int x1), (2, .int x2), (3, .int x3), (4, .ref dd), (5, .int x5), (6, .int x6), (7, .int x7)] [.int x5, .ref i] sgX1_init_45_101e7d rfl ?_
  refine am_putf hF (am_us _ _ _) (T := TX1) (N := 11) rfl (inG 1 inG1) tyX1 tyX1_ok nmX1 4 (by decide) (List.mem_cons_of_mem _ lf_RX1_38) rfl (Or.inr ⟨rfl, hname.symm, rfl⟩) rfl rfl (Nat.le_of_ble_eq_true rfl) dX1_init_48 ?_
  refine am_eqX (am_u X i (.inr (1, [.int x1, .int x2, .int x3, .ref dd, .int x5, .int 0, .int 0, .int 1, .int 0, .int 0, .null]))) (am_uu _ _ _ _) ?_
  refine am_go hF sgX1_init_51_5775c 54 [(0, .ref i), (1, .int x1), (2, .int x2), (3, .int x3), (4, .ref dd), (5, .int x5), (6, .int x6), (7, .int x7)] [.int x6, .ref i] sgX1_init_51_5775cd rfl ?_
  refine am_putf hF (am_us _ _ _) (T := TX1) (N := 11) rfl (inG 1 inG1) tyX1 tyX1_ok nmX1 5 (by decide) (List.mem_cons_of_mem _ lf_RX1_41) rfl (Or.inr ⟨rfl, hname.symm, rfl⟩) rfl rfl (Nat.le_of_ble_eq_true rfl) dX1_init_54 ?_
  refine am_eqX (am_u X i (.inr (1, [.int x1, .int x2, .int x3, .ref dd, .int x5, .int x6, .int 0, .int 1, .int 0, .int 0, .null]))) (am_uu _ _ _ _) ?_
  refine am_go hF sgX1_init_57_2c84d 60 [(0, .ref i), (1, .int x1), (2, .int x2), (3, .int x3), (4, .ref dd), (5, .int x5), (6, .int x6), (7, .int x7)] [.ref dd, .ref i] sgX1_init_57_2c84dd rfl ?_
  refine am_getf hF (am_un (show dd ≠ i by omega) hD) (T := TX4) (N := 5) rfl (inG 4 inG4) 0 (by decide) (List.mem_cons_of_mem _ lf_RX1_44) rfl (.int y) rfl dX1_init_60 ?_
  refine am_go hF sgX1_init_63_f2bd9 66 [(0, .ref i), (1, .int x1), (2, .int x2), (3, .int x3), (4, .ref dd), (5, .int x5), (6, .int x6), (7, .int x7)] [.int (y + x7), .ref i] sgX1_init_63_f2bd9d rfl ?_
  refine am_putf hF (am_us _ _ _) (T := TX1) (N := 11) rfl (inG 1 inG1) tyX1 tyX1_ok nmX1 6 (by decide) (List.mem_cons_of_mem _ lf_RX1_47) rfl (Or.inr ⟨rfl, hname.symm, rfl⟩) rfl rfl (Nat.le_of_ble_eq_true rfl) dX1_init_66 ?_
  refine am_eqX (am_u X i (.inr (1, [.int x1, .int x2, .int x3, .ref dd, .int x5, .int x6, .int (y + x7), .int 1, .int 0, .int 0, .null]))) (am_uu _ _ _ _) ?_
  exact am_vret hF hO hret dX1_init_69 ⟨rfl, rfl⟩
set_option maxRecDepth 100000 in
set_option maxHeartbeats 4000000 in
theorem c_newP {G : am_S} {X : am_H} {i j : Nat} (hX : X i = some (.inr (3, [.int 0, .int 0, .int 0, .null, .int 0]))) (hj : X j = none) (hij : j ≠ i) (hcl : am_cl X) : am_D G yX3_init (.code yX3_init cX3_init 1 none :: am_G) { frames := 1, cells := 1, slots := 10, locals := 20 } X [.ref i] (am_u (am_u X j (.inl (0, 10, .inl (fun _ => 0)))) i (.inr (3, [.int 0, .int 0, .int 0, .ref j, .int 0]))) none := by
  refine am_of (by decide +kernel) (Nat.le_of_ble_eq_true rfl) ?_
  intro C hse hret hname hF hO
  subst hse
  refine am_go hF sgX3_init_0_34db8 1 [(0, .ref i)] [.ref i] sgX3_init_0_34db8d rfl ?_
  refine am_oinit hF hO (List.mem_cons_of_mem _ lm_RX3_3) (List.mem_cons_of_mem _ lo_inst) (List.mem_cons_of_mem _ lo_code) ⟨Nat.le_of_ble_eq_true rfl, Nat.le_of_ble_eq_true rfl⟩ dX3_init_1 ?_
  refine am_go hF sgX3_init_4_9cf18 6 [(0, .ref i)] [.int 0, .ref i] sgX3_init_4_9cf18d rfl ?_
  refine am_putf hF hX (T := TX3) (N := 5) rfl (inG 3 inG3) tyX3 tyX3_ok nmX3 0 (by decide) (List.mem_cons_of_mem _ lf_RX3_9) rfl (Or.inl rfl) rfl rfl (Nat.le_of_ble_eq_true rfl) dX3_init_6 ?_
  refine am_eqX (am_u X i (.inr (3, [.int 0, .int 0, .int 0, .null, .int 0]))) (rfl) ?_
  refine am_go hF sgX3_init_9_9cf18 11 [(0, .ref i)] [.int 0, .ref i] sgX3_init_9_9cf18d rfl ?_
  refine am_putf hF (am_us _ _ _) (T := TX3) (N := 5) rfl (inG 3 inG3) tyX3 tyX3_ok nmX3 1 (by decide) (List.mem_cons_of_mem _ lf_RX3_15) rfl (Or.inl rfl) rfl rfl (Nat.le_of_ble_eq_true rfl) dX3_init_11 ?_
  refine am_eqX (am_u X i (.inr (3, [.int 0, .int 0, .int 0, .null, .int 0]))) (am_uu _ _ _ _) ?_
  refine am_go hF sgX3_init_14_9cf18 16 [(0, .ref i)] [.int 0, .ref i] sgX3_init_14_9cf18d rfl ?_
  refine am_putf hF (am_us _ _ _) (T := TX3) (N := 5) rfl (inG 3 inG3) tyX3 tyX3_ok nmX3 2 (by decide) (List.mem_cons_of_mem _ lf_RX3_18) rfl (Or.inl rfl) rfl rfl (Nat.le_of_ble_eq_true rfl) dX3_init_16 ?_
  refine am_eqX (am_u X i (.inr (3, [.int 0, .int 0, .int 0, .null, .int 0]))) (am_uu _ _ _ _) ?_
  refine am_go hF sgX3_init_19_a1289 22 [(0, .ref i)] [.int 10, .ref i] sgX3_init_19_a1289d rfl ?_
  have hi22 : (am_u X i (.inr (3, [.int 0, .int 0, .int 0, .null, .int 0]))) j = none := (am_un (show j ≠ i by omega) hj)
  refine am_newa hF hO (j) hi22 0 10 (a0 := (10, .inl (fun _ => 0))) (atype := .int) (by decide) rfl (List.mem_cons_of_mem _ la_int) (fun _ => rfl) (fun _ => rfl) rfl (by decide) (am_cl_fr (am_cl_u (i := i) (e := (.inr (3, [.int 0, .int 0, .int 0, .null, .int 0]))) hcl (fun r hr => by simp [am_mn] at hr)) hi22) (am_nr_c (fun h => (show ¬ (i = j) by omega) (Value.ref.inj h)) (am_nr_c (fun h => (show ¬ (i = j) by omega) (Value.ref.inj h)) am_nr_nil)) 1 10 ⟨Nat.le_of_ble_eq_true rfl, Nat.le_of_ble_eq_true rfl, Nat.le_of_ble_eq_true rfl, Nat.le_of_ble_eq_true rfl⟩ dX3_init_22 ?_
  refine am_putf hF (am_un (show i ≠ j by omega) (am_us _ _ _)) (T := TX3) (N := 5) rfl (inG 3 inG3) tyX3 tyX3_ok nmX3 3 (by decide) (List.mem_cons_of_mem _ lf_RX3_21) rfl (Or.inr ⟨rfl, hname.symm, rfl⟩) rfl rfl (Nat.le_of_ble_eq_true rfl) dX3_init_24 ?_
  refine am_eqX (am_u (am_u (am_u X i (.inr (3, [.int 0, .int 0, .int 0, .null, .int 0]))) j (.inl (0, 10, .inl (fun _ => 0)))) i (.inr (3, [.int 0, .int 0, .int 0, .ref j, .int 0]))) (rfl) ?_
  refine am_go hF sgX3_init_27_9cf18 29 [(0, .ref i)] [.int 0, .ref i] sgX3_init_27_9cf18d rfl ?_
  refine am_putf hF (am_us _ _ _) (T := TX3) (N := 5) rfl (inG 3 inG3) tyX3 tyX3_ok nmX3 4 (by decide) (List.mem_cons_of_mem _ lf_RX3_25) rfl (Or.inl rfl) rfl rfl (Nat.le_of_ble_eq_true rfl) dX3_init_29 ?_
  refine am_eqX (am_u (am_u (am_u X i (.inr (3, [.int 0, .int 0, .int 0, .null, .int 0]))) j (.inl (0, 10, .inl (fun _ => 0)))) i (.inr (3, [.int 0, .int 0, .int 0, .ref j, .int 0]))) (am_uu _ _ _ _) ?_
  exact am_vret hF hO hret dX3_init_32 ⟨am_ub _ _ _ _ _ _, rfl⟩
set_option maxRecDepth 100000 in
set_option maxHeartbeats 4000000 in
theorem c_newD {G : am_S} {X : am_H} {i j q : Nat} {x : Int32} (hX : X i = some (.inr (4, [.int 0, .null, .null, .int 0, .int 0]))) (hj : X j = none) (hq : X q = none) (hij : j ≠ i) (hiq : q ≠ i) (hjq : q ≠ j) (hcl : am_cl X) : am_D G yX4_init (.code yX4_init cX4_init 2 none :: am_G) { frames := 1, cells := 2, slots := 20, locals := 20 } X [.ref i, .int x] (am_u (am_u (am_u X j (.inl (0, 10, .inl (fun _ => 0)))) q (.inl (0, 10, .inl (fun _ => 0)))) i (.inr (4, [.int x, .ref j, .ref q, .int 0, .int 0]))) none := by
  refine am_of (by decide +kernel) (Nat.le_of_ble_eq_true rfl) ?_
  intro C hse hret hname hF hO
  subst hse
  refine am_go hF sgX4_init_0_34db8 1 [(0, .ref i), (1, .int x)] [.ref i] sgX4_init_0_34db8d rfl ?_
  refine am_oinit hF hO (List.mem_cons_of_mem _ lm_RX4_3) (List.mem_cons_of_mem _ lo_inst) (List.mem_cons_of_mem _ lo_code) ⟨Nat.le_of_ble_eq_true rfl, Nat.le_of_ble_eq_true rfl⟩ dX4_init_1 ?_
  refine am_go hF sgX4_init_4_a1289 7 [(0, .ref i), (1, .int x)] [.int 10, .ref i] sgX4_init_4_a1289d rfl ?_
  have hi7 : X j = none := hj
  refine am_newa hF hO (j) hi7 0 10 (a0 := (10, .inl (fun _ => 0))) (atype := .int) (by decide) rfl (List.mem_cons_of_mem _ la_int) (fun _ => rfl) (fun _ => rfl) rfl (by decide) (am_cl_fr hcl hi7) (am_nr_c (fun h => (show ¬ (i = j) by omega) (Value.ref.inj h)) (am_nr_c (fun h => by cases h) (am_nr_c (fun h => (show ¬ (i = j) by omega) (Value.ref.inj h)) am_nr_nil))) 1 10 ⟨Nat.le_of_ble_eq_true rfl, Nat.le_of_ble_eq_true rfl, Nat.le_of_ble_eq_true rfl, Nat.le_of_ble_eq_true rfl⟩ dX4_init_7 ?_
  refine am_putf hF (am_un (show i ≠ j by omega) hX) (T := TX4) (N := 5) rfl (inG 4 inG4) tyX4 tyX4_ok nmX4 1 (by decide) (List.mem_cons_of_mem _ lf_RX4_9) rfl (Or.inr ⟨rfl, hname.symm, rfl⟩) rfl rfl (Nat.le_of_ble_eq_true rfl) dX4_init_9 ?_
  refine am_eqX (am_u (am_u X j (.inl (0, 10, .inl (fun _ => 0)))) i (.inr (4, [.int 0, .ref j, .null, .int 0, .int 0]))) (rfl) ?_
  refine am_go hF sgX4_init_12_a1289 15 [(0, .ref i), (1, .int x)] [.int 10, .ref i] sgX4_init_12_a1289d rfl ?_
  have hi15 : (am_u (am_u X j (.inl (0, 10, .inl (fun _ => 0)))) i (.inr (4, [.int 0, .ref j, .null, .int 0, .int 0]))) q = none := (am_un (show q ≠ i by omega) (am_un (show q ≠ j by omega) hq))
  refine am_newa hF hO (q) hi15 0 10 (a0 := (10, .inl (fun _ => 0))) (atype := .int) (by decide) rfl (List.mem_cons_of_mem _ la_int) (fun _ => rfl) (fun _ => rfl) rfl (by decide) (am_cl_fr (am_cl_u (i := i) (e := (.inr (4, [.int 0, .ref j, .null, .int 0, .int 0]))) (am_cl_u (i := j) (e := (.inl (0, 10, .inl (fun _ => 0)))) hcl (fun r hr => am_mi hr)) (fun r hr => by simp only [am_mn, List.mem_cons, List.not_mem_nil, or_false, Value.ref.injEq, reduceCtorEq, false_or] at hr; exact (by rw [hr]; exact Or.inr (by rw [(am_us _ _ _)]; exact Option.some_ne_none _)))) hi15) (am_nr_c (fun h => (show ¬ (i = q) by omega) (Value.ref.inj h)) (am_nr_c (fun h => by cases h) (am_nr_c (fun h => (show ¬ (i = q) by omega) (Value.ref.inj h)) am_nr_nil))) 2 20 ⟨Nat.le_of_ble_eq_true rfl, Nat.le_of_ble_eq_true rfl, Nat.le_of_ble_eq_true rfl, Nat.le_of_ble_eq_true rfl⟩ dX4_init_15 ?_
  refine am_putf hF (am_un (show i ≠ q by omega) (am_us _ _ _)) (T := TX4) (N := 5) rfl (inG 4 inG4) tyX4 tyX4_ok nmX4 2 (by decide) (List.mem_cons_of_mem _ lf_RX4_15) rfl (Or.inr ⟨rfl, hname.symm, rfl⟩) rfl rfl (Nat.le_of_ble_eq_true rfl) dX4_init_17 ?_
  refine am_eqX (am_u (am_u (am_u (am_u X j (.inl (0, 10, .inl (fun _ => 0)))) i (.inr (4, [.int 0, .ref j, .null, .int 0, .int 0]))) q (.inl (0, 10, .inl (fun _ => 0)))) i (.inr (4, [.int 0, .ref j, .ref q, .int 0, .int 0]))) (rfl) ?_
  refine am_go hF sgX4_init_20_9cf18 22 [(0, .ref i), (1, .int x)] [.int 0, .ref i] sgX4_init_20_9cf18d rfl ?_
  refine am_putf hF (am_us _ _ _) (T := TX4) (N := 5) rfl (inG 4 inG4) tyX4 tyX4_ok nmX4 3 (by decide) (List.mem_cons_of_mem _ lf_RX4_18) rfl (Or.inl rfl) rfl rfl (Nat.le_of_ble_eq_true rfl) dX4_init_22 ?_
  refine am_eqX (am_u (am_u (am_u (am_u X j (.inl (0, 10, .inl (fun _ => 0)))) i (.inr (4, [.int 0, .ref j, .null, .int 0, .int 0]))) q (.inl (0, 10, .inl (fun _ => 0)))) i (.inr (4, [.int 0, .ref j, .ref q, .int 0, .int 0]))) (am_uu _ _ _ _) ?_
  refine am_go hF sgX4_init_25_9cf18 27 [(0, .ref i), (1, .int x)] [.int 0, .ref i] sgX4_init_25_9cf18d rfl ?_
  refine am_putf hF (am_us _ _ _) (T := TX4) (N := 5) rfl (inG 4 inG4) tyX4 tyX4_ok nmX4 4 (by decide) (List.mem_cons_of_mem _ lf_RX4_22) rfl (Or.inl rfl) rfl rfl (Nat.le_of_ble_eq_true rfl) dX4_init_27 ?_
  refine am_eqX (am_u (am_u (am_u (am_u X j (.inl (0, 10, .inl (fun _ => 0)))) i (.inr (4, [.int 0, .ref j, .null, .int 0, .int 0]))) q (.inl (0, 10, .inl (fun _ => 0)))) i (.inr (4, [.int 0, .ref j, .ref q, .int 0, .int 0]))) (am_uu _ _ _ _) ?_
  refine am_go hF sgX4_init_30_8bcf7 32 [(0, .ref i), (1, .int x)] [.int x, .ref i] sgX4_init_30_8bcf7d rfl ?_
  refine am_putf hF (am_us _ _ _) (T := TX4) (N := 5) rfl (inG 4 inG4) tyX4 tyX4_ok nmX4 0 (by decide) (List.mem_cons_of_mem _ lf_RX4_26) rfl (Or.inr ⟨rfl, hname.symm, rfl⟩) rfl rfl (Nat.le_of_ble_eq_true rfl) dX4_init_32 ?_
  refine am_eqX (am_u (am_u (am_u (am_u X j (.inl (0, 10, .inl (fun _ => 0)))) i (.inr (4, [.int 0, .ref j, .null, .int 0, .int 0]))) q (.inl (0, 10, .inl (fun _ => 0)))) i (.inr (4, [.int x, .ref j, .ref q, .int 0, .int 0]))) (am_uu _ _ _ _) ?_
  exact am_vret hF hO hret dX4_init_35 ⟨am_ub _ _ _ _ _ _, rfl⟩
set_option maxRecDepth 100000 in
set_option maxHeartbeats 4000000 in
theorem c_fpd_y {G : am_S} {X : am_H} {T : am_T} {v : Nat} {x : Int32} (hv : T 2 0 = nI v) (hv80 : v ≤ 80) (g0 : X 0 = some (.inr (5, tMain T))) (g5 : X 5 = some (.inl (5, 80, .inr (.inr (.inr (.inr (fun j => if j < tN T 2 then some (224 + j) else none))))))) (g24 : ∀ j, j < v → X (224 + j) = some (.inr (4, tDay T j))) {j : Nat} (hj : j < v) (hx : T 33 j = x) (h0 : ∀ i, i < j → ¬ T 33 i = x) : am_D G yX5_findPostDay (.code yX5_findPostDay cX5_findPostDay 3 (some (.object "MailPriory$PostDay")) :: am_G) { frames := 0, cells := 0, slots := 0, locals := 0 } X [.ref 0, .int x] X (some (.ref (224 + j))) := by
  refine am_of (by decide +kernel) (Nat.le_of_ble_eq_true rfl) ?_
  intro C hse hret hname hF hO
  subst hse
  refine am_go hF sgX5_findPostDay_0_01fef 2 [(2, .int 0), (0, .ref 0), (1, .int x)] [] sgX5_findPostDay_0_01fefd rfl ?_
  refine am_drop [1, 2, 0] [(0, .ref 0), (1, .int x), (2, .int 0)] rfl ?_
  have lp2 : ∀ (d i : Nat), i + d = j → am_W C X 0 0 2 [(0, .ref 0), (1, .int x), (2, .int (nI i))] [] := by
    intro d
    induction d with
    | zero =>
      intro i hi
      refine am_go hF sgX5_findPostDay_2_14491 4 [(0, .ref 0), (1, .int x), (2, .int (nI i))] [.ref 0, .int (nI i)] sgX5_findPostDay_2_14491d rfl ?_
      refine am_getf hF g0 (T := TX5) (N := 9) rfl (inG 5 inG5) 7 (by decide) (List.mem_cons_of_mem _ lf_RX5_44) rfl (.int (T 2 0)) rfl dX5_findPostDay_4 ?_
      refine am_top (nI v) hv ?_
      refine am_icmpge hF 36 dX5_findPostDay_7 (by decide) (fun h9 => False.elim (nc_lt_f (show i < v by omega) (by omega) (by omega) rfl rfl h9)) (fun _ => ?_)
      refine am_go hF sgX5_findPostDay_10_34db8 11 [(0, .ref 0), (1, .int x), (2, .int (nI i))] [.ref 0] sgX5_findPostDay_10_34db8d rfl ?_
      refine am_getf hF g0 (T := TX5) (N := 9) rfl (inG 5 inG5) 6 (by decide) (List.mem_cons_of_mem _ lf_RX5_40) rfl (.ref 5) rfl dX5_findPostDay_11 ?_
      refine am_go hF sgX5_findPostDay_14_f8a59 15 [(0, .ref 0), (1, .int x), (2, .int (nI i))] [.int (nI i), .ref 5] sgX5_findPostDay_14_f8a59d rfl ?_
      refine am_aald hF g5 (by decide) rfl i rfl (show i < 80 by omega) (by decide) (.ref (224 + i)) (by rw [if_pos (by rw [tN_eq hv (by omega)]; omega)]; rfl) dX5_findPostDay_15 ?_
      refine am_getf hF (g24 i (by omega)) (T := TX4) (N := 5) rfl (inG 4 inG4) 0 (by decide) (List.mem_cons_of_mem _ lf_RX5_316) rfl (.int (T 33 i)) rfl dX5_findPostDay_16 ?_
      refine am_go hF sgX5_findPostDay_19_840bf 20 [(0, .ref 0), (1, .int x), (2, .int (nI i))] [.int x, .int (T 33 i)] sgX5_findPostDay_19_840bfd rfl ?_
      refine am_icmpne hF 30 dX5_findPostDay_20 (by decide) (fun h9 => False.elim (absurd (by rw [show i = j by omega]; exact hx) h9)) (fun _ => ?_)
      refine am_go hF sgX5_findPostDay_23_34db8 24 [(0, .ref 0), (1, .int x), (2, .int (nI i))] [.ref 0] sgX5_findPostDay_23_34db8d rfl ?_
      refine am_getf hF g0 (T := TX5) (N := 9) rfl (inG 5 inG5) 6 (by decide) (List.mem_cons_of_mem _ lf_RX5_40) rfl (.ref 5) rfl dX5_findPostDay_24 ?_
      refine am_go hF sgX5_findPostDay_27_f8a59 28 [(0, .ref 0), (1, .int x), (2, .int (nI i))] [.int (nI i), .ref 5] sgX5_findPostDay_27_f8a59d rfl ?_
      refine am_aald hF g5 (by decide) rfl i rfl (show i < 80 by omega) (by decide) (.ref (224 + i)) (by rw [if_pos (by rw [tN_eq hv (by omega)]; omega)]; rfl) dX5_findPostDay_28 ?_
      exact am_aret hF hO hret (Or.inl ⟨_, rfl⟩) (Or.inr ⟨_, rfl⟩) dX5_findPostDay_29 ⟨rfl, by rw [show i = j by omega]⟩
    | succ d ih2 =>
      intro i hi
      refine am_go hF sgX5_findPostDay_2_14491 4 [(0, .ref 0), (1, .int x), (2, .int (nI i))] [.ref 0, .int (nI i)] sgX5_findPostDay_2_14491d rfl ?_
      refine am_getf hF g0 (T := TX5) (N := 9) rfl (inG 5 inG5) 7 (by decide) (List.mem_cons_of_mem _ lf_RX5_44) rfl (.int (T 2 0)) rfl dX5_findPostDay_4 ?_
      refine am_top (nI v) hv ?_
      refine am_icmpge hF 36 dX5_findPostDay_7 (by decide) (fun h9 => False.elim (nc_lt_f (show i < v by omega) (by omega) (by omega) rfl rfl h9)) (fun _ => ?_)
      refine am_go hF sgX5_findPostDay_10_34db8 11 [(0, .ref 0), (1, .int x), (2, .int (nI i))] [.ref 0] sgX5_findPostDay_10_34db8d rfl ?_
      refine am_getf hF g0 (T := TX5) (N := 9) rfl (inG 5 inG5) 6 (by decide) (List.mem_cons_of_mem _ lf_RX5_40) rfl (.ref 5) rfl dX5_findPostDay_11 ?_
      refine am_go hF sgX5_findPostDay_14_f8a59 15 [(0, .ref 0), (1, .int x), (2, .int (nI i))] [.int (nI i), .ref 5] sgX5_findPostDay_14_f8a59d rfl ?_
      refine am_aald hF g5 (by decide) rfl i rfl (show i < 80 by omega) (by decide) (.ref (224 + i)) (by rw [if_pos (by rw [tN_eq hv (by omega)]; omega)]; rfl) dX5_findPostDay_15 ?_
      refine am_getf hF (g24 i (by omega)) (T := TX4) (N := 5) rfl (inG 4 inG4) 0 (by decide) (List.mem_cons_of_mem _ lf_RX5_316) rfl (.int (T 33 i)) rfl dX5_findPostDay_16 ?_
      refine am_go hF sgX5_findPostDay_19_840bf 20 [(0, .ref 0), (1, .int x), (2, .int (nI i))] [.int x, .int (T 33 i)] sgX5_findPostDay_19_840bfd rfl ?_
      refine am_icmpne hF 30 dX5_findPostDay_20 (by decide) (fun _ => ?_) (fun h9 => False.elim (absurd h9 (h0 i (by omega))))
      refine am_go hF sgX5_findPostDay_30_8f3dc 2 [(2, .int ((nI i) + 1)), (0, .ref 0), (1, .int x)] [] sgX5_findPostDay_30_8f3dcd rfl ?_
      refine am_eqL [(2, .int (nI (i + 1))), (0, .ref 0), (1, .int x)] (by rw [nI_1]) ?_
      refine am_drop [1, 2, 0] [(0, .ref 0), (1, .int x), (2, .int (nI (i + 1)))] rfl ?_
      exact ih2 (i + 1) (by omega)
  exact lp2 j 0 (by omega)
set_option maxRecDepth 100000 in
set_option maxHeartbeats 4000000 in
theorem c_fpd_n {G : am_S} {X : am_H} {T : am_T} {v : Nat} {x : Int32} (hv : T 2 0 = nI v) (hv80 : v ≤ 80) (g0 : X 0 = some (.inr (5, tMain T))) (g5 : X 5 = some (.inl (5, 80, .inr (.inr (.inr (.inr (fun j => if j < tN T 2 then some (224 + j) else none))))))) (g24 : ∀ j, j < v → X (224 + j) = some (.inr (4, tDay T j))) (h0 : ∀ i, i < v → ¬ T 33 i = x) : am_D G yX5_findPostDay (.code yX5_findPostDay cX5_findPostDay 3 (some (.object "MailPriory$PostDay")) :: am_G) { frames := 0, cells := 0, slots := 0, locals := 0 } X [.ref 0, .int x] X (some .null) := by
  refine am_of (by decide +kernel) (Nat.le_of_ble_eq_true rfl) ?_
  intro C hse hret hname hF hO
  subst hse
  refine am_go hF sgX5_findPostDay_0_01fef 2 [(2, .int 0), (0, .ref 0), (1, .int x)] [] sgX5_findPostDay_0_01fefd rfl ?_
  refine am_drop [1, 2, 0] [(0, .ref 0), (1, .int x), (2, .int 0)] rfl ?_
  have lp2 : ∀ (d i : Nat), i + d = v → am_W C X 0 0 2 [(0, .ref 0), (1, .int x), (2, .int (nI i))] [] := by
    intro d
    induction d with
    | zero =>
      intro i hi
      refine am_go hF sgX5_findPostDay_2_14491 4 [(0, .ref 0), (1, .int x), (2, .int (nI i))] [.ref 0, .int (nI i)] sgX5_findPostDay_2_14491d rfl ?_
      refine am_getf hF g0 (T := TX5) (N := 9) rfl (inG 5 inG5) 7 (by decide) (List.mem_cons_of_mem _ lf_RX5_44) rfl (.int (T 2 0)) rfl dX5_findPostDay_4 ?_
      refine am_top (nI v) hv ?_
      refine am_icmpge hF 36 dX5_findPostDay_7 (by decide) (fun _ => ?_) (fun h9 => False.elim (absurd (nc_ge (show v ≤ i by omega) (by omega) (by omega) rfl rfl) h9))
      refine am_go hF sgX5_findPostDay_36_380b8 37 [(0, .ref 0), (1, .int x), (2, .int (nI i))] [.null] sgX5_findPostDay_36_380b8d rfl ?_
      exact am_aret hF hO hret (Or.inl ⟨_, rfl⟩) (Or.inl rfl) dX5_findPostDay_37 ⟨rfl, rfl⟩
    | succ d ih2 =>
      intro i hi
      refine am_go hF sgX5_findPostDay_2_14491 4 [(0, .ref 0), (1, .int x), (2, .int (nI i))] [.ref 0, .int (nI i)] sgX5_findPostDay_2_14491d rfl ?_
      refine am_getf hF g0 (T := TX5) (N := 9) rfl (inG 5 inG5) 7 (by decide) (List.mem_cons_of_mem _ lf_RX5_44) rfl (.int (T 2 0)) rfl dX5_findPostDay_4 ?_
      refine am_top (nI v) hv ?_
      refine am_icmpge hF 36 dX5_findPostDay_7 (by decide) (fun h9 => False.elim (nc_lt_f (show i < v by omega) (by omega) (by omega) rfl rfl h9)) (fun _ => ?_)
      refine am_go hF sgX5_findPostDay_10_34db8 11 [(0, .ref 0), (1, .int x), (2, .int (nI i))] [.ref 0] sgX5_findPostDay_10_34db8d rfl ?_
      refine am_getf hF g0 (T := TX5) (N := 9) rfl (inG 5 inG5) 6 (by decide) (List.mem_cons_of_mem _ lf_RX5_40) rfl (.ref 5) rfl dX5_findPostDay_11 ?_
      refine am_go hF sgX5_findPostDay_14_f8a59 15 [(0, .ref 0), (1, .int x), (2, .int (nI i))] [.int (nI i), .ref 5] sgX5_findPostDay_14_f8a59d rfl ?_
      refine am_aald hF g5 (by decide) rfl i rfl (show i < 80 by omega) (by decide) (.ref (224 + i)) (by rw [if_pos (by rw [tN_eq hv (by omega)]; omega)]; rfl) dX5_findPostDay_15 ?_
      refine am_getf hF (g24 i (by omega)) (T := TX4) (N := 5) rfl (inG 4 inG4) 0 (by decide) (List.mem_cons_of_mem _ lf_RX5_316) rfl (.int (T 33 i)) rfl dX5_findPostDay_16 ?_
      refine am_go hF sgX5_findPostDay_19_840bf 20 [(0, .ref 0), (1, .int x), (2, .int (nI i))] [.int x, .int (T 33 i)] sgX5_findPostDay_19_840bfd rfl ?_
      refine am_icmpne hF 30 dX5_findPostDay_20 (by decide) (fun _ => ?_) (fun h9 => False.elim (absurd h9 (h0 i (by omega))))
      refine am_go hF sgX5_findPostDay_30_8f3dc 2 [(2, .int ((nI i) + 1)), (0, .ref 0), (1, .int x)] [] sgX5_findPostDay_30_8f3dcd rfl ?_
      refine am_eqL [(2, .int (nI (i + 1))), (0, .ref 0), (1, .int x)] (by rw [nI_1]) ?_
      refine am_drop [1, 2, 0] [(0, .ref 0), (1, .int x), (2, .int (nI (i + 1)))] rfl ?_
      exact ih2 (i + 1) (by omega)
  exact lp2 v 0 (by omega)
