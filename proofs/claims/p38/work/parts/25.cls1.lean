/-! the class's leaves -/
def zb (b : Bool) : Int32 := if b = true then 1 else 0
theorem zb_t {b : Bool} (h : b = true) : zb b = 1 := if_pos h
theorem zb_f {b : Bool} (h : b = false) : zb b = 0 := by rw [h]; rfl
theorem zb_0 {b : Bool} : zb b = 0 ↔ b = false := by cases b <;> decide
theorem zb_1 {b : Bool} : zb b = 1 ↔ b = true := by cases b <;> decide
theorem zb_p {b : Bool} : ¬ zb b = 0 ↔ b = true := by cases b <;> decide
theorem zb_n0 {b : Bool} : zb (!b) = 0 ↔ b = true := by cases b <;> decide
theorem zb_np {b : Bool} : ¬ zb (!b) = 0 ↔ b = false := by cases b <;> decide
theorem zb_n (b : Bool) : narrow .boolean (.int (zb b)) = .int (zb b) := by cases b <;> rfl
theorem bt_n0 {x : Int32} {k : Nat} (hk : k < 32) (h : ¬ (x >>> (nI k &&& 31)) &&& 1 = 0) : bt x k = true := by
  cases h9 : bt x k with
  | true => rfl
  | false => exact absurd ((bt_iff0 hk).mpr h9) h
theorem st1_id (S : am_T) (f j : Nat) : st1 S f j (S f j) = S := by
  funext a
  unfold st1
  by_cases h : a = f
  · subst h
    rw [if_pos rfl]
    funext i
    unfold upd
    by_cases h2 : i = j
    · rw [if_pos h2, h2]
    · rw [if_neg h2]
  · rw [if_neg h]
theorem am_ldcw {C : am_Cx} {X : am_H} {k n pc : Nat} {L : List (Nat × Value)} {st : List Value} {cc : ByteArray} {nL : Nat} {own : String} {Ts : List Cond} (hF : am_F C cc nL own Ts) {index : Nat} (v : Int32) (hw : Jvm.Cond.constant own index v ∈ Ts) (hd : decode cc pc = .ok (.ldc_w index, 3)) (kk : am_W C X k n (pc + 3) L (.int v :: st)) : am_W C X k n pc L st := fun ad H locs ls h1 h2 h3 h4 => lv_ldcw hF.1.1 hF.1.2.1 hF.1.2.2.2.1 (hF.1.2.2.2.2 _ hw) hd (kk ad H locs ls h1 h2 h3 h4)
theorem lmin : Cond.methodLink RX5 360 Lib.Math.min.name ∈ am_G := am_wd 588 (by decide +kernel) (by decide +kernel)
theorem smin : Cond.static Lib.Math.min.name ∈ am_G := am_wd 589 (by decide +kernel) (by decide +kernel)
theorem omin : Cond.code Lib.Math.min.name Lib.Math.min.code 2 (some .int) ∈ am_G := am_wd 590 (by decide +kernel) (by decide +kernel)
theorem zmin : Cond.initialized "java/lang/Math" ∈ am_G := am_wd 37 (by decide +kernel) (by decide +kernel)
theorem lm_ac : Cond.methodLink RX3 32 arraycopyName ∈ am_G := am_wd 599 (by decide +kernel) (by decide +kernel)
theorem sac : Cond.static arraycopyName ∈ am_G := am_wd 600 (by decide +kernel) (by decide +kernel)
theorem nac : Cond.native arraycopyName ∈ am_G := am_wd 601 (by decide +kernel) (by decide +kernel)
theorem lz_sys : Cond.initialized "java/lang/System" ∈ am_G := am_wd 40 (by decide +kernel) (by decide +kernel)
/-- the class's own functions of its state -/
def bc (x : Int32) : Int32 := (((((((x - (((x.toUInt32 >>> ((1 : Int32).toUInt32 &&& Int32.toUInt32 31)).toInt32) &&& 1431655765)) &&& 858993459) + ((((x - (((x.toUInt32 >>> ((1 : Int32).toUInt32 &&& Int32.toUInt32 31)).toInt32) &&& 1431655765)).toUInt32 >>> ((2 : Int32).toUInt32 &&& Int32.toUInt32 31)).toInt32) &&& 858993459)) + (((((x - (((x.toUInt32 >>> ((1 : Int32).toUInt32 &&& Int32.toUInt32 31)).toInt32) &&& 1431655765)) &&& 858993459) + ((((x - (((x.toUInt32 >>> ((1 : Int32).toUInt32 &&& Int32.toUInt32 31)).toInt32) &&& 1431655765)).toUInt32 >>> ((2 : Int32).toUInt32 &&& Int32.toUInt32 31)).toInt32) &&& 858993459)).toUInt32 >>> ((4 : Int32).toUInt32 &&& Int32.toUInt32 31)).toInt32)) &&& 252645135) + (((((((x - (((x.toUInt32 >>> ((1 : Int32).toUInt32 &&& Int32.toUInt32 31)).toInt32) &&& 1431655765)) &&& 858993459) + ((((x - (((x.toUInt32 >>> ((1 : Int32).toUInt32 &&& Int32.toUInt32 31)).toInt32) &&& 1431655765)).toUInt32 >>> ((2 : Int32).toUInt32 &&& Int32.toUInt32 31)).toInt32) &&& 858993459)) + (((((x - (((x.toUInt32 >>> ((1 : Int32).toUInt32 &&& Int32.toUInt32 31)).toInt32) &&& 1431655765)) &&& 858993459) + ((((x - (((x.toUInt32 >>> ((1 : Int32).toUInt32 &&& Int32.toUInt32 31)).toInt32) &&& 1431655765)).toUInt32 >>> ((2 : Int32).toUInt32 &&& Int32.toUInt32 31)).toInt32) &&& 858993459)).toUInt32 >>> ((4 : Int32).toUInt32 &&& Int32.toUInt32 31)).toInt32)) &&& 252645135).toUInt32 >>> ((8 : Int32).toUInt32 &&& Int32.toUInt32 31)).toInt32)) + ((((((((x - (((x.toUInt32 >>> ((1 : Int32).toUInt32 &&& Int32.toUInt32 31)).toInt32) &&& 1431655765)) &&& 858993459) + ((((x - (((x.toUInt32 >>> ((1 : Int32).toUInt32 &&& Int32.toUInt32 31)).toInt32) &&& 1431655765)).toUInt32 >>> ((2 : Int32).toUInt32 &&& Int32.toUInt32 31)).toInt32) &&& 858993459)) + (((((x - (((x.toUInt32 >>> ((1 : Int32).toUInt32 &&& Int32.toUInt32 31)).toInt32) &&& 1431655765)) &&& 858993459) + ((((x - (((x.toUInt32 >>> ((1 : Int32).toUInt32 &&& Int32.toUInt32 31)).toInt32) &&& 1431655765)).toUInt32 >>> ((2 : Int32).toUInt32 &&& Int32.toUInt32 31)).toInt32) &&& 858993459)).toUInt32 >>> ((4 : Int32).toUInt32 &&& Int32.toUInt32 31)).toInt32)) &&& 252645135) + (((((((x - (((x.toUInt32 >>> ((1 : Int32).toUInt32 &&& Int32.toUInt32 31)).toInt32) &&& 1431655765)) &&& 858993459) + ((((x - (((x.toUInt32 >>> ((1 : Int32).toUInt32 &&& Int32.toUInt32 31)).toInt32) &&& 1431655765)).toUInt32 >>> ((2 : Int32).toUInt32 &&& Int32.toUInt32 31)).toInt32) &&& 858993459)) + (((((x - (((x.toUInt32 >>> ((1 : Int32).toUInt32 &&& Int32.toUInt32 31)).toInt32) &&& 1431655765)) &&& 858993459) + ((((x - (((x.toUInt32 >>> ((1 : Int32).toUInt32 &&& Int32.toUInt32 31)).toInt32) &&& 1431655765)).toUInt32 >>> ((2 : Int32).toUInt32 &&& Int32.toUInt32 31)).toInt32) &&& 858993459)).toUInt32 >>> ((4 : Int32).toUInt32 &&& Int32.toUInt32 31)).toInt32)) &&& 252645135).toUInt32 >>> ((8 : Int32).toUInt32 &&& Int32.toUInt32 31)).toInt32)).toUInt32 >>> ((16 : Int32).toUInt32 &&& Int32.toUInt32 31)).toInt32)) &&& 63
def tAw (T : am_T) (k : Nat) : Int32 := if T 32 k = 0 then 0 else T 29 k &&& (T 30 k ^^^ (-1)) &&& (T 31 k ^^^ (-1))
def tClose (T : am_T) (k : Nat) : am_T := st1 T 32 k (if T 28 k = 1 then 0 else T 32 k)
def tPut (T : am_T) (l p : Nat) (x : Int32) : am_T := st1 (st1 T 11 l (T 11 l ||| (1 : Int32) <<< (nI p &&& 31))) 12 l (if x = 0 then T 12 l ||| (1 : Int32) <<< (nI p &&& 31) else T 12 l &&& ((1 : Int32) <<< (nI p &&& 31) ^^^ (-1)))
def tDrop (T : am_T) (l p : Nat) : am_T := st1 (st1 T 11 l (T 11 l &&& ((1 : Int32) <<< (nI p &&& 31) ^^^ (-1)))) 12 l (T 12 l &&& ((1 : Int32) <<< (nI p &&& 31) ^^^ (-1)))
def tAdd (T : am_T) (j l p : Nat) : am_T := st1 (st1 T 34 (10 * j + l) (T 34 (10 * j + l) ||| (1 : Int32) <<< (nI p &&& 31))) 36 j (if T 37 j = 0 then T 36 j else T 36 j ||| (1 : Int32) <<< (nI l &&& 31))
def tSh (T : am_T) (p b : Nat) : am_T := fun a => if a = 9 then (fun i => if 10 * p ≤ i ∧ i < 10 * p + b then T 9 (i + 1) else T 9 i) else T a
theorem am_csh {T : am_T} {p i b : Nat} (hb : b + 1 ≤ 10) (hi : ¬ i = 32 + p) (h : 32 ≤ i) : (some (am_i (fun j9 => if j9 < 10 then T 9 (10 * (i - 32) + j9) else 0) 10) : Option va_E) = some (am_i (fun j9 => if j9 < 10 then tSh T p b 9 (10 * (i - 32) + j9) else 0) 10) := by
  have e : (fun j9 => if j9 < 10 then tSh T p b 9 (10 * (i - 32) + j9) else 0) = (fun j9 => if j9 < 10 then T 9 (10 * (i - 32) + j9) else 0) := by
    funext j9
    by_cases h9 : j9 < 10
    · rw [if_pos h9, if_pos h9]
      show (if 10 * p ≤ 10 * (i - 32) + j9 ∧ 10 * (i - 32) + j9 < 10 * p + b then _ else _) = _
      rw [if_neg (by omega)]
    · rw [if_neg h9, if_neg h9]
  rw [e]
theorem hp_sh {T S : am_T} {o : Nat → Int64} {p : Nat} (hp9 : p < 16) {b : Nat} (hb : b + 1 ≤ 10) : am_u (hp T S o) (32 + p) (.inl (0, 10, .inl (va_cpy (fun l => if l < 10 then T 9 (10 * p + l) else 0) (fun l => if l < 10 then T 9 (10 * p + l) else 0) 1 0 b))) = hp (tSh T p b) S o := by
  funext i
  unfold am_u
  by_cases hi : i = 32 + p
  · subst hi
    rw [if_pos rfl, hp_box (tSh T p b) S o hp9]
    refine congrArg (fun f9 => some (am_i f9 10)) ?_
    funext l
    unfold va_cpy
    show _ = if l < 10 then (if 10 * p ≤ 10 * p + l ∧ 10 * p + l < 10 * p + b then T 9 (10 * p + l + 1) else T 9 (10 * p + l)) else 0
    by_cases hl : 0 ≤ l ∧ l < 0 + b
    · rw [if_pos hl, if_pos (by omega), if_pos (by omega)]
      show (if 1 + (l - 0) < 10 then T 9 (10 * p + (1 + (l - 0))) else 0) = _
      rw [if_pos (by omega), show 10 * p + (1 + (l - 0)) = 10 * p + l + 1 by omega]
    · rw [if_neg hl]
      show (if l < 10 then T 9 (10 * p + l) else 0) = _
      by_cases hl9 : l < 10
      · rw [if_pos hl9, if_pos hl9, if_neg (by omega)]
      · rw [if_neg hl9, if_neg hl9]
  · rw [if_neg hi]
    have key : hpC T i = hpC (tSh T p b) i := by
      unfold hpC
      exact ite_congr rfl (fun _ => rfl) (fun h0 => ite_congr rfl (fun _ => rfl) (fun h1 => ite_congr rfl (fun h2 => am_csh hb hi (by omega)) (fun _ => rfl)))
    unfold hp
    by_cases h : i < 464
    · rw [if_pos h, if_pos h, key]
    · rw [if_neg h, if_neg h]
def ted (j l : Nat) (T : am_T) : am_T := if T 34 (10 * j + l) = 0 then T else st1 T 35 (10 * j + l) 1
def tEnd (T : am_T) (j : Nat) : am_T := itN (ted j) (st1 T 37 j 1) 10
def tse (j l : Nat) (T : am_T) : am_T := if bt (T 36 j) l = true then st1 T 35 (10 * j + l) (T 35 (10 * j + l) + 1) else T
def tSet (T : am_T) (j : Nat) : am_T := st1 (itN (tse j) T 10) 36 j 0
theorem ted_f {j i g : Nat} {T : am_T} (h : g ≠ 35) : ted j i T g = T g := by unfold ted; split <;> first | rfl | exact st1_f h
theorem tse_f {j i g : Nat} {T : am_T} (h : g ≠ 35) : tse j i T g = T g := by unfold tse; split <;> first | exact st1_f h | rfl
theorem am_nle {x y : Int32} (h : x < y) : ¬ y ≤ x := fun h9 => Int32.not_le.mpr h h9
theorem am_nlt {x y : Int32} (h : ¬ x < y) : y ≤ x := Int32.not_lt.mp h
theorem am_nlt2 {x y : Int32} (h : y ≤ x) : ¬ x < y := fun h9 => Int32.not_le.mpr h9 h
theorem am_nle2 {x y : Int32} (h : ¬ y ≤ x) : x < y := Int32.not_le.mp h
def sgX5_bit_0_8365e : List Instr := [.iconst 1, .iload_n 0, .ishl]
theorem sgX5_bit_0_8365ed : am_dec cX5_bit 0 sgX5_bit_0_8365e = true := by decide +kernel
theorem dX5_bit_3 : decode cX5_bit 3 = .ok (.ireturn, 1) := by decide +kernel
def sgX5_contains_0_e6198 : List Instr := [.iload_n 0, .iload_n 1, .ishr, .iconst 1, .iand]
theorem sgX5_contains_0_e6198d : am_dec cX5_contains 0 sgX5_contains_0_e6198 = true := by decide +kernel
theorem dX5_contains_5 : decode cX5_contains 5 = .ok (.ifCond .eq 7, 3) := by decide +kernel
def sgX5_contains_12_56c54 : List Instr := [.iconst 0]
theorem sgX5_contains_12_56c54d : am_dec cX5_contains 12 sgX5_contains_12_56c54 = true := by decide +kernel
theorem dX5_contains_13 : decode cX5_contains 13 = .ok (.ireturn, 1) := by decide +kernel
def sgX5_contains_8_1c64c : List Instr := [.iconst 1, .goto 4]
theorem sgX5_contains_8_1c64cd : am_dec cX5_contains 8 sgX5_contains_8_1c64c = true := by decide +kernel
def sgJ6_bitCount_0f7a4_0_3a3a2 : List Instr := [.iload_n 0, .iload_n 0, .iconst 1, .iushr]
theorem sgJ6_bitCount_0f7a4_0_3a3a2d : am_dec cJ6_bitCount_0f7a4 0 sgJ6_bitCount_0f7a4_0_3a3a2 = true := by decide +kernel
theorem dJ6_bitCount_0f7a4_4 : decode cJ6_bitCount_0f7a4 4 = .ok (.ldc_w 265, 3) := by decide +kernel
def sgJ6_bitCount_0f7a4_7_03c2f : List Instr := [.iand, .isub, .istore_n 0, .iload_n 0]
theorem sgJ6_bitCount_0f7a4_7_03c2fd : am_dec cJ6_bitCount_0f7a4 7 sgJ6_bitCount_0f7a4_7_03c2f = true := by decide +kernel
theorem dJ6_bitCount_0f7a4_11 : decode cJ6_bitCount_0f7a4 11 = .ok (.ldc_w 266, 3) := by decide +kernel
def sgJ6_bitCount_0f7a4_14_d9f73 : List Instr := [.iand, .iload_n 0, .iconst 2, .iushr]
theorem sgJ6_bitCount_0f7a4_14_d9f73d : am_dec cJ6_bitCount_0f7a4 14 sgJ6_bitCount_0f7a4_14_d9f73 = true := by decide +kernel
theorem dJ6_bitCount_0f7a4_18 : decode cJ6_bitCount_0f7a4 18 = .ok (.ldc_w 266, 3) := by decide +kernel
def sgJ6_bitCount_0f7a4_21_b3551 : List Instr := [.iand, .iadd, .istore_n 0, .iload_n 0, .iload_n 0, .iconst 4, .iushr, .iadd]
theorem sgJ6_bitCount_0f7a4_21_b3551d : am_dec cJ6_bitCount_0f7a4 21 sgJ6_bitCount_0f7a4_21_b3551 = true := by decide +kernel
theorem dJ6_bitCount_0f7a4_29 : decode cJ6_bitCount_0f7a4 29 = .ok (.ldc_w 267, 3) := by decide +kernel
def sgJ6_bitCount_0f7a4_32_c68fb : List Instr := [.iand, .istore_n 0, .iload_n 0, .iload_n 0, .bipush 8, .iushr, .iadd, .istore_n 0, .iload_n 0, .iload_n 0, .bipush 16, .iushr, .iadd, .istore_n 0, .iload_n 0, .bipush 63, .iand]
theorem sgJ6_bitCount_0f7a4_32_c68fbd : am_dec cJ6_bitCount_0f7a4 32 sgJ6_bitCount_0f7a4_32_c68fb = true := by decide +kernel
theorem dJ6_bitCount_0f7a4_52 : decode cJ6_bitCount_0f7a4 52 = .ok (.ireturn, 1) := by decide +kernel
def sgX0_awaitedJurors_0_34db8 : List Instr := [.aload_n 0]
theorem sgX0_awaitedJurors_0_34db8d : am_dec cX0_awaitedJurors 0 sgX0_awaitedJurors_0_34db8 = true := by decide +kernel
theorem dX0_awaitedJurors_1 : decode cX0_awaitedJurors 1 = .ok (.getfield 18, 3) := by decide +kernel
theorem dX0_awaitedJurors_4 : decode cX0_awaitedJurors 4 = .ok (.ifCond .eq 24, 3) := by decide +kernel
def sgX0_awaitedJurors_28_56c54 : List Instr := [.iconst 0]
theorem sgX0_awaitedJurors_28_56c54d : am_dec cX0_awaitedJurors 28 sgX0_awaitedJurors_28_56c54 = true := by decide +kernel
theorem dX0_awaitedJurors_29 : decode cX0_awaitedJurors 29 = .ok (.ireturn, 1) := by decide +kernel
def sgX0_awaitedJurors_7_34db8 : List Instr := [.aload_n 0]
theorem sgX0_awaitedJurors_7_34db8d : am_dec cX0_awaitedJurors 7 sgX0_awaitedJurors_7_34db8 = true := by decide +kernel
theorem dX0_awaitedJurors_8 : decode cX0_awaitedJurors 8 = .ok (.getfield 22, 3) := by decide +kernel
def sgX0_awaitedJurors_11_34db8 : List Instr := [.aload_n 0]
theorem sgX0_awaitedJurors_11_34db8d : am_dec cX0_awaitedJurors 11 sgX0_awaitedJurors_11_34db8 = true := by decide +kernel
theorem dX0_awaitedJurors_12 : decode cX0_awaitedJurors 12 = .ok (.getfield 9, 3) := by decide +kernel
def sgX0_awaitedJurors_15_57f93 : List Instr := [.iconst (-1), .ixor, .iand, .aload_n 0]
theorem sgX0_awaitedJurors_15_57f93d : am_dec cX0_awaitedJurors 15 sgX0_awaitedJurors_15_57f93 = true := by decide +kernel
theorem dX0_awaitedJurors_19 : decode cX0_awaitedJurors 19 = .ok (.getfield 15, 3) := by decide +kernel
def sgX0_awaitedJurors_22_e962d : List Instr := [.iconst (-1), .ixor, .iand, .goto 4]
theorem sgX0_awaitedJurors_22_e962dd : am_dec cX0_awaitedJurors 22 sgX0_awaitedJurors_22_e962d = true := by decide +kernel
def sgX0_takeVote_0_f8a59 : List Instr := [.iload_n 2]
theorem sgX0_takeVote_0_f8a59d : am_dec cX0_takeVote 0 sgX0_takeVote_0_f8a59 = true := by decide +kernel
theorem dX0_takeVote_1 : decode cX0_takeVote 1 = .ok (.ifCond .eq 19, 3) := by decide +kernel
def sgX0_takeVote_4_da752 : List Instr := [.aload_n 0, .dup]
theorem sgX0_takeVote_4_da752d : am_dec cX0_takeVote 4 sgX0_takeVote_4_da752 = true := by decide +kernel
theorem dX0_takeVote_6 : decode cX0_takeVote 6 = .ok (.getfield 9, 3) := by decide +kernel
def sgX0_takeVote_9_840bf : List Instr := [.iload_n 1]
theorem sgX0_takeVote_9_840bfd : am_dec cX0_takeVote 9 sgX0_takeVote_9_840bf = true := by decide +kernel
theorem dX0_takeVote_10 : decode cX0_takeVote 10 = .ok (.invokestatic 25, 3) := by decide +kernel
def sgX0_takeVote_13_fceb6 : List Instr := [.ior]
theorem sgX0_takeVote_13_fceb6d : am_dec cX0_takeVote 13 sgX0_takeVote_13_fceb6 = true := by decide +kernel
theorem dX0_takeVote_14 : decode cX0_takeVote 14 = .ok (.putfield 9, 3) := by decide +kernel
def sgX0_takeVote_17_abe31 : List Instr := [.goto 16]
theorem sgX0_takeVote_17_abe31d : am_dec cX0_takeVote 17 sgX0_takeVote_17_abe31 = true := by decide +kernel
theorem dX0_takeVote_33 : decode cX0_takeVote 33 = .ok (.return_, 1) := by decide +kernel
def sgX0_takeVote_20_da752 : List Instr := [.aload_n 0, .dup]
theorem sgX0_takeVote_20_da752d : am_dec cX0_takeVote 20 sgX0_takeVote_20_da752 = true := by decide +kernel
theorem dX0_takeVote_22 : decode cX0_takeVote 22 = .ok (.getfield 15, 3) := by decide +kernel
def sgX0_takeVote_25_840bf : List Instr := [.iload_n 1]
theorem sgX0_takeVote_25_840bfd : am_dec cX0_takeVote 25 sgX0_takeVote_25_840bf = true := by decide +kernel
theorem dX0_takeVote_26 : decode cX0_takeVote 26 = .ok (.invokestatic 25, 3) := by decide +kernel
def sgX0_takeVote_29_fceb6 : List Instr := [.ior]
theorem sgX0_takeVote_29_fceb6d : am_dec cX0_takeVote 29 sgX0_takeVote_29_fceb6 = true := by decide +kernel
theorem dX0_takeVote_30 : decode cX0_takeVote 30 = .ok (.putfield 15, 3) := by decide +kernel
def sgX0_isDecided_0_840bf : List Instr := [.iload_n 1]
theorem sgX0_isDecided_0_840bfd : am_dec cX0_isDecided 0 sgX0_isDecided_0_840bf = true := by decide +kernel
theorem dX0_isDecided_1 : decode cX0_isDecided 1 = .ok (.ifCond .eq 10, 3) := by decide +kernel
def sgX0_isDecided_4_34db8 : List Instr := [.aload_n 0]
theorem sgX0_isDecided_4_34db8d : am_dec cX0_isDecided 4 sgX0_isDecided_4_34db8 = true := by decide +kernel
theorem dX0_isDecided_5 : decode cX0_isDecided 5 = .ok (.getfield 9, 3) := by decide +kernel
def sgX0_isDecided_8_924d5 : List Instr := [.goto 7]
theorem sgX0_isDecided_8_924d5d : am_dec cX0_isDecided 8 sgX0_isDecided_8_924d5 = true := by decide +kernel
theorem dX0_isDecided_15 : decode cX0_isDecided 15 = .ok (.invokestatic 29, 3) := by decide +kernel
def sgX0_isDecided_18_d5620 : List Instr := [.iconst 2]
theorem sgX0_isDecided_18_d5620d : am_dec cX0_isDecided 18 sgX0_isDecided_18_d5620 = true := by decide +kernel
theorem dX0_isDecided_19 : decode cX0_isDecided 19 = .ok (.if_icmp .lt 7, 3) := by decide +kernel
def sgX0_isDecided_26_56c54 : List Instr := [.iconst 0]
theorem sgX0_isDecided_26_56c54d : am_dec cX0_isDecided 26 sgX0_isDecided_26_56c54 = true := by decide +kernel
theorem dX0_isDecided_27 : decode cX0_isDecided 27 = .ok (.ireturn, 1) := by decide +kernel
def sgX0_isDecided_22_1c64c : List Instr := [.iconst 1, .goto 4]
theorem sgX0_isDecided_22_1c64cd : am_dec cX0_isDecided 22 sgX0_isDecided_22_1c64c = true := by decide +kernel
def sgX0_isDecided_11_34db8 : List Instr := [.aload_n 0]
theorem sgX0_isDecided_11_34db8d : am_dec cX0_isDecided 11 sgX0_isDecided_11_34db8 = true := by decide +kernel
theorem dX0_isDecided_12 : decode cX0_isDecided 12 = .ok (.getfield 15, 3) := by decide +kernel
def sgX1_isHeldForScore_0_34db8 : List Instr := [.aload_n 0]
theorem sgX1_isHeldForScore_0_34db8d : am_dec cX1_isHeldForScore 0 sgX1_isHeldForScore_0_34db8 = true := by decide +kernel
theorem dX1_isHeldForScore_1 : decode cX1_isHeldForScore 1 = .ok (.getfield 9, 3) := by decide +kernel
def sgX1_isHeldForScore_4_4de0a : List Instr := [.iconst 1]
theorem sgX1_isHeldForScore_4_4de0ad : am_dec cX1_isHeldForScore 4 sgX1_isHeldForScore_4_4de0a = true := by decide +kernel
theorem dX1_isHeldForScore_5 : decode cX1_isHeldForScore 5 = .ok (.if_icmp .ne 15, 3) := by decide +kernel
def sgX1_isHeldForScore_20_56c54 : List Instr := [.iconst 0]
theorem sgX1_isHeldForScore_20_56c54d : am_dec cX1_isHeldForScore 20 sgX1_isHeldForScore_20_56c54 = true := by decide +kernel
theorem dX1_isHeldForScore_21 : decode cX1_isHeldForScore 21 = .ok (.ireturn, 1) := by decide +kernel
def sgX1_isHeldForScore_8_34db8 : List Instr := [.aload_n 0]
theorem sgX1_isHeldForScore_8_34db8d : am_dec cX1_isHeldForScore 8 sgX1_isHeldForScore_8_34db8 = true := by decide +kernel
theorem dX1_isHeldForScore_9 : decode cX1_isHeldForScore 9 = .ok (.getfield 41, 3) := by decide +kernel
def sgX1_isHeldForScore_12_d5620 : List Instr := [.iconst 2]
theorem sgX1_isHeldForScore_12_d5620d : am_dec cX1_isHeldForScore 12 sgX1_isHeldForScore_12_d5620 = true := by decide +kernel
theorem dX1_isHeldForScore_13 : decode cX1_isHeldForScore 13 = .ok (.if_icmp .ne 7, 3) := by decide +kernel
def sgX1_isHeldForScore_16_1c64c : List Instr := [.iconst 1, .goto 4]
theorem sgX1_isHeldForScore_16_1c64cd : am_dec cX1_isHeldForScore 16 sgX1_isHeldForScore_16_1c64c = true := by decide +kernel
def sgX1_isAppealOpen_0_34db8 : List Instr := [.aload_n 0]
theorem sgX1_isAppealOpen_0_34db8d : am_dec cX1_isAppealOpen 0 sgX1_isAppealOpen_0_34db8 = true := by decide +kernel
theorem dX1_isAppealOpen_1 : decode cX1_isAppealOpen 1 = .ok (.getfield 21, 3) := by decide +kernel
theorem dX1_isAppealOpen_4 : decode cX1_isAppealOpen 4 = .ok (.ifnull 17, 3) := by decide +kernel
def sgX1_isAppealOpen_7_34db8 : List Instr := [.aload_n 0]
theorem sgX1_isAppealOpen_7_34db8d : am_dec cX1_isAppealOpen 7 sgX1_isAppealOpen_7_34db8 = true := by decide +kernel
theorem dX1_isAppealOpen_8 : decode cX1_isAppealOpen 8 = .ok (.getfield 21, 3) := by decide +kernel
theorem dX1_isAppealOpen_11 : decode cX1_isAppealOpen 11 = .ok (.getfield 50, 3) := by decide +kernel
theorem dX1_isAppealOpen_14 : decode cX1_isAppealOpen 14 = .ok (.ifCond .eq 7, 3) := by decide +kernel
def sgX1_isAppealOpen_21_56c54 : List Instr := [.iconst 0]
theorem sgX1_isAppealOpen_21_56c54d : am_dec cX1_isAppealOpen 21 sgX1_isAppealOpen_21_56c54 = true := by decide +kernel
theorem dX1_isAppealOpen_22 : decode cX1_isAppealOpen 22 = .ok (.ireturn, 1) := by decide +kernel
def sgX1_isAppealOpen_17_1c64c : List Instr := [.iconst 1, .goto 4]
theorem sgX1_isAppealOpen_17_1c64cd : am_dec cX1_isAppealOpen 17 sgX1_isAppealOpen_17_1c64c = true := by decide +kernel
def sgX1_canLapse_0_34db8 : List Instr := [.aload_n 0]
theorem sgX1_canLapse_0_34db8d : am_dec cX1_canLapse 0 sgX1_canLapse_0_34db8 = true := by decide +kernel
theorem dX1_canLapse_1 : decode cX1_canLapse 1 = .ok (.getfield 9, 3) := by decide +kernel
def sgX1_canLapse_4_4de0a : List Instr := [.iconst 1]
theorem sgX1_canLapse_4_4de0ad : am_dec cX1_canLapse 4 sgX1_canLapse_4_4de0a = true := by decide +kernel
theorem dX1_canLapse_5 : decode cX1_canLapse 5 = .ok (.if_icmp .ne 14, 3) := by decide +kernel
def sgX1_canLapse_19_56c54 : List Instr := [.iconst 0]
theorem sgX1_canLapse_19_56c54d : am_dec cX1_canLapse 19 sgX1_canLapse_19_56c54 = true := by decide +kernel
theorem dX1_canLapse_20 : decode cX1_canLapse 20 = .ok (.ireturn, 1) := by decide +kernel
def sgX1_canLapse_8_34db8 : List Instr := [.aload_n 0]
theorem sgX1_canLapse_8_34db8d : am_dec cX1_canLapse 8 sgX1_canLapse_8_34db8 = true := by decide +kernel
theorem dX1_canLapse_9 : decode cX1_canLapse 9 = .ok (.getfield 21, 3) := by decide +kernel
theorem dX1_canLapse_12 : decode cX1_canLapse 12 = .ok (.ifnonnull 7, 3) := by decide +kernel
def sgX1_canLapse_15_1c64c : List Instr := [.iconst 1, .goto 4]
theorem sgX1_canLapse_15_1c64cd : am_dec cX1_canLapse 15 sgX1_canLapse_15_1c64c = true := by decide +kernel
def sgX1_closeAppeal_0_34db8 : List Instr := [.aload_n 0]
theorem sgX1_closeAppeal_0_34db8d : am_dec cX1_closeAppeal 0 sgX1_closeAppeal_0_34db8 = true := by decide +kernel
theorem dX1_closeAppeal_1 : decode cX1_closeAppeal 1 = .ok (.getfield 21, 3) := by decide +kernel
theorem dX1_closeAppeal_4 : decode cX1_closeAppeal 4 = .ok (.ifnull 11, 3) := by decide +kernel
def sgX1_closeAppeal_7_34db8 : List Instr := [.aload_n 0]
theorem sgX1_closeAppeal_7_34db8d : am_dec cX1_closeAppeal 7 sgX1_closeAppeal_7_34db8 = true := by decide +kernel
theorem dX1_closeAppeal_8 : decode cX1_closeAppeal 8 = .ok (.getfield 21, 3) := by decide +kernel
def sgX1_closeAppeal_11_56c54 : List Instr := [.iconst 0]
theorem sgX1_closeAppeal_11_56c54d : am_dec cX1_closeAppeal 11 sgX1_closeAppeal_11_56c54 = true := by decide +kernel
theorem dX1_closeAppeal_12 : decode cX1_closeAppeal 12 = .ok (.putfield 50, 3) := by decide +kernel
theorem dX1_closeAppeal_15 : decode cX1_closeAppeal 15 = .ok (.return_, 1) := by decide +kernel
def sgX1_isInDigest_0_34db8 : List Instr := [.aload_n 0]
theorem sgX1_isInDigest_0_34db8d : am_dec cX1_isInDigest 0 sgX1_isInDigest_0_34db8 = true := by decide +kernel
theorem dX1_isInDigest_1 : decode cX1_isInDigest 1 = .ok (.getfield 34, 3) := by decide +kernel
theorem dX1_isInDigest_4 : decode cX1_isInDigest 4 = .ok (.getfield 44, 3) := by decide +kernel
def sgX1_isInDigest_7_f8a59 : List Instr := [.iload_n 2]
theorem sgX1_isInDigest_7_f8a59d : am_dec cX1_isInDigest 7 sgX1_isInDigest_7_f8a59 = true := by decide +kernel
theorem dX1_isInDigest_8 : decode cX1_isInDigest 8 = .ok (.if_icmp .ne 18, 3) := by decide +kernel
def sgX1_isInDigest_26_56c54 : List Instr := [.iconst 0]
theorem sgX1_isInDigest_26_56c54d : am_dec cX1_isInDigest 26 sgX1_isInDigest_26_56c54 = true := by decide +kernel
theorem dX1_isInDigest_27 : decode cX1_isInDigest 27 = .ok (.ireturn, 1) := by decide +kernel
def sgX1_isInDigest_11_34db8 : List Instr := [.aload_n 0]
theorem sgX1_isInDigest_11_34db8d : am_dec cX1_isInDigest 11 sgX1_isInDigest_11_34db8 = true := by decide +kernel
theorem dX1_isInDigest_12 : decode cX1_isInDigest 12 = .ok (.getfield 18, 3) := by decide +kernel
def sgX1_isInDigest_15_840bf : List Instr := [.iload_n 1]
theorem sgX1_isInDigest_15_840bfd : am_dec cX1_isInDigest 15 sgX1_isInDigest_15_840bf = true := by decide +kernel
theorem dX1_isInDigest_16 : decode cX1_isInDigest 16 = .ok (.invokestatic 56, 3) := by decide +kernel
theorem dX1_isInDigest_19 : decode cX1_isInDigest 19 = .ok (.ifCond .eq 7, 3) := by decide +kernel
def sgX1_isInDigest_22_1c64c : List Instr := [.iconst 1, .goto 4]
theorem sgX1_isInDigest_22_1c64cd : am_dec cX1_isInDigest 22 sgX1_isInDigest_22_1c64c = true := by decide +kernel
def sgX2_hasMember_0_34db8 : List Instr := [.aload_n 0]
theorem sgX2_hasMember_0_34db8d : am_dec cX2_hasMember 0 sgX2_hasMember_0_34db8 = true := by decide +kernel
theorem dX2_hasMember_1 : decode cX2_hasMember 1 = .ok (.getfield 9, 3) := by decide +kernel
def sgX2_hasMember_4_840bf : List Instr := [.iload_n 1]
theorem sgX2_hasMember_4_840bfd : am_dec cX2_hasMember 4 sgX2_hasMember_4_840bf = true := by decide +kernel
theorem dX2_hasMember_5 : decode cX2_hasMember 5 = .ok (.invokestatic 37, 3) := by decide +kernel
theorem dX2_hasMember_8 : decode cX2_hasMember 8 = .ok (.ireturn, 1) := by decide +kernel
def sgX2_memberMode_0_34db8 : List Instr := [.aload_n 0]
theorem sgX2_memberMode_0_34db8d : am_dec cX2_memberMode 0 sgX2_memberMode_0_34db8 = true := by decide +kernel
theorem dX2_memberMode_1 : decode cX2_memberMode 1 = .ok (.getfield 15, 3) := by decide +kernel
def sgX2_memberMode_4_840bf : List Instr := [.iload_n 1]
theorem sgX2_memberMode_4_840bfd : am_dec cX2_memberMode 4 sgX2_memberMode_4_840bf = true := by decide +kernel
theorem dX2_memberMode_5 : decode cX2_memberMode 5 = .ok (.invokestatic 37, 3) := by decide +kernel
theorem dX2_memberMode_8 : decode cX2_memberMode 8 = .ok (.ifCond .eq 7, 3) := by decide +kernel
def sgX2_memberMode_15_4de0a : List Instr := [.iconst 1]
theorem sgX2_memberMode_15_4de0ad : am_dec cX2_memberMode 15 sgX2_memberMode_15_4de0a = true := by decide +kernel
theorem dX2_memberMode_16 : decode cX2_memberMode 16 = .ok (.ireturn, 1) := by decide +kernel
def sgX2_memberMode_11_1cbe9 : List Instr := [.iconst 0, .goto 4]
theorem sgX2_memberMode_11_1cbe9d : am_dec cX2_memberMode 11 sgX2_memberMode_11_1cbe9 = true := by decide +kernel
def sgX2_putMember_0_da752 : List Instr := [.aload_n 0, .dup]
theorem sgX2_putMember_0_da752d : am_dec cX2_putMember 0 sgX2_putMember_0_da752 = true := by decide +kernel
theorem dX2_putMember_2 : decode cX2_putMember 2 = .ok (.getfield 9, 3) := by decide +kernel
def sgX2_putMember_5_840bf : List Instr := [.iload_n 1]
theorem sgX2_putMember_5_840bfd : am_dec cX2_putMember 5 sgX2_putMember_5_840bf = true := by decide +kernel
theorem dX2_putMember_6 : decode cX2_putMember 6 = .ok (.invokestatic 41, 3) := by decide +kernel
def sgX2_putMember_9_fceb6 : List Instr := [.ior]
theorem sgX2_putMember_9_fceb6d : am_dec cX2_putMember 9 sgX2_putMember_9_fceb6 = true := by decide +kernel
theorem dX2_putMember_10 : decode cX2_putMember 10 = .ok (.putfield 9, 3) := by decide +kernel
def sgX2_putMember_13_f8a59 : List Instr := [.iload_n 2]
theorem sgX2_putMember_13_f8a59d : am_dec cX2_putMember 13 sgX2_putMember_13_f8a59 = true := by decide +kernel
theorem dX2_putMember_14 : decode cX2_putMember 14 = .ok (.ifCond .ne 19, 3) := by decide +kernel
def sgX2_putMember_33_da752 : List Instr := [.aload_n 0, .dup]
theorem sgX2_putMember_33_da752d : am_dec cX2_putMember 33 sgX2_putMember_33_da752 = true := by decide +kernel
theorem dX2_putMember_35 : decode cX2_putMember 35 = .ok (.getfield 15, 3) := by decide +kernel
def sgX2_putMember_38_840bf : List Instr := [.iload_n 1]
theorem sgX2_putMember_38_840bfd : am_dec cX2_putMember 38 sgX2_putMember_38_840bf = true := by decide +kernel
theorem dX2_putMember_39 : decode cX2_putMember 39 = .ok (.invokestatic 41, 3) := by decide +kernel
def sgX2_putMember_42_c71c9 : List Instr := [.iconst (-1), .ixor, .iand]
theorem sgX2_putMember_42_c71c9d : am_dec cX2_putMember 42 sgX2_putMember_42_c71c9 = true := by decide +kernel
theorem dX2_putMember_45 : decode cX2_putMember 45 = .ok (.putfield 15, 3) := by decide +kernel
theorem dX2_putMember_48 : decode cX2_putMember 48 = .ok (.return_, 1) := by decide +kernel
def sgX2_putMember_17_da752 : List Instr := [.aload_n 0, .dup]
theorem sgX2_putMember_17_da752d : am_dec cX2_putMember 17 sgX2_putMember_17_da752 = true := by decide +kernel
theorem dX2_putMember_19 : decode cX2_putMember 19 = .ok (.getfield 15, 3) := by decide +kernel
def sgX2_putMember_22_840bf : List Instr := [.iload_n 1]
theorem sgX2_putMember_22_840bfd : am_dec cX2_putMember 22 sgX2_putMember_22_840bf = true := by decide +kernel
theorem dX2_putMember_23 : decode cX2_putMember 23 = .ok (.invokestatic 41, 3) := by decide +kernel
def sgX2_putMember_26_fceb6 : List Instr := [.ior]
theorem sgX2_putMember_26_fceb6d : am_dec cX2_putMember 26 sgX2_putMember_26_fceb6 = true := by decide +kernel
theorem dX2_putMember_27 : decode cX2_putMember 27 = .ok (.putfield 15, 3) := by decide +kernel
def sgX2_putMember_30_4d408 : List Instr := [.goto 18]
theorem sgX2_putMember_30_4d408d : am_dec cX2_putMember 30 sgX2_putMember_30_4d408 = true := by decide +kernel
def sgX2_dropMember_0_da752 : List Instr := [.aload_n 0, .dup]
theorem sgX2_dropMember_0_da752d : am_dec cX2_dropMember 0 sgX2_dropMember_0_da752 = true := by decide +kernel
theorem dX2_dropMember_2 : decode cX2_dropMember 2 = .ok (.getfield 9, 3) := by decide +kernel
def sgX2_dropMember_5_840bf : List Instr := [.iload_n 1]
theorem sgX2_dropMember_5_840bfd : am_dec cX2_dropMember 5 sgX2_dropMember_5_840bf = true := by decide +kernel
theorem dX2_dropMember_6 : decode cX2_dropMember 6 = .ok (.invokestatic 41, 3) := by decide +kernel
def sgX2_dropMember_9_c71c9 : List Instr := [.iconst (-1), .ixor, .iand]
theorem sgX2_dropMember_9_c71c9d : am_dec cX2_dropMember 9 sgX2_dropMember_9_c71c9 = true := by decide +kernel
theorem dX2_dropMember_12 : decode cX2_dropMember 12 = .ok (.putfield 9, 3) := by decide +kernel
def sgX2_dropMember_15_da752 : List Instr := [.aload_n 0, .dup]
theorem sgX2_dropMember_15_da752d : am_dec cX2_dropMember 15 sgX2_dropMember_15_da752 = true := by decide +kernel
theorem dX2_dropMember_17 : decode cX2_dropMember 17 = .ok (.getfield 15, 3) := by decide +kernel
def sgX2_dropMember_20_840bf : List Instr := [.iload_n 1]
theorem sgX2_dropMember_20_840bfd : am_dec cX2_dropMember 20 sgX2_dropMember_20_840bf = true := by decide +kernel
theorem dX2_dropMember_21 : decode cX2_dropMember 21 = .ok (.invokestatic 41, 3) := by decide +kernel
def sgX2_dropMember_24_c71c9 : List Instr := [.iconst (-1), .ixor, .iand]
theorem sgX2_dropMember_24_c71c9d : am_dec cX2_dropMember 24 sgX2_dropMember_24_c71c9 = true := by decide +kernel
theorem dX2_dropMember_27 : decode cX2_dropMember 27 = .ok (.putfield 15, 3) := by decide +kernel
theorem dX2_dropMember_30 : decode cX2_dropMember 30 = .ok (.return_, 1) := by decide +kernel
def sgX3_hasRoom_0_34db8 : List Instr := [.aload_n 0]
theorem sgX3_hasRoom_0_34db8d : am_dec cX3_hasRoom 0 sgX3_hasRoom_0_34db8 = true := by decide +kernel
theorem dX3_hasRoom_1 : decode cX3_hasRoom 1 = .ok (.getfield 25, 3) := by decide +kernel
def sgX3_hasRoom_4_ee951 : List Instr := [.bipush 10]
theorem sgX3_hasRoom_4_ee951d : am_dec cX3_hasRoom 4 sgX3_hasRoom_4_ee951 = true := by decide +kernel
theorem dX3_hasRoom_6 : decode cX3_hasRoom 6 = .ok (.if_icmp .ge 7, 3) := by decide +kernel
def sgX3_hasRoom_13_56c54 : List Instr := [.iconst 0]
theorem sgX3_hasRoom_13_56c54d : am_dec cX3_hasRoom 13 sgX3_hasRoom_13_56c54 = true := by decide +kernel
theorem dX3_hasRoom_14 : decode cX3_hasRoom 14 = .ok (.ireturn, 1) := by decide +kernel
def sgX3_hasRoom_9_1c64c : List Instr := [.iconst 1, .goto 4]
theorem sgX3_hasRoom_9_1c64cd : am_dec cX3_hasRoom 9 sgX3_hasRoom_9_1c64c = true := by decide +kernel
def sgX3_putIntoBox_0_34db8 : List Instr := [.aload_n 0]
theorem sgX3_putIntoBox_0_34db8d : am_dec cX3_putIntoBox 0 sgX3_putIntoBox_0_34db8 = true := by decide +kernel
theorem dX3_putIntoBox_1 : decode cX3_putIntoBox 1 = .ok (.invokevirtual 28, 3) := by decide +kernel
theorem dX3_putIntoBox_4 : decode cX3_putIntoBox 4 = .ok (.ifCond .eq 23, 3) := by decide +kernel
def sgX3_putIntoBox_7_34db8 : List Instr := [.aload_n 0]
theorem sgX3_putIntoBox_7_34db8d : am_dec cX3_putIntoBox 7 sgX3_putIntoBox_7_34db8 = true := by decide +kernel
theorem dX3_putIntoBox_8 : decode cX3_putIntoBox 8 = .ok (.getfield 21, 3) := by decide +kernel
def sgX3_putIntoBox_11_34db8 : List Instr := [.aload_n 0]
theorem sgX3_putIntoBox_11_34db8d : am_dec cX3_putIntoBox 11 sgX3_putIntoBox_11_34db8 = true := by decide +kernel
theorem dX3_putIntoBox_12 : decode cX3_putIntoBox 12 = .ok (.getfield 25, 3) := by decide +kernel
def sgX3_putIntoBox_15_840bf : List Instr := [.iload_n 1]
theorem sgX3_putIntoBox_15_840bfd : am_dec cX3_putIntoBox 15 sgX3_putIntoBox_15_840bf = true := by decide +kernel
theorem dX3_putIntoBox_16 : decode cX3_putIntoBox 16 = .ok (.iastore, 1) := by decide +kernel
def sgX3_putIntoBox_17_da752 : List Instr := [.aload_n 0, .dup]
theorem sgX3_putIntoBox_17_da752d : am_dec cX3_putIntoBox 17 sgX3_putIntoBox_17_da752 = true := by decide +kernel
theorem dX3_putIntoBox_19 : decode cX3_putIntoBox 19 = .ok (.getfield 25, 3) := by decide +kernel
def sgX3_putIntoBox_22_c7176 : List Instr := [.iconst 1, .iadd]
theorem sgX3_putIntoBox_22_c7176d : am_dec cX3_putIntoBox 22 sgX3_putIntoBox_22_c7176 = true := by decide +kernel
theorem dX3_putIntoBox_24 : decode cX3_putIntoBox 24 = .ok (.putfield 25, 3) := by decide +kernel
theorem dX3_putIntoBox_27 : decode cX3_putIntoBox 27 = .ok (.return_, 1) := by decide +kernel
def sgX4_hasDigest_0_34db8 : List Instr := [.aload_n 0]
theorem sgX4_hasDigest_0_34db8d : am_dec cX4_hasDigest 0 sgX4_hasDigest_0_34db8 = true := by decide +kernel
theorem dX4_hasDigest_1 : decode cX4_hasDigest 1 = .ok (.getfield 9, 3) := by decide +kernel
def sgX4_hasDigest_4_840bf : List Instr := [.iload_n 1]
theorem sgX4_hasDigest_4_840bfd : am_dec cX4_hasDigest 4 sgX4_hasDigest_4_840bf = true := by decide +kernel
theorem dX4_hasDigest_5 : decode cX4_hasDigest 5 = .ok (.iaload, 1) := by decide +kernel
theorem dX4_hasDigest_6 : decode cX4_hasDigest 6 = .ok (.ifCond .eq 7, 3) := by decide +kernel
def sgX4_hasDigest_13_56c54 : List Instr := [.iconst 0]
theorem sgX4_hasDigest_13_56c54d : am_dec cX4_hasDigest 13 sgX4_hasDigest_13_56c54 = true := by decide +kernel
theorem dX4_hasDigest_14 : decode cX4_hasDigest 14 = .ok (.ireturn, 1) := by decide +kernel
def sgX4_hasDigest_9_1c64c : List Instr := [.iconst 1, .goto 4]
theorem sgX4_hasDigest_9_1c64cd : am_dec cX4_hasDigest 9 sgX4_hasDigest_9_1c64c = true := by decide +kernel
def sgX4_addReader_0_34db8 : List Instr := [.aload_n 0]
theorem sgX4_addReader_0_34db8d : am_dec cX4_addReader 0 sgX4_addReader_0_34db8 = true := by decide +kernel
theorem dX4_addReader_1 : decode cX4_addReader 1 = .ok (.getfield 9, 3) := by decide +kernel
def sgX4_addReader_4_563cd : List Instr := [.iload_n 1, .dup2]
theorem sgX4_addReader_4_563cdd : am_dec cX4_addReader 4 sgX4_addReader_4_563cd = true := by decide +kernel
theorem dX4_addReader_6 : decode cX4_addReader 6 = .ok (.iaload, 1) := by decide +kernel
def sgX4_addReader_7_f8a59 : List Instr := [.iload_n 2]
theorem sgX4_addReader_7_f8a59d : am_dec cX4_addReader 7 sgX4_addReader_7_f8a59 = true := by decide +kernel
theorem dX4_addReader_8 : decode cX4_addReader 8 = .ok (.invokestatic 29, 3) := by decide +kernel
def sgX4_addReader_11_fceb6 : List Instr := [.ior]
theorem sgX4_addReader_11_fceb6d : am_dec cX4_addReader 11 sgX4_addReader_11_fceb6 = true := by decide +kernel
theorem dX4_addReader_12 : decode cX4_addReader 12 = .ok (.iastore, 1) := by decide +kernel
def sgX4_addReader_13_34db8 : List Instr := [.aload_n 0]
theorem sgX4_addReader_13_34db8d : am_dec cX4_addReader 13 sgX4_addReader_13_34db8 = true := by decide +kernel
theorem dX4_addReader_14 : decode cX4_addReader 14 = .ok (.getfield 22, 3) := by decide +kernel
theorem dX4_addReader_17 : decode cX4_addReader 17 = .ok (.ifCond .eq 16, 3) := by decide +kernel
theorem dX4_addReader_33 : decode cX4_addReader 33 = .ok (.return_, 1) := by decide +kernel
def sgX4_addReader_20_da752 : List Instr := [.aload_n 0, .dup]
theorem sgX4_addReader_20_da752d : am_dec cX4_addReader 20 sgX4_addReader_20_da752 = true := by decide +kernel
theorem dX4_addReader_22 : decode cX4_addReader 22 = .ok (.getfield 18, 3) := by decide +kernel
def sgX4_addReader_25_840bf : List Instr := [.iload_n 1]
theorem sgX4_addReader_25_840bfd : am_dec cX4_addReader 25 sgX4_addReader_25_840bf = true := by decide +kernel
theorem dX4_addReader_26 : decode cX4_addReader 26 = .ok (.invokestatic 29, 3) := by decide +kernel
def sgX4_addReader_29_fceb6 : List Instr := [.ior]
theorem sgX4_addReader_29_fceb6d : am_dec cX4_addReader 29 sgX4_addReader_29_fceb6 = true := by decide +kernel
theorem dX4_addReader_30 : decode cX4_addReader 30 = .ok (.putfield 18, 3) := by decide +kernel
set_option maxRecDepth 100000 in
set_option maxHeartbeats 4000000 in
theorem c_bit {G : am_S} {X : am_H} {x : Int32} : am_D G yX5_bit (.code yX5_bit cX5_bit 1 (some .int) :: am_G) { frames := 0, cells := 0, slots := 0, locals := 0 } X [.int x] X (some (.int ((1 : Int32) <<< (x &&& 31)))) := by
  refine am_of (by decide +kernel) (Nat.le_of_ble_eq_true rfl) ?_
  intro C hse hret hname hF hO
  subst hse
  refine am_go hF sgX5_bit_0_8365e 3 [(0, .int x)] [.int (1 <<< (x &&& 31))] sgX5_bit_0_8365ed rfl ?_
  exact am_iret hF hO hret rfl dX5_bit_3 ⟨rfl, rfl⟩
set_option maxRecDepth 100000 in
set_option maxHeartbeats 4000000 in
theorem c_contains {G : am_S} {X : am_H} {x : Int32} {k : Nat} (hk : k < 32) : am_D G yX5_contains (.code yX5_contains cX5_contains 2 (some .boolean) :: am_G) { frames := 0, cells := 0, slots := 0, locals := 0 } X [.int x, .int (nI k)] X (some (.int (zb (bt x k)))) := by
  refine am_of (by decide +kernel) (Nat.le_of_ble_eq_true rfl) ?_
  intro C hse hret hname hF hO
  subst hse
  refine am_go hF sgX5_contains_0_e6198 5 [(0, .int x), (1, .int (nI k))] [.int ((x >>> ((nI k) &&& 31)) &&& 1)] sgX5_contains_0_e6198d rfl ?_
  refine am_ifeq hF 12 dX5_contains_5 (by decide) (fun c1 => ?_) (fun c1 => ?_)
  · skip
    refine am_go hF sgX5_contains_12_56c54 13 [(0, .int x), (1, .int (nI k))] [.int 0] sgX5_contains_12_56c54d rfl ?_
    refine am_top (zb (bt x k)) (zb_f ((bt_iff0 hk).mp c1)).symm ?_
    exact am_iret hF hO hret (zb_n _) dX5_contains_13 ⟨rfl, rfl⟩
  · skip
    refine am_go hF sgX5_contains_8_1c64c 13 [(0, .int x), (1, .int (nI k))] [.int 1] sgX5_contains_8_1c64cd rfl ?_
    refine am_top (zb (bt x k)) (zb_t (bt_n0 hk c1)).symm ?_
    exact am_iret hF hO hret (zb_n _) dX5_contains_13 ⟨rfl, rfl⟩
set_option maxRecDepth 100000 in
set_option maxHeartbeats 4000000 in
theorem c_bitCount {G : am_S} {X : am_H} {x : Int32} : am_D G yJ6_bitCount_0f7a4 (.code yJ6_bitCount_0f7a4 cJ6_bitCount_0f7a4 1 (some .int) :: am_G) { frames := 0, cells := 0, slots := 0, locals := 0 } X [.int x] X (some (.int (bc x))) := by
  refine am_of (by decide +kernel) (Nat.le_of_ble_eq_true rfl) ?_
  intro C hse hret hname hF hO
  subst hse
  refine am_go hF sgJ6_bitCount_0f7a4_0_3a3a2 4 [(0, .int x)] [.int ((x.toUInt32 >>> ((1 : Int32).toUInt32 &&& Int32.toUInt32 31)).toInt32), .int x] sgJ6_bitCount_0f7a4_0_3a3a2d rfl ?_
  refine am_ldcw hF 1431655765 (List.mem_cons_of_mem _ lk_RJ6_265) dJ6_bitCount_0f7a4_4 ?_
  refine am_go hF sgJ6_bitCount_0f7a4_7_03c2f 11 [(0, .int (x - (((x.toUInt32 >>> ((1 : Int32).toUInt32 &&& Int32.toUInt32 31)).toInt32) &&& 1431655765)))] [.int (x - (((x.toUInt32 >>> ((1 : Int32).toUInt32 &&& Int32.toUInt32 31)).toInt32) &&& 1431655765))] sgJ6_bitCount_0f7a4_7_03c2fd rfl ?_
  refine am_ldcw hF 858993459 (List.mem_cons_of_mem _ lk_RJ6_266) dJ6_bitCount_0f7a4_11 ?_
  refine am_go hF sgJ6_bitCount_0f7a4_14_d9f73 18 [(0, .int (x - (((x.toUInt32 >>> ((1 : Int32).toUInt32 &&& Int32.toUInt32 31)).toInt32) &&& 1431655765)))] [.int (((x - (((x.toUInt32 >>> ((1 : Int32).toUInt32 &&& Int32.toUInt32 31)).toInt32) &&& 1431655765)).toUInt32 >>> ((2 : Int32).toUInt32 &&& Int32.toUInt32 31)).toInt32), .int ((x - (((x.toUInt32 >>> ((1 : Int32).toUInt32 &&& Int32.toUInt32 31)).toInt32) &&& 1431655765)) &&& 858993459)] sgJ6_bitCount_0f7a4_14_d9f73d rfl ?_
  refine am_ldcw hF 858993459 (List.mem_cons_of_mem _ lk_RJ6_266) dJ6_bitCount_0f7a4_18 ?_
  refine am_go hF sgJ6_bitCount_0f7a4_21_b3551 29 [(0, .int (((x - (((x.toUInt32 >>> ((1 : Int32).toUInt32 &&& Int32.toUInt32 31)).toInt32) &&& 1431655765)) &&& 858993459) + ((((x - (((x.toUInt32 >>> ((1 : Int32).toUInt32 &&& Int32.toUInt32 31)).toInt32) &&& 1431655765)).toUInt32 >>> ((2 : Int32).toUInt32 &&& Int32.toUInt32 31)).toInt32) &&& 858993459)))] [.int ((((x - (((x.toUInt32 >>> ((1 : Int32).toUInt32 &&& Int32.toUInt32 31)).toInt32) &&& 1431655765)) &&& 858993459) + ((((x - (((x.toUInt32 >>> ((1 : Int32).toUInt32 &&& Int32.toUInt32 31)).toInt32) &&& 1431655765)).toUInt32 >>> ((2 : Int32).toUInt32 &&& Int32.toUInt32 31)).toInt32) &&& 858993459)) + (((((x - (((x.toUInt32 >>> ((1 : Int32).toUInt32 &&& Int32.toUInt32 31)).toInt32) &&& 1431655765)) &&& 858993459) + ((((x - (((x.toUInt32 >>> ((1 : Int32).toUInt32 &&& Int32.toUInt32 31)).toInt32) &&& 1431655765)).toUInt32 >>> ((2 : Int32).toUInt32 &&& Int32.toUInt32 31)).toInt32) &&& 858993459)).toUInt32 >>> ((4 : Int32).toUInt32 &&& Int32.toUInt32 31)).toInt32))] sgJ6_bitCount_0f7a4_21_b3551d rfl ?_
  refine am_ldcw hF 252645135 (List.mem_cons_of_mem _ lk_RJ6_267) dJ6_bitCount_0f7a4_29 ?_
  refine am_go hF sgJ6_bitCount_0f7a4_32_c68fb 52 [(0, .int (((((((x - (((x.toUInt32 >>> ((1 : Int32).toUInt32 &&& Int32.toUInt32 31)).toInt32) &&& 1431655765)) &&& 858993459) + ((((x - (((x.toUInt32 >>> ((1 : Int32).toUInt32 &&& Int32.toUInt32 31)).toInt32) &&& 1431655765)).toUInt32 >>> ((2 : Int32).toUInt32 &&& Int32.toUInt32 31)).toInt32) &&& 858993459)) + (((((x - (((x.toUInt32 >>> ((1 : Int32).toUInt32 &&& Int32.toUInt32 31)).toInt32) &&& 1431655765)) &&& 858993459) + ((((x - (((x.toUInt32 >>> ((1 : Int32).toUInt32 &&& Int32.toUInt32 31)).toInt32) &&& 1431655765)).toUInt32 >>> ((2 : Int32).toUInt32 &&& Int32.toUInt32 31)).toInt32) &&& 858993459)).toUInt32 >>> ((4 : Int32).toUInt32 &&& Int32.toUInt32 31)).toInt32)) &&& 252645135) + (((((((x - (((x.toUInt32 >>> ((1 : Int32).toUInt32 &&& Int32.toUInt32 31)).toInt32) &&& 1431655765)) &&& 858993459) + ((((x - (((x.toUInt32 >>> ((1 : Int32).toUInt32 &&& Int32.toUInt32 31)).toInt32) &&& 1431655765)).toUInt32 >>> ((2 : Int32).toUInt32 &&& Int32.toUInt32 31)).toInt32) &&& 858993459)) + (((((x - (((x.toUInt32 >>> ((1 : Int32).toUInt32 &&& Int32.toUInt32 31)).toInt32) &&& 1431655765)) &&& 858993459) + ((((x - (((x.toUInt32 >>> ((1 : Int32).toUInt32 &&& Int32.toUInt32 31)).toInt32) &&& 1431655765)).toUInt32 >>> ((2 : Int32).toUInt32 &&& Int32.toUInt32 31)).toInt32) &&& 858993459)).toUInt32 >>> ((4 : Int32).toUInt32 &&& Int32.toUInt32 31)).toInt32)) &&& 252645135).toUInt32 >>> ((8 : Int32).toUInt32 &&& Int32.toUInt32 31)).toInt32)) + ((((((((x - (((x.toUInt32 >>> ((1 : Int32).toUInt32 &&& Int32.toUInt32 31)).toInt32) &&& 1431655765)) &&& 858993459) + ((((x - (((x.toUInt32 >>> ((1 : Int32).toUInt32 &&& Int32.toUInt32 31)).toInt32) &&& 1431655765)).toUInt32 >>> ((2 : Int32).toUInt32 &&& Int32.toUInt32 31)).toInt32) &&& 858993459)) + (((((x - (((x.toUInt32 >>> ((1 : Int32).toUInt32 &&& Int32.toUInt32 31)).toInt32) &&& 1431655765)) &&& 858993459) + ((((x - (((x.toUInt32 >>> ((1 : Int32).toUInt32 &&& Int32.toUInt32 31)).toInt32) &&& 1431655765)).toUInt32 >>> ((2 : Int32).toUInt32 &&& Int32.toUInt32 31)).toInt32) &&& 858993459)).toUInt32 >>> ((4 : Int32).toUInt32 &&& Int32.toUInt32 31)).toInt32)) &&& 252645135) + (((((((x - (((x.toUInt32 >>> ((1 : Int32).toUInt32 &&& Int32.toUInt32 31)).toInt32) &&& 1431655765)) &&& 858993459) + ((((x - (((x.toUInt32 >>> ((1 : Int32).toUInt32 &&& Int32.toUInt32 31)).toInt32) &&& 1431655765)).toUInt32 >>> ((2 : Int32).toUInt32 &&& Int32.toUInt32 31)).toInt32) &&& 858993459)) + (((((x - (((x.toUInt32 >>> ((1 : Int32).toUInt32 &&& Int32.toUInt32 31)).toInt32) &&& 1431655765)) &&& 858993459) + ((((x - (((x.toUInt32 >>> ((1 : Int32).toUInt32 &&& Int32.toUInt32 31)).toInt32) &&& 1431655765)).toUInt32 >>> ((2 : Int32).toUInt32 &&& Int32.toUInt32 31)).toInt32) &&& 858993459)).toUInt32 >>> ((4 : Int32).toUInt32 &&& Int32.toUInt32 31)).toInt32)) &&& 252645135).toUInt32 >>> ((8 : Int32).toUInt32 &&& Int32.toUInt32 31)).toInt32)).toUInt32 >>> ((16 : Int32).toUInt32 &&& Int32.toUInt32 31)).toInt32)))] [.int ((((((((x - (((x.toUInt32 >>> ((1 : Int32).toUInt32 &&& Int32.toUInt32 31)).toInt32) &&& 1431655765)) &&& 858993459) + ((((x - (((x.toUInt32 >>> ((1 : Int32).toUInt32 &&& Int32.toUInt32 31)).toInt32) &&& 1431655765)).toUInt32 >>> ((2 : Int32).toUInt32 &&& Int32.toUInt32 31)).toInt32) &&& 858993459)) + (((((x - (((x.toUInt32 >>> ((1 : Int32).toUInt32 &&& Int32.toUInt32 31)).toInt32) &&& 1431655765)) &&& 858993459) + ((((x - (((x.toUInt32 >>> ((1 : Int32).toUInt32 &&& Int32.toUInt32 31)).toInt32) &&& 1431655765)).toUInt32 >>> ((2 : Int32).toUInt32 &&& Int32.toUInt32 31)).toInt32) &&& 858993459)).toUInt32 >>> ((4 : Int32).toUInt32 &&& Int32.toUInt32 31)).toInt32)) &&& 252645135) + (((((((x - (((x.toUInt32 >>> ((1 : Int32).toUInt32 &&& Int32.toUInt32 31)).toInt32) &&& 1431655765)) &&& 858993459) + ((((x - (((x.toUInt32 >>> ((1 : Int32).toUInt32 &&& Int32.toUInt32 31)).toInt32) &&& 1431655765)).toUInt32 >>> ((2 : Int32).toUInt32 &&& Int32.toUInt32 31)).toInt32) &&& 858993459)) + (((((x - (((x.toUInt32 >>> ((1 : Int32).toUInt32 &&& Int32.toUInt32 31)).toInt32) &&& 1431655765)) &&& 858993459) + ((((x - (((x.toUInt32 >>> ((1 : Int32).toUInt32 &&& Int32.toUInt32 31)).toInt32) &&& 1431655765)).toUInt32 >>> ((2 : Int32).toUInt32 &&& Int32.toUInt32 31)).toInt32) &&& 858993459)).toUInt32 >>> ((4 : Int32).toUInt32 &&& Int32.toUInt32 31)).toInt32)) &&& 252645135).toUInt32 >>> ((8 : Int32).toUInt32 &&& Int32.toUInt32 31)).toInt32)) + ((((((((x - (((x.toUInt32 >>> ((1 : Int32).toUInt32 &&& Int32.toUInt32 31)).toInt32) &&& 1431655765)) &&& 858993459) + ((((x - (((x.toUInt32 >>> ((1 : Int32).toUInt32 &&& Int32.toUInt32 31)).toInt32) &&& 1431655765)).toUInt32 >>> ((2 : Int32).toUInt32 &&& Int32.toUInt32 31)).toInt32) &&& 858993459)) + (((((x - (((x.toUInt32 >>> ((1 : Int32).toUInt32 &&& Int32.toUInt32 31)).toInt32) &&& 1431655765)) &&& 858993459) + ((((x - (((x.toUInt32 >>> ((1 : Int32).toUInt32 &&& Int32.toUInt32 31)).toInt32) &&& 1431655765)).toUInt32 >>> ((2 : Int32).toUInt32 &&& Int32.toUInt32 31)).toInt32) &&& 858993459)).toUInt32 >>> ((4 : Int32).toUInt32 &&& Int32.toUInt32 31)).toInt32)) &&& 252645135) + (((((((x - (((x.toUInt32 >>> ((1 : Int32).toUInt32 &&& Int32.toUInt32 31)).toInt32) &&& 1431655765)) &&& 858993459) + ((((x - (((x.toUInt32 >>> ((1 : Int32).toUInt32 &&& Int32.toUInt32 31)).toInt32) &&& 1431655765)).toUInt32 >>> ((2 : Int32).toUInt32 &&& Int32.toUInt32 31)).toInt32) &&& 858993459)) + (((((x - (((x.toUInt32 >>> ((1 : Int32).toUInt32 &&& Int32.toUInt32 31)).toInt32) &&& 1431655765)) &&& 858993459) + ((((x - (((x.toUInt32 >>> ((1 : Int32).toUInt32 &&& Int32.toUInt32 31)).toInt32) &&& 1431655765)).toUInt32 >>> ((2 : Int32).toUInt32 &&& Int32.toUInt32 31)).toInt32) &&& 858993459)).toUInt32 >>> ((4 : Int32).toUInt32 &&& Int32.toUInt32 31)).toInt32)) &&& 252645135).toUInt32 >>> ((8 : Int32).toUInt32 &&& Int32.toUInt32 31)).toInt32)).toUInt32 >>> ((16 : Int32).toUInt32 &&& Int32.toUInt32 31)).toInt32)) &&& 63)] sgJ6_bitCount_0f7a4_32_c68fbd rfl ?_
  exact am_iret hF hO hret rfl dJ6_bitCount_0f7a4_52 ⟨rfl, rfl⟩
set_option maxRecDepth 100000 in
set_option maxHeartbeats 4000000 in
theorem c_awaited {G : am_S} {T S : am_T} {o : Nat → Int64} {k : Nat} (hk : k < 80) (ha : T 28 k = 1) : am_D G yX0_awaitedJurors (.code yX0_awaitedJurors cX0_awaitedJurors 1 (some .int) :: am_G) { frames := 0, cells := 0, slots := 0, locals := 0 } (hp T S o) [.ref (144 + k)] (hp T S o) (some (.int (tAw T k))) := by
  refine am_of (by decide +kernel) (Nat.le_of_ble_eq_true rfl) ?_
  intro C hse hret hname hF hO
  subst hse
  refine am_go hF sgX0_awaitedJurors_0_34db8 1 [(0, .ref (144 + k))] [.ref (144 + k)] sgX0_awaitedJurors_0_34db8d rfl ?_
  refine am_getf hF (hp_appeal T S o (show k < 80 by omega) ha) (T := TX0) (N := 4) rfl (inG 0 inG0) 3 (by decide) (List.mem_cons_of_mem _ lf_RX0_18) rfl (.int (T 32 k)) rfl dX0_awaitedJurors_1 ?_
  refine am_ifeq hF 28 dX0_awaitedJurors_4 (by decide) (fun c1 => ?_) (fun c1 => ?_)
  · skip
    refine am_go hF sgX0_awaitedJurors_28_56c54 29 [(0, .ref (144 + k))] [.int 0] sgX0_awaitedJurors_28_56c54d rfl ?_
    refine am_top (tAw T k) (by simp [tAw, (eq_true c1)]) ?_
    exact am_iret hF hO hret rfl dX0_awaitedJurors_29 ⟨rfl, rfl⟩
  · skip
    refine am_go hF sgX0_awaitedJurors_7_34db8 8 [(0, .ref (144 + k))] [.ref (144 + k)] sgX0_awaitedJurors_7_34db8d rfl ?_
    refine am_getf hF (hp_appeal T S o (show k < 80 by omega) ha) (T := TX0) (N := 4) rfl (inG 0 inG0) 0 (by decide) (List.mem_cons_of_mem _ lf_RX0_22) rfl (.int (T 29 k)) rfl dX0_awaitedJurors_8 ?_
    refine am_go hF sgX0_awaitedJurors_11_34db8 12 [(0, .ref (144 + k))] [.ref (144 + k), .int (T 29 k)] sgX0_awaitedJurors_11_34db8d rfl ?_
    refine am_getf hF (hp_appeal T S o (show k < 80 by omega) ha) (T := TX0) (N := 4) rfl (inG 0 inG0) 1 (by decide) (List.mem_cons_of_mem _ lf_RX0_9) rfl (.int (T 30 k)) rfl dX0_awaitedJurors_12 ?_
    refine am_go hF sgX0_awaitedJurors_15_57f93 19 [(0, .ref (144 + k))] [.ref (144 + k), .int ((T 29 k) &&& ((T 30 k) ^^^ (-1)))] sgX0_awaitedJurors_15_57f93d rfl ?_
    refine am_getf hF (hp_appeal T S o (show k < 80 by omega) ha) (T := TX0) (N := 4) rfl (inG 0 inG0) 2 (by decide) (List.mem_cons_of_mem _ lf_RX0_15) rfl (.int (T 31 k)) rfl dX0_awaitedJurors_19 ?_
    refine am_go hF sgX0_awaitedJurors_22_e962d 29 [(0, .ref (144 + k))] [.int (((T 29 k) &&& ((T 30 k) ^^^ (-1))) &&& ((T 31 k) ^^^ (-1)))] sgX0_awaitedJurors_22_e962dd rfl ?_
    refine am_top (tAw T k) (by simp [tAw, c1]) ?_
    exact am_iret hF hO hret rfl dX0_awaitedJurors_29 ⟨rfl, rfl⟩
set_option maxRecDepth 100000 in
set_option maxHeartbeats 4000000 in
theorem c_takeVote_f {G : am_S} {T S : am_T} {o : Nat → Int64} {k : Nat} (hk : k < 80) (ha : T 28 k = 1) {p : Nat} (hp9 : p < 16) : am_D G yX0_takeVote (.code yX0_takeVote cX0_takeVote 3 none :: am_G) { frames := 1, cells := 0, slots := 0, locals := 20 } (hp T S o) [.ref (144 + k), .int (nI p), .int 1] (hp (st1 T 30 k ((T 30 k) ||| ((1 : Int32) <<< (nI p &&& 31)))) S o) none := by
  refine am_of (by decide +kernel) (Nat.le_of_ble_eq_true rfl) ?_
  intro C hse hret hname hF hO
  subst hse
  refine am_go hF sgX0_takeVote_0_f8a59 1 [(0, .ref (144 + k)), (1, .int (nI p)), (2, .int 1)] [.int 1] sgX0_takeVote_0_f8a59d rfl ?_
  refine am_ifeq hF 20 dX0_takeVote_1 (by decide) (fun h9 => False.elim ((by revert h9; decide))) (fun _ => ?_)
  refine am_go hF sgX0_takeVote_4_da752 6 [(0, .ref (144 + k)), (1, .int (nI p)), (2, .int 1)] [.ref (144 + k), .ref (144 + k)] sgX0_takeVote_4_da752d rfl ?_
  refine am_getf hF (hp_appeal T S o (show k < 80 by omega) ha) (T := TX0) (N := 4) rfl (inG 0 inG0) 1 (by decide) (List.mem_cons_of_mem _ lf_RX0_9) rfl (.int (T 30 k)) rfl dX0_takeVote_6 ?_
  refine am_go hF sgX0_takeVote_9_840bf 10 [(0, .ref (144 + k)), (1, .int (nI p)), (2, .int 1)] [.int (nI p), .int (T 30 k), .ref (144 + k)] sgX0_takeVote_9_840bfd rfl ?_
  refine am_dSN hF hO [.int (nI p)] [.int (T 30 k), .ref (144 + k)] (c_bit) myX5_bit syX5_bit (by decide +kernel) rfl 0 0 ⟨Nat.le_of_ble_eq_true rfl, Nat.le_of_ble_eq_true rfl⟩ ⟨Nat.le_of_ble_eq_true rfl, Nat.le_of_ble_eq_true rfl, Nat.le_of_ble_eq_true rfl, Nat.le_of_ble_eq_true rfl⟩ rfl (am_lv_ref (hp_appeal _ _ _ (show k < 80 by omega) ha) (am_lv_int (am_lv_int (am_lv_int (am_lv_ref (hp_appeal _ _ _ (show k < 80 by omega) ha) am_lv_nil))))) (Nat.le_of_ble_eq_true rfl) dX0_takeVote_10 [.int ((1 : Int32) <<< (nI p &&& 31)), .int (T 30 k), .ref (144 + k)] rfl ?_
  refine am_go hF sgX0_takeVote_13_fceb6 14 [(0, .ref (144 + k)), (1, .int (nI p)), (2, .int 1)] [.int ((T 30 k) ||| ((1 : Int32) <<< (nI p &&& 31))), .ref (144 + k)] sgX0_takeVote_13_fceb6d rfl ?_
  refine am_putf hF (hp_appeal T S o (show k < 80 by omega) ha) (T := TX0) (N := 4) rfl (inG 0 inG0) tyX0 tyX0_ok nmX0 1 (by decide) (List.mem_cons_of_mem _ lf_RX0_9) rfl (Or.inl rfl) rfl rfl (Nat.le_of_ble_eq_true rfl) dX0_takeVote_14 ?_
  refine am_eqX (hp (st1 T 30 k ((T 30 k) ||| ((1 : Int32) <<< (nI p &&& 31)))) S o) (hp_s30 (T := T) (show k < 80 by omega) ha ((T 30 k) ||| ((1 : Int32) <<< (nI p &&& 31)))) ?_
  refine am_go hF sgX0_takeVote_17_abe31 33 [(0, .ref (144 + k)), (1, .int (nI p)), (2, .int 1)] [] sgX0_takeVote_17_abe31d rfl ?_
  exact am_vret hF hO hret dX0_takeVote_33 ⟨rfl, rfl⟩
set_option maxRecDepth 100000 in
set_option maxHeartbeats 4000000 in
theorem c_takeVote_a {G : am_S} {T S : am_T} {o : Nat → Int64} {k : Nat} (hk : k < 80) (ha : T 28 k = 1) {p : Nat} (hp9 : p < 16) : am_D G yX0_takeVote (.code yX0_takeVote cX0_takeVote 3 none :: am_G) { frames := 1, cells := 0, slots := 0, locals := 20 } (hp T S o) [.ref (144 + k), .int (nI p), .int 0] (hp (st1 T 31 k ((T 31 k) ||| ((1 : Int32) <<< (nI p &&& 31)))) S o) none := by
  refine am_of (by decide +kernel) (Nat.le_of_ble_eq_true rfl) ?_
  intro C hse hret hname hF hO
  subst hse
  refine am_go hF sgX0_takeVote_0_f8a59 1 [(0, .ref (144 + k)), (1, .int (nI p)), (2, .int 0)] [.int 0] sgX0_takeVote_0_f8a59d rfl ?_
  refine am_ifeq hF 20 dX0_takeVote_1 (by decide) (fun _ => ?_) (fun h9 => False.elim ((by revert h9; decide)))
  refine am_go hF sgX0_takeVote_20_da752 22 [(0, .ref (144 + k)), (1, .int (nI p)), (2, .int 0)] [.ref (144 + k), .ref (144 + k)] sgX0_takeVote_20_da752d rfl ?_
  refine am_getf hF (hp_appeal T S o (show k < 80 by omega) ha) (T := TX0) (N := 4) rfl (inG 0 inG0) 2 (by decide) (List.mem_cons_of_mem _ lf_RX0_15) rfl (.int (T 31 k)) rfl dX0_takeVote_22 ?_
  refine am_go hF sgX0_takeVote_25_840bf 26 [(0, .ref (144 + k)), (1, .int (nI p)), (2, .int 0)] [.int (nI p), .int (T 31 k), .ref (144 + k)] sgX0_takeVote_25_840bfd rfl ?_
  refine am_dSN hF hO [.int (nI p)] [.int (T 31 k), .ref (144 + k)] (c_bit) myX5_bit syX5_bit (by decide +kernel) rfl 0 0 ⟨Nat.le_of_ble_eq_true rfl, Nat.le_of_ble_eq_true rfl⟩ ⟨Nat.le_of_ble_eq_true rfl, Nat.le_of_ble_eq_true rfl, Nat.le_of_ble_eq_true rfl, Nat.le_of_ble_eq_true rfl⟩ rfl (am_lv_ref (hp_appeal _ _ _ (show k < 80 by omega) ha) (am_lv_int (am_lv_int (am_lv_int (am_lv_ref (hp_appeal _ _ _ (show k < 80 by omega) ha) am_lv_nil))))) (Nat.le_of_ble_eq_true rfl) dX0_takeVote_26 [.int ((1 : Int32) <<< (nI p &&& 31)), .int (T 31 k), .ref (144 + k)] rfl ?_
  refine am_go hF sgX0_takeVote_29_fceb6 30 [(0, .ref (144 + k)), (1, .int (nI p)), (2, .int 0)] [.int ((T 31 k) ||| ((1 : Int32) <<< (nI p &&& 31))), .ref (144 + k)] sgX0_takeVote_29_fceb6d rfl ?_
  refine am_putf hF (hp_appeal T S o (show k < 80 by omega) ha) (T := TX0) (N := 4) rfl (inG 0 inG0) tyX0 tyX0_ok nmX0 2 (by decide) (List.mem_cons_of_mem _ lf_RX0_15) rfl (Or.inl rfl) rfl rfl (Nat.le_of_ble_eq_true rfl) dX0_takeVote_30 ?_
  refine am_eqX (hp (st1 T 31 k ((T 31 k) ||| ((1 : Int32) <<< (nI p &&& 31)))) S o) (hp_s31 (T := T) (show k < 80 by omega) ha ((T 31 k) ||| ((1 : Int32) <<< (nI p &&& 31)))) ?_
  exact am_vret hF hO hret dX0_takeVote_33 ⟨rfl, rfl⟩
set_option maxRecDepth 100000 in
set_option maxHeartbeats 4000000 in
theorem c_isDecided_f {G : am_S} {T S : am_T} {o : Nat → Int64} {k : Nat} (hk : k < 80) (ha : T 28 k = 1) : am_D G yX0_isDecided (.code yX0_isDecided cX0_isDecided 2 (some .boolean) :: am_G) { frames := 1, cells := 0, slots := 0, locals := 20 } (hp T S o) [.ref (144 + k), .int 1] (hp T S o) (some (.int (zb (decide ((2 : Int32) ≤ bc (T 30 k)))))) := by
  refine am_of (by decide +kernel) (Nat.le_of_ble_eq_true rfl) ?_
  intro C hse hret hname hF hO
  subst hse
  refine am_go hF sgX0_isDecided_0_840bf 1 [(0, .ref (144 + k)), (1, .int 1)] [.int 1] sgX0_isDecided_0_840bfd rfl ?_
  refine am_ifeq hF 11 dX0_isDecided_1 (by decide) (fun h9 => False.elim ((by revert h9; decide))) (fun _ => ?_)
  refine am_go hF sgX0_isDecided_4_34db8 5 [(0, .ref (144 + k)), (1, .int 1)] [.ref (144 + k)] sgX0_isDecided_4_34db8d rfl ?_
  refine am_getf hF (hp_appeal T S o (show k < 80 by omega) ha) (T := TX0) (N := 4) rfl (inG 0 inG0) 1 (by decide) (List.mem_cons_of_mem _ lf_RX0_9) rfl (.int (T 30 k)) rfl dX0_isDecided_5 ?_
  refine am_go hF sgX0_isDecided_8_924d5 15 [(0, .ref (144 + k)), (1, .int 1)] [.int (T 30 k)] sgX0_isDecided_8_924d5d rfl ?_
  refine am_dS hF hO [.int (T 30 k)] [] (c_bitCount) myJ6_bitCount_0f7a4 syJ6_bitCount_0f7a4 lm_RX0_29 rfl 0 0 ⟨Nat.le_of_ble_eq_true rfl, Nat.le_of_ble_eq_true rfl⟩ ⟨Nat.le_of_ble_eq_true rfl, Nat.le_of_ble_eq_true rfl, Nat.le_of_ble_eq_true rfl, Nat.le_of_ble_eq_true rfl⟩ rfl (am_lv_ref (hp_appeal _ _ _ (show k < 80 by omega) ha) (am_lv_int am_lv_nil)) (Nat.le_of_ble_eq_true rfl) dX0_isDecided_15 [.int (bc (T 30 k))] rfl ?_
  refine am_go hF sgX0_isDecided_18_d5620 19 [(0, .ref (144 + k)), (1, .int 1)] [.int 2, .int (bc (T 30 k))] sgX0_isDecided_18_d5620d rfl ?_
  refine am_icmplt hF 26 dX0_isDecided_19 (by decide) (fun c2 => ?_) (fun c2 => ?_)
  · skip
    refine am_go hF sgX0_isDecided_26_56c54 27 [(0, .ref (144 + k)), (1, .int 1)] [.int 0] sgX0_isDecided_26_56c54d rfl ?_
    refine am_top (zb (decide ((2 : Int32) ≤ bc (T 30 k)))) (by rw [zb_f (decide_eq_false (am_nle c2))]) ?_
    exact am_iret hF hO hret (zb_n _) dX0_isDecided_27 ⟨rfl, rfl⟩
  · skip
    refine am_go hF sgX0_isDecided_22_1c64c 27 [(0, .ref (144 + k)), (1, .int 1)] [.int 1] sgX0_isDecided_22_1c64cd rfl ?_
    refine am_top (zb (decide ((2 : Int32) ≤ bc (T 30 k)))) (by rw [zb_t (decide_eq_true (am_nlt c2))]) ?_
    exact am_iret hF hO hret (zb_n _) dX0_isDecided_27 ⟨rfl, rfl⟩
set_option maxRecDepth 100000 in
set_option maxHeartbeats 4000000 in
theorem c_isDecided_a {G : am_S} {T S : am_T} {o : Nat → Int64} {k : Nat} (hk : k < 80) (ha : T 28 k = 1) : am_D G yX0_isDecided (.code yX0_isDecided cX0_isDecided 2 (some .boolean) :: am_G) { frames := 1, cells := 0, slots := 0, locals := 20 } (hp T S o) [.ref (144 + k), .int 0] (hp T S o) (some (.int (zb (decide ((2 : Int32) ≤ bc (T 31 k)))))) := by
  refine am_of (by decide +kernel) (Nat.le_of_ble_eq_true rfl) ?_
  intro C hse hret hname hF hO
  subst hse
  refine am_go hF sgX0_isDecided_0_840bf 1 [(0, .ref (144 + k)), (1, .int 0)] [.int 0] sgX0_isDecided_0_840bfd rfl ?_
  refine am_ifeq hF 11 dX0_isDecided_1 (by decide) (fun _ => ?_) (fun h9 => False.elim ((by revert h9; decide)))
  refine am_go hF sgX0_isDecided_11_34db8 12 [(0, .ref (144 + k)), (1, .int 0)] [.ref (144 + k)] sgX0_isDecided_11_34db8d rfl ?_
  refine am_getf hF (hp_appeal T S o (show k < 80 by omega) ha) (T := TX0) (N := 4) rfl (inG 0 inG0) 2 (by decide) (List.mem_cons_of_mem _ lf_RX0_15) rfl (.int (T 31 k)) rfl dX0_isDecided_12 ?_
  refine am_dS hF hO [.int (T 31 k)] [] (c_bitCount) myJ6_bitCount_0f7a4 syJ6_bitCount_0f7a4 lm_RX0_29 rfl 0 0 ⟨Nat.le_of_ble_eq_true rfl, Nat.le_of_ble_eq_true rfl⟩ ⟨Nat.le_of_ble_eq_true rfl, Nat.le_of_ble_eq_true rfl, Nat.le_of_ble_eq_true rfl, Nat.le_of_ble_eq_true rfl⟩ rfl (am_lv_ref (hp_appeal _ _ _ (show k < 80 by omega) ha) (am_lv_int am_lv_nil)) (Nat.le_of_ble_eq_true rfl) dX0_isDecided_15 [.int (bc (T 31 k))] rfl ?_
  refine am_go hF sgX0_isDecided_18_d5620 19 [(0, .ref (144 + k)), (1, .int 0)] [.int 2, .int (bc (T 31 k))] sgX0_isDecided_18_d5620d rfl ?_
  refine am_icmplt hF 26 dX0_isDecided_19 (by decide) (fun c2 => ?_) (fun c2 => ?_)
  · skip
    refine am_go hF sgX0_isDecided_26_56c54 27 [(0, .ref (144 + k)), (1, .int 0)] [.int 0] sgX0_isDecided_26_56c54d rfl ?_
    refine am_top (zb (decide ((2 : Int32) ≤ bc (T 31 k)))) (by rw [zb_f (decide_eq_false (am_nle c2))]) ?_
    exact am_iret hF hO hret (zb_n _) dX0_isDecided_27 ⟨rfl, rfl⟩
  · skip
    refine am_go hF sgX0_isDecided_22_1c64c 27 [(0, .ref (144 + k)), (1, .int 0)] [.int 1] sgX0_isDecided_22_1c64cd rfl ?_
    refine am_top (zb (decide ((2 : Int32) ≤ bc (T 31 k)))) (by rw [zb_t (decide_eq_true (am_nlt c2))]) ?_
    exact am_iret hF hO hret (zb_n _) dX0_isDecided_27 ⟨rfl, rfl⟩
set_option maxRecDepth 100000 in
set_option maxHeartbeats 4000000 in
theorem c_isHeldForScore {G : am_S} {T S : am_T} {o : Nat → Int64} {m k : Nat} (hm : T 1 0 = nI m) (hm80 : m ≤ 80) (hk : k < m) : am_D G yX1_isHeldForScore (.code yX1_isHeldForScore cX1_isHeldForScore 1 (some .boolean) :: am_G) { frames := 0, cells := 0, slots := 0, locals := 0 } (hp T S o) [.ref (64 + k)] (hp T S o) (some (.int (zb (decide (T 25 k = 1 ∧ T 23 k = 2))))) := by
  refine am_of (by decide +kernel) (Nat.le_of_ble_eq_true rfl) ?_
  intro C hse hret hname hF hO
  subst hse
  refine am_go hF sgX1_isHeldForScore_0_34db8 1 [(0, .ref (64 + k))] [.ref (64 + k)] sgX1_isHeldForScore_0_34db8d rfl ?_
  refine am_getf hF (hp_mail T S o hm hm80 (show k < m by omega)) (T := TX1) (N := 11) rfl (inG 1 inG1) 7 (by decide) (List.mem_cons_of_mem _ lf_RX1_9) rfl (.int (T 25 k)) rfl dX1_isHeldForScore_1 ?_
  refine am_go hF sgX1_isHeldForScore_4_4de0a 5 [(0, .ref (64 + k))] [.int 1, .int (T 25 k)] sgX1_isHeldForScore_4_4de0ad rfl ?_
  refine am_icmpne hF 20 dX1_isHeldForScore_5 (by decide) (fun c1 => ?_) (fun c1 => ?_)
  · skip
    refine am_go hF sgX1_isHeldForScore_20_56c54 21 [(0, .ref (64 + k))] [.int 0] sgX1_isHeldForScore_20_56c54d rfl ?_
    refine am_top (zb (decide (T 25 k = 1 ∧ T 23 k = 2))) (by simp [zb, c1]) ?_
    exact am_iret hF hO hret (zb_n _) dX1_isHeldForScore_21 ⟨rfl, rfl⟩
  · skip
    refine am_go hF sgX1_isHeldForScore_8_34db8 9 [(0, .ref (64 + k))] [.ref (64 + k)] sgX1_isHeldForScore_8_34db8d rfl ?_
    refine am_getf hF (hp_mail T S o hm hm80 (show k < m by omega)) (T := TX1) (N := 11) rfl (inG 1 inG1) 5 (by decide) (List.mem_cons_of_mem _ lf_RX1_41) rfl (.int (T 23 k)) rfl dX1_isHeldForScore_9 ?_
    refine am_go hF sgX1_isHeldForScore_12_d5620 13 [(0, .ref (64 + k))] [.int 2, .int (T 23 k)] sgX1_isHeldForScore_12_d5620d rfl ?_
    refine am_icmpne hF 20 dX1_isHeldForScore_13 (by decide) (fun c2 => ?_) (fun c2 => ?_)
    · skip
      refine am_go hF sgX1_isHeldForScore_20_56c54 21 [(0, .ref (64 + k))] [.int 0] sgX1_isHeldForScore_20_56c54d rfl ?_
      refine am_top (zb (decide (T 25 k = 1 ∧ T 23 k = 2))) (by simp [zb, (eq_true c1), c2]) ?_
      exact am_iret hF hO hret (zb_n _) dX1_isHeldForScore_21 ⟨rfl, rfl⟩
    · skip
      refine am_go hF sgX1_isHeldForScore_16_1c64c 21 [(0, .ref (64 + k))] [.int 1] sgX1_isHeldForScore_16_1c64cd rfl ?_
      refine am_top (zb (decide (T 25 k = 1 ∧ T 23 k = 2))) (by simp [zb, (eq_true c1), (eq_true c2)]) ?_
      exact am_iret hF hO hret (zb_n _) dX1_isHeldForScore_21 ⟨rfl, rfl⟩
set_option maxRecDepth 100000 in
set_option maxHeartbeats 4000000 in
theorem c_isAppealOpen {G : am_S} {T S : am_T} {o : Nat → Int64} {m k : Nat} (hm : T 1 0 = nI m) (hm80 : m ≤ 80) (hk : k < m) : am_D G yX1_isAppealOpen (.code yX1_isAppealOpen cX1_isAppealOpen 1 (some .boolean) :: am_G) { frames := 0, cells := 0, slots := 0, locals := 0 } (hp T S o) [.ref (64 + k)] (hp T S o) (some (.int (zb (decide (T 28 k = 1 ∧ ¬ T 32 k = 0))))) := by
  refine am_of (by decide +kernel) (Nat.le_of_ble_eq_true rfl) ?_
  intro C hse hret hname hF hO
  subst hse
  by_cases c1 : T 28 k = 1
  · skip
    refine am_go hF sgX1_isAppealOpen_0_34db8 1 [(0, .ref (64 + k))] [.ref (64 + k)] sgX1_isAppealOpen_0_34db8d rfl ?_
    refine am_getf hF (hp_mail T S o hm hm80 (show k < m by omega)) (T := TX1) (N := 11) rfl (inG 1 inG1) 10 (by decide) (List.mem_cons_of_mem _ lf_RX1_21) rfl ((if T 28 k = 1 then Value.ref (144 + k) else Value.null)) rfl dX1_isAppealOpen_1 ?_
    refine am_eqS [.ref (144 + k)] (by rw [if_pos c1]) ?_
    refine am_ifnullR hF dX1_isAppealOpen_4 ?_
    refine am_go hF sgX1_isAppealOpen_7_34db8 8 [(0, .ref (64 + k))] [.ref (64 + k)] sgX1_isAppealOpen_7_34db8d rfl ?_
    refine am_getf hF (hp_mail T S o hm hm80 (show k < m by omega)) (T := TX1) (N := 11) rfl (inG 1 inG1) 10 (by decide) (List.mem_cons_of_mem _ lf_RX1_21) rfl ((if T 28 k = 1 then Value.ref (144 + k) else Value.null)) rfl dX1_isAppealOpen_8 ?_
    refine am_eqS [.ref (144 + k)] (by rw [if_pos c1]) ?_
    refine am_getf hF (hp_appeal T S o (show k < 80 by omega) c1) (T := TX0) (N := 4) rfl (inG 0 inG0) 3 (by decide) (List.mem_cons_of_mem _ lf_RX1_50) rfl (.int (T 32 k)) rfl dX1_isAppealOpen_11 ?_
    refine am_ifeq hF 21 dX1_isAppealOpen_14 (by decide) (fun c2 => ?_) (fun c2 => ?_)
    · skip
      refine am_go hF sgX1_isAppealOpen_21_56c54 22 [(0, .ref (64 + k))] [.int 0] sgX1_isAppealOpen_21_56c54d rfl ?_
      refine am_top (zb (decide (T 28 k = 1 ∧ ¬ T 32 k = 0))) (by simp [zb, c1, (eq_true c2)]) ?_
      exact am_iret hF hO hret (zb_n _) dX1_isAppealOpen_22 ⟨rfl, rfl⟩
    · skip
      refine am_go hF sgX1_isAppealOpen_17_1c64c 22 [(0, .ref (64 + k))] [.int 1] sgX1_isAppealOpen_17_1c64cd rfl ?_
      refine am_top (zb (decide (T 28 k = 1 ∧ ¬ T 32 k = 0))) (by simp [zb, c1, c2]) ?_
      exact am_iret hF hO hret (zb_n _) dX1_isAppealOpen_22 ⟨rfl, rfl⟩
  · skip
    refine am_go hF sgX1_isAppealOpen_0_34db8 1 [(0, .ref (64 + k))] [.ref (64 + k)] sgX1_isAppealOpen_0_34db8d rfl ?_
    refine am_getf hF (hp_mail T S o hm hm80 (show k < m by omega)) (T := TX1) (N := 11) rfl (inG 1 inG1) 10 (by decide) (List.mem_cons_of_mem _ lf_RX1_21) rfl ((if T 28 k = 1 then Value.ref (144 + k) else Value.null)) rfl dX1_isAppealOpen_1 ?_
    refine am_eqS [.null] (by rw [if_neg c1]) ?_
    refine am_ifnullN hF 21 dX1_isAppealOpen_4 (by decide) ?_
    refine am_go hF sgX1_isAppealOpen_21_56c54 22 [(0, .ref (64 + k))] [.int 0] sgX1_isAppealOpen_21_56c54d rfl ?_
    refine am_top (zb (decide (T 28 k = 1 ∧ ¬ T 32 k = 0))) (by simp [zb, c1]) ?_
    exact am_iret hF hO hret (zb_n _) dX1_isAppealOpen_22 ⟨rfl, rfl⟩
set_option maxRecDepth 100000 in
set_option maxHeartbeats 4000000 in
theorem c_canLapse {G : am_S} {T S : am_T} {o : Nat → Int64} {m k : Nat} (hm : T 1 0 = nI m) (hm80 : m ≤ 80) (hk : k < m) : am_D G yX1_canLapse (.code yX1_canLapse cX1_canLapse 1 (some .boolean) :: am_G) { frames := 0, cells := 0, slots := 0, locals := 0 } (hp T S o) [.ref (64 + k)] (hp T S o) (some (.int (zb (decide (T 25 k = 1 ∧ ¬ T 28 k = 1))))) := by
  refine am_of (by decide +kernel) (Nat.le_of_ble_eq_true rfl) ?_
  intro C hse hret hname hF hO
  subst hse
  by_cases c1 : T 28 k = 1
  · skip
    refine am_go hF sgX1_canLapse_0_34db8 1 [(0, .ref (64 + k))] [.ref (64 + k)] sgX1_canLapse_0_34db8d rfl ?_
    refine am_getf hF (hp_mail T S o hm hm80 (show k < m by omega)) (T := TX1) (N := 11) rfl (inG 1 inG1) 7 (by decide) (List.mem_cons_of_mem _ lf_RX1_9) rfl (.int (T 25 k)) rfl dX1_canLapse_1 ?_
    refine am_go hF sgX1_canLapse_4_4de0a 5 [(0, .ref (64 + k))] [.int 1, .int (T 25 k)] sgX1_canLapse_4_4de0ad rfl ?_
    refine am_icmpne hF 19 dX1_canLapse_5 (by decide) (fun c2 => ?_) (fun c2 => ?_)
    · skip
      refine am_go hF sgX1_canLapse_19_56c54 20 [(0, .ref (64 + k))] [.int 0] sgX1_canLapse_19_56c54d rfl ?_
      refine am_top (zb (decide (T 25 k = 1 ∧ ¬ T 28 k = 1))) (by simp [zb, c1, c2]) ?_
      exact am_iret hF hO hret (zb_n _) dX1_canLapse_20 ⟨rfl, rfl⟩
    · skip
      refine am_go hF sgX1_canLapse_8_34db8 9 [(0, .ref (64 + k))] [.ref (64 + k)] sgX1_canLapse_8_34db8d rfl ?_
      refine am_getf hF (hp_mail T S o hm hm80 (show k < m by omega)) (T := TX1) (N := 11) rfl (inG 1 inG1) 10 (by decide) (List.mem_cons_of_mem _ lf_RX1_21) rfl ((if T 28 k = 1 then Value.ref (144 + k) else Value.null)) rfl dX1_canLapse_9 ?_
      refine am_eqS [.ref (144 + k)] (by rw [if_pos c1]) ?_
      refine am_ifnonnullR hF 19 dX1_canLapse_12 (by decide) ?_
      refine am_go hF sgX1_canLapse_19_56c54 20 [(0, .ref (64 + k))] [.int 0] sgX1_canLapse_19_56c54d rfl ?_
      refine am_top (zb (decide (T 25 k = 1 ∧ ¬ T 28 k = 1))) (by simp [zb, c1, (eq_true c2)]) ?_
      exact am_iret hF hO hret (zb_n _) dX1_canLapse_20 ⟨rfl, rfl⟩
  · skip
    refine am_go hF sgX1_canLapse_0_34db8 1 [(0, .ref (64 + k))] [.ref (64 + k)] sgX1_canLapse_0_34db8d rfl ?_
    refine am_getf hF (hp_mail T S o hm hm80 (show k < m by omega)) (T := TX1) (N := 11) rfl (inG 1 inG1) 7 (by decide) (List.mem_cons_of_mem _ lf_RX1_9) rfl (.int (T 25 k)) rfl dX1_canLapse_1 ?_
    refine am_go hF sgX1_canLapse_4_4de0a 5 [(0, .ref (64 + k))] [.int 1, .int (T 25 k)] sgX1_canLapse_4_4de0ad rfl ?_
    refine am_icmpne hF 19 dX1_canLapse_5 (by decide) (fun c3 => ?_) (fun c3 => ?_)
    · skip
      refine am_go hF sgX1_canLapse_19_56c54 20 [(0, .ref (64 + k))] [.int 0] sgX1_canLapse_19_56c54d rfl ?_
      refine am_top (zb (decide (T 25 k = 1 ∧ ¬ T 28 k = 1))) (by simp [zb, c1, c3]) ?_
      exact am_iret hF hO hret (zb_n _) dX1_canLapse_20 ⟨rfl, rfl⟩
    · skip
      refine am_go hF sgX1_canLapse_8_34db8 9 [(0, .ref (64 + k))] [.ref (64 + k)] sgX1_canLapse_8_34db8d rfl ?_
      refine am_getf hF (hp_mail T S o hm hm80 (show k < m by omega)) (T := TX1) (N := 11) rfl (inG 1 inG1) 10 (by decide) (List.mem_cons_of_mem _ lf_RX1_21) rfl ((if T 28 k = 1 then Value.ref (144 + k) else Value.null)) rfl dX1_canLapse_9 ?_
      refine am_eqS [.null] (by rw [if_neg c1]) ?_
      refine am_ifnonnullN hF dX1_canLapse_12 ?_
      refine am_go hF sgX1_canLapse_15_1c64c 20 [(0, .ref (64 + k))] [.int 1] sgX1_canLapse_15_1c64cd rfl ?_
      refine am_top (zb (decide (T 25 k = 1 ∧ ¬ T 28 k = 1))) (by simp [zb, c1, (eq_true c3)]) ?_
      exact am_iret hF hO hret (zb_n _) dX1_canLapse_20 ⟨rfl, rfl⟩
set_option maxRecDepth 100000 in
set_option maxHeartbeats 4000000 in
theorem c_closeAppeal {G : am_S} {T S : am_T} {o : Nat → Int64} {m k : Nat} (hm : T 1 0 = nI m) (hm80 : m ≤ 80) (hk : k < m) : am_D G yX1_closeAppeal (.code yX1_closeAppeal cX1_closeAppeal 1 none :: am_G) { frames := 0, cells := 0, slots := 0, locals := 0 } (hp T S o) [.ref (64 + k)] (hp (tClose T k) S o) none := by
  refine am_of (by decide +kernel) (Nat.le_of_ble_eq_true rfl) ?_
  intro C hse hret hname hF hO
  subst hse
  by_cases c1 : T 28 k = 1
  · skip
    refine am_go hF sgX1_closeAppeal_0_34db8 1 [(0, .ref (64 + k))] [.ref (64 + k)] sgX1_closeAppeal_0_34db8d rfl ?_
    refine am_getf hF (hp_mail T S o hm hm80 (show k < m by omega)) (T := TX1) (N := 11) rfl (inG 1 inG1) 10 (by decide) (List.mem_cons_of_mem _ lf_RX1_21) rfl ((if T 28 k = 1 then Value.ref (144 + k) else Value.null)) rfl dX1_closeAppeal_1 ?_
    refine am_eqS [.ref (144 + k)] (by rw [if_pos c1]) ?_
    refine am_ifnullR hF dX1_closeAppeal_4 ?_
    refine am_go hF sgX1_closeAppeal_7_34db8 8 [(0, .ref (64 + k))] [.ref (64 + k)] sgX1_closeAppeal_7_34db8d rfl ?_
    refine am_getf hF (hp_mail T S o hm hm80 (show k < m by omega)) (T := TX1) (N := 11) rfl (inG 1 inG1) 10 (by decide) (List.mem_cons_of_mem _ lf_RX1_21) rfl ((if T 28 k = 1 then Value.ref (144 + k) else Value.null)) rfl dX1_closeAppeal_8 ?_
    refine am_eqS [.ref (144 + k)] (by rw [if_pos c1]) ?_
    refine am_go hF sgX1_closeAppeal_11_56c54 12 [(0, .ref (64 + k))] [.int 0, .ref (144 + k)] sgX1_closeAppeal_11_56c54d rfl ?_
    refine am_putf hF (hp_appeal T S o (show k < 80 by omega) c1) (T := TX0) (N := 4) rfl (inG 0 inG0) tyX0 tyX0_ok nmX0 3 (by decide) (List.mem_cons_of_mem _ lf_RX1_50) rfl (Or.inl rfl) rfl rfl (Nat.le_of_ble_eq_true rfl) dX1_closeAppeal_12 ?_
    refine am_eqX (hp (st1 T 32 k 0) S o) (hp_s32 (T := T) (show k < 80 by omega) c1 0) ?_
    exact am_vret hF hO hret dX1_closeAppeal_15 ⟨by simp [tClose, c1, st1_id], rfl⟩
  · skip
    refine am_go hF sgX1_closeAppeal_0_34db8 1 [(0, .ref (64 + k))] [.ref (64 + k)] sgX1_closeAppeal_0_34db8d rfl ?_
    refine am_getf hF (hp_mail T S o hm hm80 (show k < m by omega)) (T := TX1) (N := 11) rfl (inG 1 inG1) 10 (by decide) (List.mem_cons_of_mem _ lf_RX1_21) rfl ((if T 28 k = 1 then Value.ref (144 + k) else Value.null)) rfl dX1_closeAppeal_1 ?_
    refine am_eqS [.null] (by rw [if_neg c1]) ?_
    refine am_ifnullN hF 15 dX1_closeAppeal_4 (by decide) ?_
    exact am_vret hF hO hret dX1_closeAppeal_15 ⟨by simp [tClose, c1, st1_id], rfl⟩
set_option maxRecDepth 100000 in
set_option maxHeartbeats 4000000 in
theorem c_isInDigest {G : am_S} {T S : am_T} {o : Nat → Int64} {m k : Nat} (hm : T 1 0 = nI m) (hm80 : m ≤ 80) (hk : k < m) {v l : Nat} {x : Int32} (hv : T 2 0 = nI v) (hv80 : v ≤ 80) (hd : (T 21 k).toNatClampNeg < v) (hl : l < 10) : am_D G yX1_isInDigest (.code yX1_isInDigest cX1_isInDigest 3 (some .boolean) :: am_G) { frames := 1, cells := 0, slots := 0, locals := 21 } (hp T S o) [.ref (64 + k), .int (nI l), .int x] (hp T S o) (some (.int (zb (decide (T 33 (T 21 k).toNatClampNeg = x ∧ bt (T 27 k) l = true))))) := by
  refine am_of (by decide +kernel) (Nat.le_of_ble_eq_true rfl) ?_
  intro C hse hret hname hF hO
  subst hse
  refine am_go hF sgX1_isInDigest_0_34db8 1 [(0, .ref (64 + k)), (1, .int (nI l)), (2, .int x)] [.ref (64 + k)] sgX1_isInDigest_0_34db8d rfl ?_
  refine am_getf hF (hp_mail T S o hm hm80 (show k < m by omega)) (T := TX1) (N := 11) rfl (inG 1 inG1) 3 (by decide) (List.mem_cons_of_mem _ lf_RX1_34) rfl (.ref (224 + ((T 21 k).toNatClampNeg))) rfl dX1_isInDigest_1 ?_
  refine am_getf hF (hp_day T S o hv hv80 (show (T 21 k).toNatClampNeg < v by omega)) (T := TX4) (N := 5) rfl (inG 4 inG4) 0 (by decide) (List.mem_cons_of_mem _ lf_RX1_44) rfl (.int (T 33 ((T 21 k).toNatClampNeg))) rfl dX1_isInDigest_4 ?_
  refine am_go hF sgX1_isInDigest_7_f8a59 8 [(0, .ref (64 + k)), (1, .int (nI l)), (2, .int x)] [.int x, .int (T 33 ((T 21 k).toNatClampNeg))] sgX1_isInDigest_7_f8a59d rfl ?_
  refine am_icmpne hF 26 dX1_isInDigest_8 (by decide) (fun c1 => ?_) (fun c1 => ?_)
  · skip
    refine am_go hF sgX1_isInDigest_26_56c54 27 [(0, .ref (64 + k)), (1, .int (nI l)), (2, .int x)] [.int 0] sgX1_isInDigest_26_56c54d rfl ?_
    refine am_top (zb (decide (T 33 (T 21 k).toNatClampNeg = x ∧ bt (T 27 k) l = true))) (by simp [zb, c1]) ?_
    exact am_iret hF hO hret (zb_n _) dX1_isInDigest_27 ⟨rfl, rfl⟩
  · skip
    refine am_go hF sgX1_isInDigest_11_34db8 12 [(0, .ref (64 + k)), (1, .int (nI l)), (2, .int x)] [.ref (64 + k)] sgX1_isInDigest_11_34db8d rfl ?_
    refine am_getf hF (hp_mail T S o hm hm80 (show k < m by omega)) (T := TX1) (N := 11) rfl (inG 1 inG1) 9 (by decide) (List.mem_cons_of_mem _ lf_RX1_18) rfl (.int (T 27 k)) rfl dX1_isInDigest_12 ?_
    refine am_go hF sgX1_isInDigest_15_840bf 16 [(0, .ref (64 + k)), (1, .int (nI l)), (2, .int x)] [.int (nI l), .int (T 27 k)] sgX1_isInDigest_15_840bfd rfl ?_
    refine am_dSN hF hO [.int (T 27 k), .int (nI l)] [] (c_contains (show l < 32 by omega)) myX5_contains syX5_contains (by decide +kernel) rfl 0 0 ⟨Nat.le_of_ble_eq_true rfl, Nat.le_of_ble_eq_true rfl⟩ ⟨Nat.le_of_ble_eq_true rfl, Nat.le_of_ble_eq_true rfl, Nat.le_of_ble_eq_true rfl, Nat.le_of_ble_eq_true rfl⟩ rfl (am_lv_ref (hp_mail _ _ _ hm hm80 (show k < m by omega)) (am_lv_int (am_lv_int am_lv_nil))) (Nat.le_of_ble_eq_true rfl) dX1_isInDigest_16 [.int (zb (bt (T 27 k) l))] rfl ?_
    refine am_ifeq hF 26 dX1_isInDigest_19 (by decide) (fun c2 => ?_) (fun c2 => ?_)
    · skip
      replace c2 := zb_0.mp c2
      refine am_go hF sgX1_isInDigest_26_56c54 27 [(0, .ref (64 + k)), (1, .int (nI l)), (2, .int x)] [.int 0] sgX1_isInDigest_26_56c54d rfl ?_
      refine am_top (zb (decide (T 33 (T 21 k).toNatClampNeg = x ∧ bt (T 27 k) l = true))) (by simp [zb, (eq_true c1), c2]) ?_
      exact am_iret hF hO hret (zb_n _) dX1_isInDigest_27 ⟨rfl, rfl⟩
    · skip
      replace c2 := zb_p.mp c2
      refine am_go hF sgX1_isInDigest_22_1c64c 27 [(0, .ref (64 + k)), (1, .int (nI l)), (2, .int x)] [.int 1] sgX1_isInDigest_22_1c64cd rfl ?_
      refine am_top (zb (decide (T 33 (T 21 k).toNatClampNeg = x ∧ bt (T 27 k) l = true))) (by simp [zb, (eq_true c1), c2]) ?_
      exact am_iret hF hO hret (zb_n _) dX1_isInDigest_27 ⟨rfl, rfl⟩
set_option maxRecDepth 100000 in
set_option maxHeartbeats 4000000 in
theorem c_hasMember {G : am_S} {T S : am_T} {o : Nat → Int64} {n l : Nat} (hn : T 0 0 = nI n) (hn10 : n ≤ 10) (hl : l < n) {p : Nat} (hp9 : p < 16) : am_D G yX2_hasMember (.code yX2_hasMember cX2_hasMember 2 (some .boolean) :: am_G) { frames := 1, cells := 0, slots := 0, locals := 21 } (hp T S o) [.ref (48 + l), .int (nI p)] (hp T S o) (some (.int (zb (bt (T 11 l) p)))) := by
  refine am_of (by decide +kernel) (Nat.le_of_ble_eq_true rfl) ?_
  intro C hse hret hname hF hO
  subst hse
  refine am_go hF sgX2_hasMember_0_34db8 1 [(0, .ref (48 + l)), (1, .int (nI p))] [.ref (48 + l)] sgX2_hasMember_0_34db8d rfl ?_
  refine am_getf hF (hp_list T S o hn hn10 (show l < n by omega)) (T := TX2) (N := 8) rfl (inG 2 inG2) 1 (by decide) (List.mem_cons_of_mem _ lf_RX2_9) rfl (.int (T 11 l)) rfl dX2_hasMember_1 ?_
  refine am_go hF sgX2_hasMember_4_840bf 5 [(0, .ref (48 + l)), (1, .int (nI p))] [.int (nI p), .int (T 11 l)] sgX2_hasMember_4_840bfd rfl ?_
  refine am_dSN hF hO [.int (T 11 l), .int (nI p)] [] (c_contains (show p < 32 by omega)) myX5_contains syX5_contains (by decide +kernel) rfl 0 0 ⟨Nat.le_of_ble_eq_true rfl, Nat.le_of_ble_eq_true rfl⟩ ⟨Nat.le_of_ble_eq_true rfl, Nat.le_of_ble_eq_true rfl, Nat.le_of_ble_eq_true rfl, Nat.le_of_ble_eq_true rfl⟩ rfl (am_lv_ref (hp_list _ _ _ hn hn10 (show l < n by omega)) (am_lv_int am_lv_nil)) (Nat.le_of_ble_eq_true rfl) dX2_hasMember_5 [.int (zb (bt (T 11 l) p))] rfl ?_
  exact am_iret hF hO hret (zb_n _) dX2_hasMember_8 ⟨rfl, rfl⟩
set_option maxRecDepth 100000 in
set_option maxHeartbeats 4000000 in
theorem c_memberMode {G : am_S} {T S : am_T} {o : Nat → Int64} {n l : Nat} (hn : T 0 0 = nI n) (hn10 : n ≤ 10) (hl : l < n) {p : Nat} (hp9 : p < 16) : am_D G yX2_memberMode (.code yX2_memberMode cX2_memberMode 2 (some .int) :: am_G) { frames := 1, cells := 0, slots := 0, locals := 21 } (hp T S o) [.ref (48 + l), .int (nI p)] (hp T S o) (some (.int (zb (!bt (T 12 l) p)))) := by
  refine am_of (by decide +kernel) (Nat.le_of_ble_eq_true rfl) ?_
  intro C hse hret hname hF hO
  subst hse
  refine am_go hF sgX2_memberMode_0_34db8 1 [(0, .ref (48 + l)), (1, .int (nI p))] [.ref (48 + l)] sgX2_memberMode_0_34db8d rfl ?_
  refine am_getf hF (hp_list T S o hn hn10 (show l < n by omega)) (T := TX2) (N := 8) rfl (inG 2 inG2) 2 (by decide) (List.mem_cons_of_mem _ lf_RX2_15) rfl (.int (T 12 l)) rfl dX2_memberMode_1 ?_
  refine am_go hF sgX2_memberMode_4_840bf 5 [(0, .ref (48 + l)), (1, .int (nI p))] [.int (nI p), .int (T 12 l)] sgX2_memberMode_4_840bfd rfl ?_
  refine am_dSN hF hO [.int (T 12 l), .int (nI p)] [] (c_contains (show p < 32 by omega)) myX5_contains syX5_contains (by decide +kernel) rfl 0 0 ⟨Nat.le_of_ble_eq_true rfl, Nat.le_of_ble_eq_true rfl⟩ ⟨Nat.le_of_ble_eq_true rfl, Nat.le_of_ble_eq_true rfl, Nat.le_of_ble_eq_true rfl, Nat.le_of_ble_eq_true rfl⟩ rfl (am_lv_ref (hp_list _ _ _ hn hn10 (show l < n by omega)) (am_lv_int am_lv_nil)) (Nat.le_of_ble_eq_true rfl) dX2_memberMode_5 [.int (zb (bt (T 12 l) p))] rfl ?_
  refine am_ifeq hF 15 dX2_memberMode_8 (by decide) (fun c1 => ?_) (fun c1 => ?_)
  · skip
    replace c1 := zb_0.mp c1
    refine am_go hF sgX2_memberMode_15_4de0a 16 [(0, .ref (48 + l)), (1, .int (nI p))] [.int 1] sgX2_memberMode_15_4de0ad rfl ?_
    refine am_top (zb (!bt (T 12 l) p)) (by simp [zb, c1]) ?_
    exact am_iret hF hO hret rfl dX2_memberMode_16 ⟨rfl, rfl⟩
  · skip
    replace c1 := zb_p.mp c1
    refine am_go hF sgX2_memberMode_11_1cbe9 16 [(0, .ref (48 + l)), (1, .int (nI p))] [.int 0] sgX2_memberMode_11_1cbe9d rfl ?_
    refine am_top (zb (!bt (T 12 l) p)) (by simp [zb, c1]) ?_
    exact am_iret hF hO hret rfl dX2_memberMode_16 ⟨rfl, rfl⟩
set_option maxRecDepth 100000 in
set_option maxHeartbeats 4000000 in
theorem c_putMember {G : am_S} {T S : am_T} {o : Nat → Int64} {n l : Nat} (hn : T 0 0 = nI n) (hn10 : n ≤ 10) (hl : l < n) {p : Nat} {x : Int32} (hp9 : p < 16) : am_D G yX2_putMember (.code yX2_putMember cX2_putMember 3 none :: am_G) { frames := 1, cells := 0, slots := 0, locals := 20 } (hp T S o) [.ref (48 + l), .int (nI p), .int x] (hp (tPut T l p x) S o) none := by
  refine am_of (by decide +kernel) (Nat.le_of_ble_eq_true rfl) ?_
  intro C hse hret hname hF hO
  subst hse
  refine am_go hF sgX2_putMember_0_da752 2 [(0, .ref (48 + l)), (1, .int (nI p)), (2, .int x)] [.ref (48 + l), .ref (48 + l)] sgX2_putMember_0_da752d rfl ?_
  refine am_getf hF (hp_list T S o hn hn10 (show l < n by omega)) (T := TX2) (N := 8) rfl (inG 2 inG2) 1 (by decide) (List.mem_cons_of_mem _ lf_RX2_9) rfl (.int (T 11 l)) rfl dX2_putMember_2 ?_
  refine am_go hF sgX2_putMember_5_840bf 6 [(0, .ref (48 + l)), (1, .int (nI p)), (2, .int x)] [.int (nI p), .int (T 11 l), .ref (48 + l)] sgX2_putMember_5_840bfd rfl ?_
  refine am_dSN hF hO [.int (nI p)] [.int (T 11 l), .ref (48 + l)] (c_bit) myX5_bit syX5_bit (by decide +kernel) rfl 0 0 ⟨Nat.le_of_ble_eq_true rfl, Nat.le_of_ble_eq_true rfl⟩ ⟨Nat.le_of_ble_eq_true rfl, Nat.le_of_ble_eq_true rfl, Nat.le_of_ble_eq_true rfl, Nat.le_of_ble_eq_true rfl⟩ rfl (am_lv_ref (hp_list _ _ _ hn hn10 (show l < n by omega)) (am_lv_int (am_lv_int (am_lv_int (am_lv_ref (hp_list _ _ _ hn hn10 (show l < n by omega)) am_lv_nil))))) (Nat.le_of_ble_eq_true rfl) dX2_putMember_6 [.int ((1 : Int32) <<< (nI p &&& 31)), .int (T 11 l), .ref (48 + l)] rfl ?_
  refine am_go hF sgX2_putMember_9_fceb6 10 [(0, .ref (48 + l)), (1, .int (nI p)), (2, .int x)] [.int ((T 11 l) ||| ((1 : Int32) <<< (nI p &&& 31))), .ref (48 + l)] sgX2_putMember_9_fceb6d rfl ?_
  refine am_putf hF (hp_list T S o hn hn10 (show l < n by omega)) (T := TX2) (N := 8) rfl (inG 2 inG2) tyX2 tyX2_ok nmX2 1 (by decide) (List.mem_cons_of_mem _ lf_RX2_9) rfl (Or.inl rfl) rfl rfl (Nat.le_of_ble_eq_true rfl) dX2_putMember_10 ?_
  refine am_eqX (hp (st1 T 11 l ((T 11 l) ||| ((1 : Int32) <<< (nI p &&& 31)))) S o) (hp_s11 (T := T) hn hn10 (show l < n by omega) ((T 11 l) ||| ((1 : Int32) <<< (nI p &&& 31)))) ?_
  refine am_go hF sgX2_putMember_13_f8a59 14 [(0, .ref (48 + l)), (1, .int (nI p)), (2, .int x)] [.int x] sgX2_putMember_13_f8a59d rfl ?_
  refine am_ifne hF 33 dX2_putMember_14 (by decide) (fun c1 => ?_) (fun c1 => ?_)
  · skip
    refine am_go hF sgX2_putMember_33_da752 35 [(0, .ref (48 + l)), (1, .int (nI p)), (2, .int x)] [.ref (48 + l), .ref (48 + l)] sgX2_putMember_33_da752d rfl ?_
    refine am_getf hF (hp_list (st1 T 11 l ((T 11 l) ||| ((1 : Int32) <<< (nI p &&& 31)))) S o hn hn10 (show l < n by omega)) (T := TX2) (N := 8) rfl (inG 2 inG2) 2 (by decide) (List.mem_cons_of_mem _ lf_RX2_15) rfl (.int (T 12 l)) rfl dX2_putMember_35 ?_
    refine am_go hF sgX2_putMember_38_840bf 39 [(0, .ref (48 + l)), (1, .int (nI p)), (2, .int x)] [.int (nI p), .int (T 12 l), .ref (48 + l)] sgX2_putMember_38_840bfd rfl ?_
    refine am_dSN hF hO [.int (nI p)] [.int (T 12 l), .ref (48 + l)] (c_bit) myX5_bit syX5_bit (by decide +kernel) rfl 0 0 ⟨Nat.le_of_ble_eq_true rfl, Nat.le_of_ble_eq_true rfl⟩ ⟨Nat.le_of_ble_eq_true rfl, Nat.le_of_ble_eq_true rfl, Nat.le_of_ble_eq_true rfl, Nat.le_of_ble_eq_true rfl⟩ rfl (am_lv_ref (hp_list _ _ _ hn hn10 (show l < n by omega)) (am_lv_int (am_lv_int (am_lv_int (am_lv_ref (hp_list _ _ _ hn hn10 (show l < n by omega)) am_lv_nil))))) (Nat.le_of_ble_eq_true rfl) dX2_putMember_39 [.int ((1 : Int32) <<< (nI p &&& 31)), .int (T 12 l), .ref (48 + l)] rfl ?_
    refine am_go hF sgX2_putMember_42_c71c9 45 [(0, .ref (48 + l)), (1, .int (nI p)), (2, .int x)] [.int ((T 12 l) &&& (((1 : Int32) <<< (nI p &&& 31)) ^^^ (-1))), .ref (48 + l)] sgX2_putMember_42_c71c9d rfl ?_
    refine am_putf hF (hp_list (st1 T 11 l ((T 11 l) ||| ((1 : Int32) <<< (nI p &&& 31)))) S o hn hn10 (show l < n by omega)) (T := TX2) (N := 8) rfl (inG 2 inG2) tyX2 tyX2_ok nmX2 2 (by decide) (List.mem_cons_of_mem _ lf_RX2_15) rfl (Or.inl rfl) rfl rfl (Nat.le_of_ble_eq_true rfl) dX2_putMember_45 ?_
    refine am_eqX (hp (st1 (st1 T 11 l ((T 11 l) ||| ((1 : Int32) <<< (nI p &&& 31)))) 12 l ((T 12 l) &&& (((1 : Int32) <<< (nI p &&& 31)) ^^^ (-1)))) S o) (hp_s12 (T := (st1 T 11 l ((T 11 l) ||| ((1 : Int32) <<< (nI p &&& 31))))) hn hn10 (show l < n by omega) ((T 12 l) &&& (((1 : Int32) <<< (nI p &&& 31)) ^^^ (-1)))) ?_
    exact am_vret hF hO hret dX2_putMember_48 ⟨by simp [tPut, c1], rfl⟩
  · skip
    refine am_go hF sgX2_putMember_17_da752 19 [(0, .ref (48 + l)), (1, .int (nI p)), (2, .int x)] [.ref (48 + l), .ref (48 + l)] sgX2_putMember_17_da752d rfl ?_
    refine am_getf hF (hp_list (st1 T 11 l ((T 11 l) ||| ((1 : Int32) <<< (nI p &&& 31)))) S o hn hn10 (show l < n by omega)) (T := TX2) (N := 8) rfl (inG 2 inG2) 2 (by decide) (List.mem_cons_of_mem _ lf_RX2_15) rfl (.int (T 12 l)) rfl dX2_putMember_19 ?_
    refine am_go hF sgX2_putMember_22_840bf 23 [(0, .ref (48 + l)), (1, .int (nI p)), (2, .int x)] [.int (nI p), .int (T 12 l), .ref (48 + l)] sgX2_putMember_22_840bfd rfl ?_
    refine am_dSN hF hO [.int (nI p)] [.int (T 12 l), .ref (48 + l)] (c_bit) myX5_bit syX5_bit (by decide +kernel) rfl 0 0 ⟨Nat.le_of_ble_eq_true rfl, Nat.le_of_ble_eq_true rfl⟩ ⟨Nat.le_of_ble_eq_true rfl, Nat.le_of_ble_eq_true rfl, Nat.le_of_ble_eq_true rfl, Nat.le_of_ble_eq_true rfl⟩ rfl (am_lv_ref (hp_list _ _ _ hn hn10 (show l < n by omega)) (am_lv_int (am_lv_int (am_lv_int (am_lv_ref (hp_list _ _ _ hn hn10 (show l < n by omega)) am_lv_nil))))) (Nat.le_of_ble_eq_true rfl) dX2_putMember_23 [.int ((1 : Int32) <<< (nI p &&& 31)), .int (T 12 l), .ref (48 + l)] rfl ?_
    refine am_go hF sgX2_putMember_26_fceb6 27 [(0, .ref (48 + l)), (1, .int (nI p)), (2, .int x)] [.int ((T 12 l) ||| ((1 : Int32) <<< (nI p &&& 31))), .ref (48 + l)] sgX2_putMember_26_fceb6d rfl ?_
    refine am_putf hF (hp_list (st1 T 11 l ((T 11 l) ||| ((1 : Int32) <<< (nI p &&& 31)))) S o hn hn10 (show l < n by omega)) (T := TX2) (N := 8) rfl (inG 2 inG2) tyX2 tyX2_ok nmX2 2 (by decide) (List.mem_cons_of_mem _ lf_RX2_15) rfl (Or.inl rfl) rfl rfl (Nat.le_of_ble_eq_true rfl) dX2_putMember_27 ?_
    refine am_eqX (hp (st1 (st1 T 11 l ((T 11 l) ||| ((1 : Int32) <<< (nI p &&& 31)))) 12 l ((T 12 l) ||| ((1 : Int32) <<< (nI p &&& 31)))) S o) (hp_s12 (T := (st1 T 11 l ((T 11 l) ||| ((1 : Int32) <<< (nI p &&& 31))))) hn hn10 (show l < n by omega) ((T 12 l) ||| ((1 : Int32) <<< (nI p &&& 31)))) ?_
    refine am_go hF sgX2_putMember_30_4d408 48 [(0, .ref (48 + l)), (1, .int (nI p)), (2, .int x)] [] sgX2_putMember_30_4d408d rfl ?_
    exact am_vret hF hO hret dX2_putMember_48 ⟨by simp [tPut, (eq_true c1)], rfl⟩
set_option maxRecDepth 100000 in
set_option maxHeartbeats 4000000 in
theorem c_dropMember {G : am_S} {T S : am_T} {o : Nat → Int64} {n l : Nat} (hn : T 0 0 = nI n) (hn10 : n ≤ 10) (hl : l < n) {p : Nat} (hp9 : p < 16) : am_D G yX2_dropMember (.code yX2_dropMember cX2_dropMember 2 none :: am_G) { frames := 1, cells := 0, slots := 0, locals := 20 } (hp T S o) [.ref (48 + l), .int (nI p)] (hp (tDrop T l p) S o) none := by
  refine am_of (by decide +kernel) (Nat.le_of_ble_eq_true rfl) ?_
  intro C hse hret hname hF hO
  subst hse
  refine am_go hF sgX2_dropMember_0_da752 2 [(0, .ref (48 + l)), (1, .int (nI p))] [.ref (48 + l), .ref (48 + l)] sgX2_dropMember_0_da752d rfl ?_
  refine am_getf hF (hp_list T S o hn hn10 (show l < n by omega)) (T := TX2) (N := 8) rfl (inG 2 inG2) 1 (by decide) (List.mem_cons_of_mem _ lf_RX2_9) rfl (.int (T 11 l)) rfl dX2_dropMember_2 ?_
  refine am_go hF sgX2_dropMember_5_840bf 6 [(0, .ref (48 + l)), (1, .int (nI p))] [.int (nI p), .int (T 11 l), .ref (48 + l)] sgX2_dropMember_5_840bfd rfl ?_
  refine am_dSN hF hO [.int (nI p)] [.int (T 11 l), .ref (48 + l)] (c_bit) myX5_bit syX5_bit (by decide +kernel) rfl 0 0 ⟨Nat.le_of_ble_eq_true rfl, Nat.le_of_ble_eq_true rfl⟩ ⟨Nat.le_of_ble_eq_true rfl, Nat.le_of_ble_eq_true rfl, Nat.le_of_ble_eq_true rfl, Nat.le_of_ble_eq_true rfl⟩ rfl (am_lv_ref (hp_list _ _ _ hn hn10 (show l < n by omega)) (am_lv_int (am_lv_int (am_lv_ref (hp_list _ _ _ hn hn10 (show l < n by omega)) am_lv_nil)))) (Nat.le_of_ble_eq_true rfl) dX2_dropMember_6 [.int ((1 : Int32) <<< (nI p &&& 31)), .int (T 11 l), .ref (48 + l)] rfl ?_
  refine am_go hF sgX2_dropMember_9_c71c9 12 [(0, .ref (48 + l)), (1, .int (nI p))] [.int ((T 11 l) &&& (((1 : Int32) <<< (nI p &&& 31)) ^^^ (-1))), .ref (48 + l)] sgX2_dropMember_9_c71c9d rfl ?_
  refine am_putf hF (hp_list T S o hn hn10 (show l < n by omega)) (T := TX2) (N := 8) rfl (inG 2 inG2) tyX2 tyX2_ok nmX2 1 (by decide) (List.mem_cons_of_mem _ lf_RX2_9) rfl (Or.inl rfl) rfl rfl (Nat.le_of_ble_eq_true rfl) dX2_dropMember_12 ?_
  refine am_eqX (hp (st1 T 11 l ((T 11 l) &&& (((1 : Int32) <<< (nI p &&& 31)) ^^^ (-1)))) S o) (hp_s11 (T := T) hn hn10 (show l < n by omega) ((T 11 l) &&& (((1 : Int32) <<< (nI p &&& 31)) ^^^ (-1)))) ?_
  refine am_go hF sgX2_dropMember_15_da752 17 [(0, .ref (48 + l)), (1, .int (nI p))] [.ref (48 + l), .ref (48 + l)] sgX2_dropMember_15_da752d rfl ?_
  refine am_getf hF (hp_list (st1 T 11 l ((T 11 l) &&& (((1 : Int32) <<< (nI p &&& 31)) ^^^ (-1)))) S o hn hn10 (show l < n by omega)) (T := TX2) (N := 8) rfl (inG 2 inG2) 2 (by decide) (List.mem_cons_of_mem _ lf_RX2_15) rfl (.int (T 12 l)) rfl dX2_dropMember_17 ?_
  refine am_go hF sgX2_dropMember_20_840bf 21 [(0, .ref (48 + l)), (1, .int (nI p))] [.int (nI p), .int (T 12 l), .ref (48 + l)] sgX2_dropMember_20_840bfd rfl ?_
  refine am_dSN hF hO [.int (nI p)] [.int (T 12 l), .ref (48 + l)] (c_bit) myX5_bit syX5_bit (by decide +kernel) rfl 0 0 ⟨Nat.le_of_ble_eq_true rfl, Nat.le_of_ble_eq_true rfl⟩ ⟨Nat.le_of_ble_eq_true rfl, Nat.le_of_ble_eq_true rfl, Nat.le_of_ble_eq_true rfl, Nat.le_of_ble_eq_true rfl⟩ rfl (am_lv_ref (hp_list _ _ _ hn hn10 (show l < n by omega)) (am_lv_int (am_lv_int (am_lv_ref (hp_list _ _ _ hn hn10 (show l < n by omega)) am_lv_nil)))) (Nat.le_of_ble_eq_true rfl) dX2_dropMember_21 [.int ((1 : Int32) <<< (nI p &&& 31)), .int (T 12 l), .ref (48 + l)] rfl ?_
  refine am_go hF sgX2_dropMember_24_c71c9 27 [(0, .ref (48 + l)), (1, .int (nI p))] [.int ((T 12 l) &&& (((1 : Int32) <<< (nI p &&& 31)) ^^^ (-1))), .ref (48 + l)] sgX2_dropMember_24_c71c9d rfl ?_
  refine am_putf hF (hp_list (st1 T 11 l ((T 11 l) &&& (((1 : Int32) <<< (nI p &&& 31)) ^^^ (-1)))) S o hn hn10 (show l < n by omega)) (T := TX2) (N := 8) rfl (inG 2 inG2) tyX2 tyX2_ok nmX2 2 (by decide) (List.mem_cons_of_mem _ lf_RX2_15) rfl (Or.inl rfl) rfl rfl (Nat.le_of_ble_eq_true rfl) dX2_dropMember_27 ?_
  refine am_eqX (hp (st1 (st1 T 11 l ((T 11 l) &&& (((1 : Int32) <<< (nI p &&& 31)) ^^^ (-1)))) 12 l ((T 12 l) &&& (((1 : Int32) <<< (nI p &&& 31)) ^^^ (-1)))) S o) (hp_s12 (T := (st1 T 11 l ((T 11 l) &&& (((1 : Int32) <<< (nI p &&& 31)) ^^^ (-1))))) hn hn10 (show l < n by omega) ((T 12 l) &&& (((1 : Int32) <<< (nI p &&& 31)) ^^^ (-1)))) ?_
  exact am_vret hF hO hret dX2_dropMember_30 ⟨rfl, rfl⟩
set_option maxRecDepth 100000 in
set_option maxHeartbeats 4000000 in
theorem c_hasRoom {G : am_S} {T S : am_T} {o : Nat → Int64} {p : Nat} (hp9 : p < 16) : am_D G yX3_hasRoom (.code yX3_hasRoom cX3_hasRoom 1 (some .boolean) :: am_G) { frames := 0, cells := 0, slots := 0, locals := 0 } (hp T S o) [.ref (16 + p)] (hp T S o) (some (.int (zb (decide (T 8 p < 10))))) := by
  refine am_of (by decide +kernel) (Nat.le_of_ble_eq_true rfl) ?_
  intro C hse hret hname hF hO
  subst hse
  refine am_go hF sgX3_hasRoom_0_34db8 1 [(0, .ref (16 + p))] [.ref (16 + p)] sgX3_hasRoom_0_34db8d rfl ?_
  refine am_getf hF (hp_person T S o (show p < 16 by omega)) (T := TX3) (N := 5) rfl (inG 3 inG3) 4 (by decide) (List.mem_cons_of_mem _ lf_RX3_25) rfl (.int (T 8 p)) rfl dX3_hasRoom_1 ?_
  refine am_go hF sgX3_hasRoom_4_ee951 6 [(0, .ref (16 + p))] [.int 10, .int (T 8 p)] sgX3_hasRoom_4_ee951d rfl ?_
  refine am_icmpge hF 13 dX3_hasRoom_6 (by decide) (fun c1 => ?_) (fun c1 => ?_)
  · skip
    refine am_go hF sgX3_hasRoom_13_56c54 14 [(0, .ref (16 + p))] [.int 0] sgX3_hasRoom_13_56c54d rfl ?_
    refine am_top (zb (decide (T 8 p < 10))) (by rw [zb_f (decide_eq_false (am_nlt2 c1))]) ?_
    exact am_iret hF hO hret (zb_n _) dX3_hasRoom_14 ⟨rfl, rfl⟩
  · skip
    refine am_go hF sgX3_hasRoom_9_1c64c 14 [(0, .ref (16 + p))] [.int 1] sgX3_hasRoom_9_1c64cd rfl ?_
    refine am_top (zb (decide (T 8 p < 10))) (by rw [zb_t (decide_eq_true (am_nle2 c1))]) ?_
    exact am_iret hF hO hret (zb_n _) dX3_hasRoom_14 ⟨rfl, rfl⟩
set_option maxRecDepth 100000 in
set_option maxHeartbeats 4000000 in
theorem c_putIntoBox {G : am_S} {T S : am_T} {o : Nat → Int64} {p : Nat} (hp9 : p < 16) {b : Nat} {x : Int32} (hb : T 8 p = nI b) (hb10 : b < 10) : am_D G yX3_putIntoBox (.code yX3_putIntoBox cX3_putIntoBox 2 none :: am_G) { frames := 1, cells := 0, slots := 0, locals := 20 } (hp T S o) [.ref (16 + p), .int x] (hp (st1 (st1 T 9 (10 * p + b) x) 8 p ((nI b) + 1)) S o) none := by
  refine am_of (by decide +kernel) (Nat.le_of_ble_eq_true rfl) ?_
  intro C hse hret hname hF hO
  subst hse
  refine am_go hF sgX3_putIntoBox_0_34db8 1 [(0, .ref (16 + p)), (1, .int x)] [.ref (16 + p)] sgX3_putIntoBox_0_34db8d rfl ?_
  refine am_dV hF hO [] [] (c_hasRoom (show p < 16 by omega)) myX3_hasRoom vyX3_hasRoom lm_RX3_28 (hp_person _ _ _ (show p < 16 by omega)) rfl rfl 0 0 ⟨Nat.le_of_ble_eq_true rfl, Nat.le_of_ble_eq_true rfl⟩ ⟨Nat.le_of_ble_eq_true rfl, Nat.le_of_ble_eq_true rfl, Nat.le_of_ble_eq_true rfl, Nat.le_of_ble_eq_true rfl⟩ rfl (am_lv_ref (hp_person _ _ _ (show p < 16 by omega)) (am_lv_int am_lv_nil)) (Nat.le_of_ble_eq_true rfl) dX3_putIntoBox_1 [.int (zb (decide (T 8 p < 10)))] rfl ?_
  refine am_ifeq hF 27 dX3_putIntoBox_4 (by decide) (fun h9 => False.elim (absurd h9 (by rw [zb_0, hb]; intro h8; exact (of_decide_eq_false h8) (show nI b < nI 10 from nI_lt hb10 (by decide))))) (fun _ => ?_)
  refine am_go hF sgX3_putIntoBox_7_34db8 8 [(0, .ref (16 + p)), (1, .int x)] [.ref (16 + p)] sgX3_putIntoBox_7_34db8d rfl ?_
  refine am_getf hF (hp_person T S o (show p < 16 by omega)) (T := TX3) (N := 5) rfl (inG 3 inG3) 3 (by decide) (List.mem_cons_of_mem _ lf_RX3_21) rfl (.ref (32 + p)) rfl dX3_putIntoBox_8 ?_
  refine am_go hF sgX3_putIntoBox_11_34db8 12 [(0, .ref (16 + p)), (1, .int x)] [.ref (16 + p), .ref (32 + p)] sgX3_putIntoBox_11_34db8d rfl ?_
  refine am_getf hF (hp_person T S o (show p < 16 by omega)) (T := TX3) (N := 5) rfl (inG 3 inG3) 4 (by decide) (List.mem_cons_of_mem _ lf_RX3_25) rfl (.int (T 8 p)) rfl dX3_putIntoBox_12 ?_
  refine am_top (nI b) hb ?_
  refine am_go hF sgX3_putIntoBox_15_840bf 16 [(0, .ref (16 + p)), (1, .int x)] [.int x, .int (nI b), .ref (32 + p)] sgX3_putIntoBox_15_840bfd rfl ?_
  refine am_iast hF (hp_box T S o (show p < 16 by omega)) b rfl (show b < 10 by omega) (by decide) dX3_putIntoBox_16 ?_
  refine am_eqX (hp (st1 T 9 (10 * p + b) x) S o) (hp_s9 (T := T) (show p < 16 by omega) (j := b) (show b < 10 by omega) x) ?_
  refine am_go hF sgX3_putIntoBox_17_da752 19 [(0, .ref (16 + p)), (1, .int x)] [.ref (16 + p), .ref (16 + p)] sgX3_putIntoBox_17_da752d rfl ?_
  refine am_getf hF (hp_person (st1 T 9 (10 * p + b) x) S o (show p < 16 by omega)) (T := TX3) (N := 5) rfl (inG 3 inG3) 4 (by decide) (List.mem_cons_of_mem _ lf_RX3_25) rfl (.int (T 8 p)) rfl dX3_putIntoBox_19 ?_
  refine am_top (nI b) hb ?_
  refine am_go hF sgX3_putIntoBox_22_c7176 24 [(0, .ref (16 + p)), (1, .int x)] [.int ((nI b) + 1), .ref (16 + p)] sgX3_putIntoBox_22_c7176d rfl ?_
  refine am_putf hF (hp_person (st1 T 9 (10 * p + b) x) S o (show p < 16 by omega)) (T := TX3) (N := 5) rfl (inG 3 inG3) tyX3 tyX3_ok nmX3 4 (by decide) (List.mem_cons_of_mem _ lf_RX3_25) rfl (Or.inl rfl) rfl rfl (Nat.le_of_ble_eq_true rfl) dX3_putIntoBox_24 ?_
  refine am_eqX (hp (st1 (st1 T 9 (10 * p + b) x) 8 p ((nI b) + 1)) S o) (hp_s8 (T := (st1 T 9 (10 * p + b) x)) (show p < 16 by omega) ((nI b) + 1)) ?_
  exact am_vret hF hO hret dX3_putIntoBox_27 ⟨rfl, rfl⟩
set_option maxRecDepth 100000 in
set_option maxHeartbeats 4000000 in
theorem c_hasDigest {G : am_S} {T S : am_T} {o : Nat → Int64} {v j : Nat} (hv : T 2 0 = nI v) (hv80 : v ≤ 80) (hj : j < v) {l : Nat} (hl : l < 10) : am_D G yX4_hasDigest (.code yX4_hasDigest cX4_hasDigest 2 (some .boolean) :: am_G) { frames := 0, cells := 0, slots := 0, locals := 0 } (hp T S o) [.ref (224 + j), .int (nI l)] (hp T S o) (some (.int (zb (decide (¬ T 34 (10 * j + l) = 0))))) := by
  refine am_of (by decide +kernel) (Nat.le_of_ble_eq_true rfl) ?_
  intro C hse hret hname hF hO
  subst hse
  refine am_go hF sgX4_hasDigest_0_34db8 1 [(0, .ref (224 + j)), (1, .int (nI l))] [.ref (224 + j)] sgX4_hasDigest_0_34db8d rfl ?_
  refine am_getf hF (hp_day T S o hv hv80 (show j < v by omega)) (T := TX4) (N := 5) rfl (inG 4 inG4) 1 (by decide) (List.mem_cons_of_mem _ lf_RX4_9) rfl (.ref (304 + j)) rfl dX4_hasDigest_1 ?_
  refine am_go hF sgX4_hasDigest_4_840bf 5 [(0, .ref (224 + j)), (1, .int (nI l))] [.int (nI l), .ref (304 + j)] sgX4_hasDigest_4_840bfd rfl ?_
  refine am_iald hF (hp_drd T S o hv hv80 (show j < v by omega)) l rfl (show l < 10 by omega) (by decide) dX4_hasDigest_5 ?_
  refine am_top (T 34 (10 * j + l)) (if_pos (show l < 10 by omega)) ?_
  refine am_ifeq hF 13 dX4_hasDigest_6 (by decide) (fun c1 => ?_) (fun c1 => ?_)
  · skip
    refine am_go hF sgX4_hasDigest_13_56c54 14 [(0, .ref (224 + j)), (1, .int (nI l))] [.int 0] sgX4_hasDigest_13_56c54d rfl ?_
    refine am_top (zb (decide (¬ T 34 (10 * j + l) = 0))) (by simp [zb, (eq_true c1)]) ?_
    exact am_iret hF hO hret (zb_n _) dX4_hasDigest_14 ⟨rfl, rfl⟩
  · skip
    refine am_go hF sgX4_hasDigest_9_1c64c 14 [(0, .ref (224 + j)), (1, .int (nI l))] [.int 1] sgX4_hasDigest_9_1c64cd rfl ?_
    refine am_top (zb (decide (¬ T 34 (10 * j + l) = 0))) (by simp [zb, c1]) ?_
    exact am_iret hF hO hret (zb_n _) dX4_hasDigest_14 ⟨rfl, rfl⟩
set_option maxRecDepth 100000 in
set_option maxHeartbeats 4000000 in
theorem c_addReader {G : am_S} {T S : am_T} {o : Nat → Int64} {v j : Nat} (hv : T 2 0 = nI v) (hv80 : v ≤ 80) (hj : j < v) {l : Nat} (hl : l < 10) {p : Nat} (hp9 : p < 16) : am_D G yX4_addReader (.code yX4_addReader cX4_addReader 3 none :: am_G) { frames := 1, cells := 0, slots := 0, locals := 20 } (hp T S o) [.ref (224 + j), .int (nI l), .int (nI p)] (hp (tAdd T j l p) S o) none := by
  refine am_of (by decide +kernel) (Nat.le_of_ble_eq_true rfl) ?_
  intro C hse hret hname hF hO
  subst hse
  refine am_go hF sgX4_addReader_0_34db8 1 [(0, .ref (224 + j)), (1, .int (nI l)), (2, .int (nI p))] [.ref (224 + j)] sgX4_addReader_0_34db8d rfl ?_
  refine am_getf hF (hp_day T S o hv hv80 (show j < v by omega)) (T := TX4) (N := 5) rfl (inG 4 inG4) 1 (by decide) (List.mem_cons_of_mem _ lf_RX4_9) rfl (.ref (304 + j)) rfl dX4_addReader_1 ?_
  refine am_go hF sgX4_addReader_4_563cd 6 [(0, .ref (224 + j)), (1, .int (nI l)), (2, .int (nI p))] [.int (nI l), .ref (304 + j), .int (nI l), .ref (304 + j)] sgX4_addReader_4_563cdd rfl ?_
  refine am_iald hF (hp_drd T S o hv hv80 (show j < v by omega)) l rfl (show l < 10 by omega) (by decide) dX4_addReader_6 ?_
  refine am_top (T 34 (10 * j + l)) (if_pos (show l < 10 by omega)) ?_
  refine am_go hF sgX4_addReader_7_f8a59 8 [(0, .ref (224 + j)), (1, .int (nI l)), (2, .int (nI p))] [.int (nI p), .int (T 34 (10 * j + l)), .int (nI l), .ref (304 + j)] sgX4_addReader_7_f8a59d rfl ?_
  refine am_dSN hF hO [.int (nI p)] [.int (T 34 (10 * j + l)), .int (nI l), .ref (304 + j)] (c_bit) myX5_bit syX5_bit (by decide +kernel) rfl 0 0 ⟨Nat.le_of_ble_eq_true rfl, Nat.le_of_ble_eq_true rfl⟩ ⟨Nat.le_of_ble_eq_true rfl, Nat.le_of_ble_eq_true rfl, Nat.le_of_ble_eq_true rfl, Nat.le_of_ble_eq_true rfl⟩ rfl (am_lv_ref (hp_day _ _ _ hv hv80 (show j < v by omega)) (am_lv_int (am_lv_int (am_lv_int (am_lv_int (am_lv_ref (hp_drd _ _ _ hv hv80 (show j < v by omega)) am_lv_nil)))))) (Nat.le_of_ble_eq_true rfl) dX4_addReader_8 [.int ((1 : Int32) <<< (nI p &&& 31)), .int (T 34 (10 * j + l)), .int (nI l), .ref (304 + j)] rfl ?_
  refine am_go hF sgX4_addReader_11_fceb6 12 [(0, .ref (224 + j)), (1, .int (nI l)), (2, .int (nI p))] [.int ((T 34 (10 * j + l)) ||| ((1 : Int32) <<< (nI p &&& 31))), .int (nI l), .ref (304 + j)] sgX4_addReader_11_fceb6d rfl ?_
  refine am_iast hF (hp_drd T S o hv hv80 (show j < v by omega)) l rfl (show l < 10 by omega) (by decide) dX4_addReader_12 ?_
  refine am_eqX (hp (st1 T 34 (10 * j + l) ((T 34 (10 * j + l)) ||| ((1 : Int32) <<< (nI p &&& 31)))) S o) (hp_s34 (T := T) hv hv80 (show j < v by omega) (j := l) (show l < 10 by omega) ((T 34 (10 * j + l)) ||| ((1 : Int32) <<< (nI p &&& 31)))) ?_
  refine am_go hF sgX4_addReader_13_34db8 14 [(0, .ref (224 + j)), (1, .int (nI l)), (2, .int (nI p))] [.ref (224 + j)] sgX4_addReader_13_34db8d rfl ?_
  refine am_getf hF (hp_day (st1 T 34 (10 * j + l) ((T 34 (10 * j + l)) ||| ((1 : Int32) <<< (nI p &&& 31)))) S o hv hv80 (show j < v by omega)) (T := TX4) (N := 5) rfl (inG 4 inG4) 4 (by decide) (List.mem_cons_of_mem _ lf_RX4_22) rfl (.int (T 37 j)) rfl dX4_addReader_14 ?_
  refine am_ifeq hF 33 dX4_addReader_17 (by decide) (fun c1 => ?_) (fun c1 => ?_)
  · skip
    exact am_vret hF hO hret dX4_addReader_33 ⟨by unfold tAdd; rw [if_pos c1]; exact (congrArg (fun z => hp z S o) (st1_id (st1 T 34 (10 * j + l) _) 36 j).symm), rfl⟩
  · skip
    refine am_go hF sgX4_addReader_20_da752 22 [(0, .ref (224 + j)), (1, .int (nI l)), (2, .int (nI p))] [.ref (224 + j), .ref (224 + j)] sgX4_addReader_20_da752d rfl ?_
    refine am_getf hF (hp_day (st1 T 34 (10 * j + l) ((T 34 (10 * j + l)) ||| ((1 : Int32) <<< (nI p &&& 31)))) S o hv hv80 (show j < v by omega)) (T := TX4) (N := 5) rfl (inG 4 inG4) 3 (by decide) (List.mem_cons_of_mem _ lf_RX4_18) rfl (.int (T 36 j)) rfl dX4_addReader_22 ?_
    refine am_go hF sgX4_addReader_25_840bf 26 [(0, .ref (224 + j)), (1, .int (nI l)), (2, .int (nI p))] [.int (nI l), .int (T 36 j), .ref (224 + j)] sgX4_addReader_25_840bfd rfl ?_
    refine am_dSN hF hO [.int (nI l)] [.int (T 36 j), .ref (224 + j)] (c_bit) myX5_bit syX5_bit (by decide +kernel) rfl 0 0 ⟨Nat.le_of_ble_eq_true rfl, Nat.le_of_ble_eq_true rfl⟩ ⟨Nat.le_of_ble_eq_true rfl, Nat.le_of_ble_eq_true rfl, Nat.le_of_ble_eq_true rfl, Nat.le_of_ble_eq_true rfl⟩ rfl (am_lv_ref (hp_day _ _ _ hv hv80 (show j < v by omega)) (am_lv_int (am_lv_int (am_lv_int (am_lv_ref (hp_day _ _ _ hv hv80 (show j < v by omega)) am_lv_nil))))) (Nat.le_of_ble_eq_true rfl) dX4_addReader_26 [.int ((1 : Int32) <<< (nI l &&& 31)), .int (T 36 j), .ref (224 + j)] rfl ?_
    refine am_go hF sgX4_addReader_29_fceb6 30 [(0, .ref (224 + j)), (1, .int (nI l)), (2, .int (nI p))] [.int ((T 36 j) ||| ((1 : Int32) <<< (nI l &&& 31))), .ref (224 + j)] sgX4_addReader_29_fceb6d rfl ?_
    refine am_putf hF (hp_day (st1 T 34 (10 * j + l) ((T 34 (10 * j + l)) ||| ((1 : Int32) <<< (nI p &&& 31)))) S o hv hv80 (show j < v by omega)) (T := TX4) (N := 5) rfl (inG 4 inG4) tyX4 tyX4_ok nmX4 3 (by decide) (List.mem_cons_of_mem _ lf_RX4_18) rfl (Or.inl rfl) rfl rfl (Nat.le_of_ble_eq_true rfl) dX4_addReader_30 ?_
    refine am_eqX (hp (st1 (st1 T 34 (10 * j + l) ((T 34 (10 * j + l)) ||| ((1 : Int32) <<< (nI p &&& 31)))) 36 j ((T 36 j) ||| ((1 : Int32) <<< (nI l &&& 31)))) S o) (hp_s36 (T := (st1 T 34 (10 * j + l) ((T 34 (10 * j + l)) ||| ((1 : Int32) <<< (nI p &&& 31))))) hv hv80 (show j < v by omega) ((T 36 j) ||| ((1 : Int32) <<< (nI l &&& 31)))) ?_
    exact am_vret hF hO hret dX4_addReader_33 ⟨by unfold tAdd; rw [if_neg c1], rfl⟩
