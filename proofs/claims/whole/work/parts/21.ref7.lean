theorem am_s1 {x : Int32} {a : Nat} (h : x = nI (a + 1)) : x - 1 = nI a := by rw [h, nI_pred]
theorem rPass_f {S : am_T} {n k l g : Nat} (h : g ≠ 6 ∧ g ≠ 16 ∧ g ≠ 7 ∧ g ≠ 8 ∧ g ≠ 25 ∧ g ≠ 31 ∧ g ≠ 32 ∧ g ≠ 33 ∧ g ≠ 34 ∧ g ≠ 35) (h24 : g ≠ 24) : rPass S n k l g = S g := by
  unfold rPass
  rw [itN_f (F := rps n l k _) g (fun q S => rps_f h), st1_f h24]
def rSdA (S : am_T) (m p l t : Nat) : am_T := st1 (st1 (st1 (st1 (st1 (st1 (st1 S 0 0 0) 0 0 0) 2 0 (S 2 0 + 1)) 18 m (nI p)) 19 m (nI l)) 20 m (nI t)) 21 m (nI t + S 12 l)
def rSdB (S : am_T) (m p l t : Nat) (sc cs : Int32) : am_T := st1 (st1 (st1 (st1 (rSdA S m p l t) 22 m sc) 23 m cs) 24 m 1) 17 0 (nI m + 1)
def rab (S : am_T) (n k l : Nat) (set : Int32) (q : Nat) (best : Int32) : Int32 := if ¬ rCan S n k q l = 0 ∧ set >>> (nI q &&& 31) &&& 1 = 0 ∧ (best = -1 ∨ ¬ S 5 best.toNatClampNeg < S 5 q) then nI q else best
def rBest (S : am_T) (n k l : Nat) (set : Int32) : Int32 := itD (rab S n k l set) (-1) 16
def rar (S : am_T) (n k l : Nat) (x : Int32 × Int32) : Int32 × Int32 := (x.1 ||| (if rBest S n k l x.1 = -1 then 0 else (1 : Int32) <<< (rBest S n k l x.1 &&& 31)), x.2 + (if rBest S n k l x.1 = -1 then 0 else 1))
def rJur (S : am_T) (n k l : Nat) : Int32 × Int32 := itN (fun _ x => rar S n k l x) (0, 0) 3
theorem rar_s {S : am_T} {n k l j : Nat} {s a b : Int32} (hs : s = (itN (fun _ x => rar S n k l x) (0, 0) j).1) (ha : a = (itN (fun _ x => rar S n k l x) (0, 0) j).2) (hb : b = rBest S n k l s) :
    s ||| (if b = -1 then 0 else (1 : Int32) <<< (b &&& 31)) = (itN (fun _ x => rar S n k l x) (0, 0) (j + 1)).1 ∧ a + (if b = -1 then 0 else 1) = (itN (fun _ x => rar S n k l x) (0, 0) (j + 1)).2 := by
  show _ = (rar S n k l (itN (fun _ x => rar S n k l x) (0, 0) j)).1 ∧ _ = (rar S n k l (itN (fun _ x => rar S n k l x) (0, 0) j)).2
  have e : itN (fun _ x => rar S n k l x) (0, 0) j = (s, a) := by rw [hs, ha]
  rw [e, hb]
  exact ⟨rfl, rfl⟩
def sgX6_approve_0_6b3ba : List Instr := [.aload_n 0, .aload_n 0, .iload_n 1]
theorem sgX6_approve_0_6b3bad : am_dec cX6_approve 0 sgX6_approve_0_6b3ba = true := by decide +kernel
theorem dX6_approve_3 : decode cX6_approve 3 = .ok (.invokevirtual 174, 3) := by decide +kernel
theorem dX6_approve_6 : decode cX6_approve 6 = .ok (.putfield 104, 3) := by decide +kernel
def sgX6_approve_9_34db8 : List Instr := [.aload_n 0]
theorem sgX6_approve_9_34db8d : am_dec cX6_approve 9 sgX6_approve_9_34db8 = true := by decide +kernel
theorem dX6_approve_10 : decode cX6_approve 10 = .ok (.getfield 104, 3) := by decide +kernel
theorem dX6_approve_13 : decode cX6_approve 13 = .ok (.ifCond .le 5, 3) := by decide +kernel
def sgX6_approve_16_56c54 : List Instr := [.iconst 0]
theorem sgX6_approve_16_56c54d : am_dec cX6_approve 16 sgX6_approve_16_56c54 = true := by decide +kernel
theorem dX6_approve_17 : decode cX6_approve 17 = .ok (.ireturn, 1) := by decide +kernel
def sgX6_refuse_0_6b3ba : List Instr := [.aload_n 0, .aload_n 0, .iload_n 1]
theorem sgX6_refuse_0_6b3bad : am_dec cX6_refuse 0 sgX6_refuse_0_6b3ba = true := by decide +kernel
theorem dX6_refuse_3 : decode cX6_refuse 3 = .ok (.invokevirtual 174, 3) := by decide +kernel
theorem dX6_refuse_6 : decode cX6_refuse 6 = .ok (.putfield 104, 3) := by decide +kernel
def sgX6_refuse_9_34db8 : List Instr := [.aload_n 0]
theorem sgX6_refuse_9_34db8d : am_dec cX6_refuse 9 sgX6_refuse_9_34db8 = true := by decide +kernel
theorem dX6_refuse_10 : decode cX6_refuse 10 = .ok (.getfield 104, 3) := by decide +kernel
theorem dX6_refuse_13 : decode cX6_refuse 13 = .ok (.ifCond .le 5, 3) := by decide +kernel
def sgX6_refuse_16_56c54 : List Instr := [.iconst 0]
theorem sgX6_refuse_16_56c54d : am_dec cX6_refuse 16 sgX6_refuse_16_56c54 = true := by decide +kernel
theorem dX6_refuse_17 : decode cX6_refuse 17 = .ok (.ireturn, 1) := by decide +kernel
def sgX6_refuse_18_34db8 : List Instr := [.aload_n 0]
theorem sgX6_refuse_18_34db8d : am_dec cX6_refuse 18 sgX6_refuse_18_34db8 = true := by decide +kernel
theorem dX6_refuse_19 : decode cX6_refuse 19 = .ok (.getfield 68, 3) := by decide +kernel
def sgX6_refuse_22_68563 : List Instr := [.iload_n 1, .iconst 3]
theorem sgX6_refuse_22_68563d : am_dec cX6_refuse 22 sgX6_refuse_22_68563 = true := by decide +kernel
theorem dX6_refuse_24 : decode cX6_refuse 24 = .ok (.iastore, 1) := by decide +kernel
def sgX6_refuse_25_34db8 : List Instr := [.aload_n 0]
theorem sgX6_refuse_25_34db8d : am_dec cX6_refuse 25 sgX6_refuse_25_34db8 = true := by decide +kernel
theorem dX6_refuse_26 : decode cX6_refuse 26 = .ok (.getfield 62, 3) := by decide +kernel
def sgX6_refuse_29_840bf : List Instr := [.iload_n 1]
theorem sgX6_refuse_29_840bfd : am_dec cX6_refuse 29 sgX6_refuse_29_840bf = true := by decide +kernel
theorem dX6_refuse_30 : decode cX6_refuse 30 = .ok (.iaload, 1) := by decide +kernel
theorem dX6_refuse_31 : decode cX6_refuse 31 = .ok (.ireturn, 1) := by decide +kernel
def sgX6_approve_18_da752 : List Instr := [.aload_n 0, .dup]
theorem sgX6_approve_18_da752d : am_dec cX6_approve 18 sgX6_approve_18_da752 = true := by decide +kernel
theorem dX6_approve_20 : decode cX6_approve 20 = .ok (.getfield 150, 3) := by decide +kernel
def sgX6_approve_23_c7176 : List Instr := [.iconst 1, .iadd]
theorem sgX6_approve_23_c7176d : am_dec cX6_approve 23 sgX6_approve_23_c7176 = true := by decide +kernel
theorem dX6_approve_25 : decode cX6_approve 25 = .ok (.putfield 150, 3) := by decide +kernel
def sgX6_approve_28_8bcf7 : List Instr := [.aload_n 0, .iload_n 1]
theorem sgX6_approve_28_8bcf7d : am_dec cX6_approve 28 sgX6_approve_28_8bcf7 = true := by decide +kernel
theorem dX6_approve_30 : decode cX6_approve 30 = .ok (.invokevirtual 171, 3) := by decide +kernel
def sgX6_approve_33_34db8 : List Instr := [.aload_n 0]
theorem sgX6_approve_33_34db8d : am_dec cX6_approve 33 sgX6_approve_33_34db8 = true := by decide +kernel
theorem dX6_approve_34 : decode cX6_approve 34 = .ok (.getfield 71, 3) := by decide +kernel
def sgX6_approve_37_840bf : List Instr := [.iload_n 1]
theorem sgX6_approve_37_840bfd : am_dec cX6_approve 37 sgX6_approve_37_840bf = true := by decide +kernel
theorem dX6_approve_38 : decode cX6_approve 38 = .ok (.iaload, 1) := by decide +kernel
theorem dX6_approve_39 : decode cX6_approve 39 = .ok (.ireturn, 1) := by decide +kernel
def sgX6_send_0_8bcf7 : List Instr := [.aload_n 0, .iload_n 1]
theorem sgX6_send_0_8bcf7d : am_dec cX6_send 0 sgX6_send_0_8bcf7 = true := by decide +kernel
theorem dX6_send_2 : decode cX6_send 2 = .ok (.invokestatic 118, 3) := by decide +kernel
theorem dX6_send_5 : decode cX6_send 5 = .ok (.ifCond .eq 26, 3) := by decide +kernel
def sgX6_send_31_ad6a9 : List Instr := [.iconst 1, .goto 18]
theorem sgX6_send_31_ad6a9d : am_dec cX6_send 31 sgX6_send_31_ad6a9 = true := by decide +kernel
theorem dX6_send_50 : decode cX6_send 50 = .ok (.putfield 104, 3) := by decide +kernel
def sgX6_send_53_34db8 : List Instr := [.aload_n 0]
theorem sgX6_send_53_34db8d : am_dec cX6_send 53 sgX6_send_53_34db8 = true := by decide +kernel
theorem dX6_send_54 : decode cX6_send 54 = .ok (.getfield 104, 3) := by decide +kernel
theorem dX6_send_57 : decode cX6_send 57 = .ok (.ifCond .le 5, 3) := by decide +kernel
def sgX6_send_60_56c54 : List Instr := [.iconst 0]
theorem sgX6_send_60_56c54d : am_dec cX6_send 60 sgX6_send_60_56c54 = true := by decide +kernel
theorem dX6_send_61 : decode cX6_send 61 = .ok (.ireturn, 1) := by decide +kernel
def sgX6_send_8_78e74 : List Instr := [.aload_n 0, .iload_n 2]
theorem sgX6_send_8_78e74d : am_dec cX6_send 8 sgX6_send_8_78e74 = true := by decide +kernel
theorem dX6_send_10 : decode cX6_send 10 = .ok (.invokevirtual 122, 3) := by decide +kernel
theorem dX6_send_13 : decode cX6_send 13 = .ok (.ifCond .eq 18, 3) := by decide +kernel
def sgX6_send_16_1c478 : List Instr := [.aload_n 0, .iload 4]
theorem sgX6_send_16_1c478d : am_dec cX6_send 16 sgX6_send_16_1c478 = true := by decide +kernel
theorem dX6_send_19 : decode cX6_send 19 = .ok (.invokevirtual 161, 3) := by decide +kernel
theorem dX6_send_22 : decode cX6_send 22 = .ok (.ifCond .ne 13, 3) := by decide +kernel
def sgX6_send_25_5b727 : List Instr := [.iload 4, .iconst (-1)]
theorem sgX6_send_25_5b727d : am_dec cX6_send 25 sgX6_send_25_5b727 = true := by decide +kernel
theorem dX6_send_28 : decode cX6_send 28 = .ok (.if_icmp .eq 7, 3) := by decide +kernel
def sgX6_send_35_fee27 : List Instr := [.iload_n 3, .iconst 0]
theorem sgX6_send_35_fee27d : am_dec cX6_send 35 sgX6_send_35_fee27 = true := by decide +kernel
theorem dX6_send_37 : decode cX6_send 37 = .ok (.ldc 164, 2) := by decide +kernel
theorem dX6_send_39 : decode cX6_send 39 = .ok (.invokestatic 108, 3) := by decide +kernel
theorem dX6_send_42 : decode cX6_send 42 = .ok (.ifCond .eq 7, 3) := by decide +kernel
def sgX6_send_49_d5620 : List Instr := [.iconst 2]
theorem sgX6_send_49_d5620d : am_dec cX6_send 49 sgX6_send_49_d5620 = true := by decide +kernel
def sgX6_send_45_1cbe9 : List Instr := [.iconst 0, .goto 4]
theorem sgX6_send_45_1cbe9d : am_dec cX6_send 45 sgX6_send_45_1cbe9 = true := by decide +kernel
def sgX6_send_62_c81f7 : List Instr := [.aload_n 0, .aload_n 0]
theorem sgX6_send_62_c81f7d : am_dec cX6_send 62 sgX6_send_62_c81f7 = true := by decide +kernel
theorem dX6_send_64 : decode cX6_send 64 = .ok (.getfield 115, 3) := by decide +kernel
def sgX6_send_67_1fd2c : List Instr := [.bipush 80]
theorem sgX6_send_67_1fd2cd : am_dec cX6_send 67 sgX6_send_67_1fd2c = true := by decide +kernel
theorem dX6_send_69 : decode cX6_send 69 = .ok (.if_icmp .ne 7, 3) := by decide +kernel
def sgX6_send_72_5c8a0 : List Instr := [.iconst 3, .goto 4]
theorem sgX6_send_72_5c8a0d : am_dec cX6_send 72 sgX6_send_72_5c8a0 = true := by decide +kernel
theorem dX6_send_77 : decode cX6_send 77 = .ok (.putfield 104, 3) := by decide +kernel
def sgX6_send_80_34db8 : List Instr := [.aload_n 0]
theorem sgX6_send_80_34db8d : am_dec cX6_send 80 sgX6_send_80_34db8 = true := by decide +kernel
theorem dX6_send_81 : decode cX6_send 81 = .ok (.getfield 104, 3) := by decide +kernel
theorem dX6_send_84 : decode cX6_send 84 = .ok (.ifCond .le 5, 3) := by decide +kernel
def sgX6_send_87_56c54 : List Instr := [.iconst 0]
theorem sgX6_send_87_56c54d : am_dec cX6_send 87 sgX6_send_87_56c54 = true := by decide +kernel
theorem dX6_send_88 : decode cX6_send 88 = .ok (.ireturn, 1) := by decide +kernel
def sgX6_send_76_56c54 : List Instr := [.iconst 0]
theorem sgX6_send_76_56c54d : am_dec cX6_send 76 sgX6_send_76_56c54 = true := by decide +kernel
def sgX6_send_89_da752 : List Instr := [.aload_n 0, .dup]
theorem sgX6_send_89_da752d : am_dec cX6_send 89 sgX6_send_89_da752 = true := by decide +kernel
theorem dX6_send_91 : decode cX6_send 91 = .ok (.getfield 150, 3) := by decide +kernel
def sgX6_send_94_c7176 : List Instr := [.iconst 1, .iadd]
theorem sgX6_send_94_c7176d : am_dec cX6_send 94 sgX6_send_94_c7176 = true := by decide +kernel
theorem dX6_send_96 : decode cX6_send 96 = .ok (.putfield 150, 3) := by decide +kernel
def sgX6_send_99_34db8 : List Instr := [.aload_n 0]
theorem sgX6_send_99_34db8d : am_dec cX6_send 99 sgX6_send_99_34db8 = true := by decide +kernel
theorem dX6_send_100 : decode cX6_send 100 = .ok (.getfield 50, 3) := by decide +kernel
def sgX6_send_103_34db8 : List Instr := [.aload_n 0]
theorem sgX6_send_103_34db8d : am_dec cX6_send 103 sgX6_send_103_34db8 = true := by decide +kernel
theorem dX6_send_104 : decode cX6_send 104 = .ok (.getfield 115, 3) := by decide +kernel
def sgX6_send_107_840bf : List Instr := [.iload_n 1]
theorem sgX6_send_107_840bfd : am_dec cX6_send 107 sgX6_send_107_840bf = true := by decide +kernel
theorem dX6_send_108 : decode cX6_send 108 = .ok (.iastore, 1) := by decide +kernel
def sgX6_send_109_34db8 : List Instr := [.aload_n 0]
theorem sgX6_send_109_34db8d : am_dec cX6_send 109 sgX6_send_109_34db8 = true := by decide +kernel
theorem dX6_send_110 : decode cX6_send 110 = .ok (.getfield 53, 3) := by decide +kernel
def sgX6_send_113_34db8 : List Instr := [.aload_n 0]
theorem sgX6_send_113_34db8d : am_dec cX6_send 113 sgX6_send_113_34db8 = true := by decide +kernel
theorem dX6_send_114 : decode cX6_send 114 = .ok (.getfield 115, 3) := by decide +kernel
def sgX6_send_117_f8a59 : List Instr := [.iload_n 2]
theorem sgX6_send_117_f8a59d : am_dec cX6_send 117 sgX6_send_117_f8a59 = true := by decide +kernel
theorem dX6_send_118 : decode cX6_send 118 = .ok (.iastore, 1) := by decide +kernel
def sgX6_send_119_34db8 : List Instr := [.aload_n 0]
theorem sgX6_send_119_34db8d : am_dec cX6_send 119 sgX6_send_119_34db8 = true := by decide +kernel
theorem dX6_send_120 : decode cX6_send 120 = .ok (.getfield 56, 3) := by decide +kernel
def sgX6_send_123_34db8 : List Instr := [.aload_n 0]
theorem sgX6_send_123_34db8d : am_dec cX6_send 123 sgX6_send_123_34db8 = true := by decide +kernel
theorem dX6_send_124 : decode cX6_send 124 = .ok (.getfield 115, 3) := by decide +kernel
def sgX6_send_127_34db8 : List Instr := [.aload_n 0]
theorem sgX6_send_127_34db8d : am_dec cX6_send 127 sgX6_send_127_34db8 = true := by decide +kernel
theorem dX6_send_128 : decode cX6_send 128 = .ok (.getfield 147, 3) := by decide +kernel
theorem dX6_send_131 : decode cX6_send 131 = .ok (.iastore, 1) := by decide +kernel
def sgX6_send_132_34db8 : List Instr := [.aload_n 0]
theorem sgX6_send_132_34db8d : am_dec cX6_send 132 sgX6_send_132_34db8 = true := by decide +kernel
theorem dX6_send_133 : decode cX6_send 133 = .ok (.getfield 59, 3) := by decide +kernel
def sgX6_send_136_34db8 : List Instr := [.aload_n 0]
theorem sgX6_send_136_34db8d : am_dec cX6_send 136 sgX6_send_136_34db8 = true := by decide +kernel
theorem dX6_send_137 : decode cX6_send 137 = .ok (.getfield 115, 3) := by decide +kernel
def sgX6_send_140_34db8 : List Instr := [.aload_n 0]
theorem sgX6_send_140_34db8d : am_dec cX6_send 140 sgX6_send_140_34db8 = true := by decide +kernel
theorem dX6_send_141 : decode cX6_send 141 = .ok (.getfield 147, 3) := by decide +kernel
def sgX6_send_144_34db8 : List Instr := [.aload_n 0]
theorem sgX6_send_144_34db8d : am_dec cX6_send 144 sgX6_send_144_34db8 = true := by decide +kernel
theorem dX6_send_145 : decode cX6_send 145 = .ok (.getfield 34, 3) := by decide +kernel
def sgX6_send_148_f8a59 : List Instr := [.iload_n 2]
theorem sgX6_send_148_f8a59d : am_dec cX6_send 148 sgX6_send_148_f8a59 = true := by decide +kernel
theorem dX6_send_149 : decode cX6_send 149 = .ok (.iaload, 1) := by decide +kernel
def sgX6_send_150_830a0 : List Instr := [.iadd]
theorem sgX6_send_150_830a0d : am_dec cX6_send 150 sgX6_send_150_830a0 = true := by decide +kernel
theorem dX6_send_151 : decode cX6_send 151 = .ok (.iastore, 1) := by decide +kernel
def sgX6_send_152_34db8 : List Instr := [.aload_n 0]
theorem sgX6_send_152_34db8d : am_dec cX6_send 152 sgX6_send_152_34db8 = true := by decide +kernel
theorem dX6_send_153 : decode cX6_send 153 = .ok (.getfield 62, 3) := by decide +kernel
def sgX6_send_156_34db8 : List Instr := [.aload_n 0]
theorem sgX6_send_156_34db8d : am_dec cX6_send 156 sgX6_send_156_34db8 = true := by decide +kernel
theorem dX6_send_157 : decode cX6_send 157 = .ok (.getfield 115, 3) := by decide +kernel
def sgX6_send_160_08e16 : List Instr := [.aload_n 0, .iload_n 1, .iload_n 3, .iload 4]
theorem sgX6_send_160_08e16d : am_dec cX6_send 160 sgX6_send_160_08e16 = true := by decide +kernel
theorem dX6_send_165 : decode cX6_send 165 = .ok (.invokevirtual 165, 3) := by decide +kernel
theorem dX6_send_168 : decode cX6_send 168 = .ok (.iastore, 1) := by decide +kernel
def sgX6_send_169_34db8 : List Instr := [.aload_n 0]
theorem sgX6_send_169_34db8d : am_dec cX6_send 169 sgX6_send_169_34db8 = true := by decide +kernel
theorem dX6_send_170 : decode cX6_send 170 = .ok (.getfield 65, 3) := by decide +kernel
def sgX6_send_173_34db8 : List Instr := [.aload_n 0]
theorem sgX6_send_173_34db8d : am_dec cX6_send 173 sgX6_send_173_34db8 = true := by decide +kernel
theorem dX6_send_174 : decode cX6_send 174 = .ok (.getfield 115, 3) := by decide +kernel
def sgX6_send_177_ce32f : List Instr := [.aload_n 0, .iload_n 1, .iload_n 2, .aload_n 0]
theorem sgX6_send_177_ce32fd : am_dec cX6_send 177 sgX6_send_177_ce32f = true := by decide +kernel
theorem dX6_send_181 : decode cX6_send 181 = .ok (.getfield 62, 3) := by decide +kernel
def sgX6_send_184_34db8 : List Instr := [.aload_n 0]
theorem sgX6_send_184_34db8d : am_dec cX6_send 184 sgX6_send_184_34db8 = true := by decide +kernel
theorem dX6_send_185 : decode cX6_send 185 = .ok (.getfield 115, 3) := by decide +kernel
theorem dX6_send_188 : decode cX6_send 188 = .ok (.iaload, 1) := by decide +kernel
theorem dX6_send_189 : decode cX6_send 189 = .ok (.invokevirtual 168, 3) := by decide +kernel
theorem dX6_send_192 : decode cX6_send 192 = .ok (.iastore, 1) := by decide +kernel
def sgX6_send_193_34db8 : List Instr := [.aload_n 0]
theorem sgX6_send_193_34db8d : am_dec cX6_send 193 sgX6_send_193_34db8 = true := by decide +kernel
theorem dX6_send_194 : decode cX6_send 194 = .ok (.getfield 68, 3) := by decide +kernel
def sgX6_send_197_34db8 : List Instr := [.aload_n 0]
theorem sgX6_send_197_34db8d : am_dec cX6_send 197 sgX6_send_197_34db8 = true := by decide +kernel
theorem dX6_send_198 : decode cX6_send 198 = .ok (.getfield 115, 3) := by decide +kernel
def sgX6_send_201_4de0a : List Instr := [.iconst 1]
theorem sgX6_send_201_4de0ad : am_dec cX6_send 201 sgX6_send_201_4de0a = true := by decide +kernel
theorem dX6_send_202 : decode cX6_send 202 = .ok (.iastore, 1) := by decide +kernel
def sgX6_send_203_da752 : List Instr := [.aload_n 0, .dup]
theorem sgX6_send_203_da752d : am_dec cX6_send 203 sgX6_send_203_da752 = true := by decide +kernel
theorem dX6_send_205 : decode cX6_send 205 = .ok (.getfield 115, 3) := by decide +kernel
def sgX6_send_208_c7176 : List Instr := [.iconst 1, .iadd]
theorem sgX6_send_208_c7176d : am_dec cX6_send 208 sgX6_send_208_c7176 = true := by decide +kernel
theorem dX6_send_210 : decode cX6_send 210 = .ok (.putfield 115, 3) := by decide +kernel
def sgX6_send_213_34db8 : List Instr := [.aload_n 0]
theorem sgX6_send_213_34db8d : am_dec cX6_send 213 sgX6_send_213_34db8 = true := by decide +kernel
theorem dX6_send_214 : decode cX6_send 214 = .ok (.getfield 65, 3) := by decide +kernel
def sgX6_send_217_34db8 : List Instr := [.aload_n 0]
theorem sgX6_send_217_34db8d : am_dec cX6_send 217 sgX6_send_217_34db8 = true := by decide +kernel
theorem dX6_send_218 : decode cX6_send 218 = .ok (.getfield 115, 3) := by decide +kernel
def sgX6_send_221_d80e0 : List Instr := [.iconst 1, .isub]
theorem sgX6_send_221_d80e0d : am_dec cX6_send 221 sgX6_send_221_d80e0 = true := by decide +kernel
theorem dX6_send_223 : decode cX6_send 223 = .ok (.iaload, 1) := by decide +kernel
def sgX6_send_224_5ff24 : List Instr := [.iconst (-1)]
theorem sgX6_send_224_5ff24d : am_dec cX6_send 224 sgX6_send_224_5ff24 = true := by decide +kernel
theorem dX6_send_225 : decode cX6_send 225 = .ok (.if_icmp .ne 13, 3) := by decide +kernel
def sgX6_send_238_34db8 : List Instr := [.aload_n 0]
theorem sgX6_send_238_34db8d : am_dec cX6_send 238 sgX6_send_238_34db8 = true := by decide +kernel
theorem dX6_send_239 : decode cX6_send 239 = .ok (.getfield 115, 3) := by decide +kernel
def sgX6_send_242_d80e0 : List Instr := [.iconst 1, .isub]
theorem sgX6_send_242_d80e0d : am_dec cX6_send 242 sgX6_send_242_d80e0 = true := by decide +kernel
theorem dX6_send_244 : decode cX6_send 244 = .ok (.ireturn, 1) := by decide +kernel
def sgX6_send_228_c81f7 : List Instr := [.aload_n 0, .aload_n 0]
theorem sgX6_send_228_c81f7d : am_dec cX6_send 228 sgX6_send_228_c81f7 = true := by decide +kernel
theorem dX6_send_230 : decode cX6_send 230 = .ok (.getfield 115, 3) := by decide +kernel
def sgX6_send_233_d80e0 : List Instr := [.iconst 1, .isub]
theorem sgX6_send_233_d80e0d : am_dec cX6_send 233 sgX6_send_233_d80e0 = true := by decide +kernel
theorem dX6_send_235 : decode cX6_send 235 = .ok (.invokevirtual 171, 3) := by decide +kernel
def sgX6_vote_0_6b3ba : List Instr := [.aload_n 0, .aload_n 0, .iload_n 1]
theorem sgX6_vote_0_6b3bad : am_dec cX6_vote 0 sgX6_vote_0_6b3ba = true := by decide +kernel
theorem dX6_vote_3 : decode cX6_vote 3 = .ok (.invokevirtual 161, 3) := by decide +kernel
theorem dX6_vote_6 : decode cX6_vote 6 = .ok (.ifCond .eq 14, 3) := by decide +kernel
def sgX6_vote_20_4de0a : List Instr := [.iconst 1]
theorem sgX6_vote_20_4de0ad : am_dec cX6_vote 20 sgX6_vote_20_4de0a = true := by decide +kernel
theorem dX6_vote_21 : decode cX6_vote 21 = .ok (.putfield 104, 3) := by decide +kernel
def sgX6_vote_24_34db8 : List Instr := [.aload_n 0]
theorem sgX6_vote_24_34db8d : am_dec cX6_vote 24 sgX6_vote_24_34db8 = true := by decide +kernel
theorem dX6_vote_25 : decode cX6_vote 25 = .ok (.getfield 104, 3) := by decide +kernel
theorem dX6_vote_28 : decode cX6_vote 28 = .ok (.ifCond .le 5, 3) := by decide +kernel
def sgX6_vote_31_56c54 : List Instr := [.iconst 0]
theorem sgX6_vote_31_56c54d : am_dec cX6_vote 31 sgX6_vote_31_56c54 = true := by decide +kernel
theorem dX6_vote_32 : decode cX6_vote 32 = .ok (.ireturn, 1) := by decide +kernel
def sgX6_vote_9_f8a59 : List Instr := [.iload_n 2]
theorem sgX6_vote_9_f8a59d : am_dec cX6_vote 9 sgX6_vote_9_f8a59 = true := by decide +kernel
theorem dX6_vote_10 : decode cX6_vote 10 = .ok (.invokestatic 118, 3) := by decide +kernel
theorem dX6_vote_13 : decode cX6_vote 13 = .ok (.ifCond .eq 7, 3) := by decide +kernel
def sgX6_vote_16_1cbe9 : List Instr := [.iconst 0, .goto 4]
theorem sgX6_vote_16_1cbe9d : am_dec cX6_vote 16 sgX6_vote_16_1cbe9 = true := by decide +kernel
def sgX6_vote_33_c81f7 : List Instr := [.aload_n 0, .aload_n 0]
theorem sgX6_vote_33_c81f7d : am_dec cX6_vote 33 sgX6_vote_33_c81f7 = true := by decide +kernel
theorem dX6_vote_35 : decode cX6_vote 35 = .ok (.getfield 77, 3) := by decide +kernel
def sgX6_vote_38_840bf : List Instr := [.iload_n 1]
theorem sgX6_vote_38_840bfd : am_dec cX6_vote 38 sgX6_vote_38_840bf = true := by decide +kernel
theorem dX6_vote_39 : decode cX6_vote 39 = .ok (.baload, 1) := by decide +kernel
theorem dX6_vote_40 : decode cX6_vote 40 = .ok (.ifCond .eq 21, 3) := by decide +kernel
def sgX6_vote_61_d5620 : List Instr := [.iconst 2]
theorem sgX6_vote_61_d5620d : am_dec cX6_vote 61 sgX6_vote_61_d5620 = true := by decide +kernel
theorem dX6_vote_62 : decode cX6_vote 62 = .ok (.putfield 104, 3) := by decide +kernel
def sgX6_vote_65_34db8 : List Instr := [.aload_n 0]
theorem sgX6_vote_65_34db8d : am_dec cX6_vote 65 sgX6_vote_65_34db8 = true := by decide +kernel
theorem dX6_vote_66 : decode cX6_vote 66 = .ok (.getfield 104, 3) := by decide +kernel
theorem dX6_vote_69 : decode cX6_vote 69 = .ok (.ifCond .le 5, 3) := by decide +kernel
def sgX6_vote_72_56c54 : List Instr := [.iconst 0]
theorem sgX6_vote_72_56c54d : am_dec cX6_vote 72 sgX6_vote_72_56c54 = true := by decide +kernel
theorem dX6_vote_73 : decode cX6_vote 73 = .ok (.ireturn, 1) := by decide +kernel
def sgX6_vote_43_34db8 : List Instr := [.aload_n 0]
theorem sgX6_vote_43_34db8d : am_dec cX6_vote 43 sgX6_vote_43_34db8 = true := by decide +kernel
theorem dX6_vote_44 : decode cX6_vote 44 = .ok (.getfield 80, 3) := by decide +kernel
def sgX6_vote_47_840bf : List Instr := [.iload_n 1]
theorem sgX6_vote_47_840bfd : am_dec cX6_vote 47 sgX6_vote_47_840bf = true := by decide +kernel
theorem dX6_vote_48 : decode cX6_vote 48 = .ok (.iaload, 1) := by decide +kernel
def sgX6_vote_49_89201 : List Instr := [.iload_n 2, .ishr, .iconst 1, .iand, .iconst 1]
theorem sgX6_vote_49_89201d : am_dec cX6_vote 49 sgX6_vote_49_89201 = true := by decide +kernel
theorem dX6_vote_54 : decode cX6_vote 54 = .ok (.if_icmp .ne 7, 3) := by decide +kernel
def sgX6_vote_57_1cbe9 : List Instr := [.iconst 0, .goto 4]
theorem sgX6_vote_57_1cbe9d : am_dec cX6_vote 57 sgX6_vote_57_1cbe9 = true := by decide +kernel
def sgX6_vote_74_da752 : List Instr := [.aload_n 0, .dup]
theorem sgX6_vote_74_da752d : am_dec cX6_vote 74 sgX6_vote_74_da752 = true := by decide +kernel
theorem dX6_vote_76 : decode cX6_vote 76 = .ok (.getfield 150, 3) := by decide +kernel
def sgX6_vote_79_c7176 : List Instr := [.iconst 1, .iadd]
theorem sgX6_vote_79_c7176d : am_dec cX6_vote 79 sgX6_vote_79_c7176 = true := by decide +kernel
theorem dX6_vote_81 : decode cX6_vote 81 = .ok (.putfield 150, 3) := by decide +kernel
def sgX6_vote_84_34db8 : List Instr := [.aload_n 0]
theorem sgX6_vote_84_34db8d : am_dec cX6_vote 84 sgX6_vote_84_34db8 = true := by decide +kernel
theorem dX6_vote_85 : decode cX6_vote 85 = .ok (.getfield 80, 3) := by decide +kernel
def sgX6_vote_88_563cd : List Instr := [.iload_n 1, .dup2]
theorem sgX6_vote_88_563cdd : am_dec cX6_vote 88 sgX6_vote_88_563cd = true := by decide +kernel
theorem dX6_vote_90 : decode cX6_vote 90 = .ok (.iaload, 1) := by decide +kernel
def sgX6_vote_91_d85c9 : List Instr := [.iconst 1, .iload_n 2, .ishl, .iconst (-1), .ixor, .iand]
theorem sgX6_vote_91_d85c9d : am_dec cX6_vote 91 sgX6_vote_91_d85c9 = true := by decide +kernel
theorem dX6_vote_97 : decode cX6_vote 97 = .ok (.iastore, 1) := by decide +kernel
def sgX6_vote_98_34db8 : List Instr := [.aload_n 0]
theorem sgX6_vote_98_34db8d : am_dec cX6_vote 98 sgX6_vote_98_34db8 = true := by decide +kernel
theorem dX6_vote_99 : decode cX6_vote 99 = .ok (.getfield 16, 3) := by decide +kernel
def sgX6_vote_102_9241e : List Instr := [.iload_n 2, .dup2]
theorem sgX6_vote_102_9241ed : am_dec cX6_vote 102 sgX6_vote_102_9241e = true := by decide +kernel
theorem dX6_vote_104 : decode cX6_vote 104 = .ok (.iaload, 1) := by decide +kernel
def sgX6_vote_105_c7176 : List Instr := [.iconst 1, .iadd]
theorem sgX6_vote_105_c7176d : am_dec cX6_vote 105 sgX6_vote_105_c7176 = true := by decide +kernel
theorem dX6_vote_107 : decode cX6_vote 107 = .ok (.iastore, 1) := by decide +kernel
def sgX6_vote_108_34db8 : List Instr := [.aload_n 0]
theorem sgX6_vote_108_34db8d : am_dec cX6_vote 108 sgX6_vote_108_34db8 = true := by decide +kernel
theorem dX6_vote_109 : decode cX6_vote 109 = .ok (.getfield 83, 3) := by decide +kernel
def sgX6_vote_112_563cd : List Instr := [.iload_n 1, .dup2]
theorem sgX6_vote_112_563cdd : am_dec cX6_vote 112 sgX6_vote_112_563cd = true := by decide +kernel
theorem dX6_vote_114 : decode cX6_vote 114 = .ok (.iaload, 1) := by decide +kernel
def sgX6_vote_115_13b50 : List Instr := [.iload_n 3]
theorem sgX6_vote_115_13b50d : am_dec cX6_vote 115 sgX6_vote_115_13b50 = true := by decide +kernel
theorem dX6_vote_116 : decode cX6_vote 116 = .ok (.ifCond .eq 7, 3) := by decide +kernel
def sgX6_vote_119_6f86b : List Instr := [.iconst 1, .goto 4, .iadd]
theorem sgX6_vote_119_6f86bd : am_dec cX6_vote 119 sgX6_vote_119_6f86b = true := by decide +kernel
theorem dX6_vote_125 : decode cX6_vote 125 = .ok (.iastore, 1) := by decide +kernel
def sgX6_vote_126_34db8 : List Instr := [.aload_n 0]
theorem sgX6_vote_126_34db8d : am_dec cX6_vote 126 sgX6_vote_126_34db8 = true := by decide +kernel
theorem dX6_vote_127 : decode cX6_vote 127 = .ok (.getfield 86, 3) := by decide +kernel
def sgX6_vote_130_563cd : List Instr := [.iload_n 1, .dup2]
theorem sgX6_vote_130_563cdd : am_dec cX6_vote 130 sgX6_vote_130_563cd = true := by decide +kernel
theorem dX6_vote_132 : decode cX6_vote 132 = .ok (.iaload, 1) := by decide +kernel
def sgX6_vote_133_13b50 : List Instr := [.iload_n 3]
theorem sgX6_vote_133_13b50d : am_dec cX6_vote 133 sgX6_vote_133_13b50 = true := by decide +kernel
theorem dX6_vote_134 : decode cX6_vote 134 = .ok (.ifCond .eq 7, 3) := by decide +kernel
def sgX6_vote_137_b56a7 : List Instr := [.iconst 0, .goto 4, .iadd]
theorem sgX6_vote_137_b56a7d : am_dec cX6_vote 137 sgX6_vote_137_b56a7 = true := by decide +kernel
theorem dX6_vote_143 : decode cX6_vote 143 = .ok (.iastore, 1) := by decide +kernel
def sgX6_vote_144_34db8 : List Instr := [.aload_n 0]
theorem sgX6_vote_144_34db8d : am_dec cX6_vote 144 sgX6_vote_144_34db8 = true := by decide +kernel
theorem dX6_vote_145 : decode cX6_vote 145 = .ok (.getfield 83, 3) := by decide +kernel
def sgX6_vote_148_840bf : List Instr := [.iload_n 1]
theorem sgX6_vote_148_840bfd : am_dec cX6_vote 148 sgX6_vote_148_840bf = true := by decide +kernel
theorem dX6_vote_149 : decode cX6_vote 149 = .ok (.iaload, 1) := by decide +kernel
def sgX6_vote_150_d5620 : List Instr := [.iconst 2]
theorem sgX6_vote_150_d5620d : am_dec cX6_vote 150 sgX6_vote_150_d5620 = true := by decide +kernel
theorem dX6_vote_151 : decode cX6_vote 151 = .ok (.if_icmp .ne 11, 3) := by decide +kernel
def sgX6_vote_154_8bcf7 : List Instr := [.aload_n 0, .iload_n 1]
theorem sgX6_vote_154_8bcf7d : am_dec cX6_vote 154 sgX6_vote_154_8bcf7 = true := by decide +kernel
theorem dX6_vote_156 : decode cX6_vote 156 = .ok (.invokevirtual 181, 3) := by decide +kernel
def sgX6_vote_159_8b78c : List Instr := [.goto 67, .aload_n 0]
theorem sgX6_vote_159_8b78cd : am_dec cX6_vote 159 sgX6_vote_159_8b78c = true := by decide +kernel
theorem dX6_vote_227 : decode cX6_vote 227 = .ok (.getfield 68, 3) := by decide +kernel
def sgX6_vote_230_840bf : List Instr := [.iload_n 1]
theorem sgX6_vote_230_840bfd : am_dec cX6_vote 230 sgX6_vote_230_840bf = true := by decide +kernel
theorem dX6_vote_231 : decode cX6_vote 231 = .ok (.iaload, 1) := by decide +kernel
theorem dX6_vote_232 : decode cX6_vote 232 = .ok (.ireturn, 1) := by decide +kernel
def sgX6_vote_162_34db8 : List Instr := [.aload_n 0]
theorem sgX6_vote_162_34db8d : am_dec cX6_vote 162 sgX6_vote_162_34db8 = true := by decide +kernel
theorem dX6_vote_163 : decode cX6_vote 163 = .ok (.getfield 86, 3) := by decide +kernel
def sgX6_vote_166_840bf : List Instr := [.iload_n 1]
theorem sgX6_vote_166_840bfd : am_dec cX6_vote 166 sgX6_vote_166_840bf = true := by decide +kernel
theorem dX6_vote_167 : decode cX6_vote 167 = .ok (.iaload, 1) := by decide +kernel
def sgX6_vote_168_d5620 : List Instr := [.iconst 2]
theorem sgX6_vote_168_d5620d : am_dec cX6_vote 168 sgX6_vote_168_d5620 = true := by decide +kernel
theorem dX6_vote_169 : decode cX6_vote 169 = .ok (.if_icmp .ne 57, 3) := by decide +kernel
def sgX6_vote_226_34db8 : List Instr := [.aload_n 0]
theorem sgX6_vote_226_34db8d : am_dec cX6_vote 226 sgX6_vote_226_34db8 = true := by decide +kernel
def sgX6_vote_123_44594 : List Instr := [.iconst 0, .iadd]
theorem sgX6_vote_123_44594d : am_dec cX6_vote 123 sgX6_vote_123_44594 = true := by decide +kernel
def sgX6_vote_141_c7176 : List Instr := [.iconst 1, .iadd]
theorem sgX6_vote_141_c7176d : am_dec cX6_vote 141 sgX6_vote_141_c7176 = true := by decide +kernel
def sgX6_vote_172_34db8 : List Instr := [.aload_n 0]
theorem sgX6_vote_172_34db8d : am_dec cX6_vote 172 sgX6_vote_172_34db8 = true := by decide +kernel
theorem dX6_vote_173 : decode cX6_vote 173 = .ok (.getfield 77, 3) := by decide +kernel
def sgX6_vote_176_cd6b4 : List Instr := [.iload_n 1, .iconst 0]
theorem sgX6_vote_176_cd6b4d : am_dec cX6_vote 176 sgX6_vote_176_cd6b4 = true := by decide +kernel
theorem dX6_vote_178 : decode cX6_vote 178 = .ok (.bastore, 1) := by decide +kernel
def sgX6_vote_179_34db8 : List Instr := [.aload_n 0]
theorem sgX6_vote_179_34db8d : am_dec cX6_vote 179 sgX6_vote_179_34db8 = true := by decide +kernel
theorem dX6_vote_180 : decode cX6_vote 180 = .ok (.getfield 68, 3) := by decide +kernel
def sgX6_vote_183_68563 : List Instr := [.iload_n 1, .iconst 3]
theorem sgX6_vote_183_68563d : am_dec cX6_vote 183 sgX6_vote_183_68563 = true := by decide +kernel
theorem dX6_vote_185 : decode cX6_vote 185 = .ok (.iastore, 1) := by decide +kernel
def sgX6_vote_186_34db8 : List Instr := [.aload_n 0]
theorem sgX6_vote_186_34db8d : am_dec cX6_vote 186 sgX6_vote_186_34db8 = true := by decide +kernel
theorem dX6_vote_187 : decode cX6_vote 187 = .ok (.getfield 13, 3) := by decide +kernel
def sgX6_vote_190_34db8 : List Instr := [.aload_n 0]
theorem sgX6_vote_190_34db8d : am_dec cX6_vote 190 sgX6_vote_190_34db8 = true := by decide +kernel
theorem dX6_vote_191 : decode cX6_vote 191 = .ok (.getfield 50, 3) := by decide +kernel
def sgX6_vote_194_840bf : List Instr := [.iload_n 1]
theorem sgX6_vote_194_840bfd : am_dec cX6_vote 194 sgX6_vote_194_840bf = true := by decide +kernel
theorem dX6_vote_195 : decode cX6_vote 195 = .ok (.iaload, 1) := by decide +kernel
theorem dX6_vote_196 : decode cX6_vote 196 = .ok (.iaload, 1) := by decide +kernel
def sgX6_vote_197_ab002 : List Instr := [.iconst 5, .iadd, .istore 4, .aload_n 0]
theorem sgX6_vote_197_ab002d : am_dec cX6_vote 197 sgX6_vote_197_ab002 = true := by decide +kernel
theorem dX6_vote_202 : decode cX6_vote 202 = .ok (.getfield 13, 3) := by decide +kernel
def sgX6_vote_205_34db8 : List Instr := [.aload_n 0]
theorem sgX6_vote_205_34db8d : am_dec cX6_vote 205 sgX6_vote_205_34db8 = true := by decide +kernel
theorem dX6_vote_206 : decode cX6_vote 206 = .ok (.getfield 50, 3) := by decide +kernel
def sgX6_vote_209_840bf : List Instr := [.iload_n 1]
theorem sgX6_vote_209_840bfd : am_dec cX6_vote 209 sgX6_vote_209_840bf = true := by decide +kernel
theorem dX6_vote_210 : decode cX6_vote 210 = .ok (.iaload, 1) := by decide +kernel
def sgX6_vote_211_d735c : List Instr := [.iload 4, .bipush 100]
theorem sgX6_vote_211_d735cd : am_dec cX6_vote 211 sgX6_vote_211_d735c = true := by decide +kernel
theorem dX6_vote_215 : decode cX6_vote 215 = .ok (.if_icmp .le 8, 3) := by decide +kernel
def sgX6_vote_223_c6742 : List Instr := [.iload 4]
theorem sgX6_vote_223_c6742d : am_dec cX6_vote 223 sgX6_vote_223_c6742 = true := by decide +kernel
theorem dX6_vote_225 : decode cX6_vote 225 = .ok (.iastore, 1) := by decide +kernel
def sgX6_vote_218_33ac2 : List Instr := [.bipush 100, .goto 5]
theorem sgX6_vote_218_33ac2d : am_dec cX6_vote 218 sgX6_vote_218_33ac2 = true := by decide +kernel
def sgX6_appeal_0_6b3ba : List Instr := [.aload_n 0, .aload_n 0, .iload_n 1]
theorem sgX6_appeal_0_6b3bad : am_dec cX6_appeal 0 sgX6_appeal_0_6b3ba = true := by decide +kernel
theorem dX6_appeal_3 : decode cX6_appeal 3 = .ok (.invokevirtual 161, 3) := by decide +kernel
theorem dX6_appeal_6 : decode cX6_appeal 6 = .ok (.ifCond .eq 7, 3) := by decide +kernel
def sgX6_appeal_13_4de0a : List Instr := [.iconst 1]
theorem sgX6_appeal_13_4de0ad : am_dec cX6_appeal 13 sgX6_appeal_13_4de0a = true := by decide +kernel
theorem dX6_appeal_14 : decode cX6_appeal 14 = .ok (.putfield 104, 3) := by decide +kernel
def sgX6_appeal_17_34db8 : List Instr := [.aload_n 0]
theorem sgX6_appeal_17_34db8d : am_dec cX6_appeal 17 sgX6_appeal_17_34db8 = true := by decide +kernel
theorem dX6_appeal_18 : decode cX6_appeal 18 = .ok (.getfield 104, 3) := by decide +kernel
theorem dX6_appeal_21 : decode cX6_appeal 21 = .ok (.ifCond .le 5, 3) := by decide +kernel
def sgX6_appeal_24_56c54 : List Instr := [.iconst 0]
theorem sgX6_appeal_24_56c54d : am_dec cX6_appeal 24 sgX6_appeal_24_56c54 = true := by decide +kernel
theorem dX6_appeal_25 : decode cX6_appeal 25 = .ok (.ireturn, 1) := by decide +kernel
def sgX6_appeal_9_1cbe9 : List Instr := [.iconst 0, .goto 4]
theorem sgX6_appeal_9_1cbe9d : am_dec cX6_appeal 9 sgX6_appeal_9_1cbe9 = true := by decide +kernel
def sgX6_appeal_26_bb584 : List Instr := [.iconst 0, .istore_n 2, .iconst 0, .istore_n 3, .iconst 0, .istore 4]
theorem sgX6_appeal_26_bb584d : am_dec cX6_appeal 26 sgX6_appeal_26_bb584 = true := by decide +kernel
def sgX6_appeal_33_e19c5 : List Instr := [.iload 4, .iconst 3]
theorem sgX6_appeal_33_e19c5d : am_dec cX6_appeal 33 sgX6_appeal_33_e19c5 = true := by decide +kernel
theorem dX6_appeal_36 : decode cX6_appeal 36 = .ok (.if_icmp .ge 131, 3) := by decide +kernel
def sgX6_appeal_167_c81f7 : List Instr := [.aload_n 0, .aload_n 0]
theorem sgX6_appeal_167_c81f7d : am_dec cX6_appeal 167 sgX6_appeal_167_c81f7 = true := by decide +kernel
theorem dX6_appeal_169 : decode cX6_appeal 169 = .ok (.getfield 68, 3) := by decide +kernel
def sgX6_appeal_172_840bf : List Instr := [.iload_n 1]
theorem sgX6_appeal_172_840bfd : am_dec cX6_appeal 172 sgX6_appeal_172_840bf = true := by decide +kernel
theorem dX6_appeal_173 : decode cX6_appeal 173 = .ok (.iaload, 1) := by decide +kernel
def sgX6_appeal_174_4de0a : List Instr := [.iconst 1]
theorem sgX6_appeal_174_4de0ad : am_dec cX6_appeal 174 sgX6_appeal_174_4de0a = true := by decide +kernel
theorem dX6_appeal_175 : decode cX6_appeal 175 = .ok (.if_icmp .ne 17, 3) := by decide +kernel
def sgX6_appeal_192_abe91 : List Instr := [.iconst 2, .goto 4]
theorem sgX6_appeal_192_abe91d : am_dec cX6_appeal 192 sgX6_appeal_192_abe91 = true := by decide +kernel
theorem dX6_appeal_197 : decode cX6_appeal 197 = .ok (.putfield 104, 3) := by decide +kernel
def sgX6_appeal_200_34db8 : List Instr := [.aload_n 0]
theorem sgX6_appeal_200_34db8d : am_dec cX6_appeal 200 sgX6_appeal_200_34db8 = true := by decide +kernel
theorem dX6_appeal_201 : decode cX6_appeal 201 = .ok (.getfield 104, 3) := by decide +kernel
theorem dX6_appeal_204 : decode cX6_appeal 204 = .ok (.ifCond .le 5, 3) := by decide +kernel
def sgX6_appeal_207_56c54 : List Instr := [.iconst 0]
theorem sgX6_appeal_207_56c54d : am_dec cX6_appeal 207 sgX6_appeal_207_56c54 = true := by decide +kernel
theorem dX6_appeal_208 : decode cX6_appeal 208 = .ok (.ireturn, 1) := by decide +kernel
def sgX6_appeal_178_34db8 : List Instr := [.aload_n 0]
theorem sgX6_appeal_178_34db8d : am_dec cX6_appeal 178 sgX6_appeal_178_34db8 = true := by decide +kernel
theorem dX6_appeal_179 : decode cX6_appeal 179 = .ok (.getfield 74, 3) := by decide +kernel
def sgX6_appeal_182_840bf : List Instr := [.iload_n 1]
theorem sgX6_appeal_182_840bfd : am_dec cX6_appeal 182 sgX6_appeal_182_840bf = true := by decide +kernel
theorem dX6_appeal_183 : decode cX6_appeal 183 = .ok (.baload, 1) := by decide +kernel
theorem dX6_appeal_184 : decode cX6_appeal 184 = .ok (.ifCond .ne 8, 3) := by decide +kernel
def sgX6_appeal_187_bb00f : List Instr := [.iload_n 3, .iconst 3]
theorem sgX6_appeal_187_bb00fd : am_dec cX6_appeal 187 sgX6_appeal_187_bb00f = true := by decide +kernel
theorem dX6_appeal_189 : decode cX6_appeal 189 = .ok (.if_icmp .ge 7, 3) := by decide +kernel
def sgX6_appeal_196_56c54 : List Instr := [.iconst 0]
theorem sgX6_appeal_196_56c54d : am_dec cX6_appeal 196 sgX6_appeal_196_56c54 = true := by decide +kernel
def sgX6_appeal_209_34db8 : List Instr := [.aload_n 0]
theorem sgX6_appeal_209_34db8d : am_dec cX6_appeal 209 sgX6_appeal_209_34db8 = true := by decide +kernel
theorem dX6_appeal_210 : decode cX6_appeal 210 = .ok (.getfield 74, 3) := by decide +kernel
def sgX6_appeal_213_d3633 : List Instr := [.iload_n 1, .iconst 1]
theorem sgX6_appeal_213_d3633d : am_dec cX6_appeal 213 sgX6_appeal_213_d3633 = true := by decide +kernel
theorem dX6_appeal_215 : decode cX6_appeal 215 = .ok (.bastore, 1) := by decide +kernel
def sgX6_appeal_216_34db8 : List Instr := [.aload_n 0]
theorem sgX6_appeal_216_34db8d : am_dec cX6_appeal 216 sgX6_appeal_216_34db8 = true := by decide +kernel
theorem dX6_appeal_217 : decode cX6_appeal 217 = .ok (.getfield 77, 3) := by decide +kernel
def sgX6_appeal_220_d3633 : List Instr := [.iload_n 1, .iconst 1]
theorem sgX6_appeal_220_d3633d : am_dec cX6_appeal 220 sgX6_appeal_220_d3633 = true := by decide +kernel
theorem dX6_appeal_222 : decode cX6_appeal 222 = .ok (.bastore, 1) := by decide +kernel
def sgX6_appeal_223_34db8 : List Instr := [.aload_n 0]
theorem sgX6_appeal_223_34db8d : am_dec cX6_appeal 223 sgX6_appeal_223_34db8 = true := by decide +kernel
theorem dX6_appeal_224 : decode cX6_appeal 224 = .ok (.getfield 80, 3) := by decide +kernel
def sgX6_appeal_227_5601b : List Instr := [.iload_n 1, .iload_n 2]
theorem sgX6_appeal_227_5601bd : am_dec cX6_appeal 227 sgX6_appeal_227_5601b = true := by decide +kernel
theorem dX6_appeal_229 : decode cX6_appeal 229 = .ok (.iastore, 1) := by decide +kernel
def sgX6_appeal_230_f8a59 : List Instr := [.iload_n 2]
theorem sgX6_appeal_230_f8a59d : am_dec cX6_appeal 230 sgX6_appeal_230_f8a59 = true := by decide +kernel
theorem dX6_appeal_231 : decode cX6_appeal 231 = .ok (.ireturn, 1) := by decide +kernel
def sgX6_appeal_39_54e39 : List Instr := [.iconst (-1), .istore 5, .bipush 15, .istore 6]
theorem sgX6_appeal_39_54e39d : am_dec cX6_appeal 39 sgX6_appeal_39_54e39 = true := by decide +kernel
def sgX6_appeal_46_4d8be : List Instr := [.iload 6]
theorem sgX6_appeal_46_4d8bed : am_dec cX6_appeal 46 sgX6_appeal_46_4d8be = true := by decide +kernel
theorem dX6_appeal_48 : decode cX6_appeal 48 = .ok (.ifCond .lt 82, 3) := by decide +kernel
def sgX6_appeal_130_6993c : List Instr := [.iload_n 3, .iload 5, .iconst (-1)]
theorem sgX6_appeal_130_6993cd : am_dec cX6_appeal 130 sgX6_appeal_130_6993c = true := by decide +kernel
theorem dX6_appeal_134 : decode cX6_appeal 134 = .ok (.if_icmp .ne 7, 3) := by decide +kernel
def sgX6_appeal_141_0f38d : List Instr := [.iconst 1, .iadd, .istore_n 3, .iload_n 2, .iload 5, .iconst (-1)]
theorem sgX6_appeal_141_0f38dd : am_dec cX6_appeal 141 sgX6_appeal_141_0f38d = true := by decide +kernel
theorem dX6_appeal_148 : decode cX6_appeal 148 = .ok (.if_icmp .ne 7, 3) := by decide +kernel
def sgX6_appeal_155_2139b : List Instr := [.iconst 1, .iload 5, .ishl, .ior, .istore_n 2, .iinc 4 1, .goto (-131)]
theorem sgX6_appeal_155_2139bd : am_dec cX6_appeal 155 sgX6_appeal_155_2139b = true := by decide +kernel
def sgX6_appeal_137_9c036 : List Instr := [.iconst 0, .goto 4, .iadd, .istore_n 3, .iload_n 2, .iload 5, .iconst (-1)]
theorem sgX6_appeal_137_9c036d : am_dec cX6_appeal 137 sgX6_appeal_137_9c036 = true := by decide +kernel
def sgX6_appeal_151_68057 : List Instr := [.iconst 0, .goto 7, .ior, .istore_n 2, .iinc 4 1, .goto (-131)]
theorem sgX6_appeal_151_68057d : am_dec cX6_appeal 151 sgX6_appeal_151_68057 = true := by decide +kernel
def sgX6_appeal_51_28df0 : List Instr := [.aload_n 0, .iload_n 1, .iload 6]
theorem sgX6_appeal_51_28df0d : am_dec cX6_appeal 51 sgX6_appeal_51_28df0 = true := by decide +kernel
theorem dX6_appeal_55 : decode cX6_appeal 55 = .ok (.invokevirtual 177, 3) := by decide +kernel
theorem dX6_appeal_58 : decode cX6_appeal 58 = .ok (.ifCond .eq 16, 3) := by decide +kernel
def sgX6_appeal_74_d13b6 : List Instr := [.iconst 0, .istore 7, .iload 7]
theorem sgX6_appeal_74_d13b6d : am_dec cX6_appeal 74 sgX6_appeal_74_d13b6 = true := by decide +kernel
theorem dX6_appeal_79 : decode cX6_appeal 79 = .ok (.ifCond .eq 41, 3) := by decide +kernel
def sgX6_appeal_120_e12f4 : List Instr := [.iload 5, .istore 5, .iinc 6 (-1), .goto (-81)]
theorem sgX6_appeal_120_e12f4d : am_dec cX6_appeal 120 sgX6_appeal_120_e12f4 = true := by decide +kernel
def sgX6_appeal_61_5a2ec : List Instr := [.iload_n 2, .iload 6, .ishr, .iconst 1, .iand]
theorem sgX6_appeal_61_5a2ecd : am_dec cX6_appeal 61 sgX6_appeal_61_5a2ec = true := by decide +kernel
theorem dX6_appeal_67 : decode cX6_appeal 67 = .ok (.ifCond .ne 7, 3) := by decide +kernel
def sgX6_appeal_70_a4c30 : List Instr := [.iconst 1, .goto 4, .istore 7, .iload 7]
theorem sgX6_appeal_70_a4c30d : am_dec cX6_appeal 70 sgX6_appeal_70_a4c30 = true := by decide +kernel
def sgX6_appeal_82_c2ad5 : List Instr := [.iload 5, .iconst (-1)]
theorem sgX6_appeal_82_c2ad5d : am_dec cX6_appeal 82 sgX6_appeal_82_c2ad5 = true := by decide +kernel
theorem dX6_appeal_85 : decode cX6_appeal 85 = .ok (.if_icmp .eq 30, 3) := by decide +kernel
def sgX6_appeal_115_6adca : List Instr := [.iload 6, .goto 5, .istore 5, .iinc 6 (-1), .goto (-81)]
theorem sgX6_appeal_115_6adcad : am_dec cX6_appeal 115 sgX6_appeal_115_6adca = true := by decide +kernel
def sgX6_appeal_88_34db8 : List Instr := [.aload_n 0]
theorem sgX6_appeal_88_34db8d : am_dec cX6_appeal 88 sgX6_appeal_88_34db8 = true := by decide +kernel
theorem dX6_appeal_89 : decode cX6_appeal 89 = .ok (.getfield 16, 3) := by decide +kernel
def sgX6_appeal_92_4d8be : List Instr := [.iload 6]
theorem sgX6_appeal_92_4d8bed : am_dec cX6_appeal 92 sgX6_appeal_92_4d8be = true := by decide +kernel
theorem dX6_appeal_94 : decode cX6_appeal 94 = .ok (.iaload, 1) := by decide +kernel
def sgX6_appeal_95_34db8 : List Instr := [.aload_n 0]
theorem sgX6_appeal_95_34db8d : am_dec cX6_appeal 95 sgX6_appeal_95_34db8 = true := by decide +kernel
theorem dX6_appeal_96 : decode cX6_appeal 96 = .ok (.getfield 16, 3) := by decide +kernel
def sgX6_appeal_99_c2ad5 : List Instr := [.iload 5, .iconst (-1)]
theorem sgX6_appeal_99_c2ad5d : am_dec cX6_appeal 99 sgX6_appeal_99_c2ad5 = true := by decide +kernel
theorem dX6_appeal_102 : decode cX6_appeal 102 = .ok (.if_icmp .ne 7, 3) := by decide +kernel
def sgX6_appeal_109_9df92 : List Instr := [.iload 5]
theorem sgX6_appeal_109_9df92d : am_dec cX6_appeal 109 sgX6_appeal_109_9df92 = true := by decide +kernel
theorem dX6_appeal_111 : decode cX6_appeal 111 = .ok (.iaload, 1) := by decide +kernel
theorem dX6_appeal_112 : decode cX6_appeal 112 = .ok (.if_icmp .gt 8, 3) := by decide +kernel
set_option maxRecDepth 100000 in
set_option maxHeartbeats 4000000 in
theorem c_r_approve_1 {G : am_S} {T S : am_T} {o : Nat → Int64} {m : Nat} (hm : S 17 0 = nI m) (hm80 : m ≤ 80) {x : Int32} (hx : x < 0 ∨ nI m ≤ x) : am_D G yX6_approve (.code yX6_approve cX6_approve 2 (some .int) :: am_G) { frames := 4, cells := 0, slots := 0, locals := 98 } (hp T S o) [.ref 465, .int x] (hp T (st1 S 0 0 1) o) (some (.int 0)) := by
  refine am_of (by decide +kernel) (Nat.le_of_ble_eq_true rfl) ?_
  intro C hse hret hname hF hO
  subst hse
  refine am_go hF sgX6_approve_0_6b3ba 3 [(0, .ref 465), (1, .int x)] [.int x, .ref 465, .ref 465] sgX6_approve_0_6b3bad rfl ?_
  refine am_dV hF hO [.int x] [.ref 465] (c_held_1 (S := S) hm hm80 hx) myX6_held vyX6_held lm_RX6_174 (hp_m _ _ _) rfl rfl 0 0 ⟨Nat.le_of_ble_eq_true rfl, Nat.le_of_ble_eq_true rfl⟩ ⟨Nat.le_of_ble_eq_true rfl, Nat.le_of_ble_eq_true rfl, Nat.le_of_ble_eq_true rfl, Nat.le_of_ble_eq_true rfl⟩ rfl (am_lv_ref (hp_m _ _ _) (am_lv_int (am_lv_ref (hp_m _ _ _) am_lv_nil))) (Nat.le_of_ble_eq_true rfl) dX6_approve_3 [.int 1, .ref 465] rfl ?_
  refine sv_put hF 0 (by decide) rfl rfl rfl lf_RX6_104 dX6_approve_6 ?_
  refine am_go hF sgX6_approve_9_34db8 10 [(0, .ref 465), (1, .int x)] [.ref 465] sgX6_approve_9_34db8d rfl ?_
  refine sv_get hF 0 (by decide) rfl lf_RX6_104 (.int 1) rfl dX6_approve_10 ?_
  refine am_ifle hF 18 dX6_approve_13 (by decide) (fun h9 => False.elim ((by revert h9; decide))) (fun _ => ?_)
  refine am_go hF sgX6_approve_16_56c54 17 [(0, .ref 465), (1, .int x)] [.int 0] sgX6_approve_16_56c54d rfl ?_
  exact am_iret hF hO hret rfl dX6_approve_17 ⟨rfl, rfl⟩
set_option maxRecDepth 100000 in
set_option maxHeartbeats 4000000 in
theorem c_r_approve_2 {G : am_S} {T S : am_T} {o : Nat → Int64} {m : Nat} (hm : S 17 0 = nI m) (hm80 : m ≤ 80) {k : Nat} (hk : k < m) (hh : ¬ (S 24 k = 1 ∧ S 27 k = 0)) : am_D G yX6_approve (.code yX6_approve cX6_approve 2 (some .int) :: am_G) { frames := 4, cells := 0, slots := 0, locals := 98 } (hp T S o) [.ref 465, .int (nI k)] (hp T (st1 S 0 0 2) o) (some (.int 0)) := by
  refine am_of (by decide +kernel) (Nat.le_of_ble_eq_true rfl) ?_
  intro C hse hret hname hF hO
  subst hse
  refine am_go hF sgX6_approve_0_6b3ba 3 [(0, .ref 465), (1, .int (nI k))] [.int (nI k), .ref 465, .ref 465] sgX6_approve_0_6b3bad rfl ?_
  refine am_dV hF hO [.int (nI k)] [.ref 465] (c_held_2 (S := S) hm hm80 (by omega)) myX6_held vyX6_held lm_RX6_174 (hp_m _ _ _) rfl rfl 0 0 ⟨Nat.le_of_ble_eq_true rfl, Nat.le_of_ble_eq_true rfl⟩ ⟨Nat.le_of_ble_eq_true rfl, Nat.le_of_ble_eq_true rfl, Nat.le_of_ble_eq_true rfl, Nat.le_of_ble_eq_true rfl⟩ rfl (am_lv_ref (hp_m _ _ _) (am_lv_int (am_lv_ref (hp_m _ _ _) am_lv_nil))) (Nat.le_of_ble_eq_true rfl) dX6_approve_3 [.int (if S 24 k = 1 ∧ S 27 k = 0 then 0 else 2), .ref 465] rfl ?_
  refine am_top 2 (if_neg hh) ?_
  refine sv_put hF 0 (by decide) rfl rfl rfl lf_RX6_104 dX6_approve_6 ?_
  refine am_go hF sgX6_approve_9_34db8 10 [(0, .ref 465), (1, .int (nI k))] [.ref 465] sgX6_approve_9_34db8d rfl ?_
  refine sv_get hF 0 (by decide) rfl lf_RX6_104 (.int 2) rfl dX6_approve_10 ?_
  refine am_ifle hF 18 dX6_approve_13 (by decide) (fun h9 => False.elim ((by revert h9; decide))) (fun _ => ?_)
  refine am_go hF sgX6_approve_16_56c54 17 [(0, .ref 465), (1, .int (nI k))] [.int 0] sgX6_approve_16_56c54d rfl ?_
  exact am_iret hF hO hret rfl dX6_approve_17 ⟨rfl, rfl⟩
set_option maxRecDepth 100000 in
set_option maxHeartbeats 4000000 in
theorem c_r_refuse_1 {G : am_S} {T S : am_T} {o : Nat → Int64} {m : Nat} (hm : S 17 0 = nI m) (hm80 : m ≤ 80) {x : Int32} (hx : x < 0 ∨ nI m ≤ x) : am_D G yX6_refuse (.code yX6_refuse cX6_refuse 2 (some .int) :: am_G) { frames := 3, cells := 0, slots := 0, locals := 64 } (hp T S o) [.ref 465, .int x] (hp T (st1 S 0 0 1) o) (some (.int 0)) := by
  refine am_of (by decide +kernel) (Nat.le_of_ble_eq_true rfl) ?_
  intro C hse hret hname hF hO
  subst hse
  refine am_go hF sgX6_refuse_0_6b3ba 3 [(0, .ref 465), (1, .int x)] [.int x, .ref 465, .ref 465] sgX6_refuse_0_6b3bad rfl ?_
  refine am_dV hF hO [.int x] [.ref 465] (c_held_1 (S := S) hm hm80 hx) myX6_held vyX6_held lm_RX6_174 (hp_m _ _ _) rfl rfl 0 0 ⟨Nat.le_of_ble_eq_true rfl, Nat.le_of_ble_eq_true rfl⟩ ⟨Nat.le_of_ble_eq_true rfl, Nat.le_of_ble_eq_true rfl, Nat.le_of_ble_eq_true rfl, Nat.le_of_ble_eq_true rfl⟩ rfl (am_lv_ref (hp_m _ _ _) (am_lv_int (am_lv_ref (hp_m _ _ _) am_lv_nil))) (Nat.le_of_ble_eq_true rfl) dX6_refuse_3 [.int 1, .ref 465] rfl ?_
  refine sv_put hF 0 (by decide) rfl rfl rfl lf_RX6_104 dX6_refuse_6 ?_
  refine am_go hF sgX6_refuse_9_34db8 10 [(0, .ref 465), (1, .int x)] [.ref 465] sgX6_refuse_9_34db8d rfl ?_
  refine sv_get hF 0 (by decide) rfl lf_RX6_104 (.int 1) rfl dX6_refuse_10 ?_
  refine am_ifle hF 18 dX6_refuse_13 (by decide) (fun h9 => False.elim ((by revert h9; decide))) (fun _ => ?_)
  refine am_go hF sgX6_refuse_16_56c54 17 [(0, .ref 465), (1, .int x)] [.int 0] sgX6_refuse_16_56c54d rfl ?_
  exact am_iret hF hO hret rfl dX6_refuse_17 ⟨rfl, rfl⟩
set_option maxRecDepth 100000 in
set_option maxHeartbeats 4000000 in
theorem c_r_refuse_2 {G : am_S} {T S : am_T} {o : Nat → Int64} {m : Nat} (hm : S 17 0 = nI m) (hm80 : m ≤ 80) {k : Nat} (hk : k < m) (hh : ¬ (S 24 k = 1 ∧ S 27 k = 0)) : am_D G yX6_refuse (.code yX6_refuse cX6_refuse 2 (some .int) :: am_G) { frames := 3, cells := 0, slots := 0, locals := 64 } (hp T S o) [.ref 465, .int (nI k)] (hp T (st1 S 0 0 2) o) (some (.int 0)) := by
  refine am_of (by decide +kernel) (Nat.le_of_ble_eq_true rfl) ?_
  intro C hse hret hname hF hO
  subst hse
  refine am_go hF sgX6_refuse_0_6b3ba 3 [(0, .ref 465), (1, .int (nI k))] [.int (nI k), .ref 465, .ref 465] sgX6_refuse_0_6b3bad rfl ?_
  refine am_dV hF hO [.int (nI k)] [.ref 465] (c_held_2 (S := S) hm hm80 (by omega)) myX6_held vyX6_held lm_RX6_174 (hp_m _ _ _) rfl rfl 0 0 ⟨Nat.le_of_ble_eq_true rfl, Nat.le_of_ble_eq_true rfl⟩ ⟨Nat.le_of_ble_eq_true rfl, Nat.le_of_ble_eq_true rfl, Nat.le_of_ble_eq_true rfl, Nat.le_of_ble_eq_true rfl⟩ rfl (am_lv_ref (hp_m _ _ _) (am_lv_int (am_lv_ref (hp_m _ _ _) am_lv_nil))) (Nat.le_of_ble_eq_true rfl) dX6_refuse_3 [.int (if S 24 k = 1 ∧ S 27 k = 0 then 0 else 2), .ref 465] rfl ?_
  refine am_top 2 (if_neg hh) ?_
  refine sv_put hF 0 (by decide) rfl rfl rfl lf_RX6_104 dX6_refuse_6 ?_
  refine am_go hF sgX6_refuse_9_34db8 10 [(0, .ref 465), (1, .int (nI k))] [.ref 465] sgX6_refuse_9_34db8d rfl ?_
  refine sv_get hF 0 (by decide) rfl lf_RX6_104 (.int 2) rfl dX6_refuse_10 ?_
  refine am_ifle hF 18 dX6_refuse_13 (by decide) (fun h9 => False.elim ((by revert h9; decide))) (fun _ => ?_)
  refine am_go hF sgX6_refuse_16_56c54 17 [(0, .ref 465), (1, .int (nI k))] [.int 0] sgX6_refuse_16_56c54d rfl ?_
  exact am_iret hF hO hret rfl dX6_refuse_17 ⟨rfl, rfl⟩
set_option maxRecDepth 100000 in
set_option maxHeartbeats 4000000 in
theorem c_r_refuse_3 {G : am_S} {T S : am_T} {o : Nat → Int64} {m : Nat} (hm : S 17 0 = nI m) (hm80 : m ≤ 80) {k : Nat} (hk : k < m) (hh : S 24 k = 1 ∧ S 27 k = 0) : am_D G yX6_refuse (.code yX6_refuse cX6_refuse 2 (some .int) :: am_G) { frames := 3, cells := 0, slots := 0, locals := 64 } (hp T S o) [.ref 465, .int (nI k)] (hp T (st1 (st1 S 0 0 0) 24 k 3) o) (some (.int (S 22 k))) := by
  refine am_of (by decide +kernel) (Nat.le_of_ble_eq_true rfl) ?_
  intro C hse hret hname hF hO
  subst hse
  refine am_go hF sgX6_refuse_0_6b3ba 3 [(0, .ref 465), (1, .int (nI k))] [.int (nI k), .ref 465, .ref 465] sgX6_refuse_0_6b3bad rfl ?_
  refine am_dV hF hO [.int (nI k)] [.ref 465] (c_held_2 (S := S) hm hm80 (by omega)) myX6_held vyX6_held lm_RX6_174 (hp_m _ _ _) rfl rfl 0 0 ⟨Nat.le_of_ble_eq_true rfl, Nat.le_of_ble_eq_true rfl⟩ ⟨Nat.le_of_ble_eq_true rfl, Nat.le_of_ble_eq_true rfl, Nat.le_of_ble_eq_true rfl, Nat.le_of_ble_eq_true rfl⟩ rfl (am_lv_ref (hp_m _ _ _) (am_lv_int (am_lv_ref (hp_m _ _ _) am_lv_nil))) (Nat.le_of_ble_eq_true rfl) dX6_refuse_3 [.int (if S 24 k = 1 ∧ S 27 k = 0 then 0 else 2), .ref 465] rfl ?_
  refine am_top 0 (if_pos hh) ?_
  refine sv_put hF 0 (by decide) rfl rfl rfl lf_RX6_104 dX6_refuse_6 ?_
  refine am_go hF sgX6_refuse_9_34db8 10 [(0, .ref 465), (1, .int (nI k))] [.ref 465] sgX6_refuse_9_34db8d rfl ?_
  refine sv_get hF 0 (by decide) rfl lf_RX6_104 (.int 0) rfl dX6_refuse_10 ?_
  refine am_ifle hF 18 dX6_refuse_13 (by decide) (fun _ => ?_) (fun h9 => False.elim ((by revert h9; decide)))
  refine am_go hF sgX6_refuse_18_34db8 19 [(0, .ref 465), (1, .int (nI k))] [.ref 465] sgX6_refuse_18_34db8d rfl ?_
  refine sv_get hF 24 (by decide) rfl lf_RX6_68 (.ref 524) rfl dX6_refuse_19 ?_
  refine am_go hF sgX6_refuse_22_68563 24 [(0, .ref 465), (1, .int (nI k))] [.int 3, .int (nI k), .ref 524] sgX6_refuse_22_68563d rfl ?_
  refine sv_iast hF 24 (by decide) ⟨rfl, rfl, by decide⟩ k rfl (show k < 80 by omega) dX6_refuse_24 ?_
  refine am_go hF sgX6_refuse_25_34db8 26 [(0, .ref 465), (1, .int (nI k))] [.ref 465] sgX6_refuse_25_34db8d rfl ?_
  refine sv_get hF 22 (by decide) rfl lf_RX6_62 (.ref 522) rfl dX6_refuse_26 ?_
  refine am_go hF sgX6_refuse_29_840bf 30 [(0, .ref 465), (1, .int (nI k))] [.int (nI k), .ref 522] sgX6_refuse_29_840bfd rfl ?_
  refine sv_iald hF 22 (by decide) ⟨rfl, rfl, by decide⟩ k rfl (show k < 80 by omega) dX6_refuse_30 ?_
  refine am_top (S 22 k) rfl ?_
  exact am_iret hF hO hret rfl dX6_refuse_31 ⟨rfl, rfl⟩
set_option maxRecDepth 100000 in
set_option maxHeartbeats 4000000 in
theorem c_r_approve_3 {G : am_S} {T S : am_T} {o : Nat → Int64} {n m k l d : Nat} (hm : S 17 0 = nI m) (hm80 : m ≤ 80) (hk : k < m) (hs9 : rSafe S n k l d) (hh : S 24 k = 1 ∧ S 27 k = 0) : am_D G yX6_approve (.code yX6_approve cX6_approve 2 (some .int) :: am_G) { frames := 4, cells := 0, slots := 0, locals := 98 } (hp T S o) [.ref 465, .int (nI k)] (hp T (rPass (st1 (st1 S 0 0 0) 2 0 ((S 2 0) + 1)) n k l) o) (some (.int ((rPass (st1 (st1 S 0 0 0) 2 0 ((S 2 0) + 1)) n k l) 25 k))) := by
  refine am_of (by decide +kernel) (Nat.le_of_ble_eq_true rfl) ?_
  intro C hse hret hname hF hO
  subst hse
  refine am_go hF sgX6_approve_0_6b3ba 3 [(0, .ref 465), (1, .int (nI k))] [.int (nI k), .ref 465, .ref 465] sgX6_approve_0_6b3bad rfl ?_
  refine am_dV hF hO [.int (nI k)] [.ref 465] (c_held_2 (S := S) hm hm80 (by omega)) myX6_held vyX6_held lm_RX6_174 (hp_m _ _ _) rfl rfl 0 0 ⟨Nat.le_of_ble_eq_true rfl, Nat.le_of_ble_eq_true rfl⟩ ⟨Nat.le_of_ble_eq_true rfl, Nat.le_of_ble_eq_true rfl, Nat.le_of_ble_eq_true rfl, Nat.le_of_ble_eq_true rfl⟩ rfl (am_lv_ref (hp_m _ _ _) (am_lv_int (am_lv_ref (hp_m _ _ _) am_lv_nil))) (Nat.le_of_ble_eq_true rfl) dX6_approve_3 [.int (if S 24 k = 1 ∧ S 27 k = 0 then 0 else 2), .ref 465] rfl ?_
  refine am_top 0 (if_pos hh) ?_
  refine sv_put hF 0 (by decide) rfl rfl rfl lf_RX6_104 dX6_approve_6 ?_
  refine am_go hF sgX6_approve_9_34db8 10 [(0, .ref 465), (1, .int (nI k))] [.ref 465] sgX6_approve_9_34db8d rfl ?_
  refine sv_get hF 0 (by decide) rfl lf_RX6_104 (.int 0) rfl dX6_approve_10 ?_
  refine am_ifle hF 18 dX6_approve_13 (by decide) (fun _ => ?_) (fun h9 => False.elim ((by revert h9; decide)))
  refine am_go hF sgX6_approve_18_da752 20 [(0, .ref 465), (1, .int (nI k))] [.ref 465, .ref 465] sgX6_approve_18_da752d rfl ?_
  refine sv_get hF 2 (by decide) rfl lf_RX6_150 (.int (S 2 0)) rfl dX6_approve_20 ?_
  refine am_go hF sgX6_approve_23_c7176 25 [(0, .ref 465), (1, .int (nI k))] [.int ((S 2 0) + 1), .ref 465] sgX6_approve_23_c7176d rfl ?_
  refine sv_put hF 2 (by decide) rfl rfl rfl lf_RX6_150 dX6_approve_25 ?_
  refine am_go hF sgX6_approve_28_8bcf7 30 [(0, .ref 465), (1, .int (nI k))] [.int (nI k), .ref 465] sgX6_approve_28_8bcf7d rfl ?_
  refine am_dV hF hO [.int (nI k)] [] (c_passes (S := (st1 (st1 S 0 0 0) 2 0 ((S 2 0) + 1))) (n := n) (k := k) (l := l) (d := d) hs9) myX6_passes vyX6_passes lm_RX6_171 (hp_m _ _ _) rfl rfl 0 0 ⟨Nat.le_of_ble_eq_true rfl, Nat.le_of_ble_eq_true rfl⟩ ⟨Nat.le_of_ble_eq_true rfl, Nat.le_of_ble_eq_true rfl, Nat.le_of_ble_eq_true rfl, Nat.le_of_ble_eq_true rfl⟩ rfl (am_lv_ref (hp_m _ _ _) (am_lv_int am_lv_nil)) (Nat.le_of_ble_eq_true rfl) dX6_approve_30 [] rfl ?_
  refine am_go hF sgX6_approve_33_34db8 34 [(0, .ref 465), (1, .int (nI k))] [.ref 465] sgX6_approve_33_34db8d rfl ?_
  refine sv_get hF 25 (by decide) rfl lf_RX6_71 (.ref 525) rfl dX6_approve_34 ?_
  refine am_go hF sgX6_approve_37_840bf 38 [(0, .ref 465), (1, .int (nI k))] [.int (nI k), .ref 525] sgX6_approve_37_840bfd rfl ?_
  refine sv_iald hF 25 (by decide) ⟨rfl, rfl, by decide⟩ k rfl (show k < 80 by omega) dX6_approve_38 ?_
  exact am_iret hF hO hret rfl dX6_approve_39 ⟨rfl, rfl⟩
set_option maxRecDepth 100000 in
set_option maxHeartbeats 4000000 in
theorem c_r_send_1 {G : am_S} {T S : am_T} {o : Nat → Int64} {x y z u : Int32} (hx : x < 0 ∨ nI 16 ≤ x) : am_D G yX6_send (.code yX6_send cX6_send 5 (some .int) :: am_G) { frames := 4, cells := 0, slots := 0, locals := 98 } (hp T S o) [.ref 465, .int x, .int y, .int z, .int u] (hp T (st1 S 0 0 1) o) (some (.int 0)) := by
  refine am_of (by decide +kernel) (Nat.le_of_ble_eq_true rfl) ?_
  intro C hse hret hname hF hO
  subst hse
  refine am_go hF sgX6_send_0_8bcf7 2 [(0, .ref 465), (1, .int x), (2, .int y), (3, .int z), (4, .int u)] [.int x, .ref 465] sgX6_send_0_8bcf7d rfl ?_
  refine am_dS hF hO [.int x] [.ref 465] (c_isPerson_f hx) myX6_isPerson syX6_isPerson lm_RX6_118 rfl 0 0 ⟨Nat.le_of_ble_eq_true rfl, Nat.le_of_ble_eq_true rfl⟩ ⟨Nat.le_of_ble_eq_true rfl, Nat.le_of_ble_eq_true rfl, Nat.le_of_ble_eq_true rfl, Nat.le_of_ble_eq_true rfl⟩ rfl (am_lv_ref (hp_m _ _ _) (am_lv_int (am_lv_int (am_lv_int (am_lv_int (am_lv_ref (hp_m _ _ _) am_lv_nil)))))) (Nat.le_of_ble_eq_true rfl) dX6_send_2 [.int 0, .ref 465] rfl ?_
  refine am_ifeq hF 31 dX6_send_5 (by decide) (fun _ => ?_) (fun h9 => False.elim ((by revert h9; decide)))
  refine am_go hF sgX6_send_31_ad6a9 50 [(0, .ref 465), (1, .int x), (2, .int y), (3, .int z), (4, .int u)] [.int 1, .ref 465] sgX6_send_31_ad6a9d rfl ?_
  refine sv_put hF 0 (by decide) rfl rfl rfl lf_RX6_104 dX6_send_50 ?_
  refine am_go hF sgX6_send_53_34db8 54 [(0, .ref 465), (1, .int x), (2, .int y), (3, .int z), (4, .int u)] [.ref 465] sgX6_send_53_34db8d rfl ?_
  refine sv_get hF 0 (by decide) rfl lf_RX6_104 (.int 1) rfl dX6_send_54 ?_
  refine am_ifle hF 62 dX6_send_57 (by decide) (fun h9 => False.elim ((by revert h9; decide))) (fun _ => ?_)
  refine am_go hF sgX6_send_60_56c54 61 [(0, .ref 465), (1, .int x), (2, .int y), (3, .int z), (4, .int u)] [.int 0] sgX6_send_60_56c54d rfl ?_
  exact am_iret hF hO hret rfl dX6_send_61 ⟨rfl, rfl⟩
set_option maxRecDepth 100000 in
set_option maxHeartbeats 4000000 in
theorem c_r_send_2 {G : am_S} {T S : am_T} {o : Nat → Int64} {n : Nat} (hn : S 9 0 = nI n) (hn10 : n ≤ 10) {p : Nat} (hp9 : p < 16) {y z u : Int32} (hy : y < 0 ∨ nI n ≤ y) : am_D G yX6_send (.code yX6_send cX6_send 5 (some .int) :: am_G) { frames := 4, cells := 0, slots := 0, locals := 98 } (hp T S o) [.ref 465, .int (nI p), .int y, .int z, .int u] (hp T (st1 S 0 0 1) o) (some (.int 0)) := by
  refine am_of (by decide +kernel) (Nat.le_of_ble_eq_true rfl) ?_
  intro C hse hret hname hF hO
  subst hse
  refine am_go hF sgX6_send_0_8bcf7 2 [(0, .ref 465), (1, .int (nI p)), (2, .int y), (3, .int z), (4, .int u)] [.int (nI p), .ref 465] sgX6_send_0_8bcf7d rfl ?_
  refine am_dS hF hO [.int (nI p)] [.ref 465] (c_isPerson_t (show p < 16 by omega) rfl) myX6_isPerson syX6_isPerson lm_RX6_118 rfl 0 0 ⟨Nat.le_of_ble_eq_true rfl, Nat.le_of_ble_eq_true rfl⟩ ⟨Nat.le_of_ble_eq_true rfl, Nat.le_of_ble_eq_true rfl, Nat.le_of_ble_eq_true rfl, Nat.le_of_ble_eq_true rfl⟩ rfl (am_lv_ref (hp_m _ _ _) (am_lv_int (am_lv_int (am_lv_int (am_lv_int (am_lv_ref (hp_m _ _ _) am_lv_nil)))))) (Nat.le_of_ble_eq_true rfl) dX6_send_2 [.int 1, .ref 465] rfl ?_
  refine am_ifeq hF 31 dX6_send_5 (by decide) (fun h9 => False.elim ((by revert h9; decide))) (fun _ => ?_)
  refine am_go hF sgX6_send_8_78e74 10 [(0, .ref 465), (1, .int (nI p)), (2, .int y), (3, .int z), (4, .int u)] [.int y, .ref 465, .ref 465] sgX6_send_8_78e74d rfl ?_
  refine am_dV hF hO [.int y] [.ref 465] (c_isList_f (S := S) hn hn10 hy) myX6_isList vyX6_isList lm_RX6_122 (hp_m _ _ _) rfl rfl 0 0 ⟨Nat.le_of_ble_eq_true rfl, Nat.le_of_ble_eq_true rfl⟩ ⟨Nat.le_of_ble_eq_true rfl, Nat.le_of_ble_eq_true rfl, Nat.le_of_ble_eq_true rfl, Nat.le_of_ble_eq_true rfl⟩ rfl (am_lv_ref (hp_m _ _ _) (am_lv_int (am_lv_int (am_lv_int (am_lv_int (am_lv_ref (hp_m _ _ _) am_lv_nil)))))) (Nat.le_of_ble_eq_true rfl) dX6_send_10 [.int 0, .ref 465] rfl ?_
  refine am_ifeq hF 31 dX6_send_13 (by decide) (fun _ => ?_) (fun h9 => False.elim ((by revert h9; decide)))
  refine am_go hF sgX6_send_31_ad6a9 50 [(0, .ref 465), (1, .int (nI p)), (2, .int y), (3, .int z), (4, .int u)] [.int 1, .ref 465] sgX6_send_31_ad6a9d rfl ?_
  refine sv_put hF 0 (by decide) rfl rfl rfl lf_RX6_104 dX6_send_50 ?_
  refine am_go hF sgX6_send_53_34db8 54 [(0, .ref 465), (1, .int (nI p)), (2, .int y), (3, .int z), (4, .int u)] [.ref 465] sgX6_send_53_34db8d rfl ?_
  refine sv_get hF 0 (by decide) rfl lf_RX6_104 (.int 1) rfl dX6_send_54 ?_
  refine am_ifle hF 62 dX6_send_57 (by decide) (fun h9 => False.elim ((by revert h9; decide))) (fun _ => ?_)
  refine am_go hF sgX6_send_60_56c54 61 [(0, .ref 465), (1, .int (nI p)), (2, .int y), (3, .int z), (4, .int u)] [.int 0] sgX6_send_60_56c54d rfl ?_
  exact am_iret hF hO hret rfl dX6_send_61 ⟨rfl, rfl⟩
set_option maxRecDepth 100000 in
set_option maxHeartbeats 4000000 in
theorem c_r_send_3 {G : am_S} {T S : am_T} {o : Nat → Int64} {n : Nat} (hn : S 9 0 = nI n) (hn10 : n ≤ 10) {m : Nat} (hm : S 17 0 = nI m) (hm80 : m ≤ 80) {p l : Nat} (hp9 : p < 16) (hl : l < n) {z u : Int32} (hu : u < 0 ∨ nI m ≤ u) (hu1 : ¬ u = -1) : am_D G yX6_send (.code yX6_send cX6_send 5 (some .int) :: am_G) { frames := 4, cells := 0, slots := 0, locals := 98 } (hp T S o) [.ref 465, .int (nI p), .int (nI l), .int z, .int u] (hp T (st1 S 0 0 1) o) (some (.int 0)) := by
  refine am_of (by decide +kernel) (Nat.le_of_ble_eq_true rfl) ?_
  intro C hse hret hname hF hO
  subst hse
  refine am_go hF sgX6_send_0_8bcf7 2 [(0, .ref 465), (1, .int (nI p)), (2, .int (nI l)), (3, .int z), (4, .int u)] [.int (nI p), .ref 465] sgX6_send_0_8bcf7d rfl ?_
  refine am_dS hF hO [.int (nI p)] [.ref 465] (c_isPerson_t (show p < 16 by omega) rfl) myX6_isPerson syX6_isPerson lm_RX6_118 rfl 0 0 ⟨Nat.le_of_ble_eq_true rfl, Nat.le_of_ble_eq_true rfl⟩ ⟨Nat.le_of_ble_eq_true rfl, Nat.le_of_ble_eq_true rfl, Nat.le_of_ble_eq_true rfl, Nat.le_of_ble_eq_true rfl⟩ rfl (am_lv_ref (hp_m _ _ _) (am_lv_int (am_lv_int (am_lv_int (am_lv_int (am_lv_ref (hp_m _ _ _) am_lv_nil)))))) (Nat.le_of_ble_eq_true rfl) dX6_send_2 [.int 1, .ref 465] rfl ?_
  refine am_ifeq hF 31 dX6_send_5 (by decide) (fun h9 => False.elim ((by revert h9; decide))) (fun _ => ?_)
  refine am_go hF sgX6_send_8_78e74 10 [(0, .ref 465), (1, .int (nI p)), (2, .int (nI l)), (3, .int z), (4, .int u)] [.int (nI l), .ref 465, .ref 465] sgX6_send_8_78e74d rfl ?_
  refine am_dV hF hO [.int (nI l)] [.ref 465] (c_isList_t (S := S) hn hn10 (show l < n by omega) rfl) myX6_isList vyX6_isList lm_RX6_122 (hp_m _ _ _) rfl rfl 0 0 ⟨Nat.le_of_ble_eq_true rfl, Nat.le_of_ble_eq_true rfl⟩ ⟨Nat.le_of_ble_eq_true rfl, Nat.le_of_ble_eq_true rfl, Nat.le_of_ble_eq_true rfl, Nat.le_of_ble_eq_true rfl⟩ rfl (am_lv_ref (hp_m _ _ _) (am_lv_int (am_lv_int (am_lv_int (am_lv_int (am_lv_ref (hp_m _ _ _) am_lv_nil)))))) (Nat.le_of_ble_eq_true rfl) dX6_send_10 [.int 1, .ref 465] rfl ?_
  refine am_ifeq hF 31 dX6_send_13 (by decide) (fun h9 => False.elim ((by revert h9; decide))) (fun _ => ?_)
  refine am_go hF sgX6_send_16_1c478 19 [(0, .ref 465), (1, .int (nI p)), (2, .int (nI l)), (3, .int z), (4, .int u)] [.int u, .ref 465, .ref 465] sgX6_send_16_1c478d rfl ?_
  refine am_dV hF hO [.int u] [.ref 465] (c_isMail_f (S := S) hm hm80 hu) myX6_isMail vyX6_isMail lm_RX6_161 (hp_m _ _ _) rfl rfl 0 0 ⟨Nat.le_of_ble_eq_true rfl, Nat.le_of_ble_eq_true rfl⟩ ⟨Nat.le_of_ble_eq_true rfl, Nat.le_of_ble_eq_true rfl, Nat.le_of_ble_eq_true rfl, Nat.le_of_ble_eq_true rfl⟩ rfl (am_lv_ref (hp_m _ _ _) (am_lv_int (am_lv_int (am_lv_int (am_lv_int (am_lv_ref (hp_m _ _ _) am_lv_nil)))))) (Nat.le_of_ble_eq_true rfl) dX6_send_19 [.int 0, .ref 465] rfl ?_
  refine am_ifne hF 35 dX6_send_22 (by decide) (fun h9 => False.elim ((by revert h9; decide))) (fun _ => ?_)
  refine am_go hF sgX6_send_25_5b727 28 [(0, .ref 465), (1, .int (nI p)), (2, .int (nI l)), (3, .int z), (4, .int u)] [.int (-1), .int u, .ref 465] sgX6_send_25_5b727d rfl ?_
  refine am_icmpeq hF 35 dX6_send_28 (by decide) (fun h9 => False.elim (absurd h9 hu1)) (fun _ => ?_)
  refine am_go hF sgX6_send_31_ad6a9 50 [(0, .ref 465), (1, .int (nI p)), (2, .int (nI l)), (3, .int z), (4, .int u)] [.int 1, .ref 465] sgX6_send_31_ad6a9d rfl ?_
  refine sv_put hF 0 (by decide) rfl rfl rfl lf_RX6_104 dX6_send_50 ?_
  refine am_go hF sgX6_send_53_34db8 54 [(0, .ref 465), (1, .int (nI p)), (2, .int (nI l)), (3, .int z), (4, .int u)] [.ref 465] sgX6_send_53_34db8d rfl ?_
  refine sv_get hF 0 (by decide) rfl lf_RX6_104 (.int 1) rfl dX6_send_54 ?_
  refine am_ifle hF 62 dX6_send_57 (by decide) (fun h9 => False.elim ((by revert h9; decide))) (fun _ => ?_)
  refine am_go hF sgX6_send_60_56c54 61 [(0, .ref 465), (1, .int (nI p)), (2, .int (nI l)), (3, .int z), (4, .int u)] [.int 0] sgX6_send_60_56c54d rfl ?_
  exact am_iret hF hO hret rfl dX6_send_61 ⟨rfl, rfl⟩
set_option maxRecDepth 100000 in
set_option maxHeartbeats 4000000 in
theorem c_r_send_4n {G : am_S} {T S : am_T} {o : Nat → Int64} {n : Nat} (hn : S 9 0 = nI n) (hn10 : n ≤ 10) {m : Nat} (hm : S 17 0 = nI m) (hm80 : m ≤ 80) {p l : Nat} (hp9 : p < 16) (hl : l < n) {z : Int32} (hz : z < 0 ∨ 1048575 < z) : am_D G yX6_send (.code yX6_send cX6_send 5 (some .int) :: am_G) { frames := 4, cells := 0, slots := 0, locals := 98 } (hp T S o) [.ref 465, .int (nI p), .int (nI l), .int z, .int (-1)] (hp T (st1 S 0 0 2) o) (some (.int 0)) := by
  refine am_of (by decide +kernel) (Nat.le_of_ble_eq_true rfl) ?_
  intro C hse hret hname hF hO
  subst hse
  refine am_go hF sgX6_send_0_8bcf7 2 [(0, .ref 465), (1, .int (nI p)), (2, .int (nI l)), (3, .int z), (4, .int (-1))] [.int (nI p), .ref 465] sgX6_send_0_8bcf7d rfl ?_
  refine am_dS hF hO [.int (nI p)] [.ref 465] (c_isPerson_t (show p < 16 by omega) rfl) myX6_isPerson syX6_isPerson lm_RX6_118 rfl 0 0 ⟨Nat.le_of_ble_eq_true rfl, Nat.le_of_ble_eq_true rfl⟩ ⟨Nat.le_of_ble_eq_true rfl, Nat.le_of_ble_eq_true rfl, Nat.le_of_ble_eq_true rfl, Nat.le_of_ble_eq_true rfl⟩ rfl (am_lv_ref (hp_m _ _ _) (am_lv_int (am_lv_int (am_lv_int (am_lv_int (am_lv_ref (hp_m _ _ _) am_lv_nil)))))) (Nat.le_of_ble_eq_true rfl) dX6_send_2 [.int 1, .ref 465] rfl ?_
  refine am_ifeq hF 31 dX6_send_5 (by decide) (fun h9 => False.elim ((by revert h9; decide))) (fun _ => ?_)
  refine am_go hF sgX6_send_8_78e74 10 [(0, .ref 465), (1, .int (nI p)), (2, .int (nI l)), (3, .int z), (4, .int (-1))] [.int (nI l), .ref 465, .ref 465] sgX6_send_8_78e74d rfl ?_
  refine am_dV hF hO [.int (nI l)] [.ref 465] (c_isList_t (S := S) hn hn10 (show l < n by omega) rfl) myX6_isList vyX6_isList lm_RX6_122 (hp_m _ _ _) rfl rfl 0 0 ⟨Nat.le_of_ble_eq_true rfl, Nat.le_of_ble_eq_true rfl⟩ ⟨Nat.le_of_ble_eq_true rfl, Nat.le_of_ble_eq_true rfl, Nat.le_of_ble_eq_true rfl, Nat.le_of_ble_eq_true rfl⟩ rfl (am_lv_ref (hp_m _ _ _) (am_lv_int (am_lv_int (am_lv_int (am_lv_int (am_lv_ref (hp_m _ _ _) am_lv_nil)))))) (Nat.le_of_ble_eq_true rfl) dX6_send_10 [.int 1, .ref 465] rfl ?_
  refine am_ifeq hF 31 dX6_send_13 (by decide) (fun h9 => False.elim ((by revert h9; decide))) (fun _ => ?_)
  refine am_go hF sgX6_send_16_1c478 19 [(0, .ref 465), (1, .int (nI p)), (2, .int (nI l)), (3, .int z), (4, .int (-1))] [.int (-1), .ref 465, .ref 465] sgX6_send_16_1c478d rfl ?_
  refine am_dV hF hO [.int (-1)] [.ref 465] (c_isMail_f (S := S) hm hm80 (Or.inl (by decide))) myX6_isMail vyX6_isMail lm_RX6_161 (hp_m _ _ _) rfl rfl 0 0 ⟨Nat.le_of_ble_eq_true rfl, Nat.le_of_ble_eq_true rfl⟩ ⟨Nat.le_of_ble_eq_true rfl, Nat.le_of_ble_eq_true rfl, Nat.le_of_ble_eq_true rfl, Nat.le_of_ble_eq_true rfl⟩ rfl (am_lv_ref (hp_m _ _ _) (am_lv_int (am_lv_int (am_lv_int (am_lv_int (am_lv_ref (hp_m _ _ _) am_lv_nil)))))) (Nat.le_of_ble_eq_true rfl) dX6_send_19 [.int 0, .ref 465] rfl ?_
  refine am_ifne hF 35 dX6_send_22 (by decide) (fun h9 => False.elim ((by revert h9; decide))) (fun _ => ?_)
  refine am_go hF sgX6_send_25_5b727 28 [(0, .ref 465), (1, .int (nI p)), (2, .int (nI l)), (3, .int z), (4, .int (-1))] [.int (-1), .int (-1), .ref 465] sgX6_send_25_5b727d rfl ?_
  refine am_icmpeq hF 35 dX6_send_28 (by decide) (fun _ => ?_) (fun h9 => False.elim ((by revert h9; decide)))
  refine am_go hF sgX6_send_35_fee27 37 [(0, .ref 465), (1, .int (nI p)), (2, .int (nI l)), (3, .int z), (4, .int (-1))] [.int 0, .int z, .ref 465] sgX6_send_35_fee27d rfl ?_
  refine am_ldc hF 1048575 (List.mem_cons_of_mem _ lk_RX6_164) dX6_send_37 ?_
  refine am_dS hF hO [.int z, .int 0, .int 1048575] [.ref 465] (c_isIn_f hz) myX6_isIn syX6_isIn lm_RX6_108 rfl 0 0 ⟨Nat.le_of_ble_eq_true rfl, Nat.le_of_ble_eq_true rfl⟩ ⟨Nat.le_of_ble_eq_true rfl, Nat.le_of_ble_eq_true rfl, Nat.le_of_ble_eq_true rfl, Nat.le_of_ble_eq_true rfl⟩ rfl (am_lv_ref (hp_m _ _ _) (am_lv_int (am_lv_int (am_lv_int (am_lv_int (am_lv_ref (hp_m _ _ _) am_lv_nil)))))) (Nat.le_of_ble_eq_true rfl) dX6_send_39 [.int 0, .ref 465] rfl ?_
  refine am_ifeq hF 49 dX6_send_42 (by decide) (fun _ => ?_) (fun h9 => False.elim ((by revert h9; decide)))
  refine am_go hF sgX6_send_49_d5620 50 [(0, .ref 465), (1, .int (nI p)), (2, .int (nI l)), (3, .int z), (4, .int (-1))] [.int 2, .ref 465] sgX6_send_49_d5620d rfl ?_
  refine sv_put hF 0 (by decide) rfl rfl rfl lf_RX6_104 dX6_send_50 ?_
  refine am_go hF sgX6_send_53_34db8 54 [(0, .ref 465), (1, .int (nI p)), (2, .int (nI l)), (3, .int z), (4, .int (-1))] [.ref 465] sgX6_send_53_34db8d rfl ?_
  refine sv_get hF 0 (by decide) rfl lf_RX6_104 (.int 2) rfl dX6_send_54 ?_
  refine am_ifle hF 62 dX6_send_57 (by decide) (fun h9 => False.elim ((by revert h9; decide))) (fun _ => ?_)
  refine am_go hF sgX6_send_60_56c54 61 [(0, .ref 465), (1, .int (nI p)), (2, .int (nI l)), (3, .int z), (4, .int (-1))] [.int 0] sgX6_send_60_56c54d rfl ?_
  exact am_iret hF hO hret rfl dX6_send_61 ⟨rfl, rfl⟩
set_option maxRecDepth 100000 in
set_option maxHeartbeats 4000000 in
theorem c_r_send_5n {G : am_S} {T S : am_T} {o : Nat → Int64} {n : Nat} (hn : S 9 0 = nI n) (hn10 : n ≤ 10) {m : Nat} (hm : S 17 0 = nI m) (hm80 : m ≤ 80) {p l : Nat} (hp9 : p < 16) (hl : l < n) {z : Int32} (hz1 : ¬ z < 0) (hz2 : ¬ 1048575 < z) (h80 : m = 80) : am_D G yX6_send (.code yX6_send cX6_send 5 (some .int) :: am_G) { frames := 4, cells := 0, slots := 0, locals := 98 } (hp T S o) [.ref 465, .int (nI p), .int (nI l), .int z, .int (-1)] (hp T (st1 (st1 S 0 0 0) 0 0 3) o) (some (.int 0)) := by
  refine am_of (by decide +kernel) (Nat.le_of_ble_eq_true rfl) ?_
  intro C hse hret hname hF hO
  subst hse
  refine am_go hF sgX6_send_0_8bcf7 2 [(0, .ref 465), (1, .int (nI p)), (2, .int (nI l)), (3, .int z), (4, .int (-1))] [.int (nI p), .ref 465] sgX6_send_0_8bcf7d rfl ?_
  refine am_dS hF hO [.int (nI p)] [.ref 465] (c_isPerson_t (show p < 16 by omega) rfl) myX6_isPerson syX6_isPerson lm_RX6_118 rfl 0 0 ⟨Nat.le_of_ble_eq_true rfl, Nat.le_of_ble_eq_true rfl⟩ ⟨Nat.le_of_ble_eq_true rfl, Nat.le_of_ble_eq_true rfl, Nat.le_of_ble_eq_true rfl, Nat.le_of_ble_eq_true rfl⟩ rfl (am_lv_ref (hp_m _ _ _) (am_lv_int (am_lv_int (am_lv_int (am_lv_int (am_lv_ref (hp_m _ _ _) am_lv_nil)))))) (Nat.le_of_ble_eq_true rfl) dX6_send_2 [.int 1, .ref 465] rfl ?_
  refine am_ifeq hF 31 dX6_send_5 (by decide) (fun h9 => False.elim ((by revert h9; decide))) (fun _ => ?_)
  refine am_go hF sgX6_send_8_78e74 10 [(0, .ref 465), (1, .int (nI p)), (2, .int (nI l)), (3, .int z), (4, .int (-1))] [.int (nI l), .ref 465, .ref 465] sgX6_send_8_78e74d rfl ?_
  refine am_dV hF hO [.int (nI l)] [.ref 465] (c_isList_t (S := S) hn hn10 (show l < n by omega) rfl) myX6_isList vyX6_isList lm_RX6_122 (hp_m _ _ _) rfl rfl 0 0 ⟨Nat.le_of_ble_eq_true rfl, Nat.le_of_ble_eq_true rfl⟩ ⟨Nat.le_of_ble_eq_true rfl, Nat.le_of_ble_eq_true rfl, Nat.le_of_ble_eq_true rfl, Nat.le_of_ble_eq_true rfl⟩ rfl (am_lv_ref (hp_m _ _ _) (am_lv_int (am_lv_int (am_lv_int (am_lv_int (am_lv_ref (hp_m _ _ _) am_lv_nil)))))) (Nat.le_of_ble_eq_true rfl) dX6_send_10 [.int 1, .ref 465] rfl ?_
  refine am_ifeq hF 31 dX6_send_13 (by decide) (fun h9 => False.elim ((by revert h9; decide))) (fun _ => ?_)
  refine am_go hF sgX6_send_16_1c478 19 [(0, .ref 465), (1, .int (nI p)), (2, .int (nI l)), (3, .int z), (4, .int (-1))] [.int (-1), .ref 465, .ref 465] sgX6_send_16_1c478d rfl ?_
  refine am_dV hF hO [.int (-1)] [.ref 465] (c_isMail_f (S := S) hm hm80 (Or.inl (by decide))) myX6_isMail vyX6_isMail lm_RX6_161 (hp_m _ _ _) rfl rfl 0 0 ⟨Nat.le_of_ble_eq_true rfl, Nat.le_of_ble_eq_true rfl⟩ ⟨Nat.le_of_ble_eq_true rfl, Nat.le_of_ble_eq_true rfl, Nat.le_of_ble_eq_true rfl, Nat.le_of_ble_eq_true rfl⟩ rfl (am_lv_ref (hp_m _ _ _) (am_lv_int (am_lv_int (am_lv_int (am_lv_int (am_lv_ref (hp_m _ _ _) am_lv_nil)))))) (Nat.le_of_ble_eq_true rfl) dX6_send_19 [.int 0, .ref 465] rfl ?_
  refine am_ifne hF 35 dX6_send_22 (by decide) (fun h9 => False.elim ((by revert h9; decide))) (fun _ => ?_)
  refine am_go hF sgX6_send_25_5b727 28 [(0, .ref 465), (1, .int (nI p)), (2, .int (nI l)), (3, .int z), (4, .int (-1))] [.int (-1), .int (-1), .ref 465] sgX6_send_25_5b727d rfl ?_
  refine am_icmpeq hF 35 dX6_send_28 (by decide) (fun _ => ?_) (fun h9 => False.elim ((by revert h9; decide)))
  refine am_go hF sgX6_send_35_fee27 37 [(0, .ref 465), (1, .int (nI p)), (2, .int (nI l)), (3, .int z), (4, .int (-1))] [.int 0, .int z, .ref 465] sgX6_send_35_fee27d rfl ?_
  refine am_ldc hF 1048575 (List.mem_cons_of_mem _ lk_RX6_164) dX6_send_37 ?_
  refine am_dS hF hO [.int z, .int 0, .int 1048575] [.ref 465] (c_isIn_t hz1 hz2) myX6_isIn syX6_isIn lm_RX6_108 rfl 0 0 ⟨Nat.le_of_ble_eq_true rfl, Nat.le_of_ble_eq_true rfl⟩ ⟨Nat.le_of_ble_eq_true rfl, Nat.le_of_ble_eq_true rfl, Nat.le_of_ble_eq_true rfl, Nat.le_of_ble_eq_true rfl⟩ rfl (am_lv_ref (hp_m _ _ _) (am_lv_int (am_lv_int (am_lv_int (am_lv_int (am_lv_ref (hp_m _ _ _) am_lv_nil)))))) (Nat.le_of_ble_eq_true rfl) dX6_send_39 [.int 1, .ref 465] rfl ?_
  refine am_ifeq hF 49 dX6_send_42 (by decide) (fun h9 => False.elim ((by revert h9; decide))) (fun _ => ?_)
  refine am_go hF sgX6_send_45_1cbe9 50 [(0, .ref 465), (1, .int (nI p)), (2, .int (nI l)), (3, .int z), (4, .int (-1))] [.int 0, .ref 465] sgX6_send_45_1cbe9d rfl ?_
  refine sv_put hF 0 (by decide) rfl rfl rfl lf_RX6_104 dX6_send_50 ?_
  refine am_go hF sgX6_send_53_34db8 54 [(0, .ref 465), (1, .int (nI p)), (2, .int (nI l)), (3, .int z), (4, .int (-1))] [.ref 465] sgX6_send_53_34db8d rfl ?_
  refine sv_get hF 0 (by decide) rfl lf_RX6_104 (.int 0) rfl dX6_send_54 ?_
  refine am_ifle hF 62 dX6_send_57 (by decide) (fun _ => ?_) (fun h9 => False.elim ((by revert h9; decide)))
  refine am_go hF sgX6_send_62_c81f7 64 [(0, .ref 465), (1, .int (nI p)), (2, .int (nI l)), (3, .int z), (4, .int (-1))] [.ref 465, .ref 465] sgX6_send_62_c81f7d rfl ?_
  refine sv_get hF 17 (by decide) rfl lf_RX6_115 (.int (S 17 0)) rfl dX6_send_64 ?_
  refine am_top (nI m) hm ?_
  refine am_go hF sgX6_send_67_1fd2c 69 [(0, .ref 465), (1, .int (nI p)), (2, .int (nI l)), (3, .int z), (4, .int (-1))] [.int 80, .int (nI m), .ref 465] sgX6_send_67_1fd2cd rfl ?_
  refine am_icmpne hF 76 dX6_send_69 (by decide) (fun h9 => False.elim (nc_eq_f (show m = 80 by omega) (by omega) (by omega) rfl rfl h9)) (fun _ => ?_)
  refine am_go hF sgX6_send_72_5c8a0 77 [(0, .ref 465), (1, .int (nI p)), (2, .int (nI l)), (3, .int z), (4, .int (-1))] [.int 3, .ref 465] sgX6_send_72_5c8a0d rfl ?_
  refine sv_put hF 0 (by decide) rfl rfl rfl lf_RX6_104 dX6_send_77 ?_
  refine am_go hF sgX6_send_80_34db8 81 [(0, .ref 465), (1, .int (nI p)), (2, .int (nI l)), (3, .int z), (4, .int (-1))] [.ref 465] sgX6_send_80_34db8d rfl ?_
  refine sv_get hF 0 (by decide) rfl lf_RX6_104 (.int 3) rfl dX6_send_81 ?_
  refine am_ifle hF 89 dX6_send_84 (by decide) (fun h9 => False.elim ((by revert h9; decide))) (fun _ => ?_)
  refine am_go hF sgX6_send_87_56c54 88 [(0, .ref 465), (1, .int (nI p)), (2, .int (nI l)), (3, .int z), (4, .int (-1))] [.int 0] sgX6_send_87_56c54d rfl ?_
  exact am_iret hF hO hret rfl dX6_send_88 ⟨rfl, rfl⟩
set_option maxRecDepth 100000 in
set_option maxHeartbeats 4000000 in
theorem c_r_send_6n {G : am_S} {T S : am_T} {o : Nat → Int64} {n : Nat} (hn : S 9 0 = nI n) (hn10 : n ≤ 10) {m : Nat} (hm : S 17 0 = nI m) (hm80 : m ≤ 80) {p l : Nat} (hp9 : p < 16) (hl : l < n) {z : Int32} (hz1 : ¬ z < 0) (hz2 : ¬ 1048575 < z) (h80 : m < 80) {t : Nat} (ht : S 1 0 = nI t) (ht4 : t ≤ 400) (hb7 : ∀ q, q < 16 → ∃ b, b ≤ 10 ∧ S 7 q = nI b) {cs : Int32} (hcs : rCause (st1 (rSdA S m p l t) 22 m (rSum (rSdA S m p l t) m p z)) n p l (rSum (rSdA S m p l t) m p z) = cs) (hcn : ¬ cs = -1) : am_D G yX6_send (.code yX6_send cX6_send 5 (some .int) :: am_G) { frames := 4, cells := 0, slots := 0, locals := 98 } (hp T S o) [.ref 465, .int (nI p), .int (nI l), .int z, .int (-1)] (hp T (rSdB S m p l t (rSum (rSdA S m p l t) m p z) cs) o) (some (.int (nI m))) := by
  refine am_of (by decide +kernel) (Nat.le_of_ble_eq_true rfl) ?_
  intro C hse hret hname hF hO
  subst hse
  refine am_go hF sgX6_send_0_8bcf7 2 [(0, .ref 465), (1, .int (nI p)), (2, .int (nI l)), (3, .int z), (4, .int (-1))] [.int (nI p), .ref 465] sgX6_send_0_8bcf7d rfl ?_
  refine am_dS hF hO [.int (nI p)] [.ref 465] (c_isPerson_t (show p < 16 by omega) rfl) myX6_isPerson syX6_isPerson lm_RX6_118 rfl 0 0 ⟨Nat.le_of_ble_eq_true rfl, Nat.le_of_ble_eq_true rfl⟩ ⟨Nat.le_of_ble_eq_true rfl, Nat.le_of_ble_eq_true rfl, Nat.le_of_ble_eq_true rfl, Nat.le_of_ble_eq_true rfl⟩ rfl (am_lv_ref (hp_m _ _ _) (am_lv_int (am_lv_int (am_lv_int (am_lv_int (am_lv_ref (hp_m _ _ _) am_lv_nil)))))) (Nat.le_of_ble_eq_true rfl) dX6_send_2 [.int 1, .ref 465] rfl ?_
  refine am_ifeq hF 31 dX6_send_5 (by decide) (fun h9 => False.elim ((by revert h9; decide))) (fun _ => ?_)
  refine am_go hF sgX6_send_8_78e74 10 [(0, .ref 465), (1, .int (nI p)), (2, .int (nI l)), (3, .int z), (4, .int (-1))] [.int (nI l), .ref 465, .ref 465] sgX6_send_8_78e74d rfl ?_
  refine am_dV hF hO [.int (nI l)] [.ref 465] (c_isList_t (S := S) hn hn10 (show l < n by omega) rfl) myX6_isList vyX6_isList lm_RX6_122 (hp_m _ _ _) rfl rfl 0 0 ⟨Nat.le_of_ble_eq_true rfl, Nat.le_of_ble_eq_true rfl⟩ ⟨Nat.le_of_ble_eq_true rfl, Nat.le_of_ble_eq_true rfl, Nat.le_of_ble_eq_true rfl, Nat.le_of_ble_eq_true rfl⟩ rfl (am_lv_ref (hp_m _ _ _) (am_lv_int (am_lv_int (am_lv_int (am_lv_int (am_lv_ref (hp_m _ _ _) am_lv_nil)))))) (Nat.le_of_ble_eq_true rfl) dX6_send_10 [.int 1, .ref 465] rfl ?_
  refine am_ifeq hF 31 dX6_send_13 (by decide) (fun h9 => False.elim ((by revert h9; decide))) (fun _ => ?_)
  refine am_go hF sgX6_send_16_1c478 19 [(0, .ref 465), (1, .int (nI p)), (2, .int (nI l)), (3, .int z), (4, .int (-1))] [.int (-1), .ref 465, .ref 465] sgX6_send_16_1c478d rfl ?_
  refine am_dV hF hO [.int (-1)] [.ref 465] (c_isMail_f (S := S) hm hm80 (Or.inl (by decide))) myX6_isMail vyX6_isMail lm_RX6_161 (hp_m _ _ _) rfl rfl 0 0 ⟨Nat.le_of_ble_eq_true rfl, Nat.le_of_ble_eq_true rfl⟩ ⟨Nat.le_of_ble_eq_true rfl, Nat.le_of_ble_eq_true rfl, Nat.le_of_ble_eq_true rfl, Nat.le_of_ble_eq_true rfl⟩ rfl (am_lv_ref (hp_m _ _ _) (am_lv_int (am_lv_int (am_lv_int (am_lv_int (am_lv_ref (hp_m _ _ _) am_lv_nil)))))) (Nat.le_of_ble_eq_true rfl) dX6_send_19 [.int 0, .ref 465] rfl ?_
  refine am_ifne hF 35 dX6_send_22 (by decide) (fun h9 => False.elim ((by revert h9; decide))) (fun _ => ?_)
  refine am_go hF sgX6_send_25_5b727 28 [(0, .ref 465), (1, .int (nI p)), (2, .int (nI l)), (3, .int z), (4, .int (-1))] [.int (-1), .int (-1), .ref 465] sgX6_send_25_5b727d rfl ?_
  refine am_icmpeq hF 35 dX6_send_28 (by decide) (fun _ => ?_) (fun h9 => False.elim ((by revert h9; decide)))
  refine am_go hF sgX6_send_35_fee27 37 [(0, .ref 465), (1, .int (nI p)), (2, .int (nI l)), (3, .int z), (4, .int (-1))] [.int 0, .int z, .ref 465] sgX6_send_35_fee27d rfl ?_
  refine am_ldc hF 1048575 (List.mem_cons_of_mem _ lk_RX6_164) dX6_send_37 ?_
  refine am_dS hF hO [.int z, .int 0, .int 1048575] [.ref 465] (c_isIn_t hz1 hz2) myX6_isIn syX6_isIn lm_RX6_108 rfl 0 0 ⟨Nat.le_of_ble_eq_true rfl, Nat.le_of_ble_eq_true rfl⟩ ⟨Nat.le_of_ble_eq_true rfl, Nat.le_of_ble_eq_true rfl, Nat.le_of_ble_eq_true rfl, Nat.le_of_ble_eq_true rfl⟩ rfl (am_lv_ref (hp_m _ _ _) (am_lv_int (am_lv_int (am_lv_int (am_lv_int (am_lv_ref (hp_m _ _ _) am_lv_nil)))))) (Nat.le_of_ble_eq_true rfl) dX6_send_39 [.int 1, .ref 465] rfl ?_
  refine am_ifeq hF 49 dX6_send_42 (by decide) (fun h9 => False.elim ((by revert h9; decide))) (fun _ => ?_)
  refine am_go hF sgX6_send_45_1cbe9 50 [(0, .ref 465), (1, .int (nI p)), (2, .int (nI l)), (3, .int z), (4, .int (-1))] [.int 0, .ref 465] sgX6_send_45_1cbe9d rfl ?_
  refine sv_put hF 0 (by decide) rfl rfl rfl lf_RX6_104 dX6_send_50 ?_
  refine am_go hF sgX6_send_53_34db8 54 [(0, .ref 465), (1, .int (nI p)), (2, .int (nI l)), (3, .int z), (4, .int (-1))] [.ref 465] sgX6_send_53_34db8d rfl ?_
  refine sv_get hF 0 (by decide) rfl lf_RX6_104 (.int 0) rfl dX6_send_54 ?_
  refine am_ifle hF 62 dX6_send_57 (by decide) (fun _ => ?_) (fun h9 => False.elim ((by revert h9; decide)))
  refine am_go hF sgX6_send_62_c81f7 64 [(0, .ref 465), (1, .int (nI p)), (2, .int (nI l)), (3, .int z), (4, .int (-1))] [.ref 465, .ref 465] sgX6_send_62_c81f7d rfl ?_
  refine sv_get hF 17 (by decide) rfl lf_RX6_115 (.int (S 17 0)) rfl dX6_send_64 ?_
  refine am_top (nI m) hm ?_
  refine am_go hF sgX6_send_67_1fd2c 69 [(0, .ref 465), (1, .int (nI p)), (2, .int (nI l)), (3, .int z), (4, .int (-1))] [.int 80, .int (nI m), .ref 465] sgX6_send_67_1fd2cd rfl ?_
  refine am_icmpne hF 76 dX6_send_69 (by decide) (fun _ => ?_) (fun h9 => False.elim (absurd h9 (nc_ne (show m ≠ 80 by omega) (by omega) (by omega) rfl rfl)))
  refine am_go hF sgX6_send_76_56c54 77 [(0, .ref 465), (1, .int (nI p)), (2, .int (nI l)), (3, .int z), (4, .int (-1))] [.int 0, .ref 465] sgX6_send_76_56c54d rfl ?_
  refine sv_put hF 0 (by decide) rfl rfl rfl lf_RX6_104 dX6_send_77 ?_
  refine am_go hF sgX6_send_80_34db8 81 [(0, .ref 465), (1, .int (nI p)), (2, .int (nI l)), (3, .int z), (4, .int (-1))] [.ref 465] sgX6_send_80_34db8d rfl ?_
  refine sv_get hF 0 (by decide) rfl lf_RX6_104 (.int 0) rfl dX6_send_81 ?_
  refine am_ifle hF 89 dX6_send_84 (by decide) (fun _ => ?_) (fun h9 => False.elim ((by revert h9; decide)))
  refine am_go hF sgX6_send_89_da752 91 [(0, .ref 465), (1, .int (nI p)), (2, .int (nI l)), (3, .int z), (4, .int (-1))] [.ref 465, .ref 465] sgX6_send_89_da752d rfl ?_
  refine sv_get hF 2 (by decide) rfl lf_RX6_150 (.int (S 2 0)) rfl dX6_send_91 ?_
  refine am_go hF sgX6_send_94_c7176 96 [(0, .ref 465), (1, .int (nI p)), (2, .int (nI l)), (3, .int z), (4, .int (-1))] [.int ((S 2 0) + 1), .ref 465] sgX6_send_94_c7176d rfl ?_
  refine sv_put hF 2 (by decide) rfl rfl rfl lf_RX6_150 dX6_send_96 ?_
  refine am_go hF sgX6_send_99_34db8 100 [(0, .ref 465), (1, .int (nI p)), (2, .int (nI l)), (3, .int z), (4, .int (-1))] [.ref 465] sgX6_send_99_34db8d rfl ?_
  refine sv_get hF 18 (by decide) rfl lf_RX6_50 (.ref 518) rfl dX6_send_100 ?_
  refine am_go hF sgX6_send_103_34db8 104 [(0, .ref 465), (1, .int (nI p)), (2, .int (nI l)), (3, .int z), (4, .int (-1))] [.ref 465, .ref 518] sgX6_send_103_34db8d rfl ?_
  refine sv_get hF 17 (by decide) rfl lf_RX6_115 (.int (S 17 0)) rfl dX6_send_104 ?_
  refine am_top (nI m) hm ?_
  refine am_go hF sgX6_send_107_840bf 108 [(0, .ref 465), (1, .int (nI p)), (2, .int (nI l)), (3, .int z), (4, .int (-1))] [.int (nI p), .int (nI m), .ref 518] sgX6_send_107_840bfd rfl ?_
  refine sv_iast hF 18 (by decide) ⟨rfl, rfl, by decide⟩ m rfl (show m < 80 by omega) dX6_send_108 ?_
  refine am_go hF sgX6_send_109_34db8 110 [(0, .ref 465), (1, .int (nI p)), (2, .int (nI l)), (3, .int z), (4, .int (-1))] [.ref 465] sgX6_send_109_34db8d rfl ?_
  refine sv_get hF 19 (by decide) rfl lf_RX6_53 (.ref 519) rfl dX6_send_110 ?_
  refine am_go hF sgX6_send_113_34db8 114 [(0, .ref 465), (1, .int (nI p)), (2, .int (nI l)), (3, .int z), (4, .int (-1))] [.ref 465, .ref 519] sgX6_send_113_34db8d rfl ?_
  refine sv_get hF 17 (by decide) rfl lf_RX6_115 (.int (S 17 0)) rfl dX6_send_114 ?_
  refine am_top (nI m) hm ?_
  refine am_go hF sgX6_send_117_f8a59 118 [(0, .ref 465), (1, .int (nI p)), (2, .int (nI l)), (3, .int z), (4, .int (-1))] [.int (nI l), .int (nI m), .ref 519] sgX6_send_117_f8a59d rfl ?_
  refine sv_iast hF 19 (by decide) ⟨rfl, rfl, by decide⟩ m rfl (show m < 80 by omega) dX6_send_118 ?_
  refine am_go hF sgX6_send_119_34db8 120 [(0, .ref 465), (1, .int (nI p)), (2, .int (nI l)), (3, .int z), (4, .int (-1))] [.ref 465] sgX6_send_119_34db8d rfl ?_
  refine sv_get hF 20 (by decide) rfl lf_RX6_56 (.ref 520) rfl dX6_send_120 ?_
  refine am_go hF sgX6_send_123_34db8 124 [(0, .ref 465), (1, .int (nI p)), (2, .int (nI l)), (3, .int z), (4, .int (-1))] [.ref 465, .ref 520] sgX6_send_123_34db8d rfl ?_
  refine sv_get hF 17 (by decide) rfl lf_RX6_115 (.int (S 17 0)) rfl dX6_send_124 ?_
  refine am_top (nI m) hm ?_
  refine am_go hF sgX6_send_127_34db8 128 [(0, .ref 465), (1, .int (nI p)), (2, .int (nI l)), (3, .int z), (4, .int (-1))] [.ref 465, .int (nI m), .ref 520] sgX6_send_127_34db8d rfl ?_
  refine sv_get hF 1 (by decide) rfl lf_RX6_147 (.int (S 1 0)) rfl dX6_send_128 ?_
  refine am_top (nI t) ht ?_
  refine sv_iast hF 20 (by decide) ⟨rfl, rfl, by decide⟩ m rfl (show m < 80 by omega) dX6_send_131 ?_
  refine am_go hF sgX6_send_132_34db8 133 [(0, .ref 465), (1, .int (nI p)), (2, .int (nI l)), (3, .int z), (4, .int (-1))] [.ref 465] sgX6_send_132_34db8d rfl ?_
  refine sv_get hF 21 (by decide) rfl lf_RX6_59 (.ref 521) rfl dX6_send_133 ?_
  refine am_go hF sgX6_send_136_34db8 137 [(0, .ref 465), (1, .int (nI p)), (2, .int (nI l)), (3, .int z), (4, .int (-1))] [.ref 465, .ref 521] sgX6_send_136_34db8d rfl ?_
  refine sv_get hF 17 (by decide) rfl lf_RX6_115 (.int (S 17 0)) rfl dX6_send_137 ?_
  refine am_top (nI m) hm ?_
  refine am_go hF sgX6_send_140_34db8 141 [(0, .ref 465), (1, .int (nI p)), (2, .int (nI l)), (3, .int z), (4, .int (-1))] [.ref 465, .int (nI m), .ref 521] sgX6_send_140_34db8d rfl ?_
  refine sv_get hF 1 (by decide) rfl lf_RX6_147 (.int (S 1 0)) rfl dX6_send_141 ?_
  refine am_top (nI t) ht ?_
  refine am_go hF sgX6_send_144_34db8 145 [(0, .ref 465), (1, .int (nI p)), (2, .int (nI l)), (3, .int z), (4, .int (-1))] [.ref 465, .int (nI t), .int (nI m), .ref 521] sgX6_send_144_34db8d rfl ?_
  refine sv_get hF 12 (by decide) rfl lf_RX6_34 (.ref 512) rfl dX6_send_145 ?_
  refine am_go hF sgX6_send_148_f8a59 149 [(0, .ref 465), (1, .int (nI p)), (2, .int (nI l)), (3, .int z), (4, .int (-1))] [.int (nI l), .ref 512, .int (nI t), .int (nI m), .ref 521] sgX6_send_148_f8a59d rfl ?_
  refine sv_iald hF 12 (by decide) ⟨rfl, rfl, by decide⟩ l rfl (show l < 10 by omega) dX6_send_149 ?_
  refine am_top (S 12 l) rfl ?_
  refine am_go hF sgX6_send_150_830a0 151 [(0, .ref 465), (1, .int (nI p)), (2, .int (nI l)), (3, .int z), (4, .int (-1))] [.int ((nI t) + (S 12 l)), .int (nI m), .ref 521] sgX6_send_150_830a0d rfl ?_
  refine sv_iast hF 21 (by decide) ⟨rfl, rfl, by decide⟩ m rfl (show m < 80 by omega) dX6_send_151 ?_
  refine am_eqX (hp T (rSdA S m p l t) o) rfl ?_
  refine am_go hF sgX6_send_152_34db8 153 [(0, .ref 465), (1, .int (nI p)), (2, .int (nI l)), (3, .int z), (4, .int (-1))] [.ref 465] sgX6_send_152_34db8d rfl ?_
  refine sv_get hF 22 (by decide) rfl lf_RX6_62 (.ref 522) rfl dX6_send_153 ?_
  refine am_go hF sgX6_send_156_34db8 157 [(0, .ref 465), (1, .int (nI p)), (2, .int (nI l)), (3, .int z), (4, .int (-1))] [.ref 465, .ref 522] sgX6_send_156_34db8d rfl ?_
  refine sv_get hF 17 (by decide) rfl lf_RX6_115 (.int ((rSdA S m p l t) 17 0)) rfl dX6_send_157 ?_
  refine am_top (nI m) hm ?_
  refine am_go hF sgX6_send_160_08e16 165 [(0, .ref 465), (1, .int (nI p)), (2, .int (nI l)), (3, .int z), (4, .int (-1))] [.int (-1), .int z, .int (nI p), .ref 465, .int (nI m), .ref 522] sgX6_send_160_08e16d rfl ?_
  refine am_dV hF hO [.int (nI p), .int z, .int (-1)] [.int (nI m), .ref 522] (c_scoreOf_n (S := (rSdA S m p l t)) hm hm80 (by omega)) myX6_scoreOf vyX6_scoreOf lm_RX6_165 (hp_m _ _ _) rfl rfl 0 0 ⟨Nat.le_of_ble_eq_true rfl, Nat.le_of_ble_eq_true rfl⟩ ⟨Nat.le_of_ble_eq_true rfl, Nat.le_of_ble_eq_true rfl, Nat.le_of_ble_eq_true rfl, Nat.le_of_ble_eq_true rfl⟩ rfl (am_lv_ref (hp_m _ _ _) (am_lv_int (am_lv_int (am_lv_int (am_lv_int (am_lv_int (am_lv_ref (hp_a _ _ _ (f := 22) (by decide) rfl) am_lv_nil))))))) (Nat.le_of_ble_eq_true rfl) dX6_send_165 [.int (rSum (rSdA S m p l t) m p z), .int (nI m), .ref 522] rfl ?_
  refine sv_iast hF 22 (by decide) ⟨rfl, rfl, by decide⟩ m rfl (show m < 80 by omega) dX6_send_168 ?_
  refine am_go hF sgX6_send_169_34db8 170 [(0, .ref 465), (1, .int (nI p)), (2, .int (nI l)), (3, .int z), (4, .int (-1))] [.ref 465] sgX6_send_169_34db8d rfl ?_
  refine sv_get hF 23 (by decide) rfl lf_RX6_65 (.ref 523) rfl dX6_send_170 ?_
  refine am_go hF sgX6_send_173_34db8 174 [(0, .ref 465), (1, .int (nI p)), (2, .int (nI l)), (3, .int z), (4, .int (-1))] [.ref 465, .ref 523] sgX6_send_173_34db8d rfl ?_
  refine sv_get hF 17 (by decide) rfl lf_RX6_115 (.int ((rSdA S m p l t) 17 0)) rfl dX6_send_174 ?_
  refine am_top (nI m) hm ?_
  refine am_go hF sgX6_send_177_ce32f 181 [(0, .ref 465), (1, .int (nI p)), (2, .int (nI l)), (3, .int z), (4, .int (-1))] [.ref 465, .int (nI l), .int (nI p), .ref 465, .int (nI m), .ref 523] sgX6_send_177_ce32fd rfl ?_
  refine sv_get hF 22 (by decide) rfl lf_RX6_62 (.ref 522) rfl dX6_send_181 ?_
  refine am_go hF sgX6_send_184_34db8 185 [(0, .ref 465), (1, .int (nI p)), (2, .int (nI l)), (3, .int z), (4, .int (-1))] [.ref 465, .ref 522, .int (nI l), .int (nI p), .ref 465, .int (nI m), .ref 523] sgX6_send_184_34db8d rfl ?_
  refine sv_get hF 17 (by decide) rfl lf_RX6_115 (.int ((rSdA S m p l t) 17 0)) rfl dX6_send_185 ?_
  refine am_top (nI m) hm ?_
  refine sv_iald hF 22 (by decide) ⟨rfl, rfl, by decide⟩ m rfl (show m < 80 by omega) dX6_send_188 ?_
  refine am_top (rSum (rSdA S m p l t) m p z) (st1_same (rSdA S m p l t) 22 m (rSum (rSdA S m p l t) m p z)) ?_
  refine am_dV hF hO [.int (nI p), .int (nI l), .int (rSum (rSdA S m p l t) m p z)] [.int (nI m), .ref 523] (c_causeOf (S := (st1 (rSdA S m p l t) 22 m (rSum (rSdA S m p l t) m p z))) hn hn10 (by omega) (by omega)) myX6_causeOf vyX6_causeOf lm_RX6_168 (hp_m _ _ _) rfl rfl 0 0 ⟨Nat.le_of_ble_eq_true rfl, Nat.le_of_ble_eq_true rfl⟩ ⟨Nat.le_of_ble_eq_true rfl, Nat.le_of_ble_eq_true rfl, Nat.le_of_ble_eq_true rfl, Nat.le_of_ble_eq_true rfl⟩ rfl (am_lv_ref (hp_m _ _ _) (am_lv_int (am_lv_int (am_lv_int (am_lv_int (am_lv_int (am_lv_ref (hp_a _ _ _ (f := 23) (by decide) rfl) am_lv_nil))))))) (Nat.le_of_ble_eq_true rfl) dX6_send_189 [.int (rCause (st1 (rSdA S m p l t) 22 m (rSum (rSdA S m p l t) m p z)) n p l (rSum (rSdA S m p l t) m p z)), .int (nI m), .ref 523] rfl ?_
  refine sv_iast hF 23 (by decide) ⟨rfl, rfl, by decide⟩ m rfl (show m < 80 by omega) dX6_send_192 ?_
  refine am_go hF sgX6_send_193_34db8 194 [(0, .ref 465), (1, .int (nI p)), (2, .int (nI l)), (3, .int z), (4, .int (-1))] [.ref 465] sgX6_send_193_34db8d rfl ?_
  refine sv_get hF 24 (by decide) rfl lf_RX6_68 (.ref 524) rfl dX6_send_194 ?_
  refine am_go hF sgX6_send_197_34db8 198 [(0, .ref 465), (1, .int (nI p)), (2, .int (nI l)), (3, .int z), (4, .int (-1))] [.ref 465, .ref 524] sgX6_send_197_34db8d rfl ?_
  refine sv_get hF 17 (by decide) rfl lf_RX6_115 (.int ((rSdA S m p l t) 17 0)) rfl dX6_send_198 ?_
  refine am_top (nI m) hm ?_
  refine am_go hF sgX6_send_201_4de0a 202 [(0, .ref 465), (1, .int (nI p)), (2, .int (nI l)), (3, .int z), (4, .int (-1))] [.int 1, .int (nI m), .ref 524] sgX6_send_201_4de0ad rfl ?_
  refine sv_iast hF 24 (by decide) ⟨rfl, rfl, by decide⟩ m rfl (show m < 80 by omega) dX6_send_202 ?_
  refine am_go hF sgX6_send_203_da752 205 [(0, .ref 465), (1, .int (nI p)), (2, .int (nI l)), (3, .int z), (4, .int (-1))] [.ref 465, .ref 465] sgX6_send_203_da752d rfl ?_
  refine sv_get hF 17 (by decide) rfl lf_RX6_115 (.int ((rSdA S m p l t) 17 0)) rfl dX6_send_205 ?_
  refine am_top (nI m) hm ?_
  refine am_go hF sgX6_send_208_c7176 210 [(0, .ref 465), (1, .int (nI p)), (2, .int (nI l)), (3, .int z), (4, .int (-1))] [.int ((nI m) + 1), .ref 465] sgX6_send_208_c7176d rfl ?_
  refine sv_put hF 17 (by decide) rfl rfl rfl lf_RX6_115 dX6_send_210 ?_
  refine am_eqX (hp T (rSdB S m p l t (rSum (rSdA S m p l t) m p z) cs) o) (by rw [← hcs]; rfl) ?_
  refine am_go hF sgX6_send_213_34db8 214 [(0, .ref 465), (1, .int (nI p)), (2, .int (nI l)), (3, .int z), (4, .int (-1))] [.ref 465] sgX6_send_213_34db8d rfl ?_
  refine sv_get hF 23 (by decide) rfl lf_RX6_65 (.ref 523) rfl dX6_send_214 ?_
  refine am_go hF sgX6_send_217_34db8 218 [(0, .ref 465), (1, .int (nI p)), (2, .int (nI l)), (3, .int z), (4, .int (-1))] [.ref 465, .ref 523] sgX6_send_217_34db8d rfl ?_
  refine sv_get hF 17 (by decide) rfl lf_RX6_115 (.int ((rSdB S m p l t (rSum (rSdA S m p l t) m p z) cs) 17 0)) rfl dX6_send_218 ?_
  refine am_top (nI (m + 1)) (nI_1 m) ?_
  refine am_go hF sgX6_send_221_d80e0 223 [(0, .ref 465), (1, .int (nI p)), (2, .int (nI l)), (3, .int z), (4, .int (-1))] [.int ((nI (m + 1)) - 1), .ref 523] sgX6_send_221_d80e0d rfl ?_
  refine sv_iald hF 23 (by decide) ⟨rfl, rfl, by decide⟩ m (am_s1 rfl) (show m < 80 by omega) dX6_send_223 ?_
  refine am_top cs (st1_same _ 23 m _) ?_
  refine am_go hF sgX6_send_224_5ff24 225 [(0, .ref 465), (1, .int (nI p)), (2, .int (nI l)), (3, .int z), (4, .int (-1))] [.int (-1), .int cs] sgX6_send_224_5ff24d rfl ?_
  refine am_icmpne hF 238 dX6_send_225 (by decide) (fun _ => ?_) (fun h9 => False.elim (absurd h9 hcn))
  refine am_go hF sgX6_send_238_34db8 239 [(0, .ref 465), (1, .int (nI p)), (2, .int (nI l)), (3, .int z), (4, .int (-1))] [.ref 465] sgX6_send_238_34db8d rfl ?_
  refine sv_get hF 17 (by decide) rfl lf_RX6_115 (.int ((rSdB S m p l t (rSum (rSdA S m p l t) m p z) cs) 17 0)) rfl dX6_send_239 ?_
  refine am_top (nI (m + 1)) (nI_1 m) ?_
  refine am_go hF sgX6_send_242_d80e0 244 [(0, .ref 465), (1, .int (nI p)), (2, .int (nI l)), (3, .int z), (4, .int (-1))] [.int ((nI (m + 1)) - 1)] sgX6_send_242_d80e0d rfl ?_
  refine am_top (nI m) (by rw [nI_pred]) ?_
  exact am_iret hF hO hret rfl dX6_send_244 ⟨rfl, rfl⟩
set_option maxRecDepth 100000 in
set_option maxHeartbeats 4000000 in
theorem c_r_send_7n {G : am_S} {T S : am_T} {o : Nat → Int64} {n : Nat} (hn : S 9 0 = nI n) (hn10 : n ≤ 10) {m : Nat} (hm : S 17 0 = nI m) (hm80 : m ≤ 80) {p l : Nat} (hp9 : p < 16) (hl : l < n) {z : Int32} (hz1 : ¬ z < 0) (hz2 : ¬ 1048575 < z) (h80 : m < 80) {t : Nat} (ht : S 1 0 = nI t) (ht4 : t ≤ 400) (hb7 : ∀ q, q < 16 → ∃ b, b ≤ 10 ∧ S 7 q = nI b) {cs : Int32} (hcs : rCause (st1 (rSdA S m p l t) 22 m (rSum (rSdA S m p l t) m p z)) n p l (rSum (rSdA S m p l t) m p z) = cs) (hcn : cs = -1) : am_D G yX6_send (.code yX6_send cX6_send 5 (some .int) :: am_G) { frames := 4, cells := 0, slots := 0, locals := 98 } (hp T S o) [.ref 465, .int (nI p), .int (nI l), .int z, .int (-1)] (hp T (rPass (rSdB S m p l t (rSum (rSdA S m p l t) m p z) cs) n m l) o) (some (.int (nI m))) := by
  refine am_of (by decide +kernel) (Nat.le_of_ble_eq_true rfl) ?_
  intro C hse hret hname hF hO
  subst hse
  refine am_go hF sgX6_send_0_8bcf7 2 [(0, .ref 465), (1, .int (nI p)), (2, .int (nI l)), (3, .int z), (4, .int (-1))] [.int (nI p), .ref 465] sgX6_send_0_8bcf7d rfl ?_
  refine am_dS hF hO [.int (nI p)] [.ref 465] (c_isPerson_t (show p < 16 by omega) rfl) myX6_isPerson syX6_isPerson lm_RX6_118 rfl 0 0 ⟨Nat.le_of_ble_eq_true rfl, Nat.le_of_ble_eq_true rfl⟩ ⟨Nat.le_of_ble_eq_true rfl, Nat.le_of_ble_eq_true rfl, Nat.le_of_ble_eq_true rfl, Nat.le_of_ble_eq_true rfl⟩ rfl (am_lv_ref (hp_m _ _ _) (am_lv_int (am_lv_int (am_lv_int (am_lv_int (am_lv_ref (hp_m _ _ _) am_lv_nil)))))) (Nat.le_of_ble_eq_true rfl) dX6_send_2 [.int 1, .ref 465] rfl ?_
  refine am_ifeq hF 31 dX6_send_5 (by decide) (fun h9 => False.elim ((by revert h9; decide))) (fun _ => ?_)
  refine am_go hF sgX6_send_8_78e74 10 [(0, .ref 465), (1, .int (nI p)), (2, .int (nI l)), (3, .int z), (4, .int (-1))] [.int (nI l), .ref 465, .ref 465] sgX6_send_8_78e74d rfl ?_
  refine am_dV hF hO [.int (nI l)] [.ref 465] (c_isList_t (S := S) hn hn10 (show l < n by omega) rfl) myX6_isList vyX6_isList lm_RX6_122 (hp_m _ _ _) rfl rfl 0 0 ⟨Nat.le_of_ble_eq_true rfl, Nat.le_of_ble_eq_true rfl⟩ ⟨Nat.le_of_ble_eq_true rfl, Nat.le_of_ble_eq_true rfl, Nat.le_of_ble_eq_true rfl, Nat.le_of_ble_eq_true rfl⟩ rfl (am_lv_ref (hp_m _ _ _) (am_lv_int (am_lv_int (am_lv_int (am_lv_int (am_lv_ref (hp_m _ _ _) am_lv_nil)))))) (Nat.le_of_ble_eq_true rfl) dX6_send_10 [.int 1, .ref 465] rfl ?_
  refine am_ifeq hF 31 dX6_send_13 (by decide) (fun h9 => False.elim ((by revert h9; decide))) (fun _ => ?_)
  refine am_go hF sgX6_send_16_1c478 19 [(0, .ref 465), (1, .int (nI p)), (2, .int (nI l)), (3, .int z), (4, .int (-1))] [.int (-1), .ref 465, .ref 465] sgX6_send_16_1c478d rfl ?_
  refine am_dV hF hO [.int (-1)] [.ref 465] (c_isMail_f (S := S) hm hm80 (Or.inl (by decide))) myX6_isMail vyX6_isMail lm_RX6_161 (hp_m _ _ _) rfl rfl 0 0 ⟨Nat.le_of_ble_eq_true rfl, Nat.le_of_ble_eq_true rfl⟩ ⟨Nat.le_of_ble_eq_true rfl, Nat.le_of_ble_eq_true rfl, Nat.le_of_ble_eq_true rfl, Nat.le_of_ble_eq_true rfl⟩ rfl (am_lv_ref (hp_m _ _ _) (am_lv_int (am_lv_int (am_lv_int (am_lv_int (am_lv_ref (hp_m _ _ _) am_lv_nil)))))) (Nat.le_of_ble_eq_true rfl) dX6_send_19 [.int 0, .ref 465] rfl ?_
  refine am_ifne hF 35 dX6_send_22 (by decide) (fun h9 => False.elim ((by revert h9; decide))) (fun _ => ?_)
  refine am_go hF sgX6_send_25_5b727 28 [(0, .ref 465), (1, .int (nI p)), (2, .int (nI l)), (3, .int z), (4, .int (-1))] [.int (-1), .int (-1), .ref 465] sgX6_send_25_5b727d rfl ?_
  refine am_icmpeq hF 35 dX6_send_28 (by decide) (fun _ => ?_) (fun h9 => False.elim ((by revert h9; decide)))
  refine am_go hF sgX6_send_35_fee27 37 [(0, .ref 465), (1, .int (nI p)), (2, .int (nI l)), (3, .int z), (4, .int (-1))] [.int 0, .int z, .ref 465] sgX6_send_35_fee27d rfl ?_
  refine am_ldc hF 1048575 (List.mem_cons_of_mem _ lk_RX6_164) dX6_send_37 ?_
  refine am_dS hF hO [.int z, .int 0, .int 1048575] [.ref 465] (c_isIn_t hz1 hz2) myX6_isIn syX6_isIn lm_RX6_108 rfl 0 0 ⟨Nat.le_of_ble_eq_true rfl, Nat.le_of_ble_eq_true rfl⟩ ⟨Nat.le_of_ble_eq_true rfl, Nat.le_of_ble_eq_true rfl, Nat.le_of_ble_eq_true rfl, Nat.le_of_ble_eq_true rfl⟩ rfl (am_lv_ref (hp_m _ _ _) (am_lv_int (am_lv_int (am_lv_int (am_lv_int (am_lv_ref (hp_m _ _ _) am_lv_nil)))))) (Nat.le_of_ble_eq_true rfl) dX6_send_39 [.int 1, .ref 465] rfl ?_
  refine am_ifeq hF 49 dX6_send_42 (by decide) (fun h9 => False.elim ((by revert h9; decide))) (fun _ => ?_)
  refine am_go hF sgX6_send_45_1cbe9 50 [(0, .ref 465), (1, .int (nI p)), (2, .int (nI l)), (3, .int z), (4, .int (-1))] [.int 0, .ref 465] sgX6_send_45_1cbe9d rfl ?_
  refine sv_put hF 0 (by decide) rfl rfl rfl lf_RX6_104 dX6_send_50 ?_
  refine am_go hF sgX6_send_53_34db8 54 [(0, .ref 465), (1, .int (nI p)), (2, .int (nI l)), (3, .int z), (4, .int (-1))] [.ref 465] sgX6_send_53_34db8d rfl ?_
  refine sv_get hF 0 (by decide) rfl lf_RX6_104 (.int 0) rfl dX6_send_54 ?_
  refine am_ifle hF 62 dX6_send_57 (by decide) (fun _ => ?_) (fun h9 => False.elim ((by revert h9; decide)))
  refine am_go hF sgX6_send_62_c81f7 64 [(0, .ref 465), (1, .int (nI p)), (2, .int (nI l)), (3, .int z), (4, .int (-1))] [.ref 465, .ref 465] sgX6_send_62_c81f7d rfl ?_
  refine sv_get hF 17 (by decide) rfl lf_RX6_115 (.int (S 17 0)) rfl dX6_send_64 ?_
  refine am_top (nI m) hm ?_
  refine am_go hF sgX6_send_67_1fd2c 69 [(0, .ref 465), (1, .int (nI p)), (2, .int (nI l)), (3, .int z), (4, .int (-1))] [.int 80, .int (nI m), .ref 465] sgX6_send_67_1fd2cd rfl ?_
  refine am_icmpne hF 76 dX6_send_69 (by decide) (fun _ => ?_) (fun h9 => False.elim (absurd h9 (nc_ne (show m ≠ 80 by omega) (by omega) (by omega) rfl rfl)))
  refine am_go hF sgX6_send_76_56c54 77 [(0, .ref 465), (1, .int (nI p)), (2, .int (nI l)), (3, .int z), (4, .int (-1))] [.int 0, .ref 465] sgX6_send_76_56c54d rfl ?_
  refine sv_put hF 0 (by decide) rfl rfl rfl lf_RX6_104 dX6_send_77 ?_
  refine am_go hF sgX6_send_80_34db8 81 [(0, .ref 465), (1, .int (nI p)), (2, .int (nI l)), (3, .int z), (4, .int (-1))] [.ref 465] sgX6_send_80_34db8d rfl ?_
  refine sv_get hF 0 (by decide) rfl lf_RX6_104 (.int 0) rfl dX6_send_81 ?_
  refine am_ifle hF 89 dX6_send_84 (by decide) (fun _ => ?_) (fun h9 => False.elim ((by revert h9; decide)))
  refine am_go hF sgX6_send_89_da752 91 [(0, .ref 465), (1, .int (nI p)), (2, .int (nI l)), (3, .int z), (4, .int (-1))] [.ref 465, .ref 465] sgX6_send_89_da752d rfl ?_
  refine sv_get hF 2 (by decide) rfl lf_RX6_150 (.int (S 2 0)) rfl dX6_send_91 ?_
  refine am_go hF sgX6_send_94_c7176 96 [(0, .ref 465), (1, .int (nI p)), (2, .int (nI l)), (3, .int z), (4, .int (-1))] [.int ((S 2 0) + 1), .ref 465] sgX6_send_94_c7176d rfl ?_
  refine sv_put hF 2 (by decide) rfl rfl rfl lf_RX6_150 dX6_send_96 ?_
  refine am_go hF sgX6_send_99_34db8 100 [(0, .ref 465), (1, .int (nI p)), (2, .int (nI l)), (3, .int z), (4, .int (-1))] [.ref 465] sgX6_send_99_34db8d rfl ?_
  refine sv_get hF 18 (by decide) rfl lf_RX6_50 (.ref 518) rfl dX6_send_100 ?_
  refine am_go hF sgX6_send_103_34db8 104 [(0, .ref 465), (1, .int (nI p)), (2, .int (nI l)), (3, .int z), (4, .int (-1))] [.ref 465, .ref 518] sgX6_send_103_34db8d rfl ?_
  refine sv_get hF 17 (by decide) rfl lf_RX6_115 (.int (S 17 0)) rfl dX6_send_104 ?_
  refine am_top (nI m) hm ?_
  refine am_go hF sgX6_send_107_840bf 108 [(0, .ref 465), (1, .int (nI p)), (2, .int (nI l)), (3, .int z), (4, .int (-1))] [.int (nI p), .int (nI m), .ref 518] sgX6_send_107_840bfd rfl ?_
  refine sv_iast hF 18 (by decide) ⟨rfl, rfl, by decide⟩ m rfl (show m < 80 by omega) dX6_send_108 ?_
  refine am_go hF sgX6_send_109_34db8 110 [(0, .ref 465), (1, .int (nI p)), (2, .int (nI l)), (3, .int z), (4, .int (-1))] [.ref 465] sgX6_send_109_34db8d rfl ?_
  refine sv_get hF 19 (by decide) rfl lf_RX6_53 (.ref 519) rfl dX6_send_110 ?_
  refine am_go hF sgX6_send_113_34db8 114 [(0, .ref 465), (1, .int (nI p)), (2, .int (nI l)), (3, .int z), (4, .int (-1))] [.ref 465, .ref 519] sgX6_send_113_34db8d rfl ?_
  refine sv_get hF 17 (by decide) rfl lf_RX6_115 (.int (S 17 0)) rfl dX6_send_114 ?_
  refine am_top (nI m) hm ?_
  refine am_go hF sgX6_send_117_f8a59 118 [(0, .ref 465), (1, .int (nI p)), (2, .int (nI l)), (3, .int z), (4, .int (-1))] [.int (nI l), .int (nI m), .ref 519] sgX6_send_117_f8a59d rfl ?_
  refine sv_iast hF 19 (by decide) ⟨rfl, rfl, by decide⟩ m rfl (show m < 80 by omega) dX6_send_118 ?_
  refine am_go hF sgX6_send_119_34db8 120 [(0, .ref 465), (1, .int (nI p)), (2, .int (nI l)), (3, .int z), (4, .int (-1))] [.ref 465] sgX6_send_119_34db8d rfl ?_
  refine sv_get hF 20 (by decide) rfl lf_RX6_56 (.ref 520) rfl dX6_send_120 ?_
  refine am_go hF sgX6_send_123_34db8 124 [(0, .ref 465), (1, .int (nI p)), (2, .int (nI l)), (3, .int z), (4, .int (-1))] [.ref 465, .ref 520] sgX6_send_123_34db8d rfl ?_
  refine sv_get hF 17 (by decide) rfl lf_RX6_115 (.int (S 17 0)) rfl dX6_send_124 ?_
  refine am_top (nI m) hm ?_
  refine am_go hF sgX6_send_127_34db8 128 [(0, .ref 465), (1, .int (nI p)), (2, .int (nI l)), (3, .int z), (4, .int (-1))] [.ref 465, .int (nI m), .ref 520] sgX6_send_127_34db8d rfl ?_
  refine sv_get hF 1 (by decide) rfl lf_RX6_147 (.int (S 1 0)) rfl dX6_send_128 ?_
  refine am_top (nI t) ht ?_
  refine sv_iast hF 20 (by decide) ⟨rfl, rfl, by decide⟩ m rfl (show m < 80 by omega) dX6_send_131 ?_
  refine am_go hF sgX6_send_132_34db8 133 [(0, .ref 465), (1, .int (nI p)), (2, .int (nI l)), (3, .int z), (4, .int (-1))] [.ref 465] sgX6_send_132_34db8d rfl ?_
  refine sv_get hF 21 (by decide) rfl lf_RX6_59 (.ref 521) rfl dX6_send_133 ?_
  refine am_go hF sgX6_send_136_34db8 137 [(0, .ref 465), (1, .int (nI p)), (2, .int (nI l)), (3, .int z), (4, .int (-1))] [.ref 465, .ref 521] sgX6_send_136_34db8d rfl ?_
  refine sv_get hF 17 (by decide) rfl lf_RX6_115 (.int (S 17 0)) rfl dX6_send_137 ?_
  refine am_top (nI m) hm ?_
  refine am_go hF sgX6_send_140_34db8 141 [(0, .ref 465), (1, .int (nI p)), (2, .int (nI l)), (3, .int z), (4, .int (-1))] [.ref 465, .int (nI m), .ref 521] sgX6_send_140_34db8d rfl ?_
  refine sv_get hF 1 (by decide) rfl lf_RX6_147 (.int (S 1 0)) rfl dX6_send_141 ?_
  refine am_top (nI t) ht ?_
  refine am_go hF sgX6_send_144_34db8 145 [(0, .ref 465), (1, .int (nI p)), (2, .int (nI l)), (3, .int z), (4, .int (-1))] [.ref 465, .int (nI t), .int (nI m), .ref 521] sgX6_send_144_34db8d rfl ?_
  refine sv_get hF 12 (by decide) rfl lf_RX6_34 (.ref 512) rfl dX6_send_145 ?_
  refine am_go hF sgX6_send_148_f8a59 149 [(0, .ref 465), (1, .int (nI p)), (2, .int (nI l)), (3, .int z), (4, .int (-1))] [.int (nI l), .ref 512, .int (nI t), .int (nI m), .ref 521] sgX6_send_148_f8a59d rfl ?_
  refine sv_iald hF 12 (by decide) ⟨rfl, rfl, by decide⟩ l rfl (show l < 10 by omega) dX6_send_149 ?_
  refine am_top (S 12 l) rfl ?_
  refine am_go hF sgX6_send_150_830a0 151 [(0, .ref 465), (1, .int (nI p)), (2, .int (nI l)), (3, .int z), (4, .int (-1))] [.int ((nI t) + (S 12 l)), .int (nI m), .ref 521] sgX6_send_150_830a0d rfl ?_
  refine sv_iast hF 21 (by decide) ⟨rfl, rfl, by decide⟩ m rfl (show m < 80 by omega) dX6_send_151 ?_
  refine am_eqX (hp T (rSdA S m p l t) o) rfl ?_
  refine am_go hF sgX6_send_152_34db8 153 [(0, .ref 465), (1, .int (nI p)), (2, .int (nI l)), (3, .int z), (4, .int (-1))] [.ref 465] sgX6_send_152_34db8d rfl ?_
  refine sv_get hF 22 (by decide) rfl lf_RX6_62 (.ref 522) rfl dX6_send_153 ?_
  refine am_go hF sgX6_send_156_34db8 157 [(0, .ref 465), (1, .int (nI p)), (2, .int (nI l)), (3, .int z), (4, .int (-1))] [.ref 465, .ref 522] sgX6_send_156_34db8d rfl ?_
  refine sv_get hF 17 (by decide) rfl lf_RX6_115 (.int ((rSdA S m p l t) 17 0)) rfl dX6_send_157 ?_
  refine am_top (nI m) hm ?_
  refine am_go hF sgX6_send_160_08e16 165 [(0, .ref 465), (1, .int (nI p)), (2, .int (nI l)), (3, .int z), (4, .int (-1))] [.int (-1), .int z, .int (nI p), .ref 465, .int (nI m), .ref 522] sgX6_send_160_08e16d rfl ?_
  refine am_dV hF hO [.int (nI p), .int z, .int (-1)] [.int (nI m), .ref 522] (c_scoreOf_n (S := (rSdA S m p l t)) hm hm80 (by omega)) myX6_scoreOf vyX6_scoreOf lm_RX6_165 (hp_m _ _ _) rfl rfl 0 0 ⟨Nat.le_of_ble_eq_true rfl, Nat.le_of_ble_eq_true rfl⟩ ⟨Nat.le_of_ble_eq_true rfl, Nat.le_of_ble_eq_true rfl, Nat.le_of_ble_eq_true rfl, Nat.le_of_ble_eq_true rfl⟩ rfl (am_lv_ref (hp_m _ _ _) (am_lv_int (am_lv_int (am_lv_int (am_lv_int (am_lv_int (am_lv_ref (hp_a _ _ _ (f := 22) (by decide) rfl) am_lv_nil))))))) (Nat.le_of_ble_eq_true rfl) dX6_send_165 [.int (rSum (rSdA S m p l t) m p z), .int (nI m), .ref 522] rfl ?_
  refine sv_iast hF 22 (by decide) ⟨rfl, rfl, by decide⟩ m rfl (show m < 80 by omega) dX6_send_168 ?_
  refine am_go hF sgX6_send_169_34db8 170 [(0, .ref 465), (1, .int (nI p)), (2, .int (nI l)), (3, .int z), (4, .int (-1))] [.ref 465] sgX6_send_169_34db8d rfl ?_
  refine sv_get hF 23 (by decide) rfl lf_RX6_65 (.ref 523) rfl dX6_send_170 ?_
  refine am_go hF sgX6_send_173_34db8 174 [(0, .ref 465), (1, .int (nI p)), (2, .int (nI l)), (3, .int z), (4, .int (-1))] [.ref 465, .ref 523] sgX6_send_173_34db8d rfl ?_
  refine sv_get hF 17 (by decide) rfl lf_RX6_115 (.int ((rSdA S m p l t) 17 0)) rfl dX6_send_174 ?_
  refine am_top (nI m) hm ?_
  refine am_go hF sgX6_send_177_ce32f 181 [(0, .ref 465), (1, .int (nI p)), (2, .int (nI l)), (3, .int z), (4, .int (-1))] [.ref 465, .int (nI l), .int (nI p), .ref 465, .int (nI m), .ref 523] sgX6_send_177_ce32fd rfl ?_
  refine sv_get hF 22 (by decide) rfl lf_RX6_62 (.ref 522) rfl dX6_send_181 ?_
  refine am_go hF sgX6_send_184_34db8 185 [(0, .ref 465), (1, .int (nI p)), (2, .int (nI l)), (3, .int z), (4, .int (-1))] [.ref 465, .ref 522, .int (nI l), .int (nI p), .ref 465, .int (nI m), .ref 523] sgX6_send_184_34db8d rfl ?_
  refine sv_get hF 17 (by decide) rfl lf_RX6_115 (.int ((rSdA S m p l t) 17 0)) rfl dX6_send_185 ?_
  refine am_top (nI m) hm ?_
  refine sv_iald hF 22 (by decide) ⟨rfl, rfl, by decide⟩ m rfl (show m < 80 by omega) dX6_send_188 ?_
  refine am_top (rSum (rSdA S m p l t) m p z) (st1_same (rSdA S m p l t) 22 m (rSum (rSdA S m p l t) m p z)) ?_
  refine am_dV hF hO [.int (nI p), .int (nI l), .int (rSum (rSdA S m p l t) m p z)] [.int (nI m), .ref 523] (c_causeOf (S := (st1 (rSdA S m p l t) 22 m (rSum (rSdA S m p l t) m p z))) hn hn10 (by omega) (by omega)) myX6_causeOf vyX6_causeOf lm_RX6_168 (hp_m _ _ _) rfl rfl 0 0 ⟨Nat.le_of_ble_eq_true rfl, Nat.le_of_ble_eq_true rfl⟩ ⟨Nat.le_of_ble_eq_true rfl, Nat.le_of_ble_eq_true rfl, Nat.le_of_ble_eq_true rfl, Nat.le_of_ble_eq_true rfl⟩ rfl (am_lv_ref (hp_m _ _ _) (am_lv_int (am_lv_int (am_lv_int (am_lv_int (am_lv_int (am_lv_ref (hp_a _ _ _ (f := 23) (by decide) rfl) am_lv_nil))))))) (Nat.le_of_ble_eq_true rfl) dX6_send_189 [.int (rCause (st1 (rSdA S m p l t) 22 m (rSum (rSdA S m p l t) m p z)) n p l (rSum (rSdA S m p l t) m p z)), .int (nI m), .ref 523] rfl ?_
  refine sv_iast hF 23 (by decide) ⟨rfl, rfl, by decide⟩ m rfl (show m < 80 by omega) dX6_send_192 ?_
  refine am_go hF sgX6_send_193_34db8 194 [(0, .ref 465), (1, .int (nI p)), (2, .int (nI l)), (3, .int z), (4, .int (-1))] [.ref 465] sgX6_send_193_34db8d rfl ?_
  refine sv_get hF 24 (by decide) rfl lf_RX6_68 (.ref 524) rfl dX6_send_194 ?_
  refine am_go hF sgX6_send_197_34db8 198 [(0, .ref 465), (1, .int (nI p)), (2, .int (nI l)), (3, .int z), (4, .int (-1))] [.ref 465, .ref 524] sgX6_send_197_34db8d rfl ?_
  refine sv_get hF 17 (by decide) rfl lf_RX6_115 (.int ((rSdA S m p l t) 17 0)) rfl dX6_send_198 ?_
  refine am_top (nI m) hm ?_
  refine am_go hF sgX6_send_201_4de0a 202 [(0, .ref 465), (1, .int (nI p)), (2, .int (nI l)), (3, .int z), (4, .int (-1))] [.int 1, .int (nI m), .ref 524] sgX6_send_201_4de0ad rfl ?_
  refine sv_iast hF 24 (by decide) ⟨rfl, rfl, by decide⟩ m rfl (show m < 80 by omega) dX6_send_202 ?_
  refine am_go hF sgX6_send_203_da752 205 [(0, .ref 465), (1, .int (nI p)), (2, .int (nI l)), (3, .int z), (4, .int (-1))] [.ref 465, .ref 465] sgX6_send_203_da752d rfl ?_
  refine sv_get hF 17 (by decide) rfl lf_RX6_115 (.int ((rSdA S m p l t) 17 0)) rfl dX6_send_205 ?_
  refine am_top (nI m) hm ?_
  refine am_go hF sgX6_send_208_c7176 210 [(0, .ref 465), (1, .int (nI p)), (2, .int (nI l)), (3, .int z), (4, .int (-1))] [.int ((nI m) + 1), .ref 465] sgX6_send_208_c7176d rfl ?_
  refine sv_put hF 17 (by decide) rfl rfl rfl lf_RX6_115 dX6_send_210 ?_
  refine am_eqX (hp T (rSdB S m p l t (rSum (rSdA S m p l t) m p z) cs) o) (by rw [← hcs]; rfl) ?_
  refine am_go hF sgX6_send_213_34db8 214 [(0, .ref 465), (1, .int (nI p)), (2, .int (nI l)), (3, .int z), (4, .int (-1))] [.ref 465] sgX6_send_213_34db8d rfl ?_
  refine sv_get hF 23 (by decide) rfl lf_RX6_65 (.ref 523) rfl dX6_send_214 ?_
  refine am_go hF sgX6_send_217_34db8 218 [(0, .ref 465), (1, .int (nI p)), (2, .int (nI l)), (3, .int z), (4, .int (-1))] [.ref 465, .ref 523] sgX6_send_217_34db8d rfl ?_
  refine sv_get hF 17 (by decide) rfl lf_RX6_115 (.int ((rSdB S m p l t (rSum (rSdA S m p l t) m p z) cs) 17 0)) rfl dX6_send_218 ?_
  refine am_top (nI (m + 1)) (nI_1 m) ?_
  refine am_go hF sgX6_send_221_d80e0 223 [(0, .ref 465), (1, .int (nI p)), (2, .int (nI l)), (3, .int z), (4, .int (-1))] [.int ((nI (m + 1)) - 1), .ref 523] sgX6_send_221_d80e0d rfl ?_
  refine sv_iald hF 23 (by decide) ⟨rfl, rfl, by decide⟩ m (am_s1 rfl) (show m < 80 by omega) dX6_send_223 ?_
  refine am_top cs (st1_same _ 23 m _) ?_
  refine am_go hF sgX6_send_224_5ff24 225 [(0, .ref 465), (1, .int (nI p)), (2, .int (nI l)), (3, .int z), (4, .int (-1))] [.int (-1), .int cs] sgX6_send_224_5ff24d rfl ?_
  refine am_icmpne hF 238 dX6_send_225 (by decide) (fun h9 => False.elim (absurd hcn h9)) (fun _ => ?_)
  refine am_go hF sgX6_send_228_c81f7 230 [(0, .ref 465), (1, .int (nI p)), (2, .int (nI l)), (3, .int z), (4, .int (-1))] [.ref 465, .ref 465] sgX6_send_228_c81f7d rfl ?_
  refine sv_get hF 17 (by decide) rfl lf_RX6_115 (.int ((rSdB S m p l t (rSum (rSdA S m p l t) m p z) cs) 17 0)) rfl dX6_send_230 ?_
  refine am_top (nI (m + 1)) (nI_1 m) ?_
  refine am_go hF sgX6_send_233_d80e0 235 [(0, .ref 465), (1, .int (nI p)), (2, .int (nI l)), (3, .int z), (4, .int (-1))] [.int ((nI (m + 1)) - 1), .ref 465] sgX6_send_233_d80e0d rfl ?_
  refine am_eqS [.int (nI m), .ref 465] (by rw [show ((nI (m + 1)) - 1 : Int32) = nI m from (am_s1 rfl)]) ?_
  refine am_dV hF hO [.int (nI m)] [] (c_passes (S := (rSdB S m p l t (rSum (rSdA S m p l t) m p z) cs)) (n := n) (k := m) (l := l) (d := t) ⟨hn, hn10, hl, (by omega), (st1_same _ 19 m _), (st1_same _ 20 m _), ht4, hb7⟩) myX6_passes vyX6_passes lm_RX6_171 (hp_m _ _ _) rfl rfl 0 0 ⟨Nat.le_of_ble_eq_true rfl, Nat.le_of_ble_eq_true rfl⟩ ⟨Nat.le_of_ble_eq_true rfl, Nat.le_of_ble_eq_true rfl, Nat.le_of_ble_eq_true rfl, Nat.le_of_ble_eq_true rfl⟩ rfl (am_lv_ref (hp_m _ _ _) (am_lv_int (am_lv_int (am_lv_int (am_lv_int am_lv_nil))))) (Nat.le_of_ble_eq_true rfl) dX6_send_235 [] rfl ?_
  refine am_go hF sgX6_send_238_34db8 239 [(0, .ref 465), (1, .int (nI p)), (2, .int (nI l)), (3, .int z), (4, .int (-1))] [.ref 465] sgX6_send_238_34db8d rfl ?_
  refine sv_get hF 17 (by decide) rfl lf_RX6_115 (.int ((rPass (rSdB S m p l t (rSum (rSdA S m p l t) m p z) cs) n m l) 17 0)) rfl dX6_send_239 ?_
  refine am_top (nI (m + 1)) ((congrFun (rPass_f (g := 17) (by decide) (by decide)) 0).trans (nI_1 m)) ?_
  refine am_go hF sgX6_send_242_d80e0 244 [(0, .ref 465), (1, .int (nI p)), (2, .int (nI l)), (3, .int z), (4, .int (-1))] [.int ((nI (m + 1)) - 1)] sgX6_send_242_d80e0d rfl ?_
  refine am_top (nI m) (by rw [nI_pred]) ?_
  exact am_iret hF hO hret rfl dX6_send_244 ⟨rfl, rfl⟩
set_option maxRecDepth 100000 in
set_option maxHeartbeats 4000000 in
theorem c_r_send_4a {G : am_S} {T S : am_T} {o : Nat → Int64} {n : Nat} (hn : S 9 0 = nI n) (hn10 : n ≤ 10) {m : Nat} (hm : S 17 0 = nI m) (hm80 : m ≤ 80) {p l : Nat} (hp9 : p < 16) (hl : l < n) {a : Nat} (ha9 : a < m) {z : Int32} (hz : z < 0 ∨ 1048575 < z) : am_D G yX6_send (.code yX6_send cX6_send 5 (some .int) :: am_G) { frames := 4, cells := 0, slots := 0, locals := 98 } (hp T S o) [.ref 465, .int (nI p), .int (nI l), .int z, .int (nI a)] (hp T (st1 S 0 0 2) o) (some (.int 0)) := by
  refine am_of (by decide +kernel) (Nat.le_of_ble_eq_true rfl) ?_
  intro C hse hret hname hF hO
  subst hse
  refine am_go hF sgX6_send_0_8bcf7 2 [(0, .ref 465), (1, .int (nI p)), (2, .int (nI l)), (3, .int z), (4, .int (nI a))] [.int (nI p), .ref 465] sgX6_send_0_8bcf7d rfl ?_
  refine am_dS hF hO [.int (nI p)] [.ref 465] (c_isPerson_t (show p < 16 by omega) rfl) myX6_isPerson syX6_isPerson lm_RX6_118 rfl 0 0 ⟨Nat.le_of_ble_eq_true rfl, Nat.le_of_ble_eq_true rfl⟩ ⟨Nat.le_of_ble_eq_true rfl, Nat.le_of_ble_eq_true rfl, Nat.le_of_ble_eq_true rfl, Nat.le_of_ble_eq_true rfl⟩ rfl (am_lv_ref (hp_m _ _ _) (am_lv_int (am_lv_int (am_lv_int (am_lv_int (am_lv_ref (hp_m _ _ _) am_lv_nil)))))) (Nat.le_of_ble_eq_true rfl) dX6_send_2 [.int 1, .ref 465] rfl ?_
  refine am_ifeq hF 31 dX6_send_5 (by decide) (fun h9 => False.elim ((by revert h9; decide))) (fun _ => ?_)
  refine am_go hF sgX6_send_8_78e74 10 [(0, .ref 465), (1, .int (nI p)), (2, .int (nI l)), (3, .int z), (4, .int (nI a))] [.int (nI l), .ref 465, .ref 465] sgX6_send_8_78e74d rfl ?_
  refine am_dV hF hO [.int (nI l)] [.ref 465] (c_isList_t (S := S) hn hn10 (show l < n by omega) rfl) myX6_isList vyX6_isList lm_RX6_122 (hp_m _ _ _) rfl rfl 0 0 ⟨Nat.le_of_ble_eq_true rfl, Nat.le_of_ble_eq_true rfl⟩ ⟨Nat.le_of_ble_eq_true rfl, Nat.le_of_ble_eq_true rfl, Nat.le_of_ble_eq_true rfl, Nat.le_of_ble_eq_true rfl⟩ rfl (am_lv_ref (hp_m _ _ _) (am_lv_int (am_lv_int (am_lv_int (am_lv_int (am_lv_ref (hp_m _ _ _) am_lv_nil)))))) (Nat.le_of_ble_eq_true rfl) dX6_send_10 [.int 1, .ref 465] rfl ?_
  refine am_ifeq hF 31 dX6_send_13 (by decide) (fun h9 => False.elim ((by revert h9; decide))) (fun _ => ?_)
  refine am_go hF sgX6_send_16_1c478 19 [(0, .ref 465), (1, .int (nI p)), (2, .int (nI l)), (3, .int z), (4, .int (nI a))] [.int (nI a), .ref 465, .ref 465] sgX6_send_16_1c478d rfl ?_
  refine am_dV hF hO [.int (nI a)] [.ref 465] (c_isMail_t (S := S) hm hm80 (show a < m by omega) rfl) myX6_isMail vyX6_isMail lm_RX6_161 (hp_m _ _ _) rfl rfl 0 0 ⟨Nat.le_of_ble_eq_true rfl, Nat.le_of_ble_eq_true rfl⟩ ⟨Nat.le_of_ble_eq_true rfl, Nat.le_of_ble_eq_true rfl, Nat.le_of_ble_eq_true rfl, Nat.le_of_ble_eq_true rfl⟩ rfl (am_lv_ref (hp_m _ _ _) (am_lv_int (am_lv_int (am_lv_int (am_lv_int (am_lv_ref (hp_m _ _ _) am_lv_nil)))))) (Nat.le_of_ble_eq_true rfl) dX6_send_19 [.int 1, .ref 465] rfl ?_
  refine am_ifne hF 35 dX6_send_22 (by decide) (fun _ => ?_) (fun h9 => False.elim ((by revert h9; decide)))
  refine am_go hF sgX6_send_35_fee27 37 [(0, .ref 465), (1, .int (nI p)), (2, .int (nI l)), (3, .int z), (4, .int (nI a))] [.int 0, .int z, .ref 465] sgX6_send_35_fee27d rfl ?_
  refine am_ldc hF 1048575 (List.mem_cons_of_mem _ lk_RX6_164) dX6_send_37 ?_
  refine am_dS hF hO [.int z, .int 0, .int 1048575] [.ref 465] (c_isIn_f hz) myX6_isIn syX6_isIn lm_RX6_108 rfl 0 0 ⟨Nat.le_of_ble_eq_true rfl, Nat.le_of_ble_eq_true rfl⟩ ⟨Nat.le_of_ble_eq_true rfl, Nat.le_of_ble_eq_true rfl, Nat.le_of_ble_eq_true rfl, Nat.le_of_ble_eq_true rfl⟩ rfl (am_lv_ref (hp_m _ _ _) (am_lv_int (am_lv_int (am_lv_int (am_lv_int (am_lv_ref (hp_m _ _ _) am_lv_nil)))))) (Nat.le_of_ble_eq_true rfl) dX6_send_39 [.int 0, .ref 465] rfl ?_
  refine am_ifeq hF 49 dX6_send_42 (by decide) (fun _ => ?_) (fun h9 => False.elim ((by revert h9; decide)))
  refine am_go hF sgX6_send_49_d5620 50 [(0, .ref 465), (1, .int (nI p)), (2, .int (nI l)), (3, .int z), (4, .int (nI a))] [.int 2, .ref 465] sgX6_send_49_d5620d rfl ?_
  refine sv_put hF 0 (by decide) rfl rfl rfl lf_RX6_104 dX6_send_50 ?_
  refine am_go hF sgX6_send_53_34db8 54 [(0, .ref 465), (1, .int (nI p)), (2, .int (nI l)), (3, .int z), (4, .int (nI a))] [.ref 465] sgX6_send_53_34db8d rfl ?_
  refine sv_get hF 0 (by decide) rfl lf_RX6_104 (.int 2) rfl dX6_send_54 ?_
  refine am_ifle hF 62 dX6_send_57 (by decide) (fun h9 => False.elim ((by revert h9; decide))) (fun _ => ?_)
  refine am_go hF sgX6_send_60_56c54 61 [(0, .ref 465), (1, .int (nI p)), (2, .int (nI l)), (3, .int z), (4, .int (nI a))] [.int 0] sgX6_send_60_56c54d rfl ?_
  exact am_iret hF hO hret rfl dX6_send_61 ⟨rfl, rfl⟩
set_option maxRecDepth 100000 in
set_option maxHeartbeats 4000000 in
theorem c_r_send_5a {G : am_S} {T S : am_T} {o : Nat → Int64} {n : Nat} (hn : S 9 0 = nI n) (hn10 : n ≤ 10) {m : Nat} (hm : S 17 0 = nI m) (hm80 : m ≤ 80) {p l : Nat} (hp9 : p < 16) (hl : l < n) {a : Nat} (ha9 : a < m) {z : Int32} (hz1 : ¬ z < 0) (hz2 : ¬ 1048575 < z) (h80 : m = 80) : am_D G yX6_send (.code yX6_send cX6_send 5 (some .int) :: am_G) { frames := 4, cells := 0, slots := 0, locals := 98 } (hp T S o) [.ref 465, .int (nI p), .int (nI l), .int z, .int (nI a)] (hp T (st1 (st1 S 0 0 0) 0 0 3) o) (some (.int 0)) := by
  refine am_of (by decide +kernel) (Nat.le_of_ble_eq_true rfl) ?_
  intro C hse hret hname hF hO
  subst hse
  refine am_go hF sgX6_send_0_8bcf7 2 [(0, .ref 465), (1, .int (nI p)), (2, .int (nI l)), (3, .int z), (4, .int (nI a))] [.int (nI p), .ref 465] sgX6_send_0_8bcf7d rfl ?_
  refine am_dS hF hO [.int (nI p)] [.ref 465] (c_isPerson_t (show p < 16 by omega) rfl) myX6_isPerson syX6_isPerson lm_RX6_118 rfl 0 0 ⟨Nat.le_of_ble_eq_true rfl, Nat.le_of_ble_eq_true rfl⟩ ⟨Nat.le_of_ble_eq_true rfl, Nat.le_of_ble_eq_true rfl, Nat.le_of_ble_eq_true rfl, Nat.le_of_ble_eq_true rfl⟩ rfl (am_lv_ref (hp_m _ _ _) (am_lv_int (am_lv_int (am_lv_int (am_lv_int (am_lv_ref (hp_m _ _ _) am_lv_nil)))))) (Nat.le_of_ble_eq_true rfl) dX6_send_2 [.int 1, .ref 465] rfl ?_
  refine am_ifeq hF 31 dX6_send_5 (by decide) (fun h9 => False.elim ((by revert h9; decide))) (fun _ => ?_)
  refine am_go hF sgX6_send_8_78e74 10 [(0, .ref 465), (1, .int (nI p)), (2, .int (nI l)), (3, .int z), (4, .int (nI a))] [.int (nI l), .ref 465, .ref 465] sgX6_send_8_78e74d rfl ?_
  refine am_dV hF hO [.int (nI l)] [.ref 465] (c_isList_t (S := S) hn hn10 (show l < n by omega) rfl) myX6_isList vyX6_isList lm_RX6_122 (hp_m _ _ _) rfl rfl 0 0 ⟨Nat.le_of_ble_eq_true rfl, Nat.le_of_ble_eq_true rfl⟩ ⟨Nat.le_of_ble_eq_true rfl, Nat.le_of_ble_eq_true rfl, Nat.le_of_ble_eq_true rfl, Nat.le_of_ble_eq_true rfl⟩ rfl (am_lv_ref (hp_m _ _ _) (am_lv_int (am_lv_int (am_lv_int (am_lv_int (am_lv_ref (hp_m _ _ _) am_lv_nil)))))) (Nat.le_of_ble_eq_true rfl) dX6_send_10 [.int 1, .ref 465] rfl ?_
  refine am_ifeq hF 31 dX6_send_13 (by decide) (fun h9 => False.elim ((by revert h9; decide))) (fun _ => ?_)
  refine am_go hF sgX6_send_16_1c478 19 [(0, .ref 465), (1, .int (nI p)), (2, .int (nI l)), (3, .int z), (4, .int (nI a))] [.int (nI a), .ref 465, .ref 465] sgX6_send_16_1c478d rfl ?_
  refine am_dV hF hO [.int (nI a)] [.ref 465] (c_isMail_t (S := S) hm hm80 (show a < m by omega) rfl) myX6_isMail vyX6_isMail lm_RX6_161 (hp_m _ _ _) rfl rfl 0 0 ⟨Nat.le_of_ble_eq_true rfl, Nat.le_of_ble_eq_true rfl⟩ ⟨Nat.le_of_ble_eq_true rfl, Nat.le_of_ble_eq_true rfl, Nat.le_of_ble_eq_true rfl, Nat.le_of_ble_eq_true rfl⟩ rfl (am_lv_ref (hp_m _ _ _) (am_lv_int (am_lv_int (am_lv_int (am_lv_int (am_lv_ref (hp_m _ _ _) am_lv_nil)))))) (Nat.le_of_ble_eq_true rfl) dX6_send_19 [.int 1, .ref 465] rfl ?_
  refine am_ifne hF 35 dX6_send_22 (by decide) (fun _ => ?_) (fun h9 => False.elim ((by revert h9; decide)))
  refine am_go hF sgX6_send_35_fee27 37 [(0, .ref 465), (1, .int (nI p)), (2, .int (nI l)), (3, .int z), (4, .int (nI a))] [.int 0, .int z, .ref 465] sgX6_send_35_fee27d rfl ?_
  refine am_ldc hF 1048575 (List.mem_cons_of_mem _ lk_RX6_164) dX6_send_37 ?_
  refine am_dS hF hO [.int z, .int 0, .int 1048575] [.ref 465] (c_isIn_t hz1 hz2) myX6_isIn syX6_isIn lm_RX6_108 rfl 0 0 ⟨Nat.le_of_ble_eq_true rfl, Nat.le_of_ble_eq_true rfl⟩ ⟨Nat.le_of_ble_eq_true rfl, Nat.le_of_ble_eq_true rfl, Nat.le_of_ble_eq_true rfl, Nat.le_of_ble_eq_true rfl⟩ rfl (am_lv_ref (hp_m _ _ _) (am_lv_int (am_lv_int (am_lv_int (am_lv_int (am_lv_ref (hp_m _ _ _) am_lv_nil)))))) (Nat.le_of_ble_eq_true rfl) dX6_send_39 [.int 1, .ref 465] rfl ?_
  refine am_ifeq hF 49 dX6_send_42 (by decide) (fun h9 => False.elim ((by revert h9; decide))) (fun _ => ?_)
  refine am_go hF sgX6_send_45_1cbe9 50 [(0, .ref 465), (1, .int (nI p)), (2, .int (nI l)), (3, .int z), (4, .int (nI a))] [.int 0, .ref 465] sgX6_send_45_1cbe9d rfl ?_
  refine sv_put hF 0 (by decide) rfl rfl rfl lf_RX6_104 dX6_send_50 ?_
  refine am_go hF sgX6_send_53_34db8 54 [(0, .ref 465), (1, .int (nI p)), (2, .int (nI l)), (3, .int z), (4, .int (nI a))] [.ref 465] sgX6_send_53_34db8d rfl ?_
  refine sv_get hF 0 (by decide) rfl lf_RX6_104 (.int 0) rfl dX6_send_54 ?_
  refine am_ifle hF 62 dX6_send_57 (by decide) (fun _ => ?_) (fun h9 => False.elim ((by revert h9; decide)))
  refine am_go hF sgX6_send_62_c81f7 64 [(0, .ref 465), (1, .int (nI p)), (2, .int (nI l)), (3, .int z), (4, .int (nI a))] [.ref 465, .ref 465] sgX6_send_62_c81f7d rfl ?_
  refine sv_get hF 17 (by decide) rfl lf_RX6_115 (.int (S 17 0)) rfl dX6_send_64 ?_
  refine am_top (nI m) hm ?_
  refine am_go hF sgX6_send_67_1fd2c 69 [(0, .ref 465), (1, .int (nI p)), (2, .int (nI l)), (3, .int z), (4, .int (nI a))] [.int 80, .int (nI m), .ref 465] sgX6_send_67_1fd2cd rfl ?_
  refine am_icmpne hF 76 dX6_send_69 (by decide) (fun h9 => False.elim (nc_eq_f (show m = 80 by omega) (by omega) (by omega) rfl rfl h9)) (fun _ => ?_)
  refine am_go hF sgX6_send_72_5c8a0 77 [(0, .ref 465), (1, .int (nI p)), (2, .int (nI l)), (3, .int z), (4, .int (nI a))] [.int 3, .ref 465] sgX6_send_72_5c8a0d rfl ?_
  refine sv_put hF 0 (by decide) rfl rfl rfl lf_RX6_104 dX6_send_77 ?_
  refine am_go hF sgX6_send_80_34db8 81 [(0, .ref 465), (1, .int (nI p)), (2, .int (nI l)), (3, .int z), (4, .int (nI a))] [.ref 465] sgX6_send_80_34db8d rfl ?_
  refine sv_get hF 0 (by decide) rfl lf_RX6_104 (.int 3) rfl dX6_send_81 ?_
  refine am_ifle hF 89 dX6_send_84 (by decide) (fun h9 => False.elim ((by revert h9; decide))) (fun _ => ?_)
  refine am_go hF sgX6_send_87_56c54 88 [(0, .ref 465), (1, .int (nI p)), (2, .int (nI l)), (3, .int z), (4, .int (nI a))] [.int 0] sgX6_send_87_56c54d rfl ?_
  exact am_iret hF hO hret rfl dX6_send_88 ⟨rfl, rfl⟩
set_option maxRecDepth 100000 in
set_option maxHeartbeats 4000000 in
theorem c_r_send_6a {G : am_S} {T S : am_T} {o : Nat → Int64} {n : Nat} (hn : S 9 0 = nI n) (hn10 : n ≤ 10) {m : Nat} (hm : S 17 0 = nI m) (hm80 : m ≤ 80) {p l : Nat} (hp9 : p < 16) (hl : l < n) {a : Nat} (ha9 : a < m) {z : Int32} (hz1 : ¬ z < 0) (hz2 : ¬ 1048575 < z) (h80 : m < 80) {t : Nat} (ht : S 1 0 = nI t) (ht4 : t ≤ 400) (hb7 : ∀ q, q < 16 → ∃ b, b ≤ 10 ∧ S 7 q = nI b) {cs : Int32} (hcs : rCause (st1 (rSdA S m p l t) 22 m (if (rSdA S m p l t) 18 a = nI p ∨ (rSdA S m p l t) 25 a >>> (nI p &&& 31) &&& 1 = 1 then rSum (rSdA S m p l t) m p z - 3 else rSum (rSdA S m p l t) m p z)) n p l (if (rSdA S m p l t) 18 a = nI p ∨ (rSdA S m p l t) 25 a >>> (nI p &&& 31) &&& 1 = 1 then rSum (rSdA S m p l t) m p z - 3 else rSum (rSdA S m p l t) m p z) = cs) (hcn : ¬ cs = -1) : am_D G yX6_send (.code yX6_send cX6_send 5 (some .int) :: am_G) { frames := 4, cells := 0, slots := 0, locals := 98 } (hp T S o) [.ref 465, .int (nI p), .int (nI l), .int z, .int (nI a)] (hp T (rSdB S m p l t (if (rSdA S m p l t) 18 a = nI p ∨ (rSdA S m p l t) 25 a >>> (nI p &&& 31) &&& 1 = 1 then rSum (rSdA S m p l t) m p z - 3 else rSum (rSdA S m p l t) m p z) cs) o) (some (.int (nI m))) := by
  refine am_of (by decide +kernel) (Nat.le_of_ble_eq_true rfl) ?_
  intro C hse hret hname hF hO
  subst hse
  refine am_go hF sgX6_send_0_8bcf7 2 [(0, .ref 465), (1, .int (nI p)), (2, .int (nI l)), (3, .int z), (4, .int (nI a))] [.int (nI p), .ref 465] sgX6_send_0_8bcf7d rfl ?_
  refine am_dS hF hO [.int (nI p)] [.ref 465] (c_isPerson_t (show p < 16 by omega) rfl) myX6_isPerson syX6_isPerson lm_RX6_118 rfl 0 0 ⟨Nat.le_of_ble_eq_true rfl, Nat.le_of_ble_eq_true rfl⟩ ⟨Nat.le_of_ble_eq_true rfl, Nat.le_of_ble_eq_true rfl, Nat.le_of_ble_eq_true rfl, Nat.le_of_ble_eq_true rfl⟩ rfl (am_lv_ref (hp_m _ _ _) (am_lv_int (am_lv_int (am_lv_int (am_lv_int (am_lv_ref (hp_m _ _ _) am_lv_nil)))))) (Nat.le_of_ble_eq_true rfl) dX6_send_2 [.int 1, .ref 465] rfl ?_
  refine am_ifeq hF 31 dX6_send_5 (by decide) (fun h9 => False.elim ((by revert h9; decide))) (fun _ => ?_)
  refine am_go hF sgX6_send_8_78e74 10 [(0, .ref 465), (1, .int (nI p)), (2, .int (nI l)), (3, .int z), (4, .int (nI a))] [.int (nI l), .ref 465, .ref 465] sgX6_send_8_78e74d rfl ?_
  refine am_dV hF hO [.int (nI l)] [.ref 465] (c_isList_t (S := S) hn hn10 (show l < n by omega) rfl) myX6_isList vyX6_isList lm_RX6_122 (hp_m _ _ _) rfl rfl 0 0 ⟨Nat.le_of_ble_eq_true rfl, Nat.le_of_ble_eq_true rfl⟩ ⟨Nat.le_of_ble_eq_true rfl, Nat.le_of_ble_eq_true rfl, Nat.le_of_ble_eq_true rfl, Nat.le_of_ble_eq_true rfl⟩ rfl (am_lv_ref (hp_m _ _ _) (am_lv_int (am_lv_int (am_lv_int (am_lv_int (am_lv_ref (hp_m _ _ _) am_lv_nil)))))) (Nat.le_of_ble_eq_true rfl) dX6_send_10 [.int 1, .ref 465] rfl ?_
  refine am_ifeq hF 31 dX6_send_13 (by decide) (fun h9 => False.elim ((by revert h9; decide))) (fun _ => ?_)
  refine am_go hF sgX6_send_16_1c478 19 [(0, .ref 465), (1, .int (nI p)), (2, .int (nI l)), (3, .int z), (4, .int (nI a))] [.int (nI a), .ref 465, .ref 465] sgX6_send_16_1c478d rfl ?_
  refine am_dV hF hO [.int (nI a)] [.ref 465] (c_isMail_t (S := S) hm hm80 (show a < m by omega) rfl) myX6_isMail vyX6_isMail lm_RX6_161 (hp_m _ _ _) rfl rfl 0 0 ⟨Nat.le_of_ble_eq_true rfl, Nat.le_of_ble_eq_true rfl⟩ ⟨Nat.le_of_ble_eq_true rfl, Nat.le_of_ble_eq_true rfl, Nat.le_of_ble_eq_true rfl, Nat.le_of_ble_eq_true rfl⟩ rfl (am_lv_ref (hp_m _ _ _) (am_lv_int (am_lv_int (am_lv_int (am_lv_int (am_lv_ref (hp_m _ _ _) am_lv_nil)))))) (Nat.le_of_ble_eq_true rfl) dX6_send_19 [.int 1, .ref 465] rfl ?_
  refine am_ifne hF 35 dX6_send_22 (by decide) (fun _ => ?_) (fun h9 => False.elim ((by revert h9; decide)))
  refine am_go hF sgX6_send_35_fee27 37 [(0, .ref 465), (1, .int (nI p)), (2, .int (nI l)), (3, .int z), (4, .int (nI a))] [.int 0, .int z, .ref 465] sgX6_send_35_fee27d rfl ?_
  refine am_ldc hF 1048575 (List.mem_cons_of_mem _ lk_RX6_164) dX6_send_37 ?_
  refine am_dS hF hO [.int z, .int 0, .int 1048575] [.ref 465] (c_isIn_t hz1 hz2) myX6_isIn syX6_isIn lm_RX6_108 rfl 0 0 ⟨Nat.le_of_ble_eq_true rfl, Nat.le_of_ble_eq_true rfl⟩ ⟨Nat.le_of_ble_eq_true rfl, Nat.le_of_ble_eq_true rfl, Nat.le_of_ble_eq_true rfl, Nat.le_of_ble_eq_true rfl⟩ rfl (am_lv_ref (hp_m _ _ _) (am_lv_int (am_lv_int (am_lv_int (am_lv_int (am_lv_ref (hp_m _ _ _) am_lv_nil)))))) (Nat.le_of_ble_eq_true rfl) dX6_send_39 [.int 1, .ref 465] rfl ?_
  refine am_ifeq hF 49 dX6_send_42 (by decide) (fun h9 => False.elim ((by revert h9; decide))) (fun _ => ?_)
  refine am_go hF sgX6_send_45_1cbe9 50 [(0, .ref 465), (1, .int (nI p)), (2, .int (nI l)), (3, .int z), (4, .int (nI a))] [.int 0, .ref 465] sgX6_send_45_1cbe9d rfl ?_
  refine sv_put hF 0 (by decide) rfl rfl rfl lf_RX6_104 dX6_send_50 ?_
  refine am_go hF sgX6_send_53_34db8 54 [(0, .ref 465), (1, .int (nI p)), (2, .int (nI l)), (3, .int z), (4, .int (nI a))] [.ref 465] sgX6_send_53_34db8d rfl ?_
  refine sv_get hF 0 (by decide) rfl lf_RX6_104 (.int 0) rfl dX6_send_54 ?_
  refine am_ifle hF 62 dX6_send_57 (by decide) (fun _ => ?_) (fun h9 => False.elim ((by revert h9; decide)))
  refine am_go hF sgX6_send_62_c81f7 64 [(0, .ref 465), (1, .int (nI p)), (2, .int (nI l)), (3, .int z), (4, .int (nI a))] [.ref 465, .ref 465] sgX6_send_62_c81f7d rfl ?_
  refine sv_get hF 17 (by decide) rfl lf_RX6_115 (.int (S 17 0)) rfl dX6_send_64 ?_
  refine am_top (nI m) hm ?_
  refine am_go hF sgX6_send_67_1fd2c 69 [(0, .ref 465), (1, .int (nI p)), (2, .int (nI l)), (3, .int z), (4, .int (nI a))] [.int 80, .int (nI m), .ref 465] sgX6_send_67_1fd2cd rfl ?_
  refine am_icmpne hF 76 dX6_send_69 (by decide) (fun _ => ?_) (fun h9 => False.elim (absurd h9 (nc_ne (show m ≠ 80 by omega) (by omega) (by omega) rfl rfl)))
  refine am_go hF sgX6_send_76_56c54 77 [(0, .ref 465), (1, .int (nI p)), (2, .int (nI l)), (3, .int z), (4, .int (nI a))] [.int 0, .ref 465] sgX6_send_76_56c54d rfl ?_
  refine sv_put hF 0 (by decide) rfl rfl rfl lf_RX6_104 dX6_send_77 ?_
  refine am_go hF sgX6_send_80_34db8 81 [(0, .ref 465), (1, .int (nI p)), (2, .int (nI l)), (3, .int z), (4, .int (nI a))] [.ref 465] sgX6_send_80_34db8d rfl ?_
  refine sv_get hF 0 (by decide) rfl lf_RX6_104 (.int 0) rfl dX6_send_81 ?_
  refine am_ifle hF 89 dX6_send_84 (by decide) (fun _ => ?_) (fun h9 => False.elim ((by revert h9; decide)))
  refine am_go hF sgX6_send_89_da752 91 [(0, .ref 465), (1, .int (nI p)), (2, .int (nI l)), (3, .int z), (4, .int (nI a))] [.ref 465, .ref 465] sgX6_send_89_da752d rfl ?_
  refine sv_get hF 2 (by decide) rfl lf_RX6_150 (.int (S 2 0)) rfl dX6_send_91 ?_
  refine am_go hF sgX6_send_94_c7176 96 [(0, .ref 465), (1, .int (nI p)), (2, .int (nI l)), (3, .int z), (4, .int (nI a))] [.int ((S 2 0) + 1), .ref 465] sgX6_send_94_c7176d rfl ?_
  refine sv_put hF 2 (by decide) rfl rfl rfl lf_RX6_150 dX6_send_96 ?_
  refine am_go hF sgX6_send_99_34db8 100 [(0, .ref 465), (1, .int (nI p)), (2, .int (nI l)), (3, .int z), (4, .int (nI a))] [.ref 465] sgX6_send_99_34db8d rfl ?_
  refine sv_get hF 18 (by decide) rfl lf_RX6_50 (.ref 518) rfl dX6_send_100 ?_
  refine am_go hF sgX6_send_103_34db8 104 [(0, .ref 465), (1, .int (nI p)), (2, .int (nI l)), (3, .int z), (4, .int (nI a))] [.ref 465, .ref 518] sgX6_send_103_34db8d rfl ?_
  refine sv_get hF 17 (by decide) rfl lf_RX6_115 (.int (S 17 0)) rfl dX6_send_104 ?_
  refine am_top (nI m) hm ?_
  refine am_go hF sgX6_send_107_840bf 108 [(0, .ref 465), (1, .int (nI p)), (2, .int (nI l)), (3, .int z), (4, .int (nI a))] [.int (nI p), .int (nI m), .ref 518] sgX6_send_107_840bfd rfl ?_
  refine sv_iast hF 18 (by decide) ⟨rfl, rfl, by decide⟩ m rfl (show m < 80 by omega) dX6_send_108 ?_
  refine am_go hF sgX6_send_109_34db8 110 [(0, .ref 465), (1, .int (nI p)), (2, .int (nI l)), (3, .int z), (4, .int (nI a))] [.ref 465] sgX6_send_109_34db8d rfl ?_
  refine sv_get hF 19 (by decide) rfl lf_RX6_53 (.ref 519) rfl dX6_send_110 ?_
  refine am_go hF sgX6_send_113_34db8 114 [(0, .ref 465), (1, .int (nI p)), (2, .int (nI l)), (3, .int z), (4, .int (nI a))] [.ref 465, .ref 519] sgX6_send_113_34db8d rfl ?_
  refine sv_get hF 17 (by decide) rfl lf_RX6_115 (.int (S 17 0)) rfl dX6_send_114 ?_
  refine am_top (nI m) hm ?_
  refine am_go hF sgX6_send_117_f8a59 118 [(0, .ref 465), (1, .int (nI p)), (2, .int (nI l)), (3, .int z), (4, .int (nI a))] [.int (nI l), .int (nI m), .ref 519] sgX6_send_117_f8a59d rfl ?_
  refine sv_iast hF 19 (by decide) ⟨rfl, rfl, by decide⟩ m rfl (show m < 80 by omega) dX6_send_118 ?_
  refine am_go hF sgX6_send_119_34db8 120 [(0, .ref 465), (1, .int (nI p)), (2, .int (nI l)), (3, .int z), (4, .int (nI a))] [.ref 465] sgX6_send_119_34db8d rfl ?_
  refine sv_get hF 20 (by decide) rfl lf_RX6_56 (.ref 520) rfl dX6_send_120 ?_
  refine am_go hF sgX6_send_123_34db8 124 [(0, .ref 465), (1, .int (nI p)), (2, .int (nI l)), (3, .int z), (4, .int (nI a))] [.ref 465, .ref 520] sgX6_send_123_34db8d rfl ?_
  refine sv_get hF 17 (by decide) rfl lf_RX6_115 (.int (S 17 0)) rfl dX6_send_124 ?_
  refine am_top (nI m) hm ?_
  refine am_go hF sgX6_send_127_34db8 128 [(0, .ref 465), (1, .int (nI p)), (2, .int (nI l)), (3, .int z), (4, .int (nI a))] [.ref 465, .int (nI m), .ref 520] sgX6_send_127_34db8d rfl ?_
  refine sv_get hF 1 (by decide) rfl lf_RX6_147 (.int (S 1 0)) rfl dX6_send_128 ?_
  refine am_top (nI t) ht ?_
  refine sv_iast hF 20 (by decide) ⟨rfl, rfl, by decide⟩ m rfl (show m < 80 by omega) dX6_send_131 ?_
  refine am_go hF sgX6_send_132_34db8 133 [(0, .ref 465), (1, .int (nI p)), (2, .int (nI l)), (3, .int z), (4, .int (nI a))] [.ref 465] sgX6_send_132_34db8d rfl ?_
  refine sv_get hF 21 (by decide) rfl lf_RX6_59 (.ref 521) rfl dX6_send_133 ?_
  refine am_go hF sgX6_send_136_34db8 137 [(0, .ref 465), (1, .int (nI p)), (2, .int (nI l)), (3, .int z), (4, .int (nI a))] [.ref 465, .ref 521] sgX6_send_136_34db8d rfl ?_
  refine sv_get hF 17 (by decide) rfl lf_RX6_115 (.int (S 17 0)) rfl dX6_send_137 ?_
  refine am_top (nI m) hm ?_
  refine am_go hF sgX6_send_140_34db8 141 [(0, .ref 465), (1, .int (nI p)), (2, .int (nI l)), (3, .int z), (4, .int (nI a))] [.ref 465, .int (nI m), .ref 521] sgX6_send_140_34db8d rfl ?_
  refine sv_get hF 1 (by decide) rfl lf_RX6_147 (.int (S 1 0)) rfl dX6_send_141 ?_
  refine am_top (nI t) ht ?_
  refine am_go hF sgX6_send_144_34db8 145 [(0, .ref 465), (1, .int (nI p)), (2, .int (nI l)), (3, .int z), (4, .int (nI a))] [.ref 465, .int (nI t), .int (nI m), .ref 521] sgX6_send_144_34db8d rfl ?_
  refine sv_get hF 12 (by decide) rfl lf_RX6_34 (.ref 512) rfl dX6_send_145 ?_
  refine am_go hF sgX6_send_148_f8a59 149 [(0, .ref 465), (1, .int (nI p)), (2, .int (nI l)), (3, .int z), (4, .int (nI a))] [.int (nI l), .ref 512, .int (nI t), .int (nI m), .ref 521] sgX6_send_148_f8a59d rfl ?_
  refine sv_iald hF 12 (by decide) ⟨rfl, rfl, by decide⟩ l rfl (show l < 10 by omega) dX6_send_149 ?_
  refine am_top (S 12 l) rfl ?_
  refine am_go hF sgX6_send_150_830a0 151 [(0, .ref 465), (1, .int (nI p)), (2, .int (nI l)), (3, .int z), (4, .int (nI a))] [.int ((nI t) + (S 12 l)), .int (nI m), .ref 521] sgX6_send_150_830a0d rfl ?_
  refine sv_iast hF 21 (by decide) ⟨rfl, rfl, by decide⟩ m rfl (show m < 80 by omega) dX6_send_151 ?_
  refine am_eqX (hp T (rSdA S m p l t) o) rfl ?_
  refine am_go hF sgX6_send_152_34db8 153 [(0, .ref 465), (1, .int (nI p)), (2, .int (nI l)), (3, .int z), (4, .int (nI a))] [.ref 465] sgX6_send_152_34db8d rfl ?_
  refine sv_get hF 22 (by decide) rfl lf_RX6_62 (.ref 522) rfl dX6_send_153 ?_
  refine am_go hF sgX6_send_156_34db8 157 [(0, .ref 465), (1, .int (nI p)), (2, .int (nI l)), (3, .int z), (4, .int (nI a))] [.ref 465, .ref 522] sgX6_send_156_34db8d rfl ?_
  refine sv_get hF 17 (by decide) rfl lf_RX6_115 (.int ((rSdA S m p l t) 17 0)) rfl dX6_send_157 ?_
  refine am_top (nI m) hm ?_
  refine am_go hF sgX6_send_160_08e16 165 [(0, .ref 465), (1, .int (nI p)), (2, .int (nI l)), (3, .int z), (4, .int (nI a))] [.int (nI a), .int z, .int (nI p), .ref 465, .int (nI m), .ref 522] sgX6_send_160_08e16d rfl ?_
  refine am_dV hF hO [.int (nI p), .int z, .int (nI a)] [.int (nI m), .ref 522] (c_scoreOf_a (S := (rSdA S m p l t)) hm hm80 (by omega) ha9) myX6_scoreOf vyX6_scoreOf lm_RX6_165 (hp_m _ _ _) rfl rfl 0 0 ⟨Nat.le_of_ble_eq_true rfl, Nat.le_of_ble_eq_true rfl⟩ ⟨Nat.le_of_ble_eq_true rfl, Nat.le_of_ble_eq_true rfl, Nat.le_of_ble_eq_true rfl, Nat.le_of_ble_eq_true rfl⟩ rfl (am_lv_ref (hp_m _ _ _) (am_lv_int (am_lv_int (am_lv_int (am_lv_int (am_lv_int (am_lv_ref (hp_a _ _ _ (f := 22) (by decide) rfl) am_lv_nil))))))) (Nat.le_of_ble_eq_true rfl) dX6_send_165 [.int (if (rSdA S m p l t) 18 a = nI p ∨ (rSdA S m p l t) 25 a >>> (nI p &&& 31) &&& 1 = 1 then rSum (rSdA S m p l t) m p z - 3 else rSum (rSdA S m p l t) m p z), .int (nI m), .ref 522] rfl ?_
  refine sv_iast hF 22 (by decide) ⟨rfl, rfl, by decide⟩ m rfl (show m < 80 by omega) dX6_send_168 ?_
  refine am_go hF sgX6_send_169_34db8 170 [(0, .ref 465), (1, .int (nI p)), (2, .int (nI l)), (3, .int z), (4, .int (nI a))] [.ref 465] sgX6_send_169_34db8d rfl ?_
  refine sv_get hF 23 (by decide) rfl lf_RX6_65 (.ref 523) rfl dX6_send_170 ?_
  refine am_go hF sgX6_send_173_34db8 174 [(0, .ref 465), (1, .int (nI p)), (2, .int (nI l)), (3, .int z), (4, .int (nI a))] [.ref 465, .ref 523] sgX6_send_173_34db8d rfl ?_
  refine sv_get hF 17 (by decide) rfl lf_RX6_115 (.int ((rSdA S m p l t) 17 0)) rfl dX6_send_174 ?_
  refine am_top (nI m) hm ?_
  refine am_go hF sgX6_send_177_ce32f 181 [(0, .ref 465), (1, .int (nI p)), (2, .int (nI l)), (3, .int z), (4, .int (nI a))] [.ref 465, .int (nI l), .int (nI p), .ref 465, .int (nI m), .ref 523] sgX6_send_177_ce32fd rfl ?_
  refine sv_get hF 22 (by decide) rfl lf_RX6_62 (.ref 522) rfl dX6_send_181 ?_
  refine am_go hF sgX6_send_184_34db8 185 [(0, .ref 465), (1, .int (nI p)), (2, .int (nI l)), (3, .int z), (4, .int (nI a))] [.ref 465, .ref 522, .int (nI l), .int (nI p), .ref 465, .int (nI m), .ref 523] sgX6_send_184_34db8d rfl ?_
  refine sv_get hF 17 (by decide) rfl lf_RX6_115 (.int ((rSdA S m p l t) 17 0)) rfl dX6_send_185 ?_
  refine am_top (nI m) hm ?_
  refine sv_iald hF 22 (by decide) ⟨rfl, rfl, by decide⟩ m rfl (show m < 80 by omega) dX6_send_188 ?_
  refine am_top (if (rSdA S m p l t) 18 a = nI p ∨ (rSdA S m p l t) 25 a >>> (nI p &&& 31) &&& 1 = 1 then rSum (rSdA S m p l t) m p z - 3 else rSum (rSdA S m p l t) m p z) (st1_same (rSdA S m p l t) 22 m (if (rSdA S m p l t) 18 a = nI p ∨ (rSdA S m p l t) 25 a >>> (nI p &&& 31) &&& 1 = 1 then rSum (rSdA S m p l t) m p z - 3 else rSum (rSdA S m p l t) m p z)) ?_
  refine am_dV hF hO [.int (nI p), .int (nI l), .int (if (rSdA S m p l t) 18 a = nI p ∨ (rSdA S m p l t) 25 a >>> (nI p &&& 31) &&& 1 = 1 then rSum (rSdA S m p l t) m p z - 3 else rSum (rSdA S m p l t) m p z)] [.int (nI m), .ref 523] (c_causeOf (S := (st1 (rSdA S m p l t) 22 m (if (rSdA S m p l t) 18 a = nI p ∨ (rSdA S m p l t) 25 a >>> (nI p &&& 31) &&& 1 = 1 then rSum (rSdA S m p l t) m p z - 3 else rSum (rSdA S m p l t) m p z))) hn hn10 (by omega) (by omega)) myX6_causeOf vyX6_causeOf lm_RX6_168 (hp_m _ _ _) rfl rfl 0 0 ⟨Nat.le_of_ble_eq_true rfl, Nat.le_of_ble_eq_true rfl⟩ ⟨Nat.le_of_ble_eq_true rfl, Nat.le_of_ble_eq_true rfl, Nat.le_of_ble_eq_true rfl, Nat.le_of_ble_eq_true rfl⟩ rfl (am_lv_ref (hp_m _ _ _) (am_lv_int (am_lv_int (am_lv_int (am_lv_int (am_lv_int (am_lv_ref (hp_a _ _ _ (f := 23) (by decide) rfl) am_lv_nil))))))) (Nat.le_of_ble_eq_true rfl) dX6_send_189 [.int (rCause (st1 (rSdA S m p l t) 22 m (if (rSdA S m p l t) 18 a = nI p ∨ (rSdA S m p l t) 25 a >>> (nI p &&& 31) &&& 1 = 1 then rSum (rSdA S m p l t) m p z - 3 else rSum (rSdA S m p l t) m p z)) n p l (if (rSdA S m p l t) 18 a = nI p ∨ (rSdA S m p l t) 25 a >>> (nI p &&& 31) &&& 1 = 1 then rSum (rSdA S m p l t) m p z - 3 else rSum (rSdA S m p l t) m p z)), .int (nI m), .ref 523] rfl ?_
  refine sv_iast hF 23 (by decide) ⟨rfl, rfl, by decide⟩ m rfl (show m < 80 by omega) dX6_send_192 ?_
  refine am_go hF sgX6_send_193_34db8 194 [(0, .ref 465), (1, .int (nI p)), (2, .int (nI l)), (3, .int z), (4, .int (nI a))] [.ref 465] sgX6_send_193_34db8d rfl ?_
  refine sv_get hF 24 (by decide) rfl lf_RX6_68 (.ref 524) rfl dX6_send_194 ?_
  refine am_go hF sgX6_send_197_34db8 198 [(0, .ref 465), (1, .int (nI p)), (2, .int (nI l)), (3, .int z), (4, .int (nI a))] [.ref 465, .ref 524] sgX6_send_197_34db8d rfl ?_
  refine sv_get hF 17 (by decide) rfl lf_RX6_115 (.int ((rSdA S m p l t) 17 0)) rfl dX6_send_198 ?_
  refine am_top (nI m) hm ?_
  refine am_go hF sgX6_send_201_4de0a 202 [(0, .ref 465), (1, .int (nI p)), (2, .int (nI l)), (3, .int z), (4, .int (nI a))] [.int 1, .int (nI m), .ref 524] sgX6_send_201_4de0ad rfl ?_
  refine sv_iast hF 24 (by decide) ⟨rfl, rfl, by decide⟩ m rfl (show m < 80 by omega) dX6_send_202 ?_
  refine am_go hF sgX6_send_203_da752 205 [(0, .ref 465), (1, .int (nI p)), (2, .int (nI l)), (3, .int z), (4, .int (nI a))] [.ref 465, .ref 465] sgX6_send_203_da752d rfl ?_
  refine sv_get hF 17 (by decide) rfl lf_RX6_115 (.int ((rSdA S m p l t) 17 0)) rfl dX6_send_205 ?_
  refine am_top (nI m) hm ?_
  refine am_go hF sgX6_send_208_c7176 210 [(0, .ref 465), (1, .int (nI p)), (2, .int (nI l)), (3, .int z), (4, .int (nI a))] [.int ((nI m) + 1), .ref 465] sgX6_send_208_c7176d rfl ?_
  refine sv_put hF 17 (by decide) rfl rfl rfl lf_RX6_115 dX6_send_210 ?_
  refine am_eqX (hp T (rSdB S m p l t (if (rSdA S m p l t) 18 a = nI p ∨ (rSdA S m p l t) 25 a >>> (nI p &&& 31) &&& 1 = 1 then rSum (rSdA S m p l t) m p z - 3 else rSum (rSdA S m p l t) m p z) cs) o) (by rw [← hcs]; rfl) ?_
  refine am_go hF sgX6_send_213_34db8 214 [(0, .ref 465), (1, .int (nI p)), (2, .int (nI l)), (3, .int z), (4, .int (nI a))] [.ref 465] sgX6_send_213_34db8d rfl ?_
  refine sv_get hF 23 (by decide) rfl lf_RX6_65 (.ref 523) rfl dX6_send_214 ?_
  refine am_go hF sgX6_send_217_34db8 218 [(0, .ref 465), (1, .int (nI p)), (2, .int (nI l)), (3, .int z), (4, .int (nI a))] [.ref 465, .ref 523] sgX6_send_217_34db8d rfl ?_
  refine sv_get hF 17 (by decide) rfl lf_RX6_115 (.int ((rSdB S m p l t (if (rSdA S m p l t) 18 a = nI p ∨ (rSdA S m p l t) 25 a >>> (nI p &&& 31) &&& 1 = 1 then rSum (rSdA S m p l t) m p z - 3 else rSum (rSdA S m p l t) m p z) cs) 17 0)) rfl dX6_send_218 ?_
  refine am_top (nI (m + 1)) (nI_1 m) ?_
  refine am_go hF sgX6_send_221_d80e0 223 [(0, .ref 465), (1, .int (nI p)), (2, .int (nI l)), (3, .int z), (4, .int (nI a))] [.int ((nI (m + 1)) - 1), .ref 523] sgX6_send_221_d80e0d rfl ?_
  refine sv_iald hF 23 (by decide) ⟨rfl, rfl, by decide⟩ m (am_s1 rfl) (show m < 80 by omega) dX6_send_223 ?_
  refine am_top cs (st1_same _ 23 m _) ?_
  refine am_go hF sgX6_send_224_5ff24 225 [(0, .ref 465), (1, .int (nI p)), (2, .int (nI l)), (3, .int z), (4, .int (nI a))] [.int (-1), .int cs] sgX6_send_224_5ff24d rfl ?_
  refine am_icmpne hF 238 dX6_send_225 (by decide) (fun _ => ?_) (fun h9 => False.elim (absurd h9 hcn))
  refine am_go hF sgX6_send_238_34db8 239 [(0, .ref 465), (1, .int (nI p)), (2, .int (nI l)), (3, .int z), (4, .int (nI a))] [.ref 465] sgX6_send_238_34db8d rfl ?_
  refine sv_get hF 17 (by decide) rfl lf_RX6_115 (.int ((rSdB S m p l t (if (rSdA S m p l t) 18 a = nI p ∨ (rSdA S m p l t) 25 a >>> (nI p &&& 31) &&& 1 = 1 then rSum (rSdA S m p l t) m p z - 3 else rSum (rSdA S m p l t) m p z) cs) 17 0)) rfl dX6_send_239 ?_
  refine am_top (nI (m + 1)) (nI_1 m) ?_
  refine am_go hF sgX6_send_242_d80e0 244 [(0, .ref 465), (1, .int (nI p)), (2, .int (nI l)), (3, .int z), (4, .int (nI a))] [.int ((nI (m + 1)) - 1)] sgX6_send_242_d80e0d rfl ?_
  refine am_top (nI m) (by rw [nI_pred]) ?_
  exact am_iret hF hO hret rfl dX6_send_244 ⟨rfl, rfl⟩
set_option maxRecDepth 100000 in
set_option maxHeartbeats 4000000 in
theorem c_r_send_7a {G : am_S} {T S : am_T} {o : Nat → Int64} {n : Nat} (hn : S 9 0 = nI n) (hn10 : n ≤ 10) {m : Nat} (hm : S 17 0 = nI m) (hm80 : m ≤ 80) {p l : Nat} (hp9 : p < 16) (hl : l < n) {a : Nat} (ha9 : a < m) {z : Int32} (hz1 : ¬ z < 0) (hz2 : ¬ 1048575 < z) (h80 : m < 80) {t : Nat} (ht : S 1 0 = nI t) (ht4 : t ≤ 400) (hb7 : ∀ q, q < 16 → ∃ b, b ≤ 10 ∧ S 7 q = nI b) {cs : Int32} (hcs : rCause (st1 (rSdA S m p l t) 22 m (if (rSdA S m p l t) 18 a = nI p ∨ (rSdA S m p l t) 25 a >>> (nI p &&& 31) &&& 1 = 1 then rSum (rSdA S m p l t) m p z - 3 else rSum (rSdA S m p l t) m p z)) n p l (if (rSdA S m p l t) 18 a = nI p ∨ (rSdA S m p l t) 25 a >>> (nI p &&& 31) &&& 1 = 1 then rSum (rSdA S m p l t) m p z - 3 else rSum (rSdA S m p l t) m p z) = cs) (hcn : cs = -1) : am_D G yX6_send (.code yX6_send cX6_send 5 (some .int) :: am_G) { frames := 4, cells := 0, slots := 0, locals := 98 } (hp T S o) [.ref 465, .int (nI p), .int (nI l), .int z, .int (nI a)] (hp T (rPass (rSdB S m p l t (if (rSdA S m p l t) 18 a = nI p ∨ (rSdA S m p l t) 25 a >>> (nI p &&& 31) &&& 1 = 1 then rSum (rSdA S m p l t) m p z - 3 else rSum (rSdA S m p l t) m p z) cs) n m l) o) (some (.int (nI m))) := by
  refine am_of (by decide +kernel) (Nat.le_of_ble_eq_true rfl) ?_
  intro C hse hret hname hF hO
  subst hse
  refine am_go hF sgX6_send_0_8bcf7 2 [(0, .ref 465), (1, .int (nI p)), (2, .int (nI l)), (3, .int z), (4, .int (nI a))] [.int (nI p), .ref 465] sgX6_send_0_8bcf7d rfl ?_
  refine am_dS hF hO [.int (nI p)] [.ref 465] (c_isPerson_t (show p < 16 by omega) rfl) myX6_isPerson syX6_isPerson lm_RX6_118 rfl 0 0 ⟨Nat.le_of_ble_eq_true rfl, Nat.le_of_ble_eq_true rfl⟩ ⟨Nat.le_of_ble_eq_true rfl, Nat.le_of_ble_eq_true rfl, Nat.le_of_ble_eq_true rfl, Nat.le_of_ble_eq_true rfl⟩ rfl (am_lv_ref (hp_m _ _ _) (am_lv_int (am_lv_int (am_lv_int (am_lv_int (am_lv_ref (hp_m _ _ _) am_lv_nil)))))) (Nat.le_of_ble_eq_true rfl) dX6_send_2 [.int 1, .ref 465] rfl ?_
  refine am_ifeq hF 31 dX6_send_5 (by decide) (fun h9 => False.elim ((by revert h9; decide))) (fun _ => ?_)
  refine am_go hF sgX6_send_8_78e74 10 [(0, .ref 465), (1, .int (nI p)), (2, .int (nI l)), (3, .int z), (4, .int (nI a))] [.int (nI l), .ref 465, .ref 465] sgX6_send_8_78e74d rfl ?_
  refine am_dV hF hO [.int (nI l)] [.ref 465] (c_isList_t (S := S) hn hn10 (show l < n by omega) rfl) myX6_isList vyX6_isList lm_RX6_122 (hp_m _ _ _) rfl rfl 0 0 ⟨Nat.le_of_ble_eq_true rfl, Nat.le_of_ble_eq_true rfl⟩ ⟨Nat.le_of_ble_eq_true rfl, Nat.le_of_ble_eq_true rfl, Nat.le_of_ble_eq_true rfl, Nat.le_of_ble_eq_true rfl⟩ rfl (am_lv_ref (hp_m _ _ _) (am_lv_int (am_lv_int (am_lv_int (am_lv_int (am_lv_ref (hp_m _ _ _) am_lv_nil)))))) (Nat.le_of_ble_eq_true rfl) dX6_send_10 [.int 1, .ref 465] rfl ?_
  refine am_ifeq hF 31 dX6_send_13 (by decide) (fun h9 => False.elim ((by revert h9; decide))) (fun _ => ?_)
  refine am_go hF sgX6_send_16_1c478 19 [(0, .ref 465), (1, .int (nI p)), (2, .int (nI l)), (3, .int z), (4, .int (nI a))] [.int (nI a), .ref 465, .ref 465] sgX6_send_16_1c478d rfl ?_
  refine am_dV hF hO [.int (nI a)] [.ref 465] (c_isMail_t (S := S) hm hm80 (show a < m by omega) rfl) myX6_isMail vyX6_isMail lm_RX6_161 (hp_m _ _ _) rfl rfl 0 0 ⟨Nat.le_of_ble_eq_true rfl, Nat.le_of_ble_eq_true rfl⟩ ⟨Nat.le_of_ble_eq_true rfl, Nat.le_of_ble_eq_true rfl, Nat.le_of_ble_eq_true rfl, Nat.le_of_ble_eq_true rfl⟩ rfl (am_lv_ref (hp_m _ _ _) (am_lv_int (am_lv_int (am_lv_int (am_lv_int (am_lv_ref (hp_m _ _ _) am_lv_nil)))))) (Nat.le_of_ble_eq_true rfl) dX6_send_19 [.int 1, .ref 465] rfl ?_
  refine am_ifne hF 35 dX6_send_22 (by decide) (fun _ => ?_) (fun h9 => False.elim ((by revert h9; decide)))
  refine am_go hF sgX6_send_35_fee27 37 [(0, .ref 465), (1, .int (nI p)), (2, .int (nI l)), (3, .int z), (4, .int (nI a))] [.int 0, .int z, .ref 465] sgX6_send_35_fee27d rfl ?_
  refine am_ldc hF 1048575 (List.mem_cons_of_mem _ lk_RX6_164) dX6_send_37 ?_
  refine am_dS hF hO [.int z, .int 0, .int 1048575] [.ref 465] (c_isIn_t hz1 hz2) myX6_isIn syX6_isIn lm_RX6_108 rfl 0 0 ⟨Nat.le_of_ble_eq_true rfl, Nat.le_of_ble_eq_true rfl⟩ ⟨Nat.le_of_ble_eq_true rfl, Nat.le_of_ble_eq_true rfl, Nat.le_of_ble_eq_true rfl, Nat.le_of_ble_eq_true rfl⟩ rfl (am_lv_ref (hp_m _ _ _) (am_lv_int (am_lv_int (am_lv_int (am_lv_int (am_lv_ref (hp_m _ _ _) am_lv_nil)))))) (Nat.le_of_ble_eq_true rfl) dX6_send_39 [.int 1, .ref 465] rfl ?_
  refine am_ifeq hF 49 dX6_send_42 (by decide) (fun h9 => False.elim ((by revert h9; decide))) (fun _ => ?_)
  refine am_go hF sgX6_send_45_1cbe9 50 [(0, .ref 465), (1, .int (nI p)), (2, .int (nI l)), (3, .int z), (4, .int (nI a))] [.int 0, .ref 465] sgX6_send_45_1cbe9d rfl ?_
  refine sv_put hF 0 (by decide) rfl rfl rfl lf_RX6_104 dX6_send_50 ?_
  refine am_go hF sgX6_send_53_34db8 54 [(0, .ref 465), (1, .int (nI p)), (2, .int (nI l)), (3, .int z), (4, .int (nI a))] [.ref 465] sgX6_send_53_34db8d rfl ?_
  refine sv_get hF 0 (by decide) rfl lf_RX6_104 (.int 0) rfl dX6_send_54 ?_
  refine am_ifle hF 62 dX6_send_57 (by decide) (fun _ => ?_) (fun h9 => False.elim ((by revert h9; decide)))
  refine am_go hF sgX6_send_62_c81f7 64 [(0, .ref 465), (1, .int (nI p)), (2, .int (nI l)), (3, .int z), (4, .int (nI a))] [.ref 465, .ref 465] sgX6_send_62_c81f7d rfl ?_
  refine sv_get hF 17 (by decide) rfl lf_RX6_115 (.int (S 17 0)) rfl dX6_send_64 ?_
  refine am_top (nI m) hm ?_
  refine am_go hF sgX6_send_67_1fd2c 69 [(0, .ref 465), (1, .int (nI p)), (2, .int (nI l)), (3, .int z), (4, .int (nI a))] [.int 80, .int (nI m), .ref 465] sgX6_send_67_1fd2cd rfl ?_
  refine am_icmpne hF 76 dX6_send_69 (by decide) (fun _ => ?_) (fun h9 => False.elim (absurd h9 (nc_ne (show m ≠ 80 by omega) (by omega) (by omega) rfl rfl)))
  refine am_go hF sgX6_send_76_56c54 77 [(0, .ref 465), (1, .int (nI p)), (2, .int (nI l)), (3, .int z), (4, .int (nI a))] [.int 0, .ref 465] sgX6_send_76_56c54d rfl ?_
  refine sv_put hF 0 (by decide) rfl rfl rfl lf_RX6_104 dX6_send_77 ?_
  refine am_go hF sgX6_send_80_34db8 81 [(0, .ref 465), (1, .int (nI p)), (2, .int (nI l)), (3, .int z), (4, .int (nI a))] [.ref 465] sgX6_send_80_34db8d rfl ?_
  refine sv_get hF 0 (by decide) rfl lf_RX6_104 (.int 0) rfl dX6_send_81 ?_
  refine am_ifle hF 89 dX6_send_84 (by decide) (fun _ => ?_) (fun h9 => False.elim ((by revert h9; decide)))
  refine am_go hF sgX6_send_89_da752 91 [(0, .ref 465), (1, .int (nI p)), (2, .int (nI l)), (3, .int z), (4, .int (nI a))] [.ref 465, .ref 465] sgX6_send_89_da752d rfl ?_
  refine sv_get hF 2 (by decide) rfl lf_RX6_150 (.int (S 2 0)) rfl dX6_send_91 ?_
  refine am_go hF sgX6_send_94_c7176 96 [(0, .ref 465), (1, .int (nI p)), (2, .int (nI l)), (3, .int z), (4, .int (nI a))] [.int ((S 2 0) + 1), .ref 465] sgX6_send_94_c7176d rfl ?_
  refine sv_put hF 2 (by decide) rfl rfl rfl lf_RX6_150 dX6_send_96 ?_
  refine am_go hF sgX6_send_99_34db8 100 [(0, .ref 465), (1, .int (nI p)), (2, .int (nI l)), (3, .int z), (4, .int (nI a))] [.ref 465] sgX6_send_99_34db8d rfl ?_
  refine sv_get hF 18 (by decide) rfl lf_RX6_50 (.ref 518) rfl dX6_send_100 ?_
  refine am_go hF sgX6_send_103_34db8 104 [(0, .ref 465), (1, .int (nI p)), (2, .int (nI l)), (3, .int z), (4, .int (nI a))] [.ref 465, .ref 518] sgX6_send_103_34db8d rfl ?_
  refine sv_get hF 17 (by decide) rfl lf_RX6_115 (.int (S 17 0)) rfl dX6_send_104 ?_
  refine am_top (nI m) hm ?_
  refine am_go hF sgX6_send_107_840bf 108 [(0, .ref 465), (1, .int (nI p)), (2, .int (nI l)), (3, .int z), (4, .int (nI a))] [.int (nI p), .int (nI m), .ref 518] sgX6_send_107_840bfd rfl ?_
  refine sv_iast hF 18 (by decide) ⟨rfl, rfl, by decide⟩ m rfl (show m < 80 by omega) dX6_send_108 ?_
  refine am_go hF sgX6_send_109_34db8 110 [(0, .ref 465), (1, .int (nI p)), (2, .int (nI l)), (3, .int z), (4, .int (nI a))] [.ref 465] sgX6_send_109_34db8d rfl ?_
  refine sv_get hF 19 (by decide) rfl lf_RX6_53 (.ref 519) rfl dX6_send_110 ?_
  refine am_go hF sgX6_send_113_34db8 114 [(0, .ref 465), (1, .int (nI p)), (2, .int (nI l)), (3, .int z), (4, .int (nI a))] [.ref 465, .ref 519] sgX6_send_113_34db8d rfl ?_
  refine sv_get hF 17 (by decide) rfl lf_RX6_115 (.int (S 17 0)) rfl dX6_send_114 ?_
  refine am_top (nI m) hm ?_
  refine am_go hF sgX6_send_117_f8a59 118 [(0, .ref 465), (1, .int (nI p)), (2, .int (nI l)), (3, .int z), (4, .int (nI a))] [.int (nI l), .int (nI m), .ref 519] sgX6_send_117_f8a59d rfl ?_
  refine sv_iast hF 19 (by decide) ⟨rfl, rfl, by decide⟩ m rfl (show m < 80 by omega) dX6_send_118 ?_
  refine am_go hF sgX6_send_119_34db8 120 [(0, .ref 465), (1, .int (nI p)), (2, .int (nI l)), (3, .int z), (4, .int (nI a))] [.ref 465] sgX6_send_119_34db8d rfl ?_
  refine sv_get hF 20 (by decide) rfl lf_RX6_56 (.ref 520) rfl dX6_send_120 ?_
  refine am_go hF sgX6_send_123_34db8 124 [(0, .ref 465), (1, .int (nI p)), (2, .int (nI l)), (3, .int z), (4, .int (nI a))] [.ref 465, .ref 520] sgX6_send_123_34db8d rfl ?_
  refine sv_get hF 17 (by decide) rfl lf_RX6_115 (.int (S 17 0)) rfl dX6_send_124 ?_
  refine am_top (nI m) hm ?_
  refine am_go hF sgX6_send_127_34db8 128 [(0, .ref 465), (1, .int (nI p)), (2, .int (nI l)), (3, .int z), (4, .int (nI a))] [.ref 465, .int (nI m), .ref 520] sgX6_send_127_34db8d rfl ?_
  refine sv_get hF 1 (by decide) rfl lf_RX6_147 (.int (S 1 0)) rfl dX6_send_128 ?_
  refine am_top (nI t) ht ?_
  refine sv_iast hF 20 (by decide) ⟨rfl, rfl, by decide⟩ m rfl (show m < 80 by omega) dX6_send_131 ?_
  refine am_go hF sgX6_send_132_34db8 133 [(0, .ref 465), (1, .int (nI p)), (2, .int (nI l)), (3, .int z), (4, .int (nI a))] [.ref 465] sgX6_send_132_34db8d rfl ?_
  refine sv_get hF 21 (by decide) rfl lf_RX6_59 (.ref 521) rfl dX6_send_133 ?_
  refine am_go hF sgX6_send_136_34db8 137 [(0, .ref 465), (1, .int (nI p)), (2, .int (nI l)), (3, .int z), (4, .int (nI a))] [.ref 465, .ref 521] sgX6_send_136_34db8d rfl ?_
  refine sv_get hF 17 (by decide) rfl lf_RX6_115 (.int (S 17 0)) rfl dX6_send_137 ?_
  refine am_top (nI m) hm ?_
  refine am_go hF sgX6_send_140_34db8 141 [(0, .ref 465), (1, .int (nI p)), (2, .int (nI l)), (3, .int z), (4, .int (nI a))] [.ref 465, .int (nI m), .ref 521] sgX6_send_140_34db8d rfl ?_
  refine sv_get hF 1 (by decide) rfl lf_RX6_147 (.int (S 1 0)) rfl dX6_send_141 ?_
  refine am_top (nI t) ht ?_
  refine am_go hF sgX6_send_144_34db8 145 [(0, .ref 465), (1, .int (nI p)), (2, .int (nI l)), (3, .int z), (4, .int (nI a))] [.ref 465, .int (nI t), .int (nI m), .ref 521] sgX6_send_144_34db8d rfl ?_
  refine sv_get hF 12 (by decide) rfl lf_RX6_34 (.ref 512) rfl dX6_send_145 ?_
  refine am_go hF sgX6_send_148_f8a59 149 [(0, .ref 465), (1, .int (nI p)), (2, .int (nI l)), (3, .int z), (4, .int (nI a))] [.int (nI l), .ref 512, .int (nI t), .int (nI m), .ref 521] sgX6_send_148_f8a59d rfl ?_
  refine sv_iald hF 12 (by decide) ⟨rfl, rfl, by decide⟩ l rfl (show l < 10 by omega) dX6_send_149 ?_
  refine am_top (S 12 l) rfl ?_
  refine am_go hF sgX6_send_150_830a0 151 [(0, .ref 465), (1, .int (nI p)), (2, .int (nI l)), (3, .int z), (4, .int (nI a))] [.int ((nI t) + (S 12 l)), .int (nI m), .ref 521] sgX6_send_150_830a0d rfl ?_
  refine sv_iast hF 21 (by decide) ⟨rfl, rfl, by decide⟩ m rfl (show m < 80 by omega) dX6_send_151 ?_
  refine am_eqX (hp T (rSdA S m p l t) o) rfl ?_
  refine am_go hF sgX6_send_152_34db8 153 [(0, .ref 465), (1, .int (nI p)), (2, .int (nI l)), (3, .int z), (4, .int (nI a))] [.ref 465] sgX6_send_152_34db8d rfl ?_
  refine sv_get hF 22 (by decide) rfl lf_RX6_62 (.ref 522) rfl dX6_send_153 ?_
  refine am_go hF sgX6_send_156_34db8 157 [(0, .ref 465), (1, .int (nI p)), (2, .int (nI l)), (3, .int z), (4, .int (nI a))] [.ref 465, .ref 522] sgX6_send_156_34db8d rfl ?_
  refine sv_get hF 17 (by decide) rfl lf_RX6_115 (.int ((rSdA S m p l t) 17 0)) rfl dX6_send_157 ?_
  refine am_top (nI m) hm ?_
  refine am_go hF sgX6_send_160_08e16 165 [(0, .ref 465), (1, .int (nI p)), (2, .int (nI l)), (3, .int z), (4, .int (nI a))] [.int (nI a), .int z, .int (nI p), .ref 465, .int (nI m), .ref 522] sgX6_send_160_08e16d rfl ?_
  refine am_dV hF hO [.int (nI p), .int z, .int (nI a)] [.int (nI m), .ref 522] (c_scoreOf_a (S := (rSdA S m p l t)) hm hm80 (by omega) ha9) myX6_scoreOf vyX6_scoreOf lm_RX6_165 (hp_m _ _ _) rfl rfl 0 0 ⟨Nat.le_of_ble_eq_true rfl, Nat.le_of_ble_eq_true rfl⟩ ⟨Nat.le_of_ble_eq_true rfl, Nat.le_of_ble_eq_true rfl, Nat.le_of_ble_eq_true rfl, Nat.le_of_ble_eq_true rfl⟩ rfl (am_lv_ref (hp_m _ _ _) (am_lv_int (am_lv_int (am_lv_int (am_lv_int (am_lv_int (am_lv_ref (hp_a _ _ _ (f := 22) (by decide) rfl) am_lv_nil))))))) (Nat.le_of_ble_eq_true rfl) dX6_send_165 [.int (if (rSdA S m p l t) 18 a = nI p ∨ (rSdA S m p l t) 25 a >>> (nI p &&& 31) &&& 1 = 1 then rSum (rSdA S m p l t) m p z - 3 else rSum (rSdA S m p l t) m p z), .int (nI m), .ref 522] rfl ?_
  refine sv_iast hF 22 (by decide) ⟨rfl, rfl, by decide⟩ m rfl (show m < 80 by omega) dX6_send_168 ?_
  refine am_go hF sgX6_send_169_34db8 170 [(0, .ref 465), (1, .int (nI p)), (2, .int (nI l)), (3, .int z), (4, .int (nI a))] [.ref 465] sgX6_send_169_34db8d rfl ?_
  refine sv_get hF 23 (by decide) rfl lf_RX6_65 (.ref 523) rfl dX6_send_170 ?_
  refine am_go hF sgX6_send_173_34db8 174 [(0, .ref 465), (1, .int (nI p)), (2, .int (nI l)), (3, .int z), (4, .int (nI a))] [.ref 465, .ref 523] sgX6_send_173_34db8d rfl ?_
  refine sv_get hF 17 (by decide) rfl lf_RX6_115 (.int ((rSdA S m p l t) 17 0)) rfl dX6_send_174 ?_
  refine am_top (nI m) hm ?_
  refine am_go hF sgX6_send_177_ce32f 181 [(0, .ref 465), (1, .int (nI p)), (2, .int (nI l)), (3, .int z), (4, .int (nI a))] [.ref 465, .int (nI l), .int (nI p), .ref 465, .int (nI m), .ref 523] sgX6_send_177_ce32fd rfl ?_
  refine sv_get hF 22 (by decide) rfl lf_RX6_62 (.ref 522) rfl dX6_send_181 ?_
  refine am_go hF sgX6_send_184_34db8 185 [(0, .ref 465), (1, .int (nI p)), (2, .int (nI l)), (3, .int z), (4, .int (nI a))] [.ref 465, .ref 522, .int (nI l), .int (nI p), .ref 465, .int (nI m), .ref 523] sgX6_send_184_34db8d rfl ?_
  refine sv_get hF 17 (by decide) rfl lf_RX6_115 (.int ((rSdA S m p l t) 17 0)) rfl dX6_send_185 ?_
  refine am_top (nI m) hm ?_
  refine sv_iald hF 22 (by decide) ⟨rfl, rfl, by decide⟩ m rfl (show m < 80 by omega) dX6_send_188 ?_
  refine am_top (if (rSdA S m p l t) 18 a = nI p ∨ (rSdA S m p l t) 25 a >>> (nI p &&& 31) &&& 1 = 1 then rSum (rSdA S m p l t) m p z - 3 else rSum (rSdA S m p l t) m p z) (st1_same (rSdA S m p l t) 22 m (if (rSdA S m p l t) 18 a = nI p ∨ (rSdA S m p l t) 25 a >>> (nI p &&& 31) &&& 1 = 1 then rSum (rSdA S m p l t) m p z - 3 else rSum (rSdA S m p l t) m p z)) ?_
  refine am_dV hF hO [.int (nI p), .int (nI l), .int (if (rSdA S m p l t) 18 a = nI p ∨ (rSdA S m p l t) 25 a >>> (nI p &&& 31) &&& 1 = 1 then rSum (rSdA S m p l t) m p z - 3 else rSum (rSdA S m p l t) m p z)] [.int (nI m), .ref 523] (c_causeOf (S := (st1 (rSdA S m p l t) 22 m (if (rSdA S m p l t) 18 a = nI p ∨ (rSdA S m p l t) 25 a >>> (nI p &&& 31) &&& 1 = 1 then rSum (rSdA S m p l t) m p z - 3 else rSum (rSdA S m p l t) m p z))) hn hn10 (by omega) (by omega)) myX6_causeOf vyX6_causeOf lm_RX6_168 (hp_m _ _ _) rfl rfl 0 0 ⟨Nat.le_of_ble_eq_true rfl, Nat.le_of_ble_eq_true rfl⟩ ⟨Nat.le_of_ble_eq_true rfl, Nat.le_of_ble_eq_true rfl, Nat.le_of_ble_eq_true rfl, Nat.le_of_ble_eq_true rfl⟩ rfl (am_lv_ref (hp_m _ _ _) (am_lv_int (am_lv_int (am_lv_int (am_lv_int (am_lv_int (am_lv_ref (hp_a _ _ _ (f := 23) (by decide) rfl) am_lv_nil))))))) (Nat.le_of_ble_eq_true rfl) dX6_send_189 [.int (rCause (st1 (rSdA S m p l t) 22 m (if (rSdA S m p l t) 18 a = nI p ∨ (rSdA S m p l t) 25 a >>> (nI p &&& 31) &&& 1 = 1 then rSum (rSdA S m p l t) m p z - 3 else rSum (rSdA S m p l t) m p z)) n p l (if (rSdA S m p l t) 18 a = nI p ∨ (rSdA S m p l t) 25 a >>> (nI p &&& 31) &&& 1 = 1 then rSum (rSdA S m p l t) m p z - 3 else rSum (rSdA S m p l t) m p z)), .int (nI m), .ref 523] rfl ?_
  refine sv_iast hF 23 (by decide) ⟨rfl, rfl, by decide⟩ m rfl (show m < 80 by omega) dX6_send_192 ?_
  refine am_go hF sgX6_send_193_34db8 194 [(0, .ref 465), (1, .int (nI p)), (2, .int (nI l)), (3, .int z), (4, .int (nI a))] [.ref 465] sgX6_send_193_34db8d rfl ?_
  refine sv_get hF 24 (by decide) rfl lf_RX6_68 (.ref 524) rfl dX6_send_194 ?_
  refine am_go hF sgX6_send_197_34db8 198 [(0, .ref 465), (1, .int (nI p)), (2, .int (nI l)), (3, .int z), (4, .int (nI a))] [.ref 465, .ref 524] sgX6_send_197_34db8d rfl ?_
  refine sv_get hF 17 (by decide) rfl lf_RX6_115 (.int ((rSdA S m p l t) 17 0)) rfl dX6_send_198 ?_
  refine am_top (nI m) hm ?_
  refine am_go hF sgX6_send_201_4de0a 202 [(0, .ref 465), (1, .int (nI p)), (2, .int (nI l)), (3, .int z), (4, .int (nI a))] [.int 1, .int (nI m), .ref 524] sgX6_send_201_4de0ad rfl ?_
  refine sv_iast hF 24 (by decide) ⟨rfl, rfl, by decide⟩ m rfl (show m < 80 by omega) dX6_send_202 ?_
  refine am_go hF sgX6_send_203_da752 205 [(0, .ref 465), (1, .int (nI p)), (2, .int (nI l)), (3, .int z), (4, .int (nI a))] [.ref 465, .ref 465] sgX6_send_203_da752d rfl ?_
  refine sv_get hF 17 (by decide) rfl lf_RX6_115 (.int ((rSdA S m p l t) 17 0)) rfl dX6_send_205 ?_
  refine am_top (nI m) hm ?_
  refine am_go hF sgX6_send_208_c7176 210 [(0, .ref 465), (1, .int (nI p)), (2, .int (nI l)), (3, .int z), (4, .int (nI a))] [.int ((nI m) + 1), .ref 465] sgX6_send_208_c7176d rfl ?_
  refine sv_put hF 17 (by decide) rfl rfl rfl lf_RX6_115 dX6_send_210 ?_
  refine am_eqX (hp T (rSdB S m p l t (if (rSdA S m p l t) 18 a = nI p ∨ (rSdA S m p l t) 25 a >>> (nI p &&& 31) &&& 1 = 1 then rSum (rSdA S m p l t) m p z - 3 else rSum (rSdA S m p l t) m p z) cs) o) (by rw [← hcs]; rfl) ?_
  refine am_go hF sgX6_send_213_34db8 214 [(0, .ref 465), (1, .int (nI p)), (2, .int (nI l)), (3, .int z), (4, .int (nI a))] [.ref 465] sgX6_send_213_34db8d rfl ?_
  refine sv_get hF 23 (by decide) rfl lf_RX6_65 (.ref 523) rfl dX6_send_214 ?_
  refine am_go hF sgX6_send_217_34db8 218 [(0, .ref 465), (1, .int (nI p)), (2, .int (nI l)), (3, .int z), (4, .int (nI a))] [.ref 465, .ref 523] sgX6_send_217_34db8d rfl ?_
  refine sv_get hF 17 (by decide) rfl lf_RX6_115 (.int ((rSdB S m p l t (if (rSdA S m p l t) 18 a = nI p ∨ (rSdA S m p l t) 25 a >>> (nI p &&& 31) &&& 1 = 1 then rSum (rSdA S m p l t) m p z - 3 else rSum (rSdA S m p l t) m p z) cs) 17 0)) rfl dX6_send_218 ?_
  refine am_top (nI (m + 1)) (nI_1 m) ?_
  refine am_go hF sgX6_send_221_d80e0 223 [(0, .ref 465), (1, .int (nI p)), (2, .int (nI l)), (3, .int z), (4, .int (nI a))] [.int ((nI (m + 1)) - 1), .ref 523] sgX6_send_221_d80e0d rfl ?_
  refine sv_iald hF 23 (by decide) ⟨rfl, rfl, by decide⟩ m (am_s1 rfl) (show m < 80 by omega) dX6_send_223 ?_
  refine am_top cs (st1_same _ 23 m _) ?_
  refine am_go hF sgX6_send_224_5ff24 225 [(0, .ref 465), (1, .int (nI p)), (2, .int (nI l)), (3, .int z), (4, .int (nI a))] [.int (-1), .int cs] sgX6_send_224_5ff24d rfl ?_
  refine am_icmpne hF 238 dX6_send_225 (by decide) (fun h9 => False.elim (absurd hcn h9)) (fun _ => ?_)
  refine am_go hF sgX6_send_228_c81f7 230 [(0, .ref 465), (1, .int (nI p)), (2, .int (nI l)), (3, .int z), (4, .int (nI a))] [.ref 465, .ref 465] sgX6_send_228_c81f7d rfl ?_
  refine sv_get hF 17 (by decide) rfl lf_RX6_115 (.int ((rSdB S m p l t (if (rSdA S m p l t) 18 a = nI p ∨ (rSdA S m p l t) 25 a >>> (nI p &&& 31) &&& 1 = 1 then rSum (rSdA S m p l t) m p z - 3 else rSum (rSdA S m p l t) m p z) cs) 17 0)) rfl dX6_send_230 ?_
  refine am_top (nI (m + 1)) (nI_1 m) ?_
  refine am_go hF sgX6_send_233_d80e0 235 [(0, .ref 465), (1, .int (nI p)), (2, .int (nI l)), (3, .int z), (4, .int (nI a))] [.int ((nI (m + 1)) - 1), .ref 465] sgX6_send_233_d80e0d rfl ?_
  refine am_eqS [.int (nI m), .ref 465] (by rw [show ((nI (m + 1)) - 1 : Int32) = nI m from (am_s1 rfl)]) ?_
  refine am_dV hF hO [.int (nI m)] [] (c_passes (S := (rSdB S m p l t (if (rSdA S m p l t) 18 a = nI p ∨ (rSdA S m p l t) 25 a >>> (nI p &&& 31) &&& 1 = 1 then rSum (rSdA S m p l t) m p z - 3 else rSum (rSdA S m p l t) m p z) cs)) (n := n) (k := m) (l := l) (d := t) ⟨hn, hn10, hl, (by omega), (st1_same _ 19 m _), (st1_same _ 20 m _), ht4, hb7⟩) myX6_passes vyX6_passes lm_RX6_171 (hp_m _ _ _) rfl rfl 0 0 ⟨Nat.le_of_ble_eq_true rfl, Nat.le_of_ble_eq_true rfl⟩ ⟨Nat.le_of_ble_eq_true rfl, Nat.le_of_ble_eq_true rfl, Nat.le_of_ble_eq_true rfl, Nat.le_of_ble_eq_true rfl⟩ rfl (am_lv_ref (hp_m _ _ _) (am_lv_int (am_lv_int (am_lv_int (am_lv_int am_lv_nil))))) (Nat.le_of_ble_eq_true rfl) dX6_send_235 [] rfl ?_
  refine am_go hF sgX6_send_238_34db8 239 [(0, .ref 465), (1, .int (nI p)), (2, .int (nI l)), (3, .int z), (4, .int (nI a))] [.ref 465] sgX6_send_238_34db8d rfl ?_
  refine sv_get hF 17 (by decide) rfl lf_RX6_115 (.int ((rPass (rSdB S m p l t (if (rSdA S m p l t) 18 a = nI p ∨ (rSdA S m p l t) 25 a >>> (nI p &&& 31) &&& 1 = 1 then rSum (rSdA S m p l t) m p z - 3 else rSum (rSdA S m p l t) m p z) cs) n m l) 17 0)) rfl dX6_send_239 ?_
  refine am_top (nI (m + 1)) ((congrFun (rPass_f (g := 17) (by decide) (by decide)) 0).trans (nI_1 m)) ?_
  refine am_go hF sgX6_send_242_d80e0 244 [(0, .ref 465), (1, .int (nI p)), (2, .int (nI l)), (3, .int z), (4, .int (nI a))] [.int ((nI (m + 1)) - 1)] sgX6_send_242_d80e0d rfl ?_
  refine am_top (nI m) (by rw [nI_pred]) ?_
  exact am_iret hF hO hret rfl dX6_send_244 ⟨rfl, rfl⟩
set_option maxRecDepth 100000 in
set_option maxHeartbeats 4000000 in
theorem c_r_vote_1 {G : am_S} {T S : am_T} {o : Nat → Int64} {m : Nat} (hm : S 17 0 = nI m) (hm80 : m ≤ 80) {x : Int32} (hx : x < 0 ∨ nI m ≤ x) {y z : Int32} : am_D G yX6_vote (.code yX6_vote cX6_vote 5 (some .int) :: am_G) { frames := 5, cells := 0, slots := 0, locals := 121 } (hp T S o) [.ref 465, .int x, .int y, .int z] (hp T (st1 S 0 0 1) o) (some (.int 0)) := by
  refine am_of (by decide +kernel) (Nat.le_of_ble_eq_true rfl) ?_
  intro C hse hret hname hF hO
  subst hse
  refine am_go hF sgX6_vote_0_6b3ba 3 [(0, .ref 465), (1, .int x), (2, .int y), (3, .int z)] [.int x, .ref 465, .ref 465] sgX6_vote_0_6b3bad rfl ?_
  refine am_dV hF hO [.int x] [.ref 465] (c_isMail_f (S := S) hm hm80 hx) myX6_isMail vyX6_isMail lm_RX6_161 (hp_m _ _ _) rfl rfl 0 0 ⟨Nat.le_of_ble_eq_true rfl, Nat.le_of_ble_eq_true rfl⟩ ⟨Nat.le_of_ble_eq_true rfl, Nat.le_of_ble_eq_true rfl, Nat.le_of_ble_eq_true rfl, Nat.le_of_ble_eq_true rfl⟩ rfl (am_lv_ref (hp_m _ _ _) (am_lv_int (am_lv_int (am_lv_int (am_lv_ref (hp_m _ _ _) am_lv_nil))))) (Nat.le_of_ble_eq_true rfl) dX6_vote_3 [.int 0, .ref 465] rfl ?_
  refine am_ifeq hF 20 dX6_vote_6 (by decide) (fun _ => ?_) (fun h9 => False.elim ((by revert h9; decide)))
  refine am_go hF sgX6_vote_20_4de0a 21 [(0, .ref 465), (1, .int x), (2, .int y), (3, .int z)] [.int 1, .ref 465] sgX6_vote_20_4de0ad rfl ?_
  refine sv_put hF 0 (by decide) rfl rfl rfl lf_RX6_104 dX6_vote_21 ?_
  refine am_go hF sgX6_vote_24_34db8 25 [(0, .ref 465), (1, .int x), (2, .int y), (3, .int z)] [.ref 465] sgX6_vote_24_34db8d rfl ?_
  refine sv_get hF 0 (by decide) rfl lf_RX6_104 (.int 1) rfl dX6_vote_25 ?_
  refine am_ifle hF 33 dX6_vote_28 (by decide) (fun h9 => False.elim ((by revert h9; decide))) (fun _ => ?_)
  refine am_go hF sgX6_vote_31_56c54 32 [(0, .ref 465), (1, .int x), (2, .int y), (3, .int z)] [.int 0] sgX6_vote_31_56c54d rfl ?_
  exact am_iret hF hO hret rfl dX6_vote_32 ⟨rfl, rfl⟩
set_option maxRecDepth 100000 in
set_option maxHeartbeats 4000000 in
theorem c_r_vote_2 {G : am_S} {T S : am_T} {o : Nat → Int64} {m : Nat} (hm : S 17 0 = nI m) (hm80 : m ≤ 80) {k : Nat} (hk : k < m) {y z : Int32} (hy : y < 0 ∨ nI 16 ≤ y) : am_D G yX6_vote (.code yX6_vote cX6_vote 5 (some .int) :: am_G) { frames := 5, cells := 0, slots := 0, locals := 121 } (hp T S o) [.ref 465, .int (nI k), .int y, .int z] (hp T (st1 S 0 0 1) o) (some (.int 0)) := by
  refine am_of (by decide +kernel) (Nat.le_of_ble_eq_true rfl) ?_
  intro C hse hret hname hF hO
  subst hse
  refine am_go hF sgX6_vote_0_6b3ba 3 [(0, .ref 465), (1, .int (nI k)), (2, .int y), (3, .int z)] [.int (nI k), .ref 465, .ref 465] sgX6_vote_0_6b3bad rfl ?_
  refine am_dV hF hO [.int (nI k)] [.ref 465] (c_isMail_t (S := S) hm hm80 (show k < m by omega) rfl) myX6_isMail vyX6_isMail lm_RX6_161 (hp_m _ _ _) rfl rfl 0 0 ⟨Nat.le_of_ble_eq_true rfl, Nat.le_of_ble_eq_true rfl⟩ ⟨Nat.le_of_ble_eq_true rfl, Nat.le_of_ble_eq_true rfl, Nat.le_of_ble_eq_true rfl, Nat.le_of_ble_eq_true rfl⟩ rfl (am_lv_ref (hp_m _ _ _) (am_lv_int (am_lv_int (am_lv_int (am_lv_ref (hp_m _ _ _) am_lv_nil))))) (Nat.le_of_ble_eq_true rfl) dX6_vote_3 [.int 1, .ref 465] rfl ?_
  refine am_ifeq hF 20 dX6_vote_6 (by decide) (fun h9 => False.elim ((by revert h9; decide))) (fun _ => ?_)
  refine am_go hF sgX6_vote_9_f8a59 10 [(0, .ref 465), (1, .int (nI k)), (2, .int y), (3, .int z)] [.int y, .ref 465] sgX6_vote_9_f8a59d rfl ?_
  refine am_dS hF hO [.int y] [.ref 465] (c_isPerson_f hy) myX6_isPerson syX6_isPerson lm_RX6_118 rfl 0 0 ⟨Nat.le_of_ble_eq_true rfl, Nat.le_of_ble_eq_true rfl⟩ ⟨Nat.le_of_ble_eq_true rfl, Nat.le_of_ble_eq_true rfl, Nat.le_of_ble_eq_true rfl, Nat.le_of_ble_eq_true rfl⟩ rfl (am_lv_ref (hp_m _ _ _) (am_lv_int (am_lv_int (am_lv_int (am_lv_ref (hp_m _ _ _) am_lv_nil))))) (Nat.le_of_ble_eq_true rfl) dX6_vote_10 [.int 0, .ref 465] rfl ?_
  refine am_ifeq hF 20 dX6_vote_13 (by decide) (fun _ => ?_) (fun h9 => False.elim ((by revert h9; decide)))
  refine am_go hF sgX6_vote_20_4de0a 21 [(0, .ref 465), (1, .int (nI k)), (2, .int y), (3, .int z)] [.int 1, .ref 465] sgX6_vote_20_4de0ad rfl ?_
  refine sv_put hF 0 (by decide) rfl rfl rfl lf_RX6_104 dX6_vote_21 ?_
  refine am_go hF sgX6_vote_24_34db8 25 [(0, .ref 465), (1, .int (nI k)), (2, .int y), (3, .int z)] [.ref 465] sgX6_vote_24_34db8d rfl ?_
  refine sv_get hF 0 (by decide) rfl lf_RX6_104 (.int 1) rfl dX6_vote_25 ?_
  refine am_ifle hF 33 dX6_vote_28 (by decide) (fun h9 => False.elim ((by revert h9; decide))) (fun _ => ?_)
  refine am_go hF sgX6_vote_31_56c54 32 [(0, .ref 465), (1, .int (nI k)), (2, .int y), (3, .int z)] [.int 0] sgX6_vote_31_56c54d rfl ?_
  exact am_iret hF hO hret rfl dX6_vote_32 ⟨rfl, rfl⟩
set_option maxRecDepth 100000 in
set_option maxHeartbeats 4000000 in
theorem c_r_vote_3 {G : am_S} {T S : am_T} {o : Nat → Int64} {m : Nat} (hm : S 17 0 = nI m) (hm80 : m ≤ 80) {k : Nat} (hk : k < m) {p : Nat} (hp9 : p < 16) {z : Int32} (ho : S 27 k = 0) : am_D G yX6_vote (.code yX6_vote cX6_vote 5 (some .int) :: am_G) { frames := 5, cells := 0, slots := 0, locals := 121 } (hp T S o) [.ref 465, .int (nI k), .int (nI p), .int z] (hp T (st1 (st1 S 0 0 0) 0 0 2) o) (some (.int 0)) := by
  refine am_of (by decide +kernel) (Nat.le_of_ble_eq_true rfl) ?_
  intro C hse hret hname hF hO
  subst hse
  refine am_go hF sgX6_vote_0_6b3ba 3 [(0, .ref 465), (1, .int (nI k)), (2, .int (nI p)), (3, .int z)] [.int (nI k), .ref 465, .ref 465] sgX6_vote_0_6b3bad rfl ?_
  refine am_dV hF hO [.int (nI k)] [.ref 465] (c_isMail_t (S := S) hm hm80 (show k < m by omega) rfl) myX6_isMail vyX6_isMail lm_RX6_161 (hp_m _ _ _) rfl rfl 0 0 ⟨Nat.le_of_ble_eq_true rfl, Nat.le_of_ble_eq_true rfl⟩ ⟨Nat.le_of_ble_eq_true rfl, Nat.le_of_ble_eq_true rfl, Nat.le_of_ble_eq_true rfl, Nat.le_of_ble_eq_true rfl⟩ rfl (am_lv_ref (hp_m _ _ _) (am_lv_int (am_lv_int (am_lv_int (am_lv_ref (hp_m _ _ _) am_lv_nil))))) (Nat.le_of_ble_eq_true rfl) dX6_vote_3 [.int 1, .ref 465] rfl ?_
  refine am_ifeq hF 20 dX6_vote_6 (by decide) (fun h9 => False.elim ((by revert h9; decide))) (fun _ => ?_)
  refine am_go hF sgX6_vote_9_f8a59 10 [(0, .ref 465), (1, .int (nI k)), (2, .int (nI p)), (3, .int z)] [.int (nI p), .ref 465] sgX6_vote_9_f8a59d rfl ?_
  refine am_dS hF hO [.int (nI p)] [.ref 465] (c_isPerson_t (show p < 16 by omega) rfl) myX6_isPerson syX6_isPerson lm_RX6_118 rfl 0 0 ⟨Nat.le_of_ble_eq_true rfl, Nat.le_of_ble_eq_true rfl⟩ ⟨Nat.le_of_ble_eq_true rfl, Nat.le_of_ble_eq_true rfl, Nat.le_of_ble_eq_true rfl, Nat.le_of_ble_eq_true rfl⟩ rfl (am_lv_ref (hp_m _ _ _) (am_lv_int (am_lv_int (am_lv_int (am_lv_ref (hp_m _ _ _) am_lv_nil))))) (Nat.le_of_ble_eq_true rfl) dX6_vote_10 [.int 1, .ref 465] rfl ?_
  refine am_ifeq hF 20 dX6_vote_13 (by decide) (fun h9 => False.elim ((by revert h9; decide))) (fun _ => ?_)
  refine am_go hF sgX6_vote_16_1cbe9 21 [(0, .ref 465), (1, .int (nI k)), (2, .int (nI p)), (3, .int z)] [.int 0, .ref 465] sgX6_vote_16_1cbe9d rfl ?_
  refine sv_put hF 0 (by decide) rfl rfl rfl lf_RX6_104 dX6_vote_21 ?_
  refine am_go hF sgX6_vote_24_34db8 25 [(0, .ref 465), (1, .int (nI k)), (2, .int (nI p)), (3, .int z)] [.ref 465] sgX6_vote_24_34db8d rfl ?_
  refine sv_get hF 0 (by decide) rfl lf_RX6_104 (.int 0) rfl dX6_vote_25 ?_
  refine am_ifle hF 33 dX6_vote_28 (by decide) (fun _ => ?_) (fun h9 => False.elim ((by revert h9; decide)))
  refine am_go hF sgX6_vote_33_c81f7 35 [(0, .ref 465), (1, .int (nI k)), (2, .int (nI p)), (3, .int z)] [.ref 465, .ref 465] sgX6_vote_33_c81f7d rfl ?_
  refine sv_get hF 27 (by decide) rfl lf_RX6_77 (.ref 527) rfl dX6_vote_35 ?_
  refine am_go hF sgX6_vote_38_840bf 39 [(0, .ref 465), (1, .int (nI k)), (2, .int (nI p)), (3, .int z)] [.int (nI k), .ref 527, .ref 465] sgX6_vote_38_840bfd rfl ?_
  refine sv_zald hF 27 (by decide) ⟨rfl, rfl, by decide⟩ k rfl (show k < 80 by omega) dX6_vote_39 ?_
  refine am_top (S 27 k) rfl ?_
  refine am_ifeq hF 61 dX6_vote_40 (by decide) (fun _ => ?_) (fun h9 => False.elim (absurd ho h9))
  refine am_go hF sgX6_vote_61_d5620 62 [(0, .ref 465), (1, .int (nI k)), (2, .int (nI p)), (3, .int z)] [.int 2, .ref 465] sgX6_vote_61_d5620d rfl ?_
  refine sv_put hF 0 (by decide) rfl rfl rfl lf_RX6_104 dX6_vote_62 ?_
  refine am_go hF sgX6_vote_65_34db8 66 [(0, .ref 465), (1, .int (nI k)), (2, .int (nI p)), (3, .int z)] [.ref 465] sgX6_vote_65_34db8d rfl ?_
  refine sv_get hF 0 (by decide) rfl lf_RX6_104 (.int 2) rfl dX6_vote_66 ?_
  refine am_ifle hF 74 dX6_vote_69 (by decide) (fun h9 => False.elim ((by revert h9; decide))) (fun _ => ?_)
  refine am_go hF sgX6_vote_72_56c54 73 [(0, .ref 465), (1, .int (nI k)), (2, .int (nI p)), (3, .int z)] [.int 0] sgX6_vote_72_56c54d rfl ?_
  exact am_iret hF hO hret rfl dX6_vote_73 ⟨rfl, rfl⟩
set_option maxRecDepth 100000 in
set_option maxHeartbeats 4000000 in
theorem c_r_vote_4 {G : am_S} {T S : am_T} {o : Nat → Int64} {m : Nat} (hm : S 17 0 = nI m) (hm80 : m ≤ 80) {k : Nat} (hk : k < m) {p : Nat} (hp9 : p < 16) {z : Int32} (ho : ¬ S 27 k = 0) (hj : ¬ S 28 k >>> (nI p &&& 31) &&& 1 = 1) : am_D G yX6_vote (.code yX6_vote cX6_vote 5 (some .int) :: am_G) { frames := 5, cells := 0, slots := 0, locals := 121 } (hp T S o) [.ref 465, .int (nI k), .int (nI p), .int z] (hp T (st1 (st1 S 0 0 0) 0 0 2) o) (some (.int 0)) := by
  refine am_of (by decide +kernel) (Nat.le_of_ble_eq_true rfl) ?_
  intro C hse hret hname hF hO
  subst hse
  refine am_go hF sgX6_vote_0_6b3ba 3 [(0, .ref 465), (1, .int (nI k)), (2, .int (nI p)), (3, .int z)] [.int (nI k), .ref 465, .ref 465] sgX6_vote_0_6b3bad rfl ?_
  refine am_dV hF hO [.int (nI k)] [.ref 465] (c_isMail_t (S := S) hm hm80 (show k < m by omega) rfl) myX6_isMail vyX6_isMail lm_RX6_161 (hp_m _ _ _) rfl rfl 0 0 ⟨Nat.le_of_ble_eq_true rfl, Nat.le_of_ble_eq_true rfl⟩ ⟨Nat.le_of_ble_eq_true rfl, Nat.le_of_ble_eq_true rfl, Nat.le_of_ble_eq_true rfl, Nat.le_of_ble_eq_true rfl⟩ rfl (am_lv_ref (hp_m _ _ _) (am_lv_int (am_lv_int (am_lv_int (am_lv_ref (hp_m _ _ _) am_lv_nil))))) (Nat.le_of_ble_eq_true rfl) dX6_vote_3 [.int 1, .ref 465] rfl ?_
  refine am_ifeq hF 20 dX6_vote_6 (by decide) (fun h9 => False.elim ((by revert h9; decide))) (fun _ => ?_)
  refine am_go hF sgX6_vote_9_f8a59 10 [(0, .ref 465), (1, .int (nI k)), (2, .int (nI p)), (3, .int z)] [.int (nI p), .ref 465] sgX6_vote_9_f8a59d rfl ?_
  refine am_dS hF hO [.int (nI p)] [.ref 465] (c_isPerson_t (show p < 16 by omega) rfl) myX6_isPerson syX6_isPerson lm_RX6_118 rfl 0 0 ⟨Nat.le_of_ble_eq_true rfl, Nat.le_of_ble_eq_true rfl⟩ ⟨Nat.le_of_ble_eq_true rfl, Nat.le_of_ble_eq_true rfl, Nat.le_of_ble_eq_true rfl, Nat.le_of_ble_eq_true rfl⟩ rfl (am_lv_ref (hp_m _ _ _) (am_lv_int (am_lv_int (am_lv_int (am_lv_ref (hp_m _ _ _) am_lv_nil))))) (Nat.le_of_ble_eq_true rfl) dX6_vote_10 [.int 1, .ref 465] rfl ?_
  refine am_ifeq hF 20 dX6_vote_13 (by decide) (fun h9 => False.elim ((by revert h9; decide))) (fun _ => ?_)
  refine am_go hF sgX6_vote_16_1cbe9 21 [(0, .ref 465), (1, .int (nI k)), (2, .int (nI p)), (3, .int z)] [.int 0, .ref 465] sgX6_vote_16_1cbe9d rfl ?_
  refine sv_put hF 0 (by decide) rfl rfl rfl lf_RX6_104 dX6_vote_21 ?_
  refine am_go hF sgX6_vote_24_34db8 25 [(0, .ref 465), (1, .int (nI k)), (2, .int (nI p)), (3, .int z)] [.ref 465] sgX6_vote_24_34db8d rfl ?_
  refine sv_get hF 0 (by decide) rfl lf_RX6_104 (.int 0) rfl dX6_vote_25 ?_
  refine am_ifle hF 33 dX6_vote_28 (by decide) (fun _ => ?_) (fun h9 => False.elim ((by revert h9; decide)))
  refine am_go hF sgX6_vote_33_c81f7 35 [(0, .ref 465), (1, .int (nI k)), (2, .int (nI p)), (3, .int z)] [.ref 465, .ref 465] sgX6_vote_33_c81f7d rfl ?_
  refine sv_get hF 27 (by decide) rfl lf_RX6_77 (.ref 527) rfl dX6_vote_35 ?_
  refine am_go hF sgX6_vote_38_840bf 39 [(0, .ref 465), (1, .int (nI k)), (2, .int (nI p)), (3, .int z)] [.int (nI k), .ref 527, .ref 465] sgX6_vote_38_840bfd rfl ?_
  refine sv_zald hF 27 (by decide) ⟨rfl, rfl, by decide⟩ k rfl (show k < 80 by omega) dX6_vote_39 ?_
  refine am_top (S 27 k) rfl ?_
  refine am_ifeq hF 61 dX6_vote_40 (by decide) (fun h9 => False.elim (absurd h9 ho)) (fun _ => ?_)
  refine am_go hF sgX6_vote_43_34db8 44 [(0, .ref 465), (1, .int (nI k)), (2, .int (nI p)), (3, .int z)] [.ref 465, .ref 465] sgX6_vote_43_34db8d rfl ?_
  refine sv_get hF 28 (by decide) rfl lf_RX6_80 (.ref 528) rfl dX6_vote_44 ?_
  refine am_go hF sgX6_vote_47_840bf 48 [(0, .ref 465), (1, .int (nI k)), (2, .int (nI p)), (3, .int z)] [.int (nI k), .ref 528, .ref 465] sgX6_vote_47_840bfd rfl ?_
  refine sv_iald hF 28 (by decide) ⟨rfl, rfl, by decide⟩ k rfl (show k < 80 by omega) dX6_vote_48 ?_
  refine am_top (S 28 k) rfl ?_
  refine am_go hF sgX6_vote_49_89201 54 [(0, .ref 465), (1, .int (nI k)), (2, .int (nI p)), (3, .int z)] [.int 1, .int (((S 28 k) >>> ((nI p) &&& 31)) &&& 1), .ref 465] sgX6_vote_49_89201d rfl ?_
  refine am_icmpne hF 61 dX6_vote_54 (by decide) (fun _ => ?_) (fun h9 => False.elim (absurd h9 hj))
  refine am_go hF sgX6_vote_61_d5620 62 [(0, .ref 465), (1, .int (nI k)), (2, .int (nI p)), (3, .int z)] [.int 2, .ref 465] sgX6_vote_61_d5620d rfl ?_
  refine sv_put hF 0 (by decide) rfl rfl rfl lf_RX6_104 dX6_vote_62 ?_
  refine am_go hF sgX6_vote_65_34db8 66 [(0, .ref 465), (1, .int (nI k)), (2, .int (nI p)), (3, .int z)] [.ref 465] sgX6_vote_65_34db8d rfl ?_
  refine sv_get hF 0 (by decide) rfl lf_RX6_104 (.int 2) rfl dX6_vote_66 ?_
  refine am_ifle hF 74 dX6_vote_69 (by decide) (fun h9 => False.elim ((by revert h9; decide))) (fun _ => ?_)
  refine am_go hF sgX6_vote_72_56c54 73 [(0, .ref 465), (1, .int (nI k)), (2, .int (nI p)), (3, .int z)] [.int 0] sgX6_vote_72_56c54d rfl ?_
  exact am_iret hF hO hret rfl dX6_vote_73 ⟨rfl, rfl⟩
set_option maxRecDepth 100000 in
set_option maxHeartbeats 4000000 in
theorem c_r_vote_5 {G : am_S} {T S : am_T} {o : Nat → Int64} {n m : Nat} (ha : rAll S n m) {k : Nat} (hk : k < m) {p : Nat} (hp9 : p < 16) (ho : ¬ S 27 k = 0) (hj : S 28 k >>> (nI p &&& 31) &&& 1 = 1) (h1 : S 29 k + 1 = 2) : am_D G yX6_vote (.code yX6_vote cX6_vote 5 (some .int) :: am_G) { frames := 5, cells := 0, slots := 0, locals := 121 } (hp T S o) [.ref 465, .int (nI k), .int (nI p), .int 1] (hp T (rClear (st1 (st1 (st1 (st1 (st1 (st1 (st1 S 0 0 0) 0 0 0) 2 0 ((S 2 0) + 1)) 28 k ((S 28 k) &&& ((1 <<< ((nI p) &&& 31)) ^^^ (-1)))) 5 p ((S 5 p) + 1)) 29 k ((S 29 k) + 1)) 30 k ((S 30 k) + 0)) n m k) o) (some (.int ((rClear (st1 (st1 (st1 (st1 (st1 (st1 (st1 S 0 0 0) 0 0 0) 2 0 ((S 2 0) + 1)) 28 k ((S 28 k) &&& ((1 <<< ((nI p) &&& 31)) ^^^ (-1)))) 5 p ((S 5 p) + 1)) 29 k ((S 29 k) + 1)) 30 k ((S 30 k) + 0)) n m k) 24 k))) := by
  refine am_of (by decide +kernel) (Nat.le_of_ble_eq_true rfl) ?_
  intro C hse hret hname hF hO
  subst hse
  have hm80 := ha.2.2.2.1
  refine am_go hF sgX6_vote_0_6b3ba 3 [(0, .ref 465), (1, .int (nI k)), (2, .int (nI p)), (3, .int 1)] [.int (nI k), .ref 465, .ref 465] sgX6_vote_0_6b3bad rfl ?_
  refine am_dV hF hO [.int (nI k)] [.ref 465] (c_isMail_t (S := S) ha.2.2.1 ha.2.2.2.1 (show k < m by omega) rfl) myX6_isMail vyX6_isMail lm_RX6_161 (hp_m _ _ _) rfl rfl 0 0 ⟨Nat.le_of_ble_eq_true rfl, Nat.le_of_ble_eq_true rfl⟩ ⟨Nat.le_of_ble_eq_true rfl, Nat.le_of_ble_eq_true rfl, Nat.le_of_ble_eq_true rfl, Nat.le_of_ble_eq_true rfl⟩ rfl (am_lv_ref (hp_m _ _ _) (am_lv_int (am_lv_int (am_lv_int (am_lv_ref (hp_m _ _ _) am_lv_nil))))) (Nat.le_of_ble_eq_true rfl) dX6_vote_3 [.int 1, .ref 465] rfl ?_
  refine am_ifeq hF 20 dX6_vote_6 (by decide) (fun h9 => False.elim ((by revert h9; decide))) (fun _ => ?_)
  refine am_go hF sgX6_vote_9_f8a59 10 [(0, .ref 465), (1, .int (nI k)), (2, .int (nI p)), (3, .int 1)] [.int (nI p), .ref 465] sgX6_vote_9_f8a59d rfl ?_
  refine am_dS hF hO [.int (nI p)] [.ref 465] (c_isPerson_t (show p < 16 by omega) rfl) myX6_isPerson syX6_isPerson lm_RX6_118 rfl 0 0 ⟨Nat.le_of_ble_eq_true rfl, Nat.le_of_ble_eq_true rfl⟩ ⟨Nat.le_of_ble_eq_true rfl, Nat.le_of_ble_eq_true rfl, Nat.le_of_ble_eq_true rfl, Nat.le_of_ble_eq_true rfl⟩ rfl (am_lv_ref (hp_m _ _ _) (am_lv_int (am_lv_int (am_lv_int (am_lv_ref (hp_m _ _ _) am_lv_nil))))) (Nat.le_of_ble_eq_true rfl) dX6_vote_10 [.int 1, .ref 465] rfl ?_
  refine am_ifeq hF 20 dX6_vote_13 (by decide) (fun h9 => False.elim ((by revert h9; decide))) (fun _ => ?_)
  refine am_go hF sgX6_vote_16_1cbe9 21 [(0, .ref 465), (1, .int (nI k)), (2, .int (nI p)), (3, .int 1)] [.int 0, .ref 465] sgX6_vote_16_1cbe9d rfl ?_
  refine sv_put hF 0 (by decide) rfl rfl rfl lf_RX6_104 dX6_vote_21 ?_
  refine am_go hF sgX6_vote_24_34db8 25 [(0, .ref 465), (1, .int (nI k)), (2, .int (nI p)), (3, .int 1)] [.ref 465] sgX6_vote_24_34db8d rfl ?_
  refine sv_get hF 0 (by decide) rfl lf_RX6_104 (.int 0) rfl dX6_vote_25 ?_
  refine am_ifle hF 33 dX6_vote_28 (by decide) (fun _ => ?_) (fun h9 => False.elim ((by revert h9; decide)))
  refine am_go hF sgX6_vote_33_c81f7 35 [(0, .ref 465), (1, .int (nI k)), (2, .int (nI p)), (3, .int 1)] [.ref 465, .ref 465] sgX6_vote_33_c81f7d rfl ?_
  refine sv_get hF 27 (by decide) rfl lf_RX6_77 (.ref 527) rfl dX6_vote_35 ?_
  refine am_go hF sgX6_vote_38_840bf 39 [(0, .ref 465), (1, .int (nI k)), (2, .int (nI p)), (3, .int 1)] [.int (nI k), .ref 527, .ref 465] sgX6_vote_38_840bfd rfl ?_
  refine sv_zald hF 27 (by decide) ⟨rfl, rfl, by decide⟩ k rfl (show k < 80 by omega) dX6_vote_39 ?_
  refine am_top (S 27 k) rfl ?_
  refine am_ifeq hF 61 dX6_vote_40 (by decide) (fun h9 => False.elim (absurd h9 ho)) (fun _ => ?_)
  refine am_go hF sgX6_vote_43_34db8 44 [(0, .ref 465), (1, .int (nI k)), (2, .int (nI p)), (3, .int 1)] [.ref 465, .ref 465] sgX6_vote_43_34db8d rfl ?_
  refine sv_get hF 28 (by decide) rfl lf_RX6_80 (.ref 528) rfl dX6_vote_44 ?_
  refine am_go hF sgX6_vote_47_840bf 48 [(0, .ref 465), (1, .int (nI k)), (2, .int (nI p)), (3, .int 1)] [.int (nI k), .ref 528, .ref 465] sgX6_vote_47_840bfd rfl ?_
  refine sv_iald hF 28 (by decide) ⟨rfl, rfl, by decide⟩ k rfl (show k < 80 by omega) dX6_vote_48 ?_
  refine am_top (S 28 k) rfl ?_
  refine am_go hF sgX6_vote_49_89201 54 [(0, .ref 465), (1, .int (nI k)), (2, .int (nI p)), (3, .int 1)] [.int 1, .int (((S 28 k) >>> ((nI p) &&& 31)) &&& 1), .ref 465] sgX6_vote_49_89201d rfl ?_
  have ha8 : rAll (st1 S 0 0 0) n m := rAll_eq ha rfl rfl rfl rfl rfl rfl
  refine am_icmpne hF 61 dX6_vote_54 (by decide) (fun h9 => False.elim (absurd hj h9)) (fun _ => ?_)
  refine am_go hF sgX6_vote_57_1cbe9 62 [(0, .ref 465), (1, .int (nI k)), (2, .int (nI p)), (3, .int 1)] [.int 0, .ref 465] sgX6_vote_57_1cbe9d rfl ?_
  refine sv_put hF 0 (by decide) rfl rfl rfl lf_RX6_104 dX6_vote_62 ?_
  refine am_go hF sgX6_vote_65_34db8 66 [(0, .ref 465), (1, .int (nI k)), (2, .int (nI p)), (3, .int 1)] [.ref 465] sgX6_vote_65_34db8d rfl ?_
  refine sv_get hF 0 (by decide) rfl lf_RX6_104 (.int 0) rfl dX6_vote_66 ?_
  refine am_ifle hF 74 dX6_vote_69 (by decide) (fun _ => ?_) (fun h9 => False.elim ((by revert h9; decide)))
  refine am_go hF sgX6_vote_74_da752 76 [(0, .ref 465), (1, .int (nI k)), (2, .int (nI p)), (3, .int 1)] [.ref 465, .ref 465] sgX6_vote_74_da752d rfl ?_
  refine sv_get hF 2 (by decide) rfl lf_RX6_150 (.int (S 2 0)) rfl dX6_vote_76 ?_
  refine am_go hF sgX6_vote_79_c7176 81 [(0, .ref 465), (1, .int (nI k)), (2, .int (nI p)), (3, .int 1)] [.int ((S 2 0) + 1), .ref 465] sgX6_vote_79_c7176d rfl ?_
  refine sv_put hF 2 (by decide) rfl rfl rfl lf_RX6_150 dX6_vote_81 ?_
  refine am_go hF sgX6_vote_84_34db8 85 [(0, .ref 465), (1, .int (nI k)), (2, .int (nI p)), (3, .int 1)] [.ref 465] sgX6_vote_84_34db8d rfl ?_
  refine sv_get hF 28 (by decide) rfl lf_RX6_80 (.ref 528) rfl dX6_vote_85 ?_
  refine am_go hF sgX6_vote_88_563cd 90 [(0, .ref 465), (1, .int (nI k)), (2, .int (nI p)), (3, .int 1)] [.int (nI k), .ref 528, .int (nI k), .ref 528] sgX6_vote_88_563cdd rfl ?_
  refine sv_iald hF 28 (by decide) ⟨rfl, rfl, by decide⟩ k rfl (show k < 80 by omega) dX6_vote_90 ?_
  refine am_top (S 28 k) rfl ?_
  refine am_go hF sgX6_vote_91_d85c9 97 [(0, .ref 465), (1, .int (nI k)), (2, .int (nI p)), (3, .int 1)] [.int ((S 28 k) &&& ((1 <<< ((nI p) &&& 31)) ^^^ (-1))), .int (nI k), .ref 528] sgX6_vote_91_d85c9d rfl ?_
  refine sv_iast hF 28 (by decide) ⟨rfl, rfl, by decide⟩ k rfl (show k < 80 by omega) dX6_vote_97 ?_
  refine am_go hF sgX6_vote_98_34db8 99 [(0, .ref 465), (1, .int (nI k)), (2, .int (nI p)), (3, .int 1)] [.ref 465] sgX6_vote_98_34db8d rfl ?_
  refine sv_get hF 5 (by decide) rfl lf_RX6_16 (.ref 505) rfl dX6_vote_99 ?_
  refine am_go hF sgX6_vote_102_9241e 104 [(0, .ref 465), (1, .int (nI k)), (2, .int (nI p)), (3, .int 1)] [.int (nI p), .ref 505, .int (nI p), .ref 505] sgX6_vote_102_9241ed rfl ?_
  refine sv_iald hF 5 (by decide) ⟨rfl, rfl, by decide⟩ p rfl (show p < 16 by omega) dX6_vote_104 ?_
  refine am_top (S 5 p) rfl ?_
  refine am_go hF sgX6_vote_105_c7176 107 [(0, .ref 465), (1, .int (nI k)), (2, .int (nI p)), (3, .int 1)] [.int ((S 5 p) + 1), .int (nI p), .ref 505] sgX6_vote_105_c7176d rfl ?_
  refine sv_iast hF 5 (by decide) ⟨rfl, rfl, by decide⟩ p rfl (show p < 16 by omega) dX6_vote_107 ?_
  refine am_go hF sgX6_vote_108_34db8 109 [(0, .ref 465), (1, .int (nI k)), (2, .int (nI p)), (3, .int 1)] [.ref 465] sgX6_vote_108_34db8d rfl ?_
  refine sv_get hF 29 (by decide) rfl lf_RX6_83 (.ref 529) rfl dX6_vote_109 ?_
  refine am_go hF sgX6_vote_112_563cd 114 [(0, .ref 465), (1, .int (nI k)), (2, .int (nI p)), (3, .int 1)] [.int (nI k), .ref 529, .int (nI k), .ref 529] sgX6_vote_112_563cdd rfl ?_
  refine sv_iald hF 29 (by decide) ⟨rfl, rfl, by decide⟩ k rfl (show k < 80 by omega) dX6_vote_114 ?_
  refine am_top (S 29 k) rfl ?_
  refine am_go hF sgX6_vote_115_13b50 116 [(0, .ref 465), (1, .int (nI k)), (2, .int (nI p)), (3, .int 1)] [.int 1, .int (S 29 k), .int (nI k), .ref 529] sgX6_vote_115_13b50d rfl ?_
  refine am_ifeq hF 123 dX6_vote_116 (by decide) (fun h9 => False.elim ((by revert h9; decide))) (fun _ => ?_)
  refine am_go hF sgX6_vote_119_6f86b 125 [(0, .ref 465), (1, .int (nI k)), (2, .int (nI p)), (3, .int 1)] [.int ((S 29 k) + 1), .int (nI k), .ref 529] sgX6_vote_119_6f86bd rfl ?_
  refine sv_iast hF 29 (by decide) ⟨rfl, rfl, by decide⟩ k rfl (show k < 80 by omega) dX6_vote_125 ?_
  refine am_go hF sgX6_vote_126_34db8 127 [(0, .ref 465), (1, .int (nI k)), (2, .int (nI p)), (3, .int 1)] [.ref 465] sgX6_vote_126_34db8d rfl ?_
  refine sv_get hF 30 (by decide) rfl lf_RX6_86 (.ref 530) rfl dX6_vote_127 ?_
  refine am_go hF sgX6_vote_130_563cd 132 [(0, .ref 465), (1, .int (nI k)), (2, .int (nI p)), (3, .int 1)] [.int (nI k), .ref 530, .int (nI k), .ref 530] sgX6_vote_130_563cdd rfl ?_
  refine sv_iald hF 30 (by decide) ⟨rfl, rfl, by decide⟩ k rfl (show k < 80 by omega) dX6_vote_132 ?_
  refine am_top (S 30 k) rfl ?_
  refine am_go hF sgX6_vote_133_13b50 134 [(0, .ref 465), (1, .int (nI k)), (2, .int (nI p)), (3, .int 1)] [.int 1, .int (S 30 k), .int (nI k), .ref 530] sgX6_vote_133_13b50d rfl ?_
  refine am_ifeq hF 141 dX6_vote_134 (by decide) (fun h9 => False.elim ((by revert h9; decide))) (fun _ => ?_)
  refine am_go hF sgX6_vote_137_b56a7 143 [(0, .ref 465), (1, .int (nI k)), (2, .int (nI p)), (3, .int 1)] [.int ((S 30 k) + 0), .int (nI k), .ref 530] sgX6_vote_137_b56a7d rfl ?_
  refine sv_iast hF 30 (by decide) ⟨rfl, rfl, by decide⟩ k rfl (show k < 80 by omega) dX6_vote_143 ?_
  refine am_go hF sgX6_vote_144_34db8 145 [(0, .ref 465), (1, .int (nI k)), (2, .int (nI p)), (3, .int 1)] [.ref 465] sgX6_vote_144_34db8d rfl ?_
  refine sv_get hF 29 (by decide) rfl lf_RX6_83 (.ref 529) rfl dX6_vote_145 ?_
  refine am_go hF sgX6_vote_148_840bf 149 [(0, .ref 465), (1, .int (nI k)), (2, .int (nI p)), (3, .int 1)] [.int (nI k), .ref 529] sgX6_vote_148_840bfd rfl ?_
  refine sv_iald hF 29 (by decide) ⟨rfl, rfl, by decide⟩ k rfl (show k < 80 by omega) dX6_vote_149 ?_
  refine am_top ((S 29 k) + 1) (st1_same (st1 (st1 (st1 (st1 (st1 S 0 0 0) 0 0 0) 2 0 ((S 2 0) + 1)) 28 k ((S 28 k) &&& ((1 <<< ((nI p) &&& 31)) ^^^ (-1)))) 5 p ((S 5 p) + 1)) 29 k ((S 29 k) + 1)) ?_
  refine am_go hF sgX6_vote_150_d5620 151 [(0, .ref 465), (1, .int (nI k)), (2, .int (nI p)), (3, .int 1)] [.int 2, .int ((S 29 k) + 1)] sgX6_vote_150_d5620d rfl ?_
  refine am_icmpne hF 162 dX6_vote_151 (by decide) (fun h9 => False.elim (absurd h1 h9)) (fun _ => ?_)
  refine am_go hF sgX6_vote_154_8bcf7 156 [(0, .ref 465), (1, .int (nI k)), (2, .int (nI p)), (3, .int 1)] [.int (nI k), .ref 465] sgX6_vote_154_8bcf7d rfl ?_
  refine am_dV hF hO [.int (nI k)] [] (c_clears (S := (st1 (st1 (st1 (st1 (st1 (st1 (st1 S 0 0 0) 0 0 0) 2 0 ((S 2 0) + 1)) 28 k ((S 28 k) &&& ((1 <<< ((nI p) &&& 31)) ^^^ (-1)))) 5 p ((S 5 p) + 1)) 29 k ((S 29 k) + 1)) 30 k ((S 30 k) + 0))) (n := n) (m := m) (c := k) ha8 (by omega)) myX6_clears vyX6_clears lm_RX6_181 (hp_m _ _ _) rfl rfl 0 0 ⟨Nat.le_of_ble_eq_true rfl, Nat.le_of_ble_eq_true rfl⟩ ⟨Nat.le_of_ble_eq_true rfl, Nat.le_of_ble_eq_true rfl, Nat.le_of_ble_eq_true rfl, Nat.le_of_ble_eq_true rfl⟩ rfl (am_lv_ref (hp_m _ _ _) (am_lv_int (am_lv_int (am_lv_int am_lv_nil)))) (Nat.le_of_ble_eq_true rfl) dX6_vote_156 [] rfl ?_
  refine am_go hF sgX6_vote_159_8b78c 227 [(0, .ref 465), (1, .int (nI k)), (2, .int (nI p)), (3, .int 1)] [.ref 465] sgX6_vote_159_8b78cd rfl ?_
  refine sv_get hF 24 (by decide) rfl lf_RX6_68 (.ref 524) rfl dX6_vote_227 ?_
  refine am_go hF sgX6_vote_230_840bf 231 [(0, .ref 465), (1, .int (nI k)), (2, .int (nI p)), (3, .int 1)] [.int (nI k), .ref 524] sgX6_vote_230_840bfd rfl ?_
  refine sv_iald hF 24 (by decide) ⟨rfl, rfl, by decide⟩ k rfl (show k < 80 by omega) dX6_vote_231 ?_
  exact am_iret hF hO hret rfl dX6_vote_232 ⟨rfl, rfl⟩
set_option maxRecDepth 100000 in
set_option maxHeartbeats 4000000 in
theorem c_r_vote_6 {G : am_S} {T S : am_T} {o : Nat → Int64} {m : Nat} (hm : S 17 0 = nI m) (hm80 : m ≤ 80) {k : Nat} (hk : k < m) {p : Nat} (hp9 : p < 16) (ho : ¬ S 27 k = 0) (hj : S 28 k >>> (nI p &&& 31) &&& 1 = 1) (h1 : ¬ S 29 k + 1 = 2) (h2 : ¬ S 30 k + 0 = 2) : am_D G yX6_vote (.code yX6_vote cX6_vote 5 (some .int) :: am_G) { frames := 5, cells := 0, slots := 0, locals := 121 } (hp T S o) [.ref 465, .int (nI k), .int (nI p), .int 1] (hp T (st1 (st1 (st1 (st1 (st1 (st1 (st1 S 0 0 0) 0 0 0) 2 0 ((S 2 0) + 1)) 28 k ((S 28 k) &&& ((1 <<< ((nI p) &&& 31)) ^^^ (-1)))) 5 p ((S 5 p) + 1)) 29 k ((S 29 k) + 1)) 30 k ((S 30 k) + 0)) o) (some (.int (S 24 k))) := by
  refine am_of (by decide +kernel) (Nat.le_of_ble_eq_true rfl) ?_
  intro C hse hret hname hF hO
  subst hse
  refine am_go hF sgX6_vote_0_6b3ba 3 [(0, .ref 465), (1, .int (nI k)), (2, .int (nI p)), (3, .int 1)] [.int (nI k), .ref 465, .ref 465] sgX6_vote_0_6b3bad rfl ?_
  refine am_dV hF hO [.int (nI k)] [.ref 465] (c_isMail_t (S := S) hm hm80 (show k < m by omega) rfl) myX6_isMail vyX6_isMail lm_RX6_161 (hp_m _ _ _) rfl rfl 0 0 ⟨Nat.le_of_ble_eq_true rfl, Nat.le_of_ble_eq_true rfl⟩ ⟨Nat.le_of_ble_eq_true rfl, Nat.le_of_ble_eq_true rfl, Nat.le_of_ble_eq_true rfl, Nat.le_of_ble_eq_true rfl⟩ rfl (am_lv_ref (hp_m _ _ _) (am_lv_int (am_lv_int (am_lv_int (am_lv_ref (hp_m _ _ _) am_lv_nil))))) (Nat.le_of_ble_eq_true rfl) dX6_vote_3 [.int 1, .ref 465] rfl ?_
  refine am_ifeq hF 20 dX6_vote_6 (by decide) (fun h9 => False.elim ((by revert h9; decide))) (fun _ => ?_)
  refine am_go hF sgX6_vote_9_f8a59 10 [(0, .ref 465), (1, .int (nI k)), (2, .int (nI p)), (3, .int 1)] [.int (nI p), .ref 465] sgX6_vote_9_f8a59d rfl ?_
  refine am_dS hF hO [.int (nI p)] [.ref 465] (c_isPerson_t (show p < 16 by omega) rfl) myX6_isPerson syX6_isPerson lm_RX6_118 rfl 0 0 ⟨Nat.le_of_ble_eq_true rfl, Nat.le_of_ble_eq_true rfl⟩ ⟨Nat.le_of_ble_eq_true rfl, Nat.le_of_ble_eq_true rfl, Nat.le_of_ble_eq_true rfl, Nat.le_of_ble_eq_true rfl⟩ rfl (am_lv_ref (hp_m _ _ _) (am_lv_int (am_lv_int (am_lv_int (am_lv_ref (hp_m _ _ _) am_lv_nil))))) (Nat.le_of_ble_eq_true rfl) dX6_vote_10 [.int 1, .ref 465] rfl ?_
  refine am_ifeq hF 20 dX6_vote_13 (by decide) (fun h9 => False.elim ((by revert h9; decide))) (fun _ => ?_)
  refine am_go hF sgX6_vote_16_1cbe9 21 [(0, .ref 465), (1, .int (nI k)), (2, .int (nI p)), (3, .int 1)] [.int 0, .ref 465] sgX6_vote_16_1cbe9d rfl ?_
  refine sv_put hF 0 (by decide) rfl rfl rfl lf_RX6_104 dX6_vote_21 ?_
  refine am_go hF sgX6_vote_24_34db8 25 [(0, .ref 465), (1, .int (nI k)), (2, .int (nI p)), (3, .int 1)] [.ref 465] sgX6_vote_24_34db8d rfl ?_
  refine sv_get hF 0 (by decide) rfl lf_RX6_104 (.int 0) rfl dX6_vote_25 ?_
  refine am_ifle hF 33 dX6_vote_28 (by decide) (fun _ => ?_) (fun h9 => False.elim ((by revert h9; decide)))
  refine am_go hF sgX6_vote_33_c81f7 35 [(0, .ref 465), (1, .int (nI k)), (2, .int (nI p)), (3, .int 1)] [.ref 465, .ref 465] sgX6_vote_33_c81f7d rfl ?_
  refine sv_get hF 27 (by decide) rfl lf_RX6_77 (.ref 527) rfl dX6_vote_35 ?_
  refine am_go hF sgX6_vote_38_840bf 39 [(0, .ref 465), (1, .int (nI k)), (2, .int (nI p)), (3, .int 1)] [.int (nI k), .ref 527, .ref 465] sgX6_vote_38_840bfd rfl ?_
  refine sv_zald hF 27 (by decide) ⟨rfl, rfl, by decide⟩ k rfl (show k < 80 by omega) dX6_vote_39 ?_
  refine am_top (S 27 k) rfl ?_
  refine am_ifeq hF 61 dX6_vote_40 (by decide) (fun h9 => False.elim (absurd h9 ho)) (fun _ => ?_)
  refine am_go hF sgX6_vote_43_34db8 44 [(0, .ref 465), (1, .int (nI k)), (2, .int (nI p)), (3, .int 1)] [.ref 465, .ref 465] sgX6_vote_43_34db8d rfl ?_
  refine sv_get hF 28 (by decide) rfl lf_RX6_80 (.ref 528) rfl dX6_vote_44 ?_
  refine am_go hF sgX6_vote_47_840bf 48 [(0, .ref 465), (1, .int (nI k)), (2, .int (nI p)), (3, .int 1)] [.int (nI k), .ref 528, .ref 465] sgX6_vote_47_840bfd rfl ?_
  refine sv_iald hF 28 (by decide) ⟨rfl, rfl, by decide⟩ k rfl (show k < 80 by omega) dX6_vote_48 ?_
  refine am_top (S 28 k) rfl ?_
  refine am_go hF sgX6_vote_49_89201 54 [(0, .ref 465), (1, .int (nI k)), (2, .int (nI p)), (3, .int 1)] [.int 1, .int (((S 28 k) >>> ((nI p) &&& 31)) &&& 1), .ref 465] sgX6_vote_49_89201d rfl ?_
  refine am_icmpne hF 61 dX6_vote_54 (by decide) (fun h9 => False.elim (absurd hj h9)) (fun _ => ?_)
  refine am_go hF sgX6_vote_57_1cbe9 62 [(0, .ref 465), (1, .int (nI k)), (2, .int (nI p)), (3, .int 1)] [.int 0, .ref 465] sgX6_vote_57_1cbe9d rfl ?_
  refine sv_put hF 0 (by decide) rfl rfl rfl lf_RX6_104 dX6_vote_62 ?_
  refine am_go hF sgX6_vote_65_34db8 66 [(0, .ref 465), (1, .int (nI k)), (2, .int (nI p)), (3, .int 1)] [.ref 465] sgX6_vote_65_34db8d rfl ?_
  refine sv_get hF 0 (by decide) rfl lf_RX6_104 (.int 0) rfl dX6_vote_66 ?_
  refine am_ifle hF 74 dX6_vote_69 (by decide) (fun _ => ?_) (fun h9 => False.elim ((by revert h9; decide)))
  refine am_go hF sgX6_vote_74_da752 76 [(0, .ref 465), (1, .int (nI k)), (2, .int (nI p)), (3, .int 1)] [.ref 465, .ref 465] sgX6_vote_74_da752d rfl ?_
  refine sv_get hF 2 (by decide) rfl lf_RX6_150 (.int (S 2 0)) rfl dX6_vote_76 ?_
  refine am_go hF sgX6_vote_79_c7176 81 [(0, .ref 465), (1, .int (nI k)), (2, .int (nI p)), (3, .int 1)] [.int ((S 2 0) + 1), .ref 465] sgX6_vote_79_c7176d rfl ?_
  refine sv_put hF 2 (by decide) rfl rfl rfl lf_RX6_150 dX6_vote_81 ?_
  refine am_go hF sgX6_vote_84_34db8 85 [(0, .ref 465), (1, .int (nI k)), (2, .int (nI p)), (3, .int 1)] [.ref 465] sgX6_vote_84_34db8d rfl ?_
  refine sv_get hF 28 (by decide) rfl lf_RX6_80 (.ref 528) rfl dX6_vote_85 ?_
  refine am_go hF sgX6_vote_88_563cd 90 [(0, .ref 465), (1, .int (nI k)), (2, .int (nI p)), (3, .int 1)] [.int (nI k), .ref 528, .int (nI k), .ref 528] sgX6_vote_88_563cdd rfl ?_
  refine sv_iald hF 28 (by decide) ⟨rfl, rfl, by decide⟩ k rfl (show k < 80 by omega) dX6_vote_90 ?_
  refine am_top (S 28 k) rfl ?_
  refine am_go hF sgX6_vote_91_d85c9 97 [(0, .ref 465), (1, .int (nI k)), (2, .int (nI p)), (3, .int 1)] [.int ((S 28 k) &&& ((1 <<< ((nI p) &&& 31)) ^^^ (-1))), .int (nI k), .ref 528] sgX6_vote_91_d85c9d rfl ?_
  refine sv_iast hF 28 (by decide) ⟨rfl, rfl, by decide⟩ k rfl (show k < 80 by omega) dX6_vote_97 ?_
  refine am_go hF sgX6_vote_98_34db8 99 [(0, .ref 465), (1, .int (nI k)), (2, .int (nI p)), (3, .int 1)] [.ref 465] sgX6_vote_98_34db8d rfl ?_
  refine sv_get hF 5 (by decide) rfl lf_RX6_16 (.ref 505) rfl dX6_vote_99 ?_
  refine am_go hF sgX6_vote_102_9241e 104 [(0, .ref 465), (1, .int (nI k)), (2, .int (nI p)), (3, .int 1)] [.int (nI p), .ref 505, .int (nI p), .ref 505] sgX6_vote_102_9241ed rfl ?_
  refine sv_iald hF 5 (by decide) ⟨rfl, rfl, by decide⟩ p rfl (show p < 16 by omega) dX6_vote_104 ?_
  refine am_top (S 5 p) rfl ?_
  refine am_go hF sgX6_vote_105_c7176 107 [(0, .ref 465), (1, .int (nI k)), (2, .int (nI p)), (3, .int 1)] [.int ((S 5 p) + 1), .int (nI p), .ref 505] sgX6_vote_105_c7176d rfl ?_
  refine sv_iast hF 5 (by decide) ⟨rfl, rfl, by decide⟩ p rfl (show p < 16 by omega) dX6_vote_107 ?_
  refine am_go hF sgX6_vote_108_34db8 109 [(0, .ref 465), (1, .int (nI k)), (2, .int (nI p)), (3, .int 1)] [.ref 465] sgX6_vote_108_34db8d rfl ?_
  refine sv_get hF 29 (by decide) rfl lf_RX6_83 (.ref 529) rfl dX6_vote_109 ?_
  refine am_go hF sgX6_vote_112_563cd 114 [(0, .ref 465), (1, .int (nI k)), (2, .int (nI p)), (3, .int 1)] [.int (nI k), .ref 529, .int (nI k), .ref 529] sgX6_vote_112_563cdd rfl ?_
  refine sv_iald hF 29 (by decide) ⟨rfl, rfl, by decide⟩ k rfl (show k < 80 by omega) dX6_vote_114 ?_
  refine am_top (S 29 k) rfl ?_
  refine am_go hF sgX6_vote_115_13b50 116 [(0, .ref 465), (1, .int (nI k)), (2, .int (nI p)), (3, .int 1)] [.int 1, .int (S 29 k), .int (nI k), .ref 529] sgX6_vote_115_13b50d rfl ?_
  refine am_ifeq hF 123 dX6_vote_116 (by decide) (fun h9 => False.elim ((by revert h9; decide))) (fun _ => ?_)
  refine am_go hF sgX6_vote_119_6f86b 125 [(0, .ref 465), (1, .int (nI k)), (2, .int (nI p)), (3, .int 1)] [.int ((S 29 k) + 1), .int (nI k), .ref 529] sgX6_vote_119_6f86bd rfl ?_
  refine sv_iast hF 29 (by decide) ⟨rfl, rfl, by decide⟩ k rfl (show k < 80 by omega) dX6_vote_125 ?_
  refine am_go hF sgX6_vote_126_34db8 127 [(0, .ref 465), (1, .int (nI k)), (2, .int (nI p)), (3, .int 1)] [.ref 465] sgX6_vote_126_34db8d rfl ?_
  refine sv_get hF 30 (by decide) rfl lf_RX6_86 (.ref 530) rfl dX6_vote_127 ?_
  refine am_go hF sgX6_vote_130_563cd 132 [(0, .ref 465), (1, .int (nI k)), (2, .int (nI p)), (3, .int 1)] [.int (nI k), .ref 530, .int (nI k), .ref 530] sgX6_vote_130_563cdd rfl ?_
  refine sv_iald hF 30 (by decide) ⟨rfl, rfl, by decide⟩ k rfl (show k < 80 by omega) dX6_vote_132 ?_
  refine am_top (S 30 k) rfl ?_
  refine am_go hF sgX6_vote_133_13b50 134 [(0, .ref 465), (1, .int (nI k)), (2, .int (nI p)), (3, .int 1)] [.int 1, .int (S 30 k), .int (nI k), .ref 530] sgX6_vote_133_13b50d rfl ?_
  refine am_ifeq hF 141 dX6_vote_134 (by decide) (fun h9 => False.elim ((by revert h9; decide))) (fun _ => ?_)
  refine am_go hF sgX6_vote_137_b56a7 143 [(0, .ref 465), (1, .int (nI k)), (2, .int (nI p)), (3, .int 1)] [.int ((S 30 k) + 0), .int (nI k), .ref 530] sgX6_vote_137_b56a7d rfl ?_
  refine sv_iast hF 30 (by decide) ⟨rfl, rfl, by decide⟩ k rfl (show k < 80 by omega) dX6_vote_143 ?_
  refine am_go hF sgX6_vote_144_34db8 145 [(0, .ref 465), (1, .int (nI k)), (2, .int (nI p)), (3, .int 1)] [.ref 465] sgX6_vote_144_34db8d rfl ?_
  refine sv_get hF 29 (by decide) rfl lf_RX6_83 (.ref 529) rfl dX6_vote_145 ?_
  refine am_go hF sgX6_vote_148_840bf 149 [(0, .ref 465), (1, .int (nI k)), (2, .int (nI p)), (3, .int 1)] [.int (nI k), .ref 529] sgX6_vote_148_840bfd rfl ?_
  refine sv_iald hF 29 (by decide) ⟨rfl, rfl, by decide⟩ k rfl (show k < 80 by omega) dX6_vote_149 ?_
  refine am_top ((S 29 k) + 1) (st1_same (st1 (st1 (st1 (st1 (st1 S 0 0 0) 0 0 0) 2 0 ((S 2 0) + 1)) 28 k ((S 28 k) &&& ((1 <<< ((nI p) &&& 31)) ^^^ (-1)))) 5 p ((S 5 p) + 1)) 29 k ((S 29 k) + 1)) ?_
  refine am_go hF sgX6_vote_150_d5620 151 [(0, .ref 465), (1, .int (nI k)), (2, .int (nI p)), (3, .int 1)] [.int 2, .int ((S 29 k) + 1)] sgX6_vote_150_d5620d rfl ?_
  refine am_icmpne hF 162 dX6_vote_151 (by decide) (fun _ => ?_) (fun h9 => False.elim (absurd h9 h1))
  refine am_go hF sgX6_vote_162_34db8 163 [(0, .ref 465), (1, .int (nI k)), (2, .int (nI p)), (3, .int 1)] [.ref 465] sgX6_vote_162_34db8d rfl ?_
  refine sv_get hF 30 (by decide) rfl lf_RX6_86 (.ref 530) rfl dX6_vote_163 ?_
  refine am_go hF sgX6_vote_166_840bf 167 [(0, .ref 465), (1, .int (nI k)), (2, .int (nI p)), (3, .int 1)] [.int (nI k), .ref 530] sgX6_vote_166_840bfd rfl ?_
  refine sv_iald hF 30 (by decide) ⟨rfl, rfl, by decide⟩ k rfl (show k < 80 by omega) dX6_vote_167 ?_
  refine am_top ((S 30 k) + 0) (st1_same (st1 (st1 (st1 (st1 (st1 (st1 S 0 0 0) 0 0 0) 2 0 ((S 2 0) + 1)) 28 k ((S 28 k) &&& ((1 <<< ((nI p) &&& 31)) ^^^ (-1)))) 5 p ((S 5 p) + 1)) 29 k ((S 29 k) + 1)) 30 k ((S 30 k) + 0)) ?_
  refine am_go hF sgX6_vote_168_d5620 169 [(0, .ref 465), (1, .int (nI k)), (2, .int (nI p)), (3, .int 1)] [.int 2, .int ((S 30 k) + 0)] sgX6_vote_168_d5620d rfl ?_
  refine am_icmpne hF 226 dX6_vote_169 (by decide) (fun _ => ?_) (fun h9 => False.elim (absurd h9 h2))
  refine am_go hF sgX6_vote_226_34db8 227 [(0, .ref 465), (1, .int (nI k)), (2, .int (nI p)), (3, .int 1)] [.ref 465] sgX6_vote_226_34db8d rfl ?_
  refine sv_get hF 24 (by decide) rfl lf_RX6_68 (.ref 524) rfl dX6_vote_227 ?_
  refine am_go hF sgX6_vote_230_840bf 231 [(0, .ref 465), (1, .int (nI k)), (2, .int (nI p)), (3, .int 1)] [.int (nI k), .ref 524] sgX6_vote_230_840bfd rfl ?_
  refine sv_iald hF 24 (by decide) ⟨rfl, rfl, by decide⟩ k rfl (show k < 80 by omega) dX6_vote_231 ?_
  refine am_top (S 24 k) rfl ?_
  exact am_iret hF hO hret rfl dX6_vote_232 ⟨rfl, rfl⟩
set_option maxRecDepth 100000 in
set_option maxHeartbeats 4000000 in
theorem c_r_vote_7 {G : am_S} {T S : am_T} {o : Nat → Int64} {m : Nat} (hm : S 17 0 = nI m) (hm80 : m ≤ 80) {k : Nat} (hk : k < m) {p : Nat} (hp9 : p < 16) (ho : ¬ S 27 k = 0) (hj : S 28 k >>> (nI p &&& 31) &&& 1 = 1) (h1 : ¬ S 29 k + 0 = 2) (h2 : ¬ S 30 k + 1 = 2) : am_D G yX6_vote (.code yX6_vote cX6_vote 5 (some .int) :: am_G) { frames := 5, cells := 0, slots := 0, locals := 121 } (hp T S o) [.ref 465, .int (nI k), .int (nI p), .int 0] (hp T (st1 (st1 (st1 (st1 (st1 (st1 (st1 S 0 0 0) 0 0 0) 2 0 ((S 2 0) + 1)) 28 k ((S 28 k) &&& ((1 <<< ((nI p) &&& 31)) ^^^ (-1)))) 5 p ((S 5 p) + 1)) 29 k ((S 29 k) + 0)) 30 k ((S 30 k) + 1)) o) (some (.int (S 24 k))) := by
  refine am_of (by decide +kernel) (Nat.le_of_ble_eq_true rfl) ?_
  intro C hse hret hname hF hO
  subst hse
  refine am_go hF sgX6_vote_0_6b3ba 3 [(0, .ref 465), (1, .int (nI k)), (2, .int (nI p)), (3, .int 0)] [.int (nI k), .ref 465, .ref 465] sgX6_vote_0_6b3bad rfl ?_
  refine am_dV hF hO [.int (nI k)] [.ref 465] (c_isMail_t (S := S) hm hm80 (show k < m by omega) rfl) myX6_isMail vyX6_isMail lm_RX6_161 (hp_m _ _ _) rfl rfl 0 0 ⟨Nat.le_of_ble_eq_true rfl, Nat.le_of_ble_eq_true rfl⟩ ⟨Nat.le_of_ble_eq_true rfl, Nat.le_of_ble_eq_true rfl, Nat.le_of_ble_eq_true rfl, Nat.le_of_ble_eq_true rfl⟩ rfl (am_lv_ref (hp_m _ _ _) (am_lv_int (am_lv_int (am_lv_int (am_lv_ref (hp_m _ _ _) am_lv_nil))))) (Nat.le_of_ble_eq_true rfl) dX6_vote_3 [.int 1, .ref 465] rfl ?_
  refine am_ifeq hF 20 dX6_vote_6 (by decide) (fun h9 => False.elim ((by revert h9; decide))) (fun _ => ?_)
  refine am_go hF sgX6_vote_9_f8a59 10 [(0, .ref 465), (1, .int (nI k)), (2, .int (nI p)), (3, .int 0)] [.int (nI p), .ref 465] sgX6_vote_9_f8a59d rfl ?_
  refine am_dS hF hO [.int (nI p)] [.ref 465] (c_isPerson_t (show p < 16 by omega) rfl) myX6_isPerson syX6_isPerson lm_RX6_118 rfl 0 0 ⟨Nat.le_of_ble_eq_true rfl, Nat.le_of_ble_eq_true rfl⟩ ⟨Nat.le_of_ble_eq_true rfl, Nat.le_of_ble_eq_true rfl, Nat.le_of_ble_eq_true rfl, Nat.le_of_ble_eq_true rfl⟩ rfl (am_lv_ref (hp_m _ _ _) (am_lv_int (am_lv_int (am_lv_int (am_lv_ref (hp_m _ _ _) am_lv_nil))))) (Nat.le_of_ble_eq_true rfl) dX6_vote_10 [.int 1, .ref 465] rfl ?_
  refine am_ifeq hF 20 dX6_vote_13 (by decide) (fun h9 => False.elim ((by revert h9; decide))) (fun _ => ?_)
  refine am_go hF sgX6_vote_16_1cbe9 21 [(0, .ref 465), (1, .int (nI k)), (2, .int (nI p)), (3, .int 0)] [.int 0, .ref 465] sgX6_vote_16_1cbe9d rfl ?_
  refine sv_put hF 0 (by decide) rfl rfl rfl lf_RX6_104 dX6_vote_21 ?_
  refine am_go hF sgX6_vote_24_34db8 25 [(0, .ref 465), (1, .int (nI k)), (2, .int (nI p)), (3, .int 0)] [.ref 465] sgX6_vote_24_34db8d rfl ?_
  refine sv_get hF 0 (by decide) rfl lf_RX6_104 (.int 0) rfl dX6_vote_25 ?_
  refine am_ifle hF 33 dX6_vote_28 (by decide) (fun _ => ?_) (fun h9 => False.elim ((by revert h9; decide)))
  refine am_go hF sgX6_vote_33_c81f7 35 [(0, .ref 465), (1, .int (nI k)), (2, .int (nI p)), (3, .int 0)] [.ref 465, .ref 465] sgX6_vote_33_c81f7d rfl ?_
  refine sv_get hF 27 (by decide) rfl lf_RX6_77 (.ref 527) rfl dX6_vote_35 ?_
  refine am_go hF sgX6_vote_38_840bf 39 [(0, .ref 465), (1, .int (nI k)), (2, .int (nI p)), (3, .int 0)] [.int (nI k), .ref 527, .ref 465] sgX6_vote_38_840bfd rfl ?_
  refine sv_zald hF 27 (by decide) ⟨rfl, rfl, by decide⟩ k rfl (show k < 80 by omega) dX6_vote_39 ?_
  refine am_top (S 27 k) rfl ?_
  refine am_ifeq hF 61 dX6_vote_40 (by decide) (fun h9 => False.elim (absurd h9 ho)) (fun _ => ?_)
  refine am_go hF sgX6_vote_43_34db8 44 [(0, .ref 465), (1, .int (nI k)), (2, .int (nI p)), (3, .int 0)] [.ref 465, .ref 465] sgX6_vote_43_34db8d rfl ?_
  refine sv_get hF 28 (by decide) rfl lf_RX6_80 (.ref 528) rfl dX6_vote_44 ?_
  refine am_go hF sgX6_vote_47_840bf 48 [(0, .ref 465), (1, .int (nI k)), (2, .int (nI p)), (3, .int 0)] [.int (nI k), .ref 528, .ref 465] sgX6_vote_47_840bfd rfl ?_
  refine sv_iald hF 28 (by decide) ⟨rfl, rfl, by decide⟩ k rfl (show k < 80 by omega) dX6_vote_48 ?_
  refine am_top (S 28 k) rfl ?_
  refine am_go hF sgX6_vote_49_89201 54 [(0, .ref 465), (1, .int (nI k)), (2, .int (nI p)), (3, .int 0)] [.int 1, .int (((S 28 k) >>> ((nI p) &&& 31)) &&& 1), .ref 465] sgX6_vote_49_89201d rfl ?_
  refine am_icmpne hF 61 dX6_vote_54 (by decide) (fun h9 => False.elim (absurd hj h9)) (fun _ => ?_)
  refine am_go hF sgX6_vote_57_1cbe9 62 [(0, .ref 465), (1, .int (nI k)), (2, .int (nI p)), (3, .int 0)] [.int 0, .ref 465] sgX6_vote_57_1cbe9d rfl ?_
  refine sv_put hF 0 (by decide) rfl rfl rfl lf_RX6_104 dX6_vote_62 ?_
  refine am_go hF sgX6_vote_65_34db8 66 [(0, .ref 465), (1, .int (nI k)), (2, .int (nI p)), (3, .int 0)] [.ref 465] sgX6_vote_65_34db8d rfl ?_
  refine sv_get hF 0 (by decide) rfl lf_RX6_104 (.int 0) rfl dX6_vote_66 ?_
  refine am_ifle hF 74 dX6_vote_69 (by decide) (fun _ => ?_) (fun h9 => False.elim ((by revert h9; decide)))
  refine am_go hF sgX6_vote_74_da752 76 [(0, .ref 465), (1, .int (nI k)), (2, .int (nI p)), (3, .int 0)] [.ref 465, .ref 465] sgX6_vote_74_da752d rfl ?_
  refine sv_get hF 2 (by decide) rfl lf_RX6_150 (.int (S 2 0)) rfl dX6_vote_76 ?_
  refine am_go hF sgX6_vote_79_c7176 81 [(0, .ref 465), (1, .int (nI k)), (2, .int (nI p)), (3, .int 0)] [.int ((S 2 0) + 1), .ref 465] sgX6_vote_79_c7176d rfl ?_
  refine sv_put hF 2 (by decide) rfl rfl rfl lf_RX6_150 dX6_vote_81 ?_
  refine am_go hF sgX6_vote_84_34db8 85 [(0, .ref 465), (1, .int (nI k)), (2, .int (nI p)), (3, .int 0)] [.ref 465] sgX6_vote_84_34db8d rfl ?_
  refine sv_get hF 28 (by decide) rfl lf_RX6_80 (.ref 528) rfl dX6_vote_85 ?_
  refine am_go hF sgX6_vote_88_563cd 90 [(0, .ref 465), (1, .int (nI k)), (2, .int (nI p)), (3, .int 0)] [.int (nI k), .ref 528, .int (nI k), .ref 528] sgX6_vote_88_563cdd rfl ?_
  refine sv_iald hF 28 (by decide) ⟨rfl, rfl, by decide⟩ k rfl (show k < 80 by omega) dX6_vote_90 ?_
  refine am_top (S 28 k) rfl ?_
  refine am_go hF sgX6_vote_91_d85c9 97 [(0, .ref 465), (1, .int (nI k)), (2, .int (nI p)), (3, .int 0)] [.int ((S 28 k) &&& ((1 <<< ((nI p) &&& 31)) ^^^ (-1))), .int (nI k), .ref 528] sgX6_vote_91_d85c9d rfl ?_
  refine sv_iast hF 28 (by decide) ⟨rfl, rfl, by decide⟩ k rfl (show k < 80 by omega) dX6_vote_97 ?_
  refine am_go hF sgX6_vote_98_34db8 99 [(0, .ref 465), (1, .int (nI k)), (2, .int (nI p)), (3, .int 0)] [.ref 465] sgX6_vote_98_34db8d rfl ?_
  refine sv_get hF 5 (by decide) rfl lf_RX6_16 (.ref 505) rfl dX6_vote_99 ?_
  refine am_go hF sgX6_vote_102_9241e 104 [(0, .ref 465), (1, .int (nI k)), (2, .int (nI p)), (3, .int 0)] [.int (nI p), .ref 505, .int (nI p), .ref 505] sgX6_vote_102_9241ed rfl ?_
  refine sv_iald hF 5 (by decide) ⟨rfl, rfl, by decide⟩ p rfl (show p < 16 by omega) dX6_vote_104 ?_
  refine am_top (S 5 p) rfl ?_
  refine am_go hF sgX6_vote_105_c7176 107 [(0, .ref 465), (1, .int (nI k)), (2, .int (nI p)), (3, .int 0)] [.int ((S 5 p) + 1), .int (nI p), .ref 505] sgX6_vote_105_c7176d rfl ?_
  refine sv_iast hF 5 (by decide) ⟨rfl, rfl, by decide⟩ p rfl (show p < 16 by omega) dX6_vote_107 ?_
  refine am_go hF sgX6_vote_108_34db8 109 [(0, .ref 465), (1, .int (nI k)), (2, .int (nI p)), (3, .int 0)] [.ref 465] sgX6_vote_108_34db8d rfl ?_
  refine sv_get hF 29 (by decide) rfl lf_RX6_83 (.ref 529) rfl dX6_vote_109 ?_
  refine am_go hF sgX6_vote_112_563cd 114 [(0, .ref 465), (1, .int (nI k)), (2, .int (nI p)), (3, .int 0)] [.int (nI k), .ref 529, .int (nI k), .ref 529] sgX6_vote_112_563cdd rfl ?_
  refine sv_iald hF 29 (by decide) ⟨rfl, rfl, by decide⟩ k rfl (show k < 80 by omega) dX6_vote_114 ?_
  refine am_top (S 29 k) rfl ?_
  refine am_go hF sgX6_vote_115_13b50 116 [(0, .ref 465), (1, .int (nI k)), (2, .int (nI p)), (3, .int 0)] [.int 0, .int (S 29 k), .int (nI k), .ref 529] sgX6_vote_115_13b50d rfl ?_
  refine am_ifeq hF 123 dX6_vote_116 (by decide) (fun _ => ?_) (fun h9 => False.elim ((by revert h9; decide)))
  refine am_go hF sgX6_vote_123_44594 125 [(0, .ref 465), (1, .int (nI k)), (2, .int (nI p)), (3, .int 0)] [.int ((S 29 k) + 0), .int (nI k), .ref 529] sgX6_vote_123_44594d rfl ?_
  refine sv_iast hF 29 (by decide) ⟨rfl, rfl, by decide⟩ k rfl (show k < 80 by omega) dX6_vote_125 ?_
  refine am_go hF sgX6_vote_126_34db8 127 [(0, .ref 465), (1, .int (nI k)), (2, .int (nI p)), (3, .int 0)] [.ref 465] sgX6_vote_126_34db8d rfl ?_
  refine sv_get hF 30 (by decide) rfl lf_RX6_86 (.ref 530) rfl dX6_vote_127 ?_
  refine am_go hF sgX6_vote_130_563cd 132 [(0, .ref 465), (1, .int (nI k)), (2, .int (nI p)), (3, .int 0)] [.int (nI k), .ref 530, .int (nI k), .ref 530] sgX6_vote_130_563cdd rfl ?_
  refine sv_iald hF 30 (by decide) ⟨rfl, rfl, by decide⟩ k rfl (show k < 80 by omega) dX6_vote_132 ?_
  refine am_top (S 30 k) rfl ?_
  refine am_go hF sgX6_vote_133_13b50 134 [(0, .ref 465), (1, .int (nI k)), (2, .int (nI p)), (3, .int 0)] [.int 0, .int (S 30 k), .int (nI k), .ref 530] sgX6_vote_133_13b50d rfl ?_
  refine am_ifeq hF 141 dX6_vote_134 (by decide) (fun _ => ?_) (fun h9 => False.elim ((by revert h9; decide)))
  refine am_go hF sgX6_vote_141_c7176 143 [(0, .ref 465), (1, .int (nI k)), (2, .int (nI p)), (3, .int 0)] [.int ((S 30 k) + 1), .int (nI k), .ref 530] sgX6_vote_141_c7176d rfl ?_
  refine sv_iast hF 30 (by decide) ⟨rfl, rfl, by decide⟩ k rfl (show k < 80 by omega) dX6_vote_143 ?_
  refine am_go hF sgX6_vote_144_34db8 145 [(0, .ref 465), (1, .int (nI k)), (2, .int (nI p)), (3, .int 0)] [.ref 465] sgX6_vote_144_34db8d rfl ?_
  refine sv_get hF 29 (by decide) rfl lf_RX6_83 (.ref 529) rfl dX6_vote_145 ?_
  refine am_go hF sgX6_vote_148_840bf 149 [(0, .ref 465), (1, .int (nI k)), (2, .int (nI p)), (3, .int 0)] [.int (nI k), .ref 529] sgX6_vote_148_840bfd rfl ?_
  refine sv_iald hF 29 (by decide) ⟨rfl, rfl, by decide⟩ k rfl (show k < 80 by omega) dX6_vote_149 ?_
  refine am_top ((S 29 k) + 0) (st1_same (st1 (st1 (st1 (st1 (st1 S 0 0 0) 0 0 0) 2 0 ((S 2 0) + 1)) 28 k ((S 28 k) &&& ((1 <<< ((nI p) &&& 31)) ^^^ (-1)))) 5 p ((S 5 p) + 1)) 29 k ((S 29 k) + 0)) ?_
  refine am_go hF sgX6_vote_150_d5620 151 [(0, .ref 465), (1, .int (nI k)), (2, .int (nI p)), (3, .int 0)] [.int 2, .int ((S 29 k) + 0)] sgX6_vote_150_d5620d rfl ?_
  refine am_icmpne hF 162 dX6_vote_151 (by decide) (fun _ => ?_) (fun h9 => False.elim (absurd h9 h1))
  refine am_go hF sgX6_vote_162_34db8 163 [(0, .ref 465), (1, .int (nI k)), (2, .int (nI p)), (3, .int 0)] [.ref 465] sgX6_vote_162_34db8d rfl ?_
  refine sv_get hF 30 (by decide) rfl lf_RX6_86 (.ref 530) rfl dX6_vote_163 ?_
  refine am_go hF sgX6_vote_166_840bf 167 [(0, .ref 465), (1, .int (nI k)), (2, .int (nI p)), (3, .int 0)] [.int (nI k), .ref 530] sgX6_vote_166_840bfd rfl ?_
  refine sv_iald hF 30 (by decide) ⟨rfl, rfl, by decide⟩ k rfl (show k < 80 by omega) dX6_vote_167 ?_
  refine am_top ((S 30 k) + 1) (st1_same (st1 (st1 (st1 (st1 (st1 (st1 S 0 0 0) 0 0 0) 2 0 ((S 2 0) + 1)) 28 k ((S 28 k) &&& ((1 <<< ((nI p) &&& 31)) ^^^ (-1)))) 5 p ((S 5 p) + 1)) 29 k ((S 29 k) + 0)) 30 k ((S 30 k) + 1)) ?_
  refine am_go hF sgX6_vote_168_d5620 169 [(0, .ref 465), (1, .int (nI k)), (2, .int (nI p)), (3, .int 0)] [.int 2, .int ((S 30 k) + 1)] sgX6_vote_168_d5620d rfl ?_
  refine am_icmpne hF 226 dX6_vote_169 (by decide) (fun _ => ?_) (fun h9 => False.elim (absurd h9 h2))
  refine am_go hF sgX6_vote_226_34db8 227 [(0, .ref 465), (1, .int (nI k)), (2, .int (nI p)), (3, .int 0)] [.ref 465] sgX6_vote_226_34db8d rfl ?_
  refine sv_get hF 24 (by decide) rfl lf_RX6_68 (.ref 524) rfl dX6_vote_227 ?_
  refine am_go hF sgX6_vote_230_840bf 231 [(0, .ref 465), (1, .int (nI k)), (2, .int (nI p)), (3, .int 0)] [.int (nI k), .ref 524] sgX6_vote_230_840bfd rfl ?_
  refine sv_iald hF 24 (by decide) ⟨rfl, rfl, by decide⟩ k rfl (show k < 80 by omega) dX6_vote_231 ?_
  refine am_top (S 24 k) rfl ?_
  exact am_iret hF hO hret rfl dX6_vote_232 ⟨rfl, rfl⟩
set_option maxRecDepth 100000 in
set_option maxHeartbeats 4000000 in
theorem c_r_vote_8 {G : am_S} {T S : am_T} {o : Nat → Int64} {m : Nat} (hm : S 17 0 = nI m) (hm80 : m ≤ 80) {k : Nat} (hk : k < m) {p : Nat} (hp9 : p < 16) (ho : ¬ S 27 k = 0) (hj : S 28 k >>> (nI p &&& 31) &&& 1 = 1) {sp : Nat} (hsp9 : sp < 16) (hsp : S 18 k = nI sp) (h1 : ¬ S 29 k + 0 = 2) (h2 : S 30 k + 1 = 2) (h3 : S 4 sp + 5 ≤ 100) : am_D G yX6_vote (.code yX6_vote cX6_vote 5 (some .int) :: am_G) { frames := 5, cells := 0, slots := 0, locals := 121 } (hp T S o) [.ref 465, .int (nI k), .int (nI p), .int 0] (hp T (st1 (st1 (st1 (st1 (st1 (st1 (st1 (st1 (st1 (st1 S 0 0 0) 0 0 0) 2 0 ((S 2 0) + 1)) 28 k ((S 28 k) &&& ((1 <<< ((nI p) &&& 31)) ^^^ (-1)))) 5 p ((S 5 p) + 1)) 29 k ((S 29 k) + 0)) 30 k ((S 30 k) + 1)) 27 k 0) 24 k 3) 4 sp ((S 4 sp) + 5)) o) (some (.int 3)) := by
  refine am_of (by decide +kernel) (Nat.le_of_ble_eq_true rfl) ?_
  intro C hse hret hname hF hO
  subst hse
  refine am_go hF sgX6_vote_0_6b3ba 3 [(0, .ref 465), (1, .int (nI k)), (2, .int (nI p)), (3, .int 0)] [.int (nI k), .ref 465, .ref 465] sgX6_vote_0_6b3bad rfl ?_
  refine am_dV hF hO [.int (nI k)] [.ref 465] (c_isMail_t (S := S) hm hm80 (show k < m by omega) rfl) myX6_isMail vyX6_isMail lm_RX6_161 (hp_m _ _ _) rfl rfl 0 0 ⟨Nat.le_of_ble_eq_true rfl, Nat.le_of_ble_eq_true rfl⟩ ⟨Nat.le_of_ble_eq_true rfl, Nat.le_of_ble_eq_true rfl, Nat.le_of_ble_eq_true rfl, Nat.le_of_ble_eq_true rfl⟩ rfl (am_lv_ref (hp_m _ _ _) (am_lv_int (am_lv_int (am_lv_int (am_lv_ref (hp_m _ _ _) am_lv_nil))))) (Nat.le_of_ble_eq_true rfl) dX6_vote_3 [.int 1, .ref 465] rfl ?_
  refine am_ifeq hF 20 dX6_vote_6 (by decide) (fun h9 => False.elim ((by revert h9; decide))) (fun _ => ?_)
  refine am_go hF sgX6_vote_9_f8a59 10 [(0, .ref 465), (1, .int (nI k)), (2, .int (nI p)), (3, .int 0)] [.int (nI p), .ref 465] sgX6_vote_9_f8a59d rfl ?_
  refine am_dS hF hO [.int (nI p)] [.ref 465] (c_isPerson_t (show p < 16 by omega) rfl) myX6_isPerson syX6_isPerson lm_RX6_118 rfl 0 0 ⟨Nat.le_of_ble_eq_true rfl, Nat.le_of_ble_eq_true rfl⟩ ⟨Nat.le_of_ble_eq_true rfl, Nat.le_of_ble_eq_true rfl, Nat.le_of_ble_eq_true rfl, Nat.le_of_ble_eq_true rfl⟩ rfl (am_lv_ref (hp_m _ _ _) (am_lv_int (am_lv_int (am_lv_int (am_lv_ref (hp_m _ _ _) am_lv_nil))))) (Nat.le_of_ble_eq_true rfl) dX6_vote_10 [.int 1, .ref 465] rfl ?_
  refine am_ifeq hF 20 dX6_vote_13 (by decide) (fun h9 => False.elim ((by revert h9; decide))) (fun _ => ?_)
  refine am_go hF sgX6_vote_16_1cbe9 21 [(0, .ref 465), (1, .int (nI k)), (2, .int (nI p)), (3, .int 0)] [.int 0, .ref 465] sgX6_vote_16_1cbe9d rfl ?_
  refine sv_put hF 0 (by decide) rfl rfl rfl lf_RX6_104 dX6_vote_21 ?_
  refine am_go hF sgX6_vote_24_34db8 25 [(0, .ref 465), (1, .int (nI k)), (2, .int (nI p)), (3, .int 0)] [.ref 465] sgX6_vote_24_34db8d rfl ?_
  refine sv_get hF 0 (by decide) rfl lf_RX6_104 (.int 0) rfl dX6_vote_25 ?_
  refine am_ifle hF 33 dX6_vote_28 (by decide) (fun _ => ?_) (fun h9 => False.elim ((by revert h9; decide)))
  refine am_go hF sgX6_vote_33_c81f7 35 [(0, .ref 465), (1, .int (nI k)), (2, .int (nI p)), (3, .int 0)] [.ref 465, .ref 465] sgX6_vote_33_c81f7d rfl ?_
  refine sv_get hF 27 (by decide) rfl lf_RX6_77 (.ref 527) rfl dX6_vote_35 ?_
  refine am_go hF sgX6_vote_38_840bf 39 [(0, .ref 465), (1, .int (nI k)), (2, .int (nI p)), (3, .int 0)] [.int (nI k), .ref 527, .ref 465] sgX6_vote_38_840bfd rfl ?_
  refine sv_zald hF 27 (by decide) ⟨rfl, rfl, by decide⟩ k rfl (show k < 80 by omega) dX6_vote_39 ?_
  refine am_top (S 27 k) rfl ?_
  refine am_ifeq hF 61 dX6_vote_40 (by decide) (fun h9 => False.elim (absurd h9 ho)) (fun _ => ?_)
  refine am_go hF sgX6_vote_43_34db8 44 [(0, .ref 465), (1, .int (nI k)), (2, .int (nI p)), (3, .int 0)] [.ref 465, .ref 465] sgX6_vote_43_34db8d rfl ?_
  refine sv_get hF 28 (by decide) rfl lf_RX6_80 (.ref 528) rfl dX6_vote_44 ?_
  refine am_go hF sgX6_vote_47_840bf 48 [(0, .ref 465), (1, .int (nI k)), (2, .int (nI p)), (3, .int 0)] [.int (nI k), .ref 528, .ref 465] sgX6_vote_47_840bfd rfl ?_
  refine sv_iald hF 28 (by decide) ⟨rfl, rfl, by decide⟩ k rfl (show k < 80 by omega) dX6_vote_48 ?_
  refine am_top (S 28 k) rfl ?_
  refine am_go hF sgX6_vote_49_89201 54 [(0, .ref 465), (1, .int (nI k)), (2, .int (nI p)), (3, .int 0)] [.int 1, .int (((S 28 k) >>> ((nI p) &&& 31)) &&& 1), .ref 465] sgX6_vote_49_89201d rfl ?_
  refine am_icmpne hF 61 dX6_vote_54 (by decide) (fun h9 => False.elim (absurd hj h9)) (fun _ => ?_)
  refine am_go hF sgX6_vote_57_1cbe9 62 [(0, .ref 465), (1, .int (nI k)), (2, .int (nI p)), (3, .int 0)] [.int 0, .ref 465] sgX6_vote_57_1cbe9d rfl ?_
  refine sv_put hF 0 (by decide) rfl rfl rfl lf_RX6_104 dX6_vote_62 ?_
  refine am_go hF sgX6_vote_65_34db8 66 [(0, .ref 465), (1, .int (nI k)), (2, .int (nI p)), (3, .int 0)] [.ref 465] sgX6_vote_65_34db8d rfl ?_
  refine sv_get hF 0 (by decide) rfl lf_RX6_104 (.int 0) rfl dX6_vote_66 ?_
  refine am_ifle hF 74 dX6_vote_69 (by decide) (fun _ => ?_) (fun h9 => False.elim ((by revert h9; decide)))
  refine am_go hF sgX6_vote_74_da752 76 [(0, .ref 465), (1, .int (nI k)), (2, .int (nI p)), (3, .int 0)] [.ref 465, .ref 465] sgX6_vote_74_da752d rfl ?_
  refine sv_get hF 2 (by decide) rfl lf_RX6_150 (.int (S 2 0)) rfl dX6_vote_76 ?_
  refine am_go hF sgX6_vote_79_c7176 81 [(0, .ref 465), (1, .int (nI k)), (2, .int (nI p)), (3, .int 0)] [.int ((S 2 0) + 1), .ref 465] sgX6_vote_79_c7176d rfl ?_
  refine sv_put hF 2 (by decide) rfl rfl rfl lf_RX6_150 dX6_vote_81 ?_
  refine am_go hF sgX6_vote_84_34db8 85 [(0, .ref 465), (1, .int (nI k)), (2, .int (nI p)), (3, .int 0)] [.ref 465] sgX6_vote_84_34db8d rfl ?_
  refine sv_get hF 28 (by decide) rfl lf_RX6_80 (.ref 528) rfl dX6_vote_85 ?_
  refine am_go hF sgX6_vote_88_563cd 90 [(0, .ref 465), (1, .int (nI k)), (2, .int (nI p)), (3, .int 0)] [.int (nI k), .ref 528, .int (nI k), .ref 528] sgX6_vote_88_563cdd rfl ?_
  refine sv_iald hF 28 (by decide) ⟨rfl, rfl, by decide⟩ k rfl (show k < 80 by omega) dX6_vote_90 ?_
  refine am_top (S 28 k) rfl ?_
  refine am_go hF sgX6_vote_91_d85c9 97 [(0, .ref 465), (1, .int (nI k)), (2, .int (nI p)), (3, .int 0)] [.int ((S 28 k) &&& ((1 <<< ((nI p) &&& 31)) ^^^ (-1))), .int (nI k), .ref 528] sgX6_vote_91_d85c9d rfl ?_
  refine sv_iast hF 28 (by decide) ⟨rfl, rfl, by decide⟩ k rfl (show k < 80 by omega) dX6_vote_97 ?_
  refine am_go hF sgX6_vote_98_34db8 99 [(0, .ref 465), (1, .int (nI k)), (2, .int (nI p)), (3, .int 0)] [.ref 465] sgX6_vote_98_34db8d rfl ?_
  refine sv_get hF 5 (by decide) rfl lf_RX6_16 (.ref 505) rfl dX6_vote_99 ?_
  refine am_go hF sgX6_vote_102_9241e 104 [(0, .ref 465), (1, .int (nI k)), (2, .int (nI p)), (3, .int 0)] [.int (nI p), .ref 505, .int (nI p), .ref 505] sgX6_vote_102_9241ed rfl ?_
  refine sv_iald hF 5 (by decide) ⟨rfl, rfl, by decide⟩ p rfl (show p < 16 by omega) dX6_vote_104 ?_
  refine am_top (S 5 p) rfl ?_
  refine am_go hF sgX6_vote_105_c7176 107 [(0, .ref 465), (1, .int (nI k)), (2, .int (nI p)), (3, .int 0)] [.int ((S 5 p) + 1), .int (nI p), .ref 505] sgX6_vote_105_c7176d rfl ?_
  refine sv_iast hF 5 (by decide) ⟨rfl, rfl, by decide⟩ p rfl (show p < 16 by omega) dX6_vote_107 ?_
  refine am_go hF sgX6_vote_108_34db8 109 [(0, .ref 465), (1, .int (nI k)), (2, .int (nI p)), (3, .int 0)] [.ref 465] sgX6_vote_108_34db8d rfl ?_
  refine sv_get hF 29 (by decide) rfl lf_RX6_83 (.ref 529) rfl dX6_vote_109 ?_
  refine am_go hF sgX6_vote_112_563cd 114 [(0, .ref 465), (1, .int (nI k)), (2, .int (nI p)), (3, .int 0)] [.int (nI k), .ref 529, .int (nI k), .ref 529] sgX6_vote_112_563cdd rfl ?_
  refine sv_iald hF 29 (by decide) ⟨rfl, rfl, by decide⟩ k rfl (show k < 80 by omega) dX6_vote_114 ?_
  refine am_top (S 29 k) rfl ?_
  refine am_go hF sgX6_vote_115_13b50 116 [(0, .ref 465), (1, .int (nI k)), (2, .int (nI p)), (3, .int 0)] [.int 0, .int (S 29 k), .int (nI k), .ref 529] sgX6_vote_115_13b50d rfl ?_
  refine am_ifeq hF 123 dX6_vote_116 (by decide) (fun _ => ?_) (fun h9 => False.elim ((by revert h9; decide)))
  refine am_go hF sgX6_vote_123_44594 125 [(0, .ref 465), (1, .int (nI k)), (2, .int (nI p)), (3, .int 0)] [.int ((S 29 k) + 0), .int (nI k), .ref 529] sgX6_vote_123_44594d rfl ?_
  refine sv_iast hF 29 (by decide) ⟨rfl, rfl, by decide⟩ k rfl (show k < 80 by omega) dX6_vote_125 ?_
  refine am_go hF sgX6_vote_126_34db8 127 [(0, .ref 465), (1, .int (nI k)), (2, .int (nI p)), (3, .int 0)] [.ref 465] sgX6_vote_126_34db8d rfl ?_
  refine sv_get hF 30 (by decide) rfl lf_RX6_86 (.ref 530) rfl dX6_vote_127 ?_
  refine am_go hF sgX6_vote_130_563cd 132 [(0, .ref 465), (1, .int (nI k)), (2, .int (nI p)), (3, .int 0)] [.int (nI k), .ref 530, .int (nI k), .ref 530] sgX6_vote_130_563cdd rfl ?_
  refine sv_iald hF 30 (by decide) ⟨rfl, rfl, by decide⟩ k rfl (show k < 80 by omega) dX6_vote_132 ?_
  refine am_top (S 30 k) rfl ?_
  refine am_go hF sgX6_vote_133_13b50 134 [(0, .ref 465), (1, .int (nI k)), (2, .int (nI p)), (3, .int 0)] [.int 0, .int (S 30 k), .int (nI k), .ref 530] sgX6_vote_133_13b50d rfl ?_
  refine am_ifeq hF 141 dX6_vote_134 (by decide) (fun _ => ?_) (fun h9 => False.elim ((by revert h9; decide)))
  refine am_go hF sgX6_vote_141_c7176 143 [(0, .ref 465), (1, .int (nI k)), (2, .int (nI p)), (3, .int 0)] [.int ((S 30 k) + 1), .int (nI k), .ref 530] sgX6_vote_141_c7176d rfl ?_
  refine sv_iast hF 30 (by decide) ⟨rfl, rfl, by decide⟩ k rfl (show k < 80 by omega) dX6_vote_143 ?_
  refine am_go hF sgX6_vote_144_34db8 145 [(0, .ref 465), (1, .int (nI k)), (2, .int (nI p)), (3, .int 0)] [.ref 465] sgX6_vote_144_34db8d rfl ?_
  refine sv_get hF 29 (by decide) rfl lf_RX6_83 (.ref 529) rfl dX6_vote_145 ?_
  refine am_go hF sgX6_vote_148_840bf 149 [(0, .ref 465), (1, .int (nI k)), (2, .int (nI p)), (3, .int 0)] [.int (nI k), .ref 529] sgX6_vote_148_840bfd rfl ?_
  refine sv_iald hF 29 (by decide) ⟨rfl, rfl, by decide⟩ k rfl (show k < 80 by omega) dX6_vote_149 ?_
  refine am_top ((S 29 k) + 0) (st1_same (st1 (st1 (st1 (st1 (st1 S 0 0 0) 0 0 0) 2 0 ((S 2 0) + 1)) 28 k ((S 28 k) &&& ((1 <<< ((nI p) &&& 31)) ^^^ (-1)))) 5 p ((S 5 p) + 1)) 29 k ((S 29 k) + 0)) ?_
  refine am_go hF sgX6_vote_150_d5620 151 [(0, .ref 465), (1, .int (nI k)), (2, .int (nI p)), (3, .int 0)] [.int 2, .int ((S 29 k) + 0)] sgX6_vote_150_d5620d rfl ?_
  refine am_icmpne hF 162 dX6_vote_151 (by decide) (fun _ => ?_) (fun h9 => False.elim (absurd h9 h1))
  refine am_go hF sgX6_vote_162_34db8 163 [(0, .ref 465), (1, .int (nI k)), (2, .int (nI p)), (3, .int 0)] [.ref 465] sgX6_vote_162_34db8d rfl ?_
  refine sv_get hF 30 (by decide) rfl lf_RX6_86 (.ref 530) rfl dX6_vote_163 ?_
  refine am_go hF sgX6_vote_166_840bf 167 [(0, .ref 465), (1, .int (nI k)), (2, .int (nI p)), (3, .int 0)] [.int (nI k), .ref 530] sgX6_vote_166_840bfd rfl ?_
  refine sv_iald hF 30 (by decide) ⟨rfl, rfl, by decide⟩ k rfl (show k < 80 by omega) dX6_vote_167 ?_
  refine am_top ((S 30 k) + 1) (st1_same (st1 (st1 (st1 (st1 (st1 (st1 S 0 0 0) 0 0 0) 2 0 ((S 2 0) + 1)) 28 k ((S 28 k) &&& ((1 <<< ((nI p) &&& 31)) ^^^ (-1)))) 5 p ((S 5 p) + 1)) 29 k ((S 29 k) + 0)) 30 k ((S 30 k) + 1)) ?_
  refine am_go hF sgX6_vote_168_d5620 169 [(0, .ref 465), (1, .int (nI k)), (2, .int (nI p)), (3, .int 0)] [.int 2, .int ((S 30 k) + 1)] sgX6_vote_168_d5620d rfl ?_
  refine am_icmpne hF 226 dX6_vote_169 (by decide) (fun h9 => False.elim (absurd h2 h9)) (fun _ => ?_)
  refine am_go hF sgX6_vote_172_34db8 173 [(0, .ref 465), (1, .int (nI k)), (2, .int (nI p)), (3, .int 0)] [.ref 465] sgX6_vote_172_34db8d rfl ?_
  refine sv_get hF 27 (by decide) rfl lf_RX6_77 (.ref 527) rfl dX6_vote_173 ?_
  refine am_go hF sgX6_vote_176_cd6b4 178 [(0, .ref 465), (1, .int (nI k)), (2, .int (nI p)), (3, .int 0)] [.int 0, .int (nI k), .ref 527] sgX6_vote_176_cd6b4d rfl ?_
  refine sv_zast hF 27 (by decide) ⟨rfl, rfl, by decide⟩ k rfl (show k < 80 by omega) rfl dX6_vote_178 ?_
  refine am_go hF sgX6_vote_179_34db8 180 [(0, .ref 465), (1, .int (nI k)), (2, .int (nI p)), (3, .int 0)] [.ref 465] sgX6_vote_179_34db8d rfl ?_
  refine sv_get hF 24 (by decide) rfl lf_RX6_68 (.ref 524) rfl dX6_vote_180 ?_
  refine am_go hF sgX6_vote_183_68563 185 [(0, .ref 465), (1, .int (nI k)), (2, .int (nI p)), (3, .int 0)] [.int 3, .int (nI k), .ref 524] sgX6_vote_183_68563d rfl ?_
  refine sv_iast hF 24 (by decide) ⟨rfl, rfl, by decide⟩ k rfl (show k < 80 by omega) dX6_vote_185 ?_
  refine am_go hF sgX6_vote_186_34db8 187 [(0, .ref 465), (1, .int (nI k)), (2, .int (nI p)), (3, .int 0)] [.ref 465] sgX6_vote_186_34db8d rfl ?_
  refine sv_get hF 4 (by decide) rfl lf_RX6_13 (.ref 504) rfl dX6_vote_187 ?_
  refine am_go hF sgX6_vote_190_34db8 191 [(0, .ref 465), (1, .int (nI k)), (2, .int (nI p)), (3, .int 0)] [.ref 465, .ref 504] sgX6_vote_190_34db8d rfl ?_
  refine sv_get hF 18 (by decide) rfl lf_RX6_50 (.ref 518) rfl dX6_vote_191 ?_
  refine am_go hF sgX6_vote_194_840bf 195 [(0, .ref 465), (1, .int (nI k)), (2, .int (nI p)), (3, .int 0)] [.int (nI k), .ref 518, .ref 504] sgX6_vote_194_840bfd rfl ?_
  refine sv_iald hF 18 (by decide) ⟨rfl, rfl, by decide⟩ k rfl (show k < 80 by omega) dX6_vote_195 ?_
  refine am_top (nI sp) hsp ?_
  refine sv_iald hF 4 (by decide) ⟨rfl, rfl, by decide⟩ sp rfl (show sp < 16 by omega) dX6_vote_196 ?_
  refine am_top (S 4 sp) rfl ?_
  refine am_go hF sgX6_vote_197_ab002 202 [(4, .int ((S 4 sp) + 5)), (0, .ref 465), (1, .int (nI k)), (2, .int (nI p)), (3, .int 0)] [.ref 465] sgX6_vote_197_ab002d rfl ?_
  refine sv_get hF 4 (by decide) rfl lf_RX6_13 (.ref 504) rfl dX6_vote_202 ?_
  refine am_go hF sgX6_vote_205_34db8 206 [(4, .int ((S 4 sp) + 5)), (0, .ref 465), (1, .int (nI k)), (2, .int (nI p)), (3, .int 0)] [.ref 465, .ref 504] sgX6_vote_205_34db8d rfl ?_
  refine sv_get hF 18 (by decide) rfl lf_RX6_50 (.ref 518) rfl dX6_vote_206 ?_
  refine am_go hF sgX6_vote_209_840bf 210 [(4, .int ((S 4 sp) + 5)), (0, .ref 465), (1, .int (nI k)), (2, .int (nI p)), (3, .int 0)] [.int (nI k), .ref 518, .ref 504] sgX6_vote_209_840bfd rfl ?_
  refine sv_iald hF 18 (by decide) ⟨rfl, rfl, by decide⟩ k rfl (show k < 80 by omega) dX6_vote_210 ?_
  refine am_top (nI sp) hsp ?_
  refine am_go hF sgX6_vote_211_d735c 215 [(4, .int ((S 4 sp) + 5)), (0, .ref 465), (1, .int (nI k)), (2, .int (nI p)), (3, .int 0)] [.int 100, .int ((S 4 sp) + 5), .int (nI sp), .ref 504] sgX6_vote_211_d735cd rfl ?_
  refine am_icmple hF 223 dX6_vote_215 (by decide) (fun _ => ?_) (fun h9 => False.elim (absurd h3 h9))
  refine am_go hF sgX6_vote_223_c6742 225 [(4, .int ((S 4 sp) + 5)), (0, .ref 465), (1, .int (nI k)), (2, .int (nI p)), (3, .int 0)] [.int ((S 4 sp) + 5), .int (nI sp), .ref 504] sgX6_vote_223_c6742d rfl ?_
  refine sv_iast hF 4 (by decide) ⟨rfl, rfl, by decide⟩ sp rfl (show sp < 16 by omega) dX6_vote_225 ?_
  refine am_go hF sgX6_vote_226_34db8 227 [(4, .int ((S 4 sp) + 5)), (0, .ref 465), (1, .int (nI k)), (2, .int (nI p)), (3, .int 0)] [.ref 465] sgX6_vote_226_34db8d rfl ?_
  refine sv_get hF 24 (by decide) rfl lf_RX6_68 (.ref 524) rfl dX6_vote_227 ?_
  refine am_go hF sgX6_vote_230_840bf 231 [(4, .int ((S 4 sp) + 5)), (0, .ref 465), (1, .int (nI k)), (2, .int (nI p)), (3, .int 0)] [.int (nI k), .ref 524] sgX6_vote_230_840bfd rfl ?_
  refine sv_iald hF 24 (by decide) ⟨rfl, rfl, by decide⟩ k rfl (show k < 80 by omega) dX6_vote_231 ?_
  refine am_top 3 (st1_same (st1 (st1 (st1 (st1 (st1 (st1 (st1 (st1 S 0 0 0) 0 0 0) 2 0 ((S 2 0) + 1)) 28 k ((S 28 k) &&& ((1 <<< ((nI p) &&& 31)) ^^^ (-1)))) 5 p ((S 5 p) + 1)) 29 k ((S 29 k) + 0)) 30 k ((S 30 k) + 1)) 27 k 0) 24 k 3) ?_
  exact am_iret hF hO hret rfl dX6_vote_232 ⟨rfl, rfl⟩
set_option maxRecDepth 100000 in
set_option maxHeartbeats 4000000 in
theorem c_r_vote_9 {G : am_S} {T S : am_T} {o : Nat → Int64} {m : Nat} (hm : S 17 0 = nI m) (hm80 : m ≤ 80) {k : Nat} (hk : k < m) {p : Nat} (hp9 : p < 16) (ho : ¬ S 27 k = 0) (hj : S 28 k >>> (nI p &&& 31) &&& 1 = 1) {sp : Nat} (hsp9 : sp < 16) (hsp : S 18 k = nI sp) (h1 : ¬ S 29 k + 0 = 2) (h2 : S 30 k + 1 = 2) (h3 : ¬ S 4 sp + 5 ≤ 100) : am_D G yX6_vote (.code yX6_vote cX6_vote 5 (some .int) :: am_G) { frames := 5, cells := 0, slots := 0, locals := 121 } (hp T S o) [.ref 465, .int (nI k), .int (nI p), .int 0] (hp T (st1 (st1 (st1 (st1 (st1 (st1 (st1 (st1 (st1 (st1 S 0 0 0) 0 0 0) 2 0 ((S 2 0) + 1)) 28 k ((S 28 k) &&& ((1 <<< ((nI p) &&& 31)) ^^^ (-1)))) 5 p ((S 5 p) + 1)) 29 k ((S 29 k) + 0)) 30 k ((S 30 k) + 1)) 27 k 0) 24 k 3) 4 sp 100) o) (some (.int 3)) := by
  refine am_of (by decide +kernel) (Nat.le_of_ble_eq_true rfl) ?_
  intro C hse hret hname hF hO
  subst hse
  refine am_go hF sgX6_vote_0_6b3ba 3 [(0, .ref 465), (1, .int (nI k)), (2, .int (nI p)), (3, .int 0)] [.int (nI k), .ref 465, .ref 465] sgX6_vote_0_6b3bad rfl ?_
  refine am_dV hF hO [.int (nI k)] [.ref 465] (c_isMail_t (S := S) hm hm80 (show k < m by omega) rfl) myX6_isMail vyX6_isMail lm_RX6_161 (hp_m _ _ _) rfl rfl 0 0 ⟨Nat.le_of_ble_eq_true rfl, Nat.le_of_ble_eq_true rfl⟩ ⟨Nat.le_of_ble_eq_true rfl, Nat.le_of_ble_eq_true rfl, Nat.le_of_ble_eq_true rfl, Nat.le_of_ble_eq_true rfl⟩ rfl (am_lv_ref (hp_m _ _ _) (am_lv_int (am_lv_int (am_lv_int (am_lv_ref (hp_m _ _ _) am_lv_nil))))) (Nat.le_of_ble_eq_true rfl) dX6_vote_3 [.int 1, .ref 465] rfl ?_
  refine am_ifeq hF 20 dX6_vote_6 (by decide) (fun h9 => False.elim ((by revert h9; decide))) (fun _ => ?_)
  refine am_go hF sgX6_vote_9_f8a59 10 [(0, .ref 465), (1, .int (nI k)), (2, .int (nI p)), (3, .int 0)] [.int (nI p), .ref 465] sgX6_vote_9_f8a59d rfl ?_
  refine am_dS hF hO [.int (nI p)] [.ref 465] (c_isPerson_t (show p < 16 by omega) rfl) myX6_isPerson syX6_isPerson lm_RX6_118 rfl 0 0 ⟨Nat.le_of_ble_eq_true rfl, Nat.le_of_ble_eq_true rfl⟩ ⟨Nat.le_of_ble_eq_true rfl, Nat.le_of_ble_eq_true rfl, Nat.le_of_ble_eq_true rfl, Nat.le_of_ble_eq_true rfl⟩ rfl (am_lv_ref (hp_m _ _ _) (am_lv_int (am_lv_int (am_lv_int (am_lv_ref (hp_m _ _ _) am_lv_nil))))) (Nat.le_of_ble_eq_true rfl) dX6_vote_10 [.int 1, .ref 465] rfl ?_
  refine am_ifeq hF 20 dX6_vote_13 (by decide) (fun h9 => False.elim ((by revert h9; decide))) (fun _ => ?_)
  refine am_go hF sgX6_vote_16_1cbe9 21 [(0, .ref 465), (1, .int (nI k)), (2, .int (nI p)), (3, .int 0)] [.int 0, .ref 465] sgX6_vote_16_1cbe9d rfl ?_
  refine sv_put hF 0 (by decide) rfl rfl rfl lf_RX6_104 dX6_vote_21 ?_
  refine am_go hF sgX6_vote_24_34db8 25 [(0, .ref 465), (1, .int (nI k)), (2, .int (nI p)), (3, .int 0)] [.ref 465] sgX6_vote_24_34db8d rfl ?_
  refine sv_get hF 0 (by decide) rfl lf_RX6_104 (.int 0) rfl dX6_vote_25 ?_
  refine am_ifle hF 33 dX6_vote_28 (by decide) (fun _ => ?_) (fun h9 => False.elim ((by revert h9; decide)))
  refine am_go hF sgX6_vote_33_c81f7 35 [(0, .ref 465), (1, .int (nI k)), (2, .int (nI p)), (3, .int 0)] [.ref 465, .ref 465] sgX6_vote_33_c81f7d rfl ?_
  refine sv_get hF 27 (by decide) rfl lf_RX6_77 (.ref 527) rfl dX6_vote_35 ?_
  refine am_go hF sgX6_vote_38_840bf 39 [(0, .ref 465), (1, .int (nI k)), (2, .int (nI p)), (3, .int 0)] [.int (nI k), .ref 527, .ref 465] sgX6_vote_38_840bfd rfl ?_
  refine sv_zald hF 27 (by decide) ⟨rfl, rfl, by decide⟩ k rfl (show k < 80 by omega) dX6_vote_39 ?_
  refine am_top (S 27 k) rfl ?_
  refine am_ifeq hF 61 dX6_vote_40 (by decide) (fun h9 => False.elim (absurd h9 ho)) (fun _ => ?_)
  refine am_go hF sgX6_vote_43_34db8 44 [(0, .ref 465), (1, .int (nI k)), (2, .int (nI p)), (3, .int 0)] [.ref 465, .ref 465] sgX6_vote_43_34db8d rfl ?_
  refine sv_get hF 28 (by decide) rfl lf_RX6_80 (.ref 528) rfl dX6_vote_44 ?_
  refine am_go hF sgX6_vote_47_840bf 48 [(0, .ref 465), (1, .int (nI k)), (2, .int (nI p)), (3, .int 0)] [.int (nI k), .ref 528, .ref 465] sgX6_vote_47_840bfd rfl ?_
  refine sv_iald hF 28 (by decide) ⟨rfl, rfl, by decide⟩ k rfl (show k < 80 by omega) dX6_vote_48 ?_
  refine am_top (S 28 k) rfl ?_
  refine am_go hF sgX6_vote_49_89201 54 [(0, .ref 465), (1, .int (nI k)), (2, .int (nI p)), (3, .int 0)] [.int 1, .int (((S 28 k) >>> ((nI p) &&& 31)) &&& 1), .ref 465] sgX6_vote_49_89201d rfl ?_
  refine am_icmpne hF 61 dX6_vote_54 (by decide) (fun h9 => False.elim (absurd hj h9)) (fun _ => ?_)
  refine am_go hF sgX6_vote_57_1cbe9 62 [(0, .ref 465), (1, .int (nI k)), (2, .int (nI p)), (3, .int 0)] [.int 0, .ref 465] sgX6_vote_57_1cbe9d rfl ?_
  refine sv_put hF 0 (by decide) rfl rfl rfl lf_RX6_104 dX6_vote_62 ?_
  refine am_go hF sgX6_vote_65_34db8 66 [(0, .ref 465), (1, .int (nI k)), (2, .int (nI p)), (3, .int 0)] [.ref 465] sgX6_vote_65_34db8d rfl ?_
  refine sv_get hF 0 (by decide) rfl lf_RX6_104 (.int 0) rfl dX6_vote_66 ?_
  refine am_ifle hF 74 dX6_vote_69 (by decide) (fun _ => ?_) (fun h9 => False.elim ((by revert h9; decide)))
  refine am_go hF sgX6_vote_74_da752 76 [(0, .ref 465), (1, .int (nI k)), (2, .int (nI p)), (3, .int 0)] [.ref 465, .ref 465] sgX6_vote_74_da752d rfl ?_
  refine sv_get hF 2 (by decide) rfl lf_RX6_150 (.int (S 2 0)) rfl dX6_vote_76 ?_
  refine am_go hF sgX6_vote_79_c7176 81 [(0, .ref 465), (1, .int (nI k)), (2, .int (nI p)), (3, .int 0)] [.int ((S 2 0) + 1), .ref 465] sgX6_vote_79_c7176d rfl ?_
  refine sv_put hF 2 (by decide) rfl rfl rfl lf_RX6_150 dX6_vote_81 ?_
  refine am_go hF sgX6_vote_84_34db8 85 [(0, .ref 465), (1, .int (nI k)), (2, .int (nI p)), (3, .int 0)] [.ref 465] sgX6_vote_84_34db8d rfl ?_
  refine sv_get hF 28 (by decide) rfl lf_RX6_80 (.ref 528) rfl dX6_vote_85 ?_
  refine am_go hF sgX6_vote_88_563cd 90 [(0, .ref 465), (1, .int (nI k)), (2, .int (nI p)), (3, .int 0)] [.int (nI k), .ref 528, .int (nI k), .ref 528] sgX6_vote_88_563cdd rfl ?_
  refine sv_iald hF 28 (by decide) ⟨rfl, rfl, by decide⟩ k rfl (show k < 80 by omega) dX6_vote_90 ?_
  refine am_top (S 28 k) rfl ?_
  refine am_go hF sgX6_vote_91_d85c9 97 [(0, .ref 465), (1, .int (nI k)), (2, .int (nI p)), (3, .int 0)] [.int ((S 28 k) &&& ((1 <<< ((nI p) &&& 31)) ^^^ (-1))), .int (nI k), .ref 528] sgX6_vote_91_d85c9d rfl ?_
  refine sv_iast hF 28 (by decide) ⟨rfl, rfl, by decide⟩ k rfl (show k < 80 by omega) dX6_vote_97 ?_
  refine am_go hF sgX6_vote_98_34db8 99 [(0, .ref 465), (1, .int (nI k)), (2, .int (nI p)), (3, .int 0)] [.ref 465] sgX6_vote_98_34db8d rfl ?_
  refine sv_get hF 5 (by decide) rfl lf_RX6_16 (.ref 505) rfl dX6_vote_99 ?_
  refine am_go hF sgX6_vote_102_9241e 104 [(0, .ref 465), (1, .int (nI k)), (2, .int (nI p)), (3, .int 0)] [.int (nI p), .ref 505, .int (nI p), .ref 505] sgX6_vote_102_9241ed rfl ?_
  refine sv_iald hF 5 (by decide) ⟨rfl, rfl, by decide⟩ p rfl (show p < 16 by omega) dX6_vote_104 ?_
  refine am_top (S 5 p) rfl ?_
  refine am_go hF sgX6_vote_105_c7176 107 [(0, .ref 465), (1, .int (nI k)), (2, .int (nI p)), (3, .int 0)] [.int ((S 5 p) + 1), .int (nI p), .ref 505] sgX6_vote_105_c7176d rfl ?_
  refine sv_iast hF 5 (by decide) ⟨rfl, rfl, by decide⟩ p rfl (show p < 16 by omega) dX6_vote_107 ?_
  refine am_go hF sgX6_vote_108_34db8 109 [(0, .ref 465), (1, .int (nI k)), (2, .int (nI p)), (3, .int 0)] [.ref 465] sgX6_vote_108_34db8d rfl ?_
  refine sv_get hF 29 (by decide) rfl lf_RX6_83 (.ref 529) rfl dX6_vote_109 ?_
  refine am_go hF sgX6_vote_112_563cd 114 [(0, .ref 465), (1, .int (nI k)), (2, .int (nI p)), (3, .int 0)] [.int (nI k), .ref 529, .int (nI k), .ref 529] sgX6_vote_112_563cdd rfl ?_
  refine sv_iald hF 29 (by decide) ⟨rfl, rfl, by decide⟩ k rfl (show k < 80 by omega) dX6_vote_114 ?_
  refine am_top (S 29 k) rfl ?_
  refine am_go hF sgX6_vote_115_13b50 116 [(0, .ref 465), (1, .int (nI k)), (2, .int (nI p)), (3, .int 0)] [.int 0, .int (S 29 k), .int (nI k), .ref 529] sgX6_vote_115_13b50d rfl ?_
  refine am_ifeq hF 123 dX6_vote_116 (by decide) (fun _ => ?_) (fun h9 => False.elim ((by revert h9; decide)))
  refine am_go hF sgX6_vote_123_44594 125 [(0, .ref 465), (1, .int (nI k)), (2, .int (nI p)), (3, .int 0)] [.int ((S 29 k) + 0), .int (nI k), .ref 529] sgX6_vote_123_44594d rfl ?_
  refine sv_iast hF 29 (by decide) ⟨rfl, rfl, by decide⟩ k rfl (show k < 80 by omega) dX6_vote_125 ?_
  refine am_go hF sgX6_vote_126_34db8 127 [(0, .ref 465), (1, .int (nI k)), (2, .int (nI p)), (3, .int 0)] [.ref 465] sgX6_vote_126_34db8d rfl ?_
  refine sv_get hF 30 (by decide) rfl lf_RX6_86 (.ref 530) rfl dX6_vote_127 ?_
  refine am_go hF sgX6_vote_130_563cd 132 [(0, .ref 465), (1, .int (nI k)), (2, .int (nI p)), (3, .int 0)] [.int (nI k), .ref 530, .int (nI k), .ref 530] sgX6_vote_130_563cdd rfl ?_
  refine sv_iald hF 30 (by decide) ⟨rfl, rfl, by decide⟩ k rfl (show k < 80 by omega) dX6_vote_132 ?_
  refine am_top (S 30 k) rfl ?_
  refine am_go hF sgX6_vote_133_13b50 134 [(0, .ref 465), (1, .int (nI k)), (2, .int (nI p)), (3, .int 0)] [.int 0, .int (S 30 k), .int (nI k), .ref 530] sgX6_vote_133_13b50d rfl ?_
  refine am_ifeq hF 141 dX6_vote_134 (by decide) (fun _ => ?_) (fun h9 => False.elim ((by revert h9; decide)))
  refine am_go hF sgX6_vote_141_c7176 143 [(0, .ref 465), (1, .int (nI k)), (2, .int (nI p)), (3, .int 0)] [.int ((S 30 k) + 1), .int (nI k), .ref 530] sgX6_vote_141_c7176d rfl ?_
  refine sv_iast hF 30 (by decide) ⟨rfl, rfl, by decide⟩ k rfl (show k < 80 by omega) dX6_vote_143 ?_
  refine am_go hF sgX6_vote_144_34db8 145 [(0, .ref 465), (1, .int (nI k)), (2, .int (nI p)), (3, .int 0)] [.ref 465] sgX6_vote_144_34db8d rfl ?_
  refine sv_get hF 29 (by decide) rfl lf_RX6_83 (.ref 529) rfl dX6_vote_145 ?_
  refine am_go hF sgX6_vote_148_840bf 149 [(0, .ref 465), (1, .int (nI k)), (2, .int (nI p)), (3, .int 0)] [.int (nI k), .ref 529] sgX6_vote_148_840bfd rfl ?_
  refine sv_iald hF 29 (by decide) ⟨rfl, rfl, by decide⟩ k rfl (show k < 80 by omega) dX6_vote_149 ?_
  refine am_top ((S 29 k) + 0) (st1_same (st1 (st1 (st1 (st1 (st1 S 0 0 0) 0 0 0) 2 0 ((S 2 0) + 1)) 28 k ((S 28 k) &&& ((1 <<< ((nI p) &&& 31)) ^^^ (-1)))) 5 p ((S 5 p) + 1)) 29 k ((S 29 k) + 0)) ?_
  refine am_go hF sgX6_vote_150_d5620 151 [(0, .ref 465), (1, .int (nI k)), (2, .int (nI p)), (3, .int 0)] [.int 2, .int ((S 29 k) + 0)] sgX6_vote_150_d5620d rfl ?_
  refine am_icmpne hF 162 dX6_vote_151 (by decide) (fun _ => ?_) (fun h9 => False.elim (absurd h9 h1))
  refine am_go hF sgX6_vote_162_34db8 163 [(0, .ref 465), (1, .int (nI k)), (2, .int (nI p)), (3, .int 0)] [.ref 465] sgX6_vote_162_34db8d rfl ?_
  refine sv_get hF 30 (by decide) rfl lf_RX6_86 (.ref 530) rfl dX6_vote_163 ?_
  refine am_go hF sgX6_vote_166_840bf 167 [(0, .ref 465), (1, .int (nI k)), (2, .int (nI p)), (3, .int 0)] [.int (nI k), .ref 530] sgX6_vote_166_840bfd rfl ?_
  refine sv_iald hF 30 (by decide) ⟨rfl, rfl, by decide⟩ k rfl (show k < 80 by omega) dX6_vote_167 ?_
  refine am_top ((S 30 k) + 1) (st1_same (st1 (st1 (st1 (st1 (st1 (st1 S 0 0 0) 0 0 0) 2 0 ((S 2 0) + 1)) 28 k ((S 28 k) &&& ((1 <<< ((nI p) &&& 31)) ^^^ (-1)))) 5 p ((S 5 p) + 1)) 29 k ((S 29 k) + 0)) 30 k ((S 30 k) + 1)) ?_
  refine am_go hF sgX6_vote_168_d5620 169 [(0, .ref 465), (1, .int (nI k)), (2, .int (nI p)), (3, .int 0)] [.int 2, .int ((S 30 k) + 1)] sgX6_vote_168_d5620d rfl ?_
  refine am_icmpne hF 226 dX6_vote_169 (by decide) (fun h9 => False.elim (absurd h2 h9)) (fun _ => ?_)
  refine am_go hF sgX6_vote_172_34db8 173 [(0, .ref 465), (1, .int (nI k)), (2, .int (nI p)), (3, .int 0)] [.ref 465] sgX6_vote_172_34db8d rfl ?_
  refine sv_get hF 27 (by decide) rfl lf_RX6_77 (.ref 527) rfl dX6_vote_173 ?_
  refine am_go hF sgX6_vote_176_cd6b4 178 [(0, .ref 465), (1, .int (nI k)), (2, .int (nI p)), (3, .int 0)] [.int 0, .int (nI k), .ref 527] sgX6_vote_176_cd6b4d rfl ?_
  refine sv_zast hF 27 (by decide) ⟨rfl, rfl, by decide⟩ k rfl (show k < 80 by omega) rfl dX6_vote_178 ?_
  refine am_go hF sgX6_vote_179_34db8 180 [(0, .ref 465), (1, .int (nI k)), (2, .int (nI p)), (3, .int 0)] [.ref 465] sgX6_vote_179_34db8d rfl ?_
  refine sv_get hF 24 (by decide) rfl lf_RX6_68 (.ref 524) rfl dX6_vote_180 ?_
  refine am_go hF sgX6_vote_183_68563 185 [(0, .ref 465), (1, .int (nI k)), (2, .int (nI p)), (3, .int 0)] [.int 3, .int (nI k), .ref 524] sgX6_vote_183_68563d rfl ?_
  refine sv_iast hF 24 (by decide) ⟨rfl, rfl, by decide⟩ k rfl (show k < 80 by omega) dX6_vote_185 ?_
  refine am_go hF sgX6_vote_186_34db8 187 [(0, .ref 465), (1, .int (nI k)), (2, .int (nI p)), (3, .int 0)] [.ref 465] sgX6_vote_186_34db8d rfl ?_
  refine sv_get hF 4 (by decide) rfl lf_RX6_13 (.ref 504) rfl dX6_vote_187 ?_
  refine am_go hF sgX6_vote_190_34db8 191 [(0, .ref 465), (1, .int (nI k)), (2, .int (nI p)), (3, .int 0)] [.ref 465, .ref 504] sgX6_vote_190_34db8d rfl ?_
  refine sv_get hF 18 (by decide) rfl lf_RX6_50 (.ref 518) rfl dX6_vote_191 ?_
  refine am_go hF sgX6_vote_194_840bf 195 [(0, .ref 465), (1, .int (nI k)), (2, .int (nI p)), (3, .int 0)] [.int (nI k), .ref 518, .ref 504] sgX6_vote_194_840bfd rfl ?_
  refine sv_iald hF 18 (by decide) ⟨rfl, rfl, by decide⟩ k rfl (show k < 80 by omega) dX6_vote_195 ?_
  refine am_top (nI sp) hsp ?_
  refine sv_iald hF 4 (by decide) ⟨rfl, rfl, by decide⟩ sp rfl (show sp < 16 by omega) dX6_vote_196 ?_
  refine am_top (S 4 sp) rfl ?_
  refine am_go hF sgX6_vote_197_ab002 202 [(4, .int ((S 4 sp) + 5)), (0, .ref 465), (1, .int (nI k)), (2, .int (nI p)), (3, .int 0)] [.ref 465] sgX6_vote_197_ab002d rfl ?_
  refine sv_get hF 4 (by decide) rfl lf_RX6_13 (.ref 504) rfl dX6_vote_202 ?_
  refine am_go hF sgX6_vote_205_34db8 206 [(4, .int ((S 4 sp) + 5)), (0, .ref 465), (1, .int (nI k)), (2, .int (nI p)), (3, .int 0)] [.ref 465, .ref 504] sgX6_vote_205_34db8d rfl ?_
  refine sv_get hF 18 (by decide) rfl lf_RX6_50 (.ref 518) rfl dX6_vote_206 ?_
  refine am_go hF sgX6_vote_209_840bf 210 [(4, .int ((S 4 sp) + 5)), (0, .ref 465), (1, .int (nI k)), (2, .int (nI p)), (3, .int 0)] [.int (nI k), .ref 518, .ref 504] sgX6_vote_209_840bfd rfl ?_
  refine sv_iald hF 18 (by decide) ⟨rfl, rfl, by decide⟩ k rfl (show k < 80 by omega) dX6_vote_210 ?_
  refine am_top (nI sp) hsp ?_
  refine am_go hF sgX6_vote_211_d735c 215 [(4, .int ((S 4 sp) + 5)), (0, .ref 465), (1, .int (nI k)), (2, .int (nI p)), (3, .int 0)] [.int 100, .int ((S 4 sp) + 5), .int (nI sp), .ref 504] sgX6_vote_211_d735cd rfl ?_
  refine am_icmple hF 223 dX6_vote_215 (by decide) (fun h9 => False.elim (absurd h9 h3)) (fun _ => ?_)
  refine am_go hF sgX6_vote_218_33ac2 225 [(4, .int ((S 4 sp) + 5)), (0, .ref 465), (1, .int (nI k)), (2, .int (nI p)), (3, .int 0)] [.int 100, .int (nI sp), .ref 504] sgX6_vote_218_33ac2d rfl ?_
  refine sv_iast hF 4 (by decide) ⟨rfl, rfl, by decide⟩ sp rfl (show sp < 16 by omega) dX6_vote_225 ?_
  refine am_go hF sgX6_vote_226_34db8 227 [(4, .int ((S 4 sp) + 5)), (0, .ref 465), (1, .int (nI k)), (2, .int (nI p)), (3, .int 0)] [.ref 465] sgX6_vote_226_34db8d rfl ?_
  refine sv_get hF 24 (by decide) rfl lf_RX6_68 (.ref 524) rfl dX6_vote_227 ?_
  refine am_go hF sgX6_vote_230_840bf 231 [(4, .int ((S 4 sp) + 5)), (0, .ref 465), (1, .int (nI k)), (2, .int (nI p)), (3, .int 0)] [.int (nI k), .ref 524] sgX6_vote_230_840bfd rfl ?_
  refine sv_iald hF 24 (by decide) ⟨rfl, rfl, by decide⟩ k rfl (show k < 80 by omega) dX6_vote_231 ?_
  refine am_top 3 (st1_same (st1 (st1 (st1 (st1 (st1 (st1 (st1 (st1 S 0 0 0) 0 0 0) 2 0 ((S 2 0) + 1)) 28 k ((S 28 k) &&& ((1 <<< ((nI p) &&& 31)) ^^^ (-1)))) 5 p ((S 5 p) + 1)) 29 k ((S 29 k) + 0)) 30 k ((S 30 k) + 1)) 27 k 0) 24 k 3) ?_
  exact am_iret hF hO hret rfl dX6_vote_232 ⟨rfl, rfl⟩
set_option maxRecDepth 100000 in
set_option maxHeartbeats 4000000 in
theorem c_r_appeal_1 {G : am_S} {T S : am_T} {o : Nat → Int64} {m : Nat} (hm : S 17 0 = nI m) (hm80 : m ≤ 80) {x : Int32} (hx : x < 0 ∨ nI m ≤ x) : am_D G yX6_appeal (.code yX6_appeal cX6_appeal 8 (some .int) :: am_G) { frames := 2, cells := 0, slots := 0, locals := 43 } (hp T S o) [.ref 465, .int x] (hp T (st1 S 0 0 1) o) (some (.int 0)) := by
  refine am_of (by decide +kernel) (Nat.le_of_ble_eq_true rfl) ?_
  intro C hse hret hname hF hO
  subst hse
  refine am_go hF sgX6_appeal_0_6b3ba 3 [(0, .ref 465), (1, .int x)] [.int x, .ref 465, .ref 465] sgX6_appeal_0_6b3bad rfl ?_
  refine am_dV hF hO [.int x] [.ref 465] (c_isMail_f (S := S) hm hm80 hx) myX6_isMail vyX6_isMail lm_RX6_161 (hp_m _ _ _) rfl rfl 0 0 ⟨Nat.le_of_ble_eq_true rfl, Nat.le_of_ble_eq_true rfl⟩ ⟨Nat.le_of_ble_eq_true rfl, Nat.le_of_ble_eq_true rfl, Nat.le_of_ble_eq_true rfl, Nat.le_of_ble_eq_true rfl⟩ rfl (am_lv_ref (hp_m _ _ _) (am_lv_int (am_lv_ref (hp_m _ _ _) am_lv_nil))) (Nat.le_of_ble_eq_true rfl) dX6_appeal_3 [.int 0, .ref 465] rfl ?_
  refine am_ifeq hF 13 dX6_appeal_6 (by decide) (fun _ => ?_) (fun h9 => False.elim ((by revert h9; decide)))
  refine am_go hF sgX6_appeal_13_4de0a 14 [(0, .ref 465), (1, .int x)] [.int 1, .ref 465] sgX6_appeal_13_4de0ad rfl ?_
  refine sv_put hF 0 (by decide) rfl rfl rfl lf_RX6_104 dX6_appeal_14 ?_
  refine am_go hF sgX6_appeal_17_34db8 18 [(0, .ref 465), (1, .int x)] [.ref 465] sgX6_appeal_17_34db8d rfl ?_
  refine sv_get hF 0 (by decide) rfl lf_RX6_104 (.int 1) rfl dX6_appeal_18 ?_
  refine am_ifle hF 26 dX6_appeal_21 (by decide) (fun h9 => False.elim ((by revert h9; decide))) (fun _ => ?_)
  refine am_go hF sgX6_appeal_24_56c54 25 [(0, .ref 465), (1, .int x)] [.int 0] sgX6_appeal_24_56c54d rfl ?_
  exact am_iret hF hO hret rfl dX6_appeal_25 ⟨rfl, rfl⟩
set_option maxRecDepth 100000 in
set_option maxHeartbeats 4000000 in
theorem c_r_appeal_2 {G : am_S} {T S : am_T} {o : Nat → Int64} {n : Nat} (hn : S 9 0 = nI n) (hn10 : n ≤ 10) {m : Nat} (hm : S 17 0 = nI m) (hm80 : m ≤ 80) {k l : Nat} (hk : k < m) (hkl : S 19 k = nI l) (hl : l < n) : am_D G yX6_appeal (.code yX6_appeal cX6_appeal 8 (some .int) :: am_G) { frames := 2, cells := 0, slots := 0, locals := 43 } (hp T S o) [.ref 465, .int (nI k)] (hp T (if S 24 k = 1 ∧ S 26 k = 0 ∧ 3 ≤ (rJur (st1 S 0 0 0) n k l).2 then st1 (st1 (st1 (st1 (st1 S 0 0 0) 0 0 0) 26 k 1) 27 k 1) 28 k (rJur (st1 S 0 0 0) n k l).1 else st1 (st1 S 0 0 0) 0 0 2) o) (some (.int (if S 24 k = 1 ∧ S 26 k = 0 ∧ 3 ≤ (rJur (st1 S 0 0 0) n k l).2 then (rJur (st1 S 0 0 0) n k l).1 else 0))) := by
  refine am_of (by decide +kernel) (Nat.le_of_ble_eq_true rfl) ?_
  intro C hse hret hname hF hO
  subst hse
  refine am_go hF sgX6_appeal_0_6b3ba 3 [(0, .ref 465), (1, .int (nI k))] [.int (nI k), .ref 465, .ref 465] sgX6_appeal_0_6b3bad rfl ?_
  refine am_dV hF hO [.int (nI k)] [.ref 465] (c_isMail_t (S := S) hm hm80 (show k < m by omega) rfl) myX6_isMail vyX6_isMail lm_RX6_161 (hp_m _ _ _) rfl rfl 0 0 ⟨Nat.le_of_ble_eq_true rfl, Nat.le_of_ble_eq_true rfl⟩ ⟨Nat.le_of_ble_eq_true rfl, Nat.le_of_ble_eq_true rfl, Nat.le_of_ble_eq_true rfl, Nat.le_of_ble_eq_true rfl⟩ rfl (am_lv_ref (hp_m _ _ _) (am_lv_int (am_lv_ref (hp_m _ _ _) am_lv_nil))) (Nat.le_of_ble_eq_true rfl) dX6_appeal_3 [.int 1, .ref 465] rfl ?_
  refine am_ifeq hF 13 dX6_appeal_6 (by decide) (fun h9 => False.elim ((by revert h9; decide))) (fun _ => ?_)
  refine am_go hF sgX6_appeal_9_1cbe9 14 [(0, .ref 465), (1, .int (nI k))] [.int 0, .ref 465] sgX6_appeal_9_1cbe9d rfl ?_
  refine sv_put hF 0 (by decide) rfl rfl rfl lf_RX6_104 dX6_appeal_14 ?_
  refine am_go hF sgX6_appeal_17_34db8 18 [(0, .ref 465), (1, .int (nI k))] [.ref 465] sgX6_appeal_17_34db8d rfl ?_
  refine sv_get hF 0 (by decide) rfl lf_RX6_104 (.int 0) rfl dX6_appeal_18 ?_
  refine am_ifle hF 26 dX6_appeal_21 (by decide) (fun _ => ?_) (fun h9 => False.elim ((by revert h9; decide)))
  refine am_go hF sgX6_appeal_26_bb584 33 [(4, .int 0), (3, .int 0), (2, .int 0), (0, .ref 465), (1, .int (nI k))] [] sgX6_appeal_26_bb584d rfl ?_
  refine am_drop [3, 4, 2, 1, 0] [(0, .ref 465), (1, .int (nI k)), (2, .int 0), (3, .int 0), (4, .int 0)] rfl ?_
  have lp33 : ∀ (di i : Nat) (s : Int32) (a : Int32), i + di = 3 → s = (itN (fun _ x => rar (st1 S 0 0 0) n k l x) (0, 0) i).1 → a = (itN (fun _ x => rar (st1 S 0 0 0) n k l x) (0, 0) i).2 → am_W C (hp T (st1 S 0 0 0) o) 0 0 33 [(0, .ref 465), (1, .int (nI k)), (2, .int s), (3, .int a), (4, .int (nI i))] [] := by
    intro di
    induction di with
    | zero =>
      intro i s a hi hs ha
      have e9i : i = 3 := by omega
      refine am_go hF sgX6_appeal_33_e19c5 36 [(0, .ref 465), (1, .int (nI k)), (2, .int s), (3, .int a), (4, .int (nI i))] [.int 3, .int (nI i)] sgX6_appeal_33_e19c5d rfl ?_
      refine am_icmpge hF 167 dX6_appeal_36 (by decide) (fun _ => ?_) (fun h9 => False.elim (absurd (nc_ge (show 3 ≤ i by omega) (by omega) (by omega) rfl rfl) h9))
      have hjs : s = (rJur (st1 S 0 0 0) n k l).1 := by rw [hs, e9i]; rfl
      have hja : a = (rJur (st1 S 0 0 0) n k l).2 := by rw [ha, e9i]; rfl
      refine am_go hF sgX6_appeal_167_c81f7 169 [(0, .ref 465), (1, .int (nI k)), (2, .int s), (3, .int a), (4, .int (nI i))] [.ref 465, .ref 465] sgX6_appeal_167_c81f7d rfl ?_
      refine sv_get hF 24 (by decide) rfl lf_RX6_68 (.ref 524) rfl dX6_appeal_169 ?_
      refine am_go hF sgX6_appeal_172_840bf 173 [(0, .ref 465), (1, .int (nI k)), (2, .int s), (3, .int a), (4, .int (nI i))] [.int (nI k), .ref 524, .ref 465] sgX6_appeal_172_840bfd rfl ?_
      refine sv_iald hF 24 (by decide) ⟨rfl, rfl, by decide⟩ k rfl (show k < 80 by omega) dX6_appeal_173 ?_
      refine am_top (S 24 k) rfl ?_
      refine am_go hF sgX6_appeal_174_4de0a 175 [(0, .ref 465), (1, .int (nI k)), (2, .int s), (3, .int a), (4, .int (nI i))] [.int 1, .int (S 24 k), .ref 465] sgX6_appeal_174_4de0ad rfl ?_
      refine am_icmpne hF 192 dX6_appeal_175 (by decide) (fun c4 => ?_) (fun c4 => ?_)
      · skip
        refine am_go hF sgX6_appeal_192_abe91 197 [(0, .ref 465), (1, .int (nI k)), (2, .int s), (3, .int a), (4, .int (nI i))] [.int 2, .ref 465] sgX6_appeal_192_abe91d rfl ?_
        refine sv_put hF 0 (by decide) rfl rfl rfl lf_RX6_104 dX6_appeal_197 ?_
        refine am_go hF sgX6_appeal_200_34db8 201 [(0, .ref 465), (1, .int (nI k)), (2, .int s), (3, .int a), (4, .int (nI i))] [.ref 465] sgX6_appeal_200_34db8d rfl ?_
        refine sv_get hF 0 (by decide) rfl lf_RX6_104 (.int 2) rfl dX6_appeal_201 ?_
        refine am_ifle hF 209 dX6_appeal_204 (by decide) (fun h9 => False.elim ((by revert h9; decide))) (fun _ => ?_)
        refine am_go hF sgX6_appeal_207_56c54 208 [(0, .ref 465), (1, .int (nI k)), (2, .int s), (3, .int a), (4, .int (nI i))] [.int 0] sgX6_appeal_207_56c54d rfl ?_
        exact am_iret hF hO hret rfl dX6_appeal_208 ⟨by rw [← hjs, ← hja]; simp only [c4, not_false_eq_true, not_true_eq_false, and_self, and_true, true_and, and_false, false_and, true_or, or_true, or_false, false_or, or_self, ↓reduceIte], by rw [← hjs, ← hja]; simp only [c4, not_false_eq_true, not_true_eq_false, and_self, and_true, true_and, and_false, false_and, true_or, or_true, or_false, false_or, or_self, ↓reduceIte]⟩
      · skip
        refine am_go hF sgX6_appeal_178_34db8 179 [(0, .ref 465), (1, .int (nI k)), (2, .int s), (3, .int a), (4, .int (nI i))] [.ref 465, .ref 465] sgX6_appeal_178_34db8d rfl ?_
        refine sv_get hF 26 (by decide) rfl lf_RX6_74 (.ref 526) rfl dX6_appeal_179 ?_
        refine am_go hF sgX6_appeal_182_840bf 183 [(0, .ref 465), (1, .int (nI k)), (2, .int s), (3, .int a), (4, .int (nI i))] [.int (nI k), .ref 526, .ref 465] sgX6_appeal_182_840bfd rfl ?_
        refine sv_zald hF 26 (by decide) ⟨rfl, rfl, by decide⟩ k rfl (show k < 80 by omega) dX6_appeal_183 ?_
        refine am_top (S 26 k) rfl ?_
        refine am_ifne hF 192 dX6_appeal_184 (by decide) (fun c6 => ?_) (fun c6 => ?_)
        · skip
          refine am_go hF sgX6_appeal_192_abe91 197 [(0, .ref 465), (1, .int (nI k)), (2, .int s), (3, .int a), (4, .int (nI i))] [.int 2, .ref 465] sgX6_appeal_192_abe91d rfl ?_
          refine sv_put hF 0 (by decide) rfl rfl rfl lf_RX6_104 dX6_appeal_197 ?_
          refine am_go hF sgX6_appeal_200_34db8 201 [(0, .ref 465), (1, .int (nI k)), (2, .int s), (3, .int a), (4, .int (nI i))] [.ref 465] sgX6_appeal_200_34db8d rfl ?_
          refine sv_get hF 0 (by decide) rfl lf_RX6_104 (.int 2) rfl dX6_appeal_201 ?_
          refine am_ifle hF 209 dX6_appeal_204 (by decide) (fun h9 => False.elim ((by revert h9; decide))) (fun _ => ?_)
          refine am_go hF sgX6_appeal_207_56c54 208 [(0, .ref 465), (1, .int (nI k)), (2, .int s), (3, .int a), (4, .int (nI i))] [.int 0] sgX6_appeal_207_56c54d rfl ?_
          exact am_iret hF hO hret rfl dX6_appeal_208 ⟨by rw [← hjs, ← hja]; simp only [(eq_true c4), c6, not_false_eq_true, not_true_eq_false, and_self, and_true, true_and, and_false, false_and, true_or, or_true, or_false, false_or, or_self, ↓reduceIte], by rw [← hjs, ← hja]; simp only [(eq_true c4), c6, not_false_eq_true, not_true_eq_false, and_self, and_true, true_and, and_false, false_and, true_or, or_true, or_false, false_or, or_self, ↓reduceIte]⟩
        · skip
          refine am_go hF sgX6_appeal_187_bb00f 189 [(0, .ref 465), (1, .int (nI k)), (2, .int s), (3, .int a), (4, .int (nI i))] [.int 3, .int a, .ref 465] sgX6_appeal_187_bb00fd rfl ?_
          refine am_icmpge hF 196 dX6_appeal_189 (by decide) (fun c8 => ?_) (fun c8 => ?_)
          · skip
            refine am_go hF sgX6_appeal_196_56c54 197 [(0, .ref 465), (1, .int (nI k)), (2, .int s), (3, .int a), (4, .int (nI i))] [.int 0, .ref 465] sgX6_appeal_196_56c54d rfl ?_
            refine sv_put hF 0 (by decide) rfl rfl rfl lf_RX6_104 dX6_appeal_197 ?_
            refine am_go hF sgX6_appeal_200_34db8 201 [(0, .ref 465), (1, .int (nI k)), (2, .int s), (3, .int a), (4, .int (nI i))] [.ref 465] sgX6_appeal_200_34db8d rfl ?_
            refine sv_get hF 0 (by decide) rfl lf_RX6_104 (.int 0) rfl dX6_appeal_201 ?_
            refine am_ifle hF 209 dX6_appeal_204 (by decide) (fun _ => ?_) (fun h9 => False.elim ((by revert h9; decide)))
            refine am_go hF sgX6_appeal_209_34db8 210 [(0, .ref 465), (1, .int (nI k)), (2, .int s), (3, .int a), (4, .int (nI i))] [.ref 465] sgX6_appeal_209_34db8d rfl ?_
            refine sv_get hF 26 (by decide) rfl lf_RX6_74 (.ref 526) rfl dX6_appeal_210 ?_
            refine am_go hF sgX6_appeal_213_d3633 215 [(0, .ref 465), (1, .int (nI k)), (2, .int s), (3, .int a), (4, .int (nI i))] [.int 1, .int (nI k), .ref 526] sgX6_appeal_213_d3633d rfl ?_
            refine sv_zast hF 26 (by decide) ⟨rfl, rfl, by decide⟩ k rfl (show k < 80 by omega) rfl dX6_appeal_215 ?_
            refine am_go hF sgX6_appeal_216_34db8 217 [(0, .ref 465), (1, .int (nI k)), (2, .int s), (3, .int a), (4, .int (nI i))] [.ref 465] sgX6_appeal_216_34db8d rfl ?_
            refine sv_get hF 27 (by decide) rfl lf_RX6_77 (.ref 527) rfl dX6_appeal_217 ?_
            refine am_go hF sgX6_appeal_220_d3633 222 [(0, .ref 465), (1, .int (nI k)), (2, .int s), (3, .int a), (4, .int (nI i))] [.int 1, .int (nI k), .ref 527] sgX6_appeal_220_d3633d rfl ?_
            refine sv_zast hF 27 (by decide) ⟨rfl, rfl, by decide⟩ k rfl (show k < 80 by omega) rfl dX6_appeal_222 ?_
            refine am_go hF sgX6_appeal_223_34db8 224 [(0, .ref 465), (1, .int (nI k)), (2, .int s), (3, .int a), (4, .int (nI i))] [.ref 465] sgX6_appeal_223_34db8d rfl ?_
            refine sv_get hF 28 (by decide) rfl lf_RX6_80 (.ref 528) rfl dX6_appeal_224 ?_
            refine am_go hF sgX6_appeal_227_5601b 229 [(0, .ref 465), (1, .int (nI k)), (2, .int s), (3, .int a), (4, .int (nI i))] [.int s, .int (nI k), .ref 528] sgX6_appeal_227_5601bd rfl ?_
            refine sv_iast hF 28 (by decide) ⟨rfl, rfl, by decide⟩ k rfl (show k < 80 by omega) dX6_appeal_229 ?_
            refine am_go hF sgX6_appeal_230_f8a59 231 [(0, .ref 465), (1, .int (nI k)), (2, .int s), (3, .int a), (4, .int (nI i))] [.int s] sgX6_appeal_230_f8a59d rfl ?_
            exact am_iret hF hO hret rfl dX6_appeal_231 ⟨by rw [← hjs, ← hja]; simp only [(eq_true c4), (eq_true c6), c8, not_false_eq_true, not_true_eq_false, and_self, and_true, true_and, and_false, false_and, true_or, or_true, or_false, false_or, or_self, ↓reduceIte], by rw [← hjs, ← hja]; simp only [(eq_true c4), (eq_true c6), c8, not_false_eq_true, not_true_eq_false, and_self, and_true, true_and, and_false, false_and, true_or, or_true, or_false, false_or, or_self, ↓reduceIte]⟩
          · skip
            refine am_go hF sgX6_appeal_192_abe91 197 [(0, .ref 465), (1, .int (nI k)), (2, .int s), (3, .int a), (4, .int (nI i))] [.int 2, .ref 465] sgX6_appeal_192_abe91d rfl ?_
            refine sv_put hF 0 (by decide) rfl rfl rfl lf_RX6_104 dX6_appeal_197 ?_
            refine am_go hF sgX6_appeal_200_34db8 201 [(0, .ref 465), (1, .int (nI k)), (2, .int s), (3, .int a), (4, .int (nI i))] [.ref 465] sgX6_appeal_200_34db8d rfl ?_
            refine sv_get hF 0 (by decide) rfl lf_RX6_104 (.int 2) rfl dX6_appeal_201 ?_
            refine am_ifle hF 209 dX6_appeal_204 (by decide) (fun h9 => False.elim ((by revert h9; decide))) (fun _ => ?_)
            refine am_go hF sgX6_appeal_207_56c54 208 [(0, .ref 465), (1, .int (nI k)), (2, .int s), (3, .int a), (4, .int (nI i))] [.int 0] sgX6_appeal_207_56c54d rfl ?_
            exact am_iret hF hO hret rfl dX6_appeal_208 ⟨by rw [← hjs, ← hja]; simp only [(eq_true c4), (eq_true c6), c8, not_false_eq_true, not_true_eq_false, and_self, and_true, true_and, and_false, false_and, true_or, or_true, or_false, false_or, or_self, ↓reduceIte], by rw [← hjs, ← hja]; simp only [(eq_true c4), (eq_true c6), c8, not_false_eq_true, not_true_eq_false, and_self, and_true, true_and, and_false, false_and, true_or, or_true, or_false, false_or, or_self, ↓reduceIte]⟩
    | succ di ih33 =>
      intro i s a hi hs ha
      have l9i : i < 3 := by omega
      refine am_go hF sgX6_appeal_33_e19c5 36 [(0, .ref 465), (1, .int (nI k)), (2, .int s), (3, .int a), (4, .int (nI i))] [.int 3, .int (nI i)] sgX6_appeal_33_e19c5d rfl ?_
      refine am_icmpge hF 167 dX6_appeal_36 (by decide) (fun h9 => False.elim (nc_lt_f (show i < 3 by omega) (by omega) (by omega) rfl rfl h9)) (fun _ => ?_)
      refine am_go hF sgX6_appeal_39_54e39 46 [(6, .int 15), (5, .int (-1)), (0, .ref 465), (1, .int (nI k)), (2, .int s), (3, .int a), (4, .int (nI i))] [] sgX6_appeal_39_54e39d rfl ?_
      refine am_drop [2, 3, 4, 5, 6, 1, 0] [(0, .ref 465), (1, .int (nI k)), (2, .int s), (3, .int a), (4, .int (nI i)), (5, .int (-1)), (6, .int 15)] rfl ?_
      refine am_eqL [(0, .ref 465), (1, .int (nI k)), (2, .int s), (3, .int a), (4, .int (nI i)), (5, .int (-1)), (6, .int (nI 16 - 1))] rfl ?_
      have lp46 : ∀ (r : Nat) (f : Int32), r ≤ 16 → itD (rab (st1 S 0 0 0) n k l s) f r = itD (rab (st1 S 0 0 0) n k l s) (-1) 16 → (f = -1 ∨ ∃ b, b < 16 ∧ f = nI b) → am_W C (hp T (st1 S 0 0 0) o) 0 0 46 [(0, .ref 465), (1, .int (nI k)), (2, .int s), (3, .int a), (4, .int (nI i)), (5, .int f), (6, .int (nI r - 1))] [] := by
        intro r
        induction r with
        | zero =>
          intro f hr hf hi9
          refine am_eqL [(0, .ref 465), (1, .int (nI k)), (2, .int s), (3, .int a), (4, .int (nI i)), (5, .int f), (6, .int (-1))] rfl ?_
          refine am_go hF sgX6_appeal_46_4d8be 48 [(0, .ref 465), (1, .int (nI k)), (2, .int s), (3, .int a), (4, .int (nI i)), (5, .int f), (6, .int (-1))] [.int (-1)] sgX6_appeal_46_4d8bed rfl ?_
          refine am_iflt hF 130 dX6_appeal_48 (by decide) (fun _ => ?_) (fun h9 => False.elim ((by revert h9; decide)))
          refine am_go hF sgX6_appeal_130_6993c 134 [(0, .ref 465), (1, .int (nI k)), (2, .int s), (3, .int a), (4, .int (nI i)), (5, .int f), (6, .int (-1))] [.int (-1), .int f, .int a] sgX6_appeal_130_6993cd rfl ?_
          refine am_icmpne hF 141 dX6_appeal_134 (by decide) (fun c13 => ?_) (fun c13 => ?_)
          · skip
            refine am_go hF sgX6_appeal_141_0f38d 148 [(3, .int (a + 1)), (0, .ref 465), (1, .int (nI k)), (2, .int s), (4, .int (nI i)), (5, .int f), (6, .int (-1))] [.int (-1), .int f, .int s] sgX6_appeal_141_0f38dd rfl ?_
            refine am_icmpne hF 155 dX6_appeal_148 (by decide) (fun _ => ?_) (fun h9 => False.elim (absurd h9 c13))
            refine am_go hF sgX6_appeal_155_2139b 33 [(4, .int ((nI i) + 1)), (2, .int (s ||| (1 <<< (f &&& 31)))), (3, .int (a + 1)), (0, .ref 465), (1, .int (nI k)), (5, .int f), (6, .int (-1))] [] sgX6_appeal_155_2139bd rfl ?_
            have hb9 : f = rBest (st1 S 0 0 0) n k l s := hf
            have hz9 := rar_s hs ha hb9
            simp only [c13, ↓reduceIte] at hz9
            refine am_drop [3, 4, 1, 2, 0] [(0, .ref 465), (1, .int (nI k)), (2, .int (s ||| (1 <<< (f &&& 31)))), (3, .int (a + 1)), (4, .int ((nI i) + 1))] rfl ?_
            refine am_eqL [(0, .ref 465), (1, .int (nI k)), (2, .int (s ||| (1 <<< (f &&& 31)))), (3, .int (a + 1)), (4, .int (nI (i + 1)))] (by rw [nI_1]) ?_
            exact ih33 (i + 1) (s ||| (1 <<< (f &&& 31))) (a + 1) (by omega) hz9.1 hz9.2
          · skip
            refine am_go hF sgX6_appeal_137_9c036 148 [(3, .int (a + 0)), (0, .ref 465), (1, .int (nI k)), (2, .int s), (4, .int (nI i)), (5, .int f), (6, .int (-1))] [.int (-1), .int f, .int s] sgX6_appeal_137_9c036d rfl ?_
            refine am_icmpne hF 155 dX6_appeal_148 (by decide) (fun h9 => False.elim (absurd c13 h9)) (fun _ => ?_)
            refine am_go hF sgX6_appeal_151_68057 33 [(4, .int ((nI i) + 1)), (2, .int (s ||| 0)), (3, .int (a + 0)), (0, .ref 465), (1, .int (nI k)), (5, .int f), (6, .int (-1))] [] sgX6_appeal_151_68057d rfl ?_
            have hb9 : f = rBest (st1 S 0 0 0) n k l s := hf
            have hz9 := rar_s hs ha hb9
            simp only [(eq_true c13), ↓reduceIte] at hz9
            refine am_drop [3, 4, 1, 2, 0] [(0, .ref 465), (1, .int (nI k)), (2, .int (s ||| 0)), (3, .int (a + 0)), (4, .int ((nI i) + 1))] rfl ?_
            refine am_eqL [(0, .ref 465), (1, .int (nI k)), (2, .int (s ||| 0)), (3, .int (a + 0)), (4, .int (nI (i + 1)))] (by rw [nI_1]) ?_
            exact ih33 (i + 1) (s ||| 0) (a + 0) (by omega) hz9.1 hz9.2
        | succ r ih46 =>
          intro f hr hf hi9
          refine am_eqL [(0, .ref 465), (1, .int (nI k)), (2, .int s), (3, .int a), (4, .int (nI i)), (5, .int f), (6, .int (nI r))] (by rw [nI_pred]) ?_
          refine am_go hF sgX6_appeal_46_4d8be 48 [(0, .ref 465), (1, .int (nI k)), (2, .int s), (3, .int a), (4, .int (nI i)), (5, .int f), (6, .int (nI r))] [.int (nI r)] sgX6_appeal_46_4d8bed rfl ?_
          refine am_iflt hF 130 dX6_appeal_48 (by decide) (fun h9 => False.elim (nc_ge_f (show 0 ≤ r by omega) (by omega) (by omega) rfl rfl h9)) (fun _ => ?_)
          refine am_go hF sgX6_appeal_51_28df0 55 [(0, .ref 465), (1, .int (nI k)), (2, .int s), (3, .int a), (4, .int (nI i)), (5, .int f), (6, .int (nI r))] [.int (nI r), .int (nI k), .ref 465] sgX6_appeal_51_28df0d rfl ?_
          refine am_dV hF hO [.int (nI k), .int (nI r)] [] (c_canJudge (S := (st1 S 0 0 0)) hn hn10 (by omega) (by omega) hkl hl) myX6_canJudge vyX6_canJudge lm_RX6_177 (hp_m _ _ _) rfl rfl 0 0 ⟨Nat.le_of_ble_eq_true rfl, Nat.le_of_ble_eq_true rfl⟩ ⟨Nat.le_of_ble_eq_true rfl, Nat.le_of_ble_eq_true rfl, Nat.le_of_ble_eq_true rfl, Nat.le_of_ble_eq_true rfl⟩ rfl (am_lv_ref (hp_m _ _ _) (am_lv_int (am_lv_int (am_lv_int (am_lv_int (am_lv_int (am_lv_int am_lv_nil))))))) (Nat.le_of_ble_eq_true rfl) dX6_appeal_55 [.int (rCan (st1 S 0 0 0) n k r l)] rfl ?_
          refine am_ifeq hF 74 dX6_appeal_58 (by decide) (fun c17 => ?_) (fun c17 => ?_)
          · skip
            refine am_go hF sgX6_appeal_74_d13b6 79 [(7, .int 0), (0, .ref 465), (1, .int (nI k)), (2, .int s), (3, .int a), (4, .int (nI i)), (5, .int f), (6, .int (nI r))] [.int 0] sgX6_appeal_74_d13b6d rfl ?_
            refine am_ifeq hF 120 dX6_appeal_79 (by decide) (fun _ => ?_) (fun h9 => False.elim ((by revert h9; decide)))
            refine am_go hF sgX6_appeal_120_e12f4 46 [(6, .int ((nI r) + (-1))), (5, .int f), (7, .int 0), (0, .ref 465), (1, .int (nI k)), (2, .int s), (3, .int a), (4, .int (nI i))] [] sgX6_appeal_120_e12f4d rfl ?_
            refine am_drop [3, 4, 5, 6, 7, 1, 0] [(0, .ref 465), (1, .int (nI k)), (2, .int s), (3, .int a), (4, .int (nI i)), (5, .int f), (6, .int ((nI r) + (-1)))] rfl ?_
            refine am_eqL [(0, .ref 465), (1, .int (nI k)), (2, .int s), (3, .int a), (4, .int (nI i)), (5, .int f), (6, .int (nI r - 1))] (by rw [am_pm1]) ?_
            exact ih46 f (by omega) (by rw [← hf]; show itD (rab (st1 S 0 0 0) n k l s) _ r = itD (rab (st1 S 0 0 0) n k l s) (rab (st1 S 0 0 0) n k l s r f) r; congr 1; simp only [rab, (show st1 S 0 0 0 5 = S 5 from rfl), (eq_true c17), not_false_eq_true, not_true_eq_false, and_self, and_true, true_and, and_false, false_and, true_or, or_true, or_false, false_or, or_self, ↓reduceIte]) hi9
          · skip
            refine am_go hF sgX6_appeal_61_5a2ec 67 [(0, .ref 465), (1, .int (nI k)), (2, .int s), (3, .int a), (4, .int (nI i)), (5, .int f), (6, .int (nI r))] [.int ((s >>> ((nI r) &&& 31)) &&& 1)] sgX6_appeal_61_5a2ecd rfl ?_
            refine am_ifne hF 74 dX6_appeal_67 (by decide) (fun c19 => ?_) (fun c19 => ?_)
            · skip
              refine am_go hF sgX6_appeal_74_d13b6 79 [(7, .int 0), (0, .ref 465), (1, .int (nI k)), (2, .int s), (3, .int a), (4, .int (nI i)), (5, .int f), (6, .int (nI r))] [.int 0] sgX6_appeal_74_d13b6d rfl ?_
              refine am_ifeq hF 120 dX6_appeal_79 (by decide) (fun _ => ?_) (fun h9 => False.elim ((by revert h9; decide)))
              refine am_go hF sgX6_appeal_120_e12f4 46 [(6, .int ((nI r) + (-1))), (5, .int f), (7, .int 0), (0, .ref 465), (1, .int (nI k)), (2, .int s), (3, .int a), (4, .int (nI i))] [] sgX6_appeal_120_e12f4d rfl ?_
              refine am_drop [3, 4, 5, 6, 7, 1, 0] [(0, .ref 465), (1, .int (nI k)), (2, .int s), (3, .int a), (4, .int (nI i)), (5, .int f), (6, .int ((nI r) + (-1)))] rfl ?_
              refine am_eqL [(0, .ref 465), (1, .int (nI k)), (2, .int s), (3, .int a), (4, .int (nI i)), (5, .int f), (6, .int (nI r - 1))] (by rw [am_pm1]) ?_
              exact ih46 f (by omega) (by rw [← hf]; show itD (rab (st1 S 0 0 0) n k l s) _ r = itD (rab (st1 S 0 0 0) n k l s) (rab (st1 S 0 0 0) n k l s r f) r; congr 1; simp only [rab, (show st1 S 0 0 0 5 = S 5 from rfl), c17, c19, not_false_eq_true, not_true_eq_false, and_self, and_true, true_and, and_false, false_and, true_or, or_true, or_false, false_or, or_self, ↓reduceIte]) hi9
            · skip
              refine am_go hF sgX6_appeal_70_a4c30 79 [(7, .int 1), (0, .ref 465), (1, .int (nI k)), (2, .int s), (3, .int a), (4, .int (nI i)), (5, .int f), (6, .int (nI r))] [.int 1] sgX6_appeal_70_a4c30d rfl ?_
              refine am_ifeq hF 120 dX6_appeal_79 (by decide) (fun h9 => False.elim ((by revert h9; decide))) (fun _ => ?_)
              refine am_go hF sgX6_appeal_82_c2ad5 85 [(7, .int 1), (0, .ref 465), (1, .int (nI k)), (2, .int s), (3, .int a), (4, .int (nI i)), (5, .int f), (6, .int (nI r))] [.int (-1), .int f] sgX6_appeal_82_c2ad5d rfl ?_
              refine am_icmpeq hF 115 dX6_appeal_85 (by decide) (fun c22 => ?_) (fun c22 => ?_)
              · skip
                refine am_go hF sgX6_appeal_115_6adca 46 [(6, .int ((nI r) + (-1))), (5, .int (nI r)), (7, .int 1), (0, .ref 465), (1, .int (nI k)), (2, .int s), (3, .int a), (4, .int (nI i))] [] sgX6_appeal_115_6adcad rfl ?_
                refine am_drop [3, 4, 5, 6, 7, 1, 0] [(0, .ref 465), (1, .int (nI k)), (2, .int s), (3, .int a), (4, .int (nI i)), (5, .int (nI r)), (6, .int ((nI r) + (-1)))] rfl ?_
                refine am_eqL [(0, .ref 465), (1, .int (nI k)), (2, .int s), (3, .int a), (4, .int (nI i)), (5, .int (nI r)), (6, .int (nI r - 1))] (by rw [am_pm1]) ?_
                exact ih46 (nI r) (by omega) (by rw [← hf]; show itD (rab (st1 S 0 0 0) n k l s) _ r = itD (rab (st1 S 0 0 0) n k l s) (rab (st1 S 0 0 0) n k l s r f) r; congr 1; simp only [rab, (show st1 S 0 0 0 5 = S 5 from rfl), c17, (eq_true c19), (eq_true c22), not_false_eq_true, not_true_eq_false, and_self, and_true, true_and, and_false, false_and, true_or, or_true, or_false, false_or, or_self, ↓reduceIte]) (Or.inr ⟨r, by omega, rfl⟩)
              · skip
                refine am_go hF sgX6_appeal_88_34db8 89 [(7, .int 1), (0, .ref 465), (1, .int (nI k)), (2, .int s), (3, .int a), (4, .int (nI i)), (5, .int f), (6, .int (nI r))] [.ref 465] sgX6_appeal_88_34db8d rfl ?_
                refine sv_get hF 5 (by decide) rfl lf_RX6_16 (.ref 505) rfl dX6_appeal_89 ?_
                refine am_go hF sgX6_appeal_92_4d8be 94 [(7, .int 1), (0, .ref 465), (1, .int (nI k)), (2, .int s), (3, .int a), (4, .int (nI i)), (5, .int f), (6, .int (nI r))] [.int (nI r), .ref 505] sgX6_appeal_92_4d8bed rfl ?_
                refine sv_iald hF 5 (by decide) ⟨rfl, rfl, by decide⟩ r rfl (show r < 16 by omega) dX6_appeal_94 ?_
                refine am_top (S 5 r) rfl ?_
                refine am_go hF sgX6_appeal_95_34db8 96 [(7, .int 1), (0, .ref 465), (1, .int (nI k)), (2, .int s), (3, .int a), (4, .int (nI i)), (5, .int f), (6, .int (nI r))] [.ref 465, .int (S 5 r)] sgX6_appeal_95_34db8d rfl ?_
                refine sv_get hF 5 (by decide) rfl lf_RX6_16 (.ref 505) rfl dX6_appeal_96 ?_
                refine am_go hF sgX6_appeal_99_c2ad5 102 [(7, .int 1), (0, .ref 465), (1, .int (nI k)), (2, .int s), (3, .int a), (4, .int (nI i)), (5, .int f), (6, .int (nI r))] [.int (-1), .int f, .ref 505, .int (S 5 r)] sgX6_appeal_99_c2ad5d rfl ?_
                refine am_icmpne hF 109 dX6_appeal_102 (by decide) (fun _ => ?_) (fun h9 => False.elim (absurd h9 c22))
                refine am_go hF sgX6_appeal_109_9df92 111 [(7, .int 1), (0, .ref 465), (1, .int (nI k)), (2, .int s), (3, .int a), (4, .int (nI i)), (5, .int f), (6, .int (nI r))] [.int f, .ref 505, .int (S 5 r)] sgX6_appeal_109_9df92d rfl ?_
                obtain ⟨b, hb16, eb⟩ := hi9.resolve_left c22
                have eb9 : f.toNatClampNeg = b := by rw [eb]; exact nI_clamp (by omega)
                refine am_top (nI b) eb ?_
                refine sv_iald hF 5 (by decide) ⟨rfl, rfl, by decide⟩ b rfl (show b < 16 by omega) dX6_appeal_111 ?_
                refine am_top (S 5 b) rfl ?_
                refine am_icmpgt hF 120 dX6_appeal_112 (by decide) (fun c24 => ?_) (fun c24 => ?_)
                · skip
                  refine am_go hF sgX6_appeal_120_e12f4 46 [(6, .int ((nI r) + (-1))), (5, .int f), (7, .int 1), (0, .ref 465), (1, .int (nI k)), (2, .int s), (3, .int a), (4, .int (nI i))] [] sgX6_appeal_120_e12f4d rfl ?_
                  refine am_drop [3, 4, 5, 6, 7, 1, 0] [(0, .ref 465), (1, .int (nI k)), (2, .int s), (3, .int a), (4, .int (nI i)), (5, .int f), (6, .int ((nI r) + (-1)))] rfl ?_
                  refine am_eqL [(0, .ref 465), (1, .int (nI k)), (2, .int s), (3, .int a), (4, .int (nI i)), (5, .int f), (6, .int (nI r - 1))] (by rw [am_pm1]) ?_
                  exact ih46 f (by omega) (by rw [← hf]; show itD (rab (st1 S 0 0 0) n k l s) _ r = itD (rab (st1 S 0 0 0) n k l s) (rab (st1 S 0 0 0) n k l s r f) r; congr 1; simp only [rab, (show st1 S 0 0 0 5 = S 5 from rfl), c17, (eq_true c19), c22, c24, not_false_eq_true, not_true_eq_false, and_self, and_true, true_and, and_false, false_and, true_or, or_true, or_false, false_or, or_self, eb9, ↓reduceIte]) hi9
                · skip
                  refine am_go hF sgX6_appeal_115_6adca 46 [(6, .int ((nI r) + (-1))), (5, .int (nI r)), (7, .int 1), (0, .ref 465), (1, .int (nI k)), (2, .int s), (3, .int a), (4, .int (nI i))] [] sgX6_appeal_115_6adcad rfl ?_
                  refine am_drop [3, 4, 5, 6, 7, 1, 0] [(0, .ref 465), (1, .int (nI k)), (2, .int s), (3, .int a), (4, .int (nI i)), (5, .int (nI r)), (6, .int ((nI r) + (-1)))] rfl ?_
                  refine am_eqL [(0, .ref 465), (1, .int (nI k)), (2, .int s), (3, .int a), (4, .int (nI i)), (5, .int (nI r)), (6, .int (nI r - 1))] (by rw [am_pm1]) ?_
                  exact ih46 (nI r) (by omega) (by rw [← hf]; show itD (rab (st1 S 0 0 0) n k l s) _ r = itD (rab (st1 S 0 0 0) n k l s) (rab (st1 S 0 0 0) n k l s r f) r; congr 1; simp only [rab, (show st1 S 0 0 0 5 = S 5 from rfl), c17, (eq_true c19), c22, c24, not_false_eq_true, not_true_eq_false, and_self, and_true, true_and, and_false, false_and, true_or, or_true, or_false, false_or, or_self, eb9, ↓reduceIte]) (Or.inr ⟨r, by omega, rfl⟩)
      exact lp46 16 (-1) (Nat.le_refl _) rfl (Or.inl rfl)
  exact lp33 3 0 0 0 (by omega) rfl rfl
