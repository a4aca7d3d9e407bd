/-! the law's pass -/
def lBx (S : am_T) (k p : Nat) : am_T := st1 (st1 S 33 p (S 33 p + 1)) 15 k (S 15 k ||| (1 : Int32) <<< (nI p &&& 31))
def lBo (S : am_T) (o : Nat → Int64) (k p : Nat) : Nat → Int64 := am_updL o p (o p ||| (nI k).toInt64 <<< ((4 * S 33 p).toInt64 &&& 63))
def lbo (p l : Nat) (S : am_T) : am_T := st1 S 7 l (S 7 l ||| S 6 l &&& (1 : Int32) <<< (nI p &&& 31))
def lBn (S : am_T) (p : Nat) : am_T := if S 32 p + 1 < 3 then st1 S 32 p (S 32 p + 1) else itN (lbo p) (st1 (st1 S 32 p (S 32 p + 1)) 32 p 0) 4
def lLt (S : am_T) (w d : Nat) : am_T := if nI d < S 70 0 ∧ (S 90 w >>> (nI d &&& 31)) &&& 1 = 0 then st1 (st1 S 40 (15 * w + d) (S 40 (15 * w + d) + 2)) 90 w (S 90 w ||| (1 : Int32) <<< (nI d &&& 31)) else S
def lD2 (S : am_T) (k p a : Nat) : am_T := st1 (st1 (st1 (st1 S 40 a (S 40 a ||| 1)) 50 a (S 50 a ||| (1 : Int32) <<< (nI p &&& 31))) 60 a (S 60 a ||| (1 : Int32) <<< (nI k &&& 31))) 15 k (S 15 k ||| (1 : Int32) <<< (nI p &&& 31))
def lDg (S : am_T) (k p w d : Nat) : am_T := lD2 (lLt S w d) k p (15 * w + d)
def lps (k l d : Nat) (set : Int32) (p : Nat) (q : am_T × (Nat → Int64)) : am_T × (Nat → Int64) :=
  if nI p = q.1 10 k then q else if (set >>> (nI p &&& 31)) &&& 1 = 0 then q else if lWay q.1 l p = 0 then (if q.1 33 p < 10 then (lBx q.1 k p, lBo q.1 q.2 k p) else (lBn q.1 p, q.2)) else (lDg q.1 k p ((lWay q.1 l p).toNatClampNeg - 1) d, q.2)
def lPass (S : am_T) (o : Nat → Int64) (k l d : Nat) : am_T × (Nat → Int64) := itN (lps k l d (lRe S l)) (st1 S 13 k 0, o) 8
theorem lBx_f {S : am_T} {k p g : Nat} (h : g ≠ 33 ∧ g ≠ 15) : lBx S k p g = S g := by
  unfold lBx
  rw [st1_f h.2, st1_f h.1]
theorem lbo_f {S : am_T} {p l g : Nat} (h : g ≠ 7) : lbo p l S g = S g := st1_f h
theorem lboN_f {S : am_T} {p g : Nat} (h : g ≠ 7) : ∀ i, itN (lbo p) S i g = S g
  | 0 => rfl
  | i + 1 => (lbo_f h).trans (lboN_f h i)
theorem lBn_f {S : am_T} {p g : Nat} (h : g ≠ 32 ∧ g ≠ 7) : lBn S p g = S g := by
  unfold lBn
  split
  · rw [st1_f h.1]
  · rw [lboN_f h.2, st1_f h.1, st1_f h.1]
theorem lLt_f {S : am_T} {w d g : Nat} (h : g ≠ 40 ∧ g ≠ 90) : lLt S w d g = S g := by
  unfold lLt
  split
  · rw [st1_f h.2, st1_f h.1]
  · rfl
theorem lD2_f {S : am_T} {k p a g : Nat} (h : g ≠ 40 ∧ g ≠ 50 ∧ g ≠ 60 ∧ g ≠ 15) : lD2 S k p a g = S g := by
  unfold lD2
  rw [st1_f h.2.2.2, st1_f h.2.2.1, st1_f h.2.1, st1_f h.1]
theorem lps_f {k l d p g : Nat} {set : Int32} {q : am_T × (Nat → Int64)} (h : g ≠ 33 ∧ g ≠ 15 ∧ g ≠ 32 ∧ g ≠ 7 ∧ g ≠ 40 ∧ g ≠ 90 ∧ g ≠ 50 ∧ g ≠ 60) : (lps k l d set p q).1 g = q.1 g := by
  obtain ⟨h1, h2, h3, h4, h5, h6, h7, h8⟩ := h
  unfold lps
  split
  · rfl
  · split
    · rfl
    · split
      · split
        · exact lBx_f ⟨h1, h2⟩
        · exact lBn_f ⟨h3, h4⟩
      · exact (lD2_f ⟨h5, h7, h8, h2⟩).trans (lLt_f ⟨h5, h6⟩)
theorem lpsN_f {k l d g : Nat} {set : Int32} {q : am_T × (Nat → Int64)} (h : g ≠ 33 ∧ g ≠ 15 ∧ g ≠ 32 ∧ g ≠ 7 ∧ g ≠ 40 ∧ g ≠ 90 ∧ g ≠ 50 ∧ g ≠ 60) : ∀ i, (itN (lps k l d set) q i).1 g = q.1 g
  | 0 => rfl
  | i + 1 => (lps_f h).trans (lpsN_f h i)
theorem lPass_f {S : am_T} {o : Nat → Int64} {k l d g : Nat} (h : g ≠ 33 ∧ g ≠ 15 ∧ g ≠ 32 ∧ g ≠ 7 ∧ g ≠ 40 ∧ g ≠ 90 ∧ g ≠ 50 ∧ g ≠ 60) (h13 : g ≠ 13) : (lPass S o k l d).1 g = S g := by
  unfold lPass
  rw [lpsN_f h]
  exact st1_f h13
theorem lWin_c {S S' : am_T} (h : S' 5 = S 5) (l : Nat) : lWin S' l = lWin S l := by
  unfold lWin
  refine itN_congr (fun _ _ s => itN_congr (fun k _ s => ?_))
  unfold lw1
  rw [h]
theorem lRe_c {S S' : am_T} (h : S' 5 = S 5) (h6 : S' 6 = S 6) (l : Nat) : lRe S' l = lRe S l := by
  unfold lRe
  rw [lWin_c h]
  refine itN_congr (fun k _ s => ?_)
  unfold lre
  rw [h6]
theorem lwy_ne (S : am_T) (set : Int32) (p : Nat) : ∀ (k : Nat) (f : Int32), (∃ i, i < k ∧ ¬ (set >>> (nI i &&& 31)) &&& 1 = 0 ∧ ¬ (S 6 i >>> (nI p &&& 31)) &&& 1 = 0) → k ≤ 4 → ¬ lwy S set p k f = -1
  | 0, _, ⟨i, hi, _⟩, _ => absurd hi (Nat.not_lt_zero i)
  | k + 1, f, ⟨i, hi, h1, h2⟩, hk => by
    have ne : ∀ j, j < 5 → ¬ nI j = -1 := fun j hj => nI_ne_m1 (by omega)
    by_cases e : i = k
    · subst e
      unfold lwy
      rw [if_neg h1, if_neg h2]
      split
      · decide
      · rcases lwy_in S set p i (nI i + 1) with h | h | ⟨j, hj, h⟩
        · rw [h, nI_1]; exact ne _ (by omega)
        · rw [h]; decide
        · rw [h]; exact ne _ (by omega)
    · have h9 : ∃ i, i < k ∧ ¬ (set >>> (nI i &&& 31)) &&& 1 = 0 ∧ ¬ (S 6 i >>> (nI p &&& 31)) &&& 1 = 0 := ⟨i, by omega, h1, h2⟩
      unfold lwy
      split
      · exact lwy_ne S set p k f h9 (by omega)
      · split
        · exact lwy_ne S set p k f h9 (by omega)
        · split
          · decide
          · exact lwy_ne S set p k _ h9 (by omega)
theorem lre_ex (S : am_T) (set : Int32) {p : Nat} (hp : p < 8) : ∀ n, bt (itN (lre S set) 0 n) p = true → ∃ i, i < n ∧ (set >>> (nI i &&& 31)) &&& 1 = 1 ∧ bt (S 6 i) p = true
  | 0, h => by
    have : bt (0 : Int32) p = true := h
    rw [b_0] at this; cases this
  | n + 1, h => by
    have h : bt (lre S set n (itN (lre S set) 0 n)) p = true := h
    unfold lre at h
    split at h
    · rename_i h9
      rw [b_or, Bool.or_eq_true] at h
      rcases h with h | h
      · obtain ⟨i, a, b⟩ := lre_ex S set hp n h
        exact ⟨i, by omega, b⟩
      · exact ⟨n, by omega, h9, h⟩
    · obtain ⟨i, a, b⟩ := lre_ex S set hp n h
      exact ⟨i, by omega, b⟩
theorem lWay_ne {S S' : am_T} (h5 : S' 5 = S 5) (h6 : S' 6 = S 6) {l p : Nat} (hp : p < 8) (h : ¬ (lRe S l >>> (nI p &&& 31)) &&& 1 = 0) : ¬ lWay S' l p = -1 := by
  have h9 : bt (lRe S l) p = true := by
    cases hb : bt (lRe S l) p with
    | true => rfl
    | false => exact absurd ((bt_iff0 (by omega)).mpr hb) h
  obtain ⟨i, hi, h1, h2⟩ := lre_ex S _ hp 4 h9
  unfold lWay
  rw [lWin_c h5]
  refine lwy_ne S' _ p 4 _ ⟨i, hi, fun e => by rw [h1] at e; exact absurd e (by decide), fun e => ?_⟩ (Nat.le_refl 4)
  rw [h6, bt_iff0 (by omega), h2] at e
  cases e
theorem lbo_4 (S : am_T) (p : Nat) (h : ¬ S 32 p + 1 < 3) : lBn S p = itN (lbo p) (st1 (st1 S 32 p (S 32 p + 1)) 32 p 0) 4 := if_neg h
theorem dL_pass_10 : decode cL_pass 10 = .ok (.invokestatic 16, 3) := by decide +kernel
theorem dL_pass_111 : decode cL_pass 111 = .ok (.iaload, 1) := by decide +kernel
theorem dL_pass_115 : decode cL_pass 115 = .ok (.lastore, 1) := by decide +kernel
theorem dL_pass_124 : decode cL_pass 124 = .ok (.iaload, 1) := by decide +kernel
theorem dL_pass_127 : decode cL_pass 127 = .ok (.iastore, 1) := by decide +kernel
theorem dL_pass_137 : decode cL_pass 137 = .ok (.iaload, 1) := by decide +kernel
theorem dL_pass_143 : decode cL_pass 143 = .ok (.iastore, 1) := by decide +kernel
theorem dL_pass_155 : decode cL_pass 155 = .ok (.iaload, 1) := by decide +kernel
theorem dL_pass_158 : decode cL_pass 158 = .ok (.iastore, 1) := by decide +kernel
theorem dL_pass_166 : decode cL_pass 166 = .ok (.iaload, 1) := by decide +kernel
theorem dL_pass_168 : decode cL_pass 168 = .ok (.if_icmp .ge 6, 3) := by decide +kernel
theorem dL_pass_182 : decode cL_pass 182 = .ok (.iastore, 1) := by decide +kernel
theorem dL_pass_189 : decode cL_pass 189 = .ok (.if_icmp .ge 37, 3) := by decide +kernel
theorem dL_pass_202 : decode cL_pass 202 = .ok (.iaload, 1) := by decide +kernel
theorem dL_pass_212 : decode cL_pass 212 = .ok (.iaload, 1) := by decide +kernel
theorem dL_pass_219 : decode cL_pass 219 = .ok (.iastore, 1) := by decide +kernel
theorem dL_pass_24 : decode cL_pass 24 = .ok (.iastore, 1) := by decide +kernel
theorem dL_pass_244 : decode cL_pass 244 = .ok (.iaload, 1) := by decide +kernel
theorem dL_pass_256 : decode cL_pass 256 = .ok (.iaload, 1) := by decide +kernel
theorem dL_pass_260 : decode cL_pass 260 = .ok (.iaload, 1) := by decide +kernel
theorem dL_pass_261 : decode cL_pass 261 = .ok (.if_icmp .ge 55, 3) := by decide +kernel
theorem dL_pass_270 : decode cL_pass 270 = .ok (.iaload, 1) := by decide +kernel
theorem dL_pass_279 : decode cL_pass 279 = .ok (.iaload, 1) := by decide +kernel
theorem dL_pass_283 : decode cL_pass 283 = .ok (.ifCond .ne 33, 3) := by decide +kernel
theorem dL_pass_291 : decode cL_pass 291 = .ok (.iaload, 1) := by decide +kernel
theorem dL_pass_294 : decode cL_pass 294 = .ok (.iastore, 1) := by decide +kernel
theorem dL_pass_302 : decode cL_pass 302 = .ok (.iaload, 1) := by decide +kernel
theorem dL_pass_312 : decode cL_pass 312 = .ok (.iaload, 1) := by decide +kernel
theorem dL_pass_315 : decode cL_pass 315 = .ok (.iastore, 1) := by decide +kernel
theorem dL_pass_32 : decode cL_pass 32 = .ok (.if_icmp .ge 339, 3) := by decide +kernel
theorem dL_pass_321 : decode cL_pass 321 = .ok (.iaload, 1) := by decide +kernel
theorem dL_pass_324 : decode cL_pass 324 = .ok (.iastore, 1) := by decide +kernel
theorem dL_pass_330 : decode cL_pass 330 = .ok (.iaload, 1) := by decide +kernel
theorem dL_pass_336 : decode cL_pass 336 = .ok (.iastore, 1) := by decide +kernel
theorem dL_pass_342 : decode cL_pass 342 = .ok (.iaload, 1) := by decide +kernel
theorem dL_pass_348 : decode cL_pass 348 = .ok (.iastore, 1) := by decide +kernel
theorem dL_pass_358 : decode cL_pass 358 = .ok (.iaload, 1) := by decide +kernel
theorem dL_pass_364 : decode cL_pass 364 = .ok (.iastore, 1) := by decide +kernel
theorem dL_pass_371 : decode cL_pass 371 = .ok (.return_, 1) := by decide +kernel
theorem dL_pass_43 : decode cL_pass 43 = .ok (.iaload, 1) := by decide +kernel
theorem dL_pass_44 : decode cL_pass 44 = .ok (.if_icmp .eq 321, 3) := by decide +kernel
theorem dL_pass_54 : decode cL_pass 54 = .ok (.ifCond .ne 6, 3) := by decide +kernel
theorem dL_pass_69 : decode cL_pass 69 = .ok (.iaload, 1) := by decide +kernel
theorem dL_pass_72 : decode cL_pass 72 = .ok (.invokestatic 19, 3) := by decide +kernel
theorem dL_pass_79 : decode cL_pass 79 = .ok (.ifCond .ne 150, 3) := by decide +kernel
theorem dL_pass_89 : decode cL_pass 89 = .ok (.iaload, 1) := by decide +kernel
theorem dL_pass_9 : decode cL_pass 9 = .ok (.iaload, 1) := by decide +kernel
theorem dL_pass_92 : decode cL_pass 92 = .ok (.if_icmp .ge 55, 3) := by decide +kernel
theorem dL_pass_99 : decode cL_pass 99 = .ok (.laload, 1) := by decide +kernel
def sgL_pass_0_52e8b : List Instr := [.aload_n 0, .aload_n 1, .bipush 6, .iload 9, .imul, .iconst 1, .iadd]
theorem sgL_pass_0_52e8bd : am_dec cL_pass 0 sgL_pass_0_52e8b = true := by decide +kernel
def sgL_pass_100_e5b43 : List Instr := [.iload 9, .i2l, .iconst 4, .aload_n 2, .iconst 4, .iload 11, .imul, .iconst 3, .iadd]
theorem sgL_pass_100_e5b43d : am_dec cL_pass 100 sgL_pass_100_e5b43 = true := by decide +kernel
def sgL_pass_112_cc340 : List Instr := [.imul, .lshl, .lor]
theorem sgL_pass_112_cc340d : am_dec cL_pass 112 sgL_pass_112_cc340 = true := by decide +kernel
def sgL_pass_116_052ed : List Instr := [.aload_n 2, .iconst 4, .iload 11, .imul, .iconst 3, .iadd, .dup2]
theorem sgL_pass_116_052edd : am_dec cL_pass 116 sgL_pass_116_052ed = true := by decide +kernel
def sgL_pass_125_c7176 : List Instr := [.iconst 1, .iadd]
theorem sgL_pass_125_c7176d : am_dec cL_pass 125 sgL_pass_125_c7176 = true := by decide +kernel
def sgL_pass_128_1f87d : List Instr := [.aload_n 1, .bipush 6, .iload 9, .imul, .iconst 5, .iadd, .dup2]
theorem sgL_pass_128_1f87dd : am_dec cL_pass 128 sgL_pass_128_1f87d = true := by decide +kernel
def sgL_pass_138_5fbdc : List Instr := [.iconst 1, .iload 11, .ishl, .ior]
theorem sgL_pass_138_5fbdcd : am_dec cL_pass 138 sgL_pass_138_5fbdc = true := by decide +kernel
def sgL_pass_13_00411 : List Instr := [.istore 10, .aload_n 1, .bipush 6, .iload 9, .imul, .iconst 3, .iadd, .iconst 0]
theorem sgL_pass_13_00411d : am_dec cL_pass 13 sgL_pass_13_00411 = true := by decide +kernel
def sgL_pass_144_8e35a : List Instr := [.goto 221, .iinc 11 1, .goto (-340)]
theorem sgL_pass_144_8e35ad : am_dec cL_pass 144 sgL_pass_144_8e35a = true := by decide +kernel
def sgL_pass_147_d1b09 : List Instr := [.aload_n 2, .iconst 4, .iload 11, .imul, .iconst 2, .iadd, .dup2]
theorem sgL_pass_147_d1b09d : am_dec cL_pass 147 sgL_pass_147_d1b09 = true := by decide +kernel
def sgL_pass_156_c7176 : List Instr := [.iconst 1, .iadd]
theorem sgL_pass_156_c7176d : am_dec cL_pass 156 sgL_pass_156_c7176 = true := by decide +kernel
def sgL_pass_159_c72fb : List Instr := [.aload_n 2, .iconst 4, .iload 11, .imul, .iconst 2, .iadd]
theorem sgL_pass_159_c72fbd : am_dec cL_pass 159 sgL_pass_159_c72fb = true := by decide +kernel
def sgL_pass_167_800cc : List Instr := [.iconst 3]
theorem sgL_pass_167_800ccd : am_dec cL_pass 167 sgL_pass_167_800cc = true := by decide +kernel
def sgL_pass_171_c60b6 : List Instr := [.goto 194, .iinc 11 1, .goto (-340)]
theorem sgL_pass_171_c60b6d : am_dec cL_pass 171 sgL_pass_171_c60b6 = true := by decide +kernel
def sgL_pass_174_450d1 : List Instr := [.aload_n 2, .iconst 4, .iload 11, .imul, .iconst 2, .iadd, .iconst 0]
theorem sgL_pass_174_450d1d : am_dec cL_pass 174 sgL_pass_174_450d1 = true := by decide +kernel
def sgL_pass_183_1c511 : List Instr := [.iconst 0, .istore 13]
theorem sgL_pass_183_1c511d : am_dec cL_pass 183 sgL_pass_183_1c511 = true := by decide +kernel
def sgL_pass_186_eb7a2 : List Instr := [.iload 13, .iconst 4]
theorem sgL_pass_186_eb7a2d : am_dec cL_pass 186 sgL_pass_186_eb7a2 = true := by decide +kernel
def sgL_pass_192_b0485 : List Instr := [.aload_n 0, .bipush 8, .iload 13, .imul, .bipush 7, .iadd, .dup2]
theorem sgL_pass_192_b0485d : am_dec cL_pass 192 sgL_pass_192_b0485 = true := by decide +kernel
def sgL_pass_203_9e4f7 : List Instr := [.aload_n 0, .bipush 8, .iload 13, .imul, .bipush 6, .iadd]
theorem sgL_pass_203_9e4f7d : am_dec cL_pass 203 sgL_pass_203_9e4f7 = true := by decide +kernel
def sgL_pass_213_c395d : List Instr := [.iconst 1, .iload 11, .ishl, .iand, .ior]
theorem sgL_pass_213_c395dd : am_dec cL_pass 213 sgL_pass_213_c395d = true := by decide +kernel
def sgL_pass_220_4414f : List Instr := [.iinc 13 1, .goto (-37)]
theorem sgL_pass_220_4414fd : am_dec cL_pass 220 sgL_pass_220_4414f = true := by decide +kernel
def sgL_pass_226_26b06 : List Instr := [.goto 139, .iinc 11 1, .goto (-340)]
theorem sgL_pass_226_26b06d : am_dec cL_pass 226 sgL_pass_226_26b06 = true := by decide +kernel
def sgL_pass_229_d6f50 : List Instr := [.bipush 15, .iload 12, .iconst 1, .isub, .imul, .aload_n 1, .bipush 6, .iload 9, .imul, .iconst 2, .iadd]
theorem sgL_pass_229_d6f50d : am_dec cL_pass 229 sgL_pass_229_d6f50 = true := by decide +kernel
def sgL_pass_245_b29b8 : List Instr := [.iadd, .istore 13, .aload_n 1, .bipush 6, .iload 9, .imul, .iconst 2, .iadd]
theorem sgL_pass_245_b29b8d : am_dec cL_pass 245 sgL_pass_245_b29b8 = true := by decide +kernel
def sgL_pass_257_29a05 : List Instr := [.aload 8, .iconst 0]
theorem sgL_pass_257_29a05d : am_dec cL_pass 257 sgL_pass_257_29a05 = true := by decide +kernel
def sgL_pass_25_c9749 : List Instr := [.iconst 0, .istore 11]
theorem sgL_pass_25_c9749d : am_dec cL_pass 25 sgL_pass_25_c9749 = true := by decide +kernel
def sgL_pass_264_cbd2b : List Instr := [.aload 7, .iload 12, .iconst 1, .isub]
theorem sgL_pass_264_cbd2bd : am_dec cL_pass 264 sgL_pass_264_cbd2b = true := by decide +kernel
def sgL_pass_271_f964a : List Instr := [.aload_n 1, .bipush 6, .iload 9, .imul, .iconst 2, .iadd]
theorem sgL_pass_271_f964ad : am_dec cL_pass 271 sgL_pass_271_f964a = true := by decide +kernel
def sgL_pass_280_fe612 : List Instr := [.ishr, .iconst 1, .iand]
theorem sgL_pass_280_fe612d : am_dec cL_pass 280 sgL_pass_280_fe612 = true := by decide +kernel
def sgL_pass_286_0f95a : List Instr := [.aload 4, .iload 13, .dup2]
theorem sgL_pass_286_0f95ad : am_dec cL_pass 286 sgL_pass_286_0f95a = true := by decide +kernel
def sgL_pass_28_2616e : List Instr := [.iload 11, .bipush 8]
theorem sgL_pass_28_2616ed : am_dec cL_pass 28 sgL_pass_28_2616e = true := by decide +kernel
def sgL_pass_292_337a1 : List Instr := [.iconst 2, .iadd]
theorem sgL_pass_292_337a1d : am_dec cL_pass 292 sgL_pass_292_337a1 = true := by decide +kernel
def sgL_pass_295_dfbee : List Instr := [.aload 7, .iload 12, .iconst 1, .isub, .dup2]
theorem sgL_pass_295_dfbeed : am_dec cL_pass 295 sgL_pass_295_dfbee = true := by decide +kernel
def sgL_pass_303_82363 : List Instr := [.iconst 1, .aload_n 1, .bipush 6, .iload 9, .imul, .iconst 2, .iadd]
theorem sgL_pass_303_82363d : am_dec cL_pass 303 sgL_pass_303_82363 = true := by decide +kernel
def sgL_pass_313_b517f : List Instr := [.ishl, .ior]
theorem sgL_pass_313_b517fd : am_dec cL_pass 313 sgL_pass_313_b517f = true := by decide +kernel
def sgL_pass_316_0f95a : List Instr := [.aload 4, .iload 13, .dup2]
theorem sgL_pass_316_0f95ad : am_dec cL_pass 316 sgL_pass_316_0f95a = true := by decide +kernel
def sgL_pass_322_64ab0 : List Instr := [.iconst 1, .ior]
theorem sgL_pass_322_64ab0d : am_dec cL_pass 322 sgL_pass_322_64ab0 = true := by decide +kernel
def sgL_pass_325_150b8 : List Instr := [.aload 5, .iload 13, .dup2]
theorem sgL_pass_325_150b8d : am_dec cL_pass 325 sgL_pass_325_150b8 = true := by decide +kernel
def sgL_pass_331_5fbdc : List Instr := [.iconst 1, .iload 11, .ishl, .ior]
theorem sgL_pass_331_5fbdcd : am_dec cL_pass 331 sgL_pass_331_5fbdc = true := by decide +kernel
def sgL_pass_337_980b6 : List Instr := [.aload 6, .iload 13, .dup2]
theorem sgL_pass_337_980b6d : am_dec cL_pass 337 sgL_pass_337_980b6 = true := by decide +kernel
def sgL_pass_343_422c0 : List Instr := [.iconst 1, .iload 9, .ishl, .ior]
theorem sgL_pass_343_422c0d : am_dec cL_pass 343 sgL_pass_343_422c0 = true := by decide +kernel
def sgL_pass_349_1f87d : List Instr := [.aload_n 1, .bipush 6, .iload 9, .imul, .iconst 5, .iadd, .dup2]
theorem sgL_pass_349_1f87dd : am_dec cL_pass 349 sgL_pass_349_1f87d = true := by decide +kernel
def sgL_pass_359_5fbdc : List Instr := [.iconst 1, .iload 11, .ishl, .ior]
theorem sgL_pass_359_5fbdcd : am_dec cL_pass 359 sgL_pass_359_5fbdc = true := by decide +kernel
def sgL_pass_35_09b05 : List Instr := [.iload 11, .aload_n 1, .bipush 6, .iload 9, .imul]
theorem sgL_pass_35_09b05d : am_dec cL_pass 35 sgL_pass_35_09b05 = true := by decide +kernel
def sgL_pass_365_352eb : List Instr := [.iinc 11 1, .goto (-340)]
theorem sgL_pass_365_352ebd : am_dec cL_pass 365 sgL_pass_365_352eb = true := by decide +kernel
def sgL_pass_47_1a4bd : List Instr := [.iload 10, .iload 11, .ishr, .iconst 1, .iand]
theorem sgL_pass_47_1a4bdd : am_dec cL_pass 47 sgL_pass_47_1a4bd = true := by decide +kernel
def sgL_pass_57_42831 : List Instr := [.goto 308, .iinc 11 1, .goto (-340)]
theorem sgL_pass_57_42831d : am_dec cL_pass 57 sgL_pass_57_42831 = true := by decide +kernel
def sgL_pass_60_52e8b : List Instr := [.aload_n 0, .aload_n 1, .bipush 6, .iload 9, .imul, .iconst 1, .iadd]
theorem sgL_pass_60_52e8bd : am_dec cL_pass 60 sgL_pass_60_52e8b = true := by decide +kernel
def sgL_pass_70_19e4e : List Instr := [.iload 11]
theorem sgL_pass_70_19e4ed : am_dec cL_pass 70 sgL_pass_70_19e4e = true := by decide +kernel
def sgL_pass_75_99546 : List Instr := [.istore 12, .iload 12]
theorem sgL_pass_75_99546d : am_dec cL_pass 75 sgL_pass_75_99546 = true := by decide +kernel
def sgL_pass_82_a74ed : List Instr := [.aload_n 2, .iconst 4, .iload 11, .imul, .iconst 3, .iadd]
theorem sgL_pass_82_a74edd : am_dec cL_pass 82 sgL_pass_82_a74ed = true := by decide +kernel
def sgL_pass_90_ee951 : List Instr := [.bipush 10]
theorem sgL_pass_90_ee951d : am_dec cL_pass 90 sgL_pass_90_ee951 = true := by decide +kernel
def sgL_pass_95_dcedc : List Instr := [.aload_n 3, .iload 11, .dup2]
theorem sgL_pass_95_dcedcd : am_dec cL_pass 95 sgL_pass_95_dcedc = true := by decide +kernel
set_option maxRecDepth 100000 in
set_option maxHeartbeats 4000000 in
theorem c_l_pass {G : am_S} {T S : am_T} {o : Nat → Int64} {k l d : Nat} (hk : k < 10) (hl : l < 4) (hd : d < 15) (h11 : S 11 k = nI l) (h12 : S 12 k = nI d) (h91 : S 91 0 = 1) : am_D G yL_pass (.code yL_pass cL_pass 14 none :: am_G) { frames := 2, cells := 0, slots := 0, locals := 49 } (hp T S o) [.ref 500, .ref 501, .ref 503, .ref 464, .ref 504, .ref 505, .ref 506, .ref 509, .ref 507, .int (nI k)] (hp T (lPass S o k l d).1 (lPass S o k l d).2) none := by
  refine am_of (by decide +kernel) (Nat.le_of_ble_eq_true rfl) ?_
  intro C hse hret hname hF hO
  subst hse
  refine am_go hF sgL_pass_0_52e8b 9 [(0, .ref 500), (1, .ref 501), (2, .ref 503), (3, .ref 464), (4, .ref 504), (5, .ref 505), (6, .ref 506), (7, .ref 509), (8, .ref 507), (9, .int (nI k))] [.int ((6 * (nI k)) + 1), .ref 501, .ref 500] sgL_pass_0_52e8bd rfl ?_
  refine sv_iald hF 1 1 k 11 (by decide) (by decide) rfl (am_ad (am_mu rfl rfl) rfl) (show 6 * k + 1 < 60 by omega) (by decide) dL_pass_9 ?_
  refine am_top (nI l) h11 ?_
  refine am_dS hF hO [.ref 500, .int (nI l)] [] (c_reach hl) myL_reach syL_reach lm_RL_16 rfl 0 0 ⟨Nat.le_of_ble_eq_true rfl, Nat.le_of_ble_eq_true rfl⟩ ⟨Nat.le_of_ble_eq_true rfl, Nat.le_of_ble_eq_true rfl, Nat.le_of_ble_eq_true rfl, Nat.le_of_ble_eq_true rfl⟩ rfl (am_lv_ref (hp_a _ _ _ (f := 0) (by decide)) (am_lv_ref (hp_a _ _ _ (f := 1) (by decide)) (am_lv_ref (hp_a _ _ _ (f := 3) (by decide)) (am_lv_ref (hp_o _ _ _) (am_lv_ref (hp_a _ _ _ (f := 4) (by decide)) (am_lv_ref (hp_a _ _ _ (f := 5) (by decide)) (am_lv_ref (hp_a _ _ _ (f := 6) (by decide)) (am_lv_ref (hp_t _ S _ h91) (am_lv_ref (hp_a _ _ _ (f := 7) (by decide)) (am_lv_int am_lv_nil)))))))))) (Nat.le_of_ble_eq_true rfl) dL_pass_10 [.int (lRe S l)] rfl ?_
  refine am_go hF sgL_pass_13_00411 24 [(10, .int (lRe S l)), (0, .ref 500), (1, .ref 501), (2, .ref 503), (3, .ref 464), (4, .ref 504), (5, .ref 505), (6, .ref 506), (7, .ref 509), (8, .ref 507), (9, .int (nI k))] [.int 0, .int ((6 * (nI k)) + 3), .ref 501] sgL_pass_13_00411d rfl ?_
  refine sv_iast hF 1 3 k 13 (by decide) (by decide) rfl (am_ad (am_mu rfl rfl) rfl) (show 6 * k + 3 < 60 by omega) (by decide) dL_pass_24 ?_
  refine am_go hF sgL_pass_25_c9749 28 [(11, .int 0), (10, .int (lRe S l)), (0, .ref 500), (1, .ref 501), (2, .ref 503), (3, .ref 464), (4, .ref 504), (5, .ref 505), (6, .ref 506), (7, .ref 509), (8, .ref 507), (9, .int (nI k))] [] sgL_pass_25_c9749d rfl ?_
  refine am_drop [2, 3, 4, 5, 6, 7, 8, 9, 10, 11, 1, 0] [(0, .ref 500), (1, .ref 501), (2, .ref 503), (3, .ref 464), (4, .ref 504), (5, .ref 505), (6, .ref 506), (7, .ref 509), (8, .ref 507), (9, .int (nI k)), (10, .int (lRe S l)), (11, .int 0)] rfl ?_
  have lp28 : ∀ (zz p : Nat) (Sx : am_T) (ox : Nat → Int64), p + zz = 8 → (Sx, ox) = itN (lps k l d (lRe S l)) (st1 S 13 k 0, o) p → am_W C (hp T Sx ox) 0 0 28 [(0, .ref 500), (1, .ref 501), (2, .ref 503), (3, .ref 464), (4, .ref 504), (5, .ref 505), (6, .ref 506), (7, .ref 509), (8, .ref 507), (9, .int (nI k)), (10, .int (lRe S l)), (11, .int (nI p))] [] := by
    intro zz
    induction zz with
    | zero =>
      intro p Sx ox hpz hS
      have e9 : p = 8 := by omega
      refine am_go hF sgL_pass_28_2616e 32 [(0, .ref 500), (1, .ref 501), (2, .ref 503), (3, .ref 464), (4, .ref 504), (5, .ref 505), (6, .ref 506), (7, .ref 509), (8, .ref 507), (9, .int (nI k)), (10, .int (lRe S l)), (11, .int (nI p))] [.int 8, .int (nI p)] sgL_pass_28_2616ed rfl ?_
      refine am_icmpge hF 371 dL_pass_32 (by decide) (fun _ => ?_) (fun h9 => False.elim (absurd (nc_ge (show 8 ≤ p by omega) (by omega) (by omega) rfl rfl) h9))
      exact am_vret hF hO hret dL_pass_371 ⟨by show hp T Sx ox = _; unfold lPass; rw [← e9, ← hS], rfl⟩
    | succ zz ih =>
      intro p Sx ox hpz hS
      have hp8 : p < 8 := by omega
      have x11 : Sx 11 k = nI l := by rw [show Sx = (itN (lps k l d (lRe S l)) (st1 S 13 k 0, o) p).1 from congrArg Prod.fst hS, lpsN_f (by decide)]; exact h11
      have x12 : Sx 12 k = nI d := by rw [show Sx = (itN (lps k l d (lRe S l)) (st1 S 13 k 0, o) p).1 from congrArg Prod.fst hS, lpsN_f (by decide)]; exact h12
      have x91 : Sx 91 0 = 1 := by rw [show Sx = (itN (lps k l d (lRe S l)) (st1 S 13 k 0, o) p).1 from congrArg Prod.fst hS, lpsN_f (by decide)]; exact h91
      have x5 : Sx 5 = S 5 := by rw [show Sx = (itN (lps k l d (lRe S l)) (st1 S 13 k 0, o) p).1 from congrArg Prod.fst hS, lpsN_f (by decide)]; rfl
      have x6 : Sx 6 = S 6 := by rw [show Sx = (itN (lps k l d (lRe S l)) (st1 S 13 k 0, o) p).1 from congrArg Prod.fst hS, lpsN_f (by decide)]; rfl
      refine am_go hF sgL_pass_28_2616e 32 [(0, .ref 500), (1, .ref 501), (2, .ref 503), (3, .ref 464), (4, .ref 504), (5, .ref 505), (6, .ref 506), (7, .ref 509), (8, .ref 507), (9, .int (nI k)), (10, .int (lRe S l)), (11, .int (nI p))] [.int 8, .int (nI p)] sgL_pass_28_2616ed rfl ?_
      refine am_icmpge hF 371 dL_pass_32 (by decide) (fun h9 => False.elim (nc_lt_f (show p < 8 by omega) (by omega) (by omega) rfl rfl h9)) (fun _ => ?_)
      refine am_go hF sgL_pass_35_09b05 43 [(0, .ref 500), (1, .ref 501), (2, .ref 503), (3, .ref 464), (4, .ref 504), (5, .ref 505), (6, .ref 506), (7, .ref 509), (8, .ref 507), (9, .int (nI k)), (10, .int (lRe S l)), (11, .int (nI p))] [.int (6 * (nI k)), .ref 501, .int (nI p)] sgL_pass_35_09b05d rfl ?_
      refine sv_iald hF 1 0 k 10 (by decide) (by decide) rfl (am_mu rfl rfl) (show 6 * k + 0 < 60 by omega) (by decide) dL_pass_43 ?_
      refine am_icmpeq hF 365 dL_pass_44 (by decide) (fun c1 => ?_) (fun c1 => ?_)
      · skip
        refine am_go hF sgL_pass_365_352eb 28 [(11, .int ((nI p) + 1)), (0, .ref 500), (1, .ref 501), (2, .ref 503), (3, .ref 464), (4, .ref 504), (5, .ref 505), (6, .ref 506), (7, .ref 509), (8, .ref 507), (9, .int (nI k)), (10, .int (lRe S l))] [] sgL_pass_365_352ebd rfl ?_
        refine am_drop [1, 2, 3, 4, 5, 6, 7, 8, 9, 10, 11, 0] [(0, .ref 500), (1, .ref 501), (2, .ref 503), (3, .ref 464), (4, .ref 504), (5, .ref 505), (6, .ref 506), (7, .ref 509), (8, .ref 507), (9, .int (nI k)), (10, .int (lRe S l)), (11, .int ((nI p) + 1))] rfl ?_
        refine am_eqL [(0, .ref 500), (1, .ref 501), (2, .ref 503), (3, .ref 464), (4, .ref 504), (5, .ref 505), (6, .ref 506), (7, .ref 509), (8, .ref 507), (9, .int (nI k)), (10, .int (lRe S l)), (11, .int (nI (p + 1)))] (by rw [nI_1]) ?_
        exact ih (p + 1) Sx ox (by omega) (by show _ = lps k l d (lRe S l) p (itN (lps k l d (lRe S l)) (st1 S 13 k 0, o) p); rw [← hS]; unfold lps; rw [if_pos c1])
      · skip
        refine am_go hF sgL_pass_47_1a4bd 54 [(0, .ref 500), (1, .ref 501), (2, .ref 503), (3, .ref 464), (4, .ref 504), (5, .ref 505), (6, .ref 506), (7, .ref 509), (8, .ref 507), (9, .int (nI k)), (10, .int (lRe S l)), (11, .int (nI p))] [.int (((lRe S l) >>> ((nI p) &&& 31)) &&& 1)] sgL_pass_47_1a4bdd rfl ?_
        refine am_ifne hF 60 dL_pass_54 (by decide) (fun c2 => ?_) (fun c2 => ?_)
        · skip
          refine am_go hF sgL_pass_60_52e8b 69 [(0, .ref 500), (1, .ref 501), (2, .ref 503), (3, .ref 464), (4, .ref 504), (5, .ref 505), (6, .ref 506), (7, .ref 509), (8, .ref 507), (9, .int (nI k)), (10, .int (lRe S l)), (11, .int (nI p))] [.int ((6 * (nI k)) + 1), .ref 501, .ref 500] sgL_pass_60_52e8bd rfl ?_
          refine sv_iald hF 1 1 k 11 (by decide) (by decide) rfl (am_ad (am_mu rfl rfl) rfl) (show 6 * k + 1 < 60 by omega) (by decide) dL_pass_69 ?_
          refine am_top (nI l) x11 ?_
          refine am_go hF sgL_pass_70_19e4e 72 [(0, .ref 500), (1, .ref 501), (2, .ref 503), (3, .ref 464), (4, .ref 504), (5, .ref 505), (6, .ref 506), (7, .ref 509), (8, .ref 507), (9, .int (nI k)), (10, .int (lRe S l)), (11, .int (nI p))] [.int (nI p), .int (nI l), .ref 500] sgL_pass_70_19e4ed rfl ?_
          refine am_dS hF hO [.ref 500, .int (nI l), .int (nI p)] [] (c_way hl (show p < 8 by omega)) myL_way syL_way lm_RL_19 rfl 0 0 ⟨Nat.le_of_ble_eq_true rfl, Nat.le_of_ble_eq_true rfl⟩ ⟨Nat.le_of_ble_eq_true rfl, Nat.le_of_ble_eq_true rfl, Nat.le_of_ble_eq_true rfl, Nat.le_of_ble_eq_true rfl⟩ rfl (am_lv_ref (hp_a _ _ _ (f := 0) (by decide)) (am_lv_ref (hp_a _ _ _ (f := 1) (by decide)) (am_lv_ref (hp_a _ _ _ (f := 3) (by decide)) (am_lv_ref (hp_o _ _ _) (am_lv_ref (hp_a _ _ _ (f := 4) (by decide)) (am_lv_ref (hp_a _ _ _ (f := 5) (by decide)) (am_lv_ref (hp_a _ _ _ (f := 6) (by decide)) (am_lv_ref (hp_t _ Sx _ x91) (am_lv_ref (hp_a _ _ _ (f := 7) (by decide)) (am_lv_int (am_lv_int (am_lv_int am_lv_nil)))))))))))) (Nat.le_of_ble_eq_true rfl) dL_pass_72 [.int (lWay Sx l p)] rfl ?_
          refine am_go hF sgL_pass_75_99546 79 [(12, .int (lWay Sx l p)), (0, .ref 500), (1, .ref 501), (2, .ref 503), (3, .ref 464), (4, .ref 504), (5, .ref 505), (6, .ref 506), (7, .ref 509), (8, .ref 507), (9, .int (nI k)), (10, .int (lRe S l)), (11, .int (nI p))] [.int (lWay Sx l p)] sgL_pass_75_99546d rfl ?_
          refine am_ifne hF 229 dL_pass_79 (by decide) (fun c3 => ?_) (fun c3 => ?_)
          · skip
            have hne := lWay_ne x5 x6 hp8 c2
            obtain ⟨w, hw, hwe⟩ := ((lWay_in Sx l p).resolve_left hne).resolve_left c3
            refine am_eqL [(12, .int (nI (w + 1))), (0, .ref 500), (1, .ref 501), (2, .ref 503), (3, .ref 464), (4, .ref 504), (5, .ref 505), (6, .ref 506), (7, .ref 509), (8, .ref 507), (9, .int (nI k)), (10, .int (lRe S l)), (11, .int (nI p))] (by rw [hwe]) ?_
            have hw9 : 15 * w + d < 60 := by omega
            refine am_go hF sgL_pass_229_d6f50 244 [(12, .int (nI (w + 1))), (0, .ref 500), (1, .ref 501), (2, .ref 503), (3, .ref 464), (4, .ref 504), (5, .ref 505), (6, .ref 506), (7, .ref 509), (8, .ref 507), (9, .int (nI k)), (10, .int (lRe S l)), (11, .int (nI p))] [.int ((6 * (nI k)) + 2), .ref 501, .int (15 * ((nI (w + 1)) - 1))] sgL_pass_229_d6f50d rfl ?_
            refine sv_iald hF 1 2 k 12 (by decide) (by decide) rfl (am_ad (am_mu rfl rfl) rfl) (show 6 * k + 2 < 60 by omega) (by decide) dL_pass_244 ?_
            refine am_top (nI d) x12 ?_
            refine am_go hF sgL_pass_245_b29b8 256 [(13, .int ((15 * ((nI (w + 1)) - 1)) + (nI d))), (12, .int (nI (w + 1))), (0, .ref 500), (1, .ref 501), (2, .ref 503), (3, .ref 464), (4, .ref 504), (5, .ref 505), (6, .ref 506), (7, .ref 509), (8, .ref 507), (9, .int (nI k)), (10, .int (lRe S l)), (11, .int (nI p))] [.int ((6 * (nI k)) + 2), .ref 501] sgL_pass_245_b29b8d rfl ?_
            refine sv_iald hF 1 2 k 12 (by decide) (by decide) rfl (am_ad (am_mu rfl rfl) rfl) (show 6 * k + 2 < 60 by omega) (by decide) dL_pass_256 ?_
            refine am_top (nI d) x12 ?_
            refine am_go hF sgL_pass_257_29a05 260 [(13, .int ((15 * ((nI (w + 1)) - 1)) + (nI d))), (12, .int (nI (w + 1))), (0, .ref 500), (1, .ref 501), (2, .ref 503), (3, .ref 464), (4, .ref 504), (5, .ref 505), (6, .ref 506), (7, .ref 509), (8, .ref 507), (9, .int (nI k)), (10, .int (lRe S l)), (11, .int (nI p))] [.int 0, .ref 507, .int (nI d)] sgL_pass_257_29a05d rfl ?_
            refine sv_iald hF 7 0 0 70 (by decide) (by decide) rfl rfl (show 3 * 0 + 0 < 3 by omega) (by decide) dL_pass_260 ?_
            refine am_icmpge hF 316 dL_pass_261 (by decide) (fun c4 => ?_) (fun c4 => ?_)
            · skip
              refine am_go hF sgL_pass_316_0f95a 321 [(13, .int ((15 * ((nI (w + 1)) - 1)) + (nI d))), (12, .int (nI (w + 1))), (0, .ref 500), (1, .ref 501), (2, .ref 503), (3, .ref 464), (4, .ref 504), (5, .ref 505), (6, .ref 506), (7, .ref 509), (8, .ref 507), (9, .int (nI k)), (10, .int (lRe S l)), (11, .int (nI p))] [.int ((15 * ((nI (w + 1)) - 1)) + (nI d)), .ref 504, .int ((15 * ((nI (w + 1)) - 1)) + (nI d)), .ref 504] sgL_pass_316_0f95ad rfl ?_
              refine sv_iald1 hF 4 ((15 * w) + d) 40 (by decide) rfl rfl (am_ad (am_mu rfl (am_s1 rfl)) rfl) (show (15 * w) + d < 60 by omega) (by decide) dL_pass_321 ?_
              refine am_go hF sgL_pass_322_64ab0 324 [(13, .int ((15 * ((nI (w + 1)) - 1)) + (nI d))), (12, .int (nI (w + 1))), (0, .ref 500), (1, .ref 501), (2, .ref 503), (3, .ref 464), (4, .ref 504), (5, .ref 505), (6, .ref 506), (7, .ref 509), (8, .ref 507), (9, .int (nI k)), (10, .int (lRe S l)), (11, .int (nI p))] [.int ((Sx 40 ((15 * w) + d)) ||| 1), .int ((15 * ((nI (w + 1)) - 1)) + (nI d)), .ref 504] sgL_pass_322_64ab0d rfl ?_
              refine sv_iast1 hF 4 ((15 * w) + d) 40 (by decide) rfl rfl (am_ad (am_mu rfl (am_s1 rfl)) rfl) (show (15 * w) + d < 60 by omega) (by decide) dL_pass_324 ?_
              refine am_go hF sgL_pass_325_150b8 330 [(13, .int ((15 * ((nI (w + 1)) - 1)) + (nI d))), (12, .int (nI (w + 1))), (0, .ref 500), (1, .ref 501), (2, .ref 503), (3, .ref 464), (4, .ref 504), (5, .ref 505), (6, .ref 506), (7, .ref 509), (8, .ref 507), (9, .int (nI k)), (10, .int (lRe S l)), (11, .int (nI p))] [.int ((15 * ((nI (w + 1)) - 1)) + (nI d)), .ref 505, .int ((15 * ((nI (w + 1)) - 1)) + (nI d)), .ref 505] sgL_pass_325_150b8d rfl ?_
              refine sv_iald1 hF 5 ((15 * w) + d) 50 (by decide) rfl rfl (am_ad (am_mu rfl (am_s1 rfl)) rfl) (show (15 * w) + d < 60 by omega) (by decide) dL_pass_330 ?_
              refine am_top (Sx 50 ((15 * w) + d)) rfl ?_
              refine am_go hF sgL_pass_331_5fbdc 336 [(13, .int ((15 * ((nI (w + 1)) - 1)) + (nI d))), (12, .int (nI (w + 1))), (0, .ref 500), (1, .ref 501), (2, .ref 503), (3, .ref 464), (4, .ref 504), (5, .ref 505), (6, .ref 506), (7, .ref 509), (8, .ref 507), (9, .int (nI k)), (10, .int (lRe S l)), (11, .int (nI p))] [.int ((Sx 50 ((15 * w) + d)) ||| (1 <<< ((nI p) &&& 31))), .int ((15 * ((nI (w + 1)) - 1)) + (nI d)), .ref 505] sgL_pass_331_5fbdcd rfl ?_
              refine sv_iast1 hF 5 ((15 * w) + d) 50 (by decide) rfl rfl (am_ad (am_mu rfl (am_s1 rfl)) rfl) (show (15 * w) + d < 60 by omega) (by decide) dL_pass_336 ?_
              refine am_go hF sgL_pass_337_980b6 342 [(13, .int ((15 * ((nI (w + 1)) - 1)) + (nI d))), (12, .int (nI (w + 1))), (0, .ref 500), (1, .ref 501), (2, .ref 503), (3, .ref 464), (4, .ref 504), (5, .ref 505), (6, .ref 506), (7, .ref 509), (8, .ref 507), (9, .int (nI k)), (10, .int (lRe S l)), (11, .int (nI p))] [.int ((15 * ((nI (w + 1)) - 1)) + (nI d)), .ref 506, .int ((15 * ((nI (w + 1)) - 1)) + (nI d)), .ref 506] sgL_pass_337_980b6d rfl ?_
              refine sv_iald1 hF 6 ((15 * w) + d) 60 (by decide) rfl rfl (am_ad (am_mu rfl (am_s1 rfl)) rfl) (show (15 * w) + d < 60 by omega) (by decide) dL_pass_342 ?_
              refine am_top (Sx 60 ((15 * w) + d)) rfl ?_
              refine am_go hF sgL_pass_343_422c0 348 [(13, .int ((15 * ((nI (w + 1)) - 1)) + (nI d))), (12, .int (nI (w + 1))), (0, .ref 500), (1, .ref 501), (2, .ref 503), (3, .ref 464), (4, .ref 504), (5, .ref 505), (6, .ref 506), (7, .ref 509), (8, .ref 507), (9, .int (nI k)), (10, .int (lRe S l)), (11, .int (nI p))] [.int ((Sx 60 ((15 * w) + d)) ||| (1 <<< ((nI k) &&& 31))), .int ((15 * ((nI (w + 1)) - 1)) + (nI d)), .ref 506] sgL_pass_343_422c0d rfl ?_
              refine sv_iast1 hF 6 ((15 * w) + d) 60 (by decide) rfl rfl (am_ad (am_mu rfl (am_s1 rfl)) rfl) (show (15 * w) + d < 60 by omega) (by decide) dL_pass_348 ?_
              refine am_go hF sgL_pass_349_1f87d 358 [(13, .int ((15 * ((nI (w + 1)) - 1)) + (nI d))), (12, .int (nI (w + 1))), (0, .ref 500), (1, .ref 501), (2, .ref 503), (3, .ref 464), (4, .ref 504), (5, .ref 505), (6, .ref 506), (7, .ref 509), (8, .ref 507), (9, .int (nI k)), (10, .int (lRe S l)), (11, .int (nI p))] [.int ((6 * (nI k)) + 5), .ref 501, .int ((6 * (nI k)) + 5), .ref 501] sgL_pass_349_1f87dd rfl ?_
              refine sv_iald hF 1 5 k 15 (by decide) (by decide) rfl (am_ad (am_mu rfl rfl) rfl) (show 6 * k + 5 < 60 by omega) (by decide) dL_pass_358 ?_
              refine am_top (Sx 15 k) rfl ?_
              refine am_go hF sgL_pass_359_5fbdc 364 [(13, .int ((15 * ((nI (w + 1)) - 1)) + (nI d))), (12, .int (nI (w + 1))), (0, .ref 500), (1, .ref 501), (2, .ref 503), (3, .ref 464), (4, .ref 504), (5, .ref 505), (6, .ref 506), (7, .ref 509), (8, .ref 507), (9, .int (nI k)), (10, .int (lRe S l)), (11, .int (nI p))] [.int ((Sx 15 k) ||| (1 <<< ((nI p) &&& 31))), .int ((6 * (nI k)) + 5), .ref 501] sgL_pass_359_5fbdcd rfl ?_
              refine sv_iast hF 1 5 k 15 (by decide) (by decide) rfl (am_ad (am_mu rfl rfl) rfl) (show 6 * k + 5 < 60 by omega) (by decide) dL_pass_364 ?_
              refine am_go hF sgL_pass_365_352eb 28 [(11, .int ((nI p) + 1)), (13, .int ((15 * ((nI (w + 1)) - 1)) + (nI d))), (12, .int (nI (w + 1))), (0, .ref 500), (1, .ref 501), (2, .ref 503), (3, .ref 464), (4, .ref 504), (5, .ref 505), (6, .ref 506), (7, .ref 509), (8, .ref 507), (9, .int (nI k)), (10, .int (lRe S l))] [] sgL_pass_365_352ebd rfl ?_
              refine am_drop [3, 4, 5, 6, 7, 8, 9, 10, 11, 12, 13, 0] [(0, .ref 500), (1, .ref 501), (2, .ref 503), (3, .ref 464), (4, .ref 504), (5, .ref 505), (6, .ref 506), (7, .ref 509), (8, .ref 507), (9, .int (nI k)), (10, .int (lRe S l)), (11, .int ((nI p) + 1))] rfl ?_
              refine am_eqL [(0, .ref 500), (1, .ref 501), (2, .ref 503), (3, .ref 464), (4, .ref 504), (5, .ref 505), (6, .ref 506), (7, .ref 509), (8, .ref 507), (9, .int (nI k)), (10, .int (lRe S l)), (11, .int (nI (p + 1)))] (by rw [nI_1]) ?_
              refine am_eqX (hp T (lDg Sx k p w d) ox) (by unfold lDg lLt; rw [if_neg (fun e9 => absurd e9.1 (Int32.not_lt.mpr c4))]; rfl) ?_
              exact ih (p + 1) (lDg Sx k p w d) ox (by omega) (by show _ = lps k l d (lRe S l) p (itN (lps k l d (lRe S l)) (st1 S 13 k 0, o) p); rw [← hS]; unfold lps; rw [if_neg c1, if_neg c2, if_neg c3, hwe, nI_clamp (show w + 1 < 2 ^ 31 by omega), Nat.add_sub_cancel])
            · skip
              refine am_go hF sgL_pass_264_cbd2b 270 [(13, .int ((15 * ((nI (w + 1)) - 1)) + (nI d))), (12, .int (nI (w + 1))), (0, .ref 500), (1, .ref 501), (2, .ref 503), (3, .ref 464), (4, .ref 504), (5, .ref 505), (6, .ref 506), (7, .ref 509), (8, .ref 507), (9, .int (nI k)), (10, .int (lRe S l)), (11, .int (nI p))] [.int ((nI (w + 1)) - 1), .ref 509] sgL_pass_264_cbd2bd rfl ?_
              refine sv_tald (S := Sx) hF x91 w (am_s1 rfl) (by omega) dL_pass_270 ?_
              refine am_go hF sgL_pass_271_f964a 279 [(13, .int ((15 * ((nI (w + 1)) - 1)) + (nI d))), (12, .int (nI (w + 1))), (0, .ref 500), (1, .ref 501), (2, .ref 503), (3, .ref 464), (4, .ref 504), (5, .ref 505), (6, .ref 506), (7, .ref 509), (8, .ref 507), (9, .int (nI k)), (10, .int (lRe S l)), (11, .int (nI p))] [.int ((6 * (nI k)) + 2), .ref 501, .int (Sx 90 w)] sgL_pass_271_f964ad rfl ?_
              refine sv_iald hF 1 2 k 12 (by decide) (by decide) rfl (am_ad (am_mu rfl rfl) rfl) (show 6 * k + 2 < 60 by omega) (by decide) dL_pass_279 ?_
              refine am_top (nI d) x12 ?_
              refine am_go hF sgL_pass_280_fe612 283 [(13, .int ((15 * ((nI (w + 1)) - 1)) + (nI d))), (12, .int (nI (w + 1))), (0, .ref 500), (1, .ref 501), (2, .ref 503), (3, .ref 464), (4, .ref 504), (5, .ref 505), (6, .ref 506), (7, .ref 509), (8, .ref 507), (9, .int (nI k)), (10, .int (lRe S l)), (11, .int (nI p))] [.int (((Sx 90 w) >>> ((nI d) &&& 31)) &&& 1)] sgL_pass_280_fe612d rfl ?_
              refine am_ifne hF 316 dL_pass_283 (by decide) (fun c5 => ?_) (fun c5 => ?_)
              · skip
                refine am_go hF sgL_pass_316_0f95a 321 [(13, .int ((15 * ((nI (w + 1)) - 1)) + (nI d))), (12, .int (nI (w + 1))), (0, .ref 500), (1, .ref 501), (2, .ref 503), (3, .ref 464), (4, .ref 504), (5, .ref 505), (6, .ref 506), (7, .ref 509), (8, .ref 507), (9, .int (nI k)), (10, .int (lRe S l)), (11, .int (nI p))] [.int ((15 * ((nI (w + 1)) - 1)) + (nI d)), .ref 504, .int ((15 * ((nI (w + 1)) - 1)) + (nI d)), .ref 504] sgL_pass_316_0f95ad rfl ?_
                refine sv_iald1 hF 4 ((15 * w) + d) 40 (by decide) rfl rfl (am_ad (am_mu rfl (am_s1 rfl)) rfl) (show (15 * w) + d < 60 by omega) (by decide) dL_pass_321 ?_
                refine am_go hF sgL_pass_322_64ab0 324 [(13, .int ((15 * ((nI (w + 1)) - 1)) + (nI d))), (12, .int (nI (w + 1))), (0, .ref 500), (1, .ref 501), (2, .ref 503), (3, .ref 464), (4, .ref 504), (5, .ref 505), (6, .ref 506), (7, .ref 509), (8, .ref 507), (9, .int (nI k)), (10, .int (lRe S l)), (11, .int (nI p))] [.int ((Sx 40 ((15 * w) + d)) ||| 1), .int ((15 * ((nI (w + 1)) - 1)) + (nI d)), .ref 504] sgL_pass_322_64ab0d rfl ?_
                refine sv_iast1 hF 4 ((15 * w) + d) 40 (by decide) rfl rfl (am_ad (am_mu rfl (am_s1 rfl)) rfl) (show (15 * w) + d < 60 by omega) (by decide) dL_pass_324 ?_
                refine am_go hF sgL_pass_325_150b8 330 [(13, .int ((15 * ((nI (w + 1)) - 1)) + (nI d))), (12, .int (nI (w + 1))), (0, .ref 500), (1, .ref 501), (2, .ref 503), (3, .ref 464), (4, .ref 504), (5, .ref 505), (6, .ref 506), (7, .ref 509), (8, .ref 507), (9, .int (nI k)), (10, .int (lRe S l)), (11, .int (nI p))] [.int ((15 * ((nI (w + 1)) - 1)) + (nI d)), .ref 505, .int ((15 * ((nI (w + 1)) - 1)) + (nI d)), .ref 505] sgL_pass_325_150b8d rfl ?_
                refine sv_iald1 hF 5 ((15 * w) + d) 50 (by decide) rfl rfl (am_ad (am_mu rfl (am_s1 rfl)) rfl) (show (15 * w) + d < 60 by omega) (by decide) dL_pass_330 ?_
                refine am_top (Sx 50 ((15 * w) + d)) rfl ?_
                refine am_go hF sgL_pass_331_5fbdc 336 [(13, .int ((15 * ((nI (w + 1)) - 1)) + (nI d))), (12, .int (nI (w + 1))), (0, .ref 500), (1, .ref 501), (2, .ref 503), (3, .ref 464), (4, .ref 504), (5, .ref 505), (6, .ref 506), (7, .ref 509), (8, .ref 507), (9, .int (nI k)), (10, .int (lRe S l)), (11, .int (nI p))] [.int ((Sx 50 ((15 * w) + d)) ||| (1 <<< ((nI p) &&& 31))), .int ((15 * ((nI (w + 1)) - 1)) + (nI d)), .ref 505] sgL_pass_331_5fbdcd rfl ?_
                refine sv_iast1 hF 5 ((15 * w) + d) 50 (by decide) rfl rfl (am_ad (am_mu rfl (am_s1 rfl)) rfl) (show (15 * w) + d < 60 by omega) (by decide) dL_pass_336 ?_
                refine am_go hF sgL_pass_337_980b6 342 [(13, .int ((15 * ((nI (w + 1)) - 1)) + (nI d))), (12, .int (nI (w + 1))), (0, .ref 500), (1, .ref 501), (2, .ref 503), (3, .ref 464), (4, .ref 504), (5, .ref 505), (6, .ref 506), (7, .ref 509), (8, .ref 507), (9, .int (nI k)), (10, .int (lRe S l)), (11, .int (nI p))] [.int ((15 * ((nI (w + 1)) - 1)) + (nI d)), .ref 506, .int ((15 * ((nI (w + 1)) - 1)) + (nI d)), .ref 506] sgL_pass_337_980b6d rfl ?_
                refine sv_iald1 hF 6 ((15 * w) + d) 60 (by decide) rfl rfl (am_ad (am_mu rfl (am_s1 rfl)) rfl) (show (15 * w) + d < 60 by omega) (by decide) dL_pass_342 ?_
                refine am_top (Sx 60 ((15 * w) + d)) rfl ?_
                refine am_go hF sgL_pass_343_422c0 348 [(13, .int ((15 * ((nI (w + 1)) - 1)) + (nI d))), (12, .int (nI (w + 1))), (0, .ref 500), (1, .ref 501), (2, .ref 503), (3, .ref 464), (4, .ref 504), (5, .ref 505), (6, .ref 506), (7, .ref 509), (8, .ref 507), (9, .int (nI k)), (10, .int (lRe S l)), (11, .int (nI p))] [.int ((Sx 60 ((15 * w) + d)) ||| (1 <<< ((nI k) &&& 31))), .int ((15 * ((nI (w + 1)) - 1)) + (nI d)), .ref 506] sgL_pass_343_422c0d rfl ?_
                refine sv_iast1 hF 6 ((15 * w) + d) 60 (by decide) rfl rfl (am_ad (am_mu rfl (am_s1 rfl)) rfl) (show (15 * w) + d < 60 by omega) (by decide) dL_pass_348 ?_
                refine am_go hF sgL_pass_349_1f87d 358 [(13, .int ((15 * ((nI (w + 1)) - 1)) + (nI d))), (12, .int (nI (w + 1))), (0, .ref 500), (1, .ref 501), (2, .ref 503), (3, .ref 464), (4, .ref 504), (5, .ref 505), (6, .ref 506), (7, .ref 509), (8, .ref 507), (9, .int (nI k)), (10, .int (lRe S l)), (11, .int (nI p))] [.int ((6 * (nI k)) + 5), .ref 501, .int ((6 * (nI k)) + 5), .ref 501] sgL_pass_349_1f87dd rfl ?_
                refine sv_iald hF 1 5 k 15 (by decide) (by decide) rfl (am_ad (am_mu rfl rfl) rfl) (show 6 * k + 5 < 60 by omega) (by decide) dL_pass_358 ?_
                refine am_top (Sx 15 k) rfl ?_
                refine am_go hF sgL_pass_359_5fbdc 364 [(13, .int ((15 * ((nI (w + 1)) - 1)) + (nI d))), (12, .int (nI (w + 1))), (0, .ref 500), (1, .ref 501), (2, .ref 503), (3, .ref 464), (4, .ref 504), (5, .ref 505), (6, .ref 506), (7, .ref 509), (8, .ref 507), (9, .int (nI k)), (10, .int (lRe S l)), (11, .int (nI p))] [.int ((Sx 15 k) ||| (1 <<< ((nI p) &&& 31))), .int ((6 * (nI k)) + 5), .ref 501] sgL_pass_359_5fbdcd rfl ?_
                refine sv_iast hF 1 5 k 15 (by decide) (by decide) rfl (am_ad (am_mu rfl rfl) rfl) (show 6 * k + 5 < 60 by omega) (by decide) dL_pass_364 ?_
                refine am_go hF sgL_pass_365_352eb 28 [(11, .int ((nI p) + 1)), (13, .int ((15 * ((nI (w + 1)) - 1)) + (nI d))), (12, .int (nI (w + 1))), (0, .ref 500), (1, .ref 501), (2, .ref 503), (3, .ref 464), (4, .ref 504), (5, .ref 505), (6, .ref 506), (7, .ref 509), (8, .ref 507), (9, .int (nI k)), (10, .int (lRe S l))] [] sgL_pass_365_352ebd rfl ?_
                refine am_drop [3, 4, 5, 6, 7, 8, 9, 10, 11, 12, 13, 0] [(0, .ref 500), (1, .ref 501), (2, .ref 503), (3, .ref 464), (4, .ref 504), (5, .ref 505), (6, .ref 506), (7, .ref 509), (8, .ref 507), (9, .int (nI k)), (10, .int (lRe S l)), (11, .int ((nI p) + 1))] rfl ?_
                refine am_eqL [(0, .ref 500), (1, .ref 501), (2, .ref 503), (3, .ref 464), (4, .ref 504), (5, .ref 505), (6, .ref 506), (7, .ref 509), (8, .ref 507), (9, .int (nI k)), (10, .int (lRe S l)), (11, .int (nI (p + 1)))] (by rw [nI_1]) ?_
                refine am_eqX (hp T (lDg Sx k p w d) ox) (by unfold lDg lLt; rw [if_neg (fun e9 => c5 e9.2)]; rfl) ?_
                exact ih (p + 1) (lDg Sx k p w d) ox (by omega) (by show _ = lps k l d (lRe S l) p (itN (lps k l d (lRe S l)) (st1 S 13 k 0, o) p); rw [← hS]; unfold lps; rw [if_neg c1, if_neg c2, if_neg c3, hwe, nI_clamp (show w + 1 < 2 ^ 31 by omega), Nat.add_sub_cancel])
              · skip
                refine am_go hF sgL_pass_286_0f95a 291 [(13, .int ((15 * ((nI (w + 1)) - 1)) + (nI d))), (12, .int (nI (w + 1))), (0, .ref 500), (1, .ref 501), (2, .ref 503), (3, .ref 464), (4, .ref 504), (5, .ref 505), (6, .ref 506), (7, .ref 509), (8, .ref 507), (9, .int (nI k)), (10, .int (lRe S l)), (11, .int (nI p))] [.int ((15 * ((nI (w + 1)) - 1)) + (nI d)), .ref 504, .int ((15 * ((nI (w + 1)) - 1)) + (nI d)), .ref 504] sgL_pass_286_0f95ad rfl ?_
                refine sv_iald1 hF 4 ((15 * w) + d) 40 (by decide) rfl rfl (am_ad (am_mu rfl (am_s1 rfl)) rfl) (show (15 * w) + d < 60 by omega) (by decide) dL_pass_291 ?_
                refine am_go hF sgL_pass_292_337a1 294 [(13, .int ((15 * ((nI (w + 1)) - 1)) + (nI d))), (12, .int (nI (w + 1))), (0, .ref 500), (1, .ref 501), (2, .ref 503), (3, .ref 464), (4, .ref 504), (5, .ref 505), (6, .ref 506), (7, .ref 509), (8, .ref 507), (9, .int (nI k)), (10, .int (lRe S l)), (11, .int (nI p))] [.int ((Sx 40 ((15 * w) + d)) + 2), .int ((15 * ((nI (w + 1)) - 1)) + (nI d)), .ref 504] sgL_pass_292_337a1d rfl ?_
                refine sv_iast1 hF 4 ((15 * w) + d) 40 (by decide) rfl rfl (am_ad (am_mu rfl (am_s1 rfl)) rfl) (show (15 * w) + d < 60 by omega) (by decide) dL_pass_294 ?_
                refine am_go hF sgL_pass_295_dfbee 302 [(13, .int ((15 * ((nI (w + 1)) - 1)) + (nI d))), (12, .int (nI (w + 1))), (0, .ref 500), (1, .ref 501), (2, .ref 503), (3, .ref 464), (4, .ref 504), (5, .ref 505), (6, .ref 506), (7, .ref 509), (8, .ref 507), (9, .int (nI k)), (10, .int (lRe S l)), (11, .int (nI p))] [.int ((nI (w + 1)) - 1), .ref 509, .int ((nI (w + 1)) - 1), .ref 509] sgL_pass_295_dfbeed rfl ?_
                refine sv_tald (S := st1 Sx 40 ((15 * w) + d) ((Sx 40 ((15 * w) + d)) + 2)) hF x91 w (am_s1 rfl) (by omega) dL_pass_302 ?_
                refine am_top (Sx 90 w) rfl ?_
                refine am_go hF sgL_pass_303_82363 312 [(13, .int ((15 * ((nI (w + 1)) - 1)) + (nI d))), (12, .int (nI (w + 1))), (0, .ref 500), (1, .ref 501), (2, .ref 503), (3, .ref 464), (4, .ref 504), (5, .ref 505), (6, .ref 506), (7, .ref 509), (8, .ref 507), (9, .int (nI k)), (10, .int (lRe S l)), (11, .int (nI p))] [.int ((6 * (nI k)) + 2), .ref 501, .int 1, .int (Sx 90 w), .int ((nI (w + 1)) - 1), .ref 509] sgL_pass_303_82363d rfl ?_
                refine sv_iald hF 1 2 k 12 (by decide) (by decide) rfl (am_ad (am_mu rfl rfl) rfl) (show 6 * k + 2 < 60 by omega) (by decide) dL_pass_312 ?_
                refine am_top (Sx 12 k) rfl ?_
                refine am_top (nI d) x12 ?_
                refine am_go hF sgL_pass_313_b517f 315 [(13, .int ((15 * ((nI (w + 1)) - 1)) + (nI d))), (12, .int (nI (w + 1))), (0, .ref 500), (1, .ref 501), (2, .ref 503), (3, .ref 464), (4, .ref 504), (5, .ref 505), (6, .ref 506), (7, .ref 509), (8, .ref 507), (9, .int (nI k)), (10, .int (lRe S l)), (11, .int (nI p))] [.int ((Sx 90 w) ||| (1 <<< ((nI d) &&& 31))), .int ((nI (w + 1)) - 1), .ref 509] sgL_pass_313_b517fd rfl ?_
                refine sv_tast (S := st1 Sx 40 ((15 * w) + d) ((Sx 40 ((15 * w) + d)) + 2)) hF x91 w (am_s1 rfl) (by omega) dL_pass_315 ?_
                refine am_go hF sgL_pass_316_0f95a 321 [(13, .int ((15 * ((nI (w + 1)) - 1)) + (nI d))), (12, .int (nI (w + 1))), (0, .ref 500), (1, .ref 501), (2, .ref 503), (3, .ref 464), (4, .ref 504), (5, .ref 505), (6, .ref 506), (7, .ref 509), (8, .ref 507), (9, .int (nI k)), (10, .int (lRe S l)), (11, .int (nI p))] [.int ((15 * ((nI (w + 1)) - 1)) + (nI d)), .ref 504, .int ((15 * ((nI (w + 1)) - 1)) + (nI d)), .ref 504] sgL_pass_316_0f95ad rfl ?_
                refine sv_iald1 hF 4 ((15 * w) + d) 40 (by decide) rfl rfl (am_ad (am_mu rfl (am_s1 rfl)) rfl) (show (15 * w) + d < 60 by omega) (by decide) dL_pass_321 ?_
                refine am_top ((Sx 40 ((15 * w) + d)) + 2) (st1_same Sx 40 ((15 * w) + d) ((Sx 40 ((15 * w) + d)) + 2)) ?_
                refine am_go hF sgL_pass_322_64ab0 324 [(13, .int ((15 * ((nI (w + 1)) - 1)) + (nI d))), (12, .int (nI (w + 1))), (0, .ref 500), (1, .ref 501), (2, .ref 503), (3, .ref 464), (4, .ref 504), (5, .ref 505), (6, .ref 506), (7, .ref 509), (8, .ref 507), (9, .int (nI k)), (10, .int (lRe S l)), (11, .int (nI p))] [.int (((Sx 40 ((15 * w) + d)) + 2) ||| 1), .int ((15 * ((nI (w + 1)) - 1)) + (nI d)), .ref 504] sgL_pass_322_64ab0d rfl ?_
                refine sv_iast1 hF 4 ((15 * w) + d) 40 (by decide) rfl rfl (am_ad (am_mu rfl (am_s1 rfl)) rfl) (show (15 * w) + d < 60 by omega) (by decide) dL_pass_324 ?_
                refine am_go hF sgL_pass_325_150b8 330 [(13, .int ((15 * ((nI (w + 1)) - 1)) + (nI d))), (12, .int (nI (w + 1))), (0, .ref 500), (1, .ref 501), (2, .ref 503), (3, .ref 464), (4, .ref 504), (5, .ref 505), (6, .ref 506), (7, .ref 509), (8, .ref 507), (9, .int (nI k)), (10, .int (lRe S l)), (11, .int (nI p))] [.int ((15 * ((nI (w + 1)) - 1)) + (nI d)), .ref 505, .int ((15 * ((nI (w + 1)) - 1)) + (nI d)), .ref 505] sgL_pass_325_150b8d rfl ?_
                refine sv_iald1 hF 5 ((15 * w) + d) 50 (by decide) rfl rfl (am_ad (am_mu rfl (am_s1 rfl)) rfl) (show (15 * w) + d < 60 by omega) (by decide) dL_pass_330 ?_
                refine am_top (Sx 50 ((15 * w) + d)) rfl ?_
                refine am_go hF sgL_pass_331_5fbdc 336 [(13, .int ((15 * ((nI (w + 1)) - 1)) + (nI d))), (12, .int (nI (w + 1))), (0, .ref 500), (1, .ref 501), (2, .ref 503), (3, .ref 464), (4, .ref 504), (5, .ref 505), (6, .ref 506), (7, .ref 509), (8, .ref 507), (9, .int (nI k)), (10, .int (lRe S l)), (11, .int (nI p))] [.int ((Sx 50 ((15 * w) + d)) ||| (1 <<< ((nI p) &&& 31))), .int ((15 * ((nI (w + 1)) - 1)) + (nI d)), .ref 505] sgL_pass_331_5fbdcd rfl ?_
                refine sv_iast1 hF 5 ((15 * w) + d) 50 (by decide) rfl rfl (am_ad (am_mu rfl (am_s1 rfl)) rfl) (show (15 * w) + d < 60 by omega) (by decide) dL_pass_336 ?_
                refine am_go hF sgL_pass_337_980b6 342 [(13, .int ((15 * ((nI (w + 1)) - 1)) + (nI d))), (12, .int (nI (w + 1))), (0, .ref 500), (1, .ref 501), (2, .ref 503), (3, .ref 464), (4, .ref 504), (5, .ref 505), (6, .ref 506), (7, .ref 509), (8, .ref 507), (9, .int (nI k)), (10, .int (lRe S l)), (11, .int (nI p))] [.int ((15 * ((nI (w + 1)) - 1)) + (nI d)), .ref 506, .int ((15 * ((nI (w + 1)) - 1)) + (nI d)), .ref 506] sgL_pass_337_980b6d rfl ?_
                refine sv_iald1 hF 6 ((15 * w) + d) 60 (by decide) rfl rfl (am_ad (am_mu rfl (am_s1 rfl)) rfl) (show (15 * w) + d < 60 by omega) (by decide) dL_pass_342 ?_
                refine am_top (Sx 60 ((15 * w) + d)) rfl ?_
                refine am_go hF sgL_pass_343_422c0 348 [(13, .int ((15 * ((nI (w + 1)) - 1)) + (nI d))), (12, .int (nI (w + 1))), (0, .ref 500), (1, .ref 501), (2, .ref 503), (3, .ref 464), (4, .ref 504), (5, .ref 505), (6, .ref 506), (7, .ref 509), (8, .ref 507), (9, .int (nI k)), (10, .int (lRe S l)), (11, .int (nI p))] [.int ((Sx 60 ((15 * w) + d)) ||| (1 <<< ((nI k) &&& 31))), .int ((15 * ((nI (w + 1)) - 1)) + (nI d)), .ref 506] sgL_pass_343_422c0d rfl ?_
                refine sv_iast1 hF 6 ((15 * w) + d) 60 (by decide) rfl rfl (am_ad (am_mu rfl (am_s1 rfl)) rfl) (show (15 * w) + d < 60 by omega) (by decide) dL_pass_348 ?_
                refine am_go hF sgL_pass_349_1f87d 358 [(13, .int ((15 * ((nI (w + 1)) - 1)) + (nI d))), (12, .int (nI (w + 1))), (0, .ref 500), (1, .ref 501), (2, .ref 503), (3, .ref 464), (4, .ref 504), (5, .ref 505), (6, .ref 506), (7, .ref 509), (8, .ref 507), (9, .int (nI k)), (10, .int (lRe S l)), (11, .int (nI p))] [.int ((6 * (nI k)) + 5), .ref 501, .int ((6 * (nI k)) + 5), .ref 501] sgL_pass_349_1f87dd rfl ?_
                refine sv_iald hF 1 5 k 15 (by decide) (by decide) rfl (am_ad (am_mu rfl rfl) rfl) (show 6 * k + 5 < 60 by omega) (by decide) dL_pass_358 ?_
                refine am_top (Sx 15 k) rfl ?_
                refine am_go hF sgL_pass_359_5fbdc 364 [(13, .int ((15 * ((nI (w + 1)) - 1)) + (nI d))), (12, .int (nI (w + 1))), (0, .ref 500), (1, .ref 501), (2, .ref 503), (3, .ref 464), (4, .ref 504), (5, .ref 505), (6, .ref 506), (7, .ref 509), (8, .ref 507), (9, .int (nI k)), (10, .int (lRe S l)), (11, .int (nI p))] [.int ((Sx 15 k) ||| (1 <<< ((nI p) &&& 31))), .int ((6 * (nI k)) + 5), .ref 501] sgL_pass_359_5fbdcd rfl ?_
                refine sv_iast hF 1 5 k 15 (by decide) (by decide) rfl (am_ad (am_mu rfl rfl) rfl) (show 6 * k + 5 < 60 by omega) (by decide) dL_pass_364 ?_
                refine am_go hF sgL_pass_365_352eb 28 [(11, .int ((nI p) + 1)), (13, .int ((15 * ((nI (w + 1)) - 1)) + (nI d))), (12, .int (nI (w + 1))), (0, .ref 500), (1, .ref 501), (2, .ref 503), (3, .ref 464), (4, .ref 504), (5, .ref 505), (6, .ref 506), (7, .ref 509), (8, .ref 507), (9, .int (nI k)), (10, .int (lRe S l))] [] sgL_pass_365_352ebd rfl ?_
                refine am_drop [3, 4, 5, 6, 7, 8, 9, 10, 11, 12, 13, 0] [(0, .ref 500), (1, .ref 501), (2, .ref 503), (3, .ref 464), (4, .ref 504), (5, .ref 505), (6, .ref 506), (7, .ref 509), (8, .ref 507), (9, .int (nI k)), (10, .int (lRe S l)), (11, .int ((nI p) + 1))] rfl ?_
                refine am_eqL [(0, .ref 500), (1, .ref 501), (2, .ref 503), (3, .ref 464), (4, .ref 504), (5, .ref 505), (6, .ref 506), (7, .ref 509), (8, .ref 507), (9, .int (nI k)), (10, .int (lRe S l)), (11, .int (nI (p + 1)))] (by rw [nI_1]) ?_
                refine am_eqX (hp T (lDg Sx k p w d) ox) (by unfold lDg lLt; rw [if_pos ⟨Int32.not_le.mp c4, c5⟩]; unfold lD2; rw [show (st1 (st1 Sx 40 (15 * w + d) (Sx 40 (15 * w + d) + 2)) 90 w (Sx 90 w ||| (1 : Int32) <<< (nI d &&& 31))) 40 (15 * w + d) = Sx 40 (15 * w + d) + 2 from st1_same Sx 40 (15 * w + d) (Sx 40 (15 * w + d) + 2)]; rfl) ?_
                exact ih (p + 1) (lDg Sx k p w d) ox (by omega) (by show _ = lps k l d (lRe S l) p (itN (lps k l d (lRe S l)) (st1 S 13 k 0, o) p); rw [← hS]; unfold lps; rw [if_neg c1, if_neg c2, if_neg c3, hwe, nI_clamp (show w + 1 < 2 ^ 31 by omega), Nat.add_sub_cancel])
          · skip
            refine am_go hF sgL_pass_82_a74ed 89 [(12, .int (lWay Sx l p)), (0, .ref 500), (1, .ref 501), (2, .ref 503), (3, .ref 464), (4, .ref 504), (5, .ref 505), (6, .ref 506), (7, .ref 509), (8, .ref 507), (9, .int (nI k)), (10, .int (lRe S l)), (11, .int (nI p))] [.int ((4 * (nI p)) + 3), .ref 503] sgL_pass_82_a74edd rfl ?_
            refine sv_iald hF 3 3 p 33 (by decide) (by decide) rfl (am_ad (am_mu rfl rfl) rfl) (show 4 * p + 3 < 32 by omega) (by decide) dL_pass_89 ?_
            refine am_go hF sgL_pass_90_ee951 92 [(12, .int (lWay Sx l p)), (0, .ref 500), (1, .ref 501), (2, .ref 503), (3, .ref 464), (4, .ref 504), (5, .ref 505), (6, .ref 506), (7, .ref 509), (8, .ref 507), (9, .int (nI k)), (10, .int (lRe S l)), (11, .int (nI p))] [.int 10, .int (Sx 33 p)] sgL_pass_90_ee951d rfl ?_
            refine am_icmpge hF 147 dL_pass_92 (by decide) (fun c4 => ?_) (fun c4 => ?_)
            · skip
              refine am_go hF sgL_pass_147_d1b09 155 [(12, .int (lWay Sx l p)), (0, .ref 500), (1, .ref 501), (2, .ref 503), (3, .ref 464), (4, .ref 504), (5, .ref 505), (6, .ref 506), (7, .ref 509), (8, .ref 507), (9, .int (nI k)), (10, .int (lRe S l)), (11, .int (nI p))] [.int ((4 * (nI p)) + 2), .ref 503, .int ((4 * (nI p)) + 2), .ref 503] sgL_pass_147_d1b09d rfl ?_
              refine sv_iald hF 3 2 p 32 (by decide) (by decide) rfl (am_ad (am_mu rfl rfl) rfl) (show 4 * p + 2 < 32 by omega) (by decide) dL_pass_155 ?_
              refine am_go hF sgL_pass_156_c7176 158 [(12, .int (lWay Sx l p)), (0, .ref 500), (1, .ref 501), (2, .ref 503), (3, .ref 464), (4, .ref 504), (5, .ref 505), (6, .ref 506), (7, .ref 509), (8, .ref 507), (9, .int (nI k)), (10, .int (lRe S l)), (11, .int (nI p))] [.int ((Sx 32 p) + 1), .int ((4 * (nI p)) + 2), .ref 503] sgL_pass_156_c7176d rfl ?_
              refine sv_iast hF 3 2 p 32 (by decide) (by decide) rfl (am_ad (am_mu rfl rfl) rfl) (show 4 * p + 2 < 32 by omega) (by decide) dL_pass_158 ?_
              refine am_go hF sgL_pass_159_c72fb 166 [(12, .int (lWay Sx l p)), (0, .ref 500), (1, .ref 501), (2, .ref 503), (3, .ref 464), (4, .ref 504), (5, .ref 505), (6, .ref 506), (7, .ref 509), (8, .ref 507), (9, .int (nI k)), (10, .int (lRe S l)), (11, .int (nI p))] [.int ((4 * (nI p)) + 2), .ref 503] sgL_pass_159_c72fbd rfl ?_
              refine sv_iald hF 3 2 p 32 (by decide) (by decide) rfl (am_ad (am_mu rfl rfl) rfl) (show 4 * p + 2 < 32 by omega) (by decide) dL_pass_166 ?_
              refine am_top ((Sx 32 p) + 1) (st1_same Sx 32 p ((Sx 32 p) + 1)) ?_
              refine am_go hF sgL_pass_167_800cc 168 [(12, .int (lWay Sx l p)), (0, .ref 500), (1, .ref 501), (2, .ref 503), (3, .ref 464), (4, .ref 504), (5, .ref 505), (6, .ref 506), (7, .ref 509), (8, .ref 507), (9, .int (nI k)), (10, .int (lRe S l)), (11, .int (nI p))] [.int 3, .int ((Sx 32 p) + 1)] sgL_pass_167_800ccd rfl ?_
              refine am_icmpge hF 174 dL_pass_168 (by decide) (fun c5 => ?_) (fun c5 => ?_)
              · skip
                refine am_go hF sgL_pass_174_450d1 182 [(12, .int (lWay Sx l p)), (0, .ref 500), (1, .ref 501), (2, .ref 503), (3, .ref 464), (4, .ref 504), (5, .ref 505), (6, .ref 506), (7, .ref 509), (8, .ref 507), (9, .int (nI k)), (10, .int (lRe S l)), (11, .int (nI p))] [.int 0, .int ((4 * (nI p)) + 2), .ref 503] sgL_pass_174_450d1d rfl ?_
                refine sv_iast hF 3 2 p 32 (by decide) (by decide) rfl (am_ad (am_mu rfl rfl) rfl) (show 4 * p + 2 < 32 by omega) (by decide) dL_pass_182 ?_
                refine am_go hF sgL_pass_183_1c511 186 [(13, .int 0), (12, .int (lWay Sx l p)), (0, .ref 500), (1, .ref 501), (2, .ref 503), (3, .ref 464), (4, .ref 504), (5, .ref 505), (6, .ref 506), (7, .ref 509), (8, .ref 507), (9, .int (nI k)), (10, .int (lRe S l)), (11, .int (nI p))] [] sgL_pass_183_1c511d rfl ?_
                have hbo := lbo_4 Sx p (Int32.not_lt.mpr c5)
                refine am_drop [2, 3, 4, 5, 6, 7, 8, 9, 10, 11, 12, 13, 0] [(0, .ref 500), (1, .ref 501), (2, .ref 503), (3, .ref 464), (4, .ref 504), (5, .ref 505), (6, .ref 506), (7, .ref 509), (8, .ref 507), (9, .int (nI k)), (10, .int (lRe S l)), (11, .int (nI p)), (13, .int 0)] rfl ?_
                have lp186 : ∀ (zz i : Nat), i + zz = 4 → am_W C (hp T (itN (lbo p) (st1 (st1 Sx 32 p ((Sx 32 p) + 1)) 32 p 0) i) ox) 0 0 186 [(0, .ref 500), (1, .ref 501), (2, .ref 503), (3, .ref 464), (4, .ref 504), (5, .ref 505), (6, .ref 506), (7, .ref 509), (8, .ref 507), (9, .int (nI k)), (10, .int (lRe S l)), (11, .int (nI p)), (13, .int (nI i))] [] := by
                  intro zz
                  induction zz with
                  | zero =>
                    intro i hi
                    have e9i : i = 4 := by omega
                    refine am_go hF sgL_pass_186_eb7a2 189 [(0, .ref 500), (1, .ref 501), (2, .ref 503), (3, .ref 464), (4, .ref 504), (5, .ref 505), (6, .ref 506), (7, .ref 509), (8, .ref 507), (9, .int (nI k)), (10, .int (lRe S l)), (11, .int (nI p)), (13, .int (nI i))] [.int 4, .int (nI i)] sgL_pass_186_eb7a2d rfl ?_
                    refine am_icmpge hF 226 dL_pass_189 (by decide) (fun _ => ?_) (fun h9 => False.elim (absurd (nc_ge (show 4 ≤ i by omega) (by omega) (by omega) rfl rfl) h9))
                    refine am_go hF sgL_pass_226_26b06 28 [(11, .int ((nI p) + 1)), (0, .ref 500), (1, .ref 501), (2, .ref 503), (3, .ref 464), (4, .ref 504), (5, .ref 505), (6, .ref 506), (7, .ref 509), (8, .ref 507), (9, .int (nI k)), (10, .int (lRe S l)), (13, .int (nI i))] [] sgL_pass_226_26b06d rfl ?_
                    refine am_drop [1, 2, 3, 4, 5, 6, 7, 8, 9, 10, 11, 0] [(0, .ref 500), (1, .ref 501), (2, .ref 503), (3, .ref 464), (4, .ref 504), (5, .ref 505), (6, .ref 506), (7, .ref 509), (8, .ref 507), (9, .int (nI k)), (10, .int (lRe S l)), (11, .int ((nI p) + 1))] rfl ?_
                    refine am_eqL [(0, .ref 500), (1, .ref 501), (2, .ref 503), (3, .ref 464), (4, .ref 504), (5, .ref 505), (6, .ref 506), (7, .ref 509), (8, .ref 507), (9, .int (nI k)), (10, .int (lRe S l)), (11, .int (nI (p + 1)))] (by rw [nI_1]) ?_
                    refine am_eqX (hp T (lBn Sx p) ox) (by rw [hbo, e9i]) ?_
                    exact ih (p + 1) (lBn Sx p) ox (by omega) (by show _ = lps k l d (lRe S l) p (itN (lps k l d (lRe S l)) (st1 S 13 k 0, o) p); rw [← hS]; unfold lps; rw [if_neg c1, if_neg c2, if_pos c3, if_neg (Int32.not_lt.mpr c4)])
                  | succ zz ih186 =>
                    intro i hi
                    have l9i : i < 4 := by omega
                    refine am_go hF sgL_pass_186_eb7a2 189 [(0, .ref 500), (1, .ref 501), (2, .ref 503), (3, .ref 464), (4, .ref 504), (5, .ref 505), (6, .ref 506), (7, .ref 509), (8, .ref 507), (9, .int (nI k)), (10, .int (lRe S l)), (11, .int (nI p)), (13, .int (nI i))] [.int 4, .int (nI i)] sgL_pass_186_eb7a2d rfl ?_
                    refine am_icmpge hF 226 dL_pass_189 (by decide) (fun h9 => False.elim (nc_lt_f (show i < 4 by omega) (by omega) (by omega) rfl rfl h9)) (fun _ => ?_)
                    refine am_go hF sgL_pass_192_b0485 202 [(0, .ref 500), (1, .ref 501), (2, .ref 503), (3, .ref 464), (4, .ref 504), (5, .ref 505), (6, .ref 506), (7, .ref 509), (8, .ref 507), (9, .int (nI k)), (10, .int (lRe S l)), (11, .int (nI p)), (13, .int (nI i))] [.int ((8 * (nI i)) + 7), .ref 500, .int ((8 * (nI i)) + 7), .ref 500] sgL_pass_192_b0485d rfl ?_
                    refine sv_iald hF 0 7 i 7 (by decide) (by decide) rfl (am_ad (am_mu rfl rfl) rfl) (show 8 * i + 7 < 32 by omega) (by decide) dL_pass_202 ?_
                    refine am_go hF sgL_pass_203_9e4f7 212 [(0, .ref 500), (1, .ref 501), (2, .ref 503), (3, .ref 464), (4, .ref 504), (5, .ref 505), (6, .ref 506), (7, .ref 509), (8, .ref 507), (9, .int (nI k)), (10, .int (lRe S l)), (11, .int (nI p)), (13, .int (nI i))] [.int ((8 * (nI i)) + 6), .ref 500, .int ((itN (lbo p) (st1 (st1 Sx 32 p ((Sx 32 p) + 1)) 32 p 0) i) 7 i), .int ((8 * (nI i)) + 7), .ref 500] sgL_pass_203_9e4f7d rfl ?_
                    refine sv_iald hF 0 6 i 6 (by decide) (by decide) rfl (am_ad (am_mu rfl rfl) rfl) (show 8 * i + 6 < 32 by omega) (by decide) dL_pass_212 ?_
                    refine am_go hF sgL_pass_213_c395d 219 [(0, .ref 500), (1, .ref 501), (2, .ref 503), (3, .ref 464), (4, .ref 504), (5, .ref 505), (6, .ref 506), (7, .ref 509), (8, .ref 507), (9, .int (nI k)), (10, .int (lRe S l)), (11, .int (nI p)), (13, .int (nI i))] [.int (((itN (lbo p) (st1 (st1 Sx 32 p ((Sx 32 p) + 1)) 32 p 0) i) 7 i) ||| (((itN (lbo p) (st1 (st1 Sx 32 p ((Sx 32 p) + 1)) 32 p 0) i) 6 i) &&& (1 <<< ((nI p) &&& 31)))), .int ((8 * (nI i)) + 7), .ref 500] sgL_pass_213_c395dd rfl ?_
                    refine sv_iast hF 0 7 i 7 (by decide) (by decide) rfl (am_ad (am_mu rfl rfl) rfl) (show 8 * i + 7 < 32 by omega) (by decide) dL_pass_219 ?_
                    refine am_go hF sgL_pass_220_4414f 186 [(13, .int ((nI i) + 1)), (0, .ref 500), (1, .ref 501), (2, .ref 503), (3, .ref 464), (4, .ref 504), (5, .ref 505), (6, .ref 506), (7, .ref 509), (8, .ref 507), (9, .int (nI k)), (10, .int (lRe S l)), (11, .int (nI p))] [] sgL_pass_220_4414fd rfl ?_
                    refine am_drop [1, 2, 3, 4, 5, 6, 7, 8, 9, 10, 11, 12, 0] [(0, .ref 500), (1, .ref 501), (2, .ref 503), (3, .ref 464), (4, .ref 504), (5, .ref 505), (6, .ref 506), (7, .ref 509), (8, .ref 507), (9, .int (nI k)), (10, .int (lRe S l)), (11, .int (nI p)), (13, .int ((nI i) + 1))] rfl ?_
                    refine am_eqL [(0, .ref 500), (1, .ref 501), (2, .ref 503), (3, .ref 464), (4, .ref 504), (5, .ref 505), (6, .ref 506), (7, .ref 509), (8, .ref 507), (9, .int (nI k)), (10, .int (lRe S l)), (11, .int (nI p)), (13, .int (nI (i + 1)))] (by first | rfl | (rw [nI_1]; done) | (simp only [nI_1]; done)) ?_
                    refine am_eqX (hp T (itN (lbo p) (st1 (st1 Sx 32 p ((Sx 32 p) + 1)) 32 p 0) (i + 1)) ox) (rfl) ?_
                    exact ih186 (i + 1) (by omega)
                exact lp186 (4) 0 (by omega)
              · skip
                refine am_go hF sgL_pass_171_c60b6 28 [(11, .int ((nI p) + 1)), (12, .int (lWay Sx l p)), (0, .ref 500), (1, .ref 501), (2, .ref 503), (3, .ref 464), (4, .ref 504), (5, .ref 505), (6, .ref 506), (7, .ref 509), (8, .ref 507), (9, .int (nI k)), (10, .int (lRe S l))] [] sgL_pass_171_c60b6d rfl ?_
                refine am_drop [2, 3, 4, 5, 6, 7, 8, 9, 10, 11, 12, 0] [(0, .ref 500), (1, .ref 501), (2, .ref 503), (3, .ref 464), (4, .ref 504), (5, .ref 505), (6, .ref 506), (7, .ref 509), (8, .ref 507), (9, .int (nI k)), (10, .int (lRe S l)), (11, .int ((nI p) + 1))] rfl ?_
                refine am_eqL [(0, .ref 500), (1, .ref 501), (2, .ref 503), (3, .ref 464), (4, .ref 504), (5, .ref 505), (6, .ref 506), (7, .ref 509), (8, .ref 507), (9, .int (nI k)), (10, .int (lRe S l)), (11, .int (nI (p + 1)))] (by rw [nI_1]) ?_
                refine am_eqX (hp T (lBn Sx p) ox) (by unfold lBn; rw [if_pos (Int32.not_le.mp c5)]) ?_
                exact ih (p + 1) (lBn Sx p) ox (by omega) (by show _ = lps k l d (lRe S l) p (itN (lps k l d (lRe S l)) (st1 S 13 k 0, o) p); rw [← hS]; unfold lps; rw [if_neg c1, if_neg c2, if_pos c3, if_neg (Int32.not_lt.mpr c4)])
            · skip
              refine am_go hF sgL_pass_95_dcedc 99 [(12, .int (lWay Sx l p)), (0, .ref 500), (1, .ref 501), (2, .ref 503), (3, .ref 464), (4, .ref 504), (5, .ref 505), (6, .ref 506), (7, .ref 509), (8, .ref 507), (9, .int (nI k)), (10, .int (lRe S l)), (11, .int (nI p))] [.int (nI p), .ref 464, .int (nI p), .ref 464] sgL_pass_95_dcedcd rfl ?_
              refine sv_lald hF p rfl (by omega) dL_pass_99 ?_
              refine am_go hF sgL_pass_100_e5b43 111 [(12, .int (lWay Sx l p)), (0, .ref 500), (1, .ref 501), (2, .ref 503), (3, .ref 464), (4, .ref 504), (5, .ref 505), (6, .ref 506), (7, .ref 509), (8, .ref 507), (9, .int (nI k)), (10, .int (lRe S l)), (11, .int (nI p))] [.int ((4 * (nI p)) + 3), .ref 503, .int 4, .long ((nI k).toInt64), .long (ox p), .int (nI p), .ref 464] sgL_pass_100_e5b43d rfl ?_
              refine sv_iald hF 3 3 p 33 (by decide) (by decide) rfl (am_ad (am_mu rfl rfl) rfl) (show 4 * p + 3 < 32 by omega) (by decide) dL_pass_111 ?_
              refine am_go hF sgL_pass_112_cc340 115 [(12, .int (lWay Sx l p)), (0, .ref 500), (1, .ref 501), (2, .ref 503), (3, .ref 464), (4, .ref 504), (5, .ref 505), (6, .ref 506), (7, .ref 509), (8, .ref 507), (9, .int (nI k)), (10, .int (lRe S l)), (11, .int (nI p))] [.long ((ox p) ||| (((nI k).toInt64) <<< (((4 * (Sx 33 p)).toInt64) &&& 63))), .int (nI p), .ref 464] sgL_pass_112_cc340d rfl ?_
              refine sv_last hF p rfl (by omega) dL_pass_115 ?_
              refine am_go hF sgL_pass_116_052ed 124 [(12, .int (lWay Sx l p)), (0, .ref 500), (1, .ref 501), (2, .ref 503), (3, .ref 464), (4, .ref 504), (5, .ref 505), (6, .ref 506), (7, .ref 509), (8, .ref 507), (9, .int (nI k)), (10, .int (lRe S l)), (11, .int (nI p))] [.int ((4 * (nI p)) + 3), .ref 503, .int ((4 * (nI p)) + 3), .ref 503] sgL_pass_116_052edd rfl ?_
              refine sv_iald hF 3 3 p 33 (by decide) (by decide) rfl (am_ad (am_mu rfl rfl) rfl) (show 4 * p + 3 < 32 by omega) (by decide) dL_pass_124 ?_
              refine am_go hF sgL_pass_125_c7176 127 [(12, .int (lWay Sx l p)), (0, .ref 500), (1, .ref 501), (2, .ref 503), (3, .ref 464), (4, .ref 504), (5, .ref 505), (6, .ref 506), (7, .ref 509), (8, .ref 507), (9, .int (nI k)), (10, .int (lRe S l)), (11, .int (nI p))] [.int ((Sx 33 p) + 1), .int ((4 * (nI p)) + 3), .ref 503] sgL_pass_125_c7176d rfl ?_
              refine sv_iast hF 3 3 p 33 (by decide) (by decide) rfl (am_ad (am_mu rfl rfl) rfl) (show 4 * p + 3 < 32 by omega) (by decide) dL_pass_127 ?_
              refine am_go hF sgL_pass_128_1f87d 137 [(12, .int (lWay Sx l p)), (0, .ref 500), (1, .ref 501), (2, .ref 503), (3, .ref 464), (4, .ref 504), (5, .ref 505), (6, .ref 506), (7, .ref 509), (8, .ref 507), (9, .int (nI k)), (10, .int (lRe S l)), (11, .int (nI p))] [.int ((6 * (nI k)) + 5), .ref 501, .int ((6 * (nI k)) + 5), .ref 501] sgL_pass_128_1f87dd rfl ?_
              refine sv_iald hF 1 5 k 15 (by decide) (by decide) rfl (am_ad (am_mu rfl rfl) rfl) (show 6 * k + 5 < 60 by omega) (by decide) dL_pass_137 ?_
              refine am_top (Sx 15 k) rfl ?_
              refine am_go hF sgL_pass_138_5fbdc 143 [(12, .int (lWay Sx l p)), (0, .ref 500), (1, .ref 501), (2, .ref 503), (3, .ref 464), (4, .ref 504), (5, .ref 505), (6, .ref 506), (7, .ref 509), (8, .ref 507), (9, .int (nI k)), (10, .int (lRe S l)), (11, .int (nI p))] [.int ((Sx 15 k) ||| (1 <<< ((nI p) &&& 31))), .int ((6 * (nI k)) + 5), .ref 501] sgL_pass_138_5fbdcd rfl ?_
              refine sv_iast hF 1 5 k 15 (by decide) (by decide) rfl (am_ad (am_mu rfl rfl) rfl) (show 6 * k + 5 < 60 by omega) (by decide) dL_pass_143 ?_
              refine am_go hF sgL_pass_144_8e35a 28 [(11, .int ((nI p) + 1)), (12, .int (lWay Sx l p)), (0, .ref 500), (1, .ref 501), (2, .ref 503), (3, .ref 464), (4, .ref 504), (5, .ref 505), (6, .ref 506), (7, .ref 509), (8, .ref 507), (9, .int (nI k)), (10, .int (lRe S l))] [] sgL_pass_144_8e35ad rfl ?_
              refine am_drop [2, 3, 4, 5, 6, 7, 8, 9, 10, 11, 12, 0] [(0, .ref 500), (1, .ref 501), (2, .ref 503), (3, .ref 464), (4, .ref 504), (5, .ref 505), (6, .ref 506), (7, .ref 509), (8, .ref 507), (9, .int (nI k)), (10, .int (lRe S l)), (11, .int ((nI p) + 1))] rfl ?_
              refine am_eqL [(0, .ref 500), (1, .ref 501), (2, .ref 503), (3, .ref 464), (4, .ref 504), (5, .ref 505), (6, .ref 506), (7, .ref 509), (8, .ref 507), (9, .int (nI k)), (10, .int (lRe S l)), (11, .int (nI (p + 1)))] (by rw [nI_1]) ?_
              refine am_eqX (hp T (lBx Sx k p) (lBo Sx ox k p)) rfl ?_
              exact ih (p + 1) (lBx Sx k p) (lBo Sx ox k p) (by omega) (by show _ = lps k l d (lRe S l) p (itN (lps k l d (lRe S l)) (st1 S 13 k 0, o) p); rw [← hS]; unfold lps; rw [if_neg c1, if_neg c2, if_pos c3, if_pos (Int32.not_le.mp c4)])
        · skip
          refine am_go hF sgL_pass_57_42831 28 [(11, .int ((nI p) + 1)), (0, .ref 500), (1, .ref 501), (2, .ref 503), (3, .ref 464), (4, .ref 504), (5, .ref 505), (6, .ref 506), (7, .ref 509), (8, .ref 507), (9, .int (nI k)), (10, .int (lRe S l))] [] sgL_pass_57_42831d rfl ?_
          refine am_drop [1, 2, 3, 4, 5, 6, 7, 8, 9, 10, 11, 0] [(0, .ref 500), (1, .ref 501), (2, .ref 503), (3, .ref 464), (4, .ref 504), (5, .ref 505), (6, .ref 506), (7, .ref 509), (8, .ref 507), (9, .int (nI k)), (10, .int (lRe S l)), (11, .int ((nI p) + 1))] rfl ?_
          refine am_eqL [(0, .ref 500), (1, .ref 501), (2, .ref 503), (3, .ref 464), (4, .ref 504), (5, .ref 505), (6, .ref 506), (7, .ref 509), (8, .ref 507), (9, .int (nI k)), (10, .int (lRe S l)), (11, .int (nI (p + 1)))] (by rw [nI_1]) ?_
          exact ih (p + 1) Sx ox (by omega) (by show _ = lps k l d (lRe S l) p (itN (lps k l d (lRe S l)) (st1 S 13 k 0, o) p); rw [← hS]; unfold lps; rw [if_neg c1, if_pos c2])
  exact lp28 8 0 (st1 S 13 k 0) o rfl rfl
