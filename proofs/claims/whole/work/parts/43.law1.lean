/-! the law, case by case, 1 -/
def bz (x : Int32) : Int32 := if x = 0 then 0 else 1
theorem bz_01 (x : Int32) : bz x = 0 ∨ bz x = 1 := by
  unfold bz
  by_cases h : x = 0
  · rw [if_pos h]; exact Or.inl rfl
  · rw [if_neg h]; exact Or.inr rfl
theorem lg_cmp_s (x : Int64) : lg_cmp x x = 0 := by
  unfold lg_cmp
  rw [if_neg (fun h => Int64.lt_irrefl (a := x) h), if_pos rfl]
def sgLW_192_1478f : List Instr := [.aload_n 1, .aload_n 0, .iload 4, .iconst 1, .iadd]
theorem sgLW_192_1478fd : am_dec code 192 sgLW_192_1478f = true := by decide +kernel
theorem dLW_198 : decode code 198 = .ok (.iaload, 1) := by decide +kernel
def sgLW_199_67016 : List Instr := [.aload_n 3]
theorem sgLW_199_67016d : am_dec code 199 sgLW_199_67016 = true := by decide +kernel
theorem dLW_200 : decode code 200 = .ok (.invokestatic 127, 3) := by decide +kernel
def sgLW_203_523aa : List Instr := [.istore 5, .aload_n 2, .aload_n 0, .iload 4, .iconst 1, .iadd]
theorem sgLW_203_523aad : am_dec code 203 sgLW_203_523aa = true := by decide +kernel
theorem dLW_211 : decode code 211 = .ok (.iaload, 1) := by decide +kernel
theorem dLW_212 : decode code 212 = .ok (.invokevirtual 132, 3) := by decide +kernel
def sgLW_215_2d201 : List Instr := [.istore 6, .aload_n 2]
theorem sgLW_215_2d201d : am_dec code 215 sgLW_215_2d201 = true := by decide +kernel
theorem dLW_218 : decode code 218 = .ok (.invokevirtual 133, 3) := by decide +kernel
def sgLW_221_9df92 : List Instr := [.iload 5]
theorem sgLW_221_9df92d : am_dec code 221 sgLW_221_9df92 = true := by decide +kernel
theorem dLW_223 : decode code 223 = .ok (.if_icmp .eq 5, 3) := by decide +kernel
def sgLW_228_9df92 : List Instr := [.iload 5]
theorem sgLW_228_9df92d : am_dec code 228 sgLW_228_9df92 = true := by decide +kernel
theorem dLW_230 : decode code 230 = .ok (.ifCond .ne 15, 3) := by decide +kernel
def sgLW_245_8d0f4 : List Instr := [.goto 2143]
theorem sgLW_245_8d0f4d : am_dec code 245 sgLW_245_8d0f4 = true := by decide +kernel
def sgLW_233_1f411 : List Instr := [.aload_n 3, .iconst 0]
theorem sgLW_233_1f411d : am_dec code 233 sgLW_233_1f411 = true := by decide +kernel
theorem dLW_235 : decode code 235 = .ok (.laload, 1) := by decide +kernel
def sgLW_236_abfd4 : List Instr := [.iload 6, .i2l, .lcmp]
theorem sgLW_236_abfd4d : am_dec code 236 sgLW_236_abfd4 = true := by decide +kernel
theorem dLW_240 : decode code 240 = .ok (.ifCond .eq 5, 3) := by decide +kernel
set_option maxRecDepth 100000 in
set_option maxHeartbeats 2000000 in
theorem law_list {C : am_Cx} {q : Nat × Nat × Nat} {w0 : Cond} {b N : Nat} {xs : Nat → Int32} (hF : am_F C code 7 RL (w0 :: am_G)) (hK9 : am_K C.n0 C.dg C.ty C.st) (hro : C.ro = room_1) (hXs : va_X b N xs C.st C.st.heap) (hbl : b < C.st.heap.size) (hbA : ¬ C.n0 ≤ b) (hN : N ≤ 2560) {T S : am_T} {o : Nat → Int64} {P : am_T → am_T → Prop} {j : Nat} (hj : 5 * j + 5 ≤ N) (hop : ∀ x1 : Int32, ∃ (kk bb : Int32) (T' S' : am_T) (o' : Nat → Int64), am_D C.se yL_list (.codeWith yL_list cL_list 4 (some .int) [(0, 9, 12, 13), (0, 9, 15, 15)] :: am_G) am_WR (hp T S o) [.ref 0, .int x1, .ref 464] (hp T' S o') (some (.int kk)) ∧ am_D C.se yX6_list (.code yX6_list cX6_list 3 (some .int) :: am_G) { frames := 2, cells := 0, slots := 0, locals := 42 } (hp T' S o') [.ref 465, .int x1] (hp T' S' o') (some (.int bb)) ∧ S' 0 0 = kk ∧ (kk = 0 → o' 0 = bb.toInt64) ∧ P T' S') (kend : ∀ (T' S' : am_T) (o' : Nat → Int64), P T' S' → lW C q (hp T' S' o') (71 + 4 * (j + 1)) (18836 + 36 * (j + 1)) 2388 [(0, .ref b), (1, .ref q.1), (2, .ref q.2.2), (3, .ref q.2.1), (4, .int (nI (5 * j)))] []) : lW C q (hp T S o) (71 + 4 * j) (18836 + 36 * j) 192 [(0, .ref b), (1, .ref q.1), (2, .ref q.2.2), (3, .ref q.2.1), (4, .int (nI (5 * j)))] [] := by
  refine l_go hF sgLW_192_1478f 198 [(0, .ref b), (1, .ref q.1), (2, .ref q.2.2), (3, .ref q.2.1), (4, .int (nI (5 * j)))] [.int (nI (5 * j) + 1), .ref b, .ref q.1] sgLW_192_1478fd rfl ?_
  refine l_sld hF hXs hbl hbA (5 * j + 1) (am_ad rfl rfl) (by omega) (by omega) dLW_198 ?_
  refine l_go hF sgLW_199_67016 200 [(0, .ref b), (1, .ref q.1), (2, .ref q.2.2), (3, .ref q.2.1), (4, .int (nI (5 * j)))] [.ref q.2.1, .int (xs (5 * j + 1)), .ref q.1] sgLW_199_67016d rfl ?_
  obtain ⟨kk, bb, T', S', o', hw, hr, hth, ho, hP⟩ := hop (xs (5 * j + 1))
  refine l_dS hF hK9 [.ref 0, .int (xs (5 * j + 1)), .ref 464] [.ref q.1, .int (xs (5 * j + 1)), .ref q.2.1] [] hw mwyL_list swyL_list lm_RL_127 rfl (71 + 4 * (j + 1)) (18836 + 36 * (j + 1)) (by rw [hro]; exact ⟨Nat.le_of_ble_eq_true rfl, Nat.le_of_ble_eq_true rfl⟩) ⟨by show _ + 4 ≤ _; omega, by show _ + 36 ≤ _; omega, by rw [hro]; show _ ≤ 601024; omega, by rw [hro]; show _ ≤ 7293034; omega⟩ rfl (fun ad h => by simp only [List.map_cons, List.map_nil, am_v, h.1, h.2.1]) (hp_q _ _ _) (Nat.le_of_ble_eq_true rfl) dLW_200 ?_
  refine l_go hF sgLW_203_523aa 211 [(5, .int kk), (0, .ref b), (1, .ref q.1), (2, .ref q.2.2), (3, .ref q.2.1), (4, .int (nI (5 * j)))] [.int (nI (5 * j) + 1), .ref b, .ref q.2.2] sgLW_203_523aad rfl ?_
  refine l_sld hF hXs hbl hbA (5 * j + 1) (am_ad rfl rfl) (by omega) (by omega) dLW_211 ?_
  refine l_dV hF hK9 (b := 465) [.int (xs (5 * j + 1))] [.int (xs (5 * j + 1))] [] hr myX6_list vyX6_list lm_RL_132 (hp_m _ _ _) rfl rfl (71 + 4 * (j + 1)) (18836 + 36 * (j + 1)) (by rw [hro]; exact ⟨Nat.le_of_ble_eq_true rfl, Nat.le_of_ble_eq_true rfl⟩) ⟨by show _ + 0 ≤ _; omega, by show _ + 0 ≤ _; omega, by rw [hro]; show _ ≤ 601024; omega, by rw [hro]; show _ ≤ 7293034; omega⟩ rfl (fun ad h => h.2.2) (fun ad => rfl) (hp_q _ _ _) (Nat.le_of_ble_eq_true rfl) dLW_212 ?_
  refine l_go hF sgLW_215_2d201 218 [(6, .int bb), (5, .int kk), (0, .ref b), (1, .ref q.1), (2, .ref q.2.2), (3, .ref q.2.1), (4, .int (nI (5 * j)))] [.ref q.2.2] sgLW_215_2d201d rfl ?_
  refine l_dV hF hK9 (b := 465) [] [] [] (c_r_thrown (T := T') (S := S') (o := o')) myX6_thrown vyX6_thrown lm_RL_133 (hp_m _ _ _) rfl rfl (71 + 4 * (j + 1)) (18836 + 36 * (j + 1)) (by rw [hro]; exact ⟨Nat.le_of_ble_eq_true rfl, Nat.le_of_ble_eq_true rfl⟩) ⟨by show _ + 0 ≤ _; omega, by show _ + 0 ≤ _; omega, by rw [hro]; show _ ≤ 601024; omega, by rw [hro]; show _ ≤ 7293034; omega⟩ rfl (fun ad h => h.2.2) (fun ad => rfl) (hp_q _ _ _) (Nat.le_of_ble_eq_true rfl) dLW_218 ?_
  refine l_go hF sgLW_221_9df92 223 [(6, .int bb), (5, .int kk), (0, .ref b), (1, .ref q.1), (2, .ref q.2.2), (3, .ref q.2.1), (4, .int (nI (5 * j)))] [.int kk, .int (S' 0 0)] sgLW_221_9df92d rfl ?_
  refine l_icmpeq hF 228 dLW_223 (by decide) (fun _ => ?_) (fun c9 => absurd hth c9)
  refine l_go hF sgLW_228_9df92 230 [(6, .int bb), (5, .int kk), (0, .ref b), (1, .ref q.1), (2, .ref q.2.2), (3, .ref q.2.1), (4, .int (nI (5 * j)))] [.int kk] sgLW_228_9df92d rfl ?_
  have hend : lW C q (hp T' S' o') (71 + 4 * (j + 1)) (18836 + 36 * (j + 1)) 245 [(6, .int bb), (5, .int kk), (0, .ref b), (1, .ref q.1), (2, .ref q.2.2), (3, .ref q.2.1), (4, .int (nI (5 * j)))] [] := by
    refine l_go hF sgLW_245_8d0f4 2388 [(6, .int bb), (5, .int kk), (0, .ref b), (1, .ref q.1), (2, .ref q.2.2), (3, .ref q.2.1), (4, .int (nI (5 * j)))] [] sgLW_245_8d0f4d rfl ?_
    refine l_drop [2, 3, 4, 5, 6] [(0, .ref b), (1, .ref q.1), (2, .ref q.2.2), (3, .ref q.2.1), (4, .int (nI (5 * j)))] rfl ?_
    exact kend T' S' o' hP
  refine l_ifne hF 245 dLW_230 (by decide) (fun _ => hend) (fun hk0 => ?_)
  refine l_go hF sgLW_233_1f411 235 [(6, .int bb), (5, .int kk), (0, .ref b), (1, .ref q.1), (2, .ref q.2.2), (3, .ref q.2.1), (4, .int (nI (5 * j)))] [.int 0, .ref q.2.1] sgLW_233_1f411d rfl ?_
  refine l_out hF dLW_235 ?_
  refine l_go hF sgLW_236_abfd4 240 [(6, .int bb), (5, .int kk), (0, .ref b), (1, .ref q.1), (2, .ref q.2.2), (3, .ref q.2.1), (4, .int (nI (5 * j)))] [.int (lg_cmp (o' 0) bb.toInt64)] sgLW_236_abfd4d rfl ?_
  refine l_top 0 (by rw [ho hk0]; exact lg_cmp_s _) ?_
  exact l_ifeq hF 245 dLW_240 (by decide) (fun _ => hend) (fun c9 => absurd rfl c9)
def sgLW_248_1478f : List Instr := [.aload_n 1, .aload_n 0, .iload 4, .iconst 1, .iadd]
theorem sgLW_248_1478fd : am_dec code 248 sgLW_248_1478f = true := by decide +kernel
theorem dLW_254 : decode code 254 = .ok (.iaload, 1) := by decide +kernel
def sgLW_255_1d7ba : List Instr := [.aload_n 0, .iload 4, .iconst 2, .iadd]
theorem sgLW_255_1d7bad : am_dec code 255 sgLW_255_1d7ba = true := by decide +kernel
theorem dLW_260 : decode code 260 = .ok (.iaload, 1) := by decide +kernel
def sgLW_261_0eb71 : List Instr := [.aload_n 0, .iload 4, .iconst 3, .iadd]
theorem sgLW_261_0eb71d : am_dec code 261 sgLW_261_0eb71 = true := by decide +kernel
theorem dLW_266 : decode code 266 = .ok (.iaload, 1) := by decide +kernel
def sgLW_267_67016 : List Instr := [.aload_n 3]
theorem sgLW_267_67016d : am_dec code 267 sgLW_267_67016 = true := by decide +kernel
theorem dLW_268 : decode code 268 = .ok (.invokestatic 137, 3) := by decide +kernel
def sgLW_271_523aa : List Instr := [.istore 5, .aload_n 2, .aload_n 0, .iload 4, .iconst 1, .iadd]
theorem sgLW_271_523aad : am_dec code 271 sgLW_271_523aa = true := by decide +kernel
theorem dLW_279 : decode code 279 = .ok (.iaload, 1) := by decide +kernel
def sgLW_280_1d7ba : List Instr := [.aload_n 0, .iload 4, .iconst 2, .iadd]
theorem sgLW_280_1d7bad : am_dec code 280 sgLW_280_1d7ba = true := by decide +kernel
theorem dLW_285 : decode code 285 = .ok (.iaload, 1) := by decide +kernel
def sgLW_286_0eb71 : List Instr := [.aload_n 0, .iload 4, .iconst 3, .iadd]
theorem sgLW_286_0eb71d : am_dec code 286 sgLW_286_0eb71 = true := by decide +kernel
theorem dLW_291 : decode code 291 = .ok (.iaload, 1) := by decide +kernel
theorem dLW_292 : decode code 292 = .ok (.invokevirtual 140, 3) := by decide +kernel
def sgLW_295_2d201 : List Instr := [.istore 6, .aload_n 2]
theorem sgLW_295_2d201d : am_dec code 295 sgLW_295_2d201 = true := by decide +kernel
theorem dLW_298 : decode code 298 = .ok (.invokevirtual 133, 3) := by decide +kernel
def sgLW_301_9df92 : List Instr := [.iload 5]
theorem sgLW_301_9df92d : am_dec code 301 sgLW_301_9df92 = true := by decide +kernel
theorem dLW_303 : decode code 303 = .ok (.if_icmp .eq 5, 3) := by decide +kernel
def sgLW_308_9df92 : List Instr := [.iload 5]
theorem sgLW_308_9df92d : am_dec code 308 sgLW_308_9df92 = true := by decide +kernel
theorem dLW_310 : decode code 310 = .ok (.ifCond .ne 15, 3) := by decide +kernel
def sgLW_325_89fbe : List Instr := [.goto 2063]
theorem sgLW_325_89fbed : am_dec code 325 sgLW_325_89fbe = true := by decide +kernel
def sgLW_313_1f411 : List Instr := [.aload_n 3, .iconst 0]
theorem sgLW_313_1f411d : am_dec code 313 sgLW_313_1f411 = true := by decide +kernel
theorem dLW_315 : decode code 315 = .ok (.laload, 1) := by decide +kernel
def sgLW_316_abfd4 : List Instr := [.iload 6, .i2l, .lcmp]
theorem sgLW_316_abfd4d : am_dec code 316 sgLW_316_abfd4 = true := by decide +kernel
theorem dLW_320 : decode code 320 = .ok (.ifCond .eq 5, 3) := by decide +kernel
set_option maxRecDepth 100000 in
set_option maxHeartbeats 2000000 in
theorem law_join {C : am_Cx} {q : Nat × Nat × Nat} {w0 : Cond} {b N : Nat} {xs : Nat → Int32} (hF : am_F C code 7 RL (w0 :: am_G)) (hK9 : am_K C.n0 C.dg C.ty C.st) (hro : C.ro = room_1) (hXs : va_X b N xs C.st C.st.heap) (hbl : b < C.st.heap.size) (hbA : ¬ C.n0 ≤ b) (hN : N ≤ 2560) {T S : am_T} {o : Nat → Int64} {P : am_T → am_T → Prop} {j : Nat} (hj : 5 * j + 5 ≤ N) (hop : ∀ x1 x2 x3 : Int32, ∃ (kk bb : Int32) (T' S' : am_T) (o' : Nat → Int64), am_D C.se yL_join (.codeWith yL_join cL_join 6 (some .int) [(0, 12, 15, 13), (0, 12, 19, 21), (0, 12, 23, 15)] :: am_G) am_WR (hp T S o) [.ref 0, .int x1, .int x2, .int x3, .ref 464] (hp T' S o') (some (.int kk)) ∧ am_D C.se yX6_join (.code yX6_join cX6_join 4 (some .int) :: am_G) { frames := 2, cells := 0, slots := 0, locals := 43 } (hp T' S o') [.ref 465, .int x1, .int x2, .int x3] (hp T' S' o') (some (.int bb)) ∧ S' 0 0 = kk ∧ (kk = 0 → o' 0 = bb.toInt64) ∧ P T' S') (kend : ∀ (T' S' : am_T) (o' : Nat → Int64), P T' S' → lW C q (hp T' S' o') (71 + 4 * (j + 1)) (18836 + 36 * (j + 1)) 2388 [(0, .ref b), (1, .ref q.1), (2, .ref q.2.2), (3, .ref q.2.1), (4, .int (nI (5 * j)))] []) : lW C q (hp T S o) (71 + 4 * j) (18836 + 36 * j) 248 [(0, .ref b), (1, .ref q.1), (2, .ref q.2.2), (3, .ref q.2.1), (4, .int (nI (5 * j)))] [] := by
  refine l_go hF sgLW_248_1478f 254 [(0, .ref b), (1, .ref q.1), (2, .ref q.2.2), (3, .ref q.2.1), (4, .int (nI (5 * j)))] [.int (nI (5 * j) + 1), .ref b, .ref q.1] sgLW_248_1478fd rfl ?_
  refine l_sld hF hXs hbl hbA (5 * j + 1) (am_ad rfl rfl) (by omega) (by omega) dLW_254 ?_
  refine l_go hF sgLW_255_1d7ba 260 [(0, .ref b), (1, .ref q.1), (2, .ref q.2.2), (3, .ref q.2.1), (4, .int (nI (5 * j)))] [.int (nI (5 * j) + 2), .ref b, .int (xs (5 * j + 1)), .ref q.1] sgLW_255_1d7bad rfl ?_
  refine l_sld hF hXs hbl hbA (5 * j + 2) (am_ad rfl rfl) (by omega) (by omega) dLW_260 ?_
  refine l_go hF sgLW_261_0eb71 266 [(0, .ref b), (1, .ref q.1), (2, .ref q.2.2), (3, .ref q.2.1), (4, .int (nI (5 * j)))] [.int (nI (5 * j) + 3), .ref b, .int (xs (5 * j + 2)), .int (xs (5 * j + 1)), .ref q.1] sgLW_261_0eb71d rfl ?_
  refine l_sld hF hXs hbl hbA (5 * j + 3) (am_ad rfl rfl) (by omega) (by omega) dLW_266 ?_
  refine l_go hF sgLW_267_67016 268 [(0, .ref b), (1, .ref q.1), (2, .ref q.2.2), (3, .ref q.2.1), (4, .int (nI (5 * j)))] [.ref q.2.1, .int (xs (5 * j + 3)), .int (xs (5 * j + 2)), .int (xs (5 * j + 1)), .ref q.1] sgLW_267_67016d rfl ?_
  obtain ⟨kk, bb, T', S', o', hw, hr, hth, ho, hP⟩ := hop (xs (5 * j + 1)) (xs (5 * j + 2)) (xs (5 * j + 3))
  refine l_dS hF hK9 [.ref 0, .int (xs (5 * j + 1)), .int (xs (5 * j + 2)), .int (xs (5 * j + 3)), .ref 464] [.ref q.1, .int (xs (5 * j + 1)), .int (xs (5 * j + 2)), .int (xs (5 * j + 3)), .ref q.2.1] [] hw mwyL_join swyL_join lm_RL_137 rfl (71 + 4 * (j + 1)) (18836 + 36 * (j + 1)) (by rw [hro]; exact ⟨Nat.le_of_ble_eq_true rfl, Nat.le_of_ble_eq_true rfl⟩) ⟨by show _ + 4 ≤ _; omega, by show _ + 36 ≤ _; omega, by rw [hro]; show _ ≤ 601024; omega, by rw [hro]; show _ ≤ 7293034; omega⟩ rfl (fun ad h => by simp only [List.map_cons, List.map_nil, am_v, h.1, h.2.1]) (hp_q _ _ _) (Nat.le_of_ble_eq_true rfl) dLW_268 ?_
  refine l_go hF sgLW_271_523aa 279 [(5, .int kk), (0, .ref b), (1, .ref q.1), (2, .ref q.2.2), (3, .ref q.2.1), (4, .int (nI (5 * j)))] [.int (nI (5 * j) + 1), .ref b, .ref q.2.2] sgLW_271_523aad rfl ?_
  refine l_sld hF hXs hbl hbA (5 * j + 1) (am_ad rfl rfl) (by omega) (by omega) dLW_279 ?_
  refine l_go hF sgLW_280_1d7ba 285 [(5, .int kk), (0, .ref b), (1, .ref q.1), (2, .ref q.2.2), (3, .ref q.2.1), (4, .int (nI (5 * j)))] [.int (nI (5 * j) + 2), .ref b, .int (xs (5 * j + 1)), .ref q.2.2] sgLW_280_1d7bad rfl ?_
  refine l_sld hF hXs hbl hbA (5 * j + 2) (am_ad rfl rfl) (by omega) (by omega) dLW_285 ?_
  refine l_go hF sgLW_286_0eb71 291 [(5, .int kk), (0, .ref b), (1, .ref q.1), (2, .ref q.2.2), (3, .ref q.2.1), (4, .int (nI (5 * j)))] [.int (nI (5 * j) + 3), .ref b, .int (xs (5 * j + 2)), .int (xs (5 * j + 1)), .ref q.2.2] sgLW_286_0eb71d rfl ?_
  refine l_sld hF hXs hbl hbA (5 * j + 3) (am_ad rfl rfl) (by omega) (by omega) dLW_291 ?_
  refine l_dV hF hK9 (b := 465) [.int (xs (5 * j + 1)), .int (xs (5 * j + 2)), .int (xs (5 * j + 3))] [.int (xs (5 * j + 1)), .int (xs (5 * j + 2)), .int (xs (5 * j + 3))] [] hr myX6_join vyX6_join lm_RL_140 (hp_m _ _ _) rfl rfl (71 + 4 * (j + 1)) (18836 + 36 * (j + 1)) (by rw [hro]; exact ⟨Nat.le_of_ble_eq_true rfl, Nat.le_of_ble_eq_true rfl⟩) ⟨by show _ + 0 ≤ _; omega, by show _ + 0 ≤ _; omega, by rw [hro]; show _ ≤ 601024; omega, by rw [hro]; show _ ≤ 7293034; omega⟩ rfl (fun ad h => h.2.2) (fun ad => rfl) (hp_q _ _ _) (Nat.le_of_ble_eq_true rfl) dLW_292 ?_
  refine l_go hF sgLW_295_2d201 298 [(6, .int bb), (5, .int kk), (0, .ref b), (1, .ref q.1), (2, .ref q.2.2), (3, .ref q.2.1), (4, .int (nI (5 * j)))] [.ref q.2.2] sgLW_295_2d201d rfl ?_
  refine l_dV hF hK9 (b := 465) [] [] [] (c_r_thrown (T := T') (S := S') (o := o')) myX6_thrown vyX6_thrown lm_RL_133 (hp_m _ _ _) rfl rfl (71 + 4 * (j + 1)) (18836 + 36 * (j + 1)) (by rw [hro]; exact ⟨Nat.le_of_ble_eq_true rfl, Nat.le_of_ble_eq_true rfl⟩) ⟨by show _ + 0 ≤ _; omega, by show _ + 0 ≤ _; omega, by rw [hro]; show _ ≤ 601024; omega, by rw [hro]; show _ ≤ 7293034; omega⟩ rfl (fun ad h => h.2.2) (fun ad => rfl) (hp_q _ _ _) (Nat.le_of_ble_eq_true rfl) dLW_298 ?_
  refine l_go hF sgLW_301_9df92 303 [(6, .int bb), (5, .int kk), (0, .ref b), (1, .ref q.1), (2, .ref q.2.2), (3, .ref q.2.1), (4, .int (nI (5 * j)))] [.int kk, .int (S' 0 0)] sgLW_301_9df92d rfl ?_
  refine l_icmpeq hF 308 dLW_303 (by decide) (fun _ => ?_) (fun c9 => absurd hth c9)
  refine l_go hF sgLW_308_9df92 310 [(6, .int bb), (5, .int kk), (0, .ref b), (1, .ref q.1), (2, .ref q.2.2), (3, .ref q.2.1), (4, .int (nI (5 * j)))] [.int kk] sgLW_308_9df92d rfl ?_
  have hend : lW C q (hp T' S' o') (71 + 4 * (j + 1)) (18836 + 36 * (j + 1)) 325 [(6, .int bb), (5, .int kk), (0, .ref b), (1, .ref q.1), (2, .ref q.2.2), (3, .ref q.2.1), (4, .int (nI (5 * j)))] [] := by
    refine l_go hF sgLW_325_89fbe 2388 [(6, .int bb), (5, .int kk), (0, .ref b), (1, .ref q.1), (2, .ref q.2.2), (3, .ref q.2.1), (4, .int (nI (5 * j)))] [] sgLW_325_89fbed rfl ?_
    refine l_drop [2, 3, 4, 5, 6] [(0, .ref b), (1, .ref q.1), (2, .ref q.2.2), (3, .ref q.2.1), (4, .int (nI (5 * j)))] rfl ?_
    exact kend T' S' o' hP
  refine l_ifne hF 325 dLW_310 (by decide) (fun _ => hend) (fun hk0 => ?_)
  refine l_go hF sgLW_313_1f411 315 [(6, .int bb), (5, .int kk), (0, .ref b), (1, .ref q.1), (2, .ref q.2.2), (3, .ref q.2.1), (4, .int (nI (5 * j)))] [.int 0, .ref q.2.1] sgLW_313_1f411d rfl ?_
  refine l_out hF dLW_315 ?_
  refine l_go hF sgLW_316_abfd4 320 [(6, .int bb), (5, .int kk), (0, .ref b), (1, .ref q.1), (2, .ref q.2.2), (3, .ref q.2.1), (4, .int (nI (5 * j)))] [.int (lg_cmp (o' 0) bb.toInt64)] sgLW_316_abfd4d rfl ?_
  refine l_top 0 (by rw [ho hk0]; exact lg_cmp_s _) ?_
  exact l_ifeq hF 325 dLW_320 (by decide) (fun _ => hend) (fun c9 => absurd rfl c9)
def sgLW_328_1478f : List Instr := [.aload_n 1, .aload_n 0, .iload 4, .iconst 1, .iadd]
theorem sgLW_328_1478fd : am_dec code 328 sgLW_328_1478f = true := by decide +kernel
theorem dLW_334 : decode code 334 = .ok (.iaload, 1) := by decide +kernel
def sgLW_335_1d7ba : List Instr := [.aload_n 0, .iload 4, .iconst 2, .iadd]
theorem sgLW_335_1d7bad : am_dec code 335 sgLW_335_1d7ba = true := by decide +kernel
theorem dLW_340 : decode code 340 = .ok (.iaload, 1) := by decide +kernel
def sgLW_341_67016 : List Instr := [.aload_n 3]
theorem sgLW_341_67016d : am_dec code 341 sgLW_341_67016 = true := by decide +kernel
theorem dLW_342 : decode code 342 = .ok (.invokestatic 141, 3) := by decide +kernel
def sgLW_345_523aa : List Instr := [.istore 5, .aload_n 2, .aload_n 0, .iload 4, .iconst 1, .iadd]
theorem sgLW_345_523aad : am_dec code 345 sgLW_345_523aa = true := by decide +kernel
theorem dLW_353 : decode code 353 = .ok (.iaload, 1) := by decide +kernel
def sgLW_354_1d7ba : List Instr := [.aload_n 0, .iload 4, .iconst 2, .iadd]
theorem sgLW_354_1d7bad : am_dec code 354 sgLW_354_1d7ba = true := by decide +kernel
theorem dLW_359 : decode code 359 = .ok (.iaload, 1) := by decide +kernel
theorem dLW_360 : decode code 360 = .ok (.invokevirtual 144, 3) := by decide +kernel
def sgLW_363_2d201 : List Instr := [.istore 6, .aload_n 2]
theorem sgLW_363_2d201d : am_dec code 363 sgLW_363_2d201 = true := by decide +kernel
theorem dLW_366 : decode code 366 = .ok (.invokevirtual 133, 3) := by decide +kernel
def sgLW_369_9df92 : List Instr := [.iload 5]
theorem sgLW_369_9df92d : am_dec code 369 sgLW_369_9df92 = true := by decide +kernel
theorem dLW_371 : decode code 371 = .ok (.if_icmp .eq 5, 3) := by decide +kernel
def sgLW_376_9df92 : List Instr := [.iload 5]
theorem sgLW_376_9df92d : am_dec code 376 sgLW_376_9df92 = true := by decide +kernel
theorem dLW_378 : decode code 378 = .ok (.ifCond .ne 15, 3) := by decide +kernel
def sgLW_393_2f7d4 : List Instr := [.goto 1995]
theorem sgLW_393_2f7d4d : am_dec code 393 sgLW_393_2f7d4 = true := by decide +kernel
def sgLW_381_1f411 : List Instr := [.aload_n 3, .iconst 0]
theorem sgLW_381_1f411d : am_dec code 381 sgLW_381_1f411 = true := by decide +kernel
theorem dLW_383 : decode code 383 = .ok (.laload, 1) := by decide +kernel
def sgLW_384_abfd4 : List Instr := [.iload 6, .i2l, .lcmp]
theorem sgLW_384_abfd4d : am_dec code 384 sgLW_384_abfd4 = true := by decide +kernel
theorem dLW_388 : decode code 388 = .ok (.ifCond .eq 5, 3) := by decide +kernel
set_option maxRecDepth 100000 in
set_option maxHeartbeats 2000000 in
theorem law_leave {C : am_Cx} {q : Nat × Nat × Nat} {w0 : Cond} {b N : Nat} {xs : Nat → Int32} (hF : am_F C code 7 RL (w0 :: am_G)) (hK9 : am_K C.n0 C.dg C.ty C.st) (hro : C.ro = room_1) (hXs : va_X b N xs C.st C.st.heap) (hbl : b < C.st.heap.size) (hbA : ¬ C.n0 ≤ b) (hN : N ≤ 2560) {T S : am_T} {o : Nat → Int64} {P : am_T → am_T → Prop} {j : Nat} (hj : 5 * j + 5 ≤ N) (hop : ∀ x1 x2 : Int32, ∃ (kk bb : Int32) (T' S' : am_T) (o' : Nat → Int64), am_D C.se yL_leave (.codeWith yL_leave cL_leave 5 (some .int) [(0, 10, 13, 13), (0, 10, 17, 15)] :: am_G) am_WR (hp T S o) [.ref 0, .int x1, .int x2, .ref 464] (hp T' S o') (some (.int kk)) ∧ am_D C.se yX6_leave (.code yX6_leave cX6_leave 4 (some .int) :: am_G) { frames := 2, cells := 0, slots := 0, locals := 43 } (hp T' S o') [.ref 465, .int x1, .int x2] (hp T' S' o') (some (.int bb)) ∧ S' 0 0 = kk ∧ (kk = 0 → o' 0 = bb.toInt64) ∧ P T' S') (kend : ∀ (T' S' : am_T) (o' : Nat → Int64), P T' S' → lW C q (hp T' S' o') (71 + 4 * (j + 1)) (18836 + 36 * (j + 1)) 2388 [(0, .ref b), (1, .ref q.1), (2, .ref q.2.2), (3, .ref q.2.1), (4, .int (nI (5 * j)))] []) : lW C q (hp T S o) (71 + 4 * j) (18836 + 36 * j) 328 [(0, .ref b), (1, .ref q.1), (2, .ref q.2.2), (3, .ref q.2.1), (4, .int (nI (5 * j)))] [] := by
  refine l_go hF sgLW_328_1478f 334 [(0, .ref b), (1, .ref q.1), (2, .ref q.2.2), (3, .ref q.2.1), (4, .int (nI (5 * j)))] [.int (nI (5 * j) + 1), .ref b, .ref q.1] sgLW_328_1478fd rfl ?_
  refine l_sld hF hXs hbl hbA (5 * j + 1) (am_ad rfl rfl) (by omega) (by omega) dLW_334 ?_
  refine l_go hF sgLW_335_1d7ba 340 [(0, .ref b), (1, .ref q.1), (2, .ref q.2.2), (3, .ref q.2.1), (4, .int (nI (5 * j)))] [.int (nI (5 * j) + 2), .ref b, .int (xs (5 * j + 1)), .ref q.1] sgLW_335_1d7bad rfl ?_
  refine l_sld hF hXs hbl hbA (5 * j + 2) (am_ad rfl rfl) (by omega) (by omega) dLW_340 ?_
  refine l_go hF sgLW_341_67016 342 [(0, .ref b), (1, .ref q.1), (2, .ref q.2.2), (3, .ref q.2.1), (4, .int (nI (5 * j)))] [.ref q.2.1, .int (xs (5 * j + 2)), .int (xs (5 * j + 1)), .ref q.1] sgLW_341_67016d rfl ?_
  obtain ⟨kk, bb, T', S', o', hw, hr, hth, ho, hP⟩ := hop (xs (5 * j + 1)) (xs (5 * j + 2))
  refine l_dS hF hK9 [.ref 0, .int (xs (5 * j + 1)), .int (xs (5 * j + 2)), .ref 464] [.ref q.1, .int (xs (5 * j + 1)), .int (xs (5 * j + 2)), .ref q.2.1] [] hw mwyL_leave swyL_leave lm_RL_141 rfl (71 + 4 * (j + 1)) (18836 + 36 * (j + 1)) (by rw [hro]; exact ⟨Nat.le_of_ble_eq_true rfl, Nat.le_of_ble_eq_true rfl⟩) ⟨by show _ + 4 ≤ _; omega, by show _ + 36 ≤ _; omega, by rw [hro]; show _ ≤ 601024; omega, by rw [hro]; show _ ≤ 7293034; omega⟩ rfl (fun ad h => by simp only [List.map_cons, List.map_nil, am_v, h.1, h.2.1]) (hp_q _ _ _) (Nat.le_of_ble_eq_true rfl) dLW_342 ?_
  refine l_go hF sgLW_345_523aa 353 [(5, .int kk), (0, .ref b), (1, .ref q.1), (2, .ref q.2.2), (3, .ref q.2.1), (4, .int (nI (5 * j)))] [.int (nI (5 * j) + 1), .ref b, .ref q.2.2] sgLW_345_523aad rfl ?_
  refine l_sld hF hXs hbl hbA (5 * j + 1) (am_ad rfl rfl) (by omega) (by omega) dLW_353 ?_
  refine l_go hF sgLW_354_1d7ba 359 [(5, .int kk), (0, .ref b), (1, .ref q.1), (2, .ref q.2.2), (3, .ref q.2.1), (4, .int (nI (5 * j)))] [.int (nI (5 * j) + 2), .ref b, .int (xs (5 * j + 1)), .ref q.2.2] sgLW_354_1d7bad rfl ?_
  refine l_sld hF hXs hbl hbA (5 * j + 2) (am_ad rfl rfl) (by omega) (by omega) dLW_359 ?_
  refine l_dV hF hK9 (b := 465) [.int (xs (5 * j + 1)), .int (xs (5 * j + 2))] [.int (xs (5 * j + 1)), .int (xs (5 * j + 2))] [] hr myX6_leave vyX6_leave lm_RL_144 (hp_m _ _ _) rfl rfl (71 + 4 * (j + 1)) (18836 + 36 * (j + 1)) (by rw [hro]; exact ⟨Nat.le_of_ble_eq_true rfl, Nat.le_of_ble_eq_true rfl⟩) ⟨by show _ + 0 ≤ _; omega, by show _ + 0 ≤ _; omega, by rw [hro]; show _ ≤ 601024; omega, by rw [hro]; show _ ≤ 7293034; omega⟩ rfl (fun ad h => h.2.2) (fun ad => rfl) (hp_q _ _ _) (Nat.le_of_ble_eq_true rfl) dLW_360 ?_
  refine l_go hF sgLW_363_2d201 366 [(6, .int bb), (5, .int kk), (0, .ref b), (1, .ref q.1), (2, .ref q.2.2), (3, .ref q.2.1), (4, .int (nI (5 * j)))] [.ref q.2.2] sgLW_363_2d201d rfl ?_
  refine l_dV hF hK9 (b := 465) [] [] [] (c_r_thrown (T := T') (S := S') (o := o')) myX6_thrown vyX6_thrown lm_RL_133 (hp_m _ _ _) rfl rfl (71 + 4 * (j + 1)) (18836 + 36 * (j + 1)) (by rw [hro]; exact ⟨Nat.le_of_ble_eq_true rfl, Nat.le_of_ble_eq_true rfl⟩) ⟨by show _ + 0 ≤ _; omega, by show _ + 0 ≤ _; omega, by rw [hro]; show _ ≤ 601024; omega, by rw [hro]; show _ ≤ 7293034; omega⟩ rfl (fun ad h => h.2.2) (fun ad => rfl) (hp_q _ _ _) (Nat.le_of_ble_eq_true rfl) dLW_366 ?_
  refine l_go hF sgLW_369_9df92 371 [(6, .int bb), (5, .int kk), (0, .ref b), (1, .ref q.1), (2, .ref q.2.2), (3, .ref q.2.1), (4, .int (nI (5 * j)))] [.int kk, .int (S' 0 0)] sgLW_369_9df92d rfl ?_
  refine l_icmpeq hF 376 dLW_371 (by decide) (fun _ => ?_) (fun c9 => absurd hth c9)
  refine l_go hF sgLW_376_9df92 378 [(6, .int bb), (5, .int kk), (0, .ref b), (1, .ref q.1), (2, .ref q.2.2), (3, .ref q.2.1), (4, .int (nI (5 * j)))] [.int kk] sgLW_376_9df92d rfl ?_
  have hend : lW C q (hp T' S' o') (71 + 4 * (j + 1)) (18836 + 36 * (j + 1)) 393 [(6, .int bb), (5, .int kk), (0, .ref b), (1, .ref q.1), (2, .ref q.2.2), (3, .ref q.2.1), (4, .int (nI (5 * j)))] [] := by
    refine l_go hF sgLW_393_2f7d4 2388 [(6, .int bb), (5, .int kk), (0, .ref b), (1, .ref q.1), (2, .ref q.2.2), (3, .ref q.2.1), (4, .int (nI (5 * j)))] [] sgLW_393_2f7d4d rfl ?_
    refine l_drop [2, 3, 4, 5, 6] [(0, .ref b), (1, .ref q.1), (2, .ref q.2.2), (3, .ref q.2.1), (4, .int (nI (5 * j)))] rfl ?_
    exact kend T' S' o' hP
  refine l_ifne hF 393 dLW_378 (by decide) (fun _ => hend) (fun hk0 => ?_)
  refine l_go hF sgLW_381_1f411 383 [(6, .int bb), (5, .int kk), (0, .ref b), (1, .ref q.1), (2, .ref q.2.2), (3, .ref q.2.1), (4, .int (nI (5 * j)))] [.int 0, .ref q.2.1] sgLW_381_1f411d rfl ?_
  refine l_out hF dLW_383 ?_
  refine l_go hF sgLW_384_abfd4 388 [(6, .int bb), (5, .int kk), (0, .ref b), (1, .ref q.1), (2, .ref q.2.2), (3, .ref q.2.1), (4, .int (nI (5 * j)))] [.int (lg_cmp (o' 0) bb.toInt64)] sgLW_384_abfd4d rfl ?_
  refine l_top 0 (by rw [ho hk0]; exact lg_cmp_s _) ?_
  exact l_ifeq hF 393 dLW_388 (by decide) (fun _ => hend) (fun c9 => absurd rfl c9)
def sgLW_396_1478f : List Instr := [.aload_n 1, .aload_n 0, .iload 4, .iconst 1, .iadd]
theorem sgLW_396_1478fd : am_dec code 396 sgLW_396_1478f = true := by decide +kernel
theorem dLW_402 : decode code 402 = .ok (.iaload, 1) := by decide +kernel
def sgLW_403_1d7ba : List Instr := [.aload_n 0, .iload 4, .iconst 2, .iadd]
theorem sgLW_403_1d7bad : am_dec code 403 sgLW_403_1d7ba = true := by decide +kernel
theorem dLW_408 : decode code 408 = .ok (.iaload, 1) := by decide +kernel
def sgLW_409_0eb71 : List Instr := [.aload_n 0, .iload 4, .iconst 3, .iadd]
theorem sgLW_409_0eb71d : am_dec code 409 sgLW_409_0eb71 = true := by decide +kernel
theorem dLW_414 : decode code 414 = .ok (.iaload, 1) := by decide +kernel
def sgLW_415_67016 : List Instr := [.aload_n 3]
theorem sgLW_415_67016d : am_dec code 415 sgLW_415_67016 = true := by decide +kernel
theorem dLW_416 : decode code 416 = .ok (.invokestatic 145, 3) := by decide +kernel
def sgLW_419_523aa : List Instr := [.istore 5, .aload_n 2, .aload_n 0, .iload 4, .iconst 1, .iadd]
theorem sgLW_419_523aad : am_dec code 419 sgLW_419_523aa = true := by decide +kernel
theorem dLW_427 : decode code 427 = .ok (.iaload, 1) := by decide +kernel
def sgLW_428_1d7ba : List Instr := [.aload_n 0, .iload 4, .iconst 2, .iadd]
theorem sgLW_428_1d7bad : am_dec code 428 sgLW_428_1d7ba = true := by decide +kernel
theorem dLW_433 : decode code 433 = .ok (.iaload, 1) := by decide +kernel
def sgLW_434_0eb71 : List Instr := [.aload_n 0, .iload 4, .iconst 3, .iadd]
theorem sgLW_434_0eb71d : am_dec code 434 sgLW_434_0eb71 = true := by decide +kernel
theorem dLW_439 : decode code 439 = .ok (.iaload, 1) := by decide +kernel
theorem dLW_440 : decode code 440 = .ok (.invokevirtual 147, 3) := by decide +kernel
def sgLW_443_2d201 : List Instr := [.istore 6, .aload_n 2]
theorem sgLW_443_2d201d : am_dec code 443 sgLW_443_2d201 = true := by decide +kernel
theorem dLW_446 : decode code 446 = .ok (.invokevirtual 133, 3) := by decide +kernel
def sgLW_449_9df92 : List Instr := [.iload 5]
theorem sgLW_449_9df92d : am_dec code 449 sgLW_449_9df92 = true := by decide +kernel
theorem dLW_451 : decode code 451 = .ok (.if_icmp .eq 5, 3) := by decide +kernel
def sgLW_456_9df92 : List Instr := [.iload 5]
theorem sgLW_456_9df92d : am_dec code 456 sgLW_456_9df92 = true := by decide +kernel
theorem dLW_458 : decode code 458 = .ok (.ifCond .ne 15, 3) := by decide +kernel
def sgLW_473_c9013 : List Instr := [.goto 1915]
theorem sgLW_473_c9013d : am_dec code 473 sgLW_473_c9013 = true := by decide +kernel
def sgLW_461_1f411 : List Instr := [.aload_n 3, .iconst 0]
theorem sgLW_461_1f411d : am_dec code 461 sgLW_461_1f411 = true := by decide +kernel
theorem dLW_463 : decode code 463 = .ok (.laload, 1) := by decide +kernel
def sgLW_464_abfd4 : List Instr := [.iload 6, .i2l, .lcmp]
theorem sgLW_464_abfd4d : am_dec code 464 sgLW_464_abfd4 = true := by decide +kernel
theorem dLW_468 : decode code 468 = .ok (.ifCond .eq 5, 3) := by decide +kernel
set_option maxRecDepth 100000 in
set_option maxHeartbeats 2000000 in
theorem law_mode {C : am_Cx} {q : Nat × Nat × Nat} {w0 : Cond} {b N : Nat} {xs : Nat → Int32} (hF : am_F C code 7 RL (w0 :: am_G)) (hK9 : am_K C.n0 C.dg C.ty C.st) (hro : C.ro = room_1) (hXs : va_X b N xs C.st C.st.heap) (hbl : b < C.st.heap.size) (hbA : ¬ C.n0 ≤ b) (hN : N ≤ 2560) {T S : am_T} {o : Nat → Int64} {P : am_T → am_T → Prop} {j : Nat} (hj : 5 * j + 5 ≤ N) (hop : ∀ x1 x2 x3 : Int32, ∃ (kk bb : Int32) (T' S' : am_T) (o' : Nat → Int64), am_D C.se yL_mode (.codeWith yL_mode cL_mode 6 (some .int) [(0, 12, 15, 13), (0, 12, 19, 21), (0, 12, 23, 15)] :: am_G) am_WR (hp T S o) [.ref 0, .int x1, .int x2, .int x3, .ref 464] (hp T' S o') (some (.int kk)) ∧ am_D C.se yX6_mode (.code yX6_mode cX6_mode 5 (some .int) :: am_G) { frames := 2, cells := 0, slots := 0, locals := 43 } (hp T' S o') [.ref 465, .int x1, .int x2, .int x3] (hp T' S' o') (some (.int bb)) ∧ S' 0 0 = kk ∧ (kk = 0 → o' 0 = bb.toInt64) ∧ P T' S') (kend : ∀ (T' S' : am_T) (o' : Nat → Int64), P T' S' → lW C q (hp T' S' o') (71 + 4 * (j + 1)) (18836 + 36 * (j + 1)) 2388 [(0, .ref b), (1, .ref q.1), (2, .ref q.2.2), (3, .ref q.2.1), (4, .int (nI (5 * j)))] []) : lW C q (hp T S o) (71 + 4 * j) (18836 + 36 * j) 396 [(0, .ref b), (1, .ref q.1), (2, .ref q.2.2), (3, .ref q.2.1), (4, .int (nI (5 * j)))] [] := by
  refine l_go hF sgLW_396_1478f 402 [(0, .ref b), (1, .ref q.1), (2, .ref q.2.2), (3, .ref q.2.1), (4, .int (nI (5 * j)))] [.int (nI (5 * j) + 1), .ref b, .ref q.1] sgLW_396_1478fd rfl ?_
  refine l_sld hF hXs hbl hbA (5 * j + 1) (am_ad rfl rfl) (by omega) (by omega) dLW_402 ?_
  refine l_go hF sgLW_403_1d7ba 408 [(0, .ref b), (1, .ref q.1), (2, .ref q.2.2), (3, .ref q.2.1), (4, .int (nI (5 * j)))] [.int (nI (5 * j) + 2), .ref b, .int (xs (5 * j + 1)), .ref q.1] sgLW_403_1d7bad rfl ?_
  refine l_sld hF hXs hbl hbA (5 * j + 2) (am_ad rfl rfl) (by omega) (by omega) dLW_408 ?_
  refine l_go hF sgLW_409_0eb71 414 [(0, .ref b), (1, .ref q.1), (2, .ref q.2.2), (3, .ref q.2.1), (4, .int (nI (5 * j)))] [.int (nI (5 * j) + 3), .ref b, .int (xs (5 * j + 2)), .int (xs (5 * j + 1)), .ref q.1] sgLW_409_0eb71d rfl ?_
  refine l_sld hF hXs hbl hbA (5 * j + 3) (am_ad rfl rfl) (by omega) (by omega) dLW_414 ?_
  refine l_go hF sgLW_415_67016 416 [(0, .ref b), (1, .ref q.1), (2, .ref q.2.2), (3, .ref q.2.1), (4, .int (nI (5 * j)))] [.ref q.2.1, .int (xs (5 * j + 3)), .int (xs (5 * j + 2)), .int (xs (5 * j + 1)), .ref q.1] sgLW_415_67016d rfl ?_
  obtain ⟨kk, bb, T', S', o', hw, hr, hth, ho, hP⟩ := hop (xs (5 * j + 1)) (xs (5 * j + 2)) (xs (5 * j + 3))
  refine l_dS hF hK9 [.ref 0, .int (xs (5 * j + 1)), .int (xs (5 * j + 2)), .int (xs (5 * j + 3)), .ref 464] [.ref q.1, .int (xs (5 * j + 1)), .int (xs (5 * j + 2)), .int (xs (5 * j + 3)), .ref q.2.1] [] hw mwyL_mode swyL_mode lm_RL_145 rfl (71 + 4 * (j + 1)) (18836 + 36 * (j + 1)) (by rw [hro]; exact ⟨Nat.le_of_ble_eq_true rfl, Nat.le_of_ble_eq_true rfl⟩) ⟨by show _ + 4 ≤ _; omega, by show _ + 36 ≤ _; omega, by rw [hro]; show _ ≤ 601024; omega, by rw [hro]; show _ ≤ 7293034; omega⟩ rfl (fun ad h => by simp only [List.map_cons, List.map_nil, am_v, h.1, h.2.1]) (hp_q _ _ _) (Nat.le_of_ble_eq_true rfl) dLW_416 ?_
  refine l_go hF sgLW_419_523aa 427 [(5, .int kk), (0, .ref b), (1, .ref q.1), (2, .ref q.2.2), (3, .ref q.2.1), (4, .int (nI (5 * j)))] [.int (nI (5 * j) + 1), .ref b, .ref q.2.2] sgLW_419_523aad rfl ?_
  refine l_sld hF hXs hbl hbA (5 * j + 1) (am_ad rfl rfl) (by omega) (by omega) dLW_427 ?_
  refine l_go hF sgLW_428_1d7ba 433 [(5, .int kk), (0, .ref b), (1, .ref q.1), (2, .ref q.2.2), (3, .ref q.2.1), (4, .int (nI (5 * j)))] [.int (nI (5 * j) + 2), .ref b, .int (xs (5 * j + 1)), .ref q.2.2] sgLW_428_1d7bad rfl ?_
  refine l_sld hF hXs hbl hbA (5 * j + 2) (am_ad rfl rfl) (by omega) (by omega) dLW_433 ?_
  refine l_go hF sgLW_434_0eb71 439 [(5, .int kk), (0, .ref b), (1, .ref q.1), (2, .ref q.2.2), (3, .ref q.2.1), (4, .int (nI (5 * j)))] [.int (nI (5 * j) + 3), .ref b, .int (xs (5 * j + 2)), .int (xs (5 * j + 1)), .ref q.2.2] sgLW_434_0eb71d rfl ?_
  refine l_sld hF hXs hbl hbA (5 * j + 3) (am_ad rfl rfl) (by omega) (by omega) dLW_439 ?_
  refine l_dV hF hK9 (b := 465) [.int (xs (5 * j + 1)), .int (xs (5 * j + 2)), .int (xs (5 * j + 3))] [.int (xs (5 * j + 1)), .int (xs (5 * j + 2)), .int (xs (5 * j + 3))] [] hr myX6_mode vyX6_mode lm_RL_147 (hp_m _ _ _) rfl rfl (71 + 4 * (j + 1)) (18836 + 36 * (j + 1)) (by rw [hro]; exact ⟨Nat.le_of_ble_eq_true rfl, Nat.le_of_ble_eq_true rfl⟩) ⟨by show _ + 0 ≤ _; omega, by show _ + 0 ≤ _; omega, by rw [hro]; show _ ≤ 601024; omega, by rw [hro]; show _ ≤ 7293034; omega⟩ rfl (fun ad h => h.2.2) (fun ad => rfl) (hp_q _ _ _) (Nat.le_of_ble_eq_true rfl) dLW_440 ?_
  refine l_go hF sgLW_443_2d201 446 [(6, .int bb), (5, .int kk), (0, .ref b), (1, .ref q.1), (2, .ref q.2.2), (3, .ref q.2.1), (4, .int (nI (5 * j)))] [.ref q.2.2] sgLW_443_2d201d rfl ?_
  refine l_dV hF hK9 (b := 465) [] [] [] (c_r_thrown (T := T') (S := S') (o := o')) myX6_thrown vyX6_thrown lm_RL_133 (hp_m _ _ _) rfl rfl (71 + 4 * (j + 1)) (18836 + 36 * (j + 1)) (by rw [hro]; exact ⟨Nat.le_of_ble_eq_true rfl, Nat.le_of_ble_eq_true rfl⟩) ⟨by show _ + 0 ≤ _; omega, by show _ + 0 ≤ _; omega, by rw [hro]; show _ ≤ 601024; omega, by rw [hro]; show _ ≤ 7293034; omega⟩ rfl (fun ad h => h.2.2) (fun ad => rfl) (hp_q _ _ _) (Nat.le_of_ble_eq_true rfl) dLW_446 ?_
  refine l_go hF sgLW_449_9df92 451 [(6, .int bb), (5, .int kk), (0, .ref b), (1, .ref q.1), (2, .ref q.2.2), (3, .ref q.2.1), (4, .int (nI (5 * j)))] [.int kk, .int (S' 0 0)] sgLW_449_9df92d rfl ?_
  refine l_icmpeq hF 456 dLW_451 (by decide) (fun _ => ?_) (fun c9 => absurd hth c9)
  refine l_go hF sgLW_456_9df92 458 [(6, .int bb), (5, .int kk), (0, .ref b), (1, .ref q.1), (2, .ref q.2.2), (3, .ref q.2.1), (4, .int (nI (5 * j)))] [.int kk] sgLW_456_9df92d rfl ?_
  have hend : lW C q (hp T' S' o') (71 + 4 * (j + 1)) (18836 + 36 * (j + 1)) 473 [(6, .int bb), (5, .int kk), (0, .ref b), (1, .ref q.1), (2, .ref q.2.2), (3, .ref q.2.1), (4, .int (nI (5 * j)))] [] := by
    refine l_go hF sgLW_473_c9013 2388 [(6, .int bb), (5, .int kk), (0, .ref b), (1, .ref q.1), (2, .ref q.2.2), (3, .ref q.2.1), (4, .int (nI (5 * j)))] [] sgLW_473_c9013d rfl ?_
    refine l_drop [2, 3, 4, 5, 6] [(0, .ref b), (1, .ref q.1), (2, .ref q.2.2), (3, .ref q.2.1), (4, .int (nI (5 * j)))] rfl ?_
    exact kend T' S' o' hP
  refine l_ifne hF 473 dLW_458 (by decide) (fun _ => hend) (fun hk0 => ?_)
  refine l_go hF sgLW_461_1f411 463 [(6, .int bb), (5, .int kk), (0, .ref b), (1, .ref q.1), (2, .ref q.2.2), (3, .ref q.2.1), (4, .int (nI (5 * j)))] [.int 0, .ref q.2.1] sgLW_461_1f411d rfl ?_
  refine l_out hF dLW_463 ?_
  refine l_go hF sgLW_464_abfd4 468 [(6, .int bb), (5, .int kk), (0, .ref b), (1, .ref q.1), (2, .ref q.2.2), (3, .ref q.2.1), (4, .int (nI (5 * j)))] [.int (lg_cmp (o' 0) bb.toInt64)] sgLW_464_abfd4d rfl ?_
  refine l_top 0 (by rw [ho hk0]; exact lg_cmp_s _) ?_
  exact l_ifeq hF 473 dLW_468 (by decide) (fun _ => hend) (fun c9 => absurd rfl c9)
def sgLW_476_1478f : List Instr := [.aload_n 1, .aload_n 0, .iload 4, .iconst 1, .iadd]
theorem sgLW_476_1478fd : am_dec code 476 sgLW_476_1478f = true := by decide +kernel
theorem dLW_482 : decode code 482 = .ok (.iaload, 1) := by decide +kernel
def sgLW_483_1d7ba : List Instr := [.aload_n 0, .iload 4, .iconst 2, .iadd]
theorem sgLW_483_1d7bad : am_dec code 483 sgLW_483_1d7ba = true := by decide +kernel
theorem dLW_488 : decode code 488 = .ok (.iaload, 1) := by decide +kernel
def sgLW_489_67016 : List Instr := [.aload_n 3]
theorem sgLW_489_67016d : am_dec code 489 sgLW_489_67016 = true := by decide +kernel
theorem dLW_490 : decode code 490 = .ok (.invokestatic 148, 3) := by decide +kernel
def sgLW_493_523aa : List Instr := [.istore 5, .aload_n 2, .aload_n 0, .iload 4, .iconst 1, .iadd]
theorem sgLW_493_523aad : am_dec code 493 sgLW_493_523aa = true := by decide +kernel
theorem dLW_501 : decode code 501 = .ok (.iaload, 1) := by decide +kernel
def sgLW_502_1d7ba : List Instr := [.aload_n 0, .iload 4, .iconst 2, .iadd]
theorem sgLW_502_1d7bad : am_dec code 502 sgLW_502_1d7ba = true := by decide +kernel
theorem dLW_507 : decode code 507 = .ok (.iaload, 1) := by decide +kernel
theorem dLW_508 : decode code 508 = .ok (.invokevirtual 150, 3) := by decide +kernel
def sgLW_511_2d201 : List Instr := [.istore 6, .aload_n 2]
theorem sgLW_511_2d201d : am_dec code 511 sgLW_511_2d201 = true := by decide +kernel
theorem dLW_514 : decode code 514 = .ok (.invokevirtual 133, 3) := by decide +kernel
def sgLW_517_9df92 : List Instr := [.iload 5]
theorem sgLW_517_9df92d : am_dec code 517 sgLW_517_9df92 = true := by decide +kernel
theorem dLW_519 : decode code 519 = .ok (.if_icmp .eq 5, 3) := by decide +kernel
def sgLW_524_9df92 : List Instr := [.iload 5]
theorem sgLW_524_9df92d : am_dec code 524 sgLW_524_9df92 = true := by decide +kernel
theorem dLW_526 : decode code 526 = .ok (.ifCond .ne 22, 3) := by decide +kernel
def sgLW_548_f8b40 : List Instr := [.goto 1840]
theorem sgLW_548_f8b40d : am_dec code 548 sgLW_548_f8b40 = true := by decide +kernel
def sgLW_529_1f411 : List Instr := [.aload_n 3, .iconst 0]
theorem sgLW_529_1f411d : am_dec code 529 sgLW_529_1f411 = true := by decide +kernel
theorem dLW_531 : decode code 531 = .ok (.laload, 1) := by decide +kernel
def sgLW_532_4d8be : List Instr := [.iload 6]
theorem sgLW_532_4d8bed : am_dec code 532 sgLW_532_4d8be = true := by decide +kernel
theorem dLW_534 : decode code 534 = .ok (.ifCond .eq 7, 3) := by decide +kernel
theorem dLW_543 : decode code 543 = .ok (.ifCond .eq 5, 3) := by decide +kernel
def sgLW_541_9a2b1 : List Instr := [.lconst 0, .lcmp]
theorem sgLW_541_9a2b1d : am_dec code 541 sgLW_541_9a2b1 = true := by decide +kernel
def sgLW_537_9fa7a : List Instr := [.lconst 1, .goto 4, .lcmp]
theorem sgLW_537_9fa7ad : am_dec code 537 sgLW_537_9fa7a = true := by decide +kernel
set_option maxRecDepth 100000 in
set_option maxHeartbeats 2000000 in
theorem law_nest {C : am_Cx} {q : Nat × Nat × Nat} {w0 : Cond} {b N : Nat} {xs : Nat → Int32} (hF : am_F C code 7 RL (w0 :: am_G)) (hK9 : am_K C.n0 C.dg C.ty C.st) (hro : C.ro = room_1) (hXs : va_X b N xs C.st C.st.heap) (hbl : b < C.st.heap.size) (hbA : ¬ C.n0 ≤ b) (hN : N ≤ 2560) {T S : am_T} {o : Nat → Int64} {P : am_T → am_T → Prop} {j : Nat} (hj : 5 * j + 5 ≤ N) (hop : ∀ x1 x2 : Int32, ∃ (kk bb : Int32) (T' S' : am_T) (o' : Nat → Int64), am_D C.se yL_nest (.codeWith yL_nest cL_nest 5 (some .int) [(0, 17, 20, 13), (0, 17, 24, 21)] :: am_G) am_WR (hp T S o) [.ref 0, .int x1, .int x2, .ref 464] (hp T' S o') (some (.int kk)) ∧ am_D C.se yX6_nest (.code yX6_nest cX6_nest 4 (some .boolean) :: am_G) { frames := 2, cells := 0, slots := 0, locals := 43 } (hp T' S o') [.ref 465, .int x1, .int x2] (hp T' S' o') (some (.int bb)) ∧ S' 0 0 = kk ∧ (kk = 0 → o' 0 = (if bb = 0 then 0 else 1)) ∧ P T' S') (kend : ∀ (T' S' : am_T) (o' : Nat → Int64), P T' S' → lW C q (hp T' S' o') (71 + 4 * (j + 1)) (18836 + 36 * (j + 1)) 2388 [(0, .ref b), (1, .ref q.1), (2, .ref q.2.2), (3, .ref q.2.1), (4, .int (nI (5 * j)))] []) : lW C q (hp T S o) (71 + 4 * j) (18836 + 36 * j) 476 [(0, .ref b), (1, .ref q.1), (2, .ref q.2.2), (3, .ref q.2.1), (4, .int (nI (5 * j)))] [] := by
  refine l_go hF sgLW_476_1478f 482 [(0, .ref b), (1, .ref q.1), (2, .ref q.2.2), (3, .ref q.2.1), (4, .int (nI (5 * j)))] [.int (nI (5 * j) + 1), .ref b, .ref q.1] sgLW_476_1478fd rfl ?_
  refine l_sld hF hXs hbl hbA (5 * j + 1) (am_ad rfl rfl) (by omega) (by omega) dLW_482 ?_
  refine l_go hF sgLW_483_1d7ba 488 [(0, .ref b), (1, .ref q.1), (2, .ref q.2.2), (3, .ref q.2.1), (4, .int (nI (5 * j)))] [.int (nI (5 * j) + 2), .ref b, .int (xs (5 * j + 1)), .ref q.1] sgLW_483_1d7bad rfl ?_
  refine l_sld hF hXs hbl hbA (5 * j + 2) (am_ad rfl rfl) (by omega) (by omega) dLW_488 ?_
  refine l_go hF sgLW_489_67016 490 [(0, .ref b), (1, .ref q.1), (2, .ref q.2.2), (3, .ref q.2.1), (4, .int (nI (5 * j)))] [.ref q.2.1, .int (xs (5 * j + 2)), .int (xs (5 * j + 1)), .ref q.1] sgLW_489_67016d rfl ?_
  obtain ⟨kk, bb, T', S', o', hw, hr, hth, ho, hP⟩ := hop (xs (5 * j + 1)) (xs (5 * j + 2))
  refine l_dS hF hK9 [.ref 0, .int (xs (5 * j + 1)), .int (xs (5 * j + 2)), .ref 464] [.ref q.1, .int (xs (5 * j + 1)), .int (xs (5 * j + 2)), .ref q.2.1] [] hw mwyL_nest swyL_nest lm_RL_148 rfl (71 + 4 * (j + 1)) (18836 + 36 * (j + 1)) (by rw [hro]; exact ⟨Nat.le_of_ble_eq_true rfl, Nat.le_of_ble_eq_true rfl⟩) ⟨by show _ + 4 ≤ _; omega, by show _ + 36 ≤ _; omega, by rw [hro]; show _ ≤ 601024; omega, by rw [hro]; show _ ≤ 7293034; omega⟩ rfl (fun ad h => by simp only [List.map_cons, List.map_nil, am_v, h.1, h.2.1]) (hp_q _ _ _) (Nat.le_of_ble_eq_true rfl) dLW_490 ?_
  refine l_go hF sgLW_493_523aa 501 [(5, .int kk), (0, .ref b), (1, .ref q.1), (2, .ref q.2.2), (3, .ref q.2.1), (4, .int (nI (5 * j)))] [.int (nI (5 * j) + 1), .ref b, .ref q.2.2] sgLW_493_523aad rfl ?_
  refine l_sld hF hXs hbl hbA (5 * j + 1) (am_ad rfl rfl) (by omega) (by omega) dLW_501 ?_
  refine l_go hF sgLW_502_1d7ba 507 [(5, .int kk), (0, .ref b), (1, .ref q.1), (2, .ref q.2.2), (3, .ref q.2.1), (4, .int (nI (5 * j)))] [.int (nI (5 * j) + 2), .ref b, .int (xs (5 * j + 1)), .ref q.2.2] sgLW_502_1d7bad rfl ?_
  refine l_sld hF hXs hbl hbA (5 * j + 2) (am_ad rfl rfl) (by omega) (by omega) dLW_507 ?_
  refine l_dV hF hK9 (b := 465) [.int (xs (5 * j + 1)), .int (xs (5 * j + 2))] [.int (xs (5 * j + 1)), .int (xs (5 * j + 2))] [] hr myX6_nest vyX6_nest lm_RL_150 (hp_m _ _ _) rfl rfl (71 + 4 * (j + 1)) (18836 + 36 * (j + 1)) (by rw [hro]; exact ⟨Nat.le_of_ble_eq_true rfl, Nat.le_of_ble_eq_true rfl⟩) ⟨by show _ + 0 ≤ _; omega, by show _ + 0 ≤ _; omega, by rw [hro]; show _ ≤ 601024; omega, by rw [hro]; show _ ≤ 7293034; omega⟩ rfl (fun ad h => h.2.2) (fun ad => rfl) (hp_q _ _ _) (Nat.le_of_ble_eq_true rfl) dLW_508 ?_
  refine l_go hF sgLW_511_2d201 514 [(6, .int bb), (5, .int kk), (0, .ref b), (1, .ref q.1), (2, .ref q.2.2), (3, .ref q.2.1), (4, .int (nI (5 * j)))] [.ref q.2.2] sgLW_511_2d201d rfl ?_
  refine l_dV hF hK9 (b := 465) [] [] [] (c_r_thrown (T := T') (S := S') (o := o')) myX6_thrown vyX6_thrown lm_RL_133 (hp_m _ _ _) rfl rfl (71 + 4 * (j + 1)) (18836 + 36 * (j + 1)) (by rw [hro]; exact ⟨Nat.le_of_ble_eq_true rfl, Nat.le_of_ble_eq_true rfl⟩) ⟨by show _ + 0 ≤ _; omega, by show _ + 0 ≤ _; omega, by rw [hro]; show _ ≤ 601024; omega, by rw [hro]; show _ ≤ 7293034; omega⟩ rfl (fun ad h => h.2.2) (fun ad => rfl) (hp_q _ _ _) (Nat.le_of_ble_eq_true rfl) dLW_514 ?_
  refine l_go hF sgLW_517_9df92 519 [(6, .int bb), (5, .int kk), (0, .ref b), (1, .ref q.1), (2, .ref q.2.2), (3, .ref q.2.1), (4, .int (nI (5 * j)))] [.int kk, .int (S' 0 0)] sgLW_517_9df92d rfl ?_
  refine l_icmpeq hF 524 dLW_519 (by decide) (fun _ => ?_) (fun c9 => absurd hth c9)
  refine l_go hF sgLW_524_9df92 526 [(6, .int bb), (5, .int kk), (0, .ref b), (1, .ref q.1), (2, .ref q.2.2), (3, .ref q.2.1), (4, .int (nI (5 * j)))] [.int kk] sgLW_524_9df92d rfl ?_
  have hend : lW C q (hp T' S' o') (71 + 4 * (j + 1)) (18836 + 36 * (j + 1)) 548 [(6, .int bb), (5, .int kk), (0, .ref b), (1, .ref q.1), (2, .ref q.2.2), (3, .ref q.2.1), (4, .int (nI (5 * j)))] [] := by
    refine l_go hF sgLW_548_f8b40 2388 [(6, .int bb), (5, .int kk), (0, .ref b), (1, .ref q.1), (2, .ref q.2.2), (3, .ref q.2.1), (4, .int (nI (5 * j)))] [] sgLW_548_f8b40d rfl ?_
    refine l_drop [2, 3, 4, 5, 6] [(0, .ref b), (1, .ref q.1), (2, .ref q.2.2), (3, .ref q.2.1), (4, .int (nI (5 * j)))] rfl ?_
    exact kend T' S' o' hP
  refine l_ifne hF 548 dLW_526 (by decide) (fun _ => hend) (fun hk0 => ?_)
  refine l_go hF sgLW_529_1f411 531 [(6, .int bb), (5, .int kk), (0, .ref b), (1, .ref q.1), (2, .ref q.2.2), (3, .ref q.2.1), (4, .int (nI (5 * j)))] [.int 0, .ref q.2.1] sgLW_529_1f411d rfl ?_
  refine l_out hF dLW_531 ?_
  refine l_go hF sgLW_532_4d8be 534 [(6, .int bb), (5, .int kk), (0, .ref b), (1, .ref q.1), (2, .ref q.2.2), (3, .ref q.2.1), (4, .int (nI (5 * j)))] [.int bb, .long (o' 0)] sgLW_532_4d8bed rfl ?_
  refine l_ifeq hF 541 dLW_534 (by decide) (fun c1 => ?_) (fun c1 => ?_)
  · refine l_go hF sgLW_541_9a2b1 543 [(6, .int bb), (5, .int kk), (0, .ref b), (1, .ref q.1), (2, .ref q.2.2), (3, .ref q.2.1), (4, .int (nI (5 * j)))] [.int (lg_cmp (o' 0) (Int64.ofNat 0))] sgLW_541_9a2b1d rfl ?_
    refine l_top 0 (by rw [ho hk0, if_pos c1]; exact lg_cmp_s _) ?_
    refine l_ifeq hF 548 dLW_543 (by decide) (fun _ => hend) (fun c9 => absurd rfl c9)
  · refine l_go hF sgLW_537_9fa7a 543 [(6, .int bb), (5, .int kk), (0, .ref b), (1, .ref q.1), (2, .ref q.2.2), (3, .ref q.2.1), (4, .int (nI (5 * j)))] [.int (lg_cmp (o' 0) (Int64.ofNat 1))] sgLW_537_9fa7ad rfl ?_
    refine l_top 0 (by rw [ho hk0, if_neg c1]; exact lg_cmp_s _) ?_
    refine l_ifeq hF 548 dLW_543 (by decide) (fun _ => hend) (fun c9 => absurd rfl c9)
def sgLW_551_1478f : List Instr := [.aload_n 1, .aload_n 0, .iload 4, .iconst 1, .iadd]
theorem sgLW_551_1478fd : am_dec code 551 sgLW_551_1478f = true := by decide +kernel
theorem dLW_557 : decode code 557 = .ok (.iaload, 1) := by decide +kernel
def sgLW_558_1d7ba : List Instr := [.aload_n 0, .iload 4, .iconst 2, .iadd]
theorem sgLW_558_1d7bad : am_dec code 558 sgLW_558_1d7ba = true := by decide +kernel
theorem dLW_563 : decode code 563 = .ok (.iaload, 1) := by decide +kernel
def sgLW_564_0eb71 : List Instr := [.aload_n 0, .iload 4, .iconst 3, .iadd]
theorem sgLW_564_0eb71d : am_dec code 564 sgLW_564_0eb71 = true := by decide +kernel
theorem dLW_569 : decode code 569 = .ok (.iaload, 1) := by decide +kernel
def sgLW_570_5bc01 : List Instr := [.aload_n 0, .iload 4, .iconst 4, .iadd]
theorem sgLW_570_5bc01d : am_dec code 570 sgLW_570_5bc01 = true := by decide +kernel
theorem dLW_575 : decode code 575 = .ok (.iaload, 1) := by decide +kernel
theorem dLW_576 : decode code 576 = .ok (.ifCond .eq 7, 3) := by decide +kernel
def sgLW_583_56c54 : List Instr := [.iconst 0]
theorem sgLW_583_56c54d : am_dec code 583 sgLW_583_56c54 = true := by decide +kernel
def sgLW_579_1c64c : List Instr := [.iconst 1, .goto 4]
theorem sgLW_579_1c64cd : am_dec code 579 sgLW_579_1c64c = true := by decide +kernel
def sgLW_584_67016 : List Instr := [.aload_n 3]
theorem sgLW_584_67016d : am_dec code 584 sgLW_584_67016 = true := by decide +kernel
theorem dLW_585 : decode code 585 = .ok (.invokestatic 151, 3) := by decide +kernel
def sgLW_588_523aa : List Instr := [.istore 5, .aload_n 2, .aload_n 0, .iload 4, .iconst 1, .iadd]
theorem sgLW_588_523aad : am_dec code 588 sgLW_588_523aa = true := by decide +kernel
theorem dLW_596 : decode code 596 = .ok (.iaload, 1) := by decide +kernel
def sgLW_597_1d7ba : List Instr := [.aload_n 0, .iload 4, .iconst 2, .iadd]
theorem sgLW_597_1d7bad : am_dec code 597 sgLW_597_1d7ba = true := by decide +kernel
theorem dLW_602 : decode code 602 = .ok (.iaload, 1) := by decide +kernel
def sgLW_603_0eb71 : List Instr := [.aload_n 0, .iload 4, .iconst 3, .iadd]
theorem sgLW_603_0eb71d : am_dec code 603 sgLW_603_0eb71 = true := by decide +kernel
theorem dLW_608 : decode code 608 = .ok (.iaload, 1) := by decide +kernel
def sgLW_609_5bc01 : List Instr := [.aload_n 0, .iload 4, .iconst 4, .iadd]
theorem sgLW_609_5bc01d : am_dec code 609 sgLW_609_5bc01 = true := by decide +kernel
theorem dLW_614 : decode code 614 = .ok (.iaload, 1) := by decide +kernel
theorem dLW_615 : decode code 615 = .ok (.ifCond .eq 7, 3) := by decide +kernel
def sgLW_622_56c54 : List Instr := [.iconst 0]
theorem sgLW_622_56c54d : am_dec code 622 sgLW_622_56c54 = true := by decide +kernel
def sgLW_618_1c64c : List Instr := [.iconst 1, .goto 4]
theorem sgLW_618_1c64cd : am_dec code 618 sgLW_618_1c64c = true := by decide +kernel
theorem dLW_623 : decode code 623 = .ok (.invokevirtual 154, 3) := by decide +kernel
def sgLW_626_2d201 : List Instr := [.istore 6, .aload_n 2]
theorem sgLW_626_2d201d : am_dec code 626 sgLW_626_2d201 = true := by decide +kernel
theorem dLW_629 : decode code 629 = .ok (.invokevirtual 133, 3) := by decide +kernel
def sgLW_632_9df92 : List Instr := [.iload 5]
theorem sgLW_632_9df92d : am_dec code 632 sgLW_632_9df92 = true := by decide +kernel
theorem dLW_634 : decode code 634 = .ok (.if_icmp .eq 5, 3) := by decide +kernel
def sgLW_639_9df92 : List Instr := [.iload 5]
theorem sgLW_639_9df92d : am_dec code 639 sgLW_639_9df92 = true := by decide +kernel
theorem dLW_641 : decode code 641 = .ok (.ifCond .ne 15, 3) := by decide +kernel
def sgLW_656_a1d8a : List Instr := [.goto 1732]
theorem sgLW_656_a1d8ad : am_dec code 656 sgLW_656_a1d8a = true := by decide +kernel
def sgLW_644_1f411 : List Instr := [.aload_n 3, .iconst 0]
theorem sgLW_644_1f411d : am_dec code 644 sgLW_644_1f411 = true := by decide +kernel
theorem dLW_646 : decode code 646 = .ok (.laload, 1) := by decide +kernel
def sgLW_647_abfd4 : List Instr := [.iload 6, .i2l, .lcmp]
theorem sgLW_647_abfd4d : am_dec code 647 sgLW_647_abfd4 = true := by decide +kernel
theorem dLW_651 : decode code 651 = .ok (.ifCond .eq 5, 3) := by decide +kernel
set_option maxRecDepth 100000 in
set_option maxHeartbeats 2000000 in
theorem law_rules {C : am_Cx} {q : Nat × Nat × Nat} {w0 : Cond} {b N : Nat} {xs : Nat → Int32} (hF : am_F C code 7 RL (w0 :: am_G)) (hK9 : am_K C.n0 C.dg C.ty C.st) (hro : C.ro = room_1) (hXs : va_X b N xs C.st C.st.heap) (hbl : b < C.st.heap.size) (hbA : ¬ C.n0 ≤ b) (hN : N ≤ 2560) {T S : am_T} {o : Nat → Int64} {P : am_T → am_T → Prop} {j : Nat} (hj : 5 * j + 5 ≤ N) (hop : ∀ x1 x2 x3 x4 : Int32, (x4 = 0 ∨ x4 = 1) → ∃ (kk bb : Int32) (T' S' : am_T) (o' : Nat → Int64), am_D C.se yL_rules (.codeWith yL_rules cL_rules 7 (some .int) [(0, 14, 17, 13), (0, 14, 21, 21)] :: am_G) am_WR (hp T S o) [.ref 0, .int x1, .int x2, .int x3, .int x4, .ref 464] (hp T' S o') (some (.int kk)) ∧ am_D C.se yX6_rules (.code yX6_rules cX6_rules 6 (some .int) :: am_G) { frames := 2, cells := 0, slots := 0, locals := 43 } (hp T' S o') [.ref 465, .int x1, .int x2, .int x3, .int x4] (hp T' S' o') (some (.int bb)) ∧ S' 0 0 = kk ∧ (kk = 0 → o' 0 = bb.toInt64) ∧ P T' S') (kend : ∀ (T' S' : am_T) (o' : Nat → Int64), P T' S' → lW C q (hp T' S' o') (71 + 4 * (j + 1)) (18836 + 36 * (j + 1)) 2388 [(0, .ref b), (1, .ref q.1), (2, .ref q.2.2), (3, .ref q.2.1), (4, .int (nI (5 * j)))] []) : lW C q (hp T S o) (71 + 4 * j) (18836 + 36 * j) 551 [(0, .ref b), (1, .ref q.1), (2, .ref q.2.2), (3, .ref q.2.1), (4, .int (nI (5 * j)))] [] := by
  refine l_go hF sgLW_551_1478f 557 [(0, .ref b), (1, .ref q.1), (2, .ref q.2.2), (3, .ref q.2.1), (4, .int (nI (5 * j)))] [.int (nI (5 * j) + 1), .ref b, .ref q.1] sgLW_551_1478fd rfl ?_
  refine l_sld hF hXs hbl hbA (5 * j + 1) (am_ad rfl rfl) (by omega) (by omega) dLW_557 ?_
  refine l_go hF sgLW_558_1d7ba 563 [(0, .ref b), (1, .ref q.1), (2, .ref q.2.2), (3, .ref q.2.1), (4, .int (nI (5 * j)))] [.int (nI (5 * j) + 2), .ref b, .int (xs (5 * j + 1)), .ref q.1] sgLW_558_1d7bad rfl ?_
  refine l_sld hF hXs hbl hbA (5 * j + 2) (am_ad rfl rfl) (by omega) (by omega) dLW_563 ?_
  refine l_go hF sgLW_564_0eb71 569 [(0, .ref b), (1, .ref q.1), (2, .ref q.2.2), (3, .ref q.2.1), (4, .int (nI (5 * j)))] [.int (nI (5 * j) + 3), .ref b, .int (xs (5 * j + 2)), .int (xs (5 * j + 1)), .ref q.1] sgLW_564_0eb71d rfl ?_
  refine l_sld hF hXs hbl hbA (5 * j + 3) (am_ad rfl rfl) (by omega) (by omega) dLW_569 ?_
  refine l_go hF sgLW_570_5bc01 575 [(0, .ref b), (1, .ref q.1), (2, .ref q.2.2), (3, .ref q.2.1), (4, .int (nI (5 * j)))] [.int (nI (5 * j) + 4), .ref b, .int (xs (5 * j + 3)), .int (xs (5 * j + 2)), .int (xs (5 * j + 1)), .ref q.1] sgLW_570_5bc01d rfl ?_
  refine l_sld hF hXs hbl hbA (5 * j + 4) (am_ad rfl rfl) (by omega) (by omega) dLW_575 ?_
  have hj584 : lW C q (hp T S o) (71 + 4 * j) (18836 + 36 * j) 584 [(0, .ref b), (1, .ref q.1), (2, .ref q.2.2), (3, .ref q.2.1), (4, .int (nI (5 * j)))] [.int (bz (xs (5 * j + 4))), .int (xs (5 * j + 3)), .int (xs (5 * j + 2)), .int (xs (5 * j + 1)), .ref q.1] := by
    refine l_go hF sgLW_584_67016 585 [(0, .ref b), (1, .ref q.1), (2, .ref q.2.2), (3, .ref q.2.1), (4, .int (nI (5 * j)))] [.ref q.2.1, .int (bz (xs (5 * j + 4))), .int (xs (5 * j + 3)), .int (xs (5 * j + 2)), .int (xs (5 * j + 1)), .ref q.1] sgLW_584_67016d rfl ?_
    obtain ⟨kk, bb, T', S', o', hw, hr, hth, ho, hP⟩ := hop (xs (5 * j + 1)) (xs (5 * j + 2)) (xs (5 * j + 3)) (bz (xs (5 * j + 4))) (bz_01 _)
    refine l_dS hF hK9 [.ref 0, .int (xs (5 * j + 1)), .int (xs (5 * j + 2)), .int (xs (5 * j + 3)), .int (bz (xs (5 * j + 4))), .ref 464] [.ref q.1, .int (xs (5 * j + 1)), .int (xs (5 * j + 2)), .int (xs (5 * j + 3)), .int (bz (xs (5 * j + 4))), .ref q.2.1] [] hw mwyL_rules swyL_rules lm_RL_151 rfl (71 + 4 * (j + 1)) (18836 + 36 * (j + 1)) (by rw [hro]; exact ⟨Nat.le_of_ble_eq_true rfl, Nat.le_of_ble_eq_true rfl⟩) ⟨by show _ + 4 ≤ _; omega, by show _ + 36 ≤ _; omega, by rw [hro]; show _ ≤ 601024; omega, by rw [hro]; show _ ≤ 7293034; omega⟩ rfl (fun ad h => by simp only [List.map_cons, List.map_nil, am_v, h.1, h.2.1]) (hp_q _ _ _) (Nat.le_of_ble_eq_true rfl) dLW_585 ?_
    refine l_go hF sgLW_588_523aa 596 [(5, .int kk), (0, .ref b), (1, .ref q.1), (2, .ref q.2.2), (3, .ref q.2.1), (4, .int (nI (5 * j)))] [.int (nI (5 * j) + 1), .ref b, .ref q.2.2] sgLW_588_523aad rfl ?_
    refine l_sld hF hXs hbl hbA (5 * j + 1) (am_ad rfl rfl) (by omega) (by omega) dLW_596 ?_
    refine l_go hF sgLW_597_1d7ba 602 [(5, .int kk), (0, .ref b), (1, .ref q.1), (2, .ref q.2.2), (3, .ref q.2.1), (4, .int (nI (5 * j)))] [.int (nI (5 * j) + 2), .ref b, .int (xs (5 * j + 1)), .ref q.2.2] sgLW_597_1d7bad rfl ?_
    refine l_sld hF hXs hbl hbA (5 * j + 2) (am_ad rfl rfl) (by omega) (by omega) dLW_602 ?_
    refine l_go hF sgLW_603_0eb71 608 [(5, .int kk), (0, .ref b), (1, .ref q.1), (2, .ref q.2.2), (3, .ref q.2.1), (4, .int (nI (5 * j)))] [.int (nI (5 * j) + 3), .ref b, .int (xs (5 * j + 2)), .int (xs (5 * j + 1)), .ref q.2.2] sgLW_603_0eb71d rfl ?_
    refine l_sld hF hXs hbl hbA (5 * j + 3) (am_ad rfl rfl) (by omega) (by omega) dLW_608 ?_
    refine l_go hF sgLW_609_5bc01 614 [(5, .int kk), (0, .ref b), (1, .ref q.1), (2, .ref q.2.2), (3, .ref q.2.1), (4, .int (nI (5 * j)))] [.int (nI (5 * j) + 4), .ref b, .int (xs (5 * j + 3)), .int (xs (5 * j + 2)), .int (xs (5 * j + 1)), .ref q.2.2] sgLW_609_5bc01d rfl ?_
    refine l_sld hF hXs hbl hbA (5 * j + 4) (am_ad rfl rfl) (by omega) (by omega) dLW_614 ?_
    have hj623 : lW C q (hp T' S o') (71 + 4 * (j + 1)) (18836 + 36 * (j + 1)) 623 [(5, .int kk), (0, .ref b), (1, .ref q.1), (2, .ref q.2.2), (3, .ref q.2.1), (4, .int (nI (5 * j)))] [.int (bz (xs (5 * j + 4))), .int (xs (5 * j + 3)), .int (xs (5 * j + 2)), .int (xs (5 * j + 1)), .ref q.2.2] := by
      refine l_dV hF hK9 (b := 465) [.int (xs (5 * j + 1)), .int (xs (5 * j + 2)), .int (xs (5 * j + 3)), .int (bz (xs (5 * j + 4)))] [.int (xs (5 * j + 1)), .int (xs (5 * j + 2)), .int (xs (5 * j + 3)), .int (bz (xs (5 * j + 4)))] [] hr myX6_rules vyX6_rules lm_RL_154 (hp_m _ _ _) rfl rfl (71 + 4 * (j + 1)) (18836 + 36 * (j + 1)) (by rw [hro]; exact ⟨Nat.le_of_ble_eq_true rfl, Nat.le_of_ble_eq_true rfl⟩) ⟨by show _ + 0 ≤ _; omega, by show _ + 0 ≤ _; omega, by rw [hro]; show _ ≤ 601024; omega, by rw [hro]; show _ ≤ 7293034; omega⟩ rfl (fun ad h => h.2.2) (fun ad => rfl) (hp_q _ _ _) (Nat.le_of_ble_eq_true rfl) dLW_623 ?_
      refine l_go hF sgLW_626_2d201 629 [(6, .int bb), (5, .int kk), (0, .ref b), (1, .ref q.1), (2, .ref q.2.2), (3, .ref q.2.1), (4, .int (nI (5 * j)))] [.ref q.2.2] sgLW_626_2d201d rfl ?_
      refine l_dV hF hK9 (b := 465) [] [] [] (c_r_thrown (T := T') (S := S') (o := o')) myX6_thrown vyX6_thrown lm_RL_133 (hp_m _ _ _) rfl rfl (71 + 4 * (j + 1)) (18836 + 36 * (j + 1)) (by rw [hro]; exact ⟨Nat.le_of_ble_eq_true rfl, Nat.le_of_ble_eq_true rfl⟩) ⟨by show _ + 0 ≤ _; omega, by show _ + 0 ≤ _; omega, by rw [hro]; show _ ≤ 601024; omega, by rw [hro]; show _ ≤ 7293034; omega⟩ rfl (fun ad h => h.2.2) (fun ad => rfl) (hp_q _ _ _) (Nat.le_of_ble_eq_true rfl) dLW_629 ?_
      refine l_go hF sgLW_632_9df92 634 [(6, .int bb), (5, .int kk), (0, .ref b), (1, .ref q.1), (2, .ref q.2.2), (3, .ref q.2.1), (4, .int (nI (5 * j)))] [.int kk, .int (S' 0 0)] sgLW_632_9df92d rfl ?_
      refine l_icmpeq hF 639 dLW_634 (by decide) (fun _ => ?_) (fun c9 => absurd hth c9)
      refine l_go hF sgLW_639_9df92 641 [(6, .int bb), (5, .int kk), (0, .ref b), (1, .ref q.1), (2, .ref q.2.2), (3, .ref q.2.1), (4, .int (nI (5 * j)))] [.int kk] sgLW_639_9df92d rfl ?_
      have hend : lW C q (hp T' S' o') (71 + 4 * (j + 1)) (18836 + 36 * (j + 1)) 656 [(6, .int bb), (5, .int kk), (0, .ref b), (1, .ref q.1), (2, .ref q.2.2), (3, .ref q.2.1), (4, .int (nI (5 * j)))] [] := by
        refine l_go hF sgLW_656_a1d8a 2388 [(6, .int bb), (5, .int kk), (0, .ref b), (1, .ref q.1), (2, .ref q.2.2), (3, .ref q.2.1), (4, .int (nI (5 * j)))] [] sgLW_656_a1d8ad rfl ?_
        refine l_drop [2, 3, 4, 5, 6] [(0, .ref b), (1, .ref q.1), (2, .ref q.2.2), (3, .ref q.2.1), (4, .int (nI (5 * j)))] rfl ?_
        exact kend T' S' o' hP
      refine l_ifne hF 656 dLW_641 (by decide) (fun _ => hend) (fun hk0 => ?_)
      refine l_go hF sgLW_644_1f411 646 [(6, .int bb), (5, .int kk), (0, .ref b), (1, .ref q.1), (2, .ref q.2.2), (3, .ref q.2.1), (4, .int (nI (5 * j)))] [.int 0, .ref q.2.1] sgLW_644_1f411d rfl ?_
      refine l_out hF dLW_646 ?_
      refine l_go hF sgLW_647_abfd4 651 [(6, .int bb), (5, .int kk), (0, .ref b), (1, .ref q.1), (2, .ref q.2.2), (3, .ref q.2.1), (4, .int (nI (5 * j)))] [.int (lg_cmp (o' 0) bb.toInt64)] sgLW_647_abfd4d rfl ?_
      refine l_top 0 (by rw [ho hk0]; exact lg_cmp_s _) ?_
      exact l_ifeq hF 656 dLW_651 (by decide) (fun _ => hend) (fun c9 => absurd rfl c9)
    refine l_ifeq hF 622 dLW_615 (by decide) (fun c1 => ?_) (fun c1 => ?_)
    · refine l_go hF sgLW_622_56c54 623 [(5, .int kk), (0, .ref b), (1, .ref q.1), (2, .ref q.2.2), (3, .ref q.2.1), (4, .int (nI (5 * j)))] [.int 0, .int (xs (5 * j + 3)), .int (xs (5 * j + 2)), .int (xs (5 * j + 1)), .ref q.2.2] sgLW_622_56c54d rfl ?_
      refine l_top (bz (xs (5 * j + 4))) (by unfold bz; rw [if_pos c1]) ?_
      exact hj623
    · refine l_go hF sgLW_618_1c64c 623 [(5, .int kk), (0, .ref b), (1, .ref q.1), (2, .ref q.2.2), (3, .ref q.2.1), (4, .int (nI (5 * j)))] [.int 1, .int (xs (5 * j + 3)), .int (xs (5 * j + 2)), .int (xs (5 * j + 1)), .ref q.2.2] sgLW_618_1c64cd rfl ?_
      refine l_top (bz (xs (5 * j + 4))) (by unfold bz; rw [if_neg c1]) ?_
      exact hj623
  refine l_ifeq hF 583 dLW_576 (by decide) (fun c1 => ?_) (fun c1 => ?_)
  · refine l_go hF sgLW_583_56c54 584 [(0, .ref b), (1, .ref q.1), (2, .ref q.2.2), (3, .ref q.2.1), (4, .int (nI (5 * j)))] [.int 0, .int (xs (5 * j + 3)), .int (xs (5 * j + 2)), .int (xs (5 * j + 1)), .ref q.1] sgLW_583_56c54d rfl ?_
    refine l_top (bz (xs (5 * j + 4))) (by unfold bz; rw [if_pos c1]) ?_
    exact hj584
  · refine l_go hF sgLW_579_1c64c 584 [(0, .ref b), (1, .ref q.1), (2, .ref q.2.2), (3, .ref q.2.1), (4, .int (nI (5 * j)))] [.int 1, .int (xs (5 * j + 3)), .int (xs (5 * j + 2)), .int (xs (5 * j + 1)), .ref q.1] sgLW_579_1c64cd rfl ?_
    refine l_top (bz (xs (5 * j + 4))) (by unfold bz; rw [if_neg c1]) ?_
    exact hj584
def sgLW_659_1478f : List Instr := [.aload_n 1, .aload_n 0, .iload 4, .iconst 1, .iadd]
theorem sgLW_659_1478fd : am_dec code 659 sgLW_659_1478f = true := by decide +kernel
theorem dLW_665 : decode code 665 = .ok (.iaload, 1) := by decide +kernel
def sgLW_666_1d7ba : List Instr := [.aload_n 0, .iload 4, .iconst 2, .iadd]
theorem sgLW_666_1d7bad : am_dec code 666 sgLW_666_1d7ba = true := by decide +kernel
theorem dLW_671 : decode code 671 = .ok (.iaload, 1) := by decide +kernel
def sgLW_672_67016 : List Instr := [.aload_n 3]
theorem sgLW_672_67016d : am_dec code 672 sgLW_672_67016 = true := by decide +kernel
theorem dLW_673 : decode code 673 = .ok (.invokestatic 155, 3) := by decide +kernel
def sgLW_676_523aa : List Instr := [.istore 5, .aload_n 2, .aload_n 0, .iload 4, .iconst 1, .iadd]
theorem sgLW_676_523aad : am_dec code 676 sgLW_676_523aa = true := by decide +kernel
theorem dLW_684 : decode code 684 = .ok (.iaload, 1) := by decide +kernel
def sgLW_685_1d7ba : List Instr := [.aload_n 0, .iload 4, .iconst 2, .iadd]
theorem sgLW_685_1d7bad : am_dec code 685 sgLW_685_1d7ba = true := by decide +kernel
theorem dLW_690 : decode code 690 = .ok (.iaload, 1) := by decide +kernel
theorem dLW_691 : decode code 691 = .ok (.invokevirtual 157, 3) := by decide +kernel
def sgLW_694_2d201 : List Instr := [.istore 6, .aload_n 2]
theorem sgLW_694_2d201d : am_dec code 694 sgLW_694_2d201 = true := by decide +kernel
theorem dLW_697 : decode code 697 = .ok (.invokevirtual 133, 3) := by decide +kernel
def sgLW_700_9df92 : List Instr := [.iload 5]
theorem sgLW_700_9df92d : am_dec code 700 sgLW_700_9df92 = true := by decide +kernel
theorem dLW_702 : decode code 702 = .ok (.if_icmp .eq 5, 3) := by decide +kernel
def sgLW_707_9df92 : List Instr := [.iload 5]
theorem sgLW_707_9df92d : am_dec code 707 sgLW_707_9df92 = true := by decide +kernel
theorem dLW_709 : decode code 709 = .ok (.ifCond .ne 22, 3) := by decide +kernel
def sgLW_731_9f27a : List Instr := [.goto 1657]
theorem sgLW_731_9f27ad : am_dec code 731 sgLW_731_9f27a = true := by decide +kernel
def sgLW_712_1f411 : List Instr := [.aload_n 3, .iconst 0]
theorem sgLW_712_1f411d : am_dec code 712 sgLW_712_1f411 = true := by decide +kernel
theorem dLW_714 : decode code 714 = .ok (.laload, 1) := by decide +kernel
def sgLW_715_4d8be : List Instr := [.iload 6]
theorem sgLW_715_4d8bed : am_dec code 715 sgLW_715_4d8be = true := by decide +kernel
theorem dLW_717 : decode code 717 = .ok (.ifCond .eq 7, 3) := by decide +kernel
theorem dLW_726 : decode code 726 = .ok (.ifCond .eq 5, 3) := by decide +kernel
def sgLW_724_9a2b1 : List Instr := [.lconst 0, .lcmp]
theorem sgLW_724_9a2b1d : am_dec code 724 sgLW_724_9a2b1 = true := by decide +kernel
def sgLW_720_9fa7a : List Instr := [.lconst 1, .goto 4, .lcmp]
theorem sgLW_720_9fa7ad : am_dec code 720 sgLW_720_9fa7a = true := by decide +kernel
set_option maxRecDepth 100000 in
set_option maxHeartbeats 2000000 in
theorem law_bar {C : am_Cx} {q : Nat × Nat × Nat} {w0 : Cond} {b N : Nat} {xs : Nat → Int32} (hF : am_F C code 7 RL (w0 :: am_G)) (hK9 : am_K C.n0 C.dg C.ty C.st) (hro : C.ro = room_1) (hXs : va_X b N xs C.st C.st.heap) (hbl : b < C.st.heap.size) (hbA : ¬ C.n0 ≤ b) (hN : N ≤ 2560) {T S : am_T} {o : Nat → Int64} {P : am_T → am_T → Prop} {j : Nat} (hj : 5 * j + 5 ≤ N) (hop : ∀ x1 x2 : Int32, ∃ (kk bb : Int32) (T' S' : am_T) (o' : Nat → Int64), am_D C.se yL_bar (.codeWith yL_bar cL_bar 5 (some .int) [(0, 17, 20, 13)] :: am_G) am_WR (hp T S o) [.ref 0, .int x1, .int x2, .ref 464] (hp T' S o') (some (.int kk)) ∧ am_D C.se yX6_bar (.code yX6_bar cX6_bar 3 (some .boolean) :: am_G) { frames := 2, cells := 0, slots := 0, locals := 43 } (hp T' S o') [.ref 465, .int x1, .int x2] (hp T' S' o') (some (.int bb)) ∧ S' 0 0 = kk ∧ (kk = 0 → o' 0 = (if bb = 0 then 0 else 1)) ∧ P T' S') (kend : ∀ (T' S' : am_T) (o' : Nat → Int64), P T' S' → lW C q (hp T' S' o') (71 + 4 * (j + 1)) (18836 + 36 * (j + 1)) 2388 [(0, .ref b), (1, .ref q.1), (2, .ref q.2.2), (3, .ref q.2.1), (4, .int (nI (5 * j)))] []) : lW C q (hp T S o) (71 + 4 * j) (18836 + 36 * j) 659 [(0, .ref b), (1, .ref q.1), (2, .ref q.2.2), (3, .ref q.2.1), (4, .int (nI (5 * j)))] [] := by
  refine l_go hF sgLW_659_1478f 665 [(0, .ref b), (1, .ref q.1), (2, .ref q.2.2), (3, .ref q.2.1), (4, .int (nI (5 * j)))] [.int (nI (5 * j) + 1), .ref b, .ref q.1] sgLW_659_1478fd rfl ?_
  refine l_sld hF hXs hbl hbA (5 * j + 1) (am_ad rfl rfl) (by omega) (by omega) dLW_665 ?_
  refine l_go hF sgLW_666_1d7ba 671 [(0, .ref b), (1, .ref q.1), (2, .ref q.2.2), (3, .ref q.2.1), (4, .int (nI (5 * j)))] [.int (nI (5 * j) + 2), .ref b, .int (xs (5 * j + 1)), .ref q.1] sgLW_666_1d7bad rfl ?_
  refine l_sld hF hXs hbl hbA (5 * j + 2) (am_ad rfl rfl) (by omega) (by omega) dLW_671 ?_
  refine l_go hF sgLW_672_67016 673 [(0, .ref b), (1, .ref q.1), (2, .ref q.2.2), (3, .ref q.2.1), (4, .int (nI (5 * j)))] [.ref q.2.1, .int (xs (5 * j + 2)), .int (xs (5 * j + 1)), .ref q.1] sgLW_672_67016d rfl ?_
  obtain ⟨kk, bb, T', S', o', hw, hr, hth, ho, hP⟩ := hop (xs (5 * j + 1)) (xs (5 * j + 2))
  refine l_dS hF hK9 [.ref 0, .int (xs (5 * j + 1)), .int (xs (5 * j + 2)), .ref 464] [.ref q.1, .int (xs (5 * j + 1)), .int (xs (5 * j + 2)), .ref q.2.1] [] hw mwyL_bar swyL_bar lm_RL_155 rfl (71 + 4 * (j + 1)) (18836 + 36 * (j + 1)) (by rw [hro]; exact ⟨Nat.le_of_ble_eq_true rfl, Nat.le_of_ble_eq_true rfl⟩) ⟨by show _ + 4 ≤ _; omega, by show _ + 36 ≤ _; omega, by rw [hro]; show _ ≤ 601024; omega, by rw [hro]; show _ ≤ 7293034; omega⟩ rfl (fun ad h => by simp only [List.map_cons, List.map_nil, am_v, h.1, h.2.1]) (hp_q _ _ _) (Nat.le_of_ble_eq_true rfl) dLW_673 ?_
  refine l_go hF sgLW_676_523aa 684 [(5, .int kk), (0, .ref b), (1, .ref q.1), (2, .ref q.2.2), (3, .ref q.2.1), (4, .int (nI (5 * j)))] [.int (nI (5 * j) + 1), .ref b, .ref q.2.2] sgLW_676_523aad rfl ?_
  refine l_sld hF hXs hbl hbA (5 * j + 1) (am_ad rfl rfl) (by omega) (by omega) dLW_684 ?_
  refine l_go hF sgLW_685_1d7ba 690 [(5, .int kk), (0, .ref b), (1, .ref q.1), (2, .ref q.2.2), (3, .ref q.2.1), (4, .int (nI (5 * j)))] [.int (nI (5 * j) + 2), .ref b, .int (xs (5 * j + 1)), .ref q.2.2] sgLW_685_1d7bad rfl ?_
  refine l_sld hF hXs hbl hbA (5 * j + 2) (am_ad rfl rfl) (by omega) (by omega) dLW_690 ?_
  refine l_dV hF hK9 (b := 465) [.int (xs (5 * j + 1)), .int (xs (5 * j + 2))] [.int (xs (5 * j + 1)), .int (xs (5 * j + 2))] [] hr myX6_bar vyX6_bar lm_RL_157 (hp_m _ _ _) rfl rfl (71 + 4 * (j + 1)) (18836 + 36 * (j + 1)) (by rw [hro]; exact ⟨Nat.le_of_ble_eq_true rfl, Nat.le_of_ble_eq_true rfl⟩) ⟨by show _ + 0 ≤ _; omega, by show _ + 0 ≤ _; omega, by rw [hro]; show _ ≤ 601024; omega, by rw [hro]; show _ ≤ 7293034; omega⟩ rfl (fun ad h => h.2.2) (fun ad => rfl) (hp_q _ _ _) (Nat.le_of_ble_eq_true rfl) dLW_691 ?_
  refine l_go hF sgLW_694_2d201 697 [(6, .int bb), (5, .int kk), (0, .ref b), (1, .ref q.1), (2, .ref q.2.2), (3, .ref q.2.1), (4, .int (nI (5 * j)))] [.ref q.2.2] sgLW_694_2d201d rfl ?_
  refine l_dV hF hK9 (b := 465) [] [] [] (c_r_thrown (T := T') (S := S') (o := o')) myX6_thrown vyX6_thrown lm_RL_133 (hp_m _ _ _) rfl rfl (71 + 4 * (j + 1)) (18836 + 36 * (j + 1)) (by rw [hro]; exact ⟨Nat.le_of_ble_eq_true rfl, Nat.le_of_ble_eq_true rfl⟩) ⟨by show _ + 0 ≤ _; omega, by show _ + 0 ≤ _; omega, by rw [hro]; show _ ≤ 601024; omega, by rw [hro]; show _ ≤ 7293034; omega⟩ rfl (fun ad h => h.2.2) (fun ad => rfl) (hp_q _ _ _) (Nat.le_of_ble_eq_true rfl) dLW_697 ?_
  refine l_go hF sgLW_700_9df92 702 [(6, .int bb), (5, .int kk), (0, .ref b), (1, .ref q.1), (2, .ref q.2.2), (3, .ref q.2.1), (4, .int (nI (5 * j)))] [.int kk, .int (S' 0 0)] sgLW_700_9df92d rfl ?_
  refine l_icmpeq hF 707 dLW_702 (by decide) (fun _ => ?_) (fun c9 => absurd hth c9)
  refine l_go hF sgLW_707_9df92 709 [(6, .int bb), (5, .int kk), (0, .ref b), (1, .ref q.1), (2, .ref q.2.2), (3, .ref q.2.1), (4, .int (nI (5 * j)))] [.int kk] sgLW_707_9df92d rfl ?_
  have hend : lW C q (hp T' S' o') (71 + 4 * (j + 1)) (18836 + 36 * (j + 1)) 731 [(6, .int bb), (5, .int kk), (0, .ref b), (1, .ref q.1), (2, .ref q.2.2), (3, .ref q.2.1), (4, .int (nI (5 * j)))] [] := by
    refine l_go hF sgLW_731_9f27a 2388 [(6, .int bb), (5, .int kk), (0, .ref b), (1, .ref q.1), (2, .ref q.2.2), (3, .ref q.2.1), (4, .int (nI (5 * j)))] [] sgLW_731_9f27ad rfl ?_
    refine l_drop [2, 3, 4, 5, 6] [(0, .ref b), (1, .ref q.1), (2, .ref q.2.2), (3, .ref q.2.1), (4, .int (nI (5 * j)))] rfl ?_
    exact kend T' S' o' hP
  refine l_ifne hF 731 dLW_709 (by decide) (fun _ => hend) (fun hk0 => ?_)
  refine l_go hF sgLW_712_1f411 714 [(6, .int bb), (5, .int kk), (0, .ref b), (1, .ref q.1), (2, .ref q.2.2), (3, .ref q.2.1), (4, .int (nI (5 * j)))] [.int 0, .ref q.2.1] sgLW_712_1f411d rfl ?_
  refine l_out hF dLW_714 ?_
  refine l_go hF sgLW_715_4d8be 717 [(6, .int bb), (5, .int kk), (0, .ref b), (1, .ref q.1), (2, .ref q.2.2), (3, .ref q.2.1), (4, .int (nI (5 * j)))] [.int bb, .long (o' 0)] sgLW_715_4d8bed rfl ?_
  refine l_ifeq hF 724 dLW_717 (by decide) (fun c1 => ?_) (fun c1 => ?_)
  · refine l_go hF sgLW_724_9a2b1 726 [(6, .int bb), (5, .int kk), (0, .ref b), (1, .ref q.1), (2, .ref q.2.2), (3, .ref q.2.1), (4, .int (nI (5 * j)))] [.int (lg_cmp (o' 0) (Int64.ofNat 0))] sgLW_724_9a2b1d rfl ?_
    refine l_top 0 (by rw [ho hk0, if_pos c1]; exact lg_cmp_s _) ?_
    refine l_ifeq hF 731 dLW_726 (by decide) (fun _ => hend) (fun c9 => absurd rfl c9)
  · refine l_go hF sgLW_720_9fa7a 726 [(6, .int bb), (5, .int kk), (0, .ref b), (1, .ref q.1), (2, .ref q.2.2), (3, .ref q.2.1), (4, .int (nI (5 * j)))] [.int (lg_cmp (o' 0) (Int64.ofNat 1))] sgLW_720_9fa7ad rfl ?_
    refine l_top 0 (by rw [ho hk0, if_neg c1]; exact lg_cmp_s _) ?_
    refine l_ifeq hF 731 dLW_726 (by decide) (fun _ => hend) (fun c9 => absurd rfl c9)
def sgLW_734_1478f : List Instr := [.aload_n 1, .aload_n 0, .iload 4, .iconst 1, .iadd]
theorem sgLW_734_1478fd : am_dec code 734 sgLW_734_1478f = true := by decide +kernel
theorem dLW_740 : decode code 740 = .ok (.iaload, 1) := by decide +kernel
def sgLW_741_1d7ba : List Instr := [.aload_n 0, .iload 4, .iconst 2, .iadd]
theorem sgLW_741_1d7bad : am_dec code 741 sgLW_741_1d7ba = true := by decide +kernel
theorem dLW_746 : decode code 746 = .ok (.iaload, 1) := by decide +kernel
def sgLW_747_67016 : List Instr := [.aload_n 3]
theorem sgLW_747_67016d : am_dec code 747 sgLW_747_67016 = true := by decide +kernel
theorem dLW_748 : decode code 748 = .ok (.invokestatic 158, 3) := by decide +kernel
def sgLW_751_523aa : List Instr := [.istore 5, .aload_n 2, .aload_n 0, .iload 4, .iconst 1, .iadd]
theorem sgLW_751_523aad : am_dec code 751 sgLW_751_523aa = true := by decide +kernel
theorem dLW_759 : decode code 759 = .ok (.iaload, 1) := by decide +kernel
def sgLW_760_1d7ba : List Instr := [.aload_n 0, .iload 4, .iconst 2, .iadd]
theorem sgLW_760_1d7bad : am_dec code 760 sgLW_760_1d7ba = true := by decide +kernel
theorem dLW_765 : decode code 765 = .ok (.iaload, 1) := by decide +kernel
theorem dLW_766 : decode code 766 = .ok (.invokevirtual 160, 3) := by decide +kernel
def sgLW_769_2d201 : List Instr := [.istore 6, .aload_n 2]
theorem sgLW_769_2d201d : am_dec code 769 sgLW_769_2d201 = true := by decide +kernel
theorem dLW_772 : decode code 772 = .ok (.invokevirtual 133, 3) := by decide +kernel
def sgLW_775_9df92 : List Instr := [.iload 5]
theorem sgLW_775_9df92d : am_dec code 775 sgLW_775_9df92 = true := by decide +kernel
theorem dLW_777 : decode code 777 = .ok (.if_icmp .eq 5, 3) := by decide +kernel
def sgLW_782_9df92 : List Instr := [.iload 5]
theorem sgLW_782_9df92d : am_dec code 782 sgLW_782_9df92 = true := by decide +kernel
theorem dLW_784 : decode code 784 = .ok (.ifCond .ne 15, 3) := by decide +kernel
def sgLW_799_efe3f : List Instr := [.goto 1589]
theorem sgLW_799_efe3fd : am_dec code 799 sgLW_799_efe3f = true := by decide +kernel
def sgLW_787_1f411 : List Instr := [.aload_n 3, .iconst 0]
theorem sgLW_787_1f411d : am_dec code 787 sgLW_787_1f411 = true := by decide +kernel
theorem dLW_789 : decode code 789 = .ok (.laload, 1) := by decide +kernel
def sgLW_790_abfd4 : List Instr := [.iload 6, .i2l, .lcmp]
theorem sgLW_790_abfd4d : am_dec code 790 sgLW_790_abfd4 = true := by decide +kernel
theorem dLW_794 : decode code 794 = .ok (.ifCond .eq 5, 3) := by decide +kernel
set_option maxRecDepth 100000 in
set_option maxHeartbeats 2000000 in
theorem law_word {C : am_Cx} {q : Nat × Nat × Nat} {w0 : Cond} {b N : Nat} {xs : Nat → Int32} (hF : am_F C code 7 RL (w0 :: am_G)) (hK9 : am_K C.n0 C.dg C.ty C.st) (hro : C.ro = room_1) (hXs : va_X b N xs C.st C.st.heap) (hbl : b < C.st.heap.size) (hbA : ¬ C.n0 ≤ b) (hN : N ≤ 2560) {T S : am_T} {o : Nat → Int64} {P : am_T → am_T → Prop} {j : Nat} (hj : 5 * j + 5 ≤ N) (hop : ∀ x1 x2 : Int32, ∃ (kk bb : Int32) (T' S' : am_T) (o' : Nat → Int64), am_D C.se yL_word (.codeWith yL_word cL_word 5 (some .int) [(0, 10, 13, 13), (0, 10, 17, 21)] :: am_G) am_WR (hp T S o) [.ref 0, .int x1, .int x2, .ref 464] (hp T' S o') (some (.int kk)) ∧ am_D C.se yX6_word (.code yX6_word cX6_word 4 (some .int) :: am_G) { frames := 1, cells := 0, slots := 0, locals := 22 } (hp T' S o') [.ref 465, .int x1, .int x2] (hp T' S' o') (some (.int bb)) ∧ S' 0 0 = kk ∧ (kk = 0 → o' 0 = bb.toInt64) ∧ P T' S') (kend : ∀ (T' S' : am_T) (o' : Nat → Int64), P T' S' → lW C q (hp T' S' o') (71 + 4 * (j + 1)) (18836 + 36 * (j + 1)) 2388 [(0, .ref b), (1, .ref q.1), (2, .ref q.2.2), (3, .ref q.2.1), (4, .int (nI (5 * j)))] []) : lW C q (hp T S o) (71 + 4 * j) (18836 + 36 * j) 734 [(0, .ref b), (1, .ref q.1), (2, .ref q.2.2), (3, .ref q.2.1), (4, .int (nI (5 * j)))] [] := by
  refine l_go hF sgLW_734_1478f 740 [(0, .ref b), (1, .ref q.1), (2, .ref q.2.2), (3, .ref q.2.1), (4, .int (nI (5 * j)))] [.int (nI (5 * j) + 1), .ref b, .ref q.1] sgLW_734_1478fd rfl ?_
  refine l_sld hF hXs hbl hbA (5 * j + 1) (am_ad rfl rfl) (by omega) (by omega) dLW_740 ?_
  refine l_go hF sgLW_741_1d7ba 746 [(0, .ref b), (1, .ref q.1), (2, .ref q.2.2), (3, .ref q.2.1), (4, .int (nI (5 * j)))] [.int (nI (5 * j) + 2), .ref b, .int (xs (5 * j + 1)), .ref q.1] sgLW_741_1d7bad rfl ?_
  refine l_sld hF hXs hbl hbA (5 * j + 2) (am_ad rfl rfl) (by omega) (by omega) dLW_746 ?_
  refine l_go hF sgLW_747_67016 748 [(0, .ref b), (1, .ref q.1), (2, .ref q.2.2), (3, .ref q.2.1), (4, .int (nI (5 * j)))] [.ref q.2.1, .int (xs (5 * j + 2)), .int (xs (5 * j + 1)), .ref q.1] sgLW_747_67016d rfl ?_
  obtain ⟨kk, bb, T', S', o', hw, hr, hth, ho, hP⟩ := hop (xs (5 * j + 1)) (xs (5 * j + 2))
  refine l_dS hF hK9 [.ref 0, .int (xs (5 * j + 1)), .int (xs (5 * j + 2)), .ref 464] [.ref q.1, .int (xs (5 * j + 1)), .int (xs (5 * j + 2)), .ref q.2.1] [] hw mwyL_word swyL_word lm_RL_158 rfl (71 + 4 * (j + 1)) (18836 + 36 * (j + 1)) (by rw [hro]; exact ⟨Nat.le_of_ble_eq_true rfl, Nat.le_of_ble_eq_true rfl⟩) ⟨by show _ + 4 ≤ _; omega, by show _ + 36 ≤ _; omega, by rw [hro]; show _ ≤ 601024; omega, by rw [hro]; show _ ≤ 7293034; omega⟩ rfl (fun ad h => by simp only [List.map_cons, List.map_nil, am_v, h.1, h.2.1]) (hp_q _ _ _) (Nat.le_of_ble_eq_true rfl) dLW_748 ?_
  refine l_go hF sgLW_751_523aa 759 [(5, .int kk), (0, .ref b), (1, .ref q.1), (2, .ref q.2.2), (3, .ref q.2.1), (4, .int (nI (5 * j)))] [.int (nI (5 * j) + 1), .ref b, .ref q.2.2] sgLW_751_523aad rfl ?_
  refine l_sld hF hXs hbl hbA (5 * j + 1) (am_ad rfl rfl) (by omega) (by omega) dLW_759 ?_
  refine l_go hF sgLW_760_1d7ba 765 [(5, .int kk), (0, .ref b), (1, .ref q.1), (2, .ref q.2.2), (3, .ref q.2.1), (4, .int (nI (5 * j)))] [.int (nI (5 * j) + 2), .ref b, .int (xs (5 * j + 1)), .ref q.2.2] sgLW_760_1d7bad rfl ?_
  refine l_sld hF hXs hbl hbA (5 * j + 2) (am_ad rfl rfl) (by omega) (by omega) dLW_765 ?_
  refine l_dV hF hK9 (b := 465) [.int (xs (5 * j + 1)), .int (xs (5 * j + 2))] [.int (xs (5 * j + 1)), .int (xs (5 * j + 2))] [] hr myX6_word vyX6_word lm_RL_160 (hp_m _ _ _) rfl rfl (71 + 4 * (j + 1)) (18836 + 36 * (j + 1)) (by rw [hro]; exact ⟨Nat.le_of_ble_eq_true rfl, Nat.le_of_ble_eq_true rfl⟩) ⟨by show _ + 0 ≤ _; omega, by show _ + 0 ≤ _; omega, by rw [hro]; show _ ≤ 601024; omega, by rw [hro]; show _ ≤ 7293034; omega⟩ rfl (fun ad h => h.2.2) (fun ad => rfl) (hp_q _ _ _) (Nat.le_of_ble_eq_true rfl) dLW_766 ?_
  refine l_go hF sgLW_769_2d201 772 [(6, .int bb), (5, .int kk), (0, .ref b), (1, .ref q.1), (2, .ref q.2.2), (3, .ref q.2.1), (4, .int (nI (5 * j)))] [.ref q.2.2] sgLW_769_2d201d rfl ?_
  refine l_dV hF hK9 (b := 465) [] [] [] (c_r_thrown (T := T') (S := S') (o := o')) myX6_thrown vyX6_thrown lm_RL_133 (hp_m _ _ _) rfl rfl (71 + 4 * (j + 1)) (18836 + 36 * (j + 1)) (by rw [hro]; exact ⟨Nat.le_of_ble_eq_true rfl, Nat.le_of_ble_eq_true rfl⟩) ⟨by show _ + 0 ≤ _; omega, by show _ + 0 ≤ _; omega, by rw [hro]; show _ ≤ 601024; omega, by rw [hro]; show _ ≤ 7293034; omega⟩ rfl (fun ad h => h.2.2) (fun ad => rfl) (hp_q _ _ _) (Nat.le_of_ble_eq_true rfl) dLW_772 ?_
  refine l_go hF sgLW_775_9df92 777 [(6, .int bb), (5, .int kk), (0, .ref b), (1, .ref q.1), (2, .ref q.2.2), (3, .ref q.2.1), (4, .int (nI (5 * j)))] [.int kk, .int (S' 0 0)] sgLW_775_9df92d rfl ?_
  refine l_icmpeq hF 782 dLW_777 (by decide) (fun _ => ?_) (fun c9 => absurd hth c9)
  refine l_go hF sgLW_782_9df92 784 [(6, .int bb), (5, .int kk), (0, .ref b), (1, .ref q.1), (2, .ref q.2.2), (3, .ref q.2.1), (4, .int (nI (5 * j)))] [.int kk] sgLW_782_9df92d rfl ?_
  have hend : lW C q (hp T' S' o') (71 + 4 * (j + 1)) (18836 + 36 * (j + 1)) 799 [(6, .int bb), (5, .int kk), (0, .ref b), (1, .ref q.1), (2, .ref q.2.2), (3, .ref q.2.1), (4, .int (nI (5 * j)))] [] := by
    refine l_go hF sgLW_799_efe3f 2388 [(6, .int bb), (5, .int kk), (0, .ref b), (1, .ref q.1), (2, .ref q.2.2), (3, .ref q.2.1), (4, .int (nI (5 * j)))] [] sgLW_799_efe3fd rfl ?_
    refine l_drop [2, 3, 4, 5, 6] [(0, .ref b), (1, .ref q.1), (2, .ref q.2.2), (3, .ref q.2.1), (4, .int (nI (5 * j)))] rfl ?_
    exact kend T' S' o' hP
  refine l_ifne hF 799 dLW_784 (by decide) (fun _ => hend) (fun hk0 => ?_)
  refine l_go hF sgLW_787_1f411 789 [(6, .int bb), (5, .int kk), (0, .ref b), (1, .ref q.1), (2, .ref q.2.2), (3, .ref q.2.1), (4, .int (nI (5 * j)))] [.int 0, .ref q.2.1] sgLW_787_1f411d rfl ?_
  refine l_out hF dLW_789 ?_
  refine l_go hF sgLW_790_abfd4 794 [(6, .int bb), (5, .int kk), (0, .ref b), (1, .ref q.1), (2, .ref q.2.2), (3, .ref q.2.1), (4, .int (nI (5 * j)))] [.int (lg_cmp (o' 0) bb.toInt64)] sgLW_790_abfd4d rfl ?_
  refine l_top 0 (by rw [ho hk0]; exact lg_cmp_s _) ?_
  exact l_ifeq hF 799 dLW_794 (by decide) (fun _ => hend) (fun c9 => absurd rfl c9)
def sgLW_802_1478f : List Instr := [.aload_n 1, .aload_n 0, .iload 4, .iconst 1, .iadd]
theorem sgLW_802_1478fd : am_dec code 802 sgLW_802_1478f = true := by decide +kernel
theorem dLW_808 : decode code 808 = .ok (.iaload, 1) := by decide +kernel
def sgLW_809_67016 : List Instr := [.aload_n 3]
theorem sgLW_809_67016d : am_dec code 809 sgLW_809_67016 = true := by decide +kernel
theorem dLW_810 : decode code 810 = .ok (.invokestatic 161, 3) := by decide +kernel
def sgLW_813_523aa : List Instr := [.istore 5, .aload_n 2, .aload_n 0, .iload 4, .iconst 1, .iadd]
theorem sgLW_813_523aad : am_dec code 813 sgLW_813_523aa = true := by decide +kernel
theorem dLW_821 : decode code 821 = .ok (.iaload, 1) := by decide +kernel
theorem dLW_822 : decode code 822 = .ok (.invokevirtual 163, 3) := by decide +kernel
def sgLW_825_2d201 : List Instr := [.istore 6, .aload_n 2]
theorem sgLW_825_2d201d : am_dec code 825 sgLW_825_2d201 = true := by decide +kernel
theorem dLW_828 : decode code 828 = .ok (.invokevirtual 133, 3) := by decide +kernel
def sgLW_831_9df92 : List Instr := [.iload 5]
theorem sgLW_831_9df92d : am_dec code 831 sgLW_831_9df92 = true := by decide +kernel
theorem dLW_833 : decode code 833 = .ok (.if_icmp .eq 5, 3) := by decide +kernel
def sgLW_838_9df92 : List Instr := [.iload 5]
theorem sgLW_838_9df92d : am_dec code 838 sgLW_838_9df92 = true := by decide +kernel
theorem dLW_840 : decode code 840 = .ok (.ifCond .ne 15, 3) := by decide +kernel
def sgLW_855_bf886 : List Instr := [.goto 1533]
theorem sgLW_855_bf886d : am_dec code 855 sgLW_855_bf886 = true := by decide +kernel
def sgLW_843_1f411 : List Instr := [.aload_n 3, .iconst 0]
theorem sgLW_843_1f411d : am_dec code 843 sgLW_843_1f411 = true := by decide +kernel
theorem dLW_845 : decode code 845 = .ok (.laload, 1) := by decide +kernel
def sgLW_846_abfd4 : List Instr := [.iload 6, .i2l, .lcmp]
theorem sgLW_846_abfd4d : am_dec code 846 sgLW_846_abfd4 = true := by decide +kernel
theorem dLW_850 : decode code 850 = .ok (.ifCond .eq 5, 3) := by decide +kernel
set_option maxRecDepth 100000 in
set_option maxHeartbeats 2000000 in
theorem law_reaches {C : am_Cx} {q : Nat × Nat × Nat} {w0 : Cond} {b N : Nat} {xs : Nat → Int32} (hF : am_F C code 7 RL (w0 :: am_G)) (hK9 : am_K C.n0 C.dg C.ty C.st) (hro : C.ro = room_1) (hXs : va_X b N xs C.st C.st.heap) (hbl : b < C.st.heap.size) (hbA : ¬ C.n0 ≤ b) (hN : N ≤ 2560) {T S : am_T} {o : Nat → Int64} {P : am_T → am_T → Prop} {j : Nat} (hj : 5 * j + 5 ≤ N) (hop : ∀ x1 : Int32, ∃ (kk bb : Int32) (T' S' : am_T) (o' : Nat → Int64), am_D C.se yL_reaches (.codeWith yL_reaches cL_reaches 4 (some .int) [(0, 9, 12, 13)] :: am_G) am_WR (hp T S o) [.ref 0, .int x1, .ref 464] (hp T' S o') (some (.int kk)) ∧ am_D C.se yX6_reaches (.code yX6_reaches cX6_reaches 2 (some .int) :: am_G) { frames := 3, cells := 0, slots := 0, locals := 75 } (hp T' S o') [.ref 465, .int x1] (hp T' S' o') (some (.int bb)) ∧ S' 0 0 = kk ∧ (kk = 0 → o' 0 = bb.toInt64) ∧ P T' S') (kend : ∀ (T' S' : am_T) (o' : Nat → Int64), P T' S' → lW C q (hp T' S' o') (71 + 4 * (j + 1)) (18836 + 36 * (j + 1)) 2388 [(0, .ref b), (1, .ref q.1), (2, .ref q.2.2), (3, .ref q.2.1), (4, .int (nI (5 * j)))] []) : lW C q (hp T S o) (71 + 4 * j) (18836 + 36 * j) 802 [(0, .ref b), (1, .ref q.1), (2, .ref q.2.2), (3, .ref q.2.1), (4, .int (nI (5 * j)))] [] := by
  refine l_go hF sgLW_802_1478f 808 [(0, .ref b), (1, .ref q.1), (2, .ref q.2.2), (3, .ref q.2.1), (4, .int (nI (5 * j)))] [.int (nI (5 * j) + 1), .ref b, .ref q.1] sgLW_802_1478fd rfl ?_
  refine l_sld hF hXs hbl hbA (5 * j + 1) (am_ad rfl rfl) (by omega) (by omega) dLW_808 ?_
  refine l_go hF sgLW_809_67016 810 [(0, .ref b), (1, .ref q.1), (2, .ref q.2.2), (3, .ref q.2.1), (4, .int (nI (5 * j)))] [.ref q.2.1, .int (xs (5 * j + 1)), .ref q.1] sgLW_809_67016d rfl ?_
  obtain ⟨kk, bb, T', S', o', hw, hr, hth, ho, hP⟩ := hop (xs (5 * j + 1))
  refine l_dS hF hK9 [.ref 0, .int (xs (5 * j + 1)), .ref 464] [.ref q.1, .int (xs (5 * j + 1)), .ref q.2.1] [] hw mwyL_reaches swyL_reaches lm_RL_161 rfl (71 + 4 * (j + 1)) (18836 + 36 * (j + 1)) (by rw [hro]; exact ⟨Nat.le_of_ble_eq_true rfl, Nat.le_of_ble_eq_true rfl⟩) ⟨by show _ + 4 ≤ _; omega, by show _ + 36 ≤ _; omega, by rw [hro]; show _ ≤ 601024; omega, by rw [hro]; show _ ≤ 7293034; omega⟩ rfl (fun ad h => by simp only [List.map_cons, List.map_nil, am_v, h.1, h.2.1]) (hp_q _ _ _) (Nat.le_of_ble_eq_true rfl) dLW_810 ?_
  refine l_go hF sgLW_813_523aa 821 [(5, .int kk), (0, .ref b), (1, .ref q.1), (2, .ref q.2.2), (3, .ref q.2.1), (4, .int (nI (5 * j)))] [.int (nI (5 * j) + 1), .ref b, .ref q.2.2] sgLW_813_523aad rfl ?_
  refine l_sld hF hXs hbl hbA (5 * j + 1) (am_ad rfl rfl) (by omega) (by omega) dLW_821 ?_
  refine l_dV hF hK9 (b := 465) [.int (xs (5 * j + 1))] [.int (xs (5 * j + 1))] [] hr myX6_reaches vyX6_reaches lm_RL_163 (hp_m _ _ _) rfl rfl (71 + 4 * (j + 1)) (18836 + 36 * (j + 1)) (by rw [hro]; exact ⟨Nat.le_of_ble_eq_true rfl, Nat.le_of_ble_eq_true rfl⟩) ⟨by show _ + 0 ≤ _; omega, by show _ + 0 ≤ _; omega, by rw [hro]; show _ ≤ 601024; omega, by rw [hro]; show _ ≤ 7293034; omega⟩ rfl (fun ad h => h.2.2) (fun ad => rfl) (hp_q _ _ _) (Nat.le_of_ble_eq_true rfl) dLW_822 ?_
  refine l_go hF sgLW_825_2d201 828 [(6, .int bb), (5, .int kk), (0, .ref b), (1, .ref q.1), (2, .ref q.2.2), (3, .ref q.2.1), (4, .int (nI (5 * j)))] [.ref q.2.2] sgLW_825_2d201d rfl ?_
  refine l_dV hF hK9 (b := 465) [] [] [] (c_r_thrown (T := T') (S := S') (o := o')) myX6_thrown vyX6_thrown lm_RL_133 (hp_m _ _ _) rfl rfl (71 + 4 * (j + 1)) (18836 + 36 * (j + 1)) (by rw [hro]; exact ⟨Nat.le_of_ble_eq_true rfl, Nat.le_of_ble_eq_true rfl⟩) ⟨by show _ + 0 ≤ _; omega, by show _ + 0 ≤ _; omega, by rw [hro]; show _ ≤ 601024; omega, by rw [hro]; show _ ≤ 7293034; omega⟩ rfl (fun ad h => h.2.2) (fun ad => rfl) (hp_q _ _ _) (Nat.le_of_ble_eq_true rfl) dLW_828 ?_
  refine l_go hF sgLW_831_9df92 833 [(6, .int bb), (5, .int kk), (0, .ref b), (1, .ref q.1), (2, .ref q.2.2), (3, .ref q.2.1), (4, .int (nI (5 * j)))] [.int kk, .int (S' 0 0)] sgLW_831_9df92d rfl ?_
  refine l_icmpeq hF 838 dLW_833 (by decide) (fun _ => ?_) (fun c9 => absurd hth c9)
  refine l_go hF sgLW_838_9df92 840 [(6, .int bb), (5, .int kk), (0, .ref b), (1, .ref q.1), (2, .ref q.2.2), (3, .ref q.2.1), (4, .int (nI (5 * j)))] [.int kk] sgLW_838_9df92d rfl ?_
  have hend : lW C q (hp T' S' o') (71 + 4 * (j + 1)) (18836 + 36 * (j + 1)) 855 [(6, .int bb), (5, .int kk), (0, .ref b), (1, .ref q.1), (2, .ref q.2.2), (3, .ref q.2.1), (4, .int (nI (5 * j)))] [] := by
    refine l_go hF sgLW_855_bf886 2388 [(6, .int bb), (5, .int kk), (0, .ref b), (1, .ref q.1), (2, .ref q.2.2), (3, .ref q.2.1), (4, .int (nI (5 * j)))] [] sgLW_855_bf886d rfl ?_
    refine l_drop [2, 3, 4, 5, 6] [(0, .ref b), (1, .ref q.1), (2, .ref q.2.2), (3, .ref q.2.1), (4, .int (nI (5 * j)))] rfl ?_
    exact kend T' S' o' hP
  refine l_ifne hF 855 dLW_840 (by decide) (fun _ => hend) (fun hk0 => ?_)
  refine l_go hF sgLW_843_1f411 845 [(6, .int bb), (5, .int kk), (0, .ref b), (1, .ref q.1), (2, .ref q.2.2), (3, .ref q.2.1), (4, .int (nI (5 * j)))] [.int 0, .ref q.2.1] sgLW_843_1f411d rfl ?_
  refine l_out hF dLW_845 ?_
  refine l_go hF sgLW_846_abfd4 850 [(6, .int bb), (5, .int kk), (0, .ref b), (1, .ref q.1), (2, .ref q.2.2), (3, .ref q.2.1), (4, .int (nI (5 * j)))] [.int (lg_cmp (o' 0) bb.toInt64)] sgLW_846_abfd4d rfl ?_
  refine l_top 0 (by rw [ho hk0]; exact lg_cmp_s _) ?_
  exact l_ifeq hF 855 dLW_850 (by decide) (fun _ => hend) (fun c9 => absurd rfl c9)
