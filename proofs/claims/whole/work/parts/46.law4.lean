/-! the law, case by case, 4 -/
def sgLW_1868_1478f : List Instr := [.aload_n 1, .aload_n 0, .iload 4, .iconst 1, .iadd]
theorem sgLW_1868_1478fd : am_dec code 1868 sgLW_1868_1478f = true := by decide +kernel
theorem dLW_1874 : decode code 1874 = .ok (.iaload, 1) := by decide +kernel
def sgLW_1875_67016 : List Instr := [.aload_n 3]
theorem sgLW_1875_67016d : am_dec code 1875 sgLW_1875_67016 = true := by decide +kernel
theorem dLW_1876 : decode code 1876 = .ok (.invokestatic 222, 3) := by decide +kernel
def sgLW_1879_523aa : List Instr := [.istore 5, .aload_n 2, .aload_n 0, .iload 4, .iconst 1, .iadd]
theorem sgLW_1879_523aad : am_dec code 1879 sgLW_1879_523aa = true := by decide +kernel
theorem dLW_1887 : decode code 1887 = .ok (.iaload, 1) := by decide +kernel
theorem dLW_1888 : decode code 1888 = .ok (.invokevirtual 224, 3) := by decide +kernel
def sgLW_1891_2d201 : List Instr := [.istore 6, .aload_n 2]
theorem sgLW_1891_2d201d : am_dec code 1891 sgLW_1891_2d201 = true := by decide +kernel
theorem dLW_1894 : decode code 1894 = .ok (.invokevirtual 133, 3) := by decide +kernel
def sgLW_1897_9df92 : List Instr := [.iload 5]
theorem sgLW_1897_9df92d : am_dec code 1897 sgLW_1897_9df92 = true := by decide +kernel
theorem dLW_1899 : decode code 1899 = .ok (.if_icmp .eq 5, 3) := by decide +kernel
def sgLW_1904_9df92 : List Instr := [.iload 5]
theorem sgLW_1904_9df92d : am_dec code 1904 sgLW_1904_9df92 = true := by decide +kernel
theorem dLW_1906 : decode code 1906 = .ok (.ifCond .ne 15, 3) := by decide +kernel
def sgLW_1921_b9dc3 : List Instr := [.goto 467]
theorem sgLW_1921_b9dc3d : am_dec code 1921 sgLW_1921_b9dc3 = true := by decide +kernel
def sgLW_1909_1f411 : List Instr := [.aload_n 3, .iconst 0]
theorem sgLW_1909_1f411d : am_dec code 1909 sgLW_1909_1f411 = true := by decide +kernel
theorem dLW_1911 : decode code 1911 = .ok (.laload, 1) := by decide +kernel
def sgLW_1912_abfd4 : List Instr := [.iload 6, .i2l, .lcmp]
theorem sgLW_1912_abfd4d : am_dec code 1912 sgLW_1912_abfd4 = true := by decide +kernel
theorem dLW_1916 : decode code 1916 = .ok (.ifCond .eq 5, 3) := by decide +kernel
set_option maxRecDepth 100000 in
set_option maxHeartbeats 2000000 in
theorem law_box {C : am_Cx} {q : Nat × Nat × Nat} {w0 : Cond} {b N : Nat} {xs : Nat → Int32} (hF : am_F C code 7 RL (w0 :: am_G)) (hK9 : am_K C.n0 C.dg C.ty C.st) (hro : C.ro = room_1) (hXs : va_X b N xs C.st C.st.heap) (hbl : b < C.st.heap.size) (hbA : ¬ C.n0 ≤ b) (hN : N ≤ 2560) {T S : am_T} {o : Nat → Int64} {P : am_T → am_T → Prop} {j : Nat} (hj : 5 * j + 5 ≤ N) (hop : ∀ x1 : Int32, ∃ (kk bb : Int32) (T' S' : am_T) (o' : Nat → Int64), am_D C.se yL_box (.codeWith yL_box cL_box 4 (some .int) [(0, 9, 12, 13)] :: am_G) am_WR (hp T S o) [.ref 0, .int x1, .ref 464] (hp T' S o') (some (.int kk)) ∧ am_D C.se yX6_box (.code yX6_box cX6_box 2 (some .int) :: am_G) { frames := 3, cells := 0, slots := 0, locals := 63 } (hp T' S o') [.ref 465, .int x1] (hp T' S' o') (some (.int bb)) ∧ S' 0 0 = kk ∧ (kk = 0 → o' 0 = bb.toInt64) ∧ P T' S') (kend : ∀ (T' S' : am_T) (o' : Nat → Int64), P T' S' → lW C q (hp T' S' o') (71 + 4 * (j + 1)) (18836 + 36 * (j + 1)) 2388 [(0, .ref b), (1, .ref q.1), (2, .ref q.2.2), (3, .ref q.2.1), (4, .int (nI (5 * j)))] []) : lW C q (hp T S o) (71 + 4 * j) (18836 + 36 * j) 1868 [(0, .ref b), (1, .ref q.1), (2, .ref q.2.2), (3, .ref q.2.1), (4, .int (nI (5 * j)))] [] := by
  refine l_go hF sgLW_1868_1478f 1874 [(0, .ref b), (1, .ref q.1), (2, .ref q.2.2), (3, .ref q.2.1), (4, .int (nI (5 * j)))] [.int (nI (5 * j) + 1), .ref b, .ref q.1] sgLW_1868_1478fd rfl ?_
  refine l_sld hF hXs hbl hbA (5 * j + 1) (am_ad rfl rfl) (by omega) (by omega) dLW_1874 ?_
  refine l_go hF sgLW_1875_67016 1876 [(0, .ref b), (1, .ref q.1), (2, .ref q.2.2), (3, .ref q.2.1), (4, .int (nI (5 * j)))] [.ref q.2.1, .int (xs (5 * j + 1)), .ref q.1] sgLW_1875_67016d rfl ?_
  obtain ⟨kk, bb, T', S', o', hw, hr, hth, ho, hP⟩ := hop (xs (5 * j + 1))
  refine l_dS hF hK9 [.ref 0, .int (xs (5 * j + 1)), .ref 464] [.ref q.1, .int (xs (5 * j + 1)), .ref q.2.1] [] hw mwyL_box swyL_box lm_RL_222 rfl (71 + 4 * (j + 1)) (18836 + 36 * (j + 1)) (by rw [hro]; exact ⟨Nat.le_of_ble_eq_true rfl, Nat.le_of_ble_eq_true rfl⟩) ⟨by show _ + 4 ≤ _; omega, by show _ + 36 ≤ _; omega, by rw [hro]; show _ ≤ 601024; omega, by rw [hro]; show _ ≤ 7293034; omega⟩ rfl (fun ad h => by simp only [List.map_cons, List.map_nil, am_v, h.1, h.2.1]) (hp_q _ _ _) (Nat.le_of_ble_eq_true rfl) dLW_1876 ?_
  refine l_go hF sgLW_1879_523aa 1887 [(5, .int kk), (0, .ref b), (1, .ref q.1), (2, .ref q.2.2), (3, .ref q.2.1), (4, .int (nI (5 * j)))] [.int (nI (5 * j) + 1), .ref b, .ref q.2.2] sgLW_1879_523aad rfl ?_
  refine l_sld hF hXs hbl hbA (5 * j + 1) (am_ad rfl rfl) (by omega) (by omega) dLW_1887 ?_
  refine l_dV hF hK9 (b := 465) [.int (xs (5 * j + 1))] [.int (xs (5 * j + 1))] [] hr myX6_box vyX6_box lm_RL_224 (hp_m _ _ _) rfl rfl (71 + 4 * (j + 1)) (18836 + 36 * (j + 1)) (by rw [hro]; exact ⟨Nat.le_of_ble_eq_true rfl, Nat.le_of_ble_eq_true rfl⟩) ⟨by show _ + 0 ≤ _; omega, by show _ + 0 ≤ _; omega, by rw [hro]; show _ ≤ 601024; omega, by rw [hro]; show _ ≤ 7293034; omega⟩ rfl (fun ad h => h.2.2) (fun ad => rfl) (hp_q _ _ _) (Nat.le_of_ble_eq_true rfl) dLW_1888 ?_
  refine l_go hF sgLW_1891_2d201 1894 [(6, .int bb), (5, .int kk), (0, .ref b), (1, .ref q.1), (2, .ref q.2.2), (3, .ref q.2.1), (4, .int (nI (5 * j)))] [.ref q.2.2] sgLW_1891_2d201d rfl ?_
  refine l_dV hF hK9 (b := 465) [] [] [] (c_r_thrown (T := T') (S := S') (o := o')) myX6_thrown vyX6_thrown lm_RL_133 (hp_m _ _ _) rfl rfl (71 + 4 * (j + 1)) (18836 + 36 * (j + 1)) (by rw [hro]; exact ⟨Nat.le_of_ble_eq_true rfl, Nat.le_of_ble_eq_true rfl⟩) ⟨by show _ + 0 ≤ _; omega, by show _ + 0 ≤ _; omega, by rw [hro]; show _ ≤ 601024; omega, by rw [hro]; show _ ≤ 7293034; omega⟩ rfl (fun ad h => h.2.2) (fun ad => rfl) (hp_q _ _ _) (Nat.le_of_ble_eq_true rfl) dLW_1894 ?_
  refine l_go hF sgLW_1897_9df92 1899 [(6, .int bb), (5, .int kk), (0, .ref b), (1, .ref q.1), (2, .ref q.2.2), (3, .ref q.2.1), (4, .int (nI (5 * j)))] [.int kk, .int (S' 0 0)] sgLW_1897_9df92d rfl ?_
  refine l_icmpeq hF 1904 dLW_1899 (by decide) (fun _ => ?_) (fun c9 => absurd hth c9)
  refine l_go hF sgLW_1904_9df92 1906 [(6, .int bb), (5, .int kk), (0, .ref b), (1, .ref q.1), (2, .ref q.2.2), (3, .ref q.2.1), (4, .int (nI (5 * j)))] [.int kk] sgLW_1904_9df92d rfl ?_
  have hend : lW C q (hp T' S' o') (71 + 4 * (j + 1)) (18836 + 36 * (j + 1)) 1921 [(6, .int bb), (5, .int kk), (0, .ref b), (1, .ref q.1), (2, .ref q.2.2), (3, .ref q.2.1), (4, .int (nI (5 * j)))] [] := by
    refine l_go hF sgLW_1921_b9dc3 2388 [(6, .int bb), (5, .int kk), (0, .ref b), (1, .ref q.1), (2, .ref q.2.2), (3, .ref q.2.1), (4, .int (nI (5 * j)))] [] sgLW_1921_b9dc3d rfl ?_
    refine l_drop [2, 3, 4, 5, 6] [(0, .ref b), (1, .ref q.1), (2, .ref q.2.2), (3, .ref q.2.1), (4, .int (nI (5 * j)))] rfl ?_
    exact kend T' S' o' hP
  refine l_ifne hF 1921 dLW_1906 (by decide) (fun _ => hend) (fun hk0 => ?_)
  refine l_go hF sgLW_1909_1f411 1911 [(6, .int bb), (5, .int kk), (0, .ref b), (1, .ref q.1), (2, .ref q.2.2), (3, .ref q.2.1), (4, .int (nI (5 * j)))] [.int 0, .ref q.2.1] sgLW_1909_1f411d rfl ?_
  refine l_out hF dLW_1911 ?_
  refine l_go hF sgLW_1912_abfd4 1916 [(6, .int bb), (5, .int kk), (0, .ref b), (1, .ref q.1), (2, .ref q.2.2), (3, .ref q.2.1), (4, .int (nI (5 * j)))] [.int (lg_cmp (o' 0) bb.toInt64)] sgLW_1912_abfd4d rfl ?_
  refine l_top 0 (by rw [ho hk0]; exact lg_cmp_s _) ?_
  exact l_ifeq hF 1921 dLW_1916 (by decide) (fun _ => hend) (fun c9 => absurd rfl c9)
def sgLW_1924_1478f : List Instr := [.aload_n 1, .aload_n 0, .iload 4, .iconst 1, .iadd]
theorem sgLW_1924_1478fd : am_dec code 1924 sgLW_1924_1478f = true := by decide +kernel
theorem dLW_1930 : decode code 1930 = .ok (.iaload, 1) := by decide +kernel
def sgLW_1931_1d7ba : List Instr := [.aload_n 0, .iload 4, .iconst 2, .iadd]
theorem sgLW_1931_1d7bad : am_dec code 1931 sgLW_1931_1d7ba = true := by decide +kernel
theorem dLW_1936 : decode code 1936 = .ok (.iaload, 1) := by decide +kernel
def sgLW_1937_67016 : List Instr := [.aload_n 3]
theorem sgLW_1937_67016d : am_dec code 1937 sgLW_1937_67016 = true := by decide +kernel
theorem dLW_1938 : decode code 1938 = .ok (.invokestatic 225, 3) := by decide +kernel
def sgLW_1941_523aa : List Instr := [.istore 5, .aload_n 2, .aload_n 0, .iload 4, .iconst 1, .iadd]
theorem sgLW_1941_523aad : am_dec code 1941 sgLW_1941_523aa = true := by decide +kernel
theorem dLW_1949 : decode code 1949 = .ok (.iaload, 1) := by decide +kernel
def sgLW_1950_1d7ba : List Instr := [.aload_n 0, .iload 4, .iconst 2, .iadd]
theorem sgLW_1950_1d7bad : am_dec code 1950 sgLW_1950_1d7ba = true := by decide +kernel
theorem dLW_1955 : decode code 1955 = .ok (.iaload, 1) := by decide +kernel
theorem dLW_1956 : decode code 1956 = .ok (.invokevirtual 227, 3) := by decide +kernel
def sgLW_1959_2d201 : List Instr := [.istore 6, .aload_n 2]
theorem sgLW_1959_2d201d : am_dec code 1959 sgLW_1959_2d201 = true := by decide +kernel
theorem dLW_1962 : decode code 1962 = .ok (.invokevirtual 133, 3) := by decide +kernel
def sgLW_1965_9df92 : List Instr := [.iload 5]
theorem sgLW_1965_9df92d : am_dec code 1965 sgLW_1965_9df92 = true := by decide +kernel
theorem dLW_1967 : decode code 1967 = .ok (.if_icmp .eq 5, 3) := by decide +kernel
def sgLW_1972_9df92 : List Instr := [.iload 5]
theorem sgLW_1972_9df92d : am_dec code 1972 sgLW_1972_9df92 = true := by decide +kernel
theorem dLW_1974 : decode code 1974 = .ok (.ifCond .ne 15, 3) := by decide +kernel
def sgLW_1989_c38f3 : List Instr := [.goto 399]
theorem sgLW_1989_c38f3d : am_dec code 1989 sgLW_1989_c38f3 = true := by decide +kernel
def sgLW_1977_1f411 : List Instr := [.aload_n 3, .iconst 0]
theorem sgLW_1977_1f411d : am_dec code 1977 sgLW_1977_1f411 = true := by decide +kernel
theorem dLW_1979 : decode code 1979 = .ok (.laload, 1) := by decide +kernel
def sgLW_1980_abfd4 : List Instr := [.iload 6, .i2l, .lcmp]
theorem sgLW_1980_abfd4d : am_dec code 1980 sgLW_1980_abfd4 = true := by decide +kernel
theorem dLW_1984 : decode code 1984 = .ok (.ifCond .eq 5, 3) := by decide +kernel
set_option maxRecDepth 100000 in
set_option maxHeartbeats 2000000 in
theorem law_mailAt {C : am_Cx} {q : Nat × Nat × Nat} {w0 : Cond} {b N : Nat} {xs : Nat → Int32} (hF : am_F C code 7 RL (w0 :: am_G)) (hK9 : am_K C.n0 C.dg C.ty C.st) (hro : C.ro = room_1) (hXs : va_X b N xs C.st C.st.heap) (hbl : b < C.st.heap.size) (hbA : ¬ C.n0 ≤ b) (hN : N ≤ 2560) {T S : am_T} {o : Nat → Int64} {P : am_T → am_T → Prop} {j : Nat} (hj : 5 * j + 5 ≤ N) (hop : ∀ x1 x2 : Int32, ∃ (kk bb : Int32) (T' S' : am_T) (o' : Nat → Int64), am_D C.se yL_mailAt (.codeWith yL_mailAt cL_mailAt 5 (some .int) [(0, 10, 13, 13)] :: am_G) am_WR (hp T S o) [.ref 0, .int x1, .int x2, .ref 464] (hp T' S o') (some (.int kk)) ∧ am_D C.se yX6_mailAt (.code yX6_mailAt cX6_mailAt 3 (some .int) :: am_G) { frames := 2, cells := 0, slots := 0, locals := 42 } (hp T' S o') [.ref 465, .int x1, .int x2] (hp T' S' o') (some (.int bb)) ∧ S' 0 0 = kk ∧ (kk = 0 → o' 0 = bb.toInt64) ∧ P T' S') (kend : ∀ (T' S' : am_T) (o' : Nat → Int64), P T' S' → lW C q (hp T' S' o') (71 + 4 * (j + 1)) (18836 + 36 * (j + 1)) 2388 [(0, .ref b), (1, .ref q.1), (2, .ref q.2.2), (3, .ref q.2.1), (4, .int (nI (5 * j)))] []) : lW C q (hp T S o) (71 + 4 * j) (18836 + 36 * j) 1924 [(0, .ref b), (1, .ref q.1), (2, .ref q.2.2), (3, .ref q.2.1), (4, .int (nI (5 * j)))] [] := by
  refine l_go hF sgLW_1924_1478f 1930 [(0, .ref b), (1, .ref q.1), (2, .ref q.2.2), (3, .ref q.2.1), (4, .int (nI (5 * j)))] [.int (nI (5 * j) + 1), .ref b, .ref q.1] sgLW_1924_1478fd rfl ?_
  refine l_sld hF hXs hbl hbA (5 * j + 1) (am_ad rfl rfl) (by omega) (by omega) dLW_1930 ?_
  refine l_go hF sgLW_1931_1d7ba 1936 [(0, .ref b), (1, .ref q.1), (2, .ref q.2.2), (3, .ref q.2.1), (4, .int (nI (5 * j)))] [.int (nI (5 * j) + 2), .ref b, .int (xs (5 * j + 1)), .ref q.1] sgLW_1931_1d7bad rfl ?_
  refine l_sld hF hXs hbl hbA (5 * j + 2) (am_ad rfl rfl) (by omega) (by omega) dLW_1936 ?_
  refine l_go hF sgLW_1937_67016 1938 [(0, .ref b), (1, .ref q.1), (2, .ref q.2.2), (3, .ref q.2.1), (4, .int (nI (5 * j)))] [.ref q.2.1, .int (xs (5 * j + 2)), .int (xs (5 * j + 1)), .ref q.1] sgLW_1937_67016d rfl ?_
  obtain ⟨kk, bb, T', S', o', hw, hr, hth, ho, hP⟩ := hop (xs (5 * j + 1)) (xs (5 * j + 2))
  refine l_dS hF hK9 [.ref 0, .int (xs (5 * j + 1)), .int (xs (5 * j + 2)), .ref 464] [.ref q.1, .int (xs (5 * j + 1)), .int (xs (5 * j + 2)), .ref q.2.1] [] hw mwyL_mailAt swyL_mailAt lm_RL_225 rfl (71 + 4 * (j + 1)) (18836 + 36 * (j + 1)) (by rw [hro]; exact ⟨Nat.le_of_ble_eq_true rfl, Nat.le_of_ble_eq_true rfl⟩) ⟨by show _ + 4 ≤ _; omega, by show _ + 36 ≤ _; omega, by rw [hro]; show _ ≤ 601024; omega, by rw [hro]; show _ ≤ 7293034; omega⟩ rfl (fun ad h => by simp only [List.map_cons, List.map_nil, am_v, h.1, h.2.1]) (hp_q _ _ _) (Nat.le_of_ble_eq_true rfl) dLW_1938 ?_
  refine l_go hF sgLW_1941_523aa 1949 [(5, .int kk), (0, .ref b), (1, .ref q.1), (2, .ref q.2.2), (3, .ref q.2.1), (4, .int (nI (5 * j)))] [.int (nI (5 * j) + 1), .ref b, .ref q.2.2] sgLW_1941_523aad rfl ?_
  refine l_sld hF hXs hbl hbA (5 * j + 1) (am_ad rfl rfl) (by omega) (by omega) dLW_1949 ?_
  refine l_go hF sgLW_1950_1d7ba 1955 [(5, .int kk), (0, .ref b), (1, .ref q.1), (2, .ref q.2.2), (3, .ref q.2.1), (4, .int (nI (5 * j)))] [.int (nI (5 * j) + 2), .ref b, .int (xs (5 * j + 1)), .ref q.2.2] sgLW_1950_1d7bad rfl ?_
  refine l_sld hF hXs hbl hbA (5 * j + 2) (am_ad rfl rfl) (by omega) (by omega) dLW_1955 ?_
  refine l_dV hF hK9 (b := 465) [.int (xs (5 * j + 1)), .int (xs (5 * j + 2))] [.int (xs (5 * j + 1)), .int (xs (5 * j + 2))] [] hr myX6_mailAt vyX6_mailAt lm_RL_227 (hp_m _ _ _) rfl rfl (71 + 4 * (j + 1)) (18836 + 36 * (j + 1)) (by rw [hro]; exact ⟨Nat.le_of_ble_eq_true rfl, Nat.le_of_ble_eq_true rfl⟩) ⟨by show _ + 0 ≤ _; omega, by show _ + 0 ≤ _; omega, by rw [hro]; show _ ≤ 601024; omega, by rw [hro]; show _ ≤ 7293034; omega⟩ rfl (fun ad h => h.2.2) (fun ad => rfl) (hp_q _ _ _) (Nat.le_of_ble_eq_true rfl) dLW_1956 ?_
  refine l_go hF sgLW_1959_2d201 1962 [(6, .int bb), (5, .int kk), (0, .ref b), (1, .ref q.1), (2, .ref q.2.2), (3, .ref q.2.1), (4, .int (nI (5 * j)))] [.ref q.2.2] sgLW_1959_2d201d rfl ?_
  refine l_dV hF hK9 (b := 465) [] [] [] (c_r_thrown (T := T') (S := S') (o := o')) myX6_thrown vyX6_thrown lm_RL_133 (hp_m _ _ _) rfl rfl (71 + 4 * (j + 1)) (18836 + 36 * (j + 1)) (by rw [hro]; exact ⟨Nat.le_of_ble_eq_true rfl, Nat.le_of_ble_eq_true rfl⟩) ⟨by show _ + 0 ≤ _; omega, by show _ + 0 ≤ _; omega, by rw [hro]; show _ ≤ 601024; omega, by rw [hro]; show _ ≤ 7293034; omega⟩ rfl (fun ad h => h.2.2) (fun ad => rfl) (hp_q _ _ _) (Nat.le_of_ble_eq_true rfl) dLW_1962 ?_
  refine l_go hF sgLW_1965_9df92 1967 [(6, .int bb), (5, .int kk), (0, .ref b), (1, .ref q.1), (2, .ref q.2.2), (3, .ref q.2.1), (4, .int (nI (5 * j)))] [.int kk, .int (S' 0 0)] sgLW_1965_9df92d rfl ?_
  refine l_icmpeq hF 1972 dLW_1967 (by decide) (fun _ => ?_) (fun c9 => absurd hth c9)
  refine l_go hF sgLW_1972_9df92 1974 [(6, .int bb), (5, .int kk), (0, .ref b), (1, .ref q.1), (2, .ref q.2.2), (3, .ref q.2.1), (4, .int (nI (5 * j)))] [.int kk] sgLW_1972_9df92d rfl ?_
  have hend : lW C q (hp T' S' o') (71 + 4 * (j + 1)) (18836 + 36 * (j + 1)) 1989 [(6, .int bb), (5, .int kk), (0, .ref b), (1, .ref q.1), (2, .ref q.2.2), (3, .ref q.2.1), (4, .int (nI (5 * j)))] [] := by
    refine l_go hF sgLW_1989_c38f3 2388 [(6, .int bb), (5, .int kk), (0, .ref b), (1, .ref q.1), (2, .ref q.2.2), (3, .ref q.2.1), (4, .int (nI (5 * j)))] [] sgLW_1989_c38f3d rfl ?_
    refine l_drop [2, 3, 4, 5, 6] [(0, .ref b), (1, .ref q.1), (2, .ref q.2.2), (3, .ref q.2.1), (4, .int (nI (5 * j)))] rfl ?_
    exact kend T' S' o' hP
  refine l_ifne hF 1989 dLW_1974 (by decide) (fun _ => hend) (fun hk0 => ?_)
  refine l_go hF sgLW_1977_1f411 1979 [(6, .int bb), (5, .int kk), (0, .ref b), (1, .ref q.1), (2, .ref q.2.2), (3, .ref q.2.1), (4, .int (nI (5 * j)))] [.int 0, .ref q.2.1] sgLW_1977_1f411d rfl ?_
  refine l_out hF dLW_1979 ?_
  refine l_go hF sgLW_1980_abfd4 1984 [(6, .int bb), (5, .int kk), (0, .ref b), (1, .ref q.1), (2, .ref q.2.2), (3, .ref q.2.1), (4, .int (nI (5 * j)))] [.int (lg_cmp (o' 0) bb.toInt64)] sgLW_1980_abfd4d rfl ?_
  refine l_top 0 (by rw [ho hk0]; exact lg_cmp_s _) ?_
  exact l_ifeq hF 1989 dLW_1984 (by decide) (fun _ => hend) (fun c9 => absurd rfl c9)
def sgLW_1992_1478f : List Instr := [.aload_n 1, .aload_n 0, .iload 4, .iconst 1, .iadd]
theorem sgLW_1992_1478fd : am_dec code 1992 sgLW_1992_1478f = true := by decide +kernel
theorem dLW_1998 : decode code 1998 = .ok (.iaload, 1) := by decide +kernel
def sgLW_1999_67016 : List Instr := [.aload_n 3]
theorem sgLW_1999_67016d : am_dec code 1999 sgLW_1999_67016 = true := by decide +kernel
theorem dLW_2000 : decode code 2000 = .ok (.invokestatic 228, 3) := by decide +kernel
def sgLW_2003_523aa : List Instr := [.istore 5, .aload_n 2, .aload_n 0, .iload 4, .iconst 1, .iadd]
theorem sgLW_2003_523aad : am_dec code 2003 sgLW_2003_523aa = true := by decide +kernel
theorem dLW_2011 : decode code 2011 = .ok (.iaload, 1) := by decide +kernel
theorem dLW_2012 : decode code 2012 = .ok (.invokevirtual 230, 3) := by decide +kernel
def sgLW_2015_2d201 : List Instr := [.istore 6, .aload_n 2]
theorem sgLW_2015_2d201d : am_dec code 2015 sgLW_2015_2d201 = true := by decide +kernel
theorem dLW_2018 : decode code 2018 = .ok (.invokevirtual 133, 3) := by decide +kernel
def sgLW_2021_9df92 : List Instr := [.iload 5]
theorem sgLW_2021_9df92d : am_dec code 2021 sgLW_2021_9df92 = true := by decide +kernel
theorem dLW_2023 : decode code 2023 = .ok (.if_icmp .eq 5, 3) := by decide +kernel
def sgLW_2028_9df92 : List Instr := [.iload 5]
theorem sgLW_2028_9df92d : am_dec code 2028 sgLW_2028_9df92 = true := by decide +kernel
theorem dLW_2030 : decode code 2030 = .ok (.ifCond .ne 15, 3) := by decide +kernel
def sgLW_2045_2a704 : List Instr := [.goto 343]
theorem sgLW_2045_2a704d : am_dec code 2045 sgLW_2045_2a704 = true := by decide +kernel
def sgLW_2033_1f411 : List Instr := [.aload_n 3, .iconst 0]
theorem sgLW_2033_1f411d : am_dec code 2033 sgLW_2033_1f411 = true := by decide +kernel
theorem dLW_2035 : decode code 2035 = .ok (.laload, 1) := by decide +kernel
def sgLW_2036_abfd4 : List Instr := [.iload 6, .i2l, .lcmp]
theorem sgLW_2036_abfd4d : am_dec code 2036 sgLW_2036_abfd4 = true := by decide +kernel
theorem dLW_2040 : decode code 2040 = .ok (.ifCond .eq 5, 3) := by decide +kernel
set_option maxRecDepth 100000 in
set_option maxHeartbeats 2000000 in
theorem law_read {C : am_Cx} {q : Nat × Nat × Nat} {w0 : Cond} {b N : Nat} {xs : Nat → Int32} (hF : am_F C code 7 RL (w0 :: am_G)) (hK9 : am_K C.n0 C.dg C.ty C.st) (hro : C.ro = room_1) (hXs : va_X b N xs C.st C.st.heap) (hbl : b < C.st.heap.size) (hbA : ¬ C.n0 ≤ b) (hN : N ≤ 2560) {T S : am_T} {o : Nat → Int64} {P : am_T → am_T → Prop} {j : Nat} (hj : 5 * j + 5 ≤ N) (hop : ∀ x1 : Int32, ∃ (kk bb : Int32) (T' S' : am_T) (o' : Nat → Int64), am_D C.se yL_read (.codeWith yL_read cL_read 4 (some .int) [(0, 9, 12, 13)] :: am_G) am_WR (hp T S o) [.ref 0, .int x1, .ref 464] (hp T' S o') (some (.int kk)) ∧ am_D C.se yX6_read (.code yX6_read cX6_read 4 (some .int) :: am_G) { frames := 2, cells := 0, slots := 0, locals := 42 } (hp T' S o') [.ref 465, .int x1] (hp T' S' o') (some (.int bb)) ∧ S' 0 0 = kk ∧ (kk = 0 → o' 0 = bb.toInt64) ∧ P T' S') (kend : ∀ (T' S' : am_T) (o' : Nat → Int64), P T' S' → lW C q (hp T' S' o') (71 + 4 * (j + 1)) (18836 + 36 * (j + 1)) 2388 [(0, .ref b), (1, .ref q.1), (2, .ref q.2.2), (3, .ref q.2.1), (4, .int (nI (5 * j)))] []) : lW C q (hp T S o) (71 + 4 * j) (18836 + 36 * j) 1992 [(0, .ref b), (1, .ref q.1), (2, .ref q.2.2), (3, .ref q.2.1), (4, .int (nI (5 * j)))] [] := by
  refine l_go hF sgLW_1992_1478f 1998 [(0, .ref b), (1, .ref q.1), (2, .ref q.2.2), (3, .ref q.2.1), (4, .int (nI (5 * j)))] [.int (nI (5 * j) + 1), .ref b, .ref q.1] sgLW_1992_1478fd rfl ?_
  refine l_sld hF hXs hbl hbA (5 * j + 1) (am_ad rfl rfl) (by omega) (by omega) dLW_1998 ?_
  refine l_go hF sgLW_1999_67016 2000 [(0, .ref b), (1, .ref q.1), (2, .ref q.2.2), (3, .ref q.2.1), (4, .int (nI (5 * j)))] [.ref q.2.1, .int (xs (5 * j + 1)), .ref q.1] sgLW_1999_67016d rfl ?_
  obtain ⟨kk, bb, T', S', o', hw, hr, hth, ho, hP⟩ := hop (xs (5 * j + 1))
  refine l_dS hF hK9 [.ref 0, .int (xs (5 * j + 1)), .ref 464] [.ref q.1, .int (xs (5 * j + 1)), .ref q.2.1] [] hw mwyL_read swyL_read lm_RL_228 rfl (71 + 4 * (j + 1)) (18836 + 36 * (j + 1)) (by rw [hro]; exact ⟨Nat.le_of_ble_eq_true rfl, Nat.le_of_ble_eq_true rfl⟩) ⟨by show _ + 4 ≤ _; omega, by show _ + 36 ≤ _; omega, by rw [hro]; show _ ≤ 601024; omega, by rw [hro]; show _ ≤ 7293034; omega⟩ rfl (fun ad h => by simp only [List.map_cons, List.map_nil, am_v, h.1, h.2.1]) (hp_q _ _ _) (Nat.le_of_ble_eq_true rfl) dLW_2000 ?_
  refine l_go hF sgLW_2003_523aa 2011 [(5, .int kk), (0, .ref b), (1, .ref q.1), (2, .ref q.2.2), (3, .ref q.2.1), (4, .int (nI (5 * j)))] [.int (nI (5 * j) + 1), .ref b, .ref q.2.2] sgLW_2003_523aad rfl ?_
  refine l_sld hF hXs hbl hbA (5 * j + 1) (am_ad rfl rfl) (by omega) (by omega) dLW_2011 ?_
  refine l_dV hF hK9 (b := 465) [.int (xs (5 * j + 1))] [.int (xs (5 * j + 1))] [] hr myX6_read vyX6_read lm_RL_230 (hp_m _ _ _) rfl rfl (71 + 4 * (j + 1)) (18836 + 36 * (j + 1)) (by rw [hro]; exact ⟨Nat.le_of_ble_eq_true rfl, Nat.le_of_ble_eq_true rfl⟩) ⟨by show _ + 0 ≤ _; omega, by show _ + 0 ≤ _; omega, by rw [hro]; show _ ≤ 601024; omega, by rw [hro]; show _ ≤ 7293034; omega⟩ rfl (fun ad h => h.2.2) (fun ad => rfl) (hp_q _ _ _) (Nat.le_of_ble_eq_true rfl) dLW_2012 ?_
  refine l_go hF sgLW_2015_2d201 2018 [(6, .int bb), (5, .int kk), (0, .ref b), (1, .ref q.1), (2, .ref q.2.2), (3, .ref q.2.1), (4, .int (nI (5 * j)))] [.ref q.2.2] sgLW_2015_2d201d rfl ?_
  refine l_dV hF hK9 (b := 465) [] [] [] (c_r_thrown (T := T') (S := S') (o := o')) myX6_thrown vyX6_thrown lm_RL_133 (hp_m _ _ _) rfl rfl (71 + 4 * (j + 1)) (18836 + 36 * (j + 1)) (by rw [hro]; exact ⟨Nat.le_of_ble_eq_true rfl, Nat.le_of_ble_eq_true rfl⟩) ⟨by show _ + 0 ≤ _; omega, by show _ + 0 ≤ _; omega, by rw [hro]; show _ ≤ 601024; omega, by rw [hro]; show _ ≤ 7293034; omega⟩ rfl (fun ad h => h.2.2) (fun ad => rfl) (hp_q _ _ _) (Nat.le_of_ble_eq_true rfl) dLW_2018 ?_
  refine l_go hF sgLW_2021_9df92 2023 [(6, .int bb), (5, .int kk), (0, .ref b), (1, .ref q.1), (2, .ref q.2.2), (3, .ref q.2.1), (4, .int (nI (5 * j)))] [.int kk, .int (S' 0 0)] sgLW_2021_9df92d rfl ?_
  refine l_icmpeq hF 2028 dLW_2023 (by decide) (fun _ => ?_) (fun c9 => absurd hth c9)
  refine l_go hF sgLW_2028_9df92 2030 [(6, .int bb), (5, .int kk), (0, .ref b), (1, .ref q.1), (2, .ref q.2.2), (3, .ref q.2.1), (4, .int (nI (5 * j)))] [.int kk] sgLW_2028_9df92d rfl ?_
  have hend : lW C q (hp T' S' o') (71 + 4 * (j + 1)) (18836 + 36 * (j + 1)) 2045 [(6, .int bb), (5, .int kk), (0, .ref b), (1, .ref q.1), (2, .ref q.2.2), (3, .ref q.2.1), (4, .int (nI (5 * j)))] [] := by
    refine l_go hF sgLW_2045_2a704 2388 [(6, .int bb), (5, .int kk), (0, .ref b), (1, .ref q.1), (2, .ref q.2.2), (3, .ref q.2.1), (4, .int (nI (5 * j)))] [] sgLW_2045_2a704d rfl ?_
    refine l_drop [2, 3, 4, 5, 6] [(0, .ref b), (1, .ref q.1), (2, .ref q.2.2), (3, .ref q.2.1), (4, .int (nI (5 * j)))] rfl ?_
    exact kend T' S' o' hP
  refine l_ifne hF 2045 dLW_2030 (by decide) (fun _ => hend) (fun hk0 => ?_)
  refine l_go hF sgLW_2033_1f411 2035 [(6, .int bb), (5, .int kk), (0, .ref b), (1, .ref q.1), (2, .ref q.2.2), (3, .ref q.2.1), (4, .int (nI (5 * j)))] [.int 0, .ref q.2.1] sgLW_2033_1f411d rfl ?_
  refine l_out hF dLW_2035 ?_
  refine l_go hF sgLW_2036_abfd4 2040 [(6, .int bb), (5, .int kk), (0, .ref b), (1, .ref q.1), (2, .ref q.2.2), (3, .ref q.2.1), (4, .int (nI (5 * j)))] [.int (lg_cmp (o' 0) bb.toInt64)] sgLW_2036_abfd4d rfl ?_
  refine l_top 0 (by rw [ho hk0]; exact lg_cmp_s _) ?_
  exact l_ifeq hF 2045 dLW_2040 (by decide) (fun _ => hend) (fun c9 => absurd rfl c9)
def sgLW_2048_1478f : List Instr := [.aload_n 1, .aload_n 0, .iload 4, .iconst 1, .iadd]
theorem sgLW_2048_1478fd : am_dec code 2048 sgLW_2048_1478f = true := by decide +kernel
theorem dLW_2054 : decode code 2054 = .ok (.iaload, 1) := by decide +kernel
def sgLW_2055_1d7ba : List Instr := [.aload_n 0, .iload 4, .iconst 2, .iadd]
theorem sgLW_2055_1d7bad : am_dec code 2055 sgLW_2055_1d7ba = true := by decide +kernel
theorem dLW_2060 : decode code 2060 = .ok (.iaload, 1) := by decide +kernel
def sgLW_2061_67016 : List Instr := [.aload_n 3]
theorem sgLW_2061_67016d : am_dec code 2061 sgLW_2061_67016 = true := by decide +kernel
theorem dLW_2062 : decode code 2062 = .ok (.invokestatic 231, 3) := by decide +kernel
def sgLW_2065_523aa : List Instr := [.istore 5, .aload_n 2, .aload_n 0, .iload 4, .iconst 1, .iadd]
theorem sgLW_2065_523aad : am_dec code 2065 sgLW_2065_523aa = true := by decide +kernel
theorem dLW_2073 : decode code 2073 = .ok (.iaload, 1) := by decide +kernel
def sgLW_2074_1d7ba : List Instr := [.aload_n 0, .iload 4, .iconst 2, .iadd]
theorem sgLW_2074_1d7bad : am_dec code 2074 sgLW_2074_1d7ba = true := by decide +kernel
theorem dLW_2079 : decode code 2079 = .ok (.iaload, 1) := by decide +kernel
theorem dLW_2080 : decode code 2080 = .ok (.invokevirtual 233, 3) := by decide +kernel
def sgLW_2083_2d201 : List Instr := [.istore 6, .aload_n 2]
theorem sgLW_2083_2d201d : am_dec code 2083 sgLW_2083_2d201 = true := by decide +kernel
theorem dLW_2086 : decode code 2086 = .ok (.invokevirtual 133, 3) := by decide +kernel
def sgLW_2089_9df92 : List Instr := [.iload 5]
theorem sgLW_2089_9df92d : am_dec code 2089 sgLW_2089_9df92 = true := by decide +kernel
theorem dLW_2091 : decode code 2091 = .ok (.if_icmp .eq 5, 3) := by decide +kernel
def sgLW_2096_9df92 : List Instr := [.iload 5]
theorem sgLW_2096_9df92d : am_dec code 2096 sgLW_2096_9df92 = true := by decide +kernel
theorem dLW_2098 : decode code 2098 = .ok (.ifCond .ne 15, 3) := by decide +kernel
def sgLW_2113_d6ad8 : List Instr := [.goto 275]
theorem sgLW_2113_d6ad8d : am_dec code 2113 sgLW_2113_d6ad8 = true := by decide +kernel
def sgLW_2101_1f411 : List Instr := [.aload_n 3, .iconst 0]
theorem sgLW_2101_1f411d : am_dec code 2101 sgLW_2101_1f411 = true := by decide +kernel
theorem dLW_2103 : decode code 2103 = .ok (.laload, 1) := by decide +kernel
def sgLW_2104_abfd4 : List Instr := [.iload 6, .i2l, .lcmp]
theorem sgLW_2104_abfd4d : am_dec code 2104 sgLW_2104_abfd4 = true := by decide +kernel
theorem dLW_2108 : decode code 2108 = .ok (.ifCond .eq 5, 3) := by decide +kernel
set_option maxRecDepth 100000 in
set_option maxHeartbeats 2000000 in
theorem law_size {C : am_Cx} {q : Nat × Nat × Nat} {w0 : Cond} {b N : Nat} {xs : Nat → Int32} (hF : am_F C code 7 RL (w0 :: am_G)) (hK9 : am_K C.n0 C.dg C.ty C.st) (hro : C.ro = room_1) (hXs : va_X b N xs C.st C.st.heap) (hbl : b < C.st.heap.size) (hbA : ¬ C.n0 ≤ b) (hN : N ≤ 2560) {T S : am_T} {o : Nat → Int64} {P : am_T → am_T → Prop} {j : Nat} (hj : 5 * j + 5 ≤ N) (hop : ∀ x1 x2 : Int32, ∃ (kk bb : Int32) (T' S' : am_T) (o' : Nat → Int64), am_D C.se yL_size (.codeWith yL_size cL_size 5 (some .int) [(0, 10, 13, 13), (0, 10, 17, 21)] :: am_G) am_WR (hp T S o) [.ref 0, .int x1, .int x2, .ref 464] (hp T' S o') (some (.int kk)) ∧ am_D C.se yX6_size (.code yX6_size cX6_size 5 (some .int) :: am_G) { frames := 3, cells := 0, slots := 0, locals := 65 } (hp T' S o') [.ref 465, .int x1, .int x2] (hp T' S' o') (some (.int bb)) ∧ S' 0 0 = kk ∧ (kk = 0 → o' 0 = bb.toInt64) ∧ P T' S') (kend : ∀ (T' S' : am_T) (o' : Nat → Int64), P T' S' → lW C q (hp T' S' o') (71 + 4 * (j + 1)) (18836 + 36 * (j + 1)) 2388 [(0, .ref b), (1, .ref q.1), (2, .ref q.2.2), (3, .ref q.2.1), (4, .int (nI (5 * j)))] []) : lW C q (hp T S o) (71 + 4 * j) (18836 + 36 * j) 2048 [(0, .ref b), (1, .ref q.1), (2, .ref q.2.2), (3, .ref q.2.1), (4, .int (nI (5 * j)))] [] := by
  refine l_go hF sgLW_2048_1478f 2054 [(0, .ref b), (1, .ref q.1), (2, .ref q.2.2), (3, .ref q.2.1), (4, .int (nI (5 * j)))] [.int (nI (5 * j) + 1), .ref b, .ref q.1] sgLW_2048_1478fd rfl ?_
  refine l_sld hF hXs hbl hbA (5 * j + 1) (am_ad rfl rfl) (by omega) (by omega) dLW_2054 ?_
  refine l_go hF sgLW_2055_1d7ba 2060 [(0, .ref b), (1, .ref q.1), (2, .ref q.2.2), (3, .ref q.2.1), (4, .int (nI (5 * j)))] [.int (nI (5 * j) + 2), .ref b, .int (xs (5 * j + 1)), .ref q.1] sgLW_2055_1d7bad rfl ?_
  refine l_sld hF hXs hbl hbA (5 * j + 2) (am_ad rfl rfl) (by omega) (by omega) dLW_2060 ?_
  refine l_go hF sgLW_2061_67016 2062 [(0, .ref b), (1, .ref q.1), (2, .ref q.2.2), (3, .ref q.2.1), (4, .int (nI (5 * j)))] [.ref q.2.1, .int (xs (5 * j + 2)), .int (xs (5 * j + 1)), .ref q.1] sgLW_2061_67016d rfl ?_
  obtain ⟨kk, bb, T', S', o', hw, hr, hth, ho, hP⟩ := hop (xs (5 * j + 1)) (xs (5 * j + 2))
  refine l_dS hF hK9 [.ref 0, .int (xs (5 * j + 1)), .int (xs (5 * j + 2)), .ref 464] [.ref q.1, .int (xs (5 * j + 1)), .int (xs (5 * j + 2)), .ref q.2.1] [] hw mwyL_size swyL_size lm_RL_231 rfl (71 + 4 * (j + 1)) (18836 + 36 * (j + 1)) (by rw [hro]; exact ⟨Nat.le_of_ble_eq_true rfl, Nat.le_of_ble_eq_true rfl⟩) ⟨by show _ + 4 ≤ _; omega, by show _ + 36 ≤ _; omega, by rw [hro]; show _ ≤ 601024; omega, by rw [hro]; show _ ≤ 7293034; omega⟩ rfl (fun ad h => by simp only [List.map_cons, List.map_nil, am_v, h.1, h.2.1]) (hp_q _ _ _) (Nat.le_of_ble_eq_true rfl) dLW_2062 ?_
  refine l_go hF sgLW_2065_523aa 2073 [(5, .int kk), (0, .ref b), (1, .ref q.1), (2, .ref q.2.2), (3, .ref q.2.1), (4, .int (nI (5 * j)))] [.int (nI (5 * j) + 1), .ref b, .ref q.2.2] sgLW_2065_523aad rfl ?_
  refine l_sld hF hXs hbl hbA (5 * j + 1) (am_ad rfl rfl) (by omega) (by omega) dLW_2073 ?_
  refine l_go hF sgLW_2074_1d7ba 2079 [(5, .int kk), (0, .ref b), (1, .ref q.1), (2, .ref q.2.2), (3, .ref q.2.1), (4, .int (nI (5 * j)))] [.int (nI (5 * j) + 2), .ref b, .int (xs (5 * j + 1)), .ref q.2.2] sgLW_2074_1d7bad rfl ?_
  refine l_sld hF hXs hbl hbA (5 * j + 2) (am_ad rfl rfl) (by omega) (by omega) dLW_2079 ?_
  refine l_dV hF hK9 (b := 465) [.int (xs (5 * j + 1)), .int (xs (5 * j + 2))] [.int (xs (5 * j + 1)), .int (xs (5 * j + 2))] [] hr myX6_size vyX6_size lm_RL_233 (hp_m _ _ _) rfl rfl (71 + 4 * (j + 1)) (18836 + 36 * (j + 1)) (by rw [hro]; exact ⟨Nat.le_of_ble_eq_true rfl, Nat.le_of_ble_eq_true rfl⟩) ⟨by show _ + 0 ≤ _; omega, by show _ + 0 ≤ _; omega, by rw [hro]; show _ ≤ 601024; omega, by rw [hro]; show _ ≤ 7293034; omega⟩ rfl (fun ad h => h.2.2) (fun ad => rfl) (hp_q _ _ _) (Nat.le_of_ble_eq_true rfl) dLW_2080 ?_
  refine l_go hF sgLW_2083_2d201 2086 [(6, .int bb), (5, .int kk), (0, .ref b), (1, .ref q.1), (2, .ref q.2.2), (3, .ref q.2.1), (4, .int (nI (5 * j)))] [.ref q.2.2] sgLW_2083_2d201d rfl ?_
  refine l_dV hF hK9 (b := 465) [] [] [] (c_r_thrown (T := T') (S := S') (o := o')) myX6_thrown vyX6_thrown lm_RL_133 (hp_m _ _ _) rfl rfl (71 + 4 * (j + 1)) (18836 + 36 * (j + 1)) (by rw [hro]; exact ⟨Nat.le_of_ble_eq_true rfl, Nat.le_of_ble_eq_true rfl⟩) ⟨by show _ + 0 ≤ _; omega, by show _ + 0 ≤ _; omega, by rw [hro]; show _ ≤ 601024; omega, by rw [hro]; show _ ≤ 7293034; omega⟩ rfl (fun ad h => h.2.2) (fun ad => rfl) (hp_q _ _ _) (Nat.le_of_ble_eq_true rfl) dLW_2086 ?_
  refine l_go hF sgLW_2089_9df92 2091 [(6, .int bb), (5, .int kk), (0, .ref b), (1, .ref q.1), (2, .ref q.2.2), (3, .ref q.2.1), (4, .int (nI (5 * j)))] [.int kk, .int (S' 0 0)] sgLW_2089_9df92d rfl ?_
  refine l_icmpeq hF 2096 dLW_2091 (by decide) (fun _ => ?_) (fun c9 => absurd hth c9)
  refine l_go hF sgLW_2096_9df92 2098 [(6, .int bb), (5, .int kk), (0, .ref b), (1, .ref q.1), (2, .ref q.2.2), (3, .ref q.2.1), (4, .int (nI (5 * j)))] [.int kk] sgLW_2096_9df92d rfl ?_
  have hend : lW C q (hp T' S' o') (71 + 4 * (j + 1)) (18836 + 36 * (j + 1)) 2113 [(6, .int bb), (5, .int kk), (0, .ref b), (1, .ref q.1), (2, .ref q.2.2), (3, .ref q.2.1), (4, .int (nI (5 * j)))] [] := by
    refine l_go hF sgLW_2113_d6ad8 2388 [(6, .int bb), (5, .int kk), (0, .ref b), (1, .ref q.1), (2, .ref q.2.2), (3, .ref q.2.1), (4, .int (nI (5 * j)))] [] sgLW_2113_d6ad8d rfl ?_
    refine l_drop [2, 3, 4, 5, 6] [(0, .ref b), (1, .ref q.1), (2, .ref q.2.2), (3, .ref q.2.1), (4, .int (nI (5 * j)))] rfl ?_
    exact kend T' S' o' hP
  refine l_ifne hF 2113 dLW_2098 (by decide) (fun _ => hend) (fun hk0 => ?_)
  refine l_go hF sgLW_2101_1f411 2103 [(6, .int bb), (5, .int kk), (0, .ref b), (1, .ref q.1), (2, .ref q.2.2), (3, .ref q.2.1), (4, .int (nI (5 * j)))] [.int 0, .ref q.2.1] sgLW_2101_1f411d rfl ?_
  refine l_out hF dLW_2103 ?_
  refine l_go hF sgLW_2104_abfd4 2108 [(6, .int bb), (5, .int kk), (0, .ref b), (1, .ref q.1), (2, .ref q.2.2), (3, .ref q.2.1), (4, .int (nI (5 * j)))] [.int (lg_cmp (o' 0) bb.toInt64)] sgLW_2104_abfd4d rfl ?_
  refine l_top 0 (by rw [ho hk0]; exact lg_cmp_s _) ?_
  exact l_ifeq hF 2113 dLW_2108 (by decide) (fun _ => hend) (fun c9 => absurd rfl c9)
def sgLW_2116_1478f : List Instr := [.aload_n 1, .aload_n 0, .iload 4, .iconst 1, .iadd]
theorem sgLW_2116_1478fd : am_dec code 2116 sgLW_2116_1478f = true := by decide +kernel
theorem dLW_2122 : decode code 2122 = .ok (.iaload, 1) := by decide +kernel
def sgLW_2123_1d7ba : List Instr := [.aload_n 0, .iload 4, .iconst 2, .iadd]
theorem sgLW_2123_1d7bad : am_dec code 2123 sgLW_2123_1d7ba = true := by decide +kernel
theorem dLW_2128 : decode code 2128 = .ok (.iaload, 1) := by decide +kernel
def sgLW_2129_0eb71 : List Instr := [.aload_n 0, .iload 4, .iconst 3, .iadd]
theorem sgLW_2129_0eb71d : am_dec code 2129 sgLW_2129_0eb71 = true := by decide +kernel
theorem dLW_2134 : decode code 2134 = .ok (.iaload, 1) := by decide +kernel
def sgLW_2135_67016 : List Instr := [.aload_n 3]
theorem sgLW_2135_67016d : am_dec code 2135 sgLW_2135_67016 = true := by decide +kernel
theorem dLW_2136 : decode code 2136 = .ok (.invokestatic 234, 3) := by decide +kernel
def sgLW_2139_523aa : List Instr := [.istore 5, .aload_n 2, .aload_n 0, .iload 4, .iconst 1, .iadd]
theorem sgLW_2139_523aad : am_dec code 2139 sgLW_2139_523aa = true := by decide +kernel
theorem dLW_2147 : decode code 2147 = .ok (.iaload, 1) := by decide +kernel
def sgLW_2148_1d7ba : List Instr := [.aload_n 0, .iload 4, .iconst 2, .iadd]
theorem sgLW_2148_1d7bad : am_dec code 2148 sgLW_2148_1d7ba = true := by decide +kernel
theorem dLW_2153 : decode code 2153 = .ok (.iaload, 1) := by decide +kernel
def sgLW_2154_0eb71 : List Instr := [.aload_n 0, .iload 4, .iconst 3, .iadd]
theorem sgLW_2154_0eb71d : am_dec code 2154 sgLW_2154_0eb71 = true := by decide +kernel
theorem dLW_2159 : decode code 2159 = .ok (.iaload, 1) := by decide +kernel
theorem dLW_2160 : decode code 2160 = .ok (.invokevirtual 236, 3) := by decide +kernel
def sgLW_2163_2d201 : List Instr := [.istore 6, .aload_n 2]
theorem sgLW_2163_2d201d : am_dec code 2163 sgLW_2163_2d201 = true := by decide +kernel
theorem dLW_2166 : decode code 2166 = .ok (.invokevirtual 133, 3) := by decide +kernel
def sgLW_2169_9df92 : List Instr := [.iload 5]
theorem sgLW_2169_9df92d : am_dec code 2169 sgLW_2169_9df92 = true := by decide +kernel
theorem dLW_2171 : decode code 2171 = .ok (.if_icmp .eq 5, 3) := by decide +kernel
def sgLW_2176_9df92 : List Instr := [.iload 5]
theorem sgLW_2176_9df92d : am_dec code 2176 sgLW_2176_9df92 = true := by decide +kernel
theorem dLW_2178 : decode code 2178 = .ok (.ifCond .ne 15, 3) := by decide +kernel
def sgLW_2193_5781a : List Instr := [.goto 195]
theorem sgLW_2193_5781ad : am_dec code 2193 sgLW_2193_5781a = true := by decide +kernel
def sgLW_2181_1f411 : List Instr := [.aload_n 3, .iconst 0]
theorem sgLW_2181_1f411d : am_dec code 2181 sgLW_2181_1f411 = true := by decide +kernel
theorem dLW_2183 : decode code 2183 = .ok (.laload, 1) := by decide +kernel
def sgLW_2184_abfd4 : List Instr := [.iload 6, .i2l, .lcmp]
theorem sgLW_2184_abfd4d : am_dec code 2184 sgLW_2184_abfd4 = true := by decide +kernel
theorem dLW_2188 : decode code 2188 = .ok (.ifCond .eq 5, 3) := by decide +kernel
set_option maxRecDepth 100000 in
set_option maxHeartbeats 2000000 in
theorem law_digest {C : am_Cx} {q : Nat × Nat × Nat} {w0 : Cond} {b N : Nat} {xs : Nat → Int32} (hF : am_F C code 7 RL (w0 :: am_G)) (hK9 : am_K C.n0 C.dg C.ty C.st) (hro : C.ro = room_1) (hXs : va_X b N xs C.st C.st.heap) (hbl : b < C.st.heap.size) (hbA : ¬ C.n0 ≤ b) (hN : N ≤ 2560) {T S : am_T} {o : Nat → Int64} {P : am_T → am_T → Prop} {j : Nat} (hj : 5 * j + 5 ≤ N) (hop : ∀ x1 x2 x3 : Int32, ∃ (kk bb : Int32) (T' S' : am_T) (o' : Nat → Int64), am_D C.se yL_digest (.codeWith yL_digest cL_digest 6 (some .int) [(0, 12, 15, 13), (0, 12, 19, 21), (0, 12, 23, 112)] :: am_G) am_WR (hp T S o) [.ref 0, .int x1, .int x2, .int x3, .ref 464] (hp T' S o') (some (.int kk)) ∧ am_D C.se yX6_digest (.code yX6_digest cX6_digest 7 (some .int) :: am_G) { frames := 3, cells := 0, slots := 0, locals := 65 } (hp T' S o') [.ref 465, .int x1, .int x2, .int x3] (hp T' S' o') (some (.int bb)) ∧ S' 0 0 = kk ∧ (kk = 0 → o' 0 = bb.toInt64) ∧ P T' S') (kend : ∀ (T' S' : am_T) (o' : Nat → Int64), P T' S' → lW C q (hp T' S' o') (71 + 4 * (j + 1)) (18836 + 36 * (j + 1)) 2388 [(0, .ref b), (1, .ref q.1), (2, .ref q.2.2), (3, .ref q.2.1), (4, .int (nI (5 * j)))] []) : lW C q (hp T S o) (71 + 4 * j) (18836 + 36 * j) 2116 [(0, .ref b), (1, .ref q.1), (2, .ref q.2.2), (3, .ref q.2.1), (4, .int (nI (5 * j)))] [] := by
  refine l_go hF sgLW_2116_1478f 2122 [(0, .ref b), (1, .ref q.1), (2, .ref q.2.2), (3, .ref q.2.1), (4, .int (nI (5 * j)))] [.int (nI (5 * j) + 1), .ref b, .ref q.1] sgLW_2116_1478fd rfl ?_
  refine l_sld hF hXs hbl hbA (5 * j + 1) (am_ad rfl rfl) (by omega) (by omega) dLW_2122 ?_
  refine l_go hF sgLW_2123_1d7ba 2128 [(0, .ref b), (1, .ref q.1), (2, .ref q.2.2), (3, .ref q.2.1), (4, .int (nI (5 * j)))] [.int (nI (5 * j) + 2), .ref b, .int (xs (5 * j + 1)), .ref q.1] sgLW_2123_1d7bad rfl ?_
  refine l_sld hF hXs hbl hbA (5 * j + 2) (am_ad rfl rfl) (by omega) (by omega) dLW_2128 ?_
  refine l_go hF sgLW_2129_0eb71 2134 [(0, .ref b), (1, .ref q.1), (2, .ref q.2.2), (3, .ref q.2.1), (4, .int (nI (5 * j)))] [.int (nI (5 * j) + 3), .ref b, .int (xs (5 * j + 2)), .int (xs (5 * j + 1)), .ref q.1] sgLW_2129_0eb71d rfl ?_
  refine l_sld hF hXs hbl hbA (5 * j + 3) (am_ad rfl rfl) (by omega) (by omega) dLW_2134 ?_
  refine l_go hF sgLW_2135_67016 2136 [(0, .ref b), (1, .ref q.1), (2, .ref q.2.2), (3, .ref q.2.1), (4, .int (nI (5 * j)))] [.ref q.2.1, .int (xs (5 * j + 3)), .int (xs (5 * j + 2)), .int (xs (5 * j + 1)), .ref q.1] sgLW_2135_67016d rfl ?_
  obtain ⟨kk, bb, T', S', o', hw, hr, hth, ho, hP⟩ := hop (xs (5 * j + 1)) (xs (5 * j + 2)) (xs (5 * j + 3))
  refine l_dS hF hK9 [.ref 0, .int (xs (5 * j + 1)), .int (xs (5 * j + 2)), .int (xs (5 * j + 3)), .ref 464] [.ref q.1, .int (xs (5 * j + 1)), .int (xs (5 * j + 2)), .int (xs (5 * j + 3)), .ref q.2.1] [] hw mwyL_digest swyL_digest lm_RL_234 rfl (71 + 4 * (j + 1)) (18836 + 36 * (j + 1)) (by rw [hro]; exact ⟨Nat.le_of_ble_eq_true rfl, Nat.le_of_ble_eq_true rfl⟩) ⟨by show _ + 4 ≤ _; omega, by show _ + 36 ≤ _; omega, by rw [hro]; show _ ≤ 601024; omega, by rw [hro]; show _ ≤ 7293034; omega⟩ rfl (fun ad h => by simp only [List.map_cons, List.map_nil, am_v, h.1, h.2.1]) (hp_q _ _ _) (Nat.le_of_ble_eq_true rfl) dLW_2136 ?_
  refine l_go hF sgLW_2139_523aa 2147 [(5, .int kk), (0, .ref b), (1, .ref q.1), (2, .ref q.2.2), (3, .ref q.2.1), (4, .int (nI (5 * j)))] [.int (nI (5 * j) + 1), .ref b, .ref q.2.2] sgLW_2139_523aad rfl ?_
  refine l_sld hF hXs hbl hbA (5 * j + 1) (am_ad rfl rfl) (by omega) (by omega) dLW_2147 ?_
  refine l_go hF sgLW_2148_1d7ba 2153 [(5, .int kk), (0, .ref b), (1, .ref q.1), (2, .ref q.2.2), (3, .ref q.2.1), (4, .int (nI (5 * j)))] [.int (nI (5 * j) + 2), .ref b, .int (xs (5 * j + 1)), .ref q.2.2] sgLW_2148_1d7bad rfl ?_
  refine l_sld hF hXs hbl hbA (5 * j + 2) (am_ad rfl rfl) (by omega) (by omega) dLW_2153 ?_
  refine l_go hF sgLW_2154_0eb71 2159 [(5, .int kk), (0, .ref b), (1, .ref q.1), (2, .ref q.2.2), (3, .ref q.2.1), (4, .int (nI (5 * j)))] [.int (nI (5 * j) + 3), .ref b, .int (xs (5 * j + 2)), .int (xs (5 * j + 1)), .ref q.2.2] sgLW_2154_0eb71d rfl ?_
  refine l_sld hF hXs hbl hbA (5 * j + 3) (am_ad rfl rfl) (by omega) (by omega) dLW_2159 ?_
  refine l_dV hF hK9 (b := 465) [.int (xs (5 * j + 1)), .int (xs (5 * j + 2)), .int (xs (5 * j + 3))] [.int (xs (5 * j + 1)), .int (xs (5 * j + 2)), .int (xs (5 * j + 3))] [] hr myX6_digest vyX6_digest lm_RL_236 (hp_m _ _ _) rfl rfl (71 + 4 * (j + 1)) (18836 + 36 * (j + 1)) (by rw [hro]; exact ⟨Nat.le_of_ble_eq_true rfl, Nat.le_of_ble_eq_true rfl⟩) ⟨by show _ + 0 ≤ _; omega, by show _ + 0 ≤ _; omega, by rw [hro]; show _ ≤ 601024; omega, by rw [hro]; show _ ≤ 7293034; omega⟩ rfl (fun ad h => h.2.2) (fun ad => rfl) (hp_q _ _ _) (Nat.le_of_ble_eq_true rfl) dLW_2160 ?_
  refine l_go hF sgLW_2163_2d201 2166 [(6, .int bb), (5, .int kk), (0, .ref b), (1, .ref q.1), (2, .ref q.2.2), (3, .ref q.2.1), (4, .int (nI (5 * j)))] [.ref q.2.2] sgLW_2163_2d201d rfl ?_
  refine l_dV hF hK9 (b := 465) [] [] [] (c_r_thrown (T := T') (S := S') (o := o')) myX6_thrown vyX6_thrown lm_RL_133 (hp_m _ _ _) rfl rfl (71 + 4 * (j + 1)) (18836 + 36 * (j + 1)) (by rw [hro]; exact ⟨Nat.le_of_ble_eq_true rfl, Nat.le_of_ble_eq_true rfl⟩) ⟨by show _ + 0 ≤ _; omega, by show _ + 0 ≤ _; omega, by rw [hro]; show _ ≤ 601024; omega, by rw [hro]; show _ ≤ 7293034; omega⟩ rfl (fun ad h => h.2.2) (fun ad => rfl) (hp_q _ _ _) (Nat.le_of_ble_eq_true rfl) dLW_2166 ?_
  refine l_go hF sgLW_2169_9df92 2171 [(6, .int bb), (5, .int kk), (0, .ref b), (1, .ref q.1), (2, .ref q.2.2), (3, .ref q.2.1), (4, .int (nI (5 * j)))] [.int kk, .int (S' 0 0)] sgLW_2169_9df92d rfl ?_
  refine l_icmpeq hF 2176 dLW_2171 (by decide) (fun _ => ?_) (fun c9 => absurd hth c9)
  refine l_go hF sgLW_2176_9df92 2178 [(6, .int bb), (5, .int kk), (0, .ref b), (1, .ref q.1), (2, .ref q.2.2), (3, .ref q.2.1), (4, .int (nI (5 * j)))] [.int kk] sgLW_2176_9df92d rfl ?_
  have hend : lW C q (hp T' S' o') (71 + 4 * (j + 1)) (18836 + 36 * (j + 1)) 2193 [(6, .int bb), (5, .int kk), (0, .ref b), (1, .ref q.1), (2, .ref q.2.2), (3, .ref q.2.1), (4, .int (nI (5 * j)))] [] := by
    refine l_go hF sgLW_2193_5781a 2388 [(6, .int bb), (5, .int kk), (0, .ref b), (1, .ref q.1), (2, .ref q.2.2), (3, .ref q.2.1), (4, .int (nI (5 * j)))] [] sgLW_2193_5781ad rfl ?_
    refine l_drop [2, 3, 4, 5, 6] [(0, .ref b), (1, .ref q.1), (2, .ref q.2.2), (3, .ref q.2.1), (4, .int (nI (5 * j)))] rfl ?_
    exact kend T' S' o' hP
  refine l_ifne hF 2193 dLW_2178 (by decide) (fun _ => hend) (fun hk0 => ?_)
  refine l_go hF sgLW_2181_1f411 2183 [(6, .int bb), (5, .int kk), (0, .ref b), (1, .ref q.1), (2, .ref q.2.2), (3, .ref q.2.1), (4, .int (nI (5 * j)))] [.int 0, .ref q.2.1] sgLW_2181_1f411d rfl ?_
  refine l_out hF dLW_2183 ?_
  refine l_go hF sgLW_2184_abfd4 2188 [(6, .int bb), (5, .int kk), (0, .ref b), (1, .ref q.1), (2, .ref q.2.2), (3, .ref q.2.1), (4, .int (nI (5 * j)))] [.int (lg_cmp (o' 0) bb.toInt64)] sgLW_2184_abfd4d rfl ?_
  refine l_top 0 (by rw [ho hk0]; exact lg_cmp_s _) ?_
  exact l_ifeq hF 2193 dLW_2188 (by decide) (fun _ => hend) (fun c9 => absurd rfl c9)
def sgLW_2196_1478f : List Instr := [.aload_n 1, .aload_n 0, .iload 4, .iconst 1, .iadd]
theorem sgLW_2196_1478fd : am_dec code 2196 sgLW_2196_1478f = true := by decide +kernel
theorem dLW_2202 : decode code 2202 = .ok (.iaload, 1) := by decide +kernel
def sgLW_2203_1d7ba : List Instr := [.aload_n 0, .iload 4, .iconst 2, .iadd]
theorem sgLW_2203_1d7bad : am_dec code 2203 sgLW_2203_1d7ba = true := by decide +kernel
theorem dLW_2208 : decode code 2208 = .ok (.iaload, 1) := by decide +kernel
def sgLW_2209_67016 : List Instr := [.aload_n 3]
theorem sgLW_2209_67016d : am_dec code 2209 sgLW_2209_67016 = true := by decide +kernel
theorem dLW_2210 : decode code 2210 = .ok (.invokestatic 237, 3) := by decide +kernel
def sgLW_2213_523aa : List Instr := [.istore 5, .aload_n 2, .aload_n 0, .iload 4, .iconst 1, .iadd]
theorem sgLW_2213_523aad : am_dec code 2213 sgLW_2213_523aa = true := by decide +kernel
theorem dLW_2221 : decode code 2221 = .ok (.iaload, 1) := by decide +kernel
def sgLW_2222_1d7ba : List Instr := [.aload_n 0, .iload 4, .iconst 2, .iadd]
theorem sgLW_2222_1d7bad : am_dec code 2222 sgLW_2222_1d7ba = true := by decide +kernel
theorem dLW_2227 : decode code 2227 = .ok (.iaload, 1) := by decide +kernel
theorem dLW_2228 : decode code 2228 = .ok (.invokevirtual 239, 3) := by decide +kernel
def sgLW_2231_2d201 : List Instr := [.istore 6, .aload_n 2]
theorem sgLW_2231_2d201d : am_dec code 2231 sgLW_2231_2d201 = true := by decide +kernel
theorem dLW_2234 : decode code 2234 = .ok (.invokevirtual 133, 3) := by decide +kernel
def sgLW_2237_9df92 : List Instr := [.iload 5]
theorem sgLW_2237_9df92d : am_dec code 2237 sgLW_2237_9df92 = true := by decide +kernel
theorem dLW_2239 : decode code 2239 = .ok (.if_icmp .eq 5, 3) := by decide +kernel
def sgLW_2244_9df92 : List Instr := [.iload 5]
theorem sgLW_2244_9df92d : am_dec code 2244 sgLW_2244_9df92 = true := by decide +kernel
theorem dLW_2246 : decode code 2246 = .ok (.ifCond .ne 15, 3) := by decide +kernel
def sgLW_2261_96618 : List Instr := [.goto 127]
theorem sgLW_2261_96618d : am_dec code 2261 sgLW_2261_96618 = true := by decide +kernel
def sgLW_2249_1f411 : List Instr := [.aload_n 3, .iconst 0]
theorem sgLW_2249_1f411d : am_dec code 2249 sgLW_2249_1f411 = true := by decide +kernel
theorem dLW_2251 : decode code 2251 = .ok (.laload, 1) := by decide +kernel
def sgLW_2252_abfd4 : List Instr := [.iload 6, .i2l, .lcmp]
theorem sgLW_2252_abfd4d : am_dec code 2252 sgLW_2252_abfd4 = true := by decide +kernel
theorem dLW_2256 : decode code 2256 = .ok (.ifCond .eq 5, 3) := by decide +kernel
set_option maxRecDepth 100000 in
set_option maxHeartbeats 2000000 in
theorem law_edition {C : am_Cx} {q : Nat × Nat × Nat} {w0 : Cond} {b N : Nat} {xs : Nat → Int32} (hF : am_F C code 7 RL (w0 :: am_G)) (hK9 : am_K C.n0 C.dg C.ty C.st) (hro : C.ro = room_1) (hXs : va_X b N xs C.st C.st.heap) (hbl : b < C.st.heap.size) (hbA : ¬ C.n0 ≤ b) (hN : N ≤ 2560) {T S : am_T} {o : Nat → Int64} {P : am_T → am_T → Prop} {j : Nat} (hj : 5 * j + 5 ≤ N) (hop : ∀ x1 x2 : Int32, ∃ (kk bb : Int32) (T' S' : am_T) (o' : Nat → Int64), am_D C.se yL_edition (.codeWith yL_edition cL_edition 5 (some .int) [(0, 10, 13, 13), (0, 10, 17, 21)] :: am_G) am_WR (hp T S o) [.ref 0, .int x1, .int x2, .ref 464] (hp T' S o') (some (.int kk)) ∧ am_D C.se yX6_edition (.code yX6_edition cX6_edition 3 (some .int) :: am_G) { frames := 3, cells := 0, slots := 0, locals := 65 } (hp T' S o') [.ref 465, .int x1, .int x2] (hp T' S' o') (some (.int bb)) ∧ S' 0 0 = kk ∧ (kk = 0 → o' 0 = bb.toInt64) ∧ P T' S') (kend : ∀ (T' S' : am_T) (o' : Nat → Int64), P T' S' → lW C q (hp T' S' o') (71 + 4 * (j + 1)) (18836 + 36 * (j + 1)) 2388 [(0, .ref b), (1, .ref q.1), (2, .ref q.2.2), (3, .ref q.2.1), (4, .int (nI (5 * j)))] []) : lW C q (hp T S o) (71 + 4 * j) (18836 + 36 * j) 2196 [(0, .ref b), (1, .ref q.1), (2, .ref q.2.2), (3, .ref q.2.1), (4, .int (nI (5 * j)))] [] := by
  refine l_go hF sgLW_2196_1478f 2202 [(0, .ref b), (1, .ref q.1), (2, .ref q.2.2), (3, .ref q.2.1), (4, .int (nI (5 * j)))] [.int (nI (5 * j) + 1), .ref b, .ref q.1] sgLW_2196_1478fd rfl ?_
  refine l_sld hF hXs hbl hbA (5 * j + 1) (am_ad rfl rfl) (by omega) (by omega) dLW_2202 ?_
  refine l_go hF sgLW_2203_1d7ba 2208 [(0, .ref b), (1, .ref q.1), (2, .ref q.2.2), (3, .ref q.2.1), (4, .int (nI (5 * j)))] [.int (nI (5 * j) + 2), .ref b, .int (xs (5 * j + 1)), .ref q.1] sgLW_2203_1d7bad rfl ?_
  refine l_sld hF hXs hbl hbA (5 * j + 2) (am_ad rfl rfl) (by omega) (by omega) dLW_2208 ?_
  refine l_go hF sgLW_2209_67016 2210 [(0, .ref b), (1, .ref q.1), (2, .ref q.2.2), (3, .ref q.2.1), (4, .int (nI (5 * j)))] [.ref q.2.1, .int (xs (5 * j + 2)), .int (xs (5 * j + 1)), .ref q.1] sgLW_2209_67016d rfl ?_
  obtain ⟨kk, bb, T', S', o', hw, hr, hth, ho, hP⟩ := hop (xs (5 * j + 1)) (xs (5 * j + 2))
  refine l_dS hF hK9 [.ref 0, .int (xs (5 * j + 1)), .int (xs (5 * j + 2)), .ref 464] [.ref q.1, .int (xs (5 * j + 1)), .int (xs (5 * j + 2)), .ref q.2.1] [] hw mwyL_edition swyL_edition lm_RL_237 rfl (71 + 4 * (j + 1)) (18836 + 36 * (j + 1)) (by rw [hro]; exact ⟨Nat.le_of_ble_eq_true rfl, Nat.le_of_ble_eq_true rfl⟩) ⟨by show _ + 4 ≤ _; omega, by show _ + 36 ≤ _; omega, by rw [hro]; show _ ≤ 601024; omega, by rw [hro]; show _ ≤ 7293034; omega⟩ rfl (fun ad h => by simp only [List.map_cons, List.map_nil, am_v, h.1, h.2.1]) (hp_q _ _ _) (Nat.le_of_ble_eq_true rfl) dLW_2210 ?_
  refine l_go hF sgLW_2213_523aa 2221 [(5, .int kk), (0, .ref b), (1, .ref q.1), (2, .ref q.2.2), (3, .ref q.2.1), (4, .int (nI (5 * j)))] [.int (nI (5 * j) + 1), .ref b, .ref q.2.2] sgLW_2213_523aad rfl ?_
  refine l_sld hF hXs hbl hbA (5 * j + 1) (am_ad rfl rfl) (by omega) (by omega) dLW_2221 ?_
  refine l_go hF sgLW_2222_1d7ba 2227 [(5, .int kk), (0, .ref b), (1, .ref q.1), (2, .ref q.2.2), (3, .ref q.2.1), (4, .int (nI (5 * j)))] [.int (nI (5 * j) + 2), .ref b, .int (xs (5 * j + 1)), .ref q.2.2] sgLW_2222_1d7bad rfl ?_
  refine l_sld hF hXs hbl hbA (5 * j + 2) (am_ad rfl rfl) (by omega) (by omega) dLW_2227 ?_
  refine l_dV hF hK9 (b := 465) [.int (xs (5 * j + 1)), .int (xs (5 * j + 2))] [.int (xs (5 * j + 1)), .int (xs (5 * j + 2))] [] hr myX6_edition vyX6_edition lm_RL_239 (hp_m _ _ _) rfl rfl (71 + 4 * (j + 1)) (18836 + 36 * (j + 1)) (by rw [hro]; exact ⟨Nat.le_of_ble_eq_true rfl, Nat.le_of_ble_eq_true rfl⟩) ⟨by show _ + 0 ≤ _; omega, by show _ + 0 ≤ _; omega, by rw [hro]; show _ ≤ 601024; omega, by rw [hro]; show _ ≤ 7293034; omega⟩ rfl (fun ad h => h.2.2) (fun ad => rfl) (hp_q _ _ _) (Nat.le_of_ble_eq_true rfl) dLW_2228 ?_
  refine l_go hF sgLW_2231_2d201 2234 [(6, .int bb), (5, .int kk), (0, .ref b), (1, .ref q.1), (2, .ref q.2.2), (3, .ref q.2.1), (4, .int (nI (5 * j)))] [.ref q.2.2] sgLW_2231_2d201d rfl ?_
  refine l_dV hF hK9 (b := 465) [] [] [] (c_r_thrown (T := T') (S := S') (o := o')) myX6_thrown vyX6_thrown lm_RL_133 (hp_m _ _ _) rfl rfl (71 + 4 * (j + 1)) (18836 + 36 * (j + 1)) (by rw [hro]; exact ⟨Nat.le_of_ble_eq_true rfl, Nat.le_of_ble_eq_true rfl⟩) ⟨by show _ + 0 ≤ _; omega, by show _ + 0 ≤ _; omega, by rw [hro]; show _ ≤ 601024; omega, by rw [hro]; show _ ≤ 7293034; omega⟩ rfl (fun ad h => h.2.2) (fun ad => rfl) (hp_q _ _ _) (Nat.le_of_ble_eq_true rfl) dLW_2234 ?_
  refine l_go hF sgLW_2237_9df92 2239 [(6, .int bb), (5, .int kk), (0, .ref b), (1, .ref q.1), (2, .ref q.2.2), (3, .ref q.2.1), (4, .int (nI (5 * j)))] [.int kk, .int (S' 0 0)] sgLW_2237_9df92d rfl ?_
  refine l_icmpeq hF 2244 dLW_2239 (by decide) (fun _ => ?_) (fun c9 => absurd hth c9)
  refine l_go hF sgLW_2244_9df92 2246 [(6, .int bb), (5, .int kk), (0, .ref b), (1, .ref q.1), (2, .ref q.2.2), (3, .ref q.2.1), (4, .int (nI (5 * j)))] [.int kk] sgLW_2244_9df92d rfl ?_
  have hend : lW C q (hp T' S' o') (71 + 4 * (j + 1)) (18836 + 36 * (j + 1)) 2261 [(6, .int bb), (5, .int kk), (0, .ref b), (1, .ref q.1), (2, .ref q.2.2), (3, .ref q.2.1), (4, .int (nI (5 * j)))] [] := by
    refine l_go hF sgLW_2261_96618 2388 [(6, .int bb), (5, .int kk), (0, .ref b), (1, .ref q.1), (2, .ref q.2.2), (3, .ref q.2.1), (4, .int (nI (5 * j)))] [] sgLW_2261_96618d rfl ?_
    refine l_drop [2, 3, 4, 5, 6] [(0, .ref b), (1, .ref q.1), (2, .ref q.2.2), (3, .ref q.2.1), (4, .int (nI (5 * j)))] rfl ?_
    exact kend T' S' o' hP
  refine l_ifne hF 2261 dLW_2246 (by decide) (fun _ => hend) (fun hk0 => ?_)
  refine l_go hF sgLW_2249_1f411 2251 [(6, .int bb), (5, .int kk), (0, .ref b), (1, .ref q.1), (2, .ref q.2.2), (3, .ref q.2.1), (4, .int (nI (5 * j)))] [.int 0, .ref q.2.1] sgLW_2249_1f411d rfl ?_
  refine l_out hF dLW_2251 ?_
  refine l_go hF sgLW_2252_abfd4 2256 [(6, .int bb), (5, .int kk), (0, .ref b), (1, .ref q.1), (2, .ref q.2.2), (3, .ref q.2.1), (4, .int (nI (5 * j)))] [.int (lg_cmp (o' 0) bb.toInt64)] sgLW_2252_abfd4d rfl ?_
  refine l_top 0 (by rw [ho hk0]; exact lg_cmp_s _) ?_
  exact l_ifeq hF 2261 dLW_2256 (by decide) (fun _ => hend) (fun c9 => absurd rfl c9)
def sgLW_2264_1478f : List Instr := [.aload_n 1, .aload_n 0, .iload 4, .iconst 1, .iadd]
theorem sgLW_2264_1478fd : am_dec code 2264 sgLW_2264_1478f = true := by decide +kernel
theorem dLW_2270 : decode code 2270 = .ok (.iaload, 1) := by decide +kernel
def sgLW_2271_1d7ba : List Instr := [.aload_n 0, .iload 4, .iconst 2, .iadd]
theorem sgLW_2271_1d7bad : am_dec code 2271 sgLW_2271_1d7ba = true := by decide +kernel
theorem dLW_2276 : decode code 2276 = .ok (.iaload, 1) := by decide +kernel
def sgLW_2277_67016 : List Instr := [.aload_n 3]
theorem sgLW_2277_67016d : am_dec code 2277 sgLW_2277_67016 = true := by decide +kernel
theorem dLW_2278 : decode code 2278 = .ok (.invokestatic 240, 3) := by decide +kernel
def sgLW_2281_523aa : List Instr := [.istore 5, .aload_n 2, .aload_n 0, .iload 4, .iconst 1, .iadd]
theorem sgLW_2281_523aad : am_dec code 2281 sgLW_2281_523aa = true := by decide +kernel
theorem dLW_2289 : decode code 2289 = .ok (.iaload, 1) := by decide +kernel
def sgLW_2290_1d7ba : List Instr := [.aload_n 0, .iload 4, .iconst 2, .iadd]
theorem sgLW_2290_1d7bad : am_dec code 2290 sgLW_2290_1d7ba = true := by decide +kernel
theorem dLW_2295 : decode code 2295 = .ok (.iaload, 1) := by decide +kernel
theorem dLW_2296 : decode code 2296 = .ok (.invokevirtual 242, 3) := by decide +kernel
def sgLW_2299_2d201 : List Instr := [.istore 6, .aload_n 2]
theorem sgLW_2299_2d201d : am_dec code 2299 sgLW_2299_2d201 = true := by decide +kernel
theorem dLW_2302 : decode code 2302 = .ok (.invokevirtual 133, 3) := by decide +kernel
def sgLW_2305_9df92 : List Instr := [.iload 5]
theorem sgLW_2305_9df92d : am_dec code 2305 sgLW_2305_9df92 = true := by decide +kernel
theorem dLW_2307 : decode code 2307 = .ok (.if_icmp .eq 5, 3) := by decide +kernel
def sgLW_2312_9df92 : List Instr := [.iload 5]
theorem sgLW_2312_9df92d : am_dec code 2312 sgLW_2312_9df92 = true := by decide +kernel
theorem dLW_2314 : decode code 2314 = .ok (.ifCond .ne 15, 3) := by decide +kernel
def sgLW_2329_118cd : List Instr := [.goto 59]
theorem sgLW_2329_118cdd : am_dec code 2329 sgLW_2329_118cd = true := by decide +kernel
def sgLW_2317_1f411 : List Instr := [.aload_n 3, .iconst 0]
theorem sgLW_2317_1f411d : am_dec code 2317 sgLW_2317_1f411 = true := by decide +kernel
theorem dLW_2319 : decode code 2319 = .ok (.laload, 1) := by decide +kernel
def sgLW_2320_abfd4 : List Instr := [.iload 6, .i2l, .lcmp]
theorem sgLW_2320_abfd4d : am_dec code 2320 sgLW_2320_abfd4 = true := by decide +kernel
theorem dLW_2324 : decode code 2324 = .ok (.ifCond .eq 5, 3) := by decide +kernel
set_option maxRecDepth 100000 in
set_option maxHeartbeats 2000000 in
theorem law_readers {C : am_Cx} {q : Nat × Nat × Nat} {w0 : Cond} {b N : Nat} {xs : Nat → Int32} (hF : am_F C code 7 RL (w0 :: am_G)) (hK9 : am_K C.n0 C.dg C.ty C.st) (hro : C.ro = room_1) (hXs : va_X b N xs C.st C.st.heap) (hbl : b < C.st.heap.size) (hbA : ¬ C.n0 ≤ b) (hN : N ≤ 2560) {T S : am_T} {o : Nat → Int64} {P : am_T → am_T → Prop} {j : Nat} (hj : 5 * j + 5 ≤ N) (hop : ∀ x1 x2 : Int32, ∃ (kk bb : Int32) (T' S' : am_T) (o' : Nat → Int64), am_D C.se yL_readers (.codeWith yL_readers cL_readers 5 (some .int) [(0, 10, 13, 13), (0, 10, 17, 21)] :: am_G) am_WR (hp T S o) [.ref 0, .int x1, .int x2, .ref 464] (hp T' S o') (some (.int kk)) ∧ am_D C.se yX6_readers (.code yX6_readers cX6_readers 3 (some .int) :: am_G) { frames := 3, cells := 0, slots := 0, locals := 65 } (hp T' S o') [.ref 465, .int x1, .int x2] (hp T' S' o') (some (.int bb)) ∧ S' 0 0 = kk ∧ (kk = 0 → o' 0 = bb.toInt64) ∧ P T' S') (kend : ∀ (T' S' : am_T) (o' : Nat → Int64), P T' S' → lW C q (hp T' S' o') (71 + 4 * (j + 1)) (18836 + 36 * (j + 1)) 2388 [(0, .ref b), (1, .ref q.1), (2, .ref q.2.2), (3, .ref q.2.1), (4, .int (nI (5 * j)))] []) : lW C q (hp T S o) (71 + 4 * j) (18836 + 36 * j) 2264 [(0, .ref b), (1, .ref q.1), (2, .ref q.2.2), (3, .ref q.2.1), (4, .int (nI (5 * j)))] [] := by
  refine l_go hF sgLW_2264_1478f 2270 [(0, .ref b), (1, .ref q.1), (2, .ref q.2.2), (3, .ref q.2.1), (4, .int (nI (5 * j)))] [.int (nI (5 * j) + 1), .ref b, .ref q.1] sgLW_2264_1478fd rfl ?_
  refine l_sld hF hXs hbl hbA (5 * j + 1) (am_ad rfl rfl) (by omega) (by omega) dLW_2270 ?_
  refine l_go hF sgLW_2271_1d7ba 2276 [(0, .ref b), (1, .ref q.1), (2, .ref q.2.2), (3, .ref q.2.1), (4, .int (nI (5 * j)))] [.int (nI (5 * j) + 2), .ref b, .int (xs (5 * j + 1)), .ref q.1] sgLW_2271_1d7bad rfl ?_
  refine l_sld hF hXs hbl hbA (5 * j + 2) (am_ad rfl rfl) (by omega) (by omega) dLW_2276 ?_
  refine l_go hF sgLW_2277_67016 2278 [(0, .ref b), (1, .ref q.1), (2, .ref q.2.2), (3, .ref q.2.1), (4, .int (nI (5 * j)))] [.ref q.2.1, .int (xs (5 * j + 2)), .int (xs (5 * j + 1)), .ref q.1] sgLW_2277_67016d rfl ?_
  obtain ⟨kk, bb, T', S', o', hw, hr, hth, ho, hP⟩ := hop (xs (5 * j + 1)) (xs (5 * j + 2))
  refine l_dS hF hK9 [.ref 0, .int (xs (5 * j + 1)), .int (xs (5 * j + 2)), .ref 464] [.ref q.1, .int (xs (5 * j + 1)), .int (xs (5 * j + 2)), .ref q.2.1] [] hw mwyL_readers swyL_readers lm_RL_240 rfl (71 + 4 * (j + 1)) (18836 + 36 * (j + 1)) (by rw [hro]; exact ⟨Nat.le_of_ble_eq_true rfl, Nat.le_of_ble_eq_true rfl⟩) ⟨by show _ + 4 ≤ _; omega, by show _ + 36 ≤ _; omega, by rw [hro]; show _ ≤ 601024; omega, by rw [hro]; show _ ≤ 7293034; omega⟩ rfl (fun ad h => by simp only [List.map_cons, List.map_nil, am_v, h.1, h.2.1]) (hp_q _ _ _) (Nat.le_of_ble_eq_true rfl) dLW_2278 ?_
  refine l_go hF sgLW_2281_523aa 2289 [(5, .int kk), (0, .ref b), (1, .ref q.1), (2, .ref q.2.2), (3, .ref q.2.1), (4, .int (nI (5 * j)))] [.int (nI (5 * j) + 1), .ref b, .ref q.2.2] sgLW_2281_523aad rfl ?_
  refine l_sld hF hXs hbl hbA (5 * j + 1) (am_ad rfl rfl) (by omega) (by omega) dLW_2289 ?_
  refine l_go hF sgLW_2290_1d7ba 2295 [(5, .int kk), (0, .ref b), (1, .ref q.1), (2, .ref q.2.2), (3, .ref q.2.1), (4, .int (nI (5 * j)))] [.int (nI (5 * j) + 2), .ref b, .int (xs (5 * j + 1)), .ref q.2.2] sgLW_2290_1d7bad rfl ?_
  refine l_sld hF hXs hbl hbA (5 * j + 2) (am_ad rfl rfl) (by omega) (by omega) dLW_2295 ?_
  refine l_dV hF hK9 (b := 465) [.int (xs (5 * j + 1)), .int (xs (5 * j + 2))] [.int (xs (5 * j + 1)), .int (xs (5 * j + 2))] [] hr myX6_readers vyX6_readers lm_RL_242 (hp_m _ _ _) rfl rfl (71 + 4 * (j + 1)) (18836 + 36 * (j + 1)) (by rw [hro]; exact ⟨Nat.le_of_ble_eq_true rfl, Nat.le_of_ble_eq_true rfl⟩) ⟨by show _ + 0 ≤ _; omega, by show _ + 0 ≤ _; omega, by rw [hro]; show _ ≤ 601024; omega, by rw [hro]; show _ ≤ 7293034; omega⟩ rfl (fun ad h => h.2.2) (fun ad => rfl) (hp_q _ _ _) (Nat.le_of_ble_eq_true rfl) dLW_2296 ?_
  refine l_go hF sgLW_2299_2d201 2302 [(6, .int bb), (5, .int kk), (0, .ref b), (1, .ref q.1), (2, .ref q.2.2), (3, .ref q.2.1), (4, .int (nI (5 * j)))] [.ref q.2.2] sgLW_2299_2d201d rfl ?_
  refine l_dV hF hK9 (b := 465) [] [] [] (c_r_thrown (T := T') (S := S') (o := o')) myX6_thrown vyX6_thrown lm_RL_133 (hp_m _ _ _) rfl rfl (71 + 4 * (j + 1)) (18836 + 36 * (j + 1)) (by rw [hro]; exact ⟨Nat.le_of_ble_eq_true rfl, Nat.le_of_ble_eq_true rfl⟩) ⟨by show _ + 0 ≤ _; omega, by show _ + 0 ≤ _; omega, by rw [hro]; show _ ≤ 601024; omega, by rw [hro]; show _ ≤ 7293034; omega⟩ rfl (fun ad h => h.2.2) (fun ad => rfl) (hp_q _ _ _) (Nat.le_of_ble_eq_true rfl) dLW_2302 ?_
  refine l_go hF sgLW_2305_9df92 2307 [(6, .int bb), (5, .int kk), (0, .ref b), (1, .ref q.1), (2, .ref q.2.2), (3, .ref q.2.1), (4, .int (nI (5 * j)))] [.int kk, .int (S' 0 0)] sgLW_2305_9df92d rfl ?_
  refine l_icmpeq hF 2312 dLW_2307 (by decide) (fun _ => ?_) (fun c9 => absurd hth c9)
  refine l_go hF sgLW_2312_9df92 2314 [(6, .int bb), (5, .int kk), (0, .ref b), (1, .ref q.1), (2, .ref q.2.2), (3, .ref q.2.1), (4, .int (nI (5 * j)))] [.int kk] sgLW_2312_9df92d rfl ?_
  have hend : lW C q (hp T' S' o') (71 + 4 * (j + 1)) (18836 + 36 * (j + 1)) 2329 [(6, .int bb), (5, .int kk), (0, .ref b), (1, .ref q.1), (2, .ref q.2.2), (3, .ref q.2.1), (4, .int (nI (5 * j)))] [] := by
    refine l_go hF sgLW_2329_118cd 2388 [(6, .int bb), (5, .int kk), (0, .ref b), (1, .ref q.1), (2, .ref q.2.2), (3, .ref q.2.1), (4, .int (nI (5 * j)))] [] sgLW_2329_118cdd rfl ?_
    refine l_drop [2, 3, 4, 5, 6] [(0, .ref b), (1, .ref q.1), (2, .ref q.2.2), (3, .ref q.2.1), (4, .int (nI (5 * j)))] rfl ?_
    exact kend T' S' o' hP
  refine l_ifne hF 2329 dLW_2314 (by decide) (fun _ => hend) (fun hk0 => ?_)
  refine l_go hF sgLW_2317_1f411 2319 [(6, .int bb), (5, .int kk), (0, .ref b), (1, .ref q.1), (2, .ref q.2.2), (3, .ref q.2.1), (4, .int (nI (5 * j)))] [.int 0, .ref q.2.1] sgLW_2317_1f411d rfl ?_
  refine l_out hF dLW_2319 ?_
  refine l_go hF sgLW_2320_abfd4 2324 [(6, .int bb), (5, .int kk), (0, .ref b), (1, .ref q.1), (2, .ref q.2.2), (3, .ref q.2.1), (4, .int (nI (5 * j)))] [.int (lg_cmp (o' 0) bb.toInt64)] sgLW_2320_abfd4d rfl ?_
  refine l_top 0 (by rw [ho hk0]; exact lg_cmp_s _) ?_
  exact l_ifeq hF 2329 dLW_2324 (by decide) (fun _ => hend) (fun c9 => absurd rfl c9)
def sgLW_2332_1478f : List Instr := [.aload_n 1, .aload_n 0, .iload 4, .iconst 1, .iadd]
theorem sgLW_2332_1478fd : am_dec code 2332 sgLW_2332_1478f = true := by decide +kernel
theorem dLW_2338 : decode code 2338 = .ok (.iaload, 1) := by decide +kernel
def sgLW_2339_67016 : List Instr := [.aload_n 3]
theorem sgLW_2339_67016d : am_dec code 2339 sgLW_2339_67016 = true := by decide +kernel
theorem dLW_2340 : decode code 2340 = .ok (.invokestatic 243, 3) := by decide +kernel
def sgLW_2343_523aa : List Instr := [.istore 5, .aload_n 2, .aload_n 0, .iload 4, .iconst 1, .iadd]
theorem sgLW_2343_523aad : am_dec code 2343 sgLW_2343_523aa = true := by decide +kernel
theorem dLW_2351 : decode code 2351 = .ok (.iaload, 1) := by decide +kernel
theorem dLW_2352 : decode code 2352 = .ok (.invokevirtual 245, 3) := by decide +kernel
def sgLW_2355_2d201 : List Instr := [.istore 6, .aload_n 2]
theorem sgLW_2355_2d201d : am_dec code 2355 sgLW_2355_2d201 = true := by decide +kernel
theorem dLW_2358 : decode code 2358 = .ok (.invokevirtual 133, 3) := by decide +kernel
def sgLW_2361_9df92 : List Instr := [.iload 5]
theorem sgLW_2361_9df92d : am_dec code 2361 sgLW_2361_9df92 = true := by decide +kernel
theorem dLW_2363 : decode code 2363 = .ok (.if_icmp .eq 5, 3) := by decide +kernel
def sgLW_2368_9df92 : List Instr := [.iload 5]
theorem sgLW_2368_9df92d : am_dec code 2368 sgLW_2368_9df92 = true := by decide +kernel
theorem dLW_2370 : decode code 2370 = .ok (.ifCond .ne 15, 3) := by decide +kernel
def sgLW_2385_62baa : List Instr := [.goto 3]
theorem sgLW_2385_62baad : am_dec code 2385 sgLW_2385_62baa = true := by decide +kernel
def sgLW_2373_1f411 : List Instr := [.aload_n 3, .iconst 0]
theorem sgLW_2373_1f411d : am_dec code 2373 sgLW_2373_1f411 = true := by decide +kernel
theorem dLW_2375 : decode code 2375 = .ok (.laload, 1) := by decide +kernel
def sgLW_2376_abfd4 : List Instr := [.iload 6, .i2l, .lcmp]
theorem sgLW_2376_abfd4d : am_dec code 2376 sgLW_2376_abfd4 = true := by decide +kernel
theorem dLW_2380 : decode code 2380 = .ok (.ifCond .eq 5, 3) := by decide +kernel
set_option maxRecDepth 100000 in
set_option maxHeartbeats 2000000 in
theorem law_pass {C : am_Cx} {q : Nat × Nat × Nat} {w0 : Cond} {b N : Nat} {xs : Nat → Int32} (hF : am_F C code 7 RL (w0 :: am_G)) (hK9 : am_K C.n0 C.dg C.ty C.st) (hro : C.ro = room_1) (hXs : va_X b N xs C.st C.st.heap) (hbl : b < C.st.heap.size) (hbA : ¬ C.n0 ≤ b) (hN : N ≤ 2560) {T S : am_T} {o : Nat → Int64} {P : am_T → am_T → Prop} {j : Nat} (hj : 5 * j + 5 ≤ N) (hop : ∀ x1 : Int32, ∃ (kk bb : Int32) (T' S' : am_T) (o' : Nat → Int64), am_D C.se yL_pass (.codeWith yL_pass cL_pass 4 (some .int) [(0, 9, 12, 21), (0, 9, 15, 15)] :: am_G) am_WR (hp T S o) [.ref 0, .int x1, .ref 464] (hp T' S o') (some (.int kk)) ∧ am_D C.se yX6_pass (.code yX6_pass cX6_pass 4 (some .int) :: am_G) { frames := 1, cells := 0, slots := 0, locals := 22 } (hp T' S o') [.ref 465, .int x1] (hp T' S' o') (some (.int bb)) ∧ S' 0 0 = kk ∧ (kk = 0 → o' 0 = bb.toInt64) ∧ P T' S') (kend : ∀ (T' S' : am_T) (o' : Nat → Int64), P T' S' → lW C q (hp T' S' o') (71 + 4 * (j + 1)) (18836 + 36 * (j + 1)) 2388 [(0, .ref b), (1, .ref q.1), (2, .ref q.2.2), (3, .ref q.2.1), (4, .int (nI (5 * j)))] []) : lW C q (hp T S o) (71 + 4 * j) (18836 + 36 * j) 2332 [(0, .ref b), (1, .ref q.1), (2, .ref q.2.2), (3, .ref q.2.1), (4, .int (nI (5 * j)))] [] := by
  refine l_go hF sgLW_2332_1478f 2338 [(0, .ref b), (1, .ref q.1), (2, .ref q.2.2), (3, .ref q.2.1), (4, .int (nI (5 * j)))] [.int (nI (5 * j) + 1), .ref b, .ref q.1] sgLW_2332_1478fd rfl ?_
  refine l_sld hF hXs hbl hbA (5 * j + 1) (am_ad rfl rfl) (by omega) (by omega) dLW_2338 ?_
  refine l_go hF sgLW_2339_67016 2340 [(0, .ref b), (1, .ref q.1), (2, .ref q.2.2), (3, .ref q.2.1), (4, .int (nI (5 * j)))] [.ref q.2.1, .int (xs (5 * j + 1)), .ref q.1] sgLW_2339_67016d rfl ?_
  obtain ⟨kk, bb, T', S', o', hw, hr, hth, ho, hP⟩ := hop (xs (5 * j + 1))
  refine l_dS hF hK9 [.ref 0, .int (xs (5 * j + 1)), .ref 464] [.ref q.1, .int (xs (5 * j + 1)), .ref q.2.1] [] hw mwyL_pass swyL_pass lm_RL_243 rfl (71 + 4 * (j + 1)) (18836 + 36 * (j + 1)) (by rw [hro]; exact ⟨Nat.le_of_ble_eq_true rfl, Nat.le_of_ble_eq_true rfl⟩) ⟨by show _ + 4 ≤ _; omega, by show _ + 36 ≤ _; omega, by rw [hro]; show _ ≤ 601024; omega, by rw [hro]; show _ ≤ 7293034; omega⟩ rfl (fun ad h => by simp only [List.map_cons, List.map_nil, am_v, h.1, h.2.1]) (hp_q _ _ _) (Nat.le_of_ble_eq_true rfl) dLW_2340 ?_
  refine l_go hF sgLW_2343_523aa 2351 [(5, .int kk), (0, .ref b), (1, .ref q.1), (2, .ref q.2.2), (3, .ref q.2.1), (4, .int (nI (5 * j)))] [.int (nI (5 * j) + 1), .ref b, .ref q.2.2] sgLW_2343_523aad rfl ?_
  refine l_sld hF hXs hbl hbA (5 * j + 1) (am_ad rfl rfl) (by omega) (by omega) dLW_2351 ?_
  refine l_dV hF hK9 (b := 465) [.int (xs (5 * j + 1))] [.int (xs (5 * j + 1))] [] hr myX6_pass vyX6_pass lm_RL_245 (hp_m _ _ _) rfl rfl (71 + 4 * (j + 1)) (18836 + 36 * (j + 1)) (by rw [hro]; exact ⟨Nat.le_of_ble_eq_true rfl, Nat.le_of_ble_eq_true rfl⟩) ⟨by show _ + 0 ≤ _; omega, by show _ + 0 ≤ _; omega, by rw [hro]; show _ ≤ 601024; omega, by rw [hro]; show _ ≤ 7293034; omega⟩ rfl (fun ad h => h.2.2) (fun ad => rfl) (hp_q _ _ _) (Nat.le_of_ble_eq_true rfl) dLW_2352 ?_
  refine l_go hF sgLW_2355_2d201 2358 [(6, .int bb), (5, .int kk), (0, .ref b), (1, .ref q.1), (2, .ref q.2.2), (3, .ref q.2.1), (4, .int (nI (5 * j)))] [.ref q.2.2] sgLW_2355_2d201d rfl ?_
  refine l_dV hF hK9 (b := 465) [] [] [] (c_r_thrown (T := T') (S := S') (o := o')) myX6_thrown vyX6_thrown lm_RL_133 (hp_m _ _ _) rfl rfl (71 + 4 * (j + 1)) (18836 + 36 * (j + 1)) (by rw [hro]; exact ⟨Nat.le_of_ble_eq_true rfl, Nat.le_of_ble_eq_true rfl⟩) ⟨by show _ + 0 ≤ _; omega, by show _ + 0 ≤ _; omega, by rw [hro]; show _ ≤ 601024; omega, by rw [hro]; show _ ≤ 7293034; omega⟩ rfl (fun ad h => h.2.2) (fun ad => rfl) (hp_q _ _ _) (Nat.le_of_ble_eq_true rfl) dLW_2358 ?_
  refine l_go hF sgLW_2361_9df92 2363 [(6, .int bb), (5, .int kk), (0, .ref b), (1, .ref q.1), (2, .ref q.2.2), (3, .ref q.2.1), (4, .int (nI (5 * j)))] [.int kk, .int (S' 0 0)] sgLW_2361_9df92d rfl ?_
  refine l_icmpeq hF 2368 dLW_2363 (by decide) (fun _ => ?_) (fun c9 => absurd hth c9)
  refine l_go hF sgLW_2368_9df92 2370 [(6, .int bb), (5, .int kk), (0, .ref b), (1, .ref q.1), (2, .ref q.2.2), (3, .ref q.2.1), (4, .int (nI (5 * j)))] [.int kk] sgLW_2368_9df92d rfl ?_
  have hend : lW C q (hp T' S' o') (71 + 4 * (j + 1)) (18836 + 36 * (j + 1)) 2385 [(6, .int bb), (5, .int kk), (0, .ref b), (1, .ref q.1), (2, .ref q.2.2), (3, .ref q.2.1), (4, .int (nI (5 * j)))] [] := by
    refine l_go hF sgLW_2385_62baa 2388 [(6, .int bb), (5, .int kk), (0, .ref b), (1, .ref q.1), (2, .ref q.2.2), (3, .ref q.2.1), (4, .int (nI (5 * j)))] [] sgLW_2385_62baad rfl ?_
    refine l_drop [2, 3, 4, 5, 6] [(0, .ref b), (1, .ref q.1), (2, .ref q.2.2), (3, .ref q.2.1), (4, .int (nI (5 * j)))] rfl ?_
    exact kend T' S' o' hP
  refine l_ifne hF 2385 dLW_2370 (by decide) (fun _ => hend) (fun hk0 => ?_)
  refine l_go hF sgLW_2373_1f411 2375 [(6, .int bb), (5, .int kk), (0, .ref b), (1, .ref q.1), (2, .ref q.2.2), (3, .ref q.2.1), (4, .int (nI (5 * j)))] [.int 0, .ref q.2.1] sgLW_2373_1f411d rfl ?_
  refine l_out hF dLW_2375 ?_
  refine l_go hF sgLW_2376_abfd4 2380 [(6, .int bb), (5, .int kk), (0, .ref b), (1, .ref q.1), (2, .ref q.2.2), (3, .ref q.2.1), (4, .int (nI (5 * j)))] [.int (lg_cmp (o' 0) bb.toInt64)] sgLW_2376_abfd4d rfl ?_
  refine l_top 0 (by rw [ho hk0]; exact lg_cmp_s _) ?_
  exact l_ifeq hF 2385 dLW_2380 (by decide) (fun _ => hend) (fun c9 => absurd rfl c9)
