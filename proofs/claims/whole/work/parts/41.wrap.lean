/-! the law's own methods that call the class and catch: a layer for methods with a table, then the methods -/
def am_WR : Room := { frames := 9, cells := 4, slots := 36, locals := 165 }
def am_MW (y : MethodName) (cc : ByteArray) (nL : Nat) (ret : Option FieldType) (hh : List (Nat × Nat × Nat × Nat)) (n : Nat) : Prop := Cond.codeWith y cc nL ret hh ∈ am_G ∧ Cond.initialized y.cls ∈ am_G ∧ (y.cls ≠ "java/lang/invoke/MethodHandle" ∧ y.cls ≠ "java/lang/invoke/VarHandle" ∧ (parseMethodDescriptor y.desc).map (fun d => d.parameters.length) = some n)
theorem am_ofT {G : am_S} {y : MethodName} {cc : ByteArray} {nL : Nat} {ret : Option FieldType} {hh : List (Nat × Nat × Nat × Nat)} {ws' : List Cond} {rm : Room} {X : am_H} {av : List Value} {P : am_H → Option Value → Prop} (hy : plainName y.cls = true) (hlen : (lg_sl av).length ≤ nL)
    (body : ∀ C : am_Cx, C.se = G → C.me.sig.returnType = ret → C.co.exceptionTable.toList = tableOf hh → am_F C cc nL y.cls (.codeWith y cc nL ret hh :: ws') → am_O C X P rm → am_W C X 0 0 0 (lv_args 0 av) []) : am_B G y (.codeWith y cc nL ret hh :: ws') rm X av P := by
  intro ad
  refine va_MetW (cc := cc) (maxL := nL) (ret := ret) (hh := hh) hy rfl ?_
  intro p e s m args below meth c s₁ B hml hv
  obtain ⟨rfl, hsz, hR, hK⟩ := hv
  obtain ⟨l, N0, D, ty⟩ := G
  have hlsz : (lg_sl (av.map (am_v ad))).length ≤ nL := by rw [am_sl_len]; exact hlen
  have hl := lv_entry (av.map (am_v ad)) (n := nL) hlsz
  rw [lg_entry_eq]
  rw [am_hargs] at hl
  have hts : ∀ w ∈ Cond.codeWith y cc nL ret hh :: ws', w.before (av.map (am_v ad)).toArray s = true := atoms_spec B.pre
  have hb0 := body ((p, l, e, rm, s), (m, (av.map (am_v ad)).toArray, below, meth, c), (MQ below (am_Qc N0 D ty X P ad) (av.map (am_v ad)).toArray s rm.cells rm.slots (fun q => N0 ≤ q), N0, D, ty), (X, ad)) rfl B.returns (vx_table (x := y) B (hts _ List.mem_cons_self))
    ⟨⟨B.exec, B.bytes, hml, findClass_of_methodNamed B.named, hts⟩, hK.1, hsz, B.notSynchronized⟩ ⟨hK, rfl, fun _ h => h, rfl⟩
  exact hb0 ad s.heap [] _ (fun i hi => ⟨hi, rfl⟩) hR va_S.rf (by show lv_has _ c.maxLocals _; rw [hml]; exact hl)
section
variable {C : am_Cx} {X : am_H} {k n pc : Nat} {L : List (Nat × Value)} {st : List Value} {cc : ByteArray} {nL : Nat} {own : String} {Ts : List Cond}
/-- a call of a method that throws, caught here: the thrown goes into a local that nobody reads -/
theorem am_xT {E : String} {P0 : am_H → Option Value → Prop} {R : Room} {w0 : Cond} (hF : am_F C cc nL own (w0 :: am_G)) (hO : am_O C X P0 R) {y : MethodName} {ccY : ByteArray} {nY : Nat} {ret : Option FieldType} {rm : Room} {b : Nat} (As rest : List Value) {index nn : Nat}
    (hB : am_XD C.se y (.code y ccY nY ret :: am_G) rm X (.ref b :: As) E) (hM : am_M y ccY nY ret nn) (hV : am_MV y) (hlink : Cond.methodLink own index y ∈ am_G) {ci : Nat} {fs : List Value} (hX : X b = some (.inr (ci, fs))) {T : u_T} {N : Nat} (hc : vwCl[ci]? = some (y.cls, T, N))
    (hnn : As.length = nn) (k2 n2 : Nat) (hro : rm.frames + 1 ≤ R.frames ∧ 8 + (nY + 11) + rm.locals ≤ R.locals) (hroom : k + rm.cells ≤ k2 ∧ n + rm.slots ≤ n2 ∧ k2 ≤ R.cells ∧ n2 ≤ R.slots) (hst : st = As.reverse ++ .ref b :: rest) (hcat : (rest.map fun v => v.category).sum ≤ 8) (hd : decode cc pc = .ok (.invokevirtual index, 3))
    (pre : List ExceptionTableEntry) (x : ExceptionTableEntry) (suf : List ExceptionTableEntry) (hsplit : C.co.exceptionTable.toList = pre ++ x :: suf)
    (hpass : ∀ z ∈ pre, covers z pc = false ∨ (z.catchType ≠ 0 ∧ ∃ nm : String, Cond.classLink own z.catchType nm ∈ am_G ∧ (E, nm) ∈ am_Nc)) (hx : covers x pc = true) (h0 : x.catchType ≠ 0)
    (hcl : Cond.classLink own x.catchType E ∈ am_G) (hcast : Cond.castable E E ∈ am_Fw) (i : Nat) (hi : i < nL) (len : Nat) (hh : (∃ j : Fin 4, j.val = i ∧ len = 1 ∧ decode cc x.handlerPc = .ok (.astore_n j, 1)) ∨ (len = 2 ∧ decode cc x.handlerPc = .ok (.astore i, 2)))
    (kk : am_W C X k2 n2 (x.handlerPc + len) [] []) : am_W C X k n pc L st := by
  intro ad H locs ls h1 h2 h3 h4
  obtain ⟨r1, r2⟩ := hro
  obtain ⟨r3, r4, r5, r6⟩ := hroom
  rw [← hO.2.2.2] at r1 r2 r5 r6
  obtain ⟨⟨hx1, hb, hml, hown, hts⟩, hK, hN, hlk⟩ := hF
  obtain ⟨r', hr', cellB, g1, g2, g3, -⟩ := (h2.1 b _ hX).1
  have hcls := (hK.1 ci _ hc).2
  have hgood : GoodIn (w0 :: am_G) (wsV own index y.cls y (.code y ccY nY ret :: am_G)) := am_gd (fun w hw => by
    rcases List.mem_append.mp hw with h | h
    · simp only [List.mem_cons, List.not_mem_nil, or_false] at h
      rcases h with rfl | rfl | rfl | rfl
      · exact hlink
      · exact hV.1
      · exact hV.2
      · exact hM.2.1
    · rcases List.mem_cons.mp h with rfl | h
      · exact hM.1
      · exact h)
  refine am_behindX (a := (Value.ref (ad b) :: As.map (am_v ad)).toArray) (vx_runV (As := As.map (am_v ad)) (rest := rest.map (am_v ad)) (b := ad b) ⟨hx1, hb, hml, hown, hts⟩ (hB ad) (cwV nn hts hgood rfl rfl rfl ⟨rfl, hM.2.2⟩ ⟨r1, r2⟩) ⟨am_blind, ⟨cellB, g1, by rw [g3]; rfl, by rw [g2]; exact hcls.1⟩, am_pre hO.1 hN h2 h3⟩ rfl (by rw [List.length_map]; exact hnn) (by rw [← hml]; exact h4.1) (by rw [hst]; exact am_hn) (lv_room (by rw [am_cat]; exact hcat)) hd ⟨Nat.le_trans r3 r5, Nat.le_trans r4 r6⟩) h1 h3 ?_
  intro ad' H' locs' q ce hag h1' hR hS hce hcv hcl9
  refine vx_catch hown pre x suf hsplit (fun z hz => (hpass z hz).elim Or.inl (fun ⟨a1, nm, a2, a3⟩ => Or.inr ⟨a1, nm, hts _ (List.mem_cons_of_mem _ a2), hO.1.2.2.2.2.2.2.1 _ a3⟩)) hx h0 (hts _ (List.mem_cons_of_mem _ hcl)) (va_any (hFw _ hcast) (hO.1.2.2.2.2.2.2.2 _ hcast)) hce hcv hcl9 ?_
  have hl0 : lv_has ls C.co.maxLocals [] := lv_sub h4 [] rfl
  refine W.widen r3 r4 ?_
  have fin : ∀ ls' : Array Slot, lv_has ls' C.co.maxLocals ((i, Value.ref q) :: ([] : List (Nat × Value))) → W C.pr C.la C.en C.ro C.st C.mi C.ar C.be C.me C.co H' locs' k2 n2 C.go (F0 C.mi (x.handlerPc + len) ls' []) := fun ls' hl => kk ad' H' locs' ls' h1' hR hS (lv_sub hl [] rfl)
  rcases hh with ⟨j, hj, rfl, hdh⟩ | ⟨rfl, hdh⟩
  · exact lv_astore_n hx1 hb hdh hj hl0 (by rw [hml]; exact hi) rfl fin
  · exact lv_astore hx1 hb hdh hl0 (by rw [hml]; exact hi) rfl fin
end
theorem hp_o9 (T S : am_T) (o : Nat → Int64) : hp T S o 464 = some (.inl (6, 1, .inr (.inl o))) := rfl
theorem hp_ou (T S : am_T) (o : Nat → Int64) (v : Int64) : am_u (hp T S o) 464 (.inl (6, 1, .inr (.inl (am_updL o 0 v)))) = hp T S (am_updL o 0 v) := by
  funext i
  unfold am_u
  by_cases h : i = 464
  · subst h; rw [if_pos rfl]; rfl
  · rw [if_neg h]
    unfold hp
    by_cases h1 : i < 464
    · rw [if_pos h1, if_pos h1]
    · rw [if_neg h1, if_neg h1, if_neg (by omega), if_neg (by omega)]
theorem mwyL_list : am_MW yL_list cL_list 4 (some .int) [(0, 9, 12, 13), (0, 9, 15, 15)] 3 := ⟨am_wd 144 (by decide +kernel) (by decide +kernel), am_wd 45 (by decide +kernel) (by decide +kernel), by decide +kernel⟩
theorem swyL_list : Cond.static yL_list ∈ am_G := am_wd 143 (by decide +kernel) (by decide +kernel)
theorem dL_list_4 : decode cL_list 4 = .ok (.invokevirtual 7, 3) := by decide +kernel
def sgL_list_0_817ed : List Instr := [.aload_n 2, .iconst 0, .aload_n 0, .iload_n 1]
theorem sgL_list_0_817edd : am_dec cL_list 0 sgL_list_0_817ed = true := by decide +kernel
def sgL_list_7_bb023 : List Instr := [.i2l]
theorem sgL_list_7_bb023d : am_dec cL_list 7 sgL_list_7_bb023 = true := by decide +kernel
theorem dL_list_8 : decode cL_list 8 = .ok (.lastore, 1) := by decide +kernel
def sgL_list_9_8e6e8 : List Instr := [.goto 9, .iconst 0]
theorem sgL_list_9_8e6e8d : am_dec cL_list 9 sgL_list_9_8e6e8 = true := by decide +kernel
theorem dL_list_19 : decode cL_list 19 = .ok (.ireturn, 1) := by decide +kernel
theorem w_list_n {G : am_S} {T S T' : am_T} {o : Nat → Int64} {x1 : Int32} {r : Int32} {rm : Room} (hrm : rm.frames ≤ 8 ∧ rm.cells ≤ 4 ∧ rm.slots ≤ 36 ∧ rm.locals ≤ 136) (hB : am_D G yX5_list (.code yX5_list cX5_list 2 (some .int) :: am_G) rm (hp T S o) [.ref 0, .int x1] (hp T' S o) (some (.int r))) : am_D G yL_list (.codeWith yL_list cL_list 4 (some .int) [(0, 9, 12, 13), (0, 9, 15, 15)] :: am_G) am_WR (hp T S o) [.ref 0, .int x1, .ref 464] (hp T' S (am_updL o 0 r.toInt64)) (some (.int 0)) := by
  refine am_ofT (by decide +kernel) (Nat.le_of_ble_eq_true rfl) ?_
  intro C hse hret hxt hF hO
  subst hse
  refine am_go hF sgL_list_0_817ed 4 [(0, .ref 0), (1, .int x1), (2, .ref 464)] [.int x1, .ref 0, .int 0, .ref 464] sgL_list_0_817edd rfl ?_
  refine am_dV hF hO [.int x1] [.int 0, .ref 464] hB myX5_list vyX5_list lm_RL_7 (hp_main _ _ _) rfl rfl 4 36 ⟨by show _ ≤ 9; omega, by show 8 + (2 + 11) + _ ≤ 165; omega⟩ ⟨by omega, by omega, Nat.le_refl 4, Nat.le_refl 36⟩ rfl (am_lv_ref (hp_main _ _ _) (am_lv_int (am_lv_ref (hp_o9 _ _ _) (am_lv_int (am_lv_ref (hp_o9 _ _ _) am_lv_nil))))) (Nat.le_of_ble_eq_true rfl) dL_list_4 [.int r, .int 0, .ref 464] rfl ?_
  refine am_go hF sgL_list_7_bb023 8 [(0, .ref 0), (1, .int x1), (2, .ref 464)] [.long r.toInt64, .int 0, .ref 464] sgL_list_7_bb023d rfl ?_
  refine am_last hF (hp_o9 T' S o) 0 rfl (by decide) (by decide) dL_list_8 ?_
  refine am_eqX (hp T' S (am_updL o 0 r.toInt64)) (hp_ou _ _ _ _) ?_
  refine am_go hF sgL_list_9_8e6e8 19 [(0, .ref 0), (1, .int x1), (2, .ref 464)] [.int 0] sgL_list_9_8e6e8d rfl ?_
  exact am_iret hF hO hret rfl dL_list_19 ⟨rfl, rfl⟩
theorem dL_list_12 : decode cL_list 12 = .ok (.astore_n 3, 1) := by decide +kernel
def sgL_list_13_4de0a : List Instr := [.iconst 1]
theorem sgL_list_13_4de0ad : am_dec cL_list 13 sgL_list_13_4de0a = true := by decide +kernel
theorem dL_list_14 : decode cL_list 14 = .ok (.ireturn, 1) := by decide +kernel
theorem w_list_1 {G : am_S} {T S : am_T} {o : Nat → Int64} {x1 : Int32} {rm : Room} (hrm : rm.frames ≤ 8 ∧ rm.cells ≤ 4 ∧ rm.slots ≤ 36 ∧ rm.locals ≤ 136) (hB : am_XD G yX5_list (.code yX5_list cX5_list 2 (some .int) :: am_G) rm (hp T S o) [.ref 0, .int x1] am_E1) : am_D G yL_list (.codeWith yL_list cL_list 4 (some .int) [(0, 9, 12, 13), (0, 9, 15, 15)] :: am_G) am_WR (hp T S o) [.ref 0, .int x1, .ref 464] (hp T S o) (some (.int 1)) := by
  refine am_ofT (by decide +kernel) (Nat.le_of_ble_eq_true rfl) ?_
  intro C hse hret hxt hF hO
  subst hse
  refine am_go hF sgL_list_0_817ed 4 [(0, .ref 0), (1, .int x1), (2, .ref 464)] [.int x1, .ref 0, .int 0, .ref 464] sgL_list_0_817edd rfl ?_
  refine am_xT hF hO [.int x1] [.int 0, .ref 464] hB myX5_list vyX5_list lm_RL_7 (hp_main _ _ _) rfl rfl 4 36 ⟨by show _ ≤ 9; omega, by show 8 + (2 + 11) + _ ≤ 165; omega⟩ ⟨by omega, by omega, Nat.le_refl 4, Nat.le_refl 36⟩ rfl (Nat.le_of_ble_eq_true rfl) dL_list_4 [] ⟨0, 9, 12, 13⟩ [⟨0, 9, 15, 15⟩] (hxt.trans rfl) (fun z hz => nomatch hz) (by decide) (by decide) lc_RL_13 (by decide) 3 (by decide) 1 (Or.inl ⟨3, rfl, rfl, dL_list_12⟩) ?_
  refine am_go hF sgL_list_13_4de0a 14 [] [.int 1] sgL_list_13_4de0ad rfl ?_
  exact am_iret hF hO hret rfl dL_list_14 ⟨rfl, rfl⟩
theorem dL_list_15 : decode cL_list 15 = .ok (.astore_n 3, 1) := by decide +kernel
def sgL_list_16_d5620 : List Instr := [.iconst 2]
theorem sgL_list_16_d5620d : am_dec cL_list 16 sgL_list_16_d5620 = true := by decide +kernel
theorem dL_list_17 : decode cL_list 17 = .ok (.ireturn, 1) := by decide +kernel
theorem w_list_2 {G : am_S} {T S : am_T} {o : Nat → Int64} {x1 : Int32} {rm : Room} (hrm : rm.frames ≤ 8 ∧ rm.cells ≤ 4 ∧ rm.slots ≤ 36 ∧ rm.locals ≤ 136) (hB : am_XD G yX5_list (.code yX5_list cX5_list 2 (some .int) :: am_G) rm (hp T S o) [.ref 0, .int x1] am_E2) : am_D G yL_list (.codeWith yL_list cL_list 4 (some .int) [(0, 9, 12, 13), (0, 9, 15, 15)] :: am_G) am_WR (hp T S o) [.ref 0, .int x1, .ref 464] (hp T S o) (some (.int 2)) := by
  refine am_ofT (by decide +kernel) (Nat.le_of_ble_eq_true rfl) ?_
  intro C hse hret hxt hF hO
  subst hse
  refine am_go hF sgL_list_0_817ed 4 [(0, .ref 0), (1, .int x1), (2, .ref 464)] [.int x1, .ref 0, .int 0, .ref 464] sgL_list_0_817edd rfl ?_
  refine am_xT hF hO [.int x1] [.int 0, .ref 464] hB myX5_list vyX5_list lm_RL_7 (hp_main _ _ _) rfl rfl 4 36 ⟨by show _ ≤ 9; omega, by show 8 + (2 + 11) + _ ≤ 165; omega⟩ ⟨by omega, by omega, Nat.le_refl 4, Nat.le_refl 36⟩ rfl (Nat.le_of_ble_eq_true rfl) dL_list_4 [⟨0, 9, 12, 13⟩] ⟨0, 9, 15, 15⟩ [] (hxt.trans rfl) (fun z hz => by
    simp only [List.mem_cons, List.not_mem_nil, or_false] at hz
    rcases hz with rfl
    · exact Or.inr ⟨(by decide : (13 : Nat) ≠ 0), "java/lang/IndexOutOfBoundsException", lc_RL_13, by decide⟩) (by decide) (by decide) lc_RL_15 (by decide) 3 (by decide) 1 (Or.inl ⟨3, rfl, rfl, dL_list_15⟩) ?_
  refine am_go hF sgL_list_16_d5620 17 [] [.int 2] sgL_list_16_d5620d rfl ?_
  exact am_iret hF hO hret rfl dL_list_17 ⟨rfl, rfl⟩
theorem mwyL_join : am_MW yL_join cL_join 6 (some .int) [(0, 12, 15, 13), (0, 12, 19, 21), (0, 12, 23, 15)] 5 := ⟨am_wd 278 (by decide +kernel) (by decide +kernel), am_wd 45 (by decide +kernel) (by decide +kernel), by decide +kernel⟩
theorem swyL_join : Cond.static yL_join ∈ am_G := am_wd 277 (by decide +kernel) (by decide +kernel)
theorem dL_join_7 : decode cL_join 7 = .ok (.invokevirtual 17, 3) := by decide +kernel
def sgL_join_0_966ee : List Instr := [.aload 4, .iconst 0, .aload_n 0, .iload_n 1, .iload_n 2, .iload_n 3]
theorem sgL_join_0_966eed : am_dec cL_join 0 sgL_join_0_966ee = true := by decide +kernel
def sgL_join_10_bb023 : List Instr := [.i2l]
theorem sgL_join_10_bb023d : am_dec cL_join 10 sgL_join_10_bb023 = true := by decide +kernel
theorem dL_join_11 : decode cL_join 11 = .ok (.lastore, 1) := by decide +kernel
def sgL_join_12_4d7aa : List Instr := [.goto 15, .iconst 0]
theorem sgL_join_12_4d7aad : am_dec cL_join 12 sgL_join_12_4d7aa = true := by decide +kernel
theorem dL_join_28 : decode cL_join 28 = .ok (.ireturn, 1) := by decide +kernel
theorem w_join_n {G : am_S} {T S T' : am_T} {o : Nat → Int64} {x1 x2 x3 : Int32} {r : Int32} {rm : Room} (hrm : rm.frames ≤ 8 ∧ rm.cells ≤ 4 ∧ rm.slots ≤ 36 ∧ rm.locals ≤ 136) (hB : am_D G yX5_join (.code yX5_join cX5_join 5 (some .int) :: am_G) rm (hp T S o) [.ref 0, .int x1, .int x2, .int x3] (hp T' S o) (some (.int r))) : am_D G yL_join (.codeWith yL_join cL_join 6 (some .int) [(0, 12, 15, 13), (0, 12, 19, 21), (0, 12, 23, 15)] :: am_G) am_WR (hp T S o) [.ref 0, .int x1, .int x2, .int x3, .ref 464] (hp T' S (am_updL o 0 r.toInt64)) (some (.int 0)) := by
  refine am_ofT (by decide +kernel) (Nat.le_of_ble_eq_true rfl) ?_
  intro C hse hret hxt hF hO
  subst hse
  refine am_go hF sgL_join_0_966ee 7 [(0, .ref 0), (1, .int x1), (2, .int x2), (3, .int x3), (4, .ref 464)] [.int x3, .int x2, .int x1, .ref 0, .int 0, .ref 464] sgL_join_0_966eed rfl ?_
  refine am_dV hF hO [.int x1, .int x2, .int x3] [.int 0, .ref 464] hB myX5_join vyX5_join lm_RL_17 (hp_main _ _ _) rfl rfl 4 36 ⟨by show _ ≤ 9; omega, by show 8 + (5 + 11) + _ ≤ 165; omega⟩ ⟨by omega, by omega, Nat.le_refl 4, Nat.le_refl 36⟩ rfl (am_lv_ref (hp_main _ _ _) (am_lv_int (am_lv_int (am_lv_int (am_lv_ref (hp_o9 _ _ _) (am_lv_int (am_lv_ref (hp_o9 _ _ _) am_lv_nil))))))) (Nat.le_of_ble_eq_true rfl) dL_join_7 [.int r, .int 0, .ref 464] rfl ?_
  refine am_go hF sgL_join_10_bb023 11 [(0, .ref 0), (1, .int x1), (2, .int x2), (3, .int x3), (4, .ref 464)] [.long r.toInt64, .int 0, .ref 464] sgL_join_10_bb023d rfl ?_
  refine am_last hF (hp_o9 T' S o) 0 rfl (by decide) (by decide) dL_join_11 ?_
  refine am_eqX (hp T' S (am_updL o 0 r.toInt64)) (hp_ou _ _ _ _) ?_
  refine am_go hF sgL_join_12_4d7aa 28 [(0, .ref 0), (1, .int x1), (2, .int x2), (3, .int x3), (4, .ref 464)] [.int 0] sgL_join_12_4d7aad rfl ?_
  exact am_iret hF hO hret rfl dL_join_28 ⟨rfl, rfl⟩
theorem dL_join_15 : decode cL_join 15 = .ok (.astore 5, 2) := by decide +kernel
def sgL_join_17_4de0a : List Instr := [.iconst 1]
theorem sgL_join_17_4de0ad : am_dec cL_join 17 sgL_join_17_4de0a = true := by decide +kernel
theorem dL_join_18 : decode cL_join 18 = .ok (.ireturn, 1) := by decide +kernel
theorem w_join_1 {G : am_S} {T S : am_T} {o : Nat → Int64} {x1 x2 x3 : Int32} {rm : Room} (hrm : rm.frames ≤ 8 ∧ rm.cells ≤ 4 ∧ rm.slots ≤ 36 ∧ rm.locals ≤ 136) (hB : am_XD G yX5_join (.code yX5_join cX5_join 5 (some .int) :: am_G) rm (hp T S o) [.ref 0, .int x1, .int x2, .int x3] am_E1) : am_D G yL_join (.codeWith yL_join cL_join 6 (some .int) [(0, 12, 15, 13), (0, 12, 19, 21), (0, 12, 23, 15)] :: am_G) am_WR (hp T S o) [.ref 0, .int x1, .int x2, .int x3, .ref 464] (hp T S o) (some (.int 1)) := by
  refine am_ofT (by decide +kernel) (Nat.le_of_ble_eq_true rfl) ?_
  intro C hse hret hxt hF hO
  subst hse
  refine am_go hF sgL_join_0_966ee 7 [(0, .ref 0), (1, .int x1), (2, .int x2), (3, .int x3), (4, .ref 464)] [.int x3, .int x2, .int x1, .ref 0, .int 0, .ref 464] sgL_join_0_966eed rfl ?_
  refine am_xT hF hO [.int x1, .int x2, .int x3] [.int 0, .ref 464] hB myX5_join vyX5_join lm_RL_17 (hp_main _ _ _) rfl rfl 4 36 ⟨by show _ ≤ 9; omega, by show 8 + (5 + 11) + _ ≤ 165; omega⟩ ⟨by omega, by omega, Nat.le_refl 4, Nat.le_refl 36⟩ rfl (Nat.le_of_ble_eq_true rfl) dL_join_7 [] ⟨0, 12, 15, 13⟩ [⟨0, 12, 19, 21⟩, ⟨0, 12, 23, 15⟩] (hxt.trans rfl) (fun z hz => nomatch hz) (by decide) (by decide) lc_RL_13 (by decide) 5 (by decide) 2 (Or.inr ⟨rfl, dL_join_15⟩) ?_
  refine am_go hF sgL_join_17_4de0a 18 [] [.int 1] sgL_join_17_4de0ad rfl ?_
  exact am_iret hF hO hret rfl dL_join_18 ⟨rfl, rfl⟩
theorem dL_join_19 : decode cL_join 19 = .ok (.astore 5, 2) := by decide +kernel
def sgL_join_21_d5620 : List Instr := [.iconst 2]
theorem sgL_join_21_d5620d : am_dec cL_join 21 sgL_join_21_d5620 = true := by decide +kernel
theorem dL_join_22 : decode cL_join 22 = .ok (.ireturn, 1) := by decide +kernel
theorem w_join_3 {G : am_S} {T S : am_T} {o : Nat → Int64} {x1 x2 x3 : Int32} {rm : Room} (hrm : rm.frames ≤ 8 ∧ rm.cells ≤ 4 ∧ rm.slots ≤ 36 ∧ rm.locals ≤ 136) (hB : am_XD G yX5_join (.code yX5_join cX5_join 5 (some .int) :: am_G) rm (hp T S o) [.ref 0, .int x1, .int x2, .int x3] am_E3) : am_D G yL_join (.codeWith yL_join cL_join 6 (some .int) [(0, 12, 15, 13), (0, 12, 19, 21), (0, 12, 23, 15)] :: am_G) am_WR (hp T S o) [.ref 0, .int x1, .int x2, .int x3, .ref 464] (hp T S o) (some (.int 2)) := by
  refine am_ofT (by decide +kernel) (Nat.le_of_ble_eq_true rfl) ?_
  intro C hse hret hxt hF hO
  subst hse
  refine am_go hF sgL_join_0_966ee 7 [(0, .ref 0), (1, .int x1), (2, .int x2), (3, .int x3), (4, .ref 464)] [.int x3, .int x2, .int x1, .ref 0, .int 0, .ref 464] sgL_join_0_966eed rfl ?_
  refine am_xT hF hO [.int x1, .int x2, .int x3] [.int 0, .ref 464] hB myX5_join vyX5_join lm_RL_17 (hp_main _ _ _) rfl rfl 4 36 ⟨by show _ ≤ 9; omega, by show 8 + (5 + 11) + _ ≤ 165; omega⟩ ⟨by omega, by omega, Nat.le_refl 4, Nat.le_refl 36⟩ rfl (Nat.le_of_ble_eq_true rfl) dL_join_7 [⟨0, 12, 15, 13⟩] ⟨0, 12, 19, 21⟩ [⟨0, 12, 23, 15⟩] (hxt.trans rfl) (fun z hz => by
    simp only [List.mem_cons, List.not_mem_nil, or_false] at hz
    rcases hz with rfl
    · exact Or.inr ⟨(by decide : (13 : Nat) ≠ 0), "java/lang/IndexOutOfBoundsException", lc_RL_13, by decide⟩) (by decide) (by decide) lc_RL_21 (by decide) 5 (by decide) 2 (Or.inr ⟨rfl, dL_join_19⟩) ?_
  refine am_go hF sgL_join_21_d5620 22 [] [.int 2] sgL_join_21_d5620d rfl ?_
  exact am_iret hF hO hret rfl dL_join_22 ⟨rfl, rfl⟩
theorem dL_join_23 : decode cL_join 23 = .ok (.astore 5, 2) := by decide +kernel
def sgL_join_25_800cc : List Instr := [.iconst 3]
theorem sgL_join_25_800ccd : am_dec cL_join 25 sgL_join_25_800cc = true := by decide +kernel
theorem dL_join_26 : decode cL_join 26 = .ok (.ireturn, 1) := by decide +kernel
theorem w_join_2 {G : am_S} {T S : am_T} {o : Nat → Int64} {x1 x2 x3 : Int32} {rm : Room} (hrm : rm.frames ≤ 8 ∧ rm.cells ≤ 4 ∧ rm.slots ≤ 36 ∧ rm.locals ≤ 136) (hB : am_XD G yX5_join (.code yX5_join cX5_join 5 (some .int) :: am_G) rm (hp T S o) [.ref 0, .int x1, .int x2, .int x3] am_E2) : am_D G yL_join (.codeWith yL_join cL_join 6 (some .int) [(0, 12, 15, 13), (0, 12, 19, 21), (0, 12, 23, 15)] :: am_G) am_WR (hp T S o) [.ref 0, .int x1, .int x2, .int x3, .ref 464] (hp T S o) (some (.int 3)) := by
  refine am_ofT (by decide +kernel) (Nat.le_of_ble_eq_true rfl) ?_
  intro C hse hret hxt hF hO
  subst hse
  refine am_go hF sgL_join_0_966ee 7 [(0, .ref 0), (1, .int x1), (2, .int x2), (3, .int x3), (4, .ref 464)] [.int x3, .int x2, .int x1, .ref 0, .int 0, .ref 464] sgL_join_0_966eed rfl ?_
  refine am_xT hF hO [.int x1, .int x2, .int x3] [.int 0, .ref 464] hB myX5_join vyX5_join lm_RL_17 (hp_main _ _ _) rfl rfl 4 36 ⟨by show _ ≤ 9; omega, by show 8 + (5 + 11) + _ ≤ 165; omega⟩ ⟨by omega, by omega, Nat.le_refl 4, Nat.le_refl 36⟩ rfl (Nat.le_of_ble_eq_true rfl) dL_join_7 [⟨0, 12, 15, 13⟩, ⟨0, 12, 19, 21⟩] ⟨0, 12, 23, 15⟩ [] (hxt.trans rfl) (fun z hz => by
    simp only [List.mem_cons, List.not_mem_nil, or_false] at hz
    rcases hz with rfl | rfl
    · exact Or.inr ⟨(by decide : (13 : Nat) ≠ 0), "java/lang/IndexOutOfBoundsException", lc_RL_13, by decide⟩
    · exact Or.inr ⟨(by decide : (21 : Nat) ≠ 0), "java/lang/IllegalArgumentException", lc_RL_21, by decide⟩) (by decide) (by decide) lc_RL_15 (by decide) 5 (by decide) 2 (Or.inr ⟨rfl, dL_join_23⟩) ?_
  refine am_go hF sgL_join_25_800cc 26 [] [.int 3] sgL_join_25_800ccd rfl ?_
  exact am_iret hF hO hret rfl dL_join_26 ⟨rfl, rfl⟩
theorem mwyL_leave : am_MW yL_leave cL_leave 5 (some .int) [(0, 10, 13, 13), (0, 10, 17, 15)] 4 := ⟨am_wd 331 (by decide +kernel) (by decide +kernel), am_wd 45 (by decide +kernel) (by decide +kernel), by decide +kernel⟩
theorem swyL_leave : Cond.static yL_leave ∈ am_G := am_wd 330 (by decide +kernel) (by decide +kernel)
theorem dL_leave_5 : decode cL_leave 5 = .ok (.invokevirtual 23, 3) := by decide +kernel
def sgL_leave_0_d5391 : List Instr := [.aload_n 3, .iconst 0, .aload_n 0, .iload_n 1, .iload_n 2]
theorem sgL_leave_0_d5391d : am_dec cL_leave 0 sgL_leave_0_d5391 = true := by decide +kernel
def sgL_leave_8_bb023 : List Instr := [.i2l]
theorem sgL_leave_8_bb023d : am_dec cL_leave 8 sgL_leave_8_bb023 = true := by decide +kernel
theorem dL_leave_9 : decode cL_leave 9 = .ok (.lastore, 1) := by decide +kernel
def sgL_leave_10_2ee0e : List Instr := [.goto 11, .iconst 0]
theorem sgL_leave_10_2ee0ed : am_dec cL_leave 10 sgL_leave_10_2ee0e = true := by decide +kernel
theorem dL_leave_22 : decode cL_leave 22 = .ok (.ireturn, 1) := by decide +kernel
theorem w_leave_n {G : am_S} {T S T' : am_T} {o : Nat → Int64} {x1 x2 : Int32} {r : Int32} {rm : Room} (hrm : rm.frames ≤ 8 ∧ rm.cells ≤ 4 ∧ rm.slots ≤ 36 ∧ rm.locals ≤ 136) (hB : am_D G yX5_leave (.code yX5_leave cX5_leave 5 (some .int) :: am_G) rm (hp T S o) [.ref 0, .int x1, .int x2] (hp T' S o) (some (.int r))) : am_D G yL_leave (.codeWith yL_leave cL_leave 5 (some .int) [(0, 10, 13, 13), (0, 10, 17, 15)] :: am_G) am_WR (hp T S o) [.ref 0, .int x1, .int x2, .ref 464] (hp T' S (am_updL o 0 r.toInt64)) (some (.int 0)) := by
  refine am_ofT (by decide +kernel) (Nat.le_of_ble_eq_true rfl) ?_
  intro C hse hret hxt hF hO
  subst hse
  refine am_go hF sgL_leave_0_d5391 5 [(0, .ref 0), (1, .int x1), (2, .int x2), (3, .ref 464)] [.int x2, .int x1, .ref 0, .int 0, .ref 464] sgL_leave_0_d5391d rfl ?_
  refine am_dV hF hO [.int x1, .int x2] [.int 0, .ref 464] hB myX5_leave vyX5_leave lm_RL_23 (hp_main _ _ _) rfl rfl 4 36 ⟨by show _ ≤ 9; omega, by show 8 + (5 + 11) + _ ≤ 165; omega⟩ ⟨by omega, by omega, Nat.le_refl 4, Nat.le_refl 36⟩ rfl (am_lv_ref (hp_main _ _ _) (am_lv_int (am_lv_int (am_lv_ref (hp_o9 _ _ _) (am_lv_int (am_lv_ref (hp_o9 _ _ _) am_lv_nil)))))) (Nat.le_of_ble_eq_true rfl) dL_leave_5 [.int r, .int 0, .ref 464] rfl ?_
  refine am_go hF sgL_leave_8_bb023 9 [(0, .ref 0), (1, .int x1), (2, .int x2), (3, .ref 464)] [.long r.toInt64, .int 0, .ref 464] sgL_leave_8_bb023d rfl ?_
  refine am_last hF (hp_o9 T' S o) 0 rfl (by decide) (by decide) dL_leave_9 ?_
  refine am_eqX (hp T' S (am_updL o 0 r.toInt64)) (hp_ou _ _ _ _) ?_
  refine am_go hF sgL_leave_10_2ee0e 22 [(0, .ref 0), (1, .int x1), (2, .int x2), (3, .ref 464)] [.int 0] sgL_leave_10_2ee0ed rfl ?_
  exact am_iret hF hO hret rfl dL_leave_22 ⟨rfl, rfl⟩
theorem dL_leave_13 : decode cL_leave 13 = .ok (.astore 4, 2) := by decide +kernel
def sgL_leave_15_4de0a : List Instr := [.iconst 1]
theorem sgL_leave_15_4de0ad : am_dec cL_leave 15 sgL_leave_15_4de0a = true := by decide +kernel
theorem dL_leave_16 : decode cL_leave 16 = .ok (.ireturn, 1) := by decide +kernel
theorem w_leave_1 {G : am_S} {T S : am_T} {o : Nat → Int64} {x1 x2 : Int32} {rm : Room} (hrm : rm.frames ≤ 8 ∧ rm.cells ≤ 4 ∧ rm.slots ≤ 36 ∧ rm.locals ≤ 136) (hB : am_XD G yX5_leave (.code yX5_leave cX5_leave 5 (some .int) :: am_G) rm (hp T S o) [.ref 0, .int x1, .int x2] am_E1) : am_D G yL_leave (.codeWith yL_leave cL_leave 5 (some .int) [(0, 10, 13, 13), (0, 10, 17, 15)] :: am_G) am_WR (hp T S o) [.ref 0, .int x1, .int x2, .ref 464] (hp T S o) (some (.int 1)) := by
  refine am_ofT (by decide +kernel) (Nat.le_of_ble_eq_true rfl) ?_
  intro C hse hret hxt hF hO
  subst hse
  refine am_go hF sgL_leave_0_d5391 5 [(0, .ref 0), (1, .int x1), (2, .int x2), (3, .ref 464)] [.int x2, .int x1, .ref 0, .int 0, .ref 464] sgL_leave_0_d5391d rfl ?_
  refine am_xT hF hO [.int x1, .int x2] [.int 0, .ref 464] hB myX5_leave vyX5_leave lm_RL_23 (hp_main _ _ _) rfl rfl 4 36 ⟨by show _ ≤ 9; omega, by show 8 + (5 + 11) + _ ≤ 165; omega⟩ ⟨by omega, by omega, Nat.le_refl 4, Nat.le_refl 36⟩ rfl (Nat.le_of_ble_eq_true rfl) dL_leave_5 [] ⟨0, 10, 13, 13⟩ [⟨0, 10, 17, 15⟩] (hxt.trans rfl) (fun z hz => nomatch hz) (by decide) (by decide) lc_RL_13 (by decide) 4 (by decide) 2 (Or.inr ⟨rfl, dL_leave_13⟩) ?_
  refine am_go hF sgL_leave_15_4de0a 16 [] [.int 1] sgL_leave_15_4de0ad rfl ?_
  exact am_iret hF hO hret rfl dL_leave_16 ⟨rfl, rfl⟩
theorem dL_leave_17 : decode cL_leave 17 = .ok (.astore 4, 2) := by decide +kernel
def sgL_leave_19_d5620 : List Instr := [.iconst 2]
theorem sgL_leave_19_d5620d : am_dec cL_leave 19 sgL_leave_19_d5620 = true := by decide +kernel
theorem dL_leave_20 : decode cL_leave 20 = .ok (.ireturn, 1) := by decide +kernel
theorem w_leave_2 {G : am_S} {T S : am_T} {o : Nat → Int64} {x1 x2 : Int32} {rm : Room} (hrm : rm.frames ≤ 8 ∧ rm.cells ≤ 4 ∧ rm.slots ≤ 36 ∧ rm.locals ≤ 136) (hB : am_XD G yX5_leave (.code yX5_leave cX5_leave 5 (some .int) :: am_G) rm (hp T S o) [.ref 0, .int x1, .int x2] am_E2) : am_D G yL_leave (.codeWith yL_leave cL_leave 5 (some .int) [(0, 10, 13, 13), (0, 10, 17, 15)] :: am_G) am_WR (hp T S o) [.ref 0, .int x1, .int x2, .ref 464] (hp T S o) (some (.int 2)) := by
  refine am_ofT (by decide +kernel) (Nat.le_of_ble_eq_true rfl) ?_
  intro C hse hret hxt hF hO
  subst hse
  refine am_go hF sgL_leave_0_d5391 5 [(0, .ref 0), (1, .int x1), (2, .int x2), (3, .ref 464)] [.int x2, .int x1, .ref 0, .int 0, .ref 464] sgL_leave_0_d5391d rfl ?_
  refine am_xT hF hO [.int x1, .int x2] [.int 0, .ref 464] hB myX5_leave vyX5_leave lm_RL_23 (hp_main _ _ _) rfl rfl 4 36 ⟨by show _ ≤ 9; omega, by show 8 + (5 + 11) + _ ≤ 165; omega⟩ ⟨by omega, by omega, Nat.le_refl 4, Nat.le_refl 36⟩ rfl (Nat.le_of_ble_eq_true rfl) dL_leave_5 [⟨0, 10, 13, 13⟩] ⟨0, 10, 17, 15⟩ [] (hxt.trans rfl) (fun z hz => by
    simp only [List.mem_cons, List.not_mem_nil, or_false] at hz
    rcases hz with rfl
    · exact Or.inr ⟨(by decide : (13 : Nat) ≠ 0), "java/lang/IndexOutOfBoundsException", lc_RL_13, by decide⟩) (by decide) (by decide) lc_RL_15 (by decide) 4 (by decide) 2 (Or.inr ⟨rfl, dL_leave_17⟩) ?_
  refine am_go hF sgL_leave_19_d5620 20 [] [.int 2] sgL_leave_19_d5620d rfl ?_
  exact am_iret hF hO hret rfl dL_leave_20 ⟨rfl, rfl⟩
theorem mwyL_mode : am_MW yL_mode cL_mode 6 (some .int) [(0, 12, 15, 13), (0, 12, 19, 21), (0, 12, 23, 15)] 5 := ⟨am_wd 350 (by decide +kernel) (by decide +kernel), am_wd 45 (by decide +kernel) (by decide +kernel), by decide +kernel⟩
theorem swyL_mode : Cond.static yL_mode ∈ am_G := am_wd 349 (by decide +kernel) (by decide +kernel)
theorem dL_mode_7 : decode cL_mode 7 = .ok (.invokevirtual 27, 3) := by decide +kernel
def sgL_mode_0_966ee : List Instr := [.aload 4, .iconst 0, .aload_n 0, .iload_n 1, .iload_n 2, .iload_n 3]
theorem sgL_mode_0_966eed : am_dec cL_mode 0 sgL_mode_0_966ee = true := by decide +kernel
def sgL_mode_10_bb023 : List Instr := [.i2l]
theorem sgL_mode_10_bb023d : am_dec cL_mode 10 sgL_mode_10_bb023 = true := by decide +kernel
theorem dL_mode_11 : decode cL_mode 11 = .ok (.lastore, 1) := by decide +kernel
def sgL_mode_12_4d7aa : List Instr := [.goto 15, .iconst 0]
theorem sgL_mode_12_4d7aad : am_dec cL_mode 12 sgL_mode_12_4d7aa = true := by decide +kernel
theorem dL_mode_28 : decode cL_mode 28 = .ok (.ireturn, 1) := by decide +kernel
theorem w_mode_n {G : am_S} {T S T' : am_T} {o : Nat → Int64} {x1 x2 x3 : Int32} {r : Int32} {rm : Room} (hrm : rm.frames ≤ 8 ∧ rm.cells ≤ 4 ∧ rm.slots ≤ 36 ∧ rm.locals ≤ 136) (hB : am_D G yX5_mode (.code yX5_mode cX5_mode 6 (some .int) :: am_G) rm (hp T S o) [.ref 0, .int x1, .int x2, .int x3] (hp T' S o) (some (.int r))) : am_D G yL_mode (.codeWith yL_mode cL_mode 6 (some .int) [(0, 12, 15, 13), (0, 12, 19, 21), (0, 12, 23, 15)] :: am_G) am_WR (hp T S o) [.ref 0, .int x1, .int x2, .int x3, .ref 464] (hp T' S (am_updL o 0 r.toInt64)) (some (.int 0)) := by
  refine am_ofT (by decide +kernel) (Nat.le_of_ble_eq_true rfl) ?_
  intro C hse hret hxt hF hO
  subst hse
  refine am_go hF sgL_mode_0_966ee 7 [(0, .ref 0), (1, .int x1), (2, .int x2), (3, .int x3), (4, .ref 464)] [.int x3, .int x2, .int x1, .ref 0, .int 0, .ref 464] sgL_mode_0_966eed rfl ?_
  refine am_dV hF hO [.int x1, .int x2, .int x3] [.int 0, .ref 464] hB myX5_mode vyX5_mode lm_RL_27 (hp_main _ _ _) rfl rfl 4 36 ⟨by show _ ≤ 9; omega, by show 8 + (6 + 11) + _ ≤ 165; omega⟩ ⟨by omega, by omega, Nat.le_refl 4, Nat.le_refl 36⟩ rfl (am_lv_ref (hp_main _ _ _) (am_lv_int (am_lv_int (am_lv_int (am_lv_ref (hp_o9 _ _ _) (am_lv_int (am_lv_ref (hp_o9 _ _ _) am_lv_nil))))))) (Nat.le_of_ble_eq_true rfl) dL_mode_7 [.int r, .int 0, .ref 464] rfl ?_
  refine am_go hF sgL_mode_10_bb023 11 [(0, .ref 0), (1, .int x1), (2, .int x2), (3, .int x3), (4, .ref 464)] [.long r.toInt64, .int 0, .ref 464] sgL_mode_10_bb023d rfl ?_
  refine am_last hF (hp_o9 T' S o) 0 rfl (by decide) (by decide) dL_mode_11 ?_
  refine am_eqX (hp T' S (am_updL o 0 r.toInt64)) (hp_ou _ _ _ _) ?_
  refine am_go hF sgL_mode_12_4d7aa 28 [(0, .ref 0), (1, .int x1), (2, .int x2), (3, .int x3), (4, .ref 464)] [.int 0] sgL_mode_12_4d7aad rfl ?_
  exact am_iret hF hO hret rfl dL_mode_28 ⟨rfl, rfl⟩
theorem dL_mode_15 : decode cL_mode 15 = .ok (.astore 5, 2) := by decide +kernel
def sgL_mode_17_4de0a : List Instr := [.iconst 1]
theorem sgL_mode_17_4de0ad : am_dec cL_mode 17 sgL_mode_17_4de0a = true := by decide +kernel
theorem dL_mode_18 : decode cL_mode 18 = .ok (.ireturn, 1) := by decide +kernel
theorem w_mode_1 {G : am_S} {T S : am_T} {o : Nat → Int64} {x1 x2 x3 : Int32} {rm : Room} (hrm : rm.frames ≤ 8 ∧ rm.cells ≤ 4 ∧ rm.slots ≤ 36 ∧ rm.locals ≤ 136) (hB : am_XD G yX5_mode (.code yX5_mode cX5_mode 6 (some .int) :: am_G) rm (hp T S o) [.ref 0, .int x1, .int x2, .int x3] am_E1) : am_D G yL_mode (.codeWith yL_mode cL_mode 6 (some .int) [(0, 12, 15, 13), (0, 12, 19, 21), (0, 12, 23, 15)] :: am_G) am_WR (hp T S o) [.ref 0, .int x1, .int x2, .int x3, .ref 464] (hp T S o) (some (.int 1)) := by
  refine am_ofT (by decide +kernel) (Nat.le_of_ble_eq_true rfl) ?_
  intro C hse hret hxt hF hO
  subst hse
  refine am_go hF sgL_mode_0_966ee 7 [(0, .ref 0), (1, .int x1), (2, .int x2), (3, .int x3), (4, .ref 464)] [.int x3, .int x2, .int x1, .ref 0, .int 0, .ref 464] sgL_mode_0_966eed rfl ?_
  refine am_xT hF hO [.int x1, .int x2, .int x3] [.int 0, .ref 464] hB myX5_mode vyX5_mode lm_RL_27 (hp_main _ _ _) rfl rfl 4 36 ⟨by show _ ≤ 9; omega, by show 8 + (6 + 11) + _ ≤ 165; omega⟩ ⟨by omega, by omega, Nat.le_refl 4, Nat.le_refl 36⟩ rfl (Nat.le_of_ble_eq_true rfl) dL_mode_7 [] ⟨0, 12, 15, 13⟩ [⟨0, 12, 19, 21⟩, ⟨0, 12, 23, 15⟩] (hxt.trans rfl) (fun z hz => nomatch hz) (by decide) (by decide) lc_RL_13 (by decide) 5 (by decide) 2 (Or.inr ⟨rfl, dL_mode_15⟩) ?_
  refine am_go hF sgL_mode_17_4de0a 18 [] [.int 1] sgL_mode_17_4de0ad rfl ?_
  exact am_iret hF hO hret rfl dL_mode_18 ⟨rfl, rfl⟩
theorem dL_mode_19 : decode cL_mode 19 = .ok (.astore 5, 2) := by decide +kernel
def sgL_mode_21_d5620 : List Instr := [.iconst 2]
theorem sgL_mode_21_d5620d : am_dec cL_mode 21 sgL_mode_21_d5620 = true := by decide +kernel
theorem dL_mode_22 : decode cL_mode 22 = .ok (.ireturn, 1) := by decide +kernel
theorem w_mode_3 {G : am_S} {T S : am_T} {o : Nat → Int64} {x1 x2 x3 : Int32} {rm : Room} (hrm : rm.frames ≤ 8 ∧ rm.cells ≤ 4 ∧ rm.slots ≤ 36 ∧ rm.locals ≤ 136) (hB : am_XD G yX5_mode (.code yX5_mode cX5_mode 6 (some .int) :: am_G) rm (hp T S o) [.ref 0, .int x1, .int x2, .int x3] am_E3) : am_D G yL_mode (.codeWith yL_mode cL_mode 6 (some .int) [(0, 12, 15, 13), (0, 12, 19, 21), (0, 12, 23, 15)] :: am_G) am_WR (hp T S o) [.ref 0, .int x1, .int x2, .int x3, .ref 464] (hp T S o) (some (.int 2)) := by
  refine am_ofT (by decide +kernel) (Nat.le_of_ble_eq_true rfl) ?_
  intro C hse hret hxt hF hO
  subst hse
  refine am_go hF sgL_mode_0_966ee 7 [(0, .ref 0), (1, .int x1), (2, .int x2), (3, .int x3), (4, .ref 464)] [.int x3, .int x2, .int x1, .ref 0, .int 0, .ref 464] sgL_mode_0_966eed rfl ?_
  refine am_xT hF hO [.int x1, .int x2, .int x3] [.int 0, .ref 464] hB myX5_mode vyX5_mode lm_RL_27 (hp_main _ _ _) rfl rfl 4 36 ⟨by show _ ≤ 9; omega, by show 8 + (6 + 11) + _ ≤ 165; omega⟩ ⟨by omega, by omega, Nat.le_refl 4, Nat.le_refl 36⟩ rfl (Nat.le_of_ble_eq_true rfl) dL_mode_7 [⟨0, 12, 15, 13⟩] ⟨0, 12, 19, 21⟩ [⟨0, 12, 23, 15⟩] (hxt.trans rfl) (fun z hz => by
    simp only [List.mem_cons, List.not_mem_nil, or_false] at hz
    rcases hz with rfl
    · exact Or.inr ⟨(by decide : (13 : Nat) ≠ 0), "java/lang/IndexOutOfBoundsException", lc_RL_13, by decide⟩) (by decide) (by decide) lc_RL_21 (by decide) 5 (by decide) 2 (Or.inr ⟨rfl, dL_mode_19⟩) ?_
  refine am_go hF sgL_mode_21_d5620 22 [] [.int 2] sgL_mode_21_d5620d rfl ?_
  exact am_iret hF hO hret rfl dL_mode_22 ⟨rfl, rfl⟩
theorem dL_mode_23 : decode cL_mode 23 = .ok (.astore 5, 2) := by decide +kernel
def sgL_mode_25_800cc : List Instr := [.iconst 3]
theorem sgL_mode_25_800ccd : am_dec cL_mode 25 sgL_mode_25_800cc = true := by decide +kernel
theorem dL_mode_26 : decode cL_mode 26 = .ok (.ireturn, 1) := by decide +kernel
theorem w_mode_2 {G : am_S} {T S : am_T} {o : Nat → Int64} {x1 x2 x3 : Int32} {rm : Room} (hrm : rm.frames ≤ 8 ∧ rm.cells ≤ 4 ∧ rm.slots ≤ 36 ∧ rm.locals ≤ 136) (hB : am_XD G yX5_mode (.code yX5_mode cX5_mode 6 (some .int) :: am_G) rm (hp T S o) [.ref 0, .int x1, .int x2, .int x3] am_E2) : am_D G yL_mode (.codeWith yL_mode cL_mode 6 (some .int) [(0, 12, 15, 13), (0, 12, 19, 21), (0, 12, 23, 15)] :: am_G) am_WR (hp T S o) [.ref 0, .int x1, .int x2, .int x3, .ref 464] (hp T S o) (some (.int 3)) := by
  refine am_ofT (by decide +kernel) (Nat.le_of_ble_eq_true rfl) ?_
  intro C hse hret hxt hF hO
  subst hse
  refine am_go hF sgL_mode_0_966ee 7 [(0, .ref 0), (1, .int x1), (2, .int x2), (3, .int x3), (4, .ref 464)] [.int x3, .int x2, .int x1, .ref 0, .int 0, .ref 464] sgL_mode_0_966eed rfl ?_
  refine am_xT hF hO [.int x1, .int x2, .int x3] [.int 0, .ref 464] hB myX5_mode vyX5_mode lm_RL_27 (hp_main _ _ _) rfl rfl 4 36 ⟨by show _ ≤ 9; omega, by show 8 + (6 + 11) + _ ≤ 165; omega⟩ ⟨by omega, by omega, Nat.le_refl 4, Nat.le_refl 36⟩ rfl (Nat.le_of_ble_eq_true rfl) dL_mode_7 [⟨0, 12, 15, 13⟩, ⟨0, 12, 19, 21⟩] ⟨0, 12, 23, 15⟩ [] (hxt.trans rfl) (fun z hz => by
    simp only [List.mem_cons, List.not_mem_nil, or_false] at hz
    rcases hz with rfl | rfl
    · exact Or.inr ⟨(by decide : (13 : Nat) ≠ 0), "java/lang/IndexOutOfBoundsException", lc_RL_13, by decide⟩
    · exact Or.inr ⟨(by decide : (21 : Nat) ≠ 0), "java/lang/IllegalArgumentException", lc_RL_21, by decide⟩) (by decide) (by decide) lc_RL_15 (by decide) 5 (by decide) 2 (Or.inr ⟨rfl, dL_mode_23⟩) ?_
  refine am_go hF sgL_mode_25_800cc 26 [] [.int 3] sgL_mode_25_800ccd rfl ?_
  exact am_iret hF hO hret rfl dL_mode_26 ⟨rfl, rfl⟩
theorem mwyL_nest : am_MW yL_nest cL_nest 5 (some .int) [(0, 17, 20, 13), (0, 17, 24, 21)] 4 := ⟨am_wd 357 (by decide +kernel) (by decide +kernel), am_wd 45 (by decide +kernel) (by decide +kernel), by decide +kernel⟩
theorem swyL_nest : Cond.static yL_nest ∈ am_G := am_wd 356 (by decide +kernel) (by decide +kernel)
theorem dL_nest_5 : decode cL_nest 5 = .ok (.invokevirtual 30, 3) := by decide +kernel
def sgL_nest_0_d5391 : List Instr := [.aload_n 3, .iconst 0, .aload_n 0, .iload_n 1, .iload_n 2]
theorem sgL_nest_0_d5391d : am_dec cL_nest 0 sgL_nest_0_d5391 = true := by decide +kernel
theorem dL_nest_8 : decode cL_nest 8 = .ok (.ifCond .eq 7, 3) := by decide +kernel
theorem dL_nest_16 : decode cL_nest 16 = .ok (.lastore, 1) := by decide +kernel
def sgL_nest_17_2ee0e : List Instr := [.goto 11, .iconst 0]
theorem sgL_nest_17_2ee0ed : am_dec cL_nest 17 sgL_nest_17_2ee0e = true := by decide +kernel
theorem dL_nest_29 : decode cL_nest 29 = .ok (.ireturn, 1) := by decide +kernel
def sgL_nest_15_b1090 : List Instr := [.lconst 0]
theorem sgL_nest_15_b1090d : am_dec cL_nest 15 sgL_nest_15_b1090 = true := by decide +kernel
def sgL_nest_11_cb41f : List Instr := [.lconst 1, .goto 4]
theorem sgL_nest_11_cb41fd : am_dec cL_nest 11 sgL_nest_11_cb41f = true := by decide +kernel
theorem w_nest_n {G : am_S} {T S T' : am_T} {o : Nat → Int64} {x1 x2 : Int32} {r : Int32} {rm : Room} (hrm : rm.frames ≤ 8 ∧ rm.cells ≤ 4 ∧ rm.slots ≤ 36 ∧ rm.locals ≤ 136) (hB : am_D G yX5_nest (.code yX5_nest cX5_nest 5 (some .boolean) :: am_G) rm (hp T S o) [.ref 0, .int x1, .int x2] (hp T' S o) (some (.int r))) : am_D G yL_nest (.codeWith yL_nest cL_nest 5 (some .int) [(0, 17, 20, 13), (0, 17, 24, 21)] :: am_G) am_WR (hp T S o) [.ref 0, .int x1, .int x2, .ref 464] (hp T' S (am_updL o 0 (if r = 0 then 0 else 1))) (some (.int 0)) := by
  refine am_ofT (by decide +kernel) (Nat.le_of_ble_eq_true rfl) ?_
  intro C hse hret hxt hF hO
  subst hse
  refine am_go hF sgL_nest_0_d5391 5 [(0, .ref 0), (1, .int x1), (2, .int x2), (3, .ref 464)] [.int x2, .int x1, .ref 0, .int 0, .ref 464] sgL_nest_0_d5391d rfl ?_
  refine am_dV hF hO [.int x1, .int x2] [.int 0, .ref 464] hB myX5_nest vyX5_nest lm_RL_30 (hp_main _ _ _) rfl rfl 4 36 ⟨by show _ ≤ 9; omega, by show 8 + (5 + 11) + _ ≤ 165; omega⟩ ⟨by omega, by omega, Nat.le_refl 4, Nat.le_refl 36⟩ rfl (am_lv_ref (hp_main _ _ _) (am_lv_int (am_lv_int (am_lv_ref (hp_o9 _ _ _) (am_lv_int (am_lv_ref (hp_o9 _ _ _) am_lv_nil)))))) (Nat.le_of_ble_eq_true rfl) dL_nest_5 [.int r, .int 0, .ref 464] rfl ?_
  refine am_ifeq hF 15 dL_nest_8 (by decide) (fun c1 => ?_) (fun c1 => ?_)
  · refine am_go hF sgL_nest_15_b1090 16 [(0, .ref 0), (1, .int x1), (2, .int x2), (3, .ref 464)] [.long (Int64.ofNat 0), .int 0, .ref 464] sgL_nest_15_b1090d rfl ?_
    refine am_last hF (hp_o9 T' S o) 0 rfl (by decide) (by decide) dL_nest_16 ?_
    refine am_eqX (hp T' S (am_updL o 0 (if r = 0 then 0 else 1))) (by rw [hp_ou, if_pos c1]; rfl) ?_
    refine am_go hF sgL_nest_17_2ee0e 29 [(0, .ref 0), (1, .int x1), (2, .int x2), (3, .ref 464)] [.int 0] sgL_nest_17_2ee0ed rfl ?_
    exact am_iret hF hO hret rfl dL_nest_29 ⟨rfl, rfl⟩
  · refine am_go hF sgL_nest_11_cb41f 16 [(0, .ref 0), (1, .int x1), (2, .int x2), (3, .ref 464)] [.long (Int64.ofNat 1), .int 0, .ref 464] sgL_nest_11_cb41fd rfl ?_
    refine am_last hF (hp_o9 T' S o) 0 rfl (by decide) (by decide) dL_nest_16 ?_
    refine am_eqX (hp T' S (am_updL o 0 (if r = 0 then 0 else 1))) (by rw [hp_ou, if_neg c1]; rfl) ?_
    refine am_go hF sgL_nest_17_2ee0e 29 [(0, .ref 0), (1, .int x1), (2, .int x2), (3, .ref 464)] [.int 0] sgL_nest_17_2ee0ed rfl ?_
    exact am_iret hF hO hret rfl dL_nest_29 ⟨rfl, rfl⟩
theorem dL_nest_20 : decode cL_nest 20 = .ok (.astore 4, 2) := by decide +kernel
def sgL_nest_22_4de0a : List Instr := [.iconst 1]
theorem sgL_nest_22_4de0ad : am_dec cL_nest 22 sgL_nest_22_4de0a = true := by decide +kernel
theorem dL_nest_23 : decode cL_nest 23 = .ok (.ireturn, 1) := by decide +kernel
theorem w_nest_1 {G : am_S} {T S : am_T} {o : Nat → Int64} {x1 x2 : Int32} {rm : Room} (hrm : rm.frames ≤ 8 ∧ rm.cells ≤ 4 ∧ rm.slots ≤ 36 ∧ rm.locals ≤ 136) (hB : am_XD G yX5_nest (.code yX5_nest cX5_nest 5 (some .boolean) :: am_G) rm (hp T S o) [.ref 0, .int x1, .int x2] am_E1) : am_D G yL_nest (.codeWith yL_nest cL_nest 5 (some .int) [(0, 17, 20, 13), (0, 17, 24, 21)] :: am_G) am_WR (hp T S o) [.ref 0, .int x1, .int x2, .ref 464] (hp T S o) (some (.int 1)) := by
  refine am_ofT (by decide +kernel) (Nat.le_of_ble_eq_true rfl) ?_
  intro C hse hret hxt hF hO
  subst hse
  refine am_go hF sgL_nest_0_d5391 5 [(0, .ref 0), (1, .int x1), (2, .int x2), (3, .ref 464)] [.int x2, .int x1, .ref 0, .int 0, .ref 464] sgL_nest_0_d5391d rfl ?_
  refine am_xT hF hO [.int x1, .int x2] [.int 0, .ref 464] hB myX5_nest vyX5_nest lm_RL_30 (hp_main _ _ _) rfl rfl 4 36 ⟨by show _ ≤ 9; omega, by show 8 + (5 + 11) + _ ≤ 165; omega⟩ ⟨by omega, by omega, Nat.le_refl 4, Nat.le_refl 36⟩ rfl (Nat.le_of_ble_eq_true rfl) dL_nest_5 [] ⟨0, 17, 20, 13⟩ [⟨0, 17, 24, 21⟩] (hxt.trans rfl) (fun z hz => nomatch hz) (by decide) (by decide) lc_RL_13 (by decide) 4 (by decide) 2 (Or.inr ⟨rfl, dL_nest_20⟩) ?_
  refine am_go hF sgL_nest_22_4de0a 23 [] [.int 1] sgL_nest_22_4de0ad rfl ?_
  exact am_iret hF hO hret rfl dL_nest_23 ⟨rfl, rfl⟩
theorem dL_nest_24 : decode cL_nest 24 = .ok (.astore 4, 2) := by decide +kernel
def sgL_nest_26_d5620 : List Instr := [.iconst 2]
theorem sgL_nest_26_d5620d : am_dec cL_nest 26 sgL_nest_26_d5620 = true := by decide +kernel
theorem dL_nest_27 : decode cL_nest 27 = .ok (.ireturn, 1) := by decide +kernel
theorem w_nest_3 {G : am_S} {T S : am_T} {o : Nat → Int64} {x1 x2 : Int32} {rm : Room} (hrm : rm.frames ≤ 8 ∧ rm.cells ≤ 4 ∧ rm.slots ≤ 36 ∧ rm.locals ≤ 136) (hB : am_XD G yX5_nest (.code yX5_nest cX5_nest 5 (some .boolean) :: am_G) rm (hp T S o) [.ref 0, .int x1, .int x2] am_E3) : am_D G yL_nest (.codeWith yL_nest cL_nest 5 (some .int) [(0, 17, 20, 13), (0, 17, 24, 21)] :: am_G) am_WR (hp T S o) [.ref 0, .int x1, .int x2, .ref 464] (hp T S o) (some (.int 2)) := by
  refine am_ofT (by decide +kernel) (Nat.le_of_ble_eq_true rfl) ?_
  intro C hse hret hxt hF hO
  subst hse
  refine am_go hF sgL_nest_0_d5391 5 [(0, .ref 0), (1, .int x1), (2, .int x2), (3, .ref 464)] [.int x2, .int x1, .ref 0, .int 0, .ref 464] sgL_nest_0_d5391d rfl ?_
  refine am_xT hF hO [.int x1, .int x2] [.int 0, .ref 464] hB myX5_nest vyX5_nest lm_RL_30 (hp_main _ _ _) rfl rfl 4 36 ⟨by show _ ≤ 9; omega, by show 8 + (5 + 11) + _ ≤ 165; omega⟩ ⟨by omega, by omega, Nat.le_refl 4, Nat.le_refl 36⟩ rfl (Nat.le_of_ble_eq_true rfl) dL_nest_5 [⟨0, 17, 20, 13⟩] ⟨0, 17, 24, 21⟩ [] (hxt.trans rfl) (fun z hz => by
    simp only [List.mem_cons, List.not_mem_nil, or_false] at hz
    rcases hz with rfl
    · exact Or.inr ⟨(by decide : (13 : Nat) ≠ 0), "java/lang/IndexOutOfBoundsException", lc_RL_13, by decide⟩) (by decide) (by decide) lc_RL_21 (by decide) 4 (by decide) 2 (Or.inr ⟨rfl, dL_nest_24⟩) ?_
  refine am_go hF sgL_nest_26_d5620 27 [] [.int 2] sgL_nest_26_d5620d rfl ?_
  exact am_iret hF hO hret rfl dL_nest_27 ⟨rfl, rfl⟩
theorem mwyL_rules : am_MW yL_rules cL_rules 7 (some .int) [(0, 14, 17, 13), (0, 14, 21, 21)] 6 := ⟨am_wd 371 (by decide +kernel) (by decide +kernel), am_wd 45 (by decide +kernel) (by decide +kernel), by decide +kernel⟩
theorem swyL_rules : Cond.static yL_rules ∈ am_G := am_wd 370 (by decide +kernel) (by decide +kernel)
theorem dL_rules_9 : decode cL_rules 9 = .ok (.invokevirtual 34, 3) := by decide +kernel
def sgL_rules_0_be72b : List Instr := [.aload 5, .iconst 0, .aload_n 0, .iload_n 1, .iload_n 2, .iload_n 3, .iload 4]
theorem sgL_rules_0_be72bd : am_dec cL_rules 0 sgL_rules_0_be72b = true := by decide +kernel
def sgL_rules_12_bb023 : List Instr := [.i2l]
theorem sgL_rules_12_bb023d : am_dec cL_rules 12 sgL_rules_12_bb023 = true := by decide +kernel
theorem dL_rules_13 : decode cL_rules 13 = .ok (.lastore, 1) := by decide +kernel
def sgL_rules_14_2ee0e : List Instr := [.goto 11, .iconst 0]
theorem sgL_rules_14_2ee0ed : am_dec cL_rules 14 sgL_rules_14_2ee0e = true := by decide +kernel
theorem dL_rules_26 : decode cL_rules 26 = .ok (.ireturn, 1) := by decide +kernel
theorem w_rules_n {G : am_S} {T S T' : am_T} {o : Nat → Int64} {x1 x2 x3 x4 : Int32} {r : Int32} {rm : Room} (hrm : rm.frames ≤ 8 ∧ rm.cells ≤ 4 ∧ rm.slots ≤ 36 ∧ rm.locals ≤ 136) (hB : am_D G yX5_rules (.code yX5_rules cX5_rules 7 (some .int) :: am_G) rm (hp T S o) [.ref 0, .int x1, .int x2, .int x3, .int x4] (hp T' S o) (some (.int r))) : am_D G yL_rules (.codeWith yL_rules cL_rules 7 (some .int) [(0, 14, 17, 13), (0, 14, 21, 21)] :: am_G) am_WR (hp T S o) [.ref 0, .int x1, .int x2, .int x3, .int x4, .ref 464] (hp T' S (am_updL o 0 r.toInt64)) (some (.int 0)) := by
  refine am_ofT (by decide +kernel) (Nat.le_of_ble_eq_true rfl) ?_
  intro C hse hret hxt hF hO
  subst hse
  refine am_go hF sgL_rules_0_be72b 9 [(0, .ref 0), (1, .int x1), (2, .int x2), (3, .int x3), (4, .int x4), (5, .ref 464)] [.int x4, .int x3, .int x2, .int x1, .ref 0, .int 0, .ref 464] sgL_rules_0_be72bd rfl ?_
  refine am_dV hF hO [.int x1, .int x2, .int x3, .int x4] [.int 0, .ref 464] hB myX5_rules vyX5_rules lm_RL_34 (hp_main _ _ _) rfl rfl 4 36 ⟨by show _ ≤ 9; omega, by show 8 + (7 + 11) + _ ≤ 165; omega⟩ ⟨by omega, by omega, Nat.le_refl 4, Nat.le_refl 36⟩ rfl (am_lv_ref (hp_main _ _ _) (am_lv_int (am_lv_int (am_lv_int (am_lv_int (am_lv_ref (hp_o9 _ _ _) (am_lv_int (am_lv_ref (hp_o9 _ _ _) am_lv_nil)))))))) (Nat.le_of_ble_eq_true rfl) dL_rules_9 [.int r, .int 0, .ref 464] rfl ?_
  refine am_go hF sgL_rules_12_bb023 13 [(0, .ref 0), (1, .int x1), (2, .int x2), (3, .int x3), (4, .int x4), (5, .ref 464)] [.long r.toInt64, .int 0, .ref 464] sgL_rules_12_bb023d rfl ?_
  refine am_last hF (hp_o9 T' S o) 0 rfl (by decide) (by decide) dL_rules_13 ?_
  refine am_eqX (hp T' S (am_updL o 0 r.toInt64)) (hp_ou _ _ _ _) ?_
  refine am_go hF sgL_rules_14_2ee0e 26 [(0, .ref 0), (1, .int x1), (2, .int x2), (3, .int x3), (4, .int x4), (5, .ref 464)] [.int 0] sgL_rules_14_2ee0ed rfl ?_
  exact am_iret hF hO hret rfl dL_rules_26 ⟨rfl, rfl⟩
theorem dL_rules_17 : decode cL_rules 17 = .ok (.astore 6, 2) := by decide +kernel
def sgL_rules_19_4de0a : List Instr := [.iconst 1]
theorem sgL_rules_19_4de0ad : am_dec cL_rules 19 sgL_rules_19_4de0a = true := by decide +kernel
theorem dL_rules_20 : decode cL_rules 20 = .ok (.ireturn, 1) := by decide +kernel
theorem w_rules_1 {G : am_S} {T S : am_T} {o : Nat → Int64} {x1 x2 x3 x4 : Int32} {rm : Room} (hrm : rm.frames ≤ 8 ∧ rm.cells ≤ 4 ∧ rm.slots ≤ 36 ∧ rm.locals ≤ 136) (hB : am_XD G yX5_rules (.code yX5_rules cX5_rules 7 (some .int) :: am_G) rm (hp T S o) [.ref 0, .int x1, .int x2, .int x3, .int x4] am_E1) : am_D G yL_rules (.codeWith yL_rules cL_rules 7 (some .int) [(0, 14, 17, 13), (0, 14, 21, 21)] :: am_G) am_WR (hp T S o) [.ref 0, .int x1, .int x2, .int x3, .int x4, .ref 464] (hp T S o) (some (.int 1)) := by
  refine am_ofT (by decide +kernel) (Nat.le_of_ble_eq_true rfl) ?_
  intro C hse hret hxt hF hO
  subst hse
  refine am_go hF sgL_rules_0_be72b 9 [(0, .ref 0), (1, .int x1), (2, .int x2), (3, .int x3), (4, .int x4), (5, .ref 464)] [.int x4, .int x3, .int x2, .int x1, .ref 0, .int 0, .ref 464] sgL_rules_0_be72bd rfl ?_
  refine am_xT hF hO [.int x1, .int x2, .int x3, .int x4] [.int 0, .ref 464] hB myX5_rules vyX5_rules lm_RL_34 (hp_main _ _ _) rfl rfl 4 36 ⟨by show _ ≤ 9; omega, by show 8 + (7 + 11) + _ ≤ 165; omega⟩ ⟨by omega, by omega, Nat.le_refl 4, Nat.le_refl 36⟩ rfl (Nat.le_of_ble_eq_true rfl) dL_rules_9 [] ⟨0, 14, 17, 13⟩ [⟨0, 14, 21, 21⟩] (hxt.trans rfl) (fun z hz => nomatch hz) (by decide) (by decide) lc_RL_13 (by decide) 6 (by decide) 2 (Or.inr ⟨rfl, dL_rules_17⟩) ?_
  refine am_go hF sgL_rules_19_4de0a 20 [] [.int 1] sgL_rules_19_4de0ad rfl ?_
  exact am_iret hF hO hret rfl dL_rules_20 ⟨rfl, rfl⟩
theorem dL_rules_21 : decode cL_rules 21 = .ok (.astore 6, 2) := by decide +kernel
def sgL_rules_23_d5620 : List Instr := [.iconst 2]
theorem sgL_rules_23_d5620d : am_dec cL_rules 23 sgL_rules_23_d5620 = true := by decide +kernel
theorem dL_rules_24 : decode cL_rules 24 = .ok (.ireturn, 1) := by decide +kernel
theorem w_rules_3 {G : am_S} {T S : am_T} {o : Nat → Int64} {x1 x2 x3 x4 : Int32} {rm : Room} (hrm : rm.frames ≤ 8 ∧ rm.cells ≤ 4 ∧ rm.slots ≤ 36 ∧ rm.locals ≤ 136) (hB : am_XD G yX5_rules (.code yX5_rules cX5_rules 7 (some .int) :: am_G) rm (hp T S o) [.ref 0, .int x1, .int x2, .int x3, .int x4] am_E3) : am_D G yL_rules (.codeWith yL_rules cL_rules 7 (some .int) [(0, 14, 17, 13), (0, 14, 21, 21)] :: am_G) am_WR (hp T S o) [.ref 0, .int x1, .int x2, .int x3, .int x4, .ref 464] (hp T S o) (some (.int 2)) := by
  refine am_ofT (by decide +kernel) (Nat.le_of_ble_eq_true rfl) ?_
  intro C hse hret hxt hF hO
  subst hse
  refine am_go hF sgL_rules_0_be72b 9 [(0, .ref 0), (1, .int x1), (2, .int x2), (3, .int x3), (4, .int x4), (5, .ref 464)] [.int x4, .int x3, .int x2, .int x1, .ref 0, .int 0, .ref 464] sgL_rules_0_be72bd rfl ?_
  refine am_xT hF hO [.int x1, .int x2, .int x3, .int x4] [.int 0, .ref 464] hB myX5_rules vyX5_rules lm_RL_34 (hp_main _ _ _) rfl rfl 4 36 ⟨by show _ ≤ 9; omega, by show 8 + (7 + 11) + _ ≤ 165; omega⟩ ⟨by omega, by omega, Nat.le_refl 4, Nat.le_refl 36⟩ rfl (Nat.le_of_ble_eq_true rfl) dL_rules_9 [⟨0, 14, 17, 13⟩] ⟨0, 14, 21, 21⟩ [] (hxt.trans rfl) (fun z hz => by
    simp only [List.mem_cons, List.not_mem_nil, or_false] at hz
    rcases hz with rfl
    · exact Or.inr ⟨(by decide : (13 : Nat) ≠ 0), "java/lang/IndexOutOfBoundsException", lc_RL_13, by decide⟩) (by decide) (by decide) lc_RL_21 (by decide) 6 (by decide) 2 (Or.inr ⟨rfl, dL_rules_21⟩) ?_
  refine am_go hF sgL_rules_23_d5620 24 [] [.int 2] sgL_rules_23_d5620d rfl ?_
  exact am_iret hF hO hret rfl dL_rules_24 ⟨rfl, rfl⟩
theorem mwyL_bar : am_MW yL_bar cL_bar 5 (some .int) [(0, 17, 20, 13)] 4 := ⟨am_wd 382 (by decide +kernel) (by decide +kernel), am_wd 45 (by decide +kernel) (by decide +kernel), by decide +kernel⟩
theorem swyL_bar : Cond.static yL_bar ∈ am_G := am_wd 381 (by decide +kernel) (by decide +kernel)
theorem dL_bar_5 : decode cL_bar 5 = .ok (.invokevirtual 38, 3) := by decide +kernel
def sgL_bar_0_d5391 : List Instr := [.aload_n 3, .iconst 0, .aload_n 0, .iload_n 1, .iload_n 2]
theorem sgL_bar_0_d5391d : am_dec cL_bar 0 sgL_bar_0_d5391 = true := by decide +kernel
theorem dL_bar_8 : decode cL_bar 8 = .ok (.ifCond .eq 7, 3) := by decide +kernel
theorem dL_bar_16 : decode cL_bar 16 = .ok (.lastore, 1) := by decide +kernel
def sgL_bar_17_cc677 : List Instr := [.goto 7, .iconst 0]
theorem sgL_bar_17_cc677d : am_dec cL_bar 17 sgL_bar_17_cc677 = true := by decide +kernel
theorem dL_bar_25 : decode cL_bar 25 = .ok (.ireturn, 1) := by decide +kernel
def sgL_bar_15_b1090 : List Instr := [.lconst 0]
theorem sgL_bar_15_b1090d : am_dec cL_bar 15 sgL_bar_15_b1090 = true := by decide +kernel
def sgL_bar_11_cb41f : List Instr := [.lconst 1, .goto 4]
theorem sgL_bar_11_cb41fd : am_dec cL_bar 11 sgL_bar_11_cb41f = true := by decide +kernel
theorem w_bar_n {G : am_S} {T S T' : am_T} {o : Nat → Int64} {x1 x2 : Int32} {r : Int32} {rm : Room} (hrm : rm.frames ≤ 8 ∧ rm.cells ≤ 4 ∧ rm.slots ≤ 36 ∧ rm.locals ≤ 136) (hB : am_D G yX5_bar (.code yX5_bar cX5_bar 4 (some .boolean) :: am_G) rm (hp T S o) [.ref 0, .int x1, .int x2] (hp T' S o) (some (.int r))) : am_D G yL_bar (.codeWith yL_bar cL_bar 5 (some .int) [(0, 17, 20, 13)] :: am_G) am_WR (hp T S o) [.ref 0, .int x1, .int x2, .ref 464] (hp T' S (am_updL o 0 (if r = 0 then 0 else 1))) (some (.int 0)) := by
  refine am_ofT (by decide +kernel) (Nat.le_of_ble_eq_true rfl) ?_
  intro C hse hret hxt hF hO
  subst hse
  refine am_go hF sgL_bar_0_d5391 5 [(0, .ref 0), (1, .int x1), (2, .int x2), (3, .ref 464)] [.int x2, .int x1, .ref 0, .int 0, .ref 464] sgL_bar_0_d5391d rfl ?_
  refine am_dV hF hO [.int x1, .int x2] [.int 0, .ref 464] hB myX5_bar vyX5_bar lm_RL_38 (hp_main _ _ _) rfl rfl 4 36 ⟨by show _ ≤ 9; omega, by show 8 + (4 + 11) + _ ≤ 165; omega⟩ ⟨by omega, by omega, Nat.le_refl 4, Nat.le_refl 36⟩ rfl (am_lv_ref (hp_main _ _ _) (am_lv_int (am_lv_int (am_lv_ref (hp_o9 _ _ _) (am_lv_int (am_lv_ref (hp_o9 _ _ _) am_lv_nil)))))) (Nat.le_of_ble_eq_true rfl) dL_bar_5 [.int r, .int 0, .ref 464] rfl ?_
  refine am_ifeq hF 15 dL_bar_8 (by decide) (fun c1 => ?_) (fun c1 => ?_)
  · refine am_go hF sgL_bar_15_b1090 16 [(0, .ref 0), (1, .int x1), (2, .int x2), (3, .ref 464)] [.long (Int64.ofNat 0), .int 0, .ref 464] sgL_bar_15_b1090d rfl ?_
    refine am_last hF (hp_o9 T' S o) 0 rfl (by decide) (by decide) dL_bar_16 ?_
    refine am_eqX (hp T' S (am_updL o 0 (if r = 0 then 0 else 1))) (by rw [hp_ou, if_pos c1]; rfl) ?_
    refine am_go hF sgL_bar_17_cc677 25 [(0, .ref 0), (1, .int x1), (2, .int x2), (3, .ref 464)] [.int 0] sgL_bar_17_cc677d rfl ?_
    exact am_iret hF hO hret rfl dL_bar_25 ⟨rfl, rfl⟩
  · refine am_go hF sgL_bar_11_cb41f 16 [(0, .ref 0), (1, .int x1), (2, .int x2), (3, .ref 464)] [.long (Int64.ofNat 1), .int 0, .ref 464] sgL_bar_11_cb41fd rfl ?_
    refine am_last hF (hp_o9 T' S o) 0 rfl (by decide) (by decide) dL_bar_16 ?_
    refine am_eqX (hp T' S (am_updL o 0 (if r = 0 then 0 else 1))) (by rw [hp_ou, if_neg c1]; rfl) ?_
    refine am_go hF sgL_bar_17_cc677 25 [(0, .ref 0), (1, .int x1), (2, .int x2), (3, .ref 464)] [.int 0] sgL_bar_17_cc677d rfl ?_
    exact am_iret hF hO hret rfl dL_bar_25 ⟨rfl, rfl⟩
theorem dL_bar_20 : decode cL_bar 20 = .ok (.astore 4, 2) := by decide +kernel
def sgL_bar_22_4de0a : List Instr := [.iconst 1]
theorem sgL_bar_22_4de0ad : am_dec cL_bar 22 sgL_bar_22_4de0a = true := by decide +kernel
theorem dL_bar_23 : decode cL_bar 23 = .ok (.ireturn, 1) := by decide +kernel
theorem w_bar_1 {G : am_S} {T S : am_T} {o : Nat → Int64} {x1 x2 : Int32} {rm : Room} (hrm : rm.frames ≤ 8 ∧ rm.cells ≤ 4 ∧ rm.slots ≤ 36 ∧ rm.locals ≤ 136) (hB : am_XD G yX5_bar (.code yX5_bar cX5_bar 4 (some .boolean) :: am_G) rm (hp T S o) [.ref 0, .int x1, .int x2] am_E1) : am_D G yL_bar (.codeWith yL_bar cL_bar 5 (some .int) [(0, 17, 20, 13)] :: am_G) am_WR (hp T S o) [.ref 0, .int x1, .int x2, .ref 464] (hp T S o) (some (.int 1)) := by
  refine am_ofT (by decide +kernel) (Nat.le_of_ble_eq_true rfl) ?_
  intro C hse hret hxt hF hO
  subst hse
  refine am_go hF sgL_bar_0_d5391 5 [(0, .ref 0), (1, .int x1), (2, .int x2), (3, .ref 464)] [.int x2, .int x1, .ref 0, .int 0, .ref 464] sgL_bar_0_d5391d rfl ?_
  refine am_xT hF hO [.int x1, .int x2] [.int 0, .ref 464] hB myX5_bar vyX5_bar lm_RL_38 (hp_main _ _ _) rfl rfl 4 36 ⟨by show _ ≤ 9; omega, by show 8 + (4 + 11) + _ ≤ 165; omega⟩ ⟨by omega, by omega, Nat.le_refl 4, Nat.le_refl 36⟩ rfl (Nat.le_of_ble_eq_true rfl) dL_bar_5 [] ⟨0, 17, 20, 13⟩ [] (hxt.trans rfl) (fun z hz => nomatch hz) (by decide) (by decide) lc_RL_13 (by decide) 4 (by decide) 2 (Or.inr ⟨rfl, dL_bar_20⟩) ?_
  refine am_go hF sgL_bar_22_4de0a 23 [] [.int 1] sgL_bar_22_4de0ad rfl ?_
  exact am_iret hF hO hret rfl dL_bar_23 ⟨rfl, rfl⟩
theorem mwyL_word : am_MW yL_word cL_word 5 (some .int) [(0, 10, 13, 13), (0, 10, 17, 21)] 4 := ⟨am_wd 389 (by decide +kernel) (by decide +kernel), am_wd 45 (by decide +kernel) (by decide +kernel), by decide +kernel⟩
theorem swyL_word : Cond.static yL_word ∈ am_G := am_wd 388 (by decide +kernel) (by decide +kernel)
theorem dL_word_5 : decode cL_word 5 = .ok (.invokevirtual 41, 3) := by decide +kernel
def sgL_word_0_d5391 : List Instr := [.aload_n 3, .iconst 0, .aload_n 0, .iload_n 1, .iload_n 2]
theorem sgL_word_0_d5391d : am_dec cL_word 0 sgL_word_0_d5391 = true := by decide +kernel
def sgL_word_8_bb023 : List Instr := [.i2l]
theorem sgL_word_8_bb023d : am_dec cL_word 8 sgL_word_8_bb023 = true := by decide +kernel
theorem dL_word_9 : decode cL_word 9 = .ok (.lastore, 1) := by decide +kernel
def sgL_word_10_2ee0e : List Instr := [.goto 11, .iconst 0]
theorem sgL_word_10_2ee0ed : am_dec cL_word 10 sgL_word_10_2ee0e = true := by decide +kernel
theorem dL_word_22 : decode cL_word 22 = .ok (.ireturn, 1) := by decide +kernel
theorem w_word_n {G : am_S} {T S T' : am_T} {o : Nat → Int64} {x1 x2 : Int32} {r : Int32} {rm : Room} (hrm : rm.frames ≤ 8 ∧ rm.cells ≤ 4 ∧ rm.slots ≤ 36 ∧ rm.locals ≤ 136) (hB : am_D G yX5_word (.code yX5_word cX5_word 4 (some .int) :: am_G) rm (hp T S o) [.ref 0, .int x1, .int x2] (hp T' S o) (some (.int r))) : am_D G yL_word (.codeWith yL_word cL_word 5 (some .int) [(0, 10, 13, 13), (0, 10, 17, 21)] :: am_G) am_WR (hp T S o) [.ref 0, .int x1, .int x2, .ref 464] (hp T' S (am_updL o 0 r.toInt64)) (some (.int 0)) := by
  refine am_ofT (by decide +kernel) (Nat.le_of_ble_eq_true rfl) ?_
  intro C hse hret hxt hF hO
  subst hse
  refine am_go hF sgL_word_0_d5391 5 [(0, .ref 0), (1, .int x1), (2, .int x2), (3, .ref 464)] [.int x2, .int x1, .ref 0, .int 0, .ref 464] sgL_word_0_d5391d rfl ?_
  refine am_dV hF hO [.int x1, .int x2] [.int 0, .ref 464] hB myX5_word vyX5_word lm_RL_41 (hp_main _ _ _) rfl rfl 4 36 ⟨by show _ ≤ 9; omega, by show 8 + (4 + 11) + _ ≤ 165; omega⟩ ⟨by omega, by omega, Nat.le_refl 4, Nat.le_refl 36⟩ rfl (am_lv_ref (hp_main _ _ _) (am_lv_int (am_lv_int (am_lv_ref (hp_o9 _ _ _) (am_lv_int (am_lv_ref (hp_o9 _ _ _) am_lv_nil)))))) (Nat.le_of_ble_eq_true rfl) dL_word_5 [.int r, .int 0, .ref 464] rfl ?_
  refine am_go hF sgL_word_8_bb023 9 [(0, .ref 0), (1, .int x1), (2, .int x2), (3, .ref 464)] [.long r.toInt64, .int 0, .ref 464] sgL_word_8_bb023d rfl ?_
  refine am_last hF (hp_o9 T' S o) 0 rfl (by decide) (by decide) dL_word_9 ?_
  refine am_eqX (hp T' S (am_updL o 0 r.toInt64)) (hp_ou _ _ _ _) ?_
  refine am_go hF sgL_word_10_2ee0e 22 [(0, .ref 0), (1, .int x1), (2, .int x2), (3, .ref 464)] [.int 0] sgL_word_10_2ee0ed rfl ?_
  exact am_iret hF hO hret rfl dL_word_22 ⟨rfl, rfl⟩
theorem dL_word_13 : decode cL_word 13 = .ok (.astore 4, 2) := by decide +kernel
def sgL_word_15_4de0a : List Instr := [.iconst 1]
theorem sgL_word_15_4de0ad : am_dec cL_word 15 sgL_word_15_4de0a = true := by decide +kernel
theorem dL_word_16 : decode cL_word 16 = .ok (.ireturn, 1) := by decide +kernel
theorem w_word_1 {G : am_S} {T S : am_T} {o : Nat → Int64} {x1 x2 : Int32} {rm : Room} (hrm : rm.frames ≤ 8 ∧ rm.cells ≤ 4 ∧ rm.slots ≤ 36 ∧ rm.locals ≤ 136) (hB : am_XD G yX5_word (.code yX5_word cX5_word 4 (some .int) :: am_G) rm (hp T S o) [.ref 0, .int x1, .int x2] am_E1) : am_D G yL_word (.codeWith yL_word cL_word 5 (some .int) [(0, 10, 13, 13), (0, 10, 17, 21)] :: am_G) am_WR (hp T S o) [.ref 0, .int x1, .int x2, .ref 464] (hp T S o) (some (.int 1)) := by
  refine am_ofT (by decide +kernel) (Nat.le_of_ble_eq_true rfl) ?_
  intro C hse hret hxt hF hO
  subst hse
  refine am_go hF sgL_word_0_d5391 5 [(0, .ref 0), (1, .int x1), (2, .int x2), (3, .ref 464)] [.int x2, .int x1, .ref 0, .int 0, .ref 464] sgL_word_0_d5391d rfl ?_
  refine am_xT hF hO [.int x1, .int x2] [.int 0, .ref 464] hB myX5_word vyX5_word lm_RL_41 (hp_main _ _ _) rfl rfl 4 36 ⟨by show _ ≤ 9; omega, by show 8 + (4 + 11) + _ ≤ 165; omega⟩ ⟨by omega, by omega, Nat.le_refl 4, Nat.le_refl 36⟩ rfl (Nat.le_of_ble_eq_true rfl) dL_word_5 [] ⟨0, 10, 13, 13⟩ [⟨0, 10, 17, 21⟩] (hxt.trans rfl) (fun z hz => nomatch hz) (by decide) (by decide) lc_RL_13 (by decide) 4 (by decide) 2 (Or.inr ⟨rfl, dL_word_13⟩) ?_
  refine am_go hF sgL_word_15_4de0a 16 [] [.int 1] sgL_word_15_4de0ad rfl ?_
  exact am_iret hF hO hret rfl dL_word_16 ⟨rfl, rfl⟩
theorem dL_word_17 : decode cL_word 17 = .ok (.astore 4, 2) := by decide +kernel
def sgL_word_19_d5620 : List Instr := [.iconst 2]
theorem sgL_word_19_d5620d : am_dec cL_word 19 sgL_word_19_d5620 = true := by decide +kernel
theorem dL_word_20 : decode cL_word 20 = .ok (.ireturn, 1) := by decide +kernel
theorem w_word_3 {G : am_S} {T S : am_T} {o : Nat → Int64} {x1 x2 : Int32} {rm : Room} (hrm : rm.frames ≤ 8 ∧ rm.cells ≤ 4 ∧ rm.slots ≤ 36 ∧ rm.locals ≤ 136) (hB : am_XD G yX5_word (.code yX5_word cX5_word 4 (some .int) :: am_G) rm (hp T S o) [.ref 0, .int x1, .int x2] am_E3) : am_D G yL_word (.codeWith yL_word cL_word 5 (some .int) [(0, 10, 13, 13), (0, 10, 17, 21)] :: am_G) am_WR (hp T S o) [.ref 0, .int x1, .int x2, .ref 464] (hp T S o) (some (.int 2)) := by
  refine am_ofT (by decide +kernel) (Nat.le_of_ble_eq_true rfl) ?_
  intro C hse hret hxt hF hO
  subst hse
  refine am_go hF sgL_word_0_d5391 5 [(0, .ref 0), (1, .int x1), (2, .int x2), (3, .ref 464)] [.int x2, .int x1, .ref 0, .int 0, .ref 464] sgL_word_0_d5391d rfl ?_
  refine am_xT hF hO [.int x1, .int x2] [.int 0, .ref 464] hB myX5_word vyX5_word lm_RL_41 (hp_main _ _ _) rfl rfl 4 36 ⟨by show _ ≤ 9; omega, by show 8 + (4 + 11) + _ ≤ 165; omega⟩ ⟨by omega, by omega, Nat.le_refl 4, Nat.le_refl 36⟩ rfl (Nat.le_of_ble_eq_true rfl) dL_word_5 [⟨0, 10, 13, 13⟩] ⟨0, 10, 17, 21⟩ [] (hxt.trans rfl) (fun z hz => by
    simp only [List.mem_cons, List.not_mem_nil, or_false] at hz
    rcases hz with rfl
    · exact Or.inr ⟨(by decide : (13 : Nat) ≠ 0), "java/lang/IndexOutOfBoundsException", lc_RL_13, by decide⟩) (by decide) (by decide) lc_RL_21 (by decide) 4 (by decide) 2 (Or.inr ⟨rfl, dL_word_17⟩) ?_
  refine am_go hF sgL_word_19_d5620 20 [] [.int 2] sgL_word_19_d5620d rfl ?_
  exact am_iret hF hO hret rfl dL_word_20 ⟨rfl, rfl⟩
theorem mwyL_reaches : am_MW yL_reaches cL_reaches 4 (some .int) [(0, 9, 12, 13)] 3 := ⟨am_wd 397 (by decide +kernel) (by decide +kernel), am_wd 45 (by decide +kernel) (by decide +kernel), by decide +kernel⟩
theorem swyL_reaches : Cond.static yL_reaches ∈ am_G := am_wd 396 (by decide +kernel) (by decide +kernel)
theorem dL_reaches_4 : decode cL_reaches 4 = .ok (.invokevirtual 44, 3) := by decide +kernel
def sgL_reaches_0_817ed : List Instr := [.aload_n 2, .iconst 0, .aload_n 0, .iload_n 1]
theorem sgL_reaches_0_817edd : am_dec cL_reaches 0 sgL_reaches_0_817ed = true := by decide +kernel
def sgL_reaches_7_bb023 : List Instr := [.i2l]
theorem sgL_reaches_7_bb023d : am_dec cL_reaches 7 sgL_reaches_7_bb023 = true := by decide +kernel
theorem dL_reaches_8 : decode cL_reaches 8 = .ok (.lastore, 1) := by decide +kernel
def sgL_reaches_9_51cdd : List Instr := [.goto 6, .iconst 0]
theorem sgL_reaches_9_51cddd : am_dec cL_reaches 9 sgL_reaches_9_51cdd = true := by decide +kernel
theorem dL_reaches_16 : decode cL_reaches 16 = .ok (.ireturn, 1) := by decide +kernel
theorem w_reaches_n {G : am_S} {T S T' : am_T} {o : Nat → Int64} {x1 : Int32} {r : Int32} {rm : Room} (hrm : rm.frames ≤ 8 ∧ rm.cells ≤ 4 ∧ rm.slots ≤ 36 ∧ rm.locals ≤ 136) (hB : am_D G yX5_reaches (.code yX5_reaches cX5_reaches 2 (some .int) :: am_G) rm (hp T S o) [.ref 0, .int x1] (hp T' S o) (some (.int r))) : am_D G yL_reaches (.codeWith yL_reaches cL_reaches 4 (some .int) [(0, 9, 12, 13)] :: am_G) am_WR (hp T S o) [.ref 0, .int x1, .ref 464] (hp T' S (am_updL o 0 r.toInt64)) (some (.int 0)) := by
  refine am_ofT (by decide +kernel) (Nat.le_of_ble_eq_true rfl) ?_
  intro C hse hret hxt hF hO
  subst hse
  refine am_go hF sgL_reaches_0_817ed 4 [(0, .ref 0), (1, .int x1), (2, .ref 464)] [.int x1, .ref 0, .int 0, .ref 464] sgL_reaches_0_817edd rfl ?_
  refine am_dV hF hO [.int x1] [.int 0, .ref 464] hB myX5_reaches vyX5_reaches lm_RL_44 (hp_main _ _ _) rfl rfl 4 36 ⟨by show _ ≤ 9; omega, by show 8 + (2 + 11) + _ ≤ 165; omega⟩ ⟨by omega, by omega, Nat.le_refl 4, Nat.le_refl 36⟩ rfl (am_lv_ref (hp_main _ _ _) (am_lv_int (am_lv_ref (hp_o9 _ _ _) (am_lv_int (am_lv_ref (hp_o9 _ _ _) am_lv_nil))))) (Nat.le_of_ble_eq_true rfl) dL_reaches_4 [.int r, .int 0, .ref 464] rfl ?_
  refine am_go hF sgL_reaches_7_bb023 8 [(0, .ref 0), (1, .int x1), (2, .ref 464)] [.long r.toInt64, .int 0, .ref 464] sgL_reaches_7_bb023d rfl ?_
  refine am_last hF (hp_o9 T' S o) 0 rfl (by decide) (by decide) dL_reaches_8 ?_
  refine am_eqX (hp T' S (am_updL o 0 r.toInt64)) (hp_ou _ _ _ _) ?_
  refine am_go hF sgL_reaches_9_51cdd 16 [(0, .ref 0), (1, .int x1), (2, .ref 464)] [.int 0] sgL_reaches_9_51cddd rfl ?_
  exact am_iret hF hO hret rfl dL_reaches_16 ⟨rfl, rfl⟩
theorem dL_reaches_12 : decode cL_reaches 12 = .ok (.astore_n 3, 1) := by decide +kernel
def sgL_reaches_13_4de0a : List Instr := [.iconst 1]
theorem sgL_reaches_13_4de0ad : am_dec cL_reaches 13 sgL_reaches_13_4de0a = true := by decide +kernel
theorem dL_reaches_14 : decode cL_reaches 14 = .ok (.ireturn, 1) := by decide +kernel
theorem w_reaches_1 {G : am_S} {T S : am_T} {o : Nat → Int64} {x1 : Int32} {rm : Room} (hrm : rm.frames ≤ 8 ∧ rm.cells ≤ 4 ∧ rm.slots ≤ 36 ∧ rm.locals ≤ 136) (hB : am_XD G yX5_reaches (.code yX5_reaches cX5_reaches 2 (some .int) :: am_G) rm (hp T S o) [.ref 0, .int x1] am_E1) : am_D G yL_reaches (.codeWith yL_reaches cL_reaches 4 (some .int) [(0, 9, 12, 13)] :: am_G) am_WR (hp T S o) [.ref 0, .int x1, .ref 464] (hp T S o) (some (.int 1)) := by
  refine am_ofT (by decide +kernel) (Nat.le_of_ble_eq_true rfl) ?_
  intro C hse hret hxt hF hO
  subst hse
  refine am_go hF sgL_reaches_0_817ed 4 [(0, .ref 0), (1, .int x1), (2, .ref 464)] [.int x1, .ref 0, .int 0, .ref 464] sgL_reaches_0_817edd rfl ?_
  refine am_xT hF hO [.int x1] [.int 0, .ref 464] hB myX5_reaches vyX5_reaches lm_RL_44 (hp_main _ _ _) rfl rfl 4 36 ⟨by show _ ≤ 9; omega, by show 8 + (2 + 11) + _ ≤ 165; omega⟩ ⟨by omega, by omega, Nat.le_refl 4, Nat.le_refl 36⟩ rfl (Nat.le_of_ble_eq_true rfl) dL_reaches_4 [] ⟨0, 9, 12, 13⟩ [] (hxt.trans rfl) (fun z hz => nomatch hz) (by decide) (by decide) lc_RL_13 (by decide) 3 (by decide) 1 (Or.inl ⟨3, rfl, rfl, dL_reaches_12⟩) ?_
  refine am_go hF sgL_reaches_13_4de0a 14 [] [.int 1] sgL_reaches_13_4de0ad rfl ?_
  exact am_iret hF hO hret rfl dL_reaches_14 ⟨rfl, rfl⟩
theorem mwyL_reachesByMembers : am_MW yL_reachesByMembers cL_reachesByMembers 4 (some .int) [(0, 9, 12, 13)] 3 := ⟨am_wd 408 (by decide +kernel) (by decide +kernel), am_wd 45 (by decide +kernel) (by decide +kernel), by decide +kernel⟩
theorem swyL_reachesByMembers : Cond.static yL_reachesByMembers ∈ am_G := am_wd 407 (by decide +kernel) (by decide +kernel)
theorem dL_reachesByMembers_4 : decode cL_reachesByMembers 4 = .ok (.invokevirtual 47, 3) := by decide +kernel
def sgL_reachesByMembers_0_817ed : List Instr := [.aload_n 2, .iconst 0, .aload_n 0, .iload_n 1]
theorem sgL_reachesByMembers_0_817edd : am_dec cL_reachesByMembers 0 sgL_reachesByMembers_0_817ed = true := by decide +kernel
def sgL_reachesByMembers_7_bb023 : List Instr := [.i2l]
theorem sgL_reachesByMembers_7_bb023d : am_dec cL_reachesByMembers 7 sgL_reachesByMembers_7_bb023 = true := by decide +kernel
theorem dL_reachesByMembers_8 : decode cL_reachesByMembers 8 = .ok (.lastore, 1) := by decide +kernel
def sgL_reachesByMembers_9_51cdd : List Instr := [.goto 6, .iconst 0]
theorem sgL_reachesByMembers_9_51cddd : am_dec cL_reachesByMembers 9 sgL_reachesByMembers_9_51cdd = true := by decide +kernel
theorem dL_reachesByMembers_16 : decode cL_reachesByMembers 16 = .ok (.ireturn, 1) := by decide +kernel
theorem w_reachesByMembers_n {G : am_S} {T S T' : am_T} {o : Nat → Int64} {x1 : Int32} {r : Int32} {rm : Room} (hrm : rm.frames ≤ 8 ∧ rm.cells ≤ 4 ∧ rm.slots ≤ 36 ∧ rm.locals ≤ 136) (hB : am_D G yX5_reachesByMembers (.code yX5_reachesByMembers cX5_reachesByMembers 4 (some .int) :: am_G) rm (hp T S o) [.ref 0, .int x1] (hp T' S o) (some (.int r))) : am_D G yL_reachesByMembers (.codeWith yL_reachesByMembers cL_reachesByMembers 4 (some .int) [(0, 9, 12, 13)] :: am_G) am_WR (hp T S o) [.ref 0, .int x1, .ref 464] (hp T' S (am_updL o 0 r.toInt64)) (some (.int 0)) := by
  refine am_ofT (by decide +kernel) (Nat.le_of_ble_eq_true rfl) ?_
  intro C hse hret hxt hF hO
  subst hse
  refine am_go hF sgL_reachesByMembers_0_817ed 4 [(0, .ref 0), (1, .int x1), (2, .ref 464)] [.int x1, .ref 0, .int 0, .ref 464] sgL_reachesByMembers_0_817edd rfl ?_
  refine am_dV hF hO [.int x1] [.int 0, .ref 464] hB myX5_reachesByMembers vyX5_reachesByMembers lm_RL_47 (hp_main _ _ _) rfl rfl 4 36 ⟨by show _ ≤ 9; omega, by show 8 + (4 + 11) + _ ≤ 165; omega⟩ ⟨by omega, by omega, Nat.le_refl 4, Nat.le_refl 36⟩ rfl (am_lv_ref (hp_main _ _ _) (am_lv_int (am_lv_ref (hp_o9 _ _ _) (am_lv_int (am_lv_ref (hp_o9 _ _ _) am_lv_nil))))) (Nat.le_of_ble_eq_true rfl) dL_reachesByMembers_4 [.int r, .int 0, .ref 464] rfl ?_
  refine am_go hF sgL_reachesByMembers_7_bb023 8 [(0, .ref 0), (1, .int x1), (2, .ref 464)] [.long r.toInt64, .int 0, .ref 464] sgL_reachesByMembers_7_bb023d rfl ?_
  refine am_last hF (hp_o9 T' S o) 0 rfl (by decide) (by decide) dL_reachesByMembers_8 ?_
  refine am_eqX (hp T' S (am_updL o 0 r.toInt64)) (hp_ou _ _ _ _) ?_
  refine am_go hF sgL_reachesByMembers_9_51cdd 16 [(0, .ref 0), (1, .int x1), (2, .ref 464)] [.int 0] sgL_reachesByMembers_9_51cddd rfl ?_
  exact am_iret hF hO hret rfl dL_reachesByMembers_16 ⟨rfl, rfl⟩
theorem dL_reachesByMembers_12 : decode cL_reachesByMembers 12 = .ok (.astore_n 3, 1) := by decide +kernel
def sgL_reachesByMembers_13_4de0a : List Instr := [.iconst 1]
theorem sgL_reachesByMembers_13_4de0ad : am_dec cL_reachesByMembers 13 sgL_reachesByMembers_13_4de0a = true := by decide +kernel
theorem dL_reachesByMembers_14 : decode cL_reachesByMembers 14 = .ok (.ireturn, 1) := by decide +kernel
theorem w_reachesByMembers_1 {G : am_S} {T S : am_T} {o : Nat → Int64} {x1 : Int32} {rm : Room} (hrm : rm.frames ≤ 8 ∧ rm.cells ≤ 4 ∧ rm.slots ≤ 36 ∧ rm.locals ≤ 136) (hB : am_XD G yX5_reachesByMembers (.code yX5_reachesByMembers cX5_reachesByMembers 4 (some .int) :: am_G) rm (hp T S o) [.ref 0, .int x1] am_E1) : am_D G yL_reachesByMembers (.codeWith yL_reachesByMembers cL_reachesByMembers 4 (some .int) [(0, 9, 12, 13)] :: am_G) am_WR (hp T S o) [.ref 0, .int x1, .ref 464] (hp T S o) (some (.int 1)) := by
  refine am_ofT (by decide +kernel) (Nat.le_of_ble_eq_true rfl) ?_
  intro C hse hret hxt hF hO
  subst hse
  refine am_go hF sgL_reachesByMembers_0_817ed 4 [(0, .ref 0), (1, .int x1), (2, .ref 464)] [.int x1, .ref 0, .int 0, .ref 464] sgL_reachesByMembers_0_817edd rfl ?_
  refine am_xT hF hO [.int x1] [.int 0, .ref 464] hB myX5_reachesByMembers vyX5_reachesByMembers lm_RL_47 (hp_main _ _ _) rfl rfl 4 36 ⟨by show _ ≤ 9; omega, by show 8 + (4 + 11) + _ ≤ 165; omega⟩ ⟨by omega, by omega, Nat.le_refl 4, Nat.le_refl 36⟩ rfl (Nat.le_of_ble_eq_true rfl) dL_reachesByMembers_4 [] ⟨0, 9, 12, 13⟩ [] (hxt.trans rfl) (fun z hz => nomatch hz) (by decide) (by decide) lc_RL_13 (by decide) 3 (by decide) 1 (Or.inl ⟨3, rfl, rfl, dL_reachesByMembers_12⟩) ?_
  refine am_go hF sgL_reachesByMembers_13_4de0a 14 [] [.int 1] sgL_reachesByMembers_13_4de0ad rfl ?_
  exact am_iret hF hO hret rfl dL_reachesByMembers_14 ⟨rfl, rfl⟩
theorem mwyL_modeOf : am_MW yL_modeOf cL_modeOf 5 (some .int) [(0, 10, 13, 13)] 4 := ⟨am_wd 419 (by decide +kernel) (by decide +kernel), am_wd 45 (by decide +kernel) (by decide +kernel), by decide +kernel⟩
theorem swyL_modeOf : Cond.static yL_modeOf ∈ am_G := am_wd 418 (by decide +kernel) (by decide +kernel)
theorem dL_modeOf_5 : decode cL_modeOf 5 = .ok (.invokevirtual 50, 3) := by decide +kernel
def sgL_modeOf_0_d5391 : List Instr := [.aload_n 3, .iconst 0, .aload_n 0, .iload_n 1, .iload_n 2]
theorem sgL_modeOf_0_d5391d : am_dec cL_modeOf 0 sgL_modeOf_0_d5391 = true := by decide +kernel
def sgL_modeOf_8_bb023 : List Instr := [.i2l]
theorem sgL_modeOf_8_bb023d : am_dec cL_modeOf 8 sgL_modeOf_8_bb023 = true := by decide +kernel
theorem dL_modeOf_9 : decode cL_modeOf 9 = .ok (.lastore, 1) := by decide +kernel
def sgL_modeOf_10_cc677 : List Instr := [.goto 7, .iconst 0]
theorem sgL_modeOf_10_cc677d : am_dec cL_modeOf 10 sgL_modeOf_10_cc677 = true := by decide +kernel
theorem dL_modeOf_18 : decode cL_modeOf 18 = .ok (.ireturn, 1) := by decide +kernel
theorem w_modeOf_n {G : am_S} {T S T' : am_T} {o : Nat → Int64} {x1 x2 : Int32} {r : Int32} {rm : Room} (hrm : rm.frames ≤ 8 ∧ rm.cells ≤ 4 ∧ rm.slots ≤ 36 ∧ rm.locals ≤ 136) (hB : am_D G yX5_modeOf (.code yX5_modeOf cX5_modeOf 3 (some .int) :: am_G) rm (hp T S o) [.ref 0, .int x1, .int x2] (hp T' S o) (some (.int r))) : am_D G yL_modeOf (.codeWith yL_modeOf cL_modeOf 5 (some .int) [(0, 10, 13, 13)] :: am_G) am_WR (hp T S o) [.ref 0, .int x1, .int x2, .ref 464] (hp T' S (am_updL o 0 r.toInt64)) (some (.int 0)) := by
  refine am_ofT (by decide +kernel) (Nat.le_of_ble_eq_true rfl) ?_
  intro C hse hret hxt hF hO
  subst hse
  refine am_go hF sgL_modeOf_0_d5391 5 [(0, .ref 0), (1, .int x1), (2, .int x2), (3, .ref 464)] [.int x2, .int x1, .ref 0, .int 0, .ref 464] sgL_modeOf_0_d5391d rfl ?_
  refine am_dV hF hO [.int x1, .int x2] [.int 0, .ref 464] hB myX5_modeOf vyX5_modeOf lm_RL_50 (hp_main _ _ _) rfl rfl 4 36 ⟨by show _ ≤ 9; omega, by show 8 + (3 + 11) + _ ≤ 165; omega⟩ ⟨by omega, by omega, Nat.le_refl 4, Nat.le_refl 36⟩ rfl (am_lv_ref (hp_main _ _ _) (am_lv_int (am_lv_int (am_lv_ref (hp_o9 _ _ _) (am_lv_int (am_lv_ref (hp_o9 _ _ _) am_lv_nil)))))) (Nat.le_of_ble_eq_true rfl) dL_modeOf_5 [.int r, .int 0, .ref 464] rfl ?_
  refine am_go hF sgL_modeOf_8_bb023 9 [(0, .ref 0), (1, .int x1), (2, .int x2), (3, .ref 464)] [.long r.toInt64, .int 0, .ref 464] sgL_modeOf_8_bb023d rfl ?_
  refine am_last hF (hp_o9 T' S o) 0 rfl (by decide) (by decide) dL_modeOf_9 ?_
  refine am_eqX (hp T' S (am_updL o 0 r.toInt64)) (hp_ou _ _ _ _) ?_
  refine am_go hF sgL_modeOf_10_cc677 18 [(0, .ref 0), (1, .int x1), (2, .int x2), (3, .ref 464)] [.int 0] sgL_modeOf_10_cc677d rfl ?_
  exact am_iret hF hO hret rfl dL_modeOf_18 ⟨rfl, rfl⟩
theorem dL_modeOf_13 : decode cL_modeOf 13 = .ok (.astore 4, 2) := by decide +kernel
def sgL_modeOf_15_4de0a : List Instr := [.iconst 1]
theorem sgL_modeOf_15_4de0ad : am_dec cL_modeOf 15 sgL_modeOf_15_4de0a = true := by decide +kernel
theorem dL_modeOf_16 : decode cL_modeOf 16 = .ok (.ireturn, 1) := by decide +kernel
theorem w_modeOf_1 {G : am_S} {T S : am_T} {o : Nat → Int64} {x1 x2 : Int32} {rm : Room} (hrm : rm.frames ≤ 8 ∧ rm.cells ≤ 4 ∧ rm.slots ≤ 36 ∧ rm.locals ≤ 136) (hB : am_XD G yX5_modeOf (.code yX5_modeOf cX5_modeOf 3 (some .int) :: am_G) rm (hp T S o) [.ref 0, .int x1, .int x2] am_E1) : am_D G yL_modeOf (.codeWith yL_modeOf cL_modeOf 5 (some .int) [(0, 10, 13, 13)] :: am_G) am_WR (hp T S o) [.ref 0, .int x1, .int x2, .ref 464] (hp T S o) (some (.int 1)) := by
  refine am_ofT (by decide +kernel) (Nat.le_of_ble_eq_true rfl) ?_
  intro C hse hret hxt hF hO
  subst hse
  refine am_go hF sgL_modeOf_0_d5391 5 [(0, .ref 0), (1, .int x1), (2, .int x2), (3, .ref 464)] [.int x2, .int x1, .ref 0, .int 0, .ref 464] sgL_modeOf_0_d5391d rfl ?_
  refine am_xT hF hO [.int x1, .int x2] [.int 0, .ref 464] hB myX5_modeOf vyX5_modeOf lm_RL_50 (hp_main _ _ _) rfl rfl 4 36 ⟨by show _ ≤ 9; omega, by show 8 + (3 + 11) + _ ≤ 165; omega⟩ ⟨by omega, by omega, Nat.le_refl 4, Nat.le_refl 36⟩ rfl (Nat.le_of_ble_eq_true rfl) dL_modeOf_5 [] ⟨0, 10, 13, 13⟩ [] (hxt.trans rfl) (fun z hz => nomatch hz) (by decide) (by decide) lc_RL_13 (by decide) 4 (by decide) 2 (Or.inr ⟨rfl, dL_modeOf_13⟩) ?_
  refine am_go hF sgL_modeOf_15_4de0a 16 [] [.int 1] sgL_modeOf_15_4de0ad rfl ?_
  exact am_iret hF hO hret rfl dL_modeOf_16 ⟨rfl, rfl⟩
theorem mwyL_send : am_MW yL_send cL_send 7 (some .int) [(0, 14, 17, 13), (0, 14, 21, 21), (0, 14, 25, 15)] 6 := ⟨am_wd 430 (by decide +kernel) (by decide +kernel), am_wd 45 (by decide +kernel) (by decide +kernel), by decide +kernel⟩
theorem swyL_send : Cond.static yL_send ∈ am_G := am_wd 429 (by decide +kernel) (by decide +kernel)
theorem dL_send_9 : decode cL_send 9 = .ok (.invokevirtual 53, 3) := by decide +kernel
def sgL_send_0_be72b : List Instr := [.aload 5, .iconst 0, .aload_n 0, .iload_n 1, .iload_n 2, .iload_n 3, .iload 4]
theorem sgL_send_0_be72bd : am_dec cL_send 0 sgL_send_0_be72b = true := by decide +kernel
def sgL_send_12_bb023 : List Instr := [.i2l]
theorem sgL_send_12_bb023d : am_dec cL_send 12 sgL_send_12_bb023 = true := by decide +kernel
theorem dL_send_13 : decode cL_send 13 = .ok (.lastore, 1) := by decide +kernel
def sgL_send_14_4d7aa : List Instr := [.goto 15, .iconst 0]
theorem sgL_send_14_4d7aad : am_dec cL_send 14 sgL_send_14_4d7aa = true := by decide +kernel
theorem dL_send_30 : decode cL_send 30 = .ok (.ireturn, 1) := by decide +kernel
theorem w_send_n {G : am_S} {T S T' : am_T} {o : Nat → Int64} {x1 x2 x3 x4 : Int32} {r : Int32} {rm : Room} (hrm : rm.frames ≤ 8 ∧ rm.cells ≤ 4 ∧ rm.slots ≤ 36 ∧ rm.locals ≤ 136) (hB : am_D G yX5_send (.code yX5_send cX5_send 10 (some .int) :: am_G) rm (hp T S o) [.ref 0, .int x1, .int x2, .int x3, .int x4] (hp T' S o) (some (.int r))) : am_D G yL_send (.codeWith yL_send cL_send 7 (some .int) [(0, 14, 17, 13), (0, 14, 21, 21), (0, 14, 25, 15)] :: am_G) am_WR (hp T S o) [.ref 0, .int x1, .int x2, .int x3, .int x4, .ref 464] (hp T' S (am_updL o 0 r.toInt64)) (some (.int 0)) := by
  refine am_ofT (by decide +kernel) (Nat.le_of_ble_eq_true rfl) ?_
  intro C hse hret hxt hF hO
  subst hse
  refine am_go hF sgL_send_0_be72b 9 [(0, .ref 0), (1, .int x1), (2, .int x2), (3, .int x3), (4, .int x4), (5, .ref 464)] [.int x4, .int x3, .int x2, .int x1, .ref 0, .int 0, .ref 464] sgL_send_0_be72bd rfl ?_
  refine am_dV hF hO [.int x1, .int x2, .int x3, .int x4] [.int 0, .ref 464] hB myX5_send vyX5_send lm_RL_53 (hp_main _ _ _) rfl rfl 4 36 ⟨by show _ ≤ 9; omega, by show 8 + (10 + 11) + _ ≤ 165; omega⟩ ⟨by omega, by omega, Nat.le_refl 4, Nat.le_refl 36⟩ rfl (am_lv_ref (hp_main _ _ _) (am_lv_int (am_lv_int (am_lv_int (am_lv_int (am_lv_ref (hp_o9 _ _ _) (am_lv_int (am_lv_ref (hp_o9 _ _ _) am_lv_nil)))))))) (Nat.le_of_ble_eq_true rfl) dL_send_9 [.int r, .int 0, .ref 464] rfl ?_
  refine am_go hF sgL_send_12_bb023 13 [(0, .ref 0), (1, .int x1), (2, .int x2), (3, .int x3), (4, .int x4), (5, .ref 464)] [.long r.toInt64, .int 0, .ref 464] sgL_send_12_bb023d rfl ?_
  refine am_last hF (hp_o9 T' S o) 0 rfl (by decide) (by decide) dL_send_13 ?_
  refine am_eqX (hp T' S (am_updL o 0 r.toInt64)) (hp_ou _ _ _ _) ?_
  refine am_go hF sgL_send_14_4d7aa 30 [(0, .ref 0), (1, .int x1), (2, .int x2), (3, .int x3), (4, .int x4), (5, .ref 464)] [.int 0] sgL_send_14_4d7aad rfl ?_
  exact am_iret hF hO hret rfl dL_send_30 ⟨rfl, rfl⟩
theorem dL_send_17 : decode cL_send 17 = .ok (.astore 6, 2) := by decide +kernel
def sgL_send_19_4de0a : List Instr := [.iconst 1]
theorem sgL_send_19_4de0ad : am_dec cL_send 19 sgL_send_19_4de0a = true := by decide +kernel
theorem dL_send_20 : decode cL_send 20 = .ok (.ireturn, 1) := by decide +kernel
theorem w_send_1 {G : am_S} {T S : am_T} {o : Nat → Int64} {x1 x2 x3 x4 : Int32} {rm : Room} (hrm : rm.frames ≤ 8 ∧ rm.cells ≤ 4 ∧ rm.slots ≤ 36 ∧ rm.locals ≤ 136) (hB : am_XD G yX5_send (.code yX5_send cX5_send 10 (some .int) :: am_G) rm (hp T S o) [.ref 0, .int x1, .int x2, .int x3, .int x4] am_E1) : am_D G yL_send (.codeWith yL_send cL_send 7 (some .int) [(0, 14, 17, 13), (0, 14, 21, 21), (0, 14, 25, 15)] :: am_G) am_WR (hp T S o) [.ref 0, .int x1, .int x2, .int x3, .int x4, .ref 464] (hp T S o) (some (.int 1)) := by
  refine am_ofT (by decide +kernel) (Nat.le_of_ble_eq_true rfl) ?_
  intro C hse hret hxt hF hO
  subst hse
  refine am_go hF sgL_send_0_be72b 9 [(0, .ref 0), (1, .int x1), (2, .int x2), (3, .int x3), (4, .int x4), (5, .ref 464)] [.int x4, .int x3, .int x2, .int x1, .ref 0, .int 0, .ref 464] sgL_send_0_be72bd rfl ?_
  refine am_xT hF hO [.int x1, .int x2, .int x3, .int x4] [.int 0, .ref 464] hB myX5_send vyX5_send lm_RL_53 (hp_main _ _ _) rfl rfl 4 36 ⟨by show _ ≤ 9; omega, by show 8 + (10 + 11) + _ ≤ 165; omega⟩ ⟨by omega, by omega, Nat.le_refl 4, Nat.le_refl 36⟩ rfl (Nat.le_of_ble_eq_true rfl) dL_send_9 [] ⟨0, 14, 17, 13⟩ [⟨0, 14, 21, 21⟩, ⟨0, 14, 25, 15⟩] (hxt.trans rfl) (fun z hz => nomatch hz) (by decide) (by decide) lc_RL_13 (by decide) 6 (by decide) 2 (Or.inr ⟨rfl, dL_send_17⟩) ?_
  refine am_go hF sgL_send_19_4de0a 20 [] [.int 1] sgL_send_19_4de0ad rfl ?_
  exact am_iret hF hO hret rfl dL_send_20 ⟨rfl, rfl⟩
theorem dL_send_21 : decode cL_send 21 = .ok (.astore 6, 2) := by decide +kernel
def sgL_send_23_d5620 : List Instr := [.iconst 2]
theorem sgL_send_23_d5620d : am_dec cL_send 23 sgL_send_23_d5620 = true := by decide +kernel
theorem dL_send_24 : decode cL_send 24 = .ok (.ireturn, 1) := by decide +kernel
theorem w_send_3 {G : am_S} {T S : am_T} {o : Nat → Int64} {x1 x2 x3 x4 : Int32} {rm : Room} (hrm : rm.frames ≤ 8 ∧ rm.cells ≤ 4 ∧ rm.slots ≤ 36 ∧ rm.locals ≤ 136) (hB : am_XD G yX5_send (.code yX5_send cX5_send 10 (some .int) :: am_G) rm (hp T S o) [.ref 0, .int x1, .int x2, .int x3, .int x4] am_E3) : am_D G yL_send (.codeWith yL_send cL_send 7 (some .int) [(0, 14, 17, 13), (0, 14, 21, 21), (0, 14, 25, 15)] :: am_G) am_WR (hp T S o) [.ref 0, .int x1, .int x2, .int x3, .int x4, .ref 464] (hp T S o) (some (.int 2)) := by
  refine am_ofT (by decide +kernel) (Nat.le_of_ble_eq_true rfl) ?_
  intro C hse hret hxt hF hO
  subst hse
  refine am_go hF sgL_send_0_be72b 9 [(0, .ref 0), (1, .int x1), (2, .int x2), (3, .int x3), (4, .int x4), (5, .ref 464)] [.int x4, .int x3, .int x2, .int x1, .ref 0, .int 0, .ref 464] sgL_send_0_be72bd rfl ?_
  refine am_xT hF hO [.int x1, .int x2, .int x3, .int x4] [.int 0, .ref 464] hB myX5_send vyX5_send lm_RL_53 (hp_main _ _ _) rfl rfl 4 36 ⟨by show _ ≤ 9; omega, by show 8 + (10 + 11) + _ ≤ 165; omega⟩ ⟨by omega, by omega, Nat.le_refl 4, Nat.le_refl 36⟩ rfl (Nat.le_of_ble_eq_true rfl) dL_send_9 [⟨0, 14, 17, 13⟩] ⟨0, 14, 21, 21⟩ [⟨0, 14, 25, 15⟩] (hxt.trans rfl) (fun z hz => by
    simp only [List.mem_cons, List.not_mem_nil, or_false] at hz
    rcases hz with rfl
    · exact Or.inr ⟨(by decide : (13 : Nat) ≠ 0), "java/lang/IndexOutOfBoundsException", lc_RL_13, by decide⟩) (by decide) (by decide) lc_RL_21 (by decide) 6 (by decide) 2 (Or.inr ⟨rfl, dL_send_21⟩) ?_
  refine am_go hF sgL_send_23_d5620 24 [] [.int 2] sgL_send_23_d5620d rfl ?_
  exact am_iret hF hO hret rfl dL_send_24 ⟨rfl, rfl⟩
theorem dL_send_25 : decode cL_send 25 = .ok (.astore 6, 2) := by decide +kernel
def sgL_send_27_800cc : List Instr := [.iconst 3]
theorem sgL_send_27_800ccd : am_dec cL_send 27 sgL_send_27_800cc = true := by decide +kernel
theorem dL_send_28 : decode cL_send 28 = .ok (.ireturn, 1) := by decide +kernel
theorem w_send_2 {G : am_S} {T S : am_T} {o : Nat → Int64} {x1 x2 x3 x4 : Int32} {rm : Room} (hrm : rm.frames ≤ 8 ∧ rm.cells ≤ 4 ∧ rm.slots ≤ 36 ∧ rm.locals ≤ 136) (hB : am_XD G yX5_send (.code yX5_send cX5_send 10 (some .int) :: am_G) rm (hp T S o) [.ref 0, .int x1, .int x2, .int x3, .int x4] am_E2) : am_D G yL_send (.codeWith yL_send cL_send 7 (some .int) [(0, 14, 17, 13), (0, 14, 21, 21), (0, 14, 25, 15)] :: am_G) am_WR (hp T S o) [.ref 0, .int x1, .int x2, .int x3, .int x4, .ref 464] (hp T S o) (some (.int 3)) := by
  refine am_ofT (by decide +kernel) (Nat.le_of_ble_eq_true rfl) ?_
  intro C hse hret hxt hF hO
  subst hse
  refine am_go hF sgL_send_0_be72b 9 [(0, .ref 0), (1, .int x1), (2, .int x2), (3, .int x3), (4, .int x4), (5, .ref 464)] [.int x4, .int x3, .int x2, .int x1, .ref 0, .int 0, .ref 464] sgL_send_0_be72bd rfl ?_
  refine am_xT hF hO [.int x1, .int x2, .int x3, .int x4] [.int 0, .ref 464] hB myX5_send vyX5_send lm_RL_53 (hp_main _ _ _) rfl rfl 4 36 ⟨by show _ ≤ 9; omega, by show 8 + (10 + 11) + _ ≤ 165; omega⟩ ⟨by omega, by omega, Nat.le_refl 4, Nat.le_refl 36⟩ rfl (Nat.le_of_ble_eq_true rfl) dL_send_9 [⟨0, 14, 17, 13⟩, ⟨0, 14, 21, 21⟩] ⟨0, 14, 25, 15⟩ [] (hxt.trans rfl) (fun z hz => by
    simp only [List.mem_cons, List.not_mem_nil, or_false] at hz
    rcases hz with rfl | rfl
    · exact Or.inr ⟨(by decide : (13 : Nat) ≠ 0), "java/lang/IndexOutOfBoundsException", lc_RL_13, by decide⟩
    · exact Or.inr ⟨(by decide : (21 : Nat) ≠ 0), "java/lang/IllegalArgumentException", lc_RL_21, by decide⟩) (by decide) (by decide) lc_RL_15 (by decide) 6 (by decide) 2 (Or.inr ⟨rfl, dL_send_25⟩) ?_
  refine am_go hF sgL_send_27_800cc 28 [] [.int 3] sgL_send_27_800ccd rfl ?_
  exact am_iret hF hO hret rfl dL_send_28 ⟨rfl, rfl⟩
theorem mwyL_approve : am_MW yL_approve cL_approve 4 (some .int) [(0, 9, 12, 13), (0, 9, 15, 15)] 3 := ⟨am_wd 576 (by decide +kernel) (by decide +kernel), am_wd 45 (by decide +kernel) (by decide +kernel), by decide +kernel⟩
theorem swyL_approve : Cond.static yL_approve ∈ am_G := am_wd 575 (by decide +kernel) (by decide +kernel)
theorem dL_approve_4 : decode cL_approve 4 = .ok (.invokevirtual 57, 3) := by decide +kernel
def sgL_approve_0_817ed : List Instr := [.aload_n 2, .iconst 0, .aload_n 0, .iload_n 1]
theorem sgL_approve_0_817edd : am_dec cL_approve 0 sgL_approve_0_817ed = true := by decide +kernel
def sgL_approve_7_bb023 : List Instr := [.i2l]
theorem sgL_approve_7_bb023d : am_dec cL_approve 7 sgL_approve_7_bb023 = true := by decide +kernel
theorem dL_approve_8 : decode cL_approve 8 = .ok (.lastore, 1) := by decide +kernel
def sgL_approve_9_8e6e8 : List Instr := [.goto 9, .iconst 0]
theorem sgL_approve_9_8e6e8d : am_dec cL_approve 9 sgL_approve_9_8e6e8 = true := by decide +kernel
theorem dL_approve_19 : decode cL_approve 19 = .ok (.ireturn, 1) := by decide +kernel
theorem w_approve_n {G : am_S} {T S T' : am_T} {o : Nat → Int64} {x1 : Int32} {r : Int32} {rm : Room} (hrm : rm.frames ≤ 8 ∧ rm.cells ≤ 4 ∧ rm.slots ≤ 36 ∧ rm.locals ≤ 136) (hB : am_D G yX5_approve (.code yX5_approve cX5_approve 3 (some .int) :: am_G) rm (hp T S o) [.ref 0, .int x1] (hp T' S o) (some (.int r))) : am_D G yL_approve (.codeWith yL_approve cL_approve 4 (some .int) [(0, 9, 12, 13), (0, 9, 15, 15)] :: am_G) am_WR (hp T S o) [.ref 0, .int x1, .ref 464] (hp T' S (am_updL o 0 r.toInt64)) (some (.int 0)) := by
  refine am_ofT (by decide +kernel) (Nat.le_of_ble_eq_true rfl) ?_
  intro C hse hret hxt hF hO
  subst hse
  refine am_go hF sgL_approve_0_817ed 4 [(0, .ref 0), (1, .int x1), (2, .ref 464)] [.int x1, .ref 0, .int 0, .ref 464] sgL_approve_0_817edd rfl ?_
  refine am_dV hF hO [.int x1] [.int 0, .ref 464] hB myX5_approve vyX5_approve lm_RL_57 (hp_main _ _ _) rfl rfl 4 36 ⟨by show _ ≤ 9; omega, by show 8 + (3 + 11) + _ ≤ 165; omega⟩ ⟨by omega, by omega, Nat.le_refl 4, Nat.le_refl 36⟩ rfl (am_lv_ref (hp_main _ _ _) (am_lv_int (am_lv_ref (hp_o9 _ _ _) (am_lv_int (am_lv_ref (hp_o9 _ _ _) am_lv_nil))))) (Nat.le_of_ble_eq_true rfl) dL_approve_4 [.int r, .int 0, .ref 464] rfl ?_
  refine am_go hF sgL_approve_7_bb023 8 [(0, .ref 0), (1, .int x1), (2, .ref 464)] [.long r.toInt64, .int 0, .ref 464] sgL_approve_7_bb023d rfl ?_
  refine am_last hF (hp_o9 T' S o) 0 rfl (by decide) (by decide) dL_approve_8 ?_
  refine am_eqX (hp T' S (am_updL o 0 r.toInt64)) (hp_ou _ _ _ _) ?_
  refine am_go hF sgL_approve_9_8e6e8 19 [(0, .ref 0), (1, .int x1), (2, .ref 464)] [.int 0] sgL_approve_9_8e6e8d rfl ?_
  exact am_iret hF hO hret rfl dL_approve_19 ⟨rfl, rfl⟩
theorem dL_approve_12 : decode cL_approve 12 = .ok (.astore_n 3, 1) := by decide +kernel
def sgL_approve_13_4de0a : List Instr := [.iconst 1]
theorem sgL_approve_13_4de0ad : am_dec cL_approve 13 sgL_approve_13_4de0a = true := by decide +kernel
theorem dL_approve_14 : decode cL_approve 14 = .ok (.ireturn, 1) := by decide +kernel
theorem w_approve_1 {G : am_S} {T S : am_T} {o : Nat → Int64} {x1 : Int32} {rm : Room} (hrm : rm.frames ≤ 8 ∧ rm.cells ≤ 4 ∧ rm.slots ≤ 36 ∧ rm.locals ≤ 136) (hB : am_XD G yX5_approve (.code yX5_approve cX5_approve 3 (some .int) :: am_G) rm (hp T S o) [.ref 0, .int x1] am_E1) : am_D G yL_approve (.codeWith yL_approve cL_approve 4 (some .int) [(0, 9, 12, 13), (0, 9, 15, 15)] :: am_G) am_WR (hp T S o) [.ref 0, .int x1, .ref 464] (hp T S o) (some (.int 1)) := by
  refine am_ofT (by decide +kernel) (Nat.le_of_ble_eq_true rfl) ?_
  intro C hse hret hxt hF hO
  subst hse
  refine am_go hF sgL_approve_0_817ed 4 [(0, .ref 0), (1, .int x1), (2, .ref 464)] [.int x1, .ref 0, .int 0, .ref 464] sgL_approve_0_817edd rfl ?_
  refine am_xT hF hO [.int x1] [.int 0, .ref 464] hB myX5_approve vyX5_approve lm_RL_57 (hp_main _ _ _) rfl rfl 4 36 ⟨by show _ ≤ 9; omega, by show 8 + (3 + 11) + _ ≤ 165; omega⟩ ⟨by omega, by omega, Nat.le_refl 4, Nat.le_refl 36⟩ rfl (Nat.le_of_ble_eq_true rfl) dL_approve_4 [] ⟨0, 9, 12, 13⟩ [⟨0, 9, 15, 15⟩] (hxt.trans rfl) (fun z hz => nomatch hz) (by decide) (by decide) lc_RL_13 (by decide) 3 (by decide) 1 (Or.inl ⟨3, rfl, rfl, dL_approve_12⟩) ?_
  refine am_go hF sgL_approve_13_4de0a 14 [] [.int 1] sgL_approve_13_4de0ad rfl ?_
  exact am_iret hF hO hret rfl dL_approve_14 ⟨rfl, rfl⟩
theorem dL_approve_15 : decode cL_approve 15 = .ok (.astore_n 3, 1) := by decide +kernel
def sgL_approve_16_d5620 : List Instr := [.iconst 2]
theorem sgL_approve_16_d5620d : am_dec cL_approve 16 sgL_approve_16_d5620 = true := by decide +kernel
theorem dL_approve_17 : decode cL_approve 17 = .ok (.ireturn, 1) := by decide +kernel
theorem w_approve_2 {G : am_S} {T S : am_T} {o : Nat → Int64} {x1 : Int32} {rm : Room} (hrm : rm.frames ≤ 8 ∧ rm.cells ≤ 4 ∧ rm.slots ≤ 36 ∧ rm.locals ≤ 136) (hB : am_XD G yX5_approve (.code yX5_approve cX5_approve 3 (some .int) :: am_G) rm (hp T S o) [.ref 0, .int x1] am_E2) : am_D G yL_approve (.codeWith yL_approve cL_approve 4 (some .int) [(0, 9, 12, 13), (0, 9, 15, 15)] :: am_G) am_WR (hp T S o) [.ref 0, .int x1, .ref 464] (hp T S o) (some (.int 2)) := by
  refine am_ofT (by decide +kernel) (Nat.le_of_ble_eq_true rfl) ?_
  intro C hse hret hxt hF hO
  subst hse
  refine am_go hF sgL_approve_0_817ed 4 [(0, .ref 0), (1, .int x1), (2, .ref 464)] [.int x1, .ref 0, .int 0, .ref 464] sgL_approve_0_817edd rfl ?_
  refine am_xT hF hO [.int x1] [.int 0, .ref 464] hB myX5_approve vyX5_approve lm_RL_57 (hp_main _ _ _) rfl rfl 4 36 ⟨by show _ ≤ 9; omega, by show 8 + (3 + 11) + _ ≤ 165; omega⟩ ⟨by omega, by omega, Nat.le_refl 4, Nat.le_refl 36⟩ rfl (Nat.le_of_ble_eq_true rfl) dL_approve_4 [⟨0, 9, 12, 13⟩] ⟨0, 9, 15, 15⟩ [] (hxt.trans rfl) (fun z hz => by
    simp only [List.mem_cons, List.not_mem_nil, or_false] at hz
    rcases hz with rfl
    · exact Or.inr ⟨(by decide : (13 : Nat) ≠ 0), "java/lang/IndexOutOfBoundsException", lc_RL_13, by decide⟩) (by decide) (by decide) lc_RL_15 (by decide) 3 (by decide) 1 (Or.inl ⟨3, rfl, rfl, dL_approve_15⟩) ?_
  refine am_go hF sgL_approve_16_d5620 17 [] [.int 2] sgL_approve_16_d5620d rfl ?_
  exact am_iret hF hO hret rfl dL_approve_17 ⟨rfl, rfl⟩
theorem mwyL_refuse : am_MW yL_refuse cL_refuse 4 (some .int) [(0, 9, 12, 13), (0, 9, 15, 15)] 3 := ⟨am_wd 600 (by decide +kernel) (by decide +kernel), am_wd 45 (by decide +kernel) (by decide +kernel), by decide +kernel⟩
theorem swyL_refuse : Cond.static yL_refuse ∈ am_G := am_wd 599 (by decide +kernel) (by decide +kernel)
theorem dL_refuse_4 : decode cL_refuse 4 = .ok (.invokevirtual 60, 3) := by decide +kernel
def sgL_refuse_0_817ed : List Instr := [.aload_n 2, .iconst 0, .aload_n 0, .iload_n 1]
theorem sgL_refuse_0_817edd : am_dec cL_refuse 0 sgL_refuse_0_817ed = true := by decide +kernel
def sgL_refuse_7_bb023 : List Instr := [.i2l]
theorem sgL_refuse_7_bb023d : am_dec cL_refuse 7 sgL_refuse_7_bb023 = true := by decide +kernel
theorem dL_refuse_8 : decode cL_refuse 8 = .ok (.lastore, 1) := by decide +kernel
def sgL_refuse_9_8e6e8 : List Instr := [.goto 9, .iconst 0]
theorem sgL_refuse_9_8e6e8d : am_dec cL_refuse 9 sgL_refuse_9_8e6e8 = true := by decide +kernel
theorem dL_refuse_19 : decode cL_refuse 19 = .ok (.ireturn, 1) := by decide +kernel
theorem w_refuse_n {G : am_S} {T S T' : am_T} {o : Nat → Int64} {x1 : Int32} {r : Int32} {rm : Room} (hrm : rm.frames ≤ 8 ∧ rm.cells ≤ 4 ∧ rm.slots ≤ 36 ∧ rm.locals ≤ 136) (hB : am_D G yX5_refuse (.code yX5_refuse cX5_refuse 3 (some .int) :: am_G) rm (hp T S o) [.ref 0, .int x1] (hp T' S o) (some (.int r))) : am_D G yL_refuse (.codeWith yL_refuse cL_refuse 4 (some .int) [(0, 9, 12, 13), (0, 9, 15, 15)] :: am_G) am_WR (hp T S o) [.ref 0, .int x1, .ref 464] (hp T' S (am_updL o 0 r.toInt64)) (some (.int 0)) := by
  refine am_ofT (by decide +kernel) (Nat.le_of_ble_eq_true rfl) ?_
  intro C hse hret hxt hF hO
  subst hse
  refine am_go hF sgL_refuse_0_817ed 4 [(0, .ref 0), (1, .int x1), (2, .ref 464)] [.int x1, .ref 0, .int 0, .ref 464] sgL_refuse_0_817edd rfl ?_
  refine am_dV hF hO [.int x1] [.int 0, .ref 464] hB myX5_refuse vyX5_refuse lm_RL_60 (hp_main _ _ _) rfl rfl 4 36 ⟨by show _ ≤ 9; omega, by show 8 + (3 + 11) + _ ≤ 165; omega⟩ ⟨by omega, by omega, Nat.le_refl 4, Nat.le_refl 36⟩ rfl (am_lv_ref (hp_main _ _ _) (am_lv_int (am_lv_ref (hp_o9 _ _ _) (am_lv_int (am_lv_ref (hp_o9 _ _ _) am_lv_nil))))) (Nat.le_of_ble_eq_true rfl) dL_refuse_4 [.int r, .int 0, .ref 464] rfl ?_
  refine am_go hF sgL_refuse_7_bb023 8 [(0, .ref 0), (1, .int x1), (2, .ref 464)] [.long r.toInt64, .int 0, .ref 464] sgL_refuse_7_bb023d rfl ?_
  refine am_last hF (hp_o9 T' S o) 0 rfl (by decide) (by decide) dL_refuse_8 ?_
  refine am_eqX (hp T' S (am_updL o 0 r.toInt64)) (hp_ou _ _ _ _) ?_
  refine am_go hF sgL_refuse_9_8e6e8 19 [(0, .ref 0), (1, .int x1), (2, .ref 464)] [.int 0] sgL_refuse_9_8e6e8d rfl ?_
  exact am_iret hF hO hret rfl dL_refuse_19 ⟨rfl, rfl⟩
theorem dL_refuse_12 : decode cL_refuse 12 = .ok (.astore_n 3, 1) := by decide +kernel
def sgL_refuse_13_4de0a : List Instr := [.iconst 1]
theorem sgL_refuse_13_4de0ad : am_dec cL_refuse 13 sgL_refuse_13_4de0a = true := by decide +kernel
theorem dL_refuse_14 : decode cL_refuse 14 = .ok (.ireturn, 1) := by decide +kernel
theorem w_refuse_1 {G : am_S} {T S : am_T} {o : Nat → Int64} {x1 : Int32} {rm : Room} (hrm : rm.frames ≤ 8 ∧ rm.cells ≤ 4 ∧ rm.slots ≤ 36 ∧ rm.locals ≤ 136) (hB : am_XD G yX5_refuse (.code yX5_refuse cX5_refuse 3 (some .int) :: am_G) rm (hp T S o) [.ref 0, .int x1] am_E1) : am_D G yL_refuse (.codeWith yL_refuse cL_refuse 4 (some .int) [(0, 9, 12, 13), (0, 9, 15, 15)] :: am_G) am_WR (hp T S o) [.ref 0, .int x1, .ref 464] (hp T S o) (some (.int 1)) := by
  refine am_ofT (by decide +kernel) (Nat.le_of_ble_eq_true rfl) ?_
  intro C hse hret hxt hF hO
  subst hse
  refine am_go hF sgL_refuse_0_817ed 4 [(0, .ref 0), (1, .int x1), (2, .ref 464)] [.int x1, .ref 0, .int 0, .ref 464] sgL_refuse_0_817edd rfl ?_
  refine am_xT hF hO [.int x1] [.int 0, .ref 464] hB myX5_refuse vyX5_refuse lm_RL_60 (hp_main _ _ _) rfl rfl 4 36 ⟨by show _ ≤ 9; omega, by show 8 + (3 + 11) + _ ≤ 165; omega⟩ ⟨by omega, by omega, Nat.le_refl 4, Nat.le_refl 36⟩ rfl (Nat.le_of_ble_eq_true rfl) dL_refuse_4 [] ⟨0, 9, 12, 13⟩ [⟨0, 9, 15, 15⟩] (hxt.trans rfl) (fun z hz => nomatch hz) (by decide) (by decide) lc_RL_13 (by decide) 3 (by decide) 1 (Or.inl ⟨3, rfl, rfl, dL_refuse_12⟩) ?_
  refine am_go hF sgL_refuse_13_4de0a 14 [] [.int 1] sgL_refuse_13_4de0ad rfl ?_
  exact am_iret hF hO hret rfl dL_refuse_14 ⟨rfl, rfl⟩
theorem dL_refuse_15 : decode cL_refuse 15 = .ok (.astore_n 3, 1) := by decide +kernel
def sgL_refuse_16_d5620 : List Instr := [.iconst 2]
theorem sgL_refuse_16_d5620d : am_dec cL_refuse 16 sgL_refuse_16_d5620 = true := by decide +kernel
theorem dL_refuse_17 : decode cL_refuse 17 = .ok (.ireturn, 1) := by decide +kernel
theorem w_refuse_2 {G : am_S} {T S : am_T} {o : Nat → Int64} {x1 : Int32} {rm : Room} (hrm : rm.frames ≤ 8 ∧ rm.cells ≤ 4 ∧ rm.slots ≤ 36 ∧ rm.locals ≤ 136) (hB : am_XD G yX5_refuse (.code yX5_refuse cX5_refuse 3 (some .int) :: am_G) rm (hp T S o) [.ref 0, .int x1] am_E2) : am_D G yL_refuse (.codeWith yL_refuse cL_refuse 4 (some .int) [(0, 9, 12, 13), (0, 9, 15, 15)] :: am_G) am_WR (hp T S o) [.ref 0, .int x1, .ref 464] (hp T S o) (some (.int 2)) := by
  refine am_ofT (by decide +kernel) (Nat.le_of_ble_eq_true rfl) ?_
  intro C hse hret hxt hF hO
  subst hse
  refine am_go hF sgL_refuse_0_817ed 4 [(0, .ref 0), (1, .int x1), (2, .ref 464)] [.int x1, .ref 0, .int 0, .ref 464] sgL_refuse_0_817edd rfl ?_
  refine am_xT hF hO [.int x1] [.int 0, .ref 464] hB myX5_refuse vyX5_refuse lm_RL_60 (hp_main _ _ _) rfl rfl 4 36 ⟨by show _ ≤ 9; omega, by show 8 + (3 + 11) + _ ≤ 165; omega⟩ ⟨by omega, by omega, Nat.le_refl 4, Nat.le_refl 36⟩ rfl (Nat.le_of_ble_eq_true rfl) dL_refuse_4 [⟨0, 9, 12, 13⟩] ⟨0, 9, 15, 15⟩ [] (hxt.trans rfl) (fun z hz => by
    simp only [List.mem_cons, List.not_mem_nil, or_false] at hz
    rcases hz with rfl
    · exact Or.inr ⟨(by decide : (13 : Nat) ≠ 0), "java/lang/IndexOutOfBoundsException", lc_RL_13, by decide⟩) (by decide) (by decide) lc_RL_15 (by decide) 3 (by decide) 1 (Or.inl ⟨3, rfl, rfl, dL_refuse_15⟩) ?_
  refine am_go hF sgL_refuse_16_d5620 17 [] [.int 2] sgL_refuse_16_d5620d rfl ?_
  exact am_iret hF hO hret rfl dL_refuse_17 ⟨rfl, rfl⟩
theorem mwyL_appeal : am_MW yL_appeal cL_appeal 4 (some .int) [(0, 9, 12, 13), (0, 9, 15, 15)] 3 := ⟨am_wd 607 (by decide +kernel) (by decide +kernel), am_wd 45 (by decide +kernel) (by decide +kernel), by decide +kernel⟩
theorem swyL_appeal : Cond.static yL_appeal ∈ am_G := am_wd 606 (by decide +kernel) (by decide +kernel)
theorem dL_appeal_4 : decode cL_appeal 4 = .ok (.invokevirtual 63, 3) := by decide +kernel
def sgL_appeal_0_817ed : List Instr := [.aload_n 2, .iconst 0, .aload_n 0, .iload_n 1]
theorem sgL_appeal_0_817edd : am_dec cL_appeal 0 sgL_appeal_0_817ed = true := by decide +kernel
def sgL_appeal_7_bb023 : List Instr := [.i2l]
theorem sgL_appeal_7_bb023d : am_dec cL_appeal 7 sgL_appeal_7_bb023 = true := by decide +kernel
theorem dL_appeal_8 : decode cL_appeal 8 = .ok (.lastore, 1) := by decide +kernel
def sgL_appeal_9_8e6e8 : List Instr := [.goto 9, .iconst 0]
theorem sgL_appeal_9_8e6e8d : am_dec cL_appeal 9 sgL_appeal_9_8e6e8 = true := by decide +kernel
theorem dL_appeal_19 : decode cL_appeal 19 = .ok (.ireturn, 1) := by decide +kernel
theorem w_appeal_n {G : am_S} {T S T' : am_T} {o : Nat → Int64} {x1 : Int32} {r : Int32} {rm : Room} (hrm : rm.frames ≤ 8 ∧ rm.cells ≤ 4 ∧ rm.slots ≤ 36 ∧ rm.locals ≤ 136) (hB : am_D G yX5_appeal (.code yX5_appeal cX5_appeal 5 (some .int) :: am_G) rm (hp T S o) [.ref 0, .int x1] (hp T' S o) (some (.int r))) : am_D G yL_appeal (.codeWith yL_appeal cL_appeal 4 (some .int) [(0, 9, 12, 13), (0, 9, 15, 15)] :: am_G) am_WR (hp T S o) [.ref 0, .int x1, .ref 464] (hp T' S (am_updL o 0 r.toInt64)) (some (.int 0)) := by
  refine am_ofT (by decide +kernel) (Nat.le_of_ble_eq_true rfl) ?_
  intro C hse hret hxt hF hO
  subst hse
  refine am_go hF sgL_appeal_0_817ed 4 [(0, .ref 0), (1, .int x1), (2, .ref 464)] [.int x1, .ref 0, .int 0, .ref 464] sgL_appeal_0_817edd rfl ?_
  refine am_dV hF hO [.int x1] [.int 0, .ref 464] hB myX5_appeal vyX5_appeal lm_RL_63 (hp_main _ _ _) rfl rfl 4 36 ⟨by show _ ≤ 9; omega, by show 8 + (5 + 11) + _ ≤ 165; omega⟩ ⟨by omega, by omega, Nat.le_refl 4, Nat.le_refl 36⟩ rfl (am_lv_ref (hp_main _ _ _) (am_lv_int (am_lv_ref (hp_o9 _ _ _) (am_lv_int (am_lv_ref (hp_o9 _ _ _) am_lv_nil))))) (Nat.le_of_ble_eq_true rfl) dL_appeal_4 [.int r, .int 0, .ref 464] rfl ?_
  refine am_go hF sgL_appeal_7_bb023 8 [(0, .ref 0), (1, .int x1), (2, .ref 464)] [.long r.toInt64, .int 0, .ref 464] sgL_appeal_7_bb023d rfl ?_
  refine am_last hF (hp_o9 T' S o) 0 rfl (by decide) (by decide) dL_appeal_8 ?_
  refine am_eqX (hp T' S (am_updL o 0 r.toInt64)) (hp_ou _ _ _ _) ?_
  refine am_go hF sgL_appeal_9_8e6e8 19 [(0, .ref 0), (1, .int x1), (2, .ref 464)] [.int 0] sgL_appeal_9_8e6e8d rfl ?_
  exact am_iret hF hO hret rfl dL_appeal_19 ⟨rfl, rfl⟩
theorem dL_appeal_12 : decode cL_appeal 12 = .ok (.astore_n 3, 1) := by decide +kernel
def sgL_appeal_13_4de0a : List Instr := [.iconst 1]
theorem sgL_appeal_13_4de0ad : am_dec cL_appeal 13 sgL_appeal_13_4de0a = true := by decide +kernel
theorem dL_appeal_14 : decode cL_appeal 14 = .ok (.ireturn, 1) := by decide +kernel
theorem w_appeal_1 {G : am_S} {T S : am_T} {o : Nat → Int64} {x1 : Int32} {rm : Room} (hrm : rm.frames ≤ 8 ∧ rm.cells ≤ 4 ∧ rm.slots ≤ 36 ∧ rm.locals ≤ 136) (hB : am_XD G yX5_appeal (.code yX5_appeal cX5_appeal 5 (some .int) :: am_G) rm (hp T S o) [.ref 0, .int x1] am_E1) : am_D G yL_appeal (.codeWith yL_appeal cL_appeal 4 (some .int) [(0, 9, 12, 13), (0, 9, 15, 15)] :: am_G) am_WR (hp T S o) [.ref 0, .int x1, .ref 464] (hp T S o) (some (.int 1)) := by
  refine am_ofT (by decide +kernel) (Nat.le_of_ble_eq_true rfl) ?_
  intro C hse hret hxt hF hO
  subst hse
  refine am_go hF sgL_appeal_0_817ed 4 [(0, .ref 0), (1, .int x1), (2, .ref 464)] [.int x1, .ref 0, .int 0, .ref 464] sgL_appeal_0_817edd rfl ?_
  refine am_xT hF hO [.int x1] [.int 0, .ref 464] hB myX5_appeal vyX5_appeal lm_RL_63 (hp_main _ _ _) rfl rfl 4 36 ⟨by show _ ≤ 9; omega, by show 8 + (5 + 11) + _ ≤ 165; omega⟩ ⟨by omega, by omega, Nat.le_refl 4, Nat.le_refl 36⟩ rfl (Nat.le_of_ble_eq_true rfl) dL_appeal_4 [] ⟨0, 9, 12, 13⟩ [⟨0, 9, 15, 15⟩] (hxt.trans rfl) (fun z hz => nomatch hz) (by decide) (by decide) lc_RL_13 (by decide) 3 (by decide) 1 (Or.inl ⟨3, rfl, rfl, dL_appeal_12⟩) ?_
  refine am_go hF sgL_appeal_13_4de0a 14 [] [.int 1] sgL_appeal_13_4de0ad rfl ?_
  exact am_iret hF hO hret rfl dL_appeal_14 ⟨rfl, rfl⟩
theorem dL_appeal_15 : decode cL_appeal 15 = .ok (.astore_n 3, 1) := by decide +kernel
def sgL_appeal_16_d5620 : List Instr := [.iconst 2]
theorem sgL_appeal_16_d5620d : am_dec cL_appeal 16 sgL_appeal_16_d5620 = true := by decide +kernel
theorem dL_appeal_17 : decode cL_appeal 17 = .ok (.ireturn, 1) := by decide +kernel
theorem w_appeal_2 {G : am_S} {T S : am_T} {o : Nat → Int64} {x1 : Int32} {rm : Room} (hrm : rm.frames ≤ 8 ∧ rm.cells ≤ 4 ∧ rm.slots ≤ 36 ∧ rm.locals ≤ 136) (hB : am_XD G yX5_appeal (.code yX5_appeal cX5_appeal 5 (some .int) :: am_G) rm (hp T S o) [.ref 0, .int x1] am_E2) : am_D G yL_appeal (.codeWith yL_appeal cL_appeal 4 (some .int) [(0, 9, 12, 13), (0, 9, 15, 15)] :: am_G) am_WR (hp T S o) [.ref 0, .int x1, .ref 464] (hp T S o) (some (.int 2)) := by
  refine am_ofT (by decide +kernel) (Nat.le_of_ble_eq_true rfl) ?_
  intro C hse hret hxt hF hO
  subst hse
  refine am_go hF sgL_appeal_0_817ed 4 [(0, .ref 0), (1, .int x1), (2, .ref 464)] [.int x1, .ref 0, .int 0, .ref 464] sgL_appeal_0_817edd rfl ?_
  refine am_xT hF hO [.int x1] [.int 0, .ref 464] hB myX5_appeal vyX5_appeal lm_RL_63 (hp_main _ _ _) rfl rfl 4 36 ⟨by show _ ≤ 9; omega, by show 8 + (5 + 11) + _ ≤ 165; omega⟩ ⟨by omega, by omega, Nat.le_refl 4, Nat.le_refl 36⟩ rfl (Nat.le_of_ble_eq_true rfl) dL_appeal_4 [⟨0, 9, 12, 13⟩] ⟨0, 9, 15, 15⟩ [] (hxt.trans rfl) (fun z hz => by
    simp only [List.mem_cons, List.not_mem_nil, or_false] at hz
    rcases hz with rfl
    · exact Or.inr ⟨(by decide : (13 : Nat) ≠ 0), "java/lang/IndexOutOfBoundsException", lc_RL_13, by decide⟩) (by decide) (by decide) lc_RL_15 (by decide) 3 (by decide) 1 (Or.inl ⟨3, rfl, rfl, dL_appeal_15⟩) ?_
  refine am_go hF sgL_appeal_16_d5620 17 [] [.int 2] sgL_appeal_16_d5620d rfl ?_
  exact am_iret hF hO hret rfl dL_appeal_17 ⟨rfl, rfl⟩
theorem mwyL_vote : am_MW yL_vote cL_vote 6 (some .int) [(0, 12, 15, 13), (0, 12, 19, 15)] 5 := ⟨am_wd 648 (by decide +kernel) (by decide +kernel), am_wd 45 (by decide +kernel) (by decide +kernel), by decide +kernel⟩
theorem swyL_vote : Cond.static yL_vote ∈ am_G := am_wd 647 (by decide +kernel) (by decide +kernel)
theorem dL_vote_7 : decode cL_vote 7 = .ok (.invokevirtual 66, 3) := by decide +kernel
def sgL_vote_0_966ee : List Instr := [.aload 4, .iconst 0, .aload_n 0, .iload_n 1, .iload_n 2, .iload_n 3]
theorem sgL_vote_0_966eed : am_dec cL_vote 0 sgL_vote_0_966ee = true := by decide +kernel
def sgL_vote_10_bb023 : List Instr := [.i2l]
theorem sgL_vote_10_bb023d : am_dec cL_vote 10 sgL_vote_10_bb023 = true := by decide +kernel
theorem dL_vote_11 : decode cL_vote 11 = .ok (.lastore, 1) := by decide +kernel
def sgL_vote_12_2ee0e : List Instr := [.goto 11, .iconst 0]
theorem sgL_vote_12_2ee0ed : am_dec cL_vote 12 sgL_vote_12_2ee0e = true := by decide +kernel
theorem dL_vote_24 : decode cL_vote 24 = .ok (.ireturn, 1) := by decide +kernel
theorem w_vote_n {G : am_S} {T S T' : am_T} {o : Nat → Int64} {x1 x2 x3 : Int32} {r : Int32} {rm : Room} (hrm : rm.frames ≤ 8 ∧ rm.cells ≤ 4 ∧ rm.slots ≤ 36 ∧ rm.locals ≤ 136) (hB : am_D G yX5_vote (.code yX5_vote cX5_vote 6 (some .int) :: am_G) rm (hp T S o) [.ref 0, .int x1, .int x2, .int x3] (hp T' S o) (some (.int r))) : am_D G yL_vote (.codeWith yL_vote cL_vote 6 (some .int) [(0, 12, 15, 13), (0, 12, 19, 15)] :: am_G) am_WR (hp T S o) [.ref 0, .int x1, .int x2, .int x3, .ref 464] (hp T' S (am_updL o 0 r.toInt64)) (some (.int 0)) := by
  refine am_ofT (by decide +kernel) (Nat.le_of_ble_eq_true rfl) ?_
  intro C hse hret hxt hF hO
  subst hse
  refine am_go hF sgL_vote_0_966ee 7 [(0, .ref 0), (1, .int x1), (2, .int x2), (3, .int x3), (4, .ref 464)] [.int x3, .int x2, .int x1, .ref 0, .int 0, .ref 464] sgL_vote_0_966eed rfl ?_
  refine am_dV hF hO [.int x1, .int x2, .int x3] [.int 0, .ref 464] hB myX5_vote vyX5_vote lm_RL_66 (hp_main _ _ _) rfl rfl 4 36 ⟨by show _ ≤ 9; omega, by show 8 + (6 + 11) + _ ≤ 165; omega⟩ ⟨by omega, by omega, Nat.le_refl 4, Nat.le_refl 36⟩ rfl (am_lv_ref (hp_main _ _ _) (am_lv_int (am_lv_int (am_lv_int (am_lv_ref (hp_o9 _ _ _) (am_lv_int (am_lv_ref (hp_o9 _ _ _) am_lv_nil))))))) (Nat.le_of_ble_eq_true rfl) dL_vote_7 [.int r, .int 0, .ref 464] rfl ?_
  refine am_go hF sgL_vote_10_bb023 11 [(0, .ref 0), (1, .int x1), (2, .int x2), (3, .int x3), (4, .ref 464)] [.long r.toInt64, .int 0, .ref 464] sgL_vote_10_bb023d rfl ?_
  refine am_last hF (hp_o9 T' S o) 0 rfl (by decide) (by decide) dL_vote_11 ?_
  refine am_eqX (hp T' S (am_updL o 0 r.toInt64)) (hp_ou _ _ _ _) ?_
  refine am_go hF sgL_vote_12_2ee0e 24 [(0, .ref 0), (1, .int x1), (2, .int x2), (3, .int x3), (4, .ref 464)] [.int 0] sgL_vote_12_2ee0ed rfl ?_
  exact am_iret hF hO hret rfl dL_vote_24 ⟨rfl, rfl⟩
theorem dL_vote_15 : decode cL_vote 15 = .ok (.astore 5, 2) := by decide +kernel
def sgL_vote_17_4de0a : List Instr := [.iconst 1]
theorem sgL_vote_17_4de0ad : am_dec cL_vote 17 sgL_vote_17_4de0a = true := by decide +kernel
theorem dL_vote_18 : decode cL_vote 18 = .ok (.ireturn, 1) := by decide +kernel
theorem w_vote_1 {G : am_S} {T S : am_T} {o : Nat → Int64} {x1 x2 x3 : Int32} {rm : Room} (hrm : rm.frames ≤ 8 ∧ rm.cells ≤ 4 ∧ rm.slots ≤ 36 ∧ rm.locals ≤ 136) (hB : am_XD G yX5_vote (.code yX5_vote cX5_vote 6 (some .int) :: am_G) rm (hp T S o) [.ref 0, .int x1, .int x2, .int x3] am_E1) : am_D G yL_vote (.codeWith yL_vote cL_vote 6 (some .int) [(0, 12, 15, 13), (0, 12, 19, 15)] :: am_G) am_WR (hp T S o) [.ref 0, .int x1, .int x2, .int x3, .ref 464] (hp T S o) (some (.int 1)) := by
  refine am_ofT (by decide +kernel) (Nat.le_of_ble_eq_true rfl) ?_
  intro C hse hret hxt hF hO
  subst hse
  refine am_go hF sgL_vote_0_966ee 7 [(0, .ref 0), (1, .int x1), (2, .int x2), (3, .int x3), (4, .ref 464)] [.int x3, .int x2, .int x1, .ref 0, .int 0, .ref 464] sgL_vote_0_966eed rfl ?_
  refine am_xT hF hO [.int x1, .int x2, .int x3] [.int 0, .ref 464] hB myX5_vote vyX5_vote lm_RL_66 (hp_main _ _ _) rfl rfl 4 36 ⟨by show _ ≤ 9; omega, by show 8 + (6 + 11) + _ ≤ 165; omega⟩ ⟨by omega, by omega, Nat.le_refl 4, Nat.le_refl 36⟩ rfl (Nat.le_of_ble_eq_true rfl) dL_vote_7 [] ⟨0, 12, 15, 13⟩ [⟨0, 12, 19, 15⟩] (hxt.trans rfl) (fun z hz => nomatch hz) (by decide) (by decide) lc_RL_13 (by decide) 5 (by decide) 2 (Or.inr ⟨rfl, dL_vote_15⟩) ?_
  refine am_go hF sgL_vote_17_4de0a 18 [] [.int 1] sgL_vote_17_4de0ad rfl ?_
  exact am_iret hF hO hret rfl dL_vote_18 ⟨rfl, rfl⟩
theorem dL_vote_19 : decode cL_vote 19 = .ok (.astore 5, 2) := by decide +kernel
def sgL_vote_21_d5620 : List Instr := [.iconst 2]
theorem sgL_vote_21_d5620d : am_dec cL_vote 21 sgL_vote_21_d5620 = true := by decide +kernel
theorem dL_vote_22 : decode cL_vote 22 = .ok (.ireturn, 1) := by decide +kernel
theorem w_vote_2 {G : am_S} {T S : am_T} {o : Nat → Int64} {x1 x2 x3 : Int32} {rm : Room} (hrm : rm.frames ≤ 8 ∧ rm.cells ≤ 4 ∧ rm.slots ≤ 36 ∧ rm.locals ≤ 136) (hB : am_XD G yX5_vote (.code yX5_vote cX5_vote 6 (some .int) :: am_G) rm (hp T S o) [.ref 0, .int x1, .int x2, .int x3] am_E2) : am_D G yL_vote (.codeWith yL_vote cL_vote 6 (some .int) [(0, 12, 15, 13), (0, 12, 19, 15)] :: am_G) am_WR (hp T S o) [.ref 0, .int x1, .int x2, .int x3, .ref 464] (hp T S o) (some (.int 2)) := by
  refine am_ofT (by decide +kernel) (Nat.le_of_ble_eq_true rfl) ?_
  intro C hse hret hxt hF hO
  subst hse
  refine am_go hF sgL_vote_0_966ee 7 [(0, .ref 0), (1, .int x1), (2, .int x2), (3, .int x3), (4, .ref 464)] [.int x3, .int x2, .int x1, .ref 0, .int 0, .ref 464] sgL_vote_0_966eed rfl ?_
  refine am_xT hF hO [.int x1, .int x2, .int x3] [.int 0, .ref 464] hB myX5_vote vyX5_vote lm_RL_66 (hp_main _ _ _) rfl rfl 4 36 ⟨by show _ ≤ 9; omega, by show 8 + (6 + 11) + _ ≤ 165; omega⟩ ⟨by omega, by omega, Nat.le_refl 4, Nat.le_refl 36⟩ rfl (Nat.le_of_ble_eq_true rfl) dL_vote_7 [⟨0, 12, 15, 13⟩] ⟨0, 12, 19, 15⟩ [] (hxt.trans rfl) (fun z hz => by
    simp only [List.mem_cons, List.not_mem_nil, or_false] at hz
    rcases hz with rfl
    · exact Or.inr ⟨(by decide : (13 : Nat) ≠ 0), "java/lang/IndexOutOfBoundsException", lc_RL_13, by decide⟩) (by decide) (by decide) lc_RL_15 (by decide) 5 (by decide) 2 (Or.inr ⟨rfl, dL_vote_19⟩) ?_
  refine am_go hF sgL_vote_21_d5620 22 [] [.int 2] sgL_vote_21_d5620d rfl ?_
  exact am_iret hF hO hret rfl dL_vote_22 ⟨rfl, rfl⟩
theorem mwyL_state : am_MW yL_state cL_state 4 (some .int) [(0, 9, 12, 13)] 3 := ⟨am_wd 689 (by decide +kernel) (by decide +kernel), am_wd 45 (by decide +kernel) (by decide +kernel), by decide +kernel⟩
theorem swyL_state : Cond.static yL_state ∈ am_G := am_wd 688 (by decide +kernel) (by decide +kernel)
theorem dL_state_4 : decode cL_state 4 = .ok (.invokevirtual 70, 3) := by decide +kernel
def sgL_state_0_817ed : List Instr := [.aload_n 2, .iconst 0, .aload_n 0, .iload_n 1]
theorem sgL_state_0_817edd : am_dec cL_state 0 sgL_state_0_817ed = true := by decide +kernel
def sgL_state_7_bb023 : List Instr := [.i2l]
theorem sgL_state_7_bb023d : am_dec cL_state 7 sgL_state_7_bb023 = true := by decide +kernel
theorem dL_state_8 : decode cL_state 8 = .ok (.lastore, 1) := by decide +kernel
def sgL_state_9_51cdd : List Instr := [.goto 6, .iconst 0]
theorem sgL_state_9_51cddd : am_dec cL_state 9 sgL_state_9_51cdd = true := by decide +kernel
theorem dL_state_16 : decode cL_state 16 = .ok (.ireturn, 1) := by decide +kernel
theorem w_state_n {G : am_S} {T S T' : am_T} {o : Nat → Int64} {x1 : Int32} {r : Int32} {rm : Room} (hrm : rm.frames ≤ 8 ∧ rm.cells ≤ 4 ∧ rm.slots ≤ 36 ∧ rm.locals ≤ 136) (hB : am_D G yX5_state (.code yX5_state cX5_state 2 (some .int) :: am_G) rm (hp T S o) [.ref 0, .int x1] (hp T' S o) (some (.int r))) : am_D G yL_state (.codeWith yL_state cL_state 4 (some .int) [(0, 9, 12, 13)] :: am_G) am_WR (hp T S o) [.ref 0, .int x1, .ref 464] (hp T' S (am_updL o 0 r.toInt64)) (some (.int 0)) := by
  refine am_ofT (by decide +kernel) (Nat.le_of_ble_eq_true rfl) ?_
  intro C hse hret hxt hF hO
  subst hse
  refine am_go hF sgL_state_0_817ed 4 [(0, .ref 0), (1, .int x1), (2, .ref 464)] [.int x1, .ref 0, .int 0, .ref 464] sgL_state_0_817edd rfl ?_
  refine am_dV hF hO [.int x1] [.int 0, .ref 464] hB myX5_state vyX5_state lm_RL_70 (hp_main _ _ _) rfl rfl 4 36 ⟨by show _ ≤ 9; omega, by show 8 + (2 + 11) + _ ≤ 165; omega⟩ ⟨by omega, by omega, Nat.le_refl 4, Nat.le_refl 36⟩ rfl (am_lv_ref (hp_main _ _ _) (am_lv_int (am_lv_ref (hp_o9 _ _ _) (am_lv_int (am_lv_ref (hp_o9 _ _ _) am_lv_nil))))) (Nat.le_of_ble_eq_true rfl) dL_state_4 [.int r, .int 0, .ref 464] rfl ?_
  refine am_go hF sgL_state_7_bb023 8 [(0, .ref 0), (1, .int x1), (2, .ref 464)] [.long r.toInt64, .int 0, .ref 464] sgL_state_7_bb023d rfl ?_
  refine am_last hF (hp_o9 T' S o) 0 rfl (by decide) (by decide) dL_state_8 ?_
  refine am_eqX (hp T' S (am_updL o 0 r.toInt64)) (hp_ou _ _ _ _) ?_
  refine am_go hF sgL_state_9_51cdd 16 [(0, .ref 0), (1, .int x1), (2, .ref 464)] [.int 0] sgL_state_9_51cddd rfl ?_
  exact am_iret hF hO hret rfl dL_state_16 ⟨rfl, rfl⟩
theorem dL_state_12 : decode cL_state 12 = .ok (.astore_n 3, 1) := by decide +kernel
def sgL_state_13_4de0a : List Instr := [.iconst 1]
theorem sgL_state_13_4de0ad : am_dec cL_state 13 sgL_state_13_4de0a = true := by decide +kernel
theorem dL_state_14 : decode cL_state 14 = .ok (.ireturn, 1) := by decide +kernel
theorem w_state_1 {G : am_S} {T S : am_T} {o : Nat → Int64} {x1 : Int32} {rm : Room} (hrm : rm.frames ≤ 8 ∧ rm.cells ≤ 4 ∧ rm.slots ≤ 36 ∧ rm.locals ≤ 136) (hB : am_XD G yX5_state (.code yX5_state cX5_state 2 (some .int) :: am_G) rm (hp T S o) [.ref 0, .int x1] am_E1) : am_D G yL_state (.codeWith yL_state cL_state 4 (some .int) [(0, 9, 12, 13)] :: am_G) am_WR (hp T S o) [.ref 0, .int x1, .ref 464] (hp T S o) (some (.int 1)) := by
  refine am_ofT (by decide +kernel) (Nat.le_of_ble_eq_true rfl) ?_
  intro C hse hret hxt hF hO
  subst hse
  refine am_go hF sgL_state_0_817ed 4 [(0, .ref 0), (1, .int x1), (2, .ref 464)] [.int x1, .ref 0, .int 0, .ref 464] sgL_state_0_817edd rfl ?_
  refine am_xT hF hO [.int x1] [.int 0, .ref 464] hB myX5_state vyX5_state lm_RL_70 (hp_main _ _ _) rfl rfl 4 36 ⟨by show _ ≤ 9; omega, by show 8 + (2 + 11) + _ ≤ 165; omega⟩ ⟨by omega, by omega, Nat.le_refl 4, Nat.le_refl 36⟩ rfl (Nat.le_of_ble_eq_true rfl) dL_state_4 [] ⟨0, 9, 12, 13⟩ [] (hxt.trans rfl) (fun z hz => nomatch hz) (by decide) (by decide) lc_RL_13 (by decide) 3 (by decide) 1 (Or.inl ⟨3, rfl, rfl, dL_state_12⟩) ?_
  refine am_go hF sgL_state_13_4de0a 14 [] [.int 1] sgL_state_13_4de0ad rfl ?_
  exact am_iret hF hO hret rfl dL_state_14 ⟨rfl, rfl⟩
theorem mwyL_cause : am_MW yL_cause cL_cause 4 (some .int) [(0, 9, 12, 13)] 3 := ⟨am_wd 696 (by decide +kernel) (by decide +kernel), am_wd 45 (by decide +kernel) (by decide +kernel), by decide +kernel⟩
theorem swyL_cause : Cond.static yL_cause ∈ am_G := am_wd 695 (by decide +kernel) (by decide +kernel)
theorem dL_cause_4 : decode cL_cause 4 = .ok (.invokevirtual 73, 3) := by decide +kernel
def sgL_cause_0_817ed : List Instr := [.aload_n 2, .iconst 0, .aload_n 0, .iload_n 1]
theorem sgL_cause_0_817edd : am_dec cL_cause 0 sgL_cause_0_817ed = true := by decide +kernel
def sgL_cause_7_bb023 : List Instr := [.i2l]
theorem sgL_cause_7_bb023d : am_dec cL_cause 7 sgL_cause_7_bb023 = true := by decide +kernel
theorem dL_cause_8 : decode cL_cause 8 = .ok (.lastore, 1) := by decide +kernel
def sgL_cause_9_51cdd : List Instr := [.goto 6, .iconst 0]
theorem sgL_cause_9_51cddd : am_dec cL_cause 9 sgL_cause_9_51cdd = true := by decide +kernel
theorem dL_cause_16 : decode cL_cause 16 = .ok (.ireturn, 1) := by decide +kernel
theorem w_cause_n {G : am_S} {T S T' : am_T} {o : Nat → Int64} {x1 : Int32} {r : Int32} {rm : Room} (hrm : rm.frames ≤ 8 ∧ rm.cells ≤ 4 ∧ rm.slots ≤ 36 ∧ rm.locals ≤ 136) (hB : am_D G yX5_cause (.code yX5_cause cX5_cause 2 (some .int) :: am_G) rm (hp T S o) [.ref 0, .int x1] (hp T' S o) (some (.int r))) : am_D G yL_cause (.codeWith yL_cause cL_cause 4 (some .int) [(0, 9, 12, 13)] :: am_G) am_WR (hp T S o) [.ref 0, .int x1, .ref 464] (hp T' S (am_updL o 0 r.toInt64)) (some (.int 0)) := by
  refine am_ofT (by decide +kernel) (Nat.le_of_ble_eq_true rfl) ?_
  intro C hse hret hxt hF hO
  subst hse
  refine am_go hF sgL_cause_0_817ed 4 [(0, .ref 0), (1, .int x1), (2, .ref 464)] [.int x1, .ref 0, .int 0, .ref 464] sgL_cause_0_817edd rfl ?_
  refine am_dV hF hO [.int x1] [.int 0, .ref 464] hB myX5_cause vyX5_cause lm_RL_73 (hp_main _ _ _) rfl rfl 4 36 ⟨by show _ ≤ 9; omega, by show 8 + (2 + 11) + _ ≤ 165; omega⟩ ⟨by omega, by omega, Nat.le_refl 4, Nat.le_refl 36⟩ rfl (am_lv_ref (hp_main _ _ _) (am_lv_int (am_lv_ref (hp_o9 _ _ _) (am_lv_int (am_lv_ref (hp_o9 _ _ _) am_lv_nil))))) (Nat.le_of_ble_eq_true rfl) dL_cause_4 [.int r, .int 0, .ref 464] rfl ?_
  refine am_go hF sgL_cause_7_bb023 8 [(0, .ref 0), (1, .int x1), (2, .ref 464)] [.long r.toInt64, .int 0, .ref 464] sgL_cause_7_bb023d rfl ?_
  refine am_last hF (hp_o9 T' S o) 0 rfl (by decide) (by decide) dL_cause_8 ?_
  refine am_eqX (hp T' S (am_updL o 0 r.toInt64)) (hp_ou _ _ _ _) ?_
  refine am_go hF sgL_cause_9_51cdd 16 [(0, .ref 0), (1, .int x1), (2, .ref 464)] [.int 0] sgL_cause_9_51cddd rfl ?_
  exact am_iret hF hO hret rfl dL_cause_16 ⟨rfl, rfl⟩
theorem dL_cause_12 : decode cL_cause 12 = .ok (.astore_n 3, 1) := by decide +kernel
def sgL_cause_13_4de0a : List Instr := [.iconst 1]
theorem sgL_cause_13_4de0ad : am_dec cL_cause 13 sgL_cause_13_4de0a = true := by decide +kernel
theorem dL_cause_14 : decode cL_cause 14 = .ok (.ireturn, 1) := by decide +kernel
theorem w_cause_1 {G : am_S} {T S : am_T} {o : Nat → Int64} {x1 : Int32} {rm : Room} (hrm : rm.frames ≤ 8 ∧ rm.cells ≤ 4 ∧ rm.slots ≤ 36 ∧ rm.locals ≤ 136) (hB : am_XD G yX5_cause (.code yX5_cause cX5_cause 2 (some .int) :: am_G) rm (hp T S o) [.ref 0, .int x1] am_E1) : am_D G yL_cause (.codeWith yL_cause cL_cause 4 (some .int) [(0, 9, 12, 13)] :: am_G) am_WR (hp T S o) [.ref 0, .int x1, .ref 464] (hp T S o) (some (.int 1)) := by
  refine am_ofT (by decide +kernel) (Nat.le_of_ble_eq_true rfl) ?_
  intro C hse hret hxt hF hO
  subst hse
  refine am_go hF sgL_cause_0_817ed 4 [(0, .ref 0), (1, .int x1), (2, .ref 464)] [.int x1, .ref 0, .int 0, .ref 464] sgL_cause_0_817edd rfl ?_
  refine am_xT hF hO [.int x1] [.int 0, .ref 464] hB myX5_cause vyX5_cause lm_RL_73 (hp_main _ _ _) rfl rfl 4 36 ⟨by show _ ≤ 9; omega, by show 8 + (2 + 11) + _ ≤ 165; omega⟩ ⟨by omega, by omega, Nat.le_refl 4, Nat.le_refl 36⟩ rfl (Nat.le_of_ble_eq_true rfl) dL_cause_4 [] ⟨0, 9, 12, 13⟩ [] (hxt.trans rfl) (fun z hz => nomatch hz) (by decide) (by decide) lc_RL_13 (by decide) 3 (by decide) 1 (Or.inl ⟨3, rfl, rfl, dL_cause_12⟩) ?_
  refine am_go hF sgL_cause_13_4de0a 14 [] [.int 1] sgL_cause_13_4de0ad rfl ?_
  exact am_iret hF hO hret rfl dL_cause_14 ⟨rfl, rfl⟩
theorem mwyL_score : am_MW yL_score cL_score 4 (some .int) [(0, 9, 12, 13)] 3 := ⟨am_wd 703 (by decide +kernel) (by decide +kernel), am_wd 45 (by decide +kernel) (by decide +kernel), by decide +kernel⟩
theorem swyL_score : Cond.static yL_score ∈ am_G := am_wd 702 (by decide +kernel) (by decide +kernel)
theorem dL_score_4 : decode cL_score 4 = .ok (.invokevirtual 76, 3) := by decide +kernel
def sgL_score_0_817ed : List Instr := [.aload_n 2, .iconst 0, .aload_n 0, .iload_n 1]
theorem sgL_score_0_817edd : am_dec cL_score 0 sgL_score_0_817ed = true := by decide +kernel
def sgL_score_7_bb023 : List Instr := [.i2l]
theorem sgL_score_7_bb023d : am_dec cL_score 7 sgL_score_7_bb023 = true := by decide +kernel
theorem dL_score_8 : decode cL_score 8 = .ok (.lastore, 1) := by decide +kernel
def sgL_score_9_51cdd : List Instr := [.goto 6, .iconst 0]
theorem sgL_score_9_51cddd : am_dec cL_score 9 sgL_score_9_51cdd = true := by decide +kernel
theorem dL_score_16 : decode cL_score 16 = .ok (.ireturn, 1) := by decide +kernel
theorem w_score_n {G : am_S} {T S T' : am_T} {o : Nat → Int64} {x1 : Int32} {r : Int32} {rm : Room} (hrm : rm.frames ≤ 8 ∧ rm.cells ≤ 4 ∧ rm.slots ≤ 36 ∧ rm.locals ≤ 136) (hB : am_D G yX5_score (.code yX5_score cX5_score 2 (some .int) :: am_G) rm (hp T S o) [.ref 0, .int x1] (hp T' S o) (some (.int r))) : am_D G yL_score (.codeWith yL_score cL_score 4 (some .int) [(0, 9, 12, 13)] :: am_G) am_WR (hp T S o) [.ref 0, .int x1, .ref 464] (hp T' S (am_updL o 0 r.toInt64)) (some (.int 0)) := by
  refine am_ofT (by decide +kernel) (Nat.le_of_ble_eq_true rfl) ?_
  intro C hse hret hxt hF hO
  subst hse
  refine am_go hF sgL_score_0_817ed 4 [(0, .ref 0), (1, .int x1), (2, .ref 464)] [.int x1, .ref 0, .int 0, .ref 464] sgL_score_0_817edd rfl ?_
  refine am_dV hF hO [.int x1] [.int 0, .ref 464] hB myX5_score vyX5_score lm_RL_76 (hp_main _ _ _) rfl rfl 4 36 ⟨by show _ ≤ 9; omega, by show 8 + (2 + 11) + _ ≤ 165; omega⟩ ⟨by omega, by omega, Nat.le_refl 4, Nat.le_refl 36⟩ rfl (am_lv_ref (hp_main _ _ _) (am_lv_int (am_lv_ref (hp_o9 _ _ _) (am_lv_int (am_lv_ref (hp_o9 _ _ _) am_lv_nil))))) (Nat.le_of_ble_eq_true rfl) dL_score_4 [.int r, .int 0, .ref 464] rfl ?_
  refine am_go hF sgL_score_7_bb023 8 [(0, .ref 0), (1, .int x1), (2, .ref 464)] [.long r.toInt64, .int 0, .ref 464] sgL_score_7_bb023d rfl ?_
  refine am_last hF (hp_o9 T' S o) 0 rfl (by decide) (by decide) dL_score_8 ?_
  refine am_eqX (hp T' S (am_updL o 0 r.toInt64)) (hp_ou _ _ _ _) ?_
  refine am_go hF sgL_score_9_51cdd 16 [(0, .ref 0), (1, .int x1), (2, .ref 464)] [.int 0] sgL_score_9_51cddd rfl ?_
  exact am_iret hF hO hret rfl dL_score_16 ⟨rfl, rfl⟩
theorem dL_score_12 : decode cL_score 12 = .ok (.astore_n 3, 1) := by decide +kernel
def sgL_score_13_4de0a : List Instr := [.iconst 1]
theorem sgL_score_13_4de0ad : am_dec cL_score 13 sgL_score_13_4de0a = true := by decide +kernel
theorem dL_score_14 : decode cL_score 14 = .ok (.ireturn, 1) := by decide +kernel
theorem w_score_1 {G : am_S} {T S : am_T} {o : Nat → Int64} {x1 : Int32} {rm : Room} (hrm : rm.frames ≤ 8 ∧ rm.cells ≤ 4 ∧ rm.slots ≤ 36 ∧ rm.locals ≤ 136) (hB : am_XD G yX5_score (.code yX5_score cX5_score 2 (some .int) :: am_G) rm (hp T S o) [.ref 0, .int x1] am_E1) : am_D G yL_score (.codeWith yL_score cL_score 4 (some .int) [(0, 9, 12, 13)] :: am_G) am_WR (hp T S o) [.ref 0, .int x1, .ref 464] (hp T S o) (some (.int 1)) := by
  refine am_ofT (by decide +kernel) (Nat.le_of_ble_eq_true rfl) ?_
  intro C hse hret hxt hF hO
  subst hse
  refine am_go hF sgL_score_0_817ed 4 [(0, .ref 0), (1, .int x1), (2, .ref 464)] [.int x1, .ref 0, .int 0, .ref 464] sgL_score_0_817edd rfl ?_
  refine am_xT hF hO [.int x1] [.int 0, .ref 464] hB myX5_score vyX5_score lm_RL_76 (hp_main _ _ _) rfl rfl 4 36 ⟨by show _ ≤ 9; omega, by show 8 + (2 + 11) + _ ≤ 165; omega⟩ ⟨by omega, by omega, Nat.le_refl 4, Nat.le_refl 36⟩ rfl (Nat.le_of_ble_eq_true rfl) dL_score_4 [] ⟨0, 9, 12, 13⟩ [] (hxt.trans rfl) (fun z hz => nomatch hz) (by decide) (by decide) lc_RL_13 (by decide) 3 (by decide) 1 (Or.inl ⟨3, rfl, rfl, dL_score_12⟩) ?_
  refine am_go hF sgL_score_13_4de0a 14 [] [.int 1] sgL_score_13_4de0ad rfl ?_
  exact am_iret hF hO hret rfl dL_score_14 ⟨rfl, rfl⟩
theorem mwyL_lapses : am_MW yL_lapses cL_lapses 4 (some .int) [(0, 9, 12, 13)] 3 := ⟨am_wd 710 (by decide +kernel) (by decide +kernel), am_wd 45 (by decide +kernel) (by decide +kernel), by decide +kernel⟩
theorem swyL_lapses : Cond.static yL_lapses ∈ am_G := am_wd 709 (by decide +kernel) (by decide +kernel)
theorem dL_lapses_4 : decode cL_lapses 4 = .ok (.invokevirtual 79, 3) := by decide +kernel
def sgL_lapses_0_817ed : List Instr := [.aload_n 2, .iconst 0, .aload_n 0, .iload_n 1]
theorem sgL_lapses_0_817edd : am_dec cL_lapses 0 sgL_lapses_0_817ed = true := by decide +kernel
def sgL_lapses_7_bb023 : List Instr := [.i2l]
theorem sgL_lapses_7_bb023d : am_dec cL_lapses 7 sgL_lapses_7_bb023 = true := by decide +kernel
theorem dL_lapses_8 : decode cL_lapses 8 = .ok (.lastore, 1) := by decide +kernel
def sgL_lapses_9_51cdd : List Instr := [.goto 6, .iconst 0]
theorem sgL_lapses_9_51cddd : am_dec cL_lapses 9 sgL_lapses_9_51cdd = true := by decide +kernel
theorem dL_lapses_16 : decode cL_lapses 16 = .ok (.ireturn, 1) := by decide +kernel
theorem w_lapses_n {G : am_S} {T S T' : am_T} {o : Nat → Int64} {x1 : Int32} {r : Int32} {rm : Room} (hrm : rm.frames ≤ 8 ∧ rm.cells ≤ 4 ∧ rm.slots ≤ 36 ∧ rm.locals ≤ 136) (hB : am_D G yX5_lapses (.code yX5_lapses cX5_lapses 3 (some .int) :: am_G) rm (hp T S o) [.ref 0, .int x1] (hp T' S o) (some (.int r))) : am_D G yL_lapses (.codeWith yL_lapses cL_lapses 4 (some .int) [(0, 9, 12, 13)] :: am_G) am_WR (hp T S o) [.ref 0, .int x1, .ref 464] (hp T' S (am_updL o 0 r.toInt64)) (some (.int 0)) := by
  refine am_ofT (by decide +kernel) (Nat.le_of_ble_eq_true rfl) ?_
  intro C hse hret hxt hF hO
  subst hse
  refine am_go hF sgL_lapses_0_817ed 4 [(0, .ref 0), (1, .int x1), (2, .ref 464)] [.int x1, .ref 0, .int 0, .ref 464] sgL_lapses_0_817edd rfl ?_
  refine am_dV hF hO [.int x1] [.int 0, .ref 464] hB myX5_lapses vyX5_lapses lm_RL_79 (hp_main _ _ _) rfl rfl 4 36 ⟨by show _ ≤ 9; omega, by show 8 + (3 + 11) + _ ≤ 165; omega⟩ ⟨by omega, by omega, Nat.le_refl 4, Nat.le_refl 36⟩ rfl (am_lv_ref (hp_main _ _ _) (am_lv_int (am_lv_ref (hp_o9 _ _ _) (am_lv_int (am_lv_ref (hp_o9 _ _ _) am_lv_nil))))) (Nat.le_of_ble_eq_true rfl) dL_lapses_4 [.int r, .int 0, .ref 464] rfl ?_
  refine am_go hF sgL_lapses_7_bb023 8 [(0, .ref 0), (1, .int x1), (2, .ref 464)] [.long r.toInt64, .int 0, .ref 464] sgL_lapses_7_bb023d rfl ?_
  refine am_last hF (hp_o9 T' S o) 0 rfl (by decide) (by decide) dL_lapses_8 ?_
  refine am_eqX (hp T' S (am_updL o 0 r.toInt64)) (hp_ou _ _ _ _) ?_
  refine am_go hF sgL_lapses_9_51cdd 16 [(0, .ref 0), (1, .int x1), (2, .ref 464)] [.int 0] sgL_lapses_9_51cddd rfl ?_
  exact am_iret hF hO hret rfl dL_lapses_16 ⟨rfl, rfl⟩
theorem dL_lapses_12 : decode cL_lapses 12 = .ok (.astore_n 3, 1) := by decide +kernel
def sgL_lapses_13_4de0a : List Instr := [.iconst 1]
theorem sgL_lapses_13_4de0ad : am_dec cL_lapses 13 sgL_lapses_13_4de0a = true := by decide +kernel
theorem dL_lapses_14 : decode cL_lapses 14 = .ok (.ireturn, 1) := by decide +kernel
theorem w_lapses_1 {G : am_S} {T S : am_T} {o : Nat → Int64} {x1 : Int32} {rm : Room} (hrm : rm.frames ≤ 8 ∧ rm.cells ≤ 4 ∧ rm.slots ≤ 36 ∧ rm.locals ≤ 136) (hB : am_XD G yX5_lapses (.code yX5_lapses cX5_lapses 3 (some .int) :: am_G) rm (hp T S o) [.ref 0, .int x1] am_E1) : am_D G yL_lapses (.codeWith yL_lapses cL_lapses 4 (some .int) [(0, 9, 12, 13)] :: am_G) am_WR (hp T S o) [.ref 0, .int x1, .ref 464] (hp T S o) (some (.int 1)) := by
  refine am_ofT (by decide +kernel) (Nat.le_of_ble_eq_true rfl) ?_
  intro C hse hret hxt hF hO
  subst hse
  refine am_go hF sgL_lapses_0_817ed 4 [(0, .ref 0), (1, .int x1), (2, .ref 464)] [.int x1, .ref 0, .int 0, .ref 464] sgL_lapses_0_817edd rfl ?_
  refine am_xT hF hO [.int x1] [.int 0, .ref 464] hB myX5_lapses vyX5_lapses lm_RL_79 (hp_main _ _ _) rfl rfl 4 36 ⟨by show _ ≤ 9; omega, by show 8 + (3 + 11) + _ ≤ 165; omega⟩ ⟨by omega, by omega, Nat.le_refl 4, Nat.le_refl 36⟩ rfl (Nat.le_of_ble_eq_true rfl) dL_lapses_4 [] ⟨0, 9, 12, 13⟩ [] (hxt.trans rfl) (fun z hz => nomatch hz) (by decide) (by decide) lc_RL_13 (by decide) 3 (by decide) 1 (Or.inl ⟨3, rfl, rfl, dL_lapses_12⟩) ?_
  refine am_go hF sgL_lapses_13_4de0a 14 [] [.int 1] sgL_lapses_13_4de0ad rfl ?_
  exact am_iret hF hO hret rfl dL_lapses_14 ⟨rfl, rfl⟩
theorem mwyL_jurors : am_MW yL_jurors cL_jurors 4 (some .int) [(0, 9, 12, 13)] 3 := ⟨am_wd 721 (by decide +kernel) (by decide +kernel), am_wd 45 (by decide +kernel) (by decide +kernel), by decide +kernel⟩
theorem swyL_jurors : Cond.static yL_jurors ∈ am_G := am_wd 720 (by decide +kernel) (by decide +kernel)
theorem dL_jurors_4 : decode cL_jurors 4 = .ok (.invokevirtual 82, 3) := by decide +kernel
def sgL_jurors_0_817ed : List Instr := [.aload_n 2, .iconst 0, .aload_n 0, .iload_n 1]
theorem sgL_jurors_0_817edd : am_dec cL_jurors 0 sgL_jurors_0_817ed = true := by decide +kernel
def sgL_jurors_7_bb023 : List Instr := [.i2l]
theorem sgL_jurors_7_bb023d : am_dec cL_jurors 7 sgL_jurors_7_bb023 = true := by decide +kernel
theorem dL_jurors_8 : decode cL_jurors 8 = .ok (.lastore, 1) := by decide +kernel
def sgL_jurors_9_51cdd : List Instr := [.goto 6, .iconst 0]
theorem sgL_jurors_9_51cddd : am_dec cL_jurors 9 sgL_jurors_9_51cdd = true := by decide +kernel
theorem dL_jurors_16 : decode cL_jurors 16 = .ok (.ireturn, 1) := by decide +kernel
theorem w_jurors_n {G : am_S} {T S T' : am_T} {o : Nat → Int64} {x1 : Int32} {r : Int32} {rm : Room} (hrm : rm.frames ≤ 8 ∧ rm.cells ≤ 4 ∧ rm.slots ≤ 36 ∧ rm.locals ≤ 136) (hB : am_D G yX5_jurors (.code yX5_jurors cX5_jurors 3 (some .int) :: am_G) rm (hp T S o) [.ref 0, .int x1] (hp T' S o) (some (.int r))) : am_D G yL_jurors (.codeWith yL_jurors cL_jurors 4 (some .int) [(0, 9, 12, 13)] :: am_G) am_WR (hp T S o) [.ref 0, .int x1, .ref 464] (hp T' S (am_updL o 0 r.toInt64)) (some (.int 0)) := by
  refine am_ofT (by decide +kernel) (Nat.le_of_ble_eq_true rfl) ?_
  intro C hse hret hxt hF hO
  subst hse
  refine am_go hF sgL_jurors_0_817ed 4 [(0, .ref 0), (1, .int x1), (2, .ref 464)] [.int x1, .ref 0, .int 0, .ref 464] sgL_jurors_0_817edd rfl ?_
  refine am_dV hF hO [.int x1] [.int 0, .ref 464] hB myX5_jurors vyX5_jurors lm_RL_82 (hp_main _ _ _) rfl rfl 4 36 ⟨by show _ ≤ 9; omega, by show 8 + (3 + 11) + _ ≤ 165; omega⟩ ⟨by omega, by omega, Nat.le_refl 4, Nat.le_refl 36⟩ rfl (am_lv_ref (hp_main _ _ _) (am_lv_int (am_lv_ref (hp_o9 _ _ _) (am_lv_int (am_lv_ref (hp_o9 _ _ _) am_lv_nil))))) (Nat.le_of_ble_eq_true rfl) dL_jurors_4 [.int r, .int 0, .ref 464] rfl ?_
  refine am_go hF sgL_jurors_7_bb023 8 [(0, .ref 0), (1, .int x1), (2, .ref 464)] [.long r.toInt64, .int 0, .ref 464] sgL_jurors_7_bb023d rfl ?_
  refine am_last hF (hp_o9 T' S o) 0 rfl (by decide) (by decide) dL_jurors_8 ?_
  refine am_eqX (hp T' S (am_updL o 0 r.toInt64)) (hp_ou _ _ _ _) ?_
  refine am_go hF sgL_jurors_9_51cdd 16 [(0, .ref 0), (1, .int x1), (2, .ref 464)] [.int 0] sgL_jurors_9_51cddd rfl ?_
  exact am_iret hF hO hret rfl dL_jurors_16 ⟨rfl, rfl⟩
theorem dL_jurors_12 : decode cL_jurors 12 = .ok (.astore_n 3, 1) := by decide +kernel
def sgL_jurors_13_4de0a : List Instr := [.iconst 1]
theorem sgL_jurors_13_4de0ad : am_dec cL_jurors 13 sgL_jurors_13_4de0a = true := by decide +kernel
theorem dL_jurors_14 : decode cL_jurors 14 = .ok (.ireturn, 1) := by decide +kernel
theorem w_jurors_1 {G : am_S} {T S : am_T} {o : Nat → Int64} {x1 : Int32} {rm : Room} (hrm : rm.frames ≤ 8 ∧ rm.cells ≤ 4 ∧ rm.slots ≤ 36 ∧ rm.locals ≤ 136) (hB : am_XD G yX5_jurors (.code yX5_jurors cX5_jurors 3 (some .int) :: am_G) rm (hp T S o) [.ref 0, .int x1] am_E1) : am_D G yL_jurors (.codeWith yL_jurors cL_jurors 4 (some .int) [(0, 9, 12, 13)] :: am_G) am_WR (hp T S o) [.ref 0, .int x1, .ref 464] (hp T S o) (some (.int 1)) := by
  refine am_ofT (by decide +kernel) (Nat.le_of_ble_eq_true rfl) ?_
  intro C hse hret hxt hF hO
  subst hse
  refine am_go hF sgL_jurors_0_817ed 4 [(0, .ref 0), (1, .int x1), (2, .ref 464)] [.int x1, .ref 0, .int 0, .ref 464] sgL_jurors_0_817edd rfl ?_
  refine am_xT hF hO [.int x1] [.int 0, .ref 464] hB myX5_jurors vyX5_jurors lm_RL_82 (hp_main _ _ _) rfl rfl 4 36 ⟨by show _ ≤ 9; omega, by show 8 + (3 + 11) + _ ≤ 165; omega⟩ ⟨by omega, by omega, Nat.le_refl 4, Nat.le_refl 36⟩ rfl (Nat.le_of_ble_eq_true rfl) dL_jurors_4 [] ⟨0, 9, 12, 13⟩ [] (hxt.trans rfl) (fun z hz => nomatch hz) (by decide) (by decide) lc_RL_13 (by decide) 3 (by decide) 1 (Or.inl ⟨3, rfl, rfl, dL_jurors_12⟩) ?_
  refine am_go hF sgL_jurors_13_4de0a 14 [] [.int 1] sgL_jurors_13_4de0ad rfl ?_
  exact am_iret hF hO hret rfl dL_jurors_14 ⟨rfl, rfl⟩
theorem mwyL_reached : am_MW yL_reached cL_reached 4 (some .int) [(0, 9, 12, 13)] 3 := ⟨am_wd 728 (by decide +kernel) (by decide +kernel), am_wd 45 (by decide +kernel) (by decide +kernel), by decide +kernel⟩
theorem swyL_reached : Cond.static yL_reached ∈ am_G := am_wd 727 (by decide +kernel) (by decide +kernel)
theorem dL_reached_4 : decode cL_reached 4 = .ok (.invokevirtual 85, 3) := by decide +kernel
def sgL_reached_0_817ed : List Instr := [.aload_n 2, .iconst 0, .aload_n 0, .iload_n 1]
theorem sgL_reached_0_817edd : am_dec cL_reached 0 sgL_reached_0_817ed = true := by decide +kernel
def sgL_reached_7_bb023 : List Instr := [.i2l]
theorem sgL_reached_7_bb023d : am_dec cL_reached 7 sgL_reached_7_bb023 = true := by decide +kernel
theorem dL_reached_8 : decode cL_reached 8 = .ok (.lastore, 1) := by decide +kernel
def sgL_reached_9_51cdd : List Instr := [.goto 6, .iconst 0]
theorem sgL_reached_9_51cddd : am_dec cL_reached 9 sgL_reached_9_51cdd = true := by decide +kernel
theorem dL_reached_16 : decode cL_reached 16 = .ok (.ireturn, 1) := by decide +kernel
theorem w_reached_n {G : am_S} {T S T' : am_T} {o : Nat → Int64} {x1 : Int32} {r : Int32} {rm : Room} (hrm : rm.frames ≤ 8 ∧ rm.cells ≤ 4 ∧ rm.slots ≤ 36 ∧ rm.locals ≤ 136) (hB : am_D G yX5_reached (.code yX5_reached cX5_reached 2 (some .int) :: am_G) rm (hp T S o) [.ref 0, .int x1] (hp T' S o) (some (.int r))) : am_D G yL_reached (.codeWith yL_reached cL_reached 4 (some .int) [(0, 9, 12, 13)] :: am_G) am_WR (hp T S o) [.ref 0, .int x1, .ref 464] (hp T' S (am_updL o 0 r.toInt64)) (some (.int 0)) := by
  refine am_ofT (by decide +kernel) (Nat.le_of_ble_eq_true rfl) ?_
  intro C hse hret hxt hF hO
  subst hse
  refine am_go hF sgL_reached_0_817ed 4 [(0, .ref 0), (1, .int x1), (2, .ref 464)] [.int x1, .ref 0, .int 0, .ref 464] sgL_reached_0_817edd rfl ?_
  refine am_dV hF hO [.int x1] [.int 0, .ref 464] hB myX5_reached vyX5_reached lm_RL_85 (hp_main _ _ _) rfl rfl 4 36 ⟨by show _ ≤ 9; omega, by show 8 + (2 + 11) + _ ≤ 165; omega⟩ ⟨by omega, by omega, Nat.le_refl 4, Nat.le_refl 36⟩ rfl (am_lv_ref (hp_main _ _ _) (am_lv_int (am_lv_ref (hp_o9 _ _ _) (am_lv_int (am_lv_ref (hp_o9 _ _ _) am_lv_nil))))) (Nat.le_of_ble_eq_true rfl) dL_reached_4 [.int r, .int 0, .ref 464] rfl ?_
  refine am_go hF sgL_reached_7_bb023 8 [(0, .ref 0), (1, .int x1), (2, .ref 464)] [.long r.toInt64, .int 0, .ref 464] sgL_reached_7_bb023d rfl ?_
  refine am_last hF (hp_o9 T' S o) 0 rfl (by decide) (by decide) dL_reached_8 ?_
  refine am_eqX (hp T' S (am_updL o 0 r.toInt64)) (hp_ou _ _ _ _) ?_
  refine am_go hF sgL_reached_9_51cdd 16 [(0, .ref 0), (1, .int x1), (2, .ref 464)] [.int 0] sgL_reached_9_51cddd rfl ?_
  exact am_iret hF hO hret rfl dL_reached_16 ⟨rfl, rfl⟩
theorem dL_reached_12 : decode cL_reached 12 = .ok (.astore_n 3, 1) := by decide +kernel
def sgL_reached_13_4de0a : List Instr := [.iconst 1]
theorem sgL_reached_13_4de0ad : am_dec cL_reached 13 sgL_reached_13_4de0a = true := by decide +kernel
theorem dL_reached_14 : decode cL_reached 14 = .ok (.ireturn, 1) := by decide +kernel
theorem w_reached_1 {G : am_S} {T S : am_T} {o : Nat → Int64} {x1 : Int32} {rm : Room} (hrm : rm.frames ≤ 8 ∧ rm.cells ≤ 4 ∧ rm.slots ≤ 36 ∧ rm.locals ≤ 136) (hB : am_XD G yX5_reached (.code yX5_reached cX5_reached 2 (some .int) :: am_G) rm (hp T S o) [.ref 0, .int x1] am_E1) : am_D G yL_reached (.codeWith yL_reached cL_reached 4 (some .int) [(0, 9, 12, 13)] :: am_G) am_WR (hp T S o) [.ref 0, .int x1, .ref 464] (hp T S o) (some (.int 1)) := by
  refine am_ofT (by decide +kernel) (Nat.le_of_ble_eq_true rfl) ?_
  intro C hse hret hxt hF hO
  subst hse
  refine am_go hF sgL_reached_0_817ed 4 [(0, .ref 0), (1, .int x1), (2, .ref 464)] [.int x1, .ref 0, .int 0, .ref 464] sgL_reached_0_817edd rfl ?_
  refine am_xT hF hO [.int x1] [.int 0, .ref 464] hB myX5_reached vyX5_reached lm_RL_85 (hp_main _ _ _) rfl rfl 4 36 ⟨by show _ ≤ 9; omega, by show 8 + (2 + 11) + _ ≤ 165; omega⟩ ⟨by omega, by omega, Nat.le_refl 4, Nat.le_refl 36⟩ rfl (Nat.le_of_ble_eq_true rfl) dL_reached_4 [] ⟨0, 9, 12, 13⟩ [] (hxt.trans rfl) (fun z hz => nomatch hz) (by decide) (by decide) lc_RL_13 (by decide) 3 (by decide) 1 (Or.inl ⟨3, rfl, rfl, dL_reached_12⟩) ?_
  refine am_go hF sgL_reached_13_4de0a 14 [] [.int 1] sgL_reached_13_4de0ad rfl ?_
  exact am_iret hF hO hret rfl dL_reached_14 ⟨rfl, rfl⟩
theorem mwyL_weight : am_MW yL_weight cL_weight 4 (some .int) [(0, 9, 12, 13)] 3 := ⟨am_wd 735 (by decide +kernel) (by decide +kernel), am_wd 45 (by decide +kernel) (by decide +kernel), by decide +kernel⟩
theorem swyL_weight : Cond.static yL_weight ∈ am_G := am_wd 734 (by decide +kernel) (by decide +kernel)
theorem dL_weight_4 : decode cL_weight 4 = .ok (.invokevirtual 88, 3) := by decide +kernel
def sgL_weight_0_817ed : List Instr := [.aload_n 2, .iconst 0, .aload_n 0, .iload_n 1]
theorem sgL_weight_0_817edd : am_dec cL_weight 0 sgL_weight_0_817ed = true := by decide +kernel
def sgL_weight_7_bb023 : List Instr := [.i2l]
theorem sgL_weight_7_bb023d : am_dec cL_weight 7 sgL_weight_7_bb023 = true := by decide +kernel
theorem dL_weight_8 : decode cL_weight 8 = .ok (.lastore, 1) := by decide +kernel
def sgL_weight_9_51cdd : List Instr := [.goto 6, .iconst 0]
theorem sgL_weight_9_51cddd : am_dec cL_weight 9 sgL_weight_9_51cdd = true := by decide +kernel
theorem dL_weight_16 : decode cL_weight 16 = .ok (.ireturn, 1) := by decide +kernel
theorem w_weight_n {G : am_S} {T S T' : am_T} {o : Nat → Int64} {x1 : Int32} {r : Int32} {rm : Room} (hrm : rm.frames ≤ 8 ∧ rm.cells ≤ 4 ∧ rm.slots ≤ 36 ∧ rm.locals ≤ 136) (hB : am_D G yX5_weight (.code yX5_weight cX5_weight 2 (some .int) :: am_G) rm (hp T S o) [.ref 0, .int x1] (hp T' S o) (some (.int r))) : am_D G yL_weight (.codeWith yL_weight cL_weight 4 (some .int) [(0, 9, 12, 13)] :: am_G) am_WR (hp T S o) [.ref 0, .int x1, .ref 464] (hp T' S (am_updL o 0 r.toInt64)) (some (.int 0)) := by
  refine am_ofT (by decide +kernel) (Nat.le_of_ble_eq_true rfl) ?_
  intro C hse hret hxt hF hO
  subst hse
  refine am_go hF sgL_weight_0_817ed 4 [(0, .ref 0), (1, .int x1), (2, .ref 464)] [.int x1, .ref 0, .int 0, .ref 464] sgL_weight_0_817edd rfl ?_
  refine am_dV hF hO [.int x1] [.int 0, .ref 464] hB myX5_weight vyX5_weight lm_RL_88 (hp_main _ _ _) rfl rfl 4 36 ⟨by show _ ≤ 9; omega, by show 8 + (2 + 11) + _ ≤ 165; omega⟩ ⟨by omega, by omega, Nat.le_refl 4, Nat.le_refl 36⟩ rfl (am_lv_ref (hp_main _ _ _) (am_lv_int (am_lv_ref (hp_o9 _ _ _) (am_lv_int (am_lv_ref (hp_o9 _ _ _) am_lv_nil))))) (Nat.le_of_ble_eq_true rfl) dL_weight_4 [.int r, .int 0, .ref 464] rfl ?_
  refine am_go hF sgL_weight_7_bb023 8 [(0, .ref 0), (1, .int x1), (2, .ref 464)] [.long r.toInt64, .int 0, .ref 464] sgL_weight_7_bb023d rfl ?_
  refine am_last hF (hp_o9 T' S o) 0 rfl (by decide) (by decide) dL_weight_8 ?_
  refine am_eqX (hp T' S (am_updL o 0 r.toInt64)) (hp_ou _ _ _ _) ?_
  refine am_go hF sgL_weight_9_51cdd 16 [(0, .ref 0), (1, .int x1), (2, .ref 464)] [.int 0] sgL_weight_9_51cddd rfl ?_
  exact am_iret hF hO hret rfl dL_weight_16 ⟨rfl, rfl⟩
theorem dL_weight_12 : decode cL_weight 12 = .ok (.astore_n 3, 1) := by decide +kernel
def sgL_weight_13_4de0a : List Instr := [.iconst 1]
theorem sgL_weight_13_4de0ad : am_dec cL_weight 13 sgL_weight_13_4de0a = true := by decide +kernel
theorem dL_weight_14 : decode cL_weight 14 = .ok (.ireturn, 1) := by decide +kernel
theorem w_weight_1 {G : am_S} {T S : am_T} {o : Nat → Int64} {x1 : Int32} {rm : Room} (hrm : rm.frames ≤ 8 ∧ rm.cells ≤ 4 ∧ rm.slots ≤ 36 ∧ rm.locals ≤ 136) (hB : am_XD G yX5_weight (.code yX5_weight cX5_weight 2 (some .int) :: am_G) rm (hp T S o) [.ref 0, .int x1] am_E1) : am_D G yL_weight (.codeWith yL_weight cL_weight 4 (some .int) [(0, 9, 12, 13)] :: am_G) am_WR (hp T S o) [.ref 0, .int x1, .ref 464] (hp T S o) (some (.int 1)) := by
  refine am_ofT (by decide +kernel) (Nat.le_of_ble_eq_true rfl) ?_
  intro C hse hret hxt hF hO
  subst hse
  refine am_go hF sgL_weight_0_817ed 4 [(0, .ref 0), (1, .int x1), (2, .ref 464)] [.int x1, .ref 0, .int 0, .ref 464] sgL_weight_0_817edd rfl ?_
  refine am_xT hF hO [.int x1] [.int 0, .ref 464] hB myX5_weight vyX5_weight lm_RL_88 (hp_main _ _ _) rfl rfl 4 36 ⟨by show _ ≤ 9; omega, by show 8 + (2 + 11) + _ ≤ 165; omega⟩ ⟨by omega, by omega, Nat.le_refl 4, Nat.le_refl 36⟩ rfl (Nat.le_of_ble_eq_true rfl) dL_weight_4 [] ⟨0, 9, 12, 13⟩ [] (hxt.trans rfl) (fun z hz => nomatch hz) (by decide) (by decide) lc_RL_13 (by decide) 3 (by decide) 1 (Or.inl ⟨3, rfl, rfl, dL_weight_12⟩) ?_
  refine am_go hF sgL_weight_13_4de0a 14 [] [.int 1] sgL_weight_13_4de0ad rfl ?_
  exact am_iret hF hO hret rfl dL_weight_14 ⟨rfl, rfl⟩
theorem mwyL_judged : am_MW yL_judged cL_judged 4 (some .int) [(0, 9, 12, 13)] 3 := ⟨am_wd 742 (by decide +kernel) (by decide +kernel), am_wd 45 (by decide +kernel) (by decide +kernel), by decide +kernel⟩
theorem swyL_judged : Cond.static yL_judged ∈ am_G := am_wd 741 (by decide +kernel) (by decide +kernel)
theorem dL_judged_4 : decode cL_judged 4 = .ok (.invokevirtual 91, 3) := by decide +kernel
def sgL_judged_0_817ed : List Instr := [.aload_n 2, .iconst 0, .aload_n 0, .iload_n 1]
theorem sgL_judged_0_817edd : am_dec cL_judged 0 sgL_judged_0_817ed = true := by decide +kernel
def sgL_judged_7_bb023 : List Instr := [.i2l]
theorem sgL_judged_7_bb023d : am_dec cL_judged 7 sgL_judged_7_bb023 = true := by decide +kernel
theorem dL_judged_8 : decode cL_judged 8 = .ok (.lastore, 1) := by decide +kernel
def sgL_judged_9_51cdd : List Instr := [.goto 6, .iconst 0]
theorem sgL_judged_9_51cddd : am_dec cL_judged 9 sgL_judged_9_51cdd = true := by decide +kernel
theorem dL_judged_16 : decode cL_judged 16 = .ok (.ireturn, 1) := by decide +kernel
theorem w_judged_n {G : am_S} {T S T' : am_T} {o : Nat → Int64} {x1 : Int32} {r : Int32} {rm : Room} (hrm : rm.frames ≤ 8 ∧ rm.cells ≤ 4 ∧ rm.slots ≤ 36 ∧ rm.locals ≤ 136) (hB : am_D G yX5_judged (.code yX5_judged cX5_judged 2 (some .int) :: am_G) rm (hp T S o) [.ref 0, .int x1] (hp T' S o) (some (.int r))) : am_D G yL_judged (.codeWith yL_judged cL_judged 4 (some .int) [(0, 9, 12, 13)] :: am_G) am_WR (hp T S o) [.ref 0, .int x1, .ref 464] (hp T' S (am_updL o 0 r.toInt64)) (some (.int 0)) := by
  refine am_ofT (by decide +kernel) (Nat.le_of_ble_eq_true rfl) ?_
  intro C hse hret hxt hF hO
  subst hse
  refine am_go hF sgL_judged_0_817ed 4 [(0, .ref 0), (1, .int x1), (2, .ref 464)] [.int x1, .ref 0, .int 0, .ref 464] sgL_judged_0_817edd rfl ?_
  refine am_dV hF hO [.int x1] [.int 0, .ref 464] hB myX5_judged vyX5_judged lm_RL_91 (hp_main _ _ _) rfl rfl 4 36 ⟨by show _ ≤ 9; omega, by show 8 + (2 + 11) + _ ≤ 165; omega⟩ ⟨by omega, by omega, Nat.le_refl 4, Nat.le_refl 36⟩ rfl (am_lv_ref (hp_main _ _ _) (am_lv_int (am_lv_ref (hp_o9 _ _ _) (am_lv_int (am_lv_ref (hp_o9 _ _ _) am_lv_nil))))) (Nat.le_of_ble_eq_true rfl) dL_judged_4 [.int r, .int 0, .ref 464] rfl ?_
  refine am_go hF sgL_judged_7_bb023 8 [(0, .ref 0), (1, .int x1), (2, .ref 464)] [.long r.toInt64, .int 0, .ref 464] sgL_judged_7_bb023d rfl ?_
  refine am_last hF (hp_o9 T' S o) 0 rfl (by decide) (by decide) dL_judged_8 ?_
  refine am_eqX (hp T' S (am_updL o 0 r.toInt64)) (hp_ou _ _ _ _) ?_
  refine am_go hF sgL_judged_9_51cdd 16 [(0, .ref 0), (1, .int x1), (2, .ref 464)] [.int 0] sgL_judged_9_51cddd rfl ?_
  exact am_iret hF hO hret rfl dL_judged_16 ⟨rfl, rfl⟩
theorem dL_judged_12 : decode cL_judged 12 = .ok (.astore_n 3, 1) := by decide +kernel
def sgL_judged_13_4de0a : List Instr := [.iconst 1]
theorem sgL_judged_13_4de0ad : am_dec cL_judged 13 sgL_judged_13_4de0a = true := by decide +kernel
theorem dL_judged_14 : decode cL_judged 14 = .ok (.ireturn, 1) := by decide +kernel
theorem w_judged_1 {G : am_S} {T S : am_T} {o : Nat → Int64} {x1 : Int32} {rm : Room} (hrm : rm.frames ≤ 8 ∧ rm.cells ≤ 4 ∧ rm.slots ≤ 36 ∧ rm.locals ≤ 136) (hB : am_XD G yX5_judged (.code yX5_judged cX5_judged 2 (some .int) :: am_G) rm (hp T S o) [.ref 0, .int x1] am_E1) : am_D G yL_judged (.codeWith yL_judged cL_judged 4 (some .int) [(0, 9, 12, 13)] :: am_G) am_WR (hp T S o) [.ref 0, .int x1, .ref 464] (hp T S o) (some (.int 1)) := by
  refine am_ofT (by decide +kernel) (Nat.le_of_ble_eq_true rfl) ?_
  intro C hse hret hxt hF hO
  subst hse
  refine am_go hF sgL_judged_0_817ed 4 [(0, .ref 0), (1, .int x1), (2, .ref 464)] [.int x1, .ref 0, .int 0, .ref 464] sgL_judged_0_817edd rfl ?_
  refine am_xT hF hO [.int x1] [.int 0, .ref 464] hB myX5_judged vyX5_judged lm_RL_91 (hp_main _ _ _) rfl rfl 4 36 ⟨by show _ ≤ 9; omega, by show 8 + (2 + 11) + _ ≤ 165; omega⟩ ⟨by omega, by omega, Nat.le_refl 4, Nat.le_refl 36⟩ rfl (Nat.le_of_ble_eq_true rfl) dL_judged_4 [] ⟨0, 9, 12, 13⟩ [] (hxt.trans rfl) (fun z hz => nomatch hz) (by decide) (by decide) lc_RL_13 (by decide) 3 (by decide) 1 (Or.inl ⟨3, rfl, rfl, dL_judged_12⟩) ?_
  refine am_go hF sgL_judged_13_4de0a 14 [] [.int 1] sgL_judged_13_4de0ad rfl ?_
  exact am_iret hF hO hret rfl dL_judged_14 ⟨rfl, rfl⟩
theorem mwyL_bounces : am_MW yL_bounces cL_bounces 4 (some .int) [(0, 9, 12, 13)] 3 := ⟨am_wd 749 (by decide +kernel) (by decide +kernel), am_wd 45 (by decide +kernel) (by decide +kernel), by decide +kernel⟩
theorem swyL_bounces : Cond.static yL_bounces ∈ am_G := am_wd 748 (by decide +kernel) (by decide +kernel)
theorem dL_bounces_4 : decode cL_bounces 4 = .ok (.invokevirtual 94, 3) := by decide +kernel
def sgL_bounces_0_817ed : List Instr := [.aload_n 2, .iconst 0, .aload_n 0, .iload_n 1]
theorem sgL_bounces_0_817edd : am_dec cL_bounces 0 sgL_bounces_0_817ed = true := by decide +kernel
def sgL_bounces_7_bb023 : List Instr := [.i2l]
theorem sgL_bounces_7_bb023d : am_dec cL_bounces 7 sgL_bounces_7_bb023 = true := by decide +kernel
theorem dL_bounces_8 : decode cL_bounces 8 = .ok (.lastore, 1) := by decide +kernel
def sgL_bounces_9_51cdd : List Instr := [.goto 6, .iconst 0]
theorem sgL_bounces_9_51cddd : am_dec cL_bounces 9 sgL_bounces_9_51cdd = true := by decide +kernel
theorem dL_bounces_16 : decode cL_bounces 16 = .ok (.ireturn, 1) := by decide +kernel
theorem w_bounces_n {G : am_S} {T S T' : am_T} {o : Nat → Int64} {x1 : Int32} {r : Int32} {rm : Room} (hrm : rm.frames ≤ 8 ∧ rm.cells ≤ 4 ∧ rm.slots ≤ 36 ∧ rm.locals ≤ 136) (hB : am_D G yX5_bounces (.code yX5_bounces cX5_bounces 2 (some .int) :: am_G) rm (hp T S o) [.ref 0, .int x1] (hp T' S o) (some (.int r))) : am_D G yL_bounces (.codeWith yL_bounces cL_bounces 4 (some .int) [(0, 9, 12, 13)] :: am_G) am_WR (hp T S o) [.ref 0, .int x1, .ref 464] (hp T' S (am_updL o 0 r.toInt64)) (some (.int 0)) := by
  refine am_ofT (by decide +kernel) (Nat.le_of_ble_eq_true rfl) ?_
  intro C hse hret hxt hF hO
  subst hse
  refine am_go hF sgL_bounces_0_817ed 4 [(0, .ref 0), (1, .int x1), (2, .ref 464)] [.int x1, .ref 0, .int 0, .ref 464] sgL_bounces_0_817edd rfl ?_
  refine am_dV hF hO [.int x1] [.int 0, .ref 464] hB myX5_bounces vyX5_bounces lm_RL_94 (hp_main _ _ _) rfl rfl 4 36 ⟨by show _ ≤ 9; omega, by show 8 + (2 + 11) + _ ≤ 165; omega⟩ ⟨by omega, by omega, Nat.le_refl 4, Nat.le_refl 36⟩ rfl (am_lv_ref (hp_main _ _ _) (am_lv_int (am_lv_ref (hp_o9 _ _ _) (am_lv_int (am_lv_ref (hp_o9 _ _ _) am_lv_nil))))) (Nat.le_of_ble_eq_true rfl) dL_bounces_4 [.int r, .int 0, .ref 464] rfl ?_
  refine am_go hF sgL_bounces_7_bb023 8 [(0, .ref 0), (1, .int x1), (2, .ref 464)] [.long r.toInt64, .int 0, .ref 464] sgL_bounces_7_bb023d rfl ?_
  refine am_last hF (hp_o9 T' S o) 0 rfl (by decide) (by decide) dL_bounces_8 ?_
  refine am_eqX (hp T' S (am_updL o 0 r.toInt64)) (hp_ou _ _ _ _) ?_
  refine am_go hF sgL_bounces_9_51cdd 16 [(0, .ref 0), (1, .int x1), (2, .ref 464)] [.int 0] sgL_bounces_9_51cddd rfl ?_
  exact am_iret hF hO hret rfl dL_bounces_16 ⟨rfl, rfl⟩
theorem dL_bounces_12 : decode cL_bounces 12 = .ok (.astore_n 3, 1) := by decide +kernel
def sgL_bounces_13_4de0a : List Instr := [.iconst 1]
theorem sgL_bounces_13_4de0ad : am_dec cL_bounces 13 sgL_bounces_13_4de0a = true := by decide +kernel
theorem dL_bounces_14 : decode cL_bounces 14 = .ok (.ireturn, 1) := by decide +kernel
theorem w_bounces_1 {G : am_S} {T S : am_T} {o : Nat → Int64} {x1 : Int32} {rm : Room} (hrm : rm.frames ≤ 8 ∧ rm.cells ≤ 4 ∧ rm.slots ≤ 36 ∧ rm.locals ≤ 136) (hB : am_XD G yX5_bounces (.code yX5_bounces cX5_bounces 2 (some .int) :: am_G) rm (hp T S o) [.ref 0, .int x1] am_E1) : am_D G yL_bounces (.codeWith yL_bounces cL_bounces 4 (some .int) [(0, 9, 12, 13)] :: am_G) am_WR (hp T S o) [.ref 0, .int x1, .ref 464] (hp T S o) (some (.int 1)) := by
  refine am_ofT (by decide +kernel) (Nat.le_of_ble_eq_true rfl) ?_
  intro C hse hret hxt hF hO
  subst hse
  refine am_go hF sgL_bounces_0_817ed 4 [(0, .ref 0), (1, .int x1), (2, .ref 464)] [.int x1, .ref 0, .int 0, .ref 464] sgL_bounces_0_817edd rfl ?_
  refine am_xT hF hO [.int x1] [.int 0, .ref 464] hB myX5_bounces vyX5_bounces lm_RL_94 (hp_main _ _ _) rfl rfl 4 36 ⟨by show _ ≤ 9; omega, by show 8 + (2 + 11) + _ ≤ 165; omega⟩ ⟨by omega, by omega, Nat.le_refl 4, Nat.le_refl 36⟩ rfl (Nat.le_of_ble_eq_true rfl) dL_bounces_4 [] ⟨0, 9, 12, 13⟩ [] (hxt.trans rfl) (fun z hz => nomatch hz) (by decide) (by decide) lc_RL_13 (by decide) 3 (by decide) 1 (Or.inl ⟨3, rfl, rfl, dL_bounces_12⟩) ?_
  refine am_go hF sgL_bounces_13_4de0a 14 [] [.int 1] sgL_bounces_13_4de0ad rfl ?_
  exact am_iret hF hO hret rfl dL_bounces_14 ⟨rfl, rfl⟩
theorem mwyL_box : am_MW yL_box cL_box 4 (some .int) [(0, 9, 12, 13)] 3 := ⟨am_wd 756 (by decide +kernel) (by decide +kernel), am_wd 45 (by decide +kernel) (by decide +kernel), by decide +kernel⟩
theorem swyL_box : Cond.static yL_box ∈ am_G := am_wd 755 (by decide +kernel) (by decide +kernel)
theorem dL_box_4 : decode cL_box 4 = .ok (.invokevirtual 97, 3) := by decide +kernel
def sgL_box_0_817ed : List Instr := [.aload_n 2, .iconst 0, .aload_n 0, .iload_n 1]
theorem sgL_box_0_817edd : am_dec cL_box 0 sgL_box_0_817ed = true := by decide +kernel
def sgL_box_7_bb023 : List Instr := [.i2l]
theorem sgL_box_7_bb023d : am_dec cL_box 7 sgL_box_7_bb023 = true := by decide +kernel
theorem dL_box_8 : decode cL_box 8 = .ok (.lastore, 1) := by decide +kernel
def sgL_box_9_51cdd : List Instr := [.goto 6, .iconst 0]
theorem sgL_box_9_51cddd : am_dec cL_box 9 sgL_box_9_51cdd = true := by decide +kernel
theorem dL_box_16 : decode cL_box 16 = .ok (.ireturn, 1) := by decide +kernel
theorem w_box_n {G : am_S} {T S T' : am_T} {o : Nat → Int64} {x1 : Int32} {r : Int32} {rm : Room} (hrm : rm.frames ≤ 8 ∧ rm.cells ≤ 4 ∧ rm.slots ≤ 36 ∧ rm.locals ≤ 136) (hB : am_D G yX5_box (.code yX5_box cX5_box 2 (some .int) :: am_G) rm (hp T S o) [.ref 0, .int x1] (hp T' S o) (some (.int r))) : am_D G yL_box (.codeWith yL_box cL_box 4 (some .int) [(0, 9, 12, 13)] :: am_G) am_WR (hp T S o) [.ref 0, .int x1, .ref 464] (hp T' S (am_updL o 0 r.toInt64)) (some (.int 0)) := by
  refine am_ofT (by decide +kernel) (Nat.le_of_ble_eq_true rfl) ?_
  intro C hse hret hxt hF hO
  subst hse
  refine am_go hF sgL_box_0_817ed 4 [(0, .ref 0), (1, .int x1), (2, .ref 464)] [.int x1, .ref 0, .int 0, .ref 464] sgL_box_0_817edd rfl ?_
  refine am_dV hF hO [.int x1] [.int 0, .ref 464] hB myX5_box vyX5_box lm_RL_97 (hp_main _ _ _) rfl rfl 4 36 ⟨by show _ ≤ 9; omega, by show 8 + (2 + 11) + _ ≤ 165; omega⟩ ⟨by omega, by omega, Nat.le_refl 4, Nat.le_refl 36⟩ rfl (am_lv_ref (hp_main _ _ _) (am_lv_int (am_lv_ref (hp_o9 _ _ _) (am_lv_int (am_lv_ref (hp_o9 _ _ _) am_lv_nil))))) (Nat.le_of_ble_eq_true rfl) dL_box_4 [.int r, .int 0, .ref 464] rfl ?_
  refine am_go hF sgL_box_7_bb023 8 [(0, .ref 0), (1, .int x1), (2, .ref 464)] [.long r.toInt64, .int 0, .ref 464] sgL_box_7_bb023d rfl ?_
  refine am_last hF (hp_o9 T' S o) 0 rfl (by decide) (by decide) dL_box_8 ?_
  refine am_eqX (hp T' S (am_updL o 0 r.toInt64)) (hp_ou _ _ _ _) ?_
  refine am_go hF sgL_box_9_51cdd 16 [(0, .ref 0), (1, .int x1), (2, .ref 464)] [.int 0] sgL_box_9_51cddd rfl ?_
  exact am_iret hF hO hret rfl dL_box_16 ⟨rfl, rfl⟩
theorem dL_box_12 : decode cL_box 12 = .ok (.astore_n 3, 1) := by decide +kernel
def sgL_box_13_4de0a : List Instr := [.iconst 1]
theorem sgL_box_13_4de0ad : am_dec cL_box 13 sgL_box_13_4de0a = true := by decide +kernel
theorem dL_box_14 : decode cL_box 14 = .ok (.ireturn, 1) := by decide +kernel
theorem w_box_1 {G : am_S} {T S : am_T} {o : Nat → Int64} {x1 : Int32} {rm : Room} (hrm : rm.frames ≤ 8 ∧ rm.cells ≤ 4 ∧ rm.slots ≤ 36 ∧ rm.locals ≤ 136) (hB : am_XD G yX5_box (.code yX5_box cX5_box 2 (some .int) :: am_G) rm (hp T S o) [.ref 0, .int x1] am_E1) : am_D G yL_box (.codeWith yL_box cL_box 4 (some .int) [(0, 9, 12, 13)] :: am_G) am_WR (hp T S o) [.ref 0, .int x1, .ref 464] (hp T S o) (some (.int 1)) := by
  refine am_ofT (by decide +kernel) (Nat.le_of_ble_eq_true rfl) ?_
  intro C hse hret hxt hF hO
  subst hse
  refine am_go hF sgL_box_0_817ed 4 [(0, .ref 0), (1, .int x1), (2, .ref 464)] [.int x1, .ref 0, .int 0, .ref 464] sgL_box_0_817edd rfl ?_
  refine am_xT hF hO [.int x1] [.int 0, .ref 464] hB myX5_box vyX5_box lm_RL_97 (hp_main _ _ _) rfl rfl 4 36 ⟨by show _ ≤ 9; omega, by show 8 + (2 + 11) + _ ≤ 165; omega⟩ ⟨by omega, by omega, Nat.le_refl 4, Nat.le_refl 36⟩ rfl (Nat.le_of_ble_eq_true rfl) dL_box_4 [] ⟨0, 9, 12, 13⟩ [] (hxt.trans rfl) (fun z hz => nomatch hz) (by decide) (by decide) lc_RL_13 (by decide) 3 (by decide) 1 (Or.inl ⟨3, rfl, rfl, dL_box_12⟩) ?_
  refine am_go hF sgL_box_13_4de0a 14 [] [.int 1] sgL_box_13_4de0ad rfl ?_
  exact am_iret hF hO hret rfl dL_box_14 ⟨rfl, rfl⟩
theorem mwyL_mailAt : am_MW yL_mailAt cL_mailAt 5 (some .int) [(0, 10, 13, 13)] 4 := ⟨am_wd 763 (by decide +kernel) (by decide +kernel), am_wd 45 (by decide +kernel) (by decide +kernel), by decide +kernel⟩
theorem swyL_mailAt : Cond.static yL_mailAt ∈ am_G := am_wd 762 (by decide +kernel) (by decide +kernel)
theorem dL_mailAt_5 : decode cL_mailAt 5 = .ok (.invokevirtual 100, 3) := by decide +kernel
def sgL_mailAt_0_d5391 : List Instr := [.aload_n 3, .iconst 0, .aload_n 0, .iload_n 1, .iload_n 2]
theorem sgL_mailAt_0_d5391d : am_dec cL_mailAt 0 sgL_mailAt_0_d5391 = true := by decide +kernel
def sgL_mailAt_8_bb023 : List Instr := [.i2l]
theorem sgL_mailAt_8_bb023d : am_dec cL_mailAt 8 sgL_mailAt_8_bb023 = true := by decide +kernel
theorem dL_mailAt_9 : decode cL_mailAt 9 = .ok (.lastore, 1) := by decide +kernel
def sgL_mailAt_10_cc677 : List Instr := [.goto 7, .iconst 0]
theorem sgL_mailAt_10_cc677d : am_dec cL_mailAt 10 sgL_mailAt_10_cc677 = true := by decide +kernel
theorem dL_mailAt_18 : decode cL_mailAt 18 = .ok (.ireturn, 1) := by decide +kernel
theorem w_mailAt_n {G : am_S} {T S T' : am_T} {o : Nat → Int64} {x1 x2 : Int32} {r : Int32} {rm : Room} (hrm : rm.frames ≤ 8 ∧ rm.cells ≤ 4 ∧ rm.slots ≤ 36 ∧ rm.locals ≤ 136) (hB : am_D G yX5_mailAt (.code yX5_mailAt cX5_mailAt 3 (some .int) :: am_G) rm (hp T S o) [.ref 0, .int x1, .int x2] (hp T' S o) (some (.int r))) : am_D G yL_mailAt (.codeWith yL_mailAt cL_mailAt 5 (some .int) [(0, 10, 13, 13)] :: am_G) am_WR (hp T S o) [.ref 0, .int x1, .int x2, .ref 464] (hp T' S (am_updL o 0 r.toInt64)) (some (.int 0)) := by
  refine am_ofT (by decide +kernel) (Nat.le_of_ble_eq_true rfl) ?_
  intro C hse hret hxt hF hO
  subst hse
  refine am_go hF sgL_mailAt_0_d5391 5 [(0, .ref 0), (1, .int x1), (2, .int x2), (3, .ref 464)] [.int x2, .int x1, .ref 0, .int 0, .ref 464] sgL_mailAt_0_d5391d rfl ?_
  refine am_dV hF hO [.int x1, .int x2] [.int 0, .ref 464] hB myX5_mailAt vyX5_mailAt lm_RL_100 (hp_main _ _ _) rfl rfl 4 36 ⟨by show _ ≤ 9; omega, by show 8 + (3 + 11) + _ ≤ 165; omega⟩ ⟨by omega, by omega, Nat.le_refl 4, Nat.le_refl 36⟩ rfl (am_lv_ref (hp_main _ _ _) (am_lv_int (am_lv_int (am_lv_ref (hp_o9 _ _ _) (am_lv_int (am_lv_ref (hp_o9 _ _ _) am_lv_nil)))))) (Nat.le_of_ble_eq_true rfl) dL_mailAt_5 [.int r, .int 0, .ref 464] rfl ?_
  refine am_go hF sgL_mailAt_8_bb023 9 [(0, .ref 0), (1, .int x1), (2, .int x2), (3, .ref 464)] [.long r.toInt64, .int 0, .ref 464] sgL_mailAt_8_bb023d rfl ?_
  refine am_last hF (hp_o9 T' S o) 0 rfl (by decide) (by decide) dL_mailAt_9 ?_
  refine am_eqX (hp T' S (am_updL o 0 r.toInt64)) (hp_ou _ _ _ _) ?_
  refine am_go hF sgL_mailAt_10_cc677 18 [(0, .ref 0), (1, .int x1), (2, .int x2), (3, .ref 464)] [.int 0] sgL_mailAt_10_cc677d rfl ?_
  exact am_iret hF hO hret rfl dL_mailAt_18 ⟨rfl, rfl⟩
theorem dL_mailAt_13 : decode cL_mailAt 13 = .ok (.astore 4, 2) := by decide +kernel
def sgL_mailAt_15_4de0a : List Instr := [.iconst 1]
theorem sgL_mailAt_15_4de0ad : am_dec cL_mailAt 15 sgL_mailAt_15_4de0a = true := by decide +kernel
theorem dL_mailAt_16 : decode cL_mailAt 16 = .ok (.ireturn, 1) := by decide +kernel
theorem w_mailAt_1 {G : am_S} {T S : am_T} {o : Nat → Int64} {x1 x2 : Int32} {rm : Room} (hrm : rm.frames ≤ 8 ∧ rm.cells ≤ 4 ∧ rm.slots ≤ 36 ∧ rm.locals ≤ 136) (hB : am_XD G yX5_mailAt (.code yX5_mailAt cX5_mailAt 3 (some .int) :: am_G) rm (hp T S o) [.ref 0, .int x1, .int x2] am_E1) : am_D G yL_mailAt (.codeWith yL_mailAt cL_mailAt 5 (some .int) [(0, 10, 13, 13)] :: am_G) am_WR (hp T S o) [.ref 0, .int x1, .int x2, .ref 464] (hp T S o) (some (.int 1)) := by
  refine am_ofT (by decide +kernel) (Nat.le_of_ble_eq_true rfl) ?_
  intro C hse hret hxt hF hO
  subst hse
  refine am_go hF sgL_mailAt_0_d5391 5 [(0, .ref 0), (1, .int x1), (2, .int x2), (3, .ref 464)] [.int x2, .int x1, .ref 0, .int 0, .ref 464] sgL_mailAt_0_d5391d rfl ?_
  refine am_xT hF hO [.int x1, .int x2] [.int 0, .ref 464] hB myX5_mailAt vyX5_mailAt lm_RL_100 (hp_main _ _ _) rfl rfl 4 36 ⟨by show _ ≤ 9; omega, by show 8 + (3 + 11) + _ ≤ 165; omega⟩ ⟨by omega, by omega, Nat.le_refl 4, Nat.le_refl 36⟩ rfl (Nat.le_of_ble_eq_true rfl) dL_mailAt_5 [] ⟨0, 10, 13, 13⟩ [] (hxt.trans rfl) (fun z hz => nomatch hz) (by decide) (by decide) lc_RL_13 (by decide) 4 (by decide) 2 (Or.inr ⟨rfl, dL_mailAt_13⟩) ?_
  refine am_go hF sgL_mailAt_15_4de0a 16 [] [.int 1] sgL_mailAt_15_4de0ad rfl ?_
  exact am_iret hF hO hret rfl dL_mailAt_16 ⟨rfl, rfl⟩
theorem mwyL_read : am_MW yL_read cL_read 4 (some .int) [(0, 9, 12, 13)] 3 := ⟨am_wd 771 (by decide +kernel) (by decide +kernel), am_wd 45 (by decide +kernel) (by decide +kernel), by decide +kernel⟩
theorem swyL_read : Cond.static yL_read ∈ am_G := am_wd 770 (by decide +kernel) (by decide +kernel)
theorem dL_read_4 : decode cL_read 4 = .ok (.invokevirtual 103, 3) := by decide +kernel
def sgL_read_0_817ed : List Instr := [.aload_n 2, .iconst 0, .aload_n 0, .iload_n 1]
theorem sgL_read_0_817edd : am_dec cL_read 0 sgL_read_0_817ed = true := by decide +kernel
def sgL_read_7_bb023 : List Instr := [.i2l]
theorem sgL_read_7_bb023d : am_dec cL_read 7 sgL_read_7_bb023 = true := by decide +kernel
theorem dL_read_8 : decode cL_read 8 = .ok (.lastore, 1) := by decide +kernel
def sgL_read_9_51cdd : List Instr := [.goto 6, .iconst 0]
theorem sgL_read_9_51cddd : am_dec cL_read 9 sgL_read_9_51cdd = true := by decide +kernel
theorem dL_read_16 : decode cL_read 16 = .ok (.ireturn, 1) := by decide +kernel
theorem w_read_n {G : am_S} {T S T' : am_T} {o : Nat → Int64} {x1 : Int32} {r : Int32} {rm : Room} (hrm : rm.frames ≤ 8 ∧ rm.cells ≤ 4 ∧ rm.slots ≤ 36 ∧ rm.locals ≤ 136) (hB : am_D G yX5_read (.code yX5_read cX5_read 2 (some .int) :: am_G) rm (hp T S o) [.ref 0, .int x1] (hp T' S o) (some (.int r))) : am_D G yL_read (.codeWith yL_read cL_read 4 (some .int) [(0, 9, 12, 13)] :: am_G) am_WR (hp T S o) [.ref 0, .int x1, .ref 464] (hp T' S (am_updL o 0 r.toInt64)) (some (.int 0)) := by
  refine am_ofT (by decide +kernel) (Nat.le_of_ble_eq_true rfl) ?_
  intro C hse hret hxt hF hO
  subst hse
  refine am_go hF sgL_read_0_817ed 4 [(0, .ref 0), (1, .int x1), (2, .ref 464)] [.int x1, .ref 0, .int 0, .ref 464] sgL_read_0_817edd rfl ?_
  refine am_dV hF hO [.int x1] [.int 0, .ref 464] hB myX5_read vyX5_read lm_RL_103 (hp_main _ _ _) rfl rfl 4 36 ⟨by show _ ≤ 9; omega, by show 8 + (2 + 11) + _ ≤ 165; omega⟩ ⟨by omega, by omega, Nat.le_refl 4, Nat.le_refl 36⟩ rfl (am_lv_ref (hp_main _ _ _) (am_lv_int (am_lv_ref (hp_o9 _ _ _) (am_lv_int (am_lv_ref (hp_o9 _ _ _) am_lv_nil))))) (Nat.le_of_ble_eq_true rfl) dL_read_4 [.int r, .int 0, .ref 464] rfl ?_
  refine am_go hF sgL_read_7_bb023 8 [(0, .ref 0), (1, .int x1), (2, .ref 464)] [.long r.toInt64, .int 0, .ref 464] sgL_read_7_bb023d rfl ?_
  refine am_last hF (hp_o9 T' S o) 0 rfl (by decide) (by decide) dL_read_8 ?_
  refine am_eqX (hp T' S (am_updL o 0 r.toInt64)) (hp_ou _ _ _ _) ?_
  refine am_go hF sgL_read_9_51cdd 16 [(0, .ref 0), (1, .int x1), (2, .ref 464)] [.int 0] sgL_read_9_51cddd rfl ?_
  exact am_iret hF hO hret rfl dL_read_16 ⟨rfl, rfl⟩
theorem dL_read_12 : decode cL_read 12 = .ok (.astore_n 3, 1) := by decide +kernel
def sgL_read_13_4de0a : List Instr := [.iconst 1]
theorem sgL_read_13_4de0ad : am_dec cL_read 13 sgL_read_13_4de0a = true := by decide +kernel
theorem dL_read_14 : decode cL_read 14 = .ok (.ireturn, 1) := by decide +kernel
theorem w_read_1 {G : am_S} {T S : am_T} {o : Nat → Int64} {x1 : Int32} {rm : Room} (hrm : rm.frames ≤ 8 ∧ rm.cells ≤ 4 ∧ rm.slots ≤ 36 ∧ rm.locals ≤ 136) (hB : am_XD G yX5_read (.code yX5_read cX5_read 2 (some .int) :: am_G) rm (hp T S o) [.ref 0, .int x1] am_E1) : am_D G yL_read (.codeWith yL_read cL_read 4 (some .int) [(0, 9, 12, 13)] :: am_G) am_WR (hp T S o) [.ref 0, .int x1, .ref 464] (hp T S o) (some (.int 1)) := by
  refine am_ofT (by decide +kernel) (Nat.le_of_ble_eq_true rfl) ?_
  intro C hse hret hxt hF hO
  subst hse
  refine am_go hF sgL_read_0_817ed 4 [(0, .ref 0), (1, .int x1), (2, .ref 464)] [.int x1, .ref 0, .int 0, .ref 464] sgL_read_0_817edd rfl ?_
  refine am_xT hF hO [.int x1] [.int 0, .ref 464] hB myX5_read vyX5_read lm_RL_103 (hp_main _ _ _) rfl rfl 4 36 ⟨by show _ ≤ 9; omega, by show 8 + (2 + 11) + _ ≤ 165; omega⟩ ⟨by omega, by omega, Nat.le_refl 4, Nat.le_refl 36⟩ rfl (Nat.le_of_ble_eq_true rfl) dL_read_4 [] ⟨0, 9, 12, 13⟩ [] (hxt.trans rfl) (fun z hz => nomatch hz) (by decide) (by decide) lc_RL_13 (by decide) 3 (by decide) 1 (Or.inl ⟨3, rfl, rfl, dL_read_12⟩) ?_
  refine am_go hF sgL_read_13_4de0a 14 [] [.int 1] sgL_read_13_4de0ad rfl ?_
  exact am_iret hF hO hret rfl dL_read_14 ⟨rfl, rfl⟩
theorem mwyL_size : am_MW yL_size cL_size 5 (some .int) [(0, 10, 13, 13), (0, 10, 17, 21)] 4 := ⟨am_wd 785 (by decide +kernel) (by decide +kernel), am_wd 45 (by decide +kernel) (by decide +kernel), by decide +kernel⟩
theorem swyL_size : Cond.static yL_size ∈ am_G := am_wd 784 (by decide +kernel) (by decide +kernel)
theorem dL_size_5 : decode cL_size 5 = .ok (.invokevirtual 106, 3) := by decide +kernel
def sgL_size_0_d5391 : List Instr := [.aload_n 3, .iconst 0, .aload_n 0, .iload_n 1, .iload_n 2]
theorem sgL_size_0_d5391d : am_dec cL_size 0 sgL_size_0_d5391 = true := by decide +kernel
def sgL_size_8_bb023 : List Instr := [.i2l]
theorem sgL_size_8_bb023d : am_dec cL_size 8 sgL_size_8_bb023 = true := by decide +kernel
theorem dL_size_9 : decode cL_size 9 = .ok (.lastore, 1) := by decide +kernel
def sgL_size_10_2ee0e : List Instr := [.goto 11, .iconst 0]
theorem sgL_size_10_2ee0ed : am_dec cL_size 10 sgL_size_10_2ee0e = true := by decide +kernel
theorem dL_size_22 : decode cL_size 22 = .ok (.ireturn, 1) := by decide +kernel
theorem w_size_n {G : am_S} {T S T' : am_T} {o : Nat → Int64} {x1 x2 : Int32} {r : Int32} {rm : Room} (hrm : rm.frames ≤ 8 ∧ rm.cells ≤ 4 ∧ rm.slots ≤ 36 ∧ rm.locals ≤ 136) (hB : am_D G yX5_size (.code yX5_size cX5_size 5 (some .int) :: am_G) rm (hp T S o) [.ref 0, .int x1, .int x2] (hp T' S o) (some (.int r))) : am_D G yL_size (.codeWith yL_size cL_size 5 (some .int) [(0, 10, 13, 13), (0, 10, 17, 21)] :: am_G) am_WR (hp T S o) [.ref 0, .int x1, .int x2, .ref 464] (hp T' S (am_updL o 0 r.toInt64)) (some (.int 0)) := by
  refine am_ofT (by decide +kernel) (Nat.le_of_ble_eq_true rfl) ?_
  intro C hse hret hxt hF hO
  subst hse
  refine am_go hF sgL_size_0_d5391 5 [(0, .ref 0), (1, .int x1), (2, .int x2), (3, .ref 464)] [.int x2, .int x1, .ref 0, .int 0, .ref 464] sgL_size_0_d5391d rfl ?_
  refine am_dV hF hO [.int x1, .int x2] [.int 0, .ref 464] hB myX5_size vyX5_size lm_RL_106 (hp_main _ _ _) rfl rfl 4 36 ⟨by show _ ≤ 9; omega, by show 8 + (5 + 11) + _ ≤ 165; omega⟩ ⟨by omega, by omega, Nat.le_refl 4, Nat.le_refl 36⟩ rfl (am_lv_ref (hp_main _ _ _) (am_lv_int (am_lv_int (am_lv_ref (hp_o9 _ _ _) (am_lv_int (am_lv_ref (hp_o9 _ _ _) am_lv_nil)))))) (Nat.le_of_ble_eq_true rfl) dL_size_5 [.int r, .int 0, .ref 464] rfl ?_
  refine am_go hF sgL_size_8_bb023 9 [(0, .ref 0), (1, .int x1), (2, .int x2), (3, .ref 464)] [.long r.toInt64, .int 0, .ref 464] sgL_size_8_bb023d rfl ?_
  refine am_last hF (hp_o9 T' S o) 0 rfl (by decide) (by decide) dL_size_9 ?_
  refine am_eqX (hp T' S (am_updL o 0 r.toInt64)) (hp_ou _ _ _ _) ?_
  refine am_go hF sgL_size_10_2ee0e 22 [(0, .ref 0), (1, .int x1), (2, .int x2), (3, .ref 464)] [.int 0] sgL_size_10_2ee0ed rfl ?_
  exact am_iret hF hO hret rfl dL_size_22 ⟨rfl, rfl⟩
theorem dL_size_13 : decode cL_size 13 = .ok (.astore 4, 2) := by decide +kernel
def sgL_size_15_4de0a : List Instr := [.iconst 1]
theorem sgL_size_15_4de0ad : am_dec cL_size 15 sgL_size_15_4de0a = true := by decide +kernel
theorem dL_size_16 : decode cL_size 16 = .ok (.ireturn, 1) := by decide +kernel
theorem w_size_1 {G : am_S} {T S : am_T} {o : Nat → Int64} {x1 x2 : Int32} {rm : Room} (hrm : rm.frames ≤ 8 ∧ rm.cells ≤ 4 ∧ rm.slots ≤ 36 ∧ rm.locals ≤ 136) (hB : am_XD G yX5_size (.code yX5_size cX5_size 5 (some .int) :: am_G) rm (hp T S o) [.ref 0, .int x1, .int x2] am_E1) : am_D G yL_size (.codeWith yL_size cL_size 5 (some .int) [(0, 10, 13, 13), (0, 10, 17, 21)] :: am_G) am_WR (hp T S o) [.ref 0, .int x1, .int x2, .ref 464] (hp T S o) (some (.int 1)) := by
  refine am_ofT (by decide +kernel) (Nat.le_of_ble_eq_true rfl) ?_
  intro C hse hret hxt hF hO
  subst hse
  refine am_go hF sgL_size_0_d5391 5 [(0, .ref 0), (1, .int x1), (2, .int x2), (3, .ref 464)] [.int x2, .int x1, .ref 0, .int 0, .ref 464] sgL_size_0_d5391d rfl ?_
  refine am_xT hF hO [.int x1, .int x2] [.int 0, .ref 464] hB myX5_size vyX5_size lm_RL_106 (hp_main _ _ _) rfl rfl 4 36 ⟨by show _ ≤ 9; omega, by show 8 + (5 + 11) + _ ≤ 165; omega⟩ ⟨by omega, by omega, Nat.le_refl 4, Nat.le_refl 36⟩ rfl (Nat.le_of_ble_eq_true rfl) dL_size_5 [] ⟨0, 10, 13, 13⟩ [⟨0, 10, 17, 21⟩] (hxt.trans rfl) (fun z hz => nomatch hz) (by decide) (by decide) lc_RL_13 (by decide) 4 (by decide) 2 (Or.inr ⟨rfl, dL_size_13⟩) ?_
  refine am_go hF sgL_size_15_4de0a 16 [] [.int 1] sgL_size_15_4de0ad rfl ?_
  exact am_iret hF hO hret rfl dL_size_16 ⟨rfl, rfl⟩
theorem dL_size_17 : decode cL_size 17 = .ok (.astore 4, 2) := by decide +kernel
def sgL_size_19_d5620 : List Instr := [.iconst 2]
theorem sgL_size_19_d5620d : am_dec cL_size 19 sgL_size_19_d5620 = true := by decide +kernel
theorem dL_size_20 : decode cL_size 20 = .ok (.ireturn, 1) := by decide +kernel
theorem w_size_3 {G : am_S} {T S : am_T} {o : Nat → Int64} {x1 x2 : Int32} {rm : Room} (hrm : rm.frames ≤ 8 ∧ rm.cells ≤ 4 ∧ rm.slots ≤ 36 ∧ rm.locals ≤ 136) (hB : am_XD G yX5_size (.code yX5_size cX5_size 5 (some .int) :: am_G) rm (hp T S o) [.ref 0, .int x1, .int x2] am_E3) : am_D G yL_size (.codeWith yL_size cL_size 5 (some .int) [(0, 10, 13, 13), (0, 10, 17, 21)] :: am_G) am_WR (hp T S o) [.ref 0, .int x1, .int x2, .ref 464] (hp T S o) (some (.int 2)) := by
  refine am_ofT (by decide +kernel) (Nat.le_of_ble_eq_true rfl) ?_
  intro C hse hret hxt hF hO
  subst hse
  refine am_go hF sgL_size_0_d5391 5 [(0, .ref 0), (1, .int x1), (2, .int x2), (3, .ref 464)] [.int x2, .int x1, .ref 0, .int 0, .ref 464] sgL_size_0_d5391d rfl ?_
  refine am_xT hF hO [.int x1, .int x2] [.int 0, .ref 464] hB myX5_size vyX5_size lm_RL_106 (hp_main _ _ _) rfl rfl 4 36 ⟨by show _ ≤ 9; omega, by show 8 + (5 + 11) + _ ≤ 165; omega⟩ ⟨by omega, by omega, Nat.le_refl 4, Nat.le_refl 36⟩ rfl (Nat.le_of_ble_eq_true rfl) dL_size_5 [⟨0, 10, 13, 13⟩] ⟨0, 10, 17, 21⟩ [] (hxt.trans rfl) (fun z hz => by
    simp only [List.mem_cons, List.not_mem_nil, or_false] at hz
    rcases hz with rfl
    · exact Or.inr ⟨(by decide : (13 : Nat) ≠ 0), "java/lang/IndexOutOfBoundsException", lc_RL_13, by decide⟩) (by decide) (by decide) lc_RL_21 (by decide) 4 (by decide) 2 (Or.inr ⟨rfl, dL_size_17⟩) ?_
  refine am_go hF sgL_size_19_d5620 20 [] [.int 2] sgL_size_19_d5620d rfl ?_
  exact am_iret hF hO hret rfl dL_size_20 ⟨rfl, rfl⟩
theorem mwyL_digest : am_MW yL_digest cL_digest 6 (some .int) [(0, 12, 15, 13), (0, 12, 19, 21), (0, 12, 23, 112)] 5 := ⟨am_wd 797 (by decide +kernel) (by decide +kernel), am_wd 45 (by decide +kernel) (by decide +kernel), by decide +kernel⟩
theorem swyL_digest : Cond.static yL_digest ∈ am_G := am_wd 796 (by decide +kernel) (by decide +kernel)
theorem dL_digest_7 : decode cL_digest 7 = .ok (.invokevirtual 109, 3) := by decide +kernel
def sgL_digest_0_966ee : List Instr := [.aload 4, .iconst 0, .aload_n 0, .iload_n 1, .iload_n 2, .iload_n 3]
theorem sgL_digest_0_966eed : am_dec cL_digest 0 sgL_digest_0_966ee = true := by decide +kernel
def sgL_digest_10_bb023 : List Instr := [.i2l]
theorem sgL_digest_10_bb023d : am_dec cL_digest 10 sgL_digest_10_bb023 = true := by decide +kernel
theorem dL_digest_11 : decode cL_digest 11 = .ok (.lastore, 1) := by decide +kernel
def sgL_digest_12_4d7aa : List Instr := [.goto 15, .iconst 0]
theorem sgL_digest_12_4d7aad : am_dec cL_digest 12 sgL_digest_12_4d7aa = true := by decide +kernel
theorem dL_digest_28 : decode cL_digest 28 = .ok (.ireturn, 1) := by decide +kernel
theorem w_digest_n {G : am_S} {T S T' : am_T} {o : Nat → Int64} {x1 x2 x3 : Int32} {r : Int32} {rm : Room} (hrm : rm.frames ≤ 8 ∧ rm.cells ≤ 4 ∧ rm.slots ≤ 36 ∧ rm.locals ≤ 136) (hB : am_D G yX5_digest (.code yX5_digest cX5_digest 6 (some .int) :: am_G) rm (hp T S o) [.ref 0, .int x1, .int x2, .int x3] (hp T' S o) (some (.int r))) : am_D G yL_digest (.codeWith yL_digest cL_digest 6 (some .int) [(0, 12, 15, 13), (0, 12, 19, 21), (0, 12, 23, 112)] :: am_G) am_WR (hp T S o) [.ref 0, .int x1, .int x2, .int x3, .ref 464] (hp T' S (am_updL o 0 r.toInt64)) (some (.int 0)) := by
  refine am_ofT (by decide +kernel) (Nat.le_of_ble_eq_true rfl) ?_
  intro C hse hret hxt hF hO
  subst hse
  refine am_go hF sgL_digest_0_966ee 7 [(0, .ref 0), (1, .int x1), (2, .int x2), (3, .int x3), (4, .ref 464)] [.int x3, .int x2, .int x1, .ref 0, .int 0, .ref 464] sgL_digest_0_966eed rfl ?_
  refine am_dV hF hO [.int x1, .int x2, .int x3] [.int 0, .ref 464] hB myX5_digest vyX5_digest lm_RL_109 (hp_main _ _ _) rfl rfl 4 36 ⟨by show _ ≤ 9; omega, by show 8 + (6 + 11) + _ ≤ 165; omega⟩ ⟨by omega, by omega, Nat.le_refl 4, Nat.le_refl 36⟩ rfl (am_lv_ref (hp_main _ _ _) (am_lv_int (am_lv_int (am_lv_int (am_lv_ref (hp_o9 _ _ _) (am_lv_int (am_lv_ref (hp_o9 _ _ _) am_lv_nil))))))) (Nat.le_of_ble_eq_true rfl) dL_digest_7 [.int r, .int 0, .ref 464] rfl ?_
  refine am_go hF sgL_digest_10_bb023 11 [(0, .ref 0), (1, .int x1), (2, .int x2), (3, .int x3), (4, .ref 464)] [.long r.toInt64, .int 0, .ref 464] sgL_digest_10_bb023d rfl ?_
  refine am_last hF (hp_o9 T' S o) 0 rfl (by decide) (by decide) dL_digest_11 ?_
  refine am_eqX (hp T' S (am_updL o 0 r.toInt64)) (hp_ou _ _ _ _) ?_
  refine am_go hF sgL_digest_12_4d7aa 28 [(0, .ref 0), (1, .int x1), (2, .int x2), (3, .int x3), (4, .ref 464)] [.int 0] sgL_digest_12_4d7aad rfl ?_
  exact am_iret hF hO hret rfl dL_digest_28 ⟨rfl, rfl⟩
theorem dL_digest_15 : decode cL_digest 15 = .ok (.astore 5, 2) := by decide +kernel
def sgL_digest_17_4de0a : List Instr := [.iconst 1]
theorem sgL_digest_17_4de0ad : am_dec cL_digest 17 sgL_digest_17_4de0a = true := by decide +kernel
theorem dL_digest_18 : decode cL_digest 18 = .ok (.ireturn, 1) := by decide +kernel
theorem w_digest_1 {G : am_S} {T S : am_T} {o : Nat → Int64} {x1 x2 x3 : Int32} {rm : Room} (hrm : rm.frames ≤ 8 ∧ rm.cells ≤ 4 ∧ rm.slots ≤ 36 ∧ rm.locals ≤ 136) (hB : am_XD G yX5_digest (.code yX5_digest cX5_digest 6 (some .int) :: am_G) rm (hp T S o) [.ref 0, .int x1, .int x2, .int x3] am_E1) : am_D G yL_digest (.codeWith yL_digest cL_digest 6 (some .int) [(0, 12, 15, 13), (0, 12, 19, 21), (0, 12, 23, 112)] :: am_G) am_WR (hp T S o) [.ref 0, .int x1, .int x2, .int x3, .ref 464] (hp T S o) (some (.int 1)) := by
  refine am_ofT (by decide +kernel) (Nat.le_of_ble_eq_true rfl) ?_
  intro C hse hret hxt hF hO
  subst hse
  refine am_go hF sgL_digest_0_966ee 7 [(0, .ref 0), (1, .int x1), (2, .int x2), (3, .int x3), (4, .ref 464)] [.int x3, .int x2, .int x1, .ref 0, .int 0, .ref 464] sgL_digest_0_966eed rfl ?_
  refine am_xT hF hO [.int x1, .int x2, .int x3] [.int 0, .ref 464] hB myX5_digest vyX5_digest lm_RL_109 (hp_main _ _ _) rfl rfl 4 36 ⟨by show _ ≤ 9; omega, by show 8 + (6 + 11) + _ ≤ 165; omega⟩ ⟨by omega, by omega, Nat.le_refl 4, Nat.le_refl 36⟩ rfl (Nat.le_of_ble_eq_true rfl) dL_digest_7 [] ⟨0, 12, 15, 13⟩ [⟨0, 12, 19, 21⟩, ⟨0, 12, 23, 112⟩] (hxt.trans rfl) (fun z hz => nomatch hz) (by decide) (by decide) lc_RL_13 (by decide) 5 (by decide) 2 (Or.inr ⟨rfl, dL_digest_15⟩) ?_
  refine am_go hF sgL_digest_17_4de0a 18 [] [.int 1] sgL_digest_17_4de0ad rfl ?_
  exact am_iret hF hO hret rfl dL_digest_18 ⟨rfl, rfl⟩
theorem dL_digest_19 : decode cL_digest 19 = .ok (.astore 5, 2) := by decide +kernel
def sgL_digest_21_d5620 : List Instr := [.iconst 2]
theorem sgL_digest_21_d5620d : am_dec cL_digest 21 sgL_digest_21_d5620 = true := by decide +kernel
theorem dL_digest_22 : decode cL_digest 22 = .ok (.ireturn, 1) := by decide +kernel
theorem w_digest_3 {G : am_S} {T S : am_T} {o : Nat → Int64} {x1 x2 x3 : Int32} {rm : Room} (hrm : rm.frames ≤ 8 ∧ rm.cells ≤ 4 ∧ rm.slots ≤ 36 ∧ rm.locals ≤ 136) (hB : am_XD G yX5_digest (.code yX5_digest cX5_digest 6 (some .int) :: am_G) rm (hp T S o) [.ref 0, .int x1, .int x2, .int x3] am_E3) : am_D G yL_digest (.codeWith yL_digest cL_digest 6 (some .int) [(0, 12, 15, 13), (0, 12, 19, 21), (0, 12, 23, 112)] :: am_G) am_WR (hp T S o) [.ref 0, .int x1, .int x2, .int x3, .ref 464] (hp T S o) (some (.int 2)) := by
  refine am_ofT (by decide +kernel) (Nat.le_of_ble_eq_true rfl) ?_
  intro C hse hret hxt hF hO
  subst hse
  refine am_go hF sgL_digest_0_966ee 7 [(0, .ref 0), (1, .int x1), (2, .int x2), (3, .int x3), (4, .ref 464)] [.int x3, .int x2, .int x1, .ref 0, .int 0, .ref 464] sgL_digest_0_966eed rfl ?_
  refine am_xT hF hO [.int x1, .int x2, .int x3] [.int 0, .ref 464] hB myX5_digest vyX5_digest lm_RL_109 (hp_main _ _ _) rfl rfl 4 36 ⟨by show _ ≤ 9; omega, by show 8 + (6 + 11) + _ ≤ 165; omega⟩ ⟨by omega, by omega, Nat.le_refl 4, Nat.le_refl 36⟩ rfl (Nat.le_of_ble_eq_true rfl) dL_digest_7 [⟨0, 12, 15, 13⟩] ⟨0, 12, 19, 21⟩ [⟨0, 12, 23, 112⟩] (hxt.trans rfl) (fun z hz => by
    simp only [List.mem_cons, List.not_mem_nil, or_false] at hz
    rcases hz with rfl
    · exact Or.inr ⟨(by decide : (13 : Nat) ≠ 0), "java/lang/IndexOutOfBoundsException", lc_RL_13, by decide⟩) (by decide) (by decide) lc_RL_21 (by decide) 5 (by decide) 2 (Or.inr ⟨rfl, dL_digest_19⟩) ?_
  refine am_go hF sgL_digest_21_d5620 22 [] [.int 2] sgL_digest_21_d5620d rfl ?_
  exact am_iret hF hO hret rfl dL_digest_22 ⟨rfl, rfl⟩
theorem dL_digest_23 : decode cL_digest 23 = .ok (.astore 5, 2) := by decide +kernel
def sgL_digest_25_800cc : List Instr := [.iconst 3]
theorem sgL_digest_25_800ccd : am_dec cL_digest 25 sgL_digest_25_800cc = true := by decide +kernel
theorem dL_digest_26 : decode cL_digest 26 = .ok (.ireturn, 1) := by decide +kernel
theorem w_digest_4 {G : am_S} {T S : am_T} {o : Nat → Int64} {x1 x2 x3 : Int32} {rm : Room} (hrm : rm.frames ≤ 8 ∧ rm.cells ≤ 4 ∧ rm.slots ≤ 36 ∧ rm.locals ≤ 136) (hB : am_XD G yX5_digest (.code yX5_digest cX5_digest 6 (some .int) :: am_G) rm (hp T S o) [.ref 0, .int x1, .int x2, .int x3] am_E4) : am_D G yL_digest (.codeWith yL_digest cL_digest 6 (some .int) [(0, 12, 15, 13), (0, 12, 19, 21), (0, 12, 23, 112)] :: am_G) am_WR (hp T S o) [.ref 0, .int x1, .int x2, .int x3, .ref 464] (hp T S o) (some (.int 3)) := by
  refine am_ofT (by decide +kernel) (Nat.le_of_ble_eq_true rfl) ?_
  intro C hse hret hxt hF hO
  subst hse
  refine am_go hF sgL_digest_0_966ee 7 [(0, .ref 0), (1, .int x1), (2, .int x2), (3, .int x3), (4, .ref 464)] [.int x3, .int x2, .int x1, .ref 0, .int 0, .ref 464] sgL_digest_0_966eed rfl ?_
  refine am_xT hF hO [.int x1, .int x2, .int x3] [.int 0, .ref 464] hB myX5_digest vyX5_digest lm_RL_109 (hp_main _ _ _) rfl rfl 4 36 ⟨by show _ ≤ 9; omega, by show 8 + (6 + 11) + _ ≤ 165; omega⟩ ⟨by omega, by omega, Nat.le_refl 4, Nat.le_refl 36⟩ rfl (Nat.le_of_ble_eq_true rfl) dL_digest_7 [⟨0, 12, 15, 13⟩, ⟨0, 12, 19, 21⟩] ⟨0, 12, 23, 112⟩ [] (hxt.trans rfl) (fun z hz => by
    simp only [List.mem_cons, List.not_mem_nil, or_false] at hz
    rcases hz with rfl | rfl
    · exact Or.inr ⟨(by decide : (13 : Nat) ≠ 0), "java/lang/IndexOutOfBoundsException", lc_RL_13, by decide⟩
    · exact Or.inr ⟨(by decide : (21 : Nat) ≠ 0), "java/lang/IllegalArgumentException", lc_RL_21, by decide⟩) (by decide) (by decide) lc_RL_112 (by decide) 5 (by decide) 2 (Or.inr ⟨rfl, dL_digest_23⟩) ?_
  refine am_go hF sgL_digest_25_800cc 26 [] [.int 3] sgL_digest_25_800ccd rfl ?_
  exact am_iret hF hO hret rfl dL_digest_26 ⟨rfl, rfl⟩
theorem mwyL_edition : am_MW yL_edition cL_edition 5 (some .int) [(0, 10, 13, 13), (0, 10, 17, 21)] 4 := ⟨am_wd 821 (by decide +kernel) (by decide +kernel), am_wd 45 (by decide +kernel) (by decide +kernel), by decide +kernel⟩
theorem swyL_edition : Cond.static yL_edition ∈ am_G := am_wd 820 (by decide +kernel) (by decide +kernel)
theorem dL_edition_5 : decode cL_edition 5 = .ok (.invokevirtual 114, 3) := by decide +kernel
def sgL_edition_0_d5391 : List Instr := [.aload_n 3, .iconst 0, .aload_n 0, .iload_n 1, .iload_n 2]
theorem sgL_edition_0_d5391d : am_dec cL_edition 0 sgL_edition_0_d5391 = true := by decide +kernel
def sgL_edition_8_bb023 : List Instr := [.i2l]
theorem sgL_edition_8_bb023d : am_dec cL_edition 8 sgL_edition_8_bb023 = true := by decide +kernel
theorem dL_edition_9 : decode cL_edition 9 = .ok (.lastore, 1) := by decide +kernel
def sgL_edition_10_2ee0e : List Instr := [.goto 11, .iconst 0]
theorem sgL_edition_10_2ee0ed : am_dec cL_edition 10 sgL_edition_10_2ee0e = true := by decide +kernel
theorem dL_edition_22 : decode cL_edition 22 = .ok (.ireturn, 1) := by decide +kernel
theorem w_edition_n {G : am_S} {T S T' : am_T} {o : Nat → Int64} {x1 x2 : Int32} {r : Int32} {rm : Room} (hrm : rm.frames ≤ 8 ∧ rm.cells ≤ 4 ∧ rm.slots ≤ 36 ∧ rm.locals ≤ 136) (hB : am_D G yX5_edition (.code yX5_edition cX5_edition 4 (some .int) :: am_G) rm (hp T S o) [.ref 0, .int x1, .int x2] (hp T' S o) (some (.int r))) : am_D G yL_edition (.codeWith yL_edition cL_edition 5 (some .int) [(0, 10, 13, 13), (0, 10, 17, 21)] :: am_G) am_WR (hp T S o) [.ref 0, .int x1, .int x2, .ref 464] (hp T' S (am_updL o 0 r.toInt64)) (some (.int 0)) := by
  refine am_ofT (by decide +kernel) (Nat.le_of_ble_eq_true rfl) ?_
  intro C hse hret hxt hF hO
  subst hse
  refine am_go hF sgL_edition_0_d5391 5 [(0, .ref 0), (1, .int x1), (2, .int x2), (3, .ref 464)] [.int x2, .int x1, .ref 0, .int 0, .ref 464] sgL_edition_0_d5391d rfl ?_
  refine am_dV hF hO [.int x1, .int x2] [.int 0, .ref 464] hB myX5_edition vyX5_edition lm_RL_114 (hp_main _ _ _) rfl rfl 4 36 ⟨by show _ ≤ 9; omega, by show 8 + (4 + 11) + _ ≤ 165; omega⟩ ⟨by omega, by omega, Nat.le_refl 4, Nat.le_refl 36⟩ rfl (am_lv_ref (hp_main _ _ _) (am_lv_int (am_lv_int (am_lv_ref (hp_o9 _ _ _) (am_lv_int (am_lv_ref (hp_o9 _ _ _) am_lv_nil)))))) (Nat.le_of_ble_eq_true rfl) dL_edition_5 [.int r, .int 0, .ref 464] rfl ?_
  refine am_go hF sgL_edition_8_bb023 9 [(0, .ref 0), (1, .int x1), (2, .int x2), (3, .ref 464)] [.long r.toInt64, .int 0, .ref 464] sgL_edition_8_bb023d rfl ?_
  refine am_last hF (hp_o9 T' S o) 0 rfl (by decide) (by decide) dL_edition_9 ?_
  refine am_eqX (hp T' S (am_updL o 0 r.toInt64)) (hp_ou _ _ _ _) ?_
  refine am_go hF sgL_edition_10_2ee0e 22 [(0, .ref 0), (1, .int x1), (2, .int x2), (3, .ref 464)] [.int 0] sgL_edition_10_2ee0ed rfl ?_
  exact am_iret hF hO hret rfl dL_edition_22 ⟨rfl, rfl⟩
theorem dL_edition_13 : decode cL_edition 13 = .ok (.astore 4, 2) := by decide +kernel
def sgL_edition_15_4de0a : List Instr := [.iconst 1]
theorem sgL_edition_15_4de0ad : am_dec cL_edition 15 sgL_edition_15_4de0a = true := by decide +kernel
theorem dL_edition_16 : decode cL_edition 16 = .ok (.ireturn, 1) := by decide +kernel
theorem w_edition_1 {G : am_S} {T S : am_T} {o : Nat → Int64} {x1 x2 : Int32} {rm : Room} (hrm : rm.frames ≤ 8 ∧ rm.cells ≤ 4 ∧ rm.slots ≤ 36 ∧ rm.locals ≤ 136) (hB : am_XD G yX5_edition (.code yX5_edition cX5_edition 4 (some .int) :: am_G) rm (hp T S o) [.ref 0, .int x1, .int x2] am_E1) : am_D G yL_edition (.codeWith yL_edition cL_edition 5 (some .int) [(0, 10, 13, 13), (0, 10, 17, 21)] :: am_G) am_WR (hp T S o) [.ref 0, .int x1, .int x2, .ref 464] (hp T S o) (some (.int 1)) := by
  refine am_ofT (by decide +kernel) (Nat.le_of_ble_eq_true rfl) ?_
  intro C hse hret hxt hF hO
  subst hse
  refine am_go hF sgL_edition_0_d5391 5 [(0, .ref 0), (1, .int x1), (2, .int x2), (3, .ref 464)] [.int x2, .int x1, .ref 0, .int 0, .ref 464] sgL_edition_0_d5391d rfl ?_
  refine am_xT hF hO [.int x1, .int x2] [.int 0, .ref 464] hB myX5_edition vyX5_edition lm_RL_114 (hp_main _ _ _) rfl rfl 4 36 ⟨by show _ ≤ 9; omega, by show 8 + (4 + 11) + _ ≤ 165; omega⟩ ⟨by omega, by omega, Nat.le_refl 4, Nat.le_refl 36⟩ rfl (Nat.le_of_ble_eq_true rfl) dL_edition_5 [] ⟨0, 10, 13, 13⟩ [⟨0, 10, 17, 21⟩] (hxt.trans rfl) (fun z hz => nomatch hz) (by decide) (by decide) lc_RL_13 (by decide) 4 (by decide) 2 (Or.inr ⟨rfl, dL_edition_13⟩) ?_
  refine am_go hF sgL_edition_15_4de0a 16 [] [.int 1] sgL_edition_15_4de0ad rfl ?_
  exact am_iret hF hO hret rfl dL_edition_16 ⟨rfl, rfl⟩
theorem dL_edition_17 : decode cL_edition 17 = .ok (.astore 4, 2) := by decide +kernel
def sgL_edition_19_d5620 : List Instr := [.iconst 2]
theorem sgL_edition_19_d5620d : am_dec cL_edition 19 sgL_edition_19_d5620 = true := by decide +kernel
theorem dL_edition_20 : decode cL_edition 20 = .ok (.ireturn, 1) := by decide +kernel
theorem w_edition_3 {G : am_S} {T S : am_T} {o : Nat → Int64} {x1 x2 : Int32} {rm : Room} (hrm : rm.frames ≤ 8 ∧ rm.cells ≤ 4 ∧ rm.slots ≤ 36 ∧ rm.locals ≤ 136) (hB : am_XD G yX5_edition (.code yX5_edition cX5_edition 4 (some .int) :: am_G) rm (hp T S o) [.ref 0, .int x1, .int x2] am_E3) : am_D G yL_edition (.codeWith yL_edition cL_edition 5 (some .int) [(0, 10, 13, 13), (0, 10, 17, 21)] :: am_G) am_WR (hp T S o) [.ref 0, .int x1, .int x2, .ref 464] (hp T S o) (some (.int 2)) := by
  refine am_ofT (by decide +kernel) (Nat.le_of_ble_eq_true rfl) ?_
  intro C hse hret hxt hF hO
  subst hse
  refine am_go hF sgL_edition_0_d5391 5 [(0, .ref 0), (1, .int x1), (2, .int x2), (3, .ref 464)] [.int x2, .int x1, .ref 0, .int 0, .ref 464] sgL_edition_0_d5391d rfl ?_
  refine am_xT hF hO [.int x1, .int x2] [.int 0, .ref 464] hB myX5_edition vyX5_edition lm_RL_114 (hp_main _ _ _) rfl rfl 4 36 ⟨by show _ ≤ 9; omega, by show 8 + (4 + 11) + _ ≤ 165; omega⟩ ⟨by omega, by omega, Nat.le_refl 4, Nat.le_refl 36⟩ rfl (Nat.le_of_ble_eq_true rfl) dL_edition_5 [⟨0, 10, 13, 13⟩] ⟨0, 10, 17, 21⟩ [] (hxt.trans rfl) (fun z hz => by
    simp only [List.mem_cons, List.not_mem_nil, or_false] at hz
    rcases hz with rfl
    · exact Or.inr ⟨(by decide : (13 : Nat) ≠ 0), "java/lang/IndexOutOfBoundsException", lc_RL_13, by decide⟩) (by decide) (by decide) lc_RL_21 (by decide) 4 (by decide) 2 (Or.inr ⟨rfl, dL_edition_17⟩) ?_
  refine am_go hF sgL_edition_19_d5620 20 [] [.int 2] sgL_edition_19_d5620d rfl ?_
  exact am_iret hF hO hret rfl dL_edition_20 ⟨rfl, rfl⟩
theorem mwyL_readers : am_MW yL_readers cL_readers 5 (some .int) [(0, 10, 13, 13), (0, 10, 17, 21)] 4 := ⟨am_wd 832 (by decide +kernel) (by decide +kernel), am_wd 45 (by decide +kernel) (by decide +kernel), by decide +kernel⟩
theorem swyL_readers : Cond.static yL_readers ∈ am_G := am_wd 831 (by decide +kernel) (by decide +kernel)
theorem dL_readers_5 : decode cL_readers 5 = .ok (.invokevirtual 117, 3) := by decide +kernel
def sgL_readers_0_d5391 : List Instr := [.aload_n 3, .iconst 0, .aload_n 0, .iload_n 1, .iload_n 2]
theorem sgL_readers_0_d5391d : am_dec cL_readers 0 sgL_readers_0_d5391 = true := by decide +kernel
def sgL_readers_8_bb023 : List Instr := [.i2l]
theorem sgL_readers_8_bb023d : am_dec cL_readers 8 sgL_readers_8_bb023 = true := by decide +kernel
theorem dL_readers_9 : decode cL_readers 9 = .ok (.lastore, 1) := by decide +kernel
def sgL_readers_10_2ee0e : List Instr := [.goto 11, .iconst 0]
theorem sgL_readers_10_2ee0ed : am_dec cL_readers 10 sgL_readers_10_2ee0e = true := by decide +kernel
theorem dL_readers_22 : decode cL_readers 22 = .ok (.ireturn, 1) := by decide +kernel
theorem w_readers_n {G : am_S} {T S T' : am_T} {o : Nat → Int64} {x1 x2 : Int32} {r : Int32} {rm : Room} (hrm : rm.frames ≤ 8 ∧ rm.cells ≤ 4 ∧ rm.slots ≤ 36 ∧ rm.locals ≤ 136) (hB : am_D G yX5_readers (.code yX5_readers cX5_readers 4 (some .int) :: am_G) rm (hp T S o) [.ref 0, .int x1, .int x2] (hp T' S o) (some (.int r))) : am_D G yL_readers (.codeWith yL_readers cL_readers 5 (some .int) [(0, 10, 13, 13), (0, 10, 17, 21)] :: am_G) am_WR (hp T S o) [.ref 0, .int x1, .int x2, .ref 464] (hp T' S (am_updL o 0 r.toInt64)) (some (.int 0)) := by
  refine am_ofT (by decide +kernel) (Nat.le_of_ble_eq_true rfl) ?_
  intro C hse hret hxt hF hO
  subst hse
  refine am_go hF sgL_readers_0_d5391 5 [(0, .ref 0), (1, .int x1), (2, .int x2), (3, .ref 464)] [.int x2, .int x1, .ref 0, .int 0, .ref 464] sgL_readers_0_d5391d rfl ?_
  refine am_dV hF hO [.int x1, .int x2] [.int 0, .ref 464] hB myX5_readers vyX5_readers lm_RL_117 (hp_main _ _ _) rfl rfl 4 36 ⟨by show _ ≤ 9; omega, by show 8 + (4 + 11) + _ ≤ 165; omega⟩ ⟨by omega, by omega, Nat.le_refl 4, Nat.le_refl 36⟩ rfl (am_lv_ref (hp_main _ _ _) (am_lv_int (am_lv_int (am_lv_ref (hp_o9 _ _ _) (am_lv_int (am_lv_ref (hp_o9 _ _ _) am_lv_nil)))))) (Nat.le_of_ble_eq_true rfl) dL_readers_5 [.int r, .int 0, .ref 464] rfl ?_
  refine am_go hF sgL_readers_8_bb023 9 [(0, .ref 0), (1, .int x1), (2, .int x2), (3, .ref 464)] [.long r.toInt64, .int 0, .ref 464] sgL_readers_8_bb023d rfl ?_
  refine am_last hF (hp_o9 T' S o) 0 rfl (by decide) (by decide) dL_readers_9 ?_
  refine am_eqX (hp T' S (am_updL o 0 r.toInt64)) (hp_ou _ _ _ _) ?_
  refine am_go hF sgL_readers_10_2ee0e 22 [(0, .ref 0), (1, .int x1), (2, .int x2), (3, .ref 464)] [.int 0] sgL_readers_10_2ee0ed rfl ?_
  exact am_iret hF hO hret rfl dL_readers_22 ⟨rfl, rfl⟩
theorem dL_readers_13 : decode cL_readers 13 = .ok (.astore 4, 2) := by decide +kernel
def sgL_readers_15_4de0a : List Instr := [.iconst 1]
theorem sgL_readers_15_4de0ad : am_dec cL_readers 15 sgL_readers_15_4de0a = true := by decide +kernel
theorem dL_readers_16 : decode cL_readers 16 = .ok (.ireturn, 1) := by decide +kernel
theorem w_readers_1 {G : am_S} {T S : am_T} {o : Nat → Int64} {x1 x2 : Int32} {rm : Room} (hrm : rm.frames ≤ 8 ∧ rm.cells ≤ 4 ∧ rm.slots ≤ 36 ∧ rm.locals ≤ 136) (hB : am_XD G yX5_readers (.code yX5_readers cX5_readers 4 (some .int) :: am_G) rm (hp T S o) [.ref 0, .int x1, .int x2] am_E1) : am_D G yL_readers (.codeWith yL_readers cL_readers 5 (some .int) [(0, 10, 13, 13), (0, 10, 17, 21)] :: am_G) am_WR (hp T S o) [.ref 0, .int x1, .int x2, .ref 464] (hp T S o) (some (.int 1)) := by
  refine am_ofT (by decide +kernel) (Nat.le_of_ble_eq_true rfl) ?_
  intro C hse hret hxt hF hO
  subst hse
  refine am_go hF sgL_readers_0_d5391 5 [(0, .ref 0), (1, .int x1), (2, .int x2), (3, .ref 464)] [.int x2, .int x1, .ref 0, .int 0, .ref 464] sgL_readers_0_d5391d rfl ?_
  refine am_xT hF hO [.int x1, .int x2] [.int 0, .ref 464] hB myX5_readers vyX5_readers lm_RL_117 (hp_main _ _ _) rfl rfl 4 36 ⟨by show _ ≤ 9; omega, by show 8 + (4 + 11) + _ ≤ 165; omega⟩ ⟨by omega, by omega, Nat.le_refl 4, Nat.le_refl 36⟩ rfl (Nat.le_of_ble_eq_true rfl) dL_readers_5 [] ⟨0, 10, 13, 13⟩ [⟨0, 10, 17, 21⟩] (hxt.trans rfl) (fun z hz => nomatch hz) (by decide) (by decide) lc_RL_13 (by decide) 4 (by decide) 2 (Or.inr ⟨rfl, dL_readers_13⟩) ?_
  refine am_go hF sgL_readers_15_4de0a 16 [] [.int 1] sgL_readers_15_4de0ad rfl ?_
  exact am_iret hF hO hret rfl dL_readers_16 ⟨rfl, rfl⟩
theorem dL_readers_17 : decode cL_readers 17 = .ok (.astore 4, 2) := by decide +kernel
def sgL_readers_19_d5620 : List Instr := [.iconst 2]
theorem sgL_readers_19_d5620d : am_dec cL_readers 19 sgL_readers_19_d5620 = true := by decide +kernel
theorem dL_readers_20 : decode cL_readers 20 = .ok (.ireturn, 1) := by decide +kernel
theorem w_readers_3 {G : am_S} {T S : am_T} {o : Nat → Int64} {x1 x2 : Int32} {rm : Room} (hrm : rm.frames ≤ 8 ∧ rm.cells ≤ 4 ∧ rm.slots ≤ 36 ∧ rm.locals ≤ 136) (hB : am_XD G yX5_readers (.code yX5_readers cX5_readers 4 (some .int) :: am_G) rm (hp T S o) [.ref 0, .int x1, .int x2] am_E3) : am_D G yL_readers (.codeWith yL_readers cL_readers 5 (some .int) [(0, 10, 13, 13), (0, 10, 17, 21)] :: am_G) am_WR (hp T S o) [.ref 0, .int x1, .int x2, .ref 464] (hp T S o) (some (.int 2)) := by
  refine am_ofT (by decide +kernel) (Nat.le_of_ble_eq_true rfl) ?_
  intro C hse hret hxt hF hO
  subst hse
  refine am_go hF sgL_readers_0_d5391 5 [(0, .ref 0), (1, .int x1), (2, .int x2), (3, .ref 464)] [.int x2, .int x1, .ref 0, .int 0, .ref 464] sgL_readers_0_d5391d rfl ?_
  refine am_xT hF hO [.int x1, .int x2] [.int 0, .ref 464] hB myX5_readers vyX5_readers lm_RL_117 (hp_main _ _ _) rfl rfl 4 36 ⟨by show _ ≤ 9; omega, by show 8 + (4 + 11) + _ ≤ 165; omega⟩ ⟨by omega, by omega, Nat.le_refl 4, Nat.le_refl 36⟩ rfl (Nat.le_of_ble_eq_true rfl) dL_readers_5 [⟨0, 10, 13, 13⟩] ⟨0, 10, 17, 21⟩ [] (hxt.trans rfl) (fun z hz => by
    simp only [List.mem_cons, List.not_mem_nil, or_false] at hz
    rcases hz with rfl
    · exact Or.inr ⟨(by decide : (13 : Nat) ≠ 0), "java/lang/IndexOutOfBoundsException", lc_RL_13, by decide⟩) (by decide) (by decide) lc_RL_21 (by decide) 4 (by decide) 2 (Or.inr ⟨rfl, dL_readers_17⟩) ?_
  refine am_go hF sgL_readers_19_d5620 20 [] [.int 2] sgL_readers_19_d5620d rfl ?_
  exact am_iret hF hO hret rfl dL_readers_20 ⟨rfl, rfl⟩
theorem mwyL_pass : am_MW yL_pass cL_pass 4 (some .int) [(0, 9, 12, 21), (0, 9, 15, 15)] 3 := ⟨am_wd 839 (by decide +kernel) (by decide +kernel), am_wd 45 (by decide +kernel) (by decide +kernel), by decide +kernel⟩
theorem swyL_pass : Cond.static yL_pass ∈ am_G := am_wd 838 (by decide +kernel) (by decide +kernel)
theorem dL_pass_4 : decode cL_pass 4 = .ok (.invokevirtual 120, 3) := by decide +kernel
def sgL_pass_0_817ed : List Instr := [.aload_n 2, .iconst 0, .aload_n 0, .iload_n 1]
theorem sgL_pass_0_817edd : am_dec cL_pass 0 sgL_pass_0_817ed = true := by decide +kernel
def sgL_pass_7_bb023 : List Instr := [.i2l]
theorem sgL_pass_7_bb023d : am_dec cL_pass 7 sgL_pass_7_bb023 = true := by decide +kernel
theorem dL_pass_8 : decode cL_pass 8 = .ok (.lastore, 1) := by decide +kernel
def sgL_pass_9_8e6e8 : List Instr := [.goto 9, .iconst 0]
theorem sgL_pass_9_8e6e8d : am_dec cL_pass 9 sgL_pass_9_8e6e8 = true := by decide +kernel
theorem dL_pass_19 : decode cL_pass 19 = .ok (.ireturn, 1) := by decide +kernel
theorem w_pass_n {G : am_S} {T S T' : am_T} {o : Nat → Int64} {x1 : Int32} {r : Int32} {rm : Room} (hrm : rm.frames ≤ 8 ∧ rm.cells ≤ 4 ∧ rm.slots ≤ 36 ∧ rm.locals ≤ 136) (hB : am_D G yX5_pass (.code yX5_pass cX5_pass 3 (some .int) :: am_G) rm (hp T S o) [.ref 0, .int x1] (hp T' S o) (some (.int r))) : am_D G yL_pass (.codeWith yL_pass cL_pass 4 (some .int) [(0, 9, 12, 21), (0, 9, 15, 15)] :: am_G) am_WR (hp T S o) [.ref 0, .int x1, .ref 464] (hp T' S (am_updL o 0 r.toInt64)) (some (.int 0)) := by
  refine am_ofT (by decide +kernel) (Nat.le_of_ble_eq_true rfl) ?_
  intro C hse hret hxt hF hO
  subst hse
  refine am_go hF sgL_pass_0_817ed 4 [(0, .ref 0), (1, .int x1), (2, .ref 464)] [.int x1, .ref 0, .int 0, .ref 464] sgL_pass_0_817edd rfl ?_
  refine am_dV hF hO [.int x1] [.int 0, .ref 464] hB myX5_pass vyX5_pass lm_RL_120 (hp_main _ _ _) rfl rfl 4 36 ⟨by show _ ≤ 9; omega, by show 8 + (3 + 11) + _ ≤ 165; omega⟩ ⟨by omega, by omega, Nat.le_refl 4, Nat.le_refl 36⟩ rfl (am_lv_ref (hp_main _ _ _) (am_lv_int (am_lv_ref (hp_o9 _ _ _) (am_lv_int (am_lv_ref (hp_o9 _ _ _) am_lv_nil))))) (Nat.le_of_ble_eq_true rfl) dL_pass_4 [.int r, .int 0, .ref 464] rfl ?_
  refine am_go hF sgL_pass_7_bb023 8 [(0, .ref 0), (1, .int x1), (2, .ref 464)] [.long r.toInt64, .int 0, .ref 464] sgL_pass_7_bb023d rfl ?_
  refine am_last hF (hp_o9 T' S o) 0 rfl (by decide) (by decide) dL_pass_8 ?_
  refine am_eqX (hp T' S (am_updL o 0 r.toInt64)) (hp_ou _ _ _ _) ?_
  refine am_go hF sgL_pass_9_8e6e8 19 [(0, .ref 0), (1, .int x1), (2, .ref 464)] [.int 0] sgL_pass_9_8e6e8d rfl ?_
  exact am_iret hF hO hret rfl dL_pass_19 ⟨rfl, rfl⟩
theorem dL_pass_12 : decode cL_pass 12 = .ok (.astore_n 3, 1) := by decide +kernel
def sgL_pass_13_4de0a : List Instr := [.iconst 1]
theorem sgL_pass_13_4de0ad : am_dec cL_pass 13 sgL_pass_13_4de0a = true := by decide +kernel
theorem dL_pass_14 : decode cL_pass 14 = .ok (.ireturn, 1) := by decide +kernel
theorem w_pass_3 {G : am_S} {T S : am_T} {o : Nat → Int64} {x1 : Int32} {rm : Room} (hrm : rm.frames ≤ 8 ∧ rm.cells ≤ 4 ∧ rm.slots ≤ 36 ∧ rm.locals ≤ 136) (hB : am_XD G yX5_pass (.code yX5_pass cX5_pass 3 (some .int) :: am_G) rm (hp T S o) [.ref 0, .int x1] am_E3) : am_D G yL_pass (.codeWith yL_pass cL_pass 4 (some .int) [(0, 9, 12, 21), (0, 9, 15, 15)] :: am_G) am_WR (hp T S o) [.ref 0, .int x1, .ref 464] (hp T S o) (some (.int 1)) := by
  refine am_ofT (by decide +kernel) (Nat.le_of_ble_eq_true rfl) ?_
  intro C hse hret hxt hF hO
  subst hse
  refine am_go hF sgL_pass_0_817ed 4 [(0, .ref 0), (1, .int x1), (2, .ref 464)] [.int x1, .ref 0, .int 0, .ref 464] sgL_pass_0_817edd rfl ?_
  refine am_xT hF hO [.int x1] [.int 0, .ref 464] hB myX5_pass vyX5_pass lm_RL_120 (hp_main _ _ _) rfl rfl 4 36 ⟨by show _ ≤ 9; omega, by show 8 + (3 + 11) + _ ≤ 165; omega⟩ ⟨by omega, by omega, Nat.le_refl 4, Nat.le_refl 36⟩ rfl (Nat.le_of_ble_eq_true rfl) dL_pass_4 [] ⟨0, 9, 12, 21⟩ [⟨0, 9, 15, 15⟩] (hxt.trans rfl) (fun z hz => nomatch hz) (by decide) (by decide) lc_RL_21 (by decide) 3 (by decide) 1 (Or.inl ⟨3, rfl, rfl, dL_pass_12⟩) ?_
  refine am_go hF sgL_pass_13_4de0a 14 [] [.int 1] sgL_pass_13_4de0ad rfl ?_
  exact am_iret hF hO hret rfl dL_pass_14 ⟨rfl, rfl⟩
theorem dL_pass_15 : decode cL_pass 15 = .ok (.astore_n 3, 1) := by decide +kernel
def sgL_pass_16_d5620 : List Instr := [.iconst 2]
theorem sgL_pass_16_d5620d : am_dec cL_pass 16 sgL_pass_16_d5620 = true := by decide +kernel
theorem dL_pass_17 : decode cL_pass 17 = .ok (.ireturn, 1) := by decide +kernel
theorem w_pass_2 {G : am_S} {T S : am_T} {o : Nat → Int64} {x1 : Int32} {rm : Room} (hrm : rm.frames ≤ 8 ∧ rm.cells ≤ 4 ∧ rm.slots ≤ 36 ∧ rm.locals ≤ 136) (hB : am_XD G yX5_pass (.code yX5_pass cX5_pass 3 (some .int) :: am_G) rm (hp T S o) [.ref 0, .int x1] am_E2) : am_D G yL_pass (.codeWith yL_pass cL_pass 4 (some .int) [(0, 9, 12, 21), (0, 9, 15, 15)] :: am_G) am_WR (hp T S o) [.ref 0, .int x1, .ref 464] (hp T S o) (some (.int 2)) := by
  refine am_ofT (by decide +kernel) (Nat.le_of_ble_eq_true rfl) ?_
  intro C hse hret hxt hF hO
  subst hse
  refine am_go hF sgL_pass_0_817ed 4 [(0, .ref 0), (1, .int x1), (2, .ref 464)] [.int x1, .ref 0, .int 0, .ref 464] sgL_pass_0_817edd rfl ?_
  refine am_xT hF hO [.int x1] [.int 0, .ref 464] hB myX5_pass vyX5_pass lm_RL_120 (hp_main _ _ _) rfl rfl 4 36 ⟨by show _ ≤ 9; omega, by show 8 + (3 + 11) + _ ≤ 165; omega⟩ ⟨by omega, by omega, Nat.le_refl 4, Nat.le_refl 36⟩ rfl (Nat.le_of_ble_eq_true rfl) dL_pass_4 [⟨0, 9, 12, 21⟩] ⟨0, 9, 15, 15⟩ [] (hxt.trans rfl) (fun z hz => by
    simp only [List.mem_cons, List.not_mem_nil, or_false] at hz
    rcases hz with rfl
    · exact Or.inr ⟨(by decide : (21 : Nat) ≠ 0), "java/lang/IllegalArgumentException", lc_RL_21, by decide⟩) (by decide) (by decide) lc_RL_15 (by decide) 3 (by decide) 1 (Or.inl ⟨3, rfl, rfl, dL_pass_15⟩) ?_
  refine am_go hF sgL_pass_16_d5620 17 [] [.int 2] sgL_pass_16_d5620d rfl ?_
  exact am_iret hF hO hret rfl dL_pass_17 ⟨rfl, rfl⟩
