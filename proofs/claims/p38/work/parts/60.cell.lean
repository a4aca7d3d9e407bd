/-! the law's cell: the one that reads the script -/
abbrev am_PcS (N0 : Nat) (D : va_G) (ty : Nat → ClassId) (X : am_H) (av : List Value) (b N : Nat) (xs : Nat → Int32) (ad : Nat → Nat) : Array Value → State → Prop := fun a U => am_Pc N0 D ty X av ad a U ∧ va_X b N xs U U.heap ∧ b < U.heap.size ∧ ¬ N0 ≤ b
def am_BS (G : am_S) (y : MethodName) (ws : List Cond) (rm : Room) (X : am_H) (av : List Value) (b N : Nat) (xs : Nat → Int32) (P : am_H → Option Value → Prop) : Prop :=
  ∀ ad : Nat → Nat, Met G.1 y ws rm (am_PcS G.2.1 G.2.2.1 G.2.2.2 X av b N xs ad) (am_Qc G.2.1 G.2.2.1 G.2.2.2 X P ad) rm.cells rm.slots (fun q => G.2.1 ≤ q)
theorem am_blindS {N0 : Nat} {D : va_G} {ty : Nat → ClassId} {X : am_H} {av : List Value} {b N : Nat} {xs : Nat → Int32} {ad : Nat → Nat} : FrameBlind (am_PcS N0 D ty X av b N xs ad) := by
  intro a U g mk q
  obtain ⟨q0, q1, q2, q3⟩ := q
  exact ⟨am_blind a U g mk q0, va_X.moved (Vm.Alike.refl U.vm) q1, q2, q3⟩
theorem am_ofS {G : am_S} {y : MethodName} {cc : ByteArray} {nL : Nat} {ret : Option FieldType} {ws' : List Cond} {rm : Room} {X : am_H} {av : List Value} {b N : Nat} {xs : Nat → Int32} {P : am_H → Option Value → Prop} (hy : plainName y.cls = true) (hlen : (lg_sl av).length ≤ nL)
    (body : ∀ C : am_Cx, C.se = G → C.me.sig.returnType = ret → am_F C cc nL y.cls (.code y cc nL ret :: ws') → am_O C X P rm → va_X b N xs C.st C.st.heap → b < C.st.heap.size → ¬ C.n0 ≤ b → am_W C X 0 0 0 (lv_args 0 av) []) : am_BS G y (.code y cc nL ret :: ws') rm X av b N xs P := by
  intro ad
  refine Met.ofW (cc := cc) (maxL := nL) (ret := ret) hy rfl ?_
  intro p e s m args below meth c s₁ B hml hv
  obtain ⟨⟨rfl, hsz, hR, hK⟩, hx1, hx2, hx3⟩ := hv
  obtain ⟨l, N0, D, ty⟩ := G
  have hlsz : (lg_sl (av.map (am_v ad))).length ≤ nL := by rw [am_sl_len]; exact hlen
  have hl := lv_entry (av.map (am_v ad)) (n := nL) hlsz
  rw [lg_entry_eq]
  rw [am_hargs] at hl
  have hb0 := body ((p, l, e, rm, s), (m, (av.map (am_v ad)).toArray, below, meth, c), (MQ below (am_Qc N0 D ty X P ad) (av.map (am_v ad)).toArray s rm.cells rm.slots (fun q => N0 ≤ q), N0, D, ty), (X, ad)) rfl B.returns
    ⟨⟨B.exec, B.bytes, hml, findClass_of_methodNamed B.named, atoms_spec B.pre⟩, hK.1, hsz, B.notSynchronized⟩ ⟨hK, rfl, fun _ h => h, rfl⟩ hx1 hx2 hx3
  exact hb0 ad s.heap [] _ (fun i hi => ⟨hi, rfl⟩) hR va_S.rf (by show lv_has _ c.maxLocals _; rw [hml]; exact hl)
section
variable {C : am_Cx} {X : am_H} {k n pc : Nat} {L : List (Nat × Value)} {st : List Value} {cc : ByteArray} {nL : Nat} {own : String} {Ts : List Cond} {b N : Nat} {xs : Nat → Int32}
theorem am_sld (hF : am_F C cc nL own Ts) (hXs : va_X b N xs C.st C.st.heap) (hbl : b < C.st.heap.size) (hbA : ¬ C.n0 ≤ b) {i : Int32} (j : Nat) (hi : i = nI j) (hj : j < N) (hN : N < 2 ^ 31) (hd : decode cc pc = .ok (.iaload, 1)) (kk : am_W C X k n (pc + 1) L (.int (xs j) :: st)) : am_W C X k n pc L (.int i :: .retAddr b :: st) := by
  intro ad H locs ls h1 h2 h3 h4
  refine va_sld hF.1.1 hF.1.2.1 hXs hbl hbA h3 (am_in hi hj hN).1 hd ?_
  rw [(am_in hi hj hN).2]
  exact kk ad H locs ls h1 h2 h3 h4
theorem am_slen (hF : am_F C cc nL own Ts) (hXs : va_X b N xs C.st C.st.heap) (hbl : b < C.st.heap.size) (hbA : ¬ C.n0 ≤ b) (hd : decode cc pc = .ok (.arraylength, 1)) (kk : am_W C X k n (pc + 1) L (.int (nI N) :: st)) : am_W C X k n pc L (.retAddr b :: st) := by
  intro ad H locs ls h1 h2 h3 h4
  exact va_slen hF.1.1 hF.1.2.1 hXs hbl hbA h3 hd (kk ad H locs ls h1 h2 h3 h4)
set_option maxHeartbeats 1000000 in
theorem am_dCell {X0 : am_H} {P0 : am_H → Option Value → Prop} {R : Room} {w0 : Cond} (hF : am_F C cc nL own (w0 :: am_G)) (hO : am_O C X0 P0 R) (hXs : va_X b N xs C.st C.st.heap) (hbl : b < C.st.heap.size) (hbA : ¬ C.n0 ≤ b) {y : MethodName} {ccY : ByteArray} {nY : Nat} {ret : Option FieldType} {rm : Room} {X1 : am_H} {r : Option Value} (As rest : List Value) {index nn : Nat}
    (hB : am_BS C.se y (.code y ccY nY ret :: am_G) rm X As b N xs (fun X' r' => X' = X1 ∧ r' = r)) (hM : am_M y ccY nY ret nn) (hV : Cond.static y ∈ am_G) (hlink : Cond.methodLink own index y ∈ am_G)
    (hnn : As.length = nn) (k2 n2 : Nat) (hro : rm.frames + 1 ≤ R.frames ∧ 8 + (nY + 11) + rm.locals ≤ R.locals) (hroom : k + rm.cells ≤ k2 ∧ n + rm.slots ≤ n2 ∧ k2 ≤ R.cells ∧ n2 ≤ R.slots) (hst : st = As.reverse ++ rest) (hlv : am_lv X (L.map (·.2) ++ rest)) (hcat : (rest.map fun v => v.category).sum ≤ 8) (hd : decode cc pc = .ok (.invokestatic index, 3))
    (st' : List Value) (hs' : r.toList ++ rest = st') (kk : am_W C X1 k2 n2 (pc + 3) L st') : am_W C X k n pc L st := by
  intro ad H locs ls h1 h2 h3 h4
  obtain ⟨hr1, hr2, hr3, hr4⟩ := hroom
  rw [← hO.2.2.2] at hro hr3 hr4
  obtain ⟨⟨hx1, hb, hml, hown, hts⟩, hK, hN, hlk⟩ := hF
  have hgood : GoodIn (w0 :: am_G) (va_wsS own index y (.code y ccY nY ret :: am_G)) := am_gd (fun w hw => by
    rcases List.mem_append.mp hw with h | h
    · simp only [List.mem_cons, List.not_mem_nil, or_false] at h
      rcases h with rfl | rfl | rfl
      · exact hlink
      · exact hV
      · exact hM.2.1
    · rcases List.mem_cons.mp h with rfl | h
      · exact hM.1
      · exact h)
  refine am_behind (a := (As.map (am_v ad)).toArray) (va_runS (As := As.map (am_v ad)) (rest := rest.map (am_v ad)) ⟨hx1, hb, hml, hown, hts⟩ (hB ad) (va_cwS nn hts hgood rfl rfl rfl hM.2.2 hro) ⟨am_blindS, fun U hU hW => ⟨am_pre hO.1 hN h2 h3 U hU hW, ?_, ?_, hbA⟩⟩ rfl (by rw [List.length_map]; exact hnn) (by rw [← hml]; exact h4.1) (by rw [hst]; exact am_hn) (lv_room (by rw [am_cat]; exact hcat)) hd ⟨Nat.le_trans hr1 hr3, Nat.le_trans hr2 hr4⟩) (Nat.le_trans hN h3.1) (fun v hv => hlv v (List.mem_append_right _ hv)) (am_lv_L (fun v hv => hlv v (List.mem_append_left _ hv))) h1 h3 h4 (fun X' r' g1 g2 => ?_)
  · rw [hU]
    exact (va_X.moved hW.alike hXs).kept (h3.2.1 b hbl hbA)
  · rw [hU]
    exact Nat.lt_of_lt_of_le hbl h3.1
  · obtain ⟨rfl, rfl⟩ := g2
    rw [hs']
    exact am_widen hr1 hr2 kk
end
def lCell (N : Nat) (xs : Nat → Int32) (j : Nat) : Int32 := if j < N then xs j else 1000308259 * (nI j + 1) + 751363433
theorem dL_cell_1 : decode cL_cell 1 = .ok (.aload_n 0, 1) := by decide +kernel
theorem dL_cell_12 : decode cL_cell 12 = .ok (.ldc 7, 2) := by decide +kernel
theorem dL_cell_18 : decode cL_cell 18 = .ok (.ldc 8, 2) := by decide +kernel
theorem dL_cell_2 : decode cL_cell 2 = .ok (.arraylength, 1) := by decide +kernel
theorem dL_cell_21 : decode cL_cell 21 = .ok (.ireturn, 1) := by decide +kernel
theorem dL_cell_3 : decode cL_cell 3 = .ok (.if_icmp .ge 9, 3) := by decide +kernel
theorem dL_cell_6 : decode cL_cell 6 = .ok (.aload_n 0, 1) := by decide +kernel
theorem dL_cell_8 : decode cL_cell 8 = .ok (.iaload, 1) := by decide +kernel
def sgL_cell_0_840bf : List Instr := [.iload_n 1]
theorem sgL_cell_0_840bfd : am_dec cL_cell 0 sgL_cell_0_840bf = true := by decide +kernel
def sgL_cell_14_f3a21 : List Instr := [.iload_n 1, .iconst 1, .iadd, .imul]
theorem sgL_cell_14_f3a21d : am_dec cL_cell 14 sgL_cell_14_f3a21 = true := by decide +kernel
def sgL_cell_20_830a0 : List Instr := [.iadd]
theorem sgL_cell_20_830a0d : am_dec cL_cell 20 sgL_cell_20_830a0 = true := by decide +kernel
def sgL_cell_7_840bf : List Instr := [.iload_n 1]
theorem sgL_cell_7_840bfd : am_dec cL_cell 7 sgL_cell_7_840bf = true := by decide +kernel
def sgL_cell_9_f57fa : List Instr := [.goto 12]
theorem sgL_cell_9_f57fad : am_dec cL_cell 9 sgL_cell_9_f57fa = true := by decide +kernel
set_option maxRecDepth 100000 in
theorem c_cell {G : am_S} {X : am_H} {b N : Nat} {xs : Nat → Int32} (hN : N ≤ 260) {j : Nat} (hj : j < 1000) : am_BS G yL_cell (.code yL_cell cL_cell 2 (some .int) :: am_G) { frames := 0, cells := 0, slots := 0, locals := 0 } X [.retAddr b, .int (nI j)] b N xs (fun X' r' => X' = X ∧ r' = some (.int (lCell N xs j))) := by
  refine am_ofS (by decide +kernel) (Nat.le_of_ble_eq_true rfl) ?_
  intro C hse hret hF hO hXs hbl hbA
  subst hse
  refine am_go hF sgL_cell_0_840bf 1 [(0, .retAddr b), (1, .int (nI j))] [.int (nI j)] sgL_cell_0_840bfd rfl ?_
  refine am_aload0 hF rfl dL_cell_1 ?_
  refine am_slen hF hXs hbl hbA dL_cell_2 ?_
  refine am_icmpge hF 12 dL_cell_3 (by decide) (fun c1 => ?_) (fun c1 => ?_)
  · have h9 : N ≤ j := am_leI (by omega) (by omega) c1
    refine am_ldc hF 1000308259 (List.mem_cons_of_mem _ lk_RL_7) dL_cell_12 ?_
    refine am_go hF sgL_cell_14_f3a21 18 [(0, .retAddr b), (1, .int (nI j))] [.int (1000308259 * ((nI j) + 1))] sgL_cell_14_f3a21d rfl ?_
    refine am_ldc hF 751363433 (List.mem_cons_of_mem _ lk_RL_8) dL_cell_18 ?_
    refine am_go hF sgL_cell_20_830a0 21 [(0, .retAddr b), (1, .int (nI j))] [.int ((1000308259 * ((nI j) + 1)) + 751363433)] sgL_cell_20_830a0d rfl ?_
    refine am_iret hF hO hret rfl dL_cell_21 ⟨rfl, ?_⟩
    rw [show lCell N xs j = 1000308259 * (nI j + 1) + 751363433 from if_neg (by omega)]
  · have h9 : j < N := am_nleI (by omega) (by omega) c1
    refine am_aload0 hF rfl dL_cell_6 ?_
    refine am_go hF sgL_cell_7_840bf 8 [(0, .retAddr b), (1, .int (nI j))] [.int (nI j), .retAddr b] sgL_cell_7_840bfd rfl ?_
    refine am_sld hF hXs hbl hbA j rfl h9 (by omega) dL_cell_8 ?_
    refine am_go hF sgL_cell_9_f57fa 21 [(0, .retAddr b), (1, .int (nI j))] [.int (xs j)] sgL_cell_9_f57fad rfl ?_
    refine am_iret hF hO hret rfl dL_cell_21 ⟨rfl, ?_⟩
    rw [show lCell N xs j = xs j from if_pos h9]
