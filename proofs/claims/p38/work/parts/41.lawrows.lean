/-! the law's own methods that call the class and catch: a layer for methods with a table, then the methods -/
def am_MW (y : MethodName) (cc : ByteArray) (nL : Nat) (ret : Option FieldType) (hh : List (Nat × Nat × Nat × Nat)) (n : Nat) : Prop := Cond.codeWith y cc nL ret hh ∈ am_G ∧ Cond.initialized y.cls ∈ am_G ∧ (y.cls ≠ "java/lang/invoke/MethodHandle" ∧ y.cls ≠ "java/lang/invoke/VarHandle" ∧ (parseMethodDescriptor y.desc).map (fun d => d.parameters.length) = some n)
theorem am_ofT {G : am_S} {y : MethodName} {cc : ByteArray} {nL : Nat} {ret : Option FieldType} {hh : List (Nat × Nat × Nat × Nat)} {ws' : List Cond} {rm : Room} {X : am_H} {av : List Value} {P : am_H → Option Value → Prop} (hy : plainName y.cls = true) (hlen : (lg_sl av).length ≤ nL)
    (body : ∀ C : am_Cx, C.se = G → C.me.sig.returnType = ret → C.co.exceptionTable.toList = tableOf hh → am_F C cc nL y.cls (.codeWith y cc nL ret hh :: ws') → am_O C X P rm → am_W C X 0 0 0 (lv_args 0 av) []) : am_B G y (.codeWith y cc nL ret hh :: ws') rm X av P := by
  intro ad
  refine va_MetW (cc := cc) (maxL := nL) (ret := ret) (hh := hh) hy rfl ?_
  intro p e s m args below meth c s₁ B hml hv
  obtain ⟨rfl, hsz, hR, hK⟩ := hv
  obtain ⟨l, N0, D, ty⟩ := G
  have hlsz : (lg_sl (av.map (am_v ad))).length ≤ nL := by rw [am_sl_len]; exact hlen
  have hl := lv_entry (av.map (am_v ad)) (n := nL) hlsz
  rw [lg_entry_eq]
  rw [am_hargs] at hl
  have hts : ∀ w ∈ Cond.codeWith y cc nL ret hh :: ws', w.before (av.map (am_v ad)).toArray s = true := atoms_spec B.pre
  have hb0 := body ((p, l, e, rm, s), (m, (av.map (am_v ad)).toArray, below, meth, c), (MQ below (am_Qc N0 D ty X P ad) (av.map (am_v ad)).toArray s rm.cells rm.slots (fun q => N0 ≤ q), N0, D, ty), (X, ad)) rfl B.returns (vx_table (x := y) B (hts _ List.mem_cons_self))
    ⟨⟨B.exec, B.bytes, hml, findClass_of_methodNamed B.named, hts⟩, hK.1, hsz, B.notSynchronized⟩ ⟨hK, rfl, fun _ h => h, rfl⟩
  exact hb0 ad s.heap [] _ (fun i hi => ⟨hi, rfl⟩) hR va_S.rf (by show lv_has _ c.maxLocals _; rw [hml]; exact hl)
section
variable {C : am_Cx} {X : am_H} {k n pc : Nat} {L : List (Nat × Value)} {st : List Value} {cc : ByteArray} {nL : Nat} {own : String} {Ts : List Cond}
/-- a call of a method that throws, caught here: the thrown goes into a local that nobody reads -/
theorem am_xT {E : String} {P0 : am_H → Option Value → Prop} {R : Room} {w0 : Cond} (hF : am_F C cc nL own (w0 :: am_G)) (hO : am_O C X P0 R) {y : MethodName} {ccY : ByteArray} {nY : Nat} {ret : Option FieldType} {rm : Room} {b : Nat} (As rest : List Value) {index nn : Nat}
    (hB : am_XD C.se y (.code y ccY nY ret :: am_G) rm X (.ref b :: As) E) (hM : am_M y ccY nY ret nn) (hV : am_MV y) (hlink : Cond.methodLink own index y ∈ am_G) {ci : Nat} {fs : List Value} (hX : X b = some (.inr (ci, fs))) {T : u_T} {N : Nat} (hc : vwCl[ci]? = some (y.cls, T, N))
    (hnn : As.length = nn) (k2 n2 : Nat) (hro : rm.frames + 1 ≤ R.frames ∧ 8 + (nY + 11) + rm.locals ≤ R.locals) (hroom : k + rm.cells ≤ k2 ∧ n + rm.slots ≤ n2 ∧ k2 ≤ R.cells ∧ n2 ≤ R.slots) (hst : st = As.reverse ++ .ref b :: rest) (hcat : (rest.map fun v => v.category).sum ≤ 8) (hd : decode cc pc = .ok (.invokevirtual index, 3))
    (pre : List ExceptionTableEntry) (x : ExceptionTableEntry) (suf : List ExceptionTableEntry) (hsplit : C.co.exceptionTable.toList = pre ++ x :: suf)
    (hpass : ∀ z ∈ pre, covers z pc = false ∨ (z.catchType ≠ 0 ∧ ∃ nm : String, Cond.classLink own z.catchType nm ∈ am_G ∧ (E, nm) ∈ am_Nc)) (hx : covers x pc = true) (h0 : x.catchType ≠ 0)
    (hcl : Cond.classLink own x.catchType E ∈ am_G) (hcast : Cond.castable E E ∈ am_Fw) (i : Nat) (hi : i < nL) (len : Nat) (hh : (∃ j : Fin 4, j.val = i ∧ len = 1 ∧ decode cc x.handlerPc = .ok (.astore_n j, 1)) ∨ (len = 2 ∧ decode cc x.handlerPc = .ok (.astore i, 2)))
    (kk : am_W C X k2 n2 (x.handlerPc + len) [] []) : am_W C X k n pc L st := by
  intro ad H locs ls h1 h2 h3 h4
  obtain ⟨r1, r2⟩ := hro
  obtain ⟨r3, r4, r5, r6⟩ := hroom
  rw [← hO.2.2.2] at r1 r2 r5 r6
  obtain ⟨⟨hx1, hb, hml, hown, hts⟩, hK, hN, hlk⟩ := hF
  obtain ⟨r', hr', cellB, g1, g2, g3, -⟩ := (h2.1 b _ hX).1
  have hcls := (hK.1 ci _ hc).2
  have hgood : GoodIn (w0 :: am_G) (wsV own index y.cls y (.code y ccY nY ret :: am_G)) := am_gd (fun w hw => by
    rcases List.mem_append.mp hw with h | h
    · simp only [List.mem_cons, List.not_mem_nil, or_false] at h
      rcases h with rfl | rfl | rfl | rfl
      · exact hlink
      · exact hV.1
      · exact hV.2
      · exact hM.2.1
    · rcases List.mem_cons.mp h with rfl | h
      · exact hM.1
      · exact h)
  refine am_behindX (a := (Value.ref (ad b) :: As.map (am_v ad)).toArray) (vx_runV (As := As.map (am_v ad)) (rest := rest.map (am_v ad)) (b := ad b) ⟨hx1, hb, hml, hown, hts⟩ (hB ad) (cwV nn hts hgood rfl rfl rfl ⟨rfl, hM.2.2⟩ ⟨r1, r2⟩) ⟨am_blind, ⟨cellB, g1, by rw [g3]; rfl, by rw [g2]; exact hcls.1⟩, am_pre hO.1 hN h2 h3⟩ rfl (by rw [List.length_map]; exact hnn) (by rw [← hml]; exact h4.1) (by rw [hst]; exact am_hn) (lv_room (by rw [am_cat]; exact hcat)) hd ⟨Nat.le_trans r3 r5, Nat.le_trans r4 r6⟩) h1 h3 ?_
  intro ad' H' locs' q ce hag h1' hR hS hce hcv hcl9
  refine vx_catch hown pre x suf hsplit (fun z hz => (hpass z hz).elim Or.inl (fun ⟨a1, nm, a2, a3⟩ => Or.inr ⟨a1, nm, hts _ (List.mem_cons_of_mem _ a2), hO.1.2.2.2.2.2.2.1 _ a3⟩)) hx h0 (hts _ (List.mem_cons_of_mem _ hcl)) (va_any (hFw _ hcast) (hO.1.2.2.2.2.2.2.2 _ hcast)) hce hcv hcl9 ?_
  have hl0 : lv_has ls C.co.maxLocals [] := lv_sub h4 [] rfl
  refine W.widen r3 r4 ?_
  have fin : ∀ ls' : Array Slot, lv_has ls' C.co.maxLocals ((i, Value.ref q) :: ([] : List (Nat × Value))) → W C.pr C.la C.en C.ro C.st C.mi C.ar C.be C.me C.co H' locs' k2 n2 C.go (F0 C.mi (x.handlerPc + len) ls' []) := fun ls' hl => kk ad' H' locs' ls' h1' hR hS (lv_sub hl [] rfl)
  rcases hh with ⟨j, hj, rfl, hdh⟩ | ⟨rfl, hdh⟩
  · exact lv_astore_n hx1 hb hdh hj hl0 (by rw [hml]; exact hi) rfl fin
  · exact lv_astore hx1 hb hdh hl0 (by rw [hml]; exact hi) rfl fin
set_option maxHeartbeats 1000000 in
/-- a call of a static method that has a table -/
theorem am_dSW {X0 : am_H} {P0 : am_H → Option Value → Prop} {R : Room} {w0 : Cond} (hF : am_F C cc nL own (w0 :: am_G)) (hO : am_O C X0 P0 R) {y : MethodName} {ccY : ByteArray} {nY : Nat} {ret : Option FieldType} {hh : List (Nat × Nat × Nat × Nat)} {rm : Room} {X1 : am_H} {r : Option Value} (As rest : List Value) {index nn : Nat}
    (hB : am_D C.se y (.codeWith y ccY nY ret hh :: am_G) rm X As X1 r) (hM : am_MW y ccY nY ret hh nn) (hV : Cond.static y ∈ am_G) (hlink : Cond.methodLink own index y ∈ am_G)
    (hnn : As.length = nn) (k2 n2 : Nat) (hro : rm.frames + 1 ≤ R.frames ∧ 8 + (nY + 11) + rm.locals ≤ R.locals) (hroom : k + rm.cells ≤ k2 ∧ n + rm.slots ≤ n2 ∧ k2 ≤ R.cells ∧ n2 ≤ R.slots) (hst : st = As.reverse ++ rest) (hlv : am_lv X (L.map (·.2) ++ rest)) (hcat : (rest.map fun v => v.category).sum ≤ 8) (hd : decode cc pc = .ok (.invokestatic index, 3))
    (st' : List Value) (hs' : r.toList ++ rest = st') (kk : am_W C X1 k2 n2 (pc + 3) L st') : am_W C X k n pc L st := by
  intro ad H locs ls h1 h2 h3 h4
  obtain ⟨hr1, hr2, hr3, hr4⟩ := hroom
  rw [← hO.2.2.2] at hro hr3 hr4
  obtain ⟨⟨hx1, hb, hml, hown, hts⟩, hK, hN, hlk⟩ := hF
  have hgood : GoodIn (w0 :: am_G) (va_wsS own index y (.codeWith y ccY nY ret hh :: am_G)) := am_gd (fun w hw => by
    rcases List.mem_append.mp hw with h | h
    · simp only [List.mem_cons, List.not_mem_nil, or_false] at h
      rcases h with rfl | rfl | rfl
      · exact hlink
      · exact hV
      · exact hM.2.1
    · rcases List.mem_cons.mp h with rfl | h
      · exact hM.1
      · exact h)
  refine am_behind (a := (As.map (am_v ad)).toArray) (vx_runSW (As := As.map (am_v ad)) (rest := rest.map (am_v ad)) ⟨hx1, hb, hml, hown, hts⟩ (hB ad) (vx_cwSW nn hts hgood rfl rfl rfl hM.2.2 hro) ⟨am_blind, am_pre hO.1 hN h2 h3⟩ rfl (by rw [List.length_map]; exact hnn) (by rw [← hml]; exact h4.1) (by rw [hst]; exact am_hn) (lv_room (by rw [am_cat]; exact hcat)) hd ⟨Nat.le_trans hr1 hr3, Nat.le_trans hr2 hr4⟩) (Nat.le_trans hN h3.1) (fun v hv => hlv v (List.mem_append_right _ hv)) (am_lv_L (fun v hv => hlv v (List.mem_append_left _ hv))) h1 h3 h4 (fun X' r' g1 g2 => ?_)
  obtain ⟨rfl, rfl⟩ := g2
  rw [hs']
  exact am_widen hr1 hr2 kk
/-- a list of values with a real reference among them lives as the rest does -/
theorem am_lv_raw {b : Nat} {vs : List Value} (h : am_lv X vs) : am_lv X (.retAddr b :: vs) := by
  intro v hv i hi
  rcases List.mem_cons.mp hv with rfl | hv
  · cases hi
  · exact h v hv i hi
end
/-- a static call over a higher stack (follows the kit's own row for eight) -/
theorem am_runS16 {p : Program} {l : Launch} {e : Env} {R : Room} {s : State} {m : MethodId} {args : Array Value} {below : List Frame} {meth : Method} {c : Code} {H : Heap} {locs : List Loc} {cells slots : Nat} {y : MethodName} {bytes cc : ByteArray} {maxL nL mc ms n index : Nat} {ret : Option FieldType} {ws : List Cond} {rm : Room} {Pc : Array Value → State → Prop} {Qc : Array Value → State → Outcome → State → Prop} {free : Addr → Prop} {Ts : List Cond} {own : String} {As rest : List Value} {g : JFrame}
    (S : CallFix p m c cc nL s args Ts own) (hM : Met l y ws rm Pc Qc mc ms free) (cw : CallB R s args own index y bytes maxL ret ws rm mc ms n ∧ (Cond.static y).before args s = true) (h16 : 16 + (maxL + 11) + rm.locals ≤ R.locals) (hp : PreS s H Pc As)
    (hg : g.method = m) (hn : As.length = n) (hsize : g.locals.size = nL) (hstack : g.stack = As.reverse ++ rest) (hW : 2 * g.monitorRoom + (rest.map fun v => v.category).sum ≤ 16) (hdg : decode cc g.pc = .ok (.invokestatic index, 3)) (hf : cells + mc ≤ R.cells ∧ slots + ms ≤ R.slots) :
    va_Run p l e R s m args below meth c H locs cells slots mc ms g rest (Qc As.toArray) (free) := by
  have hK : Back l R p e below s args y 3 16 (PreOf R mc ms Pc) (PostOf Qc mc ms free) := by
    obtain ⟨hrc, hrs, hfr, hlo, hws, hcw, -, hini, -⟩ := cw.1
    exact back_of (bytes := bytes) (maxL := maxL) (ret := ret) hM hp.1 hrc hrs hfr h16 hws hcw (fun a' U hW => word_at hW (Or.inl (by first | rfl | simp [Cond.onTables, Cond.keeps, Cond.steady])) hini)
  obtain ⟨⟨-, -, -, -, -, -, hcode, hini, hy, hlen, hl⟩, hstt⟩ := cw
  obtain ⟨hx, hb, hml, ho, -⟩ := S
  intro T hT X
  obtain ⟨v, vm₁, ⟨U', l2, c2, s2⟩, hW₁, X', ⟨g', mk, t, L, e1, e2, hq, h1, hL, h2, h3⟩, st⟩ := callS X hx (bytes := bytes) (maxL := maxL) (ret := ret) ho hl hstt hini hcode hy hK hg (hsize.trans hml.symm) (argsL := As) (rest := rest) (fun sig h => hn.trans (hlen sig h)) hstack hW (by rw [hb]; exact hdg)
    (fun vm₁ hW₁ => ⟨hf.1, hf.2, hp.2 (T.setVm vm₁) hT hW₁⟩)
  dsimp only [Pt.U, Pt.locs, Pt.cells, Pt.slots] at X' e1 e2 h1 h2 h3 st
  subst h1; subst h2; subst h3
  exact ⟨v, (T.setVm vm₁).calling g' mk As.toArray, t, U', L, hT, X', hL, e1, e2, hq, st⟩
section
variable {C : am_Cx} {X : am_H} {k n pc : Nat} {L : List (Nat × Value)} {st : List Value} {cc : ByteArray} {nL : Nat} {own : String} {Ts : List Cond}
set_option maxHeartbeats 1000000 in
theorem am_dS16 {X0 : am_H} {P0 : am_H → Option Value → Prop} {R : Room} {w0 : Cond} (hF : am_F C cc nL own (w0 :: am_G)) (hO : am_O C X0 P0 R) {y : MethodName} {ccY : ByteArray} {nY : Nat} {ret : Option FieldType} {rm : Room} {X1 : am_H} {r : Option Value} (As rest : List Value) {index nn : Nat}
    (hB : am_D C.se y (.code y ccY nY ret :: am_G) rm X As X1 r) (hM : am_M y ccY nY ret nn) (hV : Cond.static y ∈ am_G) (hlink : Cond.methodLink own index y ∈ am_G)
    (hnn : As.length = nn) (k2 n2 : Nat) (hro : rm.frames + 1 ≤ R.frames ∧ 16 + (nY + 11) + rm.locals ≤ R.locals) (hroom : k + rm.cells ≤ k2 ∧ n + rm.slots ≤ n2 ∧ k2 ≤ R.cells ∧ n2 ≤ R.slots) (hst : st = As.reverse ++ rest) (hlv : am_lv X (L.map (·.2) ++ rest)) (hcat : (rest.map fun v => v.category).sum ≤ 16) (hd : decode cc pc = .ok (.invokestatic index, 3))
    (st' : List Value) (hs' : r.toList ++ rest = st') (kk : am_W C X1 k2 n2 (pc + 3) L st') : am_W C X k n pc L st := by
  intro ad H locs ls h1 h2 h3 h4
  obtain ⟨hr1, hr2, hr3, hr4⟩ := hroom
  rw [← hO.2.2.2] at hro hr3 hr4
  obtain ⟨⟨hx1, hb, hml, hown, hts⟩, hK, hN, hlk⟩ := hF
  have hgood : GoodIn (w0 :: am_G) (va_wsS own index y (.code y ccY nY ret :: am_G)) := am_gd (fun w hw => by
    rcases List.mem_append.mp hw with h | h
    · simp only [List.mem_cons, List.not_mem_nil, or_false] at h
      rcases h with rfl | rfl | rfl
      · exact hlink
      · exact hV
      · exact hM.2.1
    · rcases List.mem_cons.mp h with rfl | h
      · exact hM.1
      · exact h)
  refine am_behind (a := (As.map (am_v ad)).toArray) (am_runS16 (As := As.map (am_v ad)) (rest := rest.map (am_v ad)) ⟨hx1, hb, hml, hown, hts⟩ (hB ad) (va_cwS nn hts hgood rfl rfl rfl hM.2.2 ⟨hro.1, by omega⟩) hro.2 ⟨am_blind, am_pre hO.1 hN h2 h3⟩ rfl (by rw [List.length_map]; exact hnn) (by rw [← hml]; exact h4.1) (by rw [hst]; exact am_hn) (by show 2 * 0 + _ ≤ 16; rw [am_cat]; omega) hd ⟨Nat.le_trans hr1 hr3, Nat.le_trans hr2 hr4⟩) (Nat.le_trans hN h3.1) (fun v hv => hlv v (List.mem_append_right _ hv)) (am_lv_L (fun v hv => hlv v (List.mem_append_left _ hv))) h1 h3 h4 (fun X' r' g1 g2 => ?_)
  obtain ⟨rfl, rfl⟩ := g2
  rw [hs']
  exact am_widen hr1 hr2 kk
end
theorem mwyL_refused : am_MW yL_refused cL_refused 6 (some .int) [(0, 143, 144, 58), (0, 143, 148, 60), (0, 143, 152, 62)] 5 := ⟨am_wd 646 (by decide +kernel) (by decide +kernel), am_wd 25 (by decide +kernel) (by decide +kernel), by decide +kernel⟩
theorem swyL_refused : Cond.static yL_refused ∈ am_G := am_wd 645 (by decide +kernel) (by decide +kernel)
