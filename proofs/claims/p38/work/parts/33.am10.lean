/-! my layer, 10: methods that throw; their calls; handlers -/
/-- thrown: of this class, and the heap as it was -/
def am_XC (N0 : Nat) (D : va_G) (ty : Nat → ClassId) (X : am_H) (ad : Nat → Nat) (E : String) : String → State → State → Prop := fun E' st t =>
  E' = E ∧ (∃ ad' : Nat → Nat, (∀ i, X i ≠ none → ad' i = ad i) ∧ am_R N0 D ty ad' X t.heap) ∧ va_F (fun q => N0 ≤ q) st t
def am_XD (G : am_S) (y : MethodName) (ws : List Cond) (rm : Room) (X : am_H) (av : List Value) (E : String) : Prop :=
  ∀ ad : Nat → Nat, vx_Met G.1 y ws rm (am_Pc G.2.1 G.2.2.1 G.2.2.2 X av ad) (am_Qc G.2.1 G.2.2.1 G.2.2.2 X (fun _ _ => False) ad) (am_XC G.2.1 G.2.2.1 G.2.2.2 X ad E) rm.cells rm.slots (fun q => G.2.1 ≤ q)
def am_OX (C : am_Cx) (X : am_H) (E : String) (R : Room) : Prop := am_O C X (fun _ _ => False) R ∧ C.go = vx_MQ C.be (am_Qc C.n0 C.dg C.ty X (fun _ _ => False) C.a0) (am_XC C.n0 C.dg C.ty X C.a0 E) C.ar C.st R.cells R.slots (fun q => C.n0 ≤ q) ∧ ∀ x ∈ C.co.exceptionTable.toList, False
theorem am_hargs (ad : Nat → Nat) (i : Nat) (vs : List Value) : lv_args i (vs.map (am_v ad)) = am_L ad (lv_args i vs) := by
  induction vs generalizing i with
  | nil => rfl
  | cons v r ih =>
    simp only [List.map_cons, lv_args, am_L, am_v_cat] at ih ⊢
    rw [ih]
theorem am_ofX {G : am_S} {y : MethodName} {cc : ByteArray} {nL : Nat} {ret : Option FieldType} {ws' : List Cond} {rm : Room} {X : am_H} {av : List Value} {E : String} (hy : plainName y.cls = true) (hlen : (lg_sl av).length ≤ nL)
    (body : ∀ C : am_Cx, C.se = G → C.me.sig.returnType = ret → (y.name = C.me.name) → am_F C cc nL y.cls (.code y cc nL ret :: ws') → am_OX C X E rm → am_W C X 0 0 0 (lv_args 0 av) []) : am_XD G y (.code y cc nL ret :: ws') rm X av E := by
  intro ad
  refine vx_ofW (cc := cc) (maxL := nL) (ret := ret) hy rfl ?_
  intro p e s m args below meth c s₁ B hml hxt hv
  obtain ⟨rfl, hsz, hR, hK⟩ := hv
  obtain ⟨l, N0, D, ty⟩ := G
  have hlsz : (lg_sl (av.map (am_v ad))).length ≤ nL := by rw [am_sl_len]; exact hlen
  have hl := lv_entry (av.map (am_v ad)) (n := nL) hlsz
  rw [lg_entry_eq]
  rw [am_hargs] at hl
  have hb0 := body ((p, l, e, rm, s), (m, (av.map (am_v ad)).toArray, below, meth, c), (vx_MQ below (am_Qc N0 D ty X (fun _ _ => False) ad) (am_XC N0 D ty X ad E) (av.map (am_v ad)).toArray s rm.cells rm.slots (fun q => N0 ≤ q), N0, D, ty), (X, ad)) rfl B.returns (name_of_methodNamed B.named B.method).1.symm
    ⟨⟨B.exec, B.bytes, hml, findClass_of_methodNamed B.named, atoms_spec B.pre⟩, hK.1, hsz, B.notSynchronized⟩ ⟨⟨hK, rfl, fun t h => by obtain ⟨o, a1, a2, a3, a4⟩ := h; exact ⟨o, a1, a2, Or.inl ⟨a3, a4⟩⟩, rfl⟩, rfl, hxt⟩
  exact hb0 ad s.heap [] _ (fun i hi => ⟨hi, rfl⟩) hR va_S.rf (by show lv_has _ c.maxLocals _; rw [hml]; exact hl)
section
variable {C : am_Cx} {X : am_H} {k n pc : Nat} {L : List (Nat × Value)} {st : List Value} {cc : ByteArray} {nL : Nat} {own : String} {Ts : List Cond}
theorem am_R.ext {N0 : Nat} {D : va_G} {ty : Nat → ClassId} {ad : Nat → Nat} {X : am_H} {H H1 : Heap} (h : am_R N0 D ty ad X H) (hq : ∀ q : Nat, q < H.size → H1[q]? = H[q]?) : am_R N0 D ty ad X H1 :=
  ⟨fun i e hi => ⟨(h.1 i e hi).1.kept (hq _ (h.1 i e hi).1.lt), (h.1 i e hi).2⟩, h.2⟩
/-- what the thrower owes -/
theorem am_thr {E : String} {ad : Nat → Nat} {H : Heap} {locs : List Loc} (h1 : ∀ i, C.x0 i ≠ none → X i ≠ none ∧ ad i = C.a0 i) (hX : C.x0 = X) (h2 : am_R C.n0 C.dg C.ty ad X H) (h3 : va_S (fun q => C.n0 ≤ q) C.st.heap H locs) :
    ∀ t : State, C.st.vm.Alike t.vm → H.size ≤ t.heap.size → (∀ q : Nat, q < H.size → t.heap[q]? = H[q]?) → am_XC C.n0 C.dg C.ty X C.a0 E E C.st t := by
  intro t _ hs hq
  refine ⟨rfl, ⟨ad, fun i hi => (h1 i (by rw [hX]; exact hi)).2, h2.ext hq⟩, Nat.le_trans h3.1 hs, fun q g1 g2 => ?_⟩
  rw [hq q (Nat.lt_of_lt_of_le g1 h3.1)]
  exact h3.2.1 q g1 g2
theorem hFw : ∀ w ∈ am_Fw, w.onTables = true := by decide +kernel
theorem am_throwS {E : String} {R : Room} {w0 : Cond} (hF : am_F C cc nL RX5 (w0 :: am_G)) (hO : am_OX C X E R) (hl : C.la.stackTraces = false) {ik is ic : Nat} {text : String} (names : List String) (hcls : Bundle.fit E = true) (hnames : ∀ n ∈ names, Bundle.fit n = true) (hk : Cond.classLink RX5 ik E ∈ am_G) (hini : Cond.initialized E ∈ am_G) (hstr : (is, text) ∈ am_Str)
    (hat : ∀ w ∈ vx_atS RX5 ic E names, w ∈ am_G ∨ w ∈ am_Fw) (hgood : ∀ w ∈ Cond.classLink RX5 ik E :: Cond.initialized E :: vx_atS RX5 ic E names, vx_ot w = true)
    (d0 : decode cc pc = .ok (.new ik, 3)) (d3 : decode cc (pc + 3) = .ok (.dup, 1)) (d4 : decode cc (pc + 4) = .ok (.ldc is, 2)) (d6 : decode cc (pc + 6) = .ok (.invokespecial ic, 3)) (d9 : decode cc (pc + 9) = .ok (.athrow, 1))
    (hro : names.length + 3 < R.frames ∧ (st.map fun v => v.category).sum + (13 * (names.length + 1) + 43) ≤ R.locals ∧ k + 1 ≤ R.cells ∧ n + 6 ≤ R.slots) : am_W C X k n pc L st := by
  intro ad H locs ls h1 h2 h3 h4
  obtain ⟨⟨hx, hb, hml, hown, hts⟩, hK, hN, hlk⟩ := hF
  obtain ⟨⟨hK9, hX0, hgo, hR9⟩, hgo2, hxt⟩ := hO
  obtain ⟨sa, hsa⟩ := hK9.2.2.2.2.2.1 _ hstr
  obtain ⟨r1, r2, r3, r4⟩ := hro
  rw [← hR9] at r1 r2
  have r3' := r3
  have r4' := r4
  rw [← hR9] at r3 r4
  rw [hgo2]
  exact vx_throwS hx hb hl hown hcls hnames (hts _ (List.mem_cons_of_mem _ hk)) (hts _ (List.mem_cons_of_mem _ hini)) hsa (fun w hw => (hat w hw).elim (fun h => hts _ (List.mem_cons_of_mem _ h)) (fun h => va_any (hFw w h) (hK9.2.2.2.2.2.2.2 w h))) hgood hK9.2.2.2.1 hK9.2.2.2.2.1 h3 h4.1 d0 d3 d4 d6 d9 (fun x hx => (hxt x hx).elim) r1 (by rw [am_cat]; exact r2) r3 r4 hlk (am_thr h1 hX0 h2 h3) h3.2.2 r3' r4'
theorem am_throwSW {E : String} {R : Room} {w0 : Cond} (hF : am_F C cc nL RX5 (w0 :: am_G)) (hO : am_OX C X E R) (hl : C.la.stackTraces = false) {ik is ic : Nat} {text : String} (names : List String) (hcls : Bundle.fit E = true) (hnames : ∀ n ∈ names, Bundle.fit n = true) (hk : Cond.classLink RX5 ik E ∈ am_G) (hini : Cond.initialized E ∈ am_G) (hstr : (is, text) ∈ am_Str)
    (hat : ∀ w ∈ vx_atS RX5 ic E names, w ∈ am_G ∨ w ∈ am_Fw) (hgood : ∀ w ∈ Cond.classLink RX5 ik E :: Cond.initialized E :: vx_atS RX5 ic E names, vx_ot w = true)
    (d0 : decode cc pc = .ok (.new ik, 3)) (d3 : decode cc (pc + 3) = .ok (.dup, 1)) (d4 : decode cc (pc + 4) = .ok (.ldc_w is, 3)) (d7 : decode cc (pc + 7) = .ok (.invokespecial ic, 3)) (d10 : decode cc (pc + 10) = .ok (.athrow, 1))
    (hro : names.length + 3 < R.frames ∧ (st.map fun v => v.category).sum + (13 * (names.length + 1) + 43) ≤ R.locals ∧ k + 1 ≤ R.cells ∧ n + 6 ≤ R.slots) : am_W C X k n pc L st := by
  intro ad H locs ls h1 h2 h3 h4
  obtain ⟨⟨hx, hb, hml, hown, hts⟩, hK, hN, hlk⟩ := hF
  obtain ⟨⟨hK9, hX0, hgo, hR9⟩, hgo2, hxt⟩ := hO
  obtain ⟨sa, hsa⟩ := hK9.2.2.2.2.2.1 _ hstr
  obtain ⟨r1, r2, r3, r4⟩ := hro
  rw [← hR9] at r1 r2
  have r3' := r3
  have r4' := r4
  rw [← hR9] at r3 r4
  rw [hgo2]
  exact vx_throwSW hx hb hl hown hcls hnames (hts _ (List.mem_cons_of_mem _ hk)) (hts _ (List.mem_cons_of_mem _ hini)) hsa (fun w hw => (hat w hw).elim (fun h => hts _ (List.mem_cons_of_mem _ h)) (fun h => va_any (hFw w h) (hK9.2.2.2.2.2.2.2 w h))) hgood hK9.2.2.2.1 hK9.2.2.2.2.1 h3 h4.1 d0 d3 d4 d7 d10 (fun x hx => (hxt x hx).elim) r1 (by rw [am_cat]; exact r2) r3 r4 hlk (am_thr h1 hX0 h2 h3) h3.2.2 r3' r4'
/-- a callee that throws, behind its run: the frame with the thrown over it -/
theorem am_behindX {E : String} {mc ms : Nat} {rest : List Value} {a : Array Value} {ad : Nat → Nat} {H : Heap} {locs : List Loc} {ls : Array Slot} {st0 : List Value}
    (hr : vx_Run C.pr C.la C.en C.ro C.st C.mi C.ar C.be C.me C.co H locs k n mc ms (F0 C.mi pc ls st0) (rest.map (am_v ad)) (am_Qc C.n0 C.dg C.ty X (fun _ _ => False) ad a) (am_XC C.n0 C.dg C.ty X ad E) (fun q => C.n0 ≤ q))
    (h1 : ∀ i, C.x0 i ≠ none → X i ≠ none ∧ ad i = C.a0 i) (h3 : va_S (fun q => C.n0 ≤ q) C.st.heap H locs)
    (kk : ∀ (ad' : Nat → Nat) (H' : Heap) (locs' : List Loc) (q : Addr) (ce : Cell), (∀ i, X i ≠ none → ad' i = ad i) → (∀ i, C.x0 i ≠ none → X i ≠ none ∧ ad' i = C.a0 i) → am_R C.n0 C.dg C.ty ad' X H' → va_S (fun q => C.n0 ≤ q) C.st.heap H' locs' → H'[q]? = some ce → ce.vm = .none → C.st.vm.findClass E = some ce.cls →
      vx_W C.pr C.la C.en C.ro C.st C.mi C.ar C.be C.me C.co H' locs' (k + mc) (n + ms) C.go (F0 C.mi pc ls (rest.map (am_v ad))) q) : W C.pr C.la C.en C.ro C.st C.mi C.ar C.be C.me C.co H locs k n C.go (F0 C.mi pc ls st0) := by
  intro T hT Y
  rcases hr T hT Y with ⟨v, st₀, t, T', L9, h0, Y', hL, e1, e2, ⟨⟨ad', X', r, hag, hv, hp, hR⟩, hF⟩, stp⟩ | ⟨q, st₀, t, T', L9, E', ce, h0, Y', hL, e1, e2, ⟨rfl, ⟨ad', hag, hR⟩, hz, hk⟩, hce, hcv, hcl, stp⟩
  · exact hp.elim
  · rw [h0] at hz hk
    have hS' : va_S (fun q => C.n0 ≤ q) C.st.heap T'.heap (locs ++ L9) := by
      refine ⟨Nat.le_trans h3.1 (by rw [e1]; exact hz), fun q g1 g2 => ?_, fun q hq => ?_⟩
      · rw [e1, hk q (Nat.lt_of_lt_of_le g1 h3.1) g2]; exact h3.2.1 q g1 g2
      · rcases List.mem_append.mp hq with h | h
        · exact h3.2.2 q h
        · exact hL q h
    obtain ⟨t2, a1, b1⟩ := kk ad' T'.heap (locs ++ L9) q ce hag (fun i hi => ⟨(h1 i hi).1, (hag i (h1 i hi).1).trans (h1 i hi).2⟩) (by rw [e1]; exact hR) hS' (by rw [e1]; exact hce) hcv hcl T' rfl Y'
    exact ⟨t2, stp.trans a1, b1⟩
/-- it goes on to the caller's caller -/
theorem am_on {E : String} {R : Room} (hO : am_OX C X E R) (hlk : C.me.locks = false) {mc ms : Nat} {rest : List Value} {ls : Array Slot} (hc : k + mc ≤ R.cells) (hs : n + ms ≤ R.slots) (ad : Nat → Nat) :
    ∀ (ad' : Nat → Nat) (H' : Heap) (locs' : List Loc) (q : Addr) (ce : Cell), (∀ i, X i ≠ none → ad' i = ad i) → (∀ i, C.x0 i ≠ none → X i ≠ none ∧ ad' i = C.a0 i) → am_R C.n0 C.dg C.ty ad' X H' → va_S (fun q => C.n0 ≤ q) C.st.heap H' locs' → H'[q]? = some ce → ce.vm = .none → C.st.vm.findClass E = some ce.cls →
      vx_W C.pr C.la C.en C.ro C.st C.mi C.ar C.be C.me C.co H' locs' (k + mc) (n + ms) C.go (F0 C.mi pc ls (rest.map (am_v ad))) q := by
  intro ad' H' locs' q ce hag h1 hR hS hce hcv hcl
  obtain ⟨⟨hK9, hX0, hgo, hR9⟩, hgo2, hxt⟩ := hO
  rw [hgo2]
  exact vx_out (fun x hx => (hxt x hx).elim) hlk hce hcv hcl (fun t ht ha => am_thr h1 hX0 hR hS t ha (by rw [ht]; exact Nat.le_refl _) (fun q _ => by rw [ht])) hS.2.2 hc hs
set_option maxHeartbeats 1000000 in
theorem am_xV {E : String} {R : Room} {w0 : Cond} (hF : am_F C cc nL own (w0 :: am_G)) (hO : am_OX C X E R) {y : MethodName} {ccY : ByteArray} {nY : Nat} {ret : Option FieldType} {rm : Room} {b : Nat} (As rest : List Value) {index nn : Nat}
    (hB : am_XD C.se y (.code y ccY nY ret :: am_G) rm X (.ref b :: As) E) (hM : am_M y ccY nY ret nn) (hV : am_MV y) (hlink : Cond.methodLink own index y ∈ am_G) {ci : Nat} {fs : List Value} (hX : X b = some (.inr (ci, fs))) {T : u_T} {N : Nat} (hc : vwCl[ci]? = some (y.cls, T, N))
    (hnn : As.length = nn) (hro : rm.frames + 1 ≤ R.frames ∧ 8 + (nY + 11) + rm.locals ≤ R.locals ∧ k + rm.cells ≤ R.cells ∧ n + rm.slots ≤ R.slots) (hst : st = As.reverse ++ .ref b :: rest) (hcat : (rest.map fun v => v.category).sum ≤ 8) (hd : decode cc pc = .ok (.invokevirtual index, 3)) : am_W C X k n pc L st := by
  intro ad H locs ls h1 h2 h3 h4
  obtain ⟨r1, r2, r3, r4⟩ := hro
  have r3' := r3
  have r4' := r4
  rw [← hO.1.2.2.2] at r1 r2 r3 r4
  obtain ⟨⟨hx1, hb, hml, hown, hts⟩, hK, hN, hlk⟩ := hF
  obtain ⟨r', hr', cellB, g1, g2, g3, -⟩ := (h2.1 b _ hX).1
  have hcls := (hK.1 ci _ hc).2
  have hgood : GoodIn (w0 :: am_G) (wsV own index y.cls y (.code y ccY nY ret :: am_G)) := am_gd (fun w hw => by
    rcases List.mem_append.mp hw with h | h
    · simp only [List.mem_cons, List.not_mem_nil, or_false] at h
      rcases h with rfl | rfl | rfl | rfl
      · exact hlink
      · exact hV.1
      · exact hV.2
      · exact hM.2.1
    · rcases List.mem_cons.mp h with rfl | h
      · exact hM.1
      · exact h)
  exact am_behindX (a := (Value.ref (ad b) :: As.map (am_v ad)).toArray) (vx_runV (As := As.map (am_v ad)) (rest := rest.map (am_v ad)) (b := ad b) ⟨hx1, hb, hml, hown, hts⟩ (hB ad) (cwV nn hts hgood rfl rfl rfl ⟨rfl, hM.2.2⟩ ⟨r1, r2⟩) ⟨am_blind, ⟨cellB, g1, by rw [g3]; rfl, by rw [g2]; exact hcls.1⟩, am_pre hO.1.1 hN h2 h3⟩ rfl (by rw [List.length_map]; exact hnn) (by rw [← hml]; exact h4.1) (by rw [hst]; exact am_hn) (lv_room (by rw [am_cat]; exact hcat)) hd ⟨r3, r4⟩) h1 h3 (am_on hO hlk r3' r4' ad)
set_option maxHeartbeats 1000000 in
theorem am_xS {E : String} {R : Room} {w0 : Cond} (hF : am_F C cc nL own (w0 :: am_G)) (hO : am_OX C X E R) {y : MethodName} {ccY : ByteArray} {nY : Nat} {ret : Option FieldType} {rm : Room} (As rest : List Value) {index nn : Nat}
    (hB : am_XD C.se y (.code y ccY nY ret :: am_G) rm X As E) (hM : am_M y ccY nY ret nn) (hV : Cond.static y ∈ am_G) (hlink : Cond.methodLink own index y ∈ am_G)
    (hnn : As.length = nn) (hro : rm.frames + 1 ≤ R.frames ∧ 8 + (nY + 11) + rm.locals ≤ R.locals ∧ k + rm.cells ≤ R.cells ∧ n + rm.slots ≤ R.slots) (hst : st = As.reverse ++ rest) (hcat : (rest.map fun v => v.category).sum ≤ 8) (hd : decode cc pc = .ok (.invokestatic index, 3)) : am_W C X k n pc L st := by
  intro ad H locs ls h1 h2 h3 h4
  obtain ⟨r1, r2, r3, r4⟩ := hro
  have r3' := r3
  have r4' := r4
  rw [← hO.1.2.2.2] at r1 r2 r3 r4
  obtain ⟨⟨hx1, hb, hml, hown, hts⟩, hK, hN, hlk⟩ := hF
  have hgood : GoodIn (w0 :: am_G) (va_wsS own index y (.code y ccY nY ret :: am_G)) := am_gd (fun w hw => by
    rcases List.mem_append.mp hw with h | h
    · simp only [List.mem_cons, List.not_mem_nil, or_false] at h
      rcases h with rfl | rfl | rfl
      · exact hlink
      · exact hV
      · exact hM.2.1
    · rcases List.mem_cons.mp h with rfl | h
      · exact hM.1
      · exact h)
  exact am_behindX (a := (As.map (am_v ad)).toArray) (vx_runS (As := As.map (am_v ad)) (rest := rest.map (am_v ad)) ⟨hx1, hb, hml, hown, hts⟩ (hB ad) (va_cwS nn hts hgood rfl rfl rfl hM.2.2 ⟨r1, r2⟩) ⟨am_blind, am_pre hO.1.1 hN h2 h3⟩ rfl (by rw [List.length_map]; exact hnn) (by rw [← hml]; exact h4.1) (by rw [hst]; exact am_hn) (lv_room (by rw [am_cat]; exact hcat)) hd ⟨r3, r4⟩) h1 h3 (am_on hO hlk r3' r4' ad)
end
