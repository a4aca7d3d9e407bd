/-! my layer, 5: what every method is told; contracts; calls; ends -/
def am_G : List Cond := lw_tbl.filter goodWord
theorem am_wd (i : Nat) {w : Cond} (h : lw_tbl[i]? = some w) (hg : goodWord w = true) : w ∈ am_G := List.mem_filter.mpr ⟨List.mem_of_getElem? h, hg⟩
theorem am_G_good {w : Cond} (h : w ∈ am_G) : (w.onTables && w.keeps) = true ∨ ∃ ty, w = .arrayClass ty := good_of_word (List.mem_filter.mp h).2
/-- links of nest mates -/
def am_N : List (String × Nat × MethodName) := [(RX5, 50, yX3_init), (RX2, 37, yX5_contains), (RX2, 41, yX5_bit), (RX4, 29, yX5_bit), (RX4, 37, yX5_contains), (RX0, 25, yX5_bit), (RX1, 56, yX5_contains)]
/-- texts of the class's throws; pairs of classes of which one isn't the other -/
def am_Str : List (Nat × String) := [(57, "there are 10 lists"), (75, "the person is a member"), (112, "the list would be in itself"), (137, "no such word"), (154, "there are 80 mails"), (193, "the mail is not held, or was appealed for"), (199, "there are fewer than three jurors"), (211, "no vote of this person is awaited"), (249, "no such place"), (262, "the digest has no such place"), (278, "today would be above 400"), (286, "no such list"), (288, "no such mail"), (290, "no such person"), (292, "no such mode"), (294, "out of its range"), (296, "the person is no member"), (301, "the mail is not held, or an appeal is open")]
def am_Nc : List (String × String) := [("java/lang/IllegalArgumentException", "java/lang/IndexOutOfBoundsException"), ("java/lang/IllegalStateException", "java/lang/IndexOutOfBoundsException"), ("java/lang/IllegalStateException", "java/lang/IllegalArgumentException"), ("java/util/NoSuchElementException", "java/lang/IndexOutOfBoundsException"), ("java/util/NoSuchElementException", "java/lang/IllegalArgumentException")]
/-- words of the face: no reader of steady words carries them -/
def am_Fw : List Cond := [.declares (Bundle.initS "java/lang/RuntimeException"), .declares (Bundle.initS "java/lang/Exception"), .declares (Bundle.initS "java/lang/Throwable"), .castable "java/lang/IndexOutOfBoundsException" "java/lang/IndexOutOfBoundsException", .castable "java/lang/IllegalStateException" "java/lang/IllegalStateException", .castable "java/lang/IllegalArgumentException" "java/lang/IllegalArgumentException", .castable "java/util/NoSuchElementException" "java/util/NoSuchElementException"]
theorem am_face {u U : State} (hvm : u.vm.Alike U.vm) {w : Cond} (hw : w ∈ am_Fw) (h : w.before #[] u = true) : w.before #[] U = true := by
  have tr : ∀ {c : Cond}, c.onTables = true → c.before #[] (u.setVm U.vm) = true → c.before #[] U = true := by
    intro c hc h
    have e := Cond.onTables_vm (A := #[]) (A' := #[]) (U := u) (U' := U) U.vm c hc
    have hU : U.setVm U.vm = U := rfl
    rw [hU] at e
    rw [← e]
    exact h
  simp only [am_Fw, List.mem_cons, List.not_mem_nil, or_false] at hw
  rcases hw with rfl | rfl | rfl | rfl | rfl | rfl | rfl
  · exact tr rfl (by rw [Cond.declares_setVm hvm]; exact h)
  · exact tr rfl (by rw [Cond.declares_setVm hvm]; exact h)
  · exact tr rfl (by rw [Cond.declares_setVm hvm]; exact h)
  · exact tr rfl (by rw [Cond.castable_setVm hvm]; exact h)
  · exact tr rfl (by rw [Cond.castable_setVm hvm]; exact h)
  · exact tr rfl (by rw [Cond.castable_setVm hvm]; exact h)
  · exact tr rfl (by rw [Cond.castable_setVm hvm]; exact h)
/-- what holds of the tables and of the static fields, at every method's start -/
def am_K (N0 : Nat) (D : va_G) (ty : Nat → ClassId) (U : State) : Prop :=
  va_K D vwCl (am_tys ty) U ∧ (∀ q ∈ am_N, va_Nw (.methodLinkNest q.1 q.2.1 q.2.2 "MailPriory") U) ∧ (∀ c ∈ ["MailPriory$Person", "MailPriory$MailList", "MailPriory$Mail", "MailPriory$PostDay"], va_AO c U) ∧
  vx_Zq Bundle.tN "UNASSIGNED_STACK" Bundle.steD (fun q => N0 ≤ q) U U.heap ∧ vx_Zq Bundle.tN "SUPPRESSED_SENTINEL" Bundle.listD (fun q => N0 ≤ q) U U.heap ∧
  (∀ q ∈ am_Str, ∃ a, vk_R RX5 q.1 q.2 a U) ∧ (∀ q ∈ am_Nc, va_Nc q.1 q.2 U) ∧ ∀ w ∈ am_Fw, w.before #[] U = true
theorem am_K.go {N0 : Nat} {D : va_G} {ty : Nat → ClassId} {s U : State} (h : am_K N0 D ty s) (hW : s.WarmedH U.vm) {locs : List Loc} (hS : va_S (fun q => N0 ≤ q) s.heap U.heap locs) : am_K N0 D ty U := by
  obtain ⟨h1, h2, h3, h4, h5, h6, h7, h8⟩ := h
  have hk : ∀ a : Nat, a < s.heap.size → ¬ N0 ≤ a → U.heap[a]? = s.heap[a]? := hS.2.1
  exact ⟨va_K.moved hW.alike h1, fun q hq => va_Nw.warmM hW (h2 q hq), fun c hc => va_AO.moved hW.alike (h3 c hc), (vx_Zq.moved hW.alike h4).kept hk, (vx_Zq.moved hW.alike h5).kept hk, fun q hq => (h6 q hq).elim fun a ha => ⟨a, vk_R.warm hW ha⟩, fun q hq => va_Nc.moved hW.alike (h7 q hq), fun w hw => am_face hW.alike hw (h8 w hw)⟩
theorem am_K.call {N0 : Nat} {D : va_G} {ty : Nat → ClassId} {U : State} (h : am_K N0 D ty U) (g : JFrame) (mk : MethodId) (a : Array Value) : am_K N0 D ty (U.calling g mk a) := by
  obtain ⟨h1, h2, h3, h4, h5, h6, h7, h8⟩ := h
  have hv : U.vm.Alike (U.calling g mk a).vm := Vm.Alike.refl U.vm
  exact ⟨va_K.moved hv h1, fun q hq => va_Nw.same rfl (show U.vm = (U.calling g mk a).vm from rfl) (h2 q hq), fun c hc => va_AO.moved hv (h3 c hc), vx_Zq.moved hv h4, vx_Zq.moved hv h5, fun q hq => (h6 q hq).elim fun sa ha => ⟨sa, vk_R.same (show (U.calling g mk a).vm = U.vm from rfl) ha⟩, fun q hq => va_Nc.moved hv (h7 q hq), fun w hw => am_face hv hw (h8 w hw)⟩
/-- a contract: from the heap X with these arguments the method comes back, and P holds of the heap and of the answer -/
abbrev am_Pc (N0 : Nat) (D : va_G) (ty : Nat → ClassId) (X : am_H) (av : List Value) (ad : Nat → Nat) : Array Value → State → Prop := va_Pc (av.map (am_v ad)) (fun U => N0 ≤ U.heap.size ∧ am_R N0 D ty ad X U.heap ∧ am_K N0 D ty U)
def am_Qc (N0 : Nat) (D : va_G) (ty : Nat → ClassId) (X : am_H) (P : am_H → Option Value → Prop) (ad : Nat → Nat) : Array Value → State → Outcome → State → Prop := fun _ st oc t =>
  (∃ (ad' : Nat → Nat) (X' : am_H) (r : Option Value), (∀ i, X i ≠ none → X' i ≠ none ∧ ad' i = ad i) ∧ oc = .returned (r.map (am_v ad')) ∧ P X' r ∧ am_R N0 D ty ad' X' t.heap) ∧ va_F (fun q => N0 ≤ q) st t
abbrev am_S : Type := Launch × Nat × va_G × (Nat → ClassId)
def am_B (G : am_S) (y : MethodName) (ws : List Cond) (rm : Room) (X : am_H) (av : List Value) (P : am_H → Option Value → Prop) : Prop :=
  ∀ ad : Nat → Nat, Met G.1 y ws rm (am_Pc G.2.1 G.2.2.1 G.2.2.2 X av ad) (am_Qc G.2.1 G.2.2.1 G.2.2.2 X P ad) rm.cells rm.slots (fun q => G.2.1 ≤ q)
theorem am_blind {N0 : Nat} {D : va_G} {ty : Nat → ClassId} {X : am_H} {av : List Value} {ad : Nat → Nat} : FrameBlind (am_Pc N0 D ty X av ad) := by
  intro a U g mk q
  obtain ⟨q0, q1, qR, qK⟩ := q
  exact ⟨q0, q1, qR, qK.call g mk a⟩
/-- the setting of a frame -/
abbrev am_Cx.se (C : am_Cx) : am_S := (C.la, C.n0, C.dg, C.ty)
/-- what is known in a method's body -/
def am_O (C : am_Cx) (X : am_H) (P : am_H → Option Value → Prop) (R : Room) : Prop := am_K C.n0 C.dg C.ty C.st ∧ C.x0 = X ∧ (∀ t, MQ C.be (am_Qc C.n0 C.dg C.ty X P C.a0) C.ar C.st R.cells R.slots (fun q => C.n0 ≤ q) t → C.go t) ∧ C.ro = R
theorem am_sl_len (ad : Nat → Nat) (av : List Value) : (lg_sl (av.map (am_v ad))).length = (lg_sl av).length := by
  induction av with
  | nil => rfl
  | cons v r ih =>
    simp only [lg_sl, List.map_cons, List.flatMap_cons, List.length_append] at ih ⊢
    rw [ih, am_v_cat]
    congr 1
    by_cases h : v.category = 2 <;> simp [h]
theorem am_of {G : am_S} {y : MethodName} {cc : ByteArray} {nL : Nat} {ret : Option FieldType} {ws' : List Cond} {rm : Room} {X : am_H} {av : List Value} {P : am_H → Option Value → Prop} (hy : plainName y.cls = true) (hlen : (lg_sl av).length ≤ nL)
    (body : ∀ C : am_Cx, C.se = G → C.me.sig.returnType = ret → (y.name = C.me.name) → am_F C cc nL y.cls (.code y cc nL ret :: ws') → am_O C X P rm → am_W C X 0 0 0 (lv_args 0 av) []) : am_B G y (.code y cc nL ret :: ws') rm X av P := by
  intro ad
  refine Met.ofW (cc := cc) (maxL := nL) (ret := ret) hy rfl ?_
  intro p e s m args below meth c s₁ B hml hv
  obtain ⟨rfl, hsz, hR, hK⟩ := hv
  obtain ⟨l, N0, D, ty⟩ := G
  have hlsz : (lg_sl (av.map (am_v ad))).length ≤ nL := by rw [am_sl_len]; exact hlen
  have hl := lv_entry (av.map (am_v ad)) (n := nL) hlsz
  rw [lg_entry_eq]
  have hargs : ∀ (i : Nat) (vs : List Value), lv_args i (vs.map (am_v ad)) = am_L ad (lv_args i vs) := by
    intro i vs
    induction vs generalizing i with
    | nil => rfl
    | cons v r ih =>
      simp only [List.map_cons, lv_args, am_L, am_v_cat] at ih ⊢
      rw [ih]
  rw [hargs] at hl
  have hb0 := body ((p, l, e, rm, s), (m, (av.map (am_v ad)).toArray, below, meth, c), (MQ below (am_Qc N0 D ty X P ad) (av.map (am_v ad)).toArray s rm.cells rm.slots (fun q => N0 ≤ q), N0, D, ty), (X, ad)) rfl B.returns (name_of_methodNamed B.named B.method).1.symm
    ⟨⟨B.exec, B.bytes, hml, findClass_of_methodNamed B.named, atoms_spec B.pre⟩, hK.1, hsz, B.notSynchronized⟩ ⟨hK, rfl, fun _ h => h, rfl⟩
  exact hb0 ad s.heap [] _ (fun i hi => ⟨hi, rfl⟩) hR va_S.rf (by show lv_has _ c.maxLocals _; rw [hml]; exact hl)
section
variable {C : am_Cx} {X : am_H} {k n pc : Nat} {L : List (Nat × Value)} {st : List Value} {cc : ByteArray} {nL : Nat} {own : String} {Ts : List Cond}
theorem am_widen {k' n' : Nat} (h1 : k ≤ k') (h2 : n ≤ n') (kk : am_W C X k' n' pc L st) : am_W C X k n pc L st := fun ad H locs ls a b c d => W.widen h1 h2 (kk ad H locs ls a b c d)
theorem am_goal {p : Program} {l : Launch} {e : Env} {R : Room} {s : State} {m : MethodId} {args : Array Value} {below : List Frame} {meth : Method} {c : Code} {H : Heap} {locs : List Loc} {cells slots : Nat} {Q Q' : State → Prop} {g : JFrame} (h : ∀ t, Q t → Q' t) (kk : W p l e R s m args below meth c H locs cells slots Q g) : W p l e R s m args below meth c H locs cells slots Q' g := by
  intro T hT Y
  obtain ⟨t, a, b⟩ := kk T hT Y
  exact ⟨t, a, h t b⟩
theorem am_iret (hF : am_F C cc nL own Ts) {X0 : am_H} {P : am_H → Option Value → Prop} {R : Room} (hO : am_O C X0 P R) {ty : FieldType} (hr : C.me.sig.returnType = some ty) {v : Int32} (hn : narrow ty (.int v) = .int v) (hd : decode cc pc = .ok (.ireturn, 1)) (hP : P X (some (.int v))) : am_W C X R.cells R.slots pc L [.int v] := by
  intro ad H locs ls h1 h2 h3 h4
  obtain ⟨⟨hx1, hb, hml, hown, hts⟩, hK, hN, hlk⟩ := hF
  obtain ⟨hK9, hX0, hgo, hR9⟩ := hO
  refine am_goal hgo ?_
  exact W.zret hx1 hb hr hn (fun t ht hW => ⟨⟨ad, X, some (.int v), fun i hi => h1 i (by rw [hX0]; exact hi), rfl, hP, by rw [ht]; exact h2⟩, h3.F ht⟩) h3.2.2 hd hlk
theorem am_vret (hF : am_F C cc nL own Ts) {X0 : am_H} {P : am_H → Option Value → Prop} {R : Room} (hO : am_O C X0 P R) (hr : C.me.sig.returnType = none) (hd : decode cc pc = .ok (.return_, 1)) (hP : P X none) : am_W C X R.cells R.slots pc L [] := by
  intro ad H locs ls h1 h2 h3 h4
  obtain ⟨⟨hx1, hb, hml, hown, hts⟩, hK, hN, hlk⟩ := hF
  obtain ⟨hK9, hX0, hgo, hR9⟩ := hO
  refine am_goal hgo ?_
  exact W.vret hx1 hb hr (fun t ht hW => ⟨⟨ad, X, none, fun i hi => h1 i (by rw [hX0]; exact hi), rfl, hP, by rw [ht]; exact h2⟩, h3.F ht⟩) h3.2.2 hd hlk
theorem am_aret (hF : am_F C cc nL own Ts) {X0 : am_H} {P : am_H → Option Value → Prop} {R : Room} (hO : am_O C X0 P R) {rt : FieldType} (hr : C.me.sig.returnType = some rt) (hrt : (∃ n, rt = .object n) ∨ ∃ t, rt = .array t) {v : Value} (hv : v = .null ∨ ∃ a, v = .ref a) (hd : decode cc pc = .ok (.areturn, 1)) (hP : P X (some v)) : am_W C X R.cells R.slots pc L [v] := by
  intro ad H locs ls h1 h2 h3 h4
  obtain ⟨⟨hx1, hb, hml, hown, hts⟩, hK, hN, hlk⟩ := hF
  obtain ⟨hK9, hX0, hgo, hR9⟩ := hO
  refine am_goal hgo ?_
  have hv9 : am_v ad v = .null ∨ ∃ a, am_v ad v = .ref a := by
    rcases hv with rfl | ⟨a, rfl⟩
    · exact Or.inl rfl
    · exact Or.inr ⟨ad a, rfl⟩
  exact W.aret hx1 hb hr hrt hv9 (fun t ht hW => ⟨⟨ad, X, some v, fun i hi => h1 i (by rw [hX0]; exact hi), rfl, hP, by rw [ht]; exact h2⟩, h3.F ht⟩) h3.2.2 hd hlk
/-- behind a call -/
theorem am_behind {mc ms : Nat} {rest : List Value} {P : am_H → Option Value → Prop} {a : Array Value} {ad : Nat → Nat} {H : Heap} {locs : List Loc} {ls : Array Slot} {st0 : List Value}
    (hr : va_Run C.pr C.la C.en C.ro C.st C.mi C.ar C.be C.me C.co H locs k n mc ms (F0 C.mi pc ls st0) (rest.map (am_v ad)) (am_Qc C.n0 C.dg C.ty X P ad a) (fun q => C.n0 ≤ q))
    (hsz : C.n0 ≤ H.size) (hfr : ∀ v ∈ rest, ∀ i, v = .ref i → X i ≠ none) (hfl : ∀ q ∈ L, ∀ i, q.2 = .ref i → X i ≠ none)
    (h1 : ∀ i, C.x0 i ≠ none → X i ≠ none ∧ ad i = C.a0 i) (h3 : va_S (fun q => C.n0 ≤ q) C.st.heap H locs) (h4 : lv_has ls C.co.maxLocals (am_L ad L))
    (kk : ∀ (X' : am_H) (r : Option Value), (∀ i, X i ≠ none → X' i ≠ none) → P X' r → am_W C X' (k + mc) (n + ms) (pc + 3) L (r.toList ++ rest)) : W C.pr C.la C.en C.ro C.st C.mi C.ar C.be C.me C.co H locs k n C.go (F0 C.mi pc ls st0) := by
  intro T hT Y
  obtain ⟨v, st₀, t, T', L9, h0, Y', hL, e1, e2, ⟨⟨ad', X', r, hag, hv, hp, hR⟩, hz, hk⟩, stp⟩ := hr T hT Y
  cases hv
  rw [h0] at hz hk
  have hvv : ∀ v : Value, (∀ i, v = .ref i → X i ≠ none) → am_v ad' v = am_v ad v := by
    intro v hv
    cases v with
    | ref i => show Value.ref _ = Value.ref _; rw [(hag i (hv i rfl)).2]
    | _ => rfl
  have hLL : am_L ad' L = am_L ad L := by
    unfold am_L
    refine List.map_congr_left (fun q hq => ?_)
    rw [hvv q.2 (hfl q hq)]
  have hRR : rest.map (am_v ad') = rest.map (am_v ad) := List.map_congr_left (fun v hv => hvv v (hfr v hv))
  have hS' : va_S (fun q => C.n0 ≤ q) C.st.heap T'.heap (locs ++ L9) := by
    refine ⟨Nat.le_trans h3.1 (by rw [e1]; exact hz), fun q g1 g2 => ?_, fun q hq => ?_⟩
    · rw [e1, hk q (Nat.lt_of_lt_of_le g1 h3.1) g2]; exact h3.2.1 q g1 g2
    · rcases List.mem_append.mp hq with h | h
      · exact h3.2.2 q h
      · exact hL q h
  obtain ⟨t2, a1, b1⟩ := kk X' r (fun i hi => (hag i hi).1) hp ad' T'.heap (locs ++ L9) ls (fun i hi => ⟨(hag i (h1 i hi).1).1, ((hag i (h1 i hi).1).2).trans (h1 i hi).2⟩) (by rw [e1]; exact hR) hS' (by rw [hLL]; exact h4) T' rfl Y'
  refine ⟨t2, stp t2 ?_, b1⟩
  rw [List.map_append, hRR] at a1
  cases r with
  | none => exact a1
  | some w => exact a1
end
