/-! my layer, 7: cells made; calls whose end is known -/
/-- no cell speaks of the identity i; no value of a list does -/
def am_fr (X : am_H) (i : Nat) : Prop := ∀ (j : Nat) (e : va_E), X j = some e → ∀ (ty : Nat → ClassId) (ad : Nat → Nat) (q : Nat), am_e ty (va_up ad i q) e = am_e ty ad e
def am_nr (i : Nat) (vs : List Value) : Prop := ∀ v ∈ vs, v ≠ .ref i
theorem am_nr_v {i : Nat} {v : Value} (h : v ≠ .ref i) (ad : Nat → Nat) (q : Nat) : am_v (va_up ad i q) v = am_v ad v := by
  cases v with
  | ref a =>
    have : a ≠ i := fun e => h (by rw [e])
    show Value.ref _ = Value.ref _
    rw [va_up_ne _ _ this]
  | _ => rfl
theorem am_nr_map {i : Nat} {vs : List Value} (h : am_nr i vs) (ad : Nat → Nat) (q : Nat) : vs.map (am_v (va_up ad i q)) = vs.map (am_v ad) := List.map_congr_left (fun v hv => am_nr_v (h v hv) ad q)
theorem am_nr_L {i : Nat} {L : List (Nat × Value)} (h : am_nr i (L.map (·.2))) (ad : Nat → Nat) (q : Nat) : am_L (va_up ad i q) L = am_L ad L := List.map_congr_left (fun v hv => by rw [am_nr_v (h v.2 (List.mem_map.mpr ⟨v, hv, rfl⟩)) ad q])
theorem am_nr_nil {i : Nat} : am_nr i [] := fun _ h => absurd h List.not_mem_nil
theorem am_nr_c {i : Nat} {v : Value} {vs : List Value} (h : v ≠ .ref i) (hs : am_nr i vs) : am_nr i (v :: vs) := by
  intro w hw
  rcases List.mem_cons.mp hw with rfl | hw
  · exact h
  · exact hs w hw
theorem am_R.push {N0 : Nat} {D : va_G} {ty : Nat → ClassId} {ad : Nat → Nat} {X : am_H} {H H1 : Heap} (h : am_R N0 D ty ad X H) {i : Nat} {e : va_E} (hi : X i = none) (hfr : am_fr X i) (hN : N0 ≤ H.size) (he : va_at D vwCl (H.size, am_e ty (va_up ad i H.size) e) H1) (ho : ∀ q, q < H.size → H1[q]? = H[q]?) : am_R N0 D ty (va_up ad i H.size) (am_u X i e) H1 := by
  have hl : ∀ {j : Nat}, X j ≠ none → ad j < H.size ∧ j ≠ i := by
    intro j hj
    refine ⟨?_, fun e => hj (by rw [e]; exact hi)⟩
    cases hx : X j with
    | none => exact absurd hx hj
    | some x => exact (h.1 j x hx).1.lt
  have hu : ∀ {j : Nat}, am_u X i e j ≠ none → j = i ∨ X j ≠ none := by
    intro j hj
    by_cases hji : j = i
    · exact Or.inl hji
    · unfold am_u at hj; rw [if_neg hji] at hj; exact Or.inr hj
  refine ⟨fun j x hj => ?_, fun a b ha hb hab => ?_⟩
  · unfold am_u at hj
    by_cases hji : j = i
    · subst hji
      rw [if_pos rfl] at hj
      cases hj
      rw [va_up_self]
      exact ⟨he, hN⟩
    · rw [if_neg hji] at hj
      rw [va_up_ne _ _ hji, hfr j x hj]
      obtain ⟨h1, h2⟩ := h.1 j x hj
      exact ⟨h1.kept (ho _ h1.lt), h2⟩
  · rcases hu ha with rfl | h1 <;> rcases hu hb with rfl | h2
    · rfl
    · rw [va_up_self, va_up_ne _ _ (hl h2).2] at hab
      exact absurd hab (Nat.ne_of_gt (hl h2).1)
    · rw [va_up_self, va_up_ne _ _ (hl h1).2] at hab
      exact absurd hab (Nat.ne_of_lt (hl h1).1)
    · rw [va_up_ne _ _ (hl h1).2, va_up_ne _ _ (hl h2).2] at hab
      exact h.2 a b h1 h2 hab
theorem am_livep {X : am_H} {i : Nat} {e : va_E} (hi : X i = none) {ad : Nat → Nat} {x0 : am_H} {a0 : Nat → Nat} (h : ∀ j, x0 j ≠ none → X j ≠ none ∧ ad j = a0 j) (q : Nat) : ∀ j, x0 j ≠ none → am_u X i e j ≠ none ∧ va_up ad i q j = a0 j := by
  intro j hj
  have hji : j ≠ i := fun e => (h j hj).1 (by rw [e]; exact hi)
  refine ⟨?_, by rw [va_up_ne _ _ hji]; exact (h j hj).2⟩
  unfold am_u
  rw [if_neg hji]
  exact (h j hj).1
section
variable {C : am_Cx} {X : am_H} {k n pc : Nat} {L : List (Nat × Value)} {st : List Value} {cc : ByteArray} {nL : Nat} {own : String} {Ts : List Cond}
theorem am_S9 {H0 H H1 : Heap} {N0 : Nat} {locs : List Loc} (h : va_S (fun q => N0 ≤ q) H0 H locs) (z : H1.size = H.size + 1) (ho : ∀ q, q < H.size → H1[q]? = H[q]?) : va_S (fun q => N0 ≤ q) H0 H1 locs :=
  ⟨Nat.le_trans h.1 (by omega), fun x h1 h2 => (ho x (Nat.lt_of_lt_of_le h1 h.1)).trans (h.2.1 x h1 h2), h.2.2⟩
theorem am_new {X0 : am_H} {P0 : am_H → Option Value → Prop} {R : Room} (hF : am_F C cc nL own Ts) (hO : am_O C X0 P0 R) (i : Nat) (hi : X i = none) {Cn : String} {T : u_T} {N ci index : Nat} {fs : List Value} (hc : vwCl[ci]? = some (Cn, T, N)) (hin : ∀ w ∈ u_ws Cn T N, w ∈ Ts) (ty0 : Nat → FieldType) (hty : ∀ k, k < N → parseFieldDescriptor (T k).2.2.1 = some (ty0 k)) (hcl : Cond.classLink own index Cn ∈ Ts) (hinst : Cond.instantiable Cn N ∈ Ts) (hini : Cond.initialized Cn ∈ Ts) (hfs : ∀ j, j < N → defaultValue (ty0 j) = vp_V fs j) (hnf : ∀ ad, fs.map (am_v ad) = fs) (hfr : am_fr X i) (hnr : am_nr i (L.map (·.2) ++ st)) (k2 n2 : Nat) (hroom : k + 1 ≤ k2 ∧ n + N ≤ n2 ∧ k2 ≤ R.cells ∧ n2 ≤ R.slots) (hd : decode cc pc = .ok (.new index, 3))
    (kk : am_W C (am_u X i (.inr (ci, fs))) k2 n2 (pc + 3) L (.ref i :: st)) : am_W C X k n pc L st := by
  intro ad H locs ls h1 h2 h3 h4
  obtain ⟨⟨hx, hb, hml, hown, hts⟩, hK, hN, hlk⟩ := hF
  obtain ⟨hr1, hr2, hr3, hr4⟩ := hroom
  rw [← hO.2.2.2] at hr3 hr4
  have hKn := hK.1 ci _ hc
  refine W.newcK hx hb hown (hts _ hcl) (hts _ hinst) (hts _ hini) rfl hd (Nat.le_trans hr1 hr3) (Nat.le_trans hr2 hr4) hKn.2.1 rfl fun H1 kC hkC e1 z1 o1 => ?_
  have hRr := h2.push (e := .inr (ci, fs)) hi hfr (Nat.le_trans hN h3.1) (H1 := H1) ⟨_, hc, (by show t_OB _ _ _ _ _ (vp_V (fs.map _)); rw [hnf]; exact (u_born ty0 hts hin hKn hkC e1 hty).to hfs)⟩ o1
  have hk9 := kk (va_up ad i H.size) H1 locs ls (am_livep hi h1 _) hRr (am_S9 h3 z1 o1) (by rw [am_nr_L (fun v hv => hnr v (List.mem_append_left _ hv))]; exact h4)
  rw [List.map_cons, am_nr_map (fun v hv => hnr v (List.mem_append_right _ hv))] at hk9
  refine W.widen hr1 hr2 ?_
  have e9 : am_v (va_up ad i H.size) (.ref i) = .ref H.size := by show Value.ref _ = _; rw [va_up_self]
  rw [e9] at hk9
  exact hk9
theorem am_newa {X0 : am_H} {P0 : am_H → Option Value → Prop} {R : Room} (hF : am_F C cc nL own Ts) (hO : am_O C X0 P0 R) (i : Nat) (hi : X i = none) (t m : Nat) {x : Int32} {atype : ArrayType} {a0 : vp_A} (ht : t < 7) (hat : newarray.typeOf atype = am_ft t) (harr : Cond.arrayClass (newarray.typeOf atype) ∈ Ts) (ha : ∀ cA : ClassId, vp_cell cA a0 = arrV cA m (fun _ => defaultValue (am_ft t))) (hna : ∀ ad, am_a ad a0 = a0) (hx9 : x = nI m) (hm : m < 2 ^ 20) (hfr : am_fr X i) (hnr : am_nr i (L.map (·.2) ++ st)) (k2 n2 : Nat) (hroom : k + 1 ≤ k2 ∧ n + m ≤ n2 ∧ k2 ≤ R.cells ∧ n2 ≤ R.slots) (hd : decode cc pc = .ok (.newarray atype, 2))
    (kk : am_W C (am_u X i (.inl (t, a0))) k2 n2 (pc + 2) L (.ref i :: st)) : am_W C X k n pc L (.int x :: st) := by
  intro ad H locs ls h1 h2 h3 h4
  obtain ⟨⟨hx, hb, hml, hown, hts⟩, hK, hN, hlk⟩ := hF
  obtain ⟨hr1, hr2, hr3, hr4⟩ := hroom
  rw [← hO.2.2.2] at hr3 hr4
  have hm31 : m < 2 ^ 31 := Nat.lt_trans hm (by decide)
  have hcb : componentBytes (newarray.typeOf atype) ≤ 8 := by cases atype <;> decide
  refine va_newaK hx hb (hts _ harr) rfl hd rfl (by rw [hx9]; exact nI_pos hm31) (by rw [hx9]; exact nI_clamp hm31) (Nat.le_trans (Nat.mul_le_mul (Nat.le_of_lt hm) hcb) (by decide)) (Nat.le_trans hr1 hr3) (Nat.le_trans hr2 hr4) rfl fun H1 cA e1 z1 o1 hAr hNm => ?_
  have hRA := (hK.2 t _ (am_ty9 ht)).2
  have hcA : C.ty t = cA := by
    rw [hat] at hNm
    unfold va_RA at hRA
    cases hft : am_ft t with
    | object c9 => rw [hft] at hat; cases atype <;> cases hat
    | _ =>
      simp only [hft] at hRA
      rw [hft] at hNm
      exact Option.some.inj (hRA.symm.trans hNm)
  have hRr := h2.push (e := .inl (t, a0)) hi hfr (Nat.le_trans hN h3.1) (H1 := H1) (by
    show H1[H.size]? = some (vp_cell (C.ty t) (am_a _ a0))
    rw [hna, ha, hcA, ← hat]
    exact e1) o1
  have hk9 := kk (va_up ad i H.size) H1 locs ls (am_livep hi h1 _) hRr (am_S9 h3 z1 o1) (by rw [am_nr_L (fun v hv => hnr v (List.mem_append_left _ hv))]; exact h4)
  rw [List.map_cons, am_nr_map (fun v hv => hnr v (List.mem_append_right _ hv))] at hk9
  refine W.widen hr1 hr2 ?_
  have e9 : am_v (va_up ad i H.size) (.ref i) = .ref H.size := by show Value.ref _ = _; rw [va_up_self]
  rw [e9] at hk9
  exact hk9
theorem am_newq {X0 : am_H} {P0 : am_H → Option Value → Prop} {R : Room} (hF : am_F C cc nL own Ts) (hO : am_O C X0 P0 R) (i : Nat) (hi : X i = none) (t m : Nat) {x : Int32} {Cn : String} {index : Nat} (ht : t < 7) (hat : am_ft t = .object Cn) (hcl : Cond.classLink own index Cn ∈ Ts) (hover : Cn ∈ ["MailPriory$Person", "MailPriory$MailList", "MailPriory$Mail", "MailPriory$PostDay"]) (hx9 : x = nI m) (hm : m < 2 ^ 20) (hfr : am_fr X i) (hnr : am_nr i (L.map (·.2) ++ st)) (k2 n2 : Nat) (hroom : k + 1 ≤ k2 ∧ n + m ≤ n2 ∧ k2 ≤ R.cells ∧ n2 ≤ R.slots) (hd : decode cc pc = .ok (.anewarray index, 3))
    (kk : am_W C (am_u X i (.inl (t, m, .inr (.inr (.inr (.inr (fun _ => none))))))) k2 n2 (pc + 3) L (.ref i :: st)) : am_W C X k n pc L (.int x :: st) := by
  intro ad H locs ls h1 h2 h3 h4
  obtain ⟨⟨hx, hb, hml, hown, hts⟩, hK, hN, hlk⟩ := hF
  obtain ⟨hr1, hr2, hr3, hr4⟩ := hroom
  rw [← hO.2.2.2] at hr3 hr4
  have hm31 : m < 2 ^ 31 := Nat.lt_trans hm (by decide)
  have hcl9 : x.toNatClampNeg = m := by rw [hx9]; exact nI_clamp hm31
  refine W.anew hx hb hown (hts _ hcl) (va_AO.use (hO.1.2.2.1 _ hover)) rfl hd rfl (by rw [hx9]; exact nI_pos hm31) (by rw [hcl9]; exact Nat.le_trans (Nat.mul_le_mul (Nat.le_of_lt hm) (Nat.le_refl 4)) (by decide)) (Nat.le_trans hr1 hr3) (by rw [hcl9]; exact Nat.le_trans hr2 hr4) fun cA kA comp f1 f2 f3 f4 => ?_
  rw [hcl9]
  generalize hH1 : H.push ({ cls := cA, slots := Array.replicate m .null, vm := .none } : Cell) = H1
  have z1 : H1.size = H.size + 1 := by rw [← hH1, Array.size_push]
  have e1 : H1[H.size]? = some (arrV cA m (fun _ => .null)) := by rw [← hH1, Array.getElem?_push_size, ← arrV_new]
  have o1 : ∀ q : Nat, q < H.size → H1[q]? = H[q]? := fun q hq => by rw [← hH1, Array.getElem?_push, if_neg (Nat.ne_of_lt hq)]
  have hRA := (hK.2 t _ (am_ty9 ht)).2
  have hcA : C.ty t = cA := by
    unfold va_RA at hRA
    simp only [hat] at hRA
    obtain ⟨kA', comp', -, -, -, k4⟩ := hRA
    exact Option.some.inj (k4.symm.trans f1)
  have hRr := h2.push (e := .inl (t, m, .inr (.inr (.inr (.inr (fun _ => none)))))) hi hfr (Nat.le_trans hN h3.1) (H1 := H1) (by
    show H1[H.size]? = some (vp_cell (C.ty t) (m, .inr (.inr (.inr (.inr (fun _ => none))))))
    rw [hcA, vp_cell_q]
    exact e1) o1
  have hk9 := kk (va_up ad i H.size) H1 locs ls (am_livep hi h1 _) hRr (am_S9 h3 z1 o1) (by rw [am_nr_L (fun v hv => hnr v (List.mem_append_left _ hv))]; exact h4)
  rw [List.map_cons, am_nr_map (fun v hv => hnr v (List.mem_append_right _ hv))] at hk9
  refine W.widen hr1 hr2 ?_
  have e9 : am_v (va_up ad i H.size) (.ref i) = .ref H.size := by show Value.ref _ = _; rw [va_up_self]
  rw [e9] at hk9
  exact hk9
theorem am_oinit {X0 : am_H} {P0 : am_H → Option Value → Prop} {R : Room} (hF : am_F C cc nL own Ts) (hO : am_O C X0 P0 R) {b index : Nat} (hlink : Cond.methodLink own index Lib.objectInit ∈ Ts) (hinst : Cond.instanceMethod Lib.objectInit ∈ Ts) (hcode : Cond.code Lib.objectInit ⟨#[0xb1]⟩ 1 none ∈ Ts) (hro : 1 ≤ R.frames ∧ (st.map fun v => v.category).sum + 12 ≤ R.locals) (hd : decode cc pc = .ok (.invokespecial index, 3)) (kk : am_W C X k n (pc + 3) L st) : am_W C X k n pc L (.ref b :: st) := by
  intro ad H locs ls h1 h2 h3 h4
  obtain ⟨⟨hx, hb, hml, hown, hts⟩, hK, hN, hlk⟩ := hF
  rw [← hO.2.2.2] at hro
  refine W.objInit hx hb hown (hts _ hlink) (hts _ hinst) (hts _ hcode) rfl h4.1 rfl hd hro.1 ?_ (kk ad H locs ls h1 h2 h3 h4)
  show 2 * 0 + _ + 12 ≤ _
  rw [am_cat]
  omega
/-- a contract whose end is known -/
abbrev am_D (G : am_S) (y : MethodName) (ws : List Cond) (rm : Room) (X : am_H) (av : List Value) (X1 : am_H) (r : Option Value) : Prop := am_B G y ws rm X av (fun X' r' => X' = X1 ∧ r' = r)
theorem am_dV {X0 : am_H} {P0 : am_H → Option Value → Prop} {R : Room} {w0 : Cond} (hF : am_F C cc nL own (w0 :: am_G)) (hO : am_O C X0 P0 R) {y : MethodName} {ccY : ByteArray} {nY : Nat} {ret : Option FieldType} {rm : Room} {X1 : am_H} {r : Option Value} {b : Nat} (As rest : List Value) {index nn : Nat}
    (hB : am_D C.se y (.code y ccY nY ret :: am_G) rm X (.ref b :: As) X1 r) (hM : am_M y ccY nY ret nn) (hV : am_MV y) (hlink : Cond.methodLink own index y ∈ am_G) {ci : Nat} {fs : List Value} (hX : X b = some (.inr (ci, fs))) {T : u_T} {N : Nat} (hc : vwCl[ci]? = some (y.cls, T, N))
    (hnn : As.length = nn) (k2 n2 : Nat) (hro : rm.frames + 1 ≤ R.frames ∧ 8 + (nY + 11) + rm.locals ≤ R.locals) (hroom : k + rm.cells ≤ k2 ∧ n + rm.slots ≤ n2 ∧ k2 ≤ R.cells ∧ n2 ≤ R.slots) (hst : st = As.reverse ++ .ref b :: rest) (hlv : am_lv X (L.map (·.2) ++ rest)) (hcat : (rest.map fun v => v.category).sum ≤ 8) (hd : decode cc pc = .ok (.invokevirtual index, 3))
    (st' : List Value) (hs' : r.toList ++ rest = st') (kk : am_W C X1 k2 n2 (pc + 3) L st') : am_W C X k n pc L st :=
  am_callV hF hO hB hM hV hlink hX hc hnn k2 n2 hro hroom hst hlv hcat hd (fun X' r' _ h => by obtain ⟨rfl, rfl⟩ := h; rw [hs']; exact kk)
theorem am_dS {X0 : am_H} {P0 : am_H → Option Value → Prop} {R : Room} {w0 : Cond} (hF : am_F C cc nL own (w0 :: am_G)) (hO : am_O C X0 P0 R) {y : MethodName} {ccY : ByteArray} {nY : Nat} {ret : Option FieldType} {rm : Room} {X1 : am_H} {r : Option Value} (As rest : List Value) {index nn : Nat}
    (hB : am_D C.se y (.code y ccY nY ret :: am_G) rm X As X1 r) (hM : am_M y ccY nY ret nn) (hV : Cond.static y ∈ am_G) (hlink : Cond.methodLink own index y ∈ am_G)
    (hnn : As.length = nn) (k2 n2 : Nat) (hro : rm.frames + 1 ≤ R.frames ∧ 8 + (nY + 11) + rm.locals ≤ R.locals) (hroom : k + rm.cells ≤ k2 ∧ n + rm.slots ≤ n2 ∧ k2 ≤ R.cells ∧ n2 ≤ R.slots) (hst : st = As.reverse ++ rest) (hlv : am_lv X (L.map (·.2) ++ rest)) (hcat : (rest.map fun v => v.category).sum ≤ 8) (hd : decode cc pc = .ok (.invokestatic index, 3))
    (st' : List Value) (hs' : r.toList ++ rest = st') (kk : am_W C X1 k2 n2 (pc + 3) L st') : am_W C X k n pc L st :=
  am_callS hF hO hB hM hV hlink hnn k2 n2 hro hroom hst hlv hcat hd (fun X' r' _ h => by obtain ⟨rfl, rfl⟩ := h; rw [hs']; exact kk)
theorem am_dSN {X0 : am_H} {P0 : am_H → Option Value → Prop} {R : Room} {w0 : Cond} (hF : am_F C cc nL own (w0 :: am_G)) (hO : am_O C X0 P0 R) {y : MethodName} {ccY : ByteArray} {nY : Nat} {ret : Option FieldType} {rm : Room} {X1 : am_H} {r : Option Value} (As rest : List Value) {index nn : Nat}
    (hB : am_D C.se y (.code y ccY nY ret :: am_G) rm X As X1 r) (hM : am_M y ccY nY ret nn) (hV : Cond.static y ∈ am_G) (hlink : (own, index, y) ∈ am_N)
    (hnn : As.length = nn) (k2 n2 : Nat) (hro : rm.frames + 1 ≤ R.frames ∧ 8 + (nY + 11) + rm.locals ≤ R.locals) (hroom : k + rm.cells ≤ k2 ∧ n + rm.slots ≤ n2 ∧ k2 ≤ R.cells ∧ n2 ≤ R.slots) (hst : st = As.reverse ++ rest) (hlv : am_lv X (L.map (·.2) ++ rest)) (hcat : (rest.map fun v => v.category).sum ≤ 8) (hd : decode cc pc = .ok (.invokestatic index, 3))
    (st' : List Value) (hs' : r.toList ++ rest = st') (kk : am_W C X1 k2 n2 (pc + 3) L st') : am_W C X k n pc L st :=
  am_callSN hF hO hB hM hV hlink hnn k2 n2 hro hroom hst hlv hcat hd (fun X' r' _ h => by obtain ⟨rfl, rfl⟩ := h; rw [hs']; exact kk)
theorem am_dI {X0 : am_H} {P0 : am_H → Option Value → Prop} {R : Room} {w0 : Cond} (hF : am_F C cc nL own (w0 :: am_G)) (hO : am_O C X0 P0 R) {y : MethodName} {ccY : ByteArray} {nY : Nat} {rm : Room} {X1 : am_H} {b : Nat} (As rest : List Value) {index nn : Nat}
    (hB : am_D C.se y (.code y ccY nY none :: am_G) rm X (.ref b :: As) X1 none) (hM : am_M y ccY nY none nn) (hV : Cond.instanceMethod y ∈ am_G) (hy : y.name = "<init>") (hlink : Cond.methodLink own index y ∈ am_G)
    (hnn : As.length = nn) (k2 n2 : Nat) (hro : rm.frames + 1 ≤ R.frames ∧ 8 + (nY + 11) + rm.locals ≤ R.locals) (hroom : k + rm.cells ≤ k2 ∧ n + rm.slots ≤ n2 ∧ k2 ≤ R.cells ∧ n2 ≤ R.slots) (hst : st = As.reverse ++ .ref b :: rest) (hlv : am_lv X (L.map (·.2) ++ rest)) (hcat : (rest.map fun v => v.category).sum ≤ 8) (hd : decode cc pc = .ok (.invokespecial index, 3))
    (kk : am_W C X1 k2 n2 (pc + 3) L rest) : am_W C X k n pc L st :=
  am_callI hF hO hB hM hV hy hlink hnn k2 n2 hro hroom hst hlv hcat hd (fun X' r' _ h => by obtain ⟨rfl, rfl⟩ := h; exact kk)
theorem am_dIN {X0 : am_H} {P0 : am_H → Option Value → Prop} {R : Room} {w0 : Cond} (hF : am_F C cc nL own (w0 :: am_G)) (hO : am_O C X0 P0 R) {y : MethodName} {ccY : ByteArray} {nY : Nat} {rm : Room} {X1 : am_H} {b : Nat} (As rest : List Value) {index nn : Nat}
    (hB : am_D C.se y (.code y ccY nY none :: am_G) rm X (.ref b :: As) X1 none) (hM : am_M y ccY nY none nn) (hV : Cond.instanceMethod y ∈ am_G) (hy : y.name = "<init>") (hlink : (own, index, y) ∈ am_N)
    (hnn : As.length = nn) (k2 n2 : Nat) (hro : rm.frames + 1 ≤ R.frames ∧ 8 + (nY + 11) + rm.locals ≤ R.locals) (hroom : k + rm.cells ≤ k2 ∧ n + rm.slots ≤ n2 ∧ k2 ≤ R.cells ∧ n2 ≤ R.slots) (hst : st = As.reverse ++ .ref b :: rest) (hlv : am_lv X (L.map (·.2) ++ rest)) (hcat : (rest.map fun v => v.category).sum ≤ 8) (hd : decode cc pc = .ok (.invokespecial index, 3))
    (kk : am_W C X1 k2 n2 (pc + 3) L rest) : am_W C X k n pc L st :=
  am_callIN hF hO hB hM hV hy hlink hnn k2 n2 hro hroom hst hlv hcat hd (fun X' r' _ h => by obtain ⟨rfl, rfl⟩ := h; exact kk)
end
-- small numbers
theorem am_ad {x y : Int32} {a b : Nat} (hx : x = nI a) (hy : y = nI b) : x + y = nI (a + b) := by rw [hx, hy, nI_add]
theorem am_mu {x y : Int32} {a b : Nat} (hx : x = nI a) (hy : y = nI b) : x * y = nI (a * b) := by rw [hx, hy, pk_mul]
theorem am_sb {x y : Int32} {a b : Nat} (hx : x = nI a) (hy : y = nI b) (h : b ≤ a) : x - y = nI (a - b) := by rw [hx, hy, pk_sub h]
