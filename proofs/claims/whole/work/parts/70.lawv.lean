/-! the law's first instructions: the references are identities yet, the script's is real -/
def lV (C : am_Cx) (b : Nat) (X : am_H) (k n pc : Nat) (L : List (Nat × Value)) (st : List Value) : Prop :=
  ∀ (ad : Nat → Nat) (H : Heap) (locs : List Loc) (ls : Array Slot), am_R C.n0 C.dg C.ty ad X H → va_S (fun q => C.n0 ≤ q) C.st.heap H locs → lv_has ls C.co.maxLocals ((0, .ref b) :: am_L ad L) →
    W C.pr C.la C.en C.ro C.st C.mi C.ar C.be C.me C.co H locs k n C.go (F0 C.mi pc ls (st.map (am_v ad)))
section
variable {C : am_Cx} {b : Nat} {X : am_H} {k n pc : Nat} {L : List (Nat × Value)} {st : List Value} {cc : ByteArray} {nL : Nat} {own : String} {Ts : List Cond}
theorem v_eqX (X' : am_H) (hX : X = X') (h : lV C b X' k n pc L st) : lV C b X k n pc L st := hX ▸ h
theorem v_dup (hF : am_F C cc nL own Ts) {i : Nat} (hd : decode cc pc = .ok (.dup, 1)) (kk : lV C b X k n (pc + 1) L (.ref i :: .ref i :: st)) : lV C b X k n pc L (.ref i :: st) := fun ad H locs ls h2 h3 h4 => lv_dup hF.1.1 hF.1.2.1 hd rfl (kk ad H locs ls h2 h3 h4)
theorem v_ic (hF : am_F C cc nL own Ts) {m : Int} {x : Int32} (hd : decode cc pc = .ok (.iconst m, 1)) (hx : Int32.ofInt m = x) (kk : lV C b X k n (pc + 1) L (.int x :: st)) : lV C b X k n pc L st := fun ad H locs ls h2 h3 h4 => lv_iconst hF.1.1 hF.1.2.1 hd hx (kk ad H locs ls h2 h3 h4)
theorem v_ast (hF : am_F C cc nL own Ts) {kf : Fin 4} {i j : Nat} (hd : decode cc pc = .ok (.astore_n kf, 1)) (hi : (kf : Nat) = i) (hn : i < nL) (h0 : ¬ i = 0) (hL : ∀ q ∈ L, ¬ q.1 = i ∧ q.2.category = 1) (kk : lV C b X k n (pc + 1) ((i, .ref j) :: L) st) : lV C b X k n pc L (.ref j :: st) := by
  intro ad H locs ls h2 h3 h4
  obtain ⟨⟨hx, hb, hml, hown, hts⟩, hK, hN, hlk⟩ := hF
  refine lv_astore_n hx hb hd hi h4 (by rw [hml]; exact hn) rfl (fun ls' h => kk ad H locs ls' h2 h3 ⟨h.1, h.2.1, fun q hq => h.2.2 q ?_⟩)
  rcases List.mem_cons.mp hq with rfl | hq
  · refine List.mem_cons_of_mem _ (List.mem_filter.mpr ⟨List.mem_cons_self, ?_⟩)
    have e : ((0 : Nat) == i) = false := beq_eq_false_iff_ne.mpr (fun e => h0 e.symm)
    show (!((0 : Nat) == i) && !((0 + 1 : Nat) == i && ((1 : Nat) == 2))) = true
    rw [e]
    simp
  · have hq : q ∈ (i, Value.ref (ad j)) :: am_L ad L := hq
    rcases List.mem_cons.mp hq with rfl | hq
    · exact List.mem_cons_self
    · refine List.mem_cons_of_mem _ (List.mem_filter.mpr ⟨List.mem_cons_of_mem _ hq, ?_⟩)
      obtain ⟨r, hr, rfl⟩ := List.mem_map.mp hq
      have h9 := hL r hr
      have e : (r.1 == i) = false := beq_eq_false_iff_ne.mpr h9.1
      show (!(r.1 == i) && !(r.1 + 1 == i && ((am_v ad r.2).category == 2))) = true
      rw [e, am_v_cat, h9.2]
      simp
theorem v_new (hF : am_F C cc nL own Ts) (i : Nat) (hi : X i = none) {Cn : String} {T : u_T} {N ci index : Nat} {fs : List Value} (hc : vwCl[ci]? = some (Cn, T, N)) (hin : ∀ w ∈ u_ws Cn T N, w ∈ Ts) (ty0 : Nat → FieldType) (hty : ∀ k, k < N → parseFieldDescriptor (T k).2.2.1 = some (ty0 k)) (hcl : Cond.classLink own index Cn ∈ Ts) (hinst : Cond.instantiable Cn N ∈ Ts) (hini : Cond.initialized Cn ∈ Ts) (hfs : ∀ j, j < N → defaultValue (ty0 j) = vp_V fs j) (hnf : ∀ ad, fs.map (am_v ad) = fs) (hfr : am_fr X i) (hnr : am_nr i (L.map (·.2) ++ st)) (k2 n2 : Nat) (hroom : k + 1 ≤ k2 ∧ n + N ≤ n2 ∧ k2 ≤ C.ro.cells ∧ n2 ≤ C.ro.slots) (hd : decode cc pc = .ok (.new index, 3))
    (kk : lV C b (am_u X i (.inr (ci, fs))) k2 n2 (pc + 3) L (.ref i :: st)) : lV C b X k n pc L st := by
  intro ad H locs ls h2 h3 h4
  obtain ⟨⟨hx, hb, hml, hown, hts⟩, hK, hN, hlk⟩ := hF
  obtain ⟨hr1, hr2, hr3, hr4⟩ := hroom
  have hKn := hK.1 ci _ hc
  refine W.newcK hx hb hown (hts _ hcl) (hts _ hinst) (hts _ hini) rfl hd (Nat.le_trans hr1 hr3) (Nat.le_trans hr2 hr4) hKn.2.1 rfl fun H1 kC hkC e1 z1 o1 => ?_
  have hRr := h2.push (e := .inr (ci, fs)) hi hfr (Nat.le_trans hN h3.1) (H1 := H1) ⟨_, hc, (by show t_OB _ _ _ _ _ (vp_V (fs.map _)); rw [hnf]; exact (u_born ty0 hts hin hKn hkC e1 hty).to hfs)⟩ o1
  have hk9 := kk (va_up ad i H.size) H1 locs ls hRr (am_S9 h3 z1 o1) (by rw [am_nr_L (fun v hv => hnr v (List.mem_append_left _ hv))]; exact h4)
  rw [List.map_cons, am_nr_map (fun v hv => hnr v (List.mem_append_right _ hv))] at hk9
  refine W.widen hr1 hr2 ?_
  have e9 : am_v (va_up ad i H.size) (.ref i) = .ref H.size := by show Value.ref _ = _; rw [va_up_self]
  rw [e9] at hk9
  exact hk9
theorem v_newa (hF : am_F C cc nL own Ts) (i : Nat) (hi : X i = none) (t m : Nat) {x : Int32} {atype : ArrayType} {a0 : vp_A} (ht : t < 7) (hat : newarray.typeOf atype = am_ft t) (harr : Cond.arrayClass (newarray.typeOf atype) ∈ Ts) (ha : ∀ cA : ClassId, vp_cell cA a0 = arrV cA m (fun _ => defaultValue (am_ft t))) (hna : ∀ ad, am_a ad a0 = a0) (hx9 : x = nI m) (hm : m < 2 ^ 20) (hfr : am_fr X i) (hnr : am_nr i (L.map (·.2) ++ st)) (k2 n2 : Nat) (hroom : k + 1 ≤ k2 ∧ n + m ≤ n2 ∧ k2 ≤ C.ro.cells ∧ n2 ≤ C.ro.slots) (hd : decode cc pc = .ok (.newarray atype, 2))
    (kk : lV C b (am_u X i (.inl (t, a0))) k2 n2 (pc + 2) L (.ref i :: st)) : lV C b X k n pc L (.int x :: st) := by
  intro ad H locs ls h2 h3 h4
  obtain ⟨⟨hx, hb, hml, hown, hts⟩, hK, hN, hlk⟩ := hF
  obtain ⟨hr1, hr2, hr3, hr4⟩ := hroom
  have hm31 : m < 2 ^ 31 := Nat.lt_trans hm (by decide)
  have hcb : componentBytes (newarray.typeOf atype) ≤ 8 := by cases atype <;> decide
  refine va_newaK hx hb (hts _ harr) rfl hd rfl (by rw [hx9]; exact nI_pos hm31) (by rw [hx9]; exact nI_clamp hm31) (Nat.le_trans (Nat.mul_le_mul (Nat.le_of_lt hm) hcb) (by decide)) (Nat.le_trans hr1 hr3) (Nat.le_trans hr2 hr4) rfl fun H1 cA e1 z1 o1 hAr hNm => ?_
  have hRA := (hK.2 t _ (am_ty9 ht)).2
  have hcA : C.ty t = cA := by
    rw [hat] at hNm
    unfold va_RA at hRA
    cases hft : am_ft t with
    | object c9 => rw [hft] at hat; cases atype <;> cases hat
    | _ =>
      simp only [hft] at hRA
      rw [hft] at hNm
      exact Option.some.inj (hRA.symm.trans hNm)
  have hRr := h2.push (e := .inl (t, a0)) hi hfr (Nat.le_trans hN h3.1) (H1 := H1) (by
    show H1[H.size]? = some (vp_cell (C.ty t) (am_a _ a0))
    rw [hna, ha, hcA, ← hat]
    exact e1) o1
  have hk9 := kk (va_up ad i H.size) H1 locs ls hRr (am_S9 h3 z1 o1) (by rw [am_nr_L (fun v hv => hnr v (List.mem_append_left _ hv))]; exact h4)
  rw [List.map_cons, am_nr_map (fun v hv => hnr v (List.mem_append_right _ hv))] at hk9
  refine W.widen hr1 hr2 ?_
  have e9 : am_v (va_up ad i H.size) (.ref i) = .ref H.size := by show Value.ref _ = _; rw [va_up_self]
  rw [e9] at hk9
  exact hk9
theorem v_behind {mc ms : Nat} {rest : List Value} {X1 : am_H} {a : Array Value} {ad : Nat → Nat} {H : Heap} {locs : List Loc} {ls : Array Slot} {st0 : List Value}
    (hr : va_Run C.pr C.la C.en C.ro C.st C.mi C.ar C.be C.me C.co H locs k n mc ms (F0 C.mi pc ls st0) (rest.map (am_v ad)) (am_Qc C.n0 C.dg C.ty X (fun X' r' => X' = X1 ∧ r' = none) ad a) (fun q => C.n0 ≤ q))
    (hfr : ∀ v ∈ rest, ∀ i, v = .ref i → X i ≠ none) (hfl : ∀ q ∈ L, ∀ i, q.2 = .ref i → X i ≠ none)
    (h3 : va_S (fun q => C.n0 ≤ q) C.st.heap H locs) (h4 : lv_has ls C.co.maxLocals ((0, .ref b) :: am_L ad L))
    (kk : lV C b X1 (k + mc) (n + ms) (pc + 3) L rest) : W C.pr C.la C.en C.ro C.st C.mi C.ar C.be C.me C.co H locs k n C.go (F0 C.mi pc ls st0) := by
  intro T hT Y
  obtain ⟨v, st₀, t, T', L9, h0, Y', hL, e1, e2, ⟨⟨ad', X', r, hag, hv, hp, hR⟩, hz, hk⟩, stp⟩ := hr T hT Y
  cases hv
  obtain ⟨rfl, rfl⟩ := hp
  rw [h0] at hz hk
  have hvv : ∀ v : Value, (∀ i, v = .ref i → X i ≠ none) → am_v ad' v = am_v ad v := by
    intro v hv
    cases v with
    | ref i => show Value.ref _ = Value.ref _; rw [(hag i (hv i rfl)).2]
    | _ => rfl
  have hLL : am_L ad' L = am_L ad L := by
    unfold am_L
    refine List.map_congr_left (fun q hq => ?_)
    rw [hvv q.2 (hfl q hq)]
  have hRR : rest.map (am_v ad') = rest.map (am_v ad) := List.map_congr_left (fun v hv => hvv v (hfr v hv))
  have hS' : va_S (fun q => C.n0 ≤ q) C.st.heap T'.heap (locs ++ L9) := by
    refine ⟨Nat.le_trans h3.1 (by rw [e1]; exact hz), fun q g1 g2 => ?_, fun q hq => ?_⟩
    · rw [e1, hk q (Nat.lt_of_lt_of_le g1 h3.1) g2]; exact h3.2.1 q g1 g2
    · rcases List.mem_append.mp hq with h | h
      · exact h3.2.2 q h
      · exact hL q h
  obtain ⟨t2, a1, b1⟩ := kk ad' T'.heap (locs ++ L9) ls (by rw [e1]; exact hR) hS' (by rw [hLL]; exact h4) T' rfl Y'
  refine ⟨t2, stp t2 ?_, b1⟩
  rw [hRR] at a1
  exact a1
theorem v_dI {w0 : Cond} (hF : am_F C cc nL own (w0 :: am_G)) (hK9 : am_K C.n0 C.dg C.ty C.st) {y : MethodName} {ccY : ByteArray} {nY : Nat} {rm : Room} {X1 : am_H} {i : Nat} (rest : List Value) {index : Nat}
    (hB : am_D C.se y (.code y ccY nY none :: am_G) rm X [.ref i] X1 none) (hM : am_M y ccY nY none 0) (hV : Cond.instanceMethod y ∈ am_G) (hy : y.name = "<init>") (hlink : Cond.methodLink own index y ∈ am_G)
    (k2 n2 : Nat) (hro : rm.frames + 1 ≤ C.ro.frames ∧ 8 + (nY + 11) + rm.locals ≤ C.ro.locals) (hroom : k + rm.cells ≤ k2 ∧ n + rm.slots ≤ n2 ∧ k2 ≤ C.ro.cells ∧ n2 ≤ C.ro.slots) (hlv : am_lv X (L.map (·.2) ++ rest)) (hcat : (rest.map fun v => v.category).sum ≤ 8) (hd : decode cc pc = .ok (.invokespecial index, 3))
    (kk : lV C b X1 k2 n2 (pc + 3) L rest) : lV C b X k n pc L (.ref i :: rest) := by
  intro ad H locs ls h2 h3 h4
  obtain ⟨hr1, hr2, hr3, hr4⟩ := hroom
  obtain ⟨⟨hx1, hb, hml, hown, hts⟩, hK, hN, hlk⟩ := hF
  have hgood : GoodIn (w0 :: am_G) (.code y ccY nY none :: am_G) := am_gd (fun w hw => by
    rcases List.mem_cons.mp hw with rfl | h
    · exact hM.1
    · exact h)
  exact v_behind (a := (Value.ref (ad i) :: ([] : List Value).map (am_v ad)).toArray) (va_runI (As := ([] : List Value).map (am_v ad)) (rest := rest.map (am_v ad)) (b := ad i) ⟨hx1, hb, hml, hown, hts⟩ (hB ad) (cwI 0 hts hgood rfl rfl rfl (hts _ (List.mem_cons_of_mem _ hM.2.1)) (hts _ (List.mem_cons_of_mem _ hlink)) (hts _ (List.mem_cons_of_mem _ hV)) hy hM.2.2 hro) ⟨am_blind, am_pre (av := [.ref i]) hK9 hN h2 h3⟩ rfl rfl (by rw [← hml]; exact h4.1) rfl (lv_room (by rw [am_cat]; exact hcat)) hd ⟨Nat.le_trans hr1 hr3, Nat.le_trans hr2 hr4⟩) (fun v hv => hlv v (List.mem_append_right _ hv)) (am_lv_L (fun v hv => hlv v (List.mem_append_left _ hv))) h3 h4 (fun ad H locs ls a b c => W.widen hr1 hr2 (kk ad H locs ls a b c))
theorem v_toL (kk : ∀ q : Nat × Nat × Nat, lW C q X k n pc [(0, .ref b), (1, .ref q.1), (2, .ref q.2.2), (3, .ref q.2.1)] []) : lV C b X k n pc [(3, .ref 464), (2, .ref 465), (1, .ref 0)] [] := fun ad H locs ls h2 h3 h4 => kk (ad 0, ad 464, ad 465) ad H locs ls ⟨rfl, rfl, rfl⟩ h2 h3 (lv_sub h4 [0, 3, 2, 1] rfl)
end
theorem dLW_0 : decode code 0 = .ok (.new 8, 3) := by decide +kernel
theorem dLW_3 : decode code 3 = .ok (.dup, 1) := by decide +kernel
theorem dLW_4 : decode code 4 = .ok (.invokespecial 123, 3) := by decide +kernel
theorem dLW_7 : decode code 7 = .ok (.astore_n 1, 1) := by decide +kernel
theorem dLW_8 : decode code 8 = .ok (.new 124, 3) := by decide +kernel
theorem dLW_11 : decode code 11 = .ok (.dup, 1) := by decide +kernel
theorem dLW_12 : decode code 12 = .ok (.invokespecial 126, 3) := by decide +kernel
theorem dLW_15 : decode code 15 = .ok (.astore_n 2, 1) := by decide +kernel
theorem dLW_16 : decode code 16 = .ok (.iconst 1, 1) := by decide +kernel
theorem dLW_17 : decode code 17 = .ok (.newarray .long, 2) := by decide +kernel
theorem dLW_19 : decode code 19 = .ok (.astore_n 3, 1) := by decide +kernel
theorem dLW_29 : decode code 29 = .ok (.if_icmp .gt 2365, 3) := by decide +kernel
theorem dLW_39 : decode code 39 = .ok (.tableswitch 2349 0 34 #[153, 209, 289, 357, 437, 512, 620, 695, 763, 819, 875, 943, 1035, 1091, 1147, 1203, 1299, 1355, 1411, 1467, 1523, 1579, 1635, 1648, 1661, 1717, 1773, 1829, 1885, 1953, 2009, 2077, 2157, 2225, 2293], 153) := by decide +kernel
theorem dLW_35 : decode code 35 = .ok (.iaload, 1) := by decide +kernel
theorem dLW_26 : decode code 26 = .ok (.arraylength, 1) := by decide +kernel
theorem hX0_cl : am_cl hX0 := hI_16 ▸ hI_cl 16 (Nat.le_refl 16)
def hX6 : am_H := am_u hX0 465 (.inr (6, [.int 0, .int 0, .int 0, .null, .null, .null, .null, .null, .null, .int 0, .null, .null, .null, .null, .null, .null, .null, .int 0, .null, .null, .null, .null, .null, .null, .null, .null, .null, .null, .null, .null, .null, .null, .null, .null, .null, .null]))
theorem hX6_hi : ∀ i, 465 < i → hX6 i = none := fun i hi => (am_un (show i ≠ 465 by omega) rfl).trans (hX0_none (by omega))
theorem hX6_cl : am_cl hX6 := by
  unfold hX6
  refine am_cl_u hX0_cl (fun r hr => ?_)
  simp [am_mn] at hr
def hX7 : am_H := fun i => if i < 465 then hX6 i else hpM S0 i
theorem hX7_cl : am_cl hX7 := by
  have h := am_ms_cl (l := mAll) hX6_cl
  rw [am_ms_all hX6_hi] at h
  exact h
theorem hX7_0 : hX7 464 = none := by
  show (if 464 < 465 then hX6 464 else hpM S0 464) = none
  rw [if_pos (by decide)]
  exact (am_un (show 464 ≠ 465 by decide) rfl).trans (hX0_none (by decide))
theorem hX7_8 : am_u hX7 464 (.inl (6, 1, .inr (.inl (fun _ => 0)))) = hp T0 S0 (fun _ => 0) := by
  funext i
  unfold am_u hX7 hp
  by_cases h : i = 464
  · subst h; rw [if_pos rfl, if_neg (by decide), if_pos (by decide)]; rfl
  · rw [if_neg h]
    by_cases h2 : i < 464
    · rw [if_pos (show i < 465 by omega), if_pos h2]
      show am_u hX0 465 _ i = _
      unfold am_u
      rw [if_neg (show ¬ i = 465 by omega)]
      unfold hX0
      rw [if_pos h2]
    · rw [if_neg (show ¬ i < 465 by omega), if_neg h2, if_neg (show ¬ i < 465 by omega)]
set_option maxRecDepth 100000 in
set_option maxHeartbeats 2000000 in
theorem law_begin {C : am_Cx} {w0 : Cond} {b : Nat} (hF : am_F C code 7 RL (w0 :: am_G)) (hK9 : am_K C.n0 C.dg C.ty C.st) (hro : C.ro = room_1) (kk : ∀ q : Nat × Nat × Nat, lW C q (hp T0 S0 (fun _ => 0)) 71 18836 20 [(0, .ref b), (1, .ref q.1), (2, .ref q.2.2), (3, .ref q.2.1)] []) : lV C b (fun _ => none) 0 0 0 [] [] := by
  refine v_new hF 0 rfl (ci := 5) rfl (inG 5 inG5) tyX5 tyX5_ok (List.mem_cons_of_mem _ lc_RL_8) (List.mem_cons_of_mem _ li_RX5) (List.mem_cons_of_mem _ lz_RX5) (fs := [.null, .null, .null, .int 0, .null, .int 0, .null, .int 0, .int 0]) hfsX5 (fun _ => rfl) (am_cl_fr am_cl_0 rfl) am_nr_nil 1 9 ⟨Nat.le_of_ble_eq_true rfl, Nat.le_of_ble_eq_true rfl, by rw [hro]; exact Nat.le_of_ble_eq_true rfl, by rw [hro]; exact Nat.le_of_ble_eq_true rfl⟩ dLW_0 ?_
  refine v_dup hF dLW_3 ?_
  refine v_dI hF hK9 [.ref 0] (c_init5 (G := C.se)) myX5_init iyX5_init rfl lm_RL_123 38 455 ⟨by rw [hro]; exact Nat.le_of_ble_eq_true rfl, by rw [hro]; exact Nat.le_of_ble_eq_true rfl⟩ ⟨Nat.le_of_ble_eq_true rfl, Nat.le_of_ble_eq_true rfl, by rw [hro]; exact Nat.le_of_ble_eq_true rfl, by rw [hro]; exact Nat.le_of_ble_eq_true rfl⟩ (am_lv_ref (am_us _ _ _) am_lv_nil) (Nat.le_of_ble_eq_true rfl) dLW_4 ?_
  refine v_ast hF dLW_7 (i := 1) rfl (by decide) (by decide) (fun _ h => absurd h List.not_mem_nil) ?_
  refine v_new hF 465 (hX0_none (by decide)) (ci := 6) rfl (inG 6 inG6) tyX6 tyX6_ok (List.mem_cons_of_mem _ lc_RL_124) (List.mem_cons_of_mem _ li_RX6) (List.mem_cons_of_mem _ lz_RX6) (fs := [.int 0, .int 0, .int 0, .null, .null, .null, .null, .null, .null, .int 0, .null, .null, .null, .null, .null, .null, .null, .int 0, .null, .null, .null, .null, .null, .null, .null, .null, .null, .null, .null, .null, .null, .null, .null, .null, .null, .null]) hfsX6 (fun _ => rfl) (am_cl_fr hX0_cl (hX0_none (by decide))) (am_nr_c (fun h => absurd (Value.ref.inj h) (by decide)) am_nr_nil) 39 491 ⟨Nat.le_of_ble_eq_true rfl, Nat.le_of_ble_eq_true rfl, by rw [hro]; exact Nat.le_of_ble_eq_true rfl, by rw [hro]; exact Nat.le_of_ble_eq_true rfl⟩ dLW_8 ?_
  refine v_dup hF dLW_11 ?_
  refine v_eqX hX6 rfl ?_
  refine v_dI hF hK9 [.ref 465] (c_init6 (G := C.se) (X := hX6) (am_us _ _ _) hX6_hi hX6_cl) myX6_init iyX6_init rfl lm_RL_126 70 18835 ⟨by rw [hro]; exact Nat.le_of_ble_eq_true rfl, by rw [hro]; exact Nat.le_of_ble_eq_true rfl⟩ ⟨Nat.le_of_ble_eq_true rfl, Nat.le_of_ble_eq_true rfl, by rw [hro]; exact Nat.le_of_ble_eq_true rfl, by rw [hro]; exact Nat.le_of_ble_eq_true rfl⟩ (am_lv_ref (e := (.inr (5, [.ref 1, .ref 2, .ref 3, .int 0, .ref 4, .int 0, .ref 5, .int 0, .int 0]))) rfl (am_lv_ref (am_us _ _ _) am_lv_nil)) (Nat.le_of_ble_eq_true rfl) dLW_12 ?_
  refine v_eqX hX7 rfl ?_
  refine v_ast hF dLW_15 (i := 2) rfl (by decide) (by decide) (fun q h => by
    simp only [List.mem_cons, List.not_mem_nil, or_false] at h
    subst h
    exact ⟨by decide, rfl⟩) ?_
  refine v_ic hF (x := 1) dLW_16 rfl ?_
  refine v_newa hF 464 hX7_0 6 1 (a0 := (1, .inr (.inl (fun _ => 0)))) (atype := .long) (by decide) rfl (List.mem_cons_of_mem _ la_long) (fun _ => rfl) (fun _ => rfl) rfl (by decide) (am_cl_fr hX7_cl hX7_0) (am_nr_c (fun h => absurd (Value.ref.inj h) (by decide)) (am_nr_c (fun h => absurd (Value.ref.inj h) (by decide)) am_nr_nil)) 71 18836 ⟨Nat.le_of_ble_eq_true rfl, Nat.le_of_ble_eq_true rfl, by rw [hro]; exact Nat.le_of_ble_eq_true rfl, by rw [hro]; exact Nat.le_of_ble_eq_true rfl⟩ dLW_17 ?_
  refine v_eqX (hp T0 S0 (fun _ => 0)) hX7_8 ?_
  refine v_ast hF dLW_19 (i := 3) rfl (by decide) (by decide) (fun q h => by
    simp only [List.mem_cons, List.not_mem_nil, or_false] at h
    rcases h with h | h <;> subst h <;> exact ⟨by decide, rfl⟩) ?_
  exact v_toL kk
