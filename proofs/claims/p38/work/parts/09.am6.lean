/-! my layer, 6: calls -/
theorem am_gd {w0 : Cond} {ws : List Cond} (h : ∀ w ∈ ws, w ∈ am_G) : GoodIn (w0 :: am_G) ws := fun w hw => ⟨List.mem_cons_of_mem _ (h w hw), am_G_good (h w hw)⟩
/-- a method's own words: what a call of it asks of the tables -/
def am_M (y : MethodName) (cc : ByteArray) (nL : Nat) (ret : Option FieldType) (n : Nat) : Prop := Cond.code y cc nL ret ∈ am_G ∧ Cond.initialized y.cls ∈ am_G ∧ (y.cls ≠ "java/lang/invoke/MethodHandle" ∧ y.cls ≠ "java/lang/invoke/VarHandle" ∧ (parseMethodDescriptor y.desc).map (fun d => d.parameters.length) = some n)
def am_MV (y : MethodName) : Prop := Cond.instanceMethod y ∈ am_G ∧ Cond.selects y.cls y y ∈ am_G
theorem am_hn {ad : Nat → Nat} {As rest : List Value} : (As.reverse ++ rest).map (am_v ad) = (As.map (am_v ad)).reverse ++ rest.map (am_v ad) := by rw [List.map_append, List.map_reverse]
theorem am_cat (ad : Nat → Nat) (l : List Value) : ((l.map (am_v ad)).map fun v => v.category).sum = (l.map fun v => v.category).sum := by
  congr 1
  rw [List.map_map]
  exact List.map_congr_left (fun v _ => am_v_cat ad v)
section
variable {C : am_Cx} {X : am_H} {k n pc : Nat} {L : List (Nat × Value)} {st : List Value} {cc : ByteArray} {nL : Nat} {own : String} {Ts : List Cond}
/-- the callee's start out of the caller's place -/
theorem am_pre {av : List Value} {ad : Nat → Nat} {H : Heap} {locs : List Loc} (hK : am_K C.n0 C.dg C.ty C.st) (hN : C.n0 ≤ C.st.heap.size) (h2 : am_R C.n0 C.dg C.ty ad X H) (h3 : va_S (fun q => C.n0 ≤ q) C.st.heap H locs) :
    ∀ U : State, U.heap = H → C.st.WarmedH U.vm → am_Pc C.n0 C.dg C.ty X av ad (av.map (am_v ad)).toArray U := by
  intro U hU hW
  subst hU
  exact ⟨rfl, Nat.le_trans hN h3.1, h2, hK.go hW h3⟩
/-- no reference that isn't live: of a list of values, by computation over the heap's own rows -/
def am_lv (X : am_H) (vs : List Value) : Prop := ∀ v ∈ vs, ∀ i, v = .ref i → X i ≠ none
theorem am_lv_nil {X : am_H} : am_lv X [] := fun _ h => absurd h List.not_mem_nil
theorem am_lv_int {X : am_H} {x : Int32} {vs : List Value} (h : am_lv X vs) : am_lv X (.int x :: vs) := by
  intro v hv i hi
  rcases List.mem_cons.mp hv with rfl | hv
  · cases hi
  · exact h v hv i hi
theorem am_lv_long {X : am_H} {x : Int64} {vs : List Value} (h : am_lv X vs) : am_lv X (.long x :: vs) := by
  intro v hv i hi
  rcases List.mem_cons.mp hv with rfl | hv
  · cases hi
  · exact h v hv i hi
theorem am_lv_null {X : am_H} {vs : List Value} (h : am_lv X vs) : am_lv X (.null :: vs) := by
  intro v hv i hi
  rcases List.mem_cons.mp hv with rfl | hv
  · cases hi
  · exact h v hv i hi
theorem am_lv_ref {X : am_H} {j : Nat} {e : va_E} {vs : List Value} (hj : X j = some e) (h : am_lv X vs) : am_lv X (.ref j :: vs) := by
  intro v hv i hi
  rcases List.mem_cons.mp hv with rfl | hv
  · cases hi
    rw [hj]
    exact fun h => by cases h
  · exact h v hv i hi
theorem am_lv_L {X : am_H} {L : List (Nat × Value)} (h : am_lv X (L.map (·.2))) : ∀ q ∈ L, ∀ i, q.2 = .ref i → X i ≠ none := fun q hq i hi => h q.2 (List.mem_map.mpr ⟨q, hq, rfl⟩) i hi
set_option maxHeartbeats 1000000 in
theorem am_callV {X0 : am_H} {P0 : am_H → Option Value → Prop} {R : Room} {w0 : Cond} (hF : am_F C cc nL own (w0 :: am_G)) (hO : am_O C X0 P0 R) {y : MethodName} {ccY : ByteArray} {nY : Nat} {ret : Option FieldType} {rm : Room} {P : am_H → Option Value → Prop} {b : Nat} {As rest : List Value} {index nn : Nat}
    (hB : am_B C.se y (.code y ccY nY ret :: am_G) rm X (.ref b :: As) P) (hM : am_M y ccY nY ret nn) (hV : am_MV y) (hlink : Cond.methodLink own index y ∈ am_G) {ci : Nat} {fs : List Value} (hX : X b = some (.inr (ci, fs))) {T : u_T} {N : Nat} (hc : vwCl[ci]? = some (y.cls, T, N))
    (hnn : As.length = nn) (k2 n2 : Nat) (hro : rm.frames + 1 ≤ R.frames ∧ 8 + (nY + 11) + rm.locals ≤ R.locals) (hroom : k + rm.cells ≤ k2 ∧ n + rm.slots ≤ n2 ∧ k2 ≤ R.cells ∧ n2 ≤ R.slots) (hst : st = As.reverse ++ .ref b :: rest) (hlv : am_lv X (L.map (·.2) ++ rest)) (hcat : (rest.map fun v => v.category).sum ≤ 8) (hd : decode cc pc = .ok (.invokevirtual index, 3))
    (kk : ∀ (X' : am_H) (r : Option Value), (∀ i, X i ≠ none → X' i ≠ none) → P X' r → am_W C X' k2 n2 (pc + 3) L (r.toList ++ rest)) : am_W C X k n pc L st := by
  intro ad H locs ls h1 h2 h3 h4
  obtain ⟨hr1, hr2, hr3, hr4⟩ := hroom
  rw [← hO.2.2.2] at hro hr3 hr4
  obtain ⟨⟨hx1, hb, hml, hown, hts⟩, hK, hN, hlk⟩ := hF
  obtain ⟨r', hr', cellB, g1, g2, g3, -⟩ := (h2.1 b _ hX).1
  have hcls := (hK.1 ci _ hc).2
  have hgood : GoodIn (w0 :: am_G) (wsV own index y.cls y (.code y ccY nY ret :: am_G)) := am_gd (fun w hw => by
    rcases List.mem_append.mp hw with h | h
    · simp only [List.mem_cons, List.not_mem_nil, or_false] at h
      rcases h with rfl | rfl | rfl | rfl
      · exact hlink
      · exact hV.1
      · exact hV.2
      · exact hM.2.1
    · rcases List.mem_cons.mp h with rfl | h
      · exact hM.1
      · exact h)
  refine am_behind (a := (Value.ref (ad b) :: As.map (am_v ad)).toArray) (va_runV (As := As.map (am_v ad)) (rest := rest.map (am_v ad)) (b := ad b) ⟨hx1, hb, hml, hown, hts⟩ (hB ad) (cwV nn hts hgood rfl rfl rfl ⟨rfl, hM.2.2⟩ hro) ⟨am_blind, ⟨cellB, g1, by rw [g3]; rfl, by rw [g2]; exact hcls.1⟩, am_pre hO.1 hN h2 h3⟩ rfl (by rw [List.length_map]; exact hnn) (by rw [← hml]; exact h4.1) (by rw [hst]; exact am_hn) (lv_room (by rw [am_cat]; exact hcat)) hd ⟨Nat.le_trans hr1 hr3, Nat.le_trans hr2 hr4⟩) (Nat.le_trans hN h3.1) (fun v hv => hlv v (List.mem_append_right _ hv)) (am_lv_L (fun v hv => hlv v (List.mem_append_left _ hv))) h1 h3 h4 (fun X' r g1 g2 => am_widen hr1 hr2 (kk X' r g1 g2))
set_option maxHeartbeats 1000000 in
theorem am_callS {X0 : am_H} {P0 : am_H → Option Value → Prop} {R : Room} {w0 : Cond} (hF : am_F C cc nL own (w0 :: am_G)) (hO : am_O C X0 P0 R) {y : MethodName} {ccY : ByteArray} {nY : Nat} {ret : Option FieldType} {rm : Room} {P : am_H → Option Value → Prop} {As rest : List Value} {index nn : Nat}
    (hB : am_B C.se y (.code y ccY nY ret :: am_G) rm X As P) (hM : am_M y ccY nY ret nn) (hV : Cond.static y ∈ am_G) (hlink : Cond.methodLink own index y ∈ am_G)
    (hnn : As.length = nn) (k2 n2 : Nat) (hro : rm.frames + 1 ≤ R.frames ∧ 8 + (nY + 11) + rm.locals ≤ R.locals) (hroom : k + rm.cells ≤ k2 ∧ n + rm.slots ≤ n2 ∧ k2 ≤ R.cells ∧ n2 ≤ R.slots) (hst : st = As.reverse ++ rest) (hlv : am_lv X (L.map (·.2) ++ rest)) (hcat : (rest.map fun v => v.category).sum ≤ 8) (hd : decode cc pc = .ok (.invokestatic index, 3))
    (kk : ∀ (X' : am_H) (r : Option Value), (∀ i, X i ≠ none → X' i ≠ none) → P X' r → am_W C X' k2 n2 (pc + 3) L (r.toList ++ rest)) : am_W C X k n pc L st := by
  intro ad H locs ls h1 h2 h3 h4
  obtain ⟨hr1, hr2, hr3, hr4⟩ := hroom
  rw [← hO.2.2.2] at hro hr3 hr4
  obtain ⟨⟨hx1, hb, hml, hown, hts⟩, hK, hN, hlk⟩ := hF
  have hgood : GoodIn (w0 :: am_G) (va_wsS own index y (.code y ccY nY ret :: am_G)) := am_gd (fun w hw => by
    rcases List.mem_append.mp hw with h | h
    · simp only [List.mem_cons, List.not_mem_nil, or_false] at h
      rcases h with rfl | rfl | rfl
      · exact hlink
      · exact hV
      · exact hM.2.1
    · rcases List.mem_cons.mp h with rfl | h
      · exact hM.1
      · exact h)
  refine am_behind (a := (As.map (am_v ad)).toArray) (va_runS (As := As.map (am_v ad)) (rest := rest.map (am_v ad)) ⟨hx1, hb, hml, hown, hts⟩ (hB ad) (va_cwS nn hts hgood rfl rfl rfl hM.2.2 hro) ⟨am_blind, am_pre hO.1 hN h2 h3⟩ rfl (by rw [List.length_map]; exact hnn) (by rw [← hml]; exact h4.1) (by rw [hst]; exact am_hn) (lv_room (by rw [am_cat]; exact hcat)) hd ⟨Nat.le_trans hr1 hr3, Nat.le_trans hr2 hr4⟩) (Nat.le_trans hN h3.1) (fun v hv => hlv v (List.mem_append_right _ hv)) (am_lv_L (fun v hv => hlv v (List.mem_append_left _ hv))) h1 h3 h4 (fun X' r g1 g2 => am_widen hr1 hr2 (kk X' r g1 g2))
set_option maxHeartbeats 1000000 in
theorem am_callSN {X0 : am_H} {P0 : am_H → Option Value → Prop} {R : Room} {w0 : Cond} (hF : am_F C cc nL own (w0 :: am_G)) (hO : am_O C X0 P0 R) {y : MethodName} {ccY : ByteArray} {nY : Nat} {ret : Option FieldType} {rm : Room} {P : am_H → Option Value → Prop} {As rest : List Value} {index nn : Nat}
    (hB : am_B C.se y (.code y ccY nY ret :: am_G) rm X As P) (hM : am_M y ccY nY ret nn) (hV : Cond.static y ∈ am_G) (hlink : (own, index, y) ∈ am_N)
    (hnn : As.length = nn) (k2 n2 : Nat) (hro : rm.frames + 1 ≤ R.frames ∧ 8 + (nY + 11) + rm.locals ≤ R.locals) (hroom : k + rm.cells ≤ k2 ∧ n + rm.slots ≤ n2 ∧ k2 ≤ R.cells ∧ n2 ≤ R.slots) (hst : st = As.reverse ++ rest) (hlv : am_lv X (L.map (·.2) ++ rest)) (hcat : (rest.map fun v => v.category).sum ≤ 8) (hd : decode cc pc = .ok (.invokestatic index, 3))
    (kk : ∀ (X' : am_H) (r : Option Value), (∀ i, X i ≠ none → X' i ≠ none) → P X' r → am_W C X' k2 n2 (pc + 3) L (r.toList ++ rest)) : am_W C X k n pc L st := by
  intro ad H locs ls h1 h2 h3 h4
  obtain ⟨hr1, hr2, hr3, hr4⟩ := hroom
  rw [← hO.2.2.2] at hro hr3 hr4
  obtain ⟨⟨hx1, hb, hml, hown, hts⟩, hK, hN, hlk⟩ := hF
  have hgood : GoodIn (w0 :: am_G) (.code y ccY nY ret :: am_G) := am_gd (fun w hw => by
    rcases List.mem_cons.mp hw with rfl | h
    · exact hM.1
    · exact h)
  refine am_behind (a := (As.map (am_v ad)).toArray) (va_runSN (As := As.map (am_v ad)) (rest := rest.map (am_v ad)) ⟨hx1, hb, hml, hown, hts⟩ (hB ad) ⟨va_cnB nn hts hgood rfl rfl rfl (hO.1.2.1 _ hlink) (hts _ (List.mem_cons_of_mem _ hM.2.1)) hM.2.2 hro, hts _ (List.mem_cons_of_mem _ hV), trivial⟩ ⟨am_blind, am_pre hO.1 hN h2 h3⟩ rfl (by rw [List.length_map]; exact hnn) (by rw [← hml]; exact h4.1) (by rw [hst]; exact am_hn) (lv_room (by rw [am_cat]; exact hcat)) hd ⟨Nat.le_trans hr1 hr3, Nat.le_trans hr2 hr4⟩) (Nat.le_trans hN h3.1) (fun v hv => hlv v (List.mem_append_right _ hv)) (am_lv_L (fun v hv => hlv v (List.mem_append_left _ hv))) h1 h3 h4 (fun X' r g1 g2 => am_widen hr1 hr2 (kk X' r g1 g2))
set_option maxHeartbeats 1000000 in
theorem am_callI {X0 : am_H} {P0 : am_H → Option Value → Prop} {R : Room} {w0 : Cond} (hF : am_F C cc nL own (w0 :: am_G)) (hO : am_O C X0 P0 R) {y : MethodName} {ccY : ByteArray} {nY : Nat} {rm : Room} {P : am_H → Option Value → Prop} {b : Nat} {As rest : List Value} {index nn : Nat}
    (hB : am_B C.se y (.code y ccY nY none :: am_G) rm X (.ref b :: As) P) (hM : am_M y ccY nY none nn) (hV : Cond.instanceMethod y ∈ am_G) (hy : y.name = "<init>") (hlink : Cond.methodLink own index y ∈ am_G)
    (hnn : As.length = nn) (k2 n2 : Nat) (hro : rm.frames + 1 ≤ R.frames ∧ 8 + (nY + 11) + rm.locals ≤ R.locals) (hroom : k + rm.cells ≤ k2 ∧ n + rm.slots ≤ n2 ∧ k2 ≤ R.cells ∧ n2 ≤ R.slots) (hst : st = As.reverse ++ .ref b :: rest) (hlv : am_lv X (L.map (·.2) ++ rest)) (hcat : (rest.map fun v => v.category).sum ≤ 8) (hd : decode cc pc = .ok (.invokespecial index, 3))
    (kk : ∀ (X' : am_H) (r : Option Value), (∀ i, X i ≠ none → X' i ≠ none) → P X' r → am_W C X' k2 n2 (pc + 3) L (r.toList ++ rest)) : am_W C X k n pc L st := by
  intro ad H locs ls h1 h2 h3 h4
  obtain ⟨hr1, hr2, hr3, hr4⟩ := hroom
  rw [← hO.2.2.2] at hro hr3 hr4
  obtain ⟨⟨hx1, hb, hml, hown, hts⟩, hK, hN, hlk⟩ := hF
  have hgood : GoodIn (w0 :: am_G) (.code y ccY nY none :: am_G) := am_gd (fun w hw => by
    rcases List.mem_cons.mp hw with rfl | h
    · exact hM.1
    · exact h)
  refine am_behind (a := (Value.ref (ad b) :: As.map (am_v ad)).toArray) (va_runI (As := As.map (am_v ad)) (rest := rest.map (am_v ad)) (b := ad b) ⟨hx1, hb, hml, hown, hts⟩ (hB ad) (cwI nn hts hgood rfl rfl rfl (hts _ (List.mem_cons_of_mem _ hM.2.1)) (hts _ (List.mem_cons_of_mem _ hlink)) (hts _ (List.mem_cons_of_mem _ hV)) hy hM.2.2 hro) ⟨am_blind, am_pre hO.1 hN h2 h3⟩ rfl (by rw [List.length_map]; exact hnn) (by rw [← hml]; exact h4.1) (by rw [hst]; exact am_hn) (lv_room (by rw [am_cat]; exact hcat)) hd ⟨Nat.le_trans hr1 hr3, Nat.le_trans hr2 hr4⟩) (Nat.le_trans hN h3.1) (fun v hv => hlv v (List.mem_append_right _ hv)) (am_lv_L (fun v hv => hlv v (List.mem_append_left _ hv))) h1 h3 h4 (fun X' r g1 g2 => am_widen hr1 hr2 (kk X' r g1 g2))
set_option maxHeartbeats 1000000 in
theorem am_callIN {X0 : am_H} {P0 : am_H → Option Value → Prop} {R : Room} {w0 : Cond} (hF : am_F C cc nL own (w0 :: am_G)) (hO : am_O C X0 P0 R) {y : MethodName} {ccY : ByteArray} {nY : Nat} {rm : Room} {P : am_H → Option Value → Prop} {b : Nat} {As rest : List Value} {index nn : Nat}
    (hB : am_B C.se y (.code y ccY nY none :: am_G) rm X (.ref b :: As) P) (hM : am_M y ccY nY none nn) (hV : Cond.instanceMethod y ∈ am_G) (hy : y.name = "<init>") (hlink : (own, index, y) ∈ am_N)
    (hnn : As.length = nn) (k2 n2 : Nat) (hro : rm.frames + 1 ≤ R.frames ∧ 8 + (nY + 11) + rm.locals ≤ R.locals) (hroom : k + rm.cells ≤ k2 ∧ n + rm.slots ≤ n2 ∧ k2 ≤ R.cells ∧ n2 ≤ R.slots) (hst : st = As.reverse ++ .ref b :: rest) (hlv : am_lv X (L.map (·.2) ++ rest)) (hcat : (rest.map fun v => v.category).sum ≤ 8) (hd : decode cc pc = .ok (.invokespecial index, 3))
    (kk : ∀ (X' : am_H) (r : Option Value), (∀ i, X i ≠ none → X' i ≠ none) → P X' r → am_W C X' k2 n2 (pc + 3) L (r.toList ++ rest)) : am_W C X k n pc L st := by
  intro ad H locs ls h1 h2 h3 h4
  obtain ⟨hr1, hr2, hr3, hr4⟩ := hroom
  rw [← hO.2.2.2] at hro hr3 hr4
  obtain ⟨⟨hx1, hb, hml, hown, hts⟩, hK, hN, hlk⟩ := hF
  have hgood : GoodIn (w0 :: am_G) (.code y ccY nY none :: am_G) := am_gd (fun w hw => by
    rcases List.mem_cons.mp hw with rfl | h
    · exact hM.1
    · exact h)
  refine am_behind (a := (Value.ref (ad b) :: As.map (am_v ad)).toArray) (va_runIN (As := As.map (am_v ad)) (rest := rest.map (am_v ad)) (b := ad b) ⟨hx1, hb, hml, hown, hts⟩ (hB ad) ⟨va_cnB nn hts hgood rfl rfl rfl (hO.1.2.1 _ hlink) (hts _ (List.mem_cons_of_mem _ hM.2.1)) hM.2.2 hro, hy, hts _ (List.mem_cons_of_mem _ hV)⟩ ⟨am_blind, am_pre hO.1 hN h2 h3⟩ rfl (by rw [List.length_map]; exact hnn) (by rw [← hml]; exact h4.1) (by rw [hst]; exact am_hn) (lv_room (by rw [am_cat]; exact hcat)) hd ⟨Nat.le_trans hr1 hr3, Nat.le_trans hr2 hr4⟩) (Nat.le_trans hN h3.1) (fun v hv => hlv v (List.mem_append_right _ hv)) (am_lv_L (fun v hv => hlv v (List.mem_append_left _ hv))) h1 h3 h4 (fun X' r g1 g2 => am_widen hr1 hr2 (kk X' r g1 g2))
end
