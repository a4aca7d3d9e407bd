/-! my layer, 4: fields and elements written, cells made -/
theorem am_v_fits {ad : Nat → Nat} {ty : FieldType} {v : Value} (h : fits ty v = true) : fits ty (am_v ad v) = true := by
  cases v <;> first | exact h | (cases ty <;> first | rfl | (revert h; simp [fits]))
theorem am_v_narrow {ad : Nat → Nat} {ty : FieldType} {v : Value} (h : narrow ty v = v) : narrow ty (am_v ad v) = am_v ad v := by
  cases v <;> first | exact h | (cases ty <;> first | rfl | (revert h; simp [narrow, am_v]))
section
variable {C : am_Cx} {X : am_H} {k n pc : Nat} {L : List (Nat × Value)} {st : List Value} {cc : ByteArray} {nL : Nat} {own : String} {Ts : List Cond} {off : Int}
theorem am_putf (hF : am_F C cc nL own Ts) {i ci : Nat} {fs : List Value} (hX : X i = some (.inr (ci, fs))) {Cn ref : String} {T : u_T} {N index : Nat} (hc : vwCl[ci]? = some (Cn, T, N)) (hin : ∀ w ∈ u_ws Cn T N, w ∈ Ts) (ty0 : Nat → FieldType) (hty : ∀ k, k < N → parseFieldDescriptor (T k).2.2.1 = some (ty0 k)) (hnm : ∀ a, a < N → ∀ b, b < N → a ≠ b → (T a).2.1 ≠ (T b).2.1) (j : Nat) (hj : j < N) (hlink : Cond.fieldLink own index ref (T j).2.1 (T j).2.2.1 ∈ Ts) (hsame : (T j).1 = ref) (hfin : (T j).2.2.2 = false ∨ (T j).2.2.2 = true ∧ C.me.name = "<init>" ∧ ref = own) {v : Value} (hn : narrow (ty0 j) v = v) (hfit : fits (ty0 j) v = true) (hl : j < fs.length) (hd : decode cc pc = .ok (.putfield index, 3))
    (kk : am_W C (am_u X i (.inr (ci, fs.set j v))) k n (pc + 3) L st) : am_W C X k n pc L (v :: .ref i :: st) := by
  intro ad H locs ls h1 h2 h3 h4
  obtain ⟨⟨hx, hb, hml, hown, hts⟩, hK, hN, hlk⟩ := hF
  have hap := va_apart (own := own) hts hin ty0 hty hnm hK hc
  obtain ⟨hat, hge⟩ := h2.1 i _ hX
  obtain ⟨r, g1, cell, q1, q2, q3, q4⟩ := hat
  have hr : r = (Cn, T, N) := Option.some.inj (g1.symm.trans hc)
  subst hr
  obtain ⟨hS, hfc, kC, hkC, hkind⟩ := hK.1 ci _ hc
  obtain ⟨cf, kf, fi, f, hi, hsl⟩ := hS j hj
  have hlay := hts _ (hin _ (u_in_lay hj))
  have hst := (u_facts hfc hkC (u_lays hts hin hj) hi).1
  have hd9 := hty j hj
  subst hsame
  have fin : ∀ H' : Heap, H'[ad i]? = some (cell.setSlot (C.dg.2 ci j) (am_v ad v)) → H'.size = H.size → (∀ q, q ≠ ad i → H'[q]? = H[q]?) → W C.pr C.la C.en C.ro C.st C.mi C.ar C.be C.me C.co H' (locs ++ [⟨ad i, C.dg.2 ci j⟩]) k n C.go (F0 C.mi (pc + 3) ls (st.map (am_v ad))) := by
    intro H' e1 e2 e3
    refine kk ad H' _ ls (am_live _ hX h1) (h2.set _ hX ?_ e3) (h3.put e2 e3 hge) h4
    refine ⟨_, hc, t_OB.to (V := updV (vp_V (fs.map (am_v ad))) j (am_v ad v)) ⟨_, e1, q2, q3, t_set q4 hap hj _⟩ (fun q _ => ?_)⟩
    rw [vp_updV_set (by rw [List.length_map]; exact hl)]
    show vp_V _ q = vp_V ((fs.set j v).map (am_v ad)) q
    rw [List.map_set]
  unfold u_lay at hlay
  rcases hfin with hfin | ⟨hfin, hname, hro⟩
  · rw [if_neg (by rw [hfin]; decide)] at hlay
    have h6 := u_store hfc hkC hkind hlay hi hd9 (am_v_narrow (ad := ad) hn) (am_v_fits (ad := ad) hfit)
    refine W.putK hx hb (f := f) ⟨hown, hts _ hlink, ⟨_, _, _, hi⟩, hst⟩ (by rw [q2]; exact h6) q1 q3 (by rw [hsl]; exact k2_hasslot (q4 j hj)) rfl rfl hd fun H' e1 e2 e3 => ?_
    rw [hsl] at e1 ⊢
    exact fin H' e1 e2 e3
  · rw [if_pos hfin] at hlay
    have hcf : C.mi.cls = cf := by
      obtain ⟨_, _, c', _, _, _, -, -, hf', -, -, -, hown2, -⟩ := Cond.laysFinal_spec hlay
      have e1 : c' = cf := by have := hi.symm.trans hf'; simp at this; exact this.1.symm
      rw [hro] at hown2
      rw [← e1]; exact Option.some.inj (hown.symm.trans hown2)
    have h6 := u_fits hfc hkC hkind (Or.inr hlay) hi hd9 (am_v_narrow (ad := ad) hn) (am_v_fits (ad := ad) hfit)
    refine W.putFinK hx hb hown (hts _ hlink) hi hst hcf hname (by rw [q2]; exact h6) q1 q3 (by rw [hsl]; exact k2_hasslot (q4 j hj)) rfl rfl hd fun H' e1 e2 e3 => ?_
    rw [hsl] at e1 ⊢
    exact fin H' e1 e2 e3
theorem am_in {x : Int32} {j m : Nat} (hx : x = nI j) (hj : j < m) (hm : m < 2 ^ 31) : vp_in x m ∧ x.toNatClampNeg = j := by
  subst hx
  exact ⟨vp_in_nI hj hm, nI_clamp (Nat.lt_trans hj hm)⟩
theorem am_iald (hF : am_F C cc nL own Ts) {i m : Nat} {f : Nat → Int32} {x : Int32} (hX : X i = some (.inl (0, m, .inl f))) (j : Nat) (hx : x = nI j) (hj : j < m) (hm : m < 2 ^ 31) (hd : decode cc pc = .ok (.iaload, 1)) (kk : am_W C X k n (pc + 1) L (.int (f j) :: st)) : am_W C X k n pc L (.int x :: .ref i :: st) := by
  intro ad H locs ls h1 h2 h3 h4
  obtain ⟨⟨hx1, hb, hml, hown, hts⟩, hK, hN, hlk⟩ := hF
  have hlt : x.toNatClampNeg < m := by rw [(am_in hx hj hm).2]; exact hj
  have hc9 : H[ad i]? = some (vp_cell (C.ty 0) (m, .inl f)) := (h2.1 i _ hX).1
  exact W.iald (v := .int (f j)) hx1 hb hc9 ((hK.2 0 _ rfl).1 m (fun j => .int (f j))) (fun q => by cases q) (by show ¬ (x < 0 ∨ (arrV _ _ _).slots.size ≤ _); rw [arrV_size]; exact (am_in hx hj hm).1) (by show (arrV _ _ _).slots[_]? = _; rw [arrV_read _ _ hlt, (am_in hx hj hm).2]) rfl rfl hd (kk ad H locs ls h1 h2 h3 h4)
theorem am_lald (hF : am_F C cc nL own Ts) {i m : Nat} {f : Nat → Int64} {x : Int32} (hX : X i = some (.inl (6, m, .inr (.inl f)))) (j : Nat) (hx : x = nI j) (hj : j < m) (hm : m < 2 ^ 31) (hd : decode cc pc = .ok (.laload, 1)) (kk : am_W C X k n (pc + 1) L (.long (f j) :: st)) : am_W C X k n pc L (.int x :: .ref i :: st) := by
  intro ad H locs ls h1 h2 h3 h4
  obtain ⟨⟨hx1, hb, hml, hown, hts⟩, hK, hN, hlk⟩ := hF
  have hlt : x.toNatClampNeg < m := by rw [(am_in hx hj hm).2]; exact hj
  have hc9 : H[ad i]? = some (vp_cell (C.ty 6) (m, .inr (.inl f))) := (h2.1 i _ hX).1
  exact W.lald (v := .long (f j)) hx1 hb hc9 ((hK.2 6 _ rfl).1 m (fun j => .long (f j))) (fun q => by cases q) (by show ¬ (x < 0 ∨ (arrV _ _ _).slots.size ≤ _); rw [arrV_size]; exact (am_in hx hj hm).1) (by show (arrV _ _ _).slots[_]? = _; rw [arrV_read _ _ hlt, (am_in hx hj hm).2]) rfl rfl hd (kk ad H locs ls h1 h2 h3 h4)
theorem am_rf (ad : Nat → Nat) (r : Option Nat) : va_rf (r.map ad) = am_v ad (va_rf r) := by cases r <;> rfl
theorem am_aald (hF : am_F C cc nL own Ts) {i m t : Nat} {Cn : String} {f : Nat → Option Nat} {x : Int32} (hX : X i = some (.inl (t, m, .inr (.inr (.inr (.inr f)))))) (ht : t < 7) (hf : am_ft t = .object Cn) (j : Nat) (hx : x = nI j) (hj : j < m) (hm : m < 2 ^ 31) (v : Value) (hv : va_rf (f j) = v) (hd : decode cc pc = .ok (.aaload, 1)) (kk : am_W C X k n (pc + 1) L (v :: st)) : am_W C X k n pc L (.int x :: .ref i :: st) := by
  intro ad H locs ls h1 h2 h3 h4
  obtain ⟨⟨hx1, hb, hml, hown, hts⟩, hK, hN, hlk⟩ := hF
  have hlt : x.toNatClampNeg < m := by rw [(am_in hx hj hm).2]; exact hj
  have ht9 : (am_tys C.ty)[t]? = some (C.ty t, FieldType.object Cn) := by
    rw [← hf]
    match t, ht with
    | 0, _ => rfl
    | 1, _ => rfl
    | 2, _ => rfl
    | 3, _ => rfl
    | 4, _ => rfl
    | 5, _ => rfl
    | 6, _ => rfl
  have hc9 : H[ad i]? = some (vp_cell (C.ty t) (m, .inr (.inr (.inr (.inr (fun j => (f j).map ad)))))) := (h2.1 i _ hX).1
  exact W.aald (v := am_v ad v) (ty := .object Cn) hx1 hb hc9 ((hK.2 t _ ht9).1 m (fun j => va_rf ((f j).map ad))) rfl (fun q => by cases q) (by show ¬ (x < 0 ∨ (arrV _ _ _).slots.size ≤ _); rw [arrV_size]; exact (am_in hx hj hm).1) (by show (arrV _ _ _).slots[_]? = _; rw [arrV_read _ _ hlt, (am_in hx hj hm).2, am_rf, hv]) rfl rfl hd (kk ad H locs ls h1 h2 h3 h4)
theorem am_iast (hF : am_F C cc nL own Ts) {i m : Nat} {f : Nat → Int32} {x v : Int32} (hX : X i = some (.inl (0, m, .inl f))) (j : Nat) (hx : x = nI j) (hj : j < m) (hm : m < 2 ^ 31) (hd : decode cc pc = .ok (.iastore, 1)) (kk : am_W C (am_u X i (.inl (0, m, .inl (upd f j v)))) k n (pc + 1) L st) : am_W C X k n pc L (.int v :: .int x :: .ref i :: st) := by
  intro ad H locs ls h1 h2 h3 h4
  obtain ⟨⟨hx1, hb, hml, hown, hts⟩, hK, hN, hlk⟩ := hF
  refine W.iast hx1 hb (h2.1 i _ hX).1 ((hK.2 0 _ rfl).1 m (fun j => .int (f j))) (fun q => by cases q) (by show ¬ (x < 0 ∨ (arrV _ _ _).slots.size ≤ _); rw [arrV_size]; exact (am_in hx hj hm).1) rfl rfl hd fun H1 e z oq => ?_
  refine kk ad H1 _ ls (am_live _ hX h1) (h2.set _ hX ?_ oq) (h3.put z oq (h2.1 i _ hX).2) h4
  show H1[ad i]? = some (vp_cell _ _)
  rw [e]
  show some ((vp_cell _ (m, .inl f)).setSlot _ _) = some (vp_cell _ (m, .inl (upd f j v)))
  rw [vp_cell_i, vp_cell_i, arrV_store, (am_in hx hj hm).2]
  congr 2
  funext q
  by_cases hq : q = j
  · subst hq; simp [updV, upd]
  · simp [updV, upd, hq]
def am_updL (f : Nat → Int64) (k : Nat) (x : Int64) : Nat → Int64 := fun j => if j = k then x else f j
theorem am_last (hF : am_F C cc nL own Ts) {i m : Nat} {f : Nat → Int64} {x : Int32} {v : Int64} (hX : X i = some (.inl (6, m, .inr (.inl f)))) (j : Nat) (hx : x = nI j) (hj : j < m) (hm : m < 2 ^ 31) (hd : decode cc pc = .ok (.lastore, 1)) (kk : am_W C (am_u X i (.inl (6, m, .inr (.inl (am_updL f j v))))) k n (pc + 1) L st) : am_W C X k n pc L (.long v :: .int x :: .ref i :: st) := by
  intro ad H locs ls h1 h2 h3 h4
  obtain ⟨⟨hx1, hb, hml, hown, hts⟩, hK, hN, hlk⟩ := hF
  refine W.last hx1 hb (h2.1 i _ hX).1 ((hK.2 6 _ rfl).1 m (fun j => .long (f j))) (fun q => by cases q) (by show ¬ (x < 0 ∨ (arrV _ _ _).slots.size ≤ _); rw [arrV_size]; exact (am_in hx hj hm).1) rfl rfl hd fun H1 e z oq => ?_
  refine kk ad H1 _ ls (am_live _ hX h1) (h2.set _ hX ?_ oq) (h3.put z oq (h2.1 i _ hX).2) h4
  show H1[ad i]? = some (vp_cell _ _)
  rw [e]
  show some ((vp_cell _ (m, .inr (.inl f))).setSlot _ _) = some (vp_cell _ (m, .inr (.inl (am_updL f j v))))
  rw [vp_cell_l, vp_cell_l, arrV_store, (am_in hx hj hm).2]
  congr 2
  funext q
  by_cases hq : q = j
  · subst hq; simp [updV, am_updL]
  · simp [updV, am_updL, hq]
theorem am_ty9 {ty : Nat → ClassId} {t : Nat} (ht : t < 7) : (am_tys ty)[t]? = some (ty t, am_ft t) := by
  match t, ht with
  | 0, _ => rfl
  | 1, _ => rfl
  | 2, _ => rfl
  | 3, _ => rfl
  | 4, _ => rfl
  | 5, _ => rfl
  | 6, _ => rfl
theorem am_aast (hF : am_F C cc nL own Ts) {i m t ci q9 : Nat} {r : vw_C} {vs : List Value} {f : Nat → Option Nat} {x : Int32} (hX : X i = some (.inl (t, m, .inr (.inr (.inr (.inr f)))))) (ht : t < 7) (hc : vwCl[ci]? = some r) (hf : am_ft t = .object r.1) (hq : X q9 = some (.inr (ci, vs))) (j : Nat) (hx : x = nI j) (hj : j < m) (hm : m < 2 ^ 31) (hd : decode cc pc = .ok (.aastore, 1)) (kk : am_W C (am_u X i (.inl (t, m, .inr (.inr (.inr (.inr (va_up f j (some q9)))))))) k n (pc + 1) L st) : am_W C X k n pc L (.ref q9 :: .int x :: .ref i :: st) := by
  intro ad H locs ls h1 h2 h3 h4
  obtain ⟨⟨hx1, hb, hml, hown, hts⟩, hK, hN, hlk⟩ := hF
  have hlt : x.toNatClampNeg < m := by rw [(am_in hx hj hm).2]; exact hj
  have h0 : ¬ x < 0 := fun q => (am_in hx hj hm).1 (Or.inl q)
  obtain ⟨r', hr', cellV, g1, g2, g3, -⟩ := (h2.1 q9 _ hq).1
  have hcls := (hK.1 ci r hc).2
  have hRA := (hK.2 t _ (am_ty9 ht)).2
  unfold va_RA at hRA
  simp only [hf] at hRA
  obtain ⟨kA, comp, k1, k2, k3, -⟩ := hRA
  have hcomp : comp = C.dg.1 ci := Option.some.inj (k3.symm.trans hcls.1)
  subst hcomp
  obtain ⟨kC, hkC, -⟩ := hcls.2
  refine W.aast hx1 hb (h2.1 i _ hX).1 (fun q h => by cases h) (fun h => by cases h) k1 k2 rfl hkC ⟨h0, by show _ < (arrV _ _ _).slots.size; rw [arrV_size]; exact hlt⟩ g1 (fun q h => by rw [g3] at h; cases h) (by rw [g2]; exact hkC) (by rw [g2]; exact va_assign hcls) rfl rfl hd fun H1 e z oq => ?_
  refine kk ad H1 _ ls (am_live _ hX h1) (h2.set _ hX ?_ oq) (h3.put z oq (h2.1 i _ hX).2) h4
  show H1[ad i]? = some (vp_cell _ _)
  rw [e]
  show some ((vp_cell _ (m, .inr (.inr (.inr (.inr (fun j => (f j).map ad)))))).setSlot _ _) = some (vp_cell _ (m, .inr (.inr (.inr (.inr (fun y => (va_up f j (some q9) y).map ad))))))
  rw [vp_cell_q, vp_cell_q, arrV_store, (am_in hx hj hm).2]
  congr 2
  funext q
  by_cases hq : q = j
  · subst hq; simp [updV, va_up, va_rf]
  · simp [updV, va_up, hq]
end
