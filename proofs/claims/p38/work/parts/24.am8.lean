/-! my layer, 8: System.arraycopy within one row of ints; Math.min -/
section
variable {C : am_Cx} {X : am_H} {k n9 pc : Nat} {L : List (Nat × Value)} {st : List Value} {cc : ByteArray} {nL : Nat} {own : String} {Ts : List Cond}
set_option maxHeartbeats 1000000 in
theorem am_copyi {X0 : am_H} {P0 : am_H → Option Value → Prop} {R : Room} (hF : am_F C cc nL own Ts) (hO : am_O C X0 P0 R) {index i m : Nat} {f : Nat → Int32} (hX : X i = some (.inl (0, m, .inl f))) (hlink : Cond.methodLink own index arraycopyName ∈ Ts) (hnat : Cond.native arraycopyName ∈ Ts) (hstat : Cond.static arraycopyName ∈ Ts) (hini : Cond.initialized "java/lang/System" ∈ Ts) (a b c : Nat) {sp dp n : Int32} (ha : sp = nI a) (hb9 : dp = nI b) (hc : n = nI c) (h4 : a + c ≤ m) (h5 : b + c ≤ m) (hm : m < 2 ^ 31) (hro : 1 ≤ R.frames ∧ (st.map fun v => v.category).sum + (nativeFrameWords "java/lang/System" "arraycopy" 5 + 11) ≤ R.locals) (hd : decode cc pc = .ok (.invokestatic index, 3))
    (kk : am_W C (am_u X i (.inl (0, m, .inl (va_cpy f f a b c)))) k n9 (pc + 3) L st) : am_W C X k n9 pc L (.int n :: .int dp :: .ref i :: .int sp :: .ref i :: st) := by
  intro ad H locs ls h1 h2 h3 h40
  obtain ⟨⟨hx, hb, hml, hown, hts⟩, hK, hN, hlk⟩ := hF
  rw [← hO.2.2.2] at hro
  have ea : sp.toNatClampNeg = a := by rw [ha]; exact nI_clamp (by omega)
  have eb : dp.toNatClampNeg = b := by rw [hb9]; exact nI_clamp (by omega)
  have ec : n.toNatClampNeg = c := by rw [hc]; exact nI_clamp (by omega)
  have ia : sp.toInt = (a : Int) := by rw [ha]; exact nI_toInt (by omega)
  have ib : dp.toInt = (b : Int) := by rw [hb9]; exact nI_toInt (by omega)
  have ic : n.toInt = (c : Int) := by rw [hc]; exact nI_toInt (by omega)
  intro T hT Y
  have hc0 : H[ad i]? = some (vp_cell (C.ty 0) (m, .inl f)) := (h2.1 i _ hX).1
  obtain ⟨-, k0, hk0, cm0, hkk0⟩ := (hK.2 0 _ rfl).1 m (fun j => .int (f j))
  obtain ⟨vm', Y', step⟩ := Y.arraycopy hx hown (hts _ hlink) (hts _ hnat) (hts _ hstat) (hts _ hini) (src := ad i) (dst := ad i) (cs := vp_cell (C.ty 0) (m, .inl f)) (cd := vp_cell (C.ty 0) (m, .inl f)) (srcPos := sp) (destPos := dp) (n := n) (by rw [hT]; exact hc0) (by rw [hT]; exact hc0)
    (fun _ h => by cases h) (fun _ h => by cases h) (fun h => by cases h) (fun h => by cases h) hk0 hk0 hkk0 hkk0 (by simp [am_ft, refKind]) (by rw [ha]; exact nI_pos (by omega)) (by rw [hb9]; exact nI_pos (by omega)) (by rw [hc]; exact nI_pos (by omega))
    (by rw [ia, ic]; show ¬ _ > ((arrV (C.ty 0) m (fun j => .int (f j))).slots.size : Int); rw [arrV_size]; omega)
    (by rw [ib, ic]; show ¬ _ > ((arrV (C.ty 0) m (fun j => .int (f j))).slots.size : Int); rw [arrV_size]; omega)
    (fun vm₁ _ j hj => by
      have e : (vp_cell (C.ty 0) (m, .inl f)).slots.getD (sp.toNatClampNeg + j) .null = .int (f (sp.toNatClampNeg + j)) := by
        show (arrV (C.ty 0) m (fun j => .int (f j))).slots.getD _ _ = _
        rw [Array.getD_eq_getD_getElem?, arrV_read _ _ (by rw [ea]; rw [ec] at hj; omega)]
        rfl
      refine ⟨?_, ?_⟩
      · rw [e]
        rfl
      · rw [e]
        exact trivial)
    (g := F0 C.mi pc ls (.int n :: .int dp :: .ref (ad i) :: .int sp :: .ref (ad i) :: st.map (am_v ad))) rfl (by rw [← h40.1]) (rest := st.map (am_v ad)) rfl (by rw [hb]; exact hd) hro.1 (by rw [am_cat]; show 2 * 0 + _ + _ ≤ _; have := hro.2; omega)
  have e1 : copied (vp_cell (C.ty 0) (m, .inl f)) (vp_cell (C.ty 0) (m, .inl f)) sp dp n = vp_cell (C.ty 0) (m, .inl (va_cpy f f a b c)) := by
    have := va_copied (fun z => .int z) (C.ty 0) (C.ty 0) (n0 := m) (n1 := m) (sp := a) (dp := b) (n := c) f f h4
    unfold copied
    rw [ea, eb, ec]
    exact this
  rw [e1] at Y' step
  have hl : ad i < H.size := (Array.getElem?_eq_some_iff.mp hc0).1
  have hheap : ((T.setVm vm').setCell (ad i) (vp_cell (C.ty 0) (m, .inl (va_cpy f f a b c)))).heap = H.setIfInBounds (ad i) (vp_cell (C.ty 0) (m, .inl (va_cpy f f a b c))) := by rw [← hT]; rfl
  have oq : ∀ q : Nat, q ≠ ad i → (H.setIfInBounds (ad i) (vp_cell (C.ty 0) (m, .inl (va_cpy f f a b c))))[q]? = H[q]? := fun q hq => by simp [Array.getElem?_setIfInBounds, Ne.symm hq]
  obtain ⟨t, a1, b1⟩ := kk ad _ _ ls (am_live _ hX h1) (h2.set (.inl (0, m, .inl (va_cpy f f a b c))) hX (show (H.setIfInBounds (ad i) _)[ad i]? = some _ by simp [Array.getElem?_setIfInBounds, hl]; rfl) oq) ⟨by simp; exact h3.1, fun q g1 g2 => by
      rw [oq q (fun e => g2 (by rw [e]; exact (h2.1 i _ hX).2))]
      exact h3.2.1 q g1 g2, fun q hq => by
      rcases List.mem_append.mp hq with h | h
      · exact h3.2.2 q h
      · obtain ⟨z, -, hz⟩ := List.mem_map.mp h
        rw [← hz]
        exact (h2.1 i _ hX).2⟩ h40 _ hheap Y'
  exact ⟨t, step t a1, b1⟩
theorem am_mmin {X0 : am_H} {P0 : am_H → Option Value → Prop} {R : Room} (hF : am_F C cc nL own Ts) (hO : am_O C X0 P0 R) {index : Nat} (hlink : Cond.methodLink own index Lib.Math.min.name ∈ Ts) (hstat : Cond.static Lib.Math.min.name ∈ Ts) (hini : Cond.initialized "java/lang/Math" ∈ Ts) (hcode : Cond.code Lib.Math.min.name Lib.Math.min.code 2 (some .int) ∈ Ts) (hro : 1 ≤ R.frames ∧ (st.map fun v => v.category).sum + 13 ≤ R.locals ∧ k ≤ R.cells ∧ n9 ≤ R.slots) {x y : Int32} (hd : decode cc pc = .ok (.invokestatic index, 3)) (kk : am_W C X k n9 (pc + 3) L (.int (if y < x then y else x) :: st)) : am_W C X k n9 pc L (.int y :: .int x :: st) := by
  intro ad H locs ls h1 h2 h3 h4
  obtain ⟨⟨hx, hb, hml, hown, hts⟩, hK, hN, hlk⟩ := hF
  rw [← hO.2.2.2] at hro
  exact va_mmin hx hb h4.1.symm hown (hts _ hlink) (hts _ hstat) (hts _ hini) (hts _ hcode) hro.1 (by rw [am_cat]; exact hro.2.1) hro.2.2.1 hro.2.2.2 hd (kk ad H locs ls h1 h2 h3 h4)
end
