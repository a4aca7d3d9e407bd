/-! my layer, 2: straight code is sound -/
theorem am_L_get {ad : Nat → Nat} : ∀ {L : List (Nat × Value)} {i : Nat} {v : Value} {ls : Array Slot} {nL : Nat}, am_get L i = some v → lv_has ls nL (am_L ad L) → ls[i]? = some (.val (am_v ad v)) := by
  intro L i v ls nL h hl
  have key : ∀ L : List (Nat × Value), am_get L i = some v → (i, am_v ad v) ∈ am_L ad L := by
    intro L
    induction L with
    | nil => intro h; cases h
    | cons q r ih =>
      intro h
      unfold am_get at h
      by_cases hq : q.1 = i
      · rw [if_pos hq] at h
        cases h
        subst hq
        exact List.mem_cons_self
      · rw [if_neg hq] at h
        exact List.mem_cons_of_mem _ (ih h)
  exact hl.2.2 (i, am_v ad v) (key L h)
theorem am_v_cat (ad : Nat → Nat) (v : Value) : (am_v ad v).category = v.category := by cases v <;> rfl
theorem am_c1_cat {v : Value} (h : am_c1 v = true) (ad : Nat → Nat) : (am_v ad v).category = 1 := by cases v <;> first | rfl | cases h
theorem am_L_fl (ad : Nat → Nat) (i : Nat) (v : Value) (L : List (Nat × Value)) : am_L ad ((i, v) :: L.filter (am_fl i)) = (i, am_v ad v) :: (am_L ad L).filter (fun q => !(q.1 == i) && !(q.1 + 1 == i && q.2.category == 2)) := by
  show (i, am_v ad v) :: (L.filter (am_fl i)).map _ = _
  congr 1
  unfold am_L
  rw [List.filter_map]
  congr 1
  refine List.filter_congr (fun q _ => ?_)
  simp [am_fl, am_v_cat]
theorem am_L_k {ad : Nat → Nat} : ∀ {L : List (Nat × Value)} {i : Nat} {v : Value}, am_get L i = some v → ∃ k : Nat, (am_L ad L)[k]? = some (i, am_v ad v) := by
  intro L i v
  induction L with
  | nil => intro h; cases h
  | cons q r ih =>
    intro h
    unfold am_get at h
    by_cases hq : q.1 = i
    · rw [if_pos hq] at h
      cases h
      subst hq
      exact ⟨0, rfl⟩
    · rw [if_neg hq] at h
      obtain ⟨k, hk⟩ := ih h
      exact ⟨k + 1, hk⟩
section
variable {C : am_Cx} {X : am_H} {k n pc : Nat} {L : List (Nat × Value)} {st : List Value} {cc : ByteArray} {nL : Nat} {own : String} {Ts : List Cond}
theorem am_st_spec {nL l0 i pc : Nat} {v : Value} {L : List (Nat × Value)} {r : List Value} {c : am_Cf} (h : am_st nL l0 i v pc L r = some c) : i < nL ∧ c = (pc + l0, (i, v) :: L.filter (am_fl i), r) := by
  unfold am_st at h
  by_cases hi : i < nL
  · rw [if_pos hi] at h; exact ⟨hi, (Option.some.inj h).symm⟩
  · rw [if_neg hi] at h; cases h
theorem am_W_st {i l0 : Nat} {v : Value} {r : List Value} {pc' : Nat} (kk : am_W C X k n pc' ((i, v) :: L.filter (am_fl i)) r) (ad : Nat → Nat) (H : Heap) (locs : List Loc) (h1 : ∀ i, C.x0 i ≠ none → X i ≠ none ∧ ad i = C.a0 i) (h2 : am_R C.n0 C.dg C.ty ad X H) (h3 : va_S (fun q => C.n0 ≤ q) C.st.heap H locs) :
    ∀ ls' : Array Slot, lv_has ls' C.co.maxLocals ((i, am_v ad v) :: (am_L ad L).filter (fun q => !(q.1 == i) && !(q.1 + 1 == i && q.2.category == 2))) → W C.pr C.la C.en C.ro C.st C.mi C.ar C.be C.me C.co H locs k n C.go (F0 C.mi pc' ls' (r.map (am_v ad))) :=
  fun ls' h => kk ad H locs ls' h1 h2 h3 (by rw [am_L_fl]; exact h)
set_option maxHeartbeats 2000000 in
theorem am_step_ok (hF : am_F C cc nL own Ts) {ins : Instr} {c : am_Cf} (hd : decode cc pc = .ok (ins, am_ln ins)) (hg : am_gt ins pc = true) (h : am_step nL ins pc L st = some c) (kk : am_W C X k n c.1 c.2.1 c.2.2) : am_W C X k n pc L st ∧ c.1 = am_nx ins pc := by
  obtain ⟨⟨hx, hb, hml, hown, hts⟩, hK, hN, hlk⟩ := hF
  unfold am_step at h
  split at h
  case h_1 => cases h; exact ⟨fun ad H locs ls h1 h2 h3 h4 => lv_iconst hx hb hd rfl (kk ad H locs ls h1 h2 h3 h4), rfl⟩
  case h_2 => cases h; exact ⟨fun ad H locs ls h1 h2 h3 h4 => lv_bipush hx hb hd rfl (kk ad H locs ls h1 h2 h3 h4), rfl⟩
  case h_3 => cases h; exact ⟨fun ad H locs ls h1 h2 h3 h4 => lv_sipush hx hb hd rfl (kk ad H locs ls h1 h2 h3 h4), rfl⟩
  case h_4 => cases h; exact ⟨fun ad H locs ls h1 h2 h3 h4 => lv_lconst hx hb hd rfl (kk ad H locs ls h1 h2 h3 h4), rfl⟩
  case h_5 => cases h; exact ⟨fun ad H locs ls h1 h2 h3 h4 => lv_null hx hb hd (kk ad H locs ls h1 h2 h3 h4), rfl⟩
  case h_6 => split at h <;> cases h; exact ⟨fun ad H locs ls h1 h2 h3 h4 => lv_iload_n hx hb hd rfl (am_L_get ‹_› h4) (kk ad H locs ls h1 h2 h3 h4), rfl⟩
  case h_7 => split at h <;> cases h; exact ⟨fun ad H locs ls h1 h2 h3 h4 => lv_iload hx hb hd (am_L_get ‹_› h4) (kk ad H locs ls h1 h2 h3 h4), rfl⟩
  case h_8 => split at h <;> cases h; exact ⟨fun ad H locs ls h1 h2 h3 h4 => lv_aload_n hx hb hd rfl (am_L_get ‹_› h4) (kk ad H locs ls h1 h2 h3 h4), rfl⟩
  case h_9 => split at h <;> cases h; exact ⟨fun ad H locs ls h1 h2 h3 h4 => lv_aload hx hb hd (am_L_get ‹_› h4) (kk ad H locs ls h1 h2 h3 h4), rfl⟩
  case h_10 =>
    split at h
    · obtain ⟨hi, rfl⟩ := am_st_spec h
      exact ⟨fun ad H locs ls h1 h2 h3 h4 => lv_istore_n hx hb hd rfl h4 (by rw [hml]; exact hi) rfl (am_W_st (l0 := 0) kk ad H locs h1 h2 h3), rfl⟩
    · cases h
  case h_11 =>
    split at h
    · obtain ⟨hi, rfl⟩ := am_st_spec h
      exact ⟨fun ad H locs ls h1 h2 h3 h4 => lv_istore hx hb hd h4 (by rw [hml]; exact hi) rfl (am_W_st (l0 := 0) kk ad H locs h1 h2 h3), rfl⟩
    · cases h
  case h_12 =>
    split at h
    · obtain ⟨hi, rfl⟩ := am_st_spec h
      exact ⟨fun ad H locs ls h1 h2 h3 h4 => lv_astore_n hx hb hd rfl h4 (by rw [hml]; exact hi) rfl (am_W_st (l0 := 0) kk ad H locs h1 h2 h3), rfl⟩
    · cases h
  case h_13 =>
    split at h
    · obtain ⟨hi, rfl⟩ := am_st_spec h
      exact ⟨fun ad H locs ls h1 h2 h3 h4 => lv_astore hx hb hd h4 (by rw [hml]; exact hi) rfl (am_W_st (l0 := 0) kk ad H locs h1 h2 h3), rfl⟩
    · cases h
  case h_14 =>
    split at h
    · obtain ⟨hi, rfl⟩ := am_st_spec h
      refine ⟨fun ad H locs ls h1 h2 h3 h4 => ?_, rfl⟩
      obtain ⟨k9, hk9⟩ := am_L_k (ad := ad) ‹am_get _ _ = _›
      exact lv_iinc hx hb hd h4 hk9 rfl (by rw [hml]; exact hi) rfl (am_W_st (l0 := 0) kk ad H locs h1 h2 h3)
    · cases h
  case h_15 => split at h <;> cases h; exact ⟨fun ad H locs ls h1 h2 h3 h4 => lv_iadd hx hb hd (kk ad H locs ls h1 h2 h3 h4), rfl⟩
  case h_16 => split at h <;> cases h; exact ⟨fun ad H locs ls h1 h2 h3 h4 => lv_isub hx hb hd (kk ad H locs ls h1 h2 h3 h4), rfl⟩
  case h_17 => split at h <;> cases h; exact ⟨fun ad H locs ls h1 h2 h3 h4 => lv_imul hx hb hd (kk ad H locs ls h1 h2 h3 h4), rfl⟩
  case h_18 => split at h <;> cases h; exact ⟨fun ad H locs ls h1 h2 h3 h4 => lv_iand hx hb hd (kk ad H locs ls h1 h2 h3 h4), rfl⟩
  case h_19 => split at h <;> cases h; exact ⟨fun ad H locs ls h1 h2 h3 h4 => lv_ior hx hb hd (kk ad H locs ls h1 h2 h3 h4), rfl⟩
  case h_20 => split at h <;> cases h; exact ⟨fun ad H locs ls h1 h2 h3 h4 => lv_ixor hx hb hd (kk ad H locs ls h1 h2 h3 h4), rfl⟩
  case h_21 => split at h <;> cases h; exact ⟨fun ad H locs ls h1 h2 h3 h4 => lv_ishl hx hb hd (kk ad H locs ls h1 h2 h3 h4), rfl⟩
  case h_22 => split at h <;> cases h; exact ⟨fun ad H locs ls h1 h2 h3 h4 => lv_ishr hx hb hd (kk ad H locs ls h1 h2 h3 h4), rfl⟩
  case h_23 => split at h <;> cases h; exact ⟨fun ad H locs ls h1 h2 h3 h4 => lv_iushr hx hb hd rfl (kk ad H locs ls h1 h2 h3 h4), rfl⟩
  case h_24 => split at h <;> cases h; exact ⟨fun ad H locs ls h1 h2 h3 h4 => lv_i2l hx hb hd rfl (kk ad H locs ls h1 h2 h3 h4), rfl⟩
  case h_25 => split at h <;> cases h; exact ⟨fun ad H locs ls h1 h2 h3 h4 => W.lcmp hx hb hd (kk ad H locs ls h1 h2 h3 h4), rfl⟩
  case h_26 =>
    split at h
    · split at h <;> cases h
      exact ⟨fun ad H locs ls h1 h2 h3 h4 => lv_pop hx hb hd (am_c1_cat ‹_› ad) (kk ad H locs ls h1 h2 h3 h4), rfl⟩
    · cases h
  case h_27 =>
    split at h
    · split at h <;> cases h
      exact ⟨fun ad H locs ls h1 h2 h3 h4 => lv_dup hx hb hd (am_c1_cat ‹_› ad) (kk ad H locs ls h1 h2 h3 h4), rfl⟩
    · cases h
  case h_28 =>
    split at h
    · split at h <;> cases h
      rename_i hvw
      exact ⟨fun ad H locs ls h1 h2 h3 h4 => lv_dup2_11 hx hb hd (am_c1_cat hvw.1 ad) (am_c1_cat hvw.2 ad) (kk ad H locs ls h1 h2 h3 h4), rfl⟩
    · cases h
  case h_29 =>
    cases h
    refine ⟨fun ad H locs ls h1 h2 h3 h4 => lv_goto hx hb hd ?_ (kk ad H locs ls h1 h2 h3 h4), rfl⟩
    have := of_decide_eq_true hg
    exact (Int.toNat_of_nonneg this).symm
  case h_30 => split at h <;> cases h; exact ⟨fun ad H locs ls h1 h2 h3 h4 => lv_lshl hx hb hd rfl (kk ad H locs ls h1 h2 h3 h4), rfl⟩
  case h_31 => split at h <;> cases h; exact ⟨fun ad H locs ls h1 h2 h3 h4 => lv_lshr hx hb hd rfl (kk ad H locs ls h1 h2 h3 h4), rfl⟩
  case h_32 => split at h <;> cases h; exact ⟨fun ad H locs ls h1 h2 h3 h4 => lv_lor hx hb hd (kk ad H locs ls h1 h2 h3 h4), rfl⟩
  case h_33 => split at h <;> cases h; exact ⟨fun ad H locs ls h1 h2 h3 h4 => lv_land hx hb hd (kk ad H locs ls h1 h2 h3 h4), rfl⟩
  case h_34 => split at h <;> cases h; exact ⟨fun ad H locs ls h1 h2 h3 h4 => lv_l2i hx hb hd rfl (kk ad H locs ls h1 h2 h3 h4), rfl⟩
  case h_35 => cases h
theorem am_step_nx {ins : Instr} {c : am_Cf} (h : am_step nL ins pc L st = some c) : c.1 = am_nx ins pc := by
  unfold am_step at h
  split at h <;> first
    | (cases h; rfl)
    | (split at h <;> first
      | (cases h; done)
      | (cases h; rfl)
      | (obtain ⟨-, rfl⟩ := am_st_spec h; rfl)
      | (split at h <;> first | (cases h; done) | (cases h; rfl)))
    | (cases h; done)
theorem am_go (hF : am_F C cc nL own Ts) : ∀ (seg : List Instr) {pc : Nat} {L : List (Nat × Value)} {st : List Value} (pc' : Nat) (L' : List (Nat × Value)) (st' : List Value), am_dec cc pc seg = true → am_run nL seg pc L st = some (pc', L', st') → am_W C X k n pc' L' st' → am_W C X k n pc L st := by
  intro seg
  induction seg with
  | nil => intro pc L st pc' L' st' hd h kk; cases h; exact kk
  | cons q r ih =>
    intro pc L st pc' L' st' hd h kk
    simp only [am_dec, Bool.and_eq_true, decide_eq_true_eq] at hd
    obtain ⟨⟨hd1, hg⟩, hd2⟩ := hd
    unfold am_run at h
    cases hs : am_step nL q pc L st with
    | none => rw [hs] at h; cases h
    | some c =>
      rw [hs] at h
      have hnx : c.1 = am_nx q pc := am_step_nx hs
      refine (am_step_ok hF hd1 hg hs (ih pc' L' st' ?_ h kk)).1
      rw [hnx]
      exact hd2
end
