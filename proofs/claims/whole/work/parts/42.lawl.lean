/-! the law's own judgement: locals and stack are the machine's, the three roots lie where they lie -/
def lW (C : am_Cx) (q : Nat × Nat × Nat) (X : am_H) (k n pc : Nat) (L : List (Nat × Value)) (st : List Value) : Prop :=
  ∀ (ad : Nat → Nat) (H : Heap) (locs : List Loc) (ls : Array Slot), (ad 0 = q.1 ∧ ad 464 = q.2.1 ∧ ad 465 = q.2.2) → am_R C.n0 C.dg C.ty ad X H → va_S (fun q => C.n0 ≤ q) C.st.heap H locs → lv_has ls C.co.maxLocals L →
    W C.pr C.la C.en C.ro C.st C.mi C.ar C.be C.me C.co H locs k n C.go (F0 C.mi pc ls st)
theorem l_get : ∀ {L : List (Nat × Value)} {i : Nat} {v : Value} {ls : Array Slot} {nL : Nat}, am_get L i = some v → lv_has ls nL L → ls[i]? = some (.val v) := by
  intro L i v ls nL h hl
  have key : ∀ L : List (Nat × Value), am_get L i = some v → (i, v) ∈ L := by
    intro L
    induction L with
    | nil => intro h; cases h
    | cons q r ih =>
      intro h
      unfold am_get at h
      by_cases hq : q.1 = i
      · rw [if_pos hq] at h
        cases h
        subst hq
        exact List.mem_cons_self
      · rw [if_neg hq] at h
        exact List.mem_cons_of_mem _ (ih h)
  exact hl.2.2 (i, v) (key L h)
theorem l_c1 {v : Value} (h : am_c1 v = true) : v.category = 1 := by cases v <;> first | rfl | cases h
theorem l_k : ∀ {L : List (Nat × Value)} {i : Nat} {v : Value}, am_get L i = some v → ∃ k : Nat, L[k]? = some (i, v) := by
  intro L i v
  induction L with
  | nil => intro h; cases h
  | cons q r ih =>
    intro h
    unfold am_get at h
    by_cases hq : q.1 = i
    · rw [if_pos hq] at h
      cases h
      subst hq
      exact ⟨0, rfl⟩
    · rw [if_neg hq] at h
      obtain ⟨k, hk⟩ := ih h
      exact ⟨k + 1, hk⟩
section
variable {C : am_Cx} {q : Nat × Nat × Nat} {X : am_H} {k n pc : Nat} {L : List (Nat × Value)} {st : List Value} {cc : ByteArray} {nL : Nat} {own : String} {Ts : List Cond} {off : Int}
theorem l_W_st {i l0 : Nat} {v : Value} {r : List Value} {pc' : Nat} (kk : lW C q X k n pc' ((i, v) :: L.filter (am_fl i)) r) (ad : Nat → Nat) (H : Heap) (locs : List Loc) (h1 : ad 0 = q.1 ∧ ad 464 = q.2.1 ∧ ad 465 = q.2.2) (h2 : am_R C.n0 C.dg C.ty ad X H) (h3 : va_S (fun q => C.n0 ≤ q) C.st.heap H locs) :
    ∀ ls' : Array Slot, lv_has ls' C.co.maxLocals ((i, v) :: L.filter (fun q => !(q.1 == i) && !(q.1 + 1 == i && q.2.category == 2))) → W C.pr C.la C.en C.ro C.st C.mi C.ar C.be C.me C.co H locs k n C.go (F0 C.mi pc' ls' r) :=
  fun ls' h => kk ad H locs ls' h1 h2 h3 h
set_option maxHeartbeats 2000000 in
theorem l_step_ok (hF : am_F C cc nL own Ts) {ins : Instr} {c : am_Cf} (hd : decode cc pc = .ok (ins, am_ln ins)) (hg : am_gt ins pc = true) (h : am_step nL ins pc L st = some c) (kk : lW C q X k n c.1 c.2.1 c.2.2) : lW C q X k n pc L st ∧ c.1 = am_nx ins pc := by
  obtain ⟨⟨hx, hb, hml, hown, hts⟩, hK, hN, hlk⟩ := hF
  unfold am_step at h
  split at h
  case h_1 => cases h; exact ⟨fun ad H locs ls h1 h2 h3 h4 => lv_iconst hx hb hd rfl (kk ad H locs ls h1 h2 h3 h4), rfl⟩
  case h_2 => cases h; exact ⟨fun ad H locs ls h1 h2 h3 h4 => lv_bipush hx hb hd rfl (kk ad H locs ls h1 h2 h3 h4), rfl⟩
  case h_3 => cases h; exact ⟨fun ad H locs ls h1 h2 h3 h4 => lv_sipush hx hb hd rfl (kk ad H locs ls h1 h2 h3 h4), rfl⟩
  case h_4 => cases h; exact ⟨fun ad H locs ls h1 h2 h3 h4 => lv_lconst hx hb hd rfl (kk ad H locs ls h1 h2 h3 h4), rfl⟩
  case h_5 => cases h; exact ⟨fun ad H locs ls h1 h2 h3 h4 => lv_null hx hb hd (kk ad H locs ls h1 h2 h3 h4), rfl⟩
  case h_6 => split at h <;> cases h; exact ⟨fun ad H locs ls h1 h2 h3 h4 => lv_iload_n hx hb hd rfl (l_get ‹_› h4) (kk ad H locs ls h1 h2 h3 h4), rfl⟩
  case h_7 => split at h <;> cases h; exact ⟨fun ad H locs ls h1 h2 h3 h4 => lv_iload hx hb hd (l_get ‹_› h4) (kk ad H locs ls h1 h2 h3 h4), rfl⟩
  case h_8 => split at h <;> cases h; exact ⟨fun ad H locs ls h1 h2 h3 h4 => lv_aload_n hx hb hd rfl (l_get ‹_› h4) (kk ad H locs ls h1 h2 h3 h4), rfl⟩
  case h_9 => split at h <;> cases h; exact ⟨fun ad H locs ls h1 h2 h3 h4 => lv_aload hx hb hd (l_get ‹_› h4) (kk ad H locs ls h1 h2 h3 h4), rfl⟩
  case h_10 =>
    split at h
    · obtain ⟨hi, rfl⟩ := am_st_spec h
      exact ⟨fun ad H locs ls h1 h2 h3 h4 => lv_istore_n hx hb hd rfl h4 (by rw [hml]; exact hi) rfl (l_W_st (l0 := 0) kk ad H locs h1 h2 h3), rfl⟩
    · cases h
  case h_11 =>
    split at h
    · obtain ⟨hi, rfl⟩ := am_st_spec h
      exact ⟨fun ad H locs ls h1 h2 h3 h4 => lv_istore hx hb hd h4 (by rw [hml]; exact hi) rfl (l_W_st (l0 := 0) kk ad H locs h1 h2 h3), rfl⟩
    · cases h
  case h_12 =>
    split at h
    · obtain ⟨hi, rfl⟩ := am_st_spec h
      exact ⟨fun ad H locs ls h1 h2 h3 h4 => lv_astore_n hx hb hd rfl h4 (by rw [hml]; exact hi) rfl (l_W_st (l0 := 0) kk ad H locs h1 h2 h3), rfl⟩
    · cases h
  case h_13 =>
    split at h
    · obtain ⟨hi, rfl⟩ := am_st_spec h
      exact ⟨fun ad H locs ls h1 h2 h3 h4 => lv_astore hx hb hd h4 (by rw [hml]; exact hi) rfl (l_W_st (l0 := 0) kk ad H locs h1 h2 h3), rfl⟩
    · cases h
  case h_14 =>
    split at h
    · obtain ⟨hi, rfl⟩ := am_st_spec h
      refine ⟨fun ad H locs ls h1 h2 h3 h4 => ?_, rfl⟩
      obtain ⟨k9, hk9⟩ := l_k ‹am_get _ _ = _›
      exact lv_iinc hx hb hd h4 hk9 rfl (by rw [hml]; exact hi) rfl (l_W_st (l0 := 0) kk ad H locs h1 h2 h3)
    · cases h
  case h_15 => split at h <;> cases h; exact ⟨fun ad H locs ls h1 h2 h3 h4 => lv_iadd hx hb hd (kk ad H locs ls h1 h2 h3 h4), rfl⟩
  case h_16 => split at h <;> cases h; exact ⟨fun ad H locs ls h1 h2 h3 h4 => lv_isub hx hb hd (kk ad H locs ls h1 h2 h3 h4), rfl⟩
  case h_17 => split at h <;> cases h; exact ⟨fun ad H locs ls h1 h2 h3 h4 => lv_imul hx hb hd (kk ad H locs ls h1 h2 h3 h4), rfl⟩
  case h_18 => split at h <;> cases h; exact ⟨fun ad H locs ls h1 h2 h3 h4 => lv_iand hx hb hd (kk ad H locs ls h1 h2 h3 h4), rfl⟩
  case h_19 => split at h <;> cases h; exact ⟨fun ad H locs ls h1 h2 h3 h4 => lv_ior hx hb hd (kk ad H locs ls h1 h2 h3 h4), rfl⟩
  case h_20 => split at h <;> cases h; exact ⟨fun ad H locs ls h1 h2 h3 h4 => lv_ixor hx hb hd (kk ad H locs ls h1 h2 h3 h4), rfl⟩
  case h_21 => split at h <;> cases h; exact ⟨fun ad H locs ls h1 h2 h3 h4 => lv_ishl hx hb hd (kk ad H locs ls h1 h2 h3 h4), rfl⟩
  case h_22 => split at h <;> cases h; exact ⟨fun ad H locs ls h1 h2 h3 h4 => lv_ishr hx hb hd (kk ad H locs ls h1 h2 h3 h4), rfl⟩
  case h_23 => split at h <;> cases h; exact ⟨fun ad H locs ls h1 h2 h3 h4 => lv_iushr hx hb hd rfl (kk ad H locs ls h1 h2 h3 h4), rfl⟩
  case h_24 => split at h <;> cases h; exact ⟨fun ad H locs ls h1 h2 h3 h4 => lv_i2l hx hb hd rfl (kk ad H locs ls h1 h2 h3 h4), rfl⟩
  case h_25 => split at h <;> cases h; exact ⟨fun ad H locs ls h1 h2 h3 h4 => W.lcmp hx hb hd (kk ad H locs ls h1 h2 h3 h4), rfl⟩
  case h_26 =>
    split at h
    · split at h <;> cases h
      exact ⟨fun ad H locs ls h1 h2 h3 h4 => lv_pop hx hb hd (l_c1 ‹_›) (kk ad H locs ls h1 h2 h3 h4), rfl⟩
    · cases h
  case h_27 =>
    split at h
    · split at h <;> cases h
      exact ⟨fun ad H locs ls h1 h2 h3 h4 => lv_dup hx hb hd (l_c1 ‹_›) (kk ad H locs ls h1 h2 h3 h4), rfl⟩
    · cases h
  case h_28 =>
    split at h
    · split at h <;> cases h
      rename_i hvw
      exact ⟨fun ad H locs ls h1 h2 h3 h4 => lv_dup2_11 hx hb hd (l_c1 hvw.1) (l_c1 hvw.2) (kk ad H locs ls h1 h2 h3 h4), rfl⟩
    · cases h
  case h_29 =>
    cases h
    refine ⟨fun ad H locs ls h1 h2 h3 h4 => lv_goto hx hb hd ?_ (kk ad H locs ls h1 h2 h3 h4), rfl⟩
    have := of_decide_eq_true hg
    exact (Int.toNat_of_nonneg this).symm
  case h_30 => cases h
theorem l_go (hF : am_F C cc nL own Ts) : ∀ (seg : List Instr) {pc : Nat} {L : List (Nat × Value)} {st : List Value} (pc' : Nat) (L' : List (Nat × Value)) (st' : List Value), am_dec cc pc seg = true → am_run nL seg pc L st = some (pc', L', st') → lW C q X k n pc' L' st' → lW C q X k n pc L st := by
  intro seg
  induction seg with
  | nil => intro pc L st pc' L' st' hd h kk; cases h; exact kk
  | cons q r ih =>
    intro pc L st pc' L' st' hd h kk
    simp only [am_dec, Bool.and_eq_true, decide_eq_true_eq] at hd
    obtain ⟨⟨hd1, hg⟩, hd2⟩ := hd
    unfold am_run at h
    cases hs : am_step nL q pc L st with
    | none => rw [hs] at h; cases h
    | some c =>
      rw [hs] at h
      have hnx : c.1 = am_nx q pc := am_step_nx hs
      refine (l_step_ok hF hd1 hg hs (ih pc' L' st' ?_ h kk)).1
      rw [hnx]
      exact hd2
theorem l_ifeq (hF : am_F C cc nL own Ts) {x : Int32} (tgt : Nat) (hd : decode cc pc = .ok (.ifCond .eq off, 3)) (ht : (pc : Int) + off = (tgt : Int)) (kt : x = 0 → lW C q X k n tgt L st) (kf : ¬ x = 0 → lW C q X k n (pc + 3) L st) : lW C q X k n pc L (.int x :: st) := fun ad H locs ls h1 h2 h3 h4 => lv_if_eq hF.1.1 hF.1.2.1 hd ht (fun h => kt h ad H locs ls h1 h2 h3 h4) (fun h => kf h ad H locs ls h1 h2 h3 h4)
theorem l_ifne (hF : am_F C cc nL own Ts) {x : Int32} (tgt : Nat) (hd : decode cc pc = .ok (.ifCond .ne off, 3)) (ht : (pc : Int) + off = (tgt : Int)) (kt : ¬ x = 0 → lW C q X k n tgt L st) (kf : x = 0 → lW C q X k n (pc + 3) L st) : lW C q X k n pc L (.int x :: st) := fun ad H locs ls h1 h2 h3 h4 => lv_if_ne hF.1.1 hF.1.2.1 hd ht (fun h => kt h ad H locs ls h1 h2 h3 h4) (fun h => kf h ad H locs ls h1 h2 h3 h4)
theorem l_icmpeq (hF : am_F C cc nL own Ts) {x y : Int32} (tgt : Nat) (hd : decode cc pc = .ok (.if_icmp .eq off, 3)) (ht : (pc : Int) + off = (tgt : Int)) (kt : x = y → lW C q X k n tgt L st) (kf : ¬ x = y → lW C q X k n (pc + 3) L st) : lW C q X k n pc L (.int y :: .int x :: st) := fun ad H locs ls h1 h2 h3 h4 => lv_icmp_eq hF.1.1 hF.1.2.1 hd ht (fun h => kt h ad H locs ls h1 h2 h3 h4) (fun h => kf h ad H locs ls h1 h2 h3 h4)
theorem l_icmpgt (hF : am_F C cc nL own Ts) {x y : Int32} (tgt : Nat) (hd : decode cc pc = .ok (.if_icmp .gt off, 3)) (ht : (pc : Int) + off = (tgt : Int)) (kt : y < x → lW C q X k n tgt L st) (kf : ¬ y < x → lW C q X k n (pc + 3) L st) : lW C q X k n pc L (.int y :: .int x :: st) := fun ad H locs ls h1 h2 h3 h4 => lv_icmp_gt hF.1.1 hF.1.2.1 hd ht (fun h => kt h ad H locs ls h1 h2 h3 h4) (fun h => kf h ad H locs ls h1 h2 h3 h4)
theorem l_drop (ps : List Nat) (L' : List (Nat × Value)) (hL : lv_pick L ps = L') (h : lW C q X k n pc L' st) : lW C q X k n pc L st := by
  intro ad H locs ls h1 h2 h3 h4
  refine h ad H locs ls h1 h2 h3 (lv_sub h4 ps hL)
theorem l_top {x : Int32} (x' : Int32) (hx : x = x') (h : lW C q X k n pc L (.int x' :: st)) : lW C q X k n pc L (.int x :: st) := hx ▸ h
theorem l_eqL (L' : List (Nat × Value)) (hL : L = L') (h : lW C q X k n pc L' st) : lW C q X k n pc L st := hL ▸ h
theorem l_eqX (X' : am_H) (hX : X = X') (h : lW C q X' k n pc L st) : lW C q X k n pc L st := hX ▸ h
theorem l_widen {k' n' : Nat} (h1 : k ≤ k') (h2 : n ≤ n') (kk : lW C q X k' n' pc L st) : lW C q X k n pc L st := fun ad H locs ls a b c d => W.widen h1 h2 (kk ad H locs ls a b c d)
/-- the script -/
theorem l_sld (hF : am_F C cc nL own Ts) {b N : Nat} {xs : Nat → Int32} (hX : va_X b N xs C.st C.st.heap) (hbl : b < C.st.heap.size) (hbA : ¬ C.n0 ≤ b) {i : Int32} (j : Nat) (hi : i = nI j) (hj : j < N) (hN : N < 2 ^ 31) (hd : decode cc pc = .ok (.iaload, 1)) (kk : lW C q X k n (pc + 1) L (.int (xs j) :: st)) : lW C q X k n pc L (.int i :: .ref b :: st) := by
  intro ad H locs ls h1 h2 h3 h4
  refine va_sld hF.1.1 hF.1.2.1 hX hbl hbA h3 (am_in hi hj hN).1 hd ?_
  rw [(am_in hi hj hN).2]
  exact kk ad H locs ls h1 h2 h3 h4
theorem l_slen (hF : am_F C cc nL own Ts) {b N : Nat} {xs : Nat → Int32} (hX : va_X b N xs C.st C.st.heap) (hbl : b < C.st.heap.size) (hbA : ¬ C.n0 ≤ b) (hd : decode cc pc = .ok (.arraylength, 1)) (kk : lW C q X k n (pc + 1) L (.int (nI N) :: st)) : lW C q X k n pc L (.ref b :: st) := by
  intro ad H locs ls h1 h2 h3 h4
  exact va_slen hF.1.1 hF.1.2.1 hX hbl hbA h3 hd (kk ad H locs ls h1 h2 h3 h4)
/-- the row of the answers -/
theorem l_out (hF : am_F C cc nL own Ts) {T S : am_T} {o : Nat → Int64} (hd : decode cc pc = .ok (.laload, 1)) (kk : lW C q (hp T S o) k n (pc + 1) L (.long (o 0) :: st)) : lW C q (hp T S o) k n pc L (.int 0 :: .ref q.2.1 :: st) := by
  intro ad H locs ls h1 h2 h3 h4
  obtain ⟨⟨hx1, hb, hml, hown, hts⟩, hK, hN, hlk⟩ := hF
  have hc9 : H[ad 464]? = some (vp_cell (C.ty 6) (1, .inr (.inl o))) := (h2.1 464 _ (hp_o9 T S o)).1
  rw [h1.2.1] at hc9
  have hin : vp_in (0 : Int32) 1 ∧ (0 : Int32).toNatClampNeg = 0 := am_in (j := 0) rfl (by decide) (by decide)
  exact W.lald (v := .long (o 0)) hx1 hb hc9 ((hK.2 6 _ rfl).1 1 (fun j => .long (o j))) (fun q => by cases q) (by show ¬ ((0 : Int32) < 0 ∨ (arrV _ _ _).slots.size ≤ _); rw [arrV_size]; exact hin.1) (by show (arrV _ _ _).slots[_]? = _; rw [arrV_read _ _ (by rw [hin.2]; exact Nat.one_pos), hin.2]) rfl rfl hd (kk ad H locs ls h1 h2 h3 h4)
theorem l_table (hF : am_F C cc nL own Ts) {dflt lo hi : Int} {offs : Array Int} {len : Nat} {x : Int32} {off : Int} (tgt : Nat) (hd : decode cc pc = .ok (.tableswitch dflt lo hi offs, len)) (h1 : ¬ x.toInt < lo) (h2 : ¬ hi < x.toInt) (ho : offs[(x.toInt - lo).toNat]? = some off) (ht : (pc : Int) + off = (tgt : Int)) (kk : lW C q X k n tgt L st) : lW C q X k n pc L (.int x :: st) :=
  fun ad H locs ls a b c d => lv_tableIn hF.1.1 hF.1.2.1 hd h1 h2 ho ht (kk ad H locs ls a b c d)
theorem l_tableO (hF : am_F C cc nL own Ts) {dflt lo hi : Int} {offs : Array Int} {len : Nat} {x : Int32} (tgt : Nat) (hd : decode cc pc = .ok (.tableswitch dflt lo hi offs, len)) (h : x.toInt < lo ∨ hi < x.toInt) (ht : (pc : Int) + dflt = (tgt : Int)) (kk : lW C q X k n tgt L st) : lW C q X k n pc L (.int x :: st) :=
  fun ad H locs ls a b c d => lv_tableOut hF.1.1 hF.1.2.1 hd h ht (kk ad H locs ls a b c d)
/-- behind a call -/
theorem l_behind {mc ms : Nat} {rest : List Value} {P : am_H → Option Value → Prop} {a : Array Value} {ad : Nat → Nat} {H : Heap} {locs : List Loc} {ls : Array Slot} {st0 : List Value}
    (hr : va_Run C.pr C.la C.en C.ro C.st C.mi C.ar C.be C.me C.co H locs k n mc ms (F0 C.mi pc ls st0) rest (am_Qc C.n0 C.dg C.ty X P ad a) (fun q => C.n0 ≤ q))
    (hq : X 0 ≠ none ∧ X 464 ≠ none ∧ X 465 ≠ none) (h1 : ad 0 = q.1 ∧ ad 464 = q.2.1 ∧ ad 465 = q.2.2) (h3 : va_S (fun q => C.n0 ≤ q) C.st.heap H locs) (h4 : lv_has ls C.co.maxLocals L)
    (kk : ∀ (X' : am_H) (r : Option Value), P X' r → ∀ v9, (∀ ad' : Nat → Nat, r.map (am_v ad') = v9) → lW C q X' (k + mc) (n + ms) (pc + 3) L (v9.toList ++ rest)) (hP : ∀ X' r, P X' r → ∃ v9, ∀ ad' : Nat → Nat, r.map (am_v ad') = v9) : W C.pr C.la C.en C.ro C.st C.mi C.ar C.be C.me C.co H locs k n C.go (F0 C.mi pc ls st0) := by
  intro T hT Y
  obtain ⟨v, st₀, t, T', L9, h0, Y', hL, e1, e2, ⟨⟨ad', X', r, hag, hv, hp, hR⟩, hz, hk⟩, stp⟩ := hr T hT Y
  cases hv
  rw [h0] at hz hk
  have hS' : va_S (fun q => C.n0 ≤ q) C.st.heap T'.heap (locs ++ L9) := by
    refine ⟨Nat.le_trans h3.1 (by rw [e1]; exact hz), fun q g1 g2 => ?_, fun q hq => ?_⟩
    · rw [e1, hk q (Nat.lt_of_lt_of_le g1 h3.1) g2]; exact h3.2.1 q g1 g2
    · rcases List.mem_append.mp hq with h | h
      · exact h3.2.2 q h
      · exact hL q h
  obtain ⟨v9, hv9⟩ := hP X' r hp
  obtain ⟨t2, a1, b1⟩ := kk X' r hp v9 hv9 ad' T'.heap (locs ++ L9) ls ⟨((hag 0 hq.1).2).trans h1.1, ((hag 464 hq.2.1).2).trans h1.2.1, ((hag 465 hq.2.2).2).trans h1.2.2⟩ (by rw [e1]; exact hR) hS' h4 T' rfl Y'
  refine ⟨t2, stp t2 ?_, b1⟩
  rw [← hv9 ad'] at a1
  exact a1
set_option maxHeartbeats 1000000 in
/-- the law's own method with a table -/
theorem l_dS {w0 : Cond} (hF : am_F C cc nL own (w0 :: am_G)) (hK9 : am_K C.n0 C.dg C.ty C.st) {y : MethodName} {ccY : ByteArray} {nY : Nat} {ret : Option FieldType} {hh : List (Nat × Nat × Nat × Nat)} {rm : Room} {X1 : am_H} {r : Int32} (As : List Value) (st1 rest : List Value) {index nn : Nat}
    (hB : am_D C.se y (.codeWith y ccY nY ret hh :: am_G) rm X As X1 (some (.int r))) (hM : am_MW y ccY nY ret hh nn) (hV : Cond.static y ∈ am_G) (hlink : Cond.methodLink own index y ∈ am_G)
    (hnn : As.length = nn) (k2 n2 : Nat) (hro : rm.frames + 1 ≤ C.ro.frames ∧ 8 + (nY + 11) + rm.locals ≤ C.ro.locals) (hroom : k + rm.cells ≤ k2 ∧ n + rm.slots ≤ n2 ∧ k2 ≤ C.ro.cells ∧ n2 ≤ C.ro.slots) (hst : st = st1.reverse ++ rest) (hAs : ∀ ad : Nat → Nat, (ad 0 = q.1 ∧ ad 464 = q.2.1 ∧ ad 465 = q.2.2) → As.map (am_v ad) = st1) (hq : X 0 ≠ none ∧ X 464 ≠ none ∧ X 465 ≠ none) (hcat : (rest.map fun v => v.category).sum ≤ 8) (hd : decode cc pc = .ok (.invokestatic index, 3))
    (kk : lW C q X1 k2 n2 (pc + 3) L (.int r :: rest)) : lW C q X k n pc L st := by
  intro ad H locs ls h1 h2 h3 h4
  obtain ⟨hr1, hr2, hr3, hr4⟩ := hroom
  obtain ⟨⟨hx1, hb, hml, hown, hts⟩, hK, hN, hlk⟩ := hF
  have hgood : GoodIn (w0 :: am_G) (va_wsS own index y (.codeWith y ccY nY ret hh :: am_G)) := am_gd (fun w hw => by
    rcases List.mem_append.mp hw with h | h
    · simp only [List.mem_cons, List.not_mem_nil, or_false] at h
      rcases h with rfl | rfl | rfl
      · exact hlink
      · exact hV
      · exact hM.2.1
    · rcases List.mem_cons.mp h with rfl | h
      · exact hM.1
      · exact h)
  refine l_behind (a := (As.map (am_v ad)).toArray) (vx_runSW (As := As.map (am_v ad)) (rest := rest) ⟨hx1, hb, hml, hown, hts⟩ (hB ad) (vx_cwSW nn hts hgood rfl rfl rfl hM.2.2 hro) ⟨am_blind, am_pre hK9 hN h2 h3⟩ rfl (by rw [List.length_map]; exact hnn) (by rw [← hml]; exact h4.1) (by rw [hst, hAs ad h1]) (lv_room hcat) hd ⟨Nat.le_trans hr1 hr3, Nat.le_trans hr2 hr4⟩) hq h1 h3 h4 (fun X' r' hp v9 hv9 => ?_) (fun X' r' hp => ⟨some (.int r), fun ad' => by rw [hp.2]; rfl⟩)
  obtain ⟨rfl, rfl⟩ := hp
  have := hv9 id
  subst this
  exact l_widen hr1 hr2 kk
set_option maxHeartbeats 1000000 in
/-- a method of an object -/
theorem l_dV {w0 : Cond} (hF : am_F C cc nL own (w0 :: am_G)) (hK9 : am_K C.n0 C.dg C.ty C.st) {y : MethodName} {ccY : ByteArray} {nY : Nat} {ret : Option FieldType} {rm : Room} {X1 : am_H} {r : Int32} {b b' : Nat} (As : List Value) (st1 rest : List Value) {index nn : Nat}
    (hB : am_D C.se y (.code y ccY nY ret :: am_G) rm X (.ref b :: As) X1 (some (.int r))) (hM : am_M y ccY nY ret nn) (hV : am_MV y) (hlink : Cond.methodLink own index y ∈ am_G) {ci : Nat} {fs : List Value} (hX : X b = some (.inr (ci, fs))) {T : u_T} {N : Nat} (hc : vwCl[ci]? = some (y.cls, T, N))
    (hnn : As.length = nn) (k2 n2 : Nat) (hro : rm.frames + 1 ≤ C.ro.frames ∧ 8 + (nY + 11) + rm.locals ≤ C.ro.locals) (hroom : k + rm.cells ≤ k2 ∧ n + rm.slots ≤ n2 ∧ k2 ≤ C.ro.cells ∧ n2 ≤ C.ro.slots) (hst : st = st1.reverse ++ .ref b' :: rest) (hb' : ∀ ad : Nat → Nat, (ad 0 = q.1 ∧ ad 464 = q.2.1 ∧ ad 465 = q.2.2) → ad b = b') (hAs : ∀ ad : Nat → Nat, As.map (am_v ad) = st1) (hq : X 0 ≠ none ∧ X 464 ≠ none ∧ X 465 ≠ none) (hcat : (rest.map fun v => v.category).sum ≤ 8) (hd : decode cc pc = .ok (.invokevirtual index, 3))
    (kk : lW C q X1 k2 n2 (pc + 3) L (.int r :: rest)) : lW C q X k n pc L st := by
  intro ad H locs ls h1 h2 h3 h4
  obtain ⟨hr1, hr2, hr3, hr4⟩ := hroom
  obtain ⟨⟨hx1, hb, hml, hown, hts⟩, hK, hN, hlk⟩ := hF
  obtain ⟨r', hr', cellB, g1, g2, g3, -⟩ := (h2.1 b _ hX).1
  have hcls := (hK.1 ci _ hc).2
  have hgood : GoodIn (w0 :: am_G) (wsV own index y.cls y (.code y ccY nY ret :: am_G)) := am_gd (fun w hw => by
    rcases List.mem_append.mp hw with h | h
    · simp only [List.mem_cons, List.not_mem_nil, or_false] at h
      rcases h with rfl | rfl | rfl | rfl
      · exact hlink
      · exact hV.1
      · exact hV.2
      · exact hM.2.1
    · rcases List.mem_cons.mp h with rfl | h
      · exact hM.1
      · exact h)
  refine l_behind (a := (Value.ref (ad b) :: As.map (am_v ad)).toArray) (va_runV (As := As.map (am_v ad)) (rest := rest) (b := ad b) ⟨hx1, hb, hml, hown, hts⟩ (hB ad) (cwV nn hts hgood rfl rfl rfl ⟨rfl, hM.2.2⟩ hro) ⟨am_blind, ⟨cellB, g1, by rw [g3]; rfl, by rw [g2]; exact hcls.1⟩, am_pre hK9 hN h2 h3⟩ rfl (by rw [List.length_map]; exact hnn) (by rw [← hml]; exact h4.1) (by rw [hst, hAs ad, hb' ad h1]) (lv_room hcat) hd ⟨Nat.le_trans hr1 hr3, Nat.le_trans hr2 hr4⟩) hq h1 h3 h4 (fun X' r' hp v9 hv9 => ?_) (fun X' r' hp => ⟨some (.int r), fun ad' => by rw [hp.2]; rfl⟩)
  obtain ⟨rfl, rfl⟩ := hp
  have := hv9 id
  subst this
  exact l_widen hr1 hr2 kk
end
theorem hp_q (T S : am_T) (o : Nat → Int64) : hp T S o 0 ≠ none ∧ hp T S o 464 ≠ none ∧ hp T S o 465 ≠ none := ⟨by rw [hp_main]; exact Option.some_ne_none _, by rw [hp_o9]; exact Option.some_ne_none _, by rw [hp_m]; exact Option.some_ne_none _⟩
