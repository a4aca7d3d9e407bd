/-! my layer, 3: branches; cells read and written -/
section
variable {C : am_Cx} {X : am_H} {k n pc : Nat} {L : List (Nat × Value)} {st : List Value} {cc : ByteArray} {nL : Nat} {own : String} {Ts : List Cond} {off : Int}
theorem am_ifeq (hF : am_F C cc nL own Ts) {x : Int32} (tgt : Nat) (hd : decode cc pc = .ok (.ifCond .eq off, 3)) (ht : (pc : Int) + off = (tgt : Int)) (kt : x = 0 → am_W C X k n tgt L st) (kf : ¬ x = 0 → am_W C X k n (pc + 3) L st) : am_W C X k n pc L (.int x :: st) := fun ad H locs ls h1 h2 h3 h4 => lv_if_eq hF.1.1 hF.1.2.1 hd ht (fun h => kt h ad H locs ls h1 h2 h3 h4) (fun h => kf h ad H locs ls h1 h2 h3 h4)
theorem am_ifne (hF : am_F C cc nL own Ts) {x : Int32} (tgt : Nat) (hd : decode cc pc = .ok (.ifCond .ne off, 3)) (ht : (pc : Int) + off = (tgt : Int)) (kt : ¬ x = 0 → am_W C X k n tgt L st) (kf : x = 0 → am_W C X k n (pc + 3) L st) : am_W C X k n pc L (.int x :: st) := fun ad H locs ls h1 h2 h3 h4 => lv_if_ne hF.1.1 hF.1.2.1 hd ht (fun h => kt h ad H locs ls h1 h2 h3 h4) (fun h => kf h ad H locs ls h1 h2 h3 h4)
theorem am_iflt (hF : am_F C cc nL own Ts) {x : Int32} (tgt : Nat) (hd : decode cc pc = .ok (.ifCond .lt off, 3)) (ht : (pc : Int) + off = (tgt : Int)) (kt : x < 0 → am_W C X k n tgt L st) (kf : ¬ x < 0 → am_W C X k n (pc + 3) L st) : am_W C X k n pc L (.int x :: st) := fun ad H locs ls h1 h2 h3 h4 => lv_if_lt hF.1.1 hF.1.2.1 hd ht (fun h => kt h ad H locs ls h1 h2 h3 h4) (fun h => kf h ad H locs ls h1 h2 h3 h4)
theorem am_ifge (hF : am_F C cc nL own Ts) {x : Int32} (tgt : Nat) (hd : decode cc pc = .ok (.ifCond .ge off, 3)) (ht : (pc : Int) + off = (tgt : Int)) (kt : 0 ≤ x → am_W C X k n tgt L st) (kf : ¬ 0 ≤ x → am_W C X k n (pc + 3) L st) : am_W C X k n pc L (.int x :: st) := fun ad H locs ls h1 h2 h3 h4 => lv_if_ge hF.1.1 hF.1.2.1 hd ht (fun h => kt h ad H locs ls h1 h2 h3 h4) (fun h => kf h ad H locs ls h1 h2 h3 h4)
theorem am_ifgt (hF : am_F C cc nL own Ts) {x : Int32} (tgt : Nat) (hd : decode cc pc = .ok (.ifCond .gt off, 3)) (ht : (pc : Int) + off = (tgt : Int)) (kt : 0 < x → am_W C X k n tgt L st) (kf : ¬ 0 < x → am_W C X k n (pc + 3) L st) : am_W C X k n pc L (.int x :: st) := fun ad H locs ls h1 h2 h3 h4 => lv_if_gt hF.1.1 hF.1.2.1 hd ht (fun h => kt h ad H locs ls h1 h2 h3 h4) (fun h => kf h ad H locs ls h1 h2 h3 h4)
theorem am_ifle (hF : am_F C cc nL own Ts) {x : Int32} (tgt : Nat) (hd : decode cc pc = .ok (.ifCond .le off, 3)) (ht : (pc : Int) + off = (tgt : Int)) (kt : x ≤ 0 → am_W C X k n tgt L st) (kf : ¬ x ≤ 0 → am_W C X k n (pc + 3) L st) : am_W C X k n pc L (.int x :: st) := fun ad H locs ls h1 h2 h3 h4 => lv_if_le hF.1.1 hF.1.2.1 hd ht (fun h => kt h ad H locs ls h1 h2 h3 h4) (fun h => kf h ad H locs ls h1 h2 h3 h4)
theorem am_icmpeq (hF : am_F C cc nL own Ts) {x y : Int32} (tgt : Nat) (hd : decode cc pc = .ok (.if_icmp .eq off, 3)) (ht : (pc : Int) + off = (tgt : Int)) (kt : x = y → am_W C X k n tgt L st) (kf : ¬ x = y → am_W C X k n (pc + 3) L st) : am_W C X k n pc L (.int y :: .int x :: st) := fun ad H locs ls h1 h2 h3 h4 => lv_icmp_eq hF.1.1 hF.1.2.1 hd ht (fun h => kt h ad H locs ls h1 h2 h3 h4) (fun h => kf h ad H locs ls h1 h2 h3 h4)
theorem am_icmpne (hF : am_F C cc nL own Ts) {x y : Int32} (tgt : Nat) (hd : decode cc pc = .ok (.if_icmp .ne off, 3)) (ht : (pc : Int) + off = (tgt : Int)) (kt : ¬ x = y → am_W C X k n tgt L st) (kf : x = y → am_W C X k n (pc + 3) L st) : am_W C X k n pc L (.int y :: .int x :: st) := fun ad H locs ls h1 h2 h3 h4 => lv_icmp_ne hF.1.1 hF.1.2.1 hd ht (fun h => kt h ad H locs ls h1 h2 h3 h4) (fun h => kf h ad H locs ls h1 h2 h3 h4)
theorem am_icmplt (hF : am_F C cc nL own Ts) {x y : Int32} (tgt : Nat) (hd : decode cc pc = .ok (.if_icmp .lt off, 3)) (ht : (pc : Int) + off = (tgt : Int)) (kt : x < y → am_W C X k n tgt L st) (kf : ¬ x < y → am_W C X k n (pc + 3) L st) : am_W C X k n pc L (.int y :: .int x :: st) := fun ad H locs ls h1 h2 h3 h4 => lv_icmp_lt hF.1.1 hF.1.2.1 hd ht (fun h => kt h ad H locs ls h1 h2 h3 h4) (fun h => kf h ad H locs ls h1 h2 h3 h4)
theorem am_icmpge (hF : am_F C cc nL own Ts) {x y : Int32} (tgt : Nat) (hd : decode cc pc = .ok (.if_icmp .ge off, 3)) (ht : (pc : Int) + off = (tgt : Int)) (kt : y ≤ x → am_W C X k n tgt L st) (kf : ¬ y ≤ x → am_W C X k n (pc + 3) L st) : am_W C X k n pc L (.int y :: .int x :: st) := fun ad H locs ls h1 h2 h3 h4 => lv_icmp_ge hF.1.1 hF.1.2.1 hd ht (fun h => kt h ad H locs ls h1 h2 h3 h4) (fun h => kf h ad H locs ls h1 h2 h3 h4)
theorem am_icmpgt (hF : am_F C cc nL own Ts) {x y : Int32} (tgt : Nat) (hd : decode cc pc = .ok (.if_icmp .gt off, 3)) (ht : (pc : Int) + off = (tgt : Int)) (kt : y < x → am_W C X k n tgt L st) (kf : ¬ y < x → am_W C X k n (pc + 3) L st) : am_W C X k n pc L (.int y :: .int x :: st) := fun ad H locs ls h1 h2 h3 h4 => lv_icmp_gt hF.1.1 hF.1.2.1 hd ht (fun h => kt h ad H locs ls h1 h2 h3 h4) (fun h => kf h ad H locs ls h1 h2 h3 h4)
theorem am_icmple (hF : am_F C cc nL own Ts) {x y : Int32} (tgt : Nat) (hd : decode cc pc = .ok (.if_icmp .le off, 3)) (ht : (pc : Int) + off = (tgt : Int)) (kt : x ≤ y → am_W C X k n tgt L st) (kf : ¬ x ≤ y → am_W C X k n (pc + 3) L st) : am_W C X k n pc L (.int y :: .int x :: st) := fun ad H locs ls h1 h2 h3 h4 => lv_icmp_le hF.1.1 hF.1.2.1 hd ht (fun h => kt h ad H locs ls h1 h2 h3 h4) (fun h => kf h ad H locs ls h1 h2 h3 h4)
theorem am_ifnullR (hF : am_F C cc nL own Ts) {x : Nat} (hd : decode cc pc = .ok (.ifnull off, 3)) (kk : am_W C X k n (pc + 3) L st) : am_W C X k n pc L (.ref x :: st) := fun ad H locs ls h1 h2 h3 h4 => lv_ifnull hF.1.1 hF.1.2.1 hd (kk ad H locs ls h1 h2 h3 h4)
theorem am_ifnullN (hF : am_F C cc nL own Ts) (tgt : Nat) (hd : decode cc pc = .ok (.ifnull off, 3)) (ht : (pc : Int) + off = (tgt : Int)) (kk : am_W C X k n tgt L st) : am_W C X k n pc L (.null :: st) := fun ad H locs ls h1 h2 h3 h4 => lv_ifnullN hF.1.1 hF.1.2.1 hd ht (kk ad H locs ls h1 h2 h3 h4)
theorem am_ifnonnullR (hF : am_F C cc nL own Ts) {x : Nat} (tgt : Nat) (hd : decode cc pc = .ok (.ifnonnull off, 3)) (ht : (pc : Int) + off = (tgt : Int)) (kk : am_W C X k n tgt L st) : am_W C X k n pc L (.ref x :: st) := fun ad H locs ls h1 h2 h3 h4 => lv_ifnonnull hF.1.1 hF.1.2.1 hd ht (kk ad H locs ls h1 h2 h3 h4)
theorem am_ifnonnullN (hF : am_F C cc nL own Ts) (hd : decode cc pc = .ok (.ifnonnull off, 3)) (kk : am_W C X k n (pc + 3) L st) : am_W C X k n pc L (.null :: st) := fun ad H locs ls h1 h2 h3 h4 => lv_ifnonnullN hF.1.1 hF.1.2.1 hd (kk ad H locs ls h1 h2 h3 h4)
theorem am_acmpeq (hF : am_F C cc nL own Ts) {x y : Nat} (hx : X x ≠ none) (hy : X y ≠ none) (tgt : Nat) (hd : decode cc pc = .ok (.if_acmp .eq off, 3)) (ht : (pc : Int) + off = (tgt : Int)) (kt : x = y → am_W C X k n tgt L st) (kf : ¬ x = y → am_W C X k n (pc + 3) L st) : am_W C X k n pc L (.ref y :: .ref x :: st) := fun ad H locs ls h1 h2 h3 h4 =>
  lv_acmp_eq (rx := some (ad x)) (ry := some (ad y)) hF.1.1 hF.1.2.1 hd ht (fun h => kt (h2.2 x y hx hy (Option.some.inj h)) ad H locs ls h1 h2 h3 h4) (fun h => kf (fun e => h (by rw [e])) ad H locs ls h1 h2 h3 h4)
theorem am_acmpne (hF : am_F C cc nL own Ts) {x y : Nat} (hx : X x ≠ none) (hy : X y ≠ none) (tgt : Nat) (hd : decode cc pc = .ok (.if_acmp .ne off, 3)) (ht : (pc : Int) + off = (tgt : Int)) (kt : ¬ x = y → am_W C X k n tgt L st) (kf : x = y → am_W C X k n (pc + 3) L st) : am_W C X k n pc L (.ref y :: .ref x :: st) := fun ad H locs ls h1 h2 h3 h4 =>
  lv_acmp_ne (rx := some (ad x)) (ry := some (ad y)) hF.1.1 hF.1.2.1 hd ht (fun h => kt (fun e => h (by rw [e])) ad H locs ls h1 h2 h3 h4) (fun h => kf (h2.2 x y hx hy (Option.some.inj h)) ad H locs ls h1 h2 h3 h4)
theorem am_ldc (hF : am_F C cc nL own Ts) {index : Nat} (v : Int32) (hw : Jvm.Cond.constant own index v ∈ Ts) (hd : decode cc pc = .ok (.ldc index, 2)) (kk : am_W C X k n (pc + 2) L (.int v :: st)) : am_W C X k n pc L st := fun ad H locs ls h1 h2 h3 h4 => lv_ldc hF.1.1 hF.1.2.1 hF.1.2.2.2.1 (hF.1.2.2.2.2 _ hw) hd (kk ad H locs ls h1 h2 h3 h4)
-- the heap's cells
theorem am_R.set {N0 : Nat} {D : va_G} {ty : Nat → ClassId} {ad : Nat → Nat} {X : am_H} {H H1 : Heap} (h : am_R N0 D ty ad X H) {i : Nat} {e0 : va_E} (e : va_E) (hi : X i = some e0) (he : va_at D vwCl (ad i, am_e ty ad e) H1) (oq : ∀ q : Nat, q ≠ ad i → H1[q]? = H[q]?) : am_R N0 D ty ad (am_u X i e) H1 := by
  have hne : ∀ {j : Nat} {x : va_E}, am_u X i e j = some x → X j ≠ none := by
    intro j x hj
    unfold am_u at hj
    by_cases hji : j = i
    · subst hji; rw [hi]; exact fun h => by cases h
    · rw [if_neg hji] at hj; rw [hj]; exact fun h => by cases h
  refine ⟨fun j x hj => ?_, fun a b ha hb => h.2 a b ?_ ?_⟩
  · have hjn := hne hj
    unfold am_u at hj
    by_cases hji : j = i
    · subst hji
      rw [if_pos rfl] at hj
      cases hj
      exact ⟨he, (h.1 j _ hi).2⟩
    · rw [if_neg hji] at hj
      exact ⟨(h.1 j x hj).1.kept (oq _ (fun q => hji (h.2 j i hjn (by rw [hi]; exact fun h => by cases h) q))), (h.1 j x hj).2⟩
  · cases hx : am_u X i e a with
    | none => exact absurd hx ha
    | some x => exact hne hx
  · cases hx : am_u X i e b with
    | none => exact absurd hx hb
    | some x => exact hne hx
theorem am_live {X : am_H} {i : Nat} {e0 : va_E} (e : va_E) (hi : X i = some e0) {ad : Nat → Nat} {x0 : am_H} {a0 : Nat → Nat} (h : ∀ j, x0 j ≠ none → X j ≠ none ∧ ad j = a0 j) : ∀ j, x0 j ≠ none → am_u X i e j ≠ none ∧ ad j = a0 j := by
  intro j hj
  refine ⟨?_, (h j hj).2⟩
  unfold am_u
  by_cases hji : j = i
  · rw [if_pos hji]; exact fun h => by cases h
  · rw [if_neg hji]; exact (h j hj).1
theorem am_getf (hF : am_F C cc nL own Ts) {i ci : Nat} {fs : List Value} (hX : X i = some (.inr (ci, fs))) {Cn ref : String} {T : u_T} {N index : Nat} (hc : vwCl[ci]? = some (Cn, T, N)) (hin : ∀ w ∈ u_ws Cn T N, w ∈ Ts) (j : Nat) (hj : j < N) (hlink : Cond.fieldLink own index ref (T j).2.1 (T j).2.2.1 ∈ Ts) (hsame : (T j).1 = ref) (v : Value) (hv : fs[j]? = some v) (hd : decode cc pc = .ok (.getfield index, 3)) (kk : am_W C X k n (pc + 3) L (v :: st)) : am_W C X k n pc L (.ref i :: st) := by
  intro ad H locs ls h1 h2 h3 h4
  obtain ⟨⟨hx, hb, hml, hown, hts⟩, hK, hN, hlk⟩ := hF
  have hP : va_P C.dg vwCl [(ad i, .inr (ci, fs.map (am_v ad)))] H := by
    intro q z hq
    match q, hq with
    | 0, hq => cases hq; exact (h2.1 i _ hX).1
    | q + 1, hq => cases hq
  refine va_get hx hb hts hin hown hK hP 0 rfl hc j hj (hts _ hlink) (fun x hx => by rw [← hsame]; exact hx) (v := am_v ad v) ?_ hd (kk ad H locs ls h1 h2 h3 h4)
  rw [List.getElem?_map, hv]
  rfl
end
