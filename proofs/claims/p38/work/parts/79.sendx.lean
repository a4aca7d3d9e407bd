/-! pure: a mail is sent, the class's call beside it -/
theorem lps_90 {k l d p : Nat} {set : Int32} {q : am_T × (Nat → Int64)} (h : q.1 70 0 = nI d) : (lps k l d set p q).1 90 = q.1 90 := by
  have hl : ∀ w, lLt q.1 w d = q.1 := fun w => by
    unfold lLt
    rw [h]
    exact if_neg (fun e => Int32.lt_irrefl e.1)
  unfold lps
  split
  · rfl
  · split
    · rfl
    · split
      · split
        · show lBx q.1 k p 90 = _
          exact lBx_f (show 90 ≠ 33 ∧ 90 ≠ 15 by decide)
        · show lBn q.1 p 90 = _
          exact lBn_f (show 90 ≠ 32 ∧ 90 ≠ 7 by decide)
      · show lDg q.1 k p ((lWay q.1 l p).toNatClampNeg - 1) d 90 = _
        unfold lDg
        rw [hl]
        exact lD2_f (show 90 ≠ 40 ∧ 90 ≠ 50 ∧ 90 ≠ 60 ∧ 90 ≠ 15 by decide)
theorem lPass_90 {S : am_T} {o : Nat → Int64} {k l d : Nat} (h : S 70 0 = nI d) : (lPass S o k l d).1 90 = S 90 := by
  unfold lPass
  have key : ∀ i, (itN (lps k l d (lRe S l)) (st1 S 13 k 0, o) i).1 90 = S 90 := by
    intro i
    induction i with
    | zero => rfl
    | succ i ih =>
      show (lps k l d (lRe S l) i (itN (lps k l d (lRe S l)) (st1 S 13 k 0, o) i)).1 90 = _
      rw [lps_90 (by rw [lpsN_f (by decide)]; exact h)]
      exact ih
  exact key 8
section
variable {T S : am_T} {o : Nat → Int64} {n m v t c : Nat}
/-- a new mail that passes at once -/
theorem q_new_pass {T1 S1 : am_T} (hB : qB T1 S1 o n (m + 1) v t (c + 1)) (hD : qD T1 S1 (m + 1) v t c (lat S1)) (hV : qV T1 S1 (m + 1)) (hc : c ≤ 100) (h90 : S1 90 = fun _ => 0) {l : Nat} (hl : l < n) (h20 : T1 20 m = nI l) (h12 : S1 12 m = nI t) (h22 : S1 22 m = 0) : qR (tDel T1 n m) (lPass S1 o m l t).1 (lPass S1 o m l t).2 n (m + 1) v t (c + 1) := by
  have h0 := qB_p0 hB (show m < m + 1 by omega) (by rw [h22]; decide)
  have ht := hB.1.2.2.2.2.2.2.2.2.2.2.1
  have h70 := hB.1.2.2.2.2.2.2.2.2.2.1
  have hJ : qJ (st1 T1 25 m 0) (st1 S1 13 m 0) o n (m + 1) v t c := ⟨h0, qD_c hD rfl rfl rfl rfl rfl rfl rfl rfl rfl rfl⟩
  have h9 := qJ_pass hJ hc (show m < m + 1 by omega) hl h20 h12 (by omega)
  have s22 : (lPass S1 o m l t).1 22 = S1 22 := lPass_f (by decide) (by decide)
  have s90 : (lPass S1 o m l t).1 90 = S1 90 := lPass_90 h70
  refine q_rest h9 (qV_c hV (tDel_f (by decide) (by decide)) (tDel_f (by decide) (by decide)) s22) (fun j hj l2 hl2 hb => ?_)
  obtain ⟨d, -, -, -, g⟩ := h9.2.1 j hj
  have := (g l2 hl2).2.2.1.mp hb
  unfold lat at this
  rw [s90, h90, b_0] at this
  cases this
theorem send_ex (h : qR T S o n m v t c) (hc : c ≤ 100) (hm : m < 10) {p l w : Nat} (hp8 : p < 8) (hl : l < n) (hw : w < 16) {x : Int32} (hx : x = -1 ∨ ∃ a, a < m ∧ x = nI a) {sc : Int32} (hsc : sc = tScore T m p (nI w) x) : ∃ T' : am_T, (∀ (G : am_S) (S2 : am_T) (o2 : Nat → Int64), ∃ rm : Room, (rm.frames ≤ 8 ∧ rm.cells ≤ 4 ∧ rm.slots ≤ 36 ∧ rm.locals ≤ 136) ∧ am_D G yX5_send (.code yX5_send cX5_send 10 (some .int) :: am_G) rm (hp T S2 o2) [.ref 0, .int (nI p), .int (nI l), .int (nI w), .int x] (hp T' S2 o2) (some (.int (nI m)))) ∧
    (lCs S p l sc = -1 → ∃ v1, qR T' (lPass (lNew (z90 S) m p l (nI t) (-1) sc) o m l t).1 (lPass (lNew (z90 S) m p l (nI t) (-1) sc) o m l t).2 n (m + 1) v1 t (c + 1)) ∧
    (¬ lCs S p l sc = -1 → ∃ v1, qR T' (lNew (z90 S) m p l (nI t) (lCs S p l sc) sc) o n (m + 1) v1 t (c + 1)) := by
  obtain ⟨⟨hB, hD⟩, hV⟩ := q_begin h
  have hs := qB_safe h.1
  obtain ⟨a1, a2, a3, a4, a5, a6, a7, a8, a9, a10, a11, a12⟩ := id h.1.1
  have hcs : tCause T n p l (tScore T m p (nI w) x) = lCs S p l sc := by rw [← hsc]; exact (cause_eq h.1 hp8 hl sc).symm
  have hz : 0 ≤ nI w ∧ nI w ≤ 1048575 := ⟨by have := nI_le (a := 0) (b := w) (by omega) (by omega); exact this, by have := nI_le (a := w) (b := 1048575) (by omega) (by decide); exact this⟩
  have h28 : ¬ T 28 m = 1 := h.1.2.2.2.2.2.2.2.2.2 m (Nat.le_refl m) (by omega)
  have zb : ∀ {T1 : am_T} {v1 : Nat}, qD T1 (z90 S) m v1 t c (lat (z90 S)) → (∀ {g}, g ≠ 34 ∧ g ≠ 35 ∧ g ≠ 33 ∧ g ≠ 36 ∧ g ≠ 37 ∧ g ≠ 2 → T1 g = T g) → T1 2 0 = nI v1 → v1 ≤ m + 1 → v ≤ v1 → (∀ i, i < v → T1 33 i = T 33 i) → ∀ {j : Nat}, j < v1 → T1 33 j = nI t →
      (lCs S p l sc = -1 → qR (tDel (tNewM T1 m j (nI p) (nI l) sc (lCs S p l sc) (T1 16 l)) n m) (lPass (lNew (z90 S) m p l (nI t) (-1) sc) o m l t).1 (lPass (lNew (z90 S) m p l (nI t) (-1) sc) o m l t).2 n (m + 1) v1 t (c + 1)) ∧
      (¬ lCs S p l sc = -1 → qR (tNewM T1 m j (nI p) (nI l) sc (lCs S p l sc) (T1 16 l)) (lNew (z90 S) m p l (nI t) (lCs S p l sc) sc) o n (m + 1) v1 t (c + 1)) := by
    intro T1 v1 hD1 f g2 hv1 hvv g33 j hj hjt
    obtain ⟨q1, q2, q3⟩ := q_newM hB hV hD1 f g2 hv1 hvv g33 hj hjt hm hp8 hl sc (lCs S p l sc)
    have n22 : S 22 m = 0 := (h.1.2.2.2.2.2.2.2.2.1 m (Nat.le_refl m) hm).2.1
    refine ⟨fun h1 => ?_, fun _ => ?_⟩
    · rw [h1] at q1 q2 q3 ⊢
      exact q_new_pass q1 q2 q3 hc rfl hl tNewM_20 (st1_same (st1 (st1 (z90 S) 10 m (nI p)) 11 m (nI l)) 12 m (nI t)) n22
    · refine q_rest ⟨q1, q2⟩ q3 (fun i hi l2 hl2 hb => ?_)
      obtain ⟨d, -, -, -, g⟩ := q2.1 i hi
      have := (g l2 hl2).2.2.1.mp hb
      have h0 : bt (0 : Int32) d = true := this
      rw [b_0] at h0
      cases h0
  rcases day_ex T (T 3 0) v with ⟨j, hj, hjx, hj0⟩ | hj0
  · obtain ⟨z1, z2⟩ := zb hD (fun _ => rfl) a7 (by omega) (Nat.le_refl v) (fun _ _ => rfl) hj (hjx.trans a9)
    by_cases hc1 : lCs S p l sc = -1
    · rw [hsc] at z1 hcs hc1 ⊢
      refine ⟨_, fun G S2 o2 => ?_, fun h1 => ⟨v, z1 h1⟩, fun h1 => absurd hc1 h1⟩
      rcases hx with rfl | ⟨a, ha, rfl⟩
      · refine ⟨_, ?_, c_p_send_nnyp hs (by omega) h28 (by omega) hl hz hj hjx hj0 hcs hc1⟩
        exact ⟨by decide, by decide, by decide, by decide⟩
      · refine ⟨_, ?_, c_p_send_nayp hs (by omega) h28 (by omega) hl ha hz hj hjx hj0 hcs hc1⟩
        exact ⟨by decide, by decide, by decide, by decide⟩
    · rw [hsc] at z2 hcs hc1 ⊢
      refine ⟨_, fun G S2 o2 => ?_, fun h1 => absurd h1 hc1, fun h1 => ⟨v, z2 h1⟩⟩
      rcases hx with rfl | ⟨a, ha, rfl⟩
      · refine ⟨_, ?_, c_p_send_nnyh hs (by omega) h28 (by omega) hl hz hj hjx hj0 hcs hc1⟩
        exact ⟨by decide, by decide, by decide, by decide⟩
      · refine ⟨_, ?_, c_p_send_nayh hs (by omega) h28 (by omega) hl ha hz hj hjx hj0 hcs hc1⟩
        exact ⟨by decide, by decide, by decide, by decide⟩
  · have hDn : qD (tNewD T v) (z90 S) m (v + 1) t c (lat (z90 S)) := qD_newD hD a9 a11 hj0 (fun l hl h9 => by
      have h0 : bt (0 : Int32) t = true := h9
      rw [b_0] at h0
      cases h0)
    obtain ⟨z1, z2⟩ := zb hDn (fun h => tNewD_f h) (by rw [tNewD_2, nI_1]) (by omega) (Nat.le_succ v) (fun i hi => tNewD_ne (by decide) (by omega)) (Nat.lt_succ_self v) (tNewD_33.trans a9)
    by_cases hc1 : lCs S p l sc = -1
    · rw [hsc] at z1 hcs hc1 ⊢
      refine ⟨_, fun G S2 o2 => ?_, fun h1 => ⟨v + 1, z1 h1⟩, fun h1 => absurd hc1 h1⟩
      rcases hx with rfl | ⟨a, ha, rfl⟩
      · refine ⟨_, ?_, c_p_send_nnnp hs (by omega) h28 (by omega) hl hz (by omega) hj0 hcs hc1⟩
        exact ⟨by decide, by decide, by decide, by decide⟩
      · refine ⟨_, ?_, c_p_send_nanp hs (by omega) h28 (by omega) hl ha hz (by omega) hj0 hcs hc1⟩
        exact ⟨by decide, by decide, by decide, by decide⟩
    · rw [hsc] at z2 hcs hc1 ⊢
      refine ⟨_, fun G S2 o2 => ?_, fun h1 => absurd h1 hc1, fun h1 => ⟨v + 1, z2 h1⟩⟩
      rcases hx with rfl | ⟨a, ha, rfl⟩
      · refine ⟨_, ?_, c_p_send_nnnh hs (by omega) h28 (by omega) hl hz (by omega) hj0 hcs hc1⟩
        exact ⟨by decide, by decide, by decide, by decide⟩
      · refine ⟨_, ?_, c_p_send_nanh hs (by omega) h28 (by omega) hl ha hz (by omega) hj0 hcs hc1⟩
        exact ⟨by decide, by decide, by decide, by decide⟩
/-- the law's score is the class's -/
theorem tscore_n (h : qB T S o n m v t c) {p w : Nat} (hp : p < 8) (hw : w < 16) : lSc S m p (nI w) = tScore T m p (nI w) (-1) := by
  rw [score_eq h hp hw]
  unfold tScore
  rw [if_neg (show ¬ tAns T m p (-1) = true from fun h9 => by
    unfold tAns at h9
    rw [if_pos (Or.inl (by decide))] at h9
    cases h9)]
theorem tscore_a (h : qB T S o n m v t c) {p w a : Nat} (hp : p < 8) (hw : w < 16) (ha : a < m) : (if S 10 a = nI p ∨ (S 15 a >>> (nI p &&& 31)) &&& 1 = 1 then lSc S m p (nI w) + -3 else lSc S m p (nI w)) = tScore T m p (nI w) (nI a) := by
  have hm := h.1.2.2.2.2.2.1
  obtain ⟨-, b2, -, -, -, -, -, -, -, -, -, -, b13⟩ := h.2.2.2.2.2.2.1 a ha
  rw [score_eq h hp hw]
  unfold tScore
  have e : tAns T m p (nI a) = true ↔ (S 10 a = nI p ∨ (S 15 a >>> (nI p &&& 31)) &&& 1 = 1) := by
    unfold tAns
    rw [if_neg (fun h9 => h9.elim (nI_pos (by omega)) (nI_ge ha (by omega))), decide_eq_true_eq, nI_clamp (by omega), b2, b13, bt_iff (by omega)]
  by_cases h9 : tAns T m p (nI a) = true
  · rw [if_pos h9, if_pos (e.mp h9), Int32.sub_eq_add_neg]
  · rw [if_neg h9, if_neg (fun h8 => h9 (e.mpr h8))]
end
