/-! pure: approve; the jurors; appeal -/
section
variable {T S : am_T} {o : Nat → Int64} {n m v t c : Nat}
theorem open_iff (h : qB T S o n m v t c) {k : Nat} (hk : k < m) : (T 28 k = 1 ∧ ¬ T 32 k = 0) ↔ S 22 k = 3 := by
  obtain ⟨b1, b2, b3, b4, b5, b6⟩ := h.2.2.2.2.2.2.2.1 k hk
  constructor
  · rintro ⟨h1, h2⟩
    rcases b2 with e | e | e
    · exact absurd e (b1.mp h1)
    · exact absurd ((b6 h1).1.mpr e) h2
    · exact e
  · intro h1
    have h28 : T 28 k = 1 := b1.mpr (by rw [h1]; decide)
    exact ⟨h28, fun h9 => by
      have := (b6 h28).1.mp h9
      rw [h1] at this
      exact absurd this (by decide)⟩
theorem held_iff (h : qB T S o n m v t c) {k : Nat} (hk : k < m) : T 25 k = S 13 k := (h.2.2.2.2.2.2.1 k hk).2.2.2.2.2.2.2.2.2.2.2.1
theorem q_approve (h : qR T S o n m v t c) (hc : c ≤ 100) {k l d : Nat} (hk : k < m) (h22 : ¬ S 22 k = 3) (hl : l < n) (h11 : S 11 k = nI l) (h12 : S 12 k = nI d) (hd : d < 15) : qR (tSettle (tDel T n k) v) (lPass (z90 S) o k l d).1 (lPass (z90 S) o k l d).2 n m v t (c + 1) := by
  obtain ⟨⟨hB, hD⟩, hV⟩ := q_begin h
  have h0 := qB_p0 hB hk h22
  have h20 : T 20 k = nI l := (hB.2.2.2.2.2.2.1 k hk).2.2.2.1.trans h11
  have h9 := qJ_pass (k := k) (o := o) ⟨h0, qD_c hD rfl rfl rfl rfl rfl rfl rfl rfl rfl rfl⟩ hc hk hl h20 h12 hd
  exact q_settle h9 hc (qV_c hV (tDel_f (by decide) (by decide)) (tDel_f (by decide) (by decide)) (lPass_f (by decide) (by decide)))
/-- the law's candidates -/
def lca (S : am_T) (k : Nat) (s : Int32) : Int32 := s ||| (1 : Int32) <<< (S 0 k &&& 31)
def lCan (S : am_T) (n k l : Nat) : Int32 := itN (lca S) 0 n &&& (((1 : Int32) <<< (S 10 k &&& 31) ||| (1 : Int32) <<< (S 0 l &&& 31)) ^^^ (-1))
theorem can_eq (h : qB T S o n m v t c) {k l : Nat} (hk : k < m) (hl : l < n) : lCan S n k l = tCand T n k l := by
  have e1 : itN (lca S) 0 n = itN (tjc T) 0 n := itN_congr (fun i hi s => by
    unfold lca tjc
    rw [(h.2.2.1 i hi).2.1])
  unfold lCan tCand
  rw [e1, (h.2.2.2.2.2.2.1 k hk).2.1, (h.2.2.1 l hl).2.1]
  refine b_ext (fun i hi => ?_)
  rw [b_and, b_and, b_and, b_xor, b_xor, b_xor, b_or, b_m1 i hi]
  cases bt (itN (tjc T) 0 n) i <;> cases bt ((1 : Int32) <<< (S 10 k &&& 31)) i <;> cases bt ((1 : Int32) <<< (S 0 l &&& 31)) i <;> rfl
theorem can_bd (h : qB T S o n m v t c) {k l : Nat} : bd 8 (lCan S n k l) := by
  refine bd_and (itN_inv (P := bd 8) (bd_0 8) (fun i hi s hs => ?_))
  unfold lca
  obtain ⟨⟨p, hp, e⟩, -⟩ := h.2.2.1 i hi
  rw [e]
  exact bd_or hs (bd_bit hp (by omega))
/-- the least judged of a set -/
theorem least_ex {T : am_T} {q : Nat → Nat} (hq : ∀ p, p < 8 → T 6 p = nI (q p) ∧ q p < 2 ^ 20) {set : Int32} (hb : bd 8 set) : ∀ j, j ≤ 16 → (itN (tlj T set) (-1) j = -1 ∧ ∀ i, i < j → ¬ bt set i = true) ∨ ∃ p, p < j ∧ p < 8 ∧ itN (tlj T set) (-1) j = nI p ∧ bt set p = true ∧ ∀ i, i < j → bt set i = true → q p < q i ∨ (q p = q i ∧ p ≤ i) := by
  intro j
  induction j with
  | zero => intro _; exact Or.inl ⟨rfl, fun i hi => absurd hi (Nat.not_lt_zero i)⟩
  | succ j ih =>
    intro hj
    have e0 : itN (tlj T set) (-1) (j + 1) = tlj T set j (itN (tlj T set) (-1) j) := rfl
    rw [e0]
    unfold tlj at e0 ⊢
    rcases ih (by omega) with ⟨e, hn⟩ | ⟨p, hpj, hp8, e, hp, hmin⟩
    · have e : itN (fun k b => if bt set k = true ∧ (b = -1 ∨ T 6 k < T 6 b.toNatClampNeg) then nI k else b) (-1) j = -1 := e
      rw [e]
      by_cases h : bt set j = true
      · rw [if_pos ⟨h, Or.inl rfl⟩]
        refine Or.inr ⟨j, Nat.lt_succ_self j, hb j h, rfl, h, fun i hi h9 => ?_⟩
        by_cases e9 : i = j
        · subst e9; exact Or.inr ⟨rfl, Nat.le_refl i⟩
        · exact absurd h9 (hn i (by omega))
      · rw [if_neg (fun h9 => h h9.1)]
        refine Or.inl ⟨rfl, fun i hi => ?_⟩
        by_cases e9 : i = j
        · subst e9; exact h
        · exact hn i (by omega)
    · have e : itN (fun k b => if bt set k = true ∧ (b = -1 ∨ T 6 k < T 6 b.toNatClampNeg) then nI k else b) (-1) j = nI p := e
      rw [e, nI_clamp (by omega)]
      by_cases h : bt set j = true ∧ (nI p = -1 ∨ T 6 j < T 6 p)
      · rw [if_pos h]
        have h2 := h.2.resolve_left (nI_ne_m1 (by omega))
        have hj8 := hb j h.1
        rw [(hq j hj8).1, (hq p hp8).1] at h2
        have h3 := (nI_ltI (by have := (hq j hj8).2; omega) (by have := (hq p hp8).2; omega)).mp h2
        refine Or.inr ⟨j, Nat.lt_succ_self j, hj8, rfl, h.1, fun i hi h9 => ?_⟩
        by_cases e9 : i = j
        · subst e9; exact Or.inr ⟨rfl, Nat.le_refl i⟩
        · have := hmin i (by omega) h9
          exact Or.inl (by omega)
      · rw [if_neg h]
        refine Or.inr ⟨p, by omega, hp8, rfl, hp, fun i hi h9 => ?_⟩
        by_cases e9 : i = j
        · subst e9
          have hj8 := hb i h9
          have h2 : ¬ T 6 i < T 6 p := fun h8 => h ⟨h9, Or.inr h8⟩
          rw [(hq i hj8).1, (hq p hp8).1] at h2
          have h3 : ¬ q i < q p := fun h8 => h2 ((nI_ltI (by have := (hq i hj8).2; omega) (by have := (hq p hp8).2; omega)).mpr h8)
          by_cases e8 : q p = q i
          · exact Or.inr ⟨e8, by omega⟩
          · exact Or.inl (by omega)
        · exact hmin i (by omega) h9
/-- the law's choice: by votes, then by numbers, three -/
def ljs (S : am_T) (cand : Int32) (v k : Nat) (x : Int32 × Int32) : Int32 × Int32 := if (cand >>> (nI k &&& 31)) &&& 1 = 0 then x else if ¬ S 31 k = nI v then x else if x.2 = 3 then x else (x.1 ||| (1 : Int32) <<< (nI k &&& 31), x.2 + 1)
def lScan (S : am_T) (cand : Int32) (v : Nat) : Int32 × Int32 := itN (fun v s => itN (ljs S cand v) s 8) (0, 0) v
def tch (T : am_T) (cand : Int32) (i : Nat) : Int32 := itN (fun _ c => tcj T cand c) 0 i
theorem scan_step {T S : am_T} {q : Nat → Nat} (hq : ∀ p, p < 8 → T 6 p = nI (q p) ∧ q p < 2 ^ 20) (hS : ∀ p, p < 8 → T 6 p = S 31 p) {cand : Int32} (hb : bd 8 cand) {v k : Nat} (hk : k < 8) (hv : v < 2 ^ 20) {x : Int32 × Int32} (h : ∃ i, i ≤ 3 ∧ x = (tch T cand i, nI i) ∧ (∀ p, bt (tch T cand i) p = true → bt cand p = true ∧ 8 * q p + p < 8 * v + k) ∧ (i = 3 ∨ ∀ p, bt cand p = true → ¬ bt (tch T cand i) p = true → 8 * v + k ≤ 8 * q p + p) ∧ cb (tch T cand i) 16 = i) : ∃ i, i ≤ 3 ∧ ljs S cand v k x = (tch T cand i, nI i) ∧ (∀ p, bt (tch T cand i) p = true → bt cand p = true ∧ 8 * q p + p < 8 * v + (k + 1)) ∧ (i = 3 ∨ ∀ p, bt cand p = true → ¬ bt (tch T cand i) p = true → 8 * v + (k + 1) ≤ 8 * q p + p) ∧ cb (tch T cand i) 16 = i := by
  obtain ⟨i, hi, rfl, h1, h2, h3⟩ := h
  have same : ¬ (bt cand k = true ∧ q k = v ∧ ¬ i = 3) → ∃ j, j ≤ 3 ∧ (tch T cand i, nI i) = (tch T cand j, nI j) ∧ (∀ p, bt (tch T cand j) p = true → bt cand p = true ∧ 8 * q p + p < 8 * v + (k + 1)) ∧ (j = 3 ∨ ∀ p, bt cand p = true → ¬ bt (tch T cand j) p = true → 8 * v + (k + 1) ≤ 8 * q p + p) ∧ cb (tch T cand j) 16 = j := by
    intro hno
    refine ⟨i, hi, rfl, fun p hp => ⟨(h1 p hp).1, by have := (h1 p hp).2; omega⟩, ?_, h3⟩
    by_cases e : i = 3
    · exact Or.inl e
    · refine Or.inr (fun p hp hpn => ?_)
      have hp8 := hb p hp
      have h9 := h2.resolve_left e p hp hpn
      by_cases e9 : 8 * q p + p = 8 * v + k
      · have ep : p = k := by omega
        subst ep
        exact absurd ⟨hp, by omega, e⟩ hno
      · omega
  unfold ljs
  by_cases c1 : (cand >>> (nI k &&& 31)) &&& 1 = 0
  · rw [if_pos c1]
    exact same (fun h9 => by rw [bt_iff0 (by omega), h9.1] at c1; cases c1)
  rw [if_neg c1]
  have hck : bt cand k = true := by
    cases hb9 : bt cand k with
    | true => rfl
    | false => exact absurd ((bt_iff0 (by omega)).mpr hb9) c1
  by_cases c2 : S 31 k = nI v
  · rw [if_neg (fun h9 => h9 c2)]
    have hqk : q k = v := by
      have e := (hS k hk).symm.trans (hq k hk).1
      rw [c2] at e
      exact ((nI_eq (by omega) (by have := (hq k hk).2; omega)).mp e).symm
    by_cases c3 : nI i = 3
    · rw [if_pos c3]
      exact same (fun h9 => h9.2.2 ((nI_eq (a := i) (b := 3) (by omega) (by decide)).mp c3))
    · rw [if_neg c3]
      have hi3 : ¬ i = 3 := fun e => c3 (by rw [e]; rfl)
      have hkn : ¬ bt (tch T cand i) k = true := fun h9 => by have := (h1 k h9).2; omega
      have hb2 : bd 8 (cand &&& (tch T cand i ^^^ (-1))) := bd_and hb
      have bin : ∀ p, p < 32 → (bt (cand &&& (tch T cand i ^^^ (-1))) p = true ↔ bt cand p = true ∧ ¬ bt (tch T cand i) p = true) := fun p hp => by
        rw [b_and, b_xor, b_m1 p hp, Bool.and_eq_true]
        cases bt (tch T cand i) p <;> simp
      have hleast : tLeast T (cand &&& (tch T cand i ^^^ (-1))) = nI k := by
        rcases least_ex hq hb2 16 (Nat.le_refl 16) with ⟨-, hn⟩ | ⟨p, hp16, hp8, e, hp, hmin⟩
        · exact absurd ((bin k (by omega)).mpr ⟨hck, hkn⟩) (hn k (by omega))
        · have h9 := (bin p (by omega)).mp hp
          have g1 := h2.resolve_left hi3 p h9.1 h9.2
          have g2 := hmin k (by omega) ((bin k (by omega)).mpr ⟨hck, hkn⟩)
          have ep : p = k := by omega
          rw [← ep]
          exact e
      have hnext : tch T cand (i + 1) = tch T cand i ||| (1 : Int32) <<< (nI k &&& 31) := by
        show tcj T cand (tch T cand i) = _
        unfold tcj
        rw [hleast, if_neg (nI_ne_m1 (by omega))]
      refine ⟨i + 1, by omega, by rw [hnext, nI_1], fun p hp => ?_, ?_, ?_⟩
      · rw [hnext, b_or, Bool.or_eq_true] at hp
        rcases hp with hp | hp
        · exact ⟨(h1 p hp).1, by have := (h1 p hp).2; omega⟩
        · rw [b_bit (by omega) (b_lt hp), decide_eq_true_eq] at hp
          subst hp
          exact ⟨hck, by omega⟩
      · by_cases e : i + 1 = 3
        · exact Or.inl e
        · refine Or.inr (fun p hp hpn => ?_)
          rw [hnext, b_or, Bool.or_eq_true, b_bit (by omega) (by have := hb p hp; omega), decide_eq_true_eq] at hpn
          have g1 := h2.resolve_left hi3 p hp (fun h9 => hpn (Or.inl h9))
          have hp8 := hb p hp
          by_cases e9 : 8 * q p + p = 8 * v + k
          · exact absurd (Or.inr (by omega)) hpn
          · omega
      · rw [hnext, cb_ins (by omega) (bt_false.mp hkn) 16 (by omega), h3, if_pos (by omega)]
  · rw [if_pos c2]
    refine same (fun h9 => c2 ?_)
    rw [← hS k hk, (hq k hk).1, h9.2.1]
theorem scan_at {T S : am_T} {q : Nat → Nat} (hq : ∀ p, p < 8 → T 6 p = nI (q p) ∧ q p < 2 ^ 20) (hS : ∀ p, p < 8 → T 6 p = S 31 p) {cand : Int32} (hb : bd 8 cand) : ∀ v, v < 2 ^ 20 → ∃ i, i ≤ 3 ∧ lScan S cand v = (tch T cand i, nI i) ∧ (∀ p, bt (tch T cand i) p = true → bt cand p = true ∧ 8 * q p + p < 8 * v + 0) ∧ (i = 3 ∨ ∀ p, bt cand p = true → ¬ bt (tch T cand i) p = true → 8 * v + 0 ≤ 8 * q p + p) ∧ cb (tch T cand i) 16 = i := by
  intro v
  induction v with
  | zero =>
    intro _
    refine ⟨0, by omega, rfl, fun p hp => ?_, Or.inr (fun p _ _ => by omega), cb_zero 16⟩
    have : bt (0 : Int32) p = true := hp
    rw [b_0] at this
    cases this
  | succ v ih =>
    intro hv
    have ih := ih (by omega)
    have key : ∀ j, j ≤ 8 → ∃ i, i ≤ 3 ∧ itN (ljs S cand v) (lScan S cand v) j = (tch T cand i, nI i) ∧ (∀ p, bt (tch T cand i) p = true → bt cand p = true ∧ 8 * q p + p < 8 * v + j) ∧ (i = 3 ∨ ∀ p, bt cand p = true → ¬ bt (tch T cand i) p = true → 8 * v + j ≤ 8 * q p + p) ∧ cb (tch T cand i) 16 = i := by
      intro j
      induction j with
      | zero => intro _; exact ih
      | succ j ihj =>
        intro hj
        exact scan_step hq hS hb (by omega) (by omega) (ihj (by omega))
    obtain ⟨i, k1, k2, k3, k4, k5⟩ := key 8 (Nat.le_refl 8)
    exact ⟨i, k1, k2, k3, k4, k5⟩
/-- at the end: three chosen as the class chooses, or all there are, fewer than three -/
theorem scan_end {T S : am_T} {q : Nat → Nat} (hq : ∀ p, p < 8 → T 6 p = nI (q p) ∧ q p ≤ 64) (hS : ∀ p, p < 8 → T 6 p = S 31 p) {cand : Int32} (hb : bd 8 cand) : (lScan S cand 65 = (tChoose T cand, 3) ∧ (3 : Int32) ≤ bc cand ∧ bd 8 (tChoose T cand)) ∨ ∃ i, i < 3 ∧ (lScan S cand 65).2 = nI i ∧ ¬ (3 : Int32) ≤ bc cand := by
  obtain ⟨i, k1, k2, k3, k4, k5⟩ := scan_at (fun p hp => ⟨(hq p hp).1, by have := (hq p hp).2; omega⟩) hS hb 65 (by decide)
  have hb16 : bd 16 cand := bd_le hb (by omega)
  by_cases e : i = 3
  · subst e
    refine Or.inl ⟨k2, ?_, fun p hp => hb p (k3 p hp).1⟩
    rw [bc_eq hb16]
    have : cb (tch T cand 3) 16 ≤ cb cand 16 := cb_mono (fun p hp => (k3 p hp).1) 16
    rw [k5] at this
    exact (nI_leI (a := 3) (by decide) (by have := cb_le cand 16; omega)).mpr this
  · refine Or.inr ⟨i, by omega, by rw [k2], ?_⟩
    rw [bc_eq hb16]
    have hsub : sb cand (tch T cand i) := fun p hp => by
      by_cases h9 : bt (tch T cand i) p = true
      · exact h9
      · have g1 := k4.resolve_left e p hp h9
        have := (hq p (hb p hp)).2
        have := hb p hp
        omega
    have : cb cand 16 ≤ cb (tch T cand i) 16 := cb_mono hsub 16
    rw [k5] at this
    intro h9
    have := (nI_leI (a := 3) (by decide) (by have := cb_le cand 16; omega)).mp h9
    omega
theorem q_appeal (h : qR T S o n m v t c) {k : Nat} (hk : k < m) (h13 : S 13 k = 1) (h22 : S 22 k = 0) {x : Int32} (hx : bd 8 x) : qR (tApp T k x) (st1 (st1 S 22 k 3) 23 k x) o n m v t c := by
  obtain ⟨⟨hA, hP, hL, hJ, hM, hF, hK, hQ, hN⟩, hD, hV⟩ := h
  have e28 : tApp T k x 28 k = 1 := tApp_28
  have e29 : tApp T k x 29 k = x := tApp_29
  have e30 : tApp T k x 30 k = 0 := tApp_30
  have e31 : tApp T k x 31 k = 0 := tApp_31
  have e32 : tApp T k x 32 k = 1 := tApp_32
  have en : ∀ {g p : Nat}, g ≠ 99 → p ≠ k → tApp T k x g p = T g p := fun h0 h => tApp_ne h0 h
  obtain ⟨T9, hT9⟩ : ∃ T9 : am_T, T9 = (tApp T k x) := ⟨_, rfl⟩
  have tf : ∀ {g}, g ≠ 28 ∧ g ≠ 29 ∧ g ≠ 30 ∧ g ≠ 31 ∧ g ≠ 32 → T9 g = T g := fun h => by rw [hT9]; exact tApp_f h
  rw [← hT9] at e28 e29 e30 e31 e32 en ⊢
  obtain ⟨S9, hS9⟩ : ∃ S9 : am_T, S9 = (st1 (st1 S 22 k 3) 23 k x) := ⟨_, rfl⟩
  have s22 : S9 22 = st1 S 22 k 3 22 := (congrFun hS9 22).trans rfl
  have s23 : S9 23 = st1 S 23 k x 23 := (congrFun hS9 23).trans rfl
  have sf : ∀ {g}, g ≠ 22 ∧ g ≠ 23 → S9 g = S g := fun h => by rw [hS9, st1_f h.2, st1_f h.1]
  rw [← hS9]
  refine ⟨⟨qA_c hA (tf (by decide)) (tf (by decide)) (tf (by decide)) (tf (by decide)) (tf (by decide)) (sf (by decide)) (sf (by decide)) (sf (by decide)) (sf (by decide)), qP_c hP (tf (by decide)) (tf (by decide)) (tf (by decide)) (tf (by decide)) (tf (by decide)) (sf (by decide)) (sf (by decide)) (sf (by decide)) (sf (by decide)) rfl, qL_c hL (tf (by decide)) (tf (by decide)) (tf (by decide)) (tf (by decide)) (tf (by decide)) (sf (by decide)) (sf (by decide)) (sf (by decide)) (sf (by decide)) (sf (by decide)), jP_c hJ (tf (by decide)) (sf (by decide)), qM_c hM (tf (by decide)) (tf (by decide)) (sf (by decide)) (sf (by decide)), qF_c hF (sf (by decide)) (sf (by decide)) (sf (by decide)) (sf (by decide)) (sf (by decide)), ?_, ?_, ?_⟩, qD_c hD (tf (by decide)) (tf (by decide)) (tf (by decide)) (tf (by decide)) (tf (by decide)) (tf (by decide)) (sf (by decide)) (sf (by decide)) (sf (by decide)) (sf (by decide)), ?_⟩
  · intro i hi
    obtain ⟨b1, b2, b3, b4, b5, b6, b7, b8, b9, b10, ⟨e, he, b11, b12⟩, b13, b14⟩ := hK i hi
    rw [tf (show 18 ≠ 28 ∧ 18 ≠ 29 ∧ 18 ≠ 30 ∧ 18 ≠ 31 ∧ 18 ≠ 32 by decide), tf (show 19 ≠ 28 ∧ 19 ≠ 29 ∧ 19 ≠ 30 ∧ 19 ≠ 31 ∧ 19 ≠ 32 by decide), tf (show 20 ≠ 28 ∧ 20 ≠ 29 ∧ 20 ≠ 30 ∧ 20 ≠ 31 ∧ 20 ≠ 32 by decide), tf (show 21 ≠ 28 ∧ 21 ≠ 29 ∧ 21 ≠ 30 ∧ 21 ≠ 31 ∧ 21 ≠ 32 by decide), tf (show 22 ≠ 28 ∧ 22 ≠ 29 ∧ 22 ≠ 30 ∧ 22 ≠ 31 ∧ 22 ≠ 32 by decide), tf (show 23 ≠ 28 ∧ 23 ≠ 29 ∧ 23 ≠ 30 ∧ 23 ≠ 31 ∧ 23 ≠ 32 by decide), tf (show 24 ≠ 28 ∧ 24 ≠ 29 ∧ 24 ≠ 30 ∧ 24 ≠ 31 ∧ 24 ≠ 32 by decide), tf (show 25 ≠ 28 ∧ 25 ≠ 29 ∧ 25 ≠ 30 ∧ 25 ≠ 31 ∧ 25 ≠ 32 by decide), tf (show 26 ≠ 28 ∧ 26 ≠ 29 ∧ 26 ≠ 30 ∧ 26 ≠ 31 ∧ 26 ≠ 32 by decide), tf (show 33 ≠ 28 ∧ 33 ≠ 29 ∧ 33 ≠ 30 ∧ 33 ≠ 31 ∧ 33 ≠ 32 by decide), s22, sf (show 10 ≠ 22 ∧ 10 ≠ 23 by decide), sf (show 11 ≠ 22 ∧ 11 ≠ 23 by decide), sf (show 12 ≠ 22 ∧ 12 ≠ 23 by decide), sf (show 13 ≠ 22 ∧ 13 ≠ 23 by decide), sf (show 14 ≠ 22 ∧ 14 ≠ 23 by decide), sf (show 15 ≠ 22 ∧ 15 ≠ 23 by decide), sf (show 20 ≠ 22 ∧ 20 ≠ 23 by decide), sf (show 21 ≠ 22 ∧ 21 ≠ 23 by decide)]
    refine ⟨b1, b2, b3, b4, b5, b6, b7, b8, b9, b10, ⟨e, he, b11, fun h1 h2 => ?_⟩, b13, b14⟩
    rw [st1_if] at h2
    by_cases e9 : i = k
    · rw [if_pos e9] at h2; exact absurd h2 (by decide)
    · rw [if_neg e9] at h2; exact b12 h1 h2
  · intro i hi
    obtain ⟨b1, b2, b3, b4, b5, b6⟩ := hQ i hi
    rw [s22, s23, sf (show 13 ≠ 22 ∧ 13 ≠ 23 by decide), sf (show 24 ≠ 22 ∧ 24 ≠ 23 by decide), sf (show 25 ≠ 22 ∧ 25 ≠ 23 by decide)]
    by_cases e9 : i = k
    · subst e9
      rw [st1_same, st1_same, e28, e29, e30, e31, e32]
      obtain ⟨z4, z5⟩ := b5 h22
      refine ⟨⟨fun _ => by decide, fun _ => rfl⟩, Or.inr (Or.inr rfl), fun _ => h13, fun _ _ => rfl, fun h9 => absurd h9 (by decide), fun _ => ⟨⟨fun h9 => absurd h9 (by decide), fun h9 => absurd h9 (by decide)⟩, ?_, bd_le hx (by omega), bd_0 16, bd_0 16, by rw [cb_zero]; exact z4, by rw [cb_zero]; exact z5⟩⟩
      refine b_ext (fun q hq => ?_)
      rw [b_and, b_and, b_xor, b_0, b_m1 q hq, Bool.false_xor, Bool.and_true, Bool.and_true]
    · rw [st1_j e9, st1_j e9, en (by decide) e9, en (by decide) e9, en (by decide) e9, en (by decide) e9, en (by decide) e9]
      exact ⟨b1, b2, b3, b4, b5, b6⟩
  · refine ⟨fun i h1 h2 => ?_, fun i h1 h2 => ?_⟩
    · rw [s22, sf (show 15 ≠ 22 ∧ 15 ≠ 23 by decide), sf (show 24 ≠ 22 ∧ 24 ≠ 23 by decide), sf (show 25 ≠ 22 ∧ 25 ≠ 23 by decide), st1_j (show i ≠ k by omega)]
      exact hN.1 i h1 h2
    · rw [en (by decide) (show i ≠ k by omega)]
      exact hN.2 i h1 h2
  · intro i hi h9
    by_cases e9 : i = k
    · subst e9
      rw [e30, e31, cb_zero]
      exact ⟨by omega, by omega⟩
    · rw [s22, st1_j e9] at h9
      rw [en (by decide) e9, en (by decide) e9]
      exact hV i hi h9
end
