/-! rows over the heap of the state: the reference's fields and arrays -/
section
variable {C : am_Cx} {T S : am_T} {o : Nat → Int64} {k n pc : Nat} {L : List (Nat × Value)} {st : List Value} {cc : ByteArray} {nL : Nat} {w0 : Cond} {index : Nat}
theorem inG (c : Nat) {Cn : String} {TT : u_T} {N : Nat} {w0 : Cond} (h : ∀ w ∈ u_ws Cn TT N, w ∈ am_G) : ∀ w ∈ u_ws Cn TT N, w ∈ w0 :: am_G := fun w hw => List.mem_cons_of_mem _ (h w hw)
theorem mMain_get {f : Nat} (h36 : f < 36) : (mMain S)[f]? = some (mV S f) := by
  unfold mMain
  rw [List.getElem?_map, List.getElem?_range h36]
  rfl
theorem mMain_len : (mMain S).length = 36 := by unfold mMain; rw [List.length_map, List.length_range]
theorem sv_get (hF : am_F C cc nL RX6 (w0 :: am_G)) (f : Nat) (h36 : f < 36) (hs : (TX6 f).1 = RX6) (hlink : Cond.fieldLink RX6 index RX6 (TX6 f).2.1 (TX6 f).2.2.1 ∈ am_G) (v : Value) (hv : mV S f = v) (hd : decode cc pc = .ok (.getfield index, 3)) (kk : am_W C (hp T S o) k n (pc + 3) L (v :: st)) : am_W C (hp T S o) k n pc L (.ref 465 :: st) :=
  am_getf hF (hp_m T S o) (T := TX6) (N := 36) rfl (inG 6 inG6) f h36 (List.mem_cons_of_mem _ hlink) hs v (by rw [mMain_get h36, hv]) hd kk
theorem tyX6_int {f : Nat} (hf : mSc f = true) : tyX6 f = .int := by
  unfold mSc at hf
  simp only [Bool.or_eq_true, beq_iff_eq] at hf
  rcases hf with (((rfl | rfl) | rfl) | rfl) | rfl <;> rfl
theorem sv_put (hF : am_F C cc nL RX6 (w0 :: am_G)) (f : Nat) (h36 : f < 36) (hf : mSc f = true) (hs : (TX6 f).1 = RX6) (hfin : (TX6 f).2.2.2 = false) (hlink : Cond.fieldLink RX6 index RX6 (TX6 f).2.1 (TX6 f).2.2.1 ∈ am_G) {v : Int32} (hd : decode cc pc = .ok (.putfield index, 3)) (kk : am_W C (hp T (st1 S f 0 v) o) k n (pc + 3) L st) : am_W C (hp T S o) k n pc L (.int v :: .ref 465 :: st) :=
  am_putf hF (hp_m T S o) (T := TX6) (N := 36) rfl (inG 6 inG6) tyX6 tyX6_ok nmX6 f h36 (List.mem_cons_of_mem _ hlink) hs (Or.inl hfin) (by rw [tyX6_int hf]; rfl) (by rw [tyX6_int hf]; rfl) (by rw [mMain_len]; exact h36) hd (by rw [hp_ss T S o h36 hf]; exact kk)
variable {own : String} {Ts : List Cond}
theorem sv_iald (hF : am_F C cc nL own Ts) (f : Nat) (h36 : f < 36) (hf : mSc f = false ∧ mT f = 0 ∧ mL f < 2 ^ 31) {x : Int32} (j : Nat) (hx : x = nI j) (hj : j < mL f) (hd : decode cc pc = .ok (.iaload, 1)) (kk : am_W C (hp T S o) k n (pc + 1) L (.int (S f j) :: st)) : am_W C (hp T S o) k n pc L (.int x :: .ref (500 + f) :: st) :=
  am_iald hF (by rw [hp_a T S o h36 hf.1, hf.2.1]) j hx hj hf.2.2 hd kk
theorem sv_zald (hF : am_F C cc nL own Ts) (f : Nat) (h36 : f < 36) (hf : mSc f = false ∧ mT f = 1 ∧ mL f < 2 ^ 31) {x : Int32} (j : Nat) (hx : x = nI j) (hj : j < mL f) (hd : decode cc pc = .ok (.baload, 1)) (kk : am_W C (hp T S o) k n (pc + 1) L (.int (S f j) :: st)) : am_W C (hp T S o) k n pc L (.int x :: .ref (500 + f) :: st) :=
  am_zald hF (by rw [hp_a T S o h36 hf.1, hf.2.1]) j hx hj hf.2.2 hd kk
theorem sv_iast (hF : am_F C cc nL own Ts) (f : Nat) (h36 : f < 36) (hf : mSc f = false ∧ mT f = 0 ∧ mL f < 2 ^ 31) {x v : Int32} (j : Nat) (hx : x = nI j) (hj : j < mL f) (hd : decode cc pc = .ok (.iastore, 1)) (kk : am_W C (hp T (st1 S f j v) o) k n (pc + 1) L st) : am_W C (hp T S o) k n pc L (.int v :: .int x :: .ref (500 + f) :: st) :=
  am_iast hF (by rw [hp_a T S o h36 hf.1, hf.2.1]) j hx hj hf.2.2 hd (by have e := hp_sa T S o h36 hf.1 j v; rw [hf.2.1] at e; rw [e]; exact kk)
theorem sv_zast (hF : am_F C cc nL own Ts) (f : Nat) (h36 : f < 36) (hf : mSc f = false ∧ mT f = 1 ∧ mL f < 2 ^ 31) {x v : Int32} (j : Nat) (hx : x = nI j) (hj : j < mL f) (hv : narrow .boolean (.int v) = .int v) (hd : decode cc pc = .ok (.bastore, 1)) (kk : am_W C (hp T (st1 S f j v) o) k n (pc + 1) L st) : am_W C (hp T S o) k n pc L (.int v :: .int x :: .ref (500 + f) :: st) :=
  am_zast hF (by rw [hp_a T S o h36 hf.1, hf.2.1]) j hx hj hf.2.2 hv hd (by have e := hp_sa T S o h36 hf.1 j v; rw [hf.2.1] at e; rw [e]; exact kk)
end
/-- a thing done n times -/
def itN {α : Type} (f : Nat → α → α) (a : α) : Nat → α
  | 0 => a
  | n + 1 => f n (itN f a n)
theorem am_ltI {a b : Nat} (ha : a < 2 ^ 31) (hb : b < 2 ^ 31) (h : nI a < nI b) : a < b := (nI_ltI ha hb).mp h
theorem am_leI {a b : Nat} (ha : a < 2 ^ 31) (hb : b < 2 ^ 31) (h : nI a ≤ nI b) : a ≤ b := (nI_leI ha hb).mp h
theorem am_nltI {a b : Nat} (ha : a < 2 ^ 31) (hb : b < 2 ^ 31) (h : ¬ nI a < nI b) : b ≤ a := Nat.le_of_not_lt (fun q => h ((nI_ltI ha hb).mpr q))
theorem am_nleI {a b : Nat} (ha : a < 2 ^ 31) (hb : b < 2 ^ 31) (h : ¬ nI a ≤ nI b) : b < a := Nat.lt_of_not_le (fun q => h ((nI_leI ha hb).mpr q))
