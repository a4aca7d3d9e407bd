/-! rows over the law's arrays -/
section
variable {C : am_Cx} {k n pc : Nat} {L : List (Nat × Value)} {st : List Value} {cc : ByteArray} {nL : Nat} {own : String} {Ts : List Cond} {T S : am_T} {o : Nat → Int64}
theorem sv_iald (hF : am_F C cc nL own Ts) (f c a g : Nat) (h9 : f < 9) (hc : c < wC f) (hg : g = 10 * f + c) {x : Int32} (hx : x = nI (wC f * a + c)) (hj : wC f * a + c < mL f) (hm : mL f < 2 ^ 31) (hd : decode cc pc = .ok (.iaload, 1)) (kk : am_W C (hp T S o) k n (pc + 1) L (.int (S g a) :: st)) : am_W C (hp T S o) k n pc L (.int x :: .ref (500 + f) :: st) :=
  am_iald hF (hp_a T S o h9) (wC f * a + c) hx hj hm hd (am_top (S g a) (by rw [ct_at S f c a hc, hg]) kk)
theorem sv_iast (hF : am_F C cc nL own Ts) (f c a g : Nat) (h9 : f < 9) (hc : c < wC f) (hg : g = 10 * f + c) {x v : Int32} (hx : x = nI (wC f * a + c)) (hj : wC f * a + c < mL f) (hm : mL f < 2 ^ 31) (hd : decode cc pc = .ok (.iastore, 1)) (kk : am_W C (hp T (st1 S g a v) o) k n (pc + 1) L st) : am_W C (hp T S o) k n pc L (.int v :: .int x :: .ref (500 + f) :: st) :=
  am_iast hF (hp_a T S o h9) (wC f * a + c) hx hj hm hd (am_eqX (hp T (st1 S g a v) o) (by rw [hg]; exact hp_sa T S o h9 hc a v) kk)
theorem sv_iald1 (hF : am_F C cc nL own Ts) (f a g : Nat) (h9 : f < 9) (hc : wC f = 1) (hg : g = 10 * f) {x : Int32} (hx : x = nI a) (hj : a < mL f) (hm : mL f < 2 ^ 31) (hd : decode cc pc = .ok (.iaload, 1)) (kk : am_W C (hp T S o) k n (pc + 1) L (.int (S g a) :: st)) : am_W C (hp T S o) k n pc L (.int x :: .ref (500 + f) :: st) :=
  sv_iald hF f 0 a g h9 (by omega) hg (by rw [hc, Nat.one_mul]; exact hx) (by rw [hc]; omega) hm hd kk
theorem sv_iast1 (hF : am_F C cc nL own Ts) (f a g : Nat) (h9 : f < 9) (hc : wC f = 1) (hg : g = 10 * f) {x v : Int32} (hx : x = nI a) (hj : a < mL f) (hm : mL f < 2 ^ 31) (hd : decode cc pc = .ok (.iastore, 1)) (kk : am_W C (hp T (st1 S g a v) o) k n (pc + 1) L st) : am_W C (hp T S o) k n pc L (.int v :: .int x :: .ref (500 + f) :: st) :=
  sv_iast hF f 0 a g h9 (by omega) hg (by rw [hc, Nat.one_mul]; exact hx) (by rw [hc]; omega) hm hd kk
theorem sv_tald (hF : am_F C cc nL own Ts) (h91 : S 91 0 = 1) (a : Nat) {x : Int32} (hx : x = nI a) (hj : a < 4) (hd : decode cc pc = .ok (.iaload, 1)) (kk : am_W C (hp T S o) k n (pc + 1) L (.int (S 90 a) :: st)) : am_W C (hp T S o) k n pc L (.int x :: .ref 509 :: st) :=
  am_iald hF (hp_t T S o h91) a hx hj (by decide) hd kk
theorem sv_tast (hF : am_F C cc nL own Ts) (h91 : S 91 0 = 1) (a : Nat) {x v : Int32} (hx : x = nI a) (hj : a < 4) (hd : decode cc pc = .ok (.iastore, 1)) (kk : am_W C (hp T (st1 S 90 a v) o) k n (pc + 1) L st) : am_W C (hp T S o) k n pc L (.int v :: .int x :: .ref 509 :: st) :=
  am_iast hF (hp_t T S o h91) a hx hj (by decide) hd (am_eqX (hp T (st1 S 90 a v) o) (hp_st T S o h91 a v) kk)
theorem sv_lald (hF : am_F C cc nL own Ts) {x : Int32} (j : Nat) (hx : x = nI j) (hj : j < 8) (hd : decode cc pc = .ok (.laload, 1)) (kk : am_W C (hp T S o) k n (pc + 1) L (.long (o j) :: st)) : am_W C (hp T S o) k n pc L (.int x :: .ref 464 :: st) :=
  am_lald hF (hp_o T S o) j hx hj (by decide) hd kk
theorem sv_last (hF : am_F C cc nL own Ts) {x : Int32} {v : Int64} (j : Nat) (hx : x = nI j) (hj : j < 8) (hd : decode cc pc = .ok (.lastore, 1)) (kk : am_W C (hp T S (am_updL o j v)) k n (pc + 1) L st) : am_W C (hp T S o) k n pc L (.long v :: .int x :: .ref 464 :: st) :=
  am_last hF (hp_o T S o) j hx hj (by decide) hd (am_eqX (hp T S (am_updL o j v)) (hp_so T S o j v) kk)
theorem am_irem (hF : am_F C cc nL own Ts) {X : am_H} {x y : Int32} (hy : ¬ y = 0) (hd : decode cc pc = .ok (.irem, 1)) (kk : am_W C X k n (pc + 1) L (.int (x - x / y * y) :: st)) : am_W C X k n pc L (.int y :: .int x :: st) := fun ad H locs ls h1 h2 h3 h4 => lv_irem hF.1.1 hF.1.2.1 hd hy (kk ad H locs ls h1 h2 h3 h4)
theorem am_ldc2 (hF : am_F C cc nL own Ts) {X : am_H} {index : Nat} (v : Int64) (hw : Jvm.Cond.constantLong own index v ∈ Ts) (hd : decode cc pc = .ok (.ldc2_w index, 3)) (kk : am_W C X k n (pc + 3) L (.long v :: st)) : am_W C X k n pc L st := fun ad H locs ls h1 h2 h3 h4 => lv_ldc2 hF.1.1 hF.1.2.1 hF.1.2.2.2.1 (hF.1.2.2.2.2 _ hw) hd (kk ad H locs ls h1 h2 h3 h4)
/-- the script's reference, which is real -/
theorem am_aload0 (hF : am_F C cc nL own Ts) {X : am_H} {b : Nat} (hg : am_get L 0 = some (.retAddr b)) (hd : decode cc pc = .ok (.aload_n 0, 1)) (kk : am_W C X k n (pc + 1) L (.retAddr b :: st)) : am_W C X k n pc L st := fun ad H locs ls h1 h2 h3 h4 => lv_aload_n hF.1.1 hF.1.2.1 hd rfl (am_L_get hg h4) (kk ad H locs ls h1 h2 h3 h4)
/-- cells forgotten -/
theorem am_forget {X : am_H} (X' : am_H) (h : ∀ i e, X' i = some e → X i = some e) (h0 : ∀ i, C.x0 i ≠ none → X' i ≠ none) (kk : am_W C X' k n pc L st) : am_W C X k n pc L st := by
  have hn : ∀ i, X' i ≠ none → X i ≠ none := by
    intro i hi
    cases hx : X' i with
    | none => exact absurd hx hi
    | some e => rw [h i e hx]; exact fun q => by cases q
  intro ad H locs ls h1 h2 h3 h4
  exact kk ad H locs ls (fun i hi => ⟨h0 i hi, (h1 i hi).2⟩) ⟨fun i e hi => h2.1 i e (h i e hi), fun i j hi hj => h2.2 i j (hn i hi) (hn j hj)⟩ h3 h4
end
theorem inG (c : Nat) {Cn : String} {TT : u_T} {N : Nat} {w0 : Cond} (h : ∀ w ∈ u_ws Cn TT N, w ∈ am_G) : ∀ w ∈ u_ws Cn TT N, w ∈ w0 :: am_G := fun w hw => List.mem_cons_of_mem _ (h w hw)
/-- a thing done n times -/
def itN {α : Type} (f : Nat → α → α) (a : α) : Nat → α
  | 0 => a
  | n + 1 => f n (itN f a n)
theorem am_ltI {a b : Nat} (ha : a < 2 ^ 31) (hb : b < 2 ^ 31) (h : nI a < nI b) : a < b := (nI_ltI ha hb).mp h
theorem am_leI {a b : Nat} (ha : a < 2 ^ 31) (hb : b < 2 ^ 31) (h : nI a ≤ nI b) : a ≤ b := (nI_leI ha hb).mp h
theorem am_nltI {a b : Nat} (ha : a < 2 ^ 31) (hb : b < 2 ^ 31) (h : ¬ nI a < nI b) : b ≤ a := Nat.le_of_not_lt (fun q => h ((nI_ltI ha hb).mpr q))
theorem am_nleI {a b : Nat} (ha : a < 2 ^ 31) (hb : b < 2 ^ 31) (h : ¬ nI a ≤ nI b) : b < a := Nat.lt_of_not_le (fun q => h ((nI_leI ha hb).mpr q))
