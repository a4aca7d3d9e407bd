/-! my layer, 1: abstract heaps (cells by identity, references are identities), a judgement over them, and straight pieces of code run by computation -/
abbrev am_H : Type := Nat → Option va_E
def am_u (X : am_H) (i : Nat) (e : va_E) : am_H := fun j => if j = i then some e else X j
def am_v (ad : Nat → Nat) (v : Value) : Value := match v with
  | .ref a => .ref (ad a)
  | .int x => .int x
  | .long x => .long x
  | .float x => .float x
  | .double x => .double x
  | .null => .null
  | .retAddr x => .ref x
def am_a (ad : Nat → Nat) (a : vp_A) : vp_A := (a.1, match a.2 with
  | .inl f => .inl f
  | .inr (.inl f) => .inr (.inl f)
  | .inr (.inr (.inl f)) => .inr (.inr (.inl f))
  | .inr (.inr (.inr (.inl f))) => .inr (.inr (.inr (.inl f)))
  | .inr (.inr (.inr (.inr f))) => .inr (.inr (.inr (.inr (fun j => (f j).map ad)))))
def am_e (ty : Nat → ClassId) (ad : Nat → Nat) (e : va_E) : va_E := match e with
  | .inl q => .inl (ty q.1, am_a ad q.2)
  | .inr q => .inr (q.1, q.2.map (am_v ad))
def am_R (N0 : Nat) (D : va_G) (ty : Nat → ClassId) (ad : Nat → Nat) (X : am_H) (H : Heap) : Prop :=
  (∀ (i : Nat) (e : va_E), X i = some e → va_at D vwCl (ad i, am_e ty ad e) H ∧ N0 ≤ ad i) ∧ ∀ i j : Nat, X i ≠ none → X j ≠ none → ad i = ad j → i = j
/-- the kinds of arrays -/
def am_ft (t : Nat) : FieldType := match t with
  | 0 => .int
  | 1 => .int
  | 2 => .object "MailPriory$Person"
  | 3 => .object "MailPriory$MailList"
  | 4 => .object "MailPriory$Mail"
  | 5 => .object "MailPriory$PostDay"
  | _ => .long
def am_tys (ty : Nat → ClassId) : List (ClassId × FieldType) := [(ty 0, am_ft 0), (ty 1, am_ft 1), (ty 2, am_ft 2), (ty 3, am_ft 3), (ty 4, am_ft 4), (ty 5, am_ft 5), (ty 6, am_ft 6)]
/-- program, launch, environment, room, start; method, arguments, frames below, its method and code; goal, first cell, classes, arrays' classes; the heap and the addresses at the start -/
abbrev am_Cx : Type := (Program × Launch × Env × Room × State) × (MethodId × Array Value × List Frame × Method × Code) × ((State → Prop) × Nat × va_G × (Nat → ClassId)) × (am_H × (Nat → Nat))
abbrev am_Cx.pr (C : am_Cx) : Program := C.1.1
abbrev am_Cx.la (C : am_Cx) : Launch := C.1.2.1
abbrev am_Cx.en (C : am_Cx) : Env := C.1.2.2.1
abbrev am_Cx.ro (C : am_Cx) : Room := C.1.2.2.2.1
abbrev am_Cx.st (C : am_Cx) : State := C.1.2.2.2.2
abbrev am_Cx.mi (C : am_Cx) : MethodId := C.2.1.1
abbrev am_Cx.ar (C : am_Cx) : Array Value := C.2.1.2.1
abbrev am_Cx.be (C : am_Cx) : List Frame := C.2.1.2.2.1
abbrev am_Cx.me (C : am_Cx) : Method := C.2.1.2.2.2.1
abbrev am_Cx.co (C : am_Cx) : Code := C.2.1.2.2.2.2
abbrev am_Cx.go (C : am_Cx) : State → Prop := C.2.2.1.1
abbrev am_Cx.n0 (C : am_Cx) : Nat := C.2.2.1.2.1
abbrev am_Cx.dg (C : am_Cx) : va_G := C.2.2.1.2.2.1
abbrev am_Cx.ty (C : am_Cx) : Nat → ClassId := C.2.2.1.2.2.2
abbrev am_Cx.x0 (C : am_Cx) : am_H := C.2.2.2.1
abbrev am_Cx.a0 (C : am_Cx) : Nat → Nat := C.2.2.2.2
def am_L (ad : Nat → Nat) (L : List (Nat × Value)) : List (Nat × Value) := L.map (fun q => (q.1, am_v ad q.2))
/-- W, whatever heap bears the abstract one -/
def am_W (C : am_Cx) (X : am_H) (k n pc : Nat) (L : List (Nat × Value)) (st : List Value) : Prop :=
  ∀ (ad : Nat → Nat) (H : Heap) (locs : List Loc) (ls : Array Slot), (∀ i, C.x0 i ≠ none → X i ≠ none ∧ ad i = C.a0 i) → am_R C.n0 C.dg C.ty ad X H → va_S (fun q => C.n0 ≤ q) C.st.heap H locs → lv_has ls C.co.maxLocals (am_L ad L) →
    W C.pr C.la C.en C.ro C.st C.mi C.ar C.be C.me C.co H locs k n C.go (F0 C.mi pc ls (st.map (am_v ad)))
/-- what is known of a method's frame -/
def am_F (C : am_Cx) (cc : ByteArray) (nL : Nat) (own : String) (Ts : List Cond) : Prop :=
  CallFix C.pr C.mi C.co cc nL C.st C.ar Ts own ∧ va_K C.dg vwCl (am_tys C.ty) C.st ∧ C.n0 ≤ C.st.heap.size ∧ C.me.locks = false
theorem am_cong {C : am_Cx} {X X' : am_H} {k n pc : Nat} {L L' : List (Nat × Value)} {st st' : List Value} (hX : X = X') (hL : L = L') (hs : st = st') (h : am_W C X' k n pc L' st') : am_W C X k n pc L st := by
  subst hX; subst hL; subst hs; exact h
theorem am_eqX {C : am_Cx} {X : am_H} (X' : am_H) {k n pc : Nat} {L : List (Nat × Value)} {st : List Value} (hX : X = X') (h : am_W C X' k n pc L st) : am_W C X k n pc L st := hX ▸ h
theorem am_eqL {C : am_Cx} {X : am_H} {k n pc : Nat} {L : List (Nat × Value)} (L' : List (Nat × Value)) {st : List Value} (hL : L = L') (h : am_W C X k n pc L' st) : am_W C X k n pc L st := hL ▸ h
theorem am_eqS {C : am_Cx} {X : am_H} {k n pc : Nat} {L : List (Nat × Value)} {st : List Value} (st' : List Value) (hs : st = st') (h : am_W C X k n pc L st') : am_W C X k n pc L st := hs ▸ h
/-- the top of the stack under another name -/
theorem am_top {C : am_Cx} {X : am_H} {k n pc : Nat} {L : List (Nat × Value)} {st : List Value} {x : Int32} (x' : Int32) (hx : x = x') (h : am_W C X k n pc L (.int x' :: st)) : am_W C X k n pc L (.int x :: st) := hx ▸ h
theorem am_drop {C : am_Cx} {X : am_H} {k n pc : Nat} {L : List (Nat × Value)} (ps : List Nat) (L' : List (Nat × Value)) {st : List Value} (hL : lv_pick L ps = L') (h : am_W C X k n pc L' st) : am_W C X k n pc L st := by
  intro ad H locs ls h1 h2 h3 h4
  refine h ad H locs ls h1 h2 h3 (lv_sub h4 ps ?_)
  rw [← hL]
  clear hL h4
  unfold am_L lv_pick
  induction ps with
  | nil => rfl
  | cons a l ih =>
    simp only [List.getElem?_map] at ih ⊢
    simp only [List.filterMap_cons, List.getElem?_map]
    cases L[a]? with
    | none => simpa using ih
    | some q => simpa using ih
-- straight code
def am_get (L : List (Nat × Value)) (i : Nat) : Option Value := match L with
  | [] => none
  | q :: r => if q.1 = i then some q.2 else am_get r i
def am_fl (i : Nat) (q : Nat × Value) : Bool := !(q.1 == i) && !(q.1 + 1 == i && q.2.category == 2)
abbrev am_Cf : Type := Nat × List (Nat × Value) × List Value
def am_st (nL : Nat) (len : Nat) (i : Nat) (v : Value) (pc : Nat) (L : List (Nat × Value)) (r : List Value) : Option am_Cf := if i < nL then some (pc + len, (i, v) :: L.filter (am_fl i), r) else none
def am_c1 (v : Value) : Bool := match v with
  | .long _ => false
  | .double _ => false
  | _ => true
def am_step (nL : Nat) (ins : Instr) (pc : Nat) (L : List (Nat × Value)) (st : List Value) : Option am_Cf := match ins with
  | .iconst n => some (pc + 1, L, .int (Int32.ofInt n) :: st)
  | .bipush n => some (pc + 2, L, .int (Int8.ofInt n).toInt32 :: st)
  | .sipush n => some (pc + 3, L, .int (Int16.ofInt n).toInt32 :: st)
  | .lconst n => some (pc + 1, L, .long (Int64.ofNat (n : Nat)) :: st)
  | .aconst_null => some (pc + 1, L, .null :: st)
  | .iload_n i => match am_get L i.val with
    | some (.int x) => some (pc + 1, L, .int x :: st)
    | _ => none
  | .iload i => match am_get L i with
    | some (.int x) => some (pc + 2, L, .int x :: st)
    | _ => none
  | .aload_n i => match am_get L i.val with
    | some (.ref x) => some (pc + 1, L, .ref x :: st)
    | _ => none
  | .aload i => match am_get L i with
    | some (.ref x) => some (pc + 2, L, .ref x :: st)
    | _ => none
  | .istore_n i => match st with
    | .int x :: r => am_st nL 1 i.val (.int x) pc L r
    | _ => none
  | .istore i => match st with
    | .int x :: r => am_st nL 2 i (.int x) pc L r
    | _ => none
  | .astore_n i => match st with
    | .ref x :: r => am_st nL 1 i.val (.ref x) pc L r
    | _ => none
  | .astore i => match st with
    | .ref x :: r => am_st nL 2 i (.ref x) pc L r
    | _ => none
  | .iinc i n => match am_get L i with
    | some (.int x) => am_st nL 3 i (.int (x + Int32.ofInt n)) pc L st
    | _ => none
  | .iadd => match st with
    | .int y :: .int x :: r => some (pc + 1, L, .int (x + y) :: r)
    | _ => none
  | .isub => match st with
    | .int y :: .int x :: r => some (pc + 1, L, .int (x - y) :: r)
    | _ => none
  | .imul => match st with
    | .int y :: .int x :: r => some (pc + 1, L, .int (x * y) :: r)
    | _ => none
  | .iand => match st with
    | .int y :: .int x :: r => some (pc + 1, L, .int (x &&& y) :: r)
    | _ => none
  | .ior => match st with
    | .int y :: .int x :: r => some (pc + 1, L, .int (x ||| y) :: r)
    | _ => none
  | .ixor => match st with
    | .int y :: .int x :: r => some (pc + 1, L, .int (x ^^^ y) :: r)
    | _ => none
  | .ishl => match st with
    | .int y :: .int x :: r => some (pc + 1, L, .int (x <<< (y &&& 31)) :: r)
    | _ => none
  | .ishr => match st with
    | .int y :: .int x :: r => some (pc + 1, L, .int (x >>> (y &&& 31)) :: r)
    | _ => none
  | .iushr => match st with
    | .int y :: .int x :: r => some (pc + 1, L, .int (x.toUInt32 >>> (y.toUInt32 &&& Int32.toUInt32 31)).toInt32 :: r)
    | _ => none
  | .i2l => match st with
    | .int x :: r => some (pc + 1, L, .long x.toInt64 :: r)
    | _ => none
  | .lcmp => match st with
    | .long y :: .long x :: r => some (pc + 1, L, .int (lg_cmp x y) :: r)
    | _ => none
  | .pop => match st with
    | v :: r => if am_c1 v = true then some (pc + 1, L, r) else none
    | _ => none
  | .dup => match st with
    | v :: r => if am_c1 v = true then some (pc + 1, L, v :: v :: r) else none
    | _ => none
  | .dup2 => match st with
    | v :: w :: r => if am_c1 v = true ∧ am_c1 w = true then some (pc + 1, L, v :: w :: v :: w :: r) else none
    | _ => none
  | .goto off => some (((pc : Int) + off).toNat, L, st)
  | .lshl => match st with
    | .int y :: .long x :: r => some (pc + 1, L, .long (x <<< (y.toInt64 &&& 63)) :: r)
    | _ => none
  | .lshr => match st with
    | .int y :: .long x :: r => some (pc + 1, L, .long (x >>> (y.toInt64 &&& 63)) :: r)
    | _ => none
  | .lor => match st with
    | .long y :: .long x :: r => some (pc + 1, L, .long (x ||| y) :: r)
    | _ => none
  | .land => match st with
    | .long y :: .long x :: r => some (pc + 1, L, .long (x &&& y) :: r)
    | _ => none
  | .l2i => match st with
    | .long x :: r => some (pc + 1, L, .int x.toInt32 :: r)
    | _ => none
  | _ => none
def am_gt (ins : Instr) (pc : Nat) : Bool := match ins with
  | .goto off => decide (0 ≤ (pc : Int) + off)
  | _ => true
/-- the lengths of the instructions that am_step knows -/
def am_ln (ins : Instr) : Nat := match ins with
  | .bipush _ => 2
  | .sipush _ => 3
  | .iload _ => 2
  | .aload _ => 2
  | .istore _ => 2
  | .astore _ => 2
  | .iinc _ _ => 3
  | .goto _ => 3
  | _ => 1
def am_nx (ins : Instr) (pc : Nat) : Nat := match ins with
  | .goto off => ((pc : Int) + off).toNat
  | _ => pc + am_ln ins
def am_run (nL : Nat) : List Instr → Nat → List (Nat × Value) → List Value → Option am_Cf
  | [], pc, L, st => some (pc, L, st)
  | q :: r, pc, L, st => match am_step nL q pc L st with
    | some c => am_run nL r c.1 c.2.1 c.2.2
    | none => none
/-- the code's bytes from pc on are these instructions (behind a goto: from its target on) -/
def am_dec (cc : ByteArray) : Nat → List Instr → Bool
  | _, [] => true
  | pc, q :: r => decide (decode cc pc = .ok (q, am_ln q)) && am_gt q pc && am_dec cc (am_nx q pc) r
