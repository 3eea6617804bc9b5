/-! A small machine of whole numbers over the class files' own instructions. A method: name, bytes, locals, answer, own class, handlers. A heap: kinds, lengths, the next address, cells and slots left; fields and elements by address and place: ints, longs, addresses (0: null). -/
abbrev Mth : Type := MethodName × ByteArray × Nat × Option FieldType × Nat × List (Nat × Nat × Nat × Nat)
def mY (M : Mth) : MethodName := M.1
def mB (M : Mth) : ByteArray := M.2.1
def mL (M : Mth) : Nat := M.2.2.1
def mR (M : Mth) : Option FieldType := M.2.2.2.1
def mO (M : Mth) : Nat := M.2.2.2.2.1
def mH (M : Mth) : List (Nat × Nat × Nat × Nat) := M.2.2.2.2.2
abbrev Gh : Type := (Nat → Nat) × (Nat → Nat) × Nat × Nat × Nat
abbrev MI : Type := Nat → Nat → Int32
abbrev ML : Type := Nat → Nat → Int64
abbrev MR : Type := Nat → Nat → Nat
abbrev Out : Type := Option Value ⊕ String
abbrev Hh : Type := Gh × MI × ML × MR
abbrev Res : Type := Out × Hh
abbrev Cf : Type := Nat × List Value × List Value × Hh
abbrev CallF : Type := Mth → List Value → Hh → Option Res
def u2 {α : Type} (f : Nat → Nat → α) (a k : Nat) (v : α) : Nat → Nat → α := fun a' k' => if a' = a ∧ k' = k then v else f a' k'
def u1 {α : Type} (f : Nat → α) (a : Nat) (v : α) : Nat → α := fun a' => if a' = a then v else f a'
def z2 {α : Type} (f : Nat → Nat → α) (a : Nat) (v : α) : Nat → Nat → α := fun a' k' => if a' = a then v else f a' k'
def lkp {α : Type} (o i : Nat) : List (Nat × Nat × α) → Option α
  | [] => none
  | e :: r => bif Nat.beq e.1 o && Nat.beq e.2.1 i then some e.2.2 else lkp o i r
theorem lkp_mem {α : Type} {o i : Nat} {x : α} : ∀ {t : List (Nat × Nat × α)}, lkp o i t = some x → (o, i, x) ∈ t
  | [], h => by cases h
  | e :: r, h => by
    unfold lkp at h
    by_cases hc : (Nat.beq e.1 o && Nat.beq e.2.1 i) = true
    · rw [hc] at h
      obtain ⟨a, b, y⟩ := e
      rw [Bool.and_eq_true] at hc
      have e1 : a = o := Nat.eq_of_beq_eq_true hc.1
      have e2 : b = i := Nat.eq_of_beq_eq_true hc.2
      subst e1
      subst e2
      cases h
      exact List.mem_cons_self
    · rw [Bool.eq_false_iff.mpr hc] at h
      exact List.mem_cons_of_mem _ (lkp_mem h)
/-- the tables that the machine reads: fields (class, place, 0 int 1 boolean 2 long 3 reference, final), calls (0 virtual 1 static 2 constructor 3 private constructor 4 static with handlers 5 Object's 6 arraycopy; method; arguments, the receiver among them), new, anewarray, exceptions (name, constructor's entry), texts, handlers' classes, long and int constants -/
abbrev Tb : Type := List (Nat × Nat × (Nat × Nat × Nat × Bool)) × List (Nat × Nat × (Nat × Mth × Nat)) × List (Nat × Nat × Nat) × List (Nat × Nat × Nat) × List (Nat × Nat × (String × Nat)) × List (Nat × Nat × String) × List (Nat × Nat × String) × List (Nat × Nat × Int64) × List (Nat × Nat × Int32)
def fN (ci : Nat) : Nat := match ci with
  | 0 => 6
  | 1 => 11
  | 2 => 8
  | 3 => 9
  | 4 => 3
  | _ => 7
def fval (t : Nat) (mi : MI) (ml : ML) (mr : MR) (a k : Nat) : Value := bif Nat.ble t 1 then .int (mi a k) else bif Nat.beq t 2 then .long (ml a k) else .ref (mr a k)
def nxt (pc : Nat) (L S : List Value) (h : Hh) : Option (Cf ⊕ Res) := some (.inl (pc, L, S, h))
def fin (o : Out) (h : Hh) : Option (Cf ⊕ Res) := some (.inr (o, h))
def newG (g : Gh) (kd n c s : Nat) : Gh := (u1 g.1 g.2.2.1 kd, u1 g.2.1 g.2.2.1 n, g.2.2.1 + 1, c, s)
def newH (h : Hh) (kd n c s : Nat) : Hh := (newG h.1 kd n c s, z2 h.2.1 h.1.2.2.1 0, z2 h.2.2.1 h.1.2.2.1 0, z2 h.2.2.2 h.1.2.2.1 0)
def tgt (pc : Nat) (off : Int) : Nat := ((pc : Int) + off).toNat
def okt (pc : Nat) (off : Int) : Bool := decide (0 ≤ (pc : Int) + off)
/-- a store of an int or a reference: the place below must not hold a long -/
def okst (L : List Value) (i : Nat) : Bool := decide (i < L.length) && (match i with | 0 => true | j + 1 => match L[j]? with | some v => decide (v.category = 1) | none => false)
def isr (v : Value) : Bool := match v with
  | .ref _ => true
  | .retAddr _ => true
  | _ => false
def hnd (T : Tb) (M : Mth) (pc : Nat) (E : String) : Option Nat := match mH M with
  | [] => none
  | (st, en, hd, ct) :: [] => if st ≤ pc ∧ pc < en ∧ lkp (mO M) ct T.2.2.2.2.2.2.1 = some E then some hd else none
  | (st, en, hd, ct) :: (st2, en2, hd2, ct2) :: _ => if st ≤ pc ∧ pc < en ∧ lkp (mO M) ct T.2.2.2.2.2.2.1 = some E then some hd else if st ≤ pc ∧ pc < en ∧ (lkp (mO M) ct T.2.2.2.2.2.2.1).isSome = true ∧ st2 ≤ pc ∧ pc < en2 ∧ lkp (mO M) ct2 T.2.2.2.2.2.2.1 = some E then some hd2 else none
/-- behind a call -/
def aft (T : Tb) (M : Mth) (pc : Nat) (L S : List Value) (r : Option Res) : Option (Cf ⊕ Res) := match r with
  | none => none
  | some (.inl none, h) => nxt (pc + 3) L S h
  | some (.inl (some v), h) => nxt (pc + 3) L (v :: S) h
  | some (.inr E, h) => match mH M with
    | [] => fin (.inr E) h
    | _ => match hnd T M pc E with
      | none => none
      | some hd => nxt hd L [.retAddr 0] h
def arK (a : ArrayType) : Option Nat := match a with
  | .int => some 20
  | .long => some 21
  | .boolean => some 22
  | _ => none
def elK (k : Nat) : Nat := match k with
  | 23 => 2
  | 24 => 1
  | 25 => 4
  | _ => 0
def cpyI (f : Nat → Int32) (g : Nat → Int32) (sp dp n : Nat) : Nat → Int32 := fun k => if dp ≤ k ∧ k < dp + n then f (sp + (k - dp)) else g k
def r2 {α : Type} (f : Nat → Nat → α) (a : Nat) (r : Nat → α) : Nat → Nat → α := fun a' => if a' = a then r else f a'
def stI (T : Tb) (cl : CallF) (d : Nat) (M : Mth) (i : Instr) (n pc : Nat) (L S : List Value) (g : Gh) (mi : MI) (ml : ML) (mr : MR) : Option (Cf ⊕ Res) :=
  match i, S with
  | .aload_n k, S => match L[k.val]? with
    | some (.ref a) => nxt (pc + n) L (.ref a :: S) (g, mi, ml, mr)
    | _ => none
  | .aload k, S => match L[k]? with
    | some (.ref a) => nxt (pc + n) L (.ref a :: S) (g, mi, ml, mr)
    | _ => none
  | .iload_n k, S => match L[k.val]? with
    | some (.int a) => nxt (pc + n) L (.int a :: S) (g, mi, ml, mr)
    | _ => none
  | .iload k, S => match L[k]? with
    | some (.int a) => nxt (pc + n) L (.int a :: S) (g, mi, ml, mr)
    | _ => none
  | .lload_n k, S => match L[k.val]? with
    | some (.long a) => nxt (pc + n) L (.long a :: S) (g, mi, ml, mr)
    | _ => none
  | .lload k, S => match L[k]? with
    | some (.long a) => nxt (pc + n) L (.long a :: S) (g, mi, ml, mr)
    | _ => none
  | .istore_n k, .int a :: S => bif okst L k.val then nxt (pc + n) (L.set k.val (.int a)) S (g, mi, ml, mr) else none
  | .istore k, .int a :: S => bif okst L k then nxt (pc + n) (L.set k (.int a)) S (g, mi, ml, mr) else none
  | .astore_n k, v :: S => bif isr v && okst L k.val then nxt (pc + n) (L.set k.val v) S (g, mi, ml, mr) else none
  | .astore k, v :: S => bif isr v && okst L k then nxt (pc + n) (L.set k v) S (g, mi, ml, mr) else none
  | .lstore_n k, .long a :: S => bif okst L k.val && decide (k.val + 1 < L.length) then nxt (pc + n) ((L.set k.val (.long a)).set (k.val + 1) .null) S (g, mi, ml, mr) else none
  | .lstore k, .long a :: S => bif okst L k && decide (k + 1 < L.length) then nxt (pc + n) ((L.set k (.long a)).set (k + 1) .null) S (g, mi, ml, mr) else none
  | .iinc k x, S => match L[k]? with
    | some (.int a) => bif okst L k then nxt (pc + n) (L.set k (.int (a + Int32.ofInt x))) S (g, mi, ml, mr) else none
    | _ => none
  | .iconst x, S => nxt (pc + n) L (.int (Int32.ofInt x) :: S) (g, mi, ml, mr)
  | .bipush x, S => nxt (pc + n) L (.int (Int8.ofInt x).toInt32 :: S) (g, mi, ml, mr)
  | .sipush x, S => nxt (pc + n) L (.int (Int16.ofInt x).toInt32 :: S) (g, mi, ml, mr)
  | .lconst x, S => nxt (pc + n) L (.long (Int64.ofNat x.val) :: S) (g, mi, ml, mr)
  | .ldc x, S => match lkp (mO M) x T.2.2.2.2.2.2.2.2 with
    | some v => nxt (pc + n) L (.int v :: S) (g, mi, ml, mr)
    | none => none
  | .ldc2_w x, S => match lkp (mO M) x T.2.2.2.2.2.2.2.1 with
    | some v => nxt (pc + n) L (.long v :: S) (g, mi, ml, mr)
    | none => none
  | .dup, v :: S => bif isr v then nxt (pc + n) L (v :: v :: S) (g, mi, ml, mr) else none
  | .dup2, .int x :: .ref a :: S => nxt (pc + n) L (.int x :: .ref a :: .int x :: .ref a :: S) (g, mi, ml, mr)
  | .iadd, .int y :: .int x :: S => nxt (pc + n) L (.int (x + y) :: S) (g, mi, ml, mr)
  | .isub, .int y :: .int x :: S => nxt (pc + n) L (.int (x - y) :: S) (g, mi, ml, mr)
  | .imul, .int y :: .int x :: S => nxt (pc + n) L (.int (x * y) :: S) (g, mi, ml, mr)
  | .idiv, .int y :: .int x :: S => if y = 0 then none else nxt (pc + n) L (.int (x / y) :: S) (g, mi, ml, mr)
  | .irem, .int y :: .int x :: S => if y = 0 then none else nxt (pc + n) L (.int (x - x / y * y) :: S) (g, mi, ml, mr)
  | .iand, .int y :: .int x :: S => nxt (pc + n) L (.int (x &&& y) :: S) (g, mi, ml, mr)
  | .ior, .int y :: .int x :: S => nxt (pc + n) L (.int (x ||| y) :: S) (g, mi, ml, mr)
  | .ishl, .int y :: .int x :: S => nxt (pc + n) L (.int (x <<< (y &&& 31)) :: S) (g, mi, ml, mr)
  | .ishr, .int y :: .int x :: S => nxt (pc + n) L (.int (x >>> (y &&& 31)) :: S) (g, mi, ml, mr)
  | .ladd, .long y :: .long x :: S => nxt (pc + n) L (.long (x + y) :: S) (g, mi, ml, mr)
  | .lsub, .long y :: .long x :: S => nxt (pc + n) L (.long (x - y) :: S) (g, mi, ml, mr)
  | .lmul, .long y :: .long x :: S => nxt (pc + n) L (.long (x * y) :: S) (g, mi, ml, mr)
  | .ldiv, .long y :: .long x :: S => if y = 0 then none else nxt (pc + n) L (.long (x / y) :: S) (g, mi, ml, mr)
  | .lrem, .long y :: .long x :: S => if y = 0 then none else nxt (pc + n) L (.long (x - x / y * y) :: S) (g, mi, ml, mr)
  | .lcmp, .long y :: .long x :: S => nxt (pc + n) L (.int (lg_cmp x y) :: S) (g, mi, ml, mr)
  | .i2l, .int x :: S => nxt (pc + n) L (.long x.toInt64 :: S) (g, mi, ml, mr)
  | .l2i, .long x :: S => nxt (pc + n) L (.int x.toInt32 :: S) (g, mi, ml, mr)
  | .goto off, S => bif okt pc off then nxt (tgt pc off) L S (g, mi, ml, mr) else none
  | .ifCond op off, .int x :: S => bif okt pc off then (match op with
    | .eq => if x = 0 then nxt (tgt pc off) L S (g, mi, ml, mr) else nxt (pc + n) L S (g, mi, ml, mr)
    | .ne => if x = 0 then nxt (pc + n) L S (g, mi, ml, mr) else nxt (tgt pc off) L S (g, mi, ml, mr)
    | .lt => if x < 0 then nxt (tgt pc off) L S (g, mi, ml, mr) else nxt (pc + n) L S (g, mi, ml, mr)
    | .ge => if 0 ≤ x then nxt (tgt pc off) L S (g, mi, ml, mr) else nxt (pc + n) L S (g, mi, ml, mr)
    | .gt => if 0 < x then nxt (tgt pc off) L S (g, mi, ml, mr) else nxt (pc + n) L S (g, mi, ml, mr)
    | .le => if x ≤ 0 then nxt (tgt pc off) L S (g, mi, ml, mr) else nxt (pc + n) L S (g, mi, ml, mr)) else none
  | .if_icmp op off, .int y :: .int x :: S => bif okt pc off then (match op with
    | .eq => if x = y then nxt (tgt pc off) L S (g, mi, ml, mr) else nxt (pc + n) L S (g, mi, ml, mr)
    | .ne => if x = y then nxt (pc + n) L S (g, mi, ml, mr) else nxt (tgt pc off) L S (g, mi, ml, mr)
    | .lt => if x < y then nxt (tgt pc off) L S (g, mi, ml, mr) else nxt (pc + n) L S (g, mi, ml, mr)
    | .ge => if y ≤ x then nxt (tgt pc off) L S (g, mi, ml, mr) else nxt (pc + n) L S (g, mi, ml, mr)
    | .gt => if y < x then nxt (tgt pc off) L S (g, mi, ml, mr) else nxt (pc + n) L S (g, mi, ml, mr)
    | .le => if x ≤ y then nxt (tgt pc off) L S (g, mi, ml, mr) else nxt (pc + n) L S (g, mi, ml, mr)) else none
  | .tableswitch df lo hi offs, .int x :: S => if x.toInt < lo ∨ hi < x.toInt then (bif okt pc df then nxt (tgt pc df) L S (g, mi, ml, mr) else none) else match offs[(x.toInt - lo).toNat]? with
    | some off => bif okt pc off then nxt (tgt pc off) L S (g, mi, ml, mr) else none
    | none => none
  | .getfield x, .ref a :: S => match lkp (mO M) x T.1 with
    | some (ci, k, t, _) => if g.1 a = ci + 1 then nxt (pc + n) L (fval t mi ml mr a k :: S) (g, mi, ml, mr) else none
    | none => none
  | .putfield x, .int v :: .ref a :: S => match lkp (mO M) x T.1 with
    | some (ci, k, t, f) => if g.1 a = ci + 1 ∧ (t = 0 ∨ (t = 1 ∧ (v = 0 ∨ v = 1))) ∧ (f = true → mO M = ci ∧ (mY M).name = "<init>") then nxt (pc + n) L S (g, u2 mi a k v, ml, mr) else none
    | none => none
  | .putfield x, .long v :: .ref a :: S => match lkp (mO M) x T.1 with
    | some (ci, k, t, f) => if g.1 a = ci + 1 ∧ t = 2 ∧ f = false then nxt (pc + n) L S (g, mi, u2 ml a k v, mr) else none
    | none => none
  | .putfield x, .ref v :: .ref a :: S => match lkp (mO M) x T.1 with
    | some (ci, k, t, f) => if g.1 a = ci + 1 ∧ t = 3 ∧ v ≠ 0 ∧ (f = true → mO M = ci ∧ (mY M).name = "<init>") then nxt (pc + n) L S (g, mi, ml, u2 mr a k v) else none
    | none => none
  | .iaload, .int x :: .ref a :: S => if g.1 a = 20 ∧ 0 ≤ x ∧ x.toNatClampNeg < g.2.1 a then nxt (pc + n) L (.int (mi a x.toNatClampNeg) :: S) (g, mi, ml, mr) else if g.1 a = 30 ∧ a = 1 ∧ 0 ≤ x ∧ x.toNatClampNeg < g.2.1 a ∧ (mY M).name = "law" then nxt (pc + n) L (.int (mi a x.toNatClampNeg) :: S) (g, mi, ml, mr) else none
  | .laload, .int x :: .ref a :: S => if g.1 a = 21 ∧ 0 ≤ x ∧ x.toNatClampNeg < g.2.1 a then nxt (pc + n) L (.long (ml a x.toNatClampNeg) :: S) (g, mi, ml, mr) else none
  | .baload, .int x :: .ref a :: S => if g.1 a = 22 ∧ 0 ≤ x ∧ x.toNatClampNeg < g.2.1 a then nxt (pc + n) L (.int (mi a x.toNatClampNeg) :: S) (g, mi, ml, mr) else none
  | .aaload, .int x :: .ref a :: S => if (g.1 a = 23 ∨ g.1 a = 24 ∨ g.1 a = 25) ∧ 0 ≤ x ∧ x.toNatClampNeg < g.2.1 a then nxt (pc + n) L (.ref (mr a x.toNatClampNeg) :: S) (g, mi, ml, mr) else none
  | .iastore, .int v :: .int x :: .ref a :: S => if g.1 a = 20 ∧ 0 ≤ x ∧ x.toNatClampNeg < g.2.1 a then nxt (pc + n) L S (g, u2 mi a x.toNatClampNeg v, ml, mr) else none
  | .lastore, .long v :: .int x :: .ref a :: S => if g.1 a = 21 ∧ 0 ≤ x ∧ x.toNatClampNeg < g.2.1 a then nxt (pc + n) L S (g, mi, u2 ml a x.toNatClampNeg v, mr) else none
  | .bastore, .int v :: .int x :: .ref a :: S => if g.1 a = 22 ∧ 0 ≤ x ∧ x.toNatClampNeg < g.2.1 a ∧ (v = 0 ∨ v = 1) then nxt (pc + n) L S (g, u2 mi a x.toNatClampNeg v, ml, mr) else none
  | .aastore, .ref v :: .int x :: .ref a :: S => if (g.1 a = 23 ∨ g.1 a = 24 ∨ g.1 a = 25) ∧ 0 ≤ x ∧ x.toNatClampNeg < g.2.1 a ∧ g.1 v = elK (g.1 a) then nxt (pc + n) L S (g, mi, ml, u2 mr a x.toNatClampNeg v) else none
  | .arraylength, .ref a :: S => if 20 ≤ g.1 a ∧ g.1 a ≤ 25 then nxt (pc + n) L (.int (Int32.ofNat (g.2.1 a)) :: S) (g, mi, ml, mr) else if g.1 a = 30 ∧ a = 1 ∧ (mY M).name = "law" then nxt (pc + n) L (.int (Int32.ofNat (g.2.1 a)) :: S) (g, mi, ml, mr) else none
  | .new x, S => match lkp (mO M) x T.2.2.1 with
    | some ci => if 1 ≤ g.2.2.2.1 ∧ fN ci ≤ g.2.2.2.2 then nxt (pc + n) L (.ref g.2.2.1 :: S) (newH (g, mi, ml, mr) (ci + 1) 0 (g.2.2.2.1 - 1) (g.2.2.2.2 - fN ci)) else none
    | none => match lkp (mO M) x T.2.2.2.2.1 with
      | none => none
      | some (E, ic) => match decode (mB M) (pc + 4) with
        | .ok (.ldc is, 2) => if 1 ≤ g.2.2.2.1 ∧ 6 ≤ g.2.2.2.2 ∧ 6 ≤ d ∧ S.length ≤ 4 ∧ mH M = [] ∧ (lkp (mO M) is T.2.2.2.2.2.1).isSome = true ∧ decode (mB M) (pc + 3) = .ok (.dup, 1) ∧ decode (mB M) (pc + 6) = .ok (.invokespecial ic, 3) ∧ decode (mB M) (pc + 9) = .ok (.athrow, 1) then fin (.inr E) ((g.1, g.2.1, g.2.2.1, g.2.2.2.1 - 1, g.2.2.2.2 - 6), mi, ml, mr) else none
        | _ => none
  | .newarray t, .int x :: S => match arK t with
    | some kd => if 0 ≤ x ∧ x.toNatClampNeg ≤ 60000 ∧ 1 ≤ g.2.2.2.1 ∧ x.toNatClampNeg ≤ g.2.2.2.2 then nxt (pc + n) L (.ref g.2.2.1 :: S) (newH (g, mi, ml, mr) kd x.toNatClampNeg (g.2.2.2.1 - 1) (g.2.2.2.2 - x.toNatClampNeg)) else none
    | none => none
  | .anewarray y, .int x :: S => match lkp (mO M) y T.2.2.2.1 with
    | some kd => if 0 ≤ x ∧ x.toNatClampNeg ≤ 60000 ∧ 1 ≤ g.2.2.2.1 ∧ x.toNatClampNeg ≤ g.2.2.2.2 then nxt (pc + n) L (.ref g.2.2.1 :: S) (newH (g, mi, ml, mr) kd x.toNatClampNeg (g.2.2.2.1 - 1) (g.2.2.2.2 - x.toNatClampNeg)) else none
    | none => none
  | .invokevirtual x, S => match lkp (mO M) x T.2.1 with
    | some (kd, M', k) => match S.drop (k - 1) with
      | .ref a :: S' => if kd = 0 ∧ 1 ≤ k ∧ g.1 a = mO M' + 1 ∧ S'.length ≤ 4 ∧ k ≤ S.length then aft T M pc L S' (cl M' (S.take k).reverse (g, mi, ml, mr)) else none
      | _ => none
    | none => none
  | .invokestatic x, S => match lkp (mO M) x T.2.1 with
    | some (kd, M', k) => bif Nat.beq kd 6 then (match S with
        | .int z :: .int dp :: .ref b :: .int sp :: .ref a :: S' => if g.1 a = 20 ∧ g.1 b = 20 ∧ 0 ≤ sp ∧ 0 ≤ dp ∧ 0 ≤ z ∧ sp.toNatClampNeg + z.toNatClampNeg ≤ g.2.1 a ∧ dp.toNatClampNeg + z.toNatClampNeg ≤ g.2.1 b ∧ S'.length ≤ 4 ∧ 1 ≤ d then nxt (pc + n) L S' (g, r2 mi b (cpyI (mi a) (mi b) sp.toNatClampNeg dp.toNatClampNeg z.toNatClampNeg), ml, mr) else none
        | _ => none)
      else if (kd = 1 ∨ kd = 4) ∧ (S.drop k).length ≤ 4 ∧ k ≤ S.length then aft T M pc L (S.drop k) (cl M' (S.take k).reverse (g, mi, ml, mr)) else none
    | none => none
  | .invokespecial x, S => match lkp (mO M) x T.2.1 with
    | some (kd, M', k) => bif Nat.beq kd 5 then (match S with
        | .ref a :: S' => if g.1 a ≠ 0 ∧ S'.length ≤ 4 ∧ 1 ≤ d then nxt (pc + n) L S' (g, mi, ml, mr) else none
        | _ => none)
      else match S.drop (k - 1) with
      | .ref a :: S' => if (kd = 2 ∨ kd = 3) ∧ 1 ≤ k ∧ g.1 a = mO M' + 1 ∧ S'.length ≤ 4 ∧ k ≤ S.length then aft T M pc L S' (cl M' (S.take k).reverse (g, mi, ml, mr)) else none
      | _ => none
    | none => none
  | .ireturn, .int v :: [] => if mR M = some .int ∨ (mR M = some .boolean ∧ (v = 0 ∨ v = 1)) then fin (.inl (some (.int v))) (g, mi, ml, mr) else none
  | .lreturn, .long v :: [] => if mR M = some .long then fin (.inl (some (.long v))) (g, mi, ml, mr) else none
  | .areturn, .ref v :: [] => if v ≠ 0 ∧ (mR M = some (.object "TrunkGroup$End") ∨ mR M = some (.array .int)) then fin (.inl (some (.ref v))) (g, mi, ml, mr) else none
  | .return_, [] => if mR M = none then fin (.inl none) (g, mi, ml, mr) else none
  | _, _ => none
def stp (T : Tb) (cl : CallF) (d : Nat) (M : Mth) (c : Cf) : Option (Cf ⊕ Res) := match decode (mB M) c.1 with
  | .ok (i, n) => stI T cl d M i n c.1 c.2.1 c.2.2.1 c.2.2.2.1 c.2.2.2.2.1 c.2.2.2.2.2.1 c.2.2.2.2.2.2
  | _ => none
def runF (f : Cf → Option (Cf ⊕ Res)) : Nat → Cf → Option Res
  | 0, _ => none
  | n + 1, c => match f c with
    | none => none
    | some (.inr r) => some r
    | some (.inl c') => runF f n c'
theorem runF_mono {f : Cf → Option (Cf ⊕ Res)} {r : Res} : ∀ {n : Nat} {c : Cf} (k : Nat), runF f n c = some r → runF f (n + k) c = some r
  | 0, _, _, h => by cases h
  | n + 1, c, k, h => by
    rw [Nat.add_right_comm]
    unfold runF at h ⊢
    cases hf : f c with
    | none => rw [hf] at h; cases h
    | some x =>
      rw [hf] at h
      cases x with
      | inr r' => exact h
      | inl c' => exact runF_mono (n := n) k h
theorem runF_same {f : Cf → Option (Cf ⊕ Res)} {r r' : Res} {n n' : Nat} {c : Cf} (h : runF f n c = some r) (h' : runF f n' c = some r') : r = r' := by
  have a := runF_mono n' h
  have b := runF_mono n h'
  rw [Nat.add_comm] at b
  exact Option.some.inj (a.symm.trans b)
noncomputable def run (f : Cf → Option (Cf ⊕ Res)) (c : Cf) : Option Res := Classical.epsilon fun o : Option Res => (∀ r, o = some r ↔ ∃ n, runF f n c = some r)
theorem run_spec (f : Cf → Option (Cf ⊕ Res)) (c : Cf) (r : Res) : run f c = some r ↔ ∃ n, runF f n c = some r := by
  have h : ∃ o : Option Res, ∀ r, o = some r ↔ ∃ n, runF f n c = some r := by
    by_cases hx : ∃ r n, runF f n c = some r
    · obtain ⟨r, n, hr⟩ := hx
      exact ⟨some r, fun r' => ⟨fun e => by cases e; exact ⟨n, hr⟩, fun ⟨n', h'⟩ => by rw [runF_same hr h']⟩⟩
    · exact ⟨none, fun r => ⟨fun e => (by cases e), fun ⟨n, e⟩ => absurd ⟨r, n, e⟩ hx⟩⟩
  exact Classical.epsilon_spec (p := fun o : Option Res => ∀ r, o = some r ↔ ∃ n, runF f n c = some r) h r
theorem run_eq (f : Cf → Option (Cf ⊕ Res)) (c : Cf) : run f c = match f c with
    | none => none
    | some (.inr r) => some r
    | some (.inl c') => run f c' := by
  apply Option.ext
  intro r
  rw [run_spec]
  constructor
  · rintro ⟨n, h⟩
    cases n with
    | zero => cases h
    | succ n =>
      unfold runF at h
      cases hf : f c with
      | none => rw [hf] at h; cases h
      | some x =>
        rw [hf] at h
        cases x with
        | inr r' => exact h
        | inl c' => exact (run_spec f c' r).mpr ⟨n, h⟩
  · intro h
    cases hf : f c with
    | none => rw [hf] at h; cases h
    | some x =>
      rw [hf] at h
      cases x with
      | inr r' => exact ⟨1, by unfold runF; rw [hf]; exact h⟩
      | inl c' =>
        obtain ⟨n, hn⟩ := (run_spec f c' r).mp h
        exact ⟨n + 1, by unfold runF; rw [hf]; exact hn⟩
def ent : List Value → List Value
  | [] => []
  | .long x :: r => .long x :: .null :: ent r
  | v :: r => v :: ent r
def entL (M : Mth) (as : List Value) : List Value := ent as ++ List.replicate (mL M - (ent as).length) .null
noncomputable def callT (T : Tb) : Nat → CallF
  | 0 => fun _ _ _ => none
  | d + 1 => fun M as h => bif Nat.ble (ent as).length (mL M) then run (stp T (callT T d) d M) (0, entL M as, [], h) else none
