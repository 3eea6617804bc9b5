/-! the small machine -/
def fval (t : Nat) (mi : MI) (ml : ML) (mr : MR) (a k : Nat) : Value := bif Nat.ble t 1 then .int (mi a k) else bif Nat.beq t 2 then .long (ml a k) else .ref (mr a k)
def catS : List Value → Nat
  | [] => 0
  | v :: S => v.category + catS S
def nxt (pc : Nat) (L S : List Value) (h : Hh) : Option (Cf ⊕ Res) := some (.inl (pc, L, S, h))
def fin (o : Out) (h : Hh) : Option (Cf ⊕ Res) := some (.inr (o, h))
def newG (g : Gh) (kd n c s : Nat) : Gh := (u1 g.1 g.2.2.1 kd, u1 g.2.1 g.2.2.1 n, g.2.2.1 + 1, c, s)
def newH (g : Gh) (mi : MI) (ml : ML) (mr : MR) (kd n sl : Nat) : Hh := (newG g kd n (g.2.2.2.1 - 1) (g.2.2.2.2 - sl), z2 mi g.2.2.1 0, z2 ml g.2.2.1 0, z2 mr g.2.2.1 0)
def tgt (pc : Nat) (off : Int) : Nat := ((pc : Int) + off).toNat
def okt (pc : Nat) (off : Int) : Bool := decide (0 ≤ (pc : Int) + off)
/-- a store of an int or a reference: the place below must not hold a long -/
def okst (L : List Value) (i : Nat) : Bool := decide (i < L.length) && (match i with | 0 => true | j + 1 => match L[j]? with | some v => decide (v.category = 1) | none => false)
def isR (v : Value) : Bool := match v with
  | .ref _ => true
  | _ => false
def isO (v : Value) : Bool := match v with
  | .ref _ => true
  | .retAddr _ => true
  | _ => false
def isI (v : Value) : Bool := match v with
  | .int _ => true
  | _ => false
def isJ (v : Value) : Bool := match v with
  | .long _ => true
  | _ => false
def hnd (M : Mth) (pc : Nat) (E : String) : Option Nat := match mH M with
  | [] => none
  | (st, en, hd, ct) :: [] => if st ≤ pc ∧ pc < en ∧ lkp (mO M) ct eT = some E then some hd else none
  | (st, en, hd, ct) :: (st2, en2, hd2, ct2) :: _ => if st ≤ pc ∧ pc < en ∧ lkp (mO M) ct eT = some E then some hd else if st ≤ pc ∧ pc < en ∧ (lkp (mO M) ct eT).isSome = true ∧ st2 ≤ pc ∧ pc < en2 ∧ lkp (mO M) ct2 eT = some E then some hd2 else none
/-- behind a call -/
def aft (M : Mth) (pc : Nat) (L S : List Value) (r : Option Res) : Option (Cf ⊕ Res) := match r with
  | none => none
  | some (.inl none, h) => nxt (pc + 3) L S h
  | some (.inl (some v), h) => nxt (pc + 3) L (v :: S) h
  | some (.inr E, h) => match mH M with
    | [] => fin (.inr E) h
    | _ => match hnd M pc E with
      | none => none
      | some hd => nxt hd L [.retAddr 0] h
def arK (a : ArrayType) : Option Nat := match a with
  | .int => some 20
  | .long => some 21
  | .boolean => some 22
  | _ => none
def cpyI (f : Nat → Int32) (g : Nat → Int32) (sp dp n : Nat) : Nat → Int32 := fun k => if dp ≤ k ∧ k < dp + n then f (sp + (k - dp)) else g k
def r2 {α : Type} (f : Nat → Nat → α) (a : Nat) (r : Nat → α) : Nat → Nat → α := fun a' => if a' = a then r else f a'
def cmpB (op : Jvm.ClassFile.Cond) (x y : Int32) : Bool := match op with
  | .eq => decide (x = y)
  | .ne => !decide (x = y)
  | .lt => decide (x < y)
  | .ge => decide (y ≤ x)
  | .gt => decide (y < x)
  | .le => decide (x ≤ y)
def i_ld (chk : Value → Bool) (k n pc : Nat) (L S : List Value) (h : Hh) : Option (Cf ⊕ Res) := match L[k]? with
  | some v => bif chk v then nxt (pc + n) L (v :: S) h else none
  | none => none
def i_st (chk : Value → Bool) (k n pc : Nat) (L S : List Value) (h : Hh) : Option (Cf ⊕ Res) := match S with
  | v :: S => bif chk v && okst L k then nxt (pc + n) (L.set k v) S h else none
  | [] => none
def i_stL (k n pc : Nat) (L S : List Value) (h : Hh) : Option (Cf ⊕ Res) := match S with
  | .long a :: S => bif okst L k && decide (k + 1 < L.length) then nxt (pc + n) ((L.set k (.long a)).set (k + 1) .null) S h else none
  | _ => none
def i_inc (k : Nat) (x : Int) (pc : Nat) (L S : List Value) (h : Hh) : Option (Cf ⊕ Res) := match L[k]? with
  | some (.int a) => bif okst L k then nxt (pc + 3) (L.set k (.int (a + Int32.ofInt x))) S h else none
  | _ => none
def i_dup (pc : Nat) (L S : List Value) (h : Hh) : Option (Cf ⊕ Res) := match S with
  | .ref a :: S => nxt (pc + 1) L (.ref a :: .ref a :: S) h
  | _ => none
def i_dup2 (pc : Nat) (L S : List Value) (h : Hh) : Option (Cf ⊕ Res) := match S with
  | .int x :: .ref a :: S => nxt (pc + 1) L (.int x :: .ref a :: .int x :: .ref a :: S) h
  | _ => none
def i_opI (f : Int32 → Int32 → Int32) (pc : Nat) (L S : List Value) (h : Hh) : Option (Cf ⊕ Res) := match S with
  | .int y :: .int x :: S => nxt (pc + 1) L (.int (f x y) :: S) h
  | _ => none
def i_opL (f : Int64 → Int64 → Int64) (pc : Nat) (L S : List Value) (h : Hh) : Option (Cf ⊕ Res) := match S with
  | .long y :: .long x :: S => nxt (pc + 1) L (.long (f x y) :: S) h
  | _ => none
def i_dvI (f : Int32 → Int32 → Int32) (pc : Nat) (L S : List Value) (h : Hh) : Option (Cf ⊕ Res) := match S with
  | .int y :: .int x :: S => if y = 0 then none else nxt (pc + 1) L (.int (f x y) :: S) h
  | _ => none
def i_dvL (f : Int64 → Int64 → Int64) (pc : Nat) (L S : List Value) (h : Hh) : Option (Cf ⊕ Res) := match S with
  | .long y :: .long x :: S => if y = 0 then none else nxt (pc + 1) L (.long (f x y) :: S) h
  | _ => none
def i_lcmp (pc : Nat) (L S : List Value) (h : Hh) : Option (Cf ⊕ Res) := match S with
  | .long y :: .long x :: S => nxt (pc + 1) L (.int (lg_cmp x y) :: S) h
  | _ => none
def i_i2l (pc : Nat) (L S : List Value) (h : Hh) : Option (Cf ⊕ Res) := match S with
  | .int x :: S => nxt (pc + 1) L (.long x.toInt64 :: S) h
  | _ => none
def i_l2i (pc : Nat) (L S : List Value) (h : Hh) : Option (Cf ⊕ Res) := match S with
  | .long x :: S => nxt (pc + 1) L (.int x.toInt32 :: S) h
  | _ => none
def i_goto (off : Int) (pc : Nat) (L S : List Value) (h : Hh) : Option (Cf ⊕ Res) := bif okt pc off then nxt (tgt pc off) L S h else none
def i_if (op : Jvm.ClassFile.Cond) (off : Int) (pc : Nat) (L S : List Value) (h : Hh) : Option (Cf ⊕ Res) := match S with
  | .int x :: S => bif okt pc off then (bif cmpB op x 0 then nxt (tgt pc off) L S h else nxt (pc + 3) L S h) else none
  | _ => none
def i_icmp (op : Jvm.ClassFile.Cond) (off : Int) (pc : Nat) (L S : List Value) (h : Hh) : Option (Cf ⊕ Res) := match S with
  | .int y :: .int x :: S => bif okt pc off then (bif cmpB op x y then nxt (tgt pc off) L S h else nxt (pc + 3) L S h) else none
  | _ => none
def i_tab (df lo hi : Int) (offs : Array Int) (pc : Nat) (L S : List Value) (h : Hh) : Option (Cf ⊕ Res) := match S with
  | .int x :: S => if x.toInt < lo ∨ hi < x.toInt then i_goto df pc L S h else match offs[(x.toInt - lo).toNat]? with
    | some off => i_goto off pc L S h
    | none => none
  | _ => none
def i_getf (M : Mth) (x pc : Nat) (L S : List Value) (g : Gh) (mi : MI) (ml : ML) (mr : MR) : Option (Cf ⊕ Res) := match S with
  | .ref a :: S => match lkp (mO M) x fT with
    | some e => if g.1 a = e.1 + 1 then nxt (pc + 3) L (fval e.2.2.1 mi ml mr a e.2.1 :: S) (g, mi, ml, mr) else none
    | none => none
  | _ => none
def okF (M : Mth) (ci : Nat) (f : Bool) : Bool := !f || (Nat.beq (mO M) ci && (mY M).name == "<init>")
def i_putf (M : Mth) (x pc : Nat) (L S : List Value) (g : Gh) (mi : MI) (ml : ML) (mr : MR) : Option (Cf ⊕ Res) := match S with
  | v :: .ref a :: S => match lkp (mO M) x fT with
    | some e => bif okF M e.1 e.2.2.2 then (if g.1 a = e.1 + 1 then (match v with
        | .int y => if e.2.2.1 = 0 ∨ (e.2.2.1 = 1 ∧ (y = 0 ∨ y = 1)) then nxt (pc + 3) L S (g, u2 mi a e.2.1 y, ml, mr) else none
        | .long y => if e.2.2.1 = 2 then nxt (pc + 3) L S (g, mi, u2 ml a e.2.1 y, mr) else none
        | .ref y => if e.2.2.1 = 3 ∧ y ≠ 0 then nxt (pc + 3) L S (g, mi, ml, u2 mr a e.2.1 y) else none
        | _ => none) else none) else none
    | none => none
  | _ => none
def isL (M : Mth) : Bool := (mY M).name == "law"
def i_iald (M : Mth) (kd pc : Nat) (L S : List Value) (g : Gh) (mi : MI) (ml : ML) (mr : MR) : Option (Cf ⊕ Res) := match S with
  | .int x :: .ref a :: S => if (g.1 a = kd ∨ (kd = 20 ∧ g.1 a = 30 ∧ isL M = true)) ∧ 0 ≤ x ∧ x.toNatClampNeg < g.2.1 a then nxt (pc + 1) L (.int (mi a x.toNatClampNeg) :: S) (g, mi, ml, mr) else none
  | _ => none
def i_lald (pc : Nat) (L S : List Value) (g : Gh) (mi : MI) (ml : ML) (mr : MR) : Option (Cf ⊕ Res) := match S with
  | .int x :: .ref a :: S => if g.1 a = 21 ∧ 0 ≤ x ∧ x.toNatClampNeg < g.2.1 a then nxt (pc + 1) L (.long (ml a x.toNatClampNeg) :: S) (g, mi, ml, mr) else none
  | _ => none
def i_aald (pc : Nat) (L S : List Value) (g : Gh) (mi : MI) (ml : ML) (mr : MR) : Option (Cf ⊕ Res) := match S with
  | .int x :: .ref a :: S => if (g.1 a = 23 ∨ g.1 a = 24 ∨ g.1 a = 25) ∧ 0 ≤ x ∧ x.toNatClampNeg < g.2.1 a then nxt (pc + 1) L (.ref (mr a x.toNatClampNeg) :: S) (g, mi, ml, mr) else none
  | _ => none
def i_iast (pc : Nat) (L S : List Value) (g : Gh) (mi : MI) (ml : ML) (mr : MR) : Option (Cf ⊕ Res) := match S with
  | .int v :: .int x :: .ref a :: S => if g.1 a = 20 ∧ 0 ≤ x ∧ x.toNatClampNeg < g.2.1 a then nxt (pc + 1) L S (g, u2 mi a x.toNatClampNeg v, ml, mr) else none
  | _ => none
def i_bast (pc : Nat) (L S : List Value) (g : Gh) (mi : MI) (ml : ML) (mr : MR) : Option (Cf ⊕ Res) := match S with
  | .int v :: .int x :: .ref a :: S => if g.1 a = 22 ∧ 0 ≤ x ∧ x.toNatClampNeg < g.2.1 a ∧ (v = 0 ∨ v = 1) then nxt (pc + 1) L S (g, u2 mi a x.toNatClampNeg v, ml, mr) else none
  | _ => none
def i_last (pc : Nat) (L S : List Value) (g : Gh) (mi : MI) (ml : ML) (mr : MR) : Option (Cf ⊕ Res) := match S with
  | .long v :: .int x :: .ref a :: S => if g.1 a = 21 ∧ 0 ≤ x ∧ x.toNatClampNeg < g.2.1 a then nxt (pc + 1) L S (g, mi, u2 ml a x.toNatClampNeg v, mr) else none
  | _ => none
def i_aast (pc : Nat) (L S : List Value) (g : Gh) (mi : MI) (ml : ML) (mr : MR) : Option (Cf ⊕ Res) := match S with
  | .ref v :: .int x :: .ref a :: S => if (g.1 a = 23 ∨ g.1 a = 24 ∨ g.1 a = 25) ∧ 0 ≤ x ∧ x.toNatClampNeg < g.2.1 a ∧ g.1 v = elK (g.1 a) then nxt (pc + 1) L S (g, mi, ml, u2 mr a x.toNatClampNeg v) else none
  | _ => none
def i_len (M : Mth) (pc : Nat) (L S : List Value) (g : Gh) (h : Hh) : Option (Cf ⊕ Res) := match S with
  | .ref a :: S => if (20 ≤ g.1 a ∧ g.1 a ≤ 25) ∨ (g.1 a = 30 ∧ isL M = true) then nxt (pc + 1) L (.int (Int32.ofNat (g.2.1 a)) :: S) h else none
  | _ => none
def i_new (d : Nat) (M : Mth) (x pc : Nat) (L S : List Value) (g : Gh) (mi : MI) (ml : ML) (mr : MR) : Option (Cf ⊕ Res) := match lkp (mO M) x nT with
  | some ci => if 1 ≤ g.2.2.2.1 ∧ fN ci ≤ g.2.2.2.2 then nxt (pc + 3) L (.ref g.2.2.1 :: S) (newH g mi ml mr (ci + 1) 0 (fN ci)) else none
  | none => match lkp (mO M) x xT with
    | none => none
    | some e => match decode (mB M) (pc + 4) with
      | .ok (.ldc is, 2) => if 1 ≤ g.2.2.2.1 ∧ 6 ≤ g.2.2.2.2 ∧ 6 ≤ d ∧ catS S ≤ 8 ∧ mH M = [] ∧ (lkp (mO M) is sT).isSome = true ∧ decode (mB M) (pc + 3) = .ok (.dup, 1) ∧ decode (mB M) (pc + 6) = .ok (.invokespecial e.2, 3) ∧ decode (mB M) (pc + 9) = .ok (.athrow, 1) then fin (.inr e.1) ((g.1, g.2.1, g.2.2.1, g.2.2.2.1 - 1, g.2.2.2.2 - 6), mi, ml, mr) else none
      | _ => none
def i_newa (kd : Option Nat) (n pc : Nat) (L S : List Value) (g : Gh) (mi : MI) (ml : ML) (mr : MR) : Option (Cf ⊕ Res) := match S with
  | .int x :: S => match kd with
    | some kd => if 0 ≤ x ∧ x.toNatClampNeg ≤ 60000 ∧ 1 ≤ g.2.2.2.1 ∧ x.toNatClampNeg ≤ g.2.2.2.2 then nxt (pc + n) L (.ref g.2.2.1 :: S) (newH g mi ml mr kd x.toNatClampNeg x.toNatClampNeg) else none
    | none => none
  | _ => none
def i_callV (cl : CallF) (ks : Nat → Bool) (M M' : Mth) (kd k pc : Nat) (L S : List Value) (g : Gh) (h : Hh) : Option (Cf ⊕ Res) := match S.drop (k - 1) with
  | .ref a :: S' => if ks kd = true ∧ 1 ≤ k ∧ g.1 a = mO M' + 1 ∧ catS S' ≤ 8 ∧ k ≤ S.length then aft M pc L S' (cl M' (S.take k).reverse h) else none
  | _ => none
def i_callS (cl : CallF) (M M' : Mth) (kd k pc : Nat) (L S : List Value) (h : Hh) : Option (Cf ⊕ Res) := if (kd = 1 ∨ kd = 4) ∧ catS (S.drop k) ≤ 8 ∧ k ≤ S.length then aft M pc L (S.drop k) (cl M' (S.take k).reverse h) else none
def i_cpy (d pc : Nat) (L S : List Value) (g : Gh) (mi : MI) (ml : ML) (mr : MR) : Option (Cf ⊕ Res) := match S with
  | .int z :: .int dp :: .ref b :: .int sp :: .ref a :: S' => if g.1 a = 20 ∧ g.1 b = 20 ∧ 0 ≤ sp ∧ 0 ≤ dp ∧ 0 ≤ z ∧ sp.toNatClampNeg + z.toNatClampNeg ≤ g.2.1 a ∧ dp.toNatClampNeg + z.toNatClampNeg ≤ g.2.1 b ∧ catS S' ≤ 8 ∧ 1 ≤ d then nxt (pc + 3) L S' (g, r2 mi b (cpyI (mi a) (mi b) sp.toNatClampNeg dp.toNatClampNeg z.toNatClampNeg), ml, mr) else none
  | _ => none
def i_min (d pc : Nat) (L S : List Value) (h : Hh) : Option (Cf ⊕ Res) := match S with
  | .int y :: .int x :: S' => if catS S' ≤ 8 ∧ 1 ≤ d then nxt (pc + 3) L (.int (if y < x then y else x) :: S') h else none
  | _ => none
def i_obj (d pc : Nat) (L S : List Value) (g : Gh) (h : Hh) : Option (Cf ⊕ Res) := match S with
  | .ref a :: S' => if g.1 a ≠ 0 ∧ g.1 a < 30 ∧ catS S' ≤ 8 ∧ 1 ≤ d then nxt (pc + 3) L S' h else none
  | _ => none
def i_inv (cl : CallF) (M : Mth) (x pc : Nat) (L S : List Value) (g : Gh) (h : Hh) : Option (Cf ⊕ Res) := match lkp (mO M) x cT with
  | some e => i_callV cl (fun kd => Nat.beq kd 0) M e.2.1 e.1 e.2.2 pc L S g h
  | none => none
def i_invS (cl : CallF) (d : Nat) (M : Mth) (x pc : Nat) (L S : List Value) (g : Gh) (mi : MI) (ml : ML) (mr : MR) : Option (Cf ⊕ Res) := match lkp (mO M) x cT with
  | some e => bif Nat.beq e.1 6 then i_cpy d pc L S g mi ml mr else bif Nat.beq e.1 7 then i_min d pc L S (g, mi, ml, mr) else i_callS cl M e.2.1 e.1 e.2.2 pc L S (g, mi, ml, mr)
  | none => none
def i_invP (cl : CallF) (d : Nat) (M : Mth) (x pc : Nat) (L S : List Value) (g : Gh) (h : Hh) : Option (Cf ⊕ Res) := match lkp (mO M) x cT with
  | some e => bif Nat.beq e.1 5 then i_obj d pc L S g h else i_callV cl (fun kd => Nat.beq kd 2 || Nat.beq kd 3) M e.2.1 e.1 e.2.2 pc L S g h
  | none => none
def i_iret (M : Mth) (S : List Value) (h : Hh) : Option (Cf ⊕ Res) := match S with
  | [.int v] => if mR M = some .int ∨ (mR M = some .boolean ∧ (v = 0 ∨ v = 1)) then fin (.inl (some (.int v))) h else none
  | _ => none
def i_lret (M : Mth) (S : List Value) (h : Hh) : Option (Cf ⊕ Res) := match S with
  | [.long v] => if mR M = some .long then fin (.inl (some (.long v))) h else none
  | _ => none
def i_aret (M : Mth) (S : List Value) (h : Hh) : Option (Cf ⊕ Res) := match S with
  | [.ref v] => if v ≠ 0 ∧ (mR M = some (.object "TrunkGroup$End") ∨ mR M = some (.array .int)) then fin (.inl (some (.ref v))) h else none
  | _ => none
def i_ret (M : Mth) (S : List Value) (h : Hh) : Option (Cf ⊕ Res) := match S with
  | [] => if mR M = none then fin (.inl none) h else none
  | _ => none
def i_k {α : Type} (o : Option α) (f : α → Value) (n pc : Nat) (L S : List Value) (h : Hh) : Option (Cf ⊕ Res) := match o with
  | some v => nxt (pc + n) L (f v :: S) h
  | none => none
def stI (cl : CallF) (d : Nat) (M : Mth) (i : Instr) (pc : Nat) (L S : List Value) (g : Gh) (mi : MI) (ml : ML) (mr : MR) : Option (Cf ⊕ Res) :=
  match i with
  | .aload_n k => i_ld isR k.val 1 pc L S (g, mi, ml, mr)
  | .aload k => i_ld isR k 2 pc L S (g, mi, ml, mr)
  | .iload_n k => i_ld isI k.val 1 pc L S (g, mi, ml, mr)
  | .iload k => i_ld isI k 2 pc L S (g, mi, ml, mr)
  | .lload_n k => i_ld isJ k.val 1 pc L S (g, mi, ml, mr)
  | .lload k => i_ld isJ k 2 pc L S (g, mi, ml, mr)
  | .istore_n k => i_st isI k.val 1 pc L S (g, mi, ml, mr)
  | .istore k => i_st isI k 2 pc L S (g, mi, ml, mr)
  | .astore_n k => i_st isO k.val 1 pc L S (g, mi, ml, mr)
  | .astore k => i_st isO k 2 pc L S (g, mi, ml, mr)
  | .lstore_n k => i_stL k.val 1 pc L S (g, mi, ml, mr)
  | .lstore k => i_stL k 2 pc L S (g, mi, ml, mr)
  | .iinc k x => i_inc k x pc L S (g, mi, ml, mr)
  | .iconst x => nxt (pc + 1) L (.int (Int32.ofInt x) :: S) (g, mi, ml, mr)
  | .bipush x => nxt (pc + 2) L (.int (Int8.ofInt x).toInt32 :: S) (g, mi, ml, mr)
  | .sipush x => nxt (pc + 3) L (.int (Int16.ofInt x).toInt32 :: S) (g, mi, ml, mr)
  | .lconst x => nxt (pc + 1) L (.long (Int64.ofNat x.val) :: S) (g, mi, ml, mr)
  | .ldc x => i_k (lkp (mO M) x iT) .int 2 pc L S (g, mi, ml, mr)
  | .ldc2_w x => i_k (lkp (mO M) x kT) .long 3 pc L S (g, mi, ml, mr)
  | .dup => i_dup pc L S (g, mi, ml, mr)
  | .dup2 => i_dup2 pc L S (g, mi, ml, mr)
  | .iadd => i_opI (fun x y => x + y) pc L S (g, mi, ml, mr)
  | .isub => i_opI (fun x y => x - y) pc L S (g, mi, ml, mr)
  | .imul => i_opI (fun x y => x * y) pc L S (g, mi, ml, mr)
  | .iand => i_opI (fun x y => x &&& y) pc L S (g, mi, ml, mr)
  | .ior => i_opI (fun x y => x ||| y) pc L S (g, mi, ml, mr)
  | .ishl => i_opI (fun x y => x <<< (y &&& 31)) pc L S (g, mi, ml, mr)
  | .ishr => i_opI (fun x y => x >>> (y &&& 31)) pc L S (g, mi, ml, mr)
  | .idiv => i_dvI (fun x y => x / y) pc L S (g, mi, ml, mr)
  | .irem => i_dvI (fun x y => x - x / y * y) pc L S (g, mi, ml, mr)
  | .ladd => i_opL (fun x y => x + y) pc L S (g, mi, ml, mr)
  | .lsub => i_opL (fun x y => x - y) pc L S (g, mi, ml, mr)
  | .lmul => i_opL (fun x y => x * y) pc L S (g, mi, ml, mr)
  | .ldiv => i_dvL (fun x y => x / y) pc L S (g, mi, ml, mr)
  | .lrem => i_dvL (fun x y => x - x / y * y) pc L S (g, mi, ml, mr)
  | .lcmp => i_lcmp pc L S (g, mi, ml, mr)
  | .i2l => i_i2l pc L S (g, mi, ml, mr)
  | .l2i => i_l2i pc L S (g, mi, ml, mr)
  | .goto off => i_goto off pc L S (g, mi, ml, mr)
  | .ifCond op off => i_if op off pc L S (g, mi, ml, mr)
  | .if_icmp op off => i_icmp op off pc L S (g, mi, ml, mr)
  | .tableswitch df lo hi offs => i_tab df lo hi offs pc L S (g, mi, ml, mr)
  | .getfield x => i_getf M x pc L S g mi ml mr
  | .putfield x => i_putf M x pc L S g mi ml mr
  | .iaload => i_iald M 20 pc L S g mi ml mr
  | .baload => i_iald M 22 pc L S g mi ml mr
  | .laload => i_lald pc L S g mi ml mr
  | .aaload => i_aald pc L S g mi ml mr
  | .iastore => i_iast pc L S g mi ml mr
  | .bastore => i_bast pc L S g mi ml mr
  | .lastore => i_last pc L S g mi ml mr
  | .aastore => i_aast pc L S g mi ml mr
  | .arraylength => i_len M pc L S g (g, mi, ml, mr)
  | .new x => i_new d M x pc L S g mi ml mr
  | .newarray t => i_newa (arK t) 2 pc L S g mi ml mr
  | .anewarray y => i_newa (lkp (mO M) y aT) 3 pc L S g mi ml mr
  | .invokevirtual x => i_inv cl M x pc L S g (g, mi, ml, mr)
  | .invokestatic x => i_invS cl d M x pc L S g mi ml mr
  | .invokespecial x => i_invP cl d M x pc L S g (g, mi, ml, mr)
  | .ireturn => i_iret M S (g, mi, ml, mr)
  | .lreturn => i_lret M S (g, mi, ml, mr)
  | .areturn => i_aret M S (g, mi, ml, mr)
  | .return_ => i_ret M S (g, mi, ml, mr)
  | _ => none
def ilen (i : Instr) (n : Nat) : Nat := match i with
  | .aload _ => 2
  | .iload _ => 2
  | .lload _ => 2
  | .istore _ => 2
  | .astore _ => 2
  | .lstore _ => 2
  | .bipush _ => 2
  | .ldc _ => 2
  | .newarray _ => 2
  | .iinc _ _ => 3
  | .sipush _ => 3
  | .ldc2_w _ => 3
  | .goto _ => 3
  | .ifCond _ _ => 3
  | .if_icmp _ _ => 3
  | .getfield _ => 3
  | .putfield _ => 3
  | .new _ => 3
  | .anewarray _ => 3
  | .invokevirtual _ => 3
  | .invokestatic _ => 3
  | .invokespecial _ => 3
  | .tableswitch _ _ _ _ => n
  | _ => 1
def stp (cl : CallF) (d : Nat) (M : Mth) (c : Cf) : Option (Cf ⊕ Res) := match decode (mB M) c.1 with
  | .ok (i, n) => bif Nat.beq n (ilen i n) then stI cl d M i c.1 c.2.1 c.2.2.1 c.2.2.2.1 c.2.2.2.2.1 c.2.2.2.2.2.1 c.2.2.2.2.2.2 else none
  | _ => none
def runF (f : Cf → Option (Cf ⊕ Res)) : Nat → Cf → Option Res
  | 0, _ => none
  | n + 1, c => match f c with
    | none => none
    | some (.inr r) => some r
    | some (.inl c') => runF f n c'
theorem runF_mono {f : Cf → Option (Cf ⊕ Res)} {r : Res} : ∀ {n : Nat} {c : Cf} (k : Nat), runF f n c = some r → runF f (n + k) c = some r
  | 0, _, _, h => by cases h
  | n + 1, c, k, h => by
    rw [Nat.add_right_comm]
    unfold runF at h ⊢
    cases hf : f c with
    | none => rw [hf] at h; cases h
    | some x =>
      rw [hf] at h
      cases x with
      | inr r' => exact h
      | inl c' => exact runF_mono (n := n) k h
theorem runF_same {f : Cf → Option (Cf ⊕ Res)} {r r' : Res} {n n' : Nat} {c : Cf} (h : runF f n c = some r) (h' : runF f n' c = some r') : r = r' := by
  have a := runF_mono n' h
  have b := runF_mono n h'
  rw [Nat.add_comm] at b
  exact Option.some.inj (a.symm.trans b)
noncomputable def run (f : Cf → Option (Cf ⊕ Res)) (c : Cf) : Option Res := Classical.epsilon fun o : Option Res => (∀ r, o = some r ↔ ∃ n, runF f n c = some r)
theorem run_spec (f : Cf → Option (Cf ⊕ Res)) (c : Cf) (r : Res) : run f c = some r ↔ ∃ n, runF f n c = some r := by
  have h : ∃ o : Option Res, ∀ r, o = some r ↔ ∃ n, runF f n c = some r := by
    by_cases hx : ∃ r n, runF f n c = some r
    · obtain ⟨r, n, hr⟩ := hx
      exact ⟨some r, fun r' => ⟨fun e => by cases e; exact ⟨n, hr⟩, fun ⟨n', h'⟩ => by rw [runF_same hr h']⟩⟩
    · exact ⟨none, fun r => ⟨fun e => (by cases e), fun ⟨n, e⟩ => absurd ⟨r, n, e⟩ hx⟩⟩
  exact Classical.epsilon_spec (p := fun o : Option Res => ∀ r, o = some r ↔ ∃ n, runF f n c = some r) h r
theorem run_eq (f : Cf → Option (Cf ⊕ Res)) (c : Cf) : run f c = match f c with
    | none => none
    | some (.inr r) => some r
    | some (.inl c') => run f c' := by
  apply Option.ext
  intro r
  rw [run_spec]
  constructor
  · rintro ⟨n, h⟩
    cases n with
    | zero => cases h
    | succ n =>
      unfold runF at h
      cases hf : f c with
      | none => rw [hf] at h; cases h
      | some x =>
        rw [hf] at h
        cases x with
        | inr r' => exact h
        | inl c' => exact (run_spec f c' r).mpr ⟨n, h⟩
  · intro h
    cases hf : f c with
    | none => rw [hf] at h; cases h
    | some x =>
      rw [hf] at h
      cases x with
      | inr r' => exact ⟨1, by unfold runF; rw [hf]; exact h⟩
      | inl c' =>
        obtain ⟨n, hn⟩ := (run_spec f c' r).mp h
        exact ⟨n + 1, by unfold runF; rw [hf]; exact hn⟩
def ent : List Value → List Value
  | [] => []
  | .long x :: r => .long x :: .null :: ent r
  | v :: r => v :: ent r
def entL (M : Mth) (as : List Value) : List Value := ent as ++ List.replicate (mL M - (ent as).length) .null
noncomputable def callT : Nat → CallF
  | 0 => fun _ _ _ => none
  | d + 1 => fun M as h => bif Nat.ble (ent as).length (mL M) then run (stp (callT d) d M) (0, entL M as, [], h) else none
