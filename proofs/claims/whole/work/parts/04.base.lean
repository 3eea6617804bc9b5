/-! A small machine of whole numbers over the class files' own instructions. A method: name, bytes, locals, answer, own class, handlers. A heap: kinds, lengths, the next address, cells and slots left; fields and elements by address and place: ints, longs, addresses (0: null). -/
abbrev Mth : Type := MethodName × ByteArray × Nat × Option FieldType × Nat × List (Nat × Nat × Nat × Nat)
def mY (M : Mth) : MethodName := M.1
def mB (M : Mth) : ByteArray := M.2.1
def mL (M : Mth) : Nat := M.2.2.1
def mR (M : Mth) : Option FieldType := M.2.2.2.1
def mO (M : Mth) : Nat := M.2.2.2.2.1
def mH (M : Mth) : List (Nat × Nat × Nat × Nat) := M.2.2.2.2.2
abbrev Gh : Type := (Nat → Nat) × (Nat → Nat) × Nat × Nat × Nat
abbrev MI : Type := Nat → Nat → Int32
abbrev ML : Type := Nat → Nat → Int64
abbrev MR : Type := Nat → Nat → Nat
abbrev Out : Type := Option Value ⊕ String
abbrev Hh : Type := Gh × MI × ML × MR
abbrev Res : Type := Out × Hh
abbrev Cf : Type := Nat × List Value × List Value × Hh
abbrev CallF : Type := Mth → List Value → Hh → Option Res
def u2 {α : Type} (f : Nat → Nat → α) (a k : Nat) (v : α) : Nat → Nat → α := fun a' k' => if a' = a ∧ k' = k then v else f a' k'
def u1 {α : Type} (f : Nat → α) (a : Nat) (v : α) : Nat → α := fun a' => if a' = a then v else f a'
def z2 {α : Type} (f : Nat → Nat → α) (a : Nat) (v : α) : Nat → Nat → α := fun a' k' => if a' = a then v else f a' k'
def lkp {α : Type} (o i : Nat) : List (Nat × Nat × α) → Option α
  | [] => none
  | e :: r => bif Nat.beq e.1 o && Nat.beq e.2.1 i then some e.2.2 else lkp o i r
theorem lkp_mem {α : Type} {o i : Nat} {x : α} : ∀ {t : List (Nat × Nat × α)}, lkp o i t = some x → (o, i, x) ∈ t
  | [], h => by cases h
  | e :: r, h => by
    unfold lkp at h
    by_cases hc : (Nat.beq e.1 o && Nat.beq e.2.1 i) = true
    · rw [hc] at h
      obtain ⟨a, b, y⟩ := e
      rw [Bool.and_eq_true] at hc
      have e1 : a = o := Nat.eq_of_beq_eq_true hc.1
      have e2 : b = i := Nat.eq_of_beq_eq_true hc.2
      subst e1
      subst e2
      cases h
      exact List.mem_cons_self
    · rw [Bool.eq_false_iff.mpr hc] at h
      exact List.mem_cons_of_mem _ (lkp_mem h)
/-- the tables that the machine reads: fields (class, place, 0 int 1 boolean 2 long 3 reference, final), calls (0 virtual 1 static 2 constructor 3 private constructor 4 static with handlers 5 Object's 6 arraycopy; method; arguments, the receiver among them), new, anewarray, exceptions (name, constructor's entry), texts, handlers' classes, long and int constants -/
abbrev Tb : Type := List (Nat × Nat × (Nat × Nat × Nat × Bool)) × List (Nat × Nat × (Nat × Mth × Nat)) × List (Nat × Nat × Nat) × List (Nat × Nat × Nat) × List (Nat × Nat × (String × Nat)) × List (Nat × Nat × String) × List (Nat × Nat × String) × List (Nat × Nat × Int64) × List (Nat × Nat × Int32)
def fN (ci : Nat) : Nat := match ci with
  | 0 => 6
  | 1 => 11
  | 2 => 8
  | 3 => 9
  | 4 => 3
  | _ => 7
def elK (k : Nat) : Nat := match k with
  | 23 => 2
  | 24 => 1
  | 25 => 4
  | _ => 0
