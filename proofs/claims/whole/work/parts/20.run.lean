/-! reading the small machine: a run from a place, its rows -/
noncomputable def R (d : Nat) (M : Mth) (pc : Nat) (L S : List Value) (g : Gh) (mi : MI) (ml : ML) (mr : MR) : Option Res := run (stp (callT d) d M) (pc, L, S, g, mi, ml, mr)
section ROWS
variable {d : Nat} {M : Mth} {pc pc' n : Nat} {L L' S S' : List Value} {g g' : Gh} {mi mi' : MI} {ml ml' : ML} {mr mr' : MR} {i : Instr} {r : Res}
theorem R_go (hd : decode (mB M) pc = .ok (i, n)) (hn : Nat.beq n (ilen i n) = true) (h : stI (callT d) d M i pc L S g mi ml mr = some (.inl (pc', L', S', g', mi', ml', mr'))) : R d M pc L S g mi ml mr = R d M pc' L' S' g' mi' ml' mr' := by
  unfold R
  rw [run_eq]
  have : stp (callT d) d M (pc, L, S, g, mi, ml, mr) = some (.inl (pc', L', S', g', mi', ml', mr')) := by
    unfold stp
    dsimp only
    rw [hd]
    dsimp only
    rw [hn]
    exact h
  rw [this]
theorem R_end (hd : decode (mB M) pc = .ok (i, n)) (hn : Nat.beq n (ilen i n) = true) (h : stI (callT d) d M i pc L S g mi ml mr = some (.inr r)) : R d M pc L S g mi ml mr = some r := by
  unfold R
  rw [run_eq]
  have : stp (callT d) d M (pc, L, S, g, mi, ml, mr) = some (.inr r) := by
    unfold stp
    dsimp only
    rw [hd]
    dsimp only
    rw [hn]
    exact h
  rw [this]
theorem R_if2 {b : Bool} {p1 p2 : Nat} (hd : decode (mB M) pc = .ok (i, n)) (hn : Nat.beq n (ilen i n) = true) (h : stI (callT d) d M i pc L S g mi ml mr = bif b then nxt p1 L' S' (g, mi, ml, mr) else nxt p2 L' S' (g, mi, ml, mr)) : R d M pc L S g mi ml mr = bif b then R d M p1 L' S' g mi ml mr else R d M p2 L' S' g mi ml mr := by
  cases b with
  | true => exact R_go hd hn h
  | false => exact R_go hd hn h
theorem cond_dec {α : Type} {c : Prop} [Decidable c] {a b : α} : (bif decide c then a else b) = if c then a else b := by
  by_cases h : c
  · rw [if_pos h, decide_eq_true h]; rfl
  · rw [if_neg h, decide_eq_false h]; rfl
theorem cond_ndec {α : Type} {c : Prop} [Decidable c] {a b : α} : (bif !decide c then a else b) = if c then b else a := by
  by_cases h : c
  · rw [if_pos h, decide_eq_true h]; rfl
  · rw [if_neg h, decide_eq_false h]; rfl
/-- behind a call of the small machine -/
noncomputable def aR (d : Nat) (M : Mth) (pc : Nat) (L S : List Value) (o : Option Res) : Option Res := match o with
  | none => none
  | some (.inl none, g, mi, ml, mr) => R d M pc L S g mi ml mr
  | some (.inl (some v), g, mi, ml, mr) => R d M pc L (v :: S) g mi ml mr
  | some (.inr E, g, mi, ml, mr) => match mH M with
    | [] => some (.inr E, g, mi, ml, mr)
    | _ => match hnd M (pc - 3) E with
      | none => none
      | some hd => R d M hd L [.retAddr 0] g mi ml mr
theorem aR_v {E : Unit} : aR d M pc L S (some (.inl none, g, mi, ml, mr)) = R d M pc L S g mi ml mr := rfl
theorem aR_1 {v : Value} : aR d M pc L S (some (.inl (some v), g, mi, ml, mr)) = R d M pc L (v :: S) g mi ml mr := rfl
theorem aR_x {E : String} (h : mH M = []) : aR d M pc L S (some (.inr E, g, mi, ml, mr)) = some (.inr E, g, mi, ml, mr) := by
  unfold aR
  dsimp only
  rw [h]
theorem R_aft {o : Option Res} (hd : decode (mB M) pc = .ok (i, n)) (hn : Nat.beq n (ilen i n) = true) (h : stI (callT d) d M i pc L S g mi ml mr = aft M pc L S' o) : R d M pc L S g mi ml mr = aR d M (pc + 3) L S' o := by
  have key : ∀ x, stp (callT d) d M (pc, L, S, g, mi, ml, mr) = x ↔ aft M pc L S' o = x := by
    intro x
    unfold stp
    dsimp only
    rw [hd]
    dsimp only
    rw [hn]
    simp only [cond_true, h]
  have h1 := (key (aft M pc L S' o)).mpr rfl
  unfold R
  rw [run_eq, h1]
  match o with
  | none => rfl
  | some (.inl none, g, mi, ml, mr) => rfl
  | some (.inl (some v), g, mi, ml, mr) => rfl
  | some (.inr E, g, mi, ml, mr) =>
    unfold aft aR
    dsimp only
    rw [Nat.add_sub_cancel]
    cases hMH : mH M with
    | nil => rfl
    | cons a b =>
      dsimp only
      cases hh : hnd M pc E with
      | none => rfl
      | some hd => rfl
theorem callT_R {as : List Value} {h : Hh} (hl : Nat.ble (ent as).length (mL M) = true) : callT (d + 1) M as h = R d M 0 (entL M as) [] h.1 h.2.1 h.2.2.1 h.2.2.2 := by
  show (bif Nat.ble (ent as).length (mL M) then run (stp (callT d) d M) (0, entL M as, [], h) else none) = _
  rw [hl]
  rfl
end ROWS
