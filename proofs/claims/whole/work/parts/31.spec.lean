/-! words for both sides: rows of memory, the reference's place -/
section SPECA
variable {α : Type}
theorem r2_s {f : Nat → Nat → α} {a : Nat} {r : Nat → α} : r2 f a r a = r := by unfold r2; rw [if_pos rfl]
theorem r2_n {f : Nat → Nat → α} {a b : Nat} {r : Nat → α} (h : b ≠ a) : r2 f a r b = f b := by unfold r2; rw [if_neg h]
theorem r2_r2 {f : Nat → Nat → α} {a : Nat} {r r' : Nat → α} : r2 (r2 f a r) a r' = r2 f a r' := by
  funext b
  by_cases h : b = a
  · subst h; rw [r2_s, r2_s]
  · rw [r2_n h, r2_n h, r2_n h]
theorem r2_self {f : Nat → Nat → α} {a : Nat} : r2 f a (f a) = f := by
  funext b
  by_cases h : b = a
  · subst h; rw [r2_s]
  · rw [r2_n h]
theorem u2_r2 {f : Nat → Nat → α} {a j : Nat} {v : α} : u2 f a j v = r2 f a (u1 (f a) j v) := by
  funext b k
  by_cases h : b = a
  · subst h
    rw [r2_s]
    unfold u2 u1
    simp only [true_and]
  · rw [r2_n h, u2_n (Or.inl h)]
theorem u1_n {f : Nat → α} {a b : Nat} {v : α} (h : b ≠ a) : u1 f a v b = f b := by unfold u1; rw [if_neg h]
theorem u1_at {f : Nat → α} {a b : Nat} {v : α} : u1 f a v b = if b = a then v else f b := rfl
/-- the reference's objects lie here -/
def MG (g : Gh) (mr : MR) : Prop := g.1 292 = 6 ∧ g.1 293 = 20 ∧ g.2.1 293 = 480 ∧ g.1 294 = 21 ∧ g.2.1 294 = 12500 ∧ g.1 295 = 20 ∧ g.2.1 295 = 1440 ∧ g.1 296 = 21 ∧ g.2.1 296 = 37500 ∧ mr 292 0 = 293 ∧ mr 292 1 = 294 ∧ mr 292 2 = 295 ∧ mr 292 3 = 296
/-- a boolean as a number -/
def bI (p : Prop) [Decidable p] : Int32 := if p then nI 1 else nI 0
theorem bI_01 {p : Prop} [Decidable p] : bI p = nI 0 ∨ bI p = nI 1 := by unfold bI; split <;> simp
theorem bI_t {p : Prop} [Decidable p] (h : p) : bI p = nI 1 := if_pos h
theorem bI_f {p : Prop} [Decidable p] (h : ¬ p) : bI p = nI 0 := if_neg h
theorem n1_0 : (nI 1 = nI 0) = False := by decide
theorem n0_1 : (nI 0 = nI 1) = False := by decide
theorem bI_0 {p : Prop} [Decidable p] : (bI p = nI 0) = ¬ p := by
  by_cases h : p
  · rw [bI_t h, n1_0]; simp [h]
  · rw [bI_f h]; simp [h]
theorem bI_1 {p : Prop} [Decidable p] : (bI p = nI 1) = p := by
  by_cases h : p
  · rw [bI_t h]; simp [h]
  · rw [bI_f h, n0_1]; simp [h]
section CS
variable {n z : Nat} {x : Int32} {y : Int64} {S : List Value}
theorem cs_0 : (catS [] ≤ n) = True := by simp [catS]
theorem cs_i : (catS (.int x :: S) ≤ n + 1) = (catS S ≤ n) := by simp only [catS, cat_i, eq_iff_iff]; omega
theorem cs_r : (catS (.ref z :: S) ≤ n + 1) = (catS S ≤ n) := by simp only [catS, cat_r, eq_iff_iff]; omega
theorem cs_l : (catS (.long y :: S) ≤ n + 2) = (catS S ≤ n) := by simp only [catS, cat_l, eq_iff_iff]; omega
end CS
end SPECA
