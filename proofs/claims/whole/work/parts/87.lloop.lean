/-! the law: its loop -/
/-- which circuits the script blocks -/
def xB (xs : Nat → Int32) : Nat → Nat → Nat → Nat
  | 0, _, _ => 0
  | m + 1, e, c => if xs (4 * m) &&& nI 31 = nI 10 ∧ xs (4 * m + 1) = nI e ∧ xs (4 * m + 2) = nI c then 1 else xB xs m e c
/-- how many blocks there are -/
def bNm (xs : Nat → Int32) : Nat → Nat
  | 0 => 0
  | m + 1 => bNm xs m + if xs (4 * m) &&& nI 31 = nI 10 then 1 else 0
def bud (xs : Nat → Int32) (w : Nat) : Nat → Nat
  | 0 => 0
  | m + 1 => bud xs w m + cst xs w (4 * m)
section LLOP
variable {xs : Nat → Int32} {w m k e c L M : Nat} {z : Int32}
theorem xB_1 : ∀ m e c, xB xs m e c ≤ 1 := by
  intro m
  induction m with
  | zero => intro e c; exact Nat.zero_le 1
  | succ m ih =>
    intro e c
    show (if xs (4 * m) &&& nI 31 = nI 10 ∧ xs (4 * m + 1) = nI e ∧ xs (4 * m + 2) = nI c then 1 else xB xs m e c) ≤ 1
    by_cases h : xs (4 * m) &&& nI 31 = nI 10 ∧ xs (4 * m + 1) = nI e ∧ xs (4 * m + 2) = nI c
    · rw [if_pos h]
      exact Nat.le_refl 1
    · rw [if_neg h]
      exact ih e c
theorem xB_at : ∀ m, k < m → xs (4 * k) &&& nI 31 = nI 10 → xs (4 * k + 1) = nI e → xs (4 * k + 2) = nI c → xB xs m e c = 1 := by
  intro m
  induction m with
  | zero => intro h; omega
  | succ m ih =>
    intro h h1 h2 h3
    show (if xs (4 * m) &&& nI 31 = nI 10 ∧ xs (4 * m + 1) = nI e ∧ xs (4 * m + 2) = nI c then 1 else xB xs m e c) = 1
    by_cases h9 : xs (4 * m) &&& nI 31 = nI 10 ∧ xs (4 * m + 1) = nI e ∧ xs (4 * m + 2) = nI c
    · rw [if_pos h9]
    · rw [if_neg h9]
      refine ih ?_ h1 h2 h3
      by_cases h8 : k = m
      · subst h8; exact absurd ⟨h1, h2, h3⟩ h9
      · omega
theorem sum_0 : ∀ n, sumN (fun _ => 0) n = 0 := by
  intro n
  induction n with
  | zero => rfl
  | succ n ih => show sumN (fun _ => 0) n + 0 = 0; rw [ih]
theorem sum_d : ∀ n, n ≤ 12 → sumN (fun c => if z = nI c then 1 else 0) n ≤ 1 := by
  intro n
  induction n with
  | zero => intro _; exact Nat.zero_le 1
  | succ n ih =>
    intro hn
    show sumN (fun c => if z = nI c then 1 else 0) n + (if z = nI n then 1 else 0) ≤ 1
    by_cases h : z = nI n
    · rw [if_pos h]
      have h1 : sumN (fun c => if z = nI c then 1 else 0) n = sumN (fun _ => 0) n := sumN_congr n (fun i hi => if_neg (fun h9 => by
        have := (nI_eq (by omega) (by omega)).mp (h.symm.trans h9)
        omega))
      rw [h1, sum_0]
      exact Nat.le_refl 1
    · rw [if_neg h]
      exact ih (by omega)
theorem sum_a {f f' : Nat → Nat} : ∀ n, sumN (fun i => f i + f' i) n = sumN f n + sumN f' n := by
  intro n
  induction n with
  | zero => rfl
  | succ n ih =>
    show sumN (fun i => f i + f' i) n + (f n + f' n) = sumN f n + f n + (sumN f' n + f' n)
    omega
theorem sum_xB : ∀ m, sumN (fun c => xB xs m e c) 12 ≤ bNm xs m := by
  intro m
  induction m with
  | zero =>
    show sumN (fun _ => 0) 12 ≤ 0
    rw [sum_0]
    exact Nat.le_refl 0
  | succ m ih =>
    show sumN (fun c => xB xs (m + 1) e c) 12 ≤ bNm xs m + if xs (4 * m) &&& nI 31 = nI 10 then 1 else 0
    by_cases h : xs (4 * m) &&& nI 31 = nI 10
    · rw [if_pos h]
      have h1 : sumN (fun c => xB xs (m + 1) e c) 12 ≤ sumN (fun c => xB xs m e c + if xs (4 * m + 2) = nI c then 1 else 0) 12 := sumN_le 12 (fun c _ => by
        show (if xs (4 * m) &&& nI 31 = nI 10 ∧ xs (4 * m + 1) = nI e ∧ xs (4 * m + 2) = nI c then 1 else xB xs m e c) ≤ xB xs m e c + if xs (4 * m + 2) = nI c then 1 else 0
        by_cases h9 : xs (4 * m) &&& nI 31 = nI 10 ∧ xs (4 * m + 1) = nI e ∧ xs (4 * m + 2) = nI c
        · rw [if_pos h9, if_pos h9.2.2]
          omega
        · rw [if_neg h9]
          omega)
      rw [sum_a] at h1
      have h2 := sum_d (z := xs (4 * m + 2)) 12 (by decide)
      have ih' : sumN (xB xs m e) 12 ≤ bNm xs m := ih
      omega
    · rw [if_neg h]
      have h1 : sumN (fun c => xB xs (m + 1) e c) 12 = sumN (fun c => xB xs m e c) 12 := sumN_congr 12 (fun c _ => if_neg (fun h9 => h h9.1))
      rw [h1]
      exact ih
theorem sum_12 {f : Nat → Nat} (h : ∀ i, f i ≤ 1) : ∀ n, sumN f n ≤ n := by
  intro n
  induction n with
  | zero => exact Nat.le_refl 0
  | succ n ih =>
    show sumN f n + f n ≤ n + 1
    have := h n
    omega
def wOf (xs : Nat → Int32) (M : Nat) : Nat := if bNm xs M ≤ 12 then 12 + bNm xs M else 24
theorem w_ge : 12 ≤ wOf xs M := by
  unfold wOf
  by_cases h : bNm xs M ≤ 12
  · rw [if_pos h]; omega
  · rw [if_neg h]; decide
theorem w_sum : 12 + sumN (xB xs M e) 12 ≤ wOf xs M := by
  have h1 : sumN (xB xs M e) 12 ≤ bNm xs M := sum_xB M
  have h2 : sumN (xB xs M e) 12 ≤ 12 := sum_12 (xB_1 M e) 12
  unfold wOf
  by_cases h : bNm xs M ≤ 12
  · rw [if_pos h]; omega
  · rw [if_neg h]; omega
theorem bNm_le : ∀ m, bNm xs m ≤ m := by
  intro m
  induction m with
  | zero => exact Nat.le_refl 0
  | succ m ih =>
    show bNm xs m + (if xs (4 * m) &&& nI 31 = nI 10 then 1 else 0) ≤ m + 1
    by_cases h : xs (4 * m) &&& nI 31 = nI 10
    · rw [if_pos h]; omega
    · rw [if_neg h]; omega
theorem bud_eq : ∀ m, bud xs w m + bNm xs m * w = bNm xs m + m * w := by
  intro m
  induction m with
  | zero =>
    show 0 + 0 * w = 0 + 0 * w
    rfl
  | succ m ih =>
    show bud xs w m + (if xs (4 * m) &&& nI 31 = nI 10 then 1 else w) + (bNm xs m + if xs (4 * m) &&& nI 31 = nI 10 then 1 else 0) * w = (bNm xs m + if xs (4 * m) &&& nI 31 = nI 10 then 1 else 0) + (m + 1) * w
    by_cases h : xs (4 * m) &&& nI 31 = nI 10
    · rw [if_pos h, if_pos h, Nat.add_mul, Nat.add_mul, Nat.one_mul]
      omega
    · rw [if_neg h, if_neg h, Nat.add_zero, Nat.add_mul, Nat.one_mul]
      omega
theorem bud_mono : ∀ j, bud xs w k ≤ bud xs w (k + j) := by
  intro j
  induction j with
  | zero => exact Nat.le_refl _
  | succ j ih =>
    show bud xs w k ≤ bud xs w (k + j) + cst xs w (4 * (k + j))
    omega
theorem bud_max (hM : M ≤ 512) : bud xs (wOf xs M) M ≤ 12012 := by
  have h1 := bud_eq (xs := xs) (w := wOf xs M) M
  have h2 := bNm_le (xs := xs) M
  unfold wOf at h1 ⊢
  generalize bNm xs M = b at h1 h2 ⊢
  by_cases h : b ≤ 12
  · rw [if_pos h] at h1 ⊢
    generalize bud xs (12 + b) M = u at h1 ⊢
    have hb : b = 0 ∨ b = 1 ∨ b = 2 ∨ b = 3 ∨ b = 4 ∨ b = 5 ∨ b = 6 ∨ b = 7 ∨ b = 8 ∨ b = 9 ∨ b = 10 ∨ b = 11 ∨ b = 12 := by omega
    rcases hb with rfl | rfl | rfl | rfl | rfl | rfl | rfl | rfl | rfl | rfl | rfl | rfl | rfl <;> omega
  · rw [if_neg h] at h1 ⊢
    omega
theorem l_end {d : Nat} {g : Gh} {mi : MI} {ml : ML} {mr : MR} {b5 b6 : Value} {E K : Nat} {S : Nat → PS} {P : PS} {i : Nat} (h : LLs L xs E K S P g mi ml mr) (hL : L ≤ 2048) (hi : L < i + 4) (hi2 : i ≤ L) : R 12 mL_law 23 [.ref 1, .ref 2, .ref 292, .ref 297, .int (nI i), b5, b6] [] g mi ml mr = some (.inl (some (.int (nI 1))), g, mi, ml, mr) := by
  obtain ⟨-, -, ⟨s1, s2, s3⟩, -⟩ := h
  have c1 : nI L - nI 4 < nI i := by
    by_cases h4 : 4 ≤ L
    · rw [nI_sb h4]
      exact nI_lt (by omega) (by omega)
    · have key : ∀ L, L < 4 → ∀ i, i < 4 → nI L - nI 4 < nI i := by decide
      exact key L (by omega) i (by omega)
  have one : nI 1 = nI 0 ∨ nI 1 = nI 1 := Or.inr rfl
  rw [wL_law_23]
  simp only [wL_law_25, wL_law_26, wL_law_26s, wL_law_27, wL_law_28, wL_law_29, wL_law_32, wL_law_33, wL_law_35, wL_law_35s, wL_law_36, wL_law_38, s1, s2, c1, if_true]
  rw [wL_law_1606, wL_law_1607 one]
theorem l_loop (hL : L ≤ 2048) : ∀ m k K S P b5 b6 g mi ml mr, k + m = L / 4 → LLs L xs m K S P g mi ml mr → AJ (xB xs (L / 4)) (bud xs (wOf xs (L / 4)) k) (500 * k) K S P → K ≤ 3 → ∃ h', R 12 mL_law 23 [.ref 1, .ref 2, .ref 292, .ref 297, .int (nI (4 * k)), b5, b6] [] g mi ml mr = some (.inl (some (.int (nI 1))), h') := by
  intro m
  induction m with
  | zero =>
    intro k K S P b5 b6 g mi ml mr hk h hA hK
    exact ⟨_, l_end (d := 0) h hL (by omega) (by omega)⟩
  | succ m ih =>
    intro k K S P b5 b6 g mi ml mr hk h hA hK
    have hmx := bud_max (xs := xs) (M := L / 4) (by omega)
    have hmn := bud_mono (xs := xs) (w := wOf xs (L / 4)) (k := k + 1) m
    rw [show k + 1 + m = L / 4 by omega] at hmn
    have hB : bud xs (wOf xs (L / 4)) k + cst xs (wOf xs (L / 4)) (4 * k) ≤ 12012 := Nat.le_trans hmn hmx
    obtain ⟨K', S', P', a5, a6, g', mi', ml', mr', e1, e2, e3, e4⟩ := l_turn (b5 := b5) (b6 := b6) h hA hK (i := 4 * k) (by omega) hL hB w_ge (xB_1 (L / 4)) (fun h9 e c _ _ h1 h2 => xB_at (L / 4) (by omega) h9 h1 h2) (fun e _ => w_sum) (by omega)
    obtain ⟨h', e5⟩ := ih (k + 1) K' S' P' a5 a6 g' mi' ml' mr' (by omega) e2 e3 e4
    exact ⟨h', e1.trans e5⟩
end LLOP
