/-! the class: states copied: ends, calls, the link -/
def cpR (mi : MI) (x y lo hi : Nat) : MI := fun b f => if b = x ∧ lo ≤ f ∧ f < hi then mi y f else mi b f
def cpM (s s2 : Nat) (mi : MI) (P : Nat → Nat → Bool) : MI := fun b f => if s ≤ b ∧ b < s + 72 ∧ P (b - s) f = true then mi (s2 + (b - s)) f else mi b f
section CCPY
variable {s s2 off N n a1 a2 b1 b2 L M e c w k v j f a d o z x y S t D p i C J B lo hi : Nat} {r r' r1 : Nat → Int32} {q : Nat → Int64} {g g' : Gh} {mi mi' : MI} {ml ml' : ML} {mr mr' : MR} {P P' : Nat → Nat → Bool}
theorem cpR_0 : cpR mi x y lo lo = mi := by
  funext b f
  unfold cpR
  rw [if_neg (by omega)]
theorem cpR_step (h : lo ≤ hi) : u2 (cpR mi x y lo hi) x hi (mi y hi) = cpR mi x y lo (hi + 1) := by
  funext b f
  unfold u2 cpR
  by_cases h1 : b = x ∧ f = hi
  · rw [if_pos h1, if_pos (by omega), h1.2]
  · rw [if_neg h1]
    by_cases h2 : b = x ∧ lo ≤ f ∧ f < hi
    · rw [if_pos h2, if_pos (by omega)]
    · rw [if_neg h2, if_neg (by omega)]
theorem cpM_src (hd : s2 + 72 ≤ s ∨ s + 72 ≤ s2) (ha : a < 72) : cpM s s2 mi P (s2 + a) = mi (s2 + a) := by
  funext f
  unfold cpM
  rw [if_neg (by omega)]
theorem cpM_out (h : ¬ (s ≤ a ∧ a < s + 72)) : cpM s s2 mi P a = mi a := by
  funext f
  unfold cpM
  rw [if_neg (by omega)]
theorem cpM_in (ha : a < 72) (h : P a f = true) : cpM s s2 mi P (s + a) f = mi (s2 + a) f := by
  unfold cpM
  rw [Nat.add_sub_cancel_left, if_pos ⟨by omega, by omega, h⟩]
theorem cpM_no (h : ¬ P a f = true) : cpM s s2 mi P (s + a) f = mi (s + a) f := by
  unfold cpM
  rw [Nat.add_sub_cancel_left, if_neg (fun h9 => h h9.2.2)]
theorem cpM_u (ha : a < 72) (hP : ∀ a' f', (P' a' f' = true) ↔ (P a' f' = true ∨ (a' = a ∧ f' = f))) : u2 (cpM s s2 mi P) (s + a) f (mi (s2 + a) f) = cpM s s2 mi P' := by
  funext b f'
  unfold u2 cpM
  have hp := hP (b - s) f'
  by_cases h1 : b = s + a ∧ f' = f
  · rw [if_pos h1, if_pos ⟨by omega, by omega, by rw [hp]; exact Or.inr ⟨by omega, h1.2⟩⟩, h1.1, h1.2, Nat.add_sub_cancel_left]
  · rw [if_neg h1]
    by_cases h2 : s ≤ b ∧ b < s + 72 ∧ P (b - s) f' = true
    · rw [if_pos h2, if_pos ⟨h2.1, h2.2.1, by rw [hp]; exact Or.inl h2.2.2⟩]
    · rw [if_neg h2, if_neg (fun h9 => h2 ⟨h9.1, h9.2.1, (hp.mp h9.2.2).resolve_right (fun h8 => h1 (by omega))⟩)]
theorem cpM_r (ha : a < 72) (hd : s2 + 72 ≤ s ∨ s + 72 ≤ s2) (hP : ∀ a' f', (P' a' f' = true) ↔ (P a' f' = true ∨ (a' = a ∧ lo ≤ f' ∧ f' < hi))) : cpR (cpM s s2 mi P) (s + a) (s2 + a) lo hi = cpM s s2 mi P' := by
  funext b f'
  unfold cpR
  rw [cpM_src hd ha]
  unfold cpM
  have hp := hP (b - s) f'
  by_cases h1 : b = s + a ∧ lo ≤ f' ∧ f' < hi
  · rw [if_pos h1, if_pos ⟨by omega, by omega, by rw [hp]; exact Or.inr ⟨by omega, h1.2⟩⟩, h1.1, Nat.add_sub_cancel_left]
  · rw [if_neg h1]
    by_cases h2 : s ≤ b ∧ b < s + 72 ∧ P (b - s) f' = true
    · rw [if_pos h2, if_pos ⟨h2.1, h2.2.1, by rw [hp]; exact Or.inl h2.2.2⟩]
    · rw [if_neg h2, if_neg (fun h9 => h2 ⟨h9.1, h9.2.1, (hp.mp h9.2.2).resolve_right (fun h8 => h1 ⟨by omega, h8.2⟩)⟩)]
theorem c_endCopy (hx : g.1 x = 2) (hy : g.1 y = 2) (hxy : ¬ y = x) (b8 : mi y 8 = nI 0 ∨ mi y 8 = nI 1) (b9 : mi y 9 = nI 0 ∨ mi y 9 = nI 1) : callT (d + 1) mX1_copyFrom [.ref x, .ref y] (g, mi, ml, mr) = some (.inl none, g, cpR mi x y 2 11, ml, mr) := by
  have e5 : ∀ {F : MI} {b : Nat} {z : Int32}, u2 F x b z y = F y := u2_row hxy
  have e6 : cpR mi x y 2 11 = u2 (u2 (u2 (u2 (u2 (u2 (u2 (u2 (u2 mi x 2 (mi y 2)) x 3 (mi y 3)) x 4 (mi y 4)) x 5 (mi y 5)) x 6 (mi y 6)) x 7 (mi y 7)) x 8 (mi y 8)) x 9 (mi y 9)) x 10 (mi y 10) := by
    rw [← cpR_step (hi := 10) (by decide), ← cpR_step (hi := 9) (by decide), ← cpR_step (hi := 8) (by decide), ← cpR_step (hi := 7) (by decide), ← cpR_step (hi := 6) (by decide), ← cpR_step (hi := 5) (by decide), ← cpR_step (hi := 4) (by decide), ← cpR_step (hi := 3) (by decide), ← cpR_step (hi := 2) (by decide), cpR_0]
  rw [e6, eX1_copyFrom]
  simp only [wX1_copyFrom_0, wX1_copyFrom_1, wX1_copyFrom_2, wX1_copyFrom_5, wX1_copyFrom_8, wX1_copyFrom_9, wX1_copyFrom_10, wX1_copyFrom_13, wX1_copyFrom_16, wX1_copyFrom_17, wX1_copyFrom_18, wX1_copyFrom_21, wX1_copyFrom_24, wX1_copyFrom_25, wX1_copyFrom_26, wX1_copyFrom_29, wX1_copyFrom_32, wX1_copyFrom_33, wX1_copyFrom_34, wX1_copyFrom_37, wX1_copyFrom_40, wX1_copyFrom_41, wX1_copyFrom_42, wX1_copyFrom_45, wX1_copyFrom_48, wX1_copyFrom_49, wX1_copyFrom_50, wX1_copyFrom_53, wX1_copyFrom_56, wX1_copyFrom_57, wX1_copyFrom_58, wX1_copyFrom_61, wX1_copyFrom_64, wX1_copyFrom_65, wX1_copyFrom_66, wX1_copyFrom_69, wX1_copyFrom_72, hx, hy, e5, b8, b9]
theorem c_callCopy (hx : g.1 x = 1) (hy : g.1 y = 1) (hxy : ¬ y = x) (b1 : mi y 1 = nI 0 ∨ mi y 1 = nI 1) : callT (d + 1) mX0_copyFrom [.ref x, .ref y] (g, mi, ml, mr) = some (.inl none, g, cpR mi x y 0 6, ml, mr) := by
  have e5 : ∀ {F : MI} {b : Nat} {z : Int32}, u2 F x b z y = F y := u2_row hxy
  have e6 : cpR mi x y 0 6 = u2 (u2 (u2 (u2 (u2 (u2 mi x 0 (mi y 0)) x 1 (mi y 1)) x 2 (mi y 2)) x 3 (mi y 3)) x 4 (mi y 4)) x 5 (mi y 5) := by
    rw [← cpR_step (hi := 5) (by decide), ← cpR_step (hi := 4) (by decide), ← cpR_step (hi := 3) (by decide), ← cpR_step (hi := 2) (by decide), ← cpR_step (hi := 1) (by decide), ← cpR_step (hi := 0) (by decide), cpR_0]
  rw [e6, eX0_copyFrom]
  simp only [wX0_copyFrom_0, wX0_copyFrom_1, wX0_copyFrom_2, wX0_copyFrom_5, wX0_copyFrom_8, wX0_copyFrom_9, wX0_copyFrom_10, wX0_copyFrom_13, wX0_copyFrom_16, wX0_copyFrom_17, wX0_copyFrom_18, wX0_copyFrom_21, wX0_copyFrom_24, wX0_copyFrom_25, wX0_copyFrom_26, wX0_copyFrom_29, wX0_copyFrom_32, wX0_copyFrom_33, wX0_copyFrom_34, wX0_copyFrom_37, wX0_copyFrom_40, wX0_copyFrom_41, wX0_copyFrom_42, wX0_copyFrom_45, wX0_copyFrom_48, hx, hy, e5, b1]
/-- the link's room, if it is wanting -/
theorem c_lroom {l l2 : Nat} {u0 u1 : Value} (hl : g.1 l = 3) (hl2 : g.1 l2 = 3) (h6 : mr l 6 = b1) (h7 : mr l 7 = b2) (k1 : g.1 b1 = 20) (k2 : g.1 b2 = 20) (m1 : g.2.1 b1 = M) (m2 : g.2.1 b2 = M) (h62 : mr l2 6 = a1) (ka : g.1 a1 = 20) (la : g.2.1 a1 = L) (hn : n ≤ L) (hL : L ≤ 60000) (hM : M ≤ 60000) (hsz : mi l2 5 = nI n) (hln : l < g.2.2.1) (hl2n : l2 < g.2.2.1) (h1n : b1 < g.2.2.1) (h2n : b2 < g.2.2.1) (han : a1 < g.2.2.1) (hll : ¬ l2 = l) (hc : M < n → 2 ≤ g.2.2.2.1) (hs : M < n → 2 * L ≤ g.2.2.2.2) : ∃ c1 c2 M' g1 i1 w1 r1, R d mX2_copyFrom 46 [.ref l, .ref l2] [] g mi ml mr = R d mX2_copyFrom 80 [.ref l, .ref l2] [] g1 i1 w1 r1 ∧ (∀ a, a < g.2.2.1 → g1.1 a = g.1 a ∧ g1.2.1 a = g.2.1 a ∧ i1 a = mi a ∧ w1 a = ml a ∧ ∀ f, ¬ (a = l ∧ (f = 6 ∨ f = 7)) → r1 a f = mr a f) ∧ (r1 l 6 = c1 ∧ r1 l 7 = c2 ∧ g1.1 c1 = 20 ∧ g1.1 c2 = 20 ∧ g1.2.1 c1 = M' ∧ g1.2.1 c2 = M') ∧ ((c1 = b1 ∧ c2 = b2 ∧ M' = M ∧ g1 = g ∧ n ≤ M) ∨ (M < n ∧ c1 = g.2.2.1 ∧ c2 = g.2.2.1 + 1 ∧ M' = L ∧ g1.2.2.1 = g.2.2.1 + 2 ∧ g1.2.2.2.1 + 2 = g.2.2.2.1 ∧ g1.2.2.2.2 + 2 * L = g.2.2.2.2)) := by
  have kb : 20 ≤ g.1 b1 ∧ g.1 b1 ≤ 25 := by rw [k1]; decide
  have kka : 20 ≤ g.1 a1 ∧ g.1 a1 ≤ 25 := by rw [ka]; decide
  by_cases p : M < n
  · have p' : ¬ nI n ≤ nI M := nI_ge p (by omega)
    have hc1 := hc p
    have hs1 := hs p
    have q1 : 1 ≤ g.2.2.2.1 := by omega
    have q2 : L ≤ g.2.2.2.2 := by omega
    have nz : ¬ g.2.2.1 = 0 := by omega
    have nz2 : ¬ g.2.2.1 + 1 = 0 := by omega
    have nl : ¬ l = g.2.2.1 := by omega
    have nl2 : ¬ l2 = g.2.2.1 := by omega
    have na : ¬ a1 = g.2.2.1 := by omega
    have e1 : R d mX2_copyFrom 46 [.ref l, .ref l2] [] g mi ml mr = R d mX2_copyFrom 69 [.ref l, .ref l2] [] (newG g 20 L (g.2.2.2.1 - 1) (g.2.2.2.2 - L)) (z2 mi g.2.2.1 0) (z2 ml g.2.2.1 0) (u2 (z2 mr g.2.2.1 0) l 6 g.2.2.1) := by
      have hl1 : (newG g 20 L (g.2.2.2.1 - 1) (g.2.2.2.2 - L)).1 l = 3 := (newG_o nl).1.trans hl
      simp only [wX2_copyFrom_0, wX2_copyFrom_1, wX2_copyFrom_2, wX2_copyFrom_5, wX2_copyFrom_8, wX2_copyFrom_9, wX2_copyFrom_10, wX2_copyFrom_13, wX2_copyFrom_16, wX2_copyFrom_17, wX2_copyFrom_18, wX2_copyFrom_21, wX2_copyFrom_24, wX2_copyFrom_25, wX2_copyFrom_26, wX2_copyFrom_29, wX2_copyFrom_32, wX2_copyFrom_33, wX2_copyFrom_36, wX2_copyFrom_37, wX2_copyFrom_38, wX2_copyFrom_41, wX2_copyFrom_42, wX2_copyFrom_43, wX2_copyFrom_46, wX2_copyFrom_47, wX2_copyFrom_50, wX2_copyFrom_51, wX2_copyFrom_52, wX2_copyFrom_55, wX2_copyFrom_58, wX2_copyFrom_59, wX2_copyFrom_60, wX2_copyFrom_63, wX2_copyFrom_64, wX2_copyFrom_66, wX2_copyFrom_70, wX2_copyFrom_71, wX2_copyFrom_74, wX2_copyFrom_75, wX2_copyFrom_77, wX2_copyFrom_81, wX2_copyFrom_82, wX2_copyFrom_85, wX2_copyFrom_88, wX2_copyFrom_89, wX2_copyFrom_92, wX2_copyFrom_93, wX2_copyFrom_94, wX2_copyFrom_97, wX2_copyFrom_98, wX2_copyFrom_99, wX2_copyFrom_102, wX2_copyFrom_105, wX2_copyFrom_106, wX2_copyFrom_109, wX2_copyFrom_110, wX2_copyFrom_111, wX2_copyFrom_114, wX2_copyFrom_115, wX2_copyFrom_116, wX2_copyFrom_119, wX2_copyFrom_122, hl, hl2, h6, kb, and_self, m1, hsz, p', if_false, h62, kka, la, hL, q1, q2, hl1, ne_eq, nz, not_false_iff]
    have o1 : ∀ {a}, ¬ a = g.2.2.1 → (newG g 20 L (g.2.2.2.1 - 1) (g.2.2.2.2 - L)).1 a = g.1 a ∧ (newG g 20 L (g.2.2.2.1 - 1) (g.2.2.2.2 - L)).2.1 a = g.2.1 a := fun h => newG_o h
    have s1 : (newG g 20 L (g.2.2.2.1 - 1) (g.2.2.2.2 - L)).1 g.2.2.1 = 20 ∧ (newG g 20 L (g.2.2.2.1 - 1) (g.2.2.2.2 - L)).2.1 g.2.2.1 = L := ⟨newG_k, newG_l⟩
    have n1 : (newG g 20 L (g.2.2.2.1 - 1) (g.2.2.2.2 - L)).2.2.1 = g.2.2.1 + 1 := rfl
    have n2 : (newG g 20 L (g.2.2.2.1 - 1) (g.2.2.2.2 - L)).2.2.2.1 = g.2.2.2.1 - 1 := rfl
    have n3 : (newG g 20 L (g.2.2.2.1 - 1) (g.2.2.2.2 - L)).2.2.2.2 = g.2.2.2.2 - L := rfl
    have i1 : ∀ {a}, ¬ a = g.2.2.1 → z2 mi g.2.2.1 0 a = mi a := fun h => z2_o h
    have w1 : ∀ {a}, ¬ a = g.2.2.1 → z2 ml g.2.2.1 0 a = ml a := fun h => z2_o h
    have t1 : ∀ {a}, ¬ a = g.2.2.1 → z2 mr g.2.2.1 0 a = mr a := fun h => z2_o h
    generalize newG g 20 L (g.2.2.2.1 - 1) (g.2.2.2.2 - L) = G1 at e1 o1 s1 n1 n2 n3
    generalize z2 mi g.2.2.1 0 = I1 at e1 i1
    generalize z2 ml g.2.2.1 0 = W1 at e1 w1
    generalize z2 mr g.2.2.1 0 = T1 at e1 t1
    have nl' : ¬ l = G1.2.2.1 := by omega
    have q1' : 1 ≤ G1.2.2.2.1 := by omega
    have q2' : L ≤ G1.2.2.2.2 := by omega
    have nz1 : ¬ G1.2.2.1 = 0 := by omega
    have hl21 : G1.1 l2 = 3 := (o1 nl2).1.trans hl2
    have rl2 : u2 T1 l 6 g.2.2.1 l2 6 = a1 := by rw [u2_oth (fun h9 => hll h9.1), t1 nl2]; exact h62
    have ka1 : 20 ≤ G1.1 a1 ∧ G1.1 a1 ≤ 25 := by rw [(o1 na).1]; exact kka
    have la1 : G1.2.1 a1 = L := (o1 na).2.trans la
    have e2 : R d mX2_copyFrom 69 [.ref l, .ref l2] [] G1 I1 W1 (u2 T1 l 6 g.2.2.1) = R d mX2_copyFrom 80 [.ref l, .ref l2] [] (newG G1 20 L (G1.2.2.2.1 - 1) (G1.2.2.2.2 - L)) (z2 I1 G1.2.2.1 0) (z2 W1 G1.2.2.1 0) (u2 (z2 (u2 T1 l 6 g.2.2.1) G1.2.2.1 0) l 7 G1.2.2.1) := by
      have hl1 : (newG G1 20 L (G1.2.2.2.1 - 1) (G1.2.2.2.2 - L)).1 l = 3 := (newG_o nl').1.trans ((o1 nl).1.trans hl)
      simp only [wX2_copyFrom_0, wX2_copyFrom_1, wX2_copyFrom_2, wX2_copyFrom_5, wX2_copyFrom_8, wX2_copyFrom_9, wX2_copyFrom_10, wX2_copyFrom_13, wX2_copyFrom_16, wX2_copyFrom_17, wX2_copyFrom_18, wX2_copyFrom_21, wX2_copyFrom_24, wX2_copyFrom_25, wX2_copyFrom_26, wX2_copyFrom_29, wX2_copyFrom_32, wX2_copyFrom_33, wX2_copyFrom_36, wX2_copyFrom_37, wX2_copyFrom_38, wX2_copyFrom_41, wX2_copyFrom_42, wX2_copyFrom_43, wX2_copyFrom_46, wX2_copyFrom_47, wX2_copyFrom_50, wX2_copyFrom_51, wX2_copyFrom_52, wX2_copyFrom_55, wX2_copyFrom_58, wX2_copyFrom_59, wX2_copyFrom_60, wX2_copyFrom_63, wX2_copyFrom_64, wX2_copyFrom_66, wX2_copyFrom_69, wX2_copyFrom_70, wX2_copyFrom_71, wX2_copyFrom_74, wX2_copyFrom_75, wX2_copyFrom_77, wX2_copyFrom_81, wX2_copyFrom_82, wX2_copyFrom_85, wX2_copyFrom_88, wX2_copyFrom_89, wX2_copyFrom_92, wX2_copyFrom_93, wX2_copyFrom_94, wX2_copyFrom_97, wX2_copyFrom_98, wX2_copyFrom_99, wX2_copyFrom_102, wX2_copyFrom_105, wX2_copyFrom_106, wX2_copyFrom_109, wX2_copyFrom_110, wX2_copyFrom_111, wX2_copyFrom_114, wX2_copyFrom_115, wX2_copyFrom_116, wX2_copyFrom_119, wX2_copyFrom_122, hl21, rl2, ka1, and_self, la1, hL, q1', q2', hl1, ne_eq, nz1, not_false_iff]
    have o2 : ∀ {a}, ¬ a = G1.2.2.1 → (newG G1 20 L (G1.2.2.2.1 - 1) (G1.2.2.2.2 - L)).1 a = G1.1 a ∧ (newG G1 20 L (G1.2.2.2.1 - 1) (G1.2.2.2.2 - L)).2.1 a = G1.2.1 a := fun h => newG_o h
    have s2 : (newG G1 20 L (G1.2.2.2.1 - 1) (G1.2.2.2.2 - L)).1 G1.2.2.1 = 20 ∧ (newG G1 20 L (G1.2.2.2.1 - 1) (G1.2.2.2.2 - L)).2.1 G1.2.2.1 = L := ⟨newG_k, newG_l⟩
    have n4 : (newG G1 20 L (G1.2.2.2.1 - 1) (G1.2.2.2.2 - L)).2.2.1 = G1.2.2.1 + 1 := rfl
    have n5 : (newG G1 20 L (G1.2.2.2.1 - 1) (G1.2.2.2.2 - L)).2.2.2.1 = G1.2.2.2.1 - 1 := rfl
    have n6 : (newG G1 20 L (G1.2.2.2.1 - 1) (G1.2.2.2.2 - L)).2.2.2.2 = G1.2.2.2.2 - L := rfl
    have i2 : ∀ {a}, ¬ a = G1.2.2.1 → z2 I1 G1.2.2.1 0 a = I1 a := fun h => z2_o h
    have w2 : ∀ {a}, ¬ a = G1.2.2.1 → z2 W1 G1.2.2.1 0 a = W1 a := fun h => z2_o h
    have t2 : ∀ {a}, ¬ a = G1.2.2.1 → z2 (u2 T1 l 6 g.2.2.1) G1.2.2.1 0 a = u2 T1 l 6 g.2.2.1 a := fun h => z2_o h
    generalize newG G1 20 L (G1.2.2.2.1 - 1) (G1.2.2.2.2 - L) = G2 at e2 o2 s2 n4 n5 n6
    generalize z2 I1 G1.2.2.1 0 = I2 at e2 i2
    generalize z2 W1 G1.2.2.1 0 = W2 at e2 w2
    generalize z2 (u2 T1 l 6 g.2.2.1) G1.2.2.1 0 = T2 at e2 t2
    rw [n1] at e2 o2 s2 i2 w2 t2
    refine ⟨g.2.2.1, g.2.2.1 + 1, L, G2, I2, W2, u2 T2 l 7 (g.2.2.1 + 1), e1.trans e2, fun a ha => ⟨?_, ?_, ?_, ?_, fun f hf => ?_⟩, ⟨?_, u2_at, ?_, s2.1, ?_, s2.2⟩, Or.inr ⟨p, rfl, rfl, rfl, by omega, by omega, by omega⟩⟩
    · rw [(o2 (by omega)).1, (o1 (by omega)).1]
    · rw [(o2 (by omega)).2, (o1 (by omega)).2]
    · rw [i2 (by omega), i1 (by omega)]
    · rw [w2 (by omega), w1 (by omega)]
    · rw [u2_oth (fun h9 => hf ⟨h9.1, Or.inr h9.2⟩), t2 (by omega), u2_oth (fun h9 => hf ⟨h9.1, Or.inl h9.2⟩), t1 (by omega)]
    · rw [u2_oth (fun h9 => absurd h9.2 (by decide)), t2 (by omega), u2_at]
    · rw [(o2 (by omega)).1]; exact s1.1
    · rw [(o2 (by omega)).2]; exact s1.2
  · have p' : nI n ≤ nI M := nI_le (by omega) (by omega)
    refine ⟨b1, b2, M, g, mi, ml, mr, ?_, fun a _ => ⟨rfl, rfl, rfl, rfl, fun _ _ => rfl⟩, ⟨h6, h7, k1, k2, m1, m2⟩, Or.inl ⟨rfl, rfl, rfl, rfl, by omega⟩⟩
    simp only [wX2_copyFrom_0, wX2_copyFrom_1, wX2_copyFrom_2, wX2_copyFrom_5, wX2_copyFrom_8, wX2_copyFrom_9, wX2_copyFrom_10, wX2_copyFrom_13, wX2_copyFrom_16, wX2_copyFrom_17, wX2_copyFrom_18, wX2_copyFrom_21, wX2_copyFrom_24, wX2_copyFrom_25, wX2_copyFrom_26, wX2_copyFrom_29, wX2_copyFrom_32, wX2_copyFrom_33, wX2_copyFrom_36, wX2_copyFrom_37, wX2_copyFrom_38, wX2_copyFrom_41, wX2_copyFrom_42, wX2_copyFrom_43, wX2_copyFrom_46, wX2_copyFrom_47, wX2_copyFrom_50, wX2_copyFrom_51, wX2_copyFrom_52, wX2_copyFrom_55, wX2_copyFrom_58, wX2_copyFrom_59, wX2_copyFrom_60, wX2_copyFrom_63, wX2_copyFrom_64, wX2_copyFrom_66, wX2_copyFrom_69, wX2_copyFrom_70, wX2_copyFrom_71, wX2_copyFrom_74, wX2_copyFrom_75, wX2_copyFrom_77, wX2_copyFrom_81, wX2_copyFrom_82, wX2_copyFrom_85, wX2_copyFrom_88, wX2_copyFrom_89, wX2_copyFrom_92, wX2_copyFrom_93, wX2_copyFrom_94, wX2_copyFrom_97, wX2_copyFrom_98, wX2_copyFrom_99, wX2_copyFrom_102, wX2_copyFrom_105, wX2_copyFrom_106, wX2_copyFrom_109, wX2_copyFrom_110, wX2_copyFrom_111, wX2_copyFrom_114, wX2_copyFrom_115, wX2_copyFrom_116, wX2_copyFrom_119, wX2_copyFrom_122, hl, hl2, h6, kb, and_self, m1, hsz, p', if_true]
end CCPY
