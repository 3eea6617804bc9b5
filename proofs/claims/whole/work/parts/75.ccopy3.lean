/-! the class: states copied, whole -/
def cpP (kf ke kc b3 : Nat) : Nat → Nat → Bool := fun a f => decide ((a = 0 ∧ f = 0) ∨ (a = 1 ∧ f < kf) ∨ (8 ≤ a ∧ a < 8 + ke ∧ 2 ≤ f ∧ f < 11) ∨ (b3 = 1 ∧ a = 0 ∧ f = 3) ∨ (32 ≤ a ∧ a < 32 + kc ∧ f < 6))
section CCP3
variable {s s2 off N n n0 a1 a2 b1 b2 L M e c w k v j f a d o z x y S t D p i C J B lo hi : Nat} {r r' r1 : Nat → Int32} {q : Nat → Int64} {g g' : Gh} {mi mi' : MI} {ml ml' : ML} {mr mr' : MR} {P P' : Nat → Nat → Bool} {b3 : Nat} {X : Nat → Nat → Nat} {β T hh hb : Nat → Nat} {A : Nat × Nat}
theorem cpP_t {kf ke kc : Nat} : (cpP kf ke kc b3 a f = true) ↔ ((a = 0 ∧ f = 0) ∨ (a = 1 ∧ f < kf) ∨ (8 ≤ a ∧ a < 8 + ke ∧ 2 ≤ f ∧ f < 11) ∨ (b3 = 1 ∧ a = 0 ∧ f = 3) ∨ (32 ≤ a ∧ a < 32 + kc ∧ f < 6)) := by
  unfold cpP
  exact decide_eq_true_iff
theorem cp_f (h1 : SG s g mr) (k1 : SG s2 g mr) (hd : s2 + 72 ≤ s ∨ s + 72 ≤ s2) (hf : ∀ c, c < 12 → mi (s2 + 1) c = nI 0 ∨ mi (s2 + 1) c = nI 1) : ∀ j k, k + j = 12 → R d mX3_copyFrom 10 [.ref s, .ref s2, .int (nI k)] [] g (cpM s s2 mi (cpP k 0 0 0)) ml mr = R d mX3_copyFrom 34 [.ref s, .ref s2, .int (nI 12)] [] g (cpM s s2 mi (cpP 12 0 0 0)) ml mr := by
  obtain ⟨⟨x1, x2, x3, x4, x5⟩, ⟨x6, x7, x8, x9, x10, x11⟩, -⟩ := h1
  obtain ⟨⟨y1, y2, y3, y4, y5⟩, ⟨y6, y7, y8, y9, y10, y11⟩, -⟩ := k1
  intro j
  induction j with
  | zero =>
    intro k hk
    have : k = 12 := by omega
    subst this
    rw [wX3_copyFrom_10]
    simp only [wX3_copyFrom_0, wX3_copyFrom_1, wX3_copyFrom_2, wX3_copyFrom_5, wX3_copyFrom_8, wX3_copyFrom_9i, wX3_copyFrom_9r, wX3_copyFrom_9n, wX3_copyFrom_11, wX3_copyFrom_13, wX3_copyFrom_16, wX3_copyFrom_17, wX3_copyFrom_20, wX3_copyFrom_21, wX3_copyFrom_22, wX3_copyFrom_25, wX3_copyFrom_26, wX3_copyFrom_27, wX3_copyFrom_28i, wX3_copyFrom_28r, wX3_copyFrom_28n, wX3_copyFrom_31, wX3_copyFrom_35i, wX3_copyFrom_35r, wX3_copyFrom_35n, wX3_copyFrom_37, wX3_copyFrom_38, wX3_copyFrom_41, wX3_copyFrom_42, wX3_copyFrom_45, wX3_copyFrom_46, wX3_copyFrom_49, wX3_copyFrom_50, wX3_copyFrom_51, wX3_copyFrom_52, wX3_copyFrom_55, wX3_copyFrom_56, wX3_copyFrom_57, wX3_copyFrom_60i, wX3_copyFrom_60r, wX3_copyFrom_60n, wX3_copyFrom_63, wX3_copyFrom_66, wX3_copyFrom_67, wX3_copyFrom_68, wX3_copyFrom_71, wX3_copyFrom_74, wX3_copyFrom_75i, wX3_copyFrom_75r, wX3_copyFrom_75n, wX3_copyFrom_77, wX3_copyFrom_78, wX3_copyFrom_81, wX3_copyFrom_84, wX3_copyFrom_85, wX3_copyFrom_88, wX3_copyFrom_89, wX3_copyFrom_90, wX3_copyFrom_91, wX3_copyFrom_94, wX3_copyFrom_95, wX3_copyFrom_96, wX3_copyFrom_99i, wX3_copyFrom_99r, wX3_copyFrom_99n, wX3_copyFrom_102, wX3_copyFrom_105, wX3_copyFrom_106, wX3_copyFrom_109, wX3_copyFrom_110, wX3_copyFrom_113, wX3_copyFrom_116, wX3_copyFrom_117, wX3_copyFrom_118, wX3_copyFrom_121, wX3_copyFrom_124, wX3_copyFrom_125, wX3_copyFrom_126, wX3_copyFrom_129, wX3_copyFrom_132, wX3_copyFrom_133, wX3_copyFrom_134, wX3_copyFrom_137, wX3_copyFrom_140, Int32.le_refl, if_true]
  | succ j ih =>
    intro k hk
    have c1 : ¬ nI 12 ≤ nI k := nI_ge (by omega) (by omega)
    have q1 : k < 12 := by omega
    have q2 : k < 2147483648 := by omega
    have hs : cpM s s2 mi (cpP k 0 0 0) (s2 + 1) = mi (s2 + 1) := cpM_src hd (by decide)
    have hv := hf k q1
    have st : u2 (cpM s s2 mi (cpP k 0 0 0)) (s + 1) k (mi (s2 + 1) k) = cpM s s2 mi (cpP (k + 1) 0 0 0) := cpM_u (by decide) (fun a' f' => by rw [cpP_t, cpP_t]; omega)
    rw [wX3_copyFrom_10]
    simp only [wX3_copyFrom_0, wX3_copyFrom_1, wX3_copyFrom_2, wX3_copyFrom_5, wX3_copyFrom_8, wX3_copyFrom_9i, wX3_copyFrom_9r, wX3_copyFrom_9n, wX3_copyFrom_11, wX3_copyFrom_13, wX3_copyFrom_16, wX3_copyFrom_17, wX3_copyFrom_20, wX3_copyFrom_21, wX3_copyFrom_22, wX3_copyFrom_25, wX3_copyFrom_26, wX3_copyFrom_27, wX3_copyFrom_28i, wX3_copyFrom_28r, wX3_copyFrom_28n, wX3_copyFrom_31, wX3_copyFrom_35i, wX3_copyFrom_35r, wX3_copyFrom_35n, wX3_copyFrom_37, wX3_copyFrom_38, wX3_copyFrom_41, wX3_copyFrom_42, wX3_copyFrom_45, wX3_copyFrom_46, wX3_copyFrom_49, wX3_copyFrom_50, wX3_copyFrom_51, wX3_copyFrom_52, wX3_copyFrom_55, wX3_copyFrom_56, wX3_copyFrom_57, wX3_copyFrom_60i, wX3_copyFrom_60r, wX3_copyFrom_60n, wX3_copyFrom_63, wX3_copyFrom_66, wX3_copyFrom_67, wX3_copyFrom_68, wX3_copyFrom_71, wX3_copyFrom_74, wX3_copyFrom_75i, wX3_copyFrom_75r, wX3_copyFrom_75n, wX3_copyFrom_77, wX3_copyFrom_78, wX3_copyFrom_81, wX3_copyFrom_84, wX3_copyFrom_85, wX3_copyFrom_88, wX3_copyFrom_89, wX3_copyFrom_90, wX3_copyFrom_91, wX3_copyFrom_94, wX3_copyFrom_95, wX3_copyFrom_96, wX3_copyFrom_99i, wX3_copyFrom_99r, wX3_copyFrom_99n, wX3_copyFrom_102, wX3_copyFrom_105, wX3_copyFrom_106, wX3_copyFrom_109, wX3_copyFrom_110, wX3_copyFrom_113, wX3_copyFrom_116, wX3_copyFrom_117, wX3_copyFrom_118, wX3_copyFrom_121, wX3_copyFrom_124, wX3_copyFrom_125, wX3_copyFrom_126, wX3_copyFrom_129, wX3_copyFrom_132, wX3_copyFrom_133, wX3_copyFrom_134, wX3_copyFrom_137, wX3_copyFrom_140, c1, if_false, x1, y1, x2, y2, x6, x7, y6, y7, q1, q2, hs, hv, st, nI_add]
    exact ih (k + 1) (by omega)
theorem cp_e (h1 : SG s g mr) (k1 : SG s2 g mr) (hd : s2 + 72 ≤ s ∨ s + 72 ≤ s2) (hf : ∀ i, i < 24 → (mi (s2 + (8 + i)) 8 = nI 0 ∨ mi (s2 + (8 + i)) 8 = nI 1) ∧ (mi (s2 + (8 + i)) 9 = nI 0 ∨ mi (s2 + (8 + i)) 9 = nI 1)) : ∀ j k, k + j = 24 → R (d + 1) mX3_copyFrom 36 [.ref s, .ref s2, .int (nI k)] [] g (cpM s s2 mi (cpP 12 k 0 0)) ml mr = R (d + 1) mX3_copyFrom 66 [.ref s, .ref s2, .int (nI 24)] [] g (cpM s s2 mi (cpP 12 24 0 0)) ml mr := by
  obtain ⟨⟨x1, x2, x3, x4, x5⟩, ⟨x6, x7, x8, x9, x10, x11⟩, -, x16, -⟩ := h1
  obtain ⟨⟨y1, y2, y3, y4, y5⟩, ⟨y6, y7, y8, y9, y10, y11⟩, -, y16, -⟩ := k1
  have kx : 20 ≤ g.1 (s + 2) ∧ g.1 (s + 2) ≤ 25 := by rw [x8]; decide
  have kx2 : g.1 (s + 2) = 23 ∨ g.1 (s + 2) = 24 ∨ g.1 (s + 2) = 25 := Or.inl x8
  have ky2 : g.1 (s2 + 2) = 23 ∨ g.1 (s2 + 2) = 24 ∨ g.1 (s2 + 2) = 25 := Or.inl y8
  intro j
  induction j with
  | zero =>
    intro k hk
    have : k = 24 := by omega
    subst this
    rw [wX3_copyFrom_36]
    simp only [wX3_copyFrom_0, wX3_copyFrom_1, wX3_copyFrom_2, wX3_copyFrom_5, wX3_copyFrom_8, wX3_copyFrom_9i, wX3_copyFrom_9r, wX3_copyFrom_9n, wX3_copyFrom_11, wX3_copyFrom_13, wX3_copyFrom_16, wX3_copyFrom_17, wX3_copyFrom_20, wX3_copyFrom_21, wX3_copyFrom_22, wX3_copyFrom_25, wX3_copyFrom_26, wX3_copyFrom_27, wX3_copyFrom_28i, wX3_copyFrom_28r, wX3_copyFrom_28n, wX3_copyFrom_31, wX3_copyFrom_34, wX3_copyFrom_35i, wX3_copyFrom_35r, wX3_copyFrom_35n, wX3_copyFrom_37, wX3_copyFrom_38, wX3_copyFrom_41, wX3_copyFrom_42, wX3_copyFrom_45, wX3_copyFrom_46, wX3_copyFrom_49, wX3_copyFrom_50, wX3_copyFrom_51, wX3_copyFrom_52, wX3_copyFrom_55, wX3_copyFrom_56, wX3_copyFrom_57, wX3_copyFrom_60i, wX3_copyFrom_60r, wX3_copyFrom_60n, wX3_copyFrom_63, wX3_copyFrom_67, wX3_copyFrom_68, wX3_copyFrom_71, wX3_copyFrom_74, wX3_copyFrom_75i, wX3_copyFrom_75r, wX3_copyFrom_75n, wX3_copyFrom_77, wX3_copyFrom_78, wX3_copyFrom_81, wX3_copyFrom_84, wX3_copyFrom_85, wX3_copyFrom_88, wX3_copyFrom_89, wX3_copyFrom_90, wX3_copyFrom_91, wX3_copyFrom_94, wX3_copyFrom_95, wX3_copyFrom_96, wX3_copyFrom_99i, wX3_copyFrom_99r, wX3_copyFrom_99n, wX3_copyFrom_102, wX3_copyFrom_105, wX3_copyFrom_106, wX3_copyFrom_109, wX3_copyFrom_110, wX3_copyFrom_113, wX3_copyFrom_116, wX3_copyFrom_117, wX3_copyFrom_118, wX3_copyFrom_121, wX3_copyFrom_124, wX3_copyFrom_125, wX3_copyFrom_126, wX3_copyFrom_129, wX3_copyFrom_132, wX3_copyFrom_133, wX3_copyFrom_134, wX3_copyFrom_137, wX3_copyFrom_140, x1, x3, kx, and_self, x9, Int32.le_refl, if_true]
  | succ j ih =>
    intro k hk
    have c1 : ¬ nI 24 ≤ nI k := nI_ge (by omega) (by omega)
    have q1 : k < 24 := by omega
    have q2 : k < 2147483648 := by omega
    obtain ⟨w1, w2⟩ := x16 k q1
    obtain ⟨w3, w4⟩ := y16 k q1
    rw [show s + 8 + k = s + (8 + k) by omega] at w1 w2
    rw [show s2 + 8 + k = s2 + (8 + k) by omega] at w3 w4
    have hs : cpM s s2 mi (cpP 12 k 0 0) (s2 + (8 + k)) = mi (s2 + (8 + k)) := cpM_src hd (by omega)
    obtain ⟨v8, v9⟩ := hf k q1
    have ec := c_endCopy (d := d) (g := g) (mi := cpM s s2 mi (cpP 12 k 0 0)) (ml := ml) (mr := mr) (x := s + (8 + k)) (y := s2 + (8 + k)) w1 w3 (by omega) (by rw [hs]; exact v8) (by rw [hs]; exact v9)
    rw [cpM_r (P' := cpP 12 (k + 1) 0 0) (by omega) hd (fun a' f' => by rw [cpP_t, cpP_t]; omega)] at ec
    rw [wX3_copyFrom_36]
    simp only [wX3_copyFrom_0, wX3_copyFrom_1, wX3_copyFrom_2, wX3_copyFrom_5, wX3_copyFrom_8, wX3_copyFrom_9i, wX3_copyFrom_9r, wX3_copyFrom_9n, wX3_copyFrom_11, wX3_copyFrom_13, wX3_copyFrom_16, wX3_copyFrom_17, wX3_copyFrom_20, wX3_copyFrom_21, wX3_copyFrom_22, wX3_copyFrom_25, wX3_copyFrom_26, wX3_copyFrom_27, wX3_copyFrom_28i, wX3_copyFrom_28r, wX3_copyFrom_28n, wX3_copyFrom_31, wX3_copyFrom_34, wX3_copyFrom_35i, wX3_copyFrom_35r, wX3_copyFrom_35n, wX3_copyFrom_37, wX3_copyFrom_38, wX3_copyFrom_41, wX3_copyFrom_42, wX3_copyFrom_45, wX3_copyFrom_46, wX3_copyFrom_49, wX3_copyFrom_50, wX3_copyFrom_51, wX3_copyFrom_52, wX3_copyFrom_55, wX3_copyFrom_56, wX3_copyFrom_57, wX3_copyFrom_60i, wX3_copyFrom_60r, wX3_copyFrom_60n, wX3_copyFrom_63, wX3_copyFrom_67, wX3_copyFrom_68, wX3_copyFrom_71, wX3_copyFrom_74, wX3_copyFrom_75i, wX3_copyFrom_75r, wX3_copyFrom_75n, wX3_copyFrom_77, wX3_copyFrom_78, wX3_copyFrom_81, wX3_copyFrom_84, wX3_copyFrom_85, wX3_copyFrom_88, wX3_copyFrom_89, wX3_copyFrom_90, wX3_copyFrom_91, wX3_copyFrom_94, wX3_copyFrom_95, wX3_copyFrom_96, wX3_copyFrom_99i, wX3_copyFrom_99r, wX3_copyFrom_99n, wX3_copyFrom_102, wX3_copyFrom_105, wX3_copyFrom_106, wX3_copyFrom_109, wX3_copyFrom_110, wX3_copyFrom_113, wX3_copyFrom_116, wX3_copyFrom_117, wX3_copyFrom_118, wX3_copyFrom_121, wX3_copyFrom_124, wX3_copyFrom_125, wX3_copyFrom_126, wX3_copyFrom_129, wX3_copyFrom_132, wX3_copyFrom_133, wX3_copyFrom_134, wX3_copyFrom_137, wX3_copyFrom_140, c1, if_false, x1, y1, x3, y3, kx, and_self, x9, y9, kx2, ky2, q1, q2, w1, w2, w4, cs_0, cs_i, cs_r, ec, aR_v, nI_add]
    exact ih (k + 1) (by omega)
theorem cp_c (h1 : SG s g mr) (k1 : SG s2 g mr) (hd : s2 + 72 ≤ s ∨ s + 72 ≤ s2) (hN : N ≤ 40) (h3 : mi (s2 + 0) 3 = nI N) (hf : ∀ i, i < N → mi (s2 + (32 + i)) 1 = nI 0 ∨ mi (s2 + (32 + i)) 1 = nI 1) : ∀ j k, k + j = N → R (d + 1) mX3_copyFrom 76 [.ref s, .ref s2, .int (nI k)] [] g (cpM s s2 mi (cpP 12 24 k 1)) ml mr = R (d + 1) mX3_copyFrom 105 [.ref s, .ref s2, .int (nI N)] [] g (cpM s s2 mi (cpP 12 24 N 1)) ml mr := by
  obtain ⟨⟨x1, x2, x3, x4, x5⟩, ⟨x6, x7, x8, x9, x10, x11⟩, -, -, x17⟩ := h1
  obtain ⟨⟨y1, y2, y3, y4, y5⟩, ⟨y6, y7, y8, y9, y10, y11⟩, -, -, y17⟩ := k1
  have kx2 : g.1 (s + 3) = 23 ∨ g.1 (s + 3) = 24 ∨ g.1 (s + 3) = 25 := Or.inr (Or.inl x10)
  have ky2 : g.1 (s2 + 3) = 23 ∨ g.1 (s2 + 3) = 24 ∨ g.1 (s2 + 3) = 25 := Or.inr (Or.inl y10)
  have v3 : ∀ {k}, cpM s s2 mi (cpP 12 24 k 1) s 3 = nI N := fun {k} => by
    have := cpM_in (s := s) (s2 := s2) (mi := mi) (P := cpP 12 24 k 1) (a := 0) (f := 3) (by decide) (by rw [cpP_t]; omega)
    rw [Nat.add_zero] at this
    exact this.trans h3
  intro j
  induction j with
  | zero =>
    intro k hk
    have : k = N := by omega
    subst this
    rw [wX3_copyFrom_76]
    simp only [wX3_copyFrom_0, wX3_copyFrom_1, wX3_copyFrom_2, wX3_copyFrom_5, wX3_copyFrom_8, wX3_copyFrom_9i, wX3_copyFrom_9r, wX3_copyFrom_9n, wX3_copyFrom_11, wX3_copyFrom_13, wX3_copyFrom_16, wX3_copyFrom_17, wX3_copyFrom_20, wX3_copyFrom_21, wX3_copyFrom_22, wX3_copyFrom_25, wX3_copyFrom_26, wX3_copyFrom_27, wX3_copyFrom_28i, wX3_copyFrom_28r, wX3_copyFrom_28n, wX3_copyFrom_31, wX3_copyFrom_34, wX3_copyFrom_35i, wX3_copyFrom_35r, wX3_copyFrom_35n, wX3_copyFrom_37, wX3_copyFrom_38, wX3_copyFrom_41, wX3_copyFrom_42, wX3_copyFrom_45, wX3_copyFrom_46, wX3_copyFrom_49, wX3_copyFrom_50, wX3_copyFrom_51, wX3_copyFrom_52, wX3_copyFrom_55, wX3_copyFrom_56, wX3_copyFrom_57, wX3_copyFrom_60i, wX3_copyFrom_60r, wX3_copyFrom_60n, wX3_copyFrom_63, wX3_copyFrom_66, wX3_copyFrom_67, wX3_copyFrom_68, wX3_copyFrom_71, wX3_copyFrom_74, wX3_copyFrom_75i, wX3_copyFrom_75r, wX3_copyFrom_75n, wX3_copyFrom_77, wX3_copyFrom_78, wX3_copyFrom_81, wX3_copyFrom_84, wX3_copyFrom_85, wX3_copyFrom_88, wX3_copyFrom_89, wX3_copyFrom_90, wX3_copyFrom_91, wX3_copyFrom_94, wX3_copyFrom_95, wX3_copyFrom_96, wX3_copyFrom_99i, wX3_copyFrom_99r, wX3_copyFrom_99n, wX3_copyFrom_102, wX3_copyFrom_106, wX3_copyFrom_109, wX3_copyFrom_110, wX3_copyFrom_113, wX3_copyFrom_116, wX3_copyFrom_117, wX3_copyFrom_118, wX3_copyFrom_121, wX3_copyFrom_124, wX3_copyFrom_125, wX3_copyFrom_126, wX3_copyFrom_129, wX3_copyFrom_132, wX3_copyFrom_133, wX3_copyFrom_134, wX3_copyFrom_137, wX3_copyFrom_140, x1, v3, Int32.le_refl, if_true]
  | succ j ih =>
    intro k hk
    have c1 : ¬ nI N ≤ nI k := nI_ge (by omega) (by omega)
    have q1 : k < 40 := by omega
    have q2 : k < 2147483648 := by omega
    obtain ⟨w1, w2⟩ := x17 k q1
    obtain ⟨w3, w4⟩ := y17 k q1
    unfold cA at w1 w2 w3 w4
    rw [show s + 32 + k = s + (32 + k) by omega] at w1 w2
    rw [show s2 + 32 + k = s2 + (32 + k) by omega] at w3 w4
    have hs : cpM s s2 mi (cpP 12 24 k 1) (s2 + (32 + k)) = mi (s2 + (32 + k)) := cpM_src hd (by omega)
    have ec := c_callCopy (d := d) (g := g) (mi := cpM s s2 mi (cpP 12 24 k 1)) (ml := ml) (mr := mr) (x := s + (32 + k)) (y := s2 + (32 + k)) w1 w3 (by omega) (by rw [hs]; exact hf k (by omega))
    rw [cpM_r (P' := cpP 12 24 (k + 1) 1) (by omega) hd (fun a' f' => by rw [cpP_t, cpP_t]; omega)] at ec
    rw [wX3_copyFrom_76]
    simp only [wX3_copyFrom_0, wX3_copyFrom_1, wX3_copyFrom_2, wX3_copyFrom_5, wX3_copyFrom_8, wX3_copyFrom_9i, wX3_copyFrom_9r, wX3_copyFrom_9n, wX3_copyFrom_11, wX3_copyFrom_13, wX3_copyFrom_16, wX3_copyFrom_17, wX3_copyFrom_20, wX3_copyFrom_21, wX3_copyFrom_22, wX3_copyFrom_25, wX3_copyFrom_26, wX3_copyFrom_27, wX3_copyFrom_28i, wX3_copyFrom_28r, wX3_copyFrom_28n, wX3_copyFrom_31, wX3_copyFrom_34, wX3_copyFrom_35i, wX3_copyFrom_35r, wX3_copyFrom_35n, wX3_copyFrom_37, wX3_copyFrom_38, wX3_copyFrom_41, wX3_copyFrom_42, wX3_copyFrom_45, wX3_copyFrom_46, wX3_copyFrom_49, wX3_copyFrom_50, wX3_copyFrom_51, wX3_copyFrom_52, wX3_copyFrom_55, wX3_copyFrom_56, wX3_copyFrom_57, wX3_copyFrom_60i, wX3_copyFrom_60r, wX3_copyFrom_60n, wX3_copyFrom_63, wX3_copyFrom_66, wX3_copyFrom_67, wX3_copyFrom_68, wX3_copyFrom_71, wX3_copyFrom_74, wX3_copyFrom_75i, wX3_copyFrom_75r, wX3_copyFrom_75n, wX3_copyFrom_77, wX3_copyFrom_78, wX3_copyFrom_81, wX3_copyFrom_84, wX3_copyFrom_85, wX3_copyFrom_88, wX3_copyFrom_89, wX3_copyFrom_90, wX3_copyFrom_91, wX3_copyFrom_94, wX3_copyFrom_95, wX3_copyFrom_96, wX3_copyFrom_99i, wX3_copyFrom_99r, wX3_copyFrom_99n, wX3_copyFrom_102, wX3_copyFrom_106, wX3_copyFrom_109, wX3_copyFrom_110, wX3_copyFrom_113, wX3_copyFrom_116, wX3_copyFrom_117, wX3_copyFrom_118, wX3_copyFrom_121, wX3_copyFrom_124, wX3_copyFrom_125, wX3_copyFrom_126, wX3_copyFrom_129, wX3_copyFrom_132, wX3_copyFrom_133, wX3_copyFrom_134, wX3_copyFrom_137, wX3_copyFrom_140, c1, v3, if_false, x1, y1, x4, y4, x11, y11, kx2, ky2, q1, q2, w1, w2, w4, cs_0, cs_i, cs_r, ec, aR_v, nI_add]
    exact ih (k + 1) (by omega)
/-- which places are copied, in the end -/
def pF (N a f : Nat) : Prop := cpP 12 24 N 1 a f = true ∨ (a = 4 ∧ f < 4) ∨ (a = 5 ∧ f < 2) ∨ (a = 0 ∧ 6 ≤ f ∧ f < 9)
theorem fw_b (hw : w < 9) : 2 ≤ fw w ∧ fw w < 11 := by
  have : w = 0 ∨ w = 1 ∨ w = 2 ∨ w = 3 ∨ w = 4 ∨ w = 5 ∨ w = 6 ∨ w = 7 ∨ w = 8 := by omega
  rcases this with rfl | rfl | rfl | rfl | rfl | rfl | rfl | rfl | rfl <;> decide
theorem gw_b : gw w < 6 := by
  unfold gw
  repeat' split
  all_goals decide
theorem pF_lo : ∀ j, j < 12 → ¬ j = 11 → (lA j = 0 ∧ lF j = 0) ∨ (lA j = 0 ∧ lF j = 3) ∨ (lA j = 4 ∧ lF j < 4) ∨ (lA j = 5 ∧ lF j < 2) ∨ (lA j = 0 ∧ 6 ≤ lF j ∧ lF j < 9) := by decide
theorem pF_j (h : okJ N j) : pF N (lA j) (lF j) := by
  obtain ⟨h1, h2, h3, h4⟩ := h
  unfold pF
  rw [cpP_t]
  by_cases p1 : j < 12
  · have := pF_lo j p1 h2
    omega
  · by_cases p2 : j < 24
    · have e1 : lA j = 1 := by unfold lA; rw [if_neg p1, if_pos p2]
      have e2 : lF j = j - 12 := by unfold lF; rw [if_neg p1, if_pos p2]
      omega
    · by_cases p3 : j < 240
      · have e1 : lA j = 8 + ((j - 24) / 9 % 2 * 12 + (j - 24) / 18) := by unfold lA; rw [if_neg p1, if_neg p2, if_pos p3]
        have e2 : lF j = fw ((j - 24) % 9) := by unfold lF; rw [if_neg p1, if_neg p2, if_pos p3]
        have := fw_b (w := (j - 24) % 9) (Nat.mod_lt _ (by decide))
        omega
      · have e1 : lA j = 32 + (j - 240) / 6 := by unfold lA; rw [if_neg p1, if_neg p2, if_neg p3]
        have e2 : lF j = gw ((j - 240) % 6) := by unfold lF; rw [if_neg p1, if_neg p2, if_neg p3]
        have := gw_b (w := (j - 240) % 6)
        have := h4 (by omega)
        omega
theorem c_copy (h : CS s2 0 N n a1 a2 L r q g mi mr) (hJ : JG X β T A hh hb N t D r q) (hD : DS s b1 b2 M g mi mr) (hd : s2 + 72 ≤ s ∨ s + 72 ≤ s2) (d11 : ¬ a1 = b1) (d12 : ¬ a1 = b2) (d21 : ¬ a2 = b1) (d22 : ¬ a2 = b2) (hR : RmC M g) : ∃ c1 c2 M' g' m' l' r', callT (d + 3) mX3_copyFrom [.ref s, .ref s2] (g, mi, ml, mr) = some (.inl none, g', m', l', r') ∧ CS s 0 N n c1 c2 M' r q g' m' r' ∧ Tr s b1 b2 M g mi ml mr c1 c2 M' g' m' l' r' := by
  obtain ⟨h1, h2, h3⟩ := hD
  have in1 : ∀ a, a < 72 → s + a < g.2.2.1 := fun a ha => by obtain ⟨-, -, -, -, e1, e2, -⟩ := h2; omega
  have in2 : ∀ a, a < 72 → s2 + a < g.2.2.1 := fun a ha => by obtain ⟨-, ⟨-, -, -, -, e1, e2, -⟩, -⟩ := h; omega
  have nb1 : ∀ a, a < 72 → ¬ a = 6 → ¬ s + a = b1 := fun a ha h6 => by obtain ⟨-, -, ⟨e0, -⟩, -, e1, e2, -⟩ := h2; omega
  have nb2 : ∀ a, a < 72 → ¬ a = 7 → ¬ s + a = b2 := fun a ha h6 => by obtain ⟨-, -, ⟨-, e0, -⟩, -, e1, e2, -⟩ := h2; omega
  have mb1 : ∀ a, a < 72 → ¬ s2 + a = b1 := fun a ha => by
    obtain ⟨-, ⟨-, -, -, -, e3, -⟩, -⟩ := h
    obtain ⟨-, -, ⟨e0, -⟩, -, e1, e2, -⟩ := h2
    omega
  have mb2 : ∀ a, a < 72 → ¬ s2 + a = b2 := fun a ha => by
    obtain ⟨-, ⟨-, -, -, -, e3, -⟩, -⟩ := h
    obtain ⟨-, -, ⟨-, e0, -⟩, -, e1, e2, -⟩ := h2
    omega
  have dsj : ∀ a b, a < 72 → b < 72 → ¬ s2 + a = s + b := fun a b ha hb => by omega
  have out2 : ∀ a, a < 72 → ¬ (s ≤ s2 + a ∧ s2 + a < s + 72) := fun a ha => by omega
  have oa1 : ¬ (s ≤ a1 ∧ a1 < s + 72) := by
    obtain ⟨-, ⟨-, -, ⟨e0, -⟩, -, e3, -⟩, -⟩ := h
    obtain ⟨-, -, -, -, e1, e2, -⟩ := h2
    omega
  have oa2 : ¬ (s ≤ a2 ∧ a2 < s + 72) := by
    obtain ⟨-, ⟨-, -, ⟨-, e0, -⟩, -, e3, -⟩, -⟩ := h
    obtain ⟨-, -, -, -, e1, e2, -⟩ := h2
    omega
  have b1s : ∀ b, ¬ s = b1 ∧ (b = b1 ∨ g.2.2.1 ≤ b → ¬ b = s) := fun b => by
    obtain ⟨-, -, ⟨e0, -⟩, -, e1, e2, -⟩ := h2
    omega
  have b2s : ∀ b, (b = b2 ∨ g.2.2.1 ≤ b → ¬ b = s) := fun b => by
    obtain ⟨-, -, ⟨-, e0, -⟩, -, e1, e2, -⟩ := h2
    omega
  obtain ⟨k1, k2, ⟨k3, k4, k5⟩, ⟨k6, k7, k8, k9⟩, k10, k11⟩ := id h
  obtain ⟨⟨x1, x2, x3, x4, x5⟩, ⟨x6, x7, x8, x9, x10, x11⟩, ⟨x12, x13, x14, x15⟩, x16, x17⟩ := id h1
  obtain ⟨⟨y1, y2, y3, y4, y5⟩, -⟩ := id k1
  obtain ⟨-, -, g6, g7, -⟩ := hJ.1
  have hF := hJ.fs
  have hN := hF.2.2.2.1
  have hN5 := hF.2.2.2.2.1
  rw [Nat.zero_add] at k7 k8
  have v3 : mi (s2 + 0) 3 = nI N := (h.lv (j := 5) (a := s2) (f := 3) (by decide) (by decide) rfl rfl).trans hN5
  -- booleans
  have b01 : ∀ kk, kk < 2 → nI kk = nI 0 ∨ nI kk = nI 1 := fun kk hk => by
    have : kk = 0 ∨ kk = 1 := by omega
    rcases this with rfl | rfl
    · exact Or.inl rfl
    · exact Or.inr rfl
  have bf : ∀ c, c < 12 → mi (s2 + 1) c = nI 0 ∨ mi (s2 + 1) c = nI 1 := fun c hc => by
    have : mi (s2 + 1) c = r (12 + c) := h.lv (j := 12 + c) (by omega) (by omega) (by unfold lA; rw [if_neg (by omega), if_pos (by omega)]) (by unfold lF; rw [if_neg (by omega), if_pos (by omega)]; omega)
    obtain ⟨kk, w1, w2⟩ := g6 c hc
    rw [this, w2]
    exact b01 kk w1
  have be : ∀ i, i < 24 → (mi (s2 + (8 + i)) 8 = nI 0 ∨ mi (s2 + (8 + i)) 8 = nI 1) ∧ (mi (s2 + (8 + i)) 9 = nI 0 ∨ mi (s2 + (8 + i)) 9 = nI 1) := fun i hi => by
    have he : i / 12 < 2 := by omega
    have hc : i % 12 < 12 := by omega
    have ea : s2 + (8 + i) = eA s2 (i / 12) (i % 12) := by unfold eA; omega
    obtain ⟨s', o, tm, ag, lb, rm, wt, vl, bt, ⟨w0, w1, w2, w3, w4, w5, w6, w7, w8⟩, hn', -, -⟩ := hJ.ej he hc
    unfold eV at w5 w6
    rw [ea, h.ev he hc (w := 5) (f := 8) (by decide) rfl, h.ev he hc (w := 6) (f := 9) (by decide) rfl, w5, w6]
    exact ⟨b01 rm hn'.1.2.2.2.2.2.1, b01 wt hn'.1.2.2.2.2.2.2.1⟩
  have bc : ∀ i, i < N → mi (s2 + (32 + i)) 1 = nI 0 ∨ mi (s2 + (32 + i)) 1 = nI 1 := fun i hi => by
    have ea : s2 + (32 + i) = cA s2 i := by unfold cA; omega
    obtain ⟨og, at_, ck, w1, w2, w3, w4, w5, w6⟩ := g7 i (by omega)
    rw [ea, h.cv_ hi hN (w := 5) (f := 1) (by decide) rfl, w6]
    exact b01 ck w3
  -- the walk up to the link
  have p0 : u2 mi s 0 (mi s2 0) = cpM s s2 mi (cpP 0 0 0 0) := by
    have e1 := cpM_u (s := s) (s2 := s2) (mi := mi) (P := fun _ _ => false) (P' := cpP 0 0 0 0) (a := 0) (f := 0) (by decide) (fun a' f' => by
      rw [cpP_t]
      show _ ↔ (false = true ∨ _)
      simp only [Bool.false_eq_true, false_or]
      omega)
    have e2 : cpM s s2 mi (fun _ _ => false) = mi := by
      funext b f
      unfold cpM
      rw [if_neg (fun h9 => by cases h9.2.2)]
    rw [e2] at e1
    exact e1
  have f1 := cp_f (d := d + 2) (mi := mi) (ml := ml) h1 k1 hd bf 12 0 rfl
  have f2 := cp_e (d := d + 1) (mi := mi) (ml := ml) h1 k1 hd be 24 0 rfl
  have f3 := cp_c (d := d + 1) (mi := mi) (ml := ml) h1 k1 hd hN v3 bc N 0 (Nat.zero_add N)
  have c3 : cpM s s2 mi (cpP 12 24 0 0) s2 3 = mi s2 3 := congrFun (cpM_src (mi := mi) (P := cpP 12 24 0 0) (a := 0) hd (by decide)) 3
  have p3 : u2 (cpM s s2 mi (cpP 12 24 0 0)) s 3 (mi s2 3) = cpM s s2 mi (cpP 12 24 0 1) := cpM_u (a := 0) (by decide) (fun a' f' => by rw [cpP_t, cpP_t]; omega)
  -- the link
  have hsz : cpM s s2 mi (cpP 12 24 N 1) (s2 + 4) 5 = nI n := by rw [cpM_src hd (by decide)]; exact k7
  have lk := c_linkCopy (d := d) (mi := cpM s s2 mi (cpP 12 24 N 1)) (ml := ml) h1 h2 k1 k2 hd hsz k8 d11 d12 d21 d22 hR
  clear d11 d12 d21 d22
  obtain ⟨c1, c2, M', g', m', l', r', u1, u2', u3, u4, u5, u6, u7, u8, u9, u10, u11, u12, u13, u14, u15⟩ := lk
  have nc1 : ¬ c1 = s := (b1s c1).2 u13
  have nc2 : ¬ c2 = s := b2s c2 u14
  have sIn : s < g.2.2.1 := in1 0 (by decide)
  have s2In : s2 < g.2.2.1 := in2 0 (by decide)
  have kS : g'.1 s = 4 := (u11 s sIn).2.1.trans x1
  have kS2 : g'.1 s2 = 4 := (u11 s2 s2In).2.1.trans y1
  have ms2 : m' s2 = mi s2 := by
    have e1 := (u10 s2 s2In (dsj 0 4 (by decide) (by decide)) (dsj 0 5 (by decide) (by decide)) (mb1 0 (by decide)) (mb2 0 (by decide))).1
    rw [e1]
    exact cpM_out (out2 0 (by decide))
  have s2s : ¬ s2 = s := dsj 0 0 (by decide) (by decide)
  have e5 : ∀ {F : MI} {b : Nat} {z : Int32}, u2 F s b z s2 = F s2 := u2_row s2s
  have hTr : Tr s b1 b2 M g mi ml mr c1 c2 M' g' (u2 (u2 (u2 m' s 6 (mi s2 6)) s 7 (mi s2 7)) s 8 (mi s2 8)) l' r' := by
    refine ⟨⟨fun a ha => ⟨(u11 a ha).1, (u11 a ha).2.1, (u11 a ha).2.2, fun z1 z2 z3 => ?_⟩, u12, u13, u14⟩, u15⟩
    have w := u10 a ha (fun h9 => z1 (by rw [h9]; exact ⟨Nat.le_add_right s 4, Nat.add_lt_add_left (by decide) s⟩)) (fun h9 => z1 (by rw [h9]; exact ⟨Nat.le_add_right s 5, Nat.add_lt_add_left (by decide) s⟩)) z2 z3
    have has : ¬ a = s := fun h9 => z1 (by rw [h9]; exact ⟨Nat.le_refl s, Nat.lt_add_of_pos_right (by decide)⟩)
    refine ⟨?_, w.2 z1⟩
    rw [u2_row has, u2_row has, u2_row has, w.1, cpM_out z1]
  clear u13 u14 u15 u12 b1s b2s
  have hv6 := ms2
  -- what the state holds in the end
  have fin : ∀ a f, a < 72 → pF N a f → u2 (u2 (u2 m' s 6 (mi s2 6)) s 7 (mi s2 7)) s 8 (mi s2 8) (s + a) f = mi (s2 + a) f := fun a f ha hp => by
    by_cases q1 : a = 0 ∧ 6 ≤ f ∧ f < 9
    · obtain ⟨rfl, q2, q3⟩ := q1
      rw [Nat.add_zero, Nat.add_zero]
      have : f = 6 ∨ f = 7 ∨ f = 8 := by omega
      rcases this with rfl | rfl | rfl
      · rw [u2_oth (fun h9 => absurd h9.2 (by decide)), u2_oth (fun h9 => absurd h9.2 (by decide)), u2_at]
      · rw [u2_oth (fun h9 => absurd h9.2 (by decide)), u2_at]
      · rw [u2_at]
    · have ne : ∀ k, 6 ≤ k → k < 9 → ¬ (s + a = s ∧ f = k) := fun k hk hk2 h9 => q1 ⟨Nat.add_eq_left.mp h9.1, by rw [h9.2]; exact ⟨hk, hk2⟩⟩
      rw [u2_oth (ne 8 (by decide) (by decide)), u2_oth (ne 7 (by decide) (by decide)), u2_oth (ne 6 (by decide) (by decide))]
      by_cases q4 : a = 4 ∧ f < 4
      · obtain ⟨rfl, q5⟩ := q4
        rw [u4 f q5, cpM_src hd (by decide)]
      · by_cases q5 : a = 5 ∧ f < 2
        · obtain ⟨rfl, q6⟩ := q5
          rw [u6 f q6, cpM_src hd (by decide)]
        · have hp' : cpP 12 24 N 1 a f = true := by
            rcases hp with h9 | h9 | h9 | h9
            · exact h9
            · exact absurd h9 q4
            · exact absurd h9 q5
            · exact absurd h9 q1
          have hp2 := cpP_t.mp hp'
          have a4 : ¬ a = 4 ∧ ¬ a = 5 ∧ ¬ a = 6 ∧ ¬ a = 7 := by clear hd; omega
          rw [(u10 (s + a) (in1 a ha) (fun h9 => a4.1 (Nat.add_left_cancel h9)) (fun h9 => a4.2.1 (Nat.add_left_cancel h9)) (nb1 a ha a4.2.2.1) (nb2 a ha a4.2.2.2)).1]
          exact cpM_in ha hp'
  have cx : ∀ e c f, e < 2 → c < 12 → f < 2 → u2 (u2 (u2 m' s 6 (mi s2 6)) s 7 (mi s2 7)) s 8 (mi s2 8) (eA s e c) f = mi (eA s e c) f := fun e c f he hc hf => by
    have ea : eA s e c = s + (8 + (e * 12 + c)) := by unfold eA; omega
    have a72 : 8 + (e * 12 + c) < 72 ∧ ¬ 8 + (e * 12 + c) = 4 ∧ ¬ 8 + (e * 12 + c) = 5 ∧ ¬ 8 + (e * 12 + c) = 6 ∧ ¬ 8 + (e * 12 + c) = 7 ∧ ¬ 8 + (e * 12 + c) = 0 := by clear hd; omega
    obtain ⟨a72, n4, n5, n6, n7, n0'⟩ := a72
    have ns : ¬ s + (8 + (e * 12 + c)) = s := fun h9 => n0' (Nat.add_eq_left.mp h9)
    rw [ea, u2_row ns, u2_row ns, u2_row ns, (u10 _ (in1 _ a72) (fun h9 => n4 (Nat.add_left_cancel h9)) (fun h9 => n5 (Nat.add_left_cancel h9)) (nb1 _ a72 n6) (nb2 _ a72 n7)).1]
    exact cpM_no (fun h9 => by have := cpP_t.mp h9; clear hd; omega)
  have rf : ∀ a f, a < 72 → ¬ (a = 4 ∧ (f = 6 ∨ f = 7)) → r' (s + a) f = mr (s + a) f := fun a f ha hf => u9 _ _ (Nat.le_add_right s a) (Nat.add_lt_add_left ha s) (fun h9 => hf ⟨Nat.add_left_cancel h9.1, h9.2⟩)
  have kd : ∀ a, a < 72 → g'.1 (s + a) = g.1 (s + a) ∧ g'.2.1 (s + a) = g.2.1 (s + a) := fun a ha => (u11 _ (in1 a ha)).2
  have z4 : ¬ s + 4 = s := fun h9 => absurd (Nat.add_eq_left.mp h9) (by decide)
  refine ⟨c1, c2, M', g', u2 (u2 (u2 m' s 6 (mi s2 6)) s 7 (mi s2 7)) s 8 (mi s2 8), l', r', ?_, ?_, hTr⟩
  · rw [eX3_copyFrom]
    simp only [wX3_copyFrom_0, wX3_copyFrom_1, wX3_copyFrom_2, wX3_copyFrom_5, wX3_copyFrom_8, wX3_copyFrom_9i, wX3_copyFrom_9r, wX3_copyFrom_9n, wX3_copyFrom_11, wX3_copyFrom_13, wX3_copyFrom_16, wX3_copyFrom_17, wX3_copyFrom_20, wX3_copyFrom_21, wX3_copyFrom_22, wX3_copyFrom_25, wX3_copyFrom_26, wX3_copyFrom_27, wX3_copyFrom_28i, wX3_copyFrom_28r, wX3_copyFrom_28n, wX3_copyFrom_31, wX3_copyFrom_35i, wX3_copyFrom_35r, wX3_copyFrom_35n, wX3_copyFrom_37, wX3_copyFrom_38, wX3_copyFrom_41, wX3_copyFrom_42, wX3_copyFrom_45, wX3_copyFrom_46, wX3_copyFrom_49, wX3_copyFrom_50, wX3_copyFrom_51, wX3_copyFrom_52, wX3_copyFrom_55, wX3_copyFrom_56, wX3_copyFrom_57, wX3_copyFrom_60i, wX3_copyFrom_60r, wX3_copyFrom_60n, wX3_copyFrom_63, wX3_copyFrom_66, wX3_copyFrom_67, wX3_copyFrom_68, wX3_copyFrom_71, wX3_copyFrom_74, wX3_copyFrom_75i, wX3_copyFrom_75r, wX3_copyFrom_75n, wX3_copyFrom_77, wX3_copyFrom_78, wX3_copyFrom_81, wX3_copyFrom_84, wX3_copyFrom_85, wX3_copyFrom_88, wX3_copyFrom_89, wX3_copyFrom_90, wX3_copyFrom_91, wX3_copyFrom_94, wX3_copyFrom_95, wX3_copyFrom_96, wX3_copyFrom_99i, wX3_copyFrom_99r, wX3_copyFrom_99n, wX3_copyFrom_102, wX3_copyFrom_105, wX3_copyFrom_106, wX3_copyFrom_109, wX3_copyFrom_110, wX3_copyFrom_113, wX3_copyFrom_116, wX3_copyFrom_117, wX3_copyFrom_118, wX3_copyFrom_121, wX3_copyFrom_124, wX3_copyFrom_125, wX3_copyFrom_126, wX3_copyFrom_129, wX3_copyFrom_132, wX3_copyFrom_133, wX3_copyFrom_134, wX3_copyFrom_137, wX3_copyFrom_140, x1, y1, p0]
    rw [f1]
    simp only [wX3_copyFrom_0, wX3_copyFrom_1, wX3_copyFrom_2, wX3_copyFrom_5, wX3_copyFrom_8, wX3_copyFrom_9i, wX3_copyFrom_9r, wX3_copyFrom_9n, wX3_copyFrom_11, wX3_copyFrom_13, wX3_copyFrom_16, wX3_copyFrom_17, wX3_copyFrom_20, wX3_copyFrom_21, wX3_copyFrom_22, wX3_copyFrom_25, wX3_copyFrom_26, wX3_copyFrom_27, wX3_copyFrom_28i, wX3_copyFrom_28r, wX3_copyFrom_28n, wX3_copyFrom_31, wX3_copyFrom_34, wX3_copyFrom_35i, wX3_copyFrom_35r, wX3_copyFrom_35n, wX3_copyFrom_37, wX3_copyFrom_38, wX3_copyFrom_41, wX3_copyFrom_42, wX3_copyFrom_45, wX3_copyFrom_46, wX3_copyFrom_49, wX3_copyFrom_50, wX3_copyFrom_51, wX3_copyFrom_52, wX3_copyFrom_55, wX3_copyFrom_56, wX3_copyFrom_57, wX3_copyFrom_60i, wX3_copyFrom_60r, wX3_copyFrom_60n, wX3_copyFrom_63, wX3_copyFrom_67, wX3_copyFrom_68, wX3_copyFrom_71, wX3_copyFrom_74, wX3_copyFrom_75i, wX3_copyFrom_75r, wX3_copyFrom_75n, wX3_copyFrom_77, wX3_copyFrom_78, wX3_copyFrom_81, wX3_copyFrom_84, wX3_copyFrom_85, wX3_copyFrom_88, wX3_copyFrom_89, wX3_copyFrom_90, wX3_copyFrom_91, wX3_copyFrom_94, wX3_copyFrom_95, wX3_copyFrom_96, wX3_copyFrom_99i, wX3_copyFrom_99r, wX3_copyFrom_99n, wX3_copyFrom_102, wX3_copyFrom_105, wX3_copyFrom_106, wX3_copyFrom_109, wX3_copyFrom_110, wX3_copyFrom_113, wX3_copyFrom_116, wX3_copyFrom_117, wX3_copyFrom_118, wX3_copyFrom_121, wX3_copyFrom_124, wX3_copyFrom_125, wX3_copyFrom_126, wX3_copyFrom_129, wX3_copyFrom_132, wX3_copyFrom_133, wX3_copyFrom_134, wX3_copyFrom_137, wX3_copyFrom_140]
    rw [f2]
    simp only [wX3_copyFrom_0, wX3_copyFrom_1, wX3_copyFrom_2, wX3_copyFrom_5, wX3_copyFrom_8, wX3_copyFrom_9i, wX3_copyFrom_9r, wX3_copyFrom_9n, wX3_copyFrom_11, wX3_copyFrom_13, wX3_copyFrom_16, wX3_copyFrom_17, wX3_copyFrom_20, wX3_copyFrom_21, wX3_copyFrom_22, wX3_copyFrom_25, wX3_copyFrom_26, wX3_copyFrom_27, wX3_copyFrom_28i, wX3_copyFrom_28r, wX3_copyFrom_28n, wX3_copyFrom_31, wX3_copyFrom_34, wX3_copyFrom_35i, wX3_copyFrom_35r, wX3_copyFrom_35n, wX3_copyFrom_37, wX3_copyFrom_38, wX3_copyFrom_41, wX3_copyFrom_42, wX3_copyFrom_45, wX3_copyFrom_46, wX3_copyFrom_49, wX3_copyFrom_50, wX3_copyFrom_51, wX3_copyFrom_52, wX3_copyFrom_55, wX3_copyFrom_56, wX3_copyFrom_57, wX3_copyFrom_60i, wX3_copyFrom_60r, wX3_copyFrom_60n, wX3_copyFrom_63, wX3_copyFrom_66, wX3_copyFrom_67, wX3_copyFrom_68, wX3_copyFrom_71, wX3_copyFrom_74, wX3_copyFrom_75i, wX3_copyFrom_75r, wX3_copyFrom_75n, wX3_copyFrom_77, wX3_copyFrom_78, wX3_copyFrom_81, wX3_copyFrom_84, wX3_copyFrom_85, wX3_copyFrom_88, wX3_copyFrom_89, wX3_copyFrom_90, wX3_copyFrom_91, wX3_copyFrom_94, wX3_copyFrom_95, wX3_copyFrom_96, wX3_copyFrom_99i, wX3_copyFrom_99r, wX3_copyFrom_99n, wX3_copyFrom_102, wX3_copyFrom_106, wX3_copyFrom_109, wX3_copyFrom_110, wX3_copyFrom_113, wX3_copyFrom_116, wX3_copyFrom_117, wX3_copyFrom_118, wX3_copyFrom_121, wX3_copyFrom_124, wX3_copyFrom_125, wX3_copyFrom_126, wX3_copyFrom_129, wX3_copyFrom_132, wX3_copyFrom_133, wX3_copyFrom_134, wX3_copyFrom_137, wX3_copyFrom_140, x1, y1, c3, p3]
    rw [f3]
    simp only [wX3_copyFrom_0, wX3_copyFrom_1, wX3_copyFrom_2, wX3_copyFrom_5, wX3_copyFrom_8, wX3_copyFrom_9i, wX3_copyFrom_9r, wX3_copyFrom_9n, wX3_copyFrom_11, wX3_copyFrom_13, wX3_copyFrom_16, wX3_copyFrom_17, wX3_copyFrom_20, wX3_copyFrom_21, wX3_copyFrom_22, wX3_copyFrom_25, wX3_copyFrom_26, wX3_copyFrom_27, wX3_copyFrom_28i, wX3_copyFrom_28r, wX3_copyFrom_28n, wX3_copyFrom_31, wX3_copyFrom_34, wX3_copyFrom_35i, wX3_copyFrom_35r, wX3_copyFrom_35n, wX3_copyFrom_37, wX3_copyFrom_38, wX3_copyFrom_41, wX3_copyFrom_42, wX3_copyFrom_45, wX3_copyFrom_46, wX3_copyFrom_49, wX3_copyFrom_50, wX3_copyFrom_51, wX3_copyFrom_52, wX3_copyFrom_55, wX3_copyFrom_56, wX3_copyFrom_57, wX3_copyFrom_60i, wX3_copyFrom_60r, wX3_copyFrom_60n, wX3_copyFrom_63, wX3_copyFrom_66, wX3_copyFrom_67, wX3_copyFrom_68, wX3_copyFrom_71, wX3_copyFrom_74, wX3_copyFrom_75i, wX3_copyFrom_75r, wX3_copyFrom_75n, wX3_copyFrom_77, wX3_copyFrom_78, wX3_copyFrom_81, wX3_copyFrom_84, wX3_copyFrom_85, wX3_copyFrom_88, wX3_copyFrom_89, wX3_copyFrom_90, wX3_copyFrom_91, wX3_copyFrom_94, wX3_copyFrom_95, wX3_copyFrom_96, wX3_copyFrom_99i, wX3_copyFrom_99r, wX3_copyFrom_99n, wX3_copyFrom_102, wX3_copyFrom_105, wX3_copyFrom_106, wX3_copyFrom_109, wX3_copyFrom_110, wX3_copyFrom_113, wX3_copyFrom_116, wX3_copyFrom_117, wX3_copyFrom_118, wX3_copyFrom_121, wX3_copyFrom_124, wX3_copyFrom_125, wX3_copyFrom_126, wX3_copyFrom_129, wX3_copyFrom_132, wX3_copyFrom_133, wX3_copyFrom_134, wX3_copyFrom_137, wX3_copyFrom_140, x1, y1, x5, y5, x12, cs_0, cs_i, cs_r, u1, aR_v, kS, kS2, ms2, e5]
  · refine ⟨⟨⟨kS, (rf 0 1 (by decide) (by decide)).trans x2, (rf 0 2 (by decide) (by decide)).trans x3, (rf 0 4 (by decide) (by decide)).trans x4, (rf 0 5 (by decide) (by decide)).trans x5⟩, ⟨(kd 1 (by decide)).1.trans x6, (kd 1 (by decide)).2.trans x7, (kd 2 (by decide)).1.trans x8, (kd 2 (by decide)).2.trans x9, (kd 3 (by decide)).1.trans x10, (kd 3 (by decide)).2.trans x11⟩, ⟨(kd 4 (by decide)).1.trans x12, (rf 4 4 (by decide) (by decide)).trans x13, (kd 5 (by decide)).1.trans x14, (kd 5 (by decide)).2.trans x15⟩, fun i hi => ?_, fun i hi => ?_⟩, u2', ⟨fun j hk => ?_, fun e' c' he' hc' => ?_, fun e' c' he' hc' => ?_⟩, ⟨k6, ?_, by rw [Nat.zero_add]; exact u3, by decide⟩, fun i hi => ?_, fun i hi => absurd hi (Nat.not_lt_zero i)⟩
    · have hk := (kd (8 + i) (by clear hd; omega)).1
      rw [← Nat.add_assoc] at hk
      exact ⟨hk.trans (x16 i hi).1, (rf 2 i (by decide) (fun h9 => absurd h9.1 (by decide))).trans (x16 i hi).2⟩
    · have hk := (kd (32 + i) (by clear hd; omega)).1
      rw [← Nat.add_assoc] at hk
      exact ⟨hk.trans (x17 i hi).1, (rf 3 i (by decide) (fun h9 => absurd h9.1 (by decide))).trans (x17 i hi).2⟩
    · rw [fin (lA j) (lF j) (lA_ok j hk.1).1 (pF_j hk)]
      exact k3 j hk
    · have ea : ∀ s, eA s e' c' = s + (8 + (e' * 12 + c')) := fun s => by unfold eA; clear hd; omega
      have := k4 e' c' he' hc'
      rw [ea s, fin (8 + (e' * 12 + c')) 7 (by clear hd; omega) (Or.inl (cpP_t.mpr (by clear hd; omega))), ← ea s2]
      exact this
    · rw [cx e' c' 0 he' hc' (by decide), cx e' c' 1 he' hc' (by decide)]
      exact h3 e' c' he' hc'
    · rw [u2_row z4, u2_row z4, u2_row z4, Nat.zero_add]; exact u5
    · rw [u2_row nc1, u2_row nc1, u2_row nc1, u2_row nc2, u2_row nc2, u2_row nc2, Nat.zero_add, u7 i hi, u8 i hi, cpM_out oa1, cpM_out oa2]
      have := k10 i hi
      rw [Nat.zero_add] at this
      exact this
end CCP3
