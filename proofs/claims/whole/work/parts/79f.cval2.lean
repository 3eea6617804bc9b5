/-! the class: values, the public calls -/
section CVL2
variable {s s2 off N n n0 a1 a2 b1 b2 L M e c w k k0 v j f a b d o t D p i C J B E K from_ cnt : Nat} {r r' r1 : Nat → Int32} {q q' : Nat → Int64} {g g' : Gh} {mi mi' m' : MI} {ml ml' l' : ML} {mr mr' : MR} {x1 x2 Ln pm : Nat → Nat} {S : Nat → PS} {P P' : PS} {X : Nat → Nat → Nat} {x y z : Int32}
theorem clr6 (hs : ∃ s, s < 8 ∧ y = nI s) : (y = nI 6 ∨ y = nI 7) ↔ nI 6 ≤ y := by
  obtain ⟨s, h1, rfl⟩ := hs
  rw [nI_leI (by decide) (by omega), nI_eq (by omega) (by decide), nI_eq (by omega) (by decide)]
  omega
theorem c_belongs (h : CS s off N n a1 a2 L r q g mi mr) (hst : ∀ e, e < 2 → ∃ s, s < 8 ∧ r (eI e c 0) = nI s) (hc : c < 12) (hw : w < 5) : callT (d + 2) mX3_belongsTo [.int (nI w), .ref (eA s 0 c), .ref (eA s 1 c)] (g, mi, ml, mr) = some (.inl (some (.int (bI (cB r w c = true)))), g, mi, ml, mr) := by
  have kA := h.kE (e := 0) (by decide) hc
  have kB := h.kE (e := 1) (by decide) hc
  have a0 : mi (eA s 0 c) 2 = r (eI 0 c 0) := h.ev (by decide) hc (w := 0) (by decide) rfl
  have b0 : mi (eA s 1 c) 2 = r (eI 1 c 0) := h.ev (by decide) hc (w := 0) (by decide) rfl
  have a3 : mi (eA s 0 c) 3 = r (eI 0 c 1) := h.ev (by decide) hc (w := 1) (by decide) rfl
  have b3 : mi (eA s 1 c) 3 = r (eI 1 c 1) := h.ev (by decide) hc (w := 1) (by decide) rfl
  have a6 : mi (eA s 0 c) 6 = r (eI 0 c 4) := h.ev (by decide) hc (w := 4) (by decide) rfl
  have b6 : mi (eA s 1 c) 6 = r (eI 1 c 4) := h.ev (by decide) hc (w := 4) (by decide) rfl
  have x4 : (nI 4).toInt < 0 ∨ 3 < (nI 4).toInt := by decide
  rw [eX3_belongsTo]
  have hw' : w = 0 ∨ w = 1 ∨ w = 2 ∨ w = 3 ∨ w = 4 := by omega
  rcases hw' with rfl | rfl | rfl | rfl | rfl
  · have hB : cB r 0 c = (decide (r (eI 0 c 0) = nI 0) && decide (r (eI 1 c 0) = nI 0)) := rfl
    rw [hB]
    by_cases p1 : r (eI 0 c 0) = nI 0 <;> by_cases p2 : r (eI 1 c 0) = nI 0 <;> simp only [wX3_belongsTo_0, wX3_belongsTo_1_0, wX3_belongsTo_1_1, wX3_belongsTo_1_2, wX3_belongsTo_1_3, wX3_belongsTo_1d, wX3_belongsTo_32, wX3_belongsTo_33, wX3_belongsTo_36, wX3_belongsTo_39, wX3_belongsTo_40, wX3_belongsTo_43, wX3_belongsTo_46, wX3_belongsTo_47, wX3_belongsTo_50, wX3_belongsTo_51, wX3_belongsTo_52, wX3_belongsTo_53, wX3_belongsTo_56, wX3_belongsTo_57, wX3_belongsTo_60, wX3_belongsTo_61, wX3_belongsTo_64, wX3_belongsTo_65, wX3_belongsTo_68, wX3_belongsTo_69, wX3_belongsTo_72, wX3_belongsTo_73, wX3_belongsTo_76, wX3_belongsTo_79, wX3_belongsTo_80, wX3_belongsTo_83, wX3_belongsTo_84, wX3_belongsTo_85, wX3_belongsTo_86, wX3_belongsTo_89, wX3_belongsTo_90, wX3_belongsTo_93, wX3_belongsTo_94, wX3_belongsTo_97, wX3_belongsTo_98, wX3_belongsTo_101, wX3_belongsTo_102, wX3_belongsTo_105, wX3_belongsTo_106, wX3_belongsTo_109, wX3_belongsTo_112, wX3_belongsTo_113, wX3_belongsTo_116, wX3_belongsTo_117, wX3_belongsTo_118, wX3_belongsTo_119, wX3_belongsTo_122, wX3_belongsTo_125, wX3_belongsTo_126, wX3_belongsTo_129, wX3_belongsTo_132, wX3_belongsTo_133, wX3_belongsTo_136, wX3_belongsTo_137, wX3_belongsTo_138, wX3_belongsTo_139, wX3_belongsTo_142, wX3_belongsTo_145, wX3_belongsTo_146, wX3_belongsTo_149, wX3_belongsTo_152, wX3_belongsTo_153, wX3_belongsTo_156, wX3_belongsTo_157, kA, kB, a0, b0, p1, p2, if_true, if_false, true_or, or_true, decide_true, decide_false, Bool.and_true, Bool.and_false, Bool.true_and, Bool.false_and, bI, Bool.false_eq_true]
  · have hB : cB r 1 c = (decide (r (eI 0 c 0) = nI 4) && (decide (r (eI 1 c 0) = nI 4) && decide (r (eI 0 c 1) = r (eI 1 c 1)))) := rfl
    rw [hB]
    by_cases p1 : r (eI 0 c 0) = nI 4 <;> by_cases p2 : r (eI 1 c 0) = nI 4 <;> by_cases p3 : r (eI 0 c 1) = r (eI 1 c 1) <;> simp only [wX3_belongsTo_0, wX3_belongsTo_1_0, wX3_belongsTo_1_1, wX3_belongsTo_1_2, wX3_belongsTo_1_3, wX3_belongsTo_1d, wX3_belongsTo_32, wX3_belongsTo_33, wX3_belongsTo_36, wX3_belongsTo_39, wX3_belongsTo_40, wX3_belongsTo_43, wX3_belongsTo_46, wX3_belongsTo_47, wX3_belongsTo_50, wX3_belongsTo_51, wX3_belongsTo_52, wX3_belongsTo_53, wX3_belongsTo_56, wX3_belongsTo_57, wX3_belongsTo_60, wX3_belongsTo_61, wX3_belongsTo_64, wX3_belongsTo_65, wX3_belongsTo_68, wX3_belongsTo_69, wX3_belongsTo_72, wX3_belongsTo_73, wX3_belongsTo_76, wX3_belongsTo_79, wX3_belongsTo_80, wX3_belongsTo_83, wX3_belongsTo_84, wX3_belongsTo_85, wX3_belongsTo_86, wX3_belongsTo_89, wX3_belongsTo_90, wX3_belongsTo_93, wX3_belongsTo_94, wX3_belongsTo_97, wX3_belongsTo_98, wX3_belongsTo_101, wX3_belongsTo_102, wX3_belongsTo_105, wX3_belongsTo_106, wX3_belongsTo_109, wX3_belongsTo_112, wX3_belongsTo_113, wX3_belongsTo_116, wX3_belongsTo_117, wX3_belongsTo_118, wX3_belongsTo_119, wX3_belongsTo_122, wX3_belongsTo_125, wX3_belongsTo_126, wX3_belongsTo_129, wX3_belongsTo_132, wX3_belongsTo_133, wX3_belongsTo_136, wX3_belongsTo_137, wX3_belongsTo_138, wX3_belongsTo_139, wX3_belongsTo_142, wX3_belongsTo_145, wX3_belongsTo_146, wX3_belongsTo_149, wX3_belongsTo_152, wX3_belongsTo_153, wX3_belongsTo_156, wX3_belongsTo_157, kA, kB, a0, b0, a3, b3, p1, p2, p3, if_true, if_false, true_or, or_true, decide_true, decide_false, Bool.and_true, Bool.and_false, Bool.true_and, Bool.false_and, bI, Bool.false_eq_true]
  · have hB : cB r 2 c = (!decide (r (eI 0 c 1) = -1) && (!decide (r (eI 1 c 1) = -1) && !decide (r (eI 0 c 1) = r (eI 1 c 1)))) := rfl
    rw [hB]
    by_cases p1 : r (eI 0 c 1) = -1 <;> by_cases p2 : r (eI 1 c 1) = -1 <;> by_cases p3 : r (eI 0 c 1) = r (eI 1 c 1) <;> simp only [wX3_belongsTo_0, wX3_belongsTo_1_0, wX3_belongsTo_1_1, wX3_belongsTo_1_2, wX3_belongsTo_1_3, wX3_belongsTo_1d, wX3_belongsTo_32, wX3_belongsTo_33, wX3_belongsTo_36, wX3_belongsTo_39, wX3_belongsTo_40, wX3_belongsTo_43, wX3_belongsTo_46, wX3_belongsTo_47, wX3_belongsTo_50, wX3_belongsTo_51, wX3_belongsTo_52, wX3_belongsTo_53, wX3_belongsTo_56, wX3_belongsTo_57, wX3_belongsTo_60, wX3_belongsTo_61, wX3_belongsTo_64, wX3_belongsTo_65, wX3_belongsTo_68, wX3_belongsTo_69, wX3_belongsTo_72, wX3_belongsTo_73, wX3_belongsTo_76, wX3_belongsTo_79, wX3_belongsTo_80, wX3_belongsTo_83, wX3_belongsTo_84, wX3_belongsTo_85, wX3_belongsTo_86, wX3_belongsTo_89, wX3_belongsTo_90, wX3_belongsTo_93, wX3_belongsTo_94, wX3_belongsTo_97, wX3_belongsTo_98, wX3_belongsTo_101, wX3_belongsTo_102, wX3_belongsTo_105, wX3_belongsTo_106, wX3_belongsTo_109, wX3_belongsTo_112, wX3_belongsTo_113, wX3_belongsTo_116, wX3_belongsTo_117, wX3_belongsTo_118, wX3_belongsTo_119, wX3_belongsTo_122, wX3_belongsTo_125, wX3_belongsTo_126, wX3_belongsTo_129, wX3_belongsTo_132, wX3_belongsTo_133, wX3_belongsTo_136, wX3_belongsTo_137, wX3_belongsTo_138, wX3_belongsTo_139, wX3_belongsTo_142, wX3_belongsTo_145, wX3_belongsTo_146, wX3_belongsTo_149, wX3_belongsTo_152, wX3_belongsTo_153, wX3_belongsTo_156, wX3_belongsTo_157, kA, kB, a3, b3, p1, p2, p3, if_true, if_false, true_or, or_true, decide_true, decide_false, Bool.and_true, Bool.and_false, Bool.true_and, Bool.false_and, bI, Bool.false_eq_true, Bool.not_true, Bool.not_false]
  · have hB : cB r 3 c = (decide (nI 6 ≤ r (eI 0 c 0)) || decide (nI 6 ≤ r (eI 1 c 0))) := rfl
    rw [hB]
    have cA := clr6 (hst 0 (by decide))
    have cB := clr6 (hst 1 (by decide))
    have eA' : bI (r (eI 0 c 0) = nI 6 ∨ r (eI 0 c 0) = nI 7) = bI (nI 6 ≤ r (eI 0 c 0)) := by
      by_cases p : nI 6 ≤ r (eI 0 c 0)
      · rw [bI_t p, bI_t (cA.mpr p)]
      · rw [bI_f p, bI_f (fun h9 => p (cA.mp h9))]
    have eB' : bI (r (eI 1 c 0) = nI 6 ∨ r (eI 1 c 0) = nI 7) = bI (nI 6 ≤ r (eI 1 c 0)) := by
      by_cases p : nI 6 ≤ r (eI 1 c 0)
      · rw [bI_t p, bI_t (cB.mpr p)]
      · rw [bI_f p, bI_f (fun h9 => p (cB.mp h9))]
    by_cases p1 : nI 6 ≤ r (eI 0 c 0)
    · simp only [wX3_belongsTo_0, wX3_belongsTo_1_0, wX3_belongsTo_1_1, wX3_belongsTo_1_2, wX3_belongsTo_1_3, wX3_belongsTo_1d, wX3_belongsTo_32, wX3_belongsTo_33, wX3_belongsTo_36, wX3_belongsTo_39, wX3_belongsTo_40, wX3_belongsTo_43, wX3_belongsTo_46, wX3_belongsTo_47, wX3_belongsTo_50, wX3_belongsTo_51, wX3_belongsTo_52, wX3_belongsTo_53, wX3_belongsTo_56, wX3_belongsTo_57, wX3_belongsTo_60, wX3_belongsTo_61, wX3_belongsTo_64, wX3_belongsTo_65, wX3_belongsTo_68, wX3_belongsTo_69, wX3_belongsTo_72, wX3_belongsTo_73, wX3_belongsTo_76, wX3_belongsTo_79, wX3_belongsTo_80, wX3_belongsTo_83, wX3_belongsTo_84, wX3_belongsTo_85, wX3_belongsTo_86, wX3_belongsTo_89, wX3_belongsTo_90, wX3_belongsTo_93, wX3_belongsTo_94, wX3_belongsTo_97, wX3_belongsTo_98, wX3_belongsTo_101, wX3_belongsTo_102, wX3_belongsTo_105, wX3_belongsTo_106, wX3_belongsTo_109, wX3_belongsTo_112, wX3_belongsTo_113, wX3_belongsTo_116, wX3_belongsTo_117, wX3_belongsTo_118, wX3_belongsTo_119, wX3_belongsTo_122, wX3_belongsTo_125, wX3_belongsTo_126, wX3_belongsTo_129, wX3_belongsTo_132, wX3_belongsTo_133, wX3_belongsTo_136, wX3_belongsTo_137, wX3_belongsTo_138, wX3_belongsTo_139, wX3_belongsTo_142, wX3_belongsTo_145, wX3_belongsTo_146, wX3_belongsTo_149, wX3_belongsTo_152, wX3_belongsTo_153, wX3_belongsTo_156, wX3_belongsTo_157, kA, kB, cs_0, c_isClearing kA, c_isClearing kB, a0, b0, eA', eB', bI_t p1, aR_1, n1_0, if_true, if_false, true_or, or_true, p1, decide_true, Bool.true_or]
      rfl
    · by_cases p2 : nI 6 ≤ r (eI 1 c 0)
      · simp only [wX3_belongsTo_0, wX3_belongsTo_1_0, wX3_belongsTo_1_1, wX3_belongsTo_1_2, wX3_belongsTo_1_3, wX3_belongsTo_1d, wX3_belongsTo_32, wX3_belongsTo_33, wX3_belongsTo_36, wX3_belongsTo_39, wX3_belongsTo_40, wX3_belongsTo_43, wX3_belongsTo_46, wX3_belongsTo_47, wX3_belongsTo_50, wX3_belongsTo_51, wX3_belongsTo_52, wX3_belongsTo_53, wX3_belongsTo_56, wX3_belongsTo_57, wX3_belongsTo_60, wX3_belongsTo_61, wX3_belongsTo_64, wX3_belongsTo_65, wX3_belongsTo_68, wX3_belongsTo_69, wX3_belongsTo_72, wX3_belongsTo_73, wX3_belongsTo_76, wX3_belongsTo_79, wX3_belongsTo_80, wX3_belongsTo_83, wX3_belongsTo_84, wX3_belongsTo_85, wX3_belongsTo_86, wX3_belongsTo_89, wX3_belongsTo_90, wX3_belongsTo_93, wX3_belongsTo_94, wX3_belongsTo_97, wX3_belongsTo_98, wX3_belongsTo_101, wX3_belongsTo_102, wX3_belongsTo_105, wX3_belongsTo_106, wX3_belongsTo_109, wX3_belongsTo_112, wX3_belongsTo_113, wX3_belongsTo_116, wX3_belongsTo_117, wX3_belongsTo_118, wX3_belongsTo_119, wX3_belongsTo_122, wX3_belongsTo_125, wX3_belongsTo_126, wX3_belongsTo_129, wX3_belongsTo_132, wX3_belongsTo_133, wX3_belongsTo_136, wX3_belongsTo_137, wX3_belongsTo_138, wX3_belongsTo_139, wX3_belongsTo_142, wX3_belongsTo_145, wX3_belongsTo_146, wX3_belongsTo_149, wX3_belongsTo_152, wX3_belongsTo_153, wX3_belongsTo_156, wX3_belongsTo_157, kA, kB, cs_0, c_isClearing kA, c_isClearing kB, a0, b0, eA', eB', bI_f p1, bI_t p2, aR_1, n1_0, if_true, if_false, true_or, or_true, p1, p2, decide_true, decide_false, Bool.or_true]
        rfl
      · simp only [wX3_belongsTo_0, wX3_belongsTo_1_0, wX3_belongsTo_1_1, wX3_belongsTo_1_2, wX3_belongsTo_1_3, wX3_belongsTo_1d, wX3_belongsTo_32, wX3_belongsTo_33, wX3_belongsTo_36, wX3_belongsTo_39, wX3_belongsTo_40, wX3_belongsTo_43, wX3_belongsTo_46, wX3_belongsTo_47, wX3_belongsTo_50, wX3_belongsTo_51, wX3_belongsTo_52, wX3_belongsTo_53, wX3_belongsTo_56, wX3_belongsTo_57, wX3_belongsTo_60, wX3_belongsTo_61, wX3_belongsTo_64, wX3_belongsTo_65, wX3_belongsTo_68, wX3_belongsTo_69, wX3_belongsTo_72, wX3_belongsTo_73, wX3_belongsTo_76, wX3_belongsTo_79, wX3_belongsTo_80, wX3_belongsTo_83, wX3_belongsTo_84, wX3_belongsTo_85, wX3_belongsTo_86, wX3_belongsTo_89, wX3_belongsTo_90, wX3_belongsTo_93, wX3_belongsTo_94, wX3_belongsTo_97, wX3_belongsTo_98, wX3_belongsTo_101, wX3_belongsTo_102, wX3_belongsTo_105, wX3_belongsTo_106, wX3_belongsTo_109, wX3_belongsTo_112, wX3_belongsTo_113, wX3_belongsTo_116, wX3_belongsTo_117, wX3_belongsTo_118, wX3_belongsTo_119, wX3_belongsTo_122, wX3_belongsTo_125, wX3_belongsTo_126, wX3_belongsTo_129, wX3_belongsTo_132, wX3_belongsTo_133, wX3_belongsTo_136, wX3_belongsTo_137, wX3_belongsTo_138, wX3_belongsTo_139, wX3_belongsTo_142, wX3_belongsTo_145, wX3_belongsTo_146, wX3_belongsTo_149, wX3_belongsTo_152, wX3_belongsTo_153, wX3_belongsTo_156, wX3_belongsTo_157, kA, kB, cs_0, c_isClearing kA, c_isClearing kB, a0, b0, eA', eB', bI_f p1, bI_f p2, aR_1, n1_0, if_true, if_false, true_or, or_true, p1, p2, decide_false, Bool.or_false]
        rfl
  · have hB : cB r 4 c = (!decide (r (eI 0 c 4) = nI 0) || !decide (r (eI 1 c 4) = nI 0)) := rfl
    rw [hB]
    by_cases p1 : r (eI 0 c 4) = nI 0 <;> by_cases p2 : r (eI 1 c 4) = nI 0 <;> simp only [wX3_belongsTo_0, wX3_belongsTo_1_0, wX3_belongsTo_1_1, wX3_belongsTo_1_2, wX3_belongsTo_1_3, wX3_belongsTo_1d, wX3_belongsTo_32, wX3_belongsTo_33, wX3_belongsTo_36, wX3_belongsTo_39, wX3_belongsTo_40, wX3_belongsTo_43, wX3_belongsTo_46, wX3_belongsTo_47, wX3_belongsTo_50, wX3_belongsTo_51, wX3_belongsTo_52, wX3_belongsTo_53, wX3_belongsTo_56, wX3_belongsTo_57, wX3_belongsTo_60, wX3_belongsTo_61, wX3_belongsTo_64, wX3_belongsTo_65, wX3_belongsTo_68, wX3_belongsTo_69, wX3_belongsTo_72, wX3_belongsTo_73, wX3_belongsTo_76, wX3_belongsTo_79, wX3_belongsTo_80, wX3_belongsTo_83, wX3_belongsTo_84, wX3_belongsTo_85, wX3_belongsTo_86, wX3_belongsTo_89, wX3_belongsTo_90, wX3_belongsTo_93, wX3_belongsTo_94, wX3_belongsTo_97, wX3_belongsTo_98, wX3_belongsTo_101, wX3_belongsTo_102, wX3_belongsTo_105, wX3_belongsTo_106, wX3_belongsTo_109, wX3_belongsTo_112, wX3_belongsTo_113, wX3_belongsTo_116, wX3_belongsTo_117, wX3_belongsTo_118, wX3_belongsTo_119, wX3_belongsTo_122, wX3_belongsTo_125, wX3_belongsTo_126, wX3_belongsTo_129, wX3_belongsTo_132, wX3_belongsTo_133, wX3_belongsTo_136, wX3_belongsTo_137, wX3_belongsTo_138, wX3_belongsTo_139, wX3_belongsTo_142, wX3_belongsTo_145, wX3_belongsTo_146, wX3_belongsTo_149, wX3_belongsTo_152, wX3_belongsTo_153, wX3_belongsTo_156, wX3_belongsTo_157, kA, kB, x4, a6, b6, p1, p2, if_true, if_false, true_or, or_true, decide_true, decide_false, Bool.or_true, Bool.or_false, Bool.true_or, Bool.false_or, bI, Bool.false_eq_true, Bool.not_true, Bool.not_false]
theorem cc_loop (h : CS s off N n a1 a2 L r q g mi mr) (hst : ∀ e c, e < 2 → c < 12 → ∃ s, s < 8 ∧ r (eI e c 0) = nI s) (hw : w < 5) (h0 : r 0 = nI C) (hC : C ≤ 12) : ∀ j c, c + j = C → R (d + 2) mX3_countCircuits 4 [.ref s, .int (nI w), .int (nI (cO r w c)), .int (nI c)] [] g mi ml mr = some (.inl (some (.int (nI (cO r w C)))), g, mi, ml, mr) := by
  have c1 := h.1.1.1
  have v0 : mi s 0 = nI C := (h.lv (j := 0) (a := s) (f := 0) (by decide) (by decide) rfl rfl).trans h0
  intro j
  induction j with
  | zero =>
    intro c hc
    have : c = C := by omega
    subst this
    rw [wX3_countCircuits_4]
    simp only [wX3_countCircuits_0, wX3_countCircuits_1i, wX3_countCircuits_1r, wX3_countCircuits_1n, wX3_countCircuits_2, wX3_countCircuits_3i, wX3_countCircuits_3r, wX3_countCircuits_3n, wX3_countCircuits_5, wX3_countCircuits_6, wX3_countCircuits_9, wX3_countCircuits_12, wX3_countCircuits_13, wX3_countCircuits_14, wX3_countCircuits_15, wX3_countCircuits_16, wX3_countCircuits_19, wX3_countCircuits_20, wX3_countCircuits_21, wX3_countCircuits_22, wX3_countCircuits_25, wX3_countCircuits_28, wX3_countCircuits_31i, wX3_countCircuits_31r, wX3_countCircuits_31n, wX3_countCircuits_34i, wX3_countCircuits_34r, wX3_countCircuits_34n, wX3_countCircuits_37, wX3_countCircuits_40, wX3_countCircuits_41, c1, v0, Int32.le_refl, if_true]
  | succ j ih =>
    intro c hc
    have cc : ¬ nI C ≤ nI c := nI_ge (by omega) (by omega)
    have hc12 : c < 12 := by omega
    have e1 := ih (c + 1) (by omega)
    have e2 : cO r w (c + 1) = cO r w c + (if cB r w c = true then 1 else 0) := rfl
    rw [e2] at e1
    have hbe := c_belongs (d := d) (ml := ml) (w := w) h (fun e he => hst e c he hc12) hc12 hw
    rw [wX3_countCircuits_4]
    by_cases p : cB r w c = true
    · rw [if_pos p] at e1
      rw [bI_t p] at hbe
      simp only [wX3_countCircuits_0, wX3_countCircuits_1i, wX3_countCircuits_1r, wX3_countCircuits_1n, wX3_countCircuits_2, wX3_countCircuits_3i, wX3_countCircuits_3r, wX3_countCircuits_3n, wX3_countCircuits_5, wX3_countCircuits_6, wX3_countCircuits_9, wX3_countCircuits_12, wX3_countCircuits_13, wX3_countCircuits_14, wX3_countCircuits_15, wX3_countCircuits_16, wX3_countCircuits_19, wX3_countCircuits_20, wX3_countCircuits_21, wX3_countCircuits_22, wX3_countCircuits_25, wX3_countCircuits_28, wX3_countCircuits_31i, wX3_countCircuits_31r, wX3_countCircuits_31n, wX3_countCircuits_34i, wX3_countCircuits_34r, wX3_countCircuits_34n, wX3_countCircuits_37, wX3_countCircuits_40, wX3_countCircuits_41, c1, v0, cc, if_false, cs_0, cs_i, cs_r, c_endAt h (show 0 < 2 by decide) hc12, c_endAt h (show 1 < 2 by decide) hc12, aR_1, hbe, n1_0, nI_add]
      exact e1
    · rw [if_neg p] at e1
      rw [bI_f p] at hbe
      simp only [wX3_countCircuits_0, wX3_countCircuits_1i, wX3_countCircuits_1r, wX3_countCircuits_1n, wX3_countCircuits_2, wX3_countCircuits_3i, wX3_countCircuits_3r, wX3_countCircuits_3n, wX3_countCircuits_5, wX3_countCircuits_6, wX3_countCircuits_9, wX3_countCircuits_12, wX3_countCircuits_13, wX3_countCircuits_14, wX3_countCircuits_15, wX3_countCircuits_16, wX3_countCircuits_19, wX3_countCircuits_20, wX3_countCircuits_21, wX3_countCircuits_22, wX3_countCircuits_25, wX3_countCircuits_28, wX3_countCircuits_31i, wX3_countCircuits_31r, wX3_countCircuits_31n, wX3_countCircuits_34i, wX3_countCircuits_34r, wX3_countCircuits_34n, wX3_countCircuits_37, wX3_countCircuits_40, wX3_countCircuits_41, c1, v0, cc, if_false, cs_0, cs_i, cs_r, c_endAt h (show 0 < 2 by decide) hc12, c_endAt h (show 1 < 2 by decide) hc12, aR_1, hbe, if_true, nI_add]
      exact e1
theorem c_countC (h : CS s off N n a1 a2 L r q g mi mr) (hst : ∀ e c, e < 2 → c < 12 → ∃ s, s < 8 ∧ r (eI e c 0) = nI s) (hw : w < 5) (h0 : r 0 = nI C) (hC : C ≤ 12) : callT (d + 3) mX3_countCircuits [.ref s, .int (nI w)] (g, mi, ml, mr) = some (.inl (some (.int (nI (cO r w C)))), g, mi, ml, mr) := by
  rw [eX3_countCircuits]
  simp only [wX3_countCircuits_0, wX3_countCircuits_1i, wX3_countCircuits_1r, wX3_countCircuits_1n, wX3_countCircuits_2, wX3_countCircuits_3i, wX3_countCircuits_3r, wX3_countCircuits_3n, wX3_countCircuits_5, wX3_countCircuits_6, wX3_countCircuits_9, wX3_countCircuits_12, wX3_countCircuits_13, wX3_countCircuits_14, wX3_countCircuits_15, wX3_countCircuits_16, wX3_countCircuits_19, wX3_countCircuits_20, wX3_countCircuits_21, wX3_countCircuits_22, wX3_countCircuits_25, wX3_countCircuits_28, wX3_countCircuits_31i, wX3_countCircuits_31r, wX3_countCircuits_31n, wX3_countCircuits_34i, wX3_countCircuits_34r, wX3_countCircuits_34n, wX3_countCircuits_37, wX3_countCircuits_40, wX3_countCircuits_41]
  exact cc_loop h hst hw h0 hC C 0 (by omega)
theorem k_time (h : TG E K S (r, q) pm x1 x2 Ln g mi mr) : callT (d + 1) mX4_time [.ref 2] (g, mi, ml, mr) = some (.inl (some (.int (r 2))), g, mi, ml, mr) := by
  obtain ⟨k1, k2, k3, k4, k5⟩ := h.k2
  have v0 : mi (Ad (pm 3) + 4) 0 = r 2 := h.cs.lv (j := 2) (by decide) (by decide) rfl rfl
  rw [eX4_time]
  simp only [wX4_time_0, wX4_time_1, wX4_time_4, wX4_time_7, wX4_time_10, k1, k2, k3, k4, k5, v0]
theorem k_calls (h : TG E K S (r, q) pm x1 x2 Ln g mi mr) : callT (d + 1) mX4_calls [.ref 2] (g, mi, ml, mr) = some (.inl (some (.int (r 5))), g, mi, ml, mr) := by
  obtain ⟨k1, k2, k3, k4, k5⟩ := h.k2
  have v0 : mi (Ad (pm 3)) 3 = r 5 := h.cs.lv (j := 5) (a := Ad (pm 3)) (by decide) (by decide) rfl rfl
  rw [eX4_calls]
  simp only [wX4_calls_0, wX4_calls_1, wX4_calls_4, wX4_calls_7, k1, k2, k3, v0]
theorem k_messages (h : TG E K S (r, q) pm x1 x2 Ln g mi mr) : callT (d + 1) mX4_messages [.ref 2] (g, mi, ml, mr) = some (.inl (some (.int (r 11))), g, mi, ml, mr) := by
  obtain ⟨k1, k2, k3, k4, k5⟩ := h.k2
  have v5 : mi (Ad (pm 3) + 4) 5 = r 11 := by
    obtain ⟨d6, d7, -⟩ := h.cs.2.2.2.1
    rw [d7, Nat.zero_add]; exact d6.symm
  rw [eX4_messages]
  simp only [wX4_messages_0, wX4_messages_1, wX4_messages_4, wX4_messages_7, wX4_messages_10, k1, k2, k3, k4, k5, v5]
theorem k_total1 (h : TG E K S (r, q) pm x1 x2 Ln g mi mr) (hw : w < 5) : callT (d + 2) mX4_total [.ref 2, .int (nI w)] (g, mi, ml, mr) = some (.inl (some (.int (r (6 + w)))), g, mi, ml, mr) := by
  obtain ⟨k1, k2, k3, k4, k5⟩ := h.k2
  rw [eX4_total]
  simp only [wX4_total_0, wX4_total_1, wX4_total_2, wX4_total_3, wX4_total_6, wX4_total_7, wX4_total_10, wX4_total_11, wX4_total_14, k1, k2, k3, cs_0, cs_i, cs_r, c_reqW1 hw (show 5 < 100 by decide), aR_v, aR_1, c_totalOf h.cs hw]
theorem k_total0 (h : TG (E + 1) K S (r, q) pm x1 x2 Ln g mi mr) (hz : ¬ (nI 0 ≤ z ∧ z ≤ nI 4)) : CTx E K S (r, q) g mi ml mr (callT (d + 8) mX4_total [.ref 2, .int z] (g, mi, ml, mr)) "java/lang/IllegalArgumentException" := by
  obtain ⟨⟨h1, h2⟩, -⟩ := h.thr
  have k1 := h.k2.1
  have hH : mH mX4_total = [] := rfl
  rw [eX4_total]
  simp only [wX4_total_0, wX4_total_1, wX4_total_2, wX4_total_3, wX4_total_6, wX4_total_7, wX4_total_10, wX4_total_11, wX4_total_14, k1, cs_0, cs_i, cs_r, c_reqW0 (show 4 < 100 by decide) hz h1 h2, aR_x hH]
  exact h.ctx
theorem k_count1 (h : TG E K S (r, q) pm x1 x2 Ln g mi mr) (hJ : JI X B N t D r q) (h0 : r 0 = nI C) (hC : C ≤ 12) (hw : w < 5) : callT (d + 4) mX4_count [.ref 2, .int (nI w)] (g, mi, ml, mr) = some (.inl (some (.int (nI (cO r w C)))), g, mi, ml, mr) := by
  obtain ⟨k1, k2, k3, k4, k5⟩ := h.k2
  rw [eX4_count]
  simp only [wX4_count_0, wX4_count_1, wX4_count_2, wX4_count_3, wX4_count_6, wX4_count_7, wX4_count_10, wX4_count_11, wX4_count_14, k1, k2, k3, cs_0, cs_i, cs_r, c_reqW1 hw (show 5 < 100 by decide), aR_v, aR_1, c_countC h.cs (fun e c he hc => hJ.wf.st he hc) hw h0 hC]
theorem k_count0 (h : TG (E + 1) K S (r, q) pm x1 x2 Ln g mi mr) (hz : ¬ (nI 0 ≤ z ∧ z ≤ nI 4)) : CTx E K S (r, q) g mi ml mr (callT (d + 8) mX4_count [.ref 2, .int z] (g, mi, ml, mr)) "java/lang/IllegalArgumentException" := by
  obtain ⟨⟨h1, h2⟩, -⟩ := h.thr
  have k1 := h.k2.1
  have hH : mH mX4_count = [] := rfl
  rw [eX4_count]
  simp only [wX4_count_0, wX4_count_1, wX4_count_2, wX4_count_3, wX4_count_6, wX4_count_7, wX4_count_10, wX4_count_11, wX4_count_14, k1, cs_0, cs_i, cs_r, c_reqW0 (show 4 < 100 by decide) hz h1 h2, aR_x hH]
  exact h.ctx
theorem k_choice1 (h : TG E K S (r, q) pm x1 x2 Ln g mi mr) (he : e < 2) (h0 : r 0 = nI C) (hC : C ≤ 12) : callT (d + 3) mX4_choice [.ref 2, .int (nI e)] (g, mi, ml, mr) = some (.inl (some (.int (mChosen r e (-1) C))), g, mi, ml, mr) := by
  obtain ⟨k1, k2, k3, k4, k5⟩ := h.k2
  rw [eX4_choice]
  simp only [wX4_choice_0, wX4_choice_1, wX4_choice_2, wX4_choice_5, wX4_choice_6, wX4_choice_9, wX4_choice_10, wX4_choice_11, wX4_choice_14, k1, k2, k3, cs_0, cs_i, cs_r, c_reqX1 he, aR_v, aR_1, c_find h.cs h0 hC he]
theorem k_choice0 (h : TG (E + 1) K S (r, q) pm x1 x2 Ln g mi mr) (hx : ¬ isX x) : CTx E K S (r, q) g mi ml mr (callT (d + 8) mX4_choice [.ref 2, .int x] (g, mi, ml, mr)) "java/lang/IndexOutOfBoundsException" := by
  obtain ⟨⟨h1, h2⟩, -⟩ := h.thr
  have k1 := h.k2.1
  have hH : mH mX4_choice = [] := rfl
  rw [eX4_choice]
  simp only [wX4_choice_0, wX4_choice_1, wX4_choice_2, wX4_choice_5, wX4_choice_6, wX4_choice_9, wX4_choice_10, wX4_choice_11, wX4_choice_14, k1, cs_0, cs_i, cs_r, c_reqX0 hx h1 h2, aR_x hH]
  exact h.ctx
theorem k_end1 (h : TG E K S (r, q) pm x1 x2 Ln g mi mr) (hJ : JI X B N t D r q) (h0 : r 0 = nI C) (hC1 : 1 ≤ C) (hC : C ≤ 12) (he : e < 2) (hc : c < C) (hw : w < 7) : callT (d + 3) mX4_end [.ref 2, .int (nI e), .int (nI c), .int (nI w)] (g, mi, ml, mr) = some (.inl (some (.int (r (eI e c w)))), g, mi, ml, mr) := by
  obtain ⟨k1, k2, k3, k4, k5⟩ := h.k2
  have hc12 : c < 12 := by omega
  have kE := h.cs.kE he hc12
  rw [eX4_end]
  simp only [wX4_end_0, wX4_end_1, wX4_end_2, wX4_end_3, wX4_end_6, wX4_end_7, wX4_end_8, wX4_end_10, wX4_end_13, wX4_end_14, wX4_end_17, wX4_end_18, wX4_end_19, wX4_end_22, wX4_end_23, wX4_end_26, k1, k2, k3, cs_0, cs_i, cs_r, c_reqE1 h h0 hC1 hC he hc, c_reqW1 hw (show 7 < 100 by decide), aR_v, aR_1, c_endAt h.cs he hc12, kE, c_endVal h.cs hJ he hc12 hw]
theorem k_end0 (h : TG (E + 1) K S (r, q) pm x1 x2 Ln g mi mr) (h0 : r 0 = nI C) (hC1 : 1 ≤ C) (hC : C ≤ 12) (hx : ¬ (isX x ∧ isC r y)) : CTx E K S (r, q) g mi ml mr (callT (d + 9) mX4_end [.ref 2, .int x, .int y, .int z] (g, mi, ml, mr)) "java/lang/IndexOutOfBoundsException" := by
  obtain ⟨⟨h1, h2⟩, -⟩ := h.thr
  have k1 := h.k2.1
  have hH : mH mX4_end = [] := rfl
  rw [eX4_end]
  simp only [wX4_end_0, wX4_end_1, wX4_end_2, wX4_end_3, wX4_end_6, wX4_end_7, wX4_end_8, wX4_end_10, wX4_end_13, wX4_end_14, wX4_end_17, wX4_end_18, wX4_end_19, wX4_end_22, wX4_end_23, wX4_end_26, k1, cs_0, cs_i, cs_r, c_reqE0 h h0 hC1 hC hx h1 h2, aR_x hH]
  exact h.ctx
theorem k_end2 (h : TG (E + 1) K S (r, q) pm x1 x2 Ln g mi mr) (h0 : r 0 = nI C) (hC1 : 1 ≤ C) (hC : C ≤ 12) (he : e < 2) (hc : c < C) (hz : ¬ (nI 0 ≤ z ∧ z ≤ nI 6)) : CTx E K S (r, q) g mi ml mr (callT (d + 8) mX4_end [.ref 2, .int (nI e), .int (nI c), .int z] (g, mi, ml, mr)) "java/lang/IllegalArgumentException" := by
  obtain ⟨⟨h1, h2⟩, -⟩ := h.thr
  have k1 := h.k2.1
  have hH : mH mX4_end = [] := rfl
  rw [eX4_end]
  simp only [wX4_end_0, wX4_end_1, wX4_end_2, wX4_end_3, wX4_end_6, wX4_end_7, wX4_end_8, wX4_end_10, wX4_end_13, wX4_end_14, wX4_end_17, wX4_end_18, wX4_end_19, wX4_end_22, wX4_end_23, wX4_end_26, k1, cs_0, cs_i, cs_r, c_reqE1 h h0 hC1 hC he hc, aR_v, c_reqW0 (show 6 < 100 by decide) hz h1 h2, aR_x hH]
  exact h.ctx
end CVL2
