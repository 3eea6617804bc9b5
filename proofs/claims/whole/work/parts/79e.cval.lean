/-! the class: values -/
section CVAL
variable {s s2 off N n n0 a1 a2 b1 b2 L M e c w k k0 v j f a b d o t D p i C J B E K from_ cnt : Nat} {r r' r1 : Nat → Int32} {q q' : Nat → Int64} {g g' : Gh} {mi mi' m' : MI} {ml ml' l' : ML} {mr mr' : MR} {x1 x2 Ln pm : Nat → Nat} {S : Nat → PS} {P P' : PS} {X : Nat → Nat → Nat} {x y z : Int32}
theorem c_reqW1 (hw : w < v) (hv : v < 100) : callT (d + 1) mX4_requireWhat [.ref 2, .int (nI w), .int (nI v)] (g, mi, ml, mr) = some (.inl none, g, mi, ml, mr) := by
  have h1 : ¬ nI w < nI 0 := nI_nlt (by omega) (by omega)
  have h2 : nI w < nI v := nI_lt hw (by omega)
  rw [eX4_requireWhat]
  simp only [wX4_requireWhat_0, wX4_requireWhat_1, wX4_requireWhat_4, wX4_requireWhat_5, wX4_requireWhat_6, wX4_requireWhat_9, wX4_requireWhat_12, wX4_requireWhat_19, h1, h2, if_false, if_true]
theorem c_reqW0 (hv : v < 100) (hz : ¬ (nI 0 ≤ z ∧ z ≤ nI v)) (h1 : 1 ≤ g.2.2.2.1) (h2 : 6 ≤ g.2.2.2.2) : callT (d + 7) mX4_requireWhat [.ref 2, .int z, .int (nI (v + 1))] (g, mi, ml, mr) = some (.inr "java/lang/IllegalArgumentException", gX g, mi, ml, mr) := by
  rw [eX4_requireWhat]
  by_cases p : z < nI 0
  · simp only [wX4_requireWhat_0, wX4_requireWhat_1, wX4_requireWhat_4, wX4_requireWhat_5, wX4_requireWhat_6, wX4_requireWhat_9, wX4_requireWhat_12, wX4_requireWhat_19, p, if_true, h1, h2, cs_0]
    rfl
  · have p2 : ¬ z < nI (v + 1) := fun h9 => hz ⟨Int32.not_lt.mp p, by
      obtain ⟨j, hj, rfl⟩ := nI_of (x := z) (fun h8 => p h8)
      have := (nI_ltI (by omega) (by omega)).mp h9
      exact nI_le (by omega) (by omega)⟩
    simp only [wX4_requireWhat_0, wX4_requireWhat_1, wX4_requireWhat_4, wX4_requireWhat_5, wX4_requireWhat_6, wX4_requireWhat_9, wX4_requireWhat_12, wX4_requireWhat_19, p, p2, if_false, h1, h2, cs_0]
    rfl
theorem what_w (hv : v < 100) (hz : nI 0 ≤ z ∧ z ≤ nI v) : ∃ w, w < v + 1 ∧ z = nI w := by
  obtain ⟨j, h1, h2⟩ := nI_of2 (x := z) (M := nI v) (n := v) (nI_toInt (by omega)) (Int32.not_lt.mpr hz.1) hz.2
  exact ⟨j, by omega, h2⟩
theorem JI.bits (hJ : JI X B N t D r q) (he : e < 2) (hc : c < 12) : (r (eI e c 5) = nI 0 ∨ r (eI e c 5) = nI 1) ∧ (r (eI e c 6) = nI 0 ∨ r (eI e c 6) = nI 1) := by
  obtain ⟨hh, hb, hJ⟩ := hJ
  obtain ⟨s', o, tm, ag, lb, rm, wt, vl, bt, ⟨w0, w1, w2, w3, w4, w5, w6, w7, w8⟩, hn', -, -⟩ := hJ.ej he hc
  unfold eV at w5 w6
  have q1 : rm = 0 ∨ rm = 1 := by have := hn'.1.2.2.2.2.2.1; omega
  have q2 : wt = 0 ∨ wt = 1 := by have := hn'.1.2.2.2.2.2.2.1; omega
  rw [w5, w6]
  constructor
  · rcases q1 with rfl | rfl
    · exact Or.inl rfl
    · exact Or.inr rfl
  · rcases q2 with rfl | rfl
    · exact Or.inl rfl
    · exact Or.inr rfl
theorem c_endVal (h : CS s off N n a1 a2 L r q g mi mr) {N0 : Nat} {q0 : Nat → Int64} (hJ : JI X B N0 t D r q0) (he : e < 2) (hc : c < 12) (hw : w < 7) : callT (d + 1) mX1_valueOf [.ref (eA s e c), .int (nI w)] (g, mi, ml, mr) = some (.inl (some (.int (r (eI e c w)))), g, mi, ml, mr) := by
  have kE := h.kE he hc
  obtain ⟨b5, b6⟩ := hJ.bits he hc
  have v := fun w f (hw : w < 8) (hf : fw w = f) => h.ev he hc (w := w) (f := f) hw hf
  have v0 := v 0 2 (by decide) rfl
  have v1 := v 1 3 (by decide) rfl
  have v2 := v 2 4 (by decide) rfl
  have v3 := v 3 5 (by decide) rfl
  have v4 := v 4 6 (by decide) rfl
  have v5 := v 5 8 (by decide) rfl
  have v6 := v 6 9 (by decide) rfl
  have x6 : (nI 6).toInt < 0 ∨ 5 < (nI 6).toInt := by decide
  rw [eX1_valueOf]
  have hw' : w = 0 ∨ w = 1 ∨ w = 2 ∨ w = 3 ∨ w = 4 ∨ w = 5 ∨ w = 6 := by omega
  rcases hw' with rfl | rfl | rfl | rfl | rfl | rfl | rfl
  · simp only [wX1_valueOf_0, wX1_valueOf_1_0, wX1_valueOf_1_1, wX1_valueOf_1_2, wX1_valueOf_1_3, wX1_valueOf_1_4, wX1_valueOf_1_5, wX1_valueOf_1d, wX1_valueOf_40, wX1_valueOf_41, wX1_valueOf_44, wX1_valueOf_45, wX1_valueOf_46, wX1_valueOf_49, wX1_valueOf_50, wX1_valueOf_51, wX1_valueOf_54, wX1_valueOf_55, wX1_valueOf_56, wX1_valueOf_59, wX1_valueOf_60, wX1_valueOf_61, wX1_valueOf_64, wX1_valueOf_65, wX1_valueOf_66, wX1_valueOf_69, wX1_valueOf_72, wX1_valueOf_73, wX1_valueOf_76, wX1_valueOf_77, wX1_valueOf_78, wX1_valueOf_79, wX1_valueOf_82, wX1_valueOf_85, wX1_valueOf_86, wX1_valueOf_89, wX1_valueOf_90, kE, v0]
  · simp only [wX1_valueOf_0, wX1_valueOf_1_0, wX1_valueOf_1_1, wX1_valueOf_1_2, wX1_valueOf_1_3, wX1_valueOf_1_4, wX1_valueOf_1_5, wX1_valueOf_1d, wX1_valueOf_40, wX1_valueOf_41, wX1_valueOf_44, wX1_valueOf_45, wX1_valueOf_46, wX1_valueOf_49, wX1_valueOf_50, wX1_valueOf_51, wX1_valueOf_54, wX1_valueOf_55, wX1_valueOf_56, wX1_valueOf_59, wX1_valueOf_60, wX1_valueOf_61, wX1_valueOf_64, wX1_valueOf_65, wX1_valueOf_66, wX1_valueOf_69, wX1_valueOf_72, wX1_valueOf_73, wX1_valueOf_76, wX1_valueOf_77, wX1_valueOf_78, wX1_valueOf_79, wX1_valueOf_82, wX1_valueOf_85, wX1_valueOf_86, wX1_valueOf_89, wX1_valueOf_90, kE, v1]
  · simp only [wX1_valueOf_0, wX1_valueOf_1_0, wX1_valueOf_1_1, wX1_valueOf_1_2, wX1_valueOf_1_3, wX1_valueOf_1_4, wX1_valueOf_1_5, wX1_valueOf_1d, wX1_valueOf_40, wX1_valueOf_41, wX1_valueOf_44, wX1_valueOf_45, wX1_valueOf_46, wX1_valueOf_49, wX1_valueOf_50, wX1_valueOf_51, wX1_valueOf_54, wX1_valueOf_55, wX1_valueOf_56, wX1_valueOf_59, wX1_valueOf_60, wX1_valueOf_61, wX1_valueOf_64, wX1_valueOf_65, wX1_valueOf_66, wX1_valueOf_69, wX1_valueOf_72, wX1_valueOf_73, wX1_valueOf_76, wX1_valueOf_77, wX1_valueOf_78, wX1_valueOf_79, wX1_valueOf_82, wX1_valueOf_85, wX1_valueOf_86, wX1_valueOf_89, wX1_valueOf_90, kE, v2]
  · simp only [wX1_valueOf_0, wX1_valueOf_1_0, wX1_valueOf_1_1, wX1_valueOf_1_2, wX1_valueOf_1_3, wX1_valueOf_1_4, wX1_valueOf_1_5, wX1_valueOf_1d, wX1_valueOf_40, wX1_valueOf_41, wX1_valueOf_44, wX1_valueOf_45, wX1_valueOf_46, wX1_valueOf_49, wX1_valueOf_50, wX1_valueOf_51, wX1_valueOf_54, wX1_valueOf_55, wX1_valueOf_56, wX1_valueOf_59, wX1_valueOf_60, wX1_valueOf_61, wX1_valueOf_64, wX1_valueOf_65, wX1_valueOf_66, wX1_valueOf_69, wX1_valueOf_72, wX1_valueOf_73, wX1_valueOf_76, wX1_valueOf_77, wX1_valueOf_78, wX1_valueOf_79, wX1_valueOf_82, wX1_valueOf_85, wX1_valueOf_86, wX1_valueOf_89, wX1_valueOf_90, kE, v3]
  · simp only [wX1_valueOf_0, wX1_valueOf_1_0, wX1_valueOf_1_1, wX1_valueOf_1_2, wX1_valueOf_1_3, wX1_valueOf_1_4, wX1_valueOf_1_5, wX1_valueOf_1d, wX1_valueOf_40, wX1_valueOf_41, wX1_valueOf_44, wX1_valueOf_45, wX1_valueOf_46, wX1_valueOf_49, wX1_valueOf_50, wX1_valueOf_51, wX1_valueOf_54, wX1_valueOf_55, wX1_valueOf_56, wX1_valueOf_59, wX1_valueOf_60, wX1_valueOf_61, wX1_valueOf_64, wX1_valueOf_65, wX1_valueOf_66, wX1_valueOf_69, wX1_valueOf_72, wX1_valueOf_73, wX1_valueOf_76, wX1_valueOf_77, wX1_valueOf_78, wX1_valueOf_79, wX1_valueOf_82, wX1_valueOf_85, wX1_valueOf_86, wX1_valueOf_89, wX1_valueOf_90, kE, v4]
  · rcases b5 with b | b <;> simp only [wX1_valueOf_0, wX1_valueOf_1_0, wX1_valueOf_1_1, wX1_valueOf_1_2, wX1_valueOf_1_3, wX1_valueOf_1_4, wX1_valueOf_1_5, wX1_valueOf_1d, wX1_valueOf_40, wX1_valueOf_41, wX1_valueOf_44, wX1_valueOf_45, wX1_valueOf_46, wX1_valueOf_49, wX1_valueOf_50, wX1_valueOf_51, wX1_valueOf_54, wX1_valueOf_55, wX1_valueOf_56, wX1_valueOf_59, wX1_valueOf_60, wX1_valueOf_61, wX1_valueOf_64, wX1_valueOf_65, wX1_valueOf_66, wX1_valueOf_69, wX1_valueOf_72, wX1_valueOf_73, wX1_valueOf_76, wX1_valueOf_77, wX1_valueOf_78, wX1_valueOf_79, wX1_valueOf_82, wX1_valueOf_85, wX1_valueOf_86, wX1_valueOf_89, wX1_valueOf_90, kE, v5, b, if_true, n1_0, if_false]
  · rcases b6 with b | b <;> simp only [wX1_valueOf_0, wX1_valueOf_1_0, wX1_valueOf_1_1, wX1_valueOf_1_2, wX1_valueOf_1_3, wX1_valueOf_1_4, wX1_valueOf_1_5, wX1_valueOf_1d, wX1_valueOf_40, wX1_valueOf_41, wX1_valueOf_44, wX1_valueOf_45, wX1_valueOf_46, wX1_valueOf_49, wX1_valueOf_50, wX1_valueOf_51, wX1_valueOf_54, wX1_valueOf_55, wX1_valueOf_56, wX1_valueOf_59, wX1_valueOf_60, wX1_valueOf_61, wX1_valueOf_64, wX1_valueOf_65, wX1_valueOf_66, wX1_valueOf_69, wX1_valueOf_72, wX1_valueOf_73, wX1_valueOf_76, wX1_valueOf_77, wX1_valueOf_78, wX1_valueOf_79, wX1_valueOf_82, wX1_valueOf_85, wX1_valueOf_86, wX1_valueOf_89, wX1_valueOf_90, kE, x6, v6, b, if_true, n1_0, if_false]
theorem c_callVal (h : CS s off N n a1 a2 L r q g mi mr) (hi : i < N) (hN : N ≤ 40) (hw : w < 5) : callT (d + 1) mX0_valueOf [.ref (cA s i), .int (nI w)] (g, mi, ml, mr) = some (.inl (some (.int (r (cI i w)))), g, mi, ml, mr) := by
  have kc := (h.1.2.2.2.2 i (by omega)).1
  have v := fun w f (hw : w < 6) (hf : gw w = f) => h.cv_ hi hN (w := w) (f := f) hw hf
  have v0 := v 0 0 (by decide) rfl
  have v1 := v 1 3 (by decide) rfl
  have v2 := v 2 2 (by decide) rfl
  have v3 := v 3 4 (by decide) rfl
  have v4 := v 4 5 (by decide) rfl
  have x4 : (nI 4).toInt < 0 ∨ 3 < (nI 4).toInt := by decide
  rw [eX0_valueOf]
  have hw' : w = 0 ∨ w = 1 ∨ w = 2 ∨ w = 3 ∨ w = 4 := by omega
  rcases hw' with rfl | rfl | rfl | rfl | rfl
  · simp only [wX0_valueOf_0, wX0_valueOf_1_0, wX0_valueOf_1_1, wX0_valueOf_1_2, wX0_valueOf_1_3, wX0_valueOf_1d, wX0_valueOf_32, wX0_valueOf_33, wX0_valueOf_36, wX0_valueOf_37, wX0_valueOf_38, wX0_valueOf_41, wX0_valueOf_42, wX0_valueOf_43, wX0_valueOf_46, wX0_valueOf_47, wX0_valueOf_48, wX0_valueOf_51, wX0_valueOf_52, wX0_valueOf_53, wX0_valueOf_56, kc, v0]
  · simp only [wX0_valueOf_0, wX0_valueOf_1_0, wX0_valueOf_1_1, wX0_valueOf_1_2, wX0_valueOf_1_3, wX0_valueOf_1d, wX0_valueOf_32, wX0_valueOf_33, wX0_valueOf_36, wX0_valueOf_37, wX0_valueOf_38, wX0_valueOf_41, wX0_valueOf_42, wX0_valueOf_43, wX0_valueOf_46, wX0_valueOf_47, wX0_valueOf_48, wX0_valueOf_51, wX0_valueOf_52, wX0_valueOf_53, wX0_valueOf_56, kc, v1]
  · simp only [wX0_valueOf_0, wX0_valueOf_1_0, wX0_valueOf_1_1, wX0_valueOf_1_2, wX0_valueOf_1_3, wX0_valueOf_1d, wX0_valueOf_32, wX0_valueOf_33, wX0_valueOf_36, wX0_valueOf_37, wX0_valueOf_38, wX0_valueOf_41, wX0_valueOf_42, wX0_valueOf_43, wX0_valueOf_46, wX0_valueOf_47, wX0_valueOf_48, wX0_valueOf_51, wX0_valueOf_52, wX0_valueOf_53, wX0_valueOf_56, kc, v2]
  · simp only [wX0_valueOf_0, wX0_valueOf_1_0, wX0_valueOf_1_1, wX0_valueOf_1_2, wX0_valueOf_1_3, wX0_valueOf_1d, wX0_valueOf_32, wX0_valueOf_33, wX0_valueOf_36, wX0_valueOf_37, wX0_valueOf_38, wX0_valueOf_41, wX0_valueOf_42, wX0_valueOf_43, wX0_valueOf_46, wX0_valueOf_47, wX0_valueOf_48, wX0_valueOf_51, wX0_valueOf_52, wX0_valueOf_53, wX0_valueOf_56, kc, v3]
  · simp only [wX0_valueOf_0, wX0_valueOf_1_0, wX0_valueOf_1_1, wX0_valueOf_1_2, wX0_valueOf_1_3, wX0_valueOf_1d, wX0_valueOf_32, wX0_valueOf_33, wX0_valueOf_36, wX0_valueOf_37, wX0_valueOf_38, wX0_valueOf_41, wX0_valueOf_42, wX0_valueOf_43, wX0_valueOf_46, wX0_valueOf_47, wX0_valueOf_48, wX0_valueOf_51, wX0_valueOf_52, wX0_valueOf_53, wX0_valueOf_56, kc, x4, v4]
theorem c_msgVal (h : CS s 0 N n a1 a2 L r q g mi mr) (h2 : r 2 = nI t) (ht : t ≤ 300000) (hj : j < n) (hw : w < 5) : callT (d + 1) mX2_valueOf [.ref (s + 4), .int (nI j), .int (nI w)] (g, mi, ml, mr) = some (.inl (some (.int (vM r q j w))), g, mi, ml, mr) := by
  obtain ⟨m, z, k1, k2, k3, k4, k5, k6⟩ := h.2.2.2.2.1 j hj
  rw [Nat.zero_add] at k3 k4
  have hL : j < L := by have := h.2.2.2.1.2.2.1; omega
  obtain ⟨x1, x2, x3, x4, -⟩ := c_val (d := d) (ml := ml) h hL k2 k5 k4
  obtain ⟨d1, d2, d3, d4, -⟩ := k2.dec
  have ar := k2.ar
  have hw' : w = 0 ∨ w = 1 ∨ w = 2 ∨ w = 3 ∨ w = 4 := by omega
  rcases hw' with rfl | rfl | rfl | rfl | rfl
  · obtain ⟨⟨-, -, ⟨c12, -⟩, -, -⟩, ⟨⟨i6, i7⟩, ⟨i1, i2, i3, i4⟩, -, i13⟩, -⟩ := id h
    have b2 : j < 2147483648 := by omega
    have x0 : (nI 0).toInt < 1 ∨ 4 < (nI 0).toInt := by decide
    have t0 : mi (s + 4) 0 = nI t := (h.lv (j := 2) (by decide) (by decide) rfl rfl).trans h2
    have e1 : vM r q j 0 = nI m.1 - nI t := by
      show (q j / lN 262144 - (r 2).toInt64).toInt32 = _
      rw [k1, ar, h2, nI_l (by omega)]
      have := k2.1
      have e2 : (lN m.1 - lN t).toInt32 = (lN m.1).toInt32 - (lN t).toInt32 := Int64.toInt32_sub ..
      rw [e2, lN_32, lN_32]
    rw [e1, eX2_valueOf]
    simp only [wX2_valueOf_0, wX2_valueOf_1, wX2_valueOf_4, wX2_valueOf_5, wX2_valueOf_6i, wX2_valueOf_6r, wX2_valueOf_6n, wX2_valueOf_7, wX2_valueOf_8_0, wX2_valueOf_8_1, wX2_valueOf_8_2, wX2_valueOf_8_3, wX2_valueOf_8d, wX2_valueOf_40, wX2_valueOf_41, wX2_valueOf_42, wX2_valueOf_43, wX2_valueOf_44, wX2_valueOf_45, wX2_valueOf_46, wX2_valueOf_47, wX2_valueOf_49, wX2_valueOf_50, wX2_valueOf_51, wX2_valueOf_52, wX2_valueOf_53, wX2_valueOf_54, wX2_valueOf_56, wX2_valueOf_57, wX2_valueOf_58, wX2_valueOf_59, wX2_valueOf_61, wX2_valueOf_62, wX2_valueOf_64, wX2_valueOf_65, wX2_valueOf_66, wX2_valueOf_67, wX2_valueOf_70, wX2_valueOf_71, wX2_valueOf_72, wX2_valueOf_73, wX2_valueOf_76, wX2_valueOf_77, c12, i7, i2, i4, hL, b2, x0, i6, i1, i3, k3, t0]
  · have e1 : vM r q j 1 = nI m.2.1 := by show dE (q j) = _; rw [k1, d1]
    rw [x1, e1]
  · have e1 : vM r q j 2 = nI m.2.2.1 := by show dC (q j) = _; rw [k1, d2]
    rw [x2, e1]
  · have e1 : vM r q j 3 = nI m.2.2.2.1 := by show dK (q j) = _; rw [k1, d3]
    rw [x3, e1]
  · have e1 : vM r q j 4 = nI m.2.2.2.2.1 := by show dV (q j) = _; rw [k1, d4]
    rw [x4, e1]
theorem c_totalOf (h : CS s off N n a1 a2 L r q g mi mr) (hw : w < 5) : callT (d + 1) mX3_totalOf [.ref s, .int (nI w)] (g, mi, ml, mr) = some (.inl (some (.int (r (6 + w)))), g, mi, ml, mr) := by
  obtain ⟨⟨⟨c1, -, -, c4, c5⟩, -, ⟨c12, -⟩, -, -⟩, -⟩ := id h
  have v6 : mi (s + 4) 2 = r 6 := h.lv (j := 6) (by decide) (by decide) rfl rfl
  have v7 : mi (s + 4) 3 = r 7 := h.lv (j := 7) (by decide) (by decide) rfl rfl
  have v8 : mi s 6 = r 8 := h.lv (j := 8) (a := s) (by decide) (by decide) rfl rfl
  have v9 : mi s 7 = r 9 := h.lv (j := 9) (a := s) (by decide) (by decide) rfl rfl
  have v10 : mi s 8 = r 10 := h.lv (j := 10) (a := s) (by decide) (by decide) rfl rfl
  have x4 : (nI 4).toInt < 0 ∨ 3 < (nI 4).toInt := by decide
  rw [eX3_totalOf]
  have hw' : w = 0 ∨ w = 1 ∨ w = 2 ∨ w = 3 ∨ w = 4 := by omega
  rcases hw' with rfl | rfl | rfl | rfl | rfl
  · simp only [wX3_totalOf_0, wX3_totalOf_1_0, wX3_totalOf_1_1, wX3_totalOf_1_2, wX3_totalOf_1_3, wX3_totalOf_1d, wX3_totalOf_32, wX3_totalOf_33, wX3_totalOf_36, wX3_totalOf_39, wX3_totalOf_40, wX3_totalOf_41, wX3_totalOf_44, wX3_totalOf_47, wX3_totalOf_48, wX3_totalOf_49, wX3_totalOf_52, wX3_totalOf_53, wX3_totalOf_54, wX3_totalOf_57, wX3_totalOf_58, wX3_totalOf_59, wX3_totalOf_62, c1, c5, c12, v6]
  · simp only [wX3_totalOf_0, wX3_totalOf_1_0, wX3_totalOf_1_1, wX3_totalOf_1_2, wX3_totalOf_1_3, wX3_totalOf_1d, wX3_totalOf_32, wX3_totalOf_33, wX3_totalOf_36, wX3_totalOf_39, wX3_totalOf_40, wX3_totalOf_41, wX3_totalOf_44, wX3_totalOf_47, wX3_totalOf_48, wX3_totalOf_49, wX3_totalOf_52, wX3_totalOf_53, wX3_totalOf_54, wX3_totalOf_57, wX3_totalOf_58, wX3_totalOf_59, wX3_totalOf_62, c1, c5, c12, v7]
  · simp only [wX3_totalOf_0, wX3_totalOf_1_0, wX3_totalOf_1_1, wX3_totalOf_1_2, wX3_totalOf_1_3, wX3_totalOf_1d, wX3_totalOf_32, wX3_totalOf_33, wX3_totalOf_36, wX3_totalOf_39, wX3_totalOf_40, wX3_totalOf_41, wX3_totalOf_44, wX3_totalOf_47, wX3_totalOf_48, wX3_totalOf_49, wX3_totalOf_52, wX3_totalOf_53, wX3_totalOf_54, wX3_totalOf_57, wX3_totalOf_58, wX3_totalOf_59, wX3_totalOf_62, c1, v8]
  · simp only [wX3_totalOf_0, wX3_totalOf_1_0, wX3_totalOf_1_1, wX3_totalOf_1_2, wX3_totalOf_1_3, wX3_totalOf_1d, wX3_totalOf_32, wX3_totalOf_33, wX3_totalOf_36, wX3_totalOf_39, wX3_totalOf_40, wX3_totalOf_41, wX3_totalOf_44, wX3_totalOf_47, wX3_totalOf_48, wX3_totalOf_49, wX3_totalOf_52, wX3_totalOf_53, wX3_totalOf_54, wX3_totalOf_57, wX3_totalOf_58, wX3_totalOf_59, wX3_totalOf_62, c1, v9]
  · simp only [wX3_totalOf_0, wX3_totalOf_1_0, wX3_totalOf_1_1, wX3_totalOf_1_2, wX3_totalOf_1_3, wX3_totalOf_1d, wX3_totalOf_32, wX3_totalOf_33, wX3_totalOf_36, wX3_totalOf_39, wX3_totalOf_40, wX3_totalOf_41, wX3_totalOf_44, wX3_totalOf_47, wX3_totalOf_48, wX3_totalOf_49, wX3_totalOf_52, wX3_totalOf_53, wX3_totalOf_54, wX3_totalOf_57, wX3_totalOf_58, wX3_totalOf_59, wX3_totalOf_62, c1, x4, v10]
end CVAL
