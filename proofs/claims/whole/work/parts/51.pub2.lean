/-! the reference: its public calls, on -/
section PUB2
variable {X : Nat → Nat → Nat} {h hb : Nat → Nat} {N t D e c w k v n j s a B d C K L from_ : Nat} {r : Nat → Int32} {q : Nat → Int64} {z x y : Int32} {g : Gh} {mi mi' mi0 : MI} {ml ml' ml0 : ML} {mr : MR} {S : Nat → PS} {p : PS} {ret : Value}
theorem isX_n (he : e < 2) : isX (nI e) := ⟨nI_le (by omega) (by omega), nI_le (by omega) (by omega)⟩
theorem isX_e (hx : isX x) : ∃ e, e < 2 ∧ x = nI e := by
  obtain ⟨j, h1, h2⟩ := nI_of2 (x := x) (M := nI 1) (n := 1) rfl (Int32.not_lt.mpr hx.1) hx.2
  exact ⟨j, by omega, h2⟩
theorem isC_n (h0 : r 0 = nI C) (h1 : 1 ≤ C) (h2 : C ≤ 12) (hc : c < C) : isC r (nI c) := by
  refine ⟨nI_le (by omega) (by omega), ?_⟩
  rw [h0, pk_sub h1]
  exact nI_le (by omega) (by omega)
theorem isC_e (h0 : r 0 = nI C) (h1 : 1 ≤ C) (h2 : C ≤ 12) (hy : isC r y) : ∃ c, c < C ∧ y = nI c := by
  obtain ⟨g1, g2⟩ := hy
  rw [h0, pk_sub h1] at g2
  obtain ⟨j, g3, g4⟩ := nI_of2 (x := y) (M := nI (C - 1)) (n := C - 1) (nI_toInt (by omega)) (Int32.not_lt.mpr g1) g2
  exact ⟨j, by omega, g4⟩
theorem bX (he : e < 2) : bI (nI 0 ≤ nI e ∧ nI e ≤ nI 1) = nI 1 := bI_t (isX_n he)
/-- call -/
theorem m_call1 (hg : MG g mr) (hM : MS K S (r, q) (r2 mi 293 r) (r2 ml 294 q)) (hR : Rm r 32) (he : e < 2) (h0 : r 0 = nI C) (hC : C ≤ 12) (h5 : r 5 = nI N) (hN : N < 40) (hc : c < 12) (hch : mChosen r e (-1) C = nI c) : RC g mr (r2 mi 293 r) (r2 ml 294 q) (callT (d + 5) mX5_call [.ref 292, .int (nI e), .int z] (g, r2 mi 293 r, r2 ml 294 q, mr)) 0 (.int (nI N)) (svK K) (svS K S (r, q)) (pAtt (pNew r N e (if z = nI 0 then 0 else 1)) q N e (if z = nI 0 then 0 else 1) c) := by
  obtain ⟨h1, h2, h3, -, -, -, -, -, -, h4, -⟩ := id hg
  obtain ⟨mi', ml', e1, e2, e3, e4⟩ := m_rc0 (d := d + 2) hg hM hR
  have n40 : ¬ nI N = nI 40 := fun h9 => by have := (nI_eq (by omega) (by decide)).mp h9; omega
  have nm : ¬ nI c = -1 := by rw [nI_m1 (show c < 2147483648 by omega)]; exact id
  have hk : (if z = nI 0 then 0 else 1) < 2 := by split <;> decide
  have hR1 : Rm (pNew r N e (if z = nI 0 then 0 else 1)) 1 := (hR.mono (by unfold pNew inc; rw [sC_n (by decide), sC_n (by decide), sC_n (by decide), sC_n (by decide), sC_n (by decide), u1_n (by decide)]) (by decide))
  have v0 : pNew r N e (if z = nI 0 then 0 else 1) (cI N 0) = nI e := by
    unfold pNew
    rw [sC_c (by omega) (by decide) (by decide), sC_c (by omega) (by decide) (by decide), sC_c (by omega) (by decide) (by decide), sC_c (by omega) (by decide) (by decide), sC_s]
  have v5 : pNew r N e (if z = nI 0 then 0 else 1) (cI N 5) = nI (if z = nI 0 then 0 else 1) := by unfold pNew; rw [sC_s]
  have hat := m_att (d := d) (mi := mi') (ml := ml') (q := q) hg hN hc he hk v0 v5 hR1
  have hz5 : ∀ mi ml, callT (d + 4) mX5_setCall [.ref 292, .int (nI N), .int (nI 5), .int (if z = nI 0 then nI 0 else nI 1)] (g, mi, ml, mr) = some (.inl none, g, r2 mi 293 (sC (mi 293) N 5 (nI (if z = nI 0 then 0 else 1))), ml, mr) := fun mi ml => by
    rw [show (if z = nI 0 then nI 0 else nI 1) = nI (if z = nI 0 then 0 else 1) by split <;> rfl]
    exact msc hg hN (by decide)
  have hi : u1 r 5 (nI N + nI 1) = inc r 5 := by unfold inc; rw [h5]
  rw [eX5_call]
  have hcc : ∀ {mi : MI} {ml : ML}, callT (d + 4) mX5_chosen [.ref 292, .int (nI e), .int (-1)] (g, r2 mi 293 r, ml, mr) = some (.inl (some (.int (nI c))), g, r2 mi 293 r, ml, mr) := fun {mi ml} => by
    have := m_chosen (d := d + 1) (mi := r2 mi 293 r) (ml := ml) (but := -1) hg he (by rw [r2_s]; exact h0) hC
    rw [r2_s, hch] at this
    exact this
  by_cases p : z = nI 0
  · rw [if_pos p] at hat hz5 ⊢
    simp only [wX5_call_0, wX5_call_1, wX5_call_4, wX5_call_7, wX5_call_8, wX5_call_9, wX5_call_10, wX5_call_13, wX5_call_16, wX5_call_17i, wX5_call_17r, wX5_call_17n, wX5_call_18, wX5_call_19, wX5_call_20, wX5_call_23, wX5_call_26, wX5_call_27, wX5_call_30, wX5_call_31, wX5_call_34, wX5_call_35, wX5_call_36, wX5_call_38, wX5_call_41, wX5_call_42, wX5_call_43, wX5_call_46, wX5_call_47, wX5_call_50, wX5_call_51, wX5_call_54, wX5_call_57, wX5_call_58, wX5_call_59, wX5_call_60, wX5_call_63, wX5_call_64, wX5_call_65i, wX5_call_65r, wX5_call_65n, wX5_call_67, wX5_call_68, wX5_call_71, wX5_call_72, wX5_call_73, wX5_call_74, wX5_call_75, wX5_call_76, wX5_call_77, wX5_call_78, wX5_call_80, wX5_call_81, wX5_call_82, wX5_call_85, wX5_call_86, wX5_call_88, wX5_call_89, wX5_call_90, wX5_call_93, wX5_call_94, wX5_call_96, wX5_call_97, wX5_call_98, wX5_call_101, wX5_call_102, wX5_call_104, wX5_call_105, wX5_call_106, wX5_call_109, wX5_call_110, wX5_call_112, wX5_call_113, wX5_call_114, wX5_call_117, wX5_call_118, wX5_call_121, wX5_call_122, wX5_call_125, wX5_call_126, wX5_call_128, wX5_call_129, wX5_call_132, wX5_call_134, h1, h2, h3, h4, Nat.reduceLT, r2_s, cs_0, cs_i, cs_r, m_isEx, aR_1, aR_v, bX he, n1_0, if_false, hcc, h5, n40, nm, e1, if_true, u2_r2, r2_r2, hi, msc hg hN (show 0 < 6 by decide), msc hg hN (show 2 < 6 by decide), msc hg hN (show 3 < 6 by decide), msc hg hN (show 4 < 6 by decide), p, msc hg hN (show 5 < 6 by decide)]
    have hat' := hat
    unfold pNew at hat' ⊢
    simp only [hat', wX5_call_0, wX5_call_1, wX5_call_4, wX5_call_7, wX5_call_8, wX5_call_9, wX5_call_10, wX5_call_13, wX5_call_16, wX5_call_17i, wX5_call_17r, wX5_call_17n, wX5_call_18, wX5_call_19, wX5_call_20, wX5_call_23, wX5_call_26, wX5_call_27, wX5_call_30, wX5_call_31, wX5_call_34, wX5_call_35, wX5_call_36, wX5_call_38, wX5_call_41, wX5_call_42, wX5_call_43, wX5_call_46, wX5_call_47, wX5_call_50, wX5_call_51, wX5_call_54, wX5_call_57, wX5_call_58, wX5_call_59, wX5_call_60, wX5_call_63, wX5_call_64, wX5_call_65i, wX5_call_65r, wX5_call_65n, wX5_call_67, wX5_call_68, wX5_call_71, wX5_call_72, wX5_call_73, wX5_call_74, wX5_call_75, wX5_call_76, wX5_call_77, wX5_call_78, wX5_call_80, wX5_call_81, wX5_call_82, wX5_call_85, wX5_call_86, wX5_call_88, wX5_call_89, wX5_call_90, wX5_call_93, wX5_call_94, wX5_call_96, wX5_call_97, wX5_call_98, wX5_call_101, wX5_call_102, wX5_call_104, wX5_call_105, wX5_call_106, wX5_call_109, wX5_call_110, wX5_call_112, wX5_call_113, wX5_call_114, wX5_call_117, wX5_call_118, wX5_call_121, wX5_call_122, wX5_call_125, wX5_call_126, wX5_call_128, wX5_call_129, wX5_call_132, wX5_call_134, aR_v]
    exact rc e2 e3 e4
  · rw [if_neg p] at hat hz5 ⊢
    simp only [wX5_call_0, wX5_call_1, wX5_call_4, wX5_call_7, wX5_call_8, wX5_call_9, wX5_call_10, wX5_call_13, wX5_call_16, wX5_call_17i, wX5_call_17r, wX5_call_17n, wX5_call_18, wX5_call_19, wX5_call_20, wX5_call_23, wX5_call_26, wX5_call_27, wX5_call_30, wX5_call_31, wX5_call_34, wX5_call_35, wX5_call_36, wX5_call_38, wX5_call_41, wX5_call_42, wX5_call_43, wX5_call_46, wX5_call_47, wX5_call_50, wX5_call_51, wX5_call_54, wX5_call_57, wX5_call_58, wX5_call_59, wX5_call_60, wX5_call_63, wX5_call_64, wX5_call_65i, wX5_call_65r, wX5_call_65n, wX5_call_67, wX5_call_68, wX5_call_71, wX5_call_72, wX5_call_73, wX5_call_74, wX5_call_75, wX5_call_76, wX5_call_77, wX5_call_78, wX5_call_80, wX5_call_81, wX5_call_82, wX5_call_85, wX5_call_86, wX5_call_88, wX5_call_89, wX5_call_90, wX5_call_93, wX5_call_94, wX5_call_96, wX5_call_97, wX5_call_98, wX5_call_101, wX5_call_102, wX5_call_104, wX5_call_105, wX5_call_106, wX5_call_109, wX5_call_110, wX5_call_112, wX5_call_113, wX5_call_114, wX5_call_117, wX5_call_118, wX5_call_121, wX5_call_122, wX5_call_125, wX5_call_126, wX5_call_128, wX5_call_129, wX5_call_132, wX5_call_134, h1, h2, h3, h4, Nat.reduceLT, r2_s, cs_0, cs_i, cs_r, m_isEx, aR_1, aR_v, bX he, n1_0, if_false, hcc, h5, n40, nm, e1, if_true, u2_r2, r2_r2, hi, msc hg hN (show 0 < 6 by decide), msc hg hN (show 2 < 6 by decide), msc hg hN (show 3 < 6 by decide), msc hg hN (show 4 < 6 by decide), p, msc hg hN (show 5 < 6 by decide)]
    have hat' := hat
    unfold pNew at hat' ⊢
    simp only [hat', wX5_call_0, wX5_call_1, wX5_call_4, wX5_call_7, wX5_call_8, wX5_call_9, wX5_call_10, wX5_call_13, wX5_call_16, wX5_call_17i, wX5_call_17r, wX5_call_17n, wX5_call_18, wX5_call_19, wX5_call_20, wX5_call_23, wX5_call_26, wX5_call_27, wX5_call_30, wX5_call_31, wX5_call_34, wX5_call_35, wX5_call_36, wX5_call_38, wX5_call_41, wX5_call_42, wX5_call_43, wX5_call_46, wX5_call_47, wX5_call_50, wX5_call_51, wX5_call_54, wX5_call_57, wX5_call_58, wX5_call_59, wX5_call_60, wX5_call_63, wX5_call_64, wX5_call_65i, wX5_call_65r, wX5_call_65n, wX5_call_67, wX5_call_68, wX5_call_71, wX5_call_72, wX5_call_73, wX5_call_74, wX5_call_75, wX5_call_76, wX5_call_77, wX5_call_78, wX5_call_80, wX5_call_81, wX5_call_82, wX5_call_85, wX5_call_86, wX5_call_88, wX5_call_89, wX5_call_90, wX5_call_93, wX5_call_94, wX5_call_96, wX5_call_97, wX5_call_98, wX5_call_101, wX5_call_102, wX5_call_104, wX5_call_105, wX5_call_106, wX5_call_109, wX5_call_110, wX5_call_112, wX5_call_113, wX5_call_114, wX5_call_117, wX5_call_118, wX5_call_121, wX5_call_122, wX5_call_125, wX5_call_126, wX5_call_128, wX5_call_129, wX5_call_132, wX5_call_134, aR_v]
    exact rc e2 e3 e4
theorem m_call0 (hg : MG g mr) (hM : MS K S (r, q) (r2 mi 293 r) (r2 ml 294 q)) (hx : ¬ isX x) : RC g mr (r2 mi 293 r) (r2 ml 294 q) (callT (d + 5) mX5_call [.ref 292, .int x, .int z] (g, r2 mi 293 r, r2 ml 294 q, mr)) 1 (.int (nI 0)) K S (r, q) := by
  have h1 := hg.1
  obtain ⟨mi', e1, e2, e3, e4⟩ := m_rcx (d := d + 2) (k := 1) hg hM (by decide)
  have hx' : bI (nI 0 ≤ x ∧ x ≤ nI 1) = nI 0 := bI_f hx
  rw [eX5_call]
  simp only [wX5_call_0, wX5_call_1, wX5_call_4, wX5_call_7, wX5_call_8, wX5_call_9, wX5_call_10, wX5_call_13, wX5_call_16, wX5_call_17i, wX5_call_17r, wX5_call_17n, wX5_call_18, wX5_call_19, wX5_call_20, wX5_call_23, wX5_call_26, wX5_call_27, wX5_call_30, wX5_call_31, wX5_call_34, wX5_call_35, wX5_call_36, wX5_call_38, wX5_call_41, wX5_call_42, wX5_call_43, wX5_call_46, wX5_call_47, wX5_call_50, wX5_call_51, wX5_call_54, wX5_call_57, wX5_call_58, wX5_call_59, wX5_call_60, wX5_call_63, wX5_call_64, wX5_call_65i, wX5_call_65r, wX5_call_65n, wX5_call_67, wX5_call_68, wX5_call_71, wX5_call_72, wX5_call_73, wX5_call_74, wX5_call_75, wX5_call_76, wX5_call_77, wX5_call_78, wX5_call_80, wX5_call_81, wX5_call_82, wX5_call_85, wX5_call_86, wX5_call_88, wX5_call_89, wX5_call_90, wX5_call_93, wX5_call_94, wX5_call_96, wX5_call_97, wX5_call_98, wX5_call_101, wX5_call_102, wX5_call_104, wX5_call_105, wX5_call_106, wX5_call_109, wX5_call_110, wX5_call_112, wX5_call_113, wX5_call_114, wX5_call_117, wX5_call_118, wX5_call_121, wX5_call_122, wX5_call_125, wX5_call_126, wX5_call_128, wX5_call_129, wX5_call_132, wX5_call_134, h1, cs_0, cs_i, cs_r, m_isEx, aR_1, hx', n1_0, if_false, e1, if_true]
  exact rc e2 e3 e4
theorem m_call2 (hg : MG g mr) (hM : MS K S (r, q) (r2 mi 293 r) (r2 ml 294 q)) (he : e < 2) (h0 : r 0 = nI C) (hC : C ≤ 12) (hno : r 5 = nI 40 ∨ mChosen r e (-1) C = -1) : RC g mr (r2 mi 293 r) (r2 ml 294 q) (callT (d + 5) mX5_call [.ref 292, .int (nI e), .int z] (g, r2 mi 293 r, r2 ml 294 q, mr)) 2 (.int (nI 0)) K S (r, q) := by
  obtain ⟨h1, h2, h3, -, -, -, -, -, -, h4, -⟩ := id hg
  obtain ⟨mi', e1, e2, e3, e4⟩ := m_rcx (d := d + 2) (k := 2) hg hM (by decide)
  have hcc : ∀ {mi : MI} {ml : ML}, callT (d + 4) mX5_chosen [.ref 292, .int (nI e), .int (-1)] (g, r2 mi 293 r, ml, mr) = some (.inl (some (.int (mChosen r e (-1) C))), g, r2 mi 293 r, ml, mr) := fun {mi ml} => by
    have := m_chosen (d := d + 1) (mi := r2 mi 293 r) (ml := ml) (but := -1) hg he (by rw [r2_s]; exact h0) hC
    rw [r2_s] at this
    exact this
  rw [eX5_call]
  by_cases h5 : r 5 = nI 40
  · simp only [wX5_call_0, wX5_call_1, wX5_call_4, wX5_call_7, wX5_call_8, wX5_call_9, wX5_call_10, wX5_call_13, wX5_call_16, wX5_call_17i, wX5_call_17r, wX5_call_17n, wX5_call_18, wX5_call_19, wX5_call_20, wX5_call_23, wX5_call_26, wX5_call_27, wX5_call_30, wX5_call_31, wX5_call_34, wX5_call_35, wX5_call_36, wX5_call_38, wX5_call_41, wX5_call_42, wX5_call_43, wX5_call_46, wX5_call_47, wX5_call_50, wX5_call_51, wX5_call_54, wX5_call_57, wX5_call_58, wX5_call_59, wX5_call_60, wX5_call_63, wX5_call_64, wX5_call_65i, wX5_call_65r, wX5_call_65n, wX5_call_67, wX5_call_68, wX5_call_71, wX5_call_72, wX5_call_73, wX5_call_74, wX5_call_75, wX5_call_76, wX5_call_77, wX5_call_78, wX5_call_80, wX5_call_81, wX5_call_82, wX5_call_85, wX5_call_86, wX5_call_88, wX5_call_89, wX5_call_90, wX5_call_93, wX5_call_94, wX5_call_96, wX5_call_97, wX5_call_98, wX5_call_101, wX5_call_102, wX5_call_104, wX5_call_105, wX5_call_106, wX5_call_109, wX5_call_110, wX5_call_112, wX5_call_113, wX5_call_114, wX5_call_117, wX5_call_118, wX5_call_121, wX5_call_122, wX5_call_125, wX5_call_126, wX5_call_128, wX5_call_129, wX5_call_132, wX5_call_134, h1, h2, h3, h4, Nat.reduceLT, r2_s, cs_0, cs_i, cs_r, m_isEx, aR_1, bX he, n1_0, if_false, hcc, h5, e1, if_true]
    exact rc e2 e3 e4
  · have hno' := hno.resolve_left h5
    rw [hno'] at hcc
    simp only [wX5_call_0, wX5_call_1, wX5_call_4, wX5_call_7, wX5_call_8, wX5_call_9, wX5_call_10, wX5_call_13, wX5_call_16, wX5_call_17i, wX5_call_17r, wX5_call_17n, wX5_call_18, wX5_call_19, wX5_call_20, wX5_call_23, wX5_call_26, wX5_call_27, wX5_call_30, wX5_call_31, wX5_call_34, wX5_call_35, wX5_call_36, wX5_call_38, wX5_call_41, wX5_call_42, wX5_call_43, wX5_call_46, wX5_call_47, wX5_call_50, wX5_call_51, wX5_call_54, wX5_call_57, wX5_call_58, wX5_call_59, wX5_call_60, wX5_call_63, wX5_call_64, wX5_call_65i, wX5_call_65r, wX5_call_65n, wX5_call_67, wX5_call_68, wX5_call_71, wX5_call_72, wX5_call_73, wX5_call_74, wX5_call_75, wX5_call_76, wX5_call_77, wX5_call_78, wX5_call_80, wX5_call_81, wX5_call_82, wX5_call_85, wX5_call_86, wX5_call_88, wX5_call_89, wX5_call_90, wX5_call_93, wX5_call_94, wX5_call_96, wX5_call_97, wX5_call_98, wX5_call_101, wX5_call_102, wX5_call_104, wX5_call_105, wX5_call_106, wX5_call_109, wX5_call_110, wX5_call_112, wX5_call_113, wX5_call_114, wX5_call_117, wX5_call_118, wX5_call_121, wX5_call_122, wX5_call_125, wX5_call_126, wX5_call_128, wX5_call_129, wX5_call_132, wX5_call_134, h1, h2, h3, h4, Nat.reduceLT, r2_s, cs_0, cs_i, cs_r, m_isEx, aR_1, bX he, n1_0, if_false, hcc, h5, e1, if_true]
    exact rc e2 e3 e4
/-- ends that are there, and that aren't -/
theorem bE (he : e < 2) (hc : isC r (nI c)) : bI ((nI 0 ≤ nI e ∧ nI e ≤ nI 1) ∧ nI 0 ≤ nI c ∧ nI c ≤ r 0 - nI 1) = nI 1 := bI_t ⟨isX_n he, hc⟩
theorem bE0 (h : ¬ (isX x ∧ isC r y)) : bI ((nI 0 ≤ x ∧ x ≤ nI 1) ∧ nI 0 ≤ y ∧ y ≤ r 0 - nI 1) = nI 0 := bI_f h
theorem isE_ {mi : MI} {ml : ML} (hg : MG g mr) : callT (d + 3) mX5_isEnd [.ref 292, .int x, .int y] (g, r2 mi 293 r, ml, mr) = some (.inl (some (.int (bI ((nI 0 ≤ x ∧ x ≤ nI 1) ∧ nI 0 ≤ y ∧ y ≤ r 0 - nI 1)))), g, r2 mi 293 r, ml, mr) := by
  have := m_isEnd (d := d) (mi := r2 mi 293 r) (ml := ml) (x := x) (y := y) hg
  rw [r2_s] at this
  exact this
/-- accept, answer, suspend, resume -/
theorem m_does1 (hg : MG g mr) (hM : MS K S (r, q) (r2 mi 293 r) (r2 ml 294 q)) (hR : Rm r 32) (he : e < 2) (hc : c < 12) (hC : isC r (nI c)) (ho : okN (r (eI e c 1))) (hk : k < 16) (hf : r (eI e c 0) = nI from_) (hw : pOwn r e c = -1) (h6 : r (eI e c 6) = nI 0) : RC g mr (r2 mi 293 r) (r2 ml 294 q) (callT (d + 4) mX5_does [.ref 292, .int (nI e), .int (nI c), .int (nI from_), .int (nI k), .int (nI s)] (g, r2 mi 293 r, r2 ml 294 q, mr)) 0 (.int (r (eI e c 1))) (svK K) (svS K S (r, q)) (pDo r q e c k s) := by
  have h1 := hg.1
  obtain ⟨mi', ml', e1, e2, e3, e4⟩ := m_rc0 (d := d + 1) hg hM hR
  have hR1 : Rm r 1 := hR.mono rfl (by decide)
  have hv : sE (sE (pSend r q e c k 0).1 e c 0 (nI s)) e c 2 (nI 0) (eI e c 1) = r (eI e c 1) := by rw [sE_w (by decide) (by decide) (by decide), sE_w (by decide) (by decide) (by decide), pSend_e he eI_ge]
  rw [eX5_does]
  simp only [wX5_does_0, wX5_does_1, wX5_does_2, wX5_does_3, wX5_does_6i, wX5_does_6r, wX5_does_6n, wX5_does_8, wX5_does_10, wX5_does_13, wX5_does_14, wX5_does_15, wX5_does_16, wX5_does_17, wX5_does_20, wX5_does_21, wX5_does_24, wX5_does_25, wX5_does_26, wX5_does_27, wX5_does_30, wX5_does_31, wX5_does_34, wX5_does_35, wX5_does_36, wX5_does_37, wX5_does_39, wX5_does_42, wX5_does_45, wX5_does_46, wX5_does_49, wX5_does_50i, wX5_does_50r, wX5_does_50n, wX5_does_52, wX5_does_53, wX5_does_55, wX5_does_58, wX5_does_59, wX5_does_62, wX5_does_64, wX5_does_67, wX5_does_68, wX5_does_71, wX5_does_72, wX5_does_75, wX5_does_78, wX5_does_79, wX5_does_80, wX5_does_81, wX5_does_82, wX5_does_83, wX5_does_85, wX5_does_86, wX5_does_89, wX5_does_90, wX5_does_91, wX5_does_92, wX5_does_93, wX5_does_95, wX5_does_98, wX5_does_99, wX5_does_100, wX5_does_101, wX5_does_102, wX5_does_103, wX5_does_106, wX5_does_107, wX5_does_108, wX5_does_109, wX5_does_110, wX5_does_113, h1, cs_0, cs_i, cs_r, isE_ hg, bE he hC, aR_1, aR_v, n1_0, if_false, o_ hg he hc (show 0 < 9 by decide), o_ hg he hc (show 6 < 9 by decide), o_ hg he hc (show 1 < 9 by decide), hf, if_true, m_own hg he hc ho, hw, h6, e1, snd_ hg he hc hk (show 0 < 8 by decide) hR1, s_ hg he hc (show 0 < 9 by decide), s_ hg he hc (show 2 < 9 by decide), hv]
  exact rc e2 e3 e4
theorem m_does0 (hg : MG g mr) (hM : MS K S (r, q) (r2 mi 293 r) (r2 ml 294 q)) (hx : ¬ (isX x ∧ isC r y)) : RC g mr (r2 mi 293 r) (r2 ml 294 q) (callT (d + 4) mX5_does [.ref 292, .int x, .int y, .int (nI from_), .int (nI k), .int (nI s)] (g, r2 mi 293 r, r2 ml 294 q, mr)) 1 (.int (nI 0)) K S (r, q) := by
  have h1 := hg.1
  obtain ⟨mi', e1, e2, e3, e4⟩ := m_rcx (d := d + 1) (k := 1) hg hM (by decide)
  rw [eX5_does]
  simp only [wX5_does_0, wX5_does_1, wX5_does_2, wX5_does_3, wX5_does_6i, wX5_does_6r, wX5_does_6n, wX5_does_8, wX5_does_10, wX5_does_13, wX5_does_14, wX5_does_15, wX5_does_16, wX5_does_17, wX5_does_20, wX5_does_21, wX5_does_24, wX5_does_25, wX5_does_26, wX5_does_27, wX5_does_30, wX5_does_31, wX5_does_34, wX5_does_35, wX5_does_36, wX5_does_37, wX5_does_39, wX5_does_42, wX5_does_45, wX5_does_46, wX5_does_49, wX5_does_50i, wX5_does_50r, wX5_does_50n, wX5_does_52, wX5_does_53, wX5_does_55, wX5_does_58, wX5_does_59, wX5_does_62, wX5_does_64, wX5_does_67, wX5_does_68, wX5_does_71, wX5_does_72, wX5_does_75, wX5_does_78, wX5_does_79, wX5_does_80, wX5_does_81, wX5_does_82, wX5_does_83, wX5_does_85, wX5_does_86, wX5_does_89, wX5_does_90, wX5_does_91, wX5_does_92, wX5_does_93, wX5_does_95, wX5_does_98, wX5_does_99, wX5_does_100, wX5_does_101, wX5_does_102, wX5_does_103, wX5_does_106, wX5_does_107, wX5_does_108, wX5_does_109, wX5_does_110, wX5_does_113, h1, cs_0, cs_i, cs_r, isE_ hg, bE0 hx, aR_1, n1_0, if_false, e1, if_true]
  exact rc e2 e3 e4
theorem m_does2 (hg : MG g mr) (hM : MS K S (r, q) (r2 mi 293 r) (r2 ml 294 q)) (he : e < 2) (hc : c < 12) (hC : isC r (nI c)) (ho : okN (r (eI e c 1))) (hno : ¬ (r (eI e c 0) = nI from_ ∧ pOwn r e c = -1 ∧ r (eI e c 6) = nI 0)) : RC g mr (r2 mi 293 r) (r2 ml 294 q) (callT (d + 4) mX5_does [.ref 292, .int (nI e), .int (nI c), .int (nI from_), .int (nI k), .int (nI s)] (g, r2 mi 293 r, r2 ml 294 q, mr)) 2 (.int (nI 0)) K S (r, q) := by
  have h1 := hg.1
  obtain ⟨mi', e1, e2, e3, e4⟩ := m_rcx (d := d + 1) (k := 2) hg hM (by decide)
  rw [eX5_does]
  by_cases p1 : r (eI e c 0) = nI from_
  · by_cases p2 : pOwn r e c = -1
    · have p3 : ¬ r (eI e c 6) = nI 0 := fun h9 => hno ⟨p1, p2, h9⟩
      simp only [wX5_does_0, wX5_does_1, wX5_does_2, wX5_does_3, wX5_does_6i, wX5_does_6r, wX5_does_6n, wX5_does_8, wX5_does_10, wX5_does_13, wX5_does_14, wX5_does_15, wX5_does_16, wX5_does_17, wX5_does_20, wX5_does_21, wX5_does_24, wX5_does_25, wX5_does_26, wX5_does_27, wX5_does_30, wX5_does_31, wX5_does_34, wX5_does_35, wX5_does_36, wX5_does_37, wX5_does_39, wX5_does_42, wX5_does_45, wX5_does_46, wX5_does_49, wX5_does_50i, wX5_does_50r, wX5_does_50n, wX5_does_52, wX5_does_53, wX5_does_55, wX5_does_58, wX5_does_59, wX5_does_62, wX5_does_64, wX5_does_67, wX5_does_68, wX5_does_71, wX5_does_72, wX5_does_75, wX5_does_78, wX5_does_79, wX5_does_80, wX5_does_81, wX5_does_82, wX5_does_83, wX5_does_85, wX5_does_86, wX5_does_89, wX5_does_90, wX5_does_91, wX5_does_92, wX5_does_93, wX5_does_95, wX5_does_98, wX5_does_99, wX5_does_100, wX5_does_101, wX5_does_102, wX5_does_103, wX5_does_106, wX5_does_107, wX5_does_108, wX5_does_109, wX5_does_110, wX5_does_113, h1, cs_0, cs_i, cs_r, isE_ hg, bE he hC, aR_1, n1_0, if_false, o_ hg he hc (show 0 < 9 by decide), o_ hg he hc (show 6 < 9 by decide), p1, p2, p3, if_true, m_own hg he hc ho, e1]
      exact rc e2 e3 e4
    · simp only [wX5_does_0, wX5_does_1, wX5_does_2, wX5_does_3, wX5_does_6i, wX5_does_6r, wX5_does_6n, wX5_does_8, wX5_does_10, wX5_does_13, wX5_does_14, wX5_does_15, wX5_does_16, wX5_does_17, wX5_does_20, wX5_does_21, wX5_does_24, wX5_does_25, wX5_does_26, wX5_does_27, wX5_does_30, wX5_does_31, wX5_does_34, wX5_does_35, wX5_does_36, wX5_does_37, wX5_does_39, wX5_does_42, wX5_does_45, wX5_does_46, wX5_does_49, wX5_does_50i, wX5_does_50r, wX5_does_50n, wX5_does_52, wX5_does_53, wX5_does_55, wX5_does_58, wX5_does_59, wX5_does_62, wX5_does_64, wX5_does_67, wX5_does_68, wX5_does_71, wX5_does_72, wX5_does_75, wX5_does_78, wX5_does_79, wX5_does_80, wX5_does_81, wX5_does_82, wX5_does_83, wX5_does_85, wX5_does_86, wX5_does_89, wX5_does_90, wX5_does_91, wX5_does_92, wX5_does_93, wX5_does_95, wX5_does_98, wX5_does_99, wX5_does_100, wX5_does_101, wX5_does_102, wX5_does_103, wX5_does_106, wX5_does_107, wX5_does_108, wX5_does_109, wX5_does_110, wX5_does_113, h1, cs_0, cs_i, cs_r, isE_ hg, bE he hC, aR_1, n1_0, if_false, o_ hg he hc (show 0 < 9 by decide), p1, p2, if_true, m_own hg he hc ho, e1]
      exact rc e2 e3 e4
  · simp only [wX5_does_0, wX5_does_1, wX5_does_2, wX5_does_3, wX5_does_6i, wX5_does_6r, wX5_does_6n, wX5_does_8, wX5_does_10, wX5_does_13, wX5_does_14, wX5_does_15, wX5_does_16, wX5_does_17, wX5_does_20, wX5_does_21, wX5_does_24, wX5_does_25, wX5_does_26, wX5_does_27, wX5_does_30, wX5_does_31, wX5_does_34, wX5_does_35, wX5_does_36, wX5_does_37, wX5_does_39, wX5_does_42, wX5_does_45, wX5_does_46, wX5_does_49, wX5_does_50i, wX5_does_50r, wX5_does_50n, wX5_does_52, wX5_does_53, wX5_does_55, wX5_does_58, wX5_does_59, wX5_does_62, wX5_does_64, wX5_does_67, wX5_does_68, wX5_does_71, wX5_does_72, wX5_does_75, wX5_does_78, wX5_does_79, wX5_does_80, wX5_does_81, wX5_does_82, wX5_does_83, wX5_does_85, wX5_does_86, wX5_does_89, wX5_does_90, wX5_does_91, wX5_does_92, wX5_does_93, wX5_does_95, wX5_does_98, wX5_does_99, wX5_does_100, wX5_does_101, wX5_does_102, wX5_does_103, wX5_does_106, wX5_does_107, wX5_does_108, wX5_does_109, wX5_does_110, wX5_does_113, h1, cs_0, cs_i, cs_r, isE_ hg, bE he hC, aR_1, n1_0, if_false, o_ hg he hc (show 0 < 9 by decide), p1, if_true, e1]
    exact rc e2 e3 e4
/-- what four calls share -/
theorem RC.thru {M : Mth} {o : Option Res} (hr : RC g mr mi0 ml0 o a ret K S p) (f : Option Res → Option Res) (hf : ∀ mi ml, f (some (.inl (some ret), g, mi, ml, mr)) = some (.inl (some ret), g, mi, ml, mr)) : RC g mr mi0 ml0 (f o) a ret K S p := by
  obtain ⟨mi, ml, e1, e2⟩ := hr
  exact ⟨mi, ml, by rw [e1]; exact hf mi ml, e2⟩
theorem m_accept (hg : MG g mr) (hr : RC g mr mi0 ml0 (callT (d + 4) mX5_does [.ref 292, .int x, .int y, .int (nI 2), .int (nI 2), .int (nI 3)] (g, mi, ml, mr)) a (.int z) K S p) : RC g mr mi0 ml0 (callT (d + 5) mX5_accept [.ref 292, .int x, .int y] (g, mi, ml, mr)) a (.int z) K S p := by
  have h1 := hg.1
  obtain ⟨mi', ml', e1, e2⟩ := hr
  rw [eX5_accept]
  simp only [wX5_accept_0, wX5_accept_1, wX5_accept_2, wX5_accept_3, wX5_accept_4, wX5_accept_5, wX5_accept_6, wX5_accept_9, h1, cs_0, cs_i, cs_r, e1, aR_1]
  exact ⟨_, _, rfl, e2⟩
theorem m_answer (hg : MG g mr) (hr : RC g mr mi0 ml0 (callT (d + 4) mX5_does [.ref 292, .int x, .int y, .int (nI 3), .int (nI 3), .int (nI 4)] (g, mi, ml, mr)) a (.int z) K S p) : RC g mr mi0 ml0 (callT (d + 5) mX5_answer [.ref 292, .int x, .int y] (g, mi, ml, mr)) a (.int z) K S p := by
  have h1 := hg.1
  obtain ⟨mi', ml', e1, e2⟩ := hr
  rw [eX5_answer]
  simp only [wX5_answer_0, wX5_answer_1, wX5_answer_2, wX5_answer_3, wX5_answer_4, wX5_answer_5, wX5_answer_6, wX5_answer_9, h1, cs_0, cs_i, cs_r, e1, aR_1]
  exact ⟨_, _, rfl, e2⟩
theorem m_suspend (hg : MG g mr) (hr : RC g mr mi0 ml0 (callT (d + 4) mX5_does [.ref 292, .int x, .int y, .int (nI 4), .int (nI 4), .int (nI 5)] (g, mi, ml, mr)) a (.int z) K S p) : RC g mr mi0 ml0 (callT (d + 5) mX5_suspend [.ref 292, .int x, .int y] (g, mi, ml, mr)) a (.int z) K S p := by
  have h1 := hg.1
  obtain ⟨mi', ml', e1, e2⟩ := hr
  rw [eX5_suspend]
  simp only [wX5_suspend_0, wX5_suspend_1, wX5_suspend_2, wX5_suspend_3, wX5_suspend_4, wX5_suspend_5, wX5_suspend_6, wX5_suspend_9, h1, cs_0, cs_i, cs_r, e1, aR_1]
  exact ⟨_, _, rfl, e2⟩
theorem m_resume (hg : MG g mr) (hr : RC g mr mi0 ml0 (callT (d + 4) mX5_does [.ref 292, .int x, .int y, .int (nI 5), .int (nI 5), .int (nI 4)] (g, mi, ml, mr)) a (.int z) K S p) : RC g mr mi0 ml0 (callT (d + 5) mX5_resume [.ref 292, .int x, .int y] (g, mi, ml, mr)) a (.int z) K S p := by
  have h1 := hg.1
  obtain ⟨mi', ml', e1, e2⟩ := hr
  rw [eX5_resume]
  simp only [wX5_resume_0, wX5_resume_1, wX5_resume_2, wX5_resume_3, wX5_resume_4, wX5_resume_5, wX5_resume_6, wX5_resume_9, h1, cs_0, cs_i, cs_r, e1, aR_1]
  exact ⟨_, _, rfl, e2⟩
/-- release -/
theorem m_release1 (hg : MG g mr) (hM : MS K S (r, q) (r2 mi 293 r) (r2 ml 294 q)) (hR : Rm r 32) (he : e < 2) (hc : c < 12) (hC : isC r (nI c)) (ho : okN (r (eI e c 1))) (hs : nI 1 ≤ r (eI e c 0) ∧ r (eI e c 0) ≤ nI 5) : RC g mr (r2 mi 293 r) (r2 ml 294 q) (callT (d + 5) mX5_release [.ref 292, .int (nI e), .int (nI c)] (g, r2 mi 293 r, r2 ml 294 q, mr)) 0 (.int (r (eI e c 1))) (svK K) (svS K S (r, q)) (pRel r q e c 0) := by
  have h1 := hg.1
  obtain ⟨mi', ml', e1, e2, e3, e4⟩ := m_rc0 (d := d + 2) hg hM hR
  have hR1 : Rm r 1 := hR.mono rfl (by decide)
  rw [eX5_release]
  simp only [wX5_release_0, wX5_release_1, wX5_release_2, wX5_release_3, wX5_release_6i, wX5_release_6r, wX5_release_6n, wX5_release_7, wX5_release_8, wX5_release_11, wX5_release_12, wX5_release_13, wX5_release_14, wX5_release_15, wX5_release_18, wX5_release_19, wX5_release_20, wX5_release_23, wX5_release_26, wX5_release_27, wX5_release_30, wX5_release_31i, wX5_release_31r, wX5_release_31n, wX5_release_33, wX5_release_34, wX5_release_35, wX5_release_38, wX5_release_39, wX5_release_42, wX5_release_44, wX5_release_47, wX5_release_48, wX5_release_51, wX5_release_52, wX5_release_55, wX5_release_58, wX5_release_59, wX5_release_60, wX5_release_61, wX5_release_62, wX5_release_63, wX5_release_64, wX5_release_67i, wX5_release_67r, wX5_release_67n, wX5_release_69, wX5_release_70, wX5_release_71, wX5_release_72, wX5_release_73, wX5_release_76, wX5_release_78, h1, cs_0, cs_i, cs_r, isE_ hg, bE he hC, aR_1, aR_v, n1_0, if_false, o_ hg he hc (show 0 < 9 by decide), o_ hg he hc (show 1 < 9 by decide), m_in, bI_t hs, e1, if_true, m_rel hg he hc (show 0 < 8 by decide) hR1 ho]
  exact rc e2 e3 e4
theorem m_release0 (hg : MG g mr) (hM : MS K S (r, q) (r2 mi 293 r) (r2 ml 294 q)) (hx : ¬ (isX x ∧ isC r y)) : RC g mr (r2 mi 293 r) (r2 ml 294 q) (callT (d + 5) mX5_release [.ref 292, .int x, .int y] (g, r2 mi 293 r, r2 ml 294 q, mr)) 1 (.int (nI 0)) K S (r, q) := by
  have h1 := hg.1
  obtain ⟨mi', e1, e2, e3, e4⟩ := m_rcx (d := d + 2) (k := 1) hg hM (by decide)
  rw [eX5_release]
  simp only [wX5_release_0, wX5_release_1, wX5_release_2, wX5_release_3, wX5_release_6i, wX5_release_6r, wX5_release_6n, wX5_release_7, wX5_release_8, wX5_release_11, wX5_release_12, wX5_release_13, wX5_release_14, wX5_release_15, wX5_release_18, wX5_release_19, wX5_release_20, wX5_release_23, wX5_release_26, wX5_release_27, wX5_release_30, wX5_release_31i, wX5_release_31r, wX5_release_31n, wX5_release_33, wX5_release_34, wX5_release_35, wX5_release_38, wX5_release_39, wX5_release_42, wX5_release_44, wX5_release_47, wX5_release_48, wX5_release_51, wX5_release_52, wX5_release_55, wX5_release_58, wX5_release_59, wX5_release_60, wX5_release_61, wX5_release_62, wX5_release_63, wX5_release_64, wX5_release_67i, wX5_release_67r, wX5_release_67n, wX5_release_69, wX5_release_70, wX5_release_71, wX5_release_72, wX5_release_73, wX5_release_76, wX5_release_78, h1, cs_0, cs_i, cs_r, isE_ hg, bE0 hx, aR_1, n1_0, if_false, e1, if_true]
  exact rc e2 e3 e4
theorem m_release2 (hg : MG g mr) (hM : MS K S (r, q) (r2 mi 293 r) (r2 ml 294 q)) (he : e < 2) (hc : c < 12) (hC : isC r (nI c)) (hs : ¬ (nI 1 ≤ r (eI e c 0) ∧ r (eI e c 0) ≤ nI 5)) : RC g mr (r2 mi 293 r) (r2 ml 294 q) (callT (d + 5) mX5_release [.ref 292, .int (nI e), .int (nI c)] (g, r2 mi 293 r, r2 ml 294 q, mr)) 2 (.int (nI 0)) K S (r, q) := by
  have h1 := hg.1
  obtain ⟨mi', e1, e2, e3, e4⟩ := m_rcx (d := d + 2) (k := 2) hg hM (by decide)
  rw [eX5_release]
  simp only [wX5_release_0, wX5_release_1, wX5_release_2, wX5_release_3, wX5_release_6i, wX5_release_6r, wX5_release_6n, wX5_release_7, wX5_release_8, wX5_release_11, wX5_release_12, wX5_release_13, wX5_release_14, wX5_release_15, wX5_release_18, wX5_release_19, wX5_release_20, wX5_release_23, wX5_release_26, wX5_release_27, wX5_release_30, wX5_release_31i, wX5_release_31r, wX5_release_31n, wX5_release_33, wX5_release_34, wX5_release_35, wX5_release_38, wX5_release_39, wX5_release_42, wX5_release_44, wX5_release_47, wX5_release_48, wX5_release_51, wX5_release_52, wX5_release_55, wX5_release_58, wX5_release_59, wX5_release_60, wX5_release_61, wX5_release_62, wX5_release_63, wX5_release_64, wX5_release_67i, wX5_release_67r, wX5_release_67n, wX5_release_69, wX5_release_70, wX5_release_71, wX5_release_72, wX5_release_73, wX5_release_76, wX5_release_78, h1, cs_0, cs_i, cs_r, isE_ hg, bE he hC, aR_1, n1_0, if_false, o_ hg he hc (show 0 < 9 by decide), m_in, bI_f hs, e1, if_true]
  exact rc e2 e3 e4
end PUB2
