/-! the class: the timers count down -/
section CDWN
variable {X : Nat → Nat → Nat} {β T hh hb : Nat → Nat} {A : Nat × Nat} {s off N n a1 a2 b1 b2 L L' e c w k v j f a d o z x S t D p i C J B : Nat} {r r' r1 : Nat → Int32} {q : Nat → Int64} {g g' : Gh} {mi mi' : MI} {ml ml' : ML} {mr mr' : MR} {m : Ms} {y y0 y1 y2 but : Int32} {oo : Option Res} {ret : Option Value} {ps : PS}
/-- the first timer of an end -/
theorem cd_1 (h : CS s 0 N n a1 a2 L r q g mi mr) (hR : RmC L g) (hJ : JG X β T A hh hb N t D r q) (hA : A.1 < t + D) (hm : Rm r 2) (he : e < 2) (hc : c < 12) : ∃ n' b1 b2 L' g' mi' ml' mr', R (d + 7) mX3_countDown 24 [.ref s, .int (nI e), .int (nI c), .ref (eA s e c)] [] g mi ml mr = R (d + 7) mX3_countDown 53 [.ref s, .int (nI e), .int (nI c), .ref (eA s e c)] [] g' mi' ml' mr' ∧ CS s 0 N n' b1 b2 L' (pTm1 r q e c).1 (pTm1 r q e c).2 g' mi' mr' ∧ Tr s a1 a2 L g mi ml mr b1 b2 L' g' mi' ml' mr' := by
  have c1 := h.1.1.1
  have kE := h.kE he hc
  have v4 : mi (eA s e c) 4 = r (eI e c 2) := h.ev he hc (w := 2) (by decide) rfl
  unfold pTm1
  by_cases p1 : r (eI e c 2) ≤ nI 0
  · rw [if_pos p1]
    refine ⟨n, a1, a2, L, g, mi, ml, mr, ?_, h, Tr.rf⟩
    simp only [wX3_countDown_0, wX3_countDown_1i, wX3_countDown_1r, wX3_countDown_1n, wX3_countDown_3, wX3_countDown_4, wX3_countDown_7, wX3_countDown_8i, wX3_countDown_8r, wX3_countDown_8n, wX3_countDown_10, wX3_countDown_11, wX3_countDown_14, wX3_countDown_17, wX3_countDown_18, wX3_countDown_19, wX3_countDown_20, wX3_countDown_23i, wX3_countDown_23r, wX3_countDown_23n, wX3_countDown_24, wX3_countDown_25, wX3_countDown_28, wX3_countDown_31, wX3_countDown_32, wX3_countDown_33, wX3_countDown_36, wX3_countDown_37, wX3_countDown_38, wX3_countDown_41, wX3_countDown_42, wX3_countDown_45, wX3_countDown_48, wX3_countDown_49, wX3_countDown_50, wX3_countDown_54, wX3_countDown_57, wX3_countDown_60, wX3_countDown_61, wX3_countDown_62, wX3_countDown_65, wX3_countDown_66, wX3_countDown_67, wX3_countDown_70, wX3_countDown_71, wX3_countDown_74, wX3_countDown_77, wX3_countDown_78, wX3_countDown_79, wX3_countDown_82i, wX3_countDown_82r, wX3_countDown_82n, wX3_countDown_85, wX3_countDown_88i, wX3_countDown_88r, wX3_countDown_88n, wX3_countDown_91, wX3_countDown_94, kE, v4, p1, if_true]
  · rw [if_neg p1]
    have h1 := h.ef (e := e) (c := c) (w := 2) (f := 4) (z := r (eI e c 2) - nI 1) he hc (by decide) (by decide) rfl
    have hT : Tr s a1 a2 L g mi ml mr a1 a2 L g (u2 mi (eA s e c) 4 (r (eI e c 2) - nI 1)) ml mr := Tr.rf.eA_ he hc
    have w4 : u2 mi (eA s e c) 4 (r (eI e c 2) - nI 1) (eA s e c) 4 = r (eI e c 2) - nI 1 := u2_at
    by_cases p2 : r (eI e c 2) - nI 1 = nI 0
    · rw [if_pos p2]
      rw [p2] at h1 hT w4 ⊢
      obtain ⟨s', o, tm, ag, lb, rm, wt, vl, bt, ⟨x0, x1, x2, -⟩, hn', -, -⟩ := hJ.ej he hc
      unfold eV at x0 x2
      have htm : ¬ tm = 0 := fun h9 => p1 (by rw [x2, h9]; exact Int32.le_refl _)
      have hs04 : ¬ (s' = 0 ∨ s' = 4) := fun h9 => htm (hn'.2.2.2.1 h9)
      have hs8 := hn'.1.1
      have k0 : ¬ sE r e c 2 (nI 0) (eI e c 0) = nI 0 := by
        rw [sE_w (by decide) (by decide) (by decide), x0]
        exact fun h9 => hs04 (Or.inl ((nI_eq (by omega) (by decide)).mp h9))
      have k4 : ¬ sE r e c 2 (nI 0) (eI e c 0) = nI 4 := by
        rw [sE_w (by decide) (by decide) (by decide), x0]
        exact fun h9 => hs04 (Or.inr ((nI_eq (by omega) (by decide)).mp h9))
      obtain ⟨n', b1, b2, L', g', mi', ml', mr', f1, f2, f3⟩ := (c_act (d := d) (ml := ml) h1 hR (hJ.tm0 he hc) hA (hm.sE he hc (by decide)) he hc k0 k4).tr hT
      refine ⟨n', b1, b2, L', g', mi', ml', mr', ?_, f2, f3⟩
      simp only [wX3_countDown_0, wX3_countDown_1i, wX3_countDown_1r, wX3_countDown_1n, wX3_countDown_3, wX3_countDown_4, wX3_countDown_7, wX3_countDown_8i, wX3_countDown_8r, wX3_countDown_8n, wX3_countDown_10, wX3_countDown_11, wX3_countDown_14, wX3_countDown_17, wX3_countDown_18, wX3_countDown_19, wX3_countDown_20, wX3_countDown_23i, wX3_countDown_23r, wX3_countDown_23n, wX3_countDown_24, wX3_countDown_25, wX3_countDown_28, wX3_countDown_31, wX3_countDown_32, wX3_countDown_33, wX3_countDown_36, wX3_countDown_37, wX3_countDown_38, wX3_countDown_41, wX3_countDown_42, wX3_countDown_45, wX3_countDown_48, wX3_countDown_49, wX3_countDown_50, wX3_countDown_54, wX3_countDown_57, wX3_countDown_60, wX3_countDown_61, wX3_countDown_62, wX3_countDown_65, wX3_countDown_66, wX3_countDown_67, wX3_countDown_70, wX3_countDown_71, wX3_countDown_74, wX3_countDown_77, wX3_countDown_78, wX3_countDown_79, wX3_countDown_82i, wX3_countDown_82r, wX3_countDown_82n, wX3_countDown_85, wX3_countDown_88i, wX3_countDown_88r, wX3_countDown_88n, wX3_countDown_91, wX3_countDown_94, kE, v4, p1, if_false, p2, w4, if_true, c1, cs_0, cs_i, cs_r, f1, aR_v]
    · rw [if_neg p2]
      refine ⟨n, a1, a2, L, g, _, ml, mr, ?_, h1, hT⟩
      simp only [wX3_countDown_0, wX3_countDown_1i, wX3_countDown_1r, wX3_countDown_1n, wX3_countDown_3, wX3_countDown_4, wX3_countDown_7, wX3_countDown_8i, wX3_countDown_8r, wX3_countDown_8n, wX3_countDown_10, wX3_countDown_11, wX3_countDown_14, wX3_countDown_17, wX3_countDown_18, wX3_countDown_19, wX3_countDown_20, wX3_countDown_23i, wX3_countDown_23r, wX3_countDown_23n, wX3_countDown_24, wX3_countDown_25, wX3_countDown_28, wX3_countDown_31, wX3_countDown_32, wX3_countDown_33, wX3_countDown_36, wX3_countDown_37, wX3_countDown_38, wX3_countDown_41, wX3_countDown_42, wX3_countDown_45, wX3_countDown_48, wX3_countDown_49, wX3_countDown_50, wX3_countDown_54, wX3_countDown_57, wX3_countDown_60, wX3_countDown_61, wX3_countDown_62, wX3_countDown_65, wX3_countDown_66, wX3_countDown_67, wX3_countDown_70, wX3_countDown_71, wX3_countDown_74, wX3_countDown_77, wX3_countDown_78, wX3_countDown_79, wX3_countDown_82i, wX3_countDown_82r, wX3_countDown_82n, wX3_countDown_85, wX3_countDown_88i, wX3_countDown_88r, wX3_countDown_88n, wX3_countDown_91, wX3_countDown_94, kE, v4, p1, if_false, w4, p2]
/-- the timer of blocking -/
theorem cd_2 (h : CS s 0 N n a1 a2 L r q g mi mr) (hR : RmC L g) (hF : FS N t D r) (hm : Rm r 1) (he : e < 2) (hc : c < 12) : ∃ n' b1 b2 L' g' mi' ml' mr', R (d + 7) mX3_countDown 53 [.ref s, .int (nI e), .int (nI c), .ref (eA s e c)] [] g mi ml mr = R (d + 7) mX3_countDown 82 [.ref s, .int (nI e), .int (nI c), .ref (eA s e c)] [] g' mi' ml' mr' ∧ CS s 0 N n' b1 b2 L' (pTm2 r q e c).1 (pTm2 r q e c).2 g' mi' mr' ∧ Tr s a1 a2 L g mi ml mr b1 b2 L' g' mi' ml' mr' := by
  have c1 := h.1.1.1
  have kE := h.kE he hc
  have v6 : mi (eA s e c) 6 = r (eI e c 4) := h.ev he hc (w := 4) (by decide) rfl
  unfold pTm2
  by_cases p1 : r (eI e c 4) = nI 1 ∨ r (eI e c 4) = nI 3
  · have hbo : bOn (r (eI e c 4)) := p1
    have hb_ : bI (r (eI e c 4) = nI 1 ∨ r (eI e c 4) = nI 3) = nI 1 := bI_t p1
    have v7 : mi (eA s e c) 7 = r (eI e c 8) := (h.2.2.1.2.1 e c he hc).1 hbo
    rw [if_pos p1]
    have h1 := h.b8 (e := e) (c := c) (y := r (eI e c 8) - nI 1) he hc hbo
    have hT : Tr s a1 a2 L g mi ml mr a1 a2 L g (u2 mi (eA s e c) 7 (r (eI e c 8) - nI 1)) ml mr := Tr.rf.eA_ he hc
    have w7 : u2 mi (eA s e c) 7 (r (eI e c 8) - nI 1) (eA s e c) 7 = r (eI e c 8) - nI 1 := u2_at
    by_cases p2 : r (eI e c 8) - nI 1 = nI 0
    · rw [if_pos p2]
      rw [p2] at h1 hT w7 ⊢
      have e4 : sE r e c 8 (nI 0) (eI e c 4) = r (eI e c 4) := sE_w (by decide) (by decide) (by decide)
      have hp := c_rpb (d := d + 3) (ml := ml) h1 hR (hF.ef he hc (by decide) (by decide)) (hm.sE he hc (by decide)) he hc (by rw [e4]; exact hbo)
      rw [e4] at hp
      obtain ⟨n', b1, b2, L', g', mi', ml', mr', f1, f2, f3⟩ := hp.tr hT
      refine ⟨n', b1, b2, L', g', mi', ml', mr', ?_, f2, f3⟩
      simp only [wX3_countDown_0, wX3_countDown_1i, wX3_countDown_1r, wX3_countDown_1n, wX3_countDown_3, wX3_countDown_4, wX3_countDown_7, wX3_countDown_8i, wX3_countDown_8r, wX3_countDown_8n, wX3_countDown_10, wX3_countDown_11, wX3_countDown_14, wX3_countDown_17, wX3_countDown_18, wX3_countDown_19, wX3_countDown_20, wX3_countDown_23i, wX3_countDown_23r, wX3_countDown_23n, wX3_countDown_24, wX3_countDown_25, wX3_countDown_28, wX3_countDown_31, wX3_countDown_32, wX3_countDown_33, wX3_countDown_36, wX3_countDown_37, wX3_countDown_38, wX3_countDown_41, wX3_countDown_42, wX3_countDown_45, wX3_countDown_48, wX3_countDown_49, wX3_countDown_50, wX3_countDown_53, wX3_countDown_54, wX3_countDown_57, wX3_countDown_60, wX3_countDown_61, wX3_countDown_62, wX3_countDown_65, wX3_countDown_66, wX3_countDown_67, wX3_countDown_70, wX3_countDown_71, wX3_countDown_74, wX3_countDown_77, wX3_countDown_78, wX3_countDown_79, wX3_countDown_85, wX3_countDown_88i, wX3_countDown_88r, wX3_countDown_88n, wX3_countDown_91, wX3_countDown_94, kE, cs_0, cs_i, cs_r, c_awaits kE, v6, hb_, aR_1, n1_0, if_false, v7, p2, w7, if_true, c1, f1, aR_v]
    · rw [if_neg p2]
      refine ⟨n, a1, a2, L, g, _, ml, mr, ?_, h1, hT⟩
      simp only [wX3_countDown_0, wX3_countDown_1i, wX3_countDown_1r, wX3_countDown_1n, wX3_countDown_3, wX3_countDown_4, wX3_countDown_7, wX3_countDown_8i, wX3_countDown_8r, wX3_countDown_8n, wX3_countDown_10, wX3_countDown_11, wX3_countDown_14, wX3_countDown_17, wX3_countDown_18, wX3_countDown_19, wX3_countDown_20, wX3_countDown_23i, wX3_countDown_23r, wX3_countDown_23n, wX3_countDown_24, wX3_countDown_25, wX3_countDown_28, wX3_countDown_31, wX3_countDown_32, wX3_countDown_33, wX3_countDown_36, wX3_countDown_37, wX3_countDown_38, wX3_countDown_41, wX3_countDown_42, wX3_countDown_45, wX3_countDown_48, wX3_countDown_49, wX3_countDown_50, wX3_countDown_53, wX3_countDown_54, wX3_countDown_57, wX3_countDown_60, wX3_countDown_61, wX3_countDown_62, wX3_countDown_65, wX3_countDown_66, wX3_countDown_67, wX3_countDown_70, wX3_countDown_71, wX3_countDown_74, wX3_countDown_77, wX3_countDown_78, wX3_countDown_79, wX3_countDown_85, wX3_countDown_88i, wX3_countDown_88r, wX3_countDown_88n, wX3_countDown_91, wX3_countDown_94, kE, cs_0, cs_i, cs_r, c_awaits kE, v6, hb_, aR_1, n1_0, if_false, v7, w7, p2]
  · have hb_ : bI (r (eI e c 4) = nI 1 ∨ r (eI e c 4) = nI 3) = nI 0 := bI_f p1
    rw [if_neg p1]
    refine ⟨n, a1, a2, L, g, mi, ml, mr, ?_, h, Tr.rf⟩
    simp only [wX3_countDown_0, wX3_countDown_1i, wX3_countDown_1r, wX3_countDown_1n, wX3_countDown_3, wX3_countDown_4, wX3_countDown_7, wX3_countDown_8i, wX3_countDown_8r, wX3_countDown_8n, wX3_countDown_10, wX3_countDown_11, wX3_countDown_14, wX3_countDown_17, wX3_countDown_18, wX3_countDown_19, wX3_countDown_20, wX3_countDown_23i, wX3_countDown_23r, wX3_countDown_23n, wX3_countDown_24, wX3_countDown_25, wX3_countDown_28, wX3_countDown_31, wX3_countDown_32, wX3_countDown_33, wX3_countDown_36, wX3_countDown_37, wX3_countDown_38, wX3_countDown_41, wX3_countDown_42, wX3_countDown_45, wX3_countDown_48, wX3_countDown_49, wX3_countDown_50, wX3_countDown_53, wX3_countDown_54, wX3_countDown_57, wX3_countDown_60, wX3_countDown_61, wX3_countDown_62, wX3_countDown_65, wX3_countDown_66, wX3_countDown_67, wX3_countDown_70, wX3_countDown_71, wX3_countDown_74, wX3_countDown_77, wX3_countDown_78, wX3_countDown_79, wX3_countDown_85, wX3_countDown_88i, wX3_countDown_88r, wX3_countDown_88n, wX3_countDown_91, wX3_countDown_94, kE, cs_0, cs_i, cs_r, c_awaits kE, v6, hb_, aR_1, if_true]
/-- the circuits of one exchange -/
theorem cd_in (hB : B ≤ 12012) (he : e < 2) (ht : 1 ≤ t) : ∀ j c n a1 a2 L r q g mi ml mr hh hb u, c + j = 12 → CS s 0 N n a1 a2 L r q g mi mr → RmC L g → JG X (std B) (Tt t (12 * e + c)) (t, 0) hh hb N t D r q → ∃ n' b1 b2 L' g' mi' ml' mr' u' z', R (d + 7) mX3_countDown 9 [.ref s, .int (nI e), .int (nI c), u] [] g mi ml mr = R (d + 7) mX3_countDown 88 [.ref s, .int (nI e), .int z', u'] [] g' mi' ml' mr' ∧ CS s 0 N n' b1 b2 L' (pTms e j c (r, q)).1 (pTms e j c (r, q)).2 g' mi' mr' ∧ Tr s a1 a2 L g mi ml mr b1 b2 L' g' mi' ml' mr' := by
  intro j
  induction j with
  | zero =>
    intro c n a1 a2 L r q g mi ml mr hh hb u hc h hR hJ
    obtain ⟨⟨⟨C, g1, g2, g3⟩, -⟩, -⟩ := id hJ
    have c1 := h.1.1.1
    have v0 : mi s 0 = r 0 := h.lv (j := 0) (a := s) (f := 0) (by decide) (by decide) rfl rfl
    have hle : r 0 ≤ nI c := by rw [g3]; exact nI_le (by omega) (by omega)
    refine ⟨n, a1, a2, L, g, mi, ml, mr, u, nI c, ?_, h, Tr.rf⟩
    rw [wX3_countDown_9]
    simp only [wX3_countDown_0, wX3_countDown_1i, wX3_countDown_1r, wX3_countDown_1n, wX3_countDown_3, wX3_countDown_4, wX3_countDown_7, wX3_countDown_8i, wX3_countDown_8r, wX3_countDown_8n, wX3_countDown_10, wX3_countDown_11, wX3_countDown_14, wX3_countDown_17, wX3_countDown_18, wX3_countDown_19, wX3_countDown_20, wX3_countDown_23i, wX3_countDown_23r, wX3_countDown_23n, wX3_countDown_24, wX3_countDown_25, wX3_countDown_28, wX3_countDown_31, wX3_countDown_32, wX3_countDown_33, wX3_countDown_36, wX3_countDown_37, wX3_countDown_38, wX3_countDown_41, wX3_countDown_42, wX3_countDown_45, wX3_countDown_48, wX3_countDown_49, wX3_countDown_50, wX3_countDown_53, wX3_countDown_54, wX3_countDown_57, wX3_countDown_60, wX3_countDown_61, wX3_countDown_62, wX3_countDown_65, wX3_countDown_66, wX3_countDown_67, wX3_countDown_70, wX3_countDown_71, wX3_countDown_74, wX3_countDown_77, wX3_countDown_78, wX3_countDown_79, wX3_countDown_82i, wX3_countDown_82r, wX3_countDown_82n, wX3_countDown_85, wX3_countDown_91, wX3_countDown_94, c1, v0, hle, if_true]
  | succ j ih =>
    intro c n a1 a2 L r q g mi ml mr hh hb u hc h hR hJ
    have c1 := h.1.1.1
    have hc12 : c < 12 := by omega
    have v0 : mi s 0 = r 0 := h.lv (j := 0) (a := s) (f := 0) (by decide) (by decide) rfl rfl
    rw [wX3_countDown_9]
    by_cases p1 : nI c < r 0
    · have p2 : ¬ r 0 ≤ nI c := Int32.not_le.mpr p1
      have e1 : pTms e (j + 1) c (r, q) = pTms e j (c + 1) (pTm r q e c) := by show (if nI c < r 0 then _ else _) = _; rw [if_pos p1]
      have hm : Rm r 2 := (hJ.cap (std_cap hB)).mono rfl (by decide)
      have hD1 := hJ.2.1.2.2.2.1
      have hTt : Tt t (12 * e + c) (12 * e + c) + 1 = t := by unfold Tt; rw [if_neg (by omega)]; omega
      obtain ⟨h', -, hJ1⟩ := hJ.tm1 hB he hc12 rfl hTt
      have hm1 : Rm (pTm1 r q e c).1 1 := (hJ1.cap (std_cap hB)).mono rfl (by decide)
      obtain ⟨-, h'', hb'', hJ2⟩ := hJ.tmT hB he hc12 ht
      obtain ⟨n1, x1, x2, L1, g1, m1, l1, r1', y1, y2, y3⟩ := cd_1 (d := d) (ml := ml) h hR hJ (show t < t + D by omega) hm he hc12
      obtain ⟨n2, x3, x4, L2, g2, m2, l2, r2', y4, y5, y6⟩ := cd_2 (d := d) (ml := l1) y2 (hR.dd y3.2) hJ1.fs hm1 he hc12
      obtain ⟨n3, x5, x6, L3, g3, m3, l3, r3', u', z', y7, y8, y9⟩ := ih (c + 1) n2 x3 x4 L2 _ _ g2 m2 l2 r2' h'' hb'' (.ref (eA s e c)) (by omega) y5 ((hR.dd y3.2).dd y6.2) hJ2
      refine ⟨n3, x5, x6, L3, g3, m3, l3, r3', u', z', ?_, ?_, (y3.tr y6).tr y9⟩
      · simp only [wX3_countDown_0, wX3_countDown_1i, wX3_countDown_1r, wX3_countDown_1n, wX3_countDown_3, wX3_countDown_4, wX3_countDown_7, wX3_countDown_8i, wX3_countDown_8r, wX3_countDown_8n, wX3_countDown_10, wX3_countDown_11, wX3_countDown_14, wX3_countDown_17, wX3_countDown_18, wX3_countDown_19, wX3_countDown_20, wX3_countDown_23i, wX3_countDown_23r, wX3_countDown_23n, wX3_countDown_25, wX3_countDown_28, wX3_countDown_31, wX3_countDown_32, wX3_countDown_33, wX3_countDown_36, wX3_countDown_37, wX3_countDown_38, wX3_countDown_41, wX3_countDown_42, wX3_countDown_45, wX3_countDown_48, wX3_countDown_49, wX3_countDown_50, wX3_countDown_54, wX3_countDown_57, wX3_countDown_60, wX3_countDown_61, wX3_countDown_62, wX3_countDown_65, wX3_countDown_66, wX3_countDown_67, wX3_countDown_70, wX3_countDown_71, wX3_countDown_74, wX3_countDown_77, wX3_countDown_78, wX3_countDown_79, wX3_countDown_85, wX3_countDown_91, wX3_countDown_94, c1, v0, p2, if_false, cs_0, cs_i, cs_r, c_endAt h he hc12, aR_1]
        rw [y1, y4]
        simp only [wX3_countDown_0, wX3_countDown_1i, wX3_countDown_1r, wX3_countDown_1n, wX3_countDown_3, wX3_countDown_4, wX3_countDown_7, wX3_countDown_8i, wX3_countDown_8r, wX3_countDown_8n, wX3_countDown_10, wX3_countDown_11, wX3_countDown_14, wX3_countDown_17, wX3_countDown_18, wX3_countDown_19, wX3_countDown_20, wX3_countDown_23i, wX3_countDown_23r, wX3_countDown_23n, wX3_countDown_25, wX3_countDown_28, wX3_countDown_31, wX3_countDown_32, wX3_countDown_33, wX3_countDown_36, wX3_countDown_37, wX3_countDown_38, wX3_countDown_41, wX3_countDown_42, wX3_countDown_45, wX3_countDown_48, wX3_countDown_49, wX3_countDown_50, wX3_countDown_54, wX3_countDown_57, wX3_countDown_60, wX3_countDown_61, wX3_countDown_62, wX3_countDown_65, wX3_countDown_66, wX3_countDown_67, wX3_countDown_70, wX3_countDown_71, wX3_countDown_74, wX3_countDown_77, wX3_countDown_78, wX3_countDown_79, wX3_countDown_82i, wX3_countDown_82r, wX3_countDown_82n, wX3_countDown_85, wX3_countDown_91, wX3_countDown_94, nI_add]
        exact y7
      · rw [e1]; exact y8
    · have p2 : r 0 ≤ nI c := Int32.not_lt.mp p1
      have e1 : pTms e (j + 1) c (r, q) = (r, q) := by show (if nI c < r 0 then _ else _) = _; rw [if_neg p1]
      rw [e1]
      refine ⟨n, a1, a2, L, g, mi, ml, mr, u, nI c, ?_, h, Tr.rf⟩
      simp only [wX3_countDown_0, wX3_countDown_1i, wX3_countDown_1r, wX3_countDown_1n, wX3_countDown_3, wX3_countDown_4, wX3_countDown_7, wX3_countDown_8i, wX3_countDown_8r, wX3_countDown_8n, wX3_countDown_10, wX3_countDown_11, wX3_countDown_14, wX3_countDown_17, wX3_countDown_18, wX3_countDown_19, wX3_countDown_20, wX3_countDown_23i, wX3_countDown_23r, wX3_countDown_23n, wX3_countDown_24, wX3_countDown_25, wX3_countDown_28, wX3_countDown_31, wX3_countDown_32, wX3_countDown_33, wX3_countDown_36, wX3_countDown_37, wX3_countDown_38, wX3_countDown_41, wX3_countDown_42, wX3_countDown_45, wX3_countDown_48, wX3_countDown_49, wX3_countDown_50, wX3_countDown_53, wX3_countDown_54, wX3_countDown_57, wX3_countDown_60, wX3_countDown_61, wX3_countDown_62, wX3_countDown_65, wX3_countDown_66, wX3_countDown_67, wX3_countDown_70, wX3_countDown_71, wX3_countDown_74, wX3_countDown_77, wX3_countDown_78, wX3_countDown_79, wX3_countDown_82i, wX3_countDown_82r, wX3_countDown_82n, wX3_countDown_85, wX3_countDown_91, wX3_countDown_94, c1, v0, p2, if_true]
theorem c_down (h : CS s 0 N n a1 a2 L r q g mi mr) (hR : RmC L g) (hB : B ≤ 12012) (ht : 1 ≤ t) (hJ : JG X (std B) (Tt t 0) (t, 0) hh hb N t D r q) : CRs s 0 N a1 a2 L g mi ml mr (callT (d + 8) mX3_countDown [.ref s] (g, mi, ml, mr)) none (pTms 1 12 0 (pTms 0 12 0 (r, q))) := by
  have n20 : ¬ nI 2 ≤ nI 0 := by decide
  have n21 : ¬ nI 2 ≤ nI 1 := by decide
  have n22 : nI 2 ≤ nI 2 := by decide
  obtain ⟨h', hb', hJ2⟩ := JG.tms hB (e := 0) (by decide) ht 12 0 _ _ hh hb rfl hJ
  obtain ⟨n1, x1, x2, L1, g1, m1, l1, r1', u1', z1, y1, y2, y3⟩ := cd_in (d := d) (e := 0) hB (by decide) ht 12 0 n a1 a2 L r q g mi ml mr hh hb .null (by omega) h hR hJ
  obtain ⟨n2, x3, x4, L2, g2, m2, l2, r2', u2', z2, y4, y5, y6⟩ := cd_in (d := d) (e := 1) hB (by decide) ht 12 0 n1 x1 x2 L1 _ _ g1 m1 l1 r1' h' hb' u1' (by omega) y2 (hR.dd y3.2) hJ2
  refine ⟨n2, x3, x4, L2, g2, m2, l2, r2', ?_, y5, y3.tr y6⟩
  rw [eX3_countDown]
  simp only [wX3_countDown_0, wX3_countDown_1i, wX3_countDown_1r, wX3_countDown_1n, wX3_countDown_3, wX3_countDown_4, wX3_countDown_7, wX3_countDown_8i, wX3_countDown_8r, wX3_countDown_8n, wX3_countDown_10, wX3_countDown_11, wX3_countDown_14, wX3_countDown_17, wX3_countDown_18, wX3_countDown_19, wX3_countDown_20, wX3_countDown_23i, wX3_countDown_23r, wX3_countDown_23n, wX3_countDown_24, wX3_countDown_25, wX3_countDown_28, wX3_countDown_31, wX3_countDown_32, wX3_countDown_33, wX3_countDown_36, wX3_countDown_37, wX3_countDown_38, wX3_countDown_41, wX3_countDown_42, wX3_countDown_45, wX3_countDown_48, wX3_countDown_49, wX3_countDown_50, wX3_countDown_53, wX3_countDown_54, wX3_countDown_57, wX3_countDown_60, wX3_countDown_61, wX3_countDown_62, wX3_countDown_65, wX3_countDown_66, wX3_countDown_67, wX3_countDown_70, wX3_countDown_71, wX3_countDown_74, wX3_countDown_77, wX3_countDown_78, wX3_countDown_79, wX3_countDown_82i, wX3_countDown_82r, wX3_countDown_82n, wX3_countDown_85, wX3_countDown_88i, wX3_countDown_88r, wX3_countDown_88n, wX3_countDown_91, wX3_countDown_94]
  rw [wX3_countDown_2]
  simp only [wX3_countDown_0, wX3_countDown_1i, wX3_countDown_1r, wX3_countDown_1n, wX3_countDown_3, wX3_countDown_4, wX3_countDown_7, wX3_countDown_8i, wX3_countDown_8r, wX3_countDown_8n, wX3_countDown_10, wX3_countDown_11, wX3_countDown_14, wX3_countDown_17, wX3_countDown_18, wX3_countDown_19, wX3_countDown_20, wX3_countDown_23i, wX3_countDown_23r, wX3_countDown_23n, wX3_countDown_24, wX3_countDown_25, wX3_countDown_28, wX3_countDown_31, wX3_countDown_32, wX3_countDown_33, wX3_countDown_36, wX3_countDown_37, wX3_countDown_38, wX3_countDown_41, wX3_countDown_42, wX3_countDown_45, wX3_countDown_48, wX3_countDown_49, wX3_countDown_50, wX3_countDown_53, wX3_countDown_54, wX3_countDown_57, wX3_countDown_60, wX3_countDown_61, wX3_countDown_62, wX3_countDown_65, wX3_countDown_66, wX3_countDown_67, wX3_countDown_70, wX3_countDown_71, wX3_countDown_74, wX3_countDown_77, wX3_countDown_78, wX3_countDown_79, wX3_countDown_82i, wX3_countDown_82r, wX3_countDown_82n, wX3_countDown_85, wX3_countDown_88i, wX3_countDown_88r, wX3_countDown_88n, wX3_countDown_91, wX3_countDown_94, n20, if_false]
  rw [y1]
  simp only [wX3_countDown_0, wX3_countDown_1i, wX3_countDown_1r, wX3_countDown_1n, wX3_countDown_3, wX3_countDown_4, wX3_countDown_7, wX3_countDown_8i, wX3_countDown_8r, wX3_countDown_8n, wX3_countDown_10, wX3_countDown_11, wX3_countDown_14, wX3_countDown_17, wX3_countDown_18, wX3_countDown_19, wX3_countDown_20, wX3_countDown_23i, wX3_countDown_23r, wX3_countDown_23n, wX3_countDown_24, wX3_countDown_25, wX3_countDown_28, wX3_countDown_31, wX3_countDown_32, wX3_countDown_33, wX3_countDown_36, wX3_countDown_37, wX3_countDown_38, wX3_countDown_41, wX3_countDown_42, wX3_countDown_45, wX3_countDown_48, wX3_countDown_49, wX3_countDown_50, wX3_countDown_53, wX3_countDown_54, wX3_countDown_57, wX3_countDown_60, wX3_countDown_61, wX3_countDown_62, wX3_countDown_65, wX3_countDown_66, wX3_countDown_67, wX3_countDown_70, wX3_countDown_71, wX3_countDown_74, wX3_countDown_77, wX3_countDown_78, wX3_countDown_79, wX3_countDown_82i, wX3_countDown_82r, wX3_countDown_82n, wX3_countDown_85, wX3_countDown_88i, wX3_countDown_88r, wX3_countDown_88n, wX3_countDown_91, wX3_countDown_94, nI_add, Nat.reduceAdd]
  rw [wX3_countDown_2]
  simp only [wX3_countDown_0, wX3_countDown_1i, wX3_countDown_1r, wX3_countDown_1n, wX3_countDown_3, wX3_countDown_4, wX3_countDown_7, wX3_countDown_8i, wX3_countDown_8r, wX3_countDown_8n, wX3_countDown_10, wX3_countDown_11, wX3_countDown_14, wX3_countDown_17, wX3_countDown_18, wX3_countDown_19, wX3_countDown_20, wX3_countDown_23i, wX3_countDown_23r, wX3_countDown_23n, wX3_countDown_24, wX3_countDown_25, wX3_countDown_28, wX3_countDown_31, wX3_countDown_32, wX3_countDown_33, wX3_countDown_36, wX3_countDown_37, wX3_countDown_38, wX3_countDown_41, wX3_countDown_42, wX3_countDown_45, wX3_countDown_48, wX3_countDown_49, wX3_countDown_50, wX3_countDown_53, wX3_countDown_54, wX3_countDown_57, wX3_countDown_60, wX3_countDown_61, wX3_countDown_62, wX3_countDown_65, wX3_countDown_66, wX3_countDown_67, wX3_countDown_70, wX3_countDown_71, wX3_countDown_74, wX3_countDown_77, wX3_countDown_78, wX3_countDown_79, wX3_countDown_82i, wX3_countDown_82r, wX3_countDown_82n, wX3_countDown_85, wX3_countDown_88i, wX3_countDown_88r, wX3_countDown_88n, wX3_countDown_91, wX3_countDown_94, n21, if_false]
  rw [y4]
  simp only [wX3_countDown_0, wX3_countDown_1i, wX3_countDown_1r, wX3_countDown_1n, wX3_countDown_3, wX3_countDown_4, wX3_countDown_7, wX3_countDown_8i, wX3_countDown_8r, wX3_countDown_8n, wX3_countDown_10, wX3_countDown_11, wX3_countDown_14, wX3_countDown_17, wX3_countDown_18, wX3_countDown_19, wX3_countDown_20, wX3_countDown_23i, wX3_countDown_23r, wX3_countDown_23n, wX3_countDown_24, wX3_countDown_25, wX3_countDown_28, wX3_countDown_31, wX3_countDown_32, wX3_countDown_33, wX3_countDown_36, wX3_countDown_37, wX3_countDown_38, wX3_countDown_41, wX3_countDown_42, wX3_countDown_45, wX3_countDown_48, wX3_countDown_49, wX3_countDown_50, wX3_countDown_53, wX3_countDown_54, wX3_countDown_57, wX3_countDown_60, wX3_countDown_61, wX3_countDown_62, wX3_countDown_65, wX3_countDown_66, wX3_countDown_67, wX3_countDown_70, wX3_countDown_71, wX3_countDown_74, wX3_countDown_77, wX3_countDown_78, wX3_countDown_79, wX3_countDown_82i, wX3_countDown_82r, wX3_countDown_82n, wX3_countDown_85, wX3_countDown_88i, wX3_countDown_88r, wX3_countDown_88n, wX3_countDown_91, wX3_countDown_94, nI_add, Nat.reduceAdd]
  rw [wX3_countDown_2]
  simp only [wX3_countDown_0, wX3_countDown_1i, wX3_countDown_1r, wX3_countDown_1n, wX3_countDown_3, wX3_countDown_4, wX3_countDown_7, wX3_countDown_8i, wX3_countDown_8r, wX3_countDown_8n, wX3_countDown_10, wX3_countDown_11, wX3_countDown_14, wX3_countDown_17, wX3_countDown_18, wX3_countDown_19, wX3_countDown_20, wX3_countDown_23i, wX3_countDown_23r, wX3_countDown_23n, wX3_countDown_24, wX3_countDown_25, wX3_countDown_28, wX3_countDown_31, wX3_countDown_32, wX3_countDown_33, wX3_countDown_36, wX3_countDown_37, wX3_countDown_38, wX3_countDown_41, wX3_countDown_42, wX3_countDown_45, wX3_countDown_48, wX3_countDown_49, wX3_countDown_50, wX3_countDown_53, wX3_countDown_54, wX3_countDown_57, wX3_countDown_60, wX3_countDown_61, wX3_countDown_62, wX3_countDown_65, wX3_countDown_66, wX3_countDown_67, wX3_countDown_70, wX3_countDown_71, wX3_countDown_74, wX3_countDown_77, wX3_countDown_78, wX3_countDown_79, wX3_countDown_82i, wX3_countDown_82r, wX3_countDown_82n, wX3_countDown_85, wX3_countDown_88i, wX3_countDown_88r, wX3_countDown_88n, wX3_countDown_91, wX3_countDown_94, n22, if_true]
end CDWN
