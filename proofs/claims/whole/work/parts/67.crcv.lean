/-! the class: what messages do -/
section CRCV
variable {X : Nat → Nat → Nat} {β T hh hb : Nat → Nat} {A : Nat × Nat} {s off N n a1 a2 b1 b2 L L' e c w k v j f a d o z x S t D p i C : Nat} {r r' r1 : Nat → Int32} {q : Nat → Int64} {g g' : Gh} {mi mi' : MI} {ml ml' : ML} {mr mr' : MR} {m : Ms} {y y0 y1 y2 but : Int32} {oo : Option Res} {ret : Option Value} {ps : PS}
theorem CS.idle (h : CS s off N n a1 a2 L r q g mi mr) (he : e < 2) (hc : c < 12) : CS s off N n a1 a2 L (pIdle r e c) q g (u2 (u2 (u2 (u2 (u2 mi (eA s e c) 2 (nI 0)) (eA s e c) 3 (-1)) (eA s e c) 4 (nI 0)) (eA s e c) 5 (nI 0)) (eA s e c) 9 (nI 0)) mr := h.en he hc
theorem JG.snd0 (hJ : JG X β T A hh hb N t D r q) (hA : A.1 < t + D) (he : e < 2) (hc : c < 12) (hk : k < 14) (hk0 : ¬ k = 0) (hv : v < 8) (hm : Rm r 1) : ∃ β', JG X β' T A hh hb N t D (pSend r q e c k v).1 (pSend r q e c k v).2 := ⟨_, JG.send (tg := (0, 0, 0)) hJ he hc hk hv hA (show 0 < 40 by decide) (fun h9 => absurd h9 hk0) (fun _ => rfl) (Or.inl rfl) hm⟩
theorem JG.st (hJ : JG X β T A hh hb N t D r q) (he : e < 2) (hc : c < 12) : ∃ s, s < 8 ∧ r (eI e c 0) = nI s := hJ.wf.st he hc
theorem clr_eq (hs : ∃ s, s < 8 ∧ y = nI s) : (y = nI 6 ∨ y = nI 7) ↔ (nI 6 ≤ y ∧ y ≤ nI 7) := by
  obtain ⟨s, h1, rfl⟩ := hs
  rw [nI_leI (by decide) (by omega), nI_leI (by omega) (by decide), nI_eq (by omega) (by decide), nI_eq (by omega) (by decide)]
  omega
theorem ref_eq (hs : ∃ s, s < 4 ∧ y = nI s) : (y = nI 1 ∨ y = nI 2) ↔ (nI 1 ≤ y ∧ y ≤ nI 2) := by
  obtain ⟨s, h1, rfl⟩ := hs
  rw [nI_leI (by decide) (by omega), nI_leI (by omega) (by decide), nI_eq (by omega) (by decide), nI_eq (by omega) (by decide)]
  omega
theorem JG.lb (hJ : JG X β T A hh hb N t D r q) (he : e < 2) (hc : c < 12) : ∃ s, s < 4 ∧ r (eI e c 4) = nI s := by
  obtain ⟨s, o, tm, ag, lb, rm, wt, vl, bt, ⟨v0, v1, v2, v3, v4, -⟩, hn, -, -⟩ := hJ.ej he hc
  exact ⟨lb, hn.1.2.2.2.2.1, v4⟩
theorem CRs.mk0 (h : CS s off N n a1 a2 L r' q g mi' mr) (hT : Tr s a1 a2 L g mi ml mr a1 a2 L g mi' ml mr) : CRs s off N a1 a2 L g mi ml mr (some (.inl none, g, mi', ml, mr)) none (r', q) := ⟨n, a1, a2, L, g, mi', ml, mr, rfl, h, hT⟩
theorem c_checked (h : CS s off N n a1 a2 L r q g mi mr) (he : e < 2) (hc : c < 12) (hv : v < 8) : CRs s off N a1 a2 L g mi ml mr (callT (d + 3) mX3_receiveChecked [.ref s, .ref (eA s e c), .int (nI v)] (g, mi, ml, mr)) none (pCk r e c v, q) := by
  have kE := h.kE he hc
  have v2 : mi (eA s e c) 2 = r (eI e c 0) := h.ev he hc (w := 0) (by decide) rfl
  have v9 : mi (eA s e c) 9 = r (eI e c 6) := h.ev he hc (w := 6) (by decide) rfl
  rw [eX3_receiveChecked]
  unfold pCk
  by_cases p1 : r (eI e c 0) = nI 2
  · by_cases p2 : r (eI e c 6) = nI 0
    · rw [if_neg (fun h9 => h9.2 p2)]
      simp only [wX3_receiveChecked_0, wX3_receiveChecked_1, wX3_receiveChecked_4, wX3_receiveChecked_5, wX3_receiveChecked_8, wX3_receiveChecked_9, wX3_receiveChecked_12, wX3_receiveChecked_15, wX3_receiveChecked_16, wX3_receiveChecked_17, wX3_receiveChecked_18, wX3_receiveChecked_21, wX3_receiveChecked_22, wX3_receiveChecked_23, wX3_receiveChecked_26, wX3_receiveChecked_27, wX3_receiveChecked_28, wX3_receiveChecked_31, wX3_receiveChecked_34, wX3_receiveChecked_35, wX3_receiveChecked_38, kE, v2, v9, p1, p2, if_true]
      exact CRs.mk0 h Tr.rf
    · rw [if_pos ⟨p1, p2⟩]
      by_cases p3 : v = 1
      · subst p3
        rw [if_pos rfl]
        simp only [wX3_receiveChecked_0, wX3_receiveChecked_1, wX3_receiveChecked_4, wX3_receiveChecked_5, wX3_receiveChecked_8, wX3_receiveChecked_9, wX3_receiveChecked_12, wX3_receiveChecked_15, wX3_receiveChecked_16, wX3_receiveChecked_17, wX3_receiveChecked_18, wX3_receiveChecked_21, wX3_receiveChecked_22, wX3_receiveChecked_23, wX3_receiveChecked_26, wX3_receiveChecked_27, wX3_receiveChecked_28, wX3_receiveChecked_31, wX3_receiveChecked_34, wX3_receiveChecked_35, wX3_receiveChecked_38, kE, v2, v9, p1, p2, if_true, if_false, true_or]
        exact CRs.mk0 ((h.ef (w := 6) (f := 9) he hc (by decide) (by decide) rfl).ef (w := 2) (f := 4) he hc (by decide) (by decide) rfl) ((Tr.rf.eA_ he hc).eA_ he hc)
      · have p3' : ¬ nI v = nI 1 := fun h9 => p3 ((nI_eq (by omega) (by decide)).mp h9)
        rw [if_neg p3]
        simp only [wX3_receiveChecked_0, wX3_receiveChecked_1, wX3_receiveChecked_4, wX3_receiveChecked_5, wX3_receiveChecked_8, wX3_receiveChecked_9, wX3_receiveChecked_12, wX3_receiveChecked_15, wX3_receiveChecked_16, wX3_receiveChecked_17, wX3_receiveChecked_18, wX3_receiveChecked_21, wX3_receiveChecked_22, wX3_receiveChecked_23, wX3_receiveChecked_26, wX3_receiveChecked_27, wX3_receiveChecked_28, wX3_receiveChecked_31, wX3_receiveChecked_34, wX3_receiveChecked_35, wX3_receiveChecked_38, kE, v2, v9, p1, p2, p3', if_true, if_false, cs_0, c_idle kE, aR_v]
        exact CRs.mk0 (h.idle he hc) (Tr.rf.en he hc)
  · rw [if_neg (fun h9 => p1 h9.1)]
    simp only [wX3_receiveChecked_0, wX3_receiveChecked_1, wX3_receiveChecked_4, wX3_receiveChecked_5, wX3_receiveChecked_8, wX3_receiveChecked_9, wX3_receiveChecked_12, wX3_receiveChecked_15, wX3_receiveChecked_16, wX3_receiveChecked_17, wX3_receiveChecked_18, wX3_receiveChecked_21, wX3_receiveChecked_22, wX3_receiveChecked_23, wX3_receiveChecked_26, wX3_receiveChecked_27, wX3_receiveChecked_28, wX3_receiveChecked_31, wX3_receiveChecked_34, wX3_receiveChecked_35, wX3_receiveChecked_38, kE, v2, p1, if_false]
    exact CRs.mk0 h Tr.rf
theorem go_row (h3 : r (eI e c 3) = nI 0) : cEn r e c y (r (eI e c 1)) y1 = sE (sE (sE r e c 0 y) e c 2 y1) e c 6 (nI 0) := by
  refine row_ext (e := e) (c := c) (fun w hw => ?_) (fun j hj => ?_)
  · have hw' : w = 0 ∨ w = 1 ∨ w = 2 ∨ w = 3 ∨ w = 4 ∨ w = 5 ∨ w = 6 ∨ w = 7 ∨ w = 8 := by omega
    rcases hw' with rfl | rfl | rfl | rfl | rfl | rfl | rfl | rfl | rfl <;> simp only [cEn, ev1, Nat.reduceLT, Nat.reduceEqDiff, if_true, if_false, Nat.zero_ne_one, Nat.one_ne_zero, h3]
  · unfold cEn sE
    simp only [u1_n (hj 0 (by decide)), u1_n (hj 1 (by decide)), u1_n (hj 2 (by decide)), u1_n (hj 3 (by decide)), u1_n (hj 6 (by decide))]
theorem c_advance (h : CS s off N n a1 a2 L r q g mi mr) (he : e < 2) (hc : c < 12) (hi : i < 40) (hm : r (eI e c 1) = nI i) (h3 : r (eI e c 3) = nI 0) : CRs s off N a1 a2 L g mi ml mr (callT (d + 2) mX3_advance [.ref s, .ref (eA s e c), .int y, .int y1, .int (nI p)] (g, mi, ml, mr)) none (pGo r e c y y1 p, q) := by
  obtain ⟨⟨⟨c1, -, -, c4, c5⟩, ⟨-, -, -, -, c10, c11⟩, ⟨c12, -⟩, -, c17⟩, -⟩ := id h
  have kE := h.kE he hc
  have q2 : i < 2147483648 := by omega
  obtain ⟨kc, rc⟩ := c17 i hi
  have v3 : mi (eA s e c) 3 = nI i := (h.ev he hc (w := 1) (by decide) rfl).trans hm
  have hka : g.1 (s + 3) = 23 ∨ g.1 (s + 3) = 24 ∨ g.1 (s + 3) = 25 := Or.inr (Or.inl c10)
  have h1 := h.en (e := e) (c := c) (y0 := y) (y1 := nI i) (y2 := y1) he hc
  have h2 := h1.c_ (m := i) (w := 3) (f := 4) (z := nI p) hi (by decide) rfl
  have w3 : u2 (u2 (u2 (u2 (u2 mi (eA s e c) 2 y) (eA s e c) 3 (nI i)) (eA s e c) 4 y1) (eA s e c) 5 (nI 0)) (eA s e c) 9 (nI 0) (eA s e c) 3 = nI i := by
    rw [u2_oth (by omega), u2_oth (by omega), u2_oth (by omega), u2_at]
  have hr : sC (cEn r e c y (nI i) y1) i 3 (nI p) = pGo r e c y y1 p := by
    unfold pGo
    rw [hm, clampN q2, ← hm, go_row h3]
  rw [hr] at h2
  rw [eX3_advance]
  simp only [wX3_advance_0, wX3_advance_1, wX3_advance_2, wX3_advance_3, wX3_advance_6, wX3_advance_7, wX3_advance_10, wX3_advance_11, wX3_advance_14, wX3_advance_15, wX3_advance_18, wX3_advance_19, wX3_advance_21, wX3_advance_24, c1, kE, v3, cs_0, cs_i, cs_r, c_enter kE, aR_v, c4, w3, hka, c11, hi, q2, rc, kc]
  exact CRs.mk0 h2 ((Tr.rf.en he hc).cA_ hi)
theorem c_progress (h : CS s off N n a1 a2 L r q g mi mr) (hJ : JG X β T A hh hb N t D r q) (he : e < 2) (hc : c < 12) (hk : 2 ≤ k ∧ k ≤ 5) : CRs s off N a1 a2 L g mi ml mr (callT (d + 3) mX3_receiveProgress [.ref s, .ref (eA s e c), .int (nI k)] (g, mi, ml, mr)) none (pRv r q e c k v i) := by
  have hF := hJ.fs
  have c1 := h.1.1.1
  have kE := h.kE he hc
  have v2 : mi (eA s e c) 2 = r (eI e c 0) := h.ev he hc (w := 0) (by decide) rfl
  have n23 : ¬ nI 2 = nI 3 := by decide
  have n24 : ¬ nI 2 = nI 4 := by decide
  have n25 : ¬ nI 2 = nI 5 := by decide
  have n32 : ¬ nI 3 = nI 2 := by decide
  have n34 : ¬ nI 3 = nI 4 := by decide
  have n35 : ¬ nI 3 = nI 5 := by decide
  have n42 : ¬ nI 4 = nI 2 := by decide
  have n43 : ¬ nI 4 = nI 3 := by decide
  have n45 : ¬ nI 4 = nI 5 := by decide
  have n52 : ¬ nI 5 = nI 2 := by decide
  have n53 : ¬ nI 5 = nI 3 := by decide
  have n54 : ¬ nI 5 = nI 4 := by decide
  have n31 : ¬ nI 3 = nI 1 := by decide
  rw [eX3_receiveProgress]
  by_cases p : pOwn r e c = -1
  · have hb_ : bI (¬ pOwn r e c = -1) = nI 0 := bI_f (fun h9 => h9 p)
    have hp : pRv r q e c k v i = (r, q) := by
      have hk' : k = 2 ∨ k = 3 ∨ k = 4 ∨ k = 5 := by omega
      rcases hk' with rfl | rfl | rfl | rfl
      · show (if r (eI e c 0) = nI 1 then _ else r, q) = _
        rw [if_neg (fun h9 => ?_)]
        obtain ⟨s', o, tm, ag, lb, rm, wt, vl, bt, ⟨w0, w1, -⟩, hn, b3, -⟩ := hJ.ej he hc
        unfold eV at w0 w1
        have hs' : s' = 1 := (nI_eq (by have := hn.1.1; omega) (by decide)).mp (w0.symm.trans h9)
        have ho := hn.2.1 hs'
        have ho2 : o ≤ 40 := Nat.le_trans hn.1.2.1 hF.2.2.2.1
        have hm := own_oI w1 ho ho2
        have nm : ¬ nI (o - 1) = -1 := by rw [nI_m1 (show o - 1 < 2147483648 by omega)]; exact id
        unfold pOwn at p
        rw [hm, clampN (show o - 1 < 2147483648 by omega), if_pos ⟨nm, b3 hs'⟩] at p
        exact nm p
      · show (if ¬ pOwn r e c = -1 ∧ _ then _ else r, q) = _; rw [if_neg (fun h9 => h9.1 p)]
      · show (if ¬ pOwn r e c = -1 ∧ _ then _ else r, q) = _; rw [if_neg (fun h9 => h9.1 p)]
      · show (if ¬ pOwn r e c = -1 ∧ _ then _ else r, q) = _; rw [if_neg (fun h9 => h9.1 p)]
    rw [hp]
    simp only [wX3_receiveProgress_0, wX3_receiveProgress_1, wX3_receiveProgress_2, wX3_receiveProgress_5, wX3_receiveProgress_8, wX3_receiveProgress_9, wX3_receiveProgress_10, wX3_receiveProgress_13i, wX3_receiveProgress_13r, wX3_receiveProgress_13n, wX3_receiveProgress_14, wX3_receiveProgress_15, wX3_receiveProgress_16, wX3_receiveProgress_19, wX3_receiveProgress_20, wX3_receiveProgress_21, wX3_receiveProgress_24, wX3_receiveProgress_25, wX3_receiveProgress_26, wX3_receiveProgress_27, wX3_receiveProgress_29, wX3_receiveProgress_30, wX3_receiveProgress_33, wX3_receiveProgress_36, wX3_receiveProgress_37, wX3_receiveProgress_38, wX3_receiveProgress_41, wX3_receiveProgress_42, wX3_receiveProgress_43, wX3_receiveProgress_46, wX3_receiveProgress_47, wX3_receiveProgress_48, wX3_receiveProgress_51, wX3_receiveProgress_52, wX3_receiveProgress_53, wX3_receiveProgress_54, wX3_receiveProgress_55, wX3_receiveProgress_56, wX3_receiveProgress_59, wX3_receiveProgress_62, wX3_receiveProgress_63, wX3_receiveProgress_64, wX3_receiveProgress_67, wX3_receiveProgress_68, wX3_receiveProgress_69, wX3_receiveProgress_72, wX3_receiveProgress_73, wX3_receiveProgress_74, wX3_receiveProgress_75, wX3_receiveProgress_77, wX3_receiveProgress_78, wX3_receiveProgress_81, wX3_receiveProgress_84, wX3_receiveProgress_85, wX3_receiveProgress_86, wX3_receiveProgress_89, wX3_receiveProgress_90, wX3_receiveProgress_91, wX3_receiveProgress_94, wX3_receiveProgress_95, wX3_receiveProgress_96, wX3_receiveProgress_97, wX3_receiveProgress_98, wX3_receiveProgress_99, wX3_receiveProgress_102, c1, cs_0, cs_i, cs_r, c_isOrigin h hF he hc, hb_, aR_1, if_true]
    exact CRs.mk0 h Tr.rf
  · have hb_ : bI (¬ pOwn r e c = -1) = nI 1 := bI_t p
    have ho := own_of p
    obtain ⟨o, k1, k2⟩ := hF.2.2.2.2.2 e c he hc
    have o1 : 1 ≤ o := Decidable.byContradiction (fun h9 => p (by rw [ho, k2, show o = 0 by omega]; rfl))
    have hN := hF.2.2.2.1
    have hm := own_oI k2 o1 (by omega)
    have q1 : o - 1 < 40 := by omega
    have go : ∀ {y y1 : Int32} {p : Nat}, ¬ r (eI e c 0) = nI 6 → ∃ n' b1 b2 L' g' mi' ml' mr', callT (d + 2) mX3_advance [.ref s, .ref (eA s e c), .int y, .int y1, .int (nI p)] (g, mi, ml, mr) = some (.inl none, g', mi', ml', mr') ∧ CS s off N n' b1 b2 L' (pGo r e c y y1 p) q g' mi' mr' ∧ Tr s a1 a2 L g mi ml mr b1 b2 L' g' mi' ml' mr' := fun h6 => c_advance h he hc q1 hm (hJ.ag0 he hc h6)
    have hk' : k = 2 ∨ k = 3 ∨ k = 4 ∨ k = 5 := by omega
    rcases hk' with rfl | rfl | rfl | rfl
    · show CRs _ _ _ _ _ _ _ _ _ _ _ _ (if r (eI e c 0) = nI 1 then pGo r e c (nI 3) (nI 60) 1 else r, q)
      by_cases p1 : r (eI e c 0) = nI 1
      · obtain ⟨n', b1, b2, L', g', mi', ml', mr', f1, f2, f3⟩ := go (y := nI 3) (y1 := nI 60) (p := 1) (by rw [p1]; decide)
        rw [if_pos p1]
        refine ⟨n', b1, b2, L', g', mi', ml', mr', ?_, f2, f3⟩
        simp only [wX3_receiveProgress_0, wX3_receiveProgress_1, wX3_receiveProgress_2, wX3_receiveProgress_5, wX3_receiveProgress_8, wX3_receiveProgress_9, wX3_receiveProgress_10, wX3_receiveProgress_13i, wX3_receiveProgress_13r, wX3_receiveProgress_13n, wX3_receiveProgress_14, wX3_receiveProgress_15, wX3_receiveProgress_16, wX3_receiveProgress_19, wX3_receiveProgress_20, wX3_receiveProgress_21, wX3_receiveProgress_24, wX3_receiveProgress_25, wX3_receiveProgress_26, wX3_receiveProgress_27, wX3_receiveProgress_29, wX3_receiveProgress_30, wX3_receiveProgress_33, wX3_receiveProgress_36, wX3_receiveProgress_37, wX3_receiveProgress_38, wX3_receiveProgress_41, wX3_receiveProgress_42, wX3_receiveProgress_43, wX3_receiveProgress_46, wX3_receiveProgress_47, wX3_receiveProgress_48, wX3_receiveProgress_51, wX3_receiveProgress_52, wX3_receiveProgress_53, wX3_receiveProgress_54, wX3_receiveProgress_55, wX3_receiveProgress_56, wX3_receiveProgress_59, wX3_receiveProgress_62, wX3_receiveProgress_63, wX3_receiveProgress_64, wX3_receiveProgress_67, wX3_receiveProgress_68, wX3_receiveProgress_69, wX3_receiveProgress_72, wX3_receiveProgress_73, wX3_receiveProgress_74, wX3_receiveProgress_75, wX3_receiveProgress_77, wX3_receiveProgress_78, wX3_receiveProgress_81, wX3_receiveProgress_84, wX3_receiveProgress_85, wX3_receiveProgress_86, wX3_receiveProgress_89, wX3_receiveProgress_90, wX3_receiveProgress_91, wX3_receiveProgress_94, wX3_receiveProgress_95, wX3_receiveProgress_96, wX3_receiveProgress_97, wX3_receiveProgress_98, wX3_receiveProgress_99, wX3_receiveProgress_102, c1, kE, cs_0, cs_i, cs_r, c_isOrigin h hF he hc, hb_, aR_1, aR_v, n1_0, if_false, v2, p1, if_true, f1]
      · rw [if_neg p1]
        simp only [wX3_receiveProgress_0, wX3_receiveProgress_1, wX3_receiveProgress_2, wX3_receiveProgress_5, wX3_receiveProgress_8, wX3_receiveProgress_9, wX3_receiveProgress_10, wX3_receiveProgress_13i, wX3_receiveProgress_13r, wX3_receiveProgress_13n, wX3_receiveProgress_14, wX3_receiveProgress_15, wX3_receiveProgress_16, wX3_receiveProgress_19, wX3_receiveProgress_20, wX3_receiveProgress_21, wX3_receiveProgress_24, wX3_receiveProgress_25, wX3_receiveProgress_26, wX3_receiveProgress_27, wX3_receiveProgress_29, wX3_receiveProgress_30, wX3_receiveProgress_33, wX3_receiveProgress_36, wX3_receiveProgress_37, wX3_receiveProgress_38, wX3_receiveProgress_41, wX3_receiveProgress_42, wX3_receiveProgress_43, wX3_receiveProgress_46, wX3_receiveProgress_47, wX3_receiveProgress_48, wX3_receiveProgress_51, wX3_receiveProgress_52, wX3_receiveProgress_53, wX3_receiveProgress_54, wX3_receiveProgress_55, wX3_receiveProgress_56, wX3_receiveProgress_59, wX3_receiveProgress_62, wX3_receiveProgress_63, wX3_receiveProgress_64, wX3_receiveProgress_67, wX3_receiveProgress_68, wX3_receiveProgress_69, wX3_receiveProgress_72, wX3_receiveProgress_73, wX3_receiveProgress_74, wX3_receiveProgress_75, wX3_receiveProgress_77, wX3_receiveProgress_78, wX3_receiveProgress_81, wX3_receiveProgress_84, wX3_receiveProgress_85, wX3_receiveProgress_86, wX3_receiveProgress_89, wX3_receiveProgress_90, wX3_receiveProgress_91, wX3_receiveProgress_94, wX3_receiveProgress_95, wX3_receiveProgress_96, wX3_receiveProgress_97, wX3_receiveProgress_98, wX3_receiveProgress_99, wX3_receiveProgress_102, c1, kE, cs_0, cs_i, cs_r, c_isOrigin h hF he hc, hb_, aR_1, aR_v, n1_0, if_false, v2, p1, if_true, n23, n24, n25]
        exact CRs.mk0 h Tr.rf
    · show CRs _ _ _ _ _ _ _ _ _ _ _ _ (if ¬ pOwn r e c = -1 ∧ (r (eI e c 0) = nI 1 ∨ r (eI e c 0) = nI 3) then pGo r e c (nI 4) (nI 0) 2 else r, q)
      by_cases p1 : r (eI e c 0) = nI 1
      · obtain ⟨n', b1, b2, L', g', mi', ml', mr', f1, f2, f3⟩ := go (y := nI 4) (y1 := nI 0) (p := 2) (by rw [p1]; decide)
        rw [if_pos ⟨p, Or.inl p1⟩]
        refine ⟨n', b1, b2, L', g', mi', ml', mr', ?_, f2, f3⟩
        simp only [wX3_receiveProgress_0, wX3_receiveProgress_1, wX3_receiveProgress_2, wX3_receiveProgress_5, wX3_receiveProgress_8, wX3_receiveProgress_9, wX3_receiveProgress_10, wX3_receiveProgress_13i, wX3_receiveProgress_13r, wX3_receiveProgress_13n, wX3_receiveProgress_14, wX3_receiveProgress_15, wX3_receiveProgress_16, wX3_receiveProgress_19, wX3_receiveProgress_20, wX3_receiveProgress_21, wX3_receiveProgress_24, wX3_receiveProgress_25, wX3_receiveProgress_26, wX3_receiveProgress_27, wX3_receiveProgress_29, wX3_receiveProgress_30, wX3_receiveProgress_33, wX3_receiveProgress_36, wX3_receiveProgress_37, wX3_receiveProgress_38, wX3_receiveProgress_41, wX3_receiveProgress_42, wX3_receiveProgress_43, wX3_receiveProgress_46, wX3_receiveProgress_47, wX3_receiveProgress_48, wX3_receiveProgress_51, wX3_receiveProgress_52, wX3_receiveProgress_53, wX3_receiveProgress_54, wX3_receiveProgress_55, wX3_receiveProgress_56, wX3_receiveProgress_59, wX3_receiveProgress_62, wX3_receiveProgress_63, wX3_receiveProgress_64, wX3_receiveProgress_67, wX3_receiveProgress_68, wX3_receiveProgress_69, wX3_receiveProgress_72, wX3_receiveProgress_73, wX3_receiveProgress_74, wX3_receiveProgress_75, wX3_receiveProgress_77, wX3_receiveProgress_78, wX3_receiveProgress_81, wX3_receiveProgress_84, wX3_receiveProgress_85, wX3_receiveProgress_86, wX3_receiveProgress_89, wX3_receiveProgress_90, wX3_receiveProgress_91, wX3_receiveProgress_94, wX3_receiveProgress_95, wX3_receiveProgress_96, wX3_receiveProgress_97, wX3_receiveProgress_98, wX3_receiveProgress_99, wX3_receiveProgress_102, c1, kE, cs_0, cs_i, cs_r, c_isOrigin h hF he hc, hb_, aR_1, aR_v, n1_0, if_false, v2, p1, if_true, n32, f1]
      · by_cases p3 : r (eI e c 0) = nI 3
        · obtain ⟨n', b1, b2, L', g', mi', ml', mr', f1, f2, f3⟩ := go (y := nI 4) (y1 := nI 0) (p := 2) (by rw [p3]; decide)
          rw [if_pos ⟨p, Or.inr p3⟩]
          refine ⟨n', b1, b2, L', g', mi', ml', mr', ?_, f2, f3⟩
          simp only [wX3_receiveProgress_0, wX3_receiveProgress_1, wX3_receiveProgress_2, wX3_receiveProgress_5, wX3_receiveProgress_8, wX3_receiveProgress_9, wX3_receiveProgress_10, wX3_receiveProgress_13i, wX3_receiveProgress_13r, wX3_receiveProgress_13n, wX3_receiveProgress_14, wX3_receiveProgress_15, wX3_receiveProgress_16, wX3_receiveProgress_19, wX3_receiveProgress_20, wX3_receiveProgress_21, wX3_receiveProgress_24, wX3_receiveProgress_25, wX3_receiveProgress_26, wX3_receiveProgress_27, wX3_receiveProgress_29, wX3_receiveProgress_30, wX3_receiveProgress_33, wX3_receiveProgress_36, wX3_receiveProgress_37, wX3_receiveProgress_38, wX3_receiveProgress_41, wX3_receiveProgress_42, wX3_receiveProgress_43, wX3_receiveProgress_46, wX3_receiveProgress_47, wX3_receiveProgress_48, wX3_receiveProgress_51, wX3_receiveProgress_52, wX3_receiveProgress_53, wX3_receiveProgress_54, wX3_receiveProgress_55, wX3_receiveProgress_56, wX3_receiveProgress_59, wX3_receiveProgress_62, wX3_receiveProgress_63, wX3_receiveProgress_64, wX3_receiveProgress_67, wX3_receiveProgress_68, wX3_receiveProgress_69, wX3_receiveProgress_72, wX3_receiveProgress_73, wX3_receiveProgress_74, wX3_receiveProgress_75, wX3_receiveProgress_77, wX3_receiveProgress_78, wX3_receiveProgress_81, wX3_receiveProgress_84, wX3_receiveProgress_85, wX3_receiveProgress_86, wX3_receiveProgress_89, wX3_receiveProgress_90, wX3_receiveProgress_91, wX3_receiveProgress_94, wX3_receiveProgress_95, wX3_receiveProgress_96, wX3_receiveProgress_97, wX3_receiveProgress_98, wX3_receiveProgress_99, wX3_receiveProgress_102, c1, kE, cs_0, cs_i, cs_r, c_isOrigin h hF he hc, hb_, aR_1, aR_v, n1_0, if_false, v2, p3, n31, if_true, n32, f1]
        · rw [if_neg (fun h9 => h9.2.elim p1 p3)]
          simp only [wX3_receiveProgress_0, wX3_receiveProgress_1, wX3_receiveProgress_2, wX3_receiveProgress_5, wX3_receiveProgress_8, wX3_receiveProgress_9, wX3_receiveProgress_10, wX3_receiveProgress_13i, wX3_receiveProgress_13r, wX3_receiveProgress_13n, wX3_receiveProgress_14, wX3_receiveProgress_15, wX3_receiveProgress_16, wX3_receiveProgress_19, wX3_receiveProgress_20, wX3_receiveProgress_21, wX3_receiveProgress_24, wX3_receiveProgress_25, wX3_receiveProgress_26, wX3_receiveProgress_27, wX3_receiveProgress_29, wX3_receiveProgress_30, wX3_receiveProgress_33, wX3_receiveProgress_36, wX3_receiveProgress_37, wX3_receiveProgress_38, wX3_receiveProgress_41, wX3_receiveProgress_42, wX3_receiveProgress_43, wX3_receiveProgress_46, wX3_receiveProgress_47, wX3_receiveProgress_48, wX3_receiveProgress_51, wX3_receiveProgress_52, wX3_receiveProgress_53, wX3_receiveProgress_54, wX3_receiveProgress_55, wX3_receiveProgress_56, wX3_receiveProgress_59, wX3_receiveProgress_62, wX3_receiveProgress_63, wX3_receiveProgress_64, wX3_receiveProgress_67, wX3_receiveProgress_68, wX3_receiveProgress_69, wX3_receiveProgress_72, wX3_receiveProgress_73, wX3_receiveProgress_74, wX3_receiveProgress_75, wX3_receiveProgress_77, wX3_receiveProgress_78, wX3_receiveProgress_81, wX3_receiveProgress_84, wX3_receiveProgress_85, wX3_receiveProgress_86, wX3_receiveProgress_89, wX3_receiveProgress_90, wX3_receiveProgress_91, wX3_receiveProgress_94, wX3_receiveProgress_95, wX3_receiveProgress_96, wX3_receiveProgress_97, wX3_receiveProgress_98, wX3_receiveProgress_99, wX3_receiveProgress_102, c1, kE, cs_0, cs_i, cs_r, c_isOrigin h hF he hc, hb_, aR_1, aR_v, n1_0, if_false, v2, p1, p3, if_true, n32, n34, n35]
          exact CRs.mk0 h Tr.rf
    · show CRs _ _ _ _ _ _ _ _ _ _ _ _ (if ¬ pOwn r e c = -1 ∧ r (eI e c 0) = nI 4 then pGo r e c (nI 5) (nI 40) 3 else r, q)
      by_cases p1 : r (eI e c 0) = nI 4
      · obtain ⟨n', b1, b2, L', g', mi', ml', mr', f1, f2, f3⟩ := go (y := nI 5) (y1 := nI 40) (p := 3) (by rw [p1]; decide)
        rw [if_pos ⟨p, p1⟩]
        refine ⟨n', b1, b2, L', g', mi', ml', mr', ?_, f2, f3⟩
        simp only [wX3_receiveProgress_0, wX3_receiveProgress_1, wX3_receiveProgress_2, wX3_receiveProgress_5, wX3_receiveProgress_8, wX3_receiveProgress_9, wX3_receiveProgress_10, wX3_receiveProgress_13i, wX3_receiveProgress_13r, wX3_receiveProgress_13n, wX3_receiveProgress_14, wX3_receiveProgress_15, wX3_receiveProgress_16, wX3_receiveProgress_19, wX3_receiveProgress_20, wX3_receiveProgress_21, wX3_receiveProgress_24, wX3_receiveProgress_25, wX3_receiveProgress_26, wX3_receiveProgress_27, wX3_receiveProgress_29, wX3_receiveProgress_30, wX3_receiveProgress_33, wX3_receiveProgress_36, wX3_receiveProgress_37, wX3_receiveProgress_38, wX3_receiveProgress_41, wX3_receiveProgress_42, wX3_receiveProgress_43, wX3_receiveProgress_46, wX3_receiveProgress_47, wX3_receiveProgress_48, wX3_receiveProgress_51, wX3_receiveProgress_52, wX3_receiveProgress_53, wX3_receiveProgress_54, wX3_receiveProgress_55, wX3_receiveProgress_56, wX3_receiveProgress_59, wX3_receiveProgress_62, wX3_receiveProgress_63, wX3_receiveProgress_64, wX3_receiveProgress_67, wX3_receiveProgress_68, wX3_receiveProgress_69, wX3_receiveProgress_72, wX3_receiveProgress_73, wX3_receiveProgress_74, wX3_receiveProgress_75, wX3_receiveProgress_77, wX3_receiveProgress_78, wX3_receiveProgress_81, wX3_receiveProgress_84, wX3_receiveProgress_85, wX3_receiveProgress_86, wX3_receiveProgress_89, wX3_receiveProgress_90, wX3_receiveProgress_91, wX3_receiveProgress_94, wX3_receiveProgress_95, wX3_receiveProgress_96, wX3_receiveProgress_97, wX3_receiveProgress_98, wX3_receiveProgress_99, wX3_receiveProgress_102, c1, kE, cs_0, cs_i, cs_r, c_isOrigin h hF he hc, hb_, aR_1, aR_v, n1_0, if_false, v2, p1, if_true, n42, n43, f1]
      · rw [if_neg (fun h9 => p1 h9.2)]
        simp only [wX3_receiveProgress_0, wX3_receiveProgress_1, wX3_receiveProgress_2, wX3_receiveProgress_5, wX3_receiveProgress_8, wX3_receiveProgress_9, wX3_receiveProgress_10, wX3_receiveProgress_13i, wX3_receiveProgress_13r, wX3_receiveProgress_13n, wX3_receiveProgress_14, wX3_receiveProgress_15, wX3_receiveProgress_16, wX3_receiveProgress_19, wX3_receiveProgress_20, wX3_receiveProgress_21, wX3_receiveProgress_24, wX3_receiveProgress_25, wX3_receiveProgress_26, wX3_receiveProgress_27, wX3_receiveProgress_29, wX3_receiveProgress_30, wX3_receiveProgress_33, wX3_receiveProgress_36, wX3_receiveProgress_37, wX3_receiveProgress_38, wX3_receiveProgress_41, wX3_receiveProgress_42, wX3_receiveProgress_43, wX3_receiveProgress_46, wX3_receiveProgress_47, wX3_receiveProgress_48, wX3_receiveProgress_51, wX3_receiveProgress_52, wX3_receiveProgress_53, wX3_receiveProgress_54, wX3_receiveProgress_55, wX3_receiveProgress_56, wX3_receiveProgress_59, wX3_receiveProgress_62, wX3_receiveProgress_63, wX3_receiveProgress_64, wX3_receiveProgress_67, wX3_receiveProgress_68, wX3_receiveProgress_69, wX3_receiveProgress_72, wX3_receiveProgress_73, wX3_receiveProgress_74, wX3_receiveProgress_75, wX3_receiveProgress_77, wX3_receiveProgress_78, wX3_receiveProgress_81, wX3_receiveProgress_84, wX3_receiveProgress_85, wX3_receiveProgress_86, wX3_receiveProgress_89, wX3_receiveProgress_90, wX3_receiveProgress_91, wX3_receiveProgress_94, wX3_receiveProgress_95, wX3_receiveProgress_96, wX3_receiveProgress_97, wX3_receiveProgress_98, wX3_receiveProgress_99, wX3_receiveProgress_102, c1, kE, cs_0, cs_i, cs_r, c_isOrigin h hF he hc, hb_, aR_1, aR_v, n1_0, if_false, v2, p1, if_true, n42, n43, n45]
        exact CRs.mk0 h Tr.rf
    · show CRs _ _ _ _ _ _ _ _ _ _ _ _ (if ¬ pOwn r e c = -1 ∧ r (eI e c 0) = nI 5 then pGo r e c (nI 4) (nI 0) 2 else r, q)
      by_cases p1 : r (eI e c 0) = nI 5
      · obtain ⟨n', b1, b2, L', g', mi', ml', mr', f1, f2, f3⟩ := go (y := nI 4) (y1 := nI 0) (p := 2) (by rw [p1]; decide)
        rw [if_pos ⟨p, p1⟩]
        refine ⟨n', b1, b2, L', g', mi', ml', mr', ?_, f2, f3⟩
        simp only [wX3_receiveProgress_0, wX3_receiveProgress_1, wX3_receiveProgress_2, wX3_receiveProgress_5, wX3_receiveProgress_8, wX3_receiveProgress_9, wX3_receiveProgress_10, wX3_receiveProgress_13i, wX3_receiveProgress_13r, wX3_receiveProgress_13n, wX3_receiveProgress_14, wX3_receiveProgress_15, wX3_receiveProgress_16, wX3_receiveProgress_19, wX3_receiveProgress_20, wX3_receiveProgress_21, wX3_receiveProgress_24, wX3_receiveProgress_25, wX3_receiveProgress_26, wX3_receiveProgress_27, wX3_receiveProgress_29, wX3_receiveProgress_30, wX3_receiveProgress_33, wX3_receiveProgress_36, wX3_receiveProgress_37, wX3_receiveProgress_38, wX3_receiveProgress_41, wX3_receiveProgress_42, wX3_receiveProgress_43, wX3_receiveProgress_46, wX3_receiveProgress_47, wX3_receiveProgress_48, wX3_receiveProgress_51, wX3_receiveProgress_52, wX3_receiveProgress_53, wX3_receiveProgress_54, wX3_receiveProgress_55, wX3_receiveProgress_56, wX3_receiveProgress_59, wX3_receiveProgress_62, wX3_receiveProgress_63, wX3_receiveProgress_64, wX3_receiveProgress_67, wX3_receiveProgress_68, wX3_receiveProgress_69, wX3_receiveProgress_72, wX3_receiveProgress_73, wX3_receiveProgress_74, wX3_receiveProgress_75, wX3_receiveProgress_77, wX3_receiveProgress_78, wX3_receiveProgress_81, wX3_receiveProgress_84, wX3_receiveProgress_85, wX3_receiveProgress_86, wX3_receiveProgress_89, wX3_receiveProgress_90, wX3_receiveProgress_91, wX3_receiveProgress_94, wX3_receiveProgress_95, wX3_receiveProgress_96, wX3_receiveProgress_97, wX3_receiveProgress_98, wX3_receiveProgress_99, wX3_receiveProgress_102, c1, kE, cs_0, cs_i, cs_r, c_isOrigin h hF he hc, hb_, aR_1, aR_v, n1_0, if_false, v2, p1, if_true, n52, n53, n54, f1]
      · rw [if_neg (fun h9 => p1 h9.2)]
        simp only [wX3_receiveProgress_0, wX3_receiveProgress_1, wX3_receiveProgress_2, wX3_receiveProgress_5, wX3_receiveProgress_8, wX3_receiveProgress_9, wX3_receiveProgress_10, wX3_receiveProgress_13i, wX3_receiveProgress_13r, wX3_receiveProgress_13n, wX3_receiveProgress_14, wX3_receiveProgress_15, wX3_receiveProgress_16, wX3_receiveProgress_19, wX3_receiveProgress_20, wX3_receiveProgress_21, wX3_receiveProgress_24, wX3_receiveProgress_25, wX3_receiveProgress_26, wX3_receiveProgress_27, wX3_receiveProgress_29, wX3_receiveProgress_30, wX3_receiveProgress_33, wX3_receiveProgress_36, wX3_receiveProgress_37, wX3_receiveProgress_38, wX3_receiveProgress_41, wX3_receiveProgress_42, wX3_receiveProgress_43, wX3_receiveProgress_46, wX3_receiveProgress_47, wX3_receiveProgress_48, wX3_receiveProgress_51, wX3_receiveProgress_52, wX3_receiveProgress_53, wX3_receiveProgress_54, wX3_receiveProgress_55, wX3_receiveProgress_56, wX3_receiveProgress_59, wX3_receiveProgress_62, wX3_receiveProgress_63, wX3_receiveProgress_64, wX3_receiveProgress_67, wX3_receiveProgress_68, wX3_receiveProgress_69, wX3_receiveProgress_72, wX3_receiveProgress_73, wX3_receiveProgress_74, wX3_receiveProgress_75, wX3_receiveProgress_77, wX3_receiveProgress_78, wX3_receiveProgress_81, wX3_receiveProgress_84, wX3_receiveProgress_85, wX3_receiveProgress_86, wX3_receiveProgress_89, wX3_receiveProgress_90, wX3_receiveProgress_91, wX3_receiveProgress_94, wX3_receiveProgress_95, wX3_receiveProgress_96, wX3_receiveProgress_97, wX3_receiveProgress_98, wX3_receiveProgress_99, wX3_receiveProgress_102, c1, kE, cs_0, cs_i, cs_r, c_isOrigin h hF he hc, hb_, aR_1, aR_v, n1_0, if_false, v2, p1, if_true, n52, n53, n54]
        exact CRs.mk0 h Tr.rf
theorem c_ir (h : CS s off N n a1 a2 L r q g mi mr) (hR : RmC L g) (hJ : JG X β T A hh hb N t D r q) (hA : A.1 < t + D) (hm : Rm r 2) (he : e < 2) (hc : c < 12) (hv : v < 8) : CRs s off N a1 a2 L g mi ml mr (callT (d + 6) mX3_receiveRelease [.ref s, .ref (eA s e c), .int (nI v)] (g, mi, ml, mr)) none (pIr r q e c v) := by
  obtain ⟨⟨⟨c1, -, -, c4, c5⟩, ⟨-, -, -, -, c10, c11⟩, ⟨c12, -⟩, -, c17⟩, -⟩ := id h
  have hm1 : Rm r 1 := hm.mono rfl (by decide)
  obtain ⟨n', b1, b2, L', g', mi', ml', mr', f1, f2, f3⟩ := c_snd (d := d + 2) (ml := ml) (q := q) (k := 7) (v := 0) h hR hJ.fs hm1 he hc (by decide) (by decide) (fun h9 => absurd h9 (by decide))
  obtain ⟨β', hJ1⟩ := hJ.snd0 hA he hc (show 7 < 14 by decide) (by decide) (show 0 < 8 by decide) hm1
  have hm2 : Rm (pSend r q e c 7 0).1 1 := hm.send (by decide) he
  unfold pIr
  generalize pSend r q e c 7 0 = P at f2 hJ1 hm2 ⊢
  obtain ⟨⟨⟨c1', -, -, c4', c5'⟩, ⟨-, -, -, -, c10', c11'⟩, -, -, c17'⟩, -⟩ := id f2
  have kE := f2.kE he hc
  have v2 : mi' (eA s e c) 2 = P.1 (eI e c 0) := f2.ev he hc (w := 0) (by decide) rfl
  have v3 : mi' (eA s e c) 3 = P.1 (eI e c 1) := f2.ev he hc (w := 1) (by decide) rfl
  have hcl := clr_eq (hJ1.st he hc)
  rw [eX3_receiveRelease]
  by_cases p1 : nI 6 ≤ P.1 (eI e c 0) ∧ P.1 (eI e c 0) ≤ nI 7
  · have hb_ : bI (P.1 (eI e c 0) = nI 6 ∨ P.1 (eI e c 0) = nI 7) = nI 1 := bI_t (hcl.mpr p1)
    rw [if_pos p1]
    simp only [wX3_receiveRelease_0, wX3_receiveRelease_1, wX3_receiveRelease_4, wX3_receiveRelease_5, wX3_receiveRelease_7, wX3_receiveRelease_8, wX3_receiveRelease_11, wX3_receiveRelease_12, wX3_receiveRelease_15, wX3_receiveRelease_18, wX3_receiveRelease_19, wX3_receiveRelease_20, wX3_receiveRelease_21, wX3_receiveRelease_24, wX3_receiveRelease_27, wX3_receiveRelease_28, wX3_receiveRelease_31, wX3_receiveRelease_34, wX3_receiveRelease_35i, wX3_receiveRelease_35r, wX3_receiveRelease_35n, wX3_receiveRelease_36, wX3_receiveRelease_37, wX3_receiveRelease_40, wX3_receiveRelease_41, wX3_receiveRelease_42, wX3_receiveRelease_45, wX3_receiveRelease_46, wX3_receiveRelease_47, wX3_receiveRelease_48, wX3_receiveRelease_51, wX3_receiveRelease_52, wX3_receiveRelease_53, wX3_receiveRelease_54, wX3_receiveRelease_57, wX3_receiveRelease_60, wX3_receiveRelease_61, wX3_receiveRelease_64, wX3_receiveRelease_65, wX3_receiveRelease_66, wX3_receiveRelease_67, wX3_receiveRelease_70, c1, c5, c12, cs_0, cs_i, cs_r, f1, aR_v, aR_1, kE, c_isClearing kE, v2, hb_, n1_0, if_false]
    exact ⟨n', b1, b2, L', g', mi', ml', mr', rfl, f2, f3⟩
  · have hb_ : bI (P.1 (eI e c 0) = nI 6 ∨ P.1 (eI e c 0) = nI 7) = nI 0 := bI_f (fun h9 => p1 (hcl.mp h9))
    rw [if_neg p1]
    have f4 := f2.idle (e := e) (c := c) he hc
    have f5 := f3.en (e := e) (c := c) (y0 := nI 0) (y1 := -1) (y2 := nI 0) he hc
    by_cases p2 : pOwn P.1 e c = -1
    · have hb2 : bI (¬ pOwn P.1 e c = -1) = nI 0 := bI_f (fun h9 => h9 p2)
      rw [if_pos p2]
      simp only [wX3_receiveRelease_0, wX3_receiveRelease_1, wX3_receiveRelease_4, wX3_receiveRelease_5, wX3_receiveRelease_7, wX3_receiveRelease_8, wX3_receiveRelease_11, wX3_receiveRelease_12, wX3_receiveRelease_15, wX3_receiveRelease_18, wX3_receiveRelease_19, wX3_receiveRelease_20, wX3_receiveRelease_21, wX3_receiveRelease_24, wX3_receiveRelease_27, wX3_receiveRelease_28, wX3_receiveRelease_31, wX3_receiveRelease_34, wX3_receiveRelease_35i, wX3_receiveRelease_35r, wX3_receiveRelease_35n, wX3_receiveRelease_36, wX3_receiveRelease_37, wX3_receiveRelease_40, wX3_receiveRelease_41, wX3_receiveRelease_42, wX3_receiveRelease_45, wX3_receiveRelease_46, wX3_receiveRelease_47, wX3_receiveRelease_48, wX3_receiveRelease_51, wX3_receiveRelease_52, wX3_receiveRelease_53, wX3_receiveRelease_54, wX3_receiveRelease_57, wX3_receiveRelease_60, wX3_receiveRelease_61, wX3_receiveRelease_64, wX3_receiveRelease_65, wX3_receiveRelease_66, wX3_receiveRelease_67, wX3_receiveRelease_70, c1, c1', c5, c12, cs_0, cs_i, cs_r, f1, aR_v, aR_1, kE, c_isClearing kE, v2, hb_, if_true, c_isOrigin f2 hJ1.fs he hc, hb2, c_idle kE]
      exact ⟨n', b1, b2, L', g', _, ml', mr', rfl, f4, f5⟩
    · have hb2 : bI (¬ pOwn P.1 e c = -1) = nI 1 := bI_t p2
      rw [if_neg p2]
      have ho := own_of p2
      have hN := hJ1.fs.2.2.2.1
      obtain ⟨o, k1, k2⟩ := hJ1.fs.2.2.2.2.2 e c he hc
      have o1 : 1 ≤ o := Decidable.byContradiction (fun h9 => p2 (by rw [ho, k2, show o = 0 by omega]; rfl))
      have hmn := own_oI k2 o1 (by omega)
      have q1 : o - 1 < 40 := by omega
      have q2 : o - 1 < 2147483648 := by omega
      have nm : ¬ nI (o - 1) = -1 := by rw [nI_m1 q2]; exact id
      rw [ho, hmn, clampN q2]
      by_cases p3 : v = 4
      · subst p3
        rw [if_pos rfl]
        obtain ⟨n2, d1, d2, L2, g2, m2, l2, r2', w1, w2, w3⟩ := (c_try (d := d) (ml := ml') (y := nI 4) (i := o - 1) f4 (hR.dd f3.2) (hJ1.idle he hc) (hm2.idle he hc) (by omega)).tr f5
        refine ⟨n2, d1, d2, L2, g2, m2, l2, r2', ?_, w2, w3⟩
        simp only [wX3_receiveRelease_0, wX3_receiveRelease_1, wX3_receiveRelease_4, wX3_receiveRelease_5, wX3_receiveRelease_7, wX3_receiveRelease_8, wX3_receiveRelease_11, wX3_receiveRelease_12, wX3_receiveRelease_15, wX3_receiveRelease_18, wX3_receiveRelease_19, wX3_receiveRelease_20, wX3_receiveRelease_21, wX3_receiveRelease_24, wX3_receiveRelease_27, wX3_receiveRelease_28, wX3_receiveRelease_31, wX3_receiveRelease_34, wX3_receiveRelease_35i, wX3_receiveRelease_35r, wX3_receiveRelease_35n, wX3_receiveRelease_36, wX3_receiveRelease_37, wX3_receiveRelease_40, wX3_receiveRelease_41, wX3_receiveRelease_42, wX3_receiveRelease_45, wX3_receiveRelease_46, wX3_receiveRelease_47, wX3_receiveRelease_48, wX3_receiveRelease_51, wX3_receiveRelease_52, wX3_receiveRelease_53, wX3_receiveRelease_54, wX3_receiveRelease_57, wX3_receiveRelease_60, wX3_receiveRelease_61, wX3_receiveRelease_64, wX3_receiveRelease_65, wX3_receiveRelease_66, wX3_receiveRelease_67, wX3_receiveRelease_70, c1, c1', c5, c12, cs_0, cs_i, cs_r, f1, aR_v, aR_1, kE, c_isClearing kE, v2, v3, hmn, hb_, if_true, c_isOrigin f2 hJ1.fs he hc, hb2, n1_0, if_false, c_idle kE, nm, w1]
      · have p3' : ¬ nI v = nI 4 := fun h9 => p3 ((nI_eq (by omega) (by decide)).mp h9)
        rw [if_neg p3]
        obtain ⟨kc, rc⟩ := c17' (o - 1) q1
        have hka : g'.1 (s + 3) = 23 ∨ g'.1 (s + 3) = 24 ∨ g'.1 (s + 3) = 25 := Or.inr (Or.inl c10')
        simp only [wX3_receiveRelease_0, wX3_receiveRelease_1, wX3_receiveRelease_4, wX3_receiveRelease_5, wX3_receiveRelease_7, wX3_receiveRelease_8, wX3_receiveRelease_11, wX3_receiveRelease_12, wX3_receiveRelease_15, wX3_receiveRelease_18, wX3_receiveRelease_19, wX3_receiveRelease_20, wX3_receiveRelease_21, wX3_receiveRelease_24, wX3_receiveRelease_27, wX3_receiveRelease_28, wX3_receiveRelease_31, wX3_receiveRelease_34, wX3_receiveRelease_35i, wX3_receiveRelease_35r, wX3_receiveRelease_35n, wX3_receiveRelease_36, wX3_receiveRelease_37, wX3_receiveRelease_40, wX3_receiveRelease_41, wX3_receiveRelease_42, wX3_receiveRelease_45, wX3_receiveRelease_46, wX3_receiveRelease_47, wX3_receiveRelease_48, wX3_receiveRelease_51, wX3_receiveRelease_52, wX3_receiveRelease_53, wX3_receiveRelease_54, wX3_receiveRelease_57, wX3_receiveRelease_60, wX3_receiveRelease_61, wX3_receiveRelease_64, wX3_receiveRelease_65, wX3_receiveRelease_66, wX3_receiveRelease_67, wX3_receiveRelease_70, c1, c1', c5, c12, cs_0, cs_i, cs_r, f1, aR_v, aR_1, kE, c_isClearing kE, v2, v3, hmn, hb_, if_true, c_isOrigin f2 hJ1.fs he hc, hb2, n1_0, if_false, c_idle kE, nm, p3', c4', hka, c11', q1, q2, rc, kc, c_finish kc]
        exact ⟨n', b1, b2, L', g', _, ml', mr', rfl, f4.fin q1, (f5.cA_ q1).cA_ q1⟩
end CRCV
