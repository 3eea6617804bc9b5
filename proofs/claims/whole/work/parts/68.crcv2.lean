/-! the class: what messages do, on -/
section CRV2
variable {X : Nat → Nat → Nat} {β T hh hb : Nat → Nat} {A : Nat × Nat} {s off N n a1 a2 b1 b2 L L' e c w k v j f a d o z x S t D p i C : Nat} {r r' r1 : Nat → Int32} {q : Nat → Int64} {g g' : Gh} {mi mi' : MI} {ml ml' : ML} {mr mr' : MR} {m : Ms} {y y0 y1 y2 but : Int32} {oo : Option Res} {ret : Option Value} {ps : PS}
theorem CS.b4 (h : CS s off N n a1 a2 L r q g mi mr) (he : e < 2) (hc : c < 12) (hz : ¬ bOn y) : CS s off N n a1 a2 L (sE r e c 4 y) q g (u2 (u2 mi (eA s e c) 6 y) (eA s e c) 7 (nI 0)) mr := h.bk he hc (fun h9 => absurd h9 hz) (fun _ => rfl) sE_s (fun j h4 _ => u1_n h4)
theorem CS.b48 (h : CS s off N n a1 a2 L r q g mi mr) (he : e < 2) (hc : c < 12) (hz : bOn y) : CS s off N n a1 a2 L (sE (sE r e c 4 y) e c 8 y1) q g (u2 (u2 mi (eA s e c) 6 y) (eA s e c) 7 y1) mr := h.bk he hc (fun _ => sE_s.symm) (fun h9 => absurd hz h9) (by rw [sE_w (by decide) (by decide) (by decide), sE_s]) (fun j h4 h8 => (u1_n h8).trans (u1_n h4))
theorem c_rb (h : CS s off N n a1 a2 L r q g mi mr) (hR : RmC L g) (hF : FS N t D r) (hm : Rm r 1) (he : e < 2) (hc : c < 12) (hk : k = 8 ∨ k = 9 ∨ k = 10 ∨ k = 11) : CRs s off N a1 a2 L g mi ml mr (callT (d + 4) mX3_receiveBlocking [.ref s, .ref (eA s e c), .int (nI k)] (g, mi, ml, mr)) none (pRb r q e c k) := by
  obtain ⟨⟨⟨c1, -, -, c4, c5⟩, -, ⟨c12, -⟩, -, -⟩, -⟩ := id h
  have kE := h.kE he hc
  have v6 : mi (eA s e c) 6 = r (eI e c 4) := h.ev he hc (w := 4) (by decide) rfl
  have h5 := fun y => h.ef (e := e) (c := c) (w := 5) (f := 8) (z := y) he hc (by decide) (by decide) rfl
  have n98 : ¬ nI 9 = nI 8 := by decide
  have n910 : ¬ nI 9 = nI 10 := by decide
  have n911 : ¬ nI 9 = nI 11 := by decide
  have n108 : ¬ nI 10 = nI 8 := by decide
  have n118 : ¬ nI 11 = nI 8 := by decide
  have n119 : ¬ nI 11 = nI 9 := by decide
  have n1110 : ¬ nI 11 = nI 10 := by decide
  rw [eX3_receiveBlocking]
  rcases hk with rfl | rfl | rfl | rfl
  · obtain ⟨n', b1, b2, L', g', mi', ml', mr', f1, f2, f3⟩ := (c_snd (d := d) (ml := ml) (q := q) (k := 9) (v := 0) (h5 (nI 1)) hR (hF.ef he hc (by decide) (by decide)) (hm.sE he hc (by decide)) he hc (by decide) (by decide) (fun h9 => absurd h9 (by decide))).tr (Tr.rf.eA_ (ml := ml) he hc)
    refine ⟨n', b1, b2, L', g', mi', ml', mr', ?_, f2, f3⟩
    simp only [wX3_receiveBlocking_0, wX3_receiveBlocking_1, wX3_receiveBlocking_3, wX3_receiveBlocking_6, wX3_receiveBlocking_7, wX3_receiveBlocking_8, wX3_receiveBlocking_11, wX3_receiveBlocking_12, wX3_receiveBlocking_15, wX3_receiveBlocking_16, wX3_receiveBlocking_18, wX3_receiveBlocking_19, wX3_receiveBlocking_22, wX3_receiveBlocking_25, wX3_receiveBlocking_26, wX3_receiveBlocking_28, wX3_receiveBlocking_31, wX3_receiveBlocking_32, wX3_receiveBlocking_33, wX3_receiveBlocking_36, wX3_receiveBlocking_37, wX3_receiveBlocking_40, wX3_receiveBlocking_41, wX3_receiveBlocking_43, wX3_receiveBlocking_44, wX3_receiveBlocking_47, wX3_receiveBlocking_50, wX3_receiveBlocking_51, wX3_receiveBlocking_53, wX3_receiveBlocking_56, wX3_receiveBlocking_57, wX3_receiveBlocking_60, wX3_receiveBlocking_61, wX3_receiveBlocking_64, wX3_receiveBlocking_65, wX3_receiveBlocking_66, wX3_receiveBlocking_67, wX3_receiveBlocking_70, wX3_receiveBlocking_73, wX3_receiveBlocking_74, wX3_receiveBlocking_76, wX3_receiveBlocking_79, wX3_receiveBlocking_80, wX3_receiveBlocking_83, wX3_receiveBlocking_84, wX3_receiveBlocking_87, wX3_receiveBlocking_88, wX3_receiveBlocking_89, wX3_receiveBlocking_90, wX3_receiveBlocking_93, c1, c5, c12, kE, cs_0, cs_i, cs_r, f1, aR_v, if_true, or_true]
  · show CRs _ _ _ _ _ _ _ _ _ _ _ _ (pFrom r e c 4 (nI 1) (nI 2), q)
    unfold pFrom
    by_cases p1 : r (eI e c 4) = nI 1
    · rw [if_pos p1]
      simp only [wX3_receiveBlocking_0, wX3_receiveBlocking_1, wX3_receiveBlocking_3, wX3_receiveBlocking_6, wX3_receiveBlocking_7, wX3_receiveBlocking_8, wX3_receiveBlocking_11, wX3_receiveBlocking_12, wX3_receiveBlocking_15, wX3_receiveBlocking_16, wX3_receiveBlocking_18, wX3_receiveBlocking_19, wX3_receiveBlocking_22, wX3_receiveBlocking_25, wX3_receiveBlocking_26, wX3_receiveBlocking_28, wX3_receiveBlocking_31, wX3_receiveBlocking_32, wX3_receiveBlocking_33, wX3_receiveBlocking_36, wX3_receiveBlocking_37, wX3_receiveBlocking_40, wX3_receiveBlocking_41, wX3_receiveBlocking_43, wX3_receiveBlocking_44, wX3_receiveBlocking_47, wX3_receiveBlocking_50, wX3_receiveBlocking_51, wX3_receiveBlocking_53, wX3_receiveBlocking_56, wX3_receiveBlocking_57, wX3_receiveBlocking_60, wX3_receiveBlocking_61, wX3_receiveBlocking_64, wX3_receiveBlocking_65, wX3_receiveBlocking_66, wX3_receiveBlocking_67, wX3_receiveBlocking_70, wX3_receiveBlocking_73, wX3_receiveBlocking_74, wX3_receiveBlocking_76, wX3_receiveBlocking_79, wX3_receiveBlocking_80, wX3_receiveBlocking_83, wX3_receiveBlocking_84, wX3_receiveBlocking_87, wX3_receiveBlocking_88, wX3_receiveBlocking_89, wX3_receiveBlocking_90, wX3_receiveBlocking_93, c1, kE, cs_0, cs_i, cs_r, v6, p1, n98, n910, if_false, if_true, c_slb kE, aR_v]
      exact CRs.mk0 (h.b4 he hc (by unfold bOn; decide)) ((Tr.rf.eA_ he hc).eA_ he hc)
    · rw [if_neg p1]
      simp only [wX3_receiveBlocking_0, wX3_receiveBlocking_1, wX3_receiveBlocking_3, wX3_receiveBlocking_6, wX3_receiveBlocking_7, wX3_receiveBlocking_8, wX3_receiveBlocking_11, wX3_receiveBlocking_12, wX3_receiveBlocking_15, wX3_receiveBlocking_16, wX3_receiveBlocking_18, wX3_receiveBlocking_19, wX3_receiveBlocking_22, wX3_receiveBlocking_25, wX3_receiveBlocking_26, wX3_receiveBlocking_28, wX3_receiveBlocking_31, wX3_receiveBlocking_32, wX3_receiveBlocking_33, wX3_receiveBlocking_36, wX3_receiveBlocking_37, wX3_receiveBlocking_40, wX3_receiveBlocking_41, wX3_receiveBlocking_43, wX3_receiveBlocking_44, wX3_receiveBlocking_47, wX3_receiveBlocking_50, wX3_receiveBlocking_51, wX3_receiveBlocking_53, wX3_receiveBlocking_56, wX3_receiveBlocking_57, wX3_receiveBlocking_60, wX3_receiveBlocking_61, wX3_receiveBlocking_64, wX3_receiveBlocking_65, wX3_receiveBlocking_66, wX3_receiveBlocking_67, wX3_receiveBlocking_70, wX3_receiveBlocking_73, wX3_receiveBlocking_74, wX3_receiveBlocking_76, wX3_receiveBlocking_79, wX3_receiveBlocking_80, wX3_receiveBlocking_83, wX3_receiveBlocking_84, wX3_receiveBlocking_87, wX3_receiveBlocking_88, wX3_receiveBlocking_89, wX3_receiveBlocking_90, wX3_receiveBlocking_93, c1, kE, cs_0, cs_i, cs_r, v6, p1, n98, n910, n911, if_false, if_true]
      exact CRs.mk0 (h.eqv (fun j => by
        show u1 r (eI e c 4) (r (eI e c 4)) j = r j
        unfold u1
        split
        · rename_i h9; rw [h9]
        · rfl)) Tr.rf
  · obtain ⟨n', b1, b2, L', g', mi', ml', mr', f1, f2, f3⟩ := (c_snd (d := d) (ml := ml) (q := q) (k := 11) (v := 0) (h5 (nI 0)) hR (hF.ef he hc (by decide) (by decide)) (hm.sE he hc (by decide)) he hc (by decide) (by decide) (fun h9 => absurd h9 (by decide))).tr (Tr.rf.eA_ (ml := ml) he hc)
    refine ⟨n', b1, b2, L', g', mi', ml', mr', ?_, f2, f3⟩
    simp only [wX3_receiveBlocking_0, wX3_receiveBlocking_1, wX3_receiveBlocking_3, wX3_receiveBlocking_6, wX3_receiveBlocking_7, wX3_receiveBlocking_8, wX3_receiveBlocking_11, wX3_receiveBlocking_12, wX3_receiveBlocking_15, wX3_receiveBlocking_16, wX3_receiveBlocking_18, wX3_receiveBlocking_19, wX3_receiveBlocking_22, wX3_receiveBlocking_25, wX3_receiveBlocking_26, wX3_receiveBlocking_28, wX3_receiveBlocking_31, wX3_receiveBlocking_32, wX3_receiveBlocking_33, wX3_receiveBlocking_36, wX3_receiveBlocking_37, wX3_receiveBlocking_40, wX3_receiveBlocking_41, wX3_receiveBlocking_43, wX3_receiveBlocking_44, wX3_receiveBlocking_47, wX3_receiveBlocking_50, wX3_receiveBlocking_51, wX3_receiveBlocking_53, wX3_receiveBlocking_56, wX3_receiveBlocking_57, wX3_receiveBlocking_60, wX3_receiveBlocking_61, wX3_receiveBlocking_64, wX3_receiveBlocking_65, wX3_receiveBlocking_66, wX3_receiveBlocking_67, wX3_receiveBlocking_70, wX3_receiveBlocking_73, wX3_receiveBlocking_74, wX3_receiveBlocking_76, wX3_receiveBlocking_79, wX3_receiveBlocking_80, wX3_receiveBlocking_83, wX3_receiveBlocking_84, wX3_receiveBlocking_87, wX3_receiveBlocking_88, wX3_receiveBlocking_89, wX3_receiveBlocking_90, wX3_receiveBlocking_93, c1, c5, c12, kE, cs_0, cs_i, cs_r, f1, aR_v, n108, if_false, if_true, true_or]
  · show CRs _ _ _ _ _ _ _ _ _ _ _ _ (pFrom r e c 4 (nI 3) (nI 0), q)
    unfold pFrom
    by_cases p1 : r (eI e c 4) = nI 3
    · rw [if_pos p1]
      simp only [wX3_receiveBlocking_0, wX3_receiveBlocking_1, wX3_receiveBlocking_3, wX3_receiveBlocking_6, wX3_receiveBlocking_7, wX3_receiveBlocking_8, wX3_receiveBlocking_11, wX3_receiveBlocking_12, wX3_receiveBlocking_15, wX3_receiveBlocking_16, wX3_receiveBlocking_18, wX3_receiveBlocking_19, wX3_receiveBlocking_22, wX3_receiveBlocking_25, wX3_receiveBlocking_26, wX3_receiveBlocking_28, wX3_receiveBlocking_31, wX3_receiveBlocking_32, wX3_receiveBlocking_33, wX3_receiveBlocking_36, wX3_receiveBlocking_37, wX3_receiveBlocking_40, wX3_receiveBlocking_41, wX3_receiveBlocking_43, wX3_receiveBlocking_44, wX3_receiveBlocking_47, wX3_receiveBlocking_50, wX3_receiveBlocking_51, wX3_receiveBlocking_53, wX3_receiveBlocking_56, wX3_receiveBlocking_57, wX3_receiveBlocking_60, wX3_receiveBlocking_61, wX3_receiveBlocking_64, wX3_receiveBlocking_65, wX3_receiveBlocking_66, wX3_receiveBlocking_67, wX3_receiveBlocking_70, wX3_receiveBlocking_73, wX3_receiveBlocking_74, wX3_receiveBlocking_76, wX3_receiveBlocking_79, wX3_receiveBlocking_80, wX3_receiveBlocking_83, wX3_receiveBlocking_84, wX3_receiveBlocking_87, wX3_receiveBlocking_88, wX3_receiveBlocking_89, wX3_receiveBlocking_90, wX3_receiveBlocking_93, c1, kE, cs_0, cs_i, cs_r, v6, p1, n118, n119, n1110, if_false, if_true, c_slb kE, aR_v]
      exact CRs.mk0 (h.b4 he hc (by unfold bOn; decide)) ((Tr.rf.eA_ he hc).eA_ he hc)
    · rw [if_neg p1]
      simp only [wX3_receiveBlocking_0, wX3_receiveBlocking_1, wX3_receiveBlocking_3, wX3_receiveBlocking_6, wX3_receiveBlocking_7, wX3_receiveBlocking_8, wX3_receiveBlocking_11, wX3_receiveBlocking_12, wX3_receiveBlocking_15, wX3_receiveBlocking_16, wX3_receiveBlocking_18, wX3_receiveBlocking_19, wX3_receiveBlocking_22, wX3_receiveBlocking_25, wX3_receiveBlocking_26, wX3_receiveBlocking_28, wX3_receiveBlocking_31, wX3_receiveBlocking_32, wX3_receiveBlocking_33, wX3_receiveBlocking_36, wX3_receiveBlocking_37, wX3_receiveBlocking_40, wX3_receiveBlocking_41, wX3_receiveBlocking_43, wX3_receiveBlocking_44, wX3_receiveBlocking_47, wX3_receiveBlocking_50, wX3_receiveBlocking_51, wX3_receiveBlocking_53, wX3_receiveBlocking_56, wX3_receiveBlocking_57, wX3_receiveBlocking_60, wX3_receiveBlocking_61, wX3_receiveBlocking_64, wX3_receiveBlocking_65, wX3_receiveBlocking_66, wX3_receiveBlocking_67, wX3_receiveBlocking_70, wX3_receiveBlocking_73, wX3_receiveBlocking_74, wX3_receiveBlocking_76, wX3_receiveBlocking_79, wX3_receiveBlocking_80, wX3_receiveBlocking_83, wX3_receiveBlocking_84, wX3_receiveBlocking_87, wX3_receiveBlocking_88, wX3_receiveBlocking_89, wX3_receiveBlocking_90, wX3_receiveBlocking_93, c1, kE, cs_0, cs_i, cs_r, v6, p1, n118, n119, n1110, if_false, if_true]
      exact CRs.mk0 (h.eqv (fun j => by
        show u1 r (eI e c 4) (r (eI e c 4)) j = r j
        unfold u1
        split
        · rename_i h9; rw [h9]
        · rfl)) Tr.rf
theorem sE_sC (he : e < 2) (hc : c < 12) (hw : w < 9) {w' : Nat} : sE (sC r i w' y) e c w y1 = sC (sE r e c w y1) i w' y := by
  unfold sE sC
  exact u1_u1 (by have := cI_ge (n := i) (w := w'); have := eI_lt he hc hw; omega)
theorem idle_end (he : e < 2) (hc : c < 12) : pIdle (pEndO r y y1) e c = pEndO (pIdle r e c) y y1 := by
  unfold pEndO
  split
  · rfl
  · unfold pEnd pIdle
    simp only [sE_sC he hc (show 0 < 9 by decide), sE_sC he hc (show 1 < 9 by decide), sE_sC he hc (show 2 < 9 by decide), sE_sC he hc (show 3 < 9 by decide), sE_sC he hc (show 6 < 9 by decide)]
theorem c_iz (h : CS s off N n a1 a2 L r q g mi mr) (hR : RmC L g) (hJ : JG X β T A hh hb N t D r q) (hA : A.1 < t + D) (hm : Rm r 2) (he : e < 2) (hc : c < 12) : CRs s off N a1 a2 L g mi ml mr (callT (d + 4) mX3_receiveReset [.ref s, .ref (eA s e c)] (g, mi, ml, mr)) none (pIz r q e c) := by
  obtain ⟨⟨⟨c1, -, -, c4, c5⟩, -, ⟨c12, -⟩, -, -⟩, -⟩ := id h
  have hm1 : Rm r 1 := hm.mono rfl (by decide)
  obtain ⟨n', b1, b2, L', g', mi', ml', mr', f1, f2, f3⟩ := c_snd (d := d) (ml := ml) (q := q) (k := 13) (v := 0) h hR hJ.fs hm1 he hc (by decide) (by decide) (fun h9 => absurd h9 (by decide))
  obtain ⟨β', hJ1⟩ := hJ.snd0 hA he hc (show 13 < 14 by decide) (by decide) (show 0 < 8 by decide) hm1
  have hm2 : Rm (pSend r q e c 13 0).1 1 := hm.send (by decide) he
  have kE := f2.kE he hc
  have f4 := f2.ef (e := e) (c := c) (w := 5) (f := 8) (z := nI 0) he hc (by decide) (by decide) rfl
  have f5 := f3.eA_ (e := e) (c := c) (f := 8) (y := nI 0) he hc
  have hJ2 := hJ1.rmt (e := e) (c := c) he hc (show 0 < 2 by decide)
  have hm3 := hm2.sE (e := e) (c := c) (w := 5) (z := nI 0) he hc (by decide)
  obtain ⟨⟨⟨c1', -, -, c4', c5'⟩, -, ⟨c12', -⟩, -, -⟩, -⟩ := id f4
  have v6 : u2 mi' (eA s e c) 8 (nI 0) (eA s e c) 6 = sE (pSend r q e c 13 0).1 e c 5 (nI 0) (eI e c 4) := f4.ev he hc (w := 4) (f := 6) (by decide) rfl
  have hrf := ref_eq (hJ2.lb he hc)
  unfold pIz pIz1
  dsimp only
  generalize sE (pSend r q e c 13 0).1 e c 5 (nI 0) = R1 at f4 hJ2 hm3 v6 hrf ⊢
  generalize (pSend r q e c 13 0).2 = Q1 at f4 hJ2 ⊢
  -- the last part, in whatever memory
  have fin : ∀ {n2 d1 d2 L2 : Nat} {g2 : Gh} {m2 : MI} {l2 : ML} {r2' : MR} {R2 : Nat → Int32} {Q2 : Nat → Int64}, CS s off N n2 d1 d2 L2 R2 Q2 g2 m2 r2' → FS N t D R2 → Tr s a1 a2 L g mi ml mr d1 d2 L2 g2 m2 l2 r2' → CRs s off N a1 a2 L g mi ml mr (R (d + 3) mX3_receiveReset 41 [.ref s, .ref (eA s e c)] [] g2 m2 l2 r2') none (pIz3 R2 e c, Q2) := fun {n2 d1 d2 L2 g2 m2 l2 r2' R2 Q2} x1 x2 x3 => by
    have kE2 := x1.kE he hc
    have y2 : m2 (eA s e c) 2 = R2 (eI e c 0) := x1.ev he hc (w := 0) (by decide) rfl
    have k1 := x1.1.1.1
    unfold pIz3
    by_cases p7 : R2 (eI e c 0) = nI 7
    · rw [if_pos p7]
      simp only [wX3_receiveReset_0, wX3_receiveReset_1, wX3_receiveReset_4, wX3_receiveReset_5, wX3_receiveReset_7, wX3_receiveReset_8, wX3_receiveReset_11, wX3_receiveReset_12, wX3_receiveReset_13, wX3_receiveReset_16, wX3_receiveReset_17, wX3_receiveReset_20, wX3_receiveReset_23, wX3_receiveReset_24, wX3_receiveReset_27, wX3_receiveReset_28, wX3_receiveReset_30, wX3_receiveReset_31, wX3_receiveReset_34, wX3_receiveReset_35, wX3_receiveReset_36, wX3_receiveReset_38, wX3_receiveReset_41, wX3_receiveReset_42, wX3_receiveReset_45, wX3_receiveReset_47, wX3_receiveReset_50, wX3_receiveReset_51, wX3_receiveReset_52, wX3_receiveReset_53, wX3_receiveReset_56, wX3_receiveReset_57, wX3_receiveReset_60, kE2, y2, p7, if_true]
      exact ⟨n2, d1, d2, L2, g2, m2, l2, r2', rfl, x1, x3⟩
    · rw [if_neg p7, ← idle_end he hc]
      obtain ⟨m3, w1, w2, w3⟩ := c_finOwn (d := d) (ml := l2) (y := nI 5) x1 x2 he hc
      have kE3 := w2.kE he hc
      simp only [wX3_receiveReset_0, wX3_receiveReset_1, wX3_receiveReset_4, wX3_receiveReset_5, wX3_receiveReset_7, wX3_receiveReset_8, wX3_receiveReset_11, wX3_receiveReset_12, wX3_receiveReset_13, wX3_receiveReset_16, wX3_receiveReset_17, wX3_receiveReset_20, wX3_receiveReset_23, wX3_receiveReset_24, wX3_receiveReset_27, wX3_receiveReset_28, wX3_receiveReset_30, wX3_receiveReset_31, wX3_receiveReset_34, wX3_receiveReset_35, wX3_receiveReset_36, wX3_receiveReset_38, wX3_receiveReset_41, wX3_receiveReset_42, wX3_receiveReset_45, wX3_receiveReset_47, wX3_receiveReset_50, wX3_receiveReset_51, wX3_receiveReset_52, wX3_receiveReset_53, wX3_receiveReset_56, wX3_receiveReset_57, wX3_receiveReset_60, kE2, y2, p7, if_false, k1, cs_0, cs_i, cs_r, w1, aR_v, c_idle kE3]
      exact ⟨n2, d1, d2, L2, g2, _, l2, r2', rfl, w2.idle he hc, (x3.tr w3).en he hc⟩
  rw [eX3_receiveReset]
  unfold pIz2
  by_cases p1 : nI 1 ≤ R1 (eI e c 4) ∧ R1 (eI e c 4) ≤ nI 2
  · have hb_ : bI (R1 (eI e c 4) = nI 1 ∨ R1 (eI e c 4) = nI 2) = nI 1 := bI_t (hrf.mpr p1)
    rw [if_pos p1]
    obtain ⟨n2, d1, d2, L2, g2, m2, l2, r2', w1, w2, w3⟩ := (c_snd (d := d) (ml := ml') (q := Q1) (k := 8) (v := 0) f4 (hR.dd f3.2) hJ2.fs hm3 he hc (by decide) (by decide) (fun h9 => absurd h9 (by decide))).tr f5
    have kE2 := w2.kE he hc
    simp only [wX3_receiveReset_0, wX3_receiveReset_1, wX3_receiveReset_4, wX3_receiveReset_5, wX3_receiveReset_7, wX3_receiveReset_8, wX3_receiveReset_11, wX3_receiveReset_12, wX3_receiveReset_13, wX3_receiveReset_16, wX3_receiveReset_17, wX3_receiveReset_20, wX3_receiveReset_23, wX3_receiveReset_24, wX3_receiveReset_27, wX3_receiveReset_28, wX3_receiveReset_30, wX3_receiveReset_31, wX3_receiveReset_34, wX3_receiveReset_35, wX3_receiveReset_36, wX3_receiveReset_38, wX3_receiveReset_42, wX3_receiveReset_45, wX3_receiveReset_47, wX3_receiveReset_50, wX3_receiveReset_51, wX3_receiveReset_52, wX3_receiveReset_53, wX3_receiveReset_56, wX3_receiveReset_57, wX3_receiveReset_60, c1, c5, c12, c5', c1', c12', cs_0, cs_i, cs_r, f1, aR_v, aR_1, kE, true_or, c_refuses kE, v6, hb_, n1_0, if_false, w1, kE2, c_slb kE2]
    exact fin (w2.b48 (y := nI 1) (y1 := nI 10) he hc (Or.inl rfl)) ((hJ2.fs.send he).ef he hc (by decide) (by decide) |>.ef he hc (by decide) (by decide)) ((w3.eA_ he hc).eA_ he hc)
  · have hb_ : bI (R1 (eI e c 4) = nI 1 ∨ R1 (eI e c 4) = nI 2) = nI 0 := bI_f (fun h9 => p1 (hrf.mp h9))
    rw [if_neg p1]
    simp only [wX3_receiveReset_0, wX3_receiveReset_1, wX3_receiveReset_4, wX3_receiveReset_5, wX3_receiveReset_7, wX3_receiveReset_8, wX3_receiveReset_11, wX3_receiveReset_12, wX3_receiveReset_13, wX3_receiveReset_16, wX3_receiveReset_17, wX3_receiveReset_20, wX3_receiveReset_23, wX3_receiveReset_24, wX3_receiveReset_27, wX3_receiveReset_28, wX3_receiveReset_30, wX3_receiveReset_31, wX3_receiveReset_34, wX3_receiveReset_35, wX3_receiveReset_36, wX3_receiveReset_38, wX3_receiveReset_42, wX3_receiveReset_45, wX3_receiveReset_47, wX3_receiveReset_50, wX3_receiveReset_51, wX3_receiveReset_52, wX3_receiveReset_53, wX3_receiveReset_56, wX3_receiveReset_57, wX3_receiveReset_60, c1, c5, c12, cs_0, cs_i, cs_r, f1, aR_v, aR_1, kE, true_or, c_refuses kE, v6, hb_, if_true]
    exact fin f4 hJ2.fs f5
end CRV2
