/-! the class: timers -/
section CTIM
variable {X : Nat → Nat → Nat} {β T hh hb : Nat → Nat} {A : Nat × Nat} {s off N n a1 a2 b1 b2 L L' e c w k v j f a d o z x S t D p i C J B : Nat} {r r' r1 : Nat → Int32} {q : Nat → Int64} {g g' : Gh} {mi mi' : MI} {ml ml' : ML} {mr mr' : MR} {m : Ms} {y y0 y1 y2 but : Int32} {oo : Option Res} {ret : Option Value} {ps : PS}
theorem CS.b8 (h : CS s off N n a1 a2 L r q g mi mr) (he : e < 2) (hc : c < 12) (hb : bOn (r (eI e c 4))) : CS s off N n a1 a2 L (sE r e c 8 y) q g (u2 mi (eA s e c) 7 y) mr := by
  have v6 : mi (eA s e c) 6 = r (eI e c 4) := h.ev he hc (w := 4) (by decide) rfl
  have h1 := h.bk (e := e) (c := c) (z := r (eI e c 4)) (z1 := y) (r' := sE r e c 8 y) he hc (fun _ => sE_s.symm) (fun h9 => absurd hb h9) (sE_w (by decide) (by decide) (by decide)) (fun j _ h8 => u1_n h8)
  have : u2 mi (eA s e c) 6 (r (eI e c 4)) = mi := by
    funext a f
    unfold u2
    split
    · rename_i h9; rw [h9.1, h9.2, v6]
    · rfl
  rw [this] at h1
  exact h1
theorem JG.tm0 (hJ : JG X β T A hh hb N t D r q) (he : e < 2) (hc : c < 12) : JG X β T A hh hb N t D (sE r e c 2 (nI 0)) q := by
  have hTc : Tch e c r (sE r e c 2 (nI 0)) := Tch.rfl'.sE (by decide) hc he
  refine hJ.row hTc (sE_11 he hc (by decide)) he hc ?_ (Nat.le_of_eq ?_)
  · obtain ⟨s', o, tm, ag, lb, rm, wt, vl, bt, ⟨v0, v1, v2, v3, v4, v5, v6, v7, v8⟩, hn', b3, b4⟩ := hJ.ej he hc
    unfold eV at v0 v1 v2 v3 v4 v5 v6 v7 v8
    refine ⟨s', o, 0, ag, lb, rm, wt, vl, bt, ?_, ?_, by rw [hTc.ci (by omega)]; exact b3, by rw [hTc.ci (by omega)]; exact b4⟩
    · simp only [EV, eV, ev1, Nat.reduceLT, Nat.reduceEqDiff, if_true, if_false, v0, v1, v3, v4, v5, v6, v7, v8, Nat.zero_ne_one, Nat.one_ne_zero, and_self]
    · obtain ⟨⟨f1, f2, f3, f4⟩, f5, f6, f7, f8, f9, f10, f11, f12, f13, f14⟩ := hn'
      exact ⟨⟨f1, f2, Nat.zero_le 60, f4⟩, f5, f6, fun _ => rfl, f8, f9, f10, f11, f12, f13, Or.inl rfl⟩
  · unfold chk
    rw [sE_w (by decide) (by decide) (by decide), sE_w (by decide) (by decide) (by decide)]
theorem c_check (h : CS s off N n a1 a2 L r q g mi mr) (hR : RmC L g) (hJ : JG X β T A hh hb N t D r q) (hA : A.1 < t + D) (hm : Rm r 2) (he : e < 2) (hc : c < 12) (hs : r (eI e c 0) = nI 1) : CRs s off N a1 a2 L g mi ml mr (callT (d + 6) mX3_checkCircuit [.ref s, .ref (eA s e c)] (g, mi, ml, mr)) none (pChk r q e c) := by
  obtain ⟨⟨⟨c1, c2, -, c4, c5⟩, ⟨c6, c7, -⟩, ⟨c12, -⟩, -, -⟩, -⟩ := id h
  have hm1 : Rm r 1 := hm.mono rfl (by decide)
  have kE0 := h.kE he hc
  have x1 := (h.2.2.1.2.2 e c he hc).2
  have vf : mi (s + 1) c = r (12 + c) := h.lv (j := 12 + c) (by omega) (by omega) (by unfold lA; rw [if_neg (by omega), if_pos (by omega)]) (by unfold lF; rw [if_neg (by omega), if_pos (by omega)]; omega)
  have b2' : c < 2147483648 := by omega
  have snd := fun v (hv : v < 8) => c_snd (d := d + 2) (ml := ml) (q := q) (k := 1) (v := v) h hR hJ.fs hm1 he hc (by decide) hv (fun h9 => absurd h9 (by decide))
  rw [eX3_checkCircuit]
  unfold pChk
  by_cases p : r (12 + c) = nI 0
  · rw [if_pos p]
    obtain ⟨n', b1, b2, L', g', mi', ml', mr', f1, f2, f3⟩ := snd 1 (by decide)
    have kE := f2.kE he hc
    refine ⟨n', b1, b2, L', g', _, ml', mr', ?_, (f2.ef (w := 6) (f := 9) (z := nI 0) he hc (by decide) (by decide) rfl).ef (w := 2) (f := 4) (z := nI 30) he hc (by decide) (by decide) rfl, (f3.eA_ he hc).eA_ he hc⟩
    simp only [wX3_checkCircuit_0, wX3_checkCircuit_1, wX3_checkCircuit_4, wX3_checkCircuit_5, wX3_checkCircuit_8, wX3_checkCircuit_9, wX3_checkCircuit_12, wX3_checkCircuit_13, wX3_checkCircuit_16, wX3_checkCircuit_17, wX3_checkCircuit_18, wX3_checkCircuit_19, wX3_checkCircuit_22, wX3_checkCircuit_23, wX3_checkCircuit_24, wX3_checkCircuit_27, wX3_checkCircuit_28, wX3_checkCircuit_30, wX3_checkCircuit_33, wX3_checkCircuit_34, wX3_checkCircuit_35, wX3_checkCircuit_38, wX3_checkCircuit_39, wX3_checkCircuit_40, wX3_checkCircuit_41, wX3_checkCircuit_44, wX3_checkCircuit_45, wX3_checkCircuit_48i, wX3_checkCircuit_48r, wX3_checkCircuit_48n, wX3_checkCircuit_49, wX3_checkCircuit_50, wX3_checkCircuit_53, wX3_checkCircuit_54, wX3_checkCircuit_55, wX3_checkCircuit_56, wX3_checkCircuit_59, c1, c2, c6, c7, kE0, x1, hc, b2', vf, p, if_true, c5, c12, cs_0, cs_i, cs_r, f1, aR_v, kE, true_or]
  · rw [if_neg p]
    obtain ⟨n', b1, b2, L', g', mi', ml', mr', f1, f2, f3⟩ := snd 0 (by decide)
    obtain ⟨β', hJ1⟩ := hJ.snd0 hA he hc (show 1 < 14 by decide) (by decide) (show 0 < 8 by decide) hm1
    have hm2 : Rm (pSend r q e c 1 0).1 1 := hm.send (by decide) he
    have hs1 : (pSend r q e c 1 0).1 (eI e c 0) = nI 1 := (pSend_e he eI_ge).trans hs
    generalize pSend r q e c 1 0 = P at f2 hJ1 hm2 hs1 ⊢
    have kE := f2.kE he hc
    have k1 := f2.1.1.1
    have hN := hJ1.fs.2.2.2.1
    obtain ⟨i, hi, hmn⟩ : ∃ i, i < N ∧ P.1 (eI e c 1) = nI i := by
      obtain ⟨s', o, tm, ag, lb, rm, wt, vl, bt, ⟨v0, v1, -⟩, hn', -, -⟩ := hJ1.ej he hc
      unfold eV at v0 v1
      have hs' : s' = 1 := (nI_eq (by have := hn'.1.1; omega) (by decide)).mp (v0.symm.trans hs1)
      have ho := hn'.2.1 hs'
      have ho2 := hn'.1.2.1
      exact ⟨o - 1, by omega, own_oI v1 ho (by omega)⟩
    have v3 : mi' (eA s e c) 3 = nI i := (f2.ev he hc (w := 1) (by decide) rfl).trans hmn
    have f4 := f2.idle (e := e) (c := c) he hc
    have f5 := f3.en (e := e) (c := c) (y0 := nI 0) (y1 := -1) (y2 := nI 0) he hc
    rw [hmn, clampN (show i < 2147483648 by omega)]
    obtain ⟨n2, d1, d2, L2, g2, m2, l2, r2', w1, w2, w3⟩ := (c_try (d := d) (ml := ml') (y := nI 3) f4 (hR.dd f3.2) (hJ1.idle he hc) (hm2.idle he hc) hi).tr f5
    refine ⟨n2, d1, d2, L2, g2, m2, l2, r2', ?_, w2, w3⟩
    simp only [wX3_checkCircuit_0, wX3_checkCircuit_1, wX3_checkCircuit_4, wX3_checkCircuit_5, wX3_checkCircuit_8, wX3_checkCircuit_9, wX3_checkCircuit_12, wX3_checkCircuit_13, wX3_checkCircuit_16, wX3_checkCircuit_17, wX3_checkCircuit_18, wX3_checkCircuit_19, wX3_checkCircuit_22, wX3_checkCircuit_23, wX3_checkCircuit_24, wX3_checkCircuit_27, wX3_checkCircuit_28, wX3_checkCircuit_30, wX3_checkCircuit_33, wX3_checkCircuit_34, wX3_checkCircuit_35, wX3_checkCircuit_38, wX3_checkCircuit_39, wX3_checkCircuit_40, wX3_checkCircuit_41, wX3_checkCircuit_44, wX3_checkCircuit_45, wX3_checkCircuit_48i, wX3_checkCircuit_48r, wX3_checkCircuit_48n, wX3_checkCircuit_49, wX3_checkCircuit_50, wX3_checkCircuit_53, wX3_checkCircuit_54, wX3_checkCircuit_55, wX3_checkCircuit_56, wX3_checkCircuit_59, c1, c2, c6, c7, kE0, x1, hc, b2', vf, p, if_false, c5, c12, cs_0, cs_i, cs_r, f1, aR_v, kE, v3, c_idle kE, k1, w1]
theorem c_again (h : CS s off N n a1 a2 L r q g mi mr) (hR : RmC L g) (hJ : JG X β T A hh hb N t D r q) (hm : Rm r 1) (he : e < 2) (hc : c < 12) : CRs s off N a1 a2 L g mi ml mr (callT (d + 5) mX3_repeatRelease [.ref s, .ref (eA s e c)] (g, mi, ml, mr)) none (if r (eI e c 3) < nI 2 then pAg r q e c else pRst r q e c) := by
  obtain ⟨⟨⟨c1, -, -, c4, c5⟩, -, ⟨c12, -⟩, -, -⟩, -⟩ := id h
  have kE := h.kE he hc
  have v5 : mi (eA s e c) 5 = r (eI e c 3) := h.ev he hc (w := 3) (by decide) rfl
  rw [eX3_repeatRelease]
  by_cases p : r (eI e c 3) < nI 2
  · have p' : ¬ nI 2 ≤ r (eI e c 3) := Int32.not_le.mpr p
    rw [if_pos p]
    unfold pAg
    obtain ⟨vl, hv, hvl⟩ := hJ.wf.vl he hc
    rw [hvl, clampN (show vl < 2147483648 by omega)]
    have h1 := h.ef (e := e) (c := c) (w := 3) (f := 5) (z := r (eI e c 3) + nI 1) he hc (by decide) (by decide) rfl
    have w10 : u2 mi (eA s e c) 5 (r (eI e c 3) + nI 1) (eA s e c) 10 = nI vl := by
      rw [u2_oth (by omega)]; exact (h.ev he hc (w := 7) (by decide) rfl).trans hvl
    obtain ⟨n', b1, b2, L', g', mi', ml', mr', f1, f2, f3⟩ := (c_snd (d := d + 1) (ml := ml) (q := q) (k := 6) (v := vl) h1 hR (hJ.fs.ef he hc (by decide) (by decide)) (hm.sE he hc (by decide)) he hc (by decide) hv (fun h9 => absurd h9 (by decide))).tr (Tr.rf.eA_ (ml := ml) he hc)
    have kE2 := f2.kE he hc
    refine ⟨n', b1, b2, L', g', _, ml', mr', ?_, f2.ef (w := 2) (f := 4) (z := nI 10) he hc (by decide) (by decide) rfl, f3.eA_ he hc⟩
    simp only [wX3_repeatRelease_0, wX3_repeatRelease_1, wX3_repeatRelease_4, wX3_repeatRelease_5, wX3_repeatRelease_8, wX3_repeatRelease_9, wX3_repeatRelease_10, wX3_repeatRelease_13, wX3_repeatRelease_14, wX3_repeatRelease_15, wX3_repeatRelease_18, wX3_repeatRelease_19, wX3_repeatRelease_22, wX3_repeatRelease_23, wX3_repeatRelease_25, wX3_repeatRelease_26, wX3_repeatRelease_29, wX3_repeatRelease_32, wX3_repeatRelease_33, wX3_repeatRelease_35, wX3_repeatRelease_38, wX3_repeatRelease_41, wX3_repeatRelease_42, wX3_repeatRelease_43, wX3_repeatRelease_46, c1, c5, c12, kE, v5, p', if_false, w10, cs_0, cs_i, cs_r, f1, aR_v, kE2]
  · have p' : nI 2 ≤ r (eI e c 3) := Int32.not_lt.mp p
    rw [if_neg p]
    obtain ⟨n', b1, b2, L', g', mi', ml', mr', f1, f2, f3⟩ := c_rst (d := d) (ml := ml) h hR hJ.fs hm he hc
    refine ⟨n', b1, b2, L', g', mi', ml', mr', ?_, f2, f3⟩
    simp only [wX3_repeatRelease_0, wX3_repeatRelease_1, wX3_repeatRelease_4, wX3_repeatRelease_5, wX3_repeatRelease_8, wX3_repeatRelease_9, wX3_repeatRelease_10, wX3_repeatRelease_13, wX3_repeatRelease_14, wX3_repeatRelease_15, wX3_repeatRelease_18, wX3_repeatRelease_19, wX3_repeatRelease_22, wX3_repeatRelease_23, wX3_repeatRelease_25, wX3_repeatRelease_26, wX3_repeatRelease_29, wX3_repeatRelease_32, wX3_repeatRelease_33, wX3_repeatRelease_35, wX3_repeatRelease_38, wX3_repeatRelease_41, wX3_repeatRelease_42, wX3_repeatRelease_43, wX3_repeatRelease_46, c1, kE, v5, p', if_true, cs_0, cs_i, cs_r, f1, aR_v]
theorem c_act (h : CS s off N n a1 a2 L r q g mi mr) (hR : RmC L g) (hJ : JG X β T A hh hb N t D r q) (hA : A.1 < t + D) (hm : Rm r 2) (he : e < 2) (hc : c < 12) (hs0 : ¬ r (eI e c 0) = nI 0) (hs4 : ¬ r (eI e c 0) = nI 4) : CRs s off N a1 a2 L g mi ml mr (callT (d + 7) mX3_actOnTimer [.ref s, .ref (eA s e c)] (g, mi, ml, mr)) none (pOv r q e c) := by
  have c1 := h.1.1.1
  have kE := h.kE he hc
  have w7 : mi s 7 = r 9 := h.lv (j := 9) (a := s) (f := 7) (by decide) (by decide) rfl rfl
  have h9 := hJ.lo (x := 9) (z := r 9 + nI 1) (by omega)
  rw [inc_f] at h9
  have hx : CS s off N n a1 a2 L (inc r 9) q g (u2 mi s 7 (r 9 + nI 1)) mr := h.lo (j := 9) (a := s) (f := 7) (z := r 9 + nI 1) (by decide) (by decide) (fun h9 => absurd h9 (by decide)) rfl rfl
  have hT : Tr s a1 a2 L g mi ml mr a1 a2 L g (u2 mi s 7 (r 9 + nI 1)) ml mr := Tr.rf.up (Nat.le_refl s) (by omega)
  have hm9 : Rm (inc r 9) 2 := hm.mono (u1_n (by decide)) (Nat.le_refl 2)
  have v9 : ∀ {w}, inc r 9 (eI e c w) = r (eI e c w) := fun {w} => u1_n (by have := eI_ge (e := e) (c := c) (w := w); omega)
  rw [← v9] at hs0 hs4
  unfold pOv
  rw [eX3_actOnTimer]
  simp only [wX3_actOnTimer_0, wX3_actOnTimer_1, wX3_actOnTimer_2, wX3_actOnTimer_5, wX3_actOnTimer_6, wX3_actOnTimer_7, wX3_actOnTimer_11, wX3_actOnTimer_14_0, wX3_actOnTimer_14_1, wX3_actOnTimer_14_2, wX3_actOnTimer_14_3, wX3_actOnTimer_14_4, wX3_actOnTimer_14_5, wX3_actOnTimer_14_6, wX3_actOnTimer_14d, wX3_actOnTimer_56, wX3_actOnTimer_57, wX3_actOnTimer_60, wX3_actOnTimer_63, wX3_actOnTimer_64, wX3_actOnTimer_65, wX3_actOnTimer_68, wX3_actOnTimer_71, wX3_actOnTimer_72, wX3_actOnTimer_73, wX3_actOnTimer_74, wX3_actOnTimer_77, wX3_actOnTimer_80, wX3_actOnTimer_81, wX3_actOnTimer_82, wX3_actOnTimer_83, wX3_actOnTimer_86, wX3_actOnTimer_89, wX3_actOnTimer_90, wX3_actOnTimer_91, wX3_actOnTimer_92, wX3_actOnTimer_95, wX3_actOnTimer_98, wX3_actOnTimer_99, wX3_actOnTimer_100, wX3_actOnTimer_103, wX3_actOnTimer_106, wX3_actOnTimer_107, wX3_actOnTimer_110, wX3_actOnTimer_111, wX3_actOnTimer_113, wX3_actOnTimer_114, wX3_actOnTimer_117, wX3_actOnTimer_118, wX3_actOnTimer_120, wX3_actOnTimer_123, wX3_actOnTimer_126, c1, w7]
  refine CRs.tr ?_ hT
  generalize inc r 9 = r0 at h9 hx hm9 hs0 hs4 ⊢
  generalize u2 mi s 7 (r 9 + nI 1) = m0 at hx ⊢
  obtain ⟨⟨⟨c1, -, -, c4, c5⟩, -, ⟨c12, -⟩, -, -⟩, -⟩ := id hx
  have hm1 : Rm r0 1 := hm9.mono rfl (by decide)
  have v2 : m0 (eA s e c) 2 = r0 (eI e c 0) := hx.ev he hc (w := 0) (by decide) rfl
  have v6 : m0 (eA s e c) 9 = r0 (eI e c 6) := hx.ev he hc (w := 6) (by decide) rfl
  have rel := fun v (hv : v < 8) => c_rel (d := d + 1) (ml := ml) (v := v) hx hR h9.fs hm1 he hc hv
  obtain ⟨s', hs', hst⟩ := h9.st he hc
  have nn : ∀ {i j : Nat}, i < 10 → j < 10 → (nI i = nI j) = (i = j) := fun hi hj => propext (nI_eq (by omega) (by omega))
  have hs'' : s' = 1 ∨ s' = 2 ∨ s' = 3 ∨ s' = 5 ∨ s' = 6 ∨ s' = 7 := by
    have : ¬ s' = 0 := fun h9 => hs0 (by rw [hst, h9])
    have : ¬ s' = 4 := fun h9 => hs4 (by rw [hst, h9])
    omega
  unfold pOv1
  rcases hs'' with rfl | rfl | rfl | rfl | rfl | rfl
  · rw [if_pos hst]
    obtain ⟨wt, hwt, hwv⟩ := h9.wf.wt he hc
    by_cases p : r0 (eI e c 6) = nI 1
    · rw [if_pos p]
      obtain ⟨n', b1, b2, L', g', mi', ml', mr', f1, f2, f3⟩ := c_check (d := d) (ml := ml) hx hR h9 hA hm9 he hc hst
      refine ⟨n', b1, b2, L', g', mi', ml', mr', ?_, f2, f3⟩
      simp only [wX3_actOnTimer_0, wX3_actOnTimer_1, wX3_actOnTimer_2, wX3_actOnTimer_5, wX3_actOnTimer_6, wX3_actOnTimer_7, wX3_actOnTimer_10, wX3_actOnTimer_11, wX3_actOnTimer_14_0, wX3_actOnTimer_14_1, wX3_actOnTimer_14_2, wX3_actOnTimer_14_3, wX3_actOnTimer_14_4, wX3_actOnTimer_14_5, wX3_actOnTimer_14_6, wX3_actOnTimer_14d, wX3_actOnTimer_56, wX3_actOnTimer_57, wX3_actOnTimer_60, wX3_actOnTimer_63, wX3_actOnTimer_64, wX3_actOnTimer_65, wX3_actOnTimer_68, wX3_actOnTimer_71, wX3_actOnTimer_72, wX3_actOnTimer_73, wX3_actOnTimer_74, wX3_actOnTimer_77, wX3_actOnTimer_80, wX3_actOnTimer_81, wX3_actOnTimer_82, wX3_actOnTimer_83, wX3_actOnTimer_86, wX3_actOnTimer_89, wX3_actOnTimer_90, wX3_actOnTimer_91, wX3_actOnTimer_92, wX3_actOnTimer_95, wX3_actOnTimer_98, wX3_actOnTimer_99, wX3_actOnTimer_100, wX3_actOnTimer_103, wX3_actOnTimer_106, wX3_actOnTimer_107, wX3_actOnTimer_110, wX3_actOnTimer_111, wX3_actOnTimer_113, wX3_actOnTimer_114, wX3_actOnTimer_117, wX3_actOnTimer_118, wX3_actOnTimer_120, wX3_actOnTimer_123, wX3_actOnTimer_126, kE, v2, hst, v6, p, n1_0, if_false, c1, cs_0, cs_i, cs_r, f1, aR_v]
    · rw [if_neg p]
      have p0 : r0 (eI e c 6) = nI 0 := by
        have : wt = 0 := by
          have : ¬ wt = 1 := fun h8 => p (by rw [hwv, h8])
          omega
        rw [hwv, this]
      obtain ⟨n', b1, b2, L', g', mi', ml', mr', f1, f2, f3⟩ := rel 1 (by decide)
      refine ⟨n', b1, b2, L', g', mi', ml', mr', ?_, f2, f3⟩
      simp only [wX3_actOnTimer_0, wX3_actOnTimer_1, wX3_actOnTimer_2, wX3_actOnTimer_5, wX3_actOnTimer_6, wX3_actOnTimer_7, wX3_actOnTimer_10, wX3_actOnTimer_11, wX3_actOnTimer_14_0, wX3_actOnTimer_14_1, wX3_actOnTimer_14_2, wX3_actOnTimer_14_3, wX3_actOnTimer_14_4, wX3_actOnTimer_14_5, wX3_actOnTimer_14_6, wX3_actOnTimer_14d, wX3_actOnTimer_56, wX3_actOnTimer_57, wX3_actOnTimer_60, wX3_actOnTimer_63, wX3_actOnTimer_64, wX3_actOnTimer_65, wX3_actOnTimer_68, wX3_actOnTimer_71, wX3_actOnTimer_72, wX3_actOnTimer_73, wX3_actOnTimer_74, wX3_actOnTimer_77, wX3_actOnTimer_80, wX3_actOnTimer_81, wX3_actOnTimer_82, wX3_actOnTimer_83, wX3_actOnTimer_86, wX3_actOnTimer_89, wX3_actOnTimer_90, wX3_actOnTimer_91, wX3_actOnTimer_92, wX3_actOnTimer_95, wX3_actOnTimer_98, wX3_actOnTimer_99, wX3_actOnTimer_100, wX3_actOnTimer_103, wX3_actOnTimer_106, wX3_actOnTimer_107, wX3_actOnTimer_110, wX3_actOnTimer_111, wX3_actOnTimer_113, wX3_actOnTimer_114, wX3_actOnTimer_117, wX3_actOnTimer_118, wX3_actOnTimer_120, wX3_actOnTimer_123, wX3_actOnTimer_126, kE, v2, hst, v6, p0, if_true, c1, cs_0, cs_i, cs_r, f1, aR_v]
  · rw [hst, if_neg (by rw [nn (by decide) (by decide)]; decide), if_pos rfl]
    obtain ⟨n', b1, b2, L', g', mi', ml', mr', f1, f2, f3⟩ := rel 3 (by decide)
    refine ⟨n', b1, b2, L', g', mi', ml', mr', ?_, f2, f3⟩
    simp only [wX3_actOnTimer_0, wX3_actOnTimer_1, wX3_actOnTimer_2, wX3_actOnTimer_5, wX3_actOnTimer_6, wX3_actOnTimer_7, wX3_actOnTimer_10, wX3_actOnTimer_11, wX3_actOnTimer_14_0, wX3_actOnTimer_14_1, wX3_actOnTimer_14_2, wX3_actOnTimer_14_3, wX3_actOnTimer_14_4, wX3_actOnTimer_14_5, wX3_actOnTimer_14_6, wX3_actOnTimer_14d, wX3_actOnTimer_56, wX3_actOnTimer_57, wX3_actOnTimer_60, wX3_actOnTimer_63, wX3_actOnTimer_64, wX3_actOnTimer_65, wX3_actOnTimer_68, wX3_actOnTimer_71, wX3_actOnTimer_72, wX3_actOnTimer_73, wX3_actOnTimer_74, wX3_actOnTimer_77, wX3_actOnTimer_80, wX3_actOnTimer_81, wX3_actOnTimer_82, wX3_actOnTimer_83, wX3_actOnTimer_86, wX3_actOnTimer_89, wX3_actOnTimer_90, wX3_actOnTimer_91, wX3_actOnTimer_92, wX3_actOnTimer_95, wX3_actOnTimer_98, wX3_actOnTimer_99, wX3_actOnTimer_100, wX3_actOnTimer_103, wX3_actOnTimer_106, wX3_actOnTimer_107, wX3_actOnTimer_110, wX3_actOnTimer_111, wX3_actOnTimer_113, wX3_actOnTimer_114, wX3_actOnTimer_117, wX3_actOnTimer_118, wX3_actOnTimer_120, wX3_actOnTimer_123, wX3_actOnTimer_126, kE, v2, hst, c1, cs_0, cs_i, cs_r, f1, aR_v]
  · rw [hst, if_neg (by rw [nn (by decide) (by decide)]; decide), if_neg (by rw [nn (by decide) (by decide)]; decide), if_neg (by rw [nn (by decide) (by decide)]; decide), if_neg (by rw [nn (by decide) (by decide)]; decide)]
    obtain ⟨n', b1, b2, L', g', mi', ml', mr', f1, f2, f3⟩ := rel 1 (by decide)
    refine ⟨n', b1, b2, L', g', mi', ml', mr', ?_, f2, f3⟩
    simp only [wX3_actOnTimer_0, wX3_actOnTimer_1, wX3_actOnTimer_2, wX3_actOnTimer_5, wX3_actOnTimer_6, wX3_actOnTimer_7, wX3_actOnTimer_10, wX3_actOnTimer_11, wX3_actOnTimer_14_0, wX3_actOnTimer_14_1, wX3_actOnTimer_14_2, wX3_actOnTimer_14_3, wX3_actOnTimer_14_4, wX3_actOnTimer_14_5, wX3_actOnTimer_14_6, wX3_actOnTimer_14d, wX3_actOnTimer_56, wX3_actOnTimer_57, wX3_actOnTimer_60, wX3_actOnTimer_63, wX3_actOnTimer_64, wX3_actOnTimer_65, wX3_actOnTimer_68, wX3_actOnTimer_71, wX3_actOnTimer_72, wX3_actOnTimer_73, wX3_actOnTimer_74, wX3_actOnTimer_77, wX3_actOnTimer_80, wX3_actOnTimer_81, wX3_actOnTimer_82, wX3_actOnTimer_83, wX3_actOnTimer_86, wX3_actOnTimer_89, wX3_actOnTimer_90, wX3_actOnTimer_91, wX3_actOnTimer_92, wX3_actOnTimer_95, wX3_actOnTimer_98, wX3_actOnTimer_99, wX3_actOnTimer_100, wX3_actOnTimer_103, wX3_actOnTimer_106, wX3_actOnTimer_107, wX3_actOnTimer_110, wX3_actOnTimer_111, wX3_actOnTimer_113, wX3_actOnTimer_114, wX3_actOnTimer_117, wX3_actOnTimer_118, wX3_actOnTimer_120, wX3_actOnTimer_123, wX3_actOnTimer_126, kE, v2, hst, c1, cs_0, cs_i, cs_r, f1, aR_v]
  · rw [hst, if_neg (by rw [nn (by decide) (by decide)]; decide), if_neg (by rw [nn (by decide) (by decide)]; decide), if_neg (by rw [nn (by decide) (by decide)]; decide), if_neg (by rw [nn (by decide) (by decide)]; decide)]
    obtain ⟨n', b1, b2, L', g', mi', ml', mr', f1, f2, f3⟩ := rel 1 (by decide)
    refine ⟨n', b1, b2, L', g', mi', ml', mr', ?_, f2, f3⟩
    simp only [wX3_actOnTimer_0, wX3_actOnTimer_1, wX3_actOnTimer_2, wX3_actOnTimer_5, wX3_actOnTimer_6, wX3_actOnTimer_7, wX3_actOnTimer_10, wX3_actOnTimer_11, wX3_actOnTimer_14_0, wX3_actOnTimer_14_1, wX3_actOnTimer_14_2, wX3_actOnTimer_14_3, wX3_actOnTimer_14_4, wX3_actOnTimer_14_5, wX3_actOnTimer_14_6, wX3_actOnTimer_14d, wX3_actOnTimer_56, wX3_actOnTimer_57, wX3_actOnTimer_60, wX3_actOnTimer_63, wX3_actOnTimer_64, wX3_actOnTimer_65, wX3_actOnTimer_68, wX3_actOnTimer_71, wX3_actOnTimer_72, wX3_actOnTimer_73, wX3_actOnTimer_74, wX3_actOnTimer_77, wX3_actOnTimer_80, wX3_actOnTimer_81, wX3_actOnTimer_82, wX3_actOnTimer_83, wX3_actOnTimer_86, wX3_actOnTimer_89, wX3_actOnTimer_90, wX3_actOnTimer_91, wX3_actOnTimer_92, wX3_actOnTimer_95, wX3_actOnTimer_98, wX3_actOnTimer_99, wX3_actOnTimer_100, wX3_actOnTimer_103, wX3_actOnTimer_106, wX3_actOnTimer_107, wX3_actOnTimer_110, wX3_actOnTimer_111, wX3_actOnTimer_113, wX3_actOnTimer_114, wX3_actOnTimer_117, wX3_actOnTimer_118, wX3_actOnTimer_120, wX3_actOnTimer_123, wX3_actOnTimer_126, kE, v2, hst, c1, cs_0, cs_i, cs_r, f1, aR_v]
  · rw [hst, if_neg (by rw [nn (by decide) (by decide)]; decide), if_neg (by rw [nn (by decide) (by decide)]; decide), if_pos rfl]
    obtain ⟨n', b1, b2, L', g', mi', ml', mr', f1, f2, f3⟩ := c_again (d := d + 1) (ml := ml) hx hR h9 hm1 he hc
    refine ⟨n', b1, b2, L', g', mi', ml', mr', ?_, f2, f3⟩
    simp only [wX3_actOnTimer_0, wX3_actOnTimer_1, wX3_actOnTimer_2, wX3_actOnTimer_5, wX3_actOnTimer_6, wX3_actOnTimer_7, wX3_actOnTimer_10, wX3_actOnTimer_11, wX3_actOnTimer_14_0, wX3_actOnTimer_14_1, wX3_actOnTimer_14_2, wX3_actOnTimer_14_3, wX3_actOnTimer_14_4, wX3_actOnTimer_14_5, wX3_actOnTimer_14_6, wX3_actOnTimer_14d, wX3_actOnTimer_56, wX3_actOnTimer_57, wX3_actOnTimer_60, wX3_actOnTimer_63, wX3_actOnTimer_64, wX3_actOnTimer_65, wX3_actOnTimer_68, wX3_actOnTimer_71, wX3_actOnTimer_72, wX3_actOnTimer_73, wX3_actOnTimer_74, wX3_actOnTimer_77, wX3_actOnTimer_80, wX3_actOnTimer_81, wX3_actOnTimer_82, wX3_actOnTimer_83, wX3_actOnTimer_86, wX3_actOnTimer_89, wX3_actOnTimer_90, wX3_actOnTimer_91, wX3_actOnTimer_92, wX3_actOnTimer_95, wX3_actOnTimer_98, wX3_actOnTimer_99, wX3_actOnTimer_100, wX3_actOnTimer_103, wX3_actOnTimer_106, wX3_actOnTimer_107, wX3_actOnTimer_110, wX3_actOnTimer_111, wX3_actOnTimer_113, wX3_actOnTimer_114, wX3_actOnTimer_117, wX3_actOnTimer_118, wX3_actOnTimer_120, wX3_actOnTimer_123, wX3_actOnTimer_126, kE, v2, hst, c1, cs_0, cs_i, cs_r, f1, aR_v]
  · rw [hst, if_neg (by rw [nn (by decide) (by decide)]; decide), if_neg (by rw [nn (by decide) (by decide)]; decide), if_neg (by rw [nn (by decide) (by decide)]; decide), if_pos rfl]
    obtain ⟨n', b1, b2, L', g', mi', ml', mr', f1, f2, f3⟩ := c_snd (d := d + 3) (ml := ml) (q := q) (k := 12) (v := 0) hx hR h9.fs hm1 he hc (by decide) (by decide) (fun h9 => absurd h9 (by decide))
    have kE2 := f2.kE he hc
    refine ⟨n', b1, b2, L', g', _, ml', mr', ?_, f2.ef (w := 2) (f := 4) (z := nI 20) he hc (by decide) (by decide) rfl, f3.eA_ he hc⟩
    simp only [wX3_actOnTimer_0, wX3_actOnTimer_1, wX3_actOnTimer_2, wX3_actOnTimer_5, wX3_actOnTimer_6, wX3_actOnTimer_7, wX3_actOnTimer_10, wX3_actOnTimer_11, wX3_actOnTimer_14_0, wX3_actOnTimer_14_1, wX3_actOnTimer_14_2, wX3_actOnTimer_14_3, wX3_actOnTimer_14_4, wX3_actOnTimer_14_5, wX3_actOnTimer_14_6, wX3_actOnTimer_14d, wX3_actOnTimer_56, wX3_actOnTimer_57, wX3_actOnTimer_60, wX3_actOnTimer_63, wX3_actOnTimer_64, wX3_actOnTimer_65, wX3_actOnTimer_68, wX3_actOnTimer_71, wX3_actOnTimer_72, wX3_actOnTimer_73, wX3_actOnTimer_74, wX3_actOnTimer_77, wX3_actOnTimer_80, wX3_actOnTimer_81, wX3_actOnTimer_82, wX3_actOnTimer_83, wX3_actOnTimer_86, wX3_actOnTimer_89, wX3_actOnTimer_90, wX3_actOnTimer_91, wX3_actOnTimer_92, wX3_actOnTimer_95, wX3_actOnTimer_98, wX3_actOnTimer_99, wX3_actOnTimer_100, wX3_actOnTimer_103, wX3_actOnTimer_106, wX3_actOnTimer_107, wX3_actOnTimer_110, wX3_actOnTimer_111, wX3_actOnTimer_113, wX3_actOnTimer_114, wX3_actOnTimer_117, wX3_actOnTimer_118, wX3_actOnTimer_120, wX3_actOnTimer_123, wX3_actOnTimer_126, kE, v2, hst, c1, c5, c12, cs_0, cs_i, cs_r, f1, aR_v, kE2]
theorem c_rpb (h : CS s off N n a1 a2 L r q g mi mr) (hR : RmC L g) (hF : FS N t D r) (hm : Rm r 1) (he : e < 2) (hc : c < 12) (hb : bOn (r (eI e c 4))) : CRs s off N a1 a2 L g mi ml mr (callT (d + 4) mX3_repeatBlocking [.ref s, .ref (eA s e c)] (g, mi, ml, mr)) none (sE (pSend r q e c (if r (eI e c 4) = nI 1 then 8 else 10) 0).1 e c 8 (nI 10), (pSend r q e c (if r (eI e c 4) = nI 1 then 8 else 10) 0).2) := by
  obtain ⟨⟨⟨c1, -, -, c4, c5⟩, -, ⟨c12, -⟩, -, -⟩, -⟩ := id h
  have kE := h.kE he hc
  have v6 : mi (eA s e c) 6 = r (eI e c 4) := h.ev he hc (w := 4) (by decide) rfl
  have n31 : ¬ nI 3 = nI 1 := by decide
  have snd := fun k (hk : k < 14) (hk0 : ¬ k = 0) => c_snd (d := d) (ml := ml) (q := q) (k := k) (v := 0) h hR hF hm he hc hk (by decide) (fun h9 => absurd h9 hk0)
  rw [eX3_repeatBlocking]
  by_cases p : r (eI e c 4) = nI 1
  · rw [if_pos p]
    obtain ⟨n', b1, b2, L', g', mi', ml', mr', f1, f2, f3⟩ := snd 8 (by decide) (by decide)
    have kE2 := f2.kE he hc
    refine ⟨n', b1, b2, L', g', _, ml', mr', ?_, f2.b8 (y := nI 10) he hc (by rw [pSend_e he eI_ge]; exact hb), f3.eA_ he hc⟩
    simp only [wX3_repeatBlocking_0, wX3_repeatBlocking_1, wX3_repeatBlocking_4, wX3_repeatBlocking_5, wX3_repeatBlocking_6, wX3_repeatBlocking_9, wX3_repeatBlocking_10, wX3_repeatBlocking_13, wX3_repeatBlocking_15, wX3_repeatBlocking_18, wX3_repeatBlocking_20, wX3_repeatBlocking_21, wX3_repeatBlocking_24, wX3_repeatBlocking_25, wX3_repeatBlocking_27, wX3_repeatBlocking_30, c1, c5, c12, kE, v6, p, if_true, cs_0, cs_i, cs_r, f1, aR_v, kE2]
  · rw [if_neg p]
    obtain ⟨n', b1, b2, L', g', mi', ml', mr', f1, f2, f3⟩ := snd 10 (by decide) (by decide)
    have kE2 := f2.kE he hc
    refine ⟨n', b1, b2, L', g', _, ml', mr', ?_, f2.b8 (y := nI 10) he hc (by rw [pSend_e he eI_ge]; exact hb), f3.eA_ he hc⟩
    simp only [wX3_repeatBlocking_0, wX3_repeatBlocking_1, wX3_repeatBlocking_4, wX3_repeatBlocking_5, wX3_repeatBlocking_6, wX3_repeatBlocking_9, wX3_repeatBlocking_10, wX3_repeatBlocking_13, wX3_repeatBlocking_15, wX3_repeatBlocking_18, wX3_repeatBlocking_20, wX3_repeatBlocking_21, wX3_repeatBlocking_24, wX3_repeatBlocking_25, wX3_repeatBlocking_27, wX3_repeatBlocking_30, c1, c5, c12, kE, v6, p, if_false, cs_0, cs_i, cs_r, f1, aR_v, kE2]
end CTIM
