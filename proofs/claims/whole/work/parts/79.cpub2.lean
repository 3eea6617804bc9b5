/-! the class: its public calls, on -/
section CPB2
variable {s s2 off N n n0 a1 a2 b1 b2 L M e c w k k0 v j f a b d o t D p i C J B E K from_ : Nat} {r r' r1 : Nat → Int32} {q q' : Nat → Int64} {g g' : Gh} {mi mi' m' : MI} {ml ml' l' : ML} {mr mr' : MR} {x1 x2 Ln pm : Nat → Nat} {S : Nat → PS} {P P' : PS} {X : Nat → Nat → Nat} {x y z : Int32}
/-- undo -/
theorem k_undo1 (h : TG E (K + 1) S (r, q) pm x1 x2 Ln g mi mr) : CTr E K S (S K) g mi ml mr (callT (d + 1) mX4_undo [.ref 2] (g, mi, ml, mr)) (some (.int (nI K))) := by
  obtain ⟨⟨⟨t1, t2, t3⟩, ⟨t4, t5, t6⟩, t7, t8⟩, ⟨p1, p2⟩, hS, hK, hP⟩ := id h
  have b25 : g.1 3 = 23 ∨ g.1 3 = 24 ∨ g.1 3 = 25 := Or.inr (Or.inr t4)
  have hK3 : K < 3 := by omega
  have kd : ∀ i, i < 4 → g.1 (Ad (pm i)) = 4 := fun i hi => (hS.1 (pm i) (p1 i hi)).1.1.1
  have el : g.1 (Ad (pm 3)) = elK (g.1 3) := by rw [kd 3 (by decide), t4]; rfl
  have kk : ¬ nI (K + 1) = nI 0 := fun h9 => by have := (nI_eq (by omega) (by decide)).mp h9; omega
  have sk : nI (K + 1) - nI 1 = nI K := pk_sub (by omega)
  have nz : ∀ i, i < 4 → ¬ Ad (pm i) = 0 := fun i hi => by have := Ad_b (p1 i hi); omega
  have bK : K < 2147483648 := by omega
  have m21 : u2 mi 2 1 (nI K) 2 1 = nI K := u2_at
  have c20 : ∀ {F : MR} {b z : Nat}, u2 F 3 b z 2 = F 2 := u2_row (by decide)
  have hlw : ∀ a, 4 ≤ a → u2 mi 2 1 (nI K) a = mi a ∧ u2 (u2 mr 3 K (Ad (pm 3))) 2 2 (Ad (pm K)) a = mr a := fun a ha => ⟨u2_row (by omega), by rw [u2_row (by omega), u2_row (by omega)]⟩
  refine ⟨fun i => if i = K then pm 3 else if i = 3 then pm K else pm i, x1, x2, Ln, g, u2 mi 2 1 (nI K), ml, u2 (u2 mr 3 K (Ad (pm 3))) 2 2 (Ad (pm K)), ?_, ⟨⟨⟨t1, ?_, ?_⟩, ⟨t4, t5, fun i hi => ?_⟩, u2_at, by omega⟩, ⟨fun i hi => ?_, fun i j hi hj hij => ?_⟩, hS.lw hlw, fun i hi => ?_, ?_⟩, fun a ha => ⟨u2_row (by omega), rfl, by rw [u2_row (by omega), u2_row (by omega)], rfl, rfl⟩⟩
  · rw [eX4_undo]
    simp only [wX4_undo_0, wX4_undo_1, wX4_undo_4, wX4_undo_7, wX4_undo_10, wX4_undo_17, wX4_undo_18, wX4_undo_19, wX4_undo_22, wX4_undo_23, wX4_undo_24, wX4_undo_27, wX4_undo_28, wX4_undo_31, wX4_undo_32, wX4_undo_35, wX4_undo_36i, wX4_undo_36r, wX4_undo_36n, wX4_undo_37, wX4_undo_38, wX4_undo_41, wX4_undo_42, wX4_undo_45, wX4_undo_46, wX4_undo_49, wX4_undo_50, wX4_undo_51, wX4_undo_52, wX4_undo_55, wX4_undo_56, wX4_undo_59, t1, t2, t3, t5, b25, t7, kk, if_false, sk, m21, t6 K hK3, hK3, bK, el, c20, nz K (by omega), nz 3 (by decide), ne_eq, not_false_iff]
  · rw [u2_oth (by decide), c20]; exact t2
  · show u2 (u2 mr 3 K (Ad (pm 3))) 2 2 (Ad (pm K)) 2 2 = Ad (if 3 = K then pm 3 else if 3 = 3 then pm K else pm 3)
    rw [u2_at, if_neg (by omega), if_pos rfl]
  · show u2 (u2 mr 3 K (Ad (pm 3))) 2 2 (Ad (pm K)) 3 i = Ad (if i = K then pm 3 else if i = 3 then pm K else pm i)
    rw [u2_oth (by omega)]
    by_cases hiK : i = K
    · subst hiK; rw [u2_at, if_pos rfl]
    · rw [u2_oth (fun h9 => hiK h9.2), if_neg hiK, if_neg (by omega)]; exact t6 i hi
  · show (if i = K then pm 3 else if i = 3 then pm K else pm i) < 4
    split
    · exact p1 3 (by decide)
    · split
      · exact p1 K (by omega)
      · exact p1 i hi
  · show ¬ (if i = K then pm 3 else if i = 3 then pm K else pm i) = (if j = K then pm 3 else if j = 3 then pm K else pm j)
    by_cases h1 : i = K
    · rw [if_pos h1, if_neg (by omega)]
      by_cases h2 : j = 3
      · rw [if_pos h2]; exact p2 3 K (by decide) (by omega) (by omega)
      · rw [if_neg h2]; exact p2 3 j (by decide) hj (by omega)
    · rw [if_neg h1]
      by_cases h2 : i = 3
      · rw [if_pos h2]
        by_cases h3 : j = K
        · rw [if_pos h3]; exact p2 K 3 (by omega) (by decide) (by omega)
        · rw [if_neg h3, if_neg (by omega)]; exact p2 K j (by omega) hj (by omega)
      · rw [if_neg h2]
        by_cases h3 : j = K
        · rw [if_pos h3]; exact p2 i 3 hi (by decide) h2
        · rw [if_neg h3]
          by_cases h4 : j = 3
          · rw [if_pos h4]; exact p2 i K hi (by omega) h1
          · rw [if_neg h4]; exact p2 i j hi hj hij
  · dsimp only
    rw [if_neg (by omega), if_neg (by omega)]
    exact (hK i (by omega)).lw (by have := Ad_b (p1 i (by omega)); omega) hlw
  · dsimp only
    rw [if_neg (by omega), if_pos rfl]
    exact (hK K (by omega)).lw (by have := Ad_b (p1 K (by omega)); omega) hlw
theorem k_undo0 (h : TG (E + 1) 0 S (r, q) pm x1 x2 Ln g mi mr) : CTx E 0 S (r, q) g mi ml mr (callT (d + 7) mX4_undo [.ref 2] (g, mi, ml, mr)) "java/lang/IllegalStateException" := by
  obtain ⟨⟨h1, h2⟩, -⟩ := h.thr
  have k1 := h.k2.1
  have t7 := h.1.2.2.1
  rw [eX4_undo]
  simp only [wX4_undo_0, wX4_undo_1, wX4_undo_4, wX4_undo_7, wX4_undo_10, wX4_undo_17, wX4_undo_18, wX4_undo_19, wX4_undo_22, wX4_undo_23, wX4_undo_24, wX4_undo_27, wX4_undo_28, wX4_undo_31, wX4_undo_32, wX4_undo_35, wX4_undo_36i, wX4_undo_36r, wX4_undo_36n, wX4_undo_37, wX4_undo_38, wX4_undo_41, wX4_undo_42, wX4_undo_45, wX4_undo_46, wX4_undo_49, wX4_undo_50, wX4_undo_51, wX4_undo_52, wX4_undo_55, wX4_undo_56, wX4_undo_59, k1, t7, if_true, h1, h2, cs_0]
  exact h.ctx
/-- release -/
theorem k_release1 (h : TG E K S (r, q) pm x1 x2 Ln g mi mr) (hJ : JI X B N t D r q) (hB : B ≤ 12012) (h0 : r 0 = nI C) (hC1 : 1 ≤ C) (hC : C ≤ 12) (he : e < 2) (hc : c < C) (hs : nI 1 ≤ r (eI e c 0) ∧ r (eI e c 0) ≤ nI 5) : CTr E (svK K) (svS K S (r, q)) (pRel r q e c 0) g mi ml mr (callT (d + 6) mX4_release [.ref 2, .int (nI e), .int (nI c)] (g, mi, ml, mr)) (some (.int (r (eI e c 1)))) := by
  obtain ⟨k1, k2, k3, k4, k5⟩ := h.k2
  have hF := hJ.fs
  have hc12 : c < 12 := by omega
  have kE := h.cs.kE he hc12
  have v2 : mi (eA (Ad (pm 3)) e c) 2 = r (eI e c 0) := h.cs.ev he hc12 (w := 0) (by decide) rfl
  have v3 : mi (eA (Ad (pm 3)) e c) 3 = r (eI e c 1) := h.cs.ev he hc12 (w := 1) (by decide) rfl
  obtain ⟨s', hs8, hst⟩ := hJ.wf.st he hc12
  have hs15 : 1 ≤ s' ∧ s' ≤ 5 := by
    rw [hst] at hs
    exact ⟨(nI_leI (by decide) (by omega)).mp hs.1, (nI_leI (by omega) (by decide)).mp hs.2⟩
  have n0 : ¬ r (eI e c 0) = nI 0 := by rw [hst]; exact fun h9 => by have := (nI_eq (by omega) (by decide)).mp h9; omega
  have hb_ : bI (r (eI e c 0) = nI 6 ∨ r (eI e c 0) = nI 7) = nI 0 := bI_f (fun h9 => by
    rw [hst] at h9
    rcases h9 with h9 | h9
    · have := (nI_eq (by omega) (by decide)).mp h9; omega
    · have := (nI_eq (by omega) (by decide)).mp h9; omega)
  obtain ⟨pm', y1, y2, Lm, g', mi', ml', mr', e1, e2, e3, e4⟩ := c_save (d := d + 1) (ml := ml) h hJ
  obtain ⟨m1, m2, m3, m4, m5⟩ := e2.k2
  have hcs := e2.cs
  rw [hJ.nC] at hcs
  have hrel := c_rel (d := d) (ml := ml') (v := 0) hcs e2.rm hF ((hJ.rm hB).mono rfl (by decide)) he hc12 (by decide)
  obtain ⟨z1, z2', Lz, g2, i2, l2, r2', w1, w2, w3⟩ := e2.now hrel (hJ.rel hB he hc12).fs.2.2.2.2.1 hF.2.2.2.1
  refine ⟨pm', z1, z2', Lz, g2, i2, l2, r2', ?_, w2, e3.tr w3.ox⟩
  rw [e4] at w1 m2 m3
  rw [eX4_release]
  simp only [wX4_release_0, wX4_release_1, wX4_release_2, wX4_release_3, wX4_release_6, wX4_release_7, wX4_release_10, wX4_release_11, wX4_release_12, wX4_release_15i, wX4_release_15r, wX4_release_15n, wX4_release_16, wX4_release_17, wX4_release_20, wX4_release_23, wX4_release_24, wX4_release_27, wX4_release_30, wX4_release_33, wX4_release_40, wX4_release_41, wX4_release_44i, wX4_release_44r, wX4_release_44n, wX4_release_46, wX4_release_47, wX4_release_50, wX4_release_51, wX4_release_54, wX4_release_55, wX4_release_56, wX4_release_59, wX4_release_61, k1, k2, k3, cs_0, cs_i, cs_r, c_reqE1 h h0 hC1 hC he hc, aR_v, aR_1, c_endAt h.cs he hc12, kE, v2, v3, n0, if_false, c_isClearing kE, hb_, if_true, e1, m1, m2, m3, w1]
theorem k_release0 (h : TG (E + 1) K S (r, q) pm x1 x2 Ln g mi mr) (h0 : r 0 = nI C) (hC1 : 1 ≤ C) (hC : C ≤ 12) (hx : ¬ (isX x ∧ isC r y)) : CTx E K S (r, q) g mi ml mr (callT (d + 9) mX4_release [.ref 2, .int x, .int y] (g, mi, ml, mr)) "java/lang/IndexOutOfBoundsException" := by
  obtain ⟨⟨h1, h2⟩, -⟩ := h.thr
  have k1 := h.k2.1
  have hH : mH mX4_release = [] := rfl
  rw [eX4_release]
  simp only [wX4_release_0, wX4_release_1, wX4_release_2, wX4_release_3, wX4_release_6, wX4_release_7, wX4_release_10, wX4_release_11, wX4_release_12, wX4_release_15i, wX4_release_15r, wX4_release_15n, wX4_release_16, wX4_release_17, wX4_release_20, wX4_release_23, wX4_release_24, wX4_release_27, wX4_release_30, wX4_release_33, wX4_release_40, wX4_release_41, wX4_release_44i, wX4_release_44r, wX4_release_44n, wX4_release_46, wX4_release_47, wX4_release_50, wX4_release_51, wX4_release_54, wX4_release_55, wX4_release_56, wX4_release_59, wX4_release_61, k1, cs_0, cs_i, cs_r, c_reqE0 h h0 hC1 hC hx h1 h2, aR_x hH]
  exact h.ctx
theorem k_release2 (h : TG (E + 1) K S (r, q) pm x1 x2 Ln g mi mr) (hJ : JI X B N t D r q) (h0 : r 0 = nI C) (hC1 : 1 ≤ C) (hC : C ≤ 12) (he : e < 2) (hc : c < C) (hs : ¬ (nI 1 ≤ r (eI e c 0) ∧ r (eI e c 0) ≤ nI 5)) : CTx E K S (r, q) g mi ml mr (callT (d + 9) mX4_release [.ref 2, .int (nI e), .int (nI c)] (g, mi, ml, mr)) "java/lang/IllegalStateException" := by
  obtain ⟨⟨h1, h2⟩, -⟩ := h.thr
  obtain ⟨k1, k2, k3, k4, k5⟩ := h.k2
  have hc12 : c < 12 := by omega
  have kE := h.cs.kE he hc12
  have v2 : mi (eA (Ad (pm 3)) e c) 2 = r (eI e c 0) := h.cs.ev he hc12 (w := 0) (by decide) rfl
  obtain ⟨s', hs8, hst⟩ := hJ.wf.st he hc12
  rw [eX4_release]
  by_cases p : r (eI e c 0) = nI 0
  · simp only [wX4_release_0, wX4_release_1, wX4_release_2, wX4_release_3, wX4_release_6, wX4_release_7, wX4_release_10, wX4_release_11, wX4_release_12, wX4_release_15i, wX4_release_15r, wX4_release_15n, wX4_release_16, wX4_release_17, wX4_release_20, wX4_release_23, wX4_release_24, wX4_release_27, wX4_release_30, wX4_release_33, wX4_release_40, wX4_release_41, wX4_release_44i, wX4_release_44r, wX4_release_44n, wX4_release_46, wX4_release_47, wX4_release_50, wX4_release_51, wX4_release_54, wX4_release_55, wX4_release_56, wX4_release_59, wX4_release_61, k1, k2, k3, cs_0, cs_i, cs_r, c_reqE1 h h0 hC1 hC he hc, aR_v, aR_1, c_endAt h.cs he hc12, kE, v2, p, if_true, h1, h2]
    exact h.ctx
  · have hb_ : bI (r (eI e c 0) = nI 6 ∨ r (eI e c 0) = nI 7) = nI 1 := bI_t (by
      rw [hst] at hs p ⊢
      have g1 : ¬ s' = 0 := fun h9 => p (by rw [h9])
      have g2 : ¬ s' ≤ 5 := fun h9 => hs ⟨nI_le (by omega) (by omega), nI_le h9 (by omega)⟩
      have : s' = 6 ∨ s' = 7 := by omega
      rcases this with rfl | rfl
      · exact Or.inl rfl
      · exact Or.inr rfl)
    simp only [wX4_release_0, wX4_release_1, wX4_release_2, wX4_release_3, wX4_release_6, wX4_release_7, wX4_release_10, wX4_release_11, wX4_release_12, wX4_release_15i, wX4_release_15r, wX4_release_15n, wX4_release_16, wX4_release_17, wX4_release_20, wX4_release_23, wX4_release_24, wX4_release_27, wX4_release_30, wX4_release_33, wX4_release_40, wX4_release_41, wX4_release_44i, wX4_release_44r, wX4_release_44n, wX4_release_46, wX4_release_47, wX4_release_50, wX4_release_51, wX4_release_54, wX4_release_55, wX4_release_56, wX4_release_59, wX4_release_61, k1, k2, k3, cs_0, cs_i, cs_r, c_reqE1 h h0 hC1 hC he hc, aR_v, aR_1, c_endAt h.cs he hc12, kE, v2, p, if_false, c_isClearing kE, hb_, n1_0, h1, h2]
    exact h.ctx
end CPB2
