/-! the class: its public calls: called ends, blocking, ticks -/
section CPB3
variable {s s2 off N n n0 a1 a2 b1 b2 L M e c w k k0 v j f a b d o t D p i C J B E K from_ cnt : Nat} {r r' r1 : Nat → Int32} {q q' : Nat → Int64} {g g' : Gh} {mi mi' m' : MI} {ml ml' l' : ML} {mr mr' : MR} {x1 x2 Ln pm : Nat → Nat} {S : Nat → PS} {P P' : PS} {X : Nat → Nat → Nat} {x y z : Int32}
theorem do_row (he : e < 2) (h3 : r (eI e c 3) = nI 0) (h6 : r (eI e c 6) = nI 0) : cEn r e c y (r (eI e c 1)) (nI 0) = sE (sE r e c 0 y) e c 2 (nI 0) := by
  refine row_ext (e := e) (c := c) (fun w hw => ?_) (fun j hj => ?_)
  · have hw' : w = 0 ∨ w = 1 ∨ w = 2 ∨ w = 3 ∨ w = 4 ∨ w = 5 ∨ w = 6 ∨ w = 7 ∨ w = 8 := by omega
    rcases hw' with rfl | rfl | rfl | rfl | rfl | rfl | rfl | rfl | rfl <;> simp only [cEn, ev1, Nat.reduceLT, Nat.reduceEqDiff, if_true, if_false, Nat.zero_ne_one, Nat.one_ne_zero, h3, h6]
  · unfold cEn sE
    simp only [u1_n (hj 0 (by decide)), u1_n (hj 1 (by decide)), u1_n (hj 2 (by decide)), u1_n (hj 3 (by decide)), u1_n (hj 6 (by decide))]
theorem JI.ag0 (hJ : JI X B N t D r q) (he : e < 2) (hc : c < 12) (h0 : ¬ r (eI e c 0) = nI 6) : r (eI e c 3) = nI 0 := by
  obtain ⟨hh, hb, hJ⟩ := hJ
  exact hJ.ag0 he hc h0
/-- a called end goes on -/
theorem k_move (h : TG E K S (r, q) pm x1 x2 Ln g mi mr) (hJ : JI X B N t D r q) (hB : B ≤ 12012) (he : e < 2) (hc : c < 12) (hk : k < 14) (hk0 : ¬ k = 0) (hk12 : ¬ k = 12) (hf : r (eI e c 0) = nI from_) (hf2 : 2 ≤ from_ ∧ from_ ≤ 5) (hs : 3 ≤ s ∧ s ≤ 5) (h6 : r (eI e c 6) = nI 0) : CTr E (svK K) (svS K S (r, q)) (pDo r q e c k s) g mi ml mr (callT (d + 5) mX4_moveCalledEnd [.ref 2, .int (nI e), .int (nI c), .int (nI k), .int (nI s)] (g, mi, ml, mr)) (some (.int (r (eI e c 1)))) := by
  have k1 := h.k2.1
  have hF := hJ.fs
  obtain ⟨pm', y1, y2, Lm, g', mi', ml', mr', e1, e2, e3, e4⟩ := c_save (d := d) (ml := ml) h hJ
  obtain ⟨m1, m2, m3, m4, m5⟩ := e2.k2
  have hcs := e2.cs
  rw [hJ.nC] at hcs
  have hse := c_snd (d := d + 1) (ml := ml') (q := q) (k := k) (v := 0) hcs e2.rm hF ((hJ.rm hB).mono rfl (by decide)) he hc hk (by decide) (fun h9 => absurd h9 hk0)
  obtain ⟨n', b1, b2, L', g2, i2, l2, r2', f1, f2, f3⟩ := hse
  have kE2 := f2.kE he hc
  have r1' : (pSend r q e c k 0).1 (eI e c 1) = r (eI e c 1) := pSend_e he eI_ge
  have v3 : i2 (eA (Ad (pm' 3)) e c) 3 = r (eI e c 1) := (f2.ev he hc (w := 1) (by decide) rfl).trans r1'
  have hen := f2.en (e := e) (c := c) (y0 := nI s) (y1 := r (eI e c 1)) (y2 := nI 0) he hc
  rw [← r1', do_row he (by rw [pSend_e he eI_ge]; exact hJ.ag0 he hc (by rw [hf]; exact fun h9 => by have := (nI_eq (by omega) (by decide)).mp h9; omega)) (by rw [pSend_e he eI_ge]; exact h6), r1'] at hen
  have w3' : u2 (u2 (u2 (u2 (u2 i2 (eA (Ad (pm' 3)) e c) 2 (nI s)) (eA (Ad (pm' 3)) e c) 3 (r (eI e c 1))) (eA (Ad (pm' 3)) e c) 4 (nI 0)) (eA (Ad (pm' 3)) e c) 5 (nI 0)) (eA (Ad (pm' 3)) e c) 9 (nI 0) (eA (Ad (pm' 3)) e c) 3 = r (eI e c 1) := by
    rw [u2_oth (by omega), u2_oth (by omega), u2_oth (by omega), u2_at]
  have hcr : CRs (Ad (pm' 3)) 0 N (y1 (pm' 3)) (y2 (pm' 3)) (Lm (pm' 3)) g' mi' ml' mr' (some (.inl (some (.int (r (eI e c 1)))), g2, u2 (u2 (u2 (u2 (u2 i2 (eA (Ad (pm' 3)) e c) 2 (nI s)) (eA (Ad (pm' 3)) e c) 3 (r (eI e c 1))) (eA (Ad (pm' 3)) e c) 4 (nI 0)) (eA (Ad (pm' 3)) e c) 5 (nI 0)) (eA (Ad (pm' 3)) e c) 9 (nI 0), l2, r2')) (some (.int (r (eI e c 1)))) (pDo r q e c k s) := ⟨n', b1, b2, L', g2, _, l2, r2', rfl, hen, f3.en he hc⟩
  obtain ⟨z1, z2', Lz, g3, i3, l3, r3', w1, w2, w3⟩ := e2.now hcr (hJ.does hB he hc hk hk0 hk12 hf hf2 hs h6).fs.2.2.2.2.1 hF.2.2.2.1
  refine ⟨pm', z1, z2', Lz, g3, i3, l3, r3', ?_, w2, e3.tr w3.ox⟩
  rw [← w1, eX4_moveCalledEnd]
  simp only [wX4_moveCalledEnd_0, wX4_moveCalledEnd_1, wX4_moveCalledEnd_4, wX4_moveCalledEnd_5, wX4_moveCalledEnd_8, wX4_moveCalledEnd_9, wX4_moveCalledEnd_10, wX4_moveCalledEnd_13i, wX4_moveCalledEnd_13r, wX4_moveCalledEnd_13n, wX4_moveCalledEnd_15, wX4_moveCalledEnd_16, wX4_moveCalledEnd_19, wX4_moveCalledEnd_22, wX4_moveCalledEnd_24, wX4_moveCalledEnd_25, wX4_moveCalledEnd_26, wX4_moveCalledEnd_29, wX4_moveCalledEnd_31, wX4_moveCalledEnd_33, wX4_moveCalledEnd_35, wX4_moveCalledEnd_38, wX4_moveCalledEnd_39, wX4_moveCalledEnd_42, wX4_moveCalledEnd_44, wX4_moveCalledEnd_47, k1, cs_0, cs_i, cs_r, e1, aR_v, aR_1, m1, m2, m3, m4, m5, c_endAt hcs he hc, f1, kE2, v3, c_enter kE2, w3']
/-- accept -/
theorem k_accept1 (h : TG E K S (r, q) pm x1 x2 Ln g mi mr) (hJ : JI X B N t D r q) (hB : B ≤ 12012) (h0 : r 0 = nI C) (hC1 : 1 ≤ C) (hC : C ≤ 12) (he : e < 2) (hc : c < C) (hf : r (eI e c 0) = nI 2) (h6 : r (eI e c 6) = nI 0) : CTr E (svK K) (svS K S (r, q)) (pDo r q e c 2 3) g mi ml mr (callT (d + 6) mX4_accept [.ref 2, .int (nI e), .int (nI c)] (g, mi, ml, mr)) (some (.int (r (eI e c 1)))) := by
  obtain ⟨k1, k2, k3, k4, k5⟩ := h.k2
  have hc12 : c < 12 := by omega
  have kE := h.cs.kE he hc12
  have v2 : mi (eA (Ad (pm 3)) e c) 2 = r (eI e c 0) := h.cs.ev he hc12 (w := 0) (by decide) rfl
  have v9 : mi (eA (Ad (pm 3)) e c) 9 = r (eI e c 6) := h.cs.ev he hc12 (w := 6) (by decide) rfl
  obtain ⟨pm', z1, z2', Lz, g3, i3, l3, r3', w1, w2, w3⟩ := k_move (d := d) (ml := ml) (k := 2) (s := 3) h hJ hB he hc12 (by decide) (by decide) (by decide) hf (by decide) (by decide) h6
  refine ⟨pm', z1, z2', Lz, g3, i3, l3, r3', ?_, w2, w3⟩
  rw [eX4_accept]
  simp only [wX4_accept_0, wX4_accept_1, wX4_accept_2, wX4_accept_3, wX4_accept_6, wX4_accept_7, wX4_accept_10, wX4_accept_11, wX4_accept_12, wX4_accept_15i, wX4_accept_15r, wX4_accept_15n, wX4_accept_16, wX4_accept_17, wX4_accept_20, wX4_accept_21, wX4_accept_24, wX4_accept_25, wX4_accept_28, wX4_accept_31, wX4_accept_34, wX4_accept_41, wX4_accept_42, wX4_accept_43, wX4_accept_44, wX4_accept_45, wX4_accept_46, wX4_accept_49, k1, k2, k3, cs_0, cs_i, cs_r, c_reqE1 h h0 hC1 hC he hc, aR_v, aR_1, c_endAt h.cs he hc12, kE, v2, v9, hf, h6, if_true, w1]
theorem k_accept0 (h : TG (E + 1) K S (r, q) pm x1 x2 Ln g mi mr) (h0 : r 0 = nI C) (hC1 : 1 ≤ C) (hC : C ≤ 12) (hx : ¬ (isX x ∧ isC r y)) : CTx E K S (r, q) g mi ml mr (callT (d + 9) mX4_accept [.ref 2, .int x, .int y] (g, mi, ml, mr)) "java/lang/IndexOutOfBoundsException" := by
  obtain ⟨⟨h1, h2⟩, -⟩ := h.thr
  have k1 := h.k2.1
  have hH : mH mX4_accept = [] := rfl
  rw [eX4_accept]
  simp only [wX4_accept_0, wX4_accept_1, wX4_accept_2, wX4_accept_3, wX4_accept_6, wX4_accept_7, wX4_accept_10, wX4_accept_11, wX4_accept_12, wX4_accept_15i, wX4_accept_15r, wX4_accept_15n, wX4_accept_16, wX4_accept_17, wX4_accept_20, wX4_accept_21, wX4_accept_24, wX4_accept_25, wX4_accept_28, wX4_accept_31, wX4_accept_34, wX4_accept_41, wX4_accept_42, wX4_accept_43, wX4_accept_44, wX4_accept_45, wX4_accept_46, wX4_accept_49, k1, cs_0, cs_i, cs_r, c_reqE0 h h0 hC1 hC hx h1 h2, aR_x hH]
  exact h.ctx
theorem k_accept2 (h : TG (E + 1) K S (r, q) pm x1 x2 Ln g mi mr) (h0 : r 0 = nI C) (hC1 : 1 ≤ C) (hC : C ≤ 12) (he : e < 2) (hc : c < C) (hf : ¬ (r (eI e c 0) = nI 2 ∧ r (eI e c 6) = nI 0)) : CTx E K S (r, q) g mi ml mr (callT (d + 9) mX4_accept [.ref 2, .int (nI e), .int (nI c)] (g, mi, ml, mr)) "java/lang/IllegalStateException" := by
  obtain ⟨⟨h1, h2⟩, -⟩ := h.thr
  obtain ⟨k1, k2, k3, k4, k5⟩ := h.k2
  have hc12 : c < 12 := by omega
  have kE := h.cs.kE he hc12
  have v2 : mi (eA (Ad (pm 3)) e c) 2 = r (eI e c 0) := h.cs.ev he hc12 (w := 0) (by decide) rfl
  have v9 : mi (eA (Ad (pm 3)) e c) 9 = r (eI e c 6) := h.cs.ev he hc12 (w := 6) (by decide) rfl
  rw [eX4_accept]
  by_cases p : r (eI e c 0) = nI 2
  · have p2 : ¬ r (eI e c 6) = nI 0 := fun h9 => hf ⟨p, h9⟩
    simp only [wX4_accept_0, wX4_accept_1, wX4_accept_2, wX4_accept_3, wX4_accept_6, wX4_accept_7, wX4_accept_10, wX4_accept_11, wX4_accept_12, wX4_accept_15i, wX4_accept_15r, wX4_accept_15n, wX4_accept_16, wX4_accept_17, wX4_accept_20, wX4_accept_21, wX4_accept_24, wX4_accept_25, wX4_accept_28, wX4_accept_31, wX4_accept_34, wX4_accept_41, wX4_accept_42, wX4_accept_43, wX4_accept_44, wX4_accept_45, wX4_accept_46, wX4_accept_49, k1, k2, k3, cs_0, cs_i, cs_r, c_reqE1 h h0 hC1 hC he hc, aR_v, aR_1, c_endAt h.cs he hc12, kE, v2, v9, p, p2, if_true, if_false, h1, h2]
    exact h.ctx
  · simp only [wX4_accept_0, wX4_accept_1, wX4_accept_2, wX4_accept_3, wX4_accept_6, wX4_accept_7, wX4_accept_10, wX4_accept_11, wX4_accept_12, wX4_accept_15i, wX4_accept_15r, wX4_accept_15n, wX4_accept_16, wX4_accept_17, wX4_accept_20, wX4_accept_21, wX4_accept_24, wX4_accept_25, wX4_accept_28, wX4_accept_31, wX4_accept_34, wX4_accept_41, wX4_accept_42, wX4_accept_43, wX4_accept_44, wX4_accept_45, wX4_accept_46, wX4_accept_49, k1, k2, k3, cs_0, cs_i, cs_r, c_reqE1 h h0 hC1 hC he hc, aR_v, aR_1, c_endAt h.cs he hc12, kE, v2, p, if_false, h1, h2]
    exact h.ctx
/-- the end must be in a state, and no origin -/
theorem c_reqS1 (h : TG E K S (r, q) pm x1 x2 Ln g mi mr) (hJ : JI X B N t D r q) (he : e < 2) (hc : c < 12) (hf : r (eI e c 0) = nI from_) (hw : pOwn r e c = -1) : callT (d + 3) mX4_requireCalledEnd [.ref 2, .int (nI e), .int (nI c), .int (nI from_)] (g, mi, ml, mr) = some (.inl none, g, mi, ml, mr) := by
  obtain ⟨k1, k2, k3, k4, k5⟩ := h.k2
  have hcs := h.cs
  rw [hJ.nC] at hcs
  have kE := hcs.kE he hc
  have v2 : mi (eA (Ad (pm 3)) e c) 2 = r (eI e c 0) := hcs.ev he hc (w := 0) (by decide) rfl
  have hb : bI (¬ pOwn r e c = -1) = nI 0 := bI_f (fun h9 => h9 hw)
  rw [eX4_requireCalledEnd]
  simp only [wX4_requireCalledEnd_0, wX4_requireCalledEnd_1, wX4_requireCalledEnd_4, wX4_requireCalledEnd_5, wX4_requireCalledEnd_6, wX4_requireCalledEnd_9i, wX4_requireCalledEnd_9r, wX4_requireCalledEnd_9n, wX4_requireCalledEnd_11, wX4_requireCalledEnd_13, wX4_requireCalledEnd_16, wX4_requireCalledEnd_17, wX4_requireCalledEnd_20, wX4_requireCalledEnd_21, wX4_requireCalledEnd_24, wX4_requireCalledEnd_26, wX4_requireCalledEnd_29, wX4_requireCalledEnd_32, wX4_requireCalledEnd_35, wX4_requireCalledEnd_42, k1, k2, k3, cs_0, cs_i, cs_r, aR_1, c_endAt hcs he hc, kE, v2, hf, if_true, c_isOrigin hcs hJ.fs he hc, hb]
theorem c_reqS0 (h : TG E K S (r, q) pm x1 x2 Ln g mi mr) (hJ : JI X B N t D r q) (he : e < 2) (hc : c < 12) (hno : ¬ (r (eI e c 0) = nI from_ ∧ pOwn r e c = -1)) (h1 : 1 ≤ g.2.2.2.1) (h2 : 6 ≤ g.2.2.2.2) : callT (d + 7) mX4_requireCalledEnd [.ref 2, .int (nI e), .int (nI c), .int (nI from_)] (g, mi, ml, mr) = some (.inr "java/lang/IllegalStateException", gX g, mi, ml, mr) := by
  obtain ⟨k1, k2, k3, k4, k5⟩ := h.k2
  have hcs := h.cs
  rw [hJ.nC] at hcs
  have kE := hcs.kE he hc
  have v2 : mi (eA (Ad (pm 3)) e c) 2 = r (eI e c 0) := hcs.ev he hc (w := 0) (by decide) rfl
  rw [eX4_requireCalledEnd]
  by_cases p : r (eI e c 0) = nI from_
  · have p2 : ¬ pOwn r e c = -1 := fun h9 => hno ⟨p, h9⟩
    have hb : bI (¬ pOwn r e c = -1) = nI 1 := bI_t p2
    simp only [wX4_requireCalledEnd_0, wX4_requireCalledEnd_1, wX4_requireCalledEnd_4, wX4_requireCalledEnd_5, wX4_requireCalledEnd_6, wX4_requireCalledEnd_9i, wX4_requireCalledEnd_9r, wX4_requireCalledEnd_9n, wX4_requireCalledEnd_11, wX4_requireCalledEnd_13, wX4_requireCalledEnd_16, wX4_requireCalledEnd_17, wX4_requireCalledEnd_20, wX4_requireCalledEnd_21, wX4_requireCalledEnd_24, wX4_requireCalledEnd_26, wX4_requireCalledEnd_29, wX4_requireCalledEnd_32, wX4_requireCalledEnd_35, wX4_requireCalledEnd_42, k1, k2, k3, cs_0, cs_i, cs_r, aR_1, c_endAt hcs he hc, kE, v2, p, if_true, c_isOrigin hcs hJ.fs he hc, hb, n1_0, if_false, h1, h2]
    rfl
  · simp only [wX4_requireCalledEnd_0, wX4_requireCalledEnd_1, wX4_requireCalledEnd_4, wX4_requireCalledEnd_5, wX4_requireCalledEnd_6, wX4_requireCalledEnd_9i, wX4_requireCalledEnd_9r, wX4_requireCalledEnd_9n, wX4_requireCalledEnd_11, wX4_requireCalledEnd_13, wX4_requireCalledEnd_16, wX4_requireCalledEnd_17, wX4_requireCalledEnd_20, wX4_requireCalledEnd_21, wX4_requireCalledEnd_24, wX4_requireCalledEnd_26, wX4_requireCalledEnd_29, wX4_requireCalledEnd_32, wX4_requireCalledEnd_35, wX4_requireCalledEnd_42, k1, k2, k3, cs_0, cs_i, cs_r, aR_1, c_endAt hcs he hc, kE, v2, p, if_false, h1, h2]
    rfl
/-- answer -/
theorem k_answer1 (h : TG E K S (r, q) pm x1 x2 Ln g mi mr) (hJ : JI X B N t D r q) (hB : B ≤ 12012) (h0 : r 0 = nI C) (hC1 : 1 ≤ C) (hC : C ≤ 12) (he : e < 2) (hc : c < C) (hf : r (eI e c 0) = nI 3) (hw : pOwn r e c = -1) (h6 : r (eI e c 6) = nI 0) : CTr E (svK K) (svS K S (r, q)) (pDo r q e c 3 4) g mi ml mr (callT (d + 6) mX4_answer [.ref 2, .int (nI e), .int (nI c)] (g, mi, ml, mr)) (some (.int (r (eI e c 1)))) := by
  obtain ⟨k1, k2, k3, k4, k5⟩ := h.k2
  have hc12 : c < 12 := by omega
  obtain ⟨pm', z1, z2', Lz, g3, i3, l3, r3', w1, w2, w3⟩ := k_move (d := d) (ml := ml) (k := 3) (s := 4) h hJ hB he hc12 (by decide) (by decide) (by decide) hf (by decide) (by decide) h6
  refine ⟨pm', z1, z2', Lz, g3, i3, l3, r3', ?_, w2, w3⟩
  rw [eX4_answer]
  simp only [wX4_answer_0, wX4_answer_1, wX4_answer_2, wX4_answer_3, wX4_answer_6, wX4_answer_7, wX4_answer_8, wX4_answer_9, wX4_answer_10, wX4_answer_13, wX4_answer_14, wX4_answer_15, wX4_answer_16, wX4_answer_17, wX4_answer_18, wX4_answer_21, k1, cs_0, cs_i, cs_r, c_reqE1 h h0 hC1 hC he hc, aR_v, aR_1, c_reqS1 h hJ he hc12 hf hw, w1]
theorem k_answer0 (h : TG (E + 1) K S (r, q) pm x1 x2 Ln g mi mr) (h0 : r 0 = nI C) (hC1 : 1 ≤ C) (hC : C ≤ 12) (hx : ¬ (isX x ∧ isC r y)) : CTx E K S (r, q) g mi ml mr (callT (d + 9) mX4_answer [.ref 2, .int x, .int y] (g, mi, ml, mr)) "java/lang/IndexOutOfBoundsException" := by
  obtain ⟨⟨h1, h2⟩, -⟩ := h.thr
  have k1 := h.k2.1
  have hH : mH mX4_answer = [] := rfl
  rw [eX4_answer]
  simp only [wX4_answer_0, wX4_answer_1, wX4_answer_2, wX4_answer_3, wX4_answer_6, wX4_answer_7, wX4_answer_8, wX4_answer_9, wX4_answer_10, wX4_answer_13, wX4_answer_14, wX4_answer_15, wX4_answer_16, wX4_answer_17, wX4_answer_18, wX4_answer_21, k1, cs_0, cs_i, cs_r, c_reqE0 h h0 hC1 hC hx h1 h2, aR_x hH]
  exact h.ctx
theorem k_answer2 (h : TG (E + 1) K S (r, q) pm x1 x2 Ln g mi mr) (hJ : JI X B N t D r q) (h0 : r 0 = nI C) (hC1 : 1 ≤ C) (hC : C ≤ 12) (he : e < 2) (hc : c < C) (hno : ¬ (r (eI e c 0) = nI 3 ∧ pOwn r e c = -1)) : CTx E K S (r, q) g mi ml mr (callT (d + 9) mX4_answer [.ref 2, .int (nI e), .int (nI c)] (g, mi, ml, mr)) "java/lang/IllegalStateException" := by
  obtain ⟨⟨h1, h2⟩, -⟩ := h.thr
  have k1 := h.k2.1
  have hc12 : c < 12 := by omega
  have hH : mH mX4_answer = [] := rfl
  rw [eX4_answer]
  simp only [wX4_answer_0, wX4_answer_1, wX4_answer_2, wX4_answer_3, wX4_answer_6, wX4_answer_7, wX4_answer_8, wX4_answer_9, wX4_answer_10, wX4_answer_13, wX4_answer_14, wX4_answer_15, wX4_answer_16, wX4_answer_17, wX4_answer_18, wX4_answer_21, k1, cs_0, cs_i, cs_r, c_reqE1 h h0 hC1 hC he hc, aR_v, c_reqS0 h hJ he hc12 hno h1 h2, aR_x hH]
  exact h.ctx
/-- suspend -/
theorem k_suspend1 (h : TG E K S (r, q) pm x1 x2 Ln g mi mr) (hJ : JI X B N t D r q) (hB : B ≤ 12012) (h0 : r 0 = nI C) (hC1 : 1 ≤ C) (hC : C ≤ 12) (he : e < 2) (hc : c < C) (hf : r (eI e c 0) = nI 4) (hw : pOwn r e c = -1) (h6 : r (eI e c 6) = nI 0) : CTr E (svK K) (svS K S (r, q)) (pDo r q e c 4 5) g mi ml mr (callT (d + 6) mX4_suspend [.ref 2, .int (nI e), .int (nI c)] (g, mi, ml, mr)) (some (.int (r (eI e c 1)))) := by
  obtain ⟨k1, k2, k3, k4, k5⟩ := h.k2
  have hc12 : c < 12 := by omega
  obtain ⟨pm', z1, z2', Lz, g3, i3, l3, r3', w1, w2, w3⟩ := k_move (d := d) (ml := ml) (k := 4) (s := 5) h hJ hB he hc12 (by decide) (by decide) (by decide) hf (by decide) (by decide) h6
  refine ⟨pm', z1, z2', Lz, g3, i3, l3, r3', ?_, w2, w3⟩
  rw [eX4_suspend]
  simp only [wX4_suspend_0, wX4_suspend_1, wX4_suspend_2, wX4_suspend_3, wX4_suspend_6, wX4_suspend_7, wX4_suspend_8, wX4_suspend_9, wX4_suspend_10, wX4_suspend_13, wX4_suspend_14, wX4_suspend_15, wX4_suspend_16, wX4_suspend_17, wX4_suspend_18, wX4_suspend_21, k1, cs_0, cs_i, cs_r, c_reqE1 h h0 hC1 hC he hc, aR_v, aR_1, c_reqS1 h hJ he hc12 hf hw, w1]
theorem k_suspend0 (h : TG (E + 1) K S (r, q) pm x1 x2 Ln g mi mr) (h0 : r 0 = nI C) (hC1 : 1 ≤ C) (hC : C ≤ 12) (hx : ¬ (isX x ∧ isC r y)) : CTx E K S (r, q) g mi ml mr (callT (d + 9) mX4_suspend [.ref 2, .int x, .int y] (g, mi, ml, mr)) "java/lang/IndexOutOfBoundsException" := by
  obtain ⟨⟨h1, h2⟩, -⟩ := h.thr
  have k1 := h.k2.1
  have hH : mH mX4_suspend = [] := rfl
  rw [eX4_suspend]
  simp only [wX4_suspend_0, wX4_suspend_1, wX4_suspend_2, wX4_suspend_3, wX4_suspend_6, wX4_suspend_7, wX4_suspend_8, wX4_suspend_9, wX4_suspend_10, wX4_suspend_13, wX4_suspend_14, wX4_suspend_15, wX4_suspend_16, wX4_suspend_17, wX4_suspend_18, wX4_suspend_21, k1, cs_0, cs_i, cs_r, c_reqE0 h h0 hC1 hC hx h1 h2, aR_x hH]
  exact h.ctx
theorem k_suspend2 (h : TG (E + 1) K S (r, q) pm x1 x2 Ln g mi mr) (hJ : JI X B N t D r q) (h0 : r 0 = nI C) (hC1 : 1 ≤ C) (hC : C ≤ 12) (he : e < 2) (hc : c < C) (hno : ¬ (r (eI e c 0) = nI 4 ∧ pOwn r e c = -1)) : CTx E K S (r, q) g mi ml mr (callT (d + 9) mX4_suspend [.ref 2, .int (nI e), .int (nI c)] (g, mi, ml, mr)) "java/lang/IllegalStateException" := by
  obtain ⟨⟨h1, h2⟩, -⟩ := h.thr
  have k1 := h.k2.1
  have hc12 : c < 12 := by omega
  have hH : mH mX4_suspend = [] := rfl
  rw [eX4_suspend]
  simp only [wX4_suspend_0, wX4_suspend_1, wX4_suspend_2, wX4_suspend_3, wX4_suspend_6, wX4_suspend_7, wX4_suspend_8, wX4_suspend_9, wX4_suspend_10, wX4_suspend_13, wX4_suspend_14, wX4_suspend_15, wX4_suspend_16, wX4_suspend_17, wX4_suspend_18, wX4_suspend_21, k1, cs_0, cs_i, cs_r, c_reqE1 h h0 hC1 hC he hc, aR_v, c_reqS0 h hJ he hc12 hno h1 h2, aR_x hH]
  exact h.ctx
/-- resume -/
theorem k_resume1 (h : TG E K S (r, q) pm x1 x2 Ln g mi mr) (hJ : JI X B N t D r q) (hB : B ≤ 12012) (h0 : r 0 = nI C) (hC1 : 1 ≤ C) (hC : C ≤ 12) (he : e < 2) (hc : c < C) (hf : r (eI e c 0) = nI 5) (hw : pOwn r e c = -1) (h6 : r (eI e c 6) = nI 0) : CTr E (svK K) (svS K S (r, q)) (pDo r q e c 5 4) g mi ml mr (callT (d + 6) mX4_resume [.ref 2, .int (nI e), .int (nI c)] (g, mi, ml, mr)) (some (.int (r (eI e c 1)))) := by
  obtain ⟨k1, k2, k3, k4, k5⟩ := h.k2
  have hc12 : c < 12 := by omega
  obtain ⟨pm', z1, z2', Lz, g3, i3, l3, r3', w1, w2, w3⟩ := k_move (d := d) (ml := ml) (k := 5) (s := 4) h hJ hB he hc12 (by decide) (by decide) (by decide) hf (by decide) (by decide) h6
  refine ⟨pm', z1, z2', Lz, g3, i3, l3, r3', ?_, w2, w3⟩
  rw [eX4_resume]
  simp only [wX4_resume_0, wX4_resume_1, wX4_resume_2, wX4_resume_3, wX4_resume_6, wX4_resume_7, wX4_resume_8, wX4_resume_9, wX4_resume_10, wX4_resume_13, wX4_resume_14, wX4_resume_15, wX4_resume_16, wX4_resume_17, wX4_resume_18, wX4_resume_21, k1, cs_0, cs_i, cs_r, c_reqE1 h h0 hC1 hC he hc, aR_v, aR_1, c_reqS1 h hJ he hc12 hf hw, w1]
theorem k_resume0 (h : TG (E + 1) K S (r, q) pm x1 x2 Ln g mi mr) (h0 : r 0 = nI C) (hC1 : 1 ≤ C) (hC : C ≤ 12) (hx : ¬ (isX x ∧ isC r y)) : CTx E K S (r, q) g mi ml mr (callT (d + 9) mX4_resume [.ref 2, .int x, .int y] (g, mi, ml, mr)) "java/lang/IndexOutOfBoundsException" := by
  obtain ⟨⟨h1, h2⟩, -⟩ := h.thr
  have k1 := h.k2.1
  have hH : mH mX4_resume = [] := rfl
  rw [eX4_resume]
  simp only [wX4_resume_0, wX4_resume_1, wX4_resume_2, wX4_resume_3, wX4_resume_6, wX4_resume_7, wX4_resume_8, wX4_resume_9, wX4_resume_10, wX4_resume_13, wX4_resume_14, wX4_resume_15, wX4_resume_16, wX4_resume_17, wX4_resume_18, wX4_resume_21, k1, cs_0, cs_i, cs_r, c_reqE0 h h0 hC1 hC hx h1 h2, aR_x hH]
  exact h.ctx
theorem k_resume2 (h : TG (E + 1) K S (r, q) pm x1 x2 Ln g mi mr) (hJ : JI X B N t D r q) (h0 : r 0 = nI C) (hC1 : 1 ≤ C) (hC : C ≤ 12) (he : e < 2) (hc : c < C) (hno : ¬ (r (eI e c 0) = nI 5 ∧ pOwn r e c = -1)) : CTx E K S (r, q) g mi ml mr (callT (d + 9) mX4_resume [.ref 2, .int (nI e), .int (nI c)] (g, mi, ml, mr)) "java/lang/IllegalStateException" := by
  obtain ⟨⟨h1, h2⟩, -⟩ := h.thr
  have k1 := h.k2.1
  have hc12 : c < 12 := by omega
  have hH : mH mX4_resume = [] := rfl
  rw [eX4_resume]
  simp only [wX4_resume_0, wX4_resume_1, wX4_resume_2, wX4_resume_3, wX4_resume_6, wX4_resume_7, wX4_resume_8, wX4_resume_9, wX4_resume_10, wX4_resume_13, wX4_resume_14, wX4_resume_15, wX4_resume_16, wX4_resume_17, wX4_resume_18, wX4_resume_21, k1, cs_0, cs_i, cs_r, c_reqE1 h h0 hC1 hC he hc, aR_v, c_reqS0 h hJ he hc12 hno h1 h2, aR_x hH]
  exact h.ctx
/-- block -/
theorem k_block1 (h : TG E K S (r, q) pm x1 x2 Ln g mi mr) (hJ : JI X B N t D r q) (hB : B ≤ 12012) (hX : X e c = 1) (h0 : r 0 = nI C) (hC1 : 1 ≤ C) (hC : C ≤ 12) (he : e < 2) (hc : c < C) (hs : ¬ (nI 1 ≤ r (eI e c 4) ∧ r (eI e c 4) ≤ nI 2)) : CTr E (svK K) (svS K S (r, q)) (pBk r q e c 8 1) g mi ml mr (callT (d + 5) mX4_block [.ref 2, .int (nI e), .int (nI c)] (g, mi, ml, mr)) (some (.int (r (eI e c 4)))) := by
  obtain ⟨k1, k2, k3, k4, k5⟩ := h.k2
  have hF := hJ.fs
  have hc12 : c < 12 := by omega
  have kE := h.cs.kE he hc12
  have v6 : mi (eA (Ad (pm 3)) e c) 6 = r (eI e c 4) := h.cs.ev he hc12 (w := 4) (by decide) rfl
  have hlb : ∃ s, s < 4 ∧ r (eI e c 4) = nI s := by
    obtain ⟨hh, hb, hJ'⟩ := hJ
    exact hJ'.lb he hc12
  have hrf := ref_eq hlb
  have hb_ : bI (r (eI e c 4) = nI 1 ∨ r (eI e c 4) = nI 2) = nI 0 := bI_f (fun h9 => hs (hrf.mp h9))
  obtain ⟨pm', y1, y2, Lm, g', mi', ml', mr', e1, e2, e3, e4⟩ := c_save (d := d) (ml := ml) h hJ
  obtain ⟨m1, m2, m3, m4, m5⟩ := e2.k2
  have hcs := e2.cs
  rw [hJ.nC] at hcs
  obtain ⟨n', b1, b2, L', g2, i2, l2, r2', f1, f2, f3⟩ := c_snd (d := d + 1) (ml := ml') (q := q) (k := 8) (v := 0) hcs e2.rm hF ((hJ.rm hB).mono rfl (by decide)) he hc12 (by decide) (by decide) (fun h9 => absurd h9 (by decide))
  have kE2 := f2.kE he hc12
  have hbk := f2.b48 (e := e) (c := c) (y := nI 1) (y1 := nI 10) he hc12 (by unfold bOn; decide)
  have hro : sE (sE (pSend r q e c 8 0).1 e c 4 (nI 1)) e c 8 (nI 10) = sE (sE (pSend r q e c 8 0).1 e c 8 (nI 10)) e c 4 (nI 1) := u1_u1 (by unfold eI; omega)
  rw [hro] at hbk
  have hcr : CRs (Ad (pm' 3)) 0 N (y1 (pm' 3)) (y2 (pm' 3)) (Lm (pm' 3)) g' mi' ml' mr' (some (.inl (some (.int (r (eI e c 4)))), g2, u2 (u2 i2 (eA (Ad (pm' 3)) e c) 6 (nI 1)) (eA (Ad (pm' 3)) e c) 7 (nI 10), l2, r2')) (some (.int (r (eI e c 4)))) (pBk r q e c 8 1) := ⟨n', b1, b2, L', g2, _, l2, r2', rfl, hbk, (f3.eA_ he hc12).eA_ he hc12⟩
  obtain ⟨z1, z2', Lz, g3, i3, l3, r3', w1, w2, w3⟩ := e2.now hcr (hJ.blk hB he hc12 (by decide) (Or.inl ⟨rfl, hX⟩)).fs.2.2.2.2.1 hF.2.2.2.1
  refine ⟨pm', z1, z2', Lz, g3, i3, l3, r3', ?_, w2, e3.tr w3.ox⟩
  rw [← w1, eX4_block]
  rw [e4] at m2 m3 m4 m5 f1 kE2 ⊢
  simp only [wX4_block_0, wX4_block_1, wX4_block_2, wX4_block_3, wX4_block_6, wX4_block_7, wX4_block_10, wX4_block_11, wX4_block_12, wX4_block_15i, wX4_block_15r, wX4_block_15n, wX4_block_16, wX4_block_17, wX4_block_20, wX4_block_23, wX4_block_26, wX4_block_33, wX4_block_34, wX4_block_37i, wX4_block_37r, wX4_block_37n, wX4_block_39, wX4_block_40, wX4_block_43, wX4_block_44, wX4_block_47, wX4_block_50, wX4_block_51, wX4_block_53, wX4_block_54, wX4_block_57, wX4_block_58, wX4_block_59, wX4_block_61, wX4_block_64, wX4_block_66, k1, k2, k3, cs_0, cs_i, cs_r, c_reqE1 h h0 hC1 hC he hc, aR_v, aR_1, c_endAt h.cs he hc12, kE, c_refuses kE, v6, hb_, if_true, e1, m1, m2, m3, m4, m5, f1, kE2, c_slb kE2]
theorem k_block0 (h : TG (E + 1) K S (r, q) pm x1 x2 Ln g mi mr) (h0 : r 0 = nI C) (hC1 : 1 ≤ C) (hC : C ≤ 12) (hx : ¬ (isX x ∧ isC r y)) : CTx E K S (r, q) g mi ml mr (callT (d + 9) mX4_block [.ref 2, .int x, .int y] (g, mi, ml, mr)) "java/lang/IndexOutOfBoundsException" := by
  obtain ⟨⟨h1, h2⟩, -⟩ := h.thr
  have k1 := h.k2.1
  have hH : mH mX4_block = [] := rfl
  rw [eX4_block]
  simp only [wX4_block_0, wX4_block_1, wX4_block_2, wX4_block_3, wX4_block_6, wX4_block_7, wX4_block_10, wX4_block_11, wX4_block_12, wX4_block_15i, wX4_block_15r, wX4_block_15n, wX4_block_16, wX4_block_17, wX4_block_20, wX4_block_23, wX4_block_26, wX4_block_33, wX4_block_34, wX4_block_37i, wX4_block_37r, wX4_block_37n, wX4_block_39, wX4_block_40, wX4_block_43, wX4_block_44, wX4_block_47, wX4_block_50, wX4_block_51, wX4_block_53, wX4_block_54, wX4_block_57, wX4_block_58, wX4_block_59, wX4_block_61, wX4_block_64, wX4_block_66, k1, cs_0, cs_i, cs_r, c_reqE0 h h0 hC1 hC hx h1 h2, aR_x hH]
  exact h.ctx
theorem k_block2 (h : TG (E + 1) K S (r, q) pm x1 x2 Ln g mi mr) (hJ : JI X B N t D r q) (h0 : r 0 = nI C) (hC1 : 1 ≤ C) (hC : C ≤ 12) (he : e < 2) (hc : c < C) (hs : (nI 1 ≤ r (eI e c 4) ∧ r (eI e c 4) ≤ nI 2)) : CTx E K S (r, q) g mi ml mr (callT (d + 9) mX4_block [.ref 2, .int (nI e), .int (nI c)] (g, mi, ml, mr)) "java/lang/IllegalStateException" := by
  obtain ⟨⟨h1, h2⟩, -⟩ := h.thr
  obtain ⟨k1, k2, k3, k4, k5⟩ := h.k2
  have hc12 : c < 12 := by omega
  have kE := h.cs.kE he hc12
  have v6 : mi (eA (Ad (pm 3)) e c) 6 = r (eI e c 4) := h.cs.ev he hc12 (w := 4) (by decide) rfl
  have hlb : ∃ s, s < 4 ∧ r (eI e c 4) = nI s := by
    obtain ⟨hh, hb, hJ'⟩ := hJ
    exact hJ'.lb he hc12
  have hrf := ref_eq hlb
  have hb_ : bI (r (eI e c 4) = nI 1 ∨ r (eI e c 4) = nI 2) = nI 1 := bI_t (hrf.mpr hs)
  rw [eX4_block]
  simp only [wX4_block_0, wX4_block_1, wX4_block_2, wX4_block_3, wX4_block_6, wX4_block_7, wX4_block_10, wX4_block_11, wX4_block_12, wX4_block_15i, wX4_block_15r, wX4_block_15n, wX4_block_16, wX4_block_17, wX4_block_20, wX4_block_23, wX4_block_26, wX4_block_33, wX4_block_34, wX4_block_37i, wX4_block_37r, wX4_block_37n, wX4_block_39, wX4_block_40, wX4_block_43, wX4_block_44, wX4_block_47, wX4_block_50, wX4_block_51, wX4_block_53, wX4_block_54, wX4_block_57, wX4_block_58, wX4_block_59, wX4_block_61, wX4_block_64, wX4_block_66, k1, k2, k3, cs_0, cs_i, cs_r, c_reqE1 h h0 hC1 hC he hc, aR_v, aR_1, c_endAt h.cs he hc12, kE, c_refuses kE, v6, hb_, n1_0, if_false, h1, h2]
  exact h.ctx
/-- unblock -/
theorem k_unblock1 (h : TG E K S (r, q) pm x1 x2 Ln g mi mr) (hJ : JI X B N t D r q) (hB : B ≤ 12012) (h0 : r 0 = nI C) (hC1 : 1 ≤ C) (hC : C ≤ 12) (he : e < 2) (hc : c < C) (hs : (nI 1 ≤ r (eI e c 4) ∧ r (eI e c 4) ≤ nI 2)) : CTr E (svK K) (svS K S (r, q)) (pBk r q e c 10 3) g mi ml mr (callT (d + 5) mX4_unblock [.ref 2, .int (nI e), .int (nI c)] (g, mi, ml, mr)) (some (.int (r (eI e c 4)))) := by
  obtain ⟨k1, k2, k3, k4, k5⟩ := h.k2
  have hF := hJ.fs
  have hc12 : c < 12 := by omega
  have kE := h.cs.kE he hc12
  have v6 : mi (eA (Ad (pm 3)) e c) 6 = r (eI e c 4) := h.cs.ev he hc12 (w := 4) (by decide) rfl
  have hlb : ∃ s, s < 4 ∧ r (eI e c 4) = nI s := by
    obtain ⟨hh, hb, hJ'⟩ := hJ
    exact hJ'.lb he hc12
  have hrf := ref_eq hlb
  have hb_ : bI (r (eI e c 4) = nI 1 ∨ r (eI e c 4) = nI 2) = nI 1 := bI_t (hrf.mpr hs)
  obtain ⟨pm', y1, y2, Lm, g', mi', ml', mr', e1, e2, e3, e4⟩ := c_save (d := d) (ml := ml) h hJ
  obtain ⟨m1, m2, m3, m4, m5⟩ := e2.k2
  have hcs := e2.cs
  rw [hJ.nC] at hcs
  obtain ⟨n', b1, b2, L', g2, i2, l2, r2', f1, f2, f3⟩ := c_snd (d := d + 1) (ml := ml') (q := q) (k := 10) (v := 0) hcs e2.rm hF ((hJ.rm hB).mono rfl (by decide)) he hc12 (by decide) (by decide) (fun h9 => absurd h9 (by decide))
  have kE2 := f2.kE he hc12
  have hbk := f2.b48 (e := e) (c := c) (y := nI 3) (y1 := nI 10) he hc12 (by unfold bOn; decide)
  have hro : sE (sE (pSend r q e c 10 0).1 e c 4 (nI 3)) e c 8 (nI 10) = sE (sE (pSend r q e c 10 0).1 e c 8 (nI 10)) e c 4 (nI 3) := u1_u1 (by unfold eI; omega)
  rw [hro] at hbk
  have hcr : CRs (Ad (pm' 3)) 0 N (y1 (pm' 3)) (y2 (pm' 3)) (Lm (pm' 3)) g' mi' ml' mr' (some (.inl (some (.int (r (eI e c 4)))), g2, u2 (u2 i2 (eA (Ad (pm' 3)) e c) 6 (nI 3)) (eA (Ad (pm' 3)) e c) 7 (nI 10), l2, r2')) (some (.int (r (eI e c 4)))) (pBk r q e c 10 3) := ⟨n', b1, b2, L', g2, _, l2, r2', rfl, hbk, (f3.eA_ he hc12).eA_ he hc12⟩
  obtain ⟨z1, z2', Lz, g3, i3, l3, r3', w1, w2, w3⟩ := e2.now hcr (hJ.blk hB he hc12 (by decide) (Or.inr rfl)).fs.2.2.2.2.1 hF.2.2.2.1
  refine ⟨pm', z1, z2', Lz, g3, i3, l3, r3', ?_, w2, e3.tr w3.ox⟩
  rw [← w1, eX4_unblock]
  rw [e4] at m2 m3 m4 m5 f1 kE2 ⊢
  simp only [wX4_unblock_0, wX4_unblock_1, wX4_unblock_2, wX4_unblock_3, wX4_unblock_6, wX4_unblock_7, wX4_unblock_10, wX4_unblock_11, wX4_unblock_12, wX4_unblock_15i, wX4_unblock_15r, wX4_unblock_15n, wX4_unblock_16, wX4_unblock_17, wX4_unblock_20, wX4_unblock_23, wX4_unblock_26, wX4_unblock_33, wX4_unblock_34, wX4_unblock_37i, wX4_unblock_37r, wX4_unblock_37n, wX4_unblock_39, wX4_unblock_40, wX4_unblock_43, wX4_unblock_44, wX4_unblock_47, wX4_unblock_50, wX4_unblock_51, wX4_unblock_53, wX4_unblock_54, wX4_unblock_57, wX4_unblock_58, wX4_unblock_59, wX4_unblock_61, wX4_unblock_64, wX4_unblock_66, k1, k2, k3, cs_0, cs_i, cs_r, c_reqE1 h h0 hC1 hC he hc, aR_v, aR_1, c_endAt h.cs he hc12, kE, c_refuses kE, v6, hb_, n1_0, if_false, e1, m1, m2, m3, m4, m5, f1, kE2, c_slb kE2]
theorem k_unblock0 (h : TG (E + 1) K S (r, q) pm x1 x2 Ln g mi mr) (h0 : r 0 = nI C) (hC1 : 1 ≤ C) (hC : C ≤ 12) (hx : ¬ (isX x ∧ isC r y)) : CTx E K S (r, q) g mi ml mr (callT (d + 9) mX4_unblock [.ref 2, .int x, .int y] (g, mi, ml, mr)) "java/lang/IndexOutOfBoundsException" := by
  obtain ⟨⟨h1, h2⟩, -⟩ := h.thr
  have k1 := h.k2.1
  have hH : mH mX4_unblock = [] := rfl
  rw [eX4_unblock]
  simp only [wX4_unblock_0, wX4_unblock_1, wX4_unblock_2, wX4_unblock_3, wX4_unblock_6, wX4_unblock_7, wX4_unblock_10, wX4_unblock_11, wX4_unblock_12, wX4_unblock_15i, wX4_unblock_15r, wX4_unblock_15n, wX4_unblock_16, wX4_unblock_17, wX4_unblock_20, wX4_unblock_23, wX4_unblock_26, wX4_unblock_33, wX4_unblock_34, wX4_unblock_37i, wX4_unblock_37r, wX4_unblock_37n, wX4_unblock_39, wX4_unblock_40, wX4_unblock_43, wX4_unblock_44, wX4_unblock_47, wX4_unblock_50, wX4_unblock_51, wX4_unblock_53, wX4_unblock_54, wX4_unblock_57, wX4_unblock_58, wX4_unblock_59, wX4_unblock_61, wX4_unblock_64, wX4_unblock_66, k1, cs_0, cs_i, cs_r, c_reqE0 h h0 hC1 hC hx h1 h2, aR_x hH]
  exact h.ctx
theorem k_unblock2 (h : TG (E + 1) K S (r, q) pm x1 x2 Ln g mi mr) (hJ : JI X B N t D r q) (h0 : r 0 = nI C) (hC1 : 1 ≤ C) (hC : C ≤ 12) (he : e < 2) (hc : c < C) (hs : ¬ (nI 1 ≤ r (eI e c 4) ∧ r (eI e c 4) ≤ nI 2)) : CTx E K S (r, q) g mi ml mr (callT (d + 9) mX4_unblock [.ref 2, .int (nI e), .int (nI c)] (g, mi, ml, mr)) "java/lang/IllegalStateException" := by
  obtain ⟨⟨h1, h2⟩, -⟩ := h.thr
  obtain ⟨k1, k2, k3, k4, k5⟩ := h.k2
  have hc12 : c < 12 := by omega
  have kE := h.cs.kE he hc12
  have v6 : mi (eA (Ad (pm 3)) e c) 6 = r (eI e c 4) := h.cs.ev he hc12 (w := 4) (by decide) rfl
  have hlb : ∃ s, s < 4 ∧ r (eI e c 4) = nI s := by
    obtain ⟨hh, hb, hJ'⟩ := hJ
    exact hJ'.lb he hc12
  have hrf := ref_eq hlb
  have hb_ : bI (r (eI e c 4) = nI 1 ∨ r (eI e c 4) = nI 2) = nI 0 := bI_f (fun h9 => hs (hrf.mp h9))
  rw [eX4_unblock]
  simp only [wX4_unblock_0, wX4_unblock_1, wX4_unblock_2, wX4_unblock_3, wX4_unblock_6, wX4_unblock_7, wX4_unblock_10, wX4_unblock_11, wX4_unblock_12, wX4_unblock_15i, wX4_unblock_15r, wX4_unblock_15n, wX4_unblock_16, wX4_unblock_17, wX4_unblock_20, wX4_unblock_23, wX4_unblock_26, wX4_unblock_33, wX4_unblock_34, wX4_unblock_37i, wX4_unblock_37r, wX4_unblock_37n, wX4_unblock_39, wX4_unblock_40, wX4_unblock_43, wX4_unblock_44, wX4_unblock_47, wX4_unblock_50, wX4_unblock_51, wX4_unblock_53, wX4_unblock_54, wX4_unblock_57, wX4_unblock_58, wX4_unblock_59, wX4_unblock_61, wX4_unblock_64, wX4_unblock_66, k1, k2, k3, cs_0, cs_i, cs_r, c_reqE1 h h0 hC1 hC he hc, aR_v, aR_1, c_endAt h.cs he hc12, kE, c_refuses kE, v6, hb_, if_true, h1, h2]
  exact h.ctx
end CPB3
