/-! the class: ends, calls, circuits chosen -/
/-- an end enters a state -/
def cEn (r : Nat → Int32) (e c : Nat) (z0 z1 z2 : Int32) : Nat → Int32 := sE (sE (sE (sE (sE r e c 0 z0) e c 1 z1) e c 2 z2) e c 3 (nI 0)) e c 6 (nI 0)
/-- what a row tells -/
def FS (N t D : Nat) (r : Nat → Int32) : Prop := r 2 = nI t ∧ r 1 = nI D ∧ t + D < 1000000 ∧ N ≤ 40 ∧ r 5 = nI N ∧ ∀ e c, e < 2 → c < 12 → ∃ o, o ≤ N ∧ r (eI e c 1) = oI o
section CST1
variable {X : Nat → Nat → Nat} {β T hh hb : Nat → Nat} {A : Nat × Nat} {s off N n a1 a2 b1 b2 L L' e c w k v j f a d o z x S t D p i C : Nat} {r r' r1 : Nat → Int32} {q : Nat → Int64} {g g' : Gh} {mi mi' : MI} {ml ml' : ML} {mr mr' : MR} {m : Ms} {y y0 y1 y2 but : Int32}
theorem JG.fs (hJ : JG X β T A hh hb N t D r q) : FS N t D r := by
  refine ⟨hJ.2.1.1, hJ.2.1.2.2.1, by have := hJ.2.1.2.1; have := hJ.2.1.2.2.2.2; omega, hJ.1.2.1.2, hJ.1.2.1.1, fun e c he hc => ?_⟩
  obtain ⟨s, o, tm, ag, lb, rm, wt, vl, bt, ⟨-, v1, -⟩, hn, -, -⟩ := hJ.ej he hc
  exact ⟨o, hn.1.2.1, v1⟩
theorem FS.ef (h : FS N t D r) (he : e < 2) (hc : c < 12) (hw : w < 9) (h1 : ¬ w = 1) : FS N t D (sE r e c w y) := by
  obtain ⟨g1, g2, g3, g4, g5, g6⟩ := h
  have hge := eI_ge (e := e) (c := c) (w := w)
  refine ⟨(u1_n (by omega)).trans g1, (u1_n (by omega)).trans g2, g3, g4, (u1_n (by omega)).trans g5, fun e' c' he' hc' => ?_⟩
  obtain ⟨o, k1, k2⟩ := g6 e' c' he' hc'
  exact ⟨o, k1, (u1_n (by unfold eI; omega)).trans k2⟩
theorem FS.e1 (h : FS N t D r) (he : e < 2) (hc : c < 12) (ho : o ≤ N) : FS N t D (sE r e c 1 (oI o)) := by
  obtain ⟨g1, g2, g3, g4, g5, g6⟩ := h
  have hge := eI_ge (e := e) (c := c) (w := 1)
  refine ⟨(u1_n (by omega)).trans g1, (u1_n (by omega)).trans g2, g3, g4, (u1_n (by omega)).trans g5, fun e' c' he' hc' => ?_⟩
  obtain ⟨o', k1, k2⟩ := g6 e' c' he' hc'
  by_cases h9 : e' = e ∧ c' = c
  · obtain ⟨rfl, rfl⟩ := h9; exact ⟨o, ho, sE_s⟩
  · exact ⟨o', k1, (u1_n (by unfold eI; omega)).trans k2⟩
theorem FS.cc (h : FS N t D r) : FS N t D (sC r n w y) := by
  obtain ⟨g1, g2, g3, g4, g5, g6⟩ := h
  exact ⟨(sC_n (by decide)).trans g1, (sC_n (by decide)).trans g2, g3, g4, (sC_n (by decide)).trans g5, fun e' c' he' hc' => by rw [sC_n (eI_lt he' hc' (by decide))]; exact g6 e' c' he' hc'⟩
theorem FS.lo (h : FS N t D r) (hj : j < 24) (h1 : ¬ j = 1) (h2 : ¬ j = 2) (h5 : ¬ j = 5) : FS N t D (u1 r j y) := by
  obtain ⟨g1, g2, g3, g4, g5, g6⟩ := h
  exact ⟨(u1_n (fun h => h2 h.symm)).trans g1, (u1_n (fun h => h1 h.symm)).trans g2, g3, g4, (u1_n (fun h => h5 h.symm)).trans g5, fun e' c' he' hc' => by rw [u1_n (by have := eI_ge (e := e') (c := c') (w := 1); omega)]; exact g6 e' c' he' hc'⟩
theorem FS.send (h : FS N t D r) (he : e < 2) : FS N t D (pSend r q e c k v).1 := by
  unfold pSend mSends
  split
  · exact ((h.lo (by omega) (by omega) (by omega) (by omega)).lo (by omega) (by omega) (by omega) (by omega)).lo (by decide) (by decide) (by decide) (by decide)
  · exact (h.lo (by decide) (by decide) (by decide) (by decide)).lo (by decide) (by decide) (by decide) (by decide)
theorem FS.pend (h : FS N t D r) : FS N t D (pEnd r n y) := h.cc.cc
theorem FS.pendO (h : FS N t D r) : FS N t D (pEndO r y y1) := by
  unfold pEndO
  split
  · exact h
  · exact h.pend
theorem FS.en (h : FS N t D r) (he : e < 2) (hc : c < 12) (ho : o ≤ N) : FS N t D (cEn r e c y (oI o) y2) := ((((h.ef he hc (by decide) (by decide)).e1 he hc ho).ef he hc (by decide) (by decide)).ef he hc (by decide) (by decide)).ef he hc (by decide) (by decide)
/-- rows that are the same at one end, and elsewhere -/
theorem row_ext (h1 : ∀ w, w < 9 → r (eI e c w) = r' (eI e c w)) (h2 : ∀ j, (∀ w, w < 9 → ¬ j = eI e c w) → r j = r' j) : r = r' := by
  funext j
  by_cases h : ∃ w, w < 9 ∧ j = eI e c w
  · obtain ⟨w, hw, rfl⟩ := h; exact h1 w hw
  · exact h2 j (fun w hw h9 => h ⟨w, hw, h9⟩)
theorem c_endAt (h : CS s off N n a1 a2 L r q g mi mr) (he : e < 2) (hc : c < 12) : callT (d + 1) mX3_endAt [.ref s, .int (nI e), .int (nI c)] (g, mi, ml, mr) = some (.inl (some (.ref (eA s e c))), g, mi, ml, mr) := by
  obtain ⟨⟨⟨c1, -, c3, -⟩, ⟨-, -, c8, c9, -⟩, -, c16, -⟩, -⟩ := h
  have b1 : e * 12 + c < 24 := by omega
  have b2 : e * 12 + c < 2147483648 := by omega
  have hk : g.1 (s + 2) = 23 ∨ g.1 (s + 2) = 24 ∨ g.1 (s + 2) = 25 := Or.inl c8
  have hz : eA s e c ≠ 0 := by unfold eA; omega
  have hm : mr (s + 2) (e * 12 + c) = eA s e c := (c16 (e * 12 + c) b1).2
  rw [eX3_endAt]
  simp only [wX3_endAt_0, wX3_endAt_1, wX3_endAt_4, wX3_endAt_5, wX3_endAt_7, wX3_endAt_8, wX3_endAt_9, wX3_endAt_10, wX3_endAt_11, c1, c3, pk_mul, nI_add, hk, c9, b1, b2, hm, hz, ne_eq, not_false_iff]
theorem c_hasCall (h : CS s off N n a1 a2 L r q g mi mr) (h5 : r 5 = nI N) : callT (d + 1) mX3_hasCall [.ref s, .int y] (g, mi, ml, mr) = some (.inl (some (.int (bI (nI 0 ≤ y ∧ y < nI N)))), g, mi, ml, mr) := by
  have c1 := h.1.1.1
  have v3 : mi s 3 = nI N := (h.lv (j := 5) (a := s) (f := 3) (by decide) (by decide) rfl rfl).trans h5
  rw [eX3_hasCall]
  unfold bI
  by_cases p1 : y < nI 0
  · have p1' : ¬ nI 0 ≤ y := Int32.not_le.mpr p1
    simp only [wX3_hasCall_0, wX3_hasCall_1, wX3_hasCall_4, wX3_hasCall_5, wX3_hasCall_6, wX3_hasCall_9, wX3_hasCall_12, wX3_hasCall_13, wX3_hasCall_16, wX3_hasCall_17, p1, p1', if_true, false_and, if_false, true_or]
  · have p1' : nI 0 ≤ y := Int32.not_lt.mp p1
    by_cases p2 : nI N ≤ y
    · have p2' : ¬ y < nI N := Int32.not_lt.mpr p2
      simp only [wX3_hasCall_0, wX3_hasCall_1, wX3_hasCall_4, wX3_hasCall_5, wX3_hasCall_6, wX3_hasCall_9, wX3_hasCall_12, wX3_hasCall_13, wX3_hasCall_16, wX3_hasCall_17, c1, v3, p1, p1', p2, p2', if_true, and_false, if_false, true_or]
    · have p2' : y < nI N := Int32.not_le.mp p2
      simp only [wX3_hasCall_0, wX3_hasCall_1, wX3_hasCall_4, wX3_hasCall_5, wX3_hasCall_6, wX3_hasCall_9, wX3_hasCall_12, wX3_hasCall_13, wX3_hasCall_16, wX3_hasCall_17, c1, v3, p1, p1', p2, p2', if_true, and_self, if_false, or_true]
theorem own_oI (ho : r (eI e c 1) = oI o) (h : 1 ≤ o) (h2 : o ≤ 40) : r (eI e c 1) = nI (o - 1) := by
  rw [ho]; unfold oI; rw [if_neg (by omega)]
theorem c_isOrigin (h : CS s off N n a1 a2 L r q g mi mr) (hF : FS N t D r) (he : e < 2) (hc : c < 12) : callT (d + 2) mX3_isOrigin [.ref s, .ref (eA s e c)] (g, mi, ml, mr) = some (.inl (some (.int (bI (¬ pOwn r e c = -1)))), g, mi, ml, mr) := by
  obtain ⟨⟨⟨c1, -, -, c4, -⟩, ⟨-, -, -, -, c10, c11⟩, -, -, c17⟩, -⟩ := id h
  obtain ⟨-, -, -, hN, h5, h6⟩ := hF
  obtain ⟨o, ho, hoo⟩ := h6 e c he hc
  have kE := h.kE he hc
  have v3 : mi (eA s e c) 3 = r (eI e c 1) := h.ev he hc (w := 1) (by decide) rfl
  have v0 : mi (eA s e c) 0 = nI e := (h.2.2.1.2.2 e c he hc).1
  rw [eX3_isOrigin]
  by_cases h0 : o = 0
  · have hm : r (eI e c 1) = -1 := by rw [hoo, h0]; rfl
    have hp : pOwn r e c = -1 := pOwn_m1 hm
    have hb : bI (nI 0 ≤ (-1 : Int32) ∧ (-1 : Int32) < nI N) = nI 0 := bI_f (fun h9 => absurd h9.1 (by decide))
    have hb2 : bI (¬ pOwn r e c = -1) = nI 0 := bI_f (fun h9 => h9 hp)
    rw [hb2]
    simp only [wX3_isOrigin_0, wX3_isOrigin_1, wX3_isOrigin_2, wX3_isOrigin_5, wX3_isOrigin_8, wX3_isOrigin_11, wX3_isOrigin_12, wX3_isOrigin_15, wX3_isOrigin_16, wX3_isOrigin_19, wX3_isOrigin_20, wX3_isOrigin_23, wX3_isOrigin_24, wX3_isOrigin_27, wX3_isOrigin_30, wX3_isOrigin_31, wX3_isOrigin_34, wX3_isOrigin_35, c1, kE, v3, hm, cs_0, cs_i, cs_r, c_hasCall h h5, aR_1, hb, if_true, true_or]
  · have hm := own_oI hoo (by omega) (by omega)
    have hb : bI (nI 0 ≤ nI (o - 1) ∧ nI (o - 1) < nI N) = nI 1 := bI_t ⟨nI_le (by omega) (by omega), nI_lt (by omega) (by omega)⟩
    have hk : g.1 (s + 3) = 23 ∨ g.1 (s + 3) = 24 ∨ g.1 (s + 3) = 25 := Or.inr (Or.inl c10)
    have q1 : o - 1 < 40 := by omega
    have q2 : o - 1 < 2147483648 := by omega
    obtain ⟨kc, rc⟩ := c17 (o - 1) q1
    have vc : mi (cA s (o - 1)) 0 = r (cI (o - 1) 0) := h.cv_ (by omega) hN (w := 0) (by decide) rfl
    have hp : pOwn r e c = if r (cI (o - 1) 0) = nI e then nI (o - 1) else -1 := by
      unfold pOwn
      rw [hm, clampN q2]
      have nm : ¬ nI (o - 1) = -1 := by rw [nI_m1 q2]; exact id
      by_cases p : r (cI (o - 1) 0) = nI e
      · rw [if_pos ⟨nm, p⟩, if_pos p]
      · rw [if_neg (fun h9 => p h9.2), if_neg p]
    have nm : ¬ nI (o - 1) = -1 := by rw [nI_m1 q2]; exact id
    by_cases p : r (cI (o - 1) 0) = nI e
    · rw [if_pos p] at hp
      have hb2 : bI (¬ pOwn r e c = -1) = nI 1 := bI_t (by rw [hp]; exact nm)
      rw [hb2]
      simp only [wX3_isOrigin_0, wX3_isOrigin_1, wX3_isOrigin_2, wX3_isOrigin_5, wX3_isOrigin_8, wX3_isOrigin_11, wX3_isOrigin_12, wX3_isOrigin_15, wX3_isOrigin_16, wX3_isOrigin_19, wX3_isOrigin_20, wX3_isOrigin_23, wX3_isOrigin_24, wX3_isOrigin_27, wX3_isOrigin_30, wX3_isOrigin_31, wX3_isOrigin_34, wX3_isOrigin_35, c1, kE, v3, hm, cs_0, cs_i, cs_r, c_hasCall h h5, aR_1, hb, n1_0, if_false, c4, hk, c11, q1, q2, rc, kc, vc, v0, p, if_true, or_true]
    · rw [if_neg p] at hp
      have hb2 : bI (¬ pOwn r e c = -1) = nI 0 := bI_f (fun h9 => h9 hp)
      rw [hb2]
      simp only [wX3_isOrigin_0, wX3_isOrigin_1, wX3_isOrigin_2, wX3_isOrigin_5, wX3_isOrigin_8, wX3_isOrigin_11, wX3_isOrigin_12, wX3_isOrigin_15, wX3_isOrigin_16, wX3_isOrigin_19, wX3_isOrigin_20, wX3_isOrigin_23, wX3_isOrigin_24, wX3_isOrigin_27, wX3_isOrigin_30, wX3_isOrigin_31, wX3_isOrigin_34, wX3_isOrigin_35, c1, kE, v3, hm, cs_0, cs_i, cs_r, c_hasCall h h5, aR_1, hb, n1_0, if_false, c4, hk, c11, q1, q2, rc, kc, vc, v0, p, if_true, true_or]
theorem c_controls (h : CS s off N n a1 a2 L r q g mi mr) (he : e < 2) (hc : c < 12) : callT (d + 1) mX1_controlsCircuit [.ref (eA s e c)] (g, mi, ml, mr) = some (.inl (some (.int (bI (nI (c % 2) = nI e)))), g, mi, ml, mr) := by
  have kE := h.kE he hc
  obtain ⟨v0, v1⟩ := h.2.2.1.2.2 e c he hc
  have hrem : nI c - nI c / nI 2 * nI 2 = nI (c % 2) := pk_rem (by omega) (by decide) (by decide)
  have n2 : ¬ nI 2 = 0 := by decide
  rw [eX1_controlsCircuit]
  unfold bI
  by_cases p : nI (c % 2) = nI e
  · simp only [wX1_controlsCircuit_0, wX1_controlsCircuit_1, wX1_controlsCircuit_4, wX1_controlsCircuit_5, wX1_controlsCircuit_6, wX1_controlsCircuit_7, wX1_controlsCircuit_10, wX1_controlsCircuit_13, wX1_controlsCircuit_14, wX1_controlsCircuit_17, wX1_controlsCircuit_18, kE, v0, v1, n2, not_false_iff, hrem, p, if_true, or_true]
  · simp only [wX1_controlsCircuit_0, wX1_controlsCircuit_1, wX1_controlsCircuit_4, wX1_controlsCircuit_5, wX1_controlsCircuit_6, wX1_controlsCircuit_7, wX1_controlsCircuit_10, wX1_controlsCircuit_13, wX1_controlsCircuit_14, wX1_controlsCircuit_17, wX1_controlsCircuit_18, kE, v0, v1, n2, not_false_iff, hrem, p, if_true, if_false, true_or]
theorem chS_keep (hc : c < 12) (h : (chS r e but (c + 1)).1 = nI c) : ∀ j, (chS r e but (c + 1 + j)).1 = nI c
  | 0 => h
  | j + 1 => by
    have ih := chS_keep hc h j
    show (if frB r e but (c + 1 + j) = true ∧ nI ((c + 1 + j) % 2) = nI e ∧ (chS r e but (c + 1 + j)).1 = -1 then nI (c + 1 + j) else (chS r e but (c + 1 + j)).1) = nI c
    rw [if_neg (fun h9 => by rw [ih, nI_m1 (by omega)] at h9; exact h9.2.2)]
    exact ih
theorem fc_loop (h : CS s off N n a1 a2 L r q g mi mr) (h0 : r 0 = nI C) (hC : C ≤ 12) (he : e < 2) : ∀ j c (u : Value), c + j = C → (chS r e but c).1 = -1 → R (d + 1) mX3_findCircuit 5 [.ref s, .int (nI e), .int but, .int (chS r e but c).2, .int (nI c), u] [] g mi ml mr = some (.inl (some (.int (mChosen r e but C))), g, mi, ml, mr) := by
  have c1 := h.1.1.1
  have v0 : mi s 0 = nI C := (h.lv (j := 0) (a := s) (f := 0) (by decide) (by decide) rfl rfl).trans h0
  intro j
  induction j with
  | zero =>
    intro c u hc hf
    have : c = C := by omega
    subst this
    have hm : mChosen r e but c = (chS r e but c).2 := by unfold mChosen; rw [if_pos hf]
    rw [hm, wX3_findCircuit_5]
    simp only [wX3_findCircuit_0, wX3_findCircuit_1i, wX3_findCircuit_1r, wX3_findCircuit_1n, wX3_findCircuit_2, wX3_findCircuit_3i, wX3_findCircuit_3r, wX3_findCircuit_3n, wX3_findCircuit_7, wX3_findCircuit_8, wX3_findCircuit_11, wX3_findCircuit_14, wX3_findCircuit_15, wX3_findCircuit_16, wX3_findCircuit_18, wX3_findCircuit_21i, wX3_findCircuit_21r, wX3_findCircuit_21n, wX3_findCircuit_23, wX3_findCircuit_25, wX3_findCircuit_26, wX3_findCircuit_29, wX3_findCircuit_31, wX3_findCircuit_34, wX3_findCircuit_37, wX3_findCircuit_40, wX3_findCircuit_42, wX3_findCircuit_45, wX3_findCircuit_48, wX3_findCircuit_50, wX3_findCircuit_51, wX3_findCircuit_53i, wX3_findCircuit_53r, wX3_findCircuit_53n, wX3_findCircuit_54i, wX3_findCircuit_54r, wX3_findCircuit_54n, wX3_findCircuit_57, wX3_findCircuit_60, wX3_findCircuit_61, c1, v0, Int32.le_refl, if_true]
  | succ j ih =>
    intro c u hc hf
    have c12 : c < 12 := by omega
    have hlt : ¬ nI C ≤ nI c := nI_ge (by omega) (by omega)
    have kE := h.kE he c12
    have e2 : mi (eA s e c) 2 = r (eI e c 0) := h.ev he c12 (w := 0) (by decide) rfl
    have e6 : mi (eA s e c) 6 = r (eI e c 4) := h.ev he c12 (w := 4) (by decide) rfl
    have e8 : mi (eA s e c) 8 = r (eI e c 5) := h.ev he c12 (w := 5) (by decide) rfl
    have hfr : frB r e but c = true ↔ ¬ nI c = but ∧ (r (eI e c 0) = nI 0 ∧ r (eI e c 4) = nI 0 ∧ r (eI e c 5) = nI 0) := by
      unfold frB
      simp only [Bool.and_eq_true, decide_eq_true_eq]
    have s1 : (chS r e but (c + 1)).1 = if frB r e but c = true ∧ nI (c % 2) = nI e ∧ (chS r e but c).1 = -1 then nI c else (chS r e but c).1 := rfl
    have s2 : (chS r e but (c + 1)).2 = if frB r e but c = true ∧ ¬ nI (c % 2) = nI e then nI c else (chS r e but c).2 := rfl
    rw [wX3_findCircuit_5]
    by_cases p1 : nI c = but
    · have nf : ¬ frB r e but c = true := fun h9 => (hfr.mp h9).1 p1
      rw [if_neg (fun h9 => nf h9.1)] at s1 s2
      have e1 := ih (c + 1) (.ref (eA s e c)) (by omega) (by rw [s1]; exact hf)
      rw [s2] at e1
      simp only [wX3_findCircuit_0, wX3_findCircuit_1i, wX3_findCircuit_1r, wX3_findCircuit_1n, wX3_findCircuit_2, wX3_findCircuit_3i, wX3_findCircuit_3r, wX3_findCircuit_3n, wX3_findCircuit_7, wX3_findCircuit_8, wX3_findCircuit_11, wX3_findCircuit_14, wX3_findCircuit_15, wX3_findCircuit_16, wX3_findCircuit_18, wX3_findCircuit_21i, wX3_findCircuit_21r, wX3_findCircuit_21n, wX3_findCircuit_23, wX3_findCircuit_25, wX3_findCircuit_26, wX3_findCircuit_29, wX3_findCircuit_31, wX3_findCircuit_34, wX3_findCircuit_37, wX3_findCircuit_40, wX3_findCircuit_42, wX3_findCircuit_45, wX3_findCircuit_48, wX3_findCircuit_50, wX3_findCircuit_51, wX3_findCircuit_53i, wX3_findCircuit_53r, wX3_findCircuit_53n, wX3_findCircuit_54i, wX3_findCircuit_54r, wX3_findCircuit_54n, wX3_findCircuit_57, wX3_findCircuit_60, wX3_findCircuit_61, c1, v0, hlt, if_false, cs_0, cs_i, cs_r, c_endAt h he c12, aR_1, eq_true p1, if_true, nI_add]
      exact e1
    · by_cases p2 : r (eI e c 0) = nI 0 ∧ r (eI e c 4) = nI 0 ∧ r (eI e c 5) = nI 0
      · have fr : frB r e but c = true := hfr.mpr ⟨p1, p2⟩
        have hb : bI (r (eI e c 0) = nI 0 ∧ r (eI e c 4) = nI 0 ∧ r (eI e c 5) = nI 0) = nI 1 := bI_t p2
        by_cases p3 : nI (c % 2) = nI e
        · rw [if_pos ⟨fr, p3, hf⟩] at s1
          have hk := chS_keep (r := r) (e := e) (but := but) c12 s1 j
          rw [show c + 1 + j = C by omega] at hk
          have hm : mChosen r e but C = nI c := by unfold mChosen; rw [hk, if_neg (by rw [nI_m1 (show c < 2147483648 by omega)]; exact id)]
          rw [hm]
          simp only [wX3_findCircuit_0, wX3_findCircuit_1i, wX3_findCircuit_1r, wX3_findCircuit_1n, wX3_findCircuit_2, wX3_findCircuit_3i, wX3_findCircuit_3r, wX3_findCircuit_3n, wX3_findCircuit_7, wX3_findCircuit_8, wX3_findCircuit_11, wX3_findCircuit_14, wX3_findCircuit_15, wX3_findCircuit_16, wX3_findCircuit_18, wX3_findCircuit_21i, wX3_findCircuit_21r, wX3_findCircuit_21n, wX3_findCircuit_23, wX3_findCircuit_25, wX3_findCircuit_26, wX3_findCircuit_29, wX3_findCircuit_31, wX3_findCircuit_34, wX3_findCircuit_37, wX3_findCircuit_40, wX3_findCircuit_42, wX3_findCircuit_45, wX3_findCircuit_48, wX3_findCircuit_50, wX3_findCircuit_51, wX3_findCircuit_53i, wX3_findCircuit_53r, wX3_findCircuit_53n, wX3_findCircuit_54i, wX3_findCircuit_54r, wX3_findCircuit_54n, wX3_findCircuit_57, wX3_findCircuit_60, wX3_findCircuit_61, c1, v0, hlt, if_false, cs_0, cs_i, cs_r, c_endAt h he c12, aR_1, p1, kE, c_isFree kE, e2, e6, e8, hb, n1_0, c_controls h he c12, bI_t p3]
        · rw [if_neg (fun h9 => p3 h9.2.1)] at s1
          rw [if_pos ⟨fr, p3⟩] at s2
          have e1 := ih (c + 1) (.ref (eA s e c)) (by omega) (by rw [s1]; exact hf)
          rw [s2] at e1
          simp only [wX3_findCircuit_0, wX3_findCircuit_1i, wX3_findCircuit_1r, wX3_findCircuit_1n, wX3_findCircuit_2, wX3_findCircuit_3i, wX3_findCircuit_3r, wX3_findCircuit_3n, wX3_findCircuit_7, wX3_findCircuit_8, wX3_findCircuit_11, wX3_findCircuit_14, wX3_findCircuit_15, wX3_findCircuit_16, wX3_findCircuit_18, wX3_findCircuit_21i, wX3_findCircuit_21r, wX3_findCircuit_21n, wX3_findCircuit_23, wX3_findCircuit_25, wX3_findCircuit_26, wX3_findCircuit_29, wX3_findCircuit_31, wX3_findCircuit_34, wX3_findCircuit_37, wX3_findCircuit_40, wX3_findCircuit_42, wX3_findCircuit_45, wX3_findCircuit_48, wX3_findCircuit_50, wX3_findCircuit_51, wX3_findCircuit_53i, wX3_findCircuit_53r, wX3_findCircuit_53n, wX3_findCircuit_54i, wX3_findCircuit_54r, wX3_findCircuit_54n, wX3_findCircuit_57, wX3_findCircuit_60, wX3_findCircuit_61, c1, v0, hlt, if_false, cs_0, cs_i, cs_r, c_endAt h he c12, aR_1, p1, kE, c_isFree kE, e2, e6, e8, hb, n1_0, c_controls h he c12, bI_f p3, if_true, nI_add]
          exact e1
      · have nf : ¬ frB r e but c = true := fun h9 => p2 (hfr.mp h9).2
        have hb : bI (r (eI e c 0) = nI 0 ∧ r (eI e c 4) = nI 0 ∧ r (eI e c 5) = nI 0) = nI 0 := bI_f p2
        rw [if_neg (fun h9 => nf h9.1)] at s1 s2
        have e1 := ih (c + 1) (.ref (eA s e c)) (by omega) (by rw [s1]; exact hf)
        rw [s2] at e1
        simp only [wX3_findCircuit_0, wX3_findCircuit_1i, wX3_findCircuit_1r, wX3_findCircuit_1n, wX3_findCircuit_2, wX3_findCircuit_3i, wX3_findCircuit_3r, wX3_findCircuit_3n, wX3_findCircuit_7, wX3_findCircuit_8, wX3_findCircuit_11, wX3_findCircuit_14, wX3_findCircuit_15, wX3_findCircuit_16, wX3_findCircuit_18, wX3_findCircuit_21i, wX3_findCircuit_21r, wX3_findCircuit_21n, wX3_findCircuit_23, wX3_findCircuit_25, wX3_findCircuit_26, wX3_findCircuit_29, wX3_findCircuit_31, wX3_findCircuit_34, wX3_findCircuit_37, wX3_findCircuit_40, wX3_findCircuit_42, wX3_findCircuit_45, wX3_findCircuit_48, wX3_findCircuit_50, wX3_findCircuit_51, wX3_findCircuit_53i, wX3_findCircuit_53r, wX3_findCircuit_53n, wX3_findCircuit_54i, wX3_findCircuit_54r, wX3_findCircuit_54n, wX3_findCircuit_57, wX3_findCircuit_60, wX3_findCircuit_61, c1, v0, hlt, if_false, cs_0, cs_i, cs_r, c_endAt h he c12, aR_1, p1, kE, c_isFree kE, e2, e6, e8, hb, if_true, nI_add]
        exact e1
theorem c_find (h : CS s off N n a1 a2 L r q g mi mr) (h0 : r 0 = nI C) (hC : C ≤ 12) (he : e < 2) : callT (d + 2) mX3_findCircuit [.ref s, .int (nI e), .int but] (g, mi, ml, mr) = some (.inl (some (.int (mChosen r e but C))), g, mi, ml, mr) := by
  rw [eX3_findCircuit]
  simp only [wX3_findCircuit_0, wX3_findCircuit_1i, wX3_findCircuit_1r, wX3_findCircuit_1n, wX3_findCircuit_2, wX3_findCircuit_3i, wX3_findCircuit_3r, wX3_findCircuit_3n, wX3_findCircuit_7, wX3_findCircuit_8, wX3_findCircuit_11, wX3_findCircuit_14, wX3_findCircuit_15, wX3_findCircuit_16, wX3_findCircuit_18, wX3_findCircuit_21i, wX3_findCircuit_21r, wX3_findCircuit_21n, wX3_findCircuit_23, wX3_findCircuit_25, wX3_findCircuit_26, wX3_findCircuit_29, wX3_findCircuit_31, wX3_findCircuit_34, wX3_findCircuit_37, wX3_findCircuit_40, wX3_findCircuit_42, wX3_findCircuit_45, wX3_findCircuit_48, wX3_findCircuit_50, wX3_findCircuit_51, wX3_findCircuit_53i, wX3_findCircuit_53r, wX3_findCircuit_53n, wX3_findCircuit_54i, wX3_findCircuit_54r, wX3_findCircuit_54n, wX3_findCircuit_57, wX3_findCircuit_60, wX3_findCircuit_61]
  exact fc_loop h h0 hC he C 0 .null (by omega) rfl
end CST1
