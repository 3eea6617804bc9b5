/-! the class: calls tried again and ended, ends released and reset -/
section CST3
variable {X : Nat → Nat → Nat} {β T hh hb : Nat → Nat} {A : Nat × Nat} {s off N n a1 a2 b1 b2 L L' e c w k v j f a d o z x S t D p i C : Nat} {r r' r1 : Nat → Int32} {q : Nat → Int64} {g g' : Gh} {mi mi' : MI} {ml ml' : ML} {mr mr' : MR} {m : Ms} {y y0 y1 y2 but : Int32} {oo : Option Res} {ret : Option Value} {ps : PS}
theorem CS.fin (h : CS s off N n a1 a2 L r q g mi mr) (hi : i < 40) : CS s off N n a1 a2 L (pEnd r i y) q g (u2 (u2 mi (cA s i) 4 (nI 4)) (cA s i) 5 y) mr := (h.c_ (w := 3) (f := 4) hi (by decide) rfl).c_ (w := 4) (f := 5) hi (by decide) rfl
theorem JG.ag0 (hJ : JG X β T A hh hb N t D r q) (he : e < 2) (hc : c < 12) (h0 : ¬ r (eI e c 0) = nI 6) : r (eI e c 3) = nI 0 := by
  obtain ⟨s, o, tm, ag, lb, rm, wt, vl, bt, ⟨v0, v1, v2, v3, -⟩, hn, -, -⟩ := hJ.ej he hc
  unfold eV at v0 v3
  have : ag = 0 := Decidable.byContradiction (fun h9 => h0 (by rw [v0, hn.2.2.2.2.1 h9]))
  rw [v3, this]
theorem c_try (h : CS s off N n a1 a2 L r q g mi mr) (hR : RmC L g) (hJ : JG X β T A hh hb N t D r q) (hm : Rm r 1) (hi : i < N) : CRs s off N a1 a2 L g mi ml mr (callT (d + 5) mX3_tryAgain [.ref s, .int (nI i), .int y] (g, mi, ml, mr)) none (pTry r q i y) := by
  have hF := hJ.fs
  have hN := hF.2.2.2.1
  have h5 := hF.2.2.2.2.1
  obtain ⟨⟨C, g1, g2, g3⟩, -, -, g7, -⟩ := hJ.1
  obtain ⟨og, at_, ck, k1, k2, k3, k4, k5, k6⟩ := g7 i (by omega)
  obtain ⟨⟨⟨c1, -, -, c4, c5⟩, ⟨-, -, -, -, c10, c11⟩, ⟨c12, -⟩, -, c17⟩, -⟩ := id h
  have q1 : i < 40 := by omega
  have q2 : i < 2147483648 := by omega
  obtain ⟨kc, rc⟩ := c17 i q1
  have hka : g.1 (s + 3) = 23 ∨ g.1 (s + 3) = 24 ∨ g.1 (s + 3) = 25 := Or.inr (Or.inl c10)
  have hb : bI (nI 0 ≤ nI i ∧ nI i < nI N) = nI 1 := bI_t ⟨nI_le (by omega) (by omega), nI_lt hi (by omega)⟩
  have r2_ : mi (cA s i) 2 = r (cI i 2) := h.cv_ hi hN (w := 2) (by decide) rfl
  have r0_ : mi (cA s i) 0 = nI og := (h.cv_ hi hN (w := 0) (by decide) rfl).trans k4
  have r3_ : mi (cA s i) 3 = r (cI i 1) := h.cv_ hi hN (w := 1) (by decide) rfl
  have hfin := c_finish (d := d + 3) (g := g) (mi := mi) (ml := ml) (mr := mr) (a := y) kc
  have done : CRs s off N a1 a2 L g mi ml mr (some (.inl none, g, u2 (u2 mi (cA s i) 4 (nI 4)) (cA s i) 5 y, ml, mr)) none (pEnd r i y, q) := ⟨n, a1, a2, L, g, _, ml, mr, rfl, h.fin q1, (Tr.rf.cA_ q1).cA_ q1⟩
  rw [eX3_tryAgain]
  unfold pTry
  simp only [k4, k6, g3, clampN (show og < 2147483648 by omega), clampN (show ck < 2147483648 by omega), clampN (show C < 2147483648 by omega)]
  by_cases p1 : r (cI i 2) < nI 3
  · have p1' : ¬ nI 3 ≤ r (cI i 2) := Int32.not_le.mpr p1
    have hfd := c_find (d := d + 2) (ml := ml) (but := r (cI i 1)) h g3 g2 k1
    rcases mChosen_fr (r := r) (e := og) (but := r (cI i 1)) C with p2 | ⟨c, hc, hidle, p2⟩
    · rw [p2] at hfd
      simp only [p1, p2, if_true]
      simp only [wX3_tryAgain_0, wX3_tryAgain_1, wX3_tryAgain_2, wX3_tryAgain_5, wX3_tryAgain_8, wX3_tryAgain_9, wX3_tryAgain_10, wX3_tryAgain_13, wX3_tryAgain_14, wX3_tryAgain_15i, wX3_tryAgain_15r, wX3_tryAgain_15n, wX3_tryAgain_16, wX3_tryAgain_17i, wX3_tryAgain_17r, wX3_tryAgain_17n, wX3_tryAgain_19, wX3_tryAgain_20, wX3_tryAgain_23, wX3_tryAgain_24, wX3_tryAgain_27, wX3_tryAgain_28, wX3_tryAgain_29, wX3_tryAgain_32, wX3_tryAgain_33, wX3_tryAgain_36, wX3_tryAgain_39i, wX3_tryAgain_39r, wX3_tryAgain_39n, wX3_tryAgain_41, wX3_tryAgain_43, wX3_tryAgain_44, wX3_tryAgain_47, wX3_tryAgain_48, wX3_tryAgain_49, wX3_tryAgain_52, wX3_tryAgain_55, wX3_tryAgain_56, wX3_tryAgain_57, wX3_tryAgain_59, wX3_tryAgain_62, c1, cs_0, cs_i, cs_r, c_hasCall h h5, hb, aR_1, aR_v, n1_0, if_false, c4, hka, c11, q1, q2, rc, kc, r2_, r0_, r3_, p1', hfd, if_true, hfin]
      exact done
    · have hc2 : c < 2147483648 := by omega
      have nm : ¬ nI c = -1 := by rw [nI_m1 hc2]; exact id
      rw [p2] at hfd
      simp only [p1, p2, if_true, nm, if_false, clampN hc2]
      obtain ⟨n', b1, b2, L', g', mi', ml', mr', f1, f2, f3⟩ := c_attempt (d := d) (ml := ml) (c := c) h hR hF hm hi k1 (by omega) k3 k4 k6 (hJ.ag0 k1 (by omega) (by rw [hidle]; decide))
      refine ⟨n', b1, b2, L', g', mi', ml', mr', ?_, f2, f3⟩
      simp only [wX3_tryAgain_0, wX3_tryAgain_1, wX3_tryAgain_2, wX3_tryAgain_5, wX3_tryAgain_8, wX3_tryAgain_9, wX3_tryAgain_10, wX3_tryAgain_13, wX3_tryAgain_14, wX3_tryAgain_15i, wX3_tryAgain_15r, wX3_tryAgain_15n, wX3_tryAgain_16, wX3_tryAgain_17i, wX3_tryAgain_17r, wX3_tryAgain_17n, wX3_tryAgain_19, wX3_tryAgain_20, wX3_tryAgain_23, wX3_tryAgain_24, wX3_tryAgain_27, wX3_tryAgain_28, wX3_tryAgain_29, wX3_tryAgain_32, wX3_tryAgain_33, wX3_tryAgain_36, wX3_tryAgain_39i, wX3_tryAgain_39r, wX3_tryAgain_39n, wX3_tryAgain_41, wX3_tryAgain_43, wX3_tryAgain_44, wX3_tryAgain_47, wX3_tryAgain_48, wX3_tryAgain_49, wX3_tryAgain_52, wX3_tryAgain_55, wX3_tryAgain_56, wX3_tryAgain_57, wX3_tryAgain_59, wX3_tryAgain_62, c1, cs_0, cs_i, cs_r, c_hasCall h h5, hb, aR_1, aR_v, n1_0, if_false, c4, hka, c11, q1, q2, rc, kc, r2_, r0_, r3_, p1', hfd, nm, f1]
  · have p1' : nI 3 ≤ r (cI i 2) := Int32.not_lt.mp p1
    simp only [p1, if_false, if_true]
    simp only [wX3_tryAgain_0, wX3_tryAgain_1, wX3_tryAgain_2, wX3_tryAgain_5, wX3_tryAgain_8, wX3_tryAgain_9, wX3_tryAgain_10, wX3_tryAgain_13, wX3_tryAgain_14, wX3_tryAgain_15i, wX3_tryAgain_15r, wX3_tryAgain_15n, wX3_tryAgain_16, wX3_tryAgain_17i, wX3_tryAgain_17r, wX3_tryAgain_17n, wX3_tryAgain_19, wX3_tryAgain_20, wX3_tryAgain_23, wX3_tryAgain_24, wX3_tryAgain_27, wX3_tryAgain_28, wX3_tryAgain_29, wX3_tryAgain_32, wX3_tryAgain_33, wX3_tryAgain_36, wX3_tryAgain_39i, wX3_tryAgain_39r, wX3_tryAgain_39n, wX3_tryAgain_41, wX3_tryAgain_43, wX3_tryAgain_44, wX3_tryAgain_47, wX3_tryAgain_48, wX3_tryAgain_49, wX3_tryAgain_52, wX3_tryAgain_55, wX3_tryAgain_56, wX3_tryAgain_57, wX3_tryAgain_59, wX3_tryAgain_62, c1, cs_0, cs_i, cs_r, c_hasCall h h5, hb, aR_1, aR_v, n1_0, if_false, c4, hka, c11, q1, q2, rc, kc, r2_, r0_, r3_, p1', if_true, hfin]
    exact done
/-- an end's own call ends -/
theorem c_finOwn (h : CS s off N n a1 a2 L r q g mi mr) (hF : FS N t D r) (he : e < 2) (hc : c < 12) : ∃ mi', callT (d + 3) mX3_finishOwnCall [.ref s, .ref (eA s e c), .int y] (g, mi, ml, mr) = some (.inl none, g, mi', ml, mr) ∧ CS s off N n a1 a2 L (pEndO r (pOwn r e c) y) q g mi' mr ∧ Tr s a1 a2 L g mi ml mr a1 a2 L g mi' ml mr := by
  have hN := hF.2.2.2.1
  obtain ⟨⟨⟨c1, -, -, c4, c5⟩, ⟨-, -, -, -, c10, c11⟩, ⟨c12, -⟩, -, c17⟩, -⟩ := id h
  have kE := h.kE he hc
  have v3 : mi (eA s e c) 3 = r (eI e c 1) := h.ev he hc (w := 1) (by decide) rfl
  have hka : g.1 (s + 3) = 23 ∨ g.1 (s + 3) = 24 ∨ g.1 (s + 3) = 25 := Or.inr (Or.inl c10)
  rw [eX3_finishOwnCall]
  by_cases p : pOwn r e c = -1
  · have hb : bI (¬ pOwn r e c = -1) = nI 0 := bI_f (fun h9 => h9 p)
    refine ⟨mi, ?_, ?_, Tr.rf⟩
    · simp only [wX3_finishOwnCall_0, wX3_finishOwnCall_1, wX3_finishOwnCall_2, wX3_finishOwnCall_5, wX3_finishOwnCall_8, wX3_finishOwnCall_9, wX3_finishOwnCall_12, wX3_finishOwnCall_13, wX3_finishOwnCall_16, wX3_finishOwnCall_17, wX3_finishOwnCall_18, wX3_finishOwnCall_21, c1, cs_0, cs_i, cs_r, c_isOrigin h hF he hc, hb, aR_1, if_true]
    · rw [p, pEndO_m1]; exact h
  · have hb : bI (¬ pOwn r e c = -1) = nI 1 := bI_t p
    have ho := own_of p
    obtain ⟨o, k1, k2⟩ := hF.2.2.2.2.2 e c he hc
    have o1 : 1 ≤ o := Decidable.byContradiction (fun h9 => p (by rw [ho, k2, show o = 0 by omega]; rfl))
    have hm := own_oI k2 o1 (by omega)
    have q1 : o - 1 < 40 := by omega
    have q2 : o - 1 < 2147483648 := by omega
    obtain ⟨kc, rc⟩ := c17 (o - 1) q1
    refine ⟨u2 (u2 mi (cA s (o - 1)) 4 (nI 4)) (cA s (o - 1)) 5 y, ?_, ?_, (Tr.rf.cA_ q1).cA_ q1⟩
    · simp only [wX3_finishOwnCall_0, wX3_finishOwnCall_1, wX3_finishOwnCall_2, wX3_finishOwnCall_5, wX3_finishOwnCall_8, wX3_finishOwnCall_9, wX3_finishOwnCall_12, wX3_finishOwnCall_13, wX3_finishOwnCall_16, wX3_finishOwnCall_17, wX3_finishOwnCall_18, wX3_finishOwnCall_21, c1, cs_0, cs_i, cs_r, c_isOrigin h hF he hc, hb, aR_1, aR_v, n1_0, if_false, c4, kE, v3, hm, hka, c11, q1, q2, rc, kc, c_finish kc]
    · have : pEndO r (pOwn r e c) y = pEnd r (o - 1) y := by
        unfold pEndO
        rw [if_neg p, ho, hm, clampN q2]
      rw [this]
      exact h.fin q1
theorem pSend_sC {e' c' : Nat} (he : e < 2) (hc : c < 12) : pSend (sC r i w y) q e c k v = (sC (pSend r q e c k v).1 i w y, (pSend r q e c k v).2) := by
  have lo : ∀ {j}, j < 240 → sC r i w y j = r j := fun hj => sC_n hj
  have hge := cI_ge (n := i) (w := w)
  have hm : mMsg (sC r i w y) e c k v = mMsg r e c k v := by
    unfold mMsg
    rw [lo (by decide), lo (by decide), lo (eI_lt he hc (by decide))]
  have hin : ∀ {j} {r0 : Nat → Int32}, j < 24 → inc (sC r0 i w y) j = sC (inc r0 j) i w y := fun {j r0} hj => by
    unfold inc sC
    rw [u1_n (by omega), u1_u1 (by omega)]
  have hde : ∀ {j} {r0 : Nat → Int32}, j < 24 → dec (sC r0 i w y) j = sC (dec r0 j) i w y := fun {j r0} hj => by
    unfold dec sC
    rw [u1_n (by omega), u1_u1 (by omega)]
  unfold pSend mSends nM
  rw [lo (show 3 + e < 240 by omega), lo (show 11 < 240 by decide), lo (show 2 < 240 by decide), lo (show 1 < 240 by decide), hm]
  split
  · rw [hin (by decide), hde (by omega), hin (by decide)]
  · rw [hin (by decide), hin (by decide)]
theorem pSend_end (he : e < 2) (hc : c < 12) : pSend (pEndO r y y1) q e c k v = (pEndO (pSend r q e c k v).1 y y1, (pSend r q e c k v).2) := by
  unfold pEndO
  split
  · rfl
  · unfold pEnd
    rw [pSend_sC (e' := 0) (c' := 0) he hc, pSend_sC (e' := 0) (c' := 0) he hc]
/-- an end begins to release -/
def pSt (r : Nat → Int32) (q : Nat → Int64) (e c v : Nat) : PS := (sE (cEn (pSend r q e c 6 v).1 e c (nI 6) (-1) (nI 10)) e c 7 (nI v), (pSend r q e c 6 v).2)
theorem aw_row (hw : w = 3 ∨ w = 7) : pAw (sE (sE r e c 3 (nI 0)) e c 7 y) e c y0 y1 = sE (cEn r e c y0 (-1) y1) e c 7 y := by
  refine row_ext (e := e) (c := c) (fun w hw => ?_) (fun j hj => ?_)
  · have hw' : w = 0 ∨ w = 1 ∨ w = 2 ∨ w = 3 ∨ w = 4 ∨ w = 5 ∨ w = 6 ∨ w = 7 ∨ w = 8 := by omega
    rcases hw' with rfl | rfl | rfl | rfl | rfl | rfl | rfl | rfl | rfl <;> simp only [pAw, cEn, ev1, Nat.reduceLT, Nat.reduceEqDiff, if_true, if_false, Nat.zero_ne_one, Nat.one_ne_zero]
  · unfold pAw cEn sE
    simp only [u1_n (hj 0 (by decide)), u1_n (hj 1 (by decide)), u1_n (hj 2 (by decide)), u1_n (hj 3 (by decide)), u1_n (hj 6 (by decide)), u1_n (hj 7 (by decide))]
theorem aw_row3 : pAw (sE r e c 3 (nI 0)) e c y0 y1 = cEn r e c y0 (-1) y1 := by
  refine row_ext (e := e) (c := c) (fun w hw => ?_) (fun j hj => ?_)
  · have hw' : w = 0 ∨ w = 1 ∨ w = 2 ∨ w = 3 ∨ w = 4 ∨ w = 5 ∨ w = 6 ∨ w = 7 ∨ w = 8 := by omega
    rcases hw' with rfl | rfl | rfl | rfl | rfl | rfl | rfl | rfl | rfl <;> simp only [pAw, cEn, ev1, Nat.reduceLT, Nat.reduceEqDiff, if_true, if_false, Nat.zero_ne_one, Nat.one_ne_zero]
  · unfold pAw cEn sE
    simp only [u1_n (hj 0 (by decide)), u1_n (hj 1 (by decide)), u1_n (hj 2 (by decide)), u1_n (hj 3 (by decide)), u1_n (hj 6 (by decide))]
theorem pRel_st (he : e < 2) (hc : c < 12) : pRel r q e c v = pSt (pEndO r (pOwn r e c) (nI v)) q e c v := by
  unfold pRel pSt
  rw [aw_row (w := 3) (Or.inl rfl), pSend_end he hc]
theorem pRst_st : pRst r q e c = (cEn (pSend (pEndO r (pOwn r e c) (nI 5)) q e c 12 0).1 e c (nI 7) (-1) (nI 20), (pSend (pEndO r (pOwn r e c) (nI 5)) q e c 12 0).2) := by
  unfold pRst
  rw [aw_row3]
theorem c_start (h : CS s off N n a1 a2 L r q g mi mr) (hR : RmC L g) (hF : FS N t D r) (hm : Rm r 1) (he : e < 2) (hc : c < 12) (hv : v < 8) : CRs s off N a1 a2 L g mi ml mr (callT (d + 4) mX3_startReleasing [.ref s, .ref (eA s e c), .int (nI v)] (g, mi, ml, mr)) none (pSt r q e c v) := by
  obtain ⟨⟨⟨c1, -, -, c4, c5⟩, -, ⟨c12, -⟩, -, -⟩, -⟩ := id h
  obtain ⟨n', b1, b2, L', g', mi', ml', mr', f1, f2, f3⟩ := c_snd (d := d) (ml := ml) (q := q) (k := 6) (v := v) h hR hF hm he hc (by decide) hv (fun h9 => absurd h9 (by decide))
  have kE := f2.kE he hc
  refine ⟨n', b1, b2, L', g', _, ml', mr', ?_, (f2.en (y0 := nI 6) (y1 := -1) (y2 := nI 10) he hc).ef (w := 7) (f := 10) (z := nI v) he hc (by decide) (by decide) rfl, (f3.en he hc).eA_ he hc⟩
  rw [eX3_startReleasing]
  simp only [wX3_startReleasing_0, wX3_startReleasing_1, wX3_startReleasing_4, wX3_startReleasing_5, wX3_startReleasing_7, wX3_startReleasing_8, wX3_startReleasing_11, wX3_startReleasing_12, wX3_startReleasing_14, wX3_startReleasing_15, wX3_startReleasing_17, wX3_startReleasing_20, wX3_startReleasing_21, wX3_startReleasing_22, wX3_startReleasing_25, c1, c5, c12, cs_0, cs_i, cs_r, f1, aR_v, kE, c_enter kE]
theorem c_rel (h : CS s off N n a1 a2 L r q g mi mr) (hR : RmC L g) (hF : FS N t D r) (hm : Rm r 1) (he : e < 2) (hc : c < 12) (hv : v < 8) : CRs s off N a1 a2 L g mi ml mr (callT (d + 5) mX3_releaseEnd [.ref s, .ref (eA s e c), .int (nI v)] (g, mi, ml, mr)) none (pRel r q e c v) := by
  have c1 := h.1.1.1
  obtain ⟨mi1, e1, e2, e3⟩ := c_finOwn (d := d + 1) (ml := ml) (y := nI v) h hF he hc
  obtain ⟨n', b1, b2, L', g', mi', ml', mr', f1, f2, f3⟩ := (c_start (d := d) (ml := ml) e2 hR hF.pendO hm.pendO he hc hv).tr e3
  rw [pRel_st he hc]
  refine ⟨n', b1, b2, L', g', mi', ml', mr', ?_, f2, f3⟩
  rw [eX3_releaseEnd]
  simp only [wX3_releaseEnd_0, wX3_releaseEnd_1, wX3_releaseEnd_2, wX3_releaseEnd_3, wX3_releaseEnd_6, wX3_releaseEnd_7, wX3_releaseEnd_8, wX3_releaseEnd_9, wX3_releaseEnd_12, c1, cs_0, cs_i, cs_r, e1, f1, aR_v]
theorem c_rst (h : CS s off N n a1 a2 L r q g mi mr) (hR : RmC L g) (hF : FS N t D r) (hm : Rm r 1) (he : e < 2) (hc : c < 12) : CRs s off N a1 a2 L g mi ml mr (callT (d + 4) mX3_resetEnd [.ref s, .ref (eA s e c)] (g, mi, ml, mr)) none (pRst r q e c) := by
  obtain ⟨⟨⟨c1, -, -, c4, c5⟩, -, ⟨c12, -⟩, -, -⟩, -⟩ := id h
  obtain ⟨mi1, e1, e2, e3⟩ := c_finOwn (d := d) (ml := ml) (y := nI 5) h hF he hc
  obtain ⟨n', b1, b2, L', g', mi', ml', mr', f1, f2, f3⟩ := (c_snd (d := d) (ml := ml) (q := q) (k := 12) (v := 0) e2 hR hF.pendO hm.pendO he hc (by decide) (by decide) (fun h9 => absurd h9 (by decide))).tr e3
  have kE := f2.kE he hc
  rw [pRst_st]
  refine ⟨n', b1, b2, L', g', _, ml', mr', ?_, f2.en (y0 := nI 7) (y1 := -1) (y2 := nI 20) he hc, f3.en he hc⟩
  rw [eX3_resetEnd]
  simp only [wX3_resetEnd_0, wX3_resetEnd_1, wX3_resetEnd_2, wX3_resetEnd_3, wX3_resetEnd_6, wX3_resetEnd_7, wX3_resetEnd_10, wX3_resetEnd_11, wX3_resetEnd_13, wX3_resetEnd_14, wX3_resetEnd_17, wX3_resetEnd_18, wX3_resetEnd_20, wX3_resetEnd_21, wX3_resetEnd_23, wX3_resetEnd_26, c1, c5, c12, cs_0, cs_i, cs_r, e1, f1, aR_v, kE, c_enter kE]
end CST3
