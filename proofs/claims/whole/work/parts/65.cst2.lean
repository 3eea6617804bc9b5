/-! the class: attempts, releases, resets -/
section CST2
variable {X : Nat → Nat → Nat} {β T hh hb : Nat → Nat} {A : Nat × Nat} {s off N n a1 a2 b1 b2 L L' e c w k v j f a d o z x S t D p i C : Nat} {r r' r1 : Nat → Int32} {q : Nat → Int64} {g g' : Gh} {mi mi' : MI} {ml ml' : ML} {mr mr' : MR} {m : Ms} {y y0 y1 y2 but : Int32} {oo : Option Res} {ret : Option Value} {ps : PS}
theorem CRs.tr (h : CRs s off N b1 b2 L' g' mi' ml' mr' oo ret ps) (hT : Tr s a1 a2 L g mi ml mr b1 b2 L' g' mi' ml' mr') : CRs s off N a1 a2 L g mi ml mr oo ret ps := by
  obtain ⟨n', c1, c2, L2, g2, m2, l2, r2', e1, e2, e3⟩ := h
  exact ⟨n', c1, c2, L2, g2, m2, l2, r2', e1, e2, hT.tr e3⟩
theorem CS.en (h : CS s off N n a1 a2 L r q g mi mr) (he : e < 2) (hc : c < 12) : CS s off N n a1 a2 L (cEn r e c y0 y1 y2) q g (u2 (u2 (u2 (u2 (u2 mi (eA s e c) 2 y0) (eA s e c) 3 y1) (eA s e c) 4 y2) (eA s e c) 5 (nI 0)) (eA s e c) 9 (nI 0)) mr := ((((h.ef (w := 0) he hc (by decide) (by decide) rfl).ef (w := 1) he hc (by decide) (by decide) rfl).ef (w := 2) he hc (by decide) (by decide) rfl).ef (w := 3) he hc (by decide) (by decide) rfl).ef (w := 6) he hc (by decide) (by decide) rfl
theorem Tr.en (h : Tr s a1 a2 L g mi ml mr b1 b2 L' g' mi' ml' mr') (he : e < 2) (hc : c < 12) : Tr s a1 a2 L g mi ml mr b1 b2 L' g' (u2 (u2 (u2 (u2 (u2 mi' (eA s e c) 2 y0) (eA s e c) 3 y1) (eA s e c) 4 y2) (eA s e c) 5 (nI 0)) (eA s e c) 9 (nI 0)) ml' mr' := ((((h.eA_ he hc).eA_ he hc).eA_ he hc).eA_ he hc).eA_ he hc
theorem Rm.nn (h : Rm r x) (h7 : r 11 = nI n) (hn : n ≤ 60000) : n + x ≤ 12500 := by
  obtain ⟨n', k1, k2⟩ := h
  rw [(nI_eq (by omega) (by omega)).mp (h7.symm.trans k1)]; exact k2
theorem CS.nb (h : CS s off N n a1 a2 L r q g mi mr) (hR : Rm r x) : n + x ≤ 12500 := hR.nn h.2.2.2.1.1 (by have := h.2.2.2.1.2.2.1; have := h.2.1.2.2.2.2.2.2.2; omega)
/-- a message is sent, by what the row tells -/
theorem c_snd (h : CS s off N n a1 a2 L r q g mi mr) (hR : RmC L g) (hF : FS N t D r) (hm : Rm r 1) (he : e < 2) (hc : c < 12) (hk : k < 14) (hv : v < 8) (h0 : k = 0 → v < 2 ∧ ¬ r (eI e c 1) = -1) : CRs s off N a1 a2 L g mi ml mr (callT (d + 3) mX2_send [.ref (s + 4), .ref (eA s e c), .int (nI k), .int (nI v)] (g, mi, ml, mr)) none (pSend r q e c k v) := by
  obtain ⟨g1, g2, g3, g4, g5, g6⟩ := hF
  obtain ⟨o, k1, k2⟩ := g6 e c he hc
  refine c_send h hR he hc hk hv g1 g2 g3 k2 (by omega) (fun h9 => ⟨?_, (h0 h9).1⟩) (h.nb hm)
  by_cases ho : o = 0
  · exact absurd (by rw [k2, ho]; rfl) (h0 h9).2
  · omega
theorem att_row (he : e < 2) (hc : c < 12) (h3 : r (eI e c 3) = nI 0) : sE (cEn (sC (sC (u1 (sC r i 2 (r (cI i 2) + nI 1)) 10 (r 10 + nI 1)) i 1 (nI c)) i 3 (nI 0)) e c (nI 1) (nI i) y) e c 6 (nI k) = sE (sE (sE (sE (inc (sC (sC (sC r i 2 (r (cI i 2) + nI 1)) i 1 (nI c)) i 3 (nI 0)) 10) e c 0 (nI 1)) e c 1 (nI i)) e c 2 y) e c 6 (nI k) := by
  have hB : sC (sC (u1 (sC r i 2 (r (cI i 2) + nI 1)) 10 (r 10 + nI 1)) i 1 (nI c)) i 3 (nI 0) = inc (sC (sC (sC r i 2 (r (cI i 2) + nI 1)) i 1 (nI c)) i 3 (nI 0)) 10 := by
    have e1 : sC (sC (sC r i 2 (r (cI i 2) + nI 1)) i 1 (nI c)) i 3 (nI 0) 10 = r 10 := by rw [sC_n (by decide), sC_n (by decide), sC_n (by decide)]
    unfold inc
    rw [e1]
    have g1 := cI_ge (n := i) (w := 1)
    have g3 := cI_ge (n := i) (w := 3)
    unfold sC
    rw [u1_u1 (show ¬ 10 = cI i 1 by omega), u1_u1 (show ¬ 10 = cI i 3 by omega)]
  rw [hB]
  have h3' : inc (sC (sC (sC r i 2 (r (cI i 2) + nI 1)) i 1 (nI c)) i 3 (nI 0)) 10 (eI e c 3) = nI 0 := by
    unfold inc
    rw [u1_n (by have := eI_ge (e := e) (c := c) (w := 3); omega), sC_n (eI_lt he hc (by decide)), sC_n (eI_lt he hc (by decide)), sC_n (eI_lt he hc (by decide))]
    exact h3
  generalize inc (sC (sC (sC r i 2 (r (cI i 2) + nI 1)) i 1 (nI c)) i 3 (nI 0)) 10 = B at h3' ⊢
  refine row_ext (e := e) (c := c) (fun w hw => ?_) (fun j hj => ?_)
  · have hw' : w = 0 ∨ w = 1 ∨ w = 2 ∨ w = 3 ∨ w = 4 ∨ w = 5 ∨ w = 6 ∨ w = 7 ∨ w = 8 := by omega
    rcases hw' with rfl | rfl | rfl | rfl | rfl | rfl | rfl | rfl | rfl <;> simp only [cEn, ev1, Nat.reduceLT, Nat.reduceEqDiff, if_true, if_false, Nat.zero_ne_one, Nat.one_ne_zero, h3']
  · unfold cEn sE
    rw [u1_n (hj 6 (by decide)), u1_n (hj 6 (by decide)), u1_n (hj 3 (by decide)), u1_n (hj 2 (by decide)), u1_n (hj 1 (by decide)), u1_n (hj 0 (by decide)), u1_n (hj 6 (by decide)), u1_n (hj 2 (by decide)), u1_n (hj 1 (by decide)), u1_n (hj 0 (by decide))]
theorem c_attempt (h : CS s off N n a1 a2 L r q g mi mr) (hR : RmC L g) (hF : FS N t D r) (hm : Rm r 1) (hi : i < N) (he : e < 2) (hc : c < 12) (hk : k < 2) (v0 : r (cI i 0) = nI e) (v5 : r (cI i 5) = nI k) (h3 : r (eI e c 3) = nI 0) : CRs s off N a1 a2 L g mi ml mr (callT (d + 4) mX3_attempt [.ref s, .int (nI i), .int (nI c)] (g, mi, ml, mr)) none (pAtt r q i e k c) := by
  have hN := hF.2.2.2.1
  obtain ⟨⟨⟨c1, -, -, c4, c5⟩, ⟨-, -, -, -, c10, c11⟩, ⟨c12, -⟩, -, c17⟩, -⟩ := id h
  have q1 : i < 40 := by omega
  have q2 : i < 2147483648 := by omega
  obtain ⟨kc, rc⟩ := c17 i q1
  have kE := h.kE he hc
  have hka : g.1 (s + 3) = 23 ∨ g.1 (s + 3) = 24 ∨ g.1 (s + 3) = 25 := Or.inr (Or.inl c10)
  have r2_ : mi (cA s i) 2 = r (cI i 2) := h.cv_ hi hN (w := 2) (by decide) rfl
  have h1 := h.c_ (m := i) (w := 2) (f := 2) (z := r (cI i 2) + nI 1) q1 (by decide) rfl
  have r8 : u2 mi (cA s i) 2 (r (cI i 2) + nI 1) s 8 = r 10 := (h1.lv (j := 10) (a := s) (f := 8) (by decide) (by decide) rfl rfl).trans (sC_n (by decide))
  have h2 := h1.lo (j := 10) (z := r 10 + nI 1) (a := s) (f := 8) (by decide) (by decide) (fun h9 => absurd h9 (by decide)) rfl rfl
  have h3_ := (h2.c_ (m := i) (w := 1) (f := 3) (z := nI c) q1 (by decide) rfl).c_ (m := i) (w := 3) (f := 4) (z := nI 0) q1 (by decide) rfl
  have T3 : Tr s a1 a2 L g mi ml mr a1 a2 L g (u2 (u2 (u2 (u2 mi (cA s i) 2 (r (cI i 2) + nI 1)) s 8 (r 10 + nI 1)) (cA s i) 3 (nI c)) (cA s i) 4 (nI 0)) ml mr := (((Tr.rf.cA_ q1).up (Nat.le_refl s) (by omega)).cA_ q1).cA_ q1
  have w0 : sC (sC (u1 (sC r i 2 (r (cI i 2) + nI 1)) 10 (r 10 + nI 1)) i 1 (nI c)) i 3 (nI 0) (cI i 0) = nI e := by
    rw [sC_c (by omega) (by decide) (by decide), sC_c (by omega) (by decide) (by decide), u1_n (by have := cI_ge (n := i) (w := 0); omega), sC_c (by omega) (by decide) (by decide)]; exact v0
  have w5 : sC (sC (u1 (sC r i 2 (r (cI i 2) + nI 1)) 10 (r 10 + nI 1)) i 1 (nI c)) i 3 (nI 0) (cI i 5) = nI k := by
    rw [sC_c (by omega) (by decide) (by decide), sC_c (by omega) (by decide) (by decide), u1_n (by have := cI_ge (n := i) (w := 5); omega), sC_c (by omega) (by decide) (by decide)]; exact v5
  have rd0 := (h3_.cv_ hi hN (w := 0) (f := 0) (by decide) rfl).trans w0
  have rd1 := (h3_.cv_ hi hN (w := 5) (f := 1) (by decide) rfl).trans w5
  have heA := c_endAt (d := d + 2) (ml := ml) h3_ he hc
  have fw0 := att_row (r := r) (i := i) (k := k) (y := if k = 1 then nI 3 else nI 30) he hc h3
  have hF4 : FS N t D (sE (cEn (sC (sC (u1 (sC r i 2 (r (cI i 2) + nI 1)) 10 (r 10 + nI 1)) i 1 (nI c)) i 3 (nI 0)) e c (nI 1) (nI i) (if k = 1 then nI 3 else nI 30)) e c 6 (nI k)) := by
    have := (((hF.cc (n := i) (w := 2) (y := r (cI i 2) + nI 1)).lo (j := 10) (y := r 10 + nI 1) (by decide) (by decide) (by decide) (by decide)).cc (n := i) (w := 1) (y := nI c)).cc (n := i) (w := 3) (y := nI 0)
    exact (this.en (o := i + 1) he hc (by omega)).ef he hc (by decide) (by decide)
  have h4 := (h3_.en (e := e) (c := c) (y0 := nI 1) (y1 := nI i) (y2 := if k = 1 then nI 3 else nI 30) he hc).ef (w := 6) (f := 9) (z := nI k) he hc (by decide) (by decide) rfl
  have T4 := (T3.en (e := e) (c := c) (y0 := nI 1) (y1 := nI i) (y2 := if k = 1 then nI 3 else nI 30) he hc).eA_ (e := e) (c := c) (f := 9) (y := nI k) he hc
  have hne : ¬ cA s i = eA s e c := by unfold cA eA; omega
  have e5 : ∀ {F : MI} {b : Nat} {z : Int32}, u2 F (eA s e c) b z (cA s i) = F (cA s i) := u2_row hne
  have hnm : ¬ nI i = -1 := by rw [nI_m1 q2]; exact id
  have hsn := c_snd (d := d) (ml := ml) (q := q) (k := 0) (v := k) h4 hR hF4 ((hm.mono (r' := sC (sC (u1 (sC r i 2 (r (cI i 2) + nI 1)) 10 (r 10 + nI 1)) i 1 (nI c)) i 3 (nI 0)) (by rw [sC_n (by decide), sC_n (by decide), u1_n (by decide), sC_n (by decide)]) (Nat.le_refl 1)).sE he hc (by decide) |>.sE he hc (by decide) |>.sE he hc (by decide) |>.sE he hc (by decide) |>.sE he hc (by decide) |>.sE he hc (by decide)) he hc (by decide) (by omega) (fun _ => ⟨hk, by
    rw [sE_w (by decide) (by decide) (by decide)]
    unfold cEn
    rw [sE_w (by decide) (by decide) (by decide), sE_w (by decide) (by decide) (by decide), sE_w (by decide) (by decide) (by decide), sE_s]
    exact hnm⟩)
  rw [fw0] at hsn
  obtain ⟨n', b1, b2, L', g', mi', ml', mr', f1, f2, f3⟩ := hsn
  refine CRs.tr (b1 := a1) (b2 := a2) (L' := L) ⟨n', b1, b2, L', g', mi', ml', mr', ?_, f2, f3⟩ T4
  rw [eX3_attempt]
  have k01 : k = 0 ∨ k = 1 := by omega
  rcases k01 with rfl | rfl
  · simp only [Nat.zero_ne_one, if_false] at f1
    simp only [wX3_attempt_0, wX3_attempt_1, wX3_attempt_4, wX3_attempt_5, wX3_attempt_6i, wX3_attempt_6r, wX3_attempt_6n, wX3_attempt_7, wX3_attempt_8, wX3_attempt_9, wX3_attempt_12, wX3_attempt_13, wX3_attempt_14, wX3_attempt_17, wX3_attempt_18, wX3_attempt_19, wX3_attempt_22, wX3_attempt_23, wX3_attempt_24, wX3_attempt_27, wX3_attempt_28, wX3_attempt_29, wX3_attempt_32, wX3_attempt_33, wX3_attempt_34, wX3_attempt_37, wX3_attempt_38, wX3_attempt_39, wX3_attempt_42, wX3_attempt_43, wX3_attempt_46i, wX3_attempt_46r, wX3_attempt_46n, wX3_attempt_48, wX3_attempt_50, wX3_attempt_51, wX3_attempt_52, wX3_attempt_53, wX3_attempt_56, wX3_attempt_59, wX3_attempt_60, wX3_attempt_63, wX3_attempt_65, wX3_attempt_68, wX3_attempt_70, wX3_attempt_71, wX3_attempt_74, wX3_attempt_77, wX3_attempt_78, wX3_attempt_81, wX3_attempt_83, wX3_attempt_84, wX3_attempt_85, wX3_attempt_88, wX3_attempt_91, wX3_attempt_92, wX3_attempt_95, wX3_attempt_96, wX3_attempt_99, c1, c4, hka, c11, q1, q2, rc, kc, r2_, r8, rd0, rd1, cs_0, cs_i, cs_r, heA, aR_1, aR_v, if_true, kE, c_enter kE, e5, true_or, c5, c12, f1]
  · simp only [if_true] at f1
    simp only [wX3_attempt_0, wX3_attempt_1, wX3_attempt_4, wX3_attempt_5, wX3_attempt_6i, wX3_attempt_6r, wX3_attempt_6n, wX3_attempt_7, wX3_attempt_8, wX3_attempt_9, wX3_attempt_12, wX3_attempt_13, wX3_attempt_14, wX3_attempt_17, wX3_attempt_18, wX3_attempt_19, wX3_attempt_22, wX3_attempt_23, wX3_attempt_24, wX3_attempt_27, wX3_attempt_28, wX3_attempt_29, wX3_attempt_32, wX3_attempt_33, wX3_attempt_34, wX3_attempt_37, wX3_attempt_38, wX3_attempt_39, wX3_attempt_42, wX3_attempt_43, wX3_attempt_46i, wX3_attempt_46r, wX3_attempt_46n, wX3_attempt_48, wX3_attempt_50, wX3_attempt_51, wX3_attempt_52, wX3_attempt_53, wX3_attempt_56, wX3_attempt_59, wX3_attempt_60, wX3_attempt_63, wX3_attempt_65, wX3_attempt_68, wX3_attempt_70, wX3_attempt_71, wX3_attempt_74, wX3_attempt_77, wX3_attempt_78, wX3_attempt_81, wX3_attempt_83, wX3_attempt_84, wX3_attempt_85, wX3_attempt_88, wX3_attempt_91, wX3_attempt_92, wX3_attempt_95, wX3_attempt_96, wX3_attempt_99, c1, c4, hka, c11, q1, q2, rc, kc, r2_, r8, rd0, rd1, cs_0, cs_i, cs_r, heA, aR_1, aR_v, n1_0, if_false, kE, c_enter kE, e5, or_true, c5, c12, f1]
end CST2
