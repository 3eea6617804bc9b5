/-! the class: its public calls: call -/
section CPB5
variable {s s2 off N n n0 a1 a2 b1 b2 L M e c w k k0 v j f a b d o t D p i C J B E K from_ cnt : Nat} {r r' r1 : Nat → Int32} {q q' : Nat → Int64} {g g' : Gh} {mi mi' m' : MI} {ml ml' l' : ML} {mr mr' : MR} {x1 x2 Ln pm : Nat → Nat} {S : Nat → PS} {P P' : PS} {X : Nat → Nat → Nat} {x y z : Int32}
theorem rowc_ext (h1 : ∀ w, w < 6 → r (cI n w) = r' (cI n w)) (h2 : ∀ j, (∀ w, w < 6 → ¬ j = cI n w) → r j = r' j) : r = r' := by
  funext j
  by_cases h : ∃ w, w < 6 ∧ j = cI n w
  · obtain ⟨w, hw, rfl⟩ := h; exact h1 w hw
  · exact h2 j (fun w hw h9 => h ⟨w, hw, h9⟩)
theorem cv1 {w' : Nat} (hw : w < 6) (hw' : w' < 6) : sC r n w z (cI n w') = if w' = w then z else r (cI n w') := by
  by_cases h : w' = w
  · subst h; rw [if_pos rfl, sC_s]
  · rw [if_neg h, sC_c (fun h9 => h h9.2) hw hw']
/-- a call more counts -/
theorem CS.more (h : CS s off N n a1 a2 L r q g mi mr) (hm : ∀ w, w < 6 → mi (cA s N) (gw w) = r (cI N w)) : CS s off (N + 1) n a1 a2 L r q g mi mr := by
  obtain ⟨h1, h2, ⟨h3, h5, h6⟩, h7, h10⟩ := h
  refine ⟨h1, h2, ⟨fun j hk => ?_, h5, h6⟩, h7, h10⟩
  by_cases hj : 240 ≤ j ∧ (j - 240) / 6 = N
  · have ej : j = cI N ((j - 240) % 6) := by unfold cI; omega
    have hw : (j - 240) % 6 < 6 := Nat.mod_lt _ (by decide)
    have hl := loc_c (s := s) (n := N) hw
    rw [← ej] at hl
    rw [hl.1, hl.2, hm _ hw, ← ej]
  · exact h3 j ⟨hk.1, hk.2.1, hk.2.2.1, fun h9 => by have := hk.2.2.2 h9; omega⟩
theorem new_row : u1 (sC (sC (sC (sC (sC (sC r N 0 (nI e)) N 5 (nI k)) N 2 (nI 0)) N 1 (-1)) N 3 (nI 0)) N 4 (-1)) 5 (r 5 + nI 1) = sC (pNew r N e k) N 1 (-1) := by
  have h5 : ∀ w, ¬ cI N w = 5 := fun w => by have := cI_ge (n := N) (w := w); omega
  refine rowc_ext (n := N) (fun w hw => ?_) (fun j hj => ?_)
  · rw [u1_n (h5 w)]
    have hi : inc r 5 (cI N w) = r (cI N w) := u1_n (h5 w)
    unfold pNew
    have hw' : w = 0 ∨ w = 1 ∨ w = 2 ∨ w = 3 ∨ w = 4 ∨ w = 5 := by omega
    rcases hw' with rfl | rfl | rfl | rfl | rfl | rfl <;> simp only [cv1, Nat.reduceLT, Nat.reduceEqDiff, if_true, if_false, Nat.zero_ne_one, Nat.one_ne_zero]
  · unfold pNew sC
    by_cases hj5 : j = 5
    · subst hj5
      rw [u1_s]
      simp only [u1_n (hj 0 (by decide)), u1_n (hj 1 (by decide)), u1_n (hj 2 (by decide)), u1_n (hj 3 (by decide)), u1_n (hj 4 (by decide)), u1_n (hj 5 (by decide))]
      unfold inc
      rw [u1_s]
    · rw [u1_n hj5]
      simp only [u1_n (hj 0 (by decide)), u1_n (hj 1 (by decide)), u1_n (hj 2 (by decide)), u1_n (hj 3 (by decide)), u1_n (hj 4 (by decide)), u1_n (hj 5 (by decide))]
      unfold inc
      rw [u1_n hj5]
theorem c_beginCall (h : CS s off N n a1 a2 L r q g mi mr) (h5 : r 5 = nI N) (hN : N < 40) (hk : k < 2) : ∃ mi', callT (d + 2) mX3_beginCall [.ref s, .int (nI e), .int (nI k)] (g, mi, ml, mr) = some (.inl (some (.int (nI N))), g, mi', ml, mr) ∧ CS s off (N + 1) n a1 a2 L (sC (pNew r N e k) N 1 (-1)) q g mi' mr ∧ Tr s a1 a2 L g mi ml mr a1 a2 L g mi' ml mr := by
  obtain ⟨⟨⟨c1, -, -, c4, c5⟩, ⟨-, -, -, -, c10, c11⟩, ⟨c12, -⟩, -, c17⟩, -⟩ := id h
  have q2 : N < 2147483648 := by omega
  obtain ⟨kc, rc⟩ := c17 N hN
  have hka : g.1 (s + 3) = 23 ∨ g.1 (s + 3) = 24 ∨ g.1 (s + 3) = 25 := Or.inr (Or.inl c10)
  have v3 : mi s 3 = nI N := (h.lv (j := 5) (a := s) (f := 3) (by decide) (by decide) rfl rfl).trans h5
  have hkb : nI k = nI 0 ∨ nI k = nI 1 := by
    have : k = 0 ∨ k = 1 := by omega
    rcases this with rfl | rfl
    · exact Or.inl rfl
    · exact Or.inr rfl
  have h6 := (((((h.c_ (m := N) (w := 0) (f := 0) (z := nI e) hN (by decide) rfl).c_ (m := N) (w := 5) (f := 1) (z := nI k) hN (by decide) rfl).c_ (m := N) (w := 2) (f := 2) (z := nI 0) hN (by decide) rfl).c_ (m := N) (w := 1) (f := 3) (z := -1) hN (by decide) rfl).c_ (m := N) (w := 3) (f := 4) (z := nI 0) hN (by decide) rfl).c_ (m := N) (w := 4) (f := 5) (z := -1) hN (by decide) rfl
  have hT : Tr s a1 a2 L g mi ml mr a1 a2 L g (u2 (u2 (u2 (u2 (u2 (u2 mi (cA s N) 0 (nI e)) (cA s N) 1 (nI k)) (cA s N) 2 (nI 0)) (cA s N) 3 (-1)) (cA s N) 4 (nI 0)) (cA s N) 5 (-1)) ml mr := (((((Tr.rf.cA_ hN).cA_ hN).cA_ hN).cA_ hN).cA_ hN).cA_ hN
  have h7 := h6.more (fun w hw => by
    have hw' : w = 0 ∨ w = 1 ∨ w = 2 ∨ w = 3 ∨ w = 4 ∨ w = 5 := by omega
    have at_ : ∀ {F : MI} {x b c : Nat} {z : Int32}, u2 F x b z x c = if c = b then z else F x c := fun {F x b c z} => by
      by_cases h9 : c = b
      · rw [if_pos h9, h9, u2_at]
      · rw [if_neg h9, u2_oth (fun h8 => h9 h8.2)]
    rcases hw' with rfl | rfl | rfl | rfl | rfl | rfl
    · show u2 _ _ _ _ _ 0 = _
      simp only [at_, cv1, Nat.reduceLT, Nat.reduceEqDiff, if_true, if_false, Nat.zero_ne_one, Nat.one_ne_zero]
    · show u2 _ _ _ _ _ 3 = _
      simp only [at_, cv1, Nat.reduceLT, Nat.reduceEqDiff, if_true, if_false, Nat.zero_ne_one, Nat.one_ne_zero]
    · show u2 _ _ _ _ _ 2 = _
      simp only [at_, cv1, Nat.reduceLT, Nat.reduceEqDiff, if_true, if_false, Nat.zero_ne_one, Nat.one_ne_zero]
    · show u2 _ _ _ _ _ 4 = _
      simp only [at_, cv1, Nat.reduceLT, Nat.reduceEqDiff, if_true, if_false, Nat.zero_ne_one, Nat.one_ne_zero]
    · show u2 _ _ _ _ _ 5 = _
      simp only [at_, cv1, Nat.reduceLT, Nat.reduceEqDiff, if_true, if_false, Nat.zero_ne_one, Nat.one_ne_zero]
    · show u2 _ _ _ _ _ 1 = _
      simp only [at_, cv1, Nat.reduceLT, Nat.reduceEqDiff, if_true, if_false, Nat.zero_ne_one, Nat.one_ne_zero])
  have h8 := h7.lo (j := 5) (a := s) (f := 3) (z := r 5 + nI 1) (by decide) (by decide) (fun h9 => absurd h9 (by decide)) rfl rfl
  rw [new_row] at h8
  have hne : ¬ s = cA s N := by unfold cA; omega
  have e5 : ∀ {F : MI} {b : Nat} {z : Int32}, u2 F (cA s N) b z s = F s := u2_row hne
  refine ⟨_, ?_, h8, hT.up (Nat.le_refl s) (by omega)⟩
  rw [eX3_beginCall]
  have hbg : callT (d + 1) mX0_begin [.ref (cA s N), .int (nI e), .int (nI k)] (g, mi, ml, mr) = some (.inl none, g, u2 (u2 (u2 (u2 (u2 (u2 mi (cA s N) 0 (nI e)) (cA s N) 1 (nI k)) (cA s N) 2 (nI 0)) (cA s N) 3 (-1)) (cA s N) 4 (nI 0)) (cA s N) 5 (-1), ml, mr) := by
    rw [eX0_begin]
    simp only [wX0_begin_0, wX0_begin_1, wX0_begin_2, wX0_begin_5, wX0_begin_6, wX0_begin_7, wX0_begin_10, wX0_begin_11, wX0_begin_12, wX0_begin_15, wX0_begin_16, wX0_begin_17, wX0_begin_20, wX0_begin_21, wX0_begin_22, wX0_begin_25, wX0_begin_26, wX0_begin_27, wX0_begin_30, kc, hkb]
  simp only [wX3_beginCall_0, wX3_beginCall_1, wX3_beginCall_4i, wX3_beginCall_4r, wX3_beginCall_4n, wX3_beginCall_5, wX3_beginCall_6, wX3_beginCall_9, wX3_beginCall_10, wX3_beginCall_11, wX3_beginCall_12, wX3_beginCall_13, wX3_beginCall_16, wX3_beginCall_17, wX3_beginCall_18, wX3_beginCall_21, wX3_beginCall_22, wX3_beginCall_23, wX3_beginCall_26, wX3_beginCall_27, c1, c4, v3, hka, c11, hN, q2, rc, kc, cs_0, cs_i, cs_r, hbg, aR_v, e5, h5]
theorem att_1 : pAtt (sC r n 1 y) q n e k c = pAtt r q n e k c := by
  unfold pAtt
  have h2 : sC r n 1 y (cI n 2) = r (cI n 2) := sC_c (by omega) (by decide) (by decide)
  have : sC (sC (sC r n 1 y) n 2 (sC r n 1 y (cI n 2) + nI 1)) n 1 (nI c) = sC (sC r n 2 (r (cI n 2) + nI 1)) n 1 (nI c) := by
    rw [h2]
    funext j
    unfold sC u1
    split
    · rfl
    · rfl
  rw [this]
/-- call -/
theorem k_call1 (h : TG E K S (r, q) pm x1 x2 Ln g mi mr) (hJ : JI X B N t D r q) (hB : B + 6 ≤ 12012) (h0 : r 0 = nI C) (hC1 : 1 ≤ C) (hC : C ≤ 12) (he : e < 2) (hk : k < 2) (hN : N < 40) (hc : c < 12) (hch : mChosen r e (-1) C = nI c) (hidle : r (eI e c 0) = nI 0) : CTr E (svK K) (svS K S (r, q)) (pAtt (pNew r N e k) q N e k c) g mi ml mr (callT (d + 5) mX4_call [.ref 2, .int (nI e), .int (nI k)] (g, mi, ml, mr)) (some (.int (nI N))) := by
  obtain ⟨k1, k2, k3, k4, k5⟩ := h.k2
  have hF := hJ.fs
  have v3 : mi (Ad (pm 3)) 3 = nI N := (h.cs.lv (j := 5) (a := Ad (pm 3)) (f := 3) (by decide) (by decide) rfl rfl).trans hF.2.2.2.2.1
  have c40 : nI N < nI 40 := nI_lt hN (by decide)
  have nm : ¬ nI c = -1 := by rw [nI_m1 (show c < 2147483648 by omega)]; exact id
  have hfd := c_find (d := d + 2) (ml := ml) (but := -1) h.cs h0 hC he
  rw [hch] at hfd
  obtain ⟨pm', y1, y2, Lm, g', mi', ml', mr', e1, e2, e3, e4⟩ := c_save (d := d) (ml := ml) h hJ
  obtain ⟨m1, m2, m3, m4, m5⟩ := e2.k2
  have hcs := e2.cs
  rw [show nC (r, q).1 = N from hJ.nC] at hcs
  obtain ⟨i2, f1, f2, f3⟩ := c_beginCall (d := d + 2) (ml := ml') (e := e) hcs hF.2.2.2.2.1 hN hk
  obtain ⟨hh, hb, hJG⟩ := id hJ
  have hF1 : FS (N + 1) t D (sC (pNew r N e k) N 1 (-1)) := (hJG.new1 hN he hk).fs.cc
  have w0 : sC (pNew r N e k) N 1 (-1) (cI N 0) = nI e := (sC_c (by omega) (by decide) (by decide)).trans pNew_c0
  have w5 : sC (pNew r N e k) N 1 (-1) (cI N 5) = nI k := (sC_c (by omega) (by decide) (by decide)).trans pNew_c5
  have w3 : sC (pNew r N e k) N 1 (-1) (eI e c 3) = nI 0 := by
    rw [sC_n (eI_lt he hc (by decide)), pNew_lo (eI_lt he hc (by decide)) (by have := eI_ge (e := e) (c := c) (w := 3); omega)]
    exact hJ.ag0 he hc (by rw [hidle]; decide)
  have hRm : Rm (sC (pNew r N e k) N 1 (-1)) 1 := (hJ.rm (by omega)).mono (by rw [sC_n (by decide), pNew_lo (by decide) (by decide)]) (by decide)
  have hat := (c_attempt (d := d) (ml := ml') (i := N) (e := e) (c := c) (k := k) f2 e2.rm hF1 hRm (Nat.lt_succ_self N) he hc hk w0 w5 w3).tr f3
  rw [att_1] at hat
  have hJ2 := hJ.call hB hN he hk hc hidle
  obtain ⟨n', b1, b2, L', g4, i4, l4, r4', u1, u2', u3⟩ := hat
  have hcr : CRs (Ad (pm' 3)) 0 (N + 1) (y1 (pm' 3)) (y2 (pm' 3)) (Lm (pm' 3)) g' mi' ml' mr' (some (.inl (some (.int (nI N))), g4, i4, l4, r4')) (some (.int (nI N))) (pAtt (pNew r N e k) q N e k c) := ⟨n', b1, b2, L', g4, i4, l4, r4', rfl, u2', u3⟩
  obtain ⟨z1, z2', Lz, g3, i3, l3, r3', q1, q2, q3⟩ := e2.now hcr hJ2.fs.2.2.2.2.1 hJ2.fs.2.2.2.1
  refine ⟨pm', z1, z2', Lz, g3, i3, l3, r3', ?_, q2, e3.tr q3.ox⟩
  rw [← q1, eX4_call]
  simp only [wX4_call_0, wX4_call_1, wX4_call_2, wX4_call_5, wX4_call_6, wX4_call_9, wX4_call_12, wX4_call_14, wX4_call_17, wX4_call_20, wX4_call_27, wX4_call_28, wX4_call_31, wX4_call_32, wX4_call_33, wX4_call_36i, wX4_call_36r, wX4_call_36n, wX4_call_37, wX4_call_38, wX4_call_39, wX4_call_42, wX4_call_45, wX4_call_52, wX4_call_53, wX4_call_56, wX4_call_57, wX4_call_60, wX4_call_61, wX4_call_62, wX4_call_65i, wX4_call_65r, wX4_call_65n, wX4_call_67, wX4_call_68, wX4_call_71, wX4_call_73, wX4_call_74, wX4_call_77, wX4_call_79, k1, k2, k3, cs_0, cs_i, cs_r, c_reqX1 he, aR_v, aR_1, v3, c40, if_true, hfd, nm, if_false, e1, m1, m2, m3, f1, u1]
theorem k_call0 (h : TG (E + 1) K S (r, q) pm x1 x2 Ln g mi mr) (hx : ¬ isX x) : CTx E K S (r, q) g mi ml mr (callT (d + 8) mX4_call [.ref 2, .int x, .int z] (g, mi, ml, mr)) "java/lang/IndexOutOfBoundsException" := by
  obtain ⟨⟨h1, h2⟩, -⟩ := h.thr
  have k1 := h.k2.1
  have hH : mH mX4_call = [] := rfl
  rw [eX4_call]
  simp only [wX4_call_0, wX4_call_1, wX4_call_2, wX4_call_5, wX4_call_6, wX4_call_9, wX4_call_12, wX4_call_14, wX4_call_17, wX4_call_20, wX4_call_27, wX4_call_28, wX4_call_31, wX4_call_32, wX4_call_33, wX4_call_36i, wX4_call_36r, wX4_call_36n, wX4_call_37, wX4_call_38, wX4_call_39, wX4_call_42, wX4_call_45, wX4_call_52, wX4_call_53, wX4_call_56, wX4_call_57, wX4_call_60, wX4_call_61, wX4_call_62, wX4_call_65i, wX4_call_65r, wX4_call_65n, wX4_call_67, wX4_call_68, wX4_call_71, wX4_call_73, wX4_call_74, wX4_call_77, wX4_call_79, k1, cs_0, cs_i, cs_r, c_reqX0 hx h1 h2, aR_x hH]
  exact h.ctx
theorem k_call2 (h : TG (E + 1) K S (r, q) pm x1 x2 Ln g mi mr) (hJ : JI X B N t D r q) (h0 : r 0 = nI C) (hC : C ≤ 12) (he : e < 2) (hno : r 5 = nI 40 ∨ mChosen r e (-1) C = -1) : CTx E K S (r, q) g mi ml mr (callT (d + 7) mX4_call [.ref 2, .int (nI e), .int z] (g, mi, ml, mr)) "java/lang/IllegalStateException" := by
  obtain ⟨⟨h1, h2⟩, -⟩ := h.thr
  obtain ⟨k1, k2, k3, k4, k5⟩ := h.k2
  have hF := hJ.fs
  have v3 : mi (Ad (pm 3)) 3 = r 5 := h.cs.lv (j := 5) (a := Ad (pm 3)) (f := 3) (by decide) (by decide) rfl rfl
  have hfd := c_find (d := d + 4) (ml := ml) (but := -1) h.cs h0 hC he
  rw [eX4_call]
  by_cases p : r 5 = nI 40
  · have c40 : ¬ nI 40 < nI 40 := by decide
    simp only [wX4_call_0, wX4_call_1, wX4_call_2, wX4_call_5, wX4_call_6, wX4_call_9, wX4_call_12, wX4_call_14, wX4_call_17, wX4_call_20, wX4_call_27, wX4_call_28, wX4_call_31, wX4_call_32, wX4_call_33, wX4_call_36i, wX4_call_36r, wX4_call_36n, wX4_call_37, wX4_call_38, wX4_call_39, wX4_call_42, wX4_call_45, wX4_call_52, wX4_call_53, wX4_call_56, wX4_call_57, wX4_call_60, wX4_call_61, wX4_call_62, wX4_call_65i, wX4_call_65r, wX4_call_65n, wX4_call_67, wX4_call_68, wX4_call_71, wX4_call_73, wX4_call_74, wX4_call_77, wX4_call_79, k1, k2, k3, cs_0, cs_i, cs_r, c_reqX1 he, aR_v, aR_1, v3, p, c40, if_false, h1, h2]
    exact h.ctx
  · have hno' := hno.resolve_left p
    rw [hno'] at hfd
    have hN40 : N < 40 := by
      have := hF.2.2.2.1
      have : ¬ N = 40 := fun h9 => p (by rw [hF.2.2.2.2.1, h9])
      omega
    have c40 : r 5 < nI 40 := by rw [hF.2.2.2.2.1]; exact nI_lt hN40 (by decide)
    simp only [wX4_call_0, wX4_call_1, wX4_call_2, wX4_call_5, wX4_call_6, wX4_call_9, wX4_call_12, wX4_call_14, wX4_call_17, wX4_call_20, wX4_call_27, wX4_call_28, wX4_call_31, wX4_call_32, wX4_call_33, wX4_call_36i, wX4_call_36r, wX4_call_36n, wX4_call_37, wX4_call_38, wX4_call_39, wX4_call_42, wX4_call_45, wX4_call_52, wX4_call_53, wX4_call_56, wX4_call_57, wX4_call_60, wX4_call_61, wX4_call_62, wX4_call_65i, wX4_call_65r, wX4_call_65n, wX4_call_67, wX4_call_68, wX4_call_71, wX4_call_73, wX4_call_74, wX4_call_77, wX4_call_79, k1, k2, k3, cs_0, cs_i, cs_r, c_reqX1 he, aR_v, aR_1, v3, c40, if_true, hfd, h1, h2]
    exact h.ctx
end CPB5
