/-! the class: what is due is received -/
section CDUE
variable {X : Nat → Nat → Nat} {β T hh hb : Nat → Nat} {A : Nat × Nat} {s off N n a1 a2 b1 b2 L L' e c w k v j f a d o z x S t D p i C J B : Nat} {r r' r1 : Nat → Int32} {q : Nat → Int64} {g g' : Gh} {mi mi' : MI} {ml ml' : ML} {mr mr' : MR} {m : Ms} {y y0 y1 y2 but : Int32} {oo : Option Res} {ret : Option Value} {ps : PS}
theorem enc_inj {m m' : Ms} (h : okM m) (h' : okM m') (he : enc m = enc m') : m = m' := by
  obtain ⟨d1, d2, d3, d4, d5⟩ := h.dec
  obtain ⟨d1', d2', d3', d4', d5'⟩ := h'.dec
  have ar := h.ar
  have ar' := h'.ar
  rw [he] at d1 d2 d3 d4 d5 ar
  obtain ⟨o1, o2, o3, o4, o5, o6, -⟩ := h
  obtain ⟨p1, p2, p3, p4, p5, p6, -⟩ := h'
  have e0 := (pk_lEQ (by omega) (by omega)).mp (ar.symm.trans ar')
  have e1 := (nI_eq (by omega) (by omega)).mp (d1.symm.trans d1')
  have e2 := (nI_eq (by omega) (by omega)).mp (d2.symm.trans d2')
  have e3 := (nI_eq (by omega) (by omega)).mp (d3.symm.trans d3')
  have e4 := (nI_eq (by omega) (by omega)).mp (d4.symm.trans d4')
  have e5 := (nI_eq (by omega) (by omega)).mp (d5.symm.trans d5')
  obtain ⟨x0, x1, x2, x3, x4, x5⟩ := m
  obtain ⟨y0, y1, y2, y3, y4, y5⟩ := m'
  simp only at e0 e1 e2 e3 e4 e5
  subst e0 e1 e2 e3 e4 e5
  rfl
/-- the first message is off, for the reference -/
theorem CS.pop (h : CS s off N (n + 1) a1 a2 L r q g mi mr) (ho : off + 1 ≤ 12500) (h0 : mi a1 off = r 2) : CS s (off + 1) N n a1 a2 L (dec r 11) (popQ q (nM (dec r 11))) g mi mr := by
  obtain ⟨h1, h2, ⟨h3, h5, h6⟩, ⟨h7, h8, h9, h9'⟩, h10, h11⟩ := h
  have hL := h2.2.2.2.2.2.2.2
  have hin : ∀ {j}, ¬ j = 11 → dec r 11 j = r j := fun hj => u1_n hj
  have d11 : dec r 11 11 = nI n := by unfold dec; rw [u1_s, h7, pk_sub (by omega)]; congr 1
  have hnM : nM (dec r 11) = n := by unfold nM; rw [d11]; exact clampN (by omega)
  refine ⟨h1, h2, ⟨h3.row (fun j hk => hin hk.2.1), fun e' c' he' hc' => ?_, h6⟩, ⟨d11, ?_, by omega, ho⟩, fun i hi => ?_, fun i hi => ?_⟩
  · rw [hin (by have := eI_ge (e := e') (c := c') (w := 4); omega), hin (by have := eI_ge (e := e') (c := c') (w := 8); omega)]
    exact h5 e' c' he' hc'
  · rw [h8]; congr 1; omega
  · rw [hnM]
    unfold popQ
    rw [if_pos hi, show off + 1 + i = off + (i + 1) by omega]
    exact h10 (i + 1) (by omega)
  · rw [hin (by decide)]
    by_cases h12 : i = off
    · subst h12; exact h0
    · exact h11 i (by omega)
theorem cd_loop (h : CS s off N n a1 a2 L r q g mi mr) (h0 : off = 0) (h2 : r 2 = nI t) (ht : t < 1000000) (hJ : J ≤ n) (hq : ∀ i, i < n → ∃ ar, ar < 1000000 ∧ mi a1 i = nI ar ∧ (i < J → ar = t) ∧ (J ≤ i → t < ar)) : ∀ j i, i + j = J → R d mX2_countDue 2 [.ref (s + 4), .int (nI i)] [] g mi ml mr = some (.inl (some (.int (nI J))), g, mi, ml, mr) := by
  obtain ⟨⟨-, -, ⟨c12, -⟩, -, -⟩, ⟨⟨i6, i7⟩, ⟨i1, i2, i3, i4⟩, -, i13⟩, -, ⟨d6, d7, d8, d9⟩, -⟩ := id h
  have t0 : mi (s + 4) 0 = nI t := (h.lv (j := 2) (by decide) (by decide) rfl rfl).trans h2
  subst h0
  rw [Nat.zero_add] at d7 d8
  intro j
  induction j with
  | zero =>
    intro i hi
    have : i = J := by omega
    subst this
    rw [wX2_countDue_2]
    by_cases hn : i = n
    · subst hn
      simp only [wX2_countDue_0, wX2_countDue_1i, wX2_countDue_1r, wX2_countDue_1n, wX2_countDue_3, wX2_countDue_4, wX2_countDue_7, wX2_countDue_10, wX2_countDue_11, wX2_countDue_14, wX2_countDue_15, wX2_countDue_16, wX2_countDue_17, wX2_countDue_20, wX2_countDue_23i, wX2_countDue_23r, wX2_countDue_23n, wX2_countDue_26, wX2_countDue_29, wX2_countDue_30, c12, d7, Int32.le_refl, if_true]
    · have c1 : ¬ nI n ≤ nI i := nI_ge (by omega) (by omega)
      have b1 : i < L := by omega
      have b2 : i < 2147483648 := by omega
      obtain ⟨ar, k1, k2, -, k4⟩ := hq i (by omega)
      have c2 : ¬ nI ar = nI t := fun h9 => by have := (nI_eq (by omega) (by omega)).mp h9; have := k4 (Nat.le_refl i); omega
      simp only [wX2_countDue_0, wX2_countDue_1i, wX2_countDue_1r, wX2_countDue_1n, wX2_countDue_3, wX2_countDue_4, wX2_countDue_7, wX2_countDue_10, wX2_countDue_11, wX2_countDue_14, wX2_countDue_15, wX2_countDue_16, wX2_countDue_17, wX2_countDue_20, wX2_countDue_23i, wX2_countDue_23r, wX2_countDue_23n, wX2_countDue_26, wX2_countDue_29, wX2_countDue_30, c12, d7, c1, if_false, i6, i1, i3, b1, b2, k2, t0, c2]
  | succ j ih =>
    intro i hi
    have c1 : ¬ nI n ≤ nI i := nI_ge (by omega) (by omega)
    have b1 : i < L := by omega
    have b2 : i < 2147483648 := by omega
    obtain ⟨ar, k1, k2, k3, -⟩ := hq i (by omega)
    rw [k3 (by omega)] at k2
    rw [wX2_countDue_2]
    simp only [wX2_countDue_0, wX2_countDue_1i, wX2_countDue_1r, wX2_countDue_1n, wX2_countDue_3, wX2_countDue_4, wX2_countDue_7, wX2_countDue_10, wX2_countDue_11, wX2_countDue_14, wX2_countDue_15, wX2_countDue_16, wX2_countDue_17, wX2_countDue_20, wX2_countDue_23i, wX2_countDue_23r, wX2_countDue_23n, wX2_countDue_26, wX2_countDue_29, wX2_countDue_30, c12, d7, c1, if_false, i6, i1, i3, b1, b2, k2, t0, if_true, nI_add]
    exact ih (i + 1) (by omega)
theorem due_loop (hX : ∀ e c, X e c ≤ 1) (hT : ∀ y, T y < t) (hB : B ≤ 12012) (hJ12 : J ≤ 12500) : ∀ j i n a1 a2 L r q g mi ml mr, i + j = J → CS s i N n a1 a2 L r q g mi mr → RmC L g → JG X (std B) T (t, j) hh hb N t D r q → ∃ n' b1 b2 L' g' mi' ml' mr', R (d + 7) mX3_receiveDue 10 [.ref s, .int (nI J), .int (nI i)] [] g mi ml mr = R (d + 7) mX3_receiveDue 26 [.ref s, .int (nI J), .int (nI J)] [] g' mi' ml' mr' ∧ CS s J N n' b1 b2 L' (pDue j (r, q)).1 (pDue j (r, q)).2 g' mi' mr' ∧ Tr s a1 a2 L g mi ml mr b1 b2 L' g' mi' ml' mr' := by
  intro j
  induction j with
  | zero =>
    intro i n a1 a2 L r q g mi ml mr hi h hR hJ
    have : i = J := by omega
    subst this
    refine ⟨n, a1, a2, L, g, mi, ml, mr, ?_, h, Tr.rf⟩
    rw [wX3_receiveDue_10]
    simp only [wX3_receiveDue_0, wX3_receiveDue_1, wX3_receiveDue_4, wX3_receiveDue_7i, wX3_receiveDue_7r, wX3_receiveDue_7n, wX3_receiveDue_8, wX3_receiveDue_9i, wX3_receiveDue_9r, wX3_receiveDue_9n, wX3_receiveDue_11, wX3_receiveDue_12, wX3_receiveDue_15, wX3_receiveDue_16, wX3_receiveDue_17, wX3_receiveDue_20i, wX3_receiveDue_20r, wX3_receiveDue_20n, wX3_receiveDue_23, wX3_receiveDue_27, wX3_receiveDue_30, wX3_receiveDue_31, wX3_receiveDue_34, wX3_receiveDue_35, Int32.le_refl, if_true]
  | succ j ih =>
    intro i n a1 a2 L r q g mi ml mr hi h hR hJ
    have c1 : ¬ nI J ≤ nI i := nI_ge (by omega) (by omega)
    obtain ⟨m, e1, e2, e3, ⟨β', e4⟩, e5, e6⟩ := JG.due1 hJ hX hT hB
    obtain ⟨-, ⟨g2, g3, -, hD1, -⟩, G, n0, g6, g7, g8, -⟩ := id hJ
    have hn0 : n = n0 := (nI_eq (by have := h.2.2.2.1.2.2.1; have := h.2.1.2.2.2.2.2.2.2; omega) (by omega)).mp (h.2.2.2.1.1.symm.trans g6)
    have hn1 : 1 ≤ n0 := Nat.le_trans (show 1 ≤ j + 1 by omega) g7.1
    obtain ⟨gq, gk, -, -⟩ := g8.1 0 (by omega)
    have hmG : m = (G 0).1 := enc_inj e2 gk.ms (e1.symm.trans gq)
    obtain ⟨nn, rfl⟩ : ∃ nn, n = nn + 1 := ⟨n - 1, by omega⟩
    obtain ⟨m', z, k1, k2, k3, k4, k5, k6⟩ := h.2.2.2.2.1 0 (by omega)
    have hmm : m' = m := enc_inj k2 e2 (k1.symm.trans e1)
    subst hmm
    rw [Nat.add_zero] at k3 k4
    have h2 : r 2 = nI t := g2
    have hp := h.pop (by omega) (by rw [k3, e3, h2])
    have hcN : ∀ {i}, dec r 11 (cI i 0) = r (cI i 0) := fun {i} => u1_n (by have := cI_ge (n := i) (w := 0); omega)
    have hil : i < L := by have := h.2.2.2.1.2.2.1; omega
    obtain ⟨n2, d1, d2, L2, g2', m2, l2, r2', w1, w2, w3⟩ := c_receive (d := d) (ml := ml) (j := i) hp hR e4 (show t < t + D by omega) e5 hil e2 k5 k4 (fun h9 => ⟨k6 h9, by
      rw [hmG] at h9 ⊢
      exact (gk.2.2.2.2.2.2 h9).2.1, by
      rw [hcN, hmG]
      rw [hmG] at h9
      exact (gk.2.2.2.2.2.2 h9).2.2⟩)
    have hpv : pRv1 r q (q 0) = pRv (dec r 11) (popQ q (nM (dec r 11))) (1 - m'.2.1) m'.2.2.1 m'.2.2.2.1 m'.2.2.2.2.1 m'.2.2.2.2.2 := by rw [e1, pRv1_enc e2]
    rw [← hpv] at w2
    obtain ⟨n3, f1, f2, L3, g3', m3, l3, r3', x1, x2, x3⟩ := ih (i + 1) n2 d1 d2 L2 _ _ g2' m2 l2 r2' (by omega) w2 (hR.dd w3.2) e6
    refine ⟨n3, f1, f2, L3, g3', m3, l3, r3', ?_, x2, w3.tr x3⟩
    have k0 := h.1.1.1
    rw [wX3_receiveDue_10]
    simp only [wX3_receiveDue_0, wX3_receiveDue_1, wX3_receiveDue_4, wX3_receiveDue_7i, wX3_receiveDue_7r, wX3_receiveDue_7n, wX3_receiveDue_8, wX3_receiveDue_9i, wX3_receiveDue_9r, wX3_receiveDue_9n, wX3_receiveDue_11, wX3_receiveDue_12, wX3_receiveDue_15, wX3_receiveDue_16, wX3_receiveDue_17, wX3_receiveDue_20i, wX3_receiveDue_20r, wX3_receiveDue_20n, wX3_receiveDue_23, wX3_receiveDue_27, wX3_receiveDue_30, wX3_receiveDue_31, wX3_receiveDue_34, wX3_receiveDue_35, c1, if_false, k0, cs_0, cs_i, cs_r, w1, aR_v, nI_add]
    exact x1
/-- the messages that were received are dropped -/
theorem CS.drop (h : CS s off N n a1 a2 L r q g mi mr) : CS s 0 N n a1 a2 L r q g (M2 (u2 mi (s + 4) 5 (nI n)) a1 a2 (cpyI (mi a1) (mi a1) off 0 n) (cpyI (mi a2) (mi a2) off 0 n)) mr := by
  obtain ⟨h1, h2, ⟨h3, h5, h6⟩, ⟨h7, h8, h9, h9'⟩, h10, h11⟩ := h
  have h12 : ¬ a1 = a2 := h2.2.2.1.2.2.1
  have ho := fun {a} => h2.out (a := a)
  have hbl : ∀ {b f}, s ≤ b → b < s + 72 → ¬ b = s + 6 → ¬ b = s + 7 → ¬ (b = s + 4 ∧ f = 5) → M2 (u2 mi (s + 4) 5 (nI n)) a1 a2 (cpyI (mi a1) (mi a1) off 0 n) (cpyI (mi a2) (mi a2) off 0 n) b f = mi b f := fun {b f} hb hb2 hb6 hb7 hbf => by
    have hob := ho (a := b) hb hb2 hb6 hb7
    rw [M2_o (fun h => hob.1 h.symm) (fun h => hob.2 h.symm), u2_oth hbf]
  have hea : ∀ {e c f}, e < 2 → c < 12 → M2 (u2 mi (s + 4) 5 (nI n)) a1 a2 (cpyI (mi a1) (mi a1) off 0 n) (cpyI (mi a2) (mi a2) off 0 n) (eA s e c) f = mi (eA s e c) f := fun {e c f} he hc => hbl (by unfold eA; omega) (by unfold eA; omega) (by unfold eA; omega) (by unfold eA; omega) (by unfold eA; omega)
  refine ⟨h1, h2, ⟨fun j hk => ?_, fun e' c' he' hc' => ?_, fun e' c' he' hc' => ?_⟩, ⟨h7, ?_, by omega, by omega⟩, fun i hi => ?_, fun i hi => by omega⟩
  · obtain ⟨l1, l2, l3, -, -⟩ := lA_ok j hk.1
    rw [hbl (by omega) (by omega) (by omega) (by omega) (fun h9 => no45 j hk.1 hk.2.1 ⟨by omega, h9.2⟩)]
    exact h3 j hk
  · rw [hea he' hc']; exact h5 e' c' he' hc'
  · rw [hea he' hc', hea he' hc']; exact h6 e' c' he' hc'
  · have ho4 := ho (a := s + 4) (by omega) (by omega) (by omega) (by omega)
    rw [M2_o (fun h => ho4.1 h.symm) (fun h => ho4.2 h.symm), u2_at, Nat.zero_add]
  · rw [M2_1 h12, M2_2]
    unfold cpyI
    rw [if_pos (by omega), if_pos (by omega), show off + (0 + i - 0) = off + i by omega]
    exact h10 i hi
theorem c_drop (h : CS s off N n a1 a2 L r q g mi mr) (hT : Tr s b1 b2 L' g' mi' ml' mr' a1 a2 L g mi ml mr) : ∃ m2, callT (d + 2) mX2_dropFirst [.ref (s + 4), .int (nI off)] (g, mi, ml, mr) = some (.inl none, g, m2, ml, mr) ∧ CS s 0 N n a1 a2 L r q g m2 mr ∧ Tr s b1 b2 L' g' mi' ml' mr' a1 a2 L g m2 ml mr := by
  obtain ⟨⟨-, -, ⟨c12, -⟩, -, -⟩, ⟨⟨i6, i7⟩, ⟨i1, i2, i3, i4⟩, ⟨i8, i9, i10, i11, i12⟩, i13⟩, -, ⟨d6, d7, d8, d9⟩, -⟩ := id h
  rw [eX2_dropFirst]
  by_cases h0 : off = 0
  · subst h0
    refine ⟨mi, ?_, h, hT⟩
    simp only [wX2_dropFirst_0, wX2_dropFirst_1, wX2_dropFirst_4, wX2_dropFirst_5, wX2_dropFirst_6, wX2_dropFirst_7, wX2_dropFirst_10, wX2_dropFirst_11, wX2_dropFirst_12, wX2_dropFirst_15, wX2_dropFirst_16, wX2_dropFirst_19, wX2_dropFirst_20, wX2_dropFirst_21, wX2_dropFirst_24, wX2_dropFirst_25, wX2_dropFirst_26, wX2_dropFirst_29, wX2_dropFirst_32, wX2_dropFirst_33, wX2_dropFirst_36, wX2_dropFirst_37, wX2_dropFirst_38, wX2_dropFirst_41, wX2_dropFirst_42, wX2_dropFirst_43, wX2_dropFirst_46, wX2_dropFirst_49, if_true]
  · have n0 : ¬ nI off = nI 0 := fun h9 => h0 ((nI_eq (by omega) (by decide)).mp h9)
    have sb : nI (off + n) - nI off = nI n := by rw [pk_sub (by omega)]; congr 1; omega
    have ho4 := h.2.1.out (a := s + 4) (by omega) (by omega) (by omega) (by omega)
    have hsz : u2 mi (s + 4) 5 (nI n) (s + 4) 5 = nI n := u2_at
    have ha1 : u2 mi (s + 4) 5 (nI n) a1 = mi a1 := u2_row ho4.1
    have ha2 : u2 mi (s + 4) 5 (nI n) a2 = mi a2 := u2_row ho4.2
    have b1 : off + n ≤ L := d8
    have b2' : 0 + n ≤ L := by omega
    have b3 : off < 2147483648 := by omega
    have b4 : n < 2147483648 := by omega
    have hsz2 : r2 (u2 mi (s + 4) 5 (nI n)) a1 (cpyI (mi a1) (mi a1) off 0 n) (s + 4) = u2 mi (s + 4) 5 (nI n) (s + 4) := r2_n (fun h => ho4.1 h.symm)
    have ha22 : r2 (u2 mi (s + 4) 5 (nI n)) a1 (cpyI (mi a1) (mi a1) off 0 n) a2 = mi a2 := by rw [r2_n (fun h => i10 h.symm)]; exact ha2
    refine ⟨_, ?_, h.drop, ?_⟩
    · simp only [wX2_dropFirst_0, wX2_dropFirst_1, wX2_dropFirst_4, wX2_dropFirst_5, wX2_dropFirst_6, wX2_dropFirst_7, wX2_dropFirst_10, wX2_dropFirst_11, wX2_dropFirst_12, wX2_dropFirst_15, wX2_dropFirst_16, wX2_dropFirst_19, wX2_dropFirst_20, wX2_dropFirst_21, wX2_dropFirst_24, wX2_dropFirst_25, wX2_dropFirst_26, wX2_dropFirst_29, wX2_dropFirst_32, wX2_dropFirst_33, wX2_dropFirst_36, wX2_dropFirst_37, wX2_dropFirst_38, wX2_dropFirst_41, wX2_dropFirst_42, wX2_dropFirst_43, wX2_dropFirst_46, wX2_dropFirst_49, n0, if_false, c12, d7, sb, i6, i7, hsz, i1, i2, i3, i4, b1, b2', b3, b4, Nat.reduceLT, cs_0, cs_i, cs_r, ha1, hsz2, ha22]
      rfl
    · obtain ⟨⟨q1, q2, q3, q4⟩, q5⟩ := hT
      refine ⟨⟨fun a ha => ?_, q2, q3, q4⟩, q5⟩
      obtain ⟨w1, w2, w3, w4⟩ := q1 a ha
      refine ⟨w1, w2, w3, fun u1 u2' u3 => ?_⟩
      rw [M2_o (by omega) (by omega), u2_row (by omega)]
      exact w4 u1 u2' u3
theorem JG.arr (hJ : JG X β T A hh hb N t D r q) (h : CS s 0 N n a1 a2 L r q g mi mr) : A.2 ≤ n ∧ ∀ i, i < n → ∃ ar, ar < 1000000 ∧ mi a1 i = nI ar ∧ (i < A.2 → ar = A.1) ∧ (A.2 ≤ i → A.1 < ar) := by
  obtain ⟨-, -, G, n0, g6, g7, g8, -⟩ := hJ
  have hn0 : n = n0 := (nI_eq (by have := h.2.2.2.1.2.2.1; have := h.2.1.2.2.2.2.2.2.2; omega) (by omega)).mp (h.2.2.2.1.1.symm.trans g6)
  subst hn0
  refine ⟨g7.1, fun i hi => ?_⟩
  obtain ⟨gq, gk, ga, -⟩ := g8.1 i hi
  obtain ⟨m', z, k1, k2, k3, -⟩ := h.2.2.2.2.1 i hi
  have hmm : m' = (G i).1 := enc_inj k2 gk.ms (k1.symm.trans gq)
  rw [Nat.zero_add] at k3
  refine ⟨m'.1, k2.1, k3, ?_⟩
  rw [hmm]; exact ga
/-- all that is due -/
theorem c_due (h : CS s 0 N n a1 a2 L r q g mi mr) (hR : RmC L g) (hX : ∀ e c, X e c ≤ 1) (hT : ∀ y, T y < t) (hB : B ≤ 12012) (hJ : JG X (std B) T (t, J) hh hb N t D r q) : CRs s 0 N a1 a2 L g mi ml mr (callT (d + 8) mX3_receiveDue [.ref s] (g, mi, ml, mr)) (some (.int (nI J))) (pDue J (r, q)) := by
  obtain ⟨⟨⟨c1, -, -, c4, c5⟩, -, ⟨c12, -⟩, -, -⟩, -⟩ := id h
  obtain ⟨k1, k2⟩ := JG.arr hJ h
  have hn : n + 32 ≤ 12500 := h.nb (hJ.cap (std_cap hB))
  have hcd : callT (d + 7) mX2_countDue [.ref (s + 4)] (g, mi, ml, mr) = some (.inl (some (.int (nI J))), g, mi, ml, mr) := by
    rw [eX2_countDue]
    simp only [wX2_countDue_0, wX2_countDue_1i, wX2_countDue_1r, wX2_countDue_1n, wX2_countDue_3, wX2_countDue_4, wX2_countDue_7, wX2_countDue_10, wX2_countDue_11, wX2_countDue_14, wX2_countDue_15, wX2_countDue_16, wX2_countDue_17, wX2_countDue_20, wX2_countDue_23i, wX2_countDue_23r, wX2_countDue_23n, wX2_countDue_26, wX2_countDue_29, wX2_countDue_30]
    exact cd_loop h rfl hJ.2.1.1 (by have := hJ.2.1.2.1; omega) k1 k2 J 0 (by omega)
  obtain ⟨n2, d1, d2, L2, g2, m2, l2, r2', x1, x2, x3⟩ := due_loop (s := s) (d := d) hX hT hB (J := J) (by have : J ≤ n := k1; omega) J 0 n a1 a2 L r q g mi ml mr (by omega) h hR hJ
  obtain ⟨m3, y1, y2, y3⟩ := c_drop (d := d + 5) (ml := l2) x2 x3
  obtain ⟨⟨⟨c1', -, -, c4', c5'⟩, -, ⟨c12', -⟩, -, -⟩, -⟩ := id x2
  refine ⟨n2, d1, d2, L2, g2, m3, l2, r2', ?_, y2, y3⟩
  rw [eX3_receiveDue]
  simp only [wX3_receiveDue_0, wX3_receiveDue_1, wX3_receiveDue_4, wX3_receiveDue_7i, wX3_receiveDue_7r, wX3_receiveDue_7n, wX3_receiveDue_8, wX3_receiveDue_9i, wX3_receiveDue_9r, wX3_receiveDue_9n, wX3_receiveDue_11, wX3_receiveDue_12, wX3_receiveDue_15, wX3_receiveDue_16, wX3_receiveDue_17, wX3_receiveDue_20i, wX3_receiveDue_20r, wX3_receiveDue_20n, wX3_receiveDue_23, wX3_receiveDue_26, wX3_receiveDue_27, wX3_receiveDue_30, wX3_receiveDue_31, wX3_receiveDue_34, wX3_receiveDue_35, c1, c5, c12, cs_0, cs_i, cs_r, hcd, aR_1]
  rw [x1]
  simp only [wX3_receiveDue_0, wX3_receiveDue_1, wX3_receiveDue_4, wX3_receiveDue_7i, wX3_receiveDue_7r, wX3_receiveDue_7n, wX3_receiveDue_8, wX3_receiveDue_9i, wX3_receiveDue_9r, wX3_receiveDue_9n, wX3_receiveDue_11, wX3_receiveDue_12, wX3_receiveDue_15, wX3_receiveDue_16, wX3_receiveDue_17, wX3_receiveDue_20i, wX3_receiveDue_20r, wX3_receiveDue_20n, wX3_receiveDue_23, wX3_receiveDue_26, wX3_receiveDue_27, wX3_receiveDue_30, wX3_receiveDue_31, wX3_receiveDue_34, wX3_receiveDue_35, c1', c5', c12', cs_0, cs_i, cs_r, y1, aR_v]
end CDUE
